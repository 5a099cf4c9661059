/-! calls on versions -/
theorem rbl_r {V : Nat → VK} : ∀ {f v w d r : Nat}, rbl V f v = .inr (w, d, r) → r = 1 ∨ r = 2
  | 0, v, w, d, r, h => by
    cases h
    exact Or.inl rfl
  | f + 1, v, w, d, r, h => by
    unfold rbl at h
    split at h
    · cases h
      exact Or.inl rfl
    · cases h
    · split at h
      · split at h
        · cases h
        · cases h
          exact Or.inr rfl
      · cases h
        rename_i h9
        exact rbl_r h9
theorem RX.of2 {α : Type} {G : AG} {M M' : AM} {x D k : Nat} {sp : Nat × α × TS} {r : α} {τ : TS} {c : Nat → String} {E : String} (e : sp = (k, r, τ)) (h0 : 0 < k) (hE : E = c k) (h : isRS G M' x D τ) (hk : KE M M' (fun q => (x ≤ q ∧ q < x + 271) ∨ D ≤ q)) : RX G M x D sp c E M' := by
  subst e
  exact ⟨h0, hE, h, hk⟩
theorem c_X8_checkNotBroken {l : Launch} {G : AG} {M : AM} {x D v : Nat} {τ : TS} (hfl : l.stackTraces = false) (hs : isRS G M x D τ) (hv0 : v < tN τ) : Cx l G yX8_checkNotBroken cX8_checkNotBroken 2 none { rX8_checkNotBroken with cells := 1, slots := 6 } M [.ref x, .int (nI v)] (fun o M' => o = none ∧ isRS G M' x D τ ∧ (∃ rb ch w aw y, rbv τ.2.2.2.1.2 v = .inl rb ∧ isAr G M' (x + 6) (tN τ) τ.2.2.2.1.2 w aw y rb ch) ∧ KE M M' (fun q => x + 6 ≤ q ∧ q < x + 196)) (fun E M' => E = exS ∧ isRS G M' x D τ ∧ (∃ z, rbv τ.2.2.2.1.2 v = .inr z) ∧ KE M M' (fun q => x + 6 ≤ q ∧ q < x + 196)) := by
  obtain ⟨w, aw, y, rb, ch, har⟩ := hs.2.2.2.2.2.2.2.1
  refine Cx.of (by decide) [some (.ref x), some (.int (nI v))] rfl (Nat.le_of_ble_eq_true rfl) ?_
  intro Z hZ hT
  obtain ⟨rfl, hn, rfl, hR, X, hr, hnm⟩ := hZ
  refine aw_aload0 X dX8_checkNotBroken_0 ?_
  refine aw_get X fX8_35 dX8_checkNotBroken_1 (hs.at) rfl ?_
  refine aw_iload1 X dX8_checkNotBroken_4 ?_
  refine aw_callV X (c_X0_putTogether har hv0) kX8_190 (ci := 1) rfl (har.at) dX8_checkNotBroken_5 rfl rfl (by first | decide | exact Nat.le_of_ble_eq_true rfl) (by rw [hR]; exact ⟨by first | decide | exact Nat.le_of_ble_eq_true rfl | (dsimp only; omega), by first | decide | exact Nat.le_of_ble_eq_true rfl | (dsimp only; omega)⟩) (by rw [hR]; exact ⟨by first | decide | exact Nat.le_of_ble_eq_true rfl | (dsimp only; omega), by first | decide | exact Nat.le_of_ble_eq_true rfl | (dsimp only; omega)⟩) (fun o M1 hv => ?_)
  obtain ⟨⟨rb1, ch1, har1, hrb⟩, hout, rfl⟩ := hv
  have hs1 : isRS (zG Z) M1 x D τ := hs.arch har1 ((KE.out hout).mono (fun q e => by omega))
  have hk1 : KE M M1 (fun q => x + 6 ≤ q ∧ q < x + 196) := (KE.out hout).mono (fun q e => by omega)
  refine aw_aload0 X dX8_checkNotBroken_8 ?_
  refine aw_get X fX8_35 dX8_checkNotBroken_9 (hs1.at) rfl ?_
  refine aw_get X fX8_199 dX8_checkNotBroken_12 (har1.at) rfl ?_
  refine aw_iconst X dX8_checkNotBroken_15 (v := -1) (by decide) ?_
  refine aw_icmpeq X dX8_checkNotBroken_16 (tgt := 30) (by decide) (fun c => ?_) (fun c => ?_)
  · refine aw_widen (k' := 1) (n' := 6) (Nat.le_of_ble_eq_true rfl) (Nat.le_of_ble_eq_true rfl) ?_
    refine aw_vreturn X hr dX8_checkNotBroken_30 (⟨rfl, hs1, ?_, hk1⟩)
    cases hr9 : rbv τ.2.2.2.1.2 v with
    | inl b => exact ⟨rb1, ch1, _, _, _, by rw [hrb b hr9], har1⟩
    | inr z =>
      obtain ⟨w9, d9, r9⟩ := z
      have h9 := rbl_r hr9
      have h8 : nI r9 = -1 := by
        have := c
        rw [hr9] at this
        exact this
      rcases h9 with e | e
      · rw [e] at h8
        exact absurd h8 (by decide)
      · rw [e] at h8
        exact absurd h8 (by decide)
  · refine aw_throwW X hfl th_ISE (text := "the version is broken") (by decide) dX8_checkNotBroken_19 dX8_checkNotBroken_22 dX8_checkNotBroken_23 dX8_checkNotBroken_26 dX8_checkNotBroken_29 hT (by rw [hR]; exact Nat.le_of_ble_eq_true rfl) (by rw [hR]; exact Nat.le_of_ble_eq_true rfl) (by rw [hR]; exact Nat.le_of_ble_eq_true rfl) (by rw [hR]; exact Nat.le_of_ble_eq_true rfl) (Nat.le_of_ble_eq_true rfl) (Nat.le_of_ble_eq_true rfl) (⟨rfl, hs1.fg, ?_, fun q y hq he => hk1 q y hq he⟩)
    cases hr9 : rbv τ.2.2.2.1.2 v with
    | inl b => exact absurd (by rw [hr9]; rfl) c
    | inr z => exact ⟨z, rfl⟩
theorem c_X8_versions {l : Launch} {G : AG} {M : AM} {x D : Nat} {τ : TS} (hs : isRS G M x D τ) : Cn l G yX8_versions cX8_versions 1 (some .int) rX8_versions M [.ref x] (RP Value.int G M x D (spVersions τ)) := by
  obtain ⟨w, aw, y, rb, ch, har⟩ := hs.2.2.2.2.2.2.2.1
  refine Cn.of (by decide) [some (.ref x)] rfl (Nat.le_of_ble_eq_true rfl) ?_
  intro Z hZ
  obtain ⟨rfl, hn, rfl, hR, X, hr, hnm⟩ := hZ
  refine aw_aload0 X dX8_versions_0 ?_
  refine aw_get X fX8_35 dX8_versions_1 (hs.at) rfl ?_
  refine aw_get X fX8_164 dX8_versions_4 (har.at) rfl ?_
  refine aw_ireturn X (ty := .int) hr (by first | rfl | decide | assumption) dX8_versions_7 (RP.of rfl hs KE.rf)
theorem c_X8_brokenAt {l : Launch} {G : AG} {M : AM} {x D : Nat} {τ : TS} {v : Int32} (hfl : l.stackTraces = false) (hs : isRS G M x D τ) : Cx l G yX8_brokenAt cX8_brokenAt 2 (some .int) { rX8_brokenAt with cells := 1, slots := 6 } M [.ref x, .int v] (RP Value.int G M x D (spBrAt τ v)) (RX G M x D (spBrAt τ v) ecI) := by
  have hn6 := hs.1
  obtain ⟨fa, fa1, fa2⟩ := hs.2.2.2.1
  obtain ⟨sa, sa1, sa2⟩ := hs.2.2.2.2.1
  obtain ⟨da, da1, da2⟩ := hs.2.2.2.2.2.1
  obtain ⟨w, aw, y, rb, ch, har⟩ := hs.2.2.2.2.2.2.2.1
  obtain ⟨hn20, hV, kp, sg9, nx, a1, a2, a3, a4, a5, a6, a7, a8⟩ := id har
  refine Cx.of (by decide) [some (.ref x), some (.int v)] rfl (Nat.le_of_ble_eq_true rfl) ?_
  intro Z hZ hT
  obtain ⟨rfl, hn, rfl, hR, X, hr, hnm⟩ := hZ
  refine aw_iload1 X dX8_brokenAt_0 ?_
  refine aw_aload0 X dX8_brokenAt_1 ?_
  refine aw_get X fX8_35 dX8_brokenAt_2 (hs.at) rfl ?_
  refine aw_get X fX8_164 dX8_brokenAt_5 (har.at) rfl ?_
  refine aw_callSX X (c_X8_checkIndex hfl) kX8_75 dX8_brokenAt_8 rfl rfl (by first | decide | exact Nat.le_of_ble_eq_true rfl) (by rw [hR]; exact ⟨by first | decide | exact Nat.le_of_ble_eq_true rfl | (dsimp only; omega), by first | decide | exact Nat.le_of_ble_eq_true rfl | (dsimp only; omega)⟩) (by rw [hR]; exact ⟨by first | decide | exact Nat.le_of_ble_eq_true rfl | (dsimp only; omega), by first | decide | exact Nat.le_of_ble_eq_true rfl | (dsimp only; omega)⟩) (fun o M1 hv => ?_) (fun E M1 h1 => ?_)
  · obtain ⟨rfl, rfl, h1⟩ := hv
    have h1 : inI v (tN τ) := h1
    have hn20 : tN τ ≤ 20 := hn20
    obtain ⟨j1, j2, j3⟩ := inI_j h1 (by omega)
    have e2 : (Value.int v) = .int (nI (ix v)) := congrArg Value.int j2
    refine aw_aload0 X dX8_brokenAt_11 ?_
    refine aw_get X fX8_35 dX8_brokenAt_12 (hs.at) rfl ?_
    refine aw_iload1 X dX8_brokenAt_15 ?_
    rw [e2]
    refine aw_callV X (c_X0_putTogether har j1) kX8_190 (ci := 1) rfl (har.at) dX8_brokenAt_16 rfl rfl (by first | decide | exact Nat.le_of_ble_eq_true rfl) (by rw [hR]; exact ⟨by first | decide | exact Nat.le_of_ble_eq_true rfl | (dsimp only; omega), by first | decide | exact Nat.le_of_ble_eq_true rfl | (dsimp only; omega)⟩) (by rw [hR]; exact ⟨by first | decide | exact Nat.le_of_ble_eq_true rfl | (dsimp only; omega), by first | decide | exact Nat.le_of_ble_eq_true rfl | (dsimp only; omega)⟩) (fun o M2 hv => ?_)
    obtain ⟨⟨rb1, ch1, har1, hrb⟩, hout, rfl⟩ := hv
    have hs1 : isRS (zG Z) M2 x D τ := hs.arch har1 ((KE.out hout).mono (fun q e => by omega))
    refine aw_aload0 X dX8_brokenAt_19 ?_
    refine aw_get X fX8_35 dX8_brokenAt_20 (hs1.at) rfl ?_
    refine aw_get X fX8_193 dX8_brokenAt_23 (har1.at) rfl ?_
    refine aw_ireturn X (ty := .int) hr (by first | rfl | decide | assumption) dX8_brokenAt_26 (RP.of (by rw [spBrAt, if_pos h1]) hs1 ((KE.out hout).mono (fun q e => by omega)))
  · obtain ⟨e1, e2, e3⟩ := h1
    refine ax_out X hT (Nat.le_of_ble_eq_true rfl) (Nat.le_of_ble_eq_true rfl) (RX.of (k := 1) (by rw [spBrAt, if_neg e3]) (by decide) e1 hs e2)
theorem c_X8_brokenAfter {l : Launch} {G : AG} {M : AM} {x D : Nat} {τ : TS} {v : Int32} (hfl : l.stackTraces = false) (hs : isRS G M x D τ) : Cx l G yX8_brokenAfter cX8_brokenAfter 2 (some .int) { rX8_brokenAfter with cells := 1, slots := 6 } M [.ref x, .int v] (RP Value.int G M x D (spBrAfter τ v)) (RX G M x D (spBrAfter τ v) ecI) := by
  have hn6 := hs.1
  obtain ⟨fa, fa1, fa2⟩ := hs.2.2.2.1
  obtain ⟨sa, sa1, sa2⟩ := hs.2.2.2.2.1
  obtain ⟨da, da1, da2⟩ := hs.2.2.2.2.2.1
  obtain ⟨w, aw, y, rb, ch, har⟩ := hs.2.2.2.2.2.2.2.1
  obtain ⟨hn20, hV, kp, sg9, nx, a1, a2, a3, a4, a5, a6, a7, a8⟩ := id har
  refine Cx.of (by decide) [some (.ref x), some (.int v)] rfl (Nat.le_of_ble_eq_true rfl) ?_
  intro Z hZ hT
  obtain ⟨rfl, hn, rfl, hR, X, hr, hnm⟩ := hZ
  refine aw_iload1 X dX8_brokenAfter_0 ?_
  refine aw_aload0 X dX8_brokenAfter_1 ?_
  refine aw_get X fX8_35 dX8_brokenAfter_2 (hs.at) rfl ?_
  refine aw_get X fX8_164 dX8_brokenAfter_5 (har.at) rfl ?_
  refine aw_callSX X (c_X8_checkIndex hfl) kX8_75 dX8_brokenAfter_8 rfl rfl (by first | decide | exact Nat.le_of_ble_eq_true rfl) (by rw [hR]; exact ⟨by first | decide | exact Nat.le_of_ble_eq_true rfl | (dsimp only; omega), by first | decide | exact Nat.le_of_ble_eq_true rfl | (dsimp only; omega)⟩) (by rw [hR]; exact ⟨by first | decide | exact Nat.le_of_ble_eq_true rfl | (dsimp only; omega), by first | decide | exact Nat.le_of_ble_eq_true rfl | (dsimp only; omega)⟩) (fun o M1 hv => ?_) (fun E M1 h1 => ?_)
  · obtain ⟨rfl, rfl, h1⟩ := hv
    have h1 : inI v (tN τ) := h1
    have hn20 : tN τ ≤ 20 := hn20
    obtain ⟨j1, j2, j3⟩ := inI_j h1 (by omega)
    have e2 : (Value.int v) = .int (nI (ix v)) := congrArg Value.int j2
    refine aw_aload0 X dX8_brokenAfter_11 ?_
    refine aw_get X fX8_35 dX8_brokenAfter_12 (hs.at) rfl ?_
    refine aw_iload1 X dX8_brokenAfter_15 ?_
    rw [e2]
    refine aw_callV X (c_X0_putTogether har j1) kX8_190 (ci := 1) rfl (har.at) dX8_brokenAfter_16 rfl rfl (by first | decide | exact Nat.le_of_ble_eq_true rfl) (by rw [hR]; exact ⟨by first | decide | exact Nat.le_of_ble_eq_true rfl | (dsimp only; omega), by first | decide | exact Nat.le_of_ble_eq_true rfl | (dsimp only; omega)⟩) (by rw [hR]; exact ⟨by first | decide | exact Nat.le_of_ble_eq_true rfl | (dsimp only; omega), by first | decide | exact Nat.le_of_ble_eq_true rfl | (dsimp only; omega)⟩) (fun o M2 hv => ?_)
    obtain ⟨⟨rb1, ch1, har1, hrb⟩, hout, rfl⟩ := hv
    have hs1 : isRS (zG Z) M2 x D τ := hs.arch har1 ((KE.out hout).mono (fun q e => by omega))
    refine aw_aload0 X dX8_brokenAfter_19 ?_
    refine aw_get X fX8_35 dX8_brokenAfter_20 (hs1.at) rfl ?_
    refine aw_get X fX8_196 dX8_brokenAfter_23 (har1.at) rfl ?_
    refine aw_ireturn X (ty := .int) hr (by first | rfl | decide | assumption) dX8_brokenAfter_26 (RP.of (by rw [spBrAfter, if_pos h1]) hs1 ((KE.out hout).mono (fun q e => by omega)))
  · obtain ⟨e1, e2, e3⟩ := h1
    refine ax_out X hT (Nat.le_of_ble_eq_true rfl) (Nat.le_of_ble_eq_true rfl) (RX.of (k := 1) (by rw [spBrAfter, if_neg e3]) (by decide) e1 hs e2)
theorem c_X8_reason {l : Launch} {G : AG} {M : AM} {x D : Nat} {τ : TS} {v : Int32} (hfl : l.stackTraces = false) (hs : isRS G M x D τ) : Cx l G yX8_reason cX8_reason 2 (some .int) { rX8_reason with cells := 1, slots := 6 } M [.ref x, .int v] (RP Value.int G M x D (spReason τ v)) (RX G M x D (spReason τ v) ecI) := by
  have hn6 := hs.1
  obtain ⟨fa, fa1, fa2⟩ := hs.2.2.2.1
  obtain ⟨sa, sa1, sa2⟩ := hs.2.2.2.2.1
  obtain ⟨da, da1, da2⟩ := hs.2.2.2.2.2.1
  obtain ⟨w, aw, y, rb, ch, har⟩ := hs.2.2.2.2.2.2.2.1
  obtain ⟨hn20, hV, kp, sg9, nx, a1, a2, a3, a4, a5, a6, a7, a8⟩ := id har
  refine Cx.of (by decide) [some (.ref x), some (.int v)] rfl (Nat.le_of_ble_eq_true rfl) ?_
  intro Z hZ hT
  obtain ⟨rfl, hn, rfl, hR, X, hr, hnm⟩ := hZ
  refine aw_iload1 X dX8_reason_0 ?_
  refine aw_aload0 X dX8_reason_1 ?_
  refine aw_get X fX8_35 dX8_reason_2 (hs.at) rfl ?_
  refine aw_get X fX8_164 dX8_reason_5 (har.at) rfl ?_
  refine aw_callSX X (c_X8_checkIndex hfl) kX8_75 dX8_reason_8 rfl rfl (by first | decide | exact Nat.le_of_ble_eq_true rfl) (by rw [hR]; exact ⟨by first | decide | exact Nat.le_of_ble_eq_true rfl | (dsimp only; omega), by first | decide | exact Nat.le_of_ble_eq_true rfl | (dsimp only; omega)⟩) (by rw [hR]; exact ⟨by first | decide | exact Nat.le_of_ble_eq_true rfl | (dsimp only; omega), by first | decide | exact Nat.le_of_ble_eq_true rfl | (dsimp only; omega)⟩) (fun o M1 hv => ?_) (fun E M1 h1 => ?_)
  · obtain ⟨rfl, rfl, h1⟩ := hv
    have h1 : inI v (tN τ) := h1
    have hn20 : tN τ ≤ 20 := hn20
    obtain ⟨j1, j2, j3⟩ := inI_j h1 (by omega)
    have e2 : (Value.int v) = .int (nI (ix v)) := congrArg Value.int j2
    refine aw_aload0 X dX8_reason_11 ?_
    refine aw_get X fX8_35 dX8_reason_12 (hs.at) rfl ?_
    refine aw_iload1 X dX8_reason_15 ?_
    rw [e2]
    refine aw_callV X (c_X0_putTogether har j1) kX8_190 (ci := 1) rfl (har.at) dX8_reason_16 rfl rfl (by first | decide | exact Nat.le_of_ble_eq_true rfl) (by rw [hR]; exact ⟨by first | decide | exact Nat.le_of_ble_eq_true rfl | (dsimp only; omega), by first | decide | exact Nat.le_of_ble_eq_true rfl | (dsimp only; omega)⟩) (by rw [hR]; exact ⟨by first | decide | exact Nat.le_of_ble_eq_true rfl | (dsimp only; omega), by first | decide | exact Nat.le_of_ble_eq_true rfl | (dsimp only; omega)⟩) (fun o M2 hv => ?_)
    obtain ⟨⟨rb1, ch1, har1, hrb⟩, hout, rfl⟩ := hv
    have hs1 : isRS (zG Z) M2 x D τ := hs.arch har1 ((KE.out hout).mono (fun q e => by omega))
    refine aw_aload0 X dX8_reason_19 ?_
    refine aw_get X fX8_35 dX8_reason_20 (hs1.at) rfl ?_
    refine aw_get X fX8_199 dX8_reason_23 (har1.at) rfl ?_
    refine aw_ireturn X (ty := .int) hr (by first | rfl | decide | assumption) dX8_reason_26 (RP.of (by rw [spReason, if_pos h1]) hs1 ((KE.out hout).mono (fun q e => by omega)))
  · obtain ⟨e1, e2, e3⟩ := h1
    refine ax_out X hT (Nat.le_of_ble_eq_true rfl) (Nat.le_of_ble_eq_true rfl) (RX.of (k := 1) (by rw [spReason, if_neg e3]) (by decide) e1 hs e2)
theorem c_X8_heldBy {l : Launch} {G : AG} {M : AM} {x D : Nat} {τ : TS} {v : Int32} (hfl : l.stackTraces = false) (hs : isRS G M x D τ) : Cx l G yX8_heldBy cX8_heldBy 2 (some .int) { rX8_heldBy with cells := 1, slots := 6 } M [.ref x, .int v] (RP Value.int G M x D (spHeldBy τ v)) (RX G M x D (spHeldBy τ v) ecI) := by
  have hn6 := hs.1
  obtain ⟨fa, fa1, fa2⟩ := hs.2.2.2.1
  obtain ⟨sa, sa1, sa2⟩ := hs.2.2.2.2.1
  obtain ⟨da, da1, da2⟩ := hs.2.2.2.2.2.1
  obtain ⟨w, aw, y, rb, ch, har⟩ := hs.2.2.2.2.2.2.2.1
  obtain ⟨hn20, hV, kp, sg9, nx, a1, a2, a3, a4, a5, a6, a7, a8⟩ := id har
  refine Cx.of (by decide) [some (.ref x), some (.int v)] rfl (Nat.le_of_ble_eq_true rfl) ?_
  intro Z hZ hT
  obtain ⟨rfl, hn, rfl, hR, X, hr, hnm⟩ := hZ
  refine aw_iload1 X dX8_heldBy_0 ?_
  refine aw_aload0 X dX8_heldBy_1 ?_
  refine aw_get X fX8_35 dX8_heldBy_2 (hs.at) rfl ?_
  refine aw_get X fX8_164 dX8_heldBy_5 (har.at) rfl ?_
  refine aw_callSX X (c_X8_checkIndex hfl) kX8_75 dX8_heldBy_8 rfl rfl (by first | decide | exact Nat.le_of_ble_eq_true rfl) (by rw [hR]; exact ⟨by first | decide | exact Nat.le_of_ble_eq_true rfl | (dsimp only; omega), by first | decide | exact Nat.le_of_ble_eq_true rfl | (dsimp only; omega)⟩) (by rw [hR]; exact ⟨by first | decide | exact Nat.le_of_ble_eq_true rfl | (dsimp only; omega), by first | decide | exact Nat.le_of_ble_eq_true rfl | (dsimp only; omega)⟩) (fun o M1 hv => ?_) (fun E M1 h1 => ?_)
  · obtain ⟨rfl, rfl, h1⟩ := hv
    have h1 : inI v (tN τ) := h1
    have hn20 : tN τ ≤ 20 := hn20
    obtain ⟨j1, j2, j3⟩ := inI_j h1 (by omega)
    have hver := a8 (ix v) (by omega)
    obtain ⟨kd9, bb9, bs9, D9, w9, -⟩ := id hver
    refine aw_aload0 X dX8_heldBy_11 ?_
    refine aw_get X fX8_35 dX8_heldBy_12 (hs.at) rfl ?_
    refine aw_get X fX8_172 dX8_heldBy_15 (har.at) rfl ?_
    refine aw_iload1 X dX8_heldBy_18 ?_
    refine aw_aald X at_6 dX8_heldBy_19 a2 j2 (by omega) (by decide) ?_
    refine aw_rf (a3 _ (by omega)) ?_
    refine aw_callV X (c_X7_holds hver) kX8_176 (ci := 8) rfl (w9) dX8_heldBy_20 rfl rfl (by first | decide | exact Nat.le_of_ble_eq_true rfl) (by rw [hR]; exact ⟨by first | decide | exact Nat.le_of_ble_eq_true rfl | (dsimp only; omega), by first | decide | exact Nat.le_of_ble_eq_true rfl | (dsimp only; omega)⟩) (by rw [hR]; exact ⟨by first | decide | exact Nat.le_of_ble_eq_true rfl | (dsimp only; omega), by first | decide | exact Nat.le_of_ble_eq_true rfl | (dsimp only; omega)⟩) (fun o M2 hv => ?_)
    obtain ⟨rfl, rfl⟩ := hv
    refine aw_ireturn X (ty := .int) hr (by first | rfl | decide | assumption) dX8_heldBy_23 (RP.of (by rw [spHeldBy, if_pos h1]) hs KE.rf)
  · obtain ⟨e1, e2, e3⟩ := h1
    refine ax_out X hT (Nat.le_of_ble_eq_true rfl) (Nat.le_of_ble_eq_true rfl) (RX.of (k := 1) (by rw [spHeldBy, if_neg e3]) (by decide) e1 hs e2)
theorem c_X8_lose {l : Launch} {G : AG} {M : AM} {x D : Nat} {τ : TS} {v : Int32} (hfl : l.stackTraces = false) (hs : isRS G M x D τ) : Cx l G yX8_lose cX8_lose 3 (some .int) { rX8_lose with cells := 1, slots := 6 } M [.ref x, .int v] (RP Value.int G M x D (spLose τ v)) (RX G M x D (spLose τ v) ecI) := by
  have hn6 := hs.1
  obtain ⟨fa, fa1, fa2⟩ := hs.2.2.2.1
  obtain ⟨sa, sa1, sa2⟩ := hs.2.2.2.2.1
  obtain ⟨da, da1, da2⟩ := hs.2.2.2.2.2.1
  obtain ⟨w, aw, y, rb, ch, har⟩ := hs.2.2.2.2.2.2.2.1
  obtain ⟨hn20, hV, kp, sg9, nx, a1, a2, a3, a4, a5, a6, a7, a8⟩ := id har
  refine Cx.of (by decide) [some (.ref x), some (.int v), none] rfl (Nat.le_of_ble_eq_true rfl) ?_
  intro Z hZ hT
  obtain ⟨rfl, hn, rfl, hR, X, hr, hnm⟩ := hZ
  refine aw_iload1 X dX8_lose_0 ?_
  refine aw_aload0 X dX8_lose_1 ?_
  refine aw_get X fX8_35 dX8_lose_2 (hs.at) rfl ?_
  refine aw_get X fX8_164 dX8_lose_5 (har.at) rfl ?_
  refine aw_callSX X (c_X8_checkIndex hfl) kX8_75 dX8_lose_8 rfl rfl (by first | decide | exact Nat.le_of_ble_eq_true rfl) (by rw [hR]; exact ⟨by first | decide | exact Nat.le_of_ble_eq_true rfl | (dsimp only; omega), by first | decide | exact Nat.le_of_ble_eq_true rfl | (dsimp only; omega)⟩) (by rw [hR]; exact ⟨by first | decide | exact Nat.le_of_ble_eq_true rfl | (dsimp only; omega), by first | decide | exact Nat.le_of_ble_eq_true rfl | (dsimp only; omega)⟩) (fun o M1 hv => ?_) (fun E M1 h1 => ?_)
  · obtain ⟨rfl, rfl, h1⟩ := hv
    have h1 : inI v (tN τ) := h1
    have hn20 : tN τ ≤ 20 := hn20
    obtain ⟨j1, j2, j3⟩ := inI_j h1 (by omega)
    have hver := a8 (ix v) (by omega)
    obtain ⟨kd9, bb9, bs9, D9, w9, v1, v2, v3⟩ := id hver
    refine aw_aload0 X dX8_lose_11 ?_
    refine aw_get X fX8_35 dX8_lose_12 (hs.at) rfl ?_
    refine aw_get X fX8_172 dX8_lose_15 (har.at) rfl ?_
    refine aw_iload1 X dX8_lose_18 ?_
    refine aw_aald X at_6 dX8_lose_19 a2 j2 (by omega) (by decide) ?_
    refine aw_rf (a3 _ (by omega)) ?_
    refine aw_callV X (c_X7_holds hver) kX8_176 (ci := 8) rfl (w9) dX8_lose_20 rfl rfl (by first | decide | exact Nat.le_of_ble_eq_true rfl) (by rw [hR]; exact ⟨by first | decide | exact Nat.le_of_ble_eq_true rfl | (dsimp only; omega), by first | decide | exact Nat.le_of_ble_eq_true rfl | (dsimp only; omega)⟩) (by rw [hR]; exact ⟨by first | decide | exact Nat.le_of_ble_eq_true rfl | (dsimp only; omega), by first | decide | exact Nat.le_of_ble_eq_true rfl | (dsimp only; omega)⟩) (fun o M2 hv => ?_)
    obtain ⟨rfl, rfl⟩ := hv
    refine aw_istore2 X dX8_lose_23 (by rw [hn]; decide) rfl ?_
    refine aw_aload0 X dX8_lose_24 ?_
    refine aw_get X fX8_35 dX8_lose_25 (hs.at) rfl ?_
    refine aw_get X fX8_172 dX8_lose_28 (har.at) rfl ?_
    refine aw_iload1 X dX8_lose_31 ?_
    refine aw_aald X at_6 dX8_lose_32 a2 j2 (by omega) (by decide) ?_
    refine aw_rf (a3 _ (by omega)) ?_
    refine aw_iconst X dX8_lose_33 (v := nI 2) (by decide) ?_
    refine aw_put2 X pX8_181 dX8_lose_34 (w9) rfl rfl ?_
    refine aw_iload2 X dX8_lose_37 ?_
    have hup : am_out M2 (am_up M2 (x + 6 + 10 + 9 * ix v) (am_o 8 [.ref (x + 6 + 10 + 9 * ix v + 1), .ref (x + 6 + 10 + 9 * ix v + 3), .int (nI 2), .int bb9])) (x + 6 + 10 + 9 * ix v) (x + 6 + 10 + 9 * ix v + 1) := am_out.up (by omega) (by omega)
    have hw : isVer (zG Z) (am_up M2 (x + 6 + 10 + 9 * ix v) (am_o 8 [.ref (x + 6 + 10 + 9 * ix v + 1), .ref (x + 6 + 10 + 9 * ix v + 3), .int (nI 2), .int bb9])) (x + 6 + 10 + 9 * ix v) none := ⟨_, _, _, _, am_us, v1.out hup (by omega), v2.out hup (by omega), rfl⟩
    have har2 := har.put (by omega) (hup.wd (by omega) (by omega)) hw (fun b D e => by cases e)
    refine aw_ireturn X (ty := .int) hr (by first | rfl | decide | assumption) dX8_lose_38 (RP.of (by rw [spLose, if_pos h1]) (hs.arch har2 ((KE.out hup).mono (fun q e => by omega))) ((KE.out hup).mono (fun q e => by omega)))
  · obtain ⟨e1, e2, e3⟩ := h1
    refine ax_out X hT (Nat.le_of_ble_eq_true rfl) (Nat.le_of_ble_eq_true rfl) (RX.of (k := 1) (by rw [spLose, if_neg e3]) (by decide) e1 hs e2)
theorem c_X8_replace {l : Launch} {G : AG} {M : AM} {x D : Nat} {τ : TS} {v f : Int32} (hfl : l.stackTraces = false) (hs : isRS G M x D τ) : Cx l G yX8_replace cX8_replace 3 none { rX8_replace with cells := 2, slots := 12 } M [.ref x, .int v, .int f] (RPv G M x D (spReplace τ v f)) (RX G M x D (spReplace τ v f) ecI) := by
  have hn6 := hs.1
  obtain ⟨fa, fa1, fa2⟩ := hs.2.2.2.1
  obtain ⟨sa, sa1, sa2⟩ := hs.2.2.2.2.1
  obtain ⟨da, da1, da2⟩ := hs.2.2.2.2.2.1
  obtain ⟨w, aw, y, rb, ch, har⟩ := hs.2.2.2.2.2.2.2.1
  obtain ⟨hn20, hV, kp, sg9, nx, a1, a2, a3, a4, a5, a6, a7, a8⟩ := id har
  refine Cx.of (by decide) [some (.ref x), some (.int v), some (.int f)] rfl (Nat.le_of_ble_eq_true rfl) ?_
  intro Z hZ hT
  obtain ⟨rfl, hn, rfl, hR, X, hr, hnm⟩ := hZ
  refine aw_iload1 X dX8_replace_0 ?_
  refine aw_aload0 X dX8_replace_1 ?_
  refine aw_get X fX8_35 dX8_replace_2 (hs.at) rfl ?_
  refine aw_get X fX8_164 dX8_replace_5 (har.at) rfl ?_
  refine aw_callSX X (c_X8_checkIndex hfl) kX8_75 dX8_replace_8 rfl rfl (by first | decide | exact Nat.le_of_ble_eq_true rfl) (by rw [hR]; exact ⟨by first | decide | exact Nat.le_of_ble_eq_true rfl | (dsimp only; omega), by first | decide | exact Nat.le_of_ble_eq_true rfl | (dsimp only; omega)⟩) (by rw [hR]; exact ⟨by first | decide | exact Nat.le_of_ble_eq_true rfl | (dsimp only; omega), by first | decide | exact Nat.le_of_ble_eq_true rfl | (dsimp only; omega)⟩) (fun o M1 hv => ?_) (fun E M1 h1 => ?_)
  · obtain ⟨rfl, rfl, h1⟩ := hv
    have h1 : inI v (tN τ) := h1
    have hn20 : tN τ ≤ 20 := hn20
    obtain ⟨j1, j2, j3⟩ := inI_j h1 (by omega)
    refine aw_aload0 X dX8_replace_11 ?_
    refine aw_iload2 X dX8_replace_12 ?_
    refine aw_callVX X (c_X8_checkFile hfl hs) kX8_59 (ci := 9) rfl (hs.at) dX8_replace_13 rfl rfl (by first | decide | exact Nat.le_of_ble_eq_true rfl) (by rw [hR]; exact ⟨by first | decide | exact Nat.le_of_ble_eq_true rfl | (dsimp only; omega), by first | decide | exact Nat.le_of_ble_eq_true rfl | (dsimp only; omega)⟩) (by rw [hR]; exact ⟨by first | decide | exact Nat.le_of_ble_eq_true rfl | (dsimp only; omega), by first | decide | exact Nat.le_of_ble_eq_true rfl | (dsimp only; omega)⟩) (fun o M2 hv => ?_) (fun E M1 h1 => ?_)
    · obtain ⟨rfl, rfl, h2⟩ := hv
      obtain ⟨k1, k2, k3⟩ := inI_j h2 (by omega)
      have hrow : isRow (zG Z) M2 (x + 223 + 2 * ix f) (tF τ f) := hs.2.2.2.2.2.2.2.2.2.1 (ix f) (by omega)
      have hver := a8 (ix v) (by omega)
      obtain ⟨kd9, bb9, bs9, D9, w9, v1, v2, v3⟩ := id hver
      refine aw_aload0 X dX8_replace_16 ?_
      refine aw_get X fX8_35 dX8_replace_17 (hs.at) rfl ?_
      refine aw_get X fX8_172 dX8_replace_20 (har.at) rfl ?_
      refine aw_iload1 X dX8_replace_23 ?_
      refine aw_aald X at_6 dX8_replace_24 a2 j2 (by omega) (by decide) ?_
      refine aw_rf (a3 _ (by omega)) ?_
      refine aw_aload0 X dX8_replace_25 ?_
      refine aw_get X fX8_11 dX8_replace_26 (hs.at) rfl ?_
      refine aw_iload2 X dX8_replace_29 ?_
      refine aw_aald X at_3 dX8_replace_30 fa1 k2 (by omega) (by decide) ?_
      refine aw_rf (fa2 _ (by omega)) ?_
      refine aw_callV X (c_X7_becomeWhole hver hrow (by omega)) kX8_184 (ci := 8) rfl (w9) dX8_replace_31 rfl rfl (by first | decide | exact Nat.le_of_ble_eq_true rfl) (by rw [hR]; exact ⟨by first | decide | exact Nat.le_of_ble_eq_true rfl | (dsimp only; omega), by first | decide | exact Nat.le_of_ble_eq_true rfl | (dsimp only; omega)⟩) (by rw [hR]; exact ⟨by first | decide | exact Nat.le_of_ble_eq_true rfl | (dsimp only; omega), by first | decide | exact Nat.le_of_ble_eq_true rfl | (dsimp only; omega)⟩) (fun o M3 hv => ?_)
      obtain ⟨q1, q2, rfl⟩ := hv
      have har2 := har.put (by omega) q2 q1 (fun b D e => by cases e)
      refine aw_vreturn X hr dX8_replace_34 (RPv.of (by rw [spReplace, if_pos ⟨h1, h2⟩]) (hs.arch har2 ((KE.out q2).mono (fun q e => by omega))) ((KE.out q2).mono (fun q e => by omega)))
    · obtain ⟨e1, e2, e3⟩ := h1
      refine ax_out X hT (Nat.le_of_ble_eq_true rfl) (Nat.le_of_ble_eq_true rfl) (RX.of (k := 1) (by rw [spReplace, if_neg (fun h => e3 h.2)]) (by decide) e1 hs e2)
  · obtain ⟨e1, e2, e3⟩ := h1
    refine ax_out X hT (Nat.le_of_ble_eq_true rfl) (Nat.le_of_ble_eq_true rfl) (RX.of (k := 1) (by rw [spReplace, if_neg (fun h => e3 h.1)]) (by decide) e1 hs e2)
theorem c_X8_rebuild {l : Launch} {G : AG} {M : AM} {x D : Nat} {τ : TS} {v f : Int32} (hfl : l.stackTraces = false) (hs : isRS G M x D τ) : Cx l G yX8_rebuild cX8_rebuild 3 (some .int) { rX8_rebuild with cells := 3, slots := 18 } M [.ref x, .int v, .int f] (RP Value.int G M x D (spRebuild τ v f)) (RX G M x D (spRebuild τ v f) ecIS) := by
  have hn6 := hs.1
  obtain ⟨fa, fa1, fa2⟩ := hs.2.2.2.1
  obtain ⟨sa, sa1, sa2⟩ := hs.2.2.2.2.1
  obtain ⟨da, da1, da2⟩ := hs.2.2.2.2.2.1
  obtain ⟨w, aw, y, rb, ch, har⟩ := hs.2.2.2.2.2.2.2.1
  obtain ⟨hn20, hV, kp, sg9, nx, a1, a2, a3, a4, a5, a6, a7, a8⟩ := id har
  refine Cx.of (by decide) [some (.ref x), some (.int v), some (.int f)] rfl (Nat.le_of_ble_eq_true rfl) ?_
  intro Z hZ hT
  obtain ⟨rfl, hn, rfl, hR, X, hr, hnm⟩ := hZ
  refine aw_iload1 X dX8_rebuild_0 ?_
  refine aw_aload0 X dX8_rebuild_1 ?_
  refine aw_get X fX8_35 dX8_rebuild_2 (hs.at) rfl ?_
  refine aw_get X fX8_164 dX8_rebuild_5 (har.at) rfl ?_
  refine aw_callSX X (c_X8_checkIndex hfl) kX8_75 dX8_rebuild_8 rfl rfl (by first | decide | exact Nat.le_of_ble_eq_true rfl) (by rw [hR]; exact ⟨by first | decide | exact Nat.le_of_ble_eq_true rfl | (dsimp only; omega), by first | decide | exact Nat.le_of_ble_eq_true rfl | (dsimp only; omega)⟩) (by rw [hR]; exact ⟨by first | decide | exact Nat.le_of_ble_eq_true rfl | (dsimp only; omega), by first | decide | exact Nat.le_of_ble_eq_true rfl | (dsimp only; omega)⟩) (fun o M1 hv => ?_) (fun E M1 h1 => ?_)
  · obtain ⟨rfl, rfl, h1⟩ := hv
    have h1 : inI v (tN τ) := h1
    have hn20 : tN τ ≤ 20 := hn20
    obtain ⟨j1, j2, j3⟩ := inI_j h1 (by omega)
    refine aw_aload0 X dX8_rebuild_11 ?_
    refine aw_iload2 X dX8_rebuild_12 ?_
    refine aw_callVX X (c_X8_checkFile hfl hs) kX8_59 (ci := 9) rfl (hs.at) dX8_rebuild_13 rfl rfl (by first | decide | exact Nat.le_of_ble_eq_true rfl) (by rw [hR]; exact ⟨by first | decide | exact Nat.le_of_ble_eq_true rfl | (dsimp only; omega), by first | decide | exact Nat.le_of_ble_eq_true rfl | (dsimp only; omega)⟩) (by rw [hR]; exact ⟨by first | decide | exact Nat.le_of_ble_eq_true rfl | (dsimp only; omega), by first | decide | exact Nat.le_of_ble_eq_true rfl | (dsimp only; omega)⟩) (fun o M2 hv => ?_) (fun E M1 h1 => ?_)
    · obtain ⟨rfl, rfl, h2⟩ := hv
      obtain ⟨k1, k2, k3⟩ := inI_j h2 (by omega)
      have e2 : (Value.int v) = .int (nI (ix v)) := congrArg Value.int j2
      refine aw_aload0 X dX8_rebuild_16 ?_
      refine aw_iload1 X dX8_rebuild_17 ?_
      rw [e2]
      refine aw_callVX X (c_X8_checkNotBroken hfl hs j1) kX8_165 (ci := 9) rfl (hs.at) dX8_rebuild_18 rfl rfl (by first | decide | exact Nat.le_of_ble_eq_true rfl) (by rw [hR]; exact ⟨by first | decide | exact Nat.le_of_ble_eq_true rfl | (dsimp only; omega), by first | decide | exact Nat.le_of_ble_eq_true rfl | (dsimp only; omega)⟩) (by rw [hR]; exact ⟨by first | decide | exact Nat.le_of_ble_eq_true rfl | (dsimp only; omega), by first | decide | exact Nat.le_of_ble_eq_true rfl | (dsimp only; omega)⟩) (fun o M3 hv => ?_) (fun E M1 h1 => ?_)
      · obtain ⟨rfl, hs1, ⟨rb1, ch1, w1, aw1, y1, hrb, har1⟩, hk1⟩ := hv
        have hrow : isRow (zG Z) M3 (x + 223 + 2 * ix f) (tF τ f) := hs1.2.2.2.2.2.2.2.2.2.1 (ix f) (by omega)
        obtain ⟨f9, r9, -⟩ := id hrow
        obtain ⟨-, -, kp1, sg1, nx1, b1, b2, b3, b4, b5, b6, b7, b8⟩ := id har1
        refine aw_aload0 X dX8_rebuild_21 ?_
        refine aw_get X fX8_11 dX8_rebuild_22 (hs1.at) rfl ?_
        refine aw_iload2 X dX8_rebuild_25 ?_
        refine aw_aald X at_3 dX8_rebuild_26 (hk1 _ _ fa1 (by omega)) k2 (by omega) (by decide) ?_
        refine aw_rf (fa2 _ (by omega)) ?_
        refine aw_aload0 X dX8_rebuild_27 ?_
        refine aw_get X fX8_35 dX8_rebuild_28 (hs1.at) rfl ?_
        refine aw_get X fX8_187 dX8_rebuild_31 (har1.at) rfl ?_
        refine aw_callV X (c_X4_become hrow b6 (by omega)) kX8_87 (ci := 5) rfl (r9) dX8_rebuild_34 rfl rfl (by first | decide | exact Nat.le_of_ble_eq_true rfl) (by rw [hR]; exact ⟨by first | decide | exact Nat.le_of_ble_eq_true rfl | (dsimp only; omega), by first | decide | exact Nat.le_of_ble_eq_true rfl | (dsimp only; omega)⟩) (by rw [hR]; exact ⟨by first | decide | exact Nat.le_of_ble_eq_true rfl | (dsimp only; omega), by first | decide | exact Nat.le_of_ble_eq_true rfl | (dsimp only; omega)⟩) (fun o M4 hv => ?_)
        obtain ⟨q1, q2, rfl⟩ := hv
        have hs2 := hs1.file (i := ix f) (by omega) q1 (KE.out q2)
        obtain ⟨f8, r8, -⟩ := id q1
        refine aw_aload0 X dX8_rebuild_37 ?_
        refine aw_get X fX8_11 dX8_rebuild_38 (hs2.at) rfl ?_
        refine aw_iload2 X dX8_rebuild_41 ?_
        refine aw_aald X at_3 dX8_rebuild_42 ((KE.out q2) _ _ (hk1 _ _ fa1 (by omega)) (by omega)) k2 (by omega) (by decide) ?_
        refine aw_rf (fa2 _ (by omega)) ?_
        refine aw_get X fX8_67 dX8_rebuild_43 (r8) rfl ?_
        refine aw_ireturn X (ty := .int) hr (by first | rfl | decide | assumption) dX8_rebuild_46 (RP.of (by rw [spRebuild, if_pos ⟨h1, h2⟩, hrb]) hs2 ((hk1.mono (fun q e => by omega)).tr ((KE.out q2).mono (fun q e => by omega))))
      · obtain ⟨e1, e2, ⟨z, e3⟩, e4⟩ := h1
        refine ax_out X hT (Nat.le_of_ble_eq_true rfl) (Nat.le_of_ble_eq_true rfl) (RX.of2 (k := 2) (by rw [spRebuild, if_pos ⟨by assumption, by assumption⟩, e3]) (by decide) e1 e2 (e4.mono (fun q e => by omega)))
    · obtain ⟨e1, e2, e3⟩ := h1
      refine ax_out X hT (Nat.le_of_ble_eq_true rfl) (Nat.le_of_ble_eq_true rfl) (RX.of (k := 1) (by rw [spRebuild, if_neg (fun h => e3 h.2)]) (by decide) e1 hs e2)
  · obtain ⟨e1, e2, e3⟩ := h1
    refine ax_out X hT (Nat.le_of_ble_eq_true rfl) (Nat.le_of_ble_eq_true rfl) (RX.of (k := 1) (by rw [spRebuild, if_neg (fun h => e3 h.1)]) (by decide) e1 hs e2)
theorem c_X8_keep {l : Launch} {G : AG} {M : AM} {x D : Nat} {τ : TS} {f : Int32} (hfl : l.stackTraces = false) (hs : isRS G M x D τ) : Cx l G yX8_keep cX8_keep 2 (some .int) { rX8_keep with cells := 2, slots := 12 } M [.ref x, .int f] (RP Value.int G M x D (spKeep τ f)) (RX G M x D (spKeep τ f) ecIS) := by
  have hn6 := hs.1
  obtain ⟨fa, fa1, fa2⟩ := hs.2.2.2.1
  obtain ⟨sa, sa1, sa2⟩ := hs.2.2.2.2.1
  obtain ⟨da, da1, da2⟩ := hs.2.2.2.2.2.1
  obtain ⟨w, aw, y, rb, ch, har⟩ := hs.2.2.2.2.2.2.2.1
  obtain ⟨hn20, hV, kp, sg9, nx, a1, a2, a3, a4, a5, a6, a7, a8⟩ := id har
  refine Cx.of (by decide) [some (.ref x), some (.int f)] rfl (Nat.le_of_ble_eq_true rfl) ?_
  intro Z hZ hT
  obtain ⟨rfl, hn, rfl, hR, X, hr, hnm⟩ := hZ
  refine aw_aload0 X dX8_keep_0 ?_
  refine aw_iload1 X dX8_keep_1 ?_
  refine aw_callVX X (c_X8_checkFile hfl hs) kX8_59 (ci := 9) rfl (hs.at) dX8_keep_2 rfl rfl (by first | decide | exact Nat.le_of_ble_eq_true rfl) (by rw [hR]; exact ⟨by first | decide | exact Nat.le_of_ble_eq_true rfl | (dsimp only; omega), by first | decide | exact Nat.le_of_ble_eq_true rfl | (dsimp only; omega)⟩) (by rw [hR]; exact ⟨by first | decide | exact Nat.le_of_ble_eq_true rfl | (dsimp only; omega), by first | decide | exact Nat.le_of_ble_eq_true rfl | (dsimp only; omega)⟩) (fun o M1 hv => ?_) (fun E M1 h1 => ?_)
  · obtain ⟨rfl, rfl, h1⟩ := hv
    obtain ⟨k1, k2, k3⟩ := inI_j h1 (by omega)
    refine aw_aload0 X dX8_keep_5 ?_
    refine aw_callVX X (c_X8_checkRoomForVersion hfl hs) kX8_157 (ci := 9) rfl (hs.at) dX8_keep_6 rfl rfl (by first | decide | exact Nat.le_of_ble_eq_true rfl) (by rw [hR]; exact ⟨by first | decide | exact Nat.le_of_ble_eq_true rfl | (dsimp only; omega), by first | decide | exact Nat.le_of_ble_eq_true rfl | (dsimp only; omega)⟩) (by rw [hR]; exact ⟨by first | decide | exact Nat.le_of_ble_eq_true rfl | (dsimp only; omega), by first | decide | exact Nat.le_of_ble_eq_true rfl | (dsimp only; omega)⟩) (fun o M1 hv => ?_) (fun E M1 h1 => ?_)
    · obtain ⟨rfl, rfl, h2⟩ := hv
      have hrow : isRow (zG Z) M1 (x + 223 + 2 * ix f) (tF τ f) := hs.2.2.2.2.2.2.2.2.2.1 (ix f) (by omega)
      refine aw_aload0 X dX8_keep_9 ?_
      refine aw_get X fX8_35 dX8_keep_10 (hs.at) rfl ?_
      refine aw_aload0 X dX8_keep_13 ?_
      refine aw_get X fX8_11 dX8_keep_14 (hs.at) rfl ?_
      refine aw_iload1 X dX8_keep_17 ?_
      refine aw_aald X at_3 dX8_keep_18 fa1 k2 (by omega) (by decide) ?_
      refine aw_rf (fa2 _ (by omega)) ?_
      refine aw_callV X (c_X0_addWhole har h2 hrow (by omega)) kX8_160 (ci := 1) rfl (har.at) dX8_keep_19 rfl rfl (by first | decide | exact Nat.le_of_ble_eq_true rfl) (by rw [hR]; exact ⟨by first | decide | exact Nat.le_of_ble_eq_true rfl | (dsimp only; omega), by first | decide | exact Nat.le_of_ble_eq_true rfl | (dsimp only; omega)⟩) (by rw [hR]; exact ⟨by first | decide | exact Nat.le_of_ble_eq_true rfl | (dsimp only; omega), by first | decide | exact Nat.le_of_ble_eq_true rfl | (dsimp only; omega)⟩) (fun o M2 hv => ?_)
      obtain ⟨q1, q2, rfl⟩ := hv
      refine aw_ireturn X (ty := .int) hr (by first | rfl | decide | assumption) dX8_keep_22 (RP.of (by rw [spKeep, if_pos h1, if_pos h2]) (hs.arch q1 ((KE.out q2).mono (fun q e => by omega))) ((KE.out q2).mono (fun q e => by omega)))
    · obtain ⟨e1, e2, e3⟩ := h1
      refine ax_out X hT (Nat.le_of_ble_eq_true rfl) (Nat.le_of_ble_eq_true rfl) (RX.of (k := 2) (by rw [spKeep, if_pos (by assumption), if_neg e3]) (by decide) e1 hs e2)
  · obtain ⟨e1, e2, e3⟩ := h1
    refine ax_out X hT (Nat.le_of_ble_eq_true rfl) (Nat.le_of_ble_eq_true rfl) (RX.of (k := 1) (by rw [spKeep, if_neg e3]) (by decide) e1 hs e2)
theorem c_X8_keepDelta {l : Launch} {G : AG} {M : AM} {x D : Nat} {τ : TS} {f v b : Int32} (hfl : l.stackTraces = false) (hs : isRS G M x D τ) : Cx l G yX8_keepDelta cX8_keepDelta 4 (some .int) { rX8_keepDelta with cells := 5, slots := 30 } M [.ref x, .int f, .int v, .int b] (RP Value.int G M x D (spKeepDelta τ f v b)) (RX G M x D (spKeepDelta τ f v b) ecIAS) := by
  have hn6 := hs.1
  obtain ⟨fa, fa1, fa2⟩ := hs.2.2.2.1
  obtain ⟨sa, sa1, sa2⟩ := hs.2.2.2.2.1
  obtain ⟨da, da1, da2⟩ := hs.2.2.2.2.2.1
  obtain ⟨w, aw, y, rb, ch, har⟩ := hs.2.2.2.2.2.2.2.1
  obtain ⟨hn20, hV, kp, sg9, nx, a1, a2, a3, a4, a5, a6, a7, a8⟩ := id har
  refine Cx.of (by decide) [some (.ref x), some (.int f), some (.int v), some (.int b)] rfl (Nat.le_of_ble_eq_true rfl) ?_
  intro Z hZ hT
  obtain ⟨rfl, hn, rfl, hR, X, hr, hnm⟩ := hZ
  refine aw_aload0 X dX8_keepDelta_0 ?_
  refine aw_iload1 X dX8_keepDelta_1 ?_
  refine aw_callVX X (c_X8_checkFile hfl hs) kX8_59 (ci := 9) rfl (hs.at) dX8_keepDelta_2 rfl rfl (by first | decide | exact Nat.le_of_ble_eq_true rfl) (by rw [hR]; exact ⟨by first | decide | exact Nat.le_of_ble_eq_true rfl | (dsimp only; omega), by first | decide | exact Nat.le_of_ble_eq_true rfl | (dsimp only; omega)⟩) (by rw [hR]; exact ⟨by first | decide | exact Nat.le_of_ble_eq_true rfl | (dsimp only; omega), by first | decide | exact Nat.le_of_ble_eq_true rfl | (dsimp only; omega)⟩) (fun o M1 hv => ?_) (fun E M1 h1 => ?_)
  · obtain ⟨rfl, rfl, h1⟩ := hv
    obtain ⟨k1, k2, k3⟩ := inI_j h1 (by omega)
    refine aw_iload2 X dX8_keepDelta_5 ?_
    refine aw_aload0 X dX8_keepDelta_6 ?_
    refine aw_get X fX8_35 dX8_keepDelta_7 (hs.at) rfl ?_
    refine aw_get X fX8_164 dX8_keepDelta_10 (har.at) rfl ?_
    refine aw_callSX X (c_X8_checkIndex hfl) kX8_75 dX8_keepDelta_13 rfl rfl (by first | decide | exact Nat.le_of_ble_eq_true rfl) (by rw [hR]; exact ⟨by first | decide | exact Nat.le_of_ble_eq_true rfl | (dsimp only; omega), by first | decide | exact Nat.le_of_ble_eq_true rfl | (dsimp only; omega)⟩) (by rw [hR]; exact ⟨by first | decide | exact Nat.le_of_ble_eq_true rfl | (dsimp only; omega), by first | decide | exact Nat.le_of_ble_eq_true rfl | (dsimp only; omega)⟩) (fun o M1 hv => ?_) (fun E M1 h1 => ?_)
    · obtain ⟨rfl, rfl, h2⟩ := hv
      have h2 : inI v (tN τ) := h2
      have hn20 : tN τ ≤ 20 := hn20
      obtain ⟨j1, j2, j3⟩ := inI_j h2 (by omega)
      refine aw_iload3 X dX8_keepDelta_16 ?_
      refine aw_iconst X dX8_keepDelta_17 (v := nI 1) (by decide) ?_
      refine aw_bipush X dX8_keepDelta_18 (v := nI 7) (by decide) ?_
      refine aw_callSX X (c_X8_checkRange hfl) kX8_63 dX8_keepDelta_20 rfl rfl (by first | decide | exact Nat.le_of_ble_eq_true rfl) (by rw [hR]; exact ⟨by first | decide | exact Nat.le_of_ble_eq_true rfl | (dsimp only; omega), by first | decide | exact Nat.le_of_ble_eq_true rfl | (dsimp only; omega)⟩) (by rw [hR]; exact ⟨by first | decide | exact Nat.le_of_ble_eq_true rfl | (dsimp only; omega), by first | decide | exact Nat.le_of_ble_eq_true rfl | (dsimp only; omega)⟩) (fun o M1 hv => ?_) (fun E M1 h1 => ?_)
      · obtain ⟨rfl, rfl, h3⟩ := hv
        obtain ⟨b1, b2, b3⟩ := rgI_j h3 (by omega) (by omega)
        refine aw_aload0 X dX8_keepDelta_23 ?_
        refine aw_callVX X (c_X8_checkRoomForVersion hfl hs) kX8_157 (ci := 9) rfl (hs.at) dX8_keepDelta_24 rfl rfl (by first | decide | exact Nat.le_of_ble_eq_true rfl) (by rw [hR]; exact ⟨by first | decide | exact Nat.le_of_ble_eq_true rfl | (dsimp only; omega), by first | decide | exact Nat.le_of_ble_eq_true rfl | (dsimp only; omega)⟩) (by rw [hR]; exact ⟨by first | decide | exact Nat.le_of_ble_eq_true rfl | (dsimp only; omega), by first | decide | exact Nat.le_of_ble_eq_true rfl | (dsimp only; omega)⟩) (fun o M1 hv => ?_) (fun E M1 h1 => ?_)
        · obtain ⟨rfl, rfl, h4⟩ := hv
          have e2 : (Value.int v) = .int (nI (ix v)) := congrArg Value.int j2
          have e3 : (Value.int b) = .int (nI (ix b)) := congrArg Value.int b3
          refine aw_aload0 X dX8_keepDelta_27 ?_
          refine aw_iload2 X dX8_keepDelta_28 ?_
          rw [e2]
          refine aw_callVX X (c_X8_checkNotBroken hfl hs j1) kX8_165 (ci := 9) rfl (hs.at) dX8_keepDelta_29 rfl rfl (by first | decide | exact Nat.le_of_ble_eq_true rfl) (by rw [hR]; exact ⟨by first | decide | exact Nat.le_of_ble_eq_true rfl | (dsimp only; omega), by first | decide | exact Nat.le_of_ble_eq_true rfl | (dsimp only; omega)⟩) (by rw [hR]; exact ⟨by first | decide | exact Nat.le_of_ble_eq_true rfl | (dsimp only; omega), by first | decide | exact Nat.le_of_ble_eq_true rfl | (dsimp only; omega)⟩) (fun o M3 hv => ?_) (fun E M1 h1 => ?_)
          · obtain ⟨rfl, hs1, ⟨rb1, ch1, w1, aw1, y1, hrb, har1⟩, hk1⟩ := hv
            have hrow : isRow (zG Z) M3 (x + 223 + 2 * ix f) (tF τ f) := hs1.2.2.2.2.2.2.2.2.2.1 (ix f) (by omega)
            refine aw_aload0 X dX8_keepDelta_32 ?_
            refine aw_get X fX8_35 dX8_keepDelta_33 (hs1.at) rfl ?_
            refine aw_aload0 X dX8_keepDelta_36 ?_
            refine aw_get X fX8_11 dX8_keepDelta_37 (hs1.at) rfl ?_
            refine aw_iload1 X dX8_keepDelta_40 ?_
            refine aw_aald X at_3 dX8_keepDelta_41 (hk1 _ _ fa1 (by omega)) k2 (by omega) (by decide) ?_
            refine aw_rf (fa2 _ (by omega)) ?_
            refine aw_iload2 X dX8_keepDelta_42 ?_
            refine aw_iload3 X dX8_keepDelta_43 ?_
            rw [e3]
            refine aw_callV X (c_X0_addResting har1 h4 j1 ⟨b1, b2⟩ hrow (by omega)) kX8_168 (ci := 1) rfl (har1.at) dX8_keepDelta_44 rfl rfl (by first | decide | exact Nat.le_of_ble_eq_true rfl) (by rw [hR]; exact ⟨by first | decide | exact Nat.le_of_ble_eq_true rfl | (dsimp only; omega), by first | decide | exact Nat.le_of_ble_eq_true rfl | (dsimp only; omega)⟩) (by rw [hR]; exact ⟨by first | decide | exact Nat.le_of_ble_eq_true rfl | (dsimp only; omega), by first | decide | exact Nat.le_of_ble_eq_true rfl | (dsimp only; omega)⟩) (fun o M4 hv => ?_)
            obtain ⟨q1, q2, rfl⟩ := hv
            refine aw_ireturn X (ty := .int) hr (by first | rfl | decide | assumption) dX8_keepDelta_47 (RP.of (by rw [spKeepDelta, if_pos ⟨h1, h2⟩, if_pos h3, if_pos h4, hrb]) (hs1.arch q1 ((KE.out q2).mono (fun q e => by omega))) ((hk1.mono (fun q e => by omega)).tr ((KE.out q2).mono (fun q e => by omega))))
          · obtain ⟨e1, e2, ⟨z, e3⟩, e4⟩ := h1
            refine ax_out X hT (Nat.le_of_ble_eq_true rfl) (Nat.le_of_ble_eq_true rfl) (RX.of2 (k := 3) (by rw [spKeepDelta, if_pos ⟨by assumption, by assumption⟩, if_pos h3, if_pos h4, e3]) (by decide) e1 e2 (e4.mono (fun q e => by omega)))
        · obtain ⟨e1, e2, e3⟩ := h1
          refine ax_out X hT (Nat.le_of_ble_eq_true rfl) (Nat.le_of_ble_eq_true rfl) (RX.of (k := 3) (by rw [spKeepDelta, if_pos ⟨by assumption, by assumption⟩, if_pos h3, if_neg e3]) (by decide) e1 hs e2)
      · obtain ⟨e1, e2, e3⟩ := h1
        refine ax_out X hT (Nat.le_of_ble_eq_true rfl) (Nat.le_of_ble_eq_true rfl) (RX.of (k := 2) (by rw [spKeepDelta, if_pos ⟨by assumption, by assumption⟩, if_neg e3]) (by decide) e1 hs e2)
    · obtain ⟨e1, e2, e3⟩ := h1
      refine ax_out X hT (Nat.le_of_ble_eq_true rfl) (Nat.le_of_ble_eq_true rfl) (RX.of (k := 1) (by rw [spKeepDelta, if_neg (fun h => e3 h.2)]) (by decide) e1 hs e2)
  · obtain ⟨e1, e2, e3⟩ := h1
    refine ax_out X hT (Nat.le_of_ble_eq_true rfl) (Nat.le_of_ble_eq_true rfl) (RX.of (k := 1) (by rw [spKeepDelta, if_neg (fun h => e3 h.1)]) (by decide) e1 hs e2)
