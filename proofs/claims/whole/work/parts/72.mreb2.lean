abbrev rbP (τ : TS) (v f : Int32) : Prop := inI v (tN τ) ∧ isF τ f
abbrev rbT (τ : TS) (v : Int32) : Prop := (rbv (tVs τ) (ix v)).isLeft = true
theorem spRebuild_yes {τ : TS} {v f : Int32} {rb : List Int32} (h : rbP τ v f) (e : rbv (tVs τ) (ix v) = .inl rb) : spRebuild τ v f = (0, nI rb.length, setF τ f rb) := by
  rw [spRebuild, if_pos h, show rbv τ.2.2.2.1.2 (ix v) = .inl rb from e]
theorem spRebuild_no {τ : TS} {v f : Int32} (h : ¬ (rbP τ v f ∧ (rbP τ v f ∧ rbT τ v))) : spRebuild τ v f = (thB (rbP τ v f) (rbP τ v f ∧ rbT τ v), 0, τ) := by
  by_cases h1 : rbP τ v f
  · have h2 : ¬ rbT τ v := fun e => h ⟨h1, h1, e⟩
    obtain ⟨r, e⟩ : ∃ r, rbv (tVs τ) (ix v) = r := ⟨_, rfl⟩
    cases r with
    | inl rb => exact absurd (by show (rbv (tVs τ) (ix v)).isLeft = true; rw [e]; rfl) h2
    | inr q =>
      have e3 : thB (rbP τ v f) (rbP τ v f ∧ rbT τ v) = 2 := by rw [thB, if_pos h1, if_neg (fun e => h2 e.2)]
      rw [e3, spRebuild, if_pos h1, show rbv τ.2.2.2.1.2 (ix v) = .inr q from e]
  · rw [spRebuild, thB, if_neg h1, if_neg h1]
theorem c_X9_rebuild {l : Launch} {G : AG} {M0 M : AM} {y t : Nat} {τ : TS} {v f : Int32} (hm : isMD G M0 M y τ t) : Cn l G yX9_rebuild cX9_rebuild 4 (some .int) rX9_rebuild M [.ref y, .int v, .int f] (MP Value.int G M y (spRebuild τ v f)) := by
  obtain ⟨A, S, c, h0, hr0, -⟩ := hm
  have h := h0.base
  obtain ⟨⟨q0, q1⟩, q2, -, -, ⟨q5, q6⟩, -⟩ := id hr0
  refine Cn.of (by decide) [some (.ref y), some (.int v), some (.int f), none] rfl (Nat.le_of_ble_eq_true rfl) ?_
  intro Z hZ
  obtain ⟨rfl, hn, rfl, hR, X, hr, hnm⟩ := hZ
  refine aw_merge (rbP τ v f) 21 [some (.ref y), some (.int v), some (.int f), none] [] ?_ (fun K => ?_)
  · refine aw_istore3 X dX9_rebuild_21 (by rw [hn]; decide) rfl ?_
    refine aw_aload0 X dX9_rebuild_22 ?_
    refine aw_iload3 X dX9_rebuild_23 ?_
    refine aw_iload3 X dX9_rebuild_24 ?_
    refine aw_ifeq X dX9_rebuild_25 (tgt := 40) (by decide) (fun c1 => ?_) (fun c1 => ?_)
    · have hp := am_bz.mp c1
      have hno : ¬ (rbP τ v f ∧ (rbP τ v f ∧ rbT τ v)) := fun e => hp e.1
      refine aw_iconst X dX9_rebuild_40 (v := nI 0) (by decide) ?_
      refine aw_int (x := nI 0) (y := am_b (rbP τ v f ∧ rbT τ v)) (am_b0 (fun e => hp e.1)).symm ?_
      refine aw_callV X (c_X9_mayBoth h) kX9_121 (ci := 10) rfl (h.at) dX9_rebuild_41 rfl rfl (by first | decide | exact Nat.le_of_ble_eq_true rfl) (by rw [hR]; exact ⟨by first | decide | exact Nat.le_of_ble_eq_true rfl | (dsimp only; omega), by first | decide | exact Nat.le_of_ble_eq_true rfl | (dsimp only; omega)⟩) (by rw [hR]; exact ⟨by first | decide | exact Nat.le_of_ble_eq_true rfl | (dsimp only; omega), by first | decide | exact Nat.le_of_ble_eq_true rfl | (dsimp only; omega)⟩) (fun o M2 hv => ?_)
      obtain ⟨rfl, h1⟩ := hv
      refine aw_ifeq X dX9_rebuild_44 (tgt := 55) (by decide) (fun _ => ?_) (fun c9 => by first | exact absurd ((am_bz.mpr hno)) c9 | exact absurd c9 ((am_bz.mpr hno)))
      refine aw_iconst X dX9_rebuild_55 (v := nI 0) (by decide) ?_
      refine aw_ireturn X (ty := .int) hr (by first | rfl | decide | assumption) dX9_rebuild_56 (MP.of (spRebuild_no hno) h1 hr0.t (va_up_self _ _ _))
    · have hp : rbP τ v f := Decidable.byContradiction (fun e => c1 (am_bz.mpr e))
      obtain ⟨j1, j2, j3⟩ := inI_j hp.1 (by omega)
      obtain ⟨k1, k2, k3⟩ := inI_j hp.2 (by omega)
      refine aw_aload0 X dX9_rebuild_28 ?_
      refine aw_iload1 X dX9_rebuild_29 ?_
      refine aw_int j2 ?_
      refine aw_callV X (c_X9_makes h hr0 j1) kX9_199 (ci := 10) rfl (h.at) dX9_rebuild_30 rfl rfl (by first | decide | exact Nat.le_of_ble_eq_true rfl) (by rw [hR]; exact ⟨by first | decide | exact Nat.le_of_ble_eq_true rfl | (dsimp only; omega), by first | decide | exact Nat.le_of_ble_eq_true rfl | (dsimp only; omega)⟩) (by rw [hR]; exact ⟨by first | decide | exact Nat.le_of_ble_eq_true rfl | (dsimp only; omega), by first | decide | exact Nat.le_of_ble_eq_true rfl | (dsimp only; omega)⟩) (fun o M2 hv => ?_)
      obtain ⟨A', c', h1, hA, hc, z, hz⟩ := hv
      rcases hz with ⟨bs, e, rfl, hl, h26, hb⟩ | ⟨q, e, rfl⟩
      · have ht : rbT τ v := by show (rbv (tVs τ) (ix v)).isLeft = true; rw [e]; rfl
        have hne : ¬ am_b (rbP τ v f ∧ (rbP τ v f ∧ rbT τ v)) = 0 := fun c => am_bz.mp c ⟨hp, hp, ht⟩
        refine aw_ifeq X dX9_rebuild_33 (tgt := 40) (by decide) (fun c9 => by first | exact absurd ((by decide : ¬ nI 1 = 0)) c9 | exact absurd c9 ((by decide : ¬ nI 1 = 0))) (fun _ => ?_)
        refine aw_iconst X dX9_rebuild_36 (v := nI 1) (by decide) ?_
        refine aw_goto X dX9_rebuild_37 (tgt := 41) (by decide) ?_
        refine aw_int (x := nI 1) (y := am_b (rbP τ v f ∧ rbT τ v)) (am_b1 ⟨hp, ht⟩).symm ?_
        refine aw_callV X (c_X9_mayBoth h1) kX9_121 (ci := 10) rfl (h1.at) dX9_rebuild_41 rfl rfl (by first | decide | exact Nat.le_of_ble_eq_true rfl) (by rw [hR]; exact ⟨by first | decide | exact Nat.le_of_ble_eq_true rfl | (dsimp only; omega), by first | decide | exact Nat.le_of_ble_eq_true rfl | (dsimp only; omega)⟩) (by rw [hR]; exact ⟨by first | decide | exact Nat.le_of_ble_eq_true rfl | (dsimp only; omega), by first | decide | exact Nat.le_of_ble_eq_true rfl | (dsimp only; omega)⟩) (fun o M3 hv => ?_)
        obtain ⟨rfl, h2⟩ := hv
        refine aw_ifeq X dX9_rebuild_44 (tgt := 55) (by decide) (fun c9 => by first | exact absurd (hne) c9 | exact absurd c9 (hne)) (fun _ => ?_)
        refine aw_aload0 X dX9_rebuild_47 ?_
        refine aw_iload2 X dX9_rebuild_48 ?_
        refine aw_callV X (c_X9_give h2 k2 (by omega) h26 hl hb) kX9_177 (ci := 10) rfl (h2.at) dX9_rebuild_49 rfl rfl (by first | decide | exact Nat.le_of_ble_eq_true rfl) (by rw [hR]; exact ⟨by first | decide | exact Nat.le_of_ble_eq_true rfl | (dsimp only; omega), by first | decide | exact Nat.le_of_ble_eq_true rfl | (dsimp only; omega)⟩) (by rw [hR]; exact ⟨by first | decide | exact Nat.le_of_ble_eq_true rfl | (dsimp only; omega), by first | decide | exact Nat.le_of_ble_eq_true rfl | (dsimp only; omega)⟩) (fun o M4 hv => ?_)
        obtain ⟨rfl, B2, h3, y1, y2, y3, y4⟩ := hv
        refine aw_goto X dX9_rebuild_52 (tgt := 56) (by decide) ?_
        refine aw_ireturn X (ty := .int) hr (by first | rfl | decide | assumption) dX9_rebuild_56 (MP.of (k := 0) (spRebuild_yes hp e) h3 (mRel.file (hc.rel hr0 hA).t y1 y2 y3 y4) (by rw [va_up_self, thB, if_pos hp, if_pos ⟨hp, ht⟩]))
      · have hno : ¬ (rbP τ v f ∧ (rbP τ v f ∧ rbT τ v)) := by
          rintro ⟨-, -, q⟩
          rw [show rbT τ v = ((rbv (tVs τ) (ix v)).isLeft = true) from rfl, e] at q
          cases q
        refine aw_ifeq X dX9_rebuild_33 (tgt := 40) (by decide) (fun _ => ?_) (fun c9 => by first | exact absurd ((rfl : nI 0 = 0)) c9 | exact absurd c9 ((rfl : nI 0 = 0)))
        refine aw_iconst X dX9_rebuild_40 (v := nI 0) (by decide) ?_
        refine aw_int (x := nI 0) (y := am_b (rbP τ v f ∧ rbT τ v)) (am_b0 (fun q => hno ⟨hp, q⟩)).symm ?_
        refine aw_callV X (c_X9_mayBoth h1) kX9_121 (ci := 10) rfl (h1.at) dX9_rebuild_41 rfl rfl (by first | decide | exact Nat.le_of_ble_eq_true rfl) (by rw [hR]; exact ⟨by first | decide | exact Nat.le_of_ble_eq_true rfl | (dsimp only; omega), by first | decide | exact Nat.le_of_ble_eq_true rfl | (dsimp only; omega)⟩) (by rw [hR]; exact ⟨by first | decide | exact Nat.le_of_ble_eq_true rfl | (dsimp only; omega), by first | decide | exact Nat.le_of_ble_eq_true rfl | (dsimp only; omega)⟩) (fun o M3 hv => ?_)
        obtain ⟨rfl, h2⟩ := hv
        refine aw_ifeq X dX9_rebuild_44 (tgt := 55) (by decide) (fun _ => ?_) (fun c9 => by first | exact absurd ((am_bz.mpr hno)) c9 | exact absurd c9 ((am_bz.mpr hno)))
        refine aw_iconst X dX9_rebuild_55 (v := nI 0) (by decide) ?_
        refine aw_ireturn X (ty := .int) hr (by first | rfl | decide | assumption) dX9_rebuild_56 (MP.of (spRebuild_no hno) h2 (hc.rel hr0 hA).t (va_up_self _ _ _))
  · refine aw_aload0 X dX9_rebuild_0 ?_
    refine aw_iload1 X dX9_rebuild_1 ?_
    refine aw_callV X (c_X9_isVersion h q5) kX9_196 (ci := 10) rfl (h.at) dX9_rebuild_2 rfl rfl (by first | decide | exact Nat.le_of_ble_eq_true rfl) (by rw [hR]; exact ⟨by first | decide | exact Nat.le_of_ble_eq_true rfl | (dsimp only; omega), by first | decide | exact Nat.le_of_ble_eq_true rfl | (dsimp only; omega)⟩) (by rw [hR]; exact ⟨by first | decide | exact Nat.le_of_ble_eq_true rfl | (dsimp only; omega), by first | decide | exact Nat.le_of_ble_eq_true rfl | (dsimp only; omega)⟩) (fun o M1 hv => ?_)
    obtain ⟨rfl, rfl⟩ := hv
    refine aw_ifeq X dX9_rebuild_5 (tgt := 20) (by decide) (fun c1 => ?_) (fun c1 => ?_)
    · have hp := am_bz.mp c1
      refine aw_iconst X dX9_rebuild_20 (v := nI 0) (by decide) ?_
      exact aw_b0 (fun e => hp e.1) K
    · have hp : inI v (tN τ) := Decidable.byContradiction (fun e => c1 (am_bz.mpr e))
      refine aw_aload0 X dX9_rebuild_8 ?_
      refine aw_iload2 X dX9_rebuild_9 ?_
      refine aw_callV X (c_X9_isFile h q0) kX9_114 (ci := 10) rfl (h.at) dX9_rebuild_10 rfl rfl (by first | decide | exact Nat.le_of_ble_eq_true rfl) (by rw [hR]; exact ⟨by first | decide | exact Nat.le_of_ble_eq_true rfl | (dsimp only; omega), by first | decide | exact Nat.le_of_ble_eq_true rfl | (dsimp only; omega)⟩) (by rw [hR]; exact ⟨by first | decide | exact Nat.le_of_ble_eq_true rfl | (dsimp only; omega), by first | decide | exact Nat.le_of_ble_eq_true rfl | (dsimp only; omega)⟩) (fun o M1 hv => ?_)
      obtain ⟨rfl, rfl⟩ := hv
      refine aw_ifeq X dX9_rebuild_13 (tgt := 20) (by decide) (fun c2 => ?_) (fun c2 => ?_)
      · have hp2 := am_bz.mp c2
        refine aw_iconst X dX9_rebuild_20 (v := nI 0) (by decide) ?_
        exact aw_b0 (fun e => hp2 e.2) K
      · have hp2 : isF τ f := Decidable.byContradiction (fun e => c2 (am_bz.mpr e))
        refine aw_iconst X dX9_rebuild_16 (v := nI 1) (by decide) ?_
        refine aw_goto X dX9_rebuild_17 (tgt := 21) (by decide) ?_
        exact aw_b1 (⟨hp, hp2⟩) K
