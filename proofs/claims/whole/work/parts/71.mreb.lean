theorem cSame.rel {A B : MA} {S : Nat → Int64} {c c' : Nat → Int32} {τ : TS} (h : cSame c c') (hr : mRel A S c τ) (hA : ∀ a, a < 20 ∨ 22 < a → B a = A a) : mRel B S c' τ := hr.scr hA h.1 h.2.1 h.2.2.1 h.2.2.2.1 h.2.2.2.2.1
theorem c_X9_brokenAt {l : Launch} {G : AG} {M0 M : AM} {y t : Nat} {τ : TS} {v : Int32} (hm : isMD G M0 M y τ t) : Cn l G yX9_brokenAt cX9_brokenAt 2 (some .int) rX9_brokenAt M [.ref y, .int v] (MP Value.int G M y (spBrAt τ v)) := by
  obtain ⟨A, S, c, h0, hr0, -⟩ := hm
  have h := h0.base
  obtain ⟨-, -, -, -, ⟨q5, q6⟩, -⟩ := id hr0
  refine Cn.of (by decide) [some (.ref y), some (.int v)] rfl (Nat.le_of_ble_eq_true rfl) ?_
  intro Z hZ
  obtain ⟨rfl, hn, rfl, hR, X, hr, hnm⟩ := hZ
  refine aw_aload0 X dX9_brokenAt_0 ?_
  refine aw_aload0 X dX9_brokenAt_1 ?_
  refine aw_iload1 X dX9_brokenAt_2 ?_
  refine aw_callV X (c_X9_isVersion h q5) kX9_196 (ci := 10) rfl (h.at) dX9_brokenAt_3 rfl rfl (by first | decide | exact Nat.le_of_ble_eq_true rfl) (by rw [hR]; exact ⟨by first | decide | exact Nat.le_of_ble_eq_true rfl | (dsimp only; omega), by first | decide | exact Nat.le_of_ble_eq_true rfl | (dsimp only; omega)⟩) (by rw [hR]; exact ⟨by first | decide | exact Nat.le_of_ble_eq_true rfl | (dsimp only; omega), by first | decide | exact Nat.le_of_ble_eq_true rfl | (dsimp only; omega)⟩) (fun o M1 hv => ?_)
  obtain ⟨rfl, rfl⟩ := hv
  refine aw_callV X (c_X9_may h) kX9_106 (ci := 10) rfl (h.at) dX9_brokenAt_6 rfl rfl (by first | decide | exact Nat.le_of_ble_eq_true rfl) (by rw [hR]; exact ⟨by first | decide | exact Nat.le_of_ble_eq_true rfl | (dsimp only; omega), by first | decide | exact Nat.le_of_ble_eq_true rfl | (dsimp only; omega)⟩) (by rw [hR]; exact ⟨by first | decide | exact Nat.le_of_ble_eq_true rfl | (dsimp only; omega), by first | decide | exact Nat.le_of_ble_eq_true rfl | (dsimp only; omega)⟩) (fun o M2 hv => ?_)
  obtain ⟨rfl, h1⟩ := hv
  refine aw_ifne X dX9_brokenAt_9 (tgt := 14) (by decide) (fun c1 => ?_) (fun c1 => ?_)
  · have hp : inI v (tN τ) := Decidable.byContradiction (fun e => c1 (am_bz.mpr e))
    obtain ⟨j1, j2, j3⟩ := inI_j hp (by omega)
    refine aw_aload0 X dX9_brokenAt_14 ?_
    refine aw_iload1 X dX9_brokenAt_15 ?_
    refine aw_int j2 ?_
    refine aw_callV X (c_X9_makes h1 hr0.t j1) kX9_199 (ci := 10) rfl (h1.at) dX9_brokenAt_16 rfl rfl (by first | decide | exact Nat.le_of_ble_eq_true rfl) (by rw [hR]; exact ⟨by first | decide | exact Nat.le_of_ble_eq_true rfl | (dsimp only; omega), by first | decide | exact Nat.le_of_ble_eq_true rfl | (dsimp only; omega)⟩) (by rw [hR]; exact ⟨by first | decide | exact Nat.le_of_ble_eq_true rfl | (dsimp only; omega), by first | decide | exact Nat.le_of_ble_eq_true rfl | (dsimp only; omega)⟩) (fun o M3 hv => ?_)
    obtain ⟨A', c', h2, hA, hc, z, hz⟩ := hv
    have ho : ∃ w : Int32, o = some (.int w) := by
      rcases hz with ⟨bs, -, e, -⟩ | ⟨q, -, e⟩
      · exact ⟨_, e⟩
      · exact ⟨_, e⟩
    obtain ⟨w, rfl⟩ := ho
    refine aw_pop X dX9_brokenAt_19 rfl ?_
    refine aw_aload0 X dX9_brokenAt_20 ?_
    refine aw_get X fX9_183 dX9_brokenAt_21 (h2.at) rfl ?_
    refine aw_int z.1 ?_
    refine aw_ireturn X (ty := .int) hr (by first | rfl | decide | assumption) dX9_brokenAt_24 (MP.of (k := 0) (by rw [spBrAt, if_pos hp]) h2 (hc.rel hr0.t hA) (by rw [hc.2.2.2.2.2, va_up_self, if_pos hp]))
  · have hno := am_bz.mp c1
    refine aw_iconst X dX9_brokenAt_12 (v := nI 0) (by decide) ?_
    refine aw_ireturn X (ty := .int) hr (by first | rfl | decide | assumption) dX9_brokenAt_13 (MP.of (by rw [spBrAt, if_neg hno]; rfl) h1 hr0.t (by rw [va_up_self, if_neg hno]))
theorem c_X9_brokenAfter {l : Launch} {G : AG} {M0 M : AM} {y t : Nat} {τ : TS} {v : Int32} (hm : isMD G M0 M y τ t) : Cn l G yX9_brokenAfter cX9_brokenAfter 2 (some .int) rX9_brokenAfter M [.ref y, .int v] (MP Value.int G M y (spBrAfter τ v)) := by
  obtain ⟨A, S, c, h0, hr0, -⟩ := hm
  have h := h0.base
  obtain ⟨-, -, -, -, ⟨q5, q6⟩, -⟩ := id hr0
  refine Cn.of (by decide) [some (.ref y), some (.int v)] rfl (Nat.le_of_ble_eq_true rfl) ?_
  intro Z hZ
  obtain ⟨rfl, hn, rfl, hR, X, hr, hnm⟩ := hZ
  refine aw_aload0 X dX9_brokenAfter_0 ?_
  refine aw_aload0 X dX9_brokenAfter_1 ?_
  refine aw_iload1 X dX9_brokenAfter_2 ?_
  refine aw_callV X (c_X9_isVersion h q5) kX9_196 (ci := 10) rfl (h.at) dX9_brokenAfter_3 rfl rfl (by first | decide | exact Nat.le_of_ble_eq_true rfl) (by rw [hR]; exact ⟨by first | decide | exact Nat.le_of_ble_eq_true rfl | (dsimp only; omega), by first | decide | exact Nat.le_of_ble_eq_true rfl | (dsimp only; omega)⟩) (by rw [hR]; exact ⟨by first | decide | exact Nat.le_of_ble_eq_true rfl | (dsimp only; omega), by first | decide | exact Nat.le_of_ble_eq_true rfl | (dsimp only; omega)⟩) (fun o M1 hv => ?_)
  obtain ⟨rfl, rfl⟩ := hv
  refine aw_callV X (c_X9_may h) kX9_106 (ci := 10) rfl (h.at) dX9_brokenAfter_6 rfl rfl (by first | decide | exact Nat.le_of_ble_eq_true rfl) (by rw [hR]; exact ⟨by first | decide | exact Nat.le_of_ble_eq_true rfl | (dsimp only; omega), by first | decide | exact Nat.le_of_ble_eq_true rfl | (dsimp only; omega)⟩) (by rw [hR]; exact ⟨by first | decide | exact Nat.le_of_ble_eq_true rfl | (dsimp only; omega), by first | decide | exact Nat.le_of_ble_eq_true rfl | (dsimp only; omega)⟩) (fun o M2 hv => ?_)
  obtain ⟨rfl, h1⟩ := hv
  refine aw_ifne X dX9_brokenAfter_9 (tgt := 14) (by decide) (fun c1 => ?_) (fun c1 => ?_)
  · have hp : inI v (tN τ) := Decidable.byContradiction (fun e => c1 (am_bz.mpr e))
    obtain ⟨j1, j2, j3⟩ := inI_j hp (by omega)
    refine aw_aload0 X dX9_brokenAfter_14 ?_
    refine aw_iload1 X dX9_brokenAfter_15 ?_
    refine aw_int j2 ?_
    refine aw_callV X (c_X9_makes h1 hr0.t j1) kX9_199 (ci := 10) rfl (h1.at) dX9_brokenAfter_16 rfl rfl (by first | decide | exact Nat.le_of_ble_eq_true rfl) (by rw [hR]; exact ⟨by first | decide | exact Nat.le_of_ble_eq_true rfl | (dsimp only; omega), by first | decide | exact Nat.le_of_ble_eq_true rfl | (dsimp only; omega)⟩) (by rw [hR]; exact ⟨by first | decide | exact Nat.le_of_ble_eq_true rfl | (dsimp only; omega), by first | decide | exact Nat.le_of_ble_eq_true rfl | (dsimp only; omega)⟩) (fun o M3 hv => ?_)
    obtain ⟨A', c', h2, hA, hc, z, hz⟩ := hv
    have ho : ∃ w : Int32, o = some (.int w) := by
      rcases hz with ⟨bs, -, e, -⟩ | ⟨q, -, e⟩
      · exact ⟨_, e⟩
      · exact ⟨_, e⟩
    obtain ⟨w, rfl⟩ := ho
    refine aw_pop X dX9_brokenAfter_19 rfl ?_
    refine aw_aload0 X dX9_brokenAfter_20 ?_
    refine aw_get X fX9_186 dX9_brokenAfter_21 (h2.at) rfl ?_
    refine aw_int z.2.1 ?_
    refine aw_ireturn X (ty := .int) hr (by first | rfl | decide | assumption) dX9_brokenAfter_24 (MP.of (k := 0) (by rw [spBrAfter, if_pos hp]) h2 (hc.rel hr0.t hA) (by rw [hc.2.2.2.2.2, va_up_self, if_pos hp]))
  · have hno := am_bz.mp c1
    refine aw_iconst X dX9_brokenAfter_12 (v := nI 0) (by decide) ?_
    refine aw_ireturn X (ty := .int) hr (by first | rfl | decide | assumption) dX9_brokenAfter_13 (MP.of (by rw [spBrAfter, if_neg hno]; rfl) h1 hr0.t (by rw [va_up_self, if_neg hno]))
theorem c_X9_reason {l : Launch} {G : AG} {M0 M : AM} {y t : Nat} {τ : TS} {v : Int32} (hm : isMD G M0 M y τ t) : Cn l G yX9_reason cX9_reason 2 (some .int) rX9_reason M [.ref y, .int v] (MP Value.int G M y (spReason τ v)) := by
  obtain ⟨A, S, c, h0, hr0, -⟩ := hm
  have h := h0.base
  obtain ⟨-, -, -, -, ⟨q5, q6⟩, -⟩ := id hr0
  refine Cn.of (by decide) [some (.ref y), some (.int v)] rfl (Nat.le_of_ble_eq_true rfl) ?_
  intro Z hZ
  obtain ⟨rfl, hn, rfl, hR, X, hr, hnm⟩ := hZ
  refine aw_aload0 X dX9_reason_0 ?_
  refine aw_aload0 X dX9_reason_1 ?_
  refine aw_iload1 X dX9_reason_2 ?_
  refine aw_callV X (c_X9_isVersion h q5) kX9_196 (ci := 10) rfl (h.at) dX9_reason_3 rfl rfl (by first | decide | exact Nat.le_of_ble_eq_true rfl) (by rw [hR]; exact ⟨by first | decide | exact Nat.le_of_ble_eq_true rfl | (dsimp only; omega), by first | decide | exact Nat.le_of_ble_eq_true rfl | (dsimp only; omega)⟩) (by rw [hR]; exact ⟨by first | decide | exact Nat.le_of_ble_eq_true rfl | (dsimp only; omega), by first | decide | exact Nat.le_of_ble_eq_true rfl | (dsimp only; omega)⟩) (fun o M1 hv => ?_)
  obtain ⟨rfl, rfl⟩ := hv
  refine aw_callV X (c_X9_may h) kX9_106 (ci := 10) rfl (h.at) dX9_reason_6 rfl rfl (by first | decide | exact Nat.le_of_ble_eq_true rfl) (by rw [hR]; exact ⟨by first | decide | exact Nat.le_of_ble_eq_true rfl | (dsimp only; omega), by first | decide | exact Nat.le_of_ble_eq_true rfl | (dsimp only; omega)⟩) (by rw [hR]; exact ⟨by first | decide | exact Nat.le_of_ble_eq_true rfl | (dsimp only; omega), by first | decide | exact Nat.le_of_ble_eq_true rfl | (dsimp only; omega)⟩) (fun o M2 hv => ?_)
  obtain ⟨rfl, h1⟩ := hv
  refine aw_ifne X dX9_reason_9 (tgt := 14) (by decide) (fun c1 => ?_) (fun c1 => ?_)
  · have hp : inI v (tN τ) := Decidable.byContradiction (fun e => c1 (am_bz.mpr e))
    obtain ⟨j1, j2, j3⟩ := inI_j hp (by omega)
    refine aw_aload0 X dX9_reason_14 ?_
    refine aw_iload1 X dX9_reason_15 ?_
    refine aw_int j2 ?_
    refine aw_callV X (c_X9_makes h1 hr0.t j1) kX9_199 (ci := 10) rfl (h1.at) dX9_reason_16 rfl rfl (by first | decide | exact Nat.le_of_ble_eq_true rfl) (by rw [hR]; exact ⟨by first | decide | exact Nat.le_of_ble_eq_true rfl | (dsimp only; omega), by first | decide | exact Nat.le_of_ble_eq_true rfl | (dsimp only; omega)⟩) (by rw [hR]; exact ⟨by first | decide | exact Nat.le_of_ble_eq_true rfl | (dsimp only; omega), by first | decide | exact Nat.le_of_ble_eq_true rfl | (dsimp only; omega)⟩) (fun o M3 hv => ?_)
    obtain ⟨A', c', h2, hA, hc, z, hz⟩ := hv
    have ho : ∃ w : Int32, o = some (.int w) := by
      rcases hz with ⟨bs, -, e, -⟩ | ⟨q, -, e⟩
      · exact ⟨_, e⟩
      · exact ⟨_, e⟩
    obtain ⟨w, rfl⟩ := ho
    refine aw_pop X dX9_reason_19 rfl ?_
    refine aw_aload0 X dX9_reason_20 ?_
    refine aw_get X fX9_189 dX9_reason_21 (h2.at) rfl ?_
    refine aw_int z.2.2 ?_
    refine aw_ireturn X (ty := .int) hr (by first | rfl | decide | assumption) dX9_reason_24 (MP.of (k := 0) (by rw [spReason, if_pos hp]) h2 (hc.rel hr0.t hA) (by rw [hc.2.2.2.2.2, va_up_self, if_pos hp]))
  · have hno := am_bz.mp c1
    refine aw_iconst X dX9_reason_12 (v := nI 0) (by decide) ?_
    refine aw_ireturn X (ty := .int) hr (by first | rfl | decide | assumption) dX9_reason_13 (MP.of (by rw [spReason, if_neg hno]; rfl) h1 hr0.t (by rw [va_up_self, if_neg hno]))
