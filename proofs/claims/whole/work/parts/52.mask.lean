/-! the model's questions about signatures and deltas -/
theorem c_X9_blocks {l : Launch} {G : AG} {M0 M : AM} {y t : Nat} {τ : TS} {g : Int32} (hm : isMD G M0 M y τ t) : Cn l G yX9_blocks cX9_blocks 2 (some .int) rX9_blocks M [.ref y, .int g] (MP Value.int G M y (spBlocks τ g)) := by
  obtain ⟨A, S, c, h0, hr0, -⟩ := hm
  have h := h0.base
  obtain ⟨⟨q0, q1⟩, q2, q3, q4, -⟩ := id hr0
  refine Cn.of (by decide) [some (.ref y), some (.int g)] rfl (Nat.le_of_ble_eq_true rfl) ?_
  intro Z hZ
  obtain ⟨rfl, hn, rfl, hR, X, hr, hnm⟩ := hZ
  refine aw_aload0 X dX9_blocks_0 ?_
  refine aw_iload1 X dX9_blocks_1 ?_
  refine aw_callS X (c_X9_isPlace) kX9_142 dX9_blocks_2 rfl rfl (by first | decide | exact Nat.le_of_ble_eq_true rfl) (by rw [hR]; exact ⟨by first | decide | exact Nat.le_of_ble_eq_true rfl | (dsimp only; omega), by first | decide | exact Nat.le_of_ble_eq_true rfl | (dsimp only; omega)⟩) (by rw [hR]; exact ⟨by first | decide | exact Nat.le_of_ble_eq_true rfl | (dsimp only; omega), by first | decide | exact Nat.le_of_ble_eq_true rfl | (dsimp only; omega)⟩) (fun v M1 hv => ?_)
  obtain ⟨rfl, rfl⟩ := hv
  refine aw_callV X (c_X9_may h) kX9_106 (ci := 10) rfl (h.at) dX9_blocks_5 rfl rfl (by first | decide | exact Nat.le_of_ble_eq_true rfl) (by rw [hR]; exact ⟨by first | decide | exact Nat.le_of_ble_eq_true rfl | (dsimp only; omega), by first | decide | exact Nat.le_of_ble_eq_true rfl | (dsimp only; omega)⟩) (by rw [hR]; exact ⟨by first | decide | exact Nat.le_of_ble_eq_true rfl | (dsimp only; omega), by first | decide | exact Nat.le_of_ble_eq_true rfl | (dsimp only; omega)⟩) (fun v M2 hv => ?_)
  obtain ⟨rfl, h1⟩ := hv
  refine aw_ifeq X dX9_blocks_8 (tgt := 20) (by decide) (fun c1 => ?_) (fun c1 => ?_)
  · have hp := am_bz.mp c1
    refine aw_iconst X dX9_blocks_20 (v := nI 0) (by decide) ?_
    refine aw_ireturn X (ty := .int) hr (by first | rfl | decide | assumption) dX9_blocks_21 (MP.of (by rw [spBlocks, if_neg hp]; rfl) h1 hr0.t (by rw [va_up_self, if_neg hp]))
  · have hp : inI g 4 := Decidable.byContradiction (fun e => c1 (am_bz.mpr e))
    obtain ⟨j1, j2, j3⟩ := inI_j hp (by omega)
    refine aw_aload0 X dX9_blocks_11 ?_
    refine aw_get X fX9_25 dX9_blocks_12 (h1.at) rfl ?_
    refine aw_iload1 X dX9_blocks_15 ?_
    refine aw_iald X dX9_blocks_16 (h1.ai 6 rfl) j2 (by omega) (by decide) ?_
    refine aw_goto X dX9_blocks_17 (tgt := 21) (by decide) ?_
    refine aw_int ((q3 _ j1).2.2.2.1) ?_
    refine aw_ireturn X (ty := .int) hr (by first | rfl | decide | assumption) dX9_blocks_21 (MP.of (by rw [spBlocks, if_pos hp]) h1 hr0.t (by rw [va_up_self, if_pos hp]))
theorem c_X9_instructions {l : Launch} {G : AG} {M0 M : AM} {y t : Nat} {τ : TS} {g : Int32} (hm : isMD G M0 M y τ t) : Cn l G yX9_instructions cX9_instructions 2 (some .int) rX9_instructions M [.ref y, .int g] (MP Value.int G M y (spInstr τ g)) := by
  obtain ⟨A, S, c, h0, hr0, -⟩ := hm
  have h := h0.base
  obtain ⟨⟨q0, q1⟩, q2, q3, q4, -⟩ := id hr0
  refine Cn.of (by decide) [some (.ref y), some (.int g)] rfl (Nat.le_of_ble_eq_true rfl) ?_
  intro Z hZ
  obtain ⟨rfl, hn, rfl, hR, X, hr, hnm⟩ := hZ
  refine aw_aload0 X dX9_instructions_0 ?_
  refine aw_iload1 X dX9_instructions_1 ?_
  refine aw_callS X (c_X9_isPlace) kX9_142 dX9_instructions_2 rfl rfl (by first | decide | exact Nat.le_of_ble_eq_true rfl) (by rw [hR]; exact ⟨by first | decide | exact Nat.le_of_ble_eq_true rfl | (dsimp only; omega), by first | decide | exact Nat.le_of_ble_eq_true rfl | (dsimp only; omega)⟩) (by rw [hR]; exact ⟨by first | decide | exact Nat.le_of_ble_eq_true rfl | (dsimp only; omega), by first | decide | exact Nat.le_of_ble_eq_true rfl | (dsimp only; omega)⟩) (fun v M1 hv => ?_)
  obtain ⟨rfl, rfl⟩ := hv
  refine aw_callV X (c_X9_may h) kX9_106 (ci := 10) rfl (h.at) dX9_instructions_5 rfl rfl (by first | decide | exact Nat.le_of_ble_eq_true rfl) (by rw [hR]; exact ⟨by first | decide | exact Nat.le_of_ble_eq_true rfl | (dsimp only; omega), by first | decide | exact Nat.le_of_ble_eq_true rfl | (dsimp only; omega)⟩) (by rw [hR]; exact ⟨by first | decide | exact Nat.le_of_ble_eq_true rfl | (dsimp only; omega), by first | decide | exact Nat.le_of_ble_eq_true rfl | (dsimp only; omega)⟩) (fun v M2 hv => ?_)
  obtain ⟨rfl, h1⟩ := hv
  refine aw_ifeq X dX9_instructions_8 (tgt := 20) (by decide) (fun c1 => ?_) (fun c1 => ?_)
  · have hp := am_bz.mp c1
    refine aw_iconst X dX9_instructions_20 (v := nI 0) (by decide) ?_
    refine aw_ireturn X (ty := .int) hr (by first | rfl | decide | assumption) dX9_instructions_21 (MP.of (by rw [spInstr, if_neg hp]; rfl) h1 hr0.t (by rw [va_up_self, if_neg hp]))
  · have hp : inI g 4 := Decidable.byContradiction (fun e => c1 (am_bz.mpr e))
    obtain ⟨j1, j2, j3⟩ := inI_j hp (by omega)
    refine aw_aload0 X dX9_instructions_11 ?_
    refine aw_get X fX9_39 dX9_instructions_12 (h1.at) rfl ?_
    refine aw_iload1 X dX9_instructions_15 ?_
    refine aw_iald X dX9_instructions_16 (h1.ai 10 rfl) j2 (by omega) (by decide) ?_
    refine aw_goto X dX9_instructions_17 (tgt := 21) (by decide) ?_
    refine aw_int ((q4 _ j1).2.2.1) ?_
    refine aw_ireturn X (ty := .int) hr (by first | rfl | decide | assumption) dX9_instructions_21 (MP.of (by rw [spInstr, if_pos hp]) h1 hr0.t (by rw [va_up_self, if_pos hp]))
theorem c_X9_alarms {l : Launch} {G : AG} {M0 M : AM} {y t : Nat} {τ : TS} {g : Int32} (hm : isMD G M0 M y τ t) : Cn l G yX9_alarms cX9_alarms 2 (some .int) rX9_alarms M [.ref y, .int g] (MP Value.int G M y (spAlarms τ g)) := by
  obtain ⟨A, S, c, h0, hr0, -⟩ := hm
  have h := h0.base
  obtain ⟨⟨q0, q1⟩, q2, q3, q4, -⟩ := id hr0
  refine Cn.of (by decide) [some (.ref y), some (.int g)] rfl (Nat.le_of_ble_eq_true rfl) ?_
  intro Z hZ
  obtain ⟨rfl, hn, rfl, hR, X, hr, hnm⟩ := hZ
  refine aw_aload0 X dX9_alarms_0 ?_
  refine aw_iload1 X dX9_alarms_1 ?_
  refine aw_callS X (c_X9_isPlace) kX9_142 dX9_alarms_2 rfl rfl (by first | decide | exact Nat.le_of_ble_eq_true rfl) (by rw [hR]; exact ⟨by first | decide | exact Nat.le_of_ble_eq_true rfl | (dsimp only; omega), by first | decide | exact Nat.le_of_ble_eq_true rfl | (dsimp only; omega)⟩) (by rw [hR]; exact ⟨by first | decide | exact Nat.le_of_ble_eq_true rfl | (dsimp only; omega), by first | decide | exact Nat.le_of_ble_eq_true rfl | (dsimp only; omega)⟩) (fun v M1 hv => ?_)
  obtain ⟨rfl, rfl⟩ := hv
  refine aw_callV X (c_X9_may h) kX9_106 (ci := 10) rfl (h.at) dX9_alarms_5 rfl rfl (by first | decide | exact Nat.le_of_ble_eq_true rfl) (by rw [hR]; exact ⟨by first | decide | exact Nat.le_of_ble_eq_true rfl | (dsimp only; omega), by first | decide | exact Nat.le_of_ble_eq_true rfl | (dsimp only; omega)⟩) (by rw [hR]; exact ⟨by first | decide | exact Nat.le_of_ble_eq_true rfl | (dsimp only; omega), by first | decide | exact Nat.le_of_ble_eq_true rfl | (dsimp only; omega)⟩) (fun v M2 hv => ?_)
  obtain ⟨rfl, h1⟩ := hv
  refine aw_ifeq X dX9_alarms_8 (tgt := 20) (by decide) (fun c1 => ?_) (fun c1 => ?_)
  · have hp := am_bz.mp c1
    refine aw_iconst X dX9_alarms_20 (v := nI 0) (by decide) ?_
    refine aw_ireturn X (ty := .int) hr (by first | rfl | decide | assumption) dX9_alarms_21 (MP.of (by rw [spAlarms, if_neg hp]; rfl) h1 hr0.t (by rw [va_up_self, if_neg hp]))
  · have hp : inI g 4 := Decidable.byContradiction (fun e => c1 (am_bz.mpr e))
    obtain ⟨j1, j2, j3⟩ := inI_j hp (by omega)
    refine aw_aload0 X dX9_alarms_11 ?_
    refine aw_get X fX9_42 dX9_alarms_12 (h1.at) rfl ?_
    refine aw_iload1 X dX9_alarms_15 ?_
    refine aw_iald X dX9_alarms_16 (h1.ai 11 rfl) j2 (by omega) (by decide) ?_
    refine aw_goto X dX9_alarms_17 (tgt := 21) (by decide) ?_
    refine aw_int ((q4 _ j1).2.2.2.1) ?_
    refine aw_ireturn X (ty := .int) hr (by first | rfl | decide | assumption) dX9_alarms_21 (MP.of (by rw [spAlarms, if_pos hp]) h1 hr0.t (by rw [va_up_self, if_pos hp]))
theorem c_X9_isBlock {l : Launch} {G : AG} {M0 M : AM} {y n : Nat} {A : MA} {S : Nat → Int64} {c : Nat → Int32} {g b : Int32} (h : md G M0 M y A S c) (hA : inI g 4 → A 6 (ix g) = nI n) : Cn l G yX9_isBlock cX9_isBlock 3 (some .boolean) rX9_isBlock M [.ref y, .int g, .int b] (fun v M' => M' = M ∧ v = some (.int (am_b (inI g 4 ∧ inI b n)))) := by
  refine Cn.of (by decide) [some (.ref y), some (.int g), some (.int b)] rfl (Nat.le_of_ble_eq_true rfl) ?_
  intro Z hZ
  obtain ⟨rfl, hn, rfl, hR, X, hr, hnm⟩ := hZ
  refine aw_iload1 X dX9_isBlock_0 ?_
  refine aw_callS X (c_X9_isPlace) kX9_142 dX9_isBlock_1 rfl rfl (by first | decide | exact Nat.le_of_ble_eq_true rfl) (by rw [hR]; exact ⟨by first | decide | exact Nat.le_of_ble_eq_true rfl | (dsimp only; omega), by first | decide | exact Nat.le_of_ble_eq_true rfl | (dsimp only; omega)⟩) (by rw [hR]; exact ⟨by first | decide | exact Nat.le_of_ble_eq_true rfl | (dsimp only; omega), by first | decide | exact Nat.le_of_ble_eq_true rfl | (dsimp only; omega)⟩) (fun v M1 hv => ?_)
  obtain ⟨rfl, rfl⟩ := hv
  refine aw_ifeq X dX9_isBlock_4 (tgt := 25) (by decide) (fun c1 => ?_) (fun c1 => ?_)
  · have hp := am_bz.mp c1
    refine aw_iconst X dX9_isBlock_25 (v := nI 0) (by decide) ?_
    refine aw_ireturn X (ty := .boolean) hr (by first | rfl | decide | assumption) dX9_isBlock_26 (⟨rfl, by rw [am_b0 (fun e => hp e.1)]⟩)
  · have hp : inI g 4 := Decidable.byContradiction (fun e => c1 (am_bz.mpr e))
    obtain ⟨j1, j2, j3⟩ := inI_j hp (by omega)
    refine aw_iload2 X dX9_isBlock_7 ?_
    refine aw_iflt X dX9_isBlock_8 (tgt := 25) (by decide) (fun c2 => ?_) (fun c2 => ?_)
    · refine aw_iconst X dX9_isBlock_25 (v := nI 0) (by decide) ?_
      refine aw_ireturn X (ty := .boolean) hr (by first | rfl | decide | assumption) dX9_isBlock_26 (⟨rfl, by rw [am_b0 (fun e => e.2.1 c2)]⟩)
    · refine aw_iload2 X dX9_isBlock_11 ?_
      refine aw_aload0 X dX9_isBlock_12 ?_
      refine aw_get X fX9_25 dX9_isBlock_13 (h.at) rfl ?_
      refine aw_iload1 X dX9_isBlock_16 ?_
      refine aw_iald X dX9_isBlock_17 (h.ai 6 rfl) j2 (by omega) (by decide) ?_
      refine aw_int (hA hp) ?_
      refine aw_icmpge X dX9_isBlock_18 (tgt := 25) (by decide) (fun c3 => ?_) (fun c3 => ?_)
      · refine aw_iconst X dX9_isBlock_25 (v := nI 0) (by decide) ?_
        refine aw_ireturn X (ty := .boolean) hr (by first | rfl | decide | assumption) dX9_isBlock_26 (⟨rfl, by rw [am_b0 (fun e => Int32.lt_irrefl (Int32.lt_of_lt_of_le e.2.2 c3))]⟩)
      · refine aw_iconst X dX9_isBlock_21 (v := nI 1) (by decide) ?_
        refine aw_goto X dX9_isBlock_22 (tgt := 26) (by decide) ?_
        refine aw_ireturn X (ty := .boolean) hr (by first | rfl | decide | assumption) dX9_isBlock_26 (⟨rfl, by rw [am_b1 ⟨hp, c2, Int32.not_le.mp c3⟩]⟩)
theorem c_X9_isInstruction {l : Launch} {G : AG} {M0 M : AM} {y n : Nat} {A : MA} {S : Nat → Int64} {c : Nat → Int32} {g b : Int32} (h : md G M0 M y A S c) (hA : inI g 4 → A 10 (ix g) = nI n) : Cn l G yX9_isInstruction cX9_isInstruction 3 (some .boolean) rX9_isInstruction M [.ref y, .int g, .int b] (fun v M' => M' = M ∧ v = some (.int (am_b (inI g 4 ∧ inI b n)))) := by
  refine Cn.of (by decide) [some (.ref y), some (.int g), some (.int b)] rfl (Nat.le_of_ble_eq_true rfl) ?_
  intro Z hZ
  obtain ⟨rfl, hn, rfl, hR, X, hr, hnm⟩ := hZ
  refine aw_iload1 X dX9_isInstruction_0 ?_
  refine aw_callS X (c_X9_isPlace) kX9_142 dX9_isInstruction_1 rfl rfl (by first | decide | exact Nat.le_of_ble_eq_true rfl) (by rw [hR]; exact ⟨by first | decide | exact Nat.le_of_ble_eq_true rfl | (dsimp only; omega), by first | decide | exact Nat.le_of_ble_eq_true rfl | (dsimp only; omega)⟩) (by rw [hR]; exact ⟨by first | decide | exact Nat.le_of_ble_eq_true rfl | (dsimp only; omega), by first | decide | exact Nat.le_of_ble_eq_true rfl | (dsimp only; omega)⟩) (fun v M1 hv => ?_)
  obtain ⟨rfl, rfl⟩ := hv
  refine aw_ifeq X dX9_isInstruction_4 (tgt := 25) (by decide) (fun c1 => ?_) (fun c1 => ?_)
  · have hp := am_bz.mp c1
    refine aw_iconst X dX9_isInstruction_25 (v := nI 0) (by decide) ?_
    refine aw_ireturn X (ty := .boolean) hr (by first | rfl | decide | assumption) dX9_isInstruction_26 (⟨rfl, by rw [am_b0 (fun e => hp e.1)]⟩)
  · have hp : inI g 4 := Decidable.byContradiction (fun e => c1 (am_bz.mpr e))
    obtain ⟨j1, j2, j3⟩ := inI_j hp (by omega)
    refine aw_iload2 X dX9_isInstruction_7 ?_
    refine aw_iflt X dX9_isInstruction_8 (tgt := 25) (by decide) (fun c2 => ?_) (fun c2 => ?_)
    · refine aw_iconst X dX9_isInstruction_25 (v := nI 0) (by decide) ?_
      refine aw_ireturn X (ty := .boolean) hr (by first | rfl | decide | assumption) dX9_isInstruction_26 (⟨rfl, by rw [am_b0 (fun e => e.2.1 c2)]⟩)
    · refine aw_iload2 X dX9_isInstruction_11 ?_
      refine aw_aload0 X dX9_isInstruction_12 ?_
      refine aw_get X fX9_39 dX9_isInstruction_13 (h.at) rfl ?_
      refine aw_iload1 X dX9_isInstruction_16 ?_
      refine aw_iald X dX9_isInstruction_17 (h.ai 10 rfl) j2 (by omega) (by decide) ?_
      refine aw_int (hA hp) ?_
      refine aw_icmpge X dX9_isInstruction_18 (tgt := 25) (by decide) (fun c3 => ?_) (fun c3 => ?_)
      · refine aw_iconst X dX9_isInstruction_25 (v := nI 0) (by decide) ?_
        refine aw_ireturn X (ty := .boolean) hr (by first | rfl | decide | assumption) dX9_isInstruction_26 (⟨rfl, by rw [am_b0 (fun e => Int32.lt_irrefl (Int32.lt_of_lt_of_le e.2.2 c3))]⟩)
      · refine aw_iconst X dX9_isInstruction_21 (v := nI 1) (by decide) ?_
        refine aw_goto X dX9_isInstruction_22 (tgt := 26) (by decide) ?_
        refine aw_ireturn X (ty := .boolean) hr (by first | rfl | decide | assumption) dX9_isInstruction_26 (⟨rfl, by rw [am_b1 ⟨hp, c2, Int32.not_le.mp c3⟩]⟩)
theorem c_X9_weak {l : Launch} {G : AG} {M0 M : AM} {y t : Nat} {τ : TS} {g b : Int32} (hm : isMD G M0 M y τ t) : Cn l G yX9_weak cX9_weak 3 (some .int) rX9_weak M [.ref y, .int g, .int b] (MP Value.int G M y (spWeak τ g b)) := by
  obtain ⟨A, S, c, h0, hr0, -⟩ := hm
  have h := h0.base
  obtain ⟨⟨q0, q1⟩, q2, q3, q4, -⟩ := id hr0
  refine Cn.of (by decide) [some (.ref y), some (.int g), some (.int b)] rfl (Nat.le_of_ble_eq_true rfl) ?_
  intro Z hZ
  obtain ⟨rfl, hn, rfl, hR, X, hr, hnm⟩ := hZ
  refine aw_aload0 X dX9_weak_0 ?_
  refine aw_aload0 X dX9_weak_1 ?_
  refine aw_iload1 X dX9_weak_2 ?_
  refine aw_iload2 X dX9_weak_3 ?_
  refine aw_callV X (c_X9_isBlock (n := (sgN (tS τ g))) h (fun hp => (q3 _ (inI_j hp (by omega)).1).2.2.2.1)) kX9_153 (ci := 10) rfl (h.at) dX9_weak_4 rfl rfl (by first | decide | exact Nat.le_of_ble_eq_true rfl) (by rw [hR]; exact ⟨by first | decide | exact Nat.le_of_ble_eq_true rfl | (dsimp only; omega), by first | decide | exact Nat.le_of_ble_eq_true rfl | (dsimp only; omega)⟩) (by rw [hR]; exact ⟨by first | decide | exact Nat.le_of_ble_eq_true rfl | (dsimp only; omega), by first | decide | exact Nat.le_of_ble_eq_true rfl | (dsimp only; omega)⟩) (fun v M1 hv => ?_)
  obtain ⟨rfl, rfl⟩ := hv
  refine aw_callV X (c_X9_may h) kX9_106 (ci := 10) rfl (h.at) dX9_weak_7 rfl rfl (by first | decide | exact Nat.le_of_ble_eq_true rfl) (by rw [hR]; exact ⟨by first | decide | exact Nat.le_of_ble_eq_true rfl | (dsimp only; omega), by first | decide | exact Nat.le_of_ble_eq_true rfl | (dsimp only; omega)⟩) (by rw [hR]; exact ⟨by first | decide | exact Nat.le_of_ble_eq_true rfl | (dsimp only; omega), by first | decide | exact Nat.le_of_ble_eq_true rfl | (dsimp only; omega)⟩) (fun v M2 hv => ?_)
  obtain ⟨rfl, h1⟩ := hv
  refine aw_ifeq X dX9_weak_10 (tgt := 27) (by decide) (fun c1 => ?_) (fun c1 => ?_)
  · have hp := am_bz.mp c1
    refine aw_iconst X dX9_weak_27 (v := nI 0) (by decide) ?_
    refine aw_ireturn X (ty := .int) hr (by first | rfl | decide | assumption) dX9_weak_28 (MP.of (by rw [spWeak, if_neg hp]; rfl) h1 hr0.t (by rw [va_up_self, if_neg hp]))
  · have hp : inI g 4 ∧ inI b (sgN (tS τ g)) := Decidable.byContradiction (fun e => c1 (am_bz.mpr e))
    obtain ⟨j1, j2, j3⟩ := inI_j hp.1 (by omega)
    have hq3 := q3 _ j1
    have hq4 := q4 _ j1
    have hn : (sgN (tS τ g)) ≤ 120 := sgN_le hq3.1
    obtain ⟨k1, k2, k3⟩ := inI_j hp.2 (by omega)
    refine aw_aload0 X dX9_weak_13 ?_
    refine aw_get X fX9_28 dX9_weak_14 (h1.at) rfl ?_
    refine aw_bipush X dX9_weak_17 (v := nI 120) (by decide) ?_
    refine aw_iload1 X dX9_weak_19 ?_
    refine aw_imul X dX9_weak_20 ?_
    refine aw_iload2 X dX9_weak_21 ?_
    refine aw_iadd X dX9_weak_22 ?_
    refine aw_int (ix_add2 j2 k2) ?_
    refine aw_iald X dX9_weak_23 (h1.ai 7 rfl) rfl (by omega) (by decide) ?_
    refine aw_goto X dX9_weak_24 (tgt := 28) (by decide) ?_
    refine aw_int ((hq3.2.2.2.2 _ k1).1) ?_
    refine aw_ireturn X (ty := .int) hr (by first | rfl | decide | assumption) dX9_weak_28 (MP.of (by rw [spWeak, if_pos hp]) h1 hr0.t (by rw [va_up_self, if_pos hp]))
theorem c_X9_strong {l : Launch} {G : AG} {M0 M : AM} {y t : Nat} {τ : TS} {g b : Int32} (hm : isMD G M0 M y τ t) : Cn l G yX9_strong cX9_strong 3 (some .long) rX9_strong M [.ref y, .int g, .int b] (MP Value.long G M y (spStrong τ g b)) := by
  obtain ⟨A, S, c, h0, hr0, -⟩ := hm
  have h := h0.base
  obtain ⟨⟨q0, q1⟩, q2, q3, q4, -⟩ := id hr0
  refine Cn.of (by decide) [some (.ref y), some (.int g), some (.int b)] rfl (Nat.le_of_ble_eq_true rfl) ?_
  intro Z hZ
  obtain ⟨rfl, hn, rfl, hR, X, hr, hnm⟩ := hZ
  refine aw_aload0 X dX9_strong_0 ?_
  refine aw_aload0 X dX9_strong_1 ?_
  refine aw_iload1 X dX9_strong_2 ?_
  refine aw_iload2 X dX9_strong_3 ?_
  refine aw_callV X (c_X9_isBlock (n := (sgN (tS τ g))) h (fun hp => (q3 _ (inI_j hp (by omega)).1).2.2.2.1)) kX9_153 (ci := 10) rfl (h.at) dX9_strong_4 rfl rfl (by first | decide | exact Nat.le_of_ble_eq_true rfl) (by rw [hR]; exact ⟨by first | decide | exact Nat.le_of_ble_eq_true rfl | (dsimp only; omega), by first | decide | exact Nat.le_of_ble_eq_true rfl | (dsimp only; omega)⟩) (by rw [hR]; exact ⟨by first | decide | exact Nat.le_of_ble_eq_true rfl | (dsimp only; omega), by first | decide | exact Nat.le_of_ble_eq_true rfl | (dsimp only; omega)⟩) (fun v M1 hv => ?_)
  obtain ⟨rfl, rfl⟩ := hv
  refine aw_callV X (c_X9_may h) kX9_106 (ci := 10) rfl (h.at) dX9_strong_7 rfl rfl (by first | decide | exact Nat.le_of_ble_eq_true rfl) (by rw [hR]; exact ⟨by first | decide | exact Nat.le_of_ble_eq_true rfl | (dsimp only; omega), by first | decide | exact Nat.le_of_ble_eq_true rfl | (dsimp only; omega)⟩) (by rw [hR]; exact ⟨by first | decide | exact Nat.le_of_ble_eq_true rfl | (dsimp only; omega), by first | decide | exact Nat.le_of_ble_eq_true rfl | (dsimp only; omega)⟩) (fun v M2 hv => ?_)
  obtain ⟨rfl, h1⟩ := hv
  refine aw_ifeq X dX9_strong_10 (tgt := 27) (by decide) (fun c1 => ?_) (fun c1 => ?_)
  · have hp := am_bz.mp c1
    refine aw_lconst X dX9_strong_27 (v := 0) (by decide) ?_
    refine aw_lreturn X hr dX9_strong_28 (MP.of (by rw [spStrong, if_neg hp]) h1 hr0.t (by rw [va_up_self, if_neg hp]))
  · have hp : inI g 4 ∧ inI b (sgN (tS τ g)) := Decidable.byContradiction (fun e => c1 (am_bz.mpr e))
    obtain ⟨j1, j2, j3⟩ := inI_j hp.1 (by omega)
    have hq3 := q3 _ j1
    have hq4 := q4 _ j1
    have hn : (sgN (tS τ g)) ≤ 120 := sgN_le hq3.1
    obtain ⟨k1, k2, k3⟩ := inI_j hp.2 (by omega)
    refine aw_aload0 X dX9_strong_13 ?_
    refine aw_get X fX9_31 dX9_strong_14 (h1.at) rfl ?_
    refine aw_bipush X dX9_strong_17 (v := nI 120) (by decide) ?_
    refine aw_iload1 X dX9_strong_19 ?_
    refine aw_imul X dX9_strong_20 ?_
    refine aw_iload2 X dX9_strong_21 ?_
    refine aw_iadd X dX9_strong_22 ?_
    refine aw_int (ix_add2 j2 k2) ?_
    refine aw_lald X dX9_strong_23 h1.al rfl (by omega) (by decide) ?_
    refine aw_goto X dX9_strong_24 (tgt := 28) (by decide) ?_
    refine aw_long ((hq3.2.2.2.2 _ k1).2) ?_
    refine aw_lreturn X hr dX9_strong_28 (MP.of (by rw [spStrong, if_pos hp]) h1 hr0.t (by rw [va_up_self, if_pos hp]))
theorem c_X9_startOf {l : Launch} {G : AG} {M0 M : AM} {y t : Nat} {τ : TS} {g b : Int32} (hm : isMD G M0 M y τ t) : Cn l G yX9_startOf cX9_startOf 3 (some .int) rX9_startOf M [.ref y, .int g, .int b] (MP Value.int G M y (spStart τ g b)) := by
  obtain ⟨A, S, c, h0, hr0, -⟩ := hm
  have h := h0.base
  obtain ⟨⟨q0, q1⟩, q2, q3, q4, -⟩ := id hr0
  refine Cn.of (by decide) [some (.ref y), some (.int g), some (.int b)] rfl (Nat.le_of_ble_eq_true rfl) ?_
  intro Z hZ
  obtain ⟨rfl, hn, rfl, hR, X, hr, hnm⟩ := hZ
  refine aw_aload0 X dX9_startOf_0 ?_
  refine aw_aload0 X dX9_startOf_1 ?_
  refine aw_iload1 X dX9_startOf_2 ?_
  refine aw_iload2 X dX9_startOf_3 ?_
  refine aw_callV X (c_X9_isInstruction (n := (tD τ g).2.1.length) h (fun hp => (q4 _ (inI_j hp (by omega)).1).2.2.1)) kX9_164 (ci := 10) rfl (h.at) dX9_startOf_4 rfl rfl (by first | decide | exact Nat.le_of_ble_eq_true rfl) (by rw [hR]; exact ⟨by first | decide | exact Nat.le_of_ble_eq_true rfl | (dsimp only; omega), by first | decide | exact Nat.le_of_ble_eq_true rfl | (dsimp only; omega)⟩) (by rw [hR]; exact ⟨by first | decide | exact Nat.le_of_ble_eq_true rfl | (dsimp only; omega), by first | decide | exact Nat.le_of_ble_eq_true rfl | (dsimp only; omega)⟩) (fun v M1 hv => ?_)
  obtain ⟨rfl, rfl⟩ := hv
  refine aw_callV X (c_X9_may h) kX9_106 (ci := 10) rfl (h.at) dX9_startOf_7 rfl rfl (by first | decide | exact Nat.le_of_ble_eq_true rfl) (by rw [hR]; exact ⟨by first | decide | exact Nat.le_of_ble_eq_true rfl | (dsimp only; omega), by first | decide | exact Nat.le_of_ble_eq_true rfl | (dsimp only; omega)⟩) (by rw [hR]; exact ⟨by first | decide | exact Nat.le_of_ble_eq_true rfl | (dsimp only; omega), by first | decide | exact Nat.le_of_ble_eq_true rfl | (dsimp only; omega)⟩) (fun v M2 hv => ?_)
  obtain ⟨rfl, h1⟩ := hv
  refine aw_ifeq X dX9_startOf_10 (tgt := 27) (by decide) (fun c1 => ?_) (fun c1 => ?_)
  · have hp := am_bz.mp c1
    refine aw_iconst X dX9_startOf_27 (v := nI 0) (by decide) ?_
    refine aw_ireturn X (ty := .int) hr (by first | rfl | decide | assumption) dX9_startOf_28 (MP.of (by rw [spStart, if_neg hp]; rfl) h1 hr0.t (by rw [va_up_self, if_neg hp]))
  · have hp : inI g 4 ∧ inI b (tD τ g).2.1.length := Decidable.byContradiction (fun e => c1 (am_bz.mpr e))
    obtain ⟨j1, j2, j3⟩ := inI_j hp.1 (by omega)
    have hq3 := q3 _ j1
    have hq4 := q4 _ j1
    have hn : (tD τ g).2.1.length ≤ 120 := hq4.1.1
    obtain ⟨k1, k2, k3⟩ := inI_j hp.2 (by omega)
    refine aw_aload0 X dX9_startOf_13 ?_
    refine aw_get X fX9_48 dX9_startOf_14 (h1.at) rfl ?_
    refine aw_bipush X dX9_startOf_17 (v := nI 120) (by decide) ?_
    refine aw_iload1 X dX9_startOf_19 ?_
    refine aw_imul X dX9_startOf_20 ?_
    refine aw_iload2 X dX9_startOf_21 ?_
    refine aw_iadd X dX9_startOf_22 ?_
    refine aw_int (ix_add2 j2 k2) ?_
    refine aw_iald X dX9_startOf_23 (h1.ai 13 rfl) rfl (by omega) (by decide) ?_
    refine aw_goto X dX9_startOf_24 (tgt := 28) (by decide) ?_
    refine aw_int ((hq4.2.2.2.2.1 _ k1).2.1) ?_
    refine aw_ireturn X (ty := .int) hr (by first | rfl | decide | assumption) dX9_startOf_28 (MP.of (by rw [spStart, if_pos hp]) h1 hr0.t (by rw [va_up_self, if_pos hp]))
theorem c_X9_bytesOf {l : Launch} {G : AG} {M0 M : AM} {y t : Nat} {τ : TS} {g b : Int32} (hm : isMD G M0 M y τ t) : Cn l G yX9_bytesOf cX9_bytesOf 3 (some .int) rX9_bytesOf M [.ref y, .int g, .int b] (MP Value.int G M y (spBytes τ g b)) := by
  obtain ⟨A, S, c, h0, hr0, -⟩ := hm
  have h := h0.base
  obtain ⟨⟨q0, q1⟩, q2, q3, q4, -⟩ := id hr0
  refine Cn.of (by decide) [some (.ref y), some (.int g), some (.int b)] rfl (Nat.le_of_ble_eq_true rfl) ?_
  intro Z hZ
  obtain ⟨rfl, hn, rfl, hR, X, hr, hnm⟩ := hZ
  refine aw_aload0 X dX9_bytesOf_0 ?_
  refine aw_aload0 X dX9_bytesOf_1 ?_
  refine aw_iload1 X dX9_bytesOf_2 ?_
  refine aw_iload2 X dX9_bytesOf_3 ?_
  refine aw_callV X (c_X9_isInstruction (n := (tD τ g).2.1.length) h (fun hp => (q4 _ (inI_j hp (by omega)).1).2.2.1)) kX9_164 (ci := 10) rfl (h.at) dX9_bytesOf_4 rfl rfl (by first | decide | exact Nat.le_of_ble_eq_true rfl) (by rw [hR]; exact ⟨by first | decide | exact Nat.le_of_ble_eq_true rfl | (dsimp only; omega), by first | decide | exact Nat.le_of_ble_eq_true rfl | (dsimp only; omega)⟩) (by rw [hR]; exact ⟨by first | decide | exact Nat.le_of_ble_eq_true rfl | (dsimp only; omega), by first | decide | exact Nat.le_of_ble_eq_true rfl | (dsimp only; omega)⟩) (fun v M1 hv => ?_)
  obtain ⟨rfl, rfl⟩ := hv
  refine aw_callV X (c_X9_may h) kX9_106 (ci := 10) rfl (h.at) dX9_bytesOf_7 rfl rfl (by first | decide | exact Nat.le_of_ble_eq_true rfl) (by rw [hR]; exact ⟨by first | decide | exact Nat.le_of_ble_eq_true rfl | (dsimp only; omega), by first | decide | exact Nat.le_of_ble_eq_true rfl | (dsimp only; omega)⟩) (by rw [hR]; exact ⟨by first | decide | exact Nat.le_of_ble_eq_true rfl | (dsimp only; omega), by first | decide | exact Nat.le_of_ble_eq_true rfl | (dsimp only; omega)⟩) (fun v M2 hv => ?_)
  obtain ⟨rfl, h1⟩ := hv
  refine aw_ifeq X dX9_bytesOf_10 (tgt := 27) (by decide) (fun c1 => ?_) (fun c1 => ?_)
  · have hp := am_bz.mp c1
    refine aw_iconst X dX9_bytesOf_27 (v := nI 0) (by decide) ?_
    refine aw_ireturn X (ty := .int) hr (by first | rfl | decide | assumption) dX9_bytesOf_28 (MP.of (by rw [spBytes, if_neg hp]; rfl) h1 hr0.t (by rw [va_up_self, if_neg hp]))
  · have hp : inI g 4 ∧ inI b (tD τ g).2.1.length := Decidable.byContradiction (fun e => c1 (am_bz.mpr e))
    obtain ⟨j1, j2, j3⟩ := inI_j hp.1 (by omega)
    have hq3 := q3 _ j1
    have hq4 := q4 _ j1
    have hn : (tD τ g).2.1.length ≤ 120 := hq4.1.1
    obtain ⟨k1, k2, k3⟩ := inI_j hp.2 (by omega)
    refine aw_aload0 X dX9_bytesOf_13 ?_
    refine aw_get X fX9_51 dX9_bytesOf_14 (h1.at) rfl ?_
    refine aw_bipush X dX9_bytesOf_17 (v := nI 120) (by decide) ?_
    refine aw_iload1 X dX9_bytesOf_19 ?_
    refine aw_imul X dX9_bytesOf_20 ?_
    refine aw_iload2 X dX9_bytesOf_21 ?_
    refine aw_iadd X dX9_bytesOf_22 ?_
    refine aw_int (ix_add2 j2 k2) ?_
    refine aw_iald X dX9_bytesOf_23 (h1.ai 14 rfl) rfl (by omega) (by decide) ?_
    refine aw_goto X dX9_bytesOf_24 (tgt := 28) (by decide) ?_
    refine aw_int ((hq4.2.2.2.2.1 _ k1).2.2) ?_
    refine aw_ireturn X (ty := .int) hr (by first | rfl | decide | assumption) dX9_bytesOf_28 (MP.of (by rw [spBytes, if_pos hp]) h1 hr0.t (by rw [va_up_self, if_pos hp]))
theorem c_X9_isCopy {l : Launch} {G : AG} {M0 M : AM} {y t : Nat} {τ : TS} {g b : Int32} (hm : isMD G M0 M y τ t) : Cn l G yX9_isCopy cX9_isCopy 3 (some .boolean) rX9_isCopy M [.ref y, .int g, .int b] (MP Value.int G M y (spIsCopy τ g b)) := by
  obtain ⟨A, S, c, h0, hr0, -⟩ := hm
  have h := h0.base
  obtain ⟨⟨q0, q1⟩, q2, q3, q4, -⟩ := id hr0
  refine Cn.of (by decide) [some (.ref y), some (.int g), some (.int b)] rfl (Nat.le_of_ble_eq_true rfl) ?_
  intro Z hZ
  obtain ⟨rfl, hn, rfl, hR, X, hr, hnm⟩ := hZ
  refine aw_aload0 X dX9_isCopy_0 ?_
  refine aw_aload0 X dX9_isCopy_1 ?_
  refine aw_iload1 X dX9_isCopy_2 ?_
  refine aw_iload2 X dX9_isCopy_3 ?_
  refine aw_callV X (c_X9_isInstruction (n := (tD τ g).2.1.length) h (fun hp => (q4 _ (inI_j hp (by omega)).1).2.2.1)) kX9_164 (ci := 10) rfl (h.at) dX9_isCopy_4 rfl rfl (by first | decide | exact Nat.le_of_ble_eq_true rfl) (by rw [hR]; exact ⟨by first | decide | exact Nat.le_of_ble_eq_true rfl | (dsimp only; omega), by first | decide | exact Nat.le_of_ble_eq_true rfl | (dsimp only; omega)⟩) (by rw [hR]; exact ⟨by first | decide | exact Nat.le_of_ble_eq_true rfl | (dsimp only; omega), by first | decide | exact Nat.le_of_ble_eq_true rfl | (dsimp only; omega)⟩) (fun v M1 hv => ?_)
  obtain ⟨rfl, rfl⟩ := hv
  refine aw_callV X (c_X9_may h) kX9_106 (ci := 10) rfl (h.at) dX9_isCopy_7 rfl rfl (by first | decide | exact Nat.le_of_ble_eq_true rfl) (by rw [hR]; exact ⟨by first | decide | exact Nat.le_of_ble_eq_true rfl | (dsimp only; omega), by first | decide | exact Nat.le_of_ble_eq_true rfl | (dsimp only; omega)⟩) (by rw [hR]; exact ⟨by first | decide | exact Nat.le_of_ble_eq_true rfl | (dsimp only; omega), by first | decide | exact Nat.le_of_ble_eq_true rfl | (dsimp only; omega)⟩) (fun v M2 hv => ?_)
  obtain ⟨rfl, h1⟩ := hv
  refine aw_ifeq X dX9_isCopy_10 (tgt := 31) (by decide) (fun c1 => ?_) (fun c1 => ?_)
  · have hp := am_bz.mp c1
    refine aw_iconst X dX9_isCopy_31 (v := nI 0) (by decide) ?_
    refine aw_ireturn X (ty := .boolean) hr (by first | rfl | decide | assumption) dX9_isCopy_32 (MP.of (by rw [spIsCopy, if_neg hp]; rfl) h1 hr0.t (by rw [va_up_self, if_neg hp]))
  · have hp : inI g 4 ∧ inI b (tD τ g).2.1.length := Decidable.byContradiction (fun e => c1 (am_bz.mpr e))
    obtain ⟨j1, j2, j3⟩ := inI_j hp.1 (by omega)
    have hq3 := q3 _ j1
    have hq4 := q4 _ j1
    have hn : (tD τ g).2.1.length ≤ 120 := hq4.1.1
    obtain ⟨k1, k2, k3⟩ := inI_j hp.2 (by omega)
    refine aw_aload0 X dX9_isCopy_13 ?_
    refine aw_get X fX9_45 dX9_isCopy_14 (h1.at) rfl ?_
    refine aw_bipush X dX9_isCopy_17 (v := nI 120) (by decide) ?_
    refine aw_iload1 X dX9_isCopy_19 ?_
    refine aw_imul X dX9_isCopy_20 ?_
    refine aw_iload2 X dX9_isCopy_21 ?_
    refine aw_iadd X dX9_isCopy_22 ?_
    refine aw_int (ix_add2 j2 k2) ?_
    refine aw_zald X dX9_isCopy_23 (h1.az 12 rfl) rfl (by omega) (by decide) ?_
    refine aw_int ((hq4.2.2.2.2.1 _ k1).1) ?_
    refine aw_ifeq X dX9_isCopy_24 (tgt := 31) (by decide) (fun c2 => ?_) (fun c2 => ?_)
    · have e1 := b2i_0.mp c2
      refine aw_iconst X dX9_isCopy_31 (v := nI 0) (by decide) ?_
      refine aw_ireturn X (ty := .boolean) hr (by first | rfl | decide | assumption) dX9_isCopy_32 (MP.of (by rw [spIsCopy, if_pos hp, show b2i (tI τ g b).1 = nI 0 by rw [show (tI τ g b).1 = false from e1]; rfl]) h1 hr0.t (by rw [va_up_self, if_pos hp]))
    · have e1 : (tI τ g b).1 = true := by
        cases hx : (tI τ g b).1 with
        | true => rfl
        | false => exact absurd (b2i_0.mpr hx) c2
      refine aw_iconst X dX9_isCopy_27 (v := nI 1) (by decide) ?_
      refine aw_goto X dX9_isCopy_28 (tgt := 32) (by decide) ?_
      refine aw_ireturn X (ty := .boolean) hr (by first | rfl | decide | assumption) dX9_isCopy_32 (MP.of (by rw [spIsCopy, if_pos hp, show b2i (tI τ g b).1 = nI 1 by rw [e1]; rfl]) h1 hr0.t (by rw [va_up_self, if_pos hp]))
