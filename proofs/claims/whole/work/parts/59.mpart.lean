theorem c_X9_isPart {l : Launch} {G : AG} {M0 M : AM} {y : Nat} {A : MA} {S : Nat → Int64} {c : Nat → Int32} {τ : TS} {f k : Int32} (h : md G M0 M y A S c) (hr0 : mRel A S c τ) : Cn l G yX9_isPart cX9_isPart 3 (some .boolean) rX9_isPart M [.ref y, .int f, .int k] (fun v M' => M' = M ∧ v = some (.int (am_b (isK τ f k)))) := by
  have q8 := hr0.2.2.2.2.2.2.2
  refine Cn.of (by decide) [some (.ref y), some (.int f), some (.int k)] rfl (Nat.le_of_ble_eq_true rfl) ?_
  intro Z hZ
  obtain ⟨rfl, hn, rfl, hR, X, hr, hnm⟩ := hZ
  refine aw_aload0 X dX9_isPart_0 ?_
  refine aw_iload1 X dX9_isPart_1 ?_
  refine aw_callV X (c_X9_isThere h hr0) kX9_208 (ci := 10) rfl (h.at) dX9_isPart_2 rfl rfl (by first | decide | exact Nat.le_of_ble_eq_true rfl) (by rw [hR]; exact ⟨by first | decide | exact Nat.le_of_ble_eq_true rfl | (dsimp only; omega), by first | decide | exact Nat.le_of_ble_eq_true rfl | (dsimp only; omega)⟩) (by rw [hR]; exact ⟨by first | decide | exact Nat.le_of_ble_eq_true rfl | (dsimp only; omega), by first | decide | exact Nat.le_of_ble_eq_true rfl | (dsimp only; omega)⟩) (fun v M1 hv => ?_)
  obtain ⟨rfl, rfl⟩ := hv
  refine aw_ifeq X dX9_isPart_5 (tgt := 26) (by decide) (fun c1 => ?_) (fun c1 => ?_)
  · have hp := am_bz.mp c1
    refine aw_iconst X dX9_isPart_26 (v := nI 0) (by decide) ?_
    refine aw_ireturn X (ty := .boolean) hr (by first | rfl | decide | assumption) dX9_isPart_27 (⟨rfl, by rw [am_b0 (fun e => hp e.1)]⟩)
  · have hp : isP τ f := Decidable.byContradiction (fun e => c1 (am_bz.mpr e))
    obtain ⟨j1, j2, j3⟩ := inI_j hp.1 (by omega)
    obtain ⟨m, hm9⟩ := Option.isSome_iff_exists.mp hp.2
    have hq := q8 (ix f) j1
    rw [show τ.2.2.2.2.2 (ix f) = some m from hm9] at hq
    have hL : tL τ f = m := by show (tP τ f).getD [] = m; rw [hm9]; rfl
    refine aw_iload2 X dX9_isPart_8 ?_
    refine aw_iflt X dX9_isPart_9 (tgt := 26) (by decide) (fun c2 => ?_) (fun c2 => ?_)
    · refine aw_iconst X dX9_isPart_26 (v := nI 0) (by decide) ?_
      refine aw_ireturn X (ty := .boolean) hr (by first | rfl | decide | assumption) dX9_isPart_27 (⟨rfl, by rw [am_b0 (fun e => e.2.1 c2)]⟩)
    · refine aw_iload2 X dX9_isPart_12 ?_
      refine aw_aload0 X dX9_isPart_13 ?_
      refine aw_get X fX9_91 dX9_isPart_14 (h.at) rfl ?_
      refine aw_iload1 X dX9_isPart_17 ?_
      refine aw_iald X dX9_isPart_18 (h.ai 24 rfl) j2 (by omega) (by decide) ?_
      refine aw_int hq.2.2.1 ?_
      refine aw_icmpge X dX9_isPart_19 (tgt := 26) (by decide) (fun c3 => ?_) (fun c3 => ?_)
      · refine aw_iconst X dX9_isPart_26 (v := nI 0) (by decide) ?_
        refine aw_ireturn X (ty := .boolean) hr (by first | rfl | decide | assumption) dX9_isPart_27 (⟨rfl, by rw [am_b0 (fun e => Int32.lt_irrefl (Int32.lt_of_lt_of_le (by have := e.2.2; rw [hL] at this; exact this) c3))]⟩)
      · refine aw_iconst X dX9_isPart_22 (v := nI 1) (by decide) ?_
        refine aw_goto X dX9_isPart_23 (tgt := 27) (by decide) ?_
        refine aw_ireturn X (ty := .boolean) hr (by first | rfl | decide | assumption) dX9_isPart_27 (⟨rfl, by rw [am_b1 ⟨hp, c2, by rw [hL]; exact Int32.not_le.mp c3⟩]⟩)
theorem c_X9_partLength {l : Launch} {G : AG} {M0 M : AM} {y t : Nat} {τ : TS} {f k : Int32} (hm : isMD G M0 M y τ t) : Cn l G yX9_partLength cX9_partLength 3 (some .int) rX9_partLength M [.ref y, .int f, .int k] (MP Value.int G M y (spPartLen τ f k)) := by
  obtain ⟨A, S, c, h0, hr0, -⟩ := hm
  have h := h0.base
  have q8 := hr0.2.2.2.2.2.2.2
  refine Cn.of (by decide) [some (.ref y), some (.int f), some (.int k)] rfl (Nat.le_of_ble_eq_true rfl) ?_
  intro Z hZ
  obtain ⟨rfl, hn, rfl, hR, X, hr, hnm⟩ := hZ
  refine aw_aload0 X dX9_partLength_0 ?_
  refine aw_aload0 X dX9_partLength_1 ?_
  refine aw_iload1 X dX9_partLength_2 ?_
  refine aw_iload2 X dX9_partLength_3 ?_
  refine aw_callV X (c_X9_isPart h hr0) kX9_222 (ci := 10) rfl (h.at) dX9_partLength_4 rfl rfl (by first | decide | exact Nat.le_of_ble_eq_true rfl) (by rw [hR]; exact ⟨by first | decide | exact Nat.le_of_ble_eq_true rfl | (dsimp only; omega), by first | decide | exact Nat.le_of_ble_eq_true rfl | (dsimp only; omega)⟩) (by rw [hR]; exact ⟨by first | decide | exact Nat.le_of_ble_eq_true rfl | (dsimp only; omega), by first | decide | exact Nat.le_of_ble_eq_true rfl | (dsimp only; omega)⟩) (fun v M1 hv => ?_)
  obtain ⟨rfl, rfl⟩ := hv
  refine aw_callV X (c_X9_may h) kX9_106 (ci := 10) rfl (h.at) dX9_partLength_7 rfl rfl (by first | decide | exact Nat.le_of_ble_eq_true rfl) (by rw [hR]; exact ⟨by first | decide | exact Nat.le_of_ble_eq_true rfl | (dsimp only; omega), by first | decide | exact Nat.le_of_ble_eq_true rfl | (dsimp only; omega)⟩) (by rw [hR]; exact ⟨by first | decide | exact Nat.le_of_ble_eq_true rfl | (dsimp only; omega), by first | decide | exact Nat.le_of_ble_eq_true rfl | (dsimp only; omega)⟩) (fun v M2 hv => ?_)
  obtain ⟨rfl, h1⟩ := hv
  refine aw_ifeq X dX9_partLength_10 (tgt := 27) (by decide) (fun c1 => ?_) (fun c1 => ?_)
  · have hp := am_bz.mp c1
    refine aw_iconst X dX9_partLength_27 (v := nI 0) (by decide) ?_
    refine aw_ireturn X (ty := .int) hr (by first | rfl | decide | assumption) dX9_partLength_28 (MP.of (by rw [spPartLen, if_neg hp]; rfl) h1 hr0.t (by rw [va_up_self, if_neg hp]))
  · have hp : isK τ f k := Decidable.byContradiction (fun e => c1 (am_bz.mpr e))
    obtain ⟨j1, j2, j3⟩ := inI_j hp.1.1 (by omega)
    obtain ⟨m, hm9⟩ := Option.isSome_iff_exists.mp hp.1.2
    have hq := q8 (ix f) j1
    rw [show τ.2.2.2.2.2 (ix f) = some m from hm9] at hq
    have hL : tL τ f = m := by show (tP τ f).getD [] = m; rw [hm9]; rfl
    have hml := hq.2.1.2.1
    have hk9 : inI k m.length := by have := hp.2; rw [hL] at this; exact this
    obtain ⟨k1, k2, k3⟩ := inI_j hk9 (by omega)
    refine aw_aload0 X dX9_partLength_13 ?_
    refine aw_get X fX9_94 dX9_partLength_14 (h1.at) rfl ?_
    refine aw_bipush X dX9_partLength_17 (v := nI 120) (by decide) ?_
    refine aw_iload1 X dX9_partLength_19 ?_
    refine aw_imul X dX9_partLength_20 ?_
    refine aw_iload2 X dX9_partLength_21 ?_
    refine aw_iadd X dX9_partLength_22 ?_
    refine aw_int (ix_add2 j2 k2) ?_
    refine aw_iald X dX9_partLength_23 (h1.ai 25 rfl) rfl (by omega) (by decide) ?_
    refine aw_int (hq.2.2.2.1 _ k1) ?_
    refine aw_goto X dX9_partLength_24 (tgt := 28) (by decide) ?_
    refine aw_ireturn X (ty := .int) hr (by first | rfl | decide | assumption) dX9_partLength_28 (MP.of (by rw [spPartLen, if_pos hp, hL]) h1 hr0.t (by rw [va_up_self, if_pos hp]))
