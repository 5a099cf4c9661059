theorem c_X9_costOf {l : Launch} {G : AG} {M0 M : AM} {y d : Nat} {A : MA} {S : Nat → Int64} {c : Nat → Int32} {D : DL} (h : md G M0 M y A S c) (hd : d < 24) (hD : dlRel A d D) : Cn l G yX9_costOf cX9_costOf 4 (some .int) rX9_costOf M [.ref y, .int (nI d)] (fun v M' => M' = M ∧ v = some (.int (nI (price D.2.1)))) := by
  obtain ⟨v0, v1, v2, v3, v4, v5⟩ := hD
  have hl := v0.1
  refine Cn.of (by decide) [some (.ref y), some (.int (nI d)), none, none] rfl (Nat.le_of_ble_eq_true rfl) ?_
  intro Z hZ
  obtain ⟨rfl, hn, rfl, hR, X, hr, hnm⟩ := hZ
  refine aw_iconst X dX9_costOf_0 (v := nI 0) (by decide) ?_
  refine aw_istore2 X dX9_costOf_1 (by rw [hn]; decide) rfl ?_
  refine aw_bipush X dX9_costOf_2 (v := nI 120) (by decide) ?_
  refine aw_iload1 X dX9_costOf_4 ?_
  refine aw_imul X dX9_costOf_5 ?_
  first | with_reducible refine aw_int (pk_mul _ _) ?_ | skip
  refine aw_istore3 X dX9_costOf_6 (by rw [hn]; decide) rfl ?_
  refine aw_loop (σ := Nat) (fun i => i ≤ D.2.1.length) (fun i => D.2.1.length - i) (fun _ => M) (fun i => [some (.ref y), some (.int (nI d)), some (.int (nI (pr D.2.1 i))), some (.int (nI (120 * d + i)))]) ?_ 0 (Nat.zero_le _)
  rintro i hi ih
  dsimp only at hi ih ⊢
  refine aw_iload3 X dX9_costOf_7 ?_
  refine aw_bipush X dX9_costOf_8 (v := nI 120) (by decide) ?_
  refine aw_iload1 X dX9_costOf_10 ?_
  refine aw_imul X dX9_costOf_11 ?_
  first | with_reducible refine aw_int (pk_mul _ _) ?_ | skip
  refine aw_aload0 X dX9_costOf_12 ?_
  refine aw_get X fX9_39 dX9_costOf_13 (h.at) rfl ?_
  refine aw_iload1 X dX9_costOf_16 ?_
  refine aw_iald X dX9_costOf_17 (h.ai 10 rfl) rfl (by omega) (by decide) ?_
  refine aw_int v2 ?_
  refine aw_iadd X dX9_costOf_18 ?_
  first | with_reducible refine aw_int (nI_add _ _) ?_ | skip
  refine aw_icmpge X dX9_costOf_19 (tgt := 52) (by decide) (fun c3 => ?_) (fun c3 => ?_)
  · have e : i = D.2.1.length := by have := (nI_leI (by omega) (by omega)).mp c3; omega
    subst e
    refine aw_iload2 X dX9_costOf_52 ?_
    refine aw_ireturn X (ty := .int) hr (by first | rfl | decide | assumption) dX9_costOf_53 (⟨rfl, rfl⟩)
  · have hlt : i < D.2.1.length := by
      rcases Nat.lt_or_ge i D.2.1.length with q | q
      · exact q
      · exact absurd (nI_le (by omega) (by omega)) c3
    obtain ⟨u1, u2, u3⟩ := v4 i hlt
    refine aw_iload2 X dX9_costOf_22 ?_
    refine aw_aload0 X dX9_costOf_23 ?_
    refine aw_get X fX9_45 dX9_costOf_24 (h.at) rfl ?_
    refine aw_iload3 X dX9_costOf_27 ?_
    refine aw_zald X dX9_costOf_28 (h.az 12 rfl) rfl (by omega) (by decide) ?_
    refine aw_int u1 ?_
    have q := ih (i + 1) hlt (by omega)
    refine aw_ifeq X dX9_costOf_29 (tgt := 36) (by decide) (fun c2 => ?_) (fun c2 => ?_)
    · have e4 := b2i_0.mp c2
      refine aw_iconst X dX9_costOf_36 (v := nI 1) (by decide) ?_
      refine aw_aload0 X dX9_costOf_37 ?_
      refine aw_get X fX9_51 dX9_costOf_38 (h.at) rfl ?_
      refine aw_iload3 X dX9_costOf_41 ?_
      refine aw_iald X dX9_costOf_42 (h.ai 14 rfl) rfl (by omega) (by decide) ?_
      refine aw_int u3 ?_
      refine aw_iadd X dX9_costOf_43 ?_
      first | with_reducible refine aw_int (nI_add _ _) ?_ | skip
      refine aw_iadd X dX9_costOf_44 ?_
      first | with_reducible refine aw_int (nI_add _ _) ?_ | skip
      refine aw_istore2 X dX9_costOf_45 (by rw [hn]; decide) rfl ?_
      refine aw_iinc3 X dX9_costOf_46 (by rw [hn]; decide) (am_inc _ 1) rfl ?_
      refine aw_goto X dX9_costOf_49 (tgt := 7) (by decide) ?_
      have e5 : pr D.2.1 (i + 1) = pr D.2.1 i + (1 + (D.2.1.getD i dI).2.2) := by rw [pr, e4]; rfl
      rw [e5] at q
      exact q
    · have e4 : (D.2.1.getD i dI).1 = true := by
        cases hx : (D.2.1.getD i dI).1 with
        | true => rfl
        | false => exact absurd (b2i_0.mpr hx) c2
      refine aw_iconst X dX9_costOf_32 (v := nI 3) (by decide) ?_
      refine aw_goto X dX9_costOf_33 (tgt := 44) (by decide) ?_
      refine aw_iadd X dX9_costOf_44 ?_
      first | with_reducible refine aw_int (nI_add _ _) ?_ | skip
      refine aw_istore2 X dX9_costOf_45 (by rw [hn]; decide) rfl ?_
      refine aw_iinc3 X dX9_costOf_46 (by rw [hn]; decide) (am_inc _ 1) rfl ?_
      refine aw_goto X dX9_costOf_49 (tgt := 7) (by decide) ?_
      have e5 : pr D.2.1 (i + 1) = pr D.2.1 i + 3 := by rw [pr, e4]; rfl
      rw [e5] at q
      exact q
theorem c_X9_cost {l : Launch} {G : AG} {M0 M : AM} {y t : Nat} {τ : TS} {g : Int32} (hm : isMD G M0 M y τ t) : Cn l G yX9_cost cX9_cost 2 (some .int) rX9_cost M [.ref y, .int g] (MP Value.int G M y (spCost τ g)) := by
  obtain ⟨A, S, c, h0, hr0, -⟩ := hm
  have h := h0.base
  obtain ⟨⟨q0, q1⟩, q2, q3, q4, -⟩ := id hr0
  refine Cn.of (by decide) [some (.ref y), some (.int g)] rfl (Nat.le_of_ble_eq_true rfl) ?_
  intro Z hZ
  obtain ⟨rfl, hn, rfl, hR, X, hr, hnm⟩ := hZ
  refine aw_aload0 X dX9_cost_0 ?_
  refine aw_iload1 X dX9_cost_1 ?_
  refine aw_callS X (c_X9_isPlace) kX9_142 dX9_cost_2 rfl rfl (by first | decide | exact Nat.le_of_ble_eq_true rfl) (by rw [hR]; exact ⟨by first | decide | exact Nat.le_of_ble_eq_true rfl | (dsimp only; omega), by first | decide | exact Nat.le_of_ble_eq_true rfl | (dsimp only; omega)⟩) (by rw [hR]; exact ⟨by first | decide | exact Nat.le_of_ble_eq_true rfl | (dsimp only; omega), by first | decide | exact Nat.le_of_ble_eq_true rfl | (dsimp only; omega)⟩) (fun v M1 hv => ?_)
  obtain ⟨rfl, rfl⟩ := hv
  refine aw_callV X (c_X9_may h) kX9_106 (ci := 10) rfl (h.at) dX9_cost_5 rfl rfl (by first | decide | exact Nat.le_of_ble_eq_true rfl) (by rw [hR]; exact ⟨by first | decide | exact Nat.le_of_ble_eq_true rfl | (dsimp only; omega), by first | decide | exact Nat.le_of_ble_eq_true rfl | (dsimp only; omega)⟩) (by rw [hR]; exact ⟨by first | decide | exact Nat.le_of_ble_eq_true rfl | (dsimp only; omega), by first | decide | exact Nat.le_of_ble_eq_true rfl | (dsimp only; omega)⟩) (fun v M2 hv => ?_)
  obtain ⟨rfl, h1⟩ := hv
  refine aw_ifeq X dX9_cost_8 (tgt := 19) (by decide) (fun c1 => ?_) (fun c1 => ?_)
  · have hp := am_bz.mp c1
    refine aw_iconst X dX9_cost_19 (v := nI 0) (by decide) ?_
    refine aw_ireturn X (ty := .int) hr (by first | rfl | decide | assumption) dX9_cost_20 (MP.of (by rw [spCost, if_neg hp]; rfl) h1 hr0.t (by rw [va_up_self, if_neg hp]))
  · have hp : inI g 4 := Decidable.byContradiction (fun e => c1 (am_bz.mpr e))
    obtain ⟨j1, j2, j3⟩ := inI_j hp (by omega)
    refine aw_aload0 X dX9_cost_11 ?_
    refine aw_iload1 X dX9_cost_12 ?_
    rw [show (Value.int g) = .int (nI (ix g)) from congrArg Value.int j2]
    refine aw_callV X (c_X9_costOf h1 (by omega) (q4 _ j1)) kX9_167 (ci := 10) rfl (h1.at) dX9_cost_13 rfl rfl (by first | decide | exact Nat.le_of_ble_eq_true rfl) (by rw [hR]; exact ⟨by first | decide | exact Nat.le_of_ble_eq_true rfl | (dsimp only; omega), by first | decide | exact Nat.le_of_ble_eq_true rfl | (dsimp only; omega)⟩) (by rw [hR]; exact ⟨by first | decide | exact Nat.le_of_ble_eq_true rfl | (dsimp only; omega), by first | decide | exact Nat.le_of_ble_eq_true rfl | (dsimp only; omega)⟩) (fun v M3 hv => ?_)
    obtain ⟨rfl, rfl⟩ := hv
    refine aw_goto X dX9_cost_16 (tgt := 20) (by decide) ?_
    refine aw_ireturn X (ty := .int) hr (by first | rfl | decide | assumption) dX9_cost_20 (MP.of (by rw [spCost, if_pos hp]) h1 hr0.t (by rw [va_up_self, if_pos hp]))
theorem c_X9_versions {l : Launch} {G : AG} {M0 M : AM} {y t : Nat} {τ : TS} (hm : isMD G M0 M y τ t) : Cn l G yX9_versions cX9_versions 1 (some .int) rX9_versions M [.ref y] (MP Value.int G M y (spVersions τ)) := by
  obtain ⟨A, S, c, h0, hr0, -⟩ := hm
  have h := h0.base
  obtain ⟨⟨q0, q1⟩, q2, q3, q4, ⟨q5, q6⟩, -⟩ := id hr0
  refine Cn.of (by decide) [some (.ref y)] rfl (Nat.le_of_ble_eq_true rfl) ?_
  intro Z hZ
  obtain ⟨rfl, hn, rfl, hR, X, hr, hnm⟩ := hZ
  refine aw_aload0 X dX9_versions_0 ?_
  refine aw_iconst X dX9_versions_1 (v := nI 0) (by decide) ?_
  refine aw_mput35 X pX9_100 dX9_versions_2 h (fun M1 h1 => ?_)
  refine aw_aload0 X dX9_versions_5 ?_
  refine aw_get X fX9_180 dX9_versions_6 (h1.at) rfl ?_
  refine aw_int (y := nI (tN τ)) q5 ?_
  refine aw_ireturn X (ty := .int) hr (by first | rfl | decide | assumption) dX9_versions_9 (MP.of (k := 0) rfl h1 hr0.t (va_up_self _ _ _))
