theorem c_X9_heldBy {l : Launch} {G : AG} {M0 M : AM} {y t : Nat} {τ : TS} {g : Int32} (hm : isMD G M0 M y τ t) : Cn l G yX9_heldBy cX9_heldBy 2 (some .int) rX9_heldBy M [.ref y, .int g] (MP Value.int G M y (spHeldBy τ g)) := by
  obtain ⟨A, S, c, h0, hr0, -⟩ := hm
  have h := h0.base
  obtain ⟨⟨q0, q1⟩, q2, q3, q4, ⟨q5, q6⟩, q7, -⟩ := id hr0
  refine Cn.of (by decide) [some (.ref y), some (.int g)] rfl (Nat.le_of_ble_eq_true rfl) ?_
  intro Z hZ
  obtain ⟨rfl, hn, rfl, hR, X, hr, hnm⟩ := hZ
  refine aw_aload0 X dX9_heldBy_0 ?_
  refine aw_aload0 X dX9_heldBy_1 ?_
  refine aw_iload1 X dX9_heldBy_2 ?_
  refine aw_callV X (c_X9_isVersion h q5) kX9_196 (ci := 10) rfl (h.at) dX9_heldBy_3 rfl rfl (by first | decide | exact Nat.le_of_ble_eq_true rfl) (by rw [hR]; exact ⟨by first | decide | exact Nat.le_of_ble_eq_true rfl | (dsimp only; omega), by first | decide | exact Nat.le_of_ble_eq_true rfl | (dsimp only; omega)⟩) (by rw [hR]; exact ⟨by first | decide | exact Nat.le_of_ble_eq_true rfl | (dsimp only; omega), by first | decide | exact Nat.le_of_ble_eq_true rfl | (dsimp only; omega)⟩) (fun v M1 hv => ?_)
  obtain ⟨rfl, rfl⟩ := hv
  refine aw_callV X (c_X9_may h) kX9_106 (ci := 10) rfl (h.at) dX9_heldBy_6 rfl rfl (by first | decide | exact Nat.le_of_ble_eq_true rfl) (by rw [hR]; exact ⟨by first | decide | exact Nat.le_of_ble_eq_true rfl | (dsimp only; omega), by first | decide | exact Nat.le_of_ble_eq_true rfl | (dsimp only; omega)⟩) (by rw [hR]; exact ⟨by first | decide | exact Nat.le_of_ble_eq_true rfl | (dsimp only; omega), by first | decide | exact Nat.le_of_ble_eq_true rfl | (dsimp only; omega)⟩) (fun v M2 hv => ?_)
  obtain ⟨rfl, h1⟩ := hv
  refine aw_ifeq X dX9_heldBy_9 (tgt := 20) (by decide) (fun c1 => ?_) (fun c1 => ?_)
  · have hp := am_bz.mp c1
    refine aw_iconst X dX9_heldBy_20 (v := nI 0) (by decide) ?_
    refine aw_ireturn X (ty := .int) hr (by first | rfl | decide | assumption) dX9_heldBy_21 (MP.of (by rw [spHeldBy, if_neg hp]; rfl) h1 hr0.t (by rw [va_up_self, if_neg hp]))
  · have hp : inI g (tN τ) := Decidable.byContradiction (fun e => c1 (am_bz.mpr e))
    obtain ⟨j1, j2, j3⟩ := inI_j hp (by omega)
    refine aw_aload0 X dX9_heldBy_12 ?_
    refine aw_iload1 X dX9_heldBy_13 ?_
    rw [show (Value.int g) = .int (nI (ix g)) from congrArg Value.int j2]
    refine aw_callV X (c_X9_heldOf h1 (by omega) (q7 (ix g) (by omega))) kX9_202 (ci := 10) rfl (h1.at) dX9_heldBy_14 rfl rfl (by first | decide | exact Nat.le_of_ble_eq_true rfl) (by rw [hR]; exact ⟨by first | decide | exact Nat.le_of_ble_eq_true rfl | (dsimp only; omega), by first | decide | exact Nat.le_of_ble_eq_true rfl | (dsimp only; omega)⟩) (by rw [hR]; exact ⟨by first | decide | exact Nat.le_of_ble_eq_true rfl | (dsimp only; omega), by first | decide | exact Nat.le_of_ble_eq_true rfl | (dsimp only; omega)⟩) (fun v M3 hv => ?_)
    obtain ⟨rfl, rfl⟩ := hv
    refine aw_goto X dX9_heldBy_17 (tgt := 21) (by decide) ?_
    refine aw_ireturn X (ty := .int) hr (by first | rfl | decide | assumption) dX9_heldBy_21 (MP.of (by rw [spHeldBy, if_pos hp]) h1 hr0.t (by rw [va_up_self, if_pos hp]))
theorem pRel.st {A : MA} {p : Nat} {P : Option (List (List Int32))} (h : pRel A p P) : A 23 p = if P.isSome then nI 1 else nI 0 := by
  cases P with
  | none => exact h
  | some l => exact h.1
theorem c_X9_isThere {l : Launch} {G : AG} {M0 M : AM} {y : Nat} {A : MA} {S : Nat → Int64} {c : Nat → Int32} {τ : TS} {f : Int32} (h : md G M0 M y A S c) (hr0 : mRel A S c τ) : Cn l G yX9_isThere cX9_isThere 2 (some .boolean) rX9_isThere M [.ref y, .int f] (fun v M' => M' = M ∧ v = some (.int (am_b (isP τ f)))) := by
  obtain ⟨-, -, -, -, -, -, -, q8⟩ := hr0
  refine Cn.of (by decide) [some (.ref y), some (.int f)] rfl (Nat.le_of_ble_eq_true rfl) ?_
  intro Z hZ
  obtain ⟨rfl, hn, rfl, hR, X, hr, hnm⟩ := hZ
  refine aw_iload1 X dX9_isThere_0 ?_
  refine aw_iflt X dX9_isThere_1 (tgt := 23) (by decide) (fun c1 => ?_) (fun c1 => ?_)
  · refine aw_iconst X dX9_isThere_23 (v := nI 0) (by decide) ?_
    refine aw_ireturn X (ty := .boolean) hr (by first | rfl | decide | assumption) dX9_isThere_24 (⟨rfl, by rw [am_b0 (fun e => e.1.1 c1)]⟩)
  · refine aw_iload1 X dX9_isThere_4 ?_
    refine aw_bipush X dX9_isThere_5 (v := nI 12) (by decide) ?_
    refine aw_icmpge X dX9_isThere_7 (tgt := 23) (by decide) (fun c2 => ?_) (fun c2 => ?_)
    · refine aw_iconst X dX9_isThere_23 (v := nI 0) (by decide) ?_
      refine aw_ireturn X (ty := .boolean) hr (by first | rfl | decide | assumption) dX9_isThere_24 (⟨rfl, by rw [am_b0 (fun e => Int32.lt_irrefl (Int32.lt_of_lt_of_le e.1.2 c2))]⟩)
    · have hp : inI f 12 := ⟨c1, Int32.not_le.mp c2⟩
      obtain ⟨j1, j2, j3⟩ := inI_j hp (by omega)
      refine aw_aload0 X dX9_isThere_10 ?_
      refine aw_get X fX9_88 dX9_isThere_11 (h.at) rfl ?_
      refine aw_iload1 X dX9_isThere_14 ?_
      refine aw_zald X dX9_isThere_15 (h.az 23 rfl) j2 (by omega) (by decide) ?_
      refine aw_int ((q8 (ix f) j1).st) ?_
      by_cases hs : (τ.2.2.2.2.2 (ix f)).isSome = true
      · rw [if_pos hs]
        refine aw_ifeq X dX9_isThere_16 (tgt := 23) (by decide) (fun c9 => by first | exact absurd ((by decide : ¬ nI 1 = 0)) c9 | exact absurd c9 ((by decide : ¬ nI 1 = 0))) (fun _ => ?_)
        refine aw_iconst X dX9_isThere_19 (v := nI 1) (by decide) ?_
        refine aw_goto X dX9_isThere_20 (tgt := 24) (by decide) ?_
        refine aw_ireturn X (ty := .boolean) hr (by first | rfl | decide | assumption) dX9_isThere_24 (⟨rfl, by rw [am_b1 ⟨hp, hs⟩]⟩)
      · rw [if_neg hs]
        refine aw_ifeq X dX9_isThere_16 (tgt := 23) (by decide) (fun _ => ?_) (fun c9 => by first | exact absurd ((rfl : nI 0 = 0)) c9 | exact absurd c9 ((rfl : nI 0 = 0)))
        refine aw_iconst X dX9_isThere_23 (v := nI 0) (by decide) ?_
        refine aw_ireturn X (ty := .boolean) hr (by first | rfl | decide | assumption) dX9_isThere_24 (⟨rfl, by rw [am_b0 (fun e => hs e.2)]⟩)
theorem c_X9_parts {l : Launch} {G : AG} {M0 M : AM} {y t : Nat} {τ : TS} {f : Int32} (hm : isMD G M0 M y τ t) : Cn l G yX9_parts cX9_parts 2 (some .int) rX9_parts M [.ref y, .int f] (MP Value.int G M y (spParts τ f)) := by
  obtain ⟨A, S, c, h0, hr0, -⟩ := hm
  have h := h0.base
  have q8 := hr0.2.2.2.2.2.2.2
  refine Cn.of (by decide) [some (.ref y), some (.int f)] rfl (Nat.le_of_ble_eq_true rfl) ?_
  intro Z hZ
  obtain ⟨rfl, hn, rfl, hR, X, hr, hnm⟩ := hZ
  refine aw_aload0 X dX9_parts_0 ?_
  refine aw_aload0 X dX9_parts_1 ?_
  refine aw_iload1 X dX9_parts_2 ?_
  refine aw_callV X (c_X9_isThere h hr0) kX9_208 (ci := 10) rfl (h.at) dX9_parts_3 rfl rfl (by first | decide | exact Nat.le_of_ble_eq_true rfl) (by rw [hR]; exact ⟨by first | decide | exact Nat.le_of_ble_eq_true rfl | (dsimp only; omega), by first | decide | exact Nat.le_of_ble_eq_true rfl | (dsimp only; omega)⟩) (by rw [hR]; exact ⟨by first | decide | exact Nat.le_of_ble_eq_true rfl | (dsimp only; omega), by first | decide | exact Nat.le_of_ble_eq_true rfl | (dsimp only; omega)⟩) (fun v M1 hv => ?_)
  obtain ⟨rfl, rfl⟩ := hv
  refine aw_callV X (c_X9_may h) kX9_106 (ci := 10) rfl (h.at) dX9_parts_6 rfl rfl (by first | decide | exact Nat.le_of_ble_eq_true rfl) (by rw [hR]; exact ⟨by first | decide | exact Nat.le_of_ble_eq_true rfl | (dsimp only; omega), by first | decide | exact Nat.le_of_ble_eq_true rfl | (dsimp only; omega)⟩) (by rw [hR]; exact ⟨by first | decide | exact Nat.le_of_ble_eq_true rfl | (dsimp only; omega), by first | decide | exact Nat.le_of_ble_eq_true rfl | (dsimp only; omega)⟩) (fun v M2 hv => ?_)
  obtain ⟨rfl, h1⟩ := hv
  refine aw_ifeq X dX9_parts_9 (tgt := 21) (by decide) (fun c1 => ?_) (fun c1 => ?_)
  · have hp := am_bz.mp c1
    refine aw_iconst X dX9_parts_21 (v := nI 0) (by decide) ?_
    refine aw_ireturn X (ty := .int) hr (by first | rfl | decide | assumption) dX9_parts_22 (MP.of (by rw [spParts, if_neg hp]; rfl) h1 hr0.t (by rw [va_up_self, if_neg hp]))
  · have hp : isP τ f := Decidable.byContradiction (fun e => c1 (am_bz.mpr e))
    obtain ⟨j1, j2, j3⟩ := inI_j hp.1 (by omega)
    obtain ⟨m, hm9⟩ := Option.isSome_iff_exists.mp hp.2
    have hq := q8 (ix f) j1
    rw [show τ.2.2.2.2.2 (ix f) = some m from hm9] at hq
    have hL : tL τ f = m := by show (tP τ f).getD [] = m; rw [hm9]; rfl
    refine aw_aload0 X dX9_parts_12 ?_
    refine aw_get X fX9_91 dX9_parts_13 (h1.at) rfl ?_
    refine aw_iload1 X dX9_parts_16 ?_
    refine aw_iald X dX9_parts_17 (h1.ai 24 rfl) j2 (by omega) (by decide) ?_
    refine aw_int hq.2.2.1 ?_
    refine aw_goto X dX9_parts_18 (tgt := 22) (by decide) ?_
    refine aw_ireturn X (ty := .int) hr (by first | rfl | decide | assumption) dX9_parts_22 (MP.of (by rw [spParts, if_pos hp, hL]) h1 hr0.t (by rw [va_up_self, if_pos hp]))
theorem c_X9_papers {l : Launch} {G : AG} {M0 M : AM} {y t : Nat} {τ : TS} (hm : isMD G M0 M y τ t) : Cn l G yX9_papers cX9_papers 3 (some .int) rX9_papers M [.ref y] (MP Value.int G M y (spPapers τ)) := by
  obtain ⟨A, S, c, h0, hr0, -⟩ := hm
  have h := h0.base
  have q8 := hr0.2.2.2.2.2.2.2
  refine Cn.of (by decide) [some (.ref y), none, none] rfl (Nat.le_of_ble_eq_true rfl) ?_
  intro Z hZ
  obtain ⟨rfl, hn, rfl, hR, X, hr, hnm⟩ := hZ
  refine aw_aload0 X dX9_papers_0 ?_
  refine aw_iconst X dX9_papers_1 (v := nI 0) (by decide) ?_
  refine aw_mput35 X pX9_100 dX9_papers_2 h (fun M1 h1 => ?_)
  refine aw_iconst X dX9_papers_5 (v := nI 0) (by decide) ?_
  refine aw_istore1 X dX9_papers_6 (by rw [hn]; decide) rfl ?_
  refine aw_iconst X dX9_papers_7 (v := nI 0) (by decide) ?_
  refine aw_istore2 X dX9_papers_8 (by rw [hn]; decide) rfl ?_
  refine aw_loop (σ := Nat) (fun i => i ≤ 12) (fun i => 12 - i) (fun _ => M1) (fun i => [some (.ref y), some (.int (nI (papN τ.2.2.2.2.2 i))), some (.int (nI i))]) ?_ 0 (Nat.zero_le _)
  intro i hi ih
  dsimp only at hi ih ⊢
  refine aw_iload2 X dX9_papers_9 ?_
  refine aw_bipush X dX9_papers_10 (v := nI 12) (by decide) ?_
  refine aw_icmpge X dX9_papers_12 (tgt := 38) (by decide) (fun c => ?_) (fun c => ?_)
  · have e : i = 12 := by have := (nI_leI (by omega) (by omega)).mp c; omega
    subst e
    refine aw_iload1 X dX9_papers_38 ?_
    refine aw_ireturn X (ty := .int) hr (by first | rfl | decide | assumption) dX9_papers_39 (MP.of (k := 0) rfl h1 hr0.t (va_up_self _ _ _))
  · have hlt : i < 12 := by
      rcases Nat.lt_or_ge i 12 with q | q
      · exact q
      · exact absurd (nI_le q (by omega)) c
    have q := ih (i + 1) hlt (by omega)
    refine aw_iload1 X dX9_papers_15 ?_
    refine aw_aload0 X dX9_papers_16 ?_
    refine aw_get X fX9_88 dX9_papers_17 (h1.at) rfl ?_
    refine aw_iload2 X dX9_papers_20 ?_
    refine aw_zald X dX9_papers_21 (h1.az 23 rfl) rfl (by omega) (by decide) ?_
    refine aw_int ((q8 i hlt).st) ?_
    by_cases hs : (τ.2.2.2.2.2 i).isSome = true
    · rw [if_pos hs]
      have e5 : papN τ.2.2.2.2.2 (i + 1) = papN τ.2.2.2.2.2 i + 1 := by rw [papN, if_pos hs]
      rw [e5] at q
      refine aw_ifeq X dX9_papers_22 (tgt := 29) (by decide) (fun c9 => by first | exact absurd ((by decide : ¬ nI 1 = 0)) c9 | exact absurd c9 ((by decide : ¬ nI 1 = 0))) (fun _ => ?_)
      refine aw_iconst X dX9_papers_25 (v := nI 1) (by decide) ?_
      refine aw_goto X dX9_papers_26 (tgt := 30) (by decide) ?_
      refine aw_iadd X dX9_papers_30 ?_
      first | with_reducible refine aw_int (nI_add _ _) ?_ | skip
      refine aw_istore1 X dX9_papers_31 (by rw [hn]; decide) rfl ?_
      refine aw_iinc2 X dX9_papers_32 (by rw [hn]; decide) (am_inc _ 1) rfl ?_
      refine aw_goto X dX9_papers_35 (tgt := 9) (by decide) ?_
      exact q
    · rw [if_neg hs]
      have e5 : papN τ.2.2.2.2.2 (i + 1) = papN τ.2.2.2.2.2 i + 0 := by rw [papN, if_neg hs]
      rw [e5] at q
      refine aw_ifeq X dX9_papers_22 (tgt := 29) (by decide) (fun _ => ?_) (fun c9 => by first | exact absurd ((rfl : nI 0 = 0)) c9 | exact absurd c9 ((rfl : nI 0 = 0)))
      refine aw_iconst X dX9_papers_29 (v := nI 0) (by decide) ?_
      refine aw_iadd X dX9_papers_30 ?_
      first | with_reducible refine aw_int (nI_add _ _) ?_ | skip
      refine aw_istore1 X dX9_papers_31 (by rw [hn]; decide) rfl ?_
      refine aw_iinc2 X dX9_papers_32 (by rw [hn]; decide) (am_inc _ 1) rfl ?_
      refine aw_goto X dX9_papers_35 (tgt := 9) (by decide) ?_
      exact q
