/-! the model's calls on files -/
theorem md.base {G : AG} {M0 M : AM} {y : Nat} {A : MA} {S : Nat → Int64} {c : Nat → Int32} (h : md G M0 M y A S c) : md G M M y A S c := ⟨h.1, h.2.1, h.2.2.1, h.2.2.2.1, KE.rf⟩
theorem mRel.t {A : MA} {S : Nat → Int64} {c : Nat → Int32} {τ : TS} {v : Int32} (h : mRel A S c τ) : mRel A S (va_up c 35 v) τ := h
theorem flRel.cg {A A' : MA} {i : Nat} {bs : List Int32} (h : flRel A i bs) (h1 : A' 1 = A 1) (h2 : A' 2 = A 2) : flRel A' i bs := by
  unfold flRel at h ⊢
  rw [h1, h2]
  exact h
theorem sgRel.cg {A A' : MA} {S : Nat → Int64} {i : Nat} {s : SG} (h : sgRel A S i s) (hA : ∀ a, 3 ≤ a → a ≤ 7 → A' a = A a) : sgRel A' S i s := by
  unfold sgRel at h ⊢
  rw [hA 3 (by omega) (by omega), hA 4 (by omega) (by omega), hA 5 (by omega) (by omega), hA 6 (by omega) (by omega), hA 7 (by omega) (by omega)]
  exact h
theorem dlRel.cg {A A' : MA} {i : Nat} {D : DL} (h : dlRel A i D) (hA : ∀ a, 9 ≤ a → a ≤ 15 → A' a = A a) : dlRel A' i D := by
  unfold dlRel at h ⊢
  rw [hA 9 (by omega) (by omega), hA 10 (by omega) (by omega), hA 11 (by omega) (by omega), hA 12 (by omega) (by omega), hA 13 (by omega) (by omega), hA 14 (by omega) (by omega), hA 15 (by omega) (by omega)]
  exact h
theorem vRel.cg {A A' : MA} {i : Nat} {V : VK} (h : vRel A i V) (hA : ∀ a, 9 ≤ a → a ≤ 19 → A' a = A a) : vRel A' i V := by
  cases V with
  | none =>
    show A' 16 i = nI 0
    rw [hA 16 (by omega) (by omega)]
    exact h
  | some w =>
    cases w with
    | inl bs =>
      obtain ⟨h1, h2, h3, h4⟩ := h
      exact ⟨by rw [hA 16 (by omega) (by omega)]; exact h1, h2, by rw [hA 18 (by omega) (by omega)]; exact h3, by rw [hA 19 (by omega) (by omega)]; exact h4⟩
    | inr q =>
      obtain ⟨b, D⟩ := q
      obtain ⟨h1, h2, h3, h4⟩ := h
      exact ⟨by rw [hA 16 (by omega) (by omega)]; exact h1, by rw [hA 17 (by omega) (by omega)]; exact h2, h3, h4.cg (fun a x1 x2 => hA a x1 (by omega))⟩
theorem pRel.cg {A A' : MA} {i : Nat} {P : Option (List (List Int32))} (h : pRel A i P) (hA : ∀ a, 23 ≤ a → a ≤ 26 → A' a = A a) : pRel A' i P := by
  cases P with
  | none =>
    show A' 23 i = nI 0
    rw [hA 23 (by omega) (by omega)]
    exact h
  | some l =>
    obtain ⟨h1, h2, h3, h4, h5⟩ := h
    exact ⟨by rw [hA 23 (by omega) (by omega)]; exact h1, h2, by rw [hA 24 (by omega) (by omega)]; exact h3, by rw [hA 25 (by omega) (by omega)]; exact h4, by rw [hA 26 (by omega) (by omega)]; exact h5⟩
theorem mRel.file {A A' : MA} {S : Nat → Int64} {c : Nat → Int32} {τ : TS} {i : Nat} {bs : List Int32} (h : mRel A S c τ) (hA : ∀ a, 3 ≤ a → a ≤ 26 → A' a = A a) (h1 : ∀ j, j ≠ i → A' 1 j = A 1 j) (h2 : ∀ k, k < 120 * i ∨ 120 * i + 120 ≤ k → A' 2 k = A 2 k) (hf : flRel A' i bs) : mRel A' S c ((τ.1.1, va_up τ.1.2 i bs), τ.2) := by
  obtain ⟨r1, r2, r3, r4, r5, r6, r7, r8⟩ := h
  refine ⟨r1, fun j hj => ?_, fun j hj => (r3 j hj).cg (fun a x1 x2 => hA a x1 (by omega)), fun j hj => (r4 j hj).cg (fun a x1 x2 => hA a (by omega) (by omega)), r5, fun v hv => (r6 v hv).cg (fun a x1 x2 => hA a (by omega) (by omega)), r7, fun p hp => (r8 p hp).cg (fun a x1 x2 => hA a (by omega) (by omega))⟩
  show flRel A' j (va_up τ.1.2 i bs j)
  by_cases e : j = i
  · subst e
    rw [va_up_self]
    exact hf
  · rw [va_up_ne _ _ e]
    obtain ⟨q1, q2, q3⟩ := r2 j hj
    refine ⟨q1, by rw [h1 j e]; exact q2, fun k hk => ?_⟩
    rw [h2 _ (by omega)]
    exact q3 k hk
theorem MP.of {α : Type} {w : α → Value} {G : AG} {M M' : AM} {y k : Nat} {sp : Nat × α × TS} {r : α} {τ' : TS} {A : MA} {S : Nat → Int64} {c : Nat → Int32} (e : sp = (k, r, τ')) (h : md G M M' y A S c) (hr : mRel A S c τ') (ht : c 35 = nI k) : MP w G M y sp (some (w r)) M' := by
  subst e
  exact ⟨rfl, A, S, c, h, hr, ht⟩
theorem MPv.of {G : AG} {M M' : AM} {y k : Nat} {sp : OUT} {r : Int32} {τ' : TS} {A : MA} {S : Nat → Int64} {c : Nat → Int32} (e : sp = (k, r, τ')) (h : md G M M' y A S c) (hr : mRel A S c τ') (ht : c 35 = nI k) : MPv G M y sp none M' := by
  subst e
  exact ⟨rfl, A, S, c, h, hr, ht⟩
theorem c_X9_file {l : Launch} {G : AG} {M0 M : AM} {y t : Nat} {τ : TS} (hm : isMD G M0 M y τ t) : Cn l G yX9_file cX9_file 1 (some .int) rX9_file M [.ref y] (MP Value.int G M y (spFile τ)) := by
  obtain ⟨A, S, c, h0, hr0, -⟩ := hm
  have h := h0.base
  obtain ⟨⟨q0, q1⟩, -⟩ := id hr0
  refine Cn.of (by decide) [some (.ref y)] rfl (Nat.le_of_ble_eq_true rfl) ?_
  intro Z hZ
  obtain ⟨rfl, hn, rfl, hR, X, hr, hnm⟩ := hZ
  refine aw_aload0 X dX9_file_0 ?_
  refine aw_aload0 X dX9_file_1 ?_
  refine aw_get X fX9_103 dX9_file_2 (h.at) rfl ?_
  refine aw_int q0 ?_
  refine aw_bipush X dX9_file_5 (v := nI 6) (by decide) ?_
  refine aw_merge (τ.1.1 < 6) 15 [some (.ref y)] [.ref y] ?_ (fun K => ?_)
  · refine aw_callV X (c_X9_may h) kX9_106 (ci := 10) rfl (h.at) dX9_file_15 rfl rfl (by first | decide | exact Nat.le_of_ble_eq_true rfl) (by rw [hR]; exact ⟨by first | decide | exact Nat.le_of_ble_eq_true rfl | (dsimp only; omega), by first | decide | exact Nat.le_of_ble_eq_true rfl | (dsimp only; omega)⟩) (by rw [hR]; exact ⟨by first | decide | exact Nat.le_of_ble_eq_true rfl | (dsimp only; omega), by first | decide | exact Nat.le_of_ble_eq_true rfl | (dsimp only; omega)⟩) (fun v M1 hv => ?_)
    obtain ⟨rfl, h1⟩ := hv
    refine aw_ifne X dX9_file_18 (tgt := 23) (by decide) (fun c1 => ?_) (fun c1 => ?_)
    · have hp : τ.1.1 < 6 := Decidable.byContradiction (fun e => c1 (am_bz.mpr e))
      refine aw_aload0 X dX9_file_23 ?_
      refine aw_dup X dX9_file_24 rfl ?_
      refine aw_get X fX9_103 dX9_file_25 (h1.at) rfl ?_
      refine aw_int (y := nI τ.1.1) q0 ?_
      refine aw_iconst X dX9_file_28 (v := nI 1) (by decide) ?_
      refine aw_iadd X dX9_file_29 ?_
      first | with_reducible refine aw_int (nI_add _ _) ?_ | skip
      refine aw_mput0 X pX9_103 dX9_file_30 h1 (fun M2 h2 => ?_)
      refine aw_aload0 X dX9_file_33 ?_
      refine aw_get X fX9_103 dX9_file_34 (h2.at) rfl ?_
      refine aw_int (y := nI (τ.1.1 + 1)) (va_up_self _ _ _) ?_
      refine aw_iconst X dX9_file_37 (v := nI 1) (by decide) ?_
      refine aw_isub X dX9_file_38 ?_
      first | with_reducible refine aw_int (pk_sub (by omega)) ?_ | skip
      refine aw_ireturn X (ty := .int) hr (by first | rfl | decide | assumption) dX9_file_39 (MP.of (k := 0) (τ' := ((τ.1.1 + 1, τ.1.2), τ.2)) (by rw [spFile, if_pos hp]; rfl) h2 ⟨⟨va_up_self _ _ _, by show τ.1.1 + 1 ≤ 6; omega⟩, hr0.2⟩ (by rw [va_up_ne _ _ (by decide), va_up_self, if_pos hp]))
    · have hp := am_bz.mp c1
      refine aw_iconst X dX9_file_21 (v := nI 0) (by decide) ?_
      refine aw_ireturn X (ty := .int) hr (by first | rfl | decide | assumption) dX9_file_22 (MP.of (by rw [spFile, if_neg hp]; rfl) h1 hr0.t (by rw [va_up_self, if_neg hp]))
  · refine aw_icmpge X dX9_file_7 (tgt := 14) (by decide) (fun c1 => ?_) (fun c1 => ?_)
    · have hp : ¬ τ.1.1 < 6 := fun e => absurd c1 (nI_ge e (by omega))
      refine aw_iconst X dX9_file_14 (v := nI 0) (by decide) ?_
      exact aw_b0 (hp) K
    · have hp : τ.1.1 < 6 := by
        rcases Nat.lt_or_ge τ.1.1 6 with q | q
        · exact q
        · exact absurd (nI_le q (by omega)) c1
      refine aw_iconst X dX9_file_10 (v := nI 1) (by decide) ?_
      refine aw_goto X dX9_file_11 (tgt := 15) (by decide) ?_
      exact aw_b1 (hp) K
theorem c_X9_length {l : Launch} {G : AG} {M0 M : AM} {y t : Nat} {τ : TS} {f : Int32} (hm : isMD G M0 M y τ t) : Cn l G yX9_length cX9_length 2 (some .int) rX9_length M [.ref y, .int f] (MP Value.int G M y (spLength τ f)) := by
  obtain ⟨A, S, c, h0, hr0, -⟩ := hm
  have h := h0.base
  obtain ⟨⟨q0, q1⟩, q2, -⟩ := id hr0
  refine Cn.of (by decide) [some (.ref y), some (.int f)] rfl (Nat.le_of_ble_eq_true rfl) ?_
  intro Z hZ
  obtain ⟨rfl, hn, rfl, hR, X, hr, hnm⟩ := hZ
  refine aw_aload0 X dX9_length_0 ?_
  refine aw_aload0 X dX9_length_1 ?_
  refine aw_iload1 X dX9_length_2 ?_
  refine aw_callV X (c_X9_isFile h q0) kX9_114 (ci := 10) rfl (h.at) dX9_length_3 rfl rfl (by first | decide | exact Nat.le_of_ble_eq_true rfl) (by rw [hR]; exact ⟨by first | decide | exact Nat.le_of_ble_eq_true rfl | (dsimp only; omega), by first | decide | exact Nat.le_of_ble_eq_true rfl | (dsimp only; omega)⟩) (by rw [hR]; exact ⟨by first | decide | exact Nat.le_of_ble_eq_true rfl | (dsimp only; omega), by first | decide | exact Nat.le_of_ble_eq_true rfl | (dsimp only; omega)⟩) (fun v M1 hv => ?_)
  obtain ⟨rfl, rfl⟩ := hv
  refine aw_callV X (c_X9_may h) kX9_106 (ci := 10) rfl (h.at) dX9_length_6 rfl rfl (by first | decide | exact Nat.le_of_ble_eq_true rfl) (by rw [hR]; exact ⟨by first | decide | exact Nat.le_of_ble_eq_true rfl | (dsimp only; omega), by first | decide | exact Nat.le_of_ble_eq_true rfl | (dsimp only; omega)⟩) (by rw [hR]; exact ⟨by first | decide | exact Nat.le_of_ble_eq_true rfl | (dsimp only; omega), by first | decide | exact Nat.le_of_ble_eq_true rfl | (dsimp only; omega)⟩) (fun v M2 hv => ?_)
  obtain ⟨rfl, h1⟩ := hv
  refine aw_ifeq X dX9_length_9 (tgt := 21) (by decide) (fun c1 => ?_) (fun c1 => ?_)
  · have hp : ¬ isF τ f := am_bz.mp c1
    refine aw_iconst X dX9_length_21 (v := nI 0) (by decide) ?_
    refine aw_ireturn X (ty := .int) hr (by first | rfl | decide | assumption) dX9_length_22 (MP.of (by rw [spLength, if_neg hp]; rfl) h1 hr0.t (by rw [va_up_self, if_neg hp]))
  · have hp : isF τ f := Decidable.byContradiction (fun e => c1 (am_bz.mpr e))
    obtain ⟨j1, j2, j3⟩ := inI_j hp (by omega)
    refine aw_aload0 X dX9_length_12 ?_
    refine aw_get X fX9_7 dX9_length_13 (h1.at) rfl ?_
    refine aw_iload1 X dX9_length_16 ?_
    refine aw_iald X dX9_length_17 (h1.ai 1 rfl) j2 (by omega) (by decide) ?_
    refine aw_goto X dX9_length_18 (tgt := 22) (by decide) ?_
    refine aw_int ((q2 (ix f) (by omega)).2.1) ?_
    refine aw_ireturn X (ty := .int) hr (by first | rfl | decide | assumption) dX9_length_22 (MP.of (by rw [spLength, if_pos hp]) h1 hr0.t (by rw [va_up_self, if_pos hp]))
theorem c_X9_byteAt {l : Launch} {G : AG} {M0 M : AM} {y t : Nat} {τ : TS} {f p : Int32} (hm : isMD G M0 M y τ t) : Cn l G yX9_byteAt cX9_byteAt 3 (some .int) rX9_byteAt M [.ref y, .int f, .int p] (MP Value.int G M y (spByteAt τ f p)) := by
  obtain ⟨A, S, c, h0, hr0, -⟩ := hm
  have h := h0.base
  obtain ⟨⟨q0, q1⟩, q2, -⟩ := id hr0
  refine Cn.of (by decide) [some (.ref y), some (.int f), some (.int p)] rfl (Nat.le_of_ble_eq_true rfl) ?_
  intro Z hZ
  obtain ⟨rfl, hn, rfl, hR, X, hr, hnm⟩ := hZ
  refine aw_aload0 X dX9_byteAt_0 ?_
  refine aw_aload0 X dX9_byteAt_1 ?_
  refine aw_iload1 X dX9_byteAt_2 ?_
  refine aw_callV X (c_X9_isFile h q0) kX9_114 (ci := 10) rfl (h.at) dX9_byteAt_3 rfl rfl (by first | decide | exact Nat.le_of_ble_eq_true rfl) (by rw [hR]; exact ⟨by first | decide | exact Nat.le_of_ble_eq_true rfl | (dsimp only; omega), by first | decide | exact Nat.le_of_ble_eq_true rfl | (dsimp only; omega)⟩) (by rw [hR]; exact ⟨by first | decide | exact Nat.le_of_ble_eq_true rfl | (dsimp only; omega), by first | decide | exact Nat.le_of_ble_eq_true rfl | (dsimp only; omega)⟩) (fun v M1 hv => ?_)
  obtain ⟨rfl, rfl⟩ := hv
  refine aw_merge (isF τ f ∧ inI p (tF τ f).length) 28 [some (.ref y), some (.int f), some (.int p)] [.ref y] ?_ (fun K => ?_)
  · refine aw_callV X (c_X9_may h) kX9_106 (ci := 10) rfl (h.at) dX9_byteAt_28 rfl rfl (by first | decide | exact Nat.le_of_ble_eq_true rfl) (by rw [hR]; exact ⟨by first | decide | exact Nat.le_of_ble_eq_true rfl | (dsimp only; omega), by first | decide | exact Nat.le_of_ble_eq_true rfl | (dsimp only; omega)⟩) (by rw [hR]; exact ⟨by first | decide | exact Nat.le_of_ble_eq_true rfl | (dsimp only; omega), by first | decide | exact Nat.le_of_ble_eq_true rfl | (dsimp only; omega)⟩) (fun v M2 hv => ?_)
    obtain ⟨rfl, h1⟩ := hv
    refine aw_ifeq X dX9_byteAt_31 (tgt := 48) (by decide) (fun c1 => ?_) (fun c1 => ?_)
    · have hp := am_bz.mp c1
      refine aw_iconst X dX9_byteAt_48 (v := nI 0) (by decide) ?_
      refine aw_ireturn X (ty := .int) hr (by first | rfl | decide | assumption) dX9_byteAt_49 (MP.of (by rw [spByteAt, if_neg hp]; rfl) h1 hr0.t (by rw [va_up_self, if_neg hp]))
    · have hp : isF τ f ∧ inI p (tF τ f).length := Decidable.byContradiction (fun e => c1 (am_bz.mpr e))
      obtain ⟨j1, j2, j3⟩ := inI_j hp.1 (by omega)
      obtain ⟨w1, w2, w3⟩ := q2 (ix f) (by omega)
      have w1 : (tF τ f).length ≤ 120 := w1
      obtain ⟨k1, k2, k3⟩ := inI_j hp.2 (by omega)
      refine aw_aload0 X dX9_byteAt_34 ?_
      refine aw_get X fX9_13 dX9_byteAt_35 (h1.at) rfl ?_
      refine aw_bipush X dX9_byteAt_38 (v := nI 120) (by decide) ?_
      refine aw_iload1 X dX9_byteAt_40 ?_
      refine aw_imul X dX9_byteAt_41 ?_
      refine aw_iload2 X dX9_byteAt_42 ?_
      refine aw_iadd X dX9_byteAt_43 ?_
      refine aw_int (y := nI (120 * ix f + ix p)) (by conv => lhs; rw [j2, k2]
                                                      rw [pk_mul, nI_add]) ?_
      refine aw_iald X dX9_byteAt_44 (h1.ai 2 rfl) rfl (by omega) (by decide) ?_
      refine aw_goto X dX9_byteAt_45 (tgt := 49) (by decide) ?_
      refine aw_int (w3 _ k1) ?_
      refine aw_ireturn X (ty := .int) hr (by first | rfl | decide | assumption) dX9_byteAt_49 (MP.of (by rw [spByteAt, if_pos hp]) h1 hr0.t (by rw [va_up_self, if_pos hp]))
  · refine aw_ifeq X dX9_byteAt_6 (tgt := 27) (by decide) (fun c1 => ?_) (fun c1 => ?_)
    · have hp := am_bz.mp c1
      refine aw_iconst X dX9_byteAt_27 (v := nI 0) (by decide) ?_
      exact aw_b0 (fun e => hp e.1) K
    · have hp : isF τ f := Decidable.byContradiction (fun e => c1 (am_bz.mpr e))
      obtain ⟨j1, j2, j3⟩ := inI_j hp (by omega)
      obtain ⟨w1, w2, w3⟩ := q2 (ix f) (by omega)
      have w1 : (tF τ f).length ≤ 120 := w1
      refine aw_iload2 X dX9_byteAt_9 ?_
      refine aw_iflt X dX9_byteAt_10 (tgt := 27) (by decide) (fun c2 => ?_) (fun c2 => ?_)
      · refine aw_iconst X dX9_byteAt_27 (v := nI 0) (by decide) ?_
        exact aw_b0 (fun e => e.2.1 c2) K
      · refine aw_iload2 X dX9_byteAt_13 ?_
        refine aw_aload0 X dX9_byteAt_14 ?_
        refine aw_get X fX9_7 dX9_byteAt_15 (h.at) rfl ?_
        refine aw_iload1 X dX9_byteAt_18 ?_
        refine aw_iald X dX9_byteAt_19 (h.ai 1 rfl) j2 (by omega) (by decide) ?_
        refine aw_int (y := nI (tF τ f).length) w2 ?_
        refine aw_icmpge X dX9_byteAt_20 (tgt := 27) (by decide) (fun c3 => ?_) (fun c3 => ?_)
        · refine aw_iconst X dX9_byteAt_27 (v := nI 0) (by decide) ?_
          exact aw_b0 (fun e => Int32.lt_irrefl (Int32.lt_of_lt_of_le e.2.2 c3)) K
        · refine aw_iconst X dX9_byteAt_23 (v := nI 1) (by decide) ?_
          refine aw_goto X dX9_byteAt_24 (tgt := 28) (by decide) ?_
          exact aw_b1 (⟨hp, c2, Int32.not_le.mp c3⟩) K
