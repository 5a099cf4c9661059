/-! the model's versions -/
theorem vRel.off2 {A B : MA} {v : Nat} {V : VK} (h : vRel A v V) (hD : ∀ a, 9 ≤ a → a ≤ 15 → B a = A a) (h1 : B 16 v = A 16 v ∧ B 17 v = A 17 v ∧ B 18 v = A 18 v) (h19 : ∀ k, k < 120 → B 19 (120 * v + k) = A 19 (120 * v + k)) : vRel B v V := by
  obtain ⟨e16, e17, e18⟩ := h1
  cases V with
  | none =>
    show B 16 v = nI 0
    rw [e16]
    exact h
  | some x =>
    cases x with
    | inl bs =>
      obtain ⟨a, b, c, e⟩ := h
      exact ⟨by rw [e16]; exact a, b, by rw [e18]; exact c, fun k hk => by rw [h19 k (by omega)]; exact e k hk⟩
    | inr q =>
      obtain ⟨b, D⟩ := q
      obtain ⟨a1, a2, a3, a4⟩ := h
      exact ⟨by rw [e16]; exact a1, by rw [e17]; exact a2, a3, a4.cg hD⟩
theorem mRel.ver {A B : MA} {S S' : Nat → Int64} {c c' : Nat → Int32} {τ : TS} {n i : Nat} {V : VK} (h : mRel A S c τ) (h1 : B 1 = A 1) (h2 : B 2 = A 2) (hS : ∀ j, j < 4 → sgRel B S' j (τ.2.1 j)) (hD : ∀ j, j < 4 → dlRel B j (τ.2.2.1 j)) (hc : c' 16 = nI n) (hn : n ≤ 20) (hV : ∀ v, v < 20 → v ≠ i → vRel B v (τ.2.2.2.1.2 v)) (hi : vRel B i V) (hP : ∀ a, 23 ≤ a → a ≤ 26 → B a = A a) (c0 : c' 0 = c 0) (c28 : c' 28 = c 28) (c29 : c' 29 = c 29) (c30 : c' 30 = c 30) : mRel B S' c' (setV τ n i V) := by
  obtain ⟨r1, r2, r3, r4, r5, r6, r7, r8⟩ := h
  refine ⟨by rw [c0]; exact r1, fun j hj => (r2 j hj).cg h1 h2, hS, hD, ⟨hc, hn⟩, fun v hv => ?_, ?_, fun p hp => (r8 p hp).cg hP⟩
  · show vRel B v (va_up τ.2.2.2.1.2 i V v)
    by_cases e : v = i
    · subst e
      rw [va_up_self]
      exact hi
    · rw [va_up_ne _ _ e]
      exact hV v hv e
  · unfold gRel
    rw [c28, c29, c30]
    exact r7
theorem mRel.hold {A B : MA} {S : Nat → Int64} {c c' : Nat → Int32} {τ : TS} {n i : Nat} {V : VK} (h : mRel A S c τ) (hA : ∀ a, a < 16 ∨ 19 < a → B a = A a) (h16 : ∀ j, j ≠ i → B 16 j = A 16 j ∧ B 17 j = A 17 j ∧ B 18 j = A 18 j) (h19 : ∀ k, k < 120 * i ∨ 120 * i + 120 ≤ k → B 19 k = A 19 k) (hc : c' 16 = nI n) (hn : n ≤ 20) (hi : vRel B i V) (c0 : c' 0 = c 0) (c28 : c' 28 = c 28) (c29 : c' 29 = c 29) (c30 : c' 30 = c 30) : mRel B S c' (setV τ n i V) := by
  obtain ⟨r1, r2, r3, r4, r5, r6, r7, r8⟩ := id h
  exact h.ver (hA 1 (by omega)) (hA 2 (by omega)) (fun j hj => (r3 j hj).cg (fun a x1 x2 => hA a (by omega))) (fun j hj => (r4 j hj).cg (fun a x1 x2 => hA a (by omega))) hc hn (fun v hv e => (r6 v hv).off2 (fun a x1 x2 => hA a (by omega)) (h16 v e) (fun k hk => h19 _ (by omega))) hi (fun a x1 x2 => hA a (by omega)) c0 c28 c29 c30
/-- the version v is whole now -/
def hdSet (A B : MA) (v : Nat) (bs : List Int32) : Prop := (∀ a, a < 16 ∨ 19 < a → B a = A a) ∧ (∀ j, j ≠ v → B 16 j = A 16 j ∧ B 17 j = A 17 j ∧ B 18 j = A 18 j) ∧ (∀ k, k < 120 * v ∨ 120 * v + 120 ≤ k → B 19 k = A 19 k) ∧ vRel B v (some (.inl bs))
theorem c_X9_holds {l : Launch} {G : AG} {M0 M : AM} {y v f : Nat} {A : MA} {S : Nat → Int64} {c : Nat → Int32} {bs : List Int32} (h : md G M0 M y A S c) (hv : v < 20) (hf : f < 6) (hfl : flRel A f bs) : Cn l G yX9_holds cX9_holds 4 none rX9_holds M [.ref y, .int (nI v), .int (nI f)] (fun o M' => o = none ∧ ∃ B : MA, md G M0 M' y B S c ∧ hdSet A B v bs) := by
  obtain ⟨f1, f2, f3⟩ := id hfl
  refine Cn.of (by decide) [some (.ref y), some (.int (nI v)), some (.int (nI f)), none] rfl (Nat.le_of_ble_eq_true rfl) ?_
  intro Z hZ
  obtain ⟨rfl, hn, rfl, hR, X, hr, hnm⟩ := hZ
  refine aw_aload0 X dX9_holds_0 ?_
  refine aw_get X fX9_57 dX9_holds_1 (h.at) rfl ?_
  refine aw_iload1 X dX9_holds_4 ?_
  refine aw_iconst X dX9_holds_5 (v := nI 1) (by decide) ?_
  refine aw_mst X 16 dX9_holds_6 h rfl rfl (by omega) (by decide) (fun M1 h1 => ?_)
  refine aw_aload0 X dX9_holds_7 ?_
  refine aw_get X fX9_63 dX9_holds_8 (h1.at) rfl ?_
  refine aw_iload1 X dX9_holds_11 ?_
  refine aw_aload0 X dX9_holds_12 ?_
  refine aw_get X fX9_7 dX9_holds_13 (h1.at) rfl ?_
  refine aw_iload2 X dX9_holds_16 ?_
  refine aw_iald X dX9_holds_17 (h1.ai 1 rfl) rfl (by omega) (by decide) ?_
  refine aw_int (y := nI bs.length) f2 ?_
  refine aw_mst X 18 dX9_holds_18 h1 rfl rfl (by omega) (by decide) (fun M2 h2 => ?_)
  refine aw_iconst X dX9_holds_19 (v := nI 0) (by decide) ?_
  refine aw_istore3 X dX9_holds_20 (by rw [hn]; decide) rfl ?_
  refine aw_loop (σ := Nat × MA × AM) (fun i => i.1 ≤ bs.length ∧ md (zG Z) M0 i.2.2 y i.2.1 S c ∧ (∀ a, a < 16 ∨ 19 < a → i.2.1 a = A a) ∧ i.2.1 16 = upd (A 16) v (nI 1) ∧ i.2.1 17 = A 17 ∧ i.2.1 18 = upd (A 18) v (nI bs.length) ∧ (∀ k, k < 120 * v ∨ 120 * v + 120 ≤ k → i.2.1 19 k = A 19 k) ∧ ∀ k, k < i.1 → i.2.1 19 (120 * v + k) = bs.getD k 0) (fun i => bs.length - i.1) (fun i => i.2.2) (fun i => [some (.ref y), some (.int (nI v)), some (.int (nI f)), some (.int (nI i.1))]) ?_ (0, _, M2) ⟨Nat.zero_le _, h2, fun a ha => (va_up_ne _ _ (by omega)).trans (va_up_ne _ _ (by omega)), rfl, rfl, rfl, fun _ _ => rfl, fun k hk => absurd hk (Nat.not_lt_zero _)⟩
  rintro ⟨i, B, M3⟩ ⟨hi, h3, b0, b16, b17, b18, b19, bk⟩ ih
  try dsimp only at hi h3 b0 b16 b17 b18 b19 bk ih ⊢
  refine aw_iload3 X dX9_holds_21 ?_
  refine aw_aload0 X dX9_holds_22 ?_
  refine aw_get X fX9_7 dX9_holds_23 (h3.at) rfl ?_
  refine aw_iload2 X dX9_holds_26 ?_
  refine aw_iald X dX9_holds_27 (h3.ai 1 rfl) rfl (by omega) (by decide) ?_
  refine aw_int (y := nI bs.length) (by rw [b0 1 (by omega)]; exact f2) ?_
  refine aw_icmpge X dX9_holds_28 (tgt := 59) (by decide) (fun c3 => ?_) (fun c3 => ?_)
  · have e : i = bs.length := by have := (nI_leI (by omega) (by omega)).mp c3; omega
    subst e
    refine aw_vreturn X hr dX9_holds_59 (⟨rfl, B, h3, b0, fun j hj => ⟨by rw [b16]; exact pk_un hj, by rw [b17], by rw [b18]; exact pk_un hj⟩, b19, by rw [b16]; exact pk_us, f1, by rw [b18]; exact pk_us, bk⟩)
  · have hlt : i < bs.length := by
      rcases Nat.lt_or_ge i bs.length with q | q
      · exact q
      · exact absurd (nI_le q (by omega)) c3
    refine aw_aload0 X dX9_holds_31 ?_
    refine aw_get X fX9_66 dX9_holds_32 (h3.at) rfl ?_
    refine aw_bipush X dX9_holds_35 (v := nI 120) (by decide) ?_
    refine aw_iload1 X dX9_holds_37 ?_
    refine aw_imul X dX9_holds_38 ?_
    first | with_reducible refine aw_int (pk_mul _ _) ?_ | skip
    refine aw_iload3 X dX9_holds_39 ?_
    refine aw_iadd X dX9_holds_40 ?_
    first | with_reducible refine aw_int (nI_add _ _) ?_ | skip
    refine aw_aload0 X dX9_holds_41 ?_
    refine aw_get X fX9_13 dX9_holds_42 (h3.at) rfl ?_
    refine aw_bipush X dX9_holds_45 (v := nI 120) (by decide) ?_
    refine aw_iload2 X dX9_holds_47 ?_
    refine aw_imul X dX9_holds_48 ?_
    first | with_reducible refine aw_int (pk_mul _ _) ?_ | skip
    refine aw_iload3 X dX9_holds_49 ?_
    refine aw_iadd X dX9_holds_50 ?_
    first | with_reducible refine aw_int (nI_add _ _) ?_ | skip
    refine aw_iald X dX9_holds_51 (h3.ai 2 rfl) rfl (by omega) (by decide) ?_
    refine aw_int (y := bs.getD i 0) (by rw [b0 2 (by omega)]; exact f3 i hlt) ?_
    refine aw_mst X 19 dX9_holds_52 h3 rfl rfl (by omega) (by decide) (fun M4 h4 => ?_)
    refine aw_iinc3 X dX9_holds_53 (by rw [hn]; decide) (am_inc _ 1) rfl ?_
    refine aw_goto X dX9_holds_56 (tgt := 21) (by decide) ?_
    refine ih (i + 1, va_up B 19 (upd (B 19) (120 * v + i) (bs.getD i 0)), M4) ⟨hlt, h4, fun a ha => (va_up_ne _ _ (by omega)).trans (b0 a ha), b16, b17, b18, fun k hk => (pk_un (by omega)).trans (b19 k hk), fun k hk => ?_⟩ (by dsimp only; omega)
    try dsimp only at hk
    show upd (B 19) (120 * v + i) (bs.getD i 0) (120 * v + k) = _
    by_cases e : k = i
    · rw [e, pk_us]
    · rw [pk_un (by omega)]
      exact bk k (by omega)
theorem spKeep_no {τ : TS} {f : Int32} (h : ¬ (isF τ f ∧ tN τ < 20)) : spKeep τ f = (thB (isF τ f) (tN τ < 20), 0, τ) := by
  by_cases h1 : isF τ f
  · have h2 : ¬ tN τ < 20 := fun e => h ⟨h1, e⟩
    rw [spKeep, thB, if_pos h1, if_neg h2, if_pos h1, if_neg h2]
  · rw [spKeep, thB, if_neg h1, if_neg h1]
theorem c_X9_keep {l : Launch} {G : AG} {M0 M : AM} {y t : Nat} {τ : TS} {f : Int32} (hm : isMD G M0 M y τ t) : Cn l G yX9_keep cX9_keep 2 (some .int) rX9_keep M [.ref y, .int f] (MP Value.int G M y (spKeep τ f)) := by
  obtain ⟨A, S, c, h0, hr0, -⟩ := hm
  have h := h0.base
  obtain ⟨⟨q0, q1⟩, q2, q3, q4, ⟨q5, q6⟩, -⟩ := id hr0
  refine Cn.of (by decide) [some (.ref y), some (.int f)] rfl (Nat.le_of_ble_eq_true rfl) ?_
  intro Z hZ
  obtain ⟨rfl, hn, rfl, hR, X, hr, hnm⟩ := hZ
  refine aw_aload0 X dX9_keep_0 ?_
  refine aw_aload0 X dX9_keep_1 ?_
  refine aw_iload1 X dX9_keep_2 ?_
  refine aw_callV X (c_X9_isFile h q0) kX9_114 (ci := 10) rfl (h.at) dX9_keep_3 rfl rfl (by first | decide | exact Nat.le_of_ble_eq_true rfl) (by rw [hR]; exact ⟨by first | decide | exact Nat.le_of_ble_eq_true rfl | (dsimp only; omega), by first | decide | exact Nat.le_of_ble_eq_true rfl | (dsimp only; omega)⟩) (by rw [hR]; exact ⟨by first | decide | exact Nat.le_of_ble_eq_true rfl | (dsimp only; omega), by first | decide | exact Nat.le_of_ble_eq_true rfl | (dsimp only; omega)⟩) (fun o M1 hv => ?_)
  obtain ⟨rfl, rfl⟩ := hv
  refine aw_merge (tN τ < 20) 20 [some (.ref y), some (.int f)] [.int (am_b (isF τ f)), .ref y] ?_ (fun K => ?_)
  · refine aw_callV X (c_X9_mayBoth h) kX9_121 (ci := 10) rfl (h.at) dX9_keep_20 rfl rfl (by first | decide | exact Nat.le_of_ble_eq_true rfl) (by rw [hR]; exact ⟨by first | decide | exact Nat.le_of_ble_eq_true rfl | (dsimp only; omega), by first | decide | exact Nat.le_of_ble_eq_true rfl | (dsimp only; omega)⟩) (by rw [hR]; exact ⟨by first | decide | exact Nat.le_of_ble_eq_true rfl | (dsimp only; omega), by first | decide | exact Nat.le_of_ble_eq_true rfl | (dsimp only; omega)⟩) (fun o M2 hv => ?_)
    obtain ⟨rfl, h1⟩ := hv
    refine aw_ifne X dX9_keep_23 (tgt := 28) (by decide) (fun c1 => ?_) (fun c1 => ?_)
    · have hp : isF τ f ∧ tN τ < 20 := Decidable.byContradiction (fun e => c1 (am_bz.mpr e))
      obtain ⟨j1, j2, j3⟩ := inI_j hp.1 (by omega)
      refine aw_aload0 X dX9_keep_28 ?_
      refine aw_aload0 X dX9_keep_29 ?_
      refine aw_get X fX9_180 dX9_keep_30 (h1.at) rfl ?_
      refine aw_int (y := nI (tN τ)) q5 ?_
      refine aw_iload1 X dX9_keep_33 ?_
      refine aw_int j2 ?_
      refine aw_callV X (c_X9_holds h1 hp.2 (by omega) (q2 (ix f) (by omega))) kX9_192 (ci := 10) rfl (h1.at) dX9_keep_34 rfl rfl (by first | decide | exact Nat.le_of_ble_eq_true rfl) (by rw [hR]; exact ⟨by first | decide | exact Nat.le_of_ble_eq_true rfl | (dsimp only; omega), by first | decide | exact Nat.le_of_ble_eq_true rfl | (dsimp only; omega)⟩) (by rw [hR]; exact ⟨by first | decide | exact Nat.le_of_ble_eq_true rfl | (dsimp only; omega), by first | decide | exact Nat.le_of_ble_eq_true rfl | (dsimp only; omega)⟩) (fun o M3 hv => ?_)
      obtain ⟨rfl, B, h2, z1, z2, z3, z4⟩ := hv
      refine aw_aload0 X dX9_keep_37 ?_
      refine aw_dup X dX9_keep_38 rfl ?_
      refine aw_get X fX9_180 dX9_keep_39 (h2.at) rfl ?_
      refine aw_int (y := nI (tN τ)) q5 ?_
      refine aw_iconst X dX9_keep_42 (v := nI 1) (by decide) ?_
      refine aw_iadd X dX9_keep_43 ?_
      first | with_reducible refine aw_int (nI_add _ _) ?_ | skip
      refine aw_mput16 X pX9_180 dX9_keep_44 h2 (fun M4 h3 => ?_)
      refine aw_aload0 X dX9_keep_47 ?_
      refine aw_get X fX9_180 dX9_keep_48 (h3.at) rfl ?_
      refine aw_int (y := nI (tN τ + 1)) (va_up_self _ _ _) ?_
      refine aw_iconst X dX9_keep_51 (v := nI 1) (by decide) ?_
      refine aw_isub X dX9_keep_52 ?_
      first | with_reducible refine aw_int (pk_sub (by omega)) ?_ | skip
      refine aw_int (y := nI (tN τ)) rfl ?_
      refine aw_ireturn X (ty := .int) hr (by first | rfl | decide | assumption) dX9_keep_53 (MP.of (k := 0) (by rw [spKeep, if_pos hp.1, if_pos hp.2]) h3 (mRel.hold hr0 z1 z2 z3 (va_up_self _ _ _) (by omega) z4 rfl rfl rfl rfl) (by show nI (thB (isF τ f) (tN τ < 20)) = nI 0; rw [thB, if_pos hp.1, if_pos hp.2]))
    · have hno := am_bz.mp c1
      refine aw_iconst X dX9_keep_26 (v := nI 0) (by decide) ?_
      refine aw_ireturn X (ty := .int) hr (by first | rfl | decide | assumption) dX9_keep_27 (MP.of (spKeep_no hno) h1 hr0.t (va_up_self _ _ _))
  · refine aw_aload0 X dX9_keep_6 ?_
    refine aw_get X fX9_180 dX9_keep_7 (h.at) rfl ?_
    refine aw_int (y := nI (tN τ)) q5 ?_
    refine aw_bipush X dX9_keep_10 (v := nI 20) (by decide) ?_
    refine aw_icmpge X dX9_keep_12 (tgt := 19) (by decide) (fun c1 => ?_) (fun c1 => ?_)
    · refine aw_iconst X dX9_keep_19 (v := nI 0) (by decide) ?_
      exact aw_b0 (fun e => by have := (nI_leI (by omega) (by omega)).mp c1; omega) K
    · have hlt : tN τ < 20 := by
        rcases Nat.lt_or_ge (tN τ) 20 with q | q
        · exact q
        · exact absurd (nI_le q (by omega)) c1
      refine aw_iconst X dX9_keep_15 (v := nI 1) (by decide) ?_
      refine aw_goto X dX9_keep_16 (tgt := 20) (by decide) ?_
      exact aw_b1 (hlt) K
theorem c_X9_replace {l : Launch} {G : AG} {M0 M : AM} {y t : Nat} {τ : TS} {v f : Int32} (hm : isMD G M0 M y τ t) : Cn l G yX9_replace cX9_replace 3 none rX9_replace M [.ref y, .int v, .int f] (MPv G M y (spReplace τ v f)) := by
  obtain ⟨A, S, c, h0, hr0, -⟩ := hm
  have h := h0.base
  obtain ⟨⟨q0, q1⟩, q2, q3, q4, ⟨q5, q6⟩, -⟩ := id hr0
  refine Cn.of (by decide) [some (.ref y), some (.int v), some (.int f)] rfl (Nat.le_of_ble_eq_true rfl) ?_
  intro Z hZ
  obtain ⟨rfl, hn, rfl, hR, X, hr, hnm⟩ := hZ
  refine aw_aload0 X dX9_replace_0 ?_
  refine aw_merge (inI v (tN τ) ∧ isF τ f) 22 [some (.ref y), some (.int v), some (.int f)] [.ref y] ?_ (fun K => ?_)
  · refine aw_callV X (c_X9_may h) kX9_106 (ci := 10) rfl (h.at) dX9_replace_22 rfl rfl (by first | decide | exact Nat.le_of_ble_eq_true rfl) (by rw [hR]; exact ⟨by first | decide | exact Nat.le_of_ble_eq_true rfl | (dsimp only; omega), by first | decide | exact Nat.le_of_ble_eq_true rfl | (dsimp only; omega)⟩) (by rw [hR]; exact ⟨by first | decide | exact Nat.le_of_ble_eq_true rfl | (dsimp only; omega), by first | decide | exact Nat.le_of_ble_eq_true rfl | (dsimp only; omega)⟩) (fun o M2 hv => ?_)
    obtain ⟨rfl, h1⟩ := hv
    refine aw_ifeq X dX9_replace_25 (tgt := 34) (by decide) (fun c1 => ?_) (fun c1 => ?_)
    · have hno := am_bz.mp c1
      refine aw_vreturn X hr dX9_replace_34 (MPv.of (by rw [spReplace, if_neg hno]) h1 hr0.t (by rw [va_up_self, if_neg hno]))
    · have hp : inI v (tN τ) ∧ isF τ f := Decidable.byContradiction (fun e => c1 (am_bz.mpr e))
      obtain ⟨j1, j2, j3⟩ := inI_j hp.1 (by omega)
      obtain ⟨k1, k2, k3⟩ := inI_j hp.2 (by omega)
      refine aw_aload0 X dX9_replace_28 ?_
      refine aw_iload1 X dX9_replace_29 ?_
      refine aw_iload2 X dX9_replace_30 ?_
      rw [show (Value.int v) = .int (nI (ix v)) from congrArg Value.int j2, show (Value.int f) = .int (nI (ix f)) from congrArg Value.int k2]
      refine aw_callV X (c_X9_holds h1 (by omega) (by omega) (q2 (ix f) (by omega))) kX9_192 (ci := 10) rfl (h1.at) dX9_replace_31 rfl rfl (by first | decide | exact Nat.le_of_ble_eq_true rfl) (by rw [hR]; exact ⟨by first | decide | exact Nat.le_of_ble_eq_true rfl | (dsimp only; omega), by first | decide | exact Nat.le_of_ble_eq_true rfl | (dsimp only; omega)⟩) (by rw [hR]; exact ⟨by first | decide | exact Nat.le_of_ble_eq_true rfl | (dsimp only; omega), by first | decide | exact Nat.le_of_ble_eq_true rfl | (dsimp only; omega)⟩) (fun o M3 hv => ?_)
      obtain ⟨rfl, B, h2, z1, z2, z3, z4⟩ := hv
      refine aw_vreturn X hr dX9_replace_34 (MPv.of (k := 0) (by rw [spReplace, if_pos hp]) h2 (mRel.hold hr0 z1 z2 z3 q5 q6 z4 rfl rfl rfl rfl) (by rw [va_up_self, if_pos hp]))
  · refine aw_aload0 X dX9_replace_1 ?_
    refine aw_iload1 X dX9_replace_2 ?_
    refine aw_callV X (c_X9_isVersion h q5) kX9_196 (ci := 10) rfl (h.at) dX9_replace_3 rfl rfl (by first | decide | exact Nat.le_of_ble_eq_true rfl) (by rw [hR]; exact ⟨by first | decide | exact Nat.le_of_ble_eq_true rfl | (dsimp only; omega), by first | decide | exact Nat.le_of_ble_eq_true rfl | (dsimp only; omega)⟩) (by rw [hR]; exact ⟨by first | decide | exact Nat.le_of_ble_eq_true rfl | (dsimp only; omega), by first | decide | exact Nat.le_of_ble_eq_true rfl | (dsimp only; omega)⟩) (fun o M1 hv => ?_)
    obtain ⟨rfl, rfl⟩ := hv
    refine aw_ifeq X dX9_replace_6 (tgt := 21) (by decide) (fun c1 => ?_) (fun c1 => ?_)
    · have hp := am_bz.mp c1
      refine aw_iconst X dX9_replace_21 (v := nI 0) (by decide) ?_
      exact aw_b0 (fun e => hp e.1) K
    · have hp : inI v (tN τ) := Decidable.byContradiction (fun e => c1 (am_bz.mpr e))
      refine aw_aload0 X dX9_replace_9 ?_
      refine aw_iload2 X dX9_replace_10 ?_
      refine aw_callV X (c_X9_isFile h q0) kX9_114 (ci := 10) rfl (h.at) dX9_replace_11 rfl rfl (by first | decide | exact Nat.le_of_ble_eq_true rfl) (by rw [hR]; exact ⟨by first | decide | exact Nat.le_of_ble_eq_true rfl | (dsimp only; omega), by first | decide | exact Nat.le_of_ble_eq_true rfl | (dsimp only; omega)⟩) (by rw [hR]; exact ⟨by first | decide | exact Nat.le_of_ble_eq_true rfl | (dsimp only; omega), by first | decide | exact Nat.le_of_ble_eq_true rfl | (dsimp only; omega)⟩) (fun o M1 hv => ?_)
      obtain ⟨rfl, rfl⟩ := hv
      refine aw_ifeq X dX9_replace_14 (tgt := 21) (by decide) (fun c2 => ?_) (fun c2 => ?_)
      · have hp2 := am_bz.mp c2
        refine aw_iconst X dX9_replace_21 (v := nI 0) (by decide) ?_
        exact aw_b0 (fun e => hp2 e.2) K
      · have hp2 : isF τ f := Decidable.byContradiction (fun e => c2 (am_bz.mpr e))
        refine aw_iconst X dX9_replace_17 (v := nI 1) (by decide) ?_
        refine aw_goto X dX9_replace_18 (tgt := 22) (by decide) ?_
        exact aw_b1 (⟨hp, hp2⟩) K
theorem c_X9_lose {l : Launch} {G : AG} {M0 M : AM} {y t : Nat} {τ : TS} {v : Int32} (hm : isMD G M0 M y τ t) : Cn l G yX9_lose cX9_lose 3 (some .int) rX9_lose M [.ref y, .int v] (MP Value.int G M y (spLose τ v)) := by
  obtain ⟨A, S, c, h0, hr0, -⟩ := hm
  have h := h0.base
  obtain ⟨⟨q0, q1⟩, q2, q3, q4, ⟨q5, q6⟩, q7, -⟩ := id hr0
  refine Cn.of (by decide) [some (.ref y), some (.int v), none] rfl (Nat.le_of_ble_eq_true rfl) ?_
  intro Z hZ
  obtain ⟨rfl, hn, rfl, hR, X, hr, hnm⟩ := hZ
  refine aw_aload0 X dX9_lose_0 ?_
  refine aw_aload0 X dX9_lose_1 ?_
  refine aw_iload1 X dX9_lose_2 ?_
  refine aw_callV X (c_X9_isVersion h q5) kX9_196 (ci := 10) rfl (h.at) dX9_lose_3 rfl rfl (by first | decide | exact Nat.le_of_ble_eq_true rfl) (by rw [hR]; exact ⟨by first | decide | exact Nat.le_of_ble_eq_true rfl | (dsimp only; omega), by first | decide | exact Nat.le_of_ble_eq_true rfl | (dsimp only; omega)⟩) (by rw [hR]; exact ⟨by first | decide | exact Nat.le_of_ble_eq_true rfl | (dsimp only; omega), by first | decide | exact Nat.le_of_ble_eq_true rfl | (dsimp only; omega)⟩) (fun o M1 hv => ?_)
  obtain ⟨rfl, rfl⟩ := hv
  refine aw_callV X (c_X9_may h) kX9_106 (ci := 10) rfl (h.at) dX9_lose_6 rfl rfl (by first | decide | exact Nat.le_of_ble_eq_true rfl) (by rw [hR]; exact ⟨by first | decide | exact Nat.le_of_ble_eq_true rfl | (dsimp only; omega), by first | decide | exact Nat.le_of_ble_eq_true rfl | (dsimp only; omega)⟩) (by rw [hR]; exact ⟨by first | decide | exact Nat.le_of_ble_eq_true rfl | (dsimp only; omega), by first | decide | exact Nat.le_of_ble_eq_true rfl | (dsimp only; omega)⟩) (fun o M2 hv => ?_)
  obtain ⟨rfl, h1⟩ := hv
  refine aw_ifne X dX9_lose_9 (tgt := 14) (by decide) (fun c1 => ?_) (fun c1 => ?_)
  · have hp : inI v (tN τ) := Decidable.byContradiction (fun e => c1 (am_bz.mpr e))
    obtain ⟨j1, j2, j3⟩ := inI_j hp (by omega)
    refine aw_aload0 X dX9_lose_14 ?_
    refine aw_iload1 X dX9_lose_15 ?_
    refine aw_int j2 ?_
    refine aw_callV X (c_X9_heldOf h1 (by omega) (q7 (ix v) (by omega))) kX9_202 (ci := 10) rfl (h1.at) dX9_lose_16 rfl rfl (by first | decide | exact Nat.le_of_ble_eq_true rfl) (by rw [hR]; exact ⟨by first | decide | exact Nat.le_of_ble_eq_true rfl | (dsimp only; omega), by first | decide | exact Nat.le_of_ble_eq_true rfl | (dsimp only; omega)⟩) (by rw [hR]; exact ⟨by first | decide | exact Nat.le_of_ble_eq_true rfl | (dsimp only; omega), by first | decide | exact Nat.le_of_ble_eq_true rfl | (dsimp only; omega)⟩) (fun o M3 hv => ?_)
    obtain ⟨rfl, rfl⟩ := hv
    refine aw_istore2 X dX9_lose_19 (by rw [hn]; decide) rfl ?_
    refine aw_aload0 X dX9_lose_20 ?_
    refine aw_get X fX9_57 dX9_lose_21 (h1.at) rfl ?_
    refine aw_iload1 X dX9_lose_24 ?_
    refine aw_iconst X dX9_lose_25 (v := nI 0) (by decide) ?_
    refine aw_mst X 16 dX9_lose_26 h1 rfl j2 (by omega) (by decide) (fun M4 h2 => ?_)
    refine aw_iload2 X dX9_lose_27 ?_
    refine aw_ireturn X (ty := .int) hr (by first | rfl | decide | assumption) dX9_lose_28 (MP.of (k := 0) (by rw [spLose, if_pos hp]) h2 (mRel.hold hr0 (fun a x => va_up_ne _ _ (by omega)) (fun j hj => ⟨pk_un hj, rfl, rfl⟩) (fun k hk => rfl) q5 q6 (V := none) pk_us rfl rfl rfl rfl) (by rw [va_up_self, if_pos hp]))
  · have hno := am_bz.mp c1
    refine aw_iconst X dX9_lose_12 (v := nI 0) (by decide) ?_
    refine aw_ireturn X (ty := .int) hr (by first | rfl | decide | assumption) dX9_lose_13 (MP.of (by rw [spLose, if_neg hno]; rfl) h1 hr0.t (by rw [va_up_self, if_neg hno]))
