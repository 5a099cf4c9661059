theorem dlRel.off {A B : MA} {d i : Nat} {D : DL} (h : dlRel A i D) (o : dwOut A B d) (hi : i ≠ d) : dlRel B i D := by
  obtain ⟨v, a9, a10, a11, a12, a15⟩ := h
  obtain ⟨o1, o2, o3⟩ := o
  obtain ⟨p9, p10, p11⟩ := o2 i hi
  have hl := v.1
  have hl2 := v.2.2.1
  refine ⟨v, p9.trans a9, p10.trans a10, p11.trans a11, fun k hk => ?_, fun k hk => ?_⟩
  · obtain ⟨z12, z13, z14, -⟩ := o3 (120 * i + k) (by omega)
    rw [z12, z13, z14]
    exact a12 k hk
  · obtain ⟨-, -, -, z15⟩ := o3 (120 * i + k) (by omega)
    rw [z15]
    exact a15 k hk
theorem vRel.off {A B : MA} {d v : Nat} {V : VK} (h : vRel A v V) (o : dwOut A B d) (hv : 4 + v ≠ d) : vRel B v V := by
  have e16 := o.1 16 (by omega)
  have e17 := o.1 17 (by omega)
  have e18 := o.1 18 (by omega)
  have e19 := o.1 19 (by omega)
  cases V with
  | none =>
    show B 16 v = nI 0
    rw [e16]
    exact h
  | some x =>
    cases x with
    | inl bs =>
      obtain ⟨a, b, c, e⟩ := h
      exact ⟨by rw [e16]; exact a, b, by rw [e18]; exact c, fun k hk => by rw [e19]; exact e k hk⟩
    | inr q =>
      obtain ⟨b, D⟩ := q
      obtain ⟨a1, a2, a3, a4⟩ := h
      exact ⟨by rw [e16]; exact a1, by rw [e17]; exact a2, a3, a4.off o hv⟩
theorem mRel.delta {A B : MA} {S : Nat → Int64} {c : Nat → Int32} {τ : TS} {d : Nat} {D : DL} (h : mRel A S c τ) (hd : d < 4) (o : dwOut A B d) (hD : dlRel B d D) : mRel B S c (τ.1, τ.2.1, va_up τ.2.2.1 d D, τ.2.2.2) := by
  obtain ⟨r1, r2, r3, r4, r5, r6, r7, r8⟩ := h
  refine ⟨r1, fun j hj => (r2 j hj).cg (o.1 1 (by omega)) (o.1 2 (by omega)), fun j hj => (r3 j hj).cg (fun a x1 x2 => o.1 a (by omega)), fun j hj => ?_, r5, fun v hv => (r6 v hv).off o (by omega), r7, fun p hp => (r8 p hp).cg (fun a x1 x2 => o.1 a (by omega))⟩
  show dlRel B j (va_up τ.2.2.1 d D j)
  by_cases e : j = d
  · subst e
    rw [va_up_self]
    exact hD
  · rw [va_up_ne _ _ e]
    exact (r4 j hj).off o e
/-- what is no part of the state may change -/
theorem mRel.scr {A B : MA} {S : Nat → Int64} {c c' : Nat → Int32} {τ : TS} (h : mRel A S c τ) (hA : ∀ a, a < 20 ∨ 22 < a → B a = A a) (c0 : c' 0 = c 0) (c16 : c' 16 = c 16) (c28 : c' 28 = c 28) (c29 : c' 29 = c 29) (c30 : c' 30 = c 30) : mRel B S c' τ := by
  obtain ⟨r1, r2, r3, r4, r5, r6, r7, r8⟩ := h
  refine ⟨by rw [c0]; exact r1, fun j hj => (r2 j hj).cg (hA 1 (by omega)) (hA 2 (by omega)), fun j hj => (r3 j hj).cg (fun a x1 x2 => hA a (by omega)), fun j hj => (r4 j hj).cg (fun a x1 x2 => hA a (by omega)), by rw [c16]; exact r5, fun v hv => (r6 v hv).cg (fun a x1 x2 => hA a (by omega)), ?_, fun p hp => (r8 p hp).cg (fun a x1 x2 => hA a (by omega))⟩
  unfold gRel
  rw [c28, c29, c30]
  exact r7
abbrev cmP (τ : TS) (d g f : Int32) : Prop := inI d 4 ∧ inI g 4 ∧ isF τ f
theorem spCompare_no {τ : TS} {d g f : Int32} (h : ¬ (cmP τ d g f ∧ (cmP τ d g f ∧ (tS τ g).1 = true))) : spCompare τ d g f = (thB (cmP τ d g f) (cmP τ d g f ∧ (tS τ g).1 = true), 0, τ) := by
  by_cases h1 : cmP τ d g f
  · have h2 : ¬ (tS τ g).1 = true := fun e => h ⟨h1, h1, e⟩
    rw [spCompare, thB, if_pos h1, if_neg h2, if_pos h1, if_neg (fun e => h2 e.2)]
  · rw [spCompare, thB, if_neg h1, if_neg h1]
theorem c_X9_compare {l : Launch} {G : AG} {M0 M : AM} {y t : Nat} {τ : TS} {d g f : Int32} (hm : isMD G M0 M y τ t) : Cn l G yX9_compare cX9_compare 5 (some .int) rX9_compare M [.ref y, .int d, .int g, .int f] (MP Value.int G M y (spCompare τ d g f)) := by
  obtain ⟨A, S, c, h0, hr0, -⟩ := hm
  have h := h0.base
  obtain ⟨⟨q0, q1⟩, q2, q3, -⟩ := id hr0
  refine Cn.of (by decide) [some (.ref y), some (.int d), some (.int g), some (.int f), none] rfl (Nat.le_of_ble_eq_true rfl) ?_
  intro Z hZ
  obtain ⟨rfl, hn, rfl, hR, X, hr, hnm⟩ := hZ
  refine aw_merge (cmP τ d g f) 27 [some (.ref y), some (.int d), some (.int g), some (.int f), none] [] ?_ (fun K => ?_)
  · refine aw_istore4 X dX9_compare_27 (by rw [hn]; decide) rfl ?_
    refine aw_aload0 X dX9_compare_29 ?_
    refine aw_iload4 X dX9_compare_30 ?_
    refine aw_merge (cmP τ d g f ∧ (tS τ g).1 = true) 51 [some (.ref y), some (.int d), some (.int g), some (.int f), some (.int (am_b (cmP τ d g f)))] [.int (am_b (cmP τ d g f)), .ref y] ?_ (fun K => ?_)
    · refine aw_callV X (c_X9_mayBoth h) kX9_121 (ci := 10) rfl (h.at) dX9_compare_51 rfl rfl (by first | decide | exact Nat.le_of_ble_eq_true rfl) (by rw [hR]; exact ⟨by first | decide | exact Nat.le_of_ble_eq_true rfl | (dsimp only; omega), by first | decide | exact Nat.le_of_ble_eq_true rfl | (dsimp only; omega)⟩) (by rw [hR]; exact ⟨by first | decide | exact Nat.le_of_ble_eq_true rfl | (dsimp only; omega), by first | decide | exact Nat.le_of_ble_eq_true rfl | (dsimp only; omega)⟩) (fun o M2 hv => ?_)
      obtain ⟨rfl, h1⟩ := hv
      refine aw_ifne X dX9_compare_54 (tgt := 59) (by decide) (fun c1 => ?_) (fun c1 => ?_)
      · have hp : cmP τ d g f ∧ (cmP τ d g f ∧ (tS τ g).1 = true) := Decidable.byContradiction (fun e => c1 (am_bz.mpr e))
        obtain ⟨hp1, -, hp2⟩ := hp
        obtain ⟨j1, j2, j3⟩ := inI_j hp1.1 (by omega)
        obtain ⟨k1, k2, k3⟩ := inI_j hp1.2.1 (by omega)
        obtain ⟨m1, m2, m3⟩ := inI_j hp1.2.2 (by omega)
        refine aw_aload0 X dX9_compare_59 ?_
        refine aw_iload1 X dX9_compare_60 ?_
        refine aw_iload2 X dX9_compare_61 ?_
        refine aw_iload3 X dX9_compare_62 ?_
        rw [show (Value.int d) = .int (nI (ix d)) from congrArg Value.int j2, show (Value.int g) = .int (nI (ix g)) from congrArg Value.int k2, show (Value.int f) = .int (nI (ix f)) from congrArg Value.int m2]
        refine aw_callV X (c_X9_compares h1 (by omega) (by omega) (by omega) (q3 (ix g) k1) hp2 (q2 (ix f) (by omega))) kX9_161 (ci := 10) rfl (h1.at) dX9_compare_63 rfl rfl (by first | decide | exact Nat.le_of_ble_eq_true rfl) (by rw [hR]; exact ⟨by first | decide | exact Nat.le_of_ble_eq_true rfl | (dsimp only; omega), by first | decide | exact Nat.le_of_ble_eq_true rfl | (dsimp only; omega)⟩) (by rw [hR]; exact ⟨by first | decide | exact Nat.le_of_ble_eq_true rfl | (dsimp only; omega), by first | decide | exact Nat.le_of_ble_eq_true rfl | (dsimp only; omega)⟩) (fun o M3 hv => ?_)
        obtain ⟨rfl, B, h2, z1, z2⟩ := hv
        refine aw_aload0 X dX9_compare_66 ?_
        refine aw_get X fX9_39 dX9_compare_67 (h2.at) rfl ?_
        refine aw_iload1 X dX9_compare_70 ?_
        refine aw_iald X dX9_compare_71 (h2.ai 10 rfl) rfl (by omega) (by decide) ?_
        refine aw_int z1.2.2.1 ?_
        refine aw_ireturn X (ty := .int) hr (by first | rfl | decide | assumption) dX9_compare_72 (MP.of (k := 0) (by rw [spCompare, if_pos hp1, if_pos hp2]) h2 (hr0.t.delta j1 z2 z1) (by rw [va_up_self, thB, if_pos hp1, if_pos ⟨hp1, hp2⟩]))
      · have hp := am_bz.mp c1
        refine aw_iconst X dX9_compare_57 (v := nI 0) (by decide) ?_
        refine aw_ireturn X (ty := .int) hr (by first | rfl | decide | assumption) dX9_compare_58 (MP.of (spCompare_no hp) h1 hr0.t (va_up_self _ _ _))
    · refine aw_iload4 X dX9_compare_32 ?_
      refine aw_ifeq X dX9_compare_34 (tgt := 50) (by decide) (fun c1 => ?_) (fun c1 => ?_)
      · have hp := am_bz.mp c1
        refine aw_iconst X dX9_compare_50 (v := nI 0) (by decide) ?_
        exact aw_b0 (fun e => hp e.1) K
      · have hp : cmP τ d g f := Decidable.byContradiction (fun e => c1 (am_bz.mpr e))
        obtain ⟨k1, k2, k3⟩ := inI_j hp.2.1 (by omega)
        have hq := q3 (ix g) k1
        have hs7 : (tS τ g).2.1 ≤ 7 := hq.1.2.1
        have hs0 : 0 < (tS τ g).2.1 := hq.1.1
        refine aw_aload0 X dX9_compare_37 ?_
        refine aw_get X fX9_16 dX9_compare_38 (h.at) rfl ?_
        refine aw_iload2 X dX9_compare_41 ?_
        refine aw_iald X dX9_compare_42 (h.ai 3 rfl) k2 (by omega) (by decide) ?_
        refine aw_int hq.2.1 ?_
        by_cases hs : (tS τ g).1 = true
        · rw [if_pos (show (τ.2.1 (ix g)).1 = true from hs)]
          refine aw_ifle X dX9_compare_43 (tgt := 50) (by decide) (fun c9 => by first | exact absurd ((fun c : nI (tS τ g).2.1 ≤ 0 => by have := (nI_leI (by omega) (by omega)).mp (show nI (tS τ g).2.1 ≤ nI 0 from c); omega)) c9 | exact absurd c9 ((fun c : nI (tS τ g).2.1 ≤ 0 => by have := (nI_leI (by omega) (by omega)).mp (show nI (tS τ g).2.1 ≤ nI 0 from c); omega))) (fun _ => ?_)
          refine aw_iconst X dX9_compare_46 (v := nI 1) (by decide) ?_
          refine aw_goto X dX9_compare_47 (tgt := 51) (by decide) ?_
          exact aw_b1 (⟨hp, hs⟩) K
        · rw [if_neg (show ¬ (τ.2.1 (ix g)).1 = true from hs)]
          refine aw_ifle X dX9_compare_43 (tgt := 50) (by decide) (fun _ => ?_) (fun c9 => by first | exact absurd ((by decide : (0 : Int32) ≤ 0)) c9 | exact absurd c9 ((by decide : (0 : Int32) ≤ 0)))
          refine aw_iconst X dX9_compare_50 (v := nI 0) (by decide) ?_
          exact aw_b0 (fun e => hs e.2) K
  · refine aw_iload1 X dX9_compare_0 ?_
    refine aw_callS X (c_X9_isPlace) kX9_142 dX9_compare_1 rfl rfl (by first | decide | exact Nat.le_of_ble_eq_true rfl) (by rw [hR]; exact ⟨by first | decide | exact Nat.le_of_ble_eq_true rfl | (dsimp only; omega), by first | decide | exact Nat.le_of_ble_eq_true rfl | (dsimp only; omega)⟩) (by rw [hR]; exact ⟨by first | decide | exact Nat.le_of_ble_eq_true rfl | (dsimp only; omega), by first | decide | exact Nat.le_of_ble_eq_true rfl | (dsimp only; omega)⟩) (fun o M1 hv => ?_)
    obtain ⟨rfl, rfl⟩ := hv
    refine aw_ifeq X dX9_compare_4 (tgt := 26) (by decide) (fun c1 => ?_) (fun c1 => ?_)
    · have hp := am_bz.mp c1
      refine aw_iconst X dX9_compare_26 (v := nI 0) (by decide) ?_
      exact aw_b0 (fun e => hp e.1) K
    · have hp : inI d 4 := Decidable.byContradiction (fun e => c1 (am_bz.mpr e))
      refine aw_iload2 X dX9_compare_7 ?_
      refine aw_callS X (c_X9_isPlace) kX9_142 dX9_compare_8 rfl rfl (by first | decide | exact Nat.le_of_ble_eq_true rfl) (by rw [hR]; exact ⟨by first | decide | exact Nat.le_of_ble_eq_true rfl | (dsimp only; omega), by first | decide | exact Nat.le_of_ble_eq_true rfl | (dsimp only; omega)⟩) (by rw [hR]; exact ⟨by first | decide | exact Nat.le_of_ble_eq_true rfl | (dsimp only; omega), by first | decide | exact Nat.le_of_ble_eq_true rfl | (dsimp only; omega)⟩) (fun o M1 hv => ?_)
      obtain ⟨rfl, rfl⟩ := hv
      refine aw_ifeq X dX9_compare_11 (tgt := 26) (by decide) (fun c2 => ?_) (fun c2 => ?_)
      · have hp2 := am_bz.mp c2
        refine aw_iconst X dX9_compare_26 (v := nI 0) (by decide) ?_
        exact aw_b0 (fun e => hp2 e.2.1) K
      · have hp2 : inI g 4 := Decidable.byContradiction (fun e => c2 (am_bz.mpr e))
        refine aw_aload0 X dX9_compare_14 ?_
        refine aw_iload3 X dX9_compare_15 ?_
        refine aw_callV X (c_X9_isFile h q0) kX9_114 (ci := 10) rfl (h.at) dX9_compare_16 rfl rfl (by first | decide | exact Nat.le_of_ble_eq_true rfl) (by rw [hR]; exact ⟨by first | decide | exact Nat.le_of_ble_eq_true rfl | (dsimp only; omega), by first | decide | exact Nat.le_of_ble_eq_true rfl | (dsimp only; omega)⟩) (by rw [hR]; exact ⟨by first | decide | exact Nat.le_of_ble_eq_true rfl | (dsimp only; omega), by first | decide | exact Nat.le_of_ble_eq_true rfl | (dsimp only; omega)⟩) (fun o M1 hv => ?_)
        obtain ⟨rfl, rfl⟩ := hv
        refine aw_ifeq X dX9_compare_19 (tgt := 26) (by decide) (fun c3 => ?_) (fun c3 => ?_)
        · have hp3 := am_bz.mp c3
          refine aw_iconst X dX9_compare_26 (v := nI 0) (by decide) ?_
          exact aw_b0 (fun e => hp3 e.2.2) K
        · have hp3 : isF τ f := Decidable.byContradiction (fun e => c3 (am_bz.mpr e))
          refine aw_iconst X dX9_compare_22 (v := nI 1) (by decide) ?_
          refine aw_goto X dX9_compare_23 (tgt := 27) (by decide) ?_
          exact aw_b1 (⟨hp, hp2, hp3⟩) K
