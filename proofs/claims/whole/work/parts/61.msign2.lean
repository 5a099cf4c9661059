theorem mRel.sig {A B : MA} {S S' : Nat → Int64} {c : Nat → Int32} {τ : TS} {i : Nat} {s : SG} (h : mRel A S c τ) (hA : ∀ a, a < 3 ∨ 7 < a → a ≤ 19 ∨ 23 ≤ a → B a = A a) (h3 : ∀ j, j ≠ i → B 3 j = A 3 j ∧ B 4 j = A 4 j ∧ B 5 j = A 5 j ∧ B 6 j = A 6 j) (h7 : ∀ k, k < 120 * i ∨ 120 * i + 120 ≤ k → B 7 k = A 7 k ∧ S' k = S k) (hs : sgRel B S' i s) : mRel B S' c (τ.1, va_up τ.2.1 i s, τ.2.2) := by
  obtain ⟨r1, r2, r3, r4, r5, r6, r7, r8⟩ := h
  refine ⟨r1, fun j hj => (r2 j hj).cg (hA 1 (by omega) (by omega)) (hA 2 (by omega) (by omega)), fun j hj => ?_, fun j hj => (r4 j hj).cg (fun a x1 x2 => hA a (by omega) (by omega)), r5, fun v hv => (r6 v hv).cg (fun a x1 x2 => hA a (by omega) (by omega)), r7, fun p hp => (r8 p hp).cg (fun a x1 x2 => hA a (by omega) (by omega))⟩
  show sgRel B S' j (va_up τ.2.1 i s j)
  by_cases e : j = i
  · subst e
    rw [va_up_self]
    exact hs
  · rw [va_up_ne _ _ e]
    obtain ⟨u1, u2, u3, u4, u5⟩ := r3 j hj
    obtain ⟨w1, w2, w3, w4⟩ := h3 j e
    have hn := sgN_le u1
    refine ⟨u1, by rw [w1]; exact u2, fun hm => by rw [w2, w3]; exact u3 hm, by rw [w4]; exact u4, fun k hk => ?_⟩
    rw [(h7 (120 * j + k) (by omega)).1, (h7 (120 * j + k) (by omega)).2]
    exact u5 k hk
abbrev sgP (b d : Int32) : Prop := rgI b (nI 1) (nI 7) ∧ rgI d (nI 1) (nI 4096)
theorem spSign_no {τ : TS} {g f b d : Int32} (h : ¬ ((inI g 4 ∧ isF τ f) ∧ sgP b d)) : spSign τ g f b d = (thB (inI g 4 ∧ isF τ f) (sgP b d), 0, τ) := by
  by_cases h1 : inI g 4 ∧ isF τ f
  · have h2 : ¬ sgP b d := fun e => h ⟨h1, e⟩
    rw [spSign, thB, if_pos h1, if_neg h2, if_pos h1, if_neg h2]
  · rw [spSign, thB, if_neg h1, if_neg h1]
theorem c_X9_sign {l : Launch} {G : AG} {M0 M : AM} {y t : Nat} {τ : TS} {g f b d : Int32} (hm : isMD G M0 M y τ t) : Cn l G yX9_sign cX9_sign 6 (some .int) rX9_sign M [.ref y, .int g, .int f, .int b, .int d] (MP Value.int G M y (spSign τ g f b d)) := by
  obtain ⟨A, S, c, h0, hr0, -⟩ := hm
  have h := h0.base
  obtain ⟨⟨q0, q1⟩, q2, -⟩ := id hr0
  refine Cn.of (by decide) [some (.ref y), some (.int g), some (.int f), some (.int b), some (.int d), none] rfl (Nat.le_of_ble_eq_true rfl) ?_
  intro Z hZ
  obtain ⟨rfl, hn, rfl, hR, X, hr, hnm⟩ := hZ
  refine aw_merge (sgP b d) 30 [some (.ref y), some (.int g), some (.int f), some (.int b), some (.int d), none] [] ?_ (fun K => ?_)
  · refine aw_istore5 X dX9_sign_30 (by rw [hn]; decide) rfl ?_
    refine aw_aload0 X dX9_sign_32 ?_
    refine aw_merge (inI g 4 ∧ isF τ f) 53 [some (.ref y), some (.int g), some (.int f), some (.int b), some (.int d), some (.int (am_b (sgP b d)))] [.ref y] ?_ (fun K => ?_)
    · refine aw_iload5 X dX9_sign_53 ?_
      refine aw_callV X (c_X9_mayBoth h) kX9_121 (ci := 10) rfl (h.at) dX9_sign_55 rfl rfl (by first | decide | exact Nat.le_of_ble_eq_true rfl) (by rw [hR]; exact ⟨by first | decide | exact Nat.le_of_ble_eq_true rfl | (dsimp only; omega), by first | decide | exact Nat.le_of_ble_eq_true rfl | (dsimp only; omega)⟩) (by rw [hR]; exact ⟨by first | decide | exact Nat.le_of_ble_eq_true rfl | (dsimp only; omega), by first | decide | exact Nat.le_of_ble_eq_true rfl | (dsimp only; omega)⟩) (fun o M2 hv => ?_)
      obtain ⟨rfl, h1⟩ := hv
      refine aw_ifne X dX9_sign_58 (tgt := 63) (by decide) (fun c1 => ?_) (fun c1 => ?_)
      · have hp : (inI g 4 ∧ isF τ f) ∧ sgP b d := Decidable.byContradiction (fun e => c1 (am_bz.mpr e))
        obtain ⟨⟨hp1, hp2⟩, hp3, hp4⟩ := hp
        obtain ⟨j1, j2, j3⟩ := inI_j hp1 (by omega)
        obtain ⟨k1, k2, k3⟩ := inI_j hp2 (by omega)
        obtain ⟨b1, b2, b3⟩ := rgI_j hp3 (by omega) (by omega)
        obtain ⟨d1, d2, d3⟩ := rgI_j hp4 (by omega) (by omega)
        have hw : (tF τ f).length ≤ 120 := (q2 (ix f) (by omega)).1
        refine aw_aload0 X dX9_sign_63 ?_
        refine aw_iload2 X dX9_sign_64 ?_
        refine aw_callV X (c_X9_bring h1 k2 (by omega) (q2 (ix f) (by omega))) kX9_145 (ci := 10) rfl (h1.at) dX9_sign_65 rfl rfl (by first | decide | exact Nat.le_of_ble_eq_true rfl) (by rw [hR]; exact ⟨by first | decide | exact Nat.le_of_ble_eq_true rfl | (dsimp only; omega), by first | decide | exact Nat.le_of_ble_eq_true rfl | (dsimp only; omega)⟩) (by rw [hR]; exact ⟨by first | decide | exact Nat.le_of_ble_eq_true rfl | (dsimp only; omega), by first | decide | exact Nat.le_of_ble_eq_true rfl | (dsimp only; omega)⟩) (fun o M3 hv => ?_)
        obtain ⟨rfl, gg, h2, hgg⟩ := hv
        refine aw_aload0 X dX9_sign_68 ?_
        refine aw_iload1 X dX9_sign_69 ?_
        refine aw_iload3 X dX9_sign_70 ?_
        refine aw_iload4 X dX9_sign_71 ?_
        rw [show (Value.int g) = .int (nI (ix g)) from congrArg Value.int j2, show (Value.int b) = .int (nI (ix b)) from congrArg Value.int b3, show (Value.int d) = .int (nI (ix d)) from congrArg Value.int d3]
        refine aw_callV X (c_X9_signs (bs := tF τ f) h2 (by omega) (va_up_self _ _ _) hw hgg ⟨b1, b2⟩ ⟨d1, d2⟩) kX9_149 (ci := 10) rfl (h2.at) dX9_sign_73 rfl rfl (by first | decide | exact Nat.le_of_ble_eq_true rfl) (by rw [hR]; exact ⟨by first | decide | exact Nat.le_of_ble_eq_true rfl | (dsimp only; omega), by first | decide | exact Nat.le_of_ble_eq_true rfl | (dsimp only; omega)⟩) (by rw [hR]; exact ⟨by first | decide | exact Nat.le_of_ble_eq_true rfl | (dsimp only; omega), by first | decide | exact Nat.le_of_ble_eq_true rfl | (dsimp only; omega)⟩) (fun o M4 hv => ?_)
        obtain ⟨rfl, B, S', h3, z1, z2, z3, z4⟩ := hv
        refine aw_aload0 X dX9_sign_76 ?_
        refine aw_get X fX9_25 dX9_sign_77 (h3.at) rfl ?_
        refine aw_iload1 X dX9_sign_80 ?_
        refine aw_iald X dX9_sign_81 (h3.ai 6 rfl) rfl (by omega) (by decide) ?_
        refine aw_int z4.2.2.2.1 ?_
        refine aw_ireturn X (ty := .int) hr (by first | rfl | decide | assumption) dX9_sign_82 (MP.of (k := 0) (by rw [spSign, if_pos ⟨hp1, hp2⟩, if_pos ⟨hp3, hp4⟩]) h3 (mRel.sig (c := va_up (va_up c 35 (nI (thB (inI g 4 ∧ isF τ f) (sgP b d)))) 26 (nI (tF τ f).length)) (hr0 : mRel A S _ τ) (fun a x1 x2 => (z1 a x1).trans (va_up_ne _ _ (by omega))) z2 z3 z4) (by show nI (thB (inI g 4 ∧ isF τ f) (sgP b d)) = nI 0; rw [thB, if_pos ⟨hp1, hp2⟩, if_pos ⟨hp3, hp4⟩]))
      · have hp := am_bz.mp c1
        refine aw_iconst X dX9_sign_61 (v := nI 0) (by decide) ?_
        refine aw_ireturn X (ty := .int) hr (by first | rfl | decide | assumption) dX9_sign_62 (MP.of (spSign_no hp) h1 hr0.t (va_up_self _ _ _))
    · refine aw_iload1 X dX9_sign_33 ?_
      refine aw_callS X (c_X9_isPlace) kX9_142 dX9_sign_34 rfl rfl (by first | decide | exact Nat.le_of_ble_eq_true rfl) (by rw [hR]; exact ⟨by first | decide | exact Nat.le_of_ble_eq_true rfl | (dsimp only; omega), by first | decide | exact Nat.le_of_ble_eq_true rfl | (dsimp only; omega)⟩) (by rw [hR]; exact ⟨by first | decide | exact Nat.le_of_ble_eq_true rfl | (dsimp only; omega), by first | decide | exact Nat.le_of_ble_eq_true rfl | (dsimp only; omega)⟩) (fun o M1 hv => ?_)
      obtain ⟨rfl, rfl⟩ := hv
      refine aw_ifeq X dX9_sign_37 (tgt := 52) (by decide) (fun c1 => ?_) (fun c1 => ?_)
      · have hp := am_bz.mp c1
        refine aw_iconst X dX9_sign_52 (v := nI 0) (by decide) ?_
        exact aw_b0 (fun e => hp e.1) K
      · have hp : inI g 4 := Decidable.byContradiction (fun e => c1 (am_bz.mpr e))
        refine aw_aload0 X dX9_sign_40 ?_
        refine aw_iload2 X dX9_sign_41 ?_
        refine aw_callV X (c_X9_isFile h q0) kX9_114 (ci := 10) rfl (h.at) dX9_sign_42 rfl rfl (by first | decide | exact Nat.le_of_ble_eq_true rfl) (by rw [hR]; exact ⟨by first | decide | exact Nat.le_of_ble_eq_true rfl | (dsimp only; omega), by first | decide | exact Nat.le_of_ble_eq_true rfl | (dsimp only; omega)⟩) (by rw [hR]; exact ⟨by first | decide | exact Nat.le_of_ble_eq_true rfl | (dsimp only; omega), by first | decide | exact Nat.le_of_ble_eq_true rfl | (dsimp only; omega)⟩) (fun o M1 hv => ?_)
        obtain ⟨rfl, rfl⟩ := hv
        refine aw_ifeq X dX9_sign_45 (tgt := 52) (by decide) (fun c2 => ?_) (fun c2 => ?_)
        · have hp2 := am_bz.mp c2
          refine aw_iconst X dX9_sign_52 (v := nI 0) (by decide) ?_
          exact aw_b0 (fun e => hp2 e.2) K
        · have hp2 : isF τ f := Decidable.byContradiction (fun e => c2 (am_bz.mpr e))
          refine aw_iconst X dX9_sign_48 (v := nI 1) (by decide) ?_
          refine aw_goto X dX9_sign_49 (tgt := 53) (by decide) ?_
          exact aw_b1 (⟨hp, hp2⟩) K
  · refine aw_iload3 X dX9_sign_0 ?_
    refine aw_iconst X dX9_sign_1 (v := nI 1) (by decide) ?_
    refine aw_icmplt X dX9_sign_2 (tgt := 29) (by decide) (fun c1 => ?_) (fun c1 => ?_)
    · refine aw_iconst X dX9_sign_29 (v := nI 0) (by decide) ?_
      exact aw_b0 (fun e => e.1.1 c1) K
    · refine aw_iload3 X dX9_sign_5 ?_
      refine aw_bipush X dX9_sign_6 (v := nI 7) (by decide) ?_
      refine aw_icmpgt X dX9_sign_8 (tgt := 29) (by decide) (fun c2 => ?_) (fun c2 => ?_)
      · refine aw_iconst X dX9_sign_29 (v := nI 0) (by decide) ?_
        exact aw_b0 (fun e => Int32.lt_irrefl (Int32.lt_of_lt_of_le c2 e.1.2)) K
      · refine aw_iload4 X dX9_sign_11 ?_
        refine aw_iconst X dX9_sign_13 (v := nI 1) (by decide) ?_
        refine aw_icmplt X dX9_sign_14 (tgt := 29) (by decide) (fun c3 => ?_) (fun c3 => ?_)
        · refine aw_iconst X dX9_sign_29 (v := nI 0) (by decide) ?_
          exact aw_b0 (fun e => e.2.1 c3) K
        · refine aw_iload4 X dX9_sign_17 ?_
          refine aw_sipush X dX9_sign_19 (v := nI 4096) (by decide) ?_
          refine aw_icmpgt X dX9_sign_22 (tgt := 29) (by decide) (fun c4 => ?_) (fun c4 => ?_)
          · refine aw_iconst X dX9_sign_29 (v := nI 0) (by decide) ?_
            exact aw_b0 (fun e => Int32.lt_irrefl (Int32.lt_of_lt_of_le c4 e.2.2)) K
          · refine aw_iconst X dX9_sign_25 (v := nI 1) (by decide) ?_
            refine aw_goto X dX9_sign_26 (tgt := 30) (by decide) ?_
            exact aw_b1 (⟨⟨c1, Int32.not_lt.mp c2⟩, c3, Int32.not_lt.mp c4⟩) K
