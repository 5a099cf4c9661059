theorem ix_add {f : Int32} {i : Nat} (hf : f = nI (ix f)) : nI 120 * f + nI i = nI (120 * ix f + i) := by
  conv => lhs; rw [hf]
  rw [pk_mul, nI_add]
theorem ix_add2 {f p : Int32} (hf : f = nI (ix f)) (hp : p = nI (ix p)) : nI 120 * f + p = nI (120 * ix f + ix p) := by
  conv => lhs; rw [hp]
  exact ix_add hf
theorem c_X9_same {l : Launch} {G : AG} {M0 M : AM} {y t : Nat} {τ : TS} {f p : Int32} (hm : isMD G M0 M y τ t) : Cn l G yX9_same cX9_same 4 (some .boolean) rX9_same M [.ref y, .int f, .int p] (MP Value.int G M y (spSame τ f p)) := by
  obtain ⟨A, S, c, h0, hr0, -⟩ := hm
  have h := h0.base
  obtain ⟨⟨q0, q1⟩, q2, -⟩ := id hr0
  refine Cn.of (by decide) [some (.ref y), some (.int f), some (.int p), none] rfl (Nat.le_of_ble_eq_true rfl) ?_
  intro Z hZ
  obtain ⟨rfl, hn, rfl, hR, X, hr, hnm⟩ := hZ
  refine aw_aload0 X dX9_same_0 ?_
  refine aw_aload0 X dX9_same_1 ?_
  refine aw_iload1 X dX9_same_2 ?_
  refine aw_callV X (c_X9_isFile h q0) kX9_114 (ci := 10) rfl (h.at) dX9_same_3 rfl rfl (by first | decide | exact Nat.le_of_ble_eq_true rfl) (by rw [hR]; exact ⟨by first | decide | exact Nat.le_of_ble_eq_true rfl | (dsimp only; omega), by first | decide | exact Nat.le_of_ble_eq_true rfl | (dsimp only; omega)⟩) (by rw [hR]; exact ⟨by first | decide | exact Nat.le_of_ble_eq_true rfl | (dsimp only; omega), by first | decide | exact Nat.le_of_ble_eq_true rfl | (dsimp only; omega)⟩) (fun v M1 hv => ?_)
  obtain ⟨rfl, rfl⟩ := hv
  refine aw_merge (isF τ f ∧ isF τ p) 22 [some (.ref y), some (.int f), some (.int p), none] [.ref y] ?_ (fun K => ?_)
  · refine aw_callV X (c_X9_may h) kX9_106 (ci := 10) rfl (h.at) dX9_same_22 rfl rfl (by first | decide | exact Nat.le_of_ble_eq_true rfl) (by rw [hR]; exact ⟨by first | decide | exact Nat.le_of_ble_eq_true rfl | (dsimp only; omega), by first | decide | exact Nat.le_of_ble_eq_true rfl | (dsimp only; omega)⟩) (by rw [hR]; exact ⟨by first | decide | exact Nat.le_of_ble_eq_true rfl | (dsimp only; omega), by first | decide | exact Nat.le_of_ble_eq_true rfl | (dsimp only; omega)⟩) (fun v M2 hv => ?_)
    obtain ⟨rfl, h1⟩ := hv
    refine aw_ifeq X dX9_same_25 (tgt := 43) (by decide) (fun c1 => ?_) (fun c1 => ?_)
    · have hp := am_bz.mp c1
      refine aw_iconst X dX9_same_43 (v := nI 0) (by decide) ?_
      refine aw_ireturn X (ty := .boolean) hr (by first | rfl | decide | assumption) dX9_same_44 (MP.of (by rw [spSame, if_neg hp]; rfl) h1 hr0.t (by rw [va_up_self, if_neg hp]))
    · have hp : isF τ f ∧ isF τ p := Decidable.byContradiction (fun e => c1 (am_bz.mpr e))
      obtain ⟨j1, j2, j3⟩ := inI_j hp.1 (by omega)
      obtain ⟨k1, k2, k3⟩ := inI_j hp.2 (by omega)
      obtain ⟨w1, w2, w3⟩ := q2 (ix f) (by omega)
      obtain ⟨u1, u2, u3⟩ := q2 (ix p) (by omega)
      have w1 : (tF τ f).length ≤ 120 := w1
      have u1 : (tF τ p).length ≤ 120 := u1
      refine aw_aload0 X dX9_same_28 ?_
      refine aw_get X fX9_7 dX9_same_29 (h1.at) rfl ?_
      refine aw_iload1 X dX9_same_32 ?_
      refine aw_iald X dX9_same_33 (h1.ai 1 rfl) j2 (by omega) (by decide) ?_
      refine aw_int (y := nI (tF τ f).length) w2 ?_
      refine aw_aload0 X dX9_same_34 ?_
      refine aw_get X fX9_7 dX9_same_35 (h1.at) rfl ?_
      refine aw_iload2 X dX9_same_38 ?_
      refine aw_iald X dX9_same_39 (h1.ai 1 rfl) k2 (by omega) (by decide) ?_
      refine aw_int (y := nI (tF τ p).length) u2 ?_
      refine aw_icmpeq X dX9_same_40 (tgt := 45) (by decide) (fun c2 => ?_) (fun c2 => ?_)
      · have hl : (tF τ f).length = (tF τ p).length := (nI_eq (by omega) (by omega)).mp c2
        refine aw_iconst X dX9_same_45 (v := nI 0) (by decide) ?_
        refine aw_istore3 X dX9_same_46 (by rw [hn]; decide) rfl ?_
        refine aw_loop (σ := Nat) (fun i => i ≤ (tF τ f).length ∧ ∀ k, k < i → (tF τ f).getD k 0 = (tF τ p).getD k 0) (fun i => (tF τ f).length - i) (fun _ => M2) (fun i => [some (.ref y), some (.int f), some (.int p), some (.int (nI i))]) ?_ 0 ⟨Nat.zero_le _, fun k hk => absurd hk (Nat.not_lt_zero _)⟩
        rintro i ⟨hi, hlo⟩ ih
        dsimp only at hi hlo ih ⊢
        refine aw_iload3 X dX9_same_47 ?_
        refine aw_aload0 X dX9_same_48 ?_
        refine aw_get X fX9_7 dX9_same_49 (h1.at) rfl ?_
        refine aw_iload1 X dX9_same_52 ?_
        refine aw_iald X dX9_same_53 (h1.ai 1 rfl) j2 (by omega) (by decide) ?_
        refine aw_int (y := nI (tF τ f).length) w2 ?_
        refine aw_icmpge X dX9_same_54 (tgt := 90) (by decide) (fun c3 => ?_) (fun c3 => ?_)
        · have e : i = (tF τ f).length := by have := (nI_leI (by omega) (by omega)).mp c3; omega
          subst e
          refine aw_iconst X dX9_same_90 (v := nI 1) (by decide) ?_
          refine aw_ireturn X (ty := .boolean) hr (by first | rfl | decide | assumption) dX9_same_91 (MP.of (by rw [spSame, if_pos hp, am_b1 (ls_ext hl hlo)]) h1 hr0.t (by rw [va_up_self, if_pos hp]))
        · have hlt : i < (tF τ f).length := by
            rcases Nat.lt_or_ge i (tF τ f).length with q | q
            · exact q
            · exact absurd (nI_le q (by omega)) c3
          refine aw_aload0 X dX9_same_57 ?_
          refine aw_get X fX9_13 dX9_same_58 (h1.at) rfl ?_
          refine aw_bipush X dX9_same_61 (v := nI 120) (by decide) ?_
          refine aw_iload1 X dX9_same_63 ?_
          refine aw_imul X dX9_same_64 ?_
          refine aw_iload3 X dX9_same_65 ?_
          refine aw_iadd X dX9_same_66 ?_
          refine aw_int (ix_add j2) ?_
          refine aw_iald X dX9_same_67 (h1.ai 2 rfl) rfl (by omega) (by decide) ?_
          refine aw_int (y := (tF τ f).getD i 0) (w3 i hlt) ?_
          refine aw_aload0 X dX9_same_68 ?_
          refine aw_get X fX9_13 dX9_same_69 (h1.at) rfl ?_
          refine aw_bipush X dX9_same_72 (v := nI 120) (by decide) ?_
          refine aw_iload2 X dX9_same_74 ?_
          refine aw_imul X dX9_same_75 ?_
          refine aw_iload3 X dX9_same_76 ?_
          refine aw_iadd X dX9_same_77 ?_
          refine aw_int (ix_add k2) ?_
          refine aw_iald X dX9_same_78 (h1.ai 2 rfl) rfl (by omega) (by decide) ?_
          refine aw_int (y := (tF τ p).getD i 0) (u3 i (by show i < (tF τ p).length; omega)) ?_
          refine aw_icmpeq X dX9_same_79 (tgt := 84) (by decide) (fun c4 => ?_) (fun c4 => ?_)
          · refine aw_iinc3 X dX9_same_84 (by rw [hn]; decide) (am_inc _ 1) rfl ?_
            refine aw_goto X dX9_same_87 (tgt := 47) (by decide) ?_
            refine ih (i + 1) ⟨hlt, fun k hk => ?_⟩ (by omega)
            by_cases e : k = i
            · subst e
              exact c4
            · exact hlo k (by omega)
          · have hne : ¬ tF τ f = tF τ p := fun e => c4 (by rw [e])
            refine aw_iconst X dX9_same_82 (v := nI 0) (by decide) ?_
            refine aw_ireturn X (ty := .boolean) hr (by first | rfl | decide | assumption) dX9_same_83 (MP.of (by rw [spSame, if_pos hp, am_b0 hne]) h1 hr0.t (by rw [va_up_self, if_pos hp]))
      · have hne : ¬ tF τ f = tF τ p := fun e => c2 (by rw [e])
        refine aw_iconst X dX9_same_43 (v := nI 0) (by decide) ?_
        refine aw_ireturn X (ty := .boolean) hr (by first | rfl | decide | assumption) dX9_same_44 (MP.of (by rw [spSame, if_pos hp, am_b0 hne]) h1 hr0.t (by rw [va_up_self, if_pos hp]))
  · refine aw_ifeq X dX9_same_6 (tgt := 21) (by decide) (fun c1 => ?_) (fun c1 => ?_)
    · have hp := am_bz.mp c1
      refine aw_iconst X dX9_same_21 (v := nI 0) (by decide) ?_
      exact aw_b0 (fun e => hp e.1) K
    · have hp : isF τ f := Decidable.byContradiction (fun e => c1 (am_bz.mpr e))
      refine aw_aload0 X dX9_same_9 ?_
      refine aw_iload2 X dX9_same_10 ?_
      refine aw_callV X (c_X9_isFile h q0) kX9_114 (ci := 10) rfl (h.at) dX9_same_11 rfl rfl (by first | decide | exact Nat.le_of_ble_eq_true rfl) (by rw [hR]; exact ⟨by first | decide | exact Nat.le_of_ble_eq_true rfl | (dsimp only; omega), by first | decide | exact Nat.le_of_ble_eq_true rfl | (dsimp only; omega)⟩) (by rw [hR]; exact ⟨by first | decide | exact Nat.le_of_ble_eq_true rfl | (dsimp only; omega), by first | decide | exact Nat.le_of_ble_eq_true rfl | (dsimp only; omega)⟩) (fun v M1 hv => ?_)
      obtain ⟨rfl, rfl⟩ := hv
      refine aw_ifeq X dX9_same_14 (tgt := 21) (by decide) (fun c2 => ?_) (fun c2 => ?_)
      · have hp2 := am_bz.mp c2
        refine aw_iconst X dX9_same_21 (v := nI 0) (by decide) ?_
        exact aw_b0 (fun e => hp2 e.2) K
      · have hp2 : isF τ p := Decidable.byContradiction (fun e => c2 (am_bz.mpr e))
        refine aw_iconst X dX9_same_17 (v := nI 1) (by decide) ?_
        refine aw_goto X dX9_same_18 (tgt := 22) (by decide) ?_
        exact aw_b1 (⟨hp, hp2⟩) K
theorem c_X9_copy {l : Launch} {G : AG} {M0 M : AM} {y t : Nat} {τ : TS} {f p : Int32} (hm : isMD G M0 M y τ t) : Cn l G yX9_copy cX9_copy 4 none rX9_copy M [.ref y, .int f, .int p] (MPv G M y (spCopy τ f p)) := by
  obtain ⟨A, S, c, h0, hr0, -⟩ := hm
  have h := h0.base
  obtain ⟨⟨q0, q1⟩, q2, -⟩ := id hr0
  refine Cn.of (by decide) [some (.ref y), some (.int f), some (.int p), none] rfl (Nat.le_of_ble_eq_true rfl) ?_
  intro Z hZ
  obtain ⟨rfl, hn, rfl, hR, X, hr, hnm⟩ := hZ
  refine aw_aload0 X dX9_copy_0 ?_
  refine aw_aload0 X dX9_copy_1 ?_
  refine aw_iload1 X dX9_copy_2 ?_
  refine aw_callV X (c_X9_isFile h q0) kX9_114 (ci := 10) rfl (h.at) dX9_copy_3 rfl rfl (by first | decide | exact Nat.le_of_ble_eq_true rfl) (by rw [hR]; exact ⟨by first | decide | exact Nat.le_of_ble_eq_true rfl | (dsimp only; omega), by first | decide | exact Nat.le_of_ble_eq_true rfl | (dsimp only; omega)⟩) (by rw [hR]; exact ⟨by first | decide | exact Nat.le_of_ble_eq_true rfl | (dsimp only; omega), by first | decide | exact Nat.le_of_ble_eq_true rfl | (dsimp only; omega)⟩) (fun v M1 hv => ?_)
  obtain ⟨rfl, rfl⟩ := hv
  refine aw_merge (isF τ f ∧ isF τ p) 22 [some (.ref y), some (.int f), some (.int p), none] [.ref y] ?_ (fun K => ?_)
  · refine aw_callV X (c_X9_may h) kX9_106 (ci := 10) rfl (h.at) dX9_copy_22 rfl rfl (by first | decide | exact Nat.le_of_ble_eq_true rfl) (by rw [hR]; exact ⟨by first | decide | exact Nat.le_of_ble_eq_true rfl | (dsimp only; omega), by first | decide | exact Nat.le_of_ble_eq_true rfl | (dsimp only; omega)⟩) (by rw [hR]; exact ⟨by first | decide | exact Nat.le_of_ble_eq_true rfl | (dsimp only; omega), by first | decide | exact Nat.le_of_ble_eq_true rfl | (dsimp only; omega)⟩) (fun v M2 hv => ?_)
    obtain ⟨rfl, h1⟩ := hv
    refine aw_ifeq X dX9_copy_25 (tgt := 80) (by decide) (fun c1 => ?_) (fun c1 => ?_)
    · have hp := am_bz.mp c1
      refine aw_vreturn X hr dX9_copy_80 (MPv.of (by rw [spCopy, if_neg hp]) h1 hr0.t (by rw [va_up_self, if_neg hp]))
    · have hp : isF τ f ∧ isF τ p := Decidable.byContradiction (fun e => c1 (am_bz.mpr e))
      obtain ⟨j1, j2, j3⟩ := inI_j hp.1 (by omega)
      obtain ⟨k1, k2, k3⟩ := inI_j hp.2 (by omega)
      obtain ⟨w1, w2, w3⟩ := q2 (ix f) (by omega)
      have w1 : (tF τ f).length ≤ 120 := w1
      refine aw_aload0 X dX9_copy_28 ?_
      refine aw_get X fX9_7 dX9_copy_29 (h1.at) rfl ?_
      refine aw_iload2 X dX9_copy_32 ?_
      refine aw_aload0 X dX9_copy_33 ?_
      refine aw_get X fX9_7 dX9_copy_34 (h1.at) rfl ?_
      refine aw_iload1 X dX9_copy_37 ?_
      refine aw_iald X dX9_copy_38 (h1.ai 1 rfl) j2 (by omega) (by decide) ?_
      refine aw_int (y := nI (tF τ f).length) w2 ?_
      refine aw_mst X 1 dX9_copy_39 h1 rfl k2 (by omega) (by decide) (fun M3 h3 => ?_)
      refine aw_iconst X dX9_copy_40 (v := nI 0) (by decide) ?_
      refine aw_istore3 X dX9_copy_41 (by rw [hn]; decide) rfl ?_
      have a1 : (va_up A 1 (upd (A 1) (ix p) (nI (tF τ f).length))) 1 (ix f) = nI (tF τ f).length := by
        show upd (A 1) (ix p) _ (ix f) = _
        by_cases e : ix f = ix p
        · rw [e, pk_us]
        · rw [pk_un e]
          exact w2
      refine aw_loop (σ := Nat × MA × AM) (fun i => i.1 ≤ (tF τ f).length ∧ md (zG Z) M1 i.2.2 y i.2.1 S (va_up c 35 (nI (if isF τ f ∧ isF τ p then 0 else 1))) ∧ (∀ a, 3 ≤ a → a ≤ 26 → i.2.1 a = A a) ∧ i.2.1 1 = upd (A 1) (ix p) (nI (tF τ f).length) ∧ (∀ k, k < 120 * ix p ∨ 120 * ix p + 120 ≤ k → i.2.1 2 k = A 2 k) ∧ (∀ k, k < (tF τ f).length → i.2.1 2 (120 * ix f + k) = (tF τ f).getD k 0) ∧ ∀ k, k < i.1 → i.2.1 2 (120 * ix p + k) = (tF τ f).getD k 0) (fun i => (tF τ f).length - i.1) (fun i => i.2.2) (fun i => [some (.ref y), some (.int f), some (.int p), some (.int (nI i.1))]) ?_ (0, va_up A 1 (upd (A 1) (ix p) (nI (tF τ f).length)), M3) ⟨Nat.zero_le _, h3, fun a x1 x2 => va_up_ne _ _ (by omega), va_up_self A 1 _, fun k _ => rfl, w3, fun k hk => absurd hk (Nat.not_lt_zero _)⟩
      rintro ⟨i, B, M4⟩ ⟨hi, h4, b3, b1, b2, bf, bp⟩ ih
      dsimp only at hi h4 b3 b1 b2 bf bp ih ⊢
      refine aw_iload3 X dX9_copy_42 ?_
      refine aw_aload0 X dX9_copy_43 ?_
      refine aw_get X fX9_7 dX9_copy_44 (h4.at) rfl ?_
      refine aw_iload1 X dX9_copy_47 ?_
      refine aw_iald X dX9_copy_48 (h4.ai 1 rfl) j2 (by omega) (by decide) ?_
      refine aw_int (y := nI (tF τ f).length) (by rw [b1]; exact a1) ?_
      refine aw_icmpge X dX9_copy_49 (tgt := 80) (by decide) (fun c3 => ?_) (fun c3 => ?_)
      · have e : i = (tF τ f).length := by have := (nI_leI (by omega) (by omega)).mp c3; omega
        subst e
        refine aw_vreturn X hr dX9_copy_80 (MPv.of (by rw [spCopy, if_pos hp]) h4 (hr0.t.file b3 (fun j hj => by rw [b1, pk_un hj]) b2 ⟨w1, by rw [b1, pk_us], bp⟩) (by rw [va_up_self, if_pos hp]))
      · have hlt : i < (tF τ f).length := by
          rcases Nat.lt_or_ge i (tF τ f).length with q | q
          · exact q
          · exact absurd (nI_le q (by omega)) c3
        refine aw_aload0 X dX9_copy_52 ?_
        refine aw_get X fX9_13 dX9_copy_53 (h4.at) rfl ?_
        refine aw_bipush X dX9_copy_56 (v := nI 120) (by decide) ?_
        refine aw_iload2 X dX9_copy_58 ?_
        refine aw_imul X dX9_copy_59 ?_
        refine aw_iload3 X dX9_copy_60 ?_
        refine aw_iadd X dX9_copy_61 ?_
        refine aw_int (ix_add k2) ?_
        refine aw_aload0 X dX9_copy_62 ?_
        refine aw_get X fX9_13 dX9_copy_63 (h4.at) rfl ?_
        refine aw_bipush X dX9_copy_66 (v := nI 120) (by decide) ?_
        refine aw_iload1 X dX9_copy_68 ?_
        refine aw_imul X dX9_copy_69 ?_
        refine aw_iload3 X dX9_copy_70 ?_
        refine aw_iadd X dX9_copy_71 ?_
        refine aw_int (ix_add j2) ?_
        refine aw_iald X dX9_copy_72 (h4.ai 2 rfl) rfl (by omega) (by decide) ?_
        refine aw_int (y := (tF τ f).getD i 0) (bf i hlt) ?_
        refine aw_mst X 2 dX9_copy_73 h4 rfl rfl (by omega) (by decide) (fun M5 h5 => ?_)
        refine aw_iinc3 X dX9_copy_74 (by rw [hn]; decide) (am_inc _ 1) rfl ?_
        refine aw_goto X dX9_copy_77 (tgt := 42) (by decide) ?_
        refine ih (i + 1, va_up B 2 (upd (B 2) (120 * ix p + i) ((tF τ f).getD i 0)), M5) ⟨hlt, h5, fun a x1 x2 => (va_up_ne _ _ (by omega)).trans (b3 a x1 x2), b1, fun k hk => ?_, fun k hk => ?_, fun k hk => ?_⟩ (by dsimp only; omega)
        · dsimp only
          rw [va_up_self, pk_un (by omega)]
          exact b2 k hk
        · dsimp only
          rw [va_up_self]
          by_cases e : 120 * ix f + k = 120 * ix p + i
          · rw [e, pk_us]
            have : ix f = ix p ∧ k = i := by omega
            rw [this.2]
          · rw [pk_un e]
            exact bf k hk
        · dsimp only at hk ⊢
          rw [va_up_self]
          by_cases e : k = i
          · subst e
            rw [pk_us]
          · rw [pk_un (by omega)]
            exact bp k (by omega)
  · refine aw_ifeq X dX9_copy_6 (tgt := 21) (by decide) (fun c1 => ?_) (fun c1 => ?_)
    · have hp := am_bz.mp c1
      refine aw_iconst X dX9_copy_21 (v := nI 0) (by decide) ?_
      exact aw_b0 (fun e => hp e.1) K
    · have hp : isF τ f := Decidable.byContradiction (fun e => c1 (am_bz.mpr e))
      refine aw_aload0 X dX9_copy_9 ?_
      refine aw_iload2 X dX9_copy_10 ?_
      refine aw_callV X (c_X9_isFile h q0) kX9_114 (ci := 10) rfl (h.at) dX9_copy_11 rfl rfl (by first | decide | exact Nat.le_of_ble_eq_true rfl) (by rw [hR]; exact ⟨by first | decide | exact Nat.le_of_ble_eq_true rfl | (dsimp only; omega), by first | decide | exact Nat.le_of_ble_eq_true rfl | (dsimp only; omega)⟩) (by rw [hR]; exact ⟨by first | decide | exact Nat.le_of_ble_eq_true rfl | (dsimp only; omega), by first | decide | exact Nat.le_of_ble_eq_true rfl | (dsimp only; omega)⟩) (fun v M1 hv => ?_)
      obtain ⟨rfl, rfl⟩ := hv
      refine aw_ifeq X dX9_copy_14 (tgt := 21) (by decide) (fun c2 => ?_) (fun c2 => ?_)
      · have hp2 := am_bz.mp c2
        refine aw_iconst X dX9_copy_21 (v := nI 0) (by decide) ?_
        exact aw_b0 (fun e => hp2 e.2) K
      · have hp2 : isF τ p := Decidable.byContradiction (fun e => c2 (am_bz.mpr e))
        refine aw_iconst X dX9_copy_17 (v := nI 1) (by decide) ?_
        refine aw_goto X dX9_copy_18 (tgt := 22) (by decide) ?_
        exact aw_b1 (⟨hp, hp2⟩) K
