theorem inI_le {x : Int32} {n : Nat} (hn : n < 1000000) (h0 : ¬ x < 0) : inI x (n + 1) ↔ x ≤ nI n := by
  obtain ⟨j, hj, rfl⟩ := nI_of h0
  constructor
  · intro h
    have := (nI_ltI hj (by omega)).mp h.2
    exact nI_le (by omega) (by omega)
  · intro h
    have := (nI_leI hj (by omega)).mp h
    exact ⟨h0, nI_lt (by omega) (by omega)⟩
theorem ins_get {bs : List Int32} {p j : Nat} {v : Int32} (hp : p ≤ bs.length) (hj : j ≤ bs.length) : (bs.take p ++ v :: bs.drop p).getD j 0 = if j < p then bs.getD j 0 else if j = p then v else bs.getD (j - 1) 0 := by
  rw [List.getD_eq_getElem?_getD]
  by_cases h1 : j < p
  · rw [if_pos h1, List.getElem?_append_left (by rw [List.length_take]; omega), List.getElem?_take, if_pos h1, List.getD_eq_getElem?_getD]
  · rw [if_neg h1, List.getElem?_append_right (by rw [List.length_take]; omega), List.length_take, Nat.min_eq_left hp]
    by_cases h2 : j = p
    · rw [if_pos h2, h2, Nat.sub_self]
      rfl
    · rw [if_neg h2, show j - p = (j - p - 1) + 1 by omega, List.getElem?_cons_succ, List.getElem?_drop, List.getD_eq_getElem?_getD, show p + (j - p - 1) = j - 1 by omega]
theorem spInsert_no {τ : TS} {f p v : Int32} (h : ¬ ((isF τ f ∧ inI p ((tF τ f).length + 1)) ∧ inI v 256 ∧ ((isF τ f ∧ inI p ((tF τ f).length + 1)) ∧ (tF τ f).length < 120))) : spInsert τ f p v = (thA (isF τ f ∧ inI p ((tF τ f).length + 1)) (inI v 256) ((isF τ f ∧ inI p ((tF τ f).length + 1)) ∧ (tF τ f).length < 120), 0, τ) := by
  by_cases h1 : isF τ f ∧ inI p ((tF τ f).length + 1)
  · by_cases h2 : inI v 256
    · have h3 : ¬ (tF τ f).length < 120 := fun e => h ⟨h1, h2, h1, e⟩
      rw [spInsert, thA, if_pos h1, if_pos (inI_rg.mp h2), if_neg h3, if_pos h1, if_pos h2, if_neg (fun e => h3 e.2)]
    · rw [spInsert, thA, if_pos h1, if_neg (fun e => h2 (inI_rg.mpr e)), if_pos h1, if_neg h2]
  · rw [spInsert, thA, if_neg h1, if_neg h1]
theorem c_X9_insert {l : Launch} {G : AG} {M0 M : AM} {y t : Nat} {τ : TS} {f p v : Int32} (hm : isMD G M0 M y τ t) : Cn l G yX9_insert cX9_insert 6 (some .int) rX9_insert M [.ref y, .int f, .int p, .int v] (MP Value.int G M y (spInsert τ f p v)) := by
  obtain ⟨A, S, c, h0, hr0, -⟩ := hm
  have h := h0.base
  obtain ⟨⟨q0, q1⟩, q2, -⟩ := id hr0
  refine Cn.of (by decide) [some (.ref y), some (.int f), some (.int p), some (.int v), none, none] rfl (Nat.le_of_ble_eq_true rfl) ?_
  intro Z hZ
  obtain ⟨rfl, hn, rfl, hR, X, hr, hnm⟩ := hZ
  refine aw_aload0 X dX9_insert_0 ?_
  refine aw_iload1 X dX9_insert_1 ?_
  refine aw_callV X (c_X9_isFile h q0) kX9_114 (ci := 10) rfl (h.at) dX9_insert_2 rfl rfl (by first | decide | exact Nat.le_of_ble_eq_true rfl) (by rw [hR]; exact ⟨by first | decide | exact Nat.le_of_ble_eq_true rfl | (dsimp only; omega), by first | decide | exact Nat.le_of_ble_eq_true rfl | (dsimp only; omega)⟩) (by rw [hR]; exact ⟨by first | decide | exact Nat.le_of_ble_eq_true rfl | (dsimp only; omega), by first | decide | exact Nat.le_of_ble_eq_true rfl | (dsimp only; omega)⟩) (fun o M1 hv => ?_)
  obtain ⟨rfl, rfl⟩ := hv
  refine aw_merge (isF τ f ∧ inI p ((tF τ f).length + 1)) 27 [some (.ref y), some (.int f), some (.int p), some (.int v), none, none] [] ?_ (fun K => ?_)
  · refine aw_istore4 X dX9_insert_27 (by rw [hn]; decide) rfl ?_
    refine aw_aload0 X dX9_insert_29 ?_
    refine aw_iload4 X dX9_insert_30 ?_
    refine aw_iload3 X dX9_insert_32 ?_
    refine aw_callS X (c_X9_isByte) kX9_110 dX9_insert_33 rfl rfl (by first | decide | exact Nat.le_of_ble_eq_true rfl) (by rw [hR]; exact ⟨by first | decide | exact Nat.le_of_ble_eq_true rfl | (dsimp only; omega), by first | decide | exact Nat.le_of_ble_eq_true rfl | (dsimp only; omega)⟩) (by rw [hR]; exact ⟨by first | decide | exact Nat.le_of_ble_eq_true rfl | (dsimp only; omega), by first | decide | exact Nat.le_of_ble_eq_true rfl | (dsimp only; omega)⟩) (fun o M1 hv => ?_)
    obtain ⟨rfl, rfl⟩ := hv
    refine aw_merge ((isF τ f ∧ inI p ((tF τ f).length + 1)) ∧ (tF τ f).length < 120) 57 [some (.ref y), some (.int f), some (.int p), some (.int v), some (.int (am_b (isF τ f ∧ inI p ((tF τ f).length + 1)))), none] [.int (am_b (inI v 256)), .int (am_b (isF τ f ∧ inI p ((tF τ f).length + 1))), .ref y] ?_ (fun K => ?_)
    · refine aw_callV X (c_X9_mayAll h) kX9_117 (ci := 10) rfl (h.at) dX9_insert_57 rfl rfl (by first | decide | exact Nat.le_of_ble_eq_true rfl) (by rw [hR]; exact ⟨by first | decide | exact Nat.le_of_ble_eq_true rfl | (dsimp only; omega), by first | decide | exact Nat.le_of_ble_eq_true rfl | (dsimp only; omega)⟩) (by rw [hR]; exact ⟨by first | decide | exact Nat.le_of_ble_eq_true rfl | (dsimp only; omega), by first | decide | exact Nat.le_of_ble_eq_true rfl | (dsimp only; omega)⟩) (fun o M2 hv => ?_)
      obtain ⟨rfl, h1⟩ := hv
      refine aw_ifne X dX9_insert_60 (tgt := 65) (by decide) (fun c1 => ?_) (fun c1 => ?_)
      · have hp : (isF τ f ∧ inI p ((tF τ f).length + 1)) ∧ inI v 256 ∧ ((isF τ f ∧ inI p ((tF τ f).length + 1)) ∧ (tF τ f).length < 120) := Decidable.byContradiction (fun e => c1 (am_bz.mpr e))
        obtain ⟨hp1, hp2, -, hlt⟩ := hp
        obtain ⟨j1, j2, j3⟩ := inI_j hp1.1 (by omega)
        obtain ⟨w1, w2, w3⟩ := q2 (ix f) (by omega)
        have w1 : (tF τ f).length ≤ 120 := w1
        obtain ⟨k1, k2, k3⟩ := inI_j hp1.2 (by omega)
        refine aw_aload0 X dX9_insert_65 ?_
        refine aw_get X fX9_7 dX9_insert_66 (h1.at) rfl ?_
        refine aw_iload1 X dX9_insert_69 ?_
        refine aw_iald X dX9_insert_70 (h1.ai 1 rfl) j2 (by omega) (by decide) ?_
        refine aw_int (y := nI (tF τ f).length) w2 ?_
        refine aw_istore5 X dX9_insert_71 (by rw [hn]; decide) rfl ?_
        refine aw_loop (σ := Nat × MA × AM) (fun i => ix p ≤ i.1 ∧ i.1 ≤ (tF τ f).length ∧ md (zG Z) M1 i.2.2 y i.2.1 S (va_up c 35 (nI (thA (isF τ f ∧ inI p ((tF τ f).length + 1)) (inI v 256) ((isF τ f ∧ inI p ((tF τ f).length + 1)) ∧ (tF τ f).length < 120)))) ∧ (∀ a, 3 ≤ a → a ≤ 26 → i.2.1 a = A a) ∧ i.2.1 1 = A 1 ∧ (∀ k, k < 120 * ix f ∨ 120 * ix f + 120 ≤ k → i.2.1 2 k = A 2 k) ∧ (∀ k, k < i.1 → i.2.1 2 (120 * ix f + k) = (tF τ f).getD k 0) ∧ ∀ k, i.1 < k → k ≤ (tF τ f).length → i.2.1 2 (120 * ix f + k) = (tF τ f).getD (k - 1) 0) (fun i => i.1 - ix p) (fun i => i.2.2) (fun i => [some (.ref y), some (.int f), some (.int p), some (.int v), some (.int (am_b (isF τ f ∧ inI p ((tF τ f).length + 1)))), some (.int (nI i.1))]) ?_ ((tF τ f).length, A, M2) ⟨by dsimp only; omega, Nat.le_refl _, h1, fun _ _ _ => rfl, rfl, fun _ _ => rfl, w3, fun k x1 x2 => by dsimp only at x1; omega⟩
        rintro ⟨i, B, M3⟩ ⟨hi0, hi, h3, b3, b1, b2, bl, bh⟩ ih
        dsimp only at hi0 hi h3 b3 b1 b2 bl bh ih ⊢
        refine aw_iload5 X dX9_insert_73 ?_
        refine aw_iload2 X dX9_insert_75 ?_
        refine aw_icmple X dX9_insert_76 (tgt := 111) (by decide) (fun c3 => ?_) (fun c3 => ?_)
        · have e : i = ix p := by
            rw [k2] at c3
            have := (nI_leI (by omega) (by omega)).mp c3
            omega
          subst e
          refine aw_aload0 X dX9_insert_111 ?_
          refine aw_get X fX9_13 dX9_insert_112 (h3.at) rfl ?_
          refine aw_bipush X dX9_insert_115 (v := nI 120) (by decide) ?_
          refine aw_iload1 X dX9_insert_117 ?_
          refine aw_imul X dX9_insert_118 ?_
          refine aw_iload2 X dX9_insert_119 ?_
          refine aw_iadd X dX9_insert_120 ?_
          refine aw_int (ix_add2 j2 k2) ?_
          refine aw_iload3 X dX9_insert_121 ?_
          refine aw_mst X 2 dX9_insert_122 h3 rfl rfl (by omega) (by decide) (fun M4 h4 => ?_)
          refine aw_aload0 X dX9_insert_123 ?_
          refine aw_get X fX9_7 dX9_insert_124 (h4.at) rfl ?_
          refine aw_iload1 X dX9_insert_127 ?_
          refine aw_dup2 X dX9_insert_128 rfl rfl ?_
          refine aw_iald X dX9_insert_129 (h4.ai 1 rfl) j2 (by omega) (by decide) ?_
          refine aw_int (y := nI (tF τ f).length) (by show B 1 _ = _; rw [b1]; exact w2) ?_
          refine aw_iconst X dX9_insert_130 (v := nI 1) (by decide) ?_
          refine aw_iadd X dX9_insert_131 ?_
          first | with_reducible refine aw_int (nI_add _ _) ?_ | skip
          refine aw_mst X 1 dX9_insert_132 h4 rfl j2 (by omega) (by decide) (fun M5 h5 => ?_)
          refine aw_aload0 X dX9_insert_133 ?_
          refine aw_get X fX9_7 dX9_insert_134 (h5.at) rfl ?_
          refine aw_iload1 X dX9_insert_137 ?_
          refine aw_iald X dX9_insert_138 (h5.ai 1 rfl) j2 (by omega) (by decide) ?_
          refine aw_int (y := nI ((tF τ f).length + 1)) pk_us ?_
          have hlen : ((tF τ f).take (ix p) ++ v :: (tF τ f).drop (ix p)).length = (tF τ f).length + 1 := by rw [List.length_append, List.length_cons, List.length_take, List.length_drop]; omega
          refine aw_ireturn X (ty := .int) hr (by first | rfl | decide | assumption) dX9_insert_139 (MP.of (by rw [spInsert, if_pos hp1, if_pos (inI_rg.mp hp2), if_pos hlt]) h5 (hr0.t.file (fun a x1 x2 => (va_up_ne _ _ (by omega)).trans ((va_up_ne _ _ (by omega)).trans (b3 a x1 x2))) (fun j hj => (pk_un hj).trans (by show B 1 j = _; rw [b1])) (fun k hk => (pk_un (by omega)).trans (b2 k hk)) ⟨by rw [hlen]; omega, by rw [hlen]; exact pk_us, fun k hk => ?_⟩) (by rw [va_up_self, thA, if_pos hp1, if_pos hp2, if_pos ⟨hp1, hlt⟩]))
          rw [hlen] at hk
          rw [ins_get (by omega) (by omega)]
          show upd (B 2) (120 * ix f + ix p) v (120 * ix f + k) = _
          by_cases e1 : k < ix p
          · rw [if_pos e1, pk_un (by omega)]
            exact bl k e1
          · rw [if_neg e1]
            by_cases e2 : k = ix p
            · rw [if_pos e2, e2, pk_us]
            · rw [if_neg e2, pk_un (by omega)]
              exact bh k (by omega) (by omega)
        · have hgt : ix p < i := by
            rcases Nat.lt_or_ge (ix p) i with q | q
            · exact q
            · exact absurd (by rw [k2]; exact nI_le q (by omega)) c3
          refine aw_aload0 X dX9_insert_79 ?_
          refine aw_get X fX9_13 dX9_insert_80 (h3.at) rfl ?_
          refine aw_bipush X dX9_insert_83 (v := nI 120) (by decide) ?_
          refine aw_iload1 X dX9_insert_85 ?_
          refine aw_imul X dX9_insert_86 ?_
          refine aw_iload5 X dX9_insert_87 ?_
          refine aw_iadd X dX9_insert_89 ?_
          refine aw_int (ix_add j2) ?_
          refine aw_aload0 X dX9_insert_90 ?_
          refine aw_get X fX9_13 dX9_insert_91 (h3.at) rfl ?_
          refine aw_bipush X dX9_insert_94 (v := nI 120) (by decide) ?_
          refine aw_iload1 X dX9_insert_96 ?_
          refine aw_imul X dX9_insert_97 ?_
          refine aw_iload5 X dX9_insert_98 ?_
          refine aw_iadd X dX9_insert_100 ?_
          refine aw_int (ix_add j2) ?_
          refine aw_iconst X dX9_insert_101 (v := nI 1) (by decide) ?_
          refine aw_isub X dX9_insert_102 ?_
          refine aw_int (y := nI (120 * ix f + (i - 1))) (by rw [pk_sub (by omega)]; congr 1; omega) ?_
          refine aw_iald X dX9_insert_103 (h3.ai 2 rfl) rfl (by omega) (by decide) ?_
          refine aw_int (y := (tF τ f).getD (i - 1) 0) (bl (i - 1) (by omega)) ?_
          refine aw_mst X 2 dX9_insert_104 h3 rfl rfl (by omega) (by decide) (fun M4 h4 => ?_)
          obtain ⟨i', rfl⟩ : ∃ i', i = i' + 1 := ⟨i - 1, by omega⟩
          refine aw_iinc5 X dX9_insert_105 (by rw [hn]; decide) (am_dec _) rfl ?_
          refine aw_goto X dX9_insert_108 (tgt := 73) (by decide) ?_
          refine ih (i', va_up B 2 (upd (B 2) (120 * ix f + (i' + 1)) ((tF τ f).getD (i' + 1 - 1) 0)), M4) ⟨by dsimp only; omega, by dsimp only; omega, h4, fun a x1 x2 => (va_up_ne _ _ (by omega)).trans (b3 a x1 x2), b1, fun k hk => (pk_un (by omega)).trans (b2 k hk), fun k hk => ?_, fun k x1 x2 => ?_⟩ (by dsimp only; omega)
          · dsimp only at hk
            exact (pk_un (by omega)).trans (bl k (by omega))
          · dsimp only at x1
            show upd (B 2) (120 * ix f + (i' + 1)) ((tF τ f).getD (i' + 1 - 1) 0) (120 * ix f + k) = _
            by_cases e : k = i' + 1
            · rw [e, pk_us]
            · rw [pk_un (by omega)]
              exact bh k (by omega) x2
      · have hp := am_bz.mp c1
        refine aw_iconst X dX9_insert_63 (v := nI 0) (by decide) ?_
        refine aw_ireturn X (ty := .int) hr (by first | rfl | decide | assumption) dX9_insert_64 (MP.of (spInsert_no hp) h1 hr0.t (va_up_self _ _ _))
    · refine aw_iload4 X dX9_insert_36 ?_
      refine aw_ifeq X dX9_insert_38 (tgt := 56) (by decide) (fun c2 => ?_) (fun c2 => ?_)
      · have hp := am_bz.mp c2
        refine aw_iconst X dX9_insert_56 (v := nI 0) (by decide) ?_
        exact aw_b0 (fun e => hp e.1) K
      · have hp1 : isF τ f ∧ inI p ((tF τ f).length + 1) := Decidable.byContradiction (fun e => c2 (am_bz.mpr e))
        obtain ⟨j1, j2, j3⟩ := inI_j hp1.1 (by omega)
        obtain ⟨w1, w2, w3⟩ := q2 (ix f) (by omega)
        have w1 : (tF τ f).length ≤ 120 := w1
        refine aw_aload0 X dX9_insert_41 ?_
        refine aw_get X fX9_7 dX9_insert_42 (h.at) rfl ?_
        refine aw_iload1 X dX9_insert_45 ?_
        refine aw_iald X dX9_insert_46 (h.ai 1 rfl) j2 (by omega) (by decide) ?_
        refine aw_int (y := nI (tF τ f).length) w2 ?_
        refine aw_bipush X dX9_insert_47 (v := nI 120) (by decide) ?_
        refine aw_icmpge X dX9_insert_49 (tgt := 56) (by decide) (fun c4 => ?_) (fun c4 => ?_)
        · have hp : ¬ (tF τ f).length < 120 := fun e => absurd c4 (nI_ge e (by omega))
          refine aw_iconst X dX9_insert_56 (v := nI 0) (by decide) ?_
          exact aw_b0 (fun e => hp e.2) K
        · have hp : (tF τ f).length < 120 := by
            rcases Nat.lt_or_ge (tF τ f).length 120 with q | q
            · exact q
            · exact absurd (nI_le q (by omega)) c4
          refine aw_iconst X dX9_insert_52 (v := nI 1) (by decide) ?_
          refine aw_goto X dX9_insert_53 (tgt := 57) (by decide) ?_
          exact aw_b1 (⟨hp1, hp⟩) K
  · refine aw_ifeq X dX9_insert_5 (tgt := 26) (by decide) (fun c1 => ?_) (fun c1 => ?_)
    · have hp := am_bz.mp c1
      refine aw_iconst X dX9_insert_26 (v := nI 0) (by decide) ?_
      exact aw_b0 (fun e => hp e.1) K
    · have hp1 : isF τ f := Decidable.byContradiction (fun e => c1 (am_bz.mpr e))
      obtain ⟨j1, j2, j3⟩ := inI_j hp1 (by omega)
      obtain ⟨w1, w2, w3⟩ := q2 (ix f) (by omega)
      have w1 : (tF τ f).length ≤ 120 := w1
      refine aw_iload2 X dX9_insert_8 ?_
      refine aw_iflt X dX9_insert_9 (tgt := 26) (by decide) (fun c2 => ?_) (fun c2 => ?_)
      · refine aw_iconst X dX9_insert_26 (v := nI 0) (by decide) ?_
        exact aw_b0 (fun e => e.2.1 c2) K
      · refine aw_iload2 X dX9_insert_12 ?_
        refine aw_aload0 X dX9_insert_13 ?_
        refine aw_get X fX9_7 dX9_insert_14 (h.at) rfl ?_
        refine aw_iload1 X dX9_insert_17 ?_
        refine aw_iald X dX9_insert_18 (h.ai 1 rfl) j2 (by omega) (by decide) ?_
        refine aw_int (y := nI (tF τ f).length) w2 ?_
        refine aw_icmpgt X dX9_insert_19 (tgt := 26) (by decide) (fun c3 => ?_) (fun c3 => ?_)
        · refine aw_iconst X dX9_insert_26 (v := nI 0) (by decide) ?_
          exact aw_b0 (fun e => Int32.lt_irrefl (Int32.lt_of_lt_of_le c3 ((inI_le (by omega) c2).mp e.2))) K
        · refine aw_iconst X dX9_insert_22 (v := nI 1) (by decide) ?_
          refine aw_goto X dX9_insert_23 (tgt := 27) (by decide) ?_
          exact aw_b1 (⟨hp1, (inI_le (by omega) c2).mpr (Int32.not_lt.mp c3)⟩) K
