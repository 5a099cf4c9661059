/-! the model applies a delta -/
theorem gd_l {l m : List Int32} {k : Nat} (h : k < l.length) : (l ++ m).getD k 0 = l.getD k 0 := by
  rw [List.getD_eq_getElem?_getD, List.getElem?_append_left h, List.getD_eq_getElem?_getD]
theorem gd_r {l m : List Int32} {k : Nat} : (l ++ m).getD (l.length + k) 0 = m.getD k 0 := by
  rw [List.getD_eq_getElem?_getD, List.getElem?_append_right (by omega), Nat.add_sub_cancel_left, List.getD_eq_getElem?_getD]
theorem piece_get {cm bb : List Int32} {i : IN} {j : Nat} (hj : j < i.2.2) : (piece cm bb i).getD j 0 = (if i.1 = true then bb else cm).getD (i.2.1 + j) 0 := by
  unfold piece
  rw [List.getD_eq_getElem?_getD, List.getElem?_take, if_pos hj, List.getElem?_drop, List.getD_eq_getElem?_getD]
theorem c_X9_applies {l : Launch} {G : AG} {M0 M : AM} {y d : Nat} {A : MA} {S : Nat → Int64} {c : Nat → Int32} {D : DL} {bb : List Int32} (h : md G M0 M y A S c) (hd : d < 24) (hD : dlRel A d D) (hb : bb.length ≤ 120) (hm : ∀ k, k < bb.length → A 21 k = bb.getD k 0) (hfit : fitB D.2.1 bb.length = true) : Cn l G yX9_applies cX9_applies 5 none rX9_applies M [.ref y, .int (nI d)] (fun v M' => v = none ∧ ∃ B : MA, md G M0 M' y B S (va_up c 26 (nI (app D.2.1 D.2.2.2 bb).length)) ∧ (∀ a, a < 21 ∨ 22 < a → B a = A a) ∧ ∀ k, k < (app D.2.1 D.2.2.2 bb).length → B 21 k = (app D.2.1 D.2.2.2 bb).getD k 0) := by
  obtain ⟨v0, v1, v2, v3, v4, v5⟩ := hD
  have hl := v0.1
  have hcm := v0.2.2.1
  have hle : ∀ k, (app (D.2.1.take k) D.2.2.2 bb).length ≤ 120 := fun k => Nat.le_trans (Nat.le_of_eq (app_len v0 hfit (D.2.1.take k) (fun i hi => List.mem_of_mem_take hi))) (Nat.le_trans (sumsz_take_le D.2.1 k) (Nat.le_trans (Nat.le_of_eq v0.2.1) v0.2.2.1))
  refine Cn.of (by decide) [some (.ref y), some (.int (nI d)), none, none, none] rfl (Nat.le_of_ble_eq_true rfl) ?_
  intro Z hZ
  obtain ⟨rfl, hn, rfl, hR, X, hr, hnm⟩ := hZ
  refine aw_iconst X dX9_applies_0 (v := nI 0) (by decide) ?_
  refine aw_istore2 X dX9_applies_1 (by rw [hn]; decide) rfl ?_
  refine aw_bipush X dX9_applies_2 (v := nI 120) (by decide) ?_
  refine aw_iload1 X dX9_applies_4 ?_
  refine aw_imul X dX9_applies_5 ?_
  first | with_reducible refine aw_int (pk_mul _ _) ?_ | skip
  refine aw_istore3 X dX9_applies_6 (by rw [hn]; decide) rfl ?_
  refine aw_loop (σ := Nat × MA × AM) (fun i => i.1 ≤ D.2.1.length ∧ md (zG Z) M0 i.2.2 y i.2.1 S c ∧ (∀ a, a ≠ 22 → i.2.1 a = A a) ∧ ∀ k, k < (app (D.2.1.take i.1) D.2.2.2 bb).length → i.2.1 22 k = (app (D.2.1.take i.1) D.2.2.2 bb).getD k 0) (fun i => D.2.1.length - i.1) (fun i => i.2.2) (fun i => [some (.ref y), some (.int (nI d)), some (.int (nI (app (D.2.1.take i.1) D.2.2.2 bb).length)), some (.int (nI (120 * d + i.1))), none]) ?_ (0, A, M) ⟨Nat.zero_le _, h, fun _ _ => rfl, fun k hk => absurd hk (by simp [app])⟩
  rintro ⟨i, B, M1⟩ ⟨hi, h1, b1, bn⟩ ih
  try dsimp only at hi h1 b1 bn ih ⊢
  refine aw_iload3 X dX9_applies_7 ?_
  refine aw_bipush X dX9_applies_8 (v := nI 120) (by decide) ?_
  refine aw_iload1 X dX9_applies_10 ?_
  refine aw_imul X dX9_applies_11 ?_
  first | with_reducible refine aw_int (pk_mul _ _) ?_ | skip
  refine aw_aload0 X dX9_applies_12 ?_
  refine aw_get X fX9_39 dX9_applies_13 (h1.at) rfl ?_
  refine aw_iload1 X dX9_applies_16 ?_
  refine aw_iald X dX9_applies_17 (h1.ai 10 rfl) rfl (by omega) (by decide) ?_
  refine aw_int (y := nI D.2.1.length) (by rw [b1 10 (by decide)]; exact v2) ?_
  refine aw_iadd X dX9_applies_18 ?_
  first | with_reducible refine aw_int (nI_add _ _) ?_ | skip
  refine aw_icmpge X dX9_applies_19 (tgt := 102) (by decide) (fun c1 => ?_) (fun c1 => ?_)
  · have e : i = D.2.1.length := by have := (nI_leI (by omega) (by omega)).mp c1; omega
    subst e
    clear ih
    have hle0 := hle D.2.1.length
    rw [List.take_length] at bn hle0 ⊢
    refine aw_aload0 X dX9_applies_102 ?_
    refine aw_iload2 X dX9_applies_103 ?_
    refine aw_mput26 X pX9_125 dX9_applies_104 h1 (fun M2 h2 => ?_)
    refine aw_iconst X dX9_applies_107 (v := nI 0) (by decide) ?_
    refine aw_istore3 X dX9_applies_108 (by rw [hn]; decide) rfl ?_
    refine aw_loop (σ := Nat × MA × AM) (fun i => i.1 ≤ (app D.2.1 D.2.2.2 bb).length ∧ md (zG Z) M0 i.2.2 y i.2.1 S (va_up c 26 (nI (app D.2.1 D.2.2.2 bb).length)) ∧ (∀ a, a ≠ 21 → i.2.1 a = B a) ∧ ∀ k, k < i.1 → i.2.1 21 k = (app D.2.1 D.2.2.2 bb).getD k 0) (fun i => (app D.2.1 D.2.2.2 bb).length - i.1) (fun i => i.2.2) (fun i => [some (.ref y), some (.int (nI d)), some (.int (nI (app D.2.1 D.2.2.2 bb).length)), some (.int (nI i.1)), none]) ?_ (0, B, M2) ⟨Nat.zero_le _, h2, fun _ _ => rfl, fun k hk => absurd hk (Nat.not_lt_zero _)⟩
    rintro ⟨i, B2, M3⟩ ⟨hi, h3, b2, bm⟩ ih
    try dsimp only at hi h3 b2 bm ih ⊢
    refine aw_iload3 X dX9_applies_109 ?_
    refine aw_iload2 X dX9_applies_110 ?_
    refine aw_icmpge X dX9_applies_111 (tgt := 132) (by decide) (fun c2 => ?_) (fun c2 => ?_)
    · have e : i = (app D.2.1 D.2.2.2 bb).length := by have := (nI_leI (by omega) (by omega)).mp c2; omega
      subst e
      refine aw_vreturn X hr dX9_applies_132 (⟨rfl, B2, h3, fun a ha => (b2 a (by omega)).trans (b1 a (by omega)), bm⟩)
    · have hlt : i < (app D.2.1 D.2.2.2 bb).length := by
        rcases Nat.lt_or_ge i (app D.2.1 D.2.2.2 bb).length with q | q
        · exact q
        · exact absurd (nI_le q (by omega)) c2
      refine aw_aload0 X dX9_applies_114 ?_
      refine aw_get X fX9_72 dX9_applies_115 (h3.at) rfl ?_
      refine aw_iload3 X dX9_applies_118 ?_
      refine aw_aload0 X dX9_applies_119 ?_
      refine aw_get X fX9_75 dX9_applies_120 (h3.at) rfl ?_
      refine aw_iload3 X dX9_applies_123 ?_
      refine aw_iald X dX9_applies_124 (h3.ai 22 rfl) rfl (by omega) (by decide) ?_
      refine aw_int (y := (app D.2.1 D.2.2.2 bb).getD i 0) (by rw [b2 22 (by decide)]; exact bn i hlt) ?_
      refine aw_mst X 21 dX9_applies_125 h3 rfl rfl (by omega) (by decide) (fun M4 h4 => ?_)
      refine aw_iinc3 X dX9_applies_126 (by rw [hn]; decide) (am_inc _ 1) rfl ?_
      refine aw_goto X dX9_applies_129 (tgt := 109) (by decide) ?_
      refine ih (i + 1, va_up B2 21 (upd (B2 21) i ((app D.2.1 D.2.2.2 bb).getD i 0)), M4) ⟨hlt, h4, fun a ha => (va_up_ne _ _ ha).trans (b2 a ha), fun k hk => ?_⟩ (by dsimp only; omega)
      try dsimp only at hk
      show upd (B2 21) i ((app D.2.1 D.2.2.2 bb).getD i 0) k = _
      by_cases e : k = i
      · rw [e, pk_us]
      · rw [pk_un e]
        exact bm k (by omega)
  · have hlt : i < D.2.1.length := by
      rcases Nat.lt_or_ge i D.2.1.length with q | q
      · exact q
      · exact absurd (nI_le (by omega) (by omega)) c1
    obtain ⟨u1, u2, u3⟩ := v4 i hlt
    have hmem := getD_mem hlt
    have hle1 := hle (i + 1)
    have hpl := piece_len v0 hfit hmem
    have es := app_succ (cm := D.2.2.2) (bb := bb) hlt
    have el : (app (D.2.1.take (i + 1)) D.2.2.2 bb).length = (app (D.2.1.take i) D.2.2.2 bb).length + (D.2.1.getD i dI).2.2 := by rw [es, List.length_append, hpl]
    have hsz : (D.2.1.getD i dI).2.2 ≤ 120 := by omega
    refine aw_iconst X dX9_applies_22 (v := nI 0) (by decide) ?_
    refine aw_istore4 X dX9_applies_23 (by rw [hn]; decide) rfl ?_
    refine aw_loop (σ := Nat × MA × AM) (fun j => j.1 ≤ (D.2.1.getD i dI).2.2 ∧ md (zG Z) M0 j.2.2 y j.2.1 S c ∧ (∀ a, a ≠ 22 → j.2.1 a = A a) ∧ ∀ k, k < (app (D.2.1.take i) D.2.2.2 bb).length + j.1 → j.2.1 22 k = (app (D.2.1.take (i + 1)) D.2.2.2 bb).getD k 0) (fun j => (D.2.1.getD i dI).2.2 - j.1) (fun j => j.2.2) (fun j => [some (.ref y), some (.int (nI d)), some (.int (nI ((app (D.2.1.take i) D.2.2.2 bb).length + j.1))), some (.int (nI (120 * d + i))), some (.int (nI j.1))]) ?_ (0, B, M1) ⟨Nat.zero_le _, h1, b1, fun k hk => by rw [es, gd_l hk]; exact bn k hk⟩
    rintro ⟨j, B2, M2⟩ ⟨hj, h2, b2, bk⟩ ih2
    try dsimp only at hj h2 b2 bk ih2 ⊢
    refine aw_iload4 X dX9_applies_25 ?_
    refine aw_aload0 X dX9_applies_27 ?_
    refine aw_get X fX9_51 dX9_applies_28 (h2.at) rfl ?_
    refine aw_iload3 X dX9_applies_31 ?_
    refine aw_iald X dX9_applies_32 (h2.ai 14 rfl) rfl (by omega) (by decide) ?_
    refine aw_int (y := nI (D.2.1.getD i dI).2.2) (by rw [b2 14 (by decide)]; exact u3) ?_
    refine aw_icmpge X dX9_applies_33 (tgt := 96) (by decide) (fun c2 => ?_) (fun c2 => ?_)
    · have e : j = (D.2.1.getD i dI).2.2 := by have := (nI_leI (by omega) (by omega)).mp c2; omega
      subst e
      rw [← el] at bk ⊢
      refine aw_iinc3 X dX9_applies_96 (by rw [hn]; decide) (am_inc _ 1) rfl ?_
      refine aw_goto X dX9_applies_99 (tgt := 7) (by decide) ?_
      refine aw_drop4 ?_
      exact ih (i + 1, B2, M2) ⟨hlt, h2, b2, bk⟩ (by dsimp only; omega)
    · have hlj : j < (D.2.1.getD i dI).2.2 := by
        rcases Nat.lt_or_ge j (D.2.1.getD i dI).2.2 with q | q
        · exact q
        · exact absurd (nI_le q (by omega)) c2
      have hpg := piece_get (cm := D.2.2.2) (bb := bb) hlj
      refine aw_aload0 X dX9_applies_36 ?_
      refine aw_get X fX9_75 dX9_applies_37 (h2.at) rfl ?_
      refine aw_iload2 X dX9_applies_40 ?_
      refine aw_join 86 [some (.ref y), some (.int (nI d)), some (.int (nI ((app (D.2.1.take i) D.2.2.2 bb).length + j))), some (.int (nI (120 * d + i))), some (.int (nI j))] [.int ((piece D.2.2.2 bb (D.2.1.getD i dI)).getD j 0), .int (nI ((app (D.2.1.take i) D.2.2.2 bb).length + j)), .ref (y + 22)] ?_ (fun K => ?_)
      · refine aw_mst X 22 dX9_applies_86 h2 rfl rfl (by omega) (by decide) (fun M3 h3 => ?_)
        refine aw_iinc2 X dX9_applies_87 (by rw [hn]; decide) (am_inc _ 1) rfl ?_
        refine aw_iinc4 X dX9_applies_90 (by rw [hn]; decide) (am_inc _ 1) rfl ?_
        refine aw_goto X dX9_applies_93 (tgt := 25) (by decide) ?_
        refine ih2 (j + 1, va_up B2 22 (upd (B2 22) ((app (D.2.1.take i) D.2.2.2 bb).length + j) ((piece D.2.2.2 bb (D.2.1.getD i dI)).getD j 0)), M3) ⟨hlj, h3, fun a ha => (va_up_ne _ _ ha).trans (b2 a ha), fun k hk => ?_⟩ (by dsimp only; omega)
        try dsimp only at hk
        show upd (B2 22) ((app (D.2.1.take i) D.2.2.2 bb).length + j) ((piece D.2.2.2 bb (D.2.1.getD i dI)).getD j 0) k = _
        by_cases e : k = (app (D.2.1.take i) D.2.2.2 bb).length + j
        · rw [e, pk_us, es, gd_r]
        · rw [pk_un e]
          exact bk k (by omega)
      · refine aw_aload0 X dX9_applies_41 ?_
        refine aw_get X fX9_45 dX9_applies_42 (h2.at) rfl ?_
        refine aw_iload3 X dX9_applies_45 ?_
        refine aw_zald X dX9_applies_46 (h2.az 12 rfl) rfl (by omega) (by decide) ?_
        refine aw_int (y := b2i (D.2.1.getD i dI).1) (by rw [b2 12 (by decide)]; exact u1) ?_
        refine aw_ifeq X dX9_applies_47 (tgt := 67) (by decide) (fun c3 => ?_) (fun c3 => ?_)
        · have e4 := b2i_0.mp c3
          have hs : (D.2.1.getD i dI).2.1 + (D.2.1.getD i dI).2.2 ≤ D.2.2.2.length := v0.2.2.2.1 _ hmem e4
          refine aw_aload0 X dX9_applies_67 ?_
          refine aw_get X fX9_54 dX9_applies_68 (h2.at) rfl ?_
          refine aw_bipush X dX9_applies_71 (v := nI 120) (by decide) ?_
          refine aw_iload1 X dX9_applies_73 ?_
          refine aw_imul X dX9_applies_74 ?_
          first | with_reducible refine aw_int (pk_mul _ _) ?_ | skip
          refine aw_aload0 X dX9_applies_75 ?_
          refine aw_get X fX9_48 dX9_applies_76 (h2.at) rfl ?_
          refine aw_iload3 X dX9_applies_79 ?_
          refine aw_iald X dX9_applies_80 (h2.ai 13 rfl) rfl (by omega) (by decide) ?_
          refine aw_int (y := nI (D.2.1.getD i dI).2.1) (by rw [b2 13 (by decide)]; exact u2) ?_
          refine aw_iadd X dX9_applies_81 ?_
          first | with_reducible refine aw_int (nI_add _ _) ?_ | skip
          refine aw_iload4 X dX9_applies_82 ?_
          refine aw_iadd X dX9_applies_84 ?_
          first | with_reducible refine aw_int (nI_add _ _) ?_ | skip
          refine aw_iald X dX9_applies_85 (h2.ai 15 rfl) rfl (by omega) (by decide) ?_
          refine aw_int (y := (piece D.2.2.2 bb (D.2.1.getD i dI)).getD j 0) (by rw [b2 15 (by decide), hpg, if_neg (by rw [e4]; decide), Nat.add_assoc]; exact v5 _ (by omega)) ?_
          exact K
        · have e4 : (D.2.1.getD i dI).1 = true := by
            cases hx : (D.2.1.getD i dI).1 with
            | true => rfl
            | false => exact absurd (b2i_0.mpr hx) c3
          have hs := fitB_at hfit hmem e4
          refine aw_aload0 X dX9_applies_50 ?_
          refine aw_get X fX9_72 dX9_applies_51 (h2.at) rfl ?_
          refine aw_aload0 X dX9_applies_54 ?_
          refine aw_get X fX9_48 dX9_applies_55 (h2.at) rfl ?_
          refine aw_iload3 X dX9_applies_58 ?_
          refine aw_iald X dX9_applies_59 (h2.ai 13 rfl) rfl (by omega) (by decide) ?_
          refine aw_int (y := nI (D.2.1.getD i dI).2.1) (by rw [b2 13 (by decide)]; exact u2) ?_
          refine aw_iload4 X dX9_applies_60 ?_
          refine aw_iadd X dX9_applies_62 ?_
          first | with_reducible refine aw_int (nI_add _ _) ?_ | skip
          refine aw_iald X dX9_applies_63 (h2.ai 21 rfl) rfl (by omega) (by decide) ?_
          refine aw_int (y := (piece D.2.2.2 bb (D.2.1.getD i dI)).getD j 0) (by rw [b2 21 (by decide), hpg, if_pos e4]; exact hm _ (by omega)) ?_
          refine aw_goto X dX9_applies_64 (tgt := 86) (by decide) ?_
          exact K
