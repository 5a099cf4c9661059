def sgSet (A B : MA) (S S' : Nat → Int64) (g : Nat) (s : SG) : Prop := (∀ a, a < 3 ∨ 7 < a → B a = A a) ∧ (∀ j, j ≠ g → B 3 j = A 3 j ∧ B 4 j = A 4 j ∧ B 5 j = A 5 j ∧ B 6 j = A 6 j) ∧ (∀ k, k < 120 * g ∨ 120 * g + 120 ≤ k → B 7 k = A 7 k ∧ S' k = S k) ∧ sgRel B S' g s
theorem up3 (A : MA) (f3 f4 f5 f6 : Nat → Int32) : ∃ B : MA, B = va_up (va_up (va_up (va_up A 3 f3) 4 f4) 5 f5) 6 f6 ∧ (∀ a, a < 3 ∨ 6 < a → B a = A a) ∧ B 3 = f3 ∧ B 4 = f4 ∧ B 5 = f5 ∧ B 6 = f6 := by
  refine ⟨_, rfl, fun a ha => ?_, rfl, rfl, rfl, rfl⟩
  rw [va_up_ne _ _ (by omega), va_up_ne _ _ (by omega), va_up_ne _ _ (by omega), va_up_ne _ _ (by omega)]
theorem c_X9_signs {l : Launch} {G : AG} {M0 M : AM} {y g L d : Nat} {A : MA} {S : Nat → Int64} {c : Nat → Int32} {bs : List Int32} (h : md G M0 M y A S c) (hg : g < 5) (hc : c 26 = nI bs.length) (hl : bs.length ≤ 120) (hm : ∀ k, k < bs.length → A 21 k = bs.getD k 0) (hL : 0 < L ∧ L ≤ 7) (hd : 0 < d ∧ d ≤ 4096) : Cn l G yX9_signs cX9_signs 5 none rX9_signs M [.ref y, .int (nI g), .int (nI L), .int (nI d)] (fun v M' => v = none ∧ ∃ (B : MA) (S' : Nat → Int64), md G M0 M' y B S' c ∧ sgSet A B S S' g (true, L, d, bs)) := by
  have hN : nb L bs.length ≤ 120 := Nat.le_trans (nb_leN hL.1) hl
  refine Cn.of (by decide) [some (.ref y), some (.int (nI g)), some (.int (nI L)), some (.int (nI d)), none] rfl (Nat.le_of_ble_eq_true rfl) ?_
  intro Z hZ
  obtain ⟨rfl, hn, rfl, hR, X, hr, hnm⟩ := hZ
  refine aw_aload0 X dX9_signs_0 ?_
  refine aw_get X fX9_16 dX9_signs_1 (h.at) rfl ?_
  refine aw_iload1 X dX9_signs_4 ?_
  refine aw_iload2 X dX9_signs_5 ?_
  refine aw_mst X 3 dX9_signs_6 h rfl rfl (by omega) (by decide) (fun M1 h1 => ?_)
  refine aw_aload0 X dX9_signs_7 ?_
  refine aw_get X fX9_19 dX9_signs_8 (h1.at) rfl ?_
  refine aw_iload1 X dX9_signs_11 ?_
  refine aw_iload3 X dX9_signs_12 ?_
  refine aw_mst X 4 dX9_signs_13 h1 rfl rfl (by omega) (by decide) (fun M2 h2 => ?_)
  refine aw_aload0 X dX9_signs_14 ?_
  refine aw_get X fX9_22 dX9_signs_15 (h2.at) rfl ?_
  refine aw_iload1 X dX9_signs_18 ?_
  refine aw_aload0 X dX9_signs_19 ?_
  refine aw_get X fX9_125 dX9_signs_20 (h2.at) rfl ?_
  refine aw_int hc ?_
  refine aw_mst X 5 dX9_signs_23 h2 rfl rfl (by omega) (by decide) (fun M3 h3 => ?_)
  refine aw_aload0 X dX9_signs_24 ?_
  refine aw_get X fX9_25 dX9_signs_25 (h3.at) rfl ?_
  refine aw_iload1 X dX9_signs_28 ?_
  refine aw_aload0 X dX9_signs_29 ?_
  refine aw_get X fX9_125 dX9_signs_30 (h3.at) rfl ?_
  refine aw_int hc ?_
  refine aw_iload2 X dX9_signs_33 ?_
  refine aw_iadd X dX9_signs_34 ?_
  first | with_reducible refine aw_int (nI_add _ _) ?_ | skip
  refine aw_iconst X dX9_signs_35 (v := nI 1) (by decide) ?_
  refine aw_isub X dX9_signs_36 ?_
  first | with_reducible refine aw_int (pk_sub (by omega)) ?_ | skip
  refine aw_iload2 X dX9_signs_37 ?_
  refine aw_idiv X dX9_signs_38 (nI_ne0 hL.1 (by omega)) ?_
  refine aw_int (y := nI (nb L bs.length)) (pk_div (by omega) hL.1 (by omega)) ?_
  refine aw_mst X 6 dX9_signs_39 h3 rfl rfl (by omega) (by decide) (fun M4 h4 => ?_)
  refine aw_iconst X dX9_signs_40 (v := nI 0) (by decide) ?_
  refine aw_istore4 X dX9_signs_41 (by rw [hn]; decide) rfl ?_
  obtain ⟨B0, e0, eA, e3, e4, e5, e6⟩ := up3 A (upd (A 3) g (nI L)) (upd (A 4) g (nI d)) (upd (A 5) g (nI bs.length)) (upd (A 6) g (nI (nb L bs.length)))
  have h4 : md (zG Z) M0 M4 y B0 S c := by rw [e0]; exact h4
  refine aw_loop (σ := Nat × MA × (Nat → Int64) × AM) (fun i => i.1 ≤ nb L bs.length ∧ md (zG Z) M0 i.2.2.2 y i.2.1 i.2.2.1 c ∧ (∀ a, a ≠ 7 → i.2.1 a = B0 a) ∧ (∀ k, k < 120 * g ∨ 120 * g + 120 ≤ k → i.2.1 7 k = A 7 k ∧ i.2.2.1 k = S k) ∧ ∀ k, k < i.1 → i.2.1 7 (120 * g + k) = sgW (true, L, d, bs) k ∧ i.2.2.1 (120 * g + k) = sgG (true, L, d, bs) k) (fun i => nb L bs.length - i.1) (fun i => i.2.2.2) (fun i => [some (.ref y), some (.int (nI g)), some (.int (nI L)), some (.int (nI d)), some (.int (nI i.1))]) ?_ (0, B0, S, M4) ⟨Nat.zero_le _, h4, fun _ _ => rfl, fun k _ => ⟨congrFun (eA 7 (by omega)) k, rfl⟩, fun k hk => absurd hk (Nat.not_lt_zero _)⟩
  rintro ⟨i, B, S1, M5⟩ ⟨hi, h5, b0, b7, bs7⟩ ih
  dsimp only at hi h5 b0 b7 bs7 ih ⊢
  have x3 : B 3 g = nI L := by rw [b0 3 (by decide), e3]; exact pk_us
  have x5 : B 5 g = nI bs.length := by rw [b0 5 (by decide), e5]; exact pk_us
  have x6 : B 6 g = nI (nb L bs.length) := by rw [b0 6 (by decide), e6]; exact pk_us
  refine aw_iload4 X dX9_signs_43 ?_
  refine aw_aload0 X dX9_signs_45 ?_
  refine aw_get X fX9_25 dX9_signs_46 (h5.at) rfl ?_
  refine aw_iload1 X dX9_signs_49 ?_
  refine aw_iald X dX9_signs_50 (h5.ai 6 rfl) rfl (by omega) (by decide) ?_
  refine aw_int x6 ?_
  refine aw_icmpge X dX9_signs_51 (tgt := 121) (by decide) (fun c3 => ?_) (fun c3 => ?_)
  · have e : i = nb L bs.length := by have := (nI_leI (by omega) (by omega)).mp c3; omega
    subst e
    refine aw_vreturn X hr dX9_signs_121 (⟨rfl, B, S1, h5, fun a ha => (b0 a (by omega)).trans (eA a (by omega)), fun j hj => ⟨by rw [b0 3 (by decide), e3]; exact pk_un hj, by rw [b0 4 (by decide), e4]; exact pk_un hj, by rw [b0 5 (by decide), e5]; exact pk_un hj, by rw [b0 6 (by decide), e6]; exact pk_un hj⟩, b7, ⟨hL.1, hL.2, hd.1, hd.2, hl⟩, x3, fun _ => ⟨by rw [b0 4 (by decide), e4]; exact pk_us, x5⟩, x6, bs7⟩)
  · have hlt : i < nb L bs.length := by
      rcases Nat.lt_or_ge i (nb L bs.length) with q | q
      · exact q
      · exact absurd (nI_le q (by omega)) c3
    have hiL := (nb_lt hL.1).mp hlt
    have hfm : ∀ B' : MA, (∀ a, a ≠ 7 → B' a = B0 a) → ∀ k, k < min L (bs.length - i * L) → B' 21 (i * L + k) = bs.getD (i * L + k) 0 := fun B' hB k hk => by
      rw [hB 21 (by decide), eA 21 (by omega)]
      exact hm _ (by omega)
    refine aw_aload0 X dX9_signs_54 ?_
    refine aw_get X fX9_28 dX9_signs_55 (h5.at) rfl ?_
    refine aw_bipush X dX9_signs_58 (v := nI 120) (by decide) ?_
    refine aw_iload1 X dX9_signs_60 ?_
    refine aw_imul X dX9_signs_61 ?_
    first | with_reducible refine aw_int (pk_mul _ _) ?_ | skip
    refine aw_iload4 X dX9_signs_62 ?_
    refine aw_iadd X dX9_signs_64 ?_
    first | with_reducible refine aw_int (nI_add _ _) ?_ | skip
    refine aw_aload0 X dX9_signs_65 ?_
    refine aw_get X fX9_72 dX9_signs_66 (h5.at) rfl ?_
    refine aw_iload4 X dX9_signs_69 ?_
    refine aw_iload2 X dX9_signs_71 ?_
    refine aw_imul X dX9_signs_72 ?_
    first | with_reducible refine aw_int (pk_mul _ _) ?_ | skip
    refine aw_aload0 X dX9_signs_73 ?_
    refine aw_iload1 X dX9_signs_74 ?_
    refine aw_iload4 X dX9_signs_75 ?_
    refine aw_callV X (c_X9_lengthOf h5 hg x3 x5 hL.2 hl (by omega)) kX9_130 (ci := 10) rfl (h5.at) dX9_signs_77 rfl rfl (by first | decide | exact Nat.le_of_ble_eq_true rfl) (by rw [hR]; exact ⟨by first | decide | exact Nat.le_of_ble_eq_true rfl | (dsimp only; omega), by first | decide | exact Nat.le_of_ble_eq_true rfl | (dsimp only; omega)⟩) (by rw [hR]; exact ⟨by first | decide | exact Nat.le_of_ble_eq_true rfl | (dsimp only; omega), by first | decide | exact Nat.le_of_ble_eq_true rfl | (dsimp only; omega)⟩) (fun v M6 hv => ?_)
    obtain ⟨rfl, rfl⟩ := hv
    refine aw_iload3 X dX9_signs_80 ?_
    refine aw_callS X (c_X9_weakOf (h5.ai 21 rfl) (by omega) (by decide) (hfm B b0) hd.1 (by omega)) kX9_134 dX9_signs_81 rfl rfl (by first | decide | exact Nat.le_of_ble_eq_true rfl) (by rw [hR]; exact ⟨by first | decide | exact Nat.le_of_ble_eq_true rfl | (dsimp only; omega), by first | decide | exact Nat.le_of_ble_eq_true rfl | (dsimp only; omega)⟩) (by rw [hR]; exact ⟨by first | decide | exact Nat.le_of_ble_eq_true rfl | (dsimp only; omega), by first | decide | exact Nat.le_of_ble_eq_true rfl | (dsimp only; omega)⟩) (fun v M6 hv => ?_)
    obtain ⟨rfl, rfl⟩ := hv
    refine aw_mst X 7 dX9_signs_84 h5 rfl rfl (by omega) (by decide) (fun M7 h7 => ?_)
    have b0' : ∀ a, a ≠ 7 → (va_up B 7 (upd (B 7) (120 * g + i) (wk bs (i * L) (min L (bs.length - i * L)) d))) a = B0 a := fun a ha => (va_up_ne _ _ ha).trans (b0 a ha)
    refine aw_aload0 X dX9_signs_85 ?_
    refine aw_get X fX9_31 dX9_signs_86 (h7.at) rfl ?_
    refine aw_bipush X dX9_signs_89 (v := nI 120) (by decide) ?_
    refine aw_iload1 X dX9_signs_91 ?_
    refine aw_imul X dX9_signs_92 ?_
    first | with_reducible refine aw_int (pk_mul _ _) ?_ | skip
    refine aw_iload4 X dX9_signs_93 ?_
    refine aw_iadd X dX9_signs_95 ?_
    first | with_reducible refine aw_int (nI_add _ _) ?_ | skip
    refine aw_aload0 X dX9_signs_96 ?_
    refine aw_get X fX9_72 dX9_signs_97 (h7.at) rfl ?_
    refine aw_iload4 X dX9_signs_100 ?_
    refine aw_iload2 X dX9_signs_102 ?_
    refine aw_imul X dX9_signs_103 ?_
    first | with_reducible refine aw_int (pk_mul _ _) ?_ | skip
    refine aw_aload0 X dX9_signs_104 ?_
    refine aw_iload1 X dX9_signs_105 ?_
    refine aw_iload4 X dX9_signs_106 ?_
    refine aw_callV X (c_X9_lengthOf h7 hg x3 x5 hL.2 hl (by omega)) kX9_130 (ci := 10) rfl (h7.at) dX9_signs_108 rfl rfl (by first | decide | exact Nat.le_of_ble_eq_true rfl) (by rw [hR]; exact ⟨by first | decide | exact Nat.le_of_ble_eq_true rfl | (dsimp only; omega), by first | decide | exact Nat.le_of_ble_eq_true rfl | (dsimp only; omega)⟩) (by rw [hR]; exact ⟨by first | decide | exact Nat.le_of_ble_eq_true rfl | (dsimp only; omega), by first | decide | exact Nat.le_of_ble_eq_true rfl | (dsimp only; omega)⟩) (fun v M8 hv => ?_)
    obtain ⟨rfl, rfl⟩ := hv
    refine aw_callS X (c_X9_strongOf (h7.ai 21 rfl) (by omega) (by decide) (hfm _ b0') (by omega)) kX9_138 dX9_signs_111 rfl rfl (by first | decide | exact Nat.le_of_ble_eq_true rfl) (by rw [hR]; exact ⟨by first | decide | exact Nat.le_of_ble_eq_true rfl | (dsimp only; omega), by first | decide | exact Nat.le_of_ble_eq_true rfl | (dsimp only; omega)⟩) (by rw [hR]; exact ⟨by first | decide | exact Nat.le_of_ble_eq_true rfl | (dsimp only; omega), by first | decide | exact Nat.le_of_ble_eq_true rfl | (dsimp only; omega)⟩) (fun v M8 hv => ?_)
    obtain ⟨rfl, rfl⟩ := hv
    refine aw_msl X dX9_signs_114 h7 rfl (by omega) (fun M9 h9 => ?_)
    refine aw_iinc4 X dX9_signs_115 (by rw [hn]; decide) (am_inc _ 1) rfl ?_
    refine aw_goto X dX9_signs_118 (tgt := 43) (by decide) ?_
    refine ih (i + 1, _, _, M9) ⟨hlt, h9, b0', fun k hk => ⟨(pk_un (by omega)).trans (b7 k hk).1, (if_neg (by omega)).trans (b7 k hk).2⟩, fun k hk => ?_⟩ (by dsimp only; omega)
    dsimp only at hk
    by_cases e : k = i
    · subst e
      exact ⟨pk_us, if_pos rfl⟩
    · exact ⟨(pk_un (by omega)).trans (bs7 k (by omega)).1, (if_neg (by omega)).trans (bs7 k (by omega)).2⟩
