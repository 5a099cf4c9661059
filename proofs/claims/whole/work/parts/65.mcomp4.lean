/-! the model's comparison -/
theorem c_X9_compares {l : Launch} {G : AG} {M0 M : AM} {y d g f : Nat} {A : MA} {S : Nat → Int64} {c : Nat → Int32} {s : SG} {bs : List Int32} (h : md G M0 M y A S c) (hd : d < 24) (hg : g < 5) (hf : f < 6) (hs : sgRel A S g s) (hm : s.1 = true) (hfl : flRel A f bs) : Cn l G yX9_compares cX9_compares 18 none rX9_compares M [.ref y, .int (nI d), .int (nI g), .int (nI f)] (fun v M' => v = none ∧ ∃ B : MA, md G M0 M' y B S c ∧ dlRel B d (cmpD s bs) ∧ dwOut A B d) := by
  obtain ⟨⟨v1, v2, v3, v4, v5⟩, u3, u4, u6, u7⟩ := id hs
  obtain ⟨x4, x5⟩ := u4 hm
  obtain ⟨f1, f2, f3⟩ := id hfl
  rw [if_pos hm] at u3
  have hN : sgN s ≤ 120 := Nat.le_trans (nb_leN v1) v5
  refine Cn.of (by decide) [some (.ref y), some (.int (nI d)), some (.int (nI g)), some (.int (nI f)), none, none, none, none, none, none, none, none, none, none, none, none, none, none] rfl (Nat.le_of_ble_eq_true rfl) ?_
  intro Z hZ
  obtain ⟨rfl, hn, rfl, hR, X, hr, hnm⟩ := hZ
  refine aw_bipush X dX9_compares_0 (v := nI 120) (by decide) ?_
  refine aw_iload1 X dX9_compares_2 ?_
  refine aw_imul X dX9_compares_3 ?_
  first | with_reducible refine aw_int (pk_mul _ _) ?_ | skip
  refine aw_istore4 X dX9_compares_4 (by rw [hn]; decide) rfl ?_
  refine aw_bipush X dX9_compares_6 (v := nI 120) (by decide) ?_
  refine aw_iload3 X dX9_compares_8 ?_
  refine aw_imul X dX9_compares_9 ?_
  first | with_reducible refine aw_int (pk_mul _ _) ?_ | skip
  refine aw_istore5 X dX9_compares_10 (by rw [hn]; decide) rfl ?_
  refine aw_aload0 X dX9_compares_12 ?_
  refine aw_get X fX9_16 dX9_compares_13 (h.at) rfl ?_
  refine aw_iload2 X dX9_compares_16 ?_
  refine aw_iald X dX9_compares_17 (h.ai 3 rfl) rfl (by omega) (by decide) ?_
  refine aw_int u3 ?_
  refine aw_istore6 X dX9_compares_18 (by rw [hn]; decide) rfl ?_
  refine aw_aload0 X dX9_compares_20 ?_
  refine aw_get X fX9_35 dX9_compares_21 (h.at) rfl ?_
  refine aw_iload1 X dX9_compares_24 ?_
  refine aw_iconst X dX9_compares_25 (v := nI 1) (by decide) ?_
  refine aw_msz X 9 dX9_compares_26 h rfl rfl (by omega) (by decide) rfl (fun M1 h1 => ?_)
  refine aw_aload0 X dX9_compares_27 ?_
  refine aw_get X fX9_39 dX9_compares_28 (h1.at) rfl ?_
  refine aw_iload1 X dX9_compares_31 ?_
  refine aw_iconst X dX9_compares_32 (v := nI 0) (by decide) ?_
  refine aw_mst X 10 dX9_compares_33 h1 rfl rfl (by omega) (by decide) (fun M2 h2 => ?_)
  refine aw_aload0 X dX9_compares_34 ?_
  refine aw_get X fX9_42 dX9_compares_35 (h2.at) rfl ?_
  refine aw_iload1 X dX9_compares_38 ?_
  refine aw_iconst X dX9_compares_39 (v := nI 0) (by decide) ?_
  refine aw_mst X 11 dX9_compares_40 h2 rfl rfl (by omega) (by decide) (fun M3 h3 => ?_)
  refine aw_iconst X dX9_compares_41 (v := nI 0) (by decide) ?_
  refine aw_istore7 X dX9_compares_42 (by rw [hn]; decide) rfl ?_
  obtain ⟨B0, z0, zA, z9, z10, z11⟩ := up9 A (upd (A 9) d (nI 1)) (upd (A 10) d (nI 0)) (upd (A 11) d (nI 0))
  have h3 : md (zG Z) M0 M3 y B0 S c := by rw [z0]; exact h3
  refine aw_loop (σ := Nat × MA × AM) (fun i => i.1 ≤ bs.length ∧ md (zG Z) M0 i.2.2 y i.2.1 S c ∧ (∀ a, a ≠ 15 → i.2.1 a = B0 a) ∧ (∀ k, k < 120 * d ∨ 120 * d + 120 ≤ k → i.2.1 15 k = A 15 k) ∧ ∀ k, k < i.1 → i.2.1 15 (120 * d + k) = bs.getD k 0) (fun i => bs.length - i.1) (fun i => i.2.2) (fun i => [some (.ref y), some (.int (nI d)), some (.int (nI g)), some (.int (nI f)), some (.int (nI (120 * d))), some (.int (nI (120 * f))), some (.int (nI s.2.1)), some (.int (nI i.1)), none, none, none, none, none, none, none, none, none, none]) ?_ (0, B0, M3) ⟨Nat.zero_le _, h3, fun _ _ => rfl, fun k _ => congrFun (zA 15 (by omega)) k, fun k hk => absurd hk (Nat.not_lt_zero _)⟩
  rintro ⟨i, B1, M4⟩ ⟨hi, h4, b1, b15, bc⟩ ih
  try dsimp only at hi h4 b1 b15 bc ih ⊢
  refine aw_iload7 X dX9_compares_44 ?_
  refine aw_aload0 X dX9_compares_46 ?_
  refine aw_get X fX9_7 dX9_compares_47 (h4.at) rfl ?_
  refine aw_iload3 X dX9_compares_50 ?_
  refine aw_iald X dX9_compares_51 (h4.ai 1 rfl) rfl (by omega) (by decide) ?_
  refine aw_int (y := nI bs.length) (by rw [b1 1 (by decide), zA 1 (by omega)]; exact f2) ?_
  refine aw_icmpge X dX9_compares_52 (tgt := 81) (by decide) (fun c1 => ?_) (fun c1 => ?_)
  · have e : i = bs.length := by have := (nI_leI (by omega) (by omega)).mp c1; omega
    subst e
    have o1 : dwOut A B1 d := ⟨fun a ha => (b1 a (by omega)).trans (zA a (by omega)), fun j hj => ⟨by rw [b1 9 (by decide), z9]; exact pk_un hj, by rw [b1 10 (by decide), z10]; exact pk_un hj, by rw [b1 11 (by decide), z11]; exact pk_un hj⟩, fun k hk => ⟨by rw [b1 12 (by decide), zA 12 (by omega)], by rw [b1 13 (by decide), zA 13 (by omega)], by rw [b1 14 (by decide), zA 14 (by omega)], b15 k hk⟩⟩
    have w1 : dwRel B1 d [] 0 := ⟨by rw [b1 10 (by decide), z10]; exact pk_us, by rw [b1 11 (by decide), z11]; exact pk_us, fun k hk => absurd hk (Nat.not_lt_zero _)⟩
    have n1 : B1 9 d = nI 1 := by rw [b1 9 (by decide), z9]; exact pk_us
    clear ih
    refine aw_iconst X dX9_compares_81 (v := -1) (by decide) ?_
    refine aw_istore7 X dX9_compares_82 (by rw [hn]; decide) rfl ?_
    refine aw_iconst X dX9_compares_84 (v := nI 0) (by decide) ?_
    refine aw_istore8 X dX9_compares_85 (by rw [hn]; decide) rfl ?_
    refine aw_loop (σ := Nat × CS × MA × AM) (fun i => i.1 ≤ bs.length ∧ cinv s i.1 i.2.1 ∧ md (zG Z) M0 i.2.2.2 y i.2.2.1 S c ∧ dwRel i.2.2.1 d i.2.1.1 i.2.1.2.2 ∧ dwOut A i.2.2.1 d ∧ i.2.2.1 9 d = nI 1 ∧ i.2.2.1 15 = B1 15 ∧ ∃ fu, bs.length - i.1 ≤ fu ∧ crun s bs fu i.1 i.2.1 = cmps s bs) (fun i => bs.length - i.1) (fun i => i.2.2.2) (fun i => [some (.ref y), some (.int (nI d)), some (.int (nI g)), some (.int (nI f)), some (.int (nI (120 * d))), some (.int (nI (120 * f))), some (.int (nI s.2.1)), some (.int (behI i.2.1.2.1)), some (.int (nI i.1)), none, none, none, none, none, none, none, none, none]) ?_ (0, ([], none, 0), B1, M4) ⟨Nat.zero_le _, cinv_0 s, h4, w1, o1, n1, rfl, bs.length, by omega, rfl⟩
    rintro ⟨p, ⟨ins, beh, al⟩, B, M5⟩ ⟨hp, hi, h5, w5, o5, n5, b5, fu, hfu, hrun⟩ ih
    try dsimp only at hp hi h5 w5 o5 n5 b5 hfu hrun ih ⊢
    have fl5 : flRel B f bs := hfl.cg (o5.1 1 (by omega)) (o5.1 2 (by omega))
    have sg5 : sgRel B S g s := hs.cg (fun a x1 x2 => o5.1 a (by omega))
    refine aw_iload8 X dX9_compares_87 ?_
    refine aw_aload0 X dX9_compares_89 ?_
    refine aw_get X fX9_7 dX9_compares_90 (h5.at) rfl ?_
    refine aw_iload3 X dX9_compares_93 ?_
    refine aw_iald X dX9_compares_94 (h5.ai 1 rfl) rfl (by omega) (by decide) ?_
    refine aw_int fl5.2.1 ?_
    refine aw_icmpge X dX9_compares_95 (tgt := 413) (by decide) (fun c2 => ?_) (fun c2 => ?_)
    · have e : p = bs.length := by have := (nI_leI (by omega) (by omega)).mp c2; omega
      rw [crun_stop (by omega)] at hrun
      have e2 : cmpD s bs = (true, ins, al, bs) := by rw [cmpD, ← hrun]
      refine aw_vreturn X hr dX9_compares_413 (⟨rfl, B, h5, by rw [e2]; exact ⟨by rw [← e2]; exact cmpD_V hs.1 f1, n5, w5.1, w5.2.1, w5.2.2, fun k hk => by rw [b5]; exact bc k hk⟩, o5⟩)
    · have hlt : p < bs.length := by
        rcases Nat.lt_or_ge p bs.length with q | q
        · exact q
        · exact absurd (nI_le q (by omega)) c2
      obtain ⟨i1, i2, i3⟩ := cinv_step hs.1 hlt hi
      obtain ⟨j1, -, -, -, j5, j6, -⟩ := id hi
      try dsimp only at j1 j5 j6
      obtain ⟨w, hw⟩ : ∃ w, w = min s.2.1 (bs.length - p) := ⟨_, rfl⟩
      have hb : ∀ b, beh = some b → b < 2 ^ 31 := fun b e => by have := (j6 b e).2.2.1; omega
      refine aw_aload0 X dX9_compares_98 ?_
      refine aw_get X fX9_7 dX9_compares_99 (h5.at) rfl ?_
      refine aw_iload3 X dX9_compares_102 ?_
      refine aw_iald X dX9_compares_103 (h5.ai 1 rfl) rfl (by omega) (by decide) ?_
      refine aw_int fl5.2.1 ?_
      refine aw_iload8 X dX9_compares_104 ?_
      refine aw_isub X dX9_compares_106 ?_
      first | with_reducible refine aw_int (pk_sub (by omega)) ?_ | skip
      refine aw_istore9 X dX9_compares_107 (by rw [hn]; decide) rfl ?_
      refine aw_iload9 X dX9_compares_109 ?_
      refine aw_iload6 X dX9_compares_111 ?_
      refine aw_join 123 [some (.ref y), some (.int (nI d)), some (.int (nI g)), some (.int (nI f)), some (.int (nI (120 * d))), some (.int (nI (120 * f))), some (.int (nI s.2.1)), some (.int (behI beh)), some (.int (nI p)), some (.int (nI (bs.length - p))), none, none, none, none, none, none, none, none] [.int (nI w)] ?_ (fun K => ?_)
      · have hfm : ∀ k, k < w → B 2 (120 * f + p + k) = bs.getD (p + k) 0 := fun k hk => by
          rw [o5.1 2 (by omega), Nat.add_assoc]
          exact f3 _ (by omega)
        refine aw_istore10 X dX9_compares_123 (by rw [hn]; decide) rfl ?_
        refine aw_aload0 X dX9_compares_125 ?_
        refine aw_get X fX9_13 dX9_compares_126 (h5.at) rfl ?_
        refine aw_iload5 X dX9_compares_129 ?_
        refine aw_iload8 X dX9_compares_131 ?_
        refine aw_iadd X dX9_compares_133 ?_
        first | with_reducible refine aw_int (nI_add _ _) ?_ | skip
        refine aw_iload10 X dX9_compares_134 ?_
        refine aw_aload0 X dX9_compares_136 ?_
        refine aw_get X fX9_19 dX9_compares_137 (h5.at) rfl ?_
        refine aw_iload2 X dX9_compares_140 ?_
        refine aw_iald X dX9_compares_141 (h5.ai 4 rfl) rfl (by omega) (by decide) ?_
        refine aw_int (sg5.2.2.1 hm).1 ?_
        refine aw_callS X (c_X9_weakOf (h5.ai 2 rfl) (by omega) (by decide) hfm v3 (by omega)) kX9_134 dX9_compares_142 rfl rfl (by first | decide | exact Nat.le_of_ble_eq_true rfl) (by rw [hR]; exact ⟨by first | decide | exact Nat.le_of_ble_eq_true rfl | (dsimp only; omega), by first | decide | exact Nat.le_of_ble_eq_true rfl | (dsimp only; omega)⟩) (by rw [hR]; exact ⟨by first | decide | exact Nat.le_of_ble_eq_true rfl | (dsimp only; omega), by first | decide | exact Nat.le_of_ble_eq_true rfl | (dsimp only; omega)⟩) (fun v M6 hv => ?_)
        obtain ⟨rfl, rfl⟩ := hv
        refine aw_istore11 X dX9_compares_145 (by rw [hn]; decide) rfl ?_
        refine aw_aload0 X dX9_compares_147 ?_
        refine aw_get X fX9_13 dX9_compares_148 (h5.at) rfl ?_
        refine aw_iload5 X dX9_compares_151 ?_
        refine aw_iload8 X dX9_compares_153 ?_
        refine aw_iadd X dX9_compares_155 ?_
        first | with_reducible refine aw_int (nI_add _ _) ?_ | skip
        refine aw_iload10 X dX9_compares_156 ?_
        refine aw_callS X (c_X9_strongOf (h5.ai 2 rfl) (by omega) (by decide) hfm (by omega)) kX9_138 dX9_compares_158 rfl rfl (by first | decide | exact Nat.le_of_ble_eq_true rfl) (by rw [hR]; exact ⟨by first | decide | exact Nat.le_of_ble_eq_true rfl | (dsimp only; omega), by first | decide | exact Nat.le_of_ble_eq_true rfl | (dsimp only; omega)⟩) (by rw [hR]; exact ⟨by first | decide | exact Nat.le_of_ble_eq_true rfl | (dsimp only; omega), by first | decide | exact Nat.le_of_ble_eq_true rfl | (dsimp only; omega)⟩) (fun v M6 hv => ?_)
        obtain ⟨rfl, rfl⟩ := hv
        refine aw_lstore12 X dX9_compares_161 (by rw [hn]; decide) rfl ?_
        refine aw_iconst X dX9_compares_163 (v := -1) (by decide) ?_
        refine aw_istore14 X dX9_compares_164 (by rw [hn]; decide) rfl ?_
        refine aw_iconst X dX9_compares_166 (v := nI 0) (by decide) ?_
        refine aw_istore15 X dX9_compares_167 (by rw [hn]; decide) rfl ?_
        refine aw_iconst X dX9_compares_169 (v := nI 0) (by decide) ?_
        refine aw_istore16 X dX9_compares_170 (by rw [hn]; decide) rfl ?_
        refine lp_cmp X hn hR h5 hg sg5 hm hb (by omega) ?_
        refine aw_iload4 X dX9_compares_273 ?_
        refine aw_aload0 X dX9_compares_275 ?_
        refine aw_get X fX9_39 dX9_compares_276 (h5.at) rfl ?_
        refine aw_iload1 X dX9_compares_279 ?_
        refine aw_iald X dX9_compares_280 (h5.ai 10 rfl) rfl (by omega) (by decide) ?_
        refine aw_int w5.1 ?_
        refine aw_iadd X dX9_compares_281 ?_
        first | with_reducible refine aw_int (nI_add _ _) ?_ | skip
        refine aw_iconst X dX9_compares_282 (v := nI 1) (by decide) ?_
        refine aw_isub X dX9_compares_283 ?_
        refine aw_istore16 X dX9_compares_284 (by rw [hn]; decide) rfl ?_
        have hfb : ∀ j, fnd (qP s bs p w) (sgN s) beh = some j → j < 2 ^ 31 := fun j hj => by have := (fnd_some hj).1; omega
        refine aw_iload14 X dX9_compares_286 ?_
        refine aw_iconst X dX9_compares_288 (v := -1) (by decide) ?_
        cases hfd : fnd (qP s bs p w) (sgN s) beh with
        | none =>
          have e : cstep s bs p (ins, beh, al) = ((litI ins p, none, al + if anyB (qW s bs p w) (sgN s) = true then 1 else 0), 1) := by
            simp only [cstep, ← hw, hfd]
          rw [e] at i1 i2 i3
          try dsimp only at i1 i2 i3
          refine aw_icmpeq X dX9_compares_289 (tgt := 343) (by decide) (fun _ => ?_) (fun c9 => by first | exact absurd ((rfl : behI none = -1)) c9 | exact absurd c9 ((rfl : behI none = -1)))
          refine st_lit X hn hR h5 hd w5 (by omega) (fun B' M' z1 z2 z3 z4 z5 => ?_)
          refine ih (p + 1, (litI ins p, none, al + if anyB (qW s bs p w) (sgN s) = true then 1 else 0), B', M') ⟨i3, i1, z1, z2, o5.tr z3, (congrFun z4 d).trans n5, z5.trans b5, ?_⟩ (by dsimp only; omega)
          obtain ⟨f', rfl⟩ : ∃ f', fu = f' + 1 := ⟨fu - 1, by omega⟩
          rw [crun_go hlt, e] at hrun
          exact ⟨f', by dsimp only; omega, hrun⟩
        | some b =>
          have e : cstep s bs p (ins, beh, al) = ((cpI ins beh b (b * s.2.1) w, some (b + 1), al), w) := by
            simp only [cstep, ← hw, hfd]
          rw [e] at i1 i2 i3
          try dsimp only at i1 i2 i3
          have hb5 := hfb b hfd
          refine aw_icmpeq X dX9_compares_289 (tgt := 343) (by decide) (fun c3 => ?_) (fun c3 => ?_)
          · exact absurd ((behI_none (o := some b) (fun j hj => by cases hj; exact hb5)).mp c3) (by intro q; cases q)
          · refine st_cp X hn hR h5 hd w5 (by omega) (fun b e => ⟨hb b e, (j6 b e).1⟩) hb5 (fun B' M' z1 z2 z3 z4 z5 => ?_)
            refine ih (p + w, (cpI ins beh b (b * s.2.1) w, some (b + 1), al), B', M') ⟨i3, i1, z1, z2, o5.tr z3, (congrFun z4 d).trans n5, z5.trans b5, ?_⟩ (by dsimp only; omega)
            obtain ⟨f', rfl⟩ : ∃ f', fu = f' + 1 := ⟨fu - 1, by omega⟩
            rw [crun_go hlt, e] at hrun
            exact ⟨f', by dsimp only; omega, hrun⟩
      · refine aw_icmplt X dX9_compares_113 (tgt := 121) (by decide) (fun c3 => ?_) (fun c3 => ?_)
        · have e : w = bs.length - p := by have := (nI_ltI (by omega) (by omega)).mp c3; omega
          refine aw_iload9 X dX9_compares_121 ?_
          rw [e] at K
          exact K
        · have e : w = s.2.1 := by
            rcases Nat.lt_or_ge (bs.length - p) s.2.1 with q | q
            · exact absurd ((nI_ltI (by omega) (by omega)).mpr q) c3
            · omega
          refine aw_iload6 X dX9_compares_116 ?_
          refine aw_goto X dX9_compares_118 (tgt := 123) (by decide) ?_
          rw [e] at K
          exact K
  · have hlt : i < bs.length := by
      rcases Nat.lt_or_ge i bs.length with q | q
      · exact q
      · exact absurd (nI_le q (by omega)) c1
    refine aw_aload0 X dX9_compares_55 ?_
    refine aw_get X fX9_54 dX9_compares_56 (h4.at) rfl ?_
    refine aw_iload4 X dX9_compares_59 ?_
    refine aw_iload7 X dX9_compares_61 ?_
    refine aw_iadd X dX9_compares_63 ?_
    first | with_reducible refine aw_int (nI_add _ _) ?_ | skip
    refine aw_aload0 X dX9_compares_64 ?_
    refine aw_get X fX9_13 dX9_compares_65 (h4.at) rfl ?_
    refine aw_iload5 X dX9_compares_68 ?_
    refine aw_iload7 X dX9_compares_70 ?_
    refine aw_iadd X dX9_compares_72 ?_
    first | with_reducible refine aw_int (nI_add _ _) ?_ | skip
    refine aw_iald X dX9_compares_73 (h4.ai 2 rfl) rfl (by omega) (by decide) ?_
    refine aw_int (y := bs.getD i 0) (by rw [b1 2 (by decide), zA 2 (by omega)]; exact f3 i hlt) ?_
    refine aw_mst X 15 dX9_compares_74 h4 rfl rfl (by omega) (by decide) (fun M5 h5 => ?_)
    refine aw_iinc7 X dX9_compares_75 (by rw [hn]; decide) (am_inc _ 1) rfl ?_
    refine aw_goto X dX9_compares_78 (tgt := 44) (by decide) ?_
    refine ih (i + 1, va_up B1 15 (upd (B1 15) (120 * d + i) (bs.getD i 0)), M5) ⟨hlt, h5, fun a ha => (va_up_ne _ _ ha).trans (b1 a ha), fun k hk => (pk_un (by omega)).trans (b15 k hk), fun k hk => ?_⟩ (by dsimp only; omega)
    try dsimp only at hk
    show upd (B1 15) (120 * d + i) (bs.getD i 0) (120 * d + k) = _
    by_cases e : k = i
    · rw [e, pk_us]
    · rw [pk_un (by omega)]
      exact bc k (by omega)
