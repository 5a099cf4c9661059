/-- the bytes of a chunk are held against others -/
theorem lp_alike {Z : AZ} {Q : State → Prop} {M0 M : AM} {y a f : Nat} {A : MA} {S : Nat → Int64} {c : Nat → Int32} {b x : List Int32} {a3 a4 a5 a7 a9 : Option Value} {s10 v6 : Int32} (X : am_X RX9 cX9_names Z) (hn : zn Z = 14) (h : md (zG Z) M0 M y A S c) (hb : ∀ i, i < b.length → A 26 (a + i) = b.getD i 0) (ha : a + b.length ≤ 1440) (hx : ∀ i, i < x.length → A 26 (f + i) = x.getD i 0) (hf : f + x.length ≤ 1440)
    (K : AW Z Q M 0 0 147 [some (.ref y), some (.int (nI a)), some (.int (nI b.length)), a3, a4, a5, some (.int v6), a7, some (.int (nI f)), a9, some (.int s10), some (.int (nI x.length)), some (.int (b2i (decide (x = b)))), none] []) :
    AW Z Q M 0 0 85 [some (.ref y), some (.int (nI a)), some (.int (nI b.length)), a3, a4, a5, some (.int v6), a7, some (.int (nI f)), a9, some (.int s10), some (.int (nI x.length)), none, none] [] := by
  refine aw_iload11 X dX9_names_85 ?_
  refine aw_iload2 X dX9_names_87 ?_
  refine aw_icmpne X dX9_names_88 (tgt := 95) (by decide) (fun c1 => ?_) (fun c1 => ?_)
  · have e : x ≠ b := fun e => c1 (by rw [e])
    rw [show decide (x = b) = false by simp [e]] at K
    refine aw_iconst X dX9_names_95 (v := nI 0) (by decide) ?_
    refine aw_istore12 X dX9_names_96 (by rw [hn]; decide) rfl ?_
    refine aw_iconst X dX9_names_98 (v := nI 0) (by decide) ?_
    refine aw_istore13 X dX9_names_99 (by rw [hn]; decide) rfl ?_
    refine aw_iload13 X dX9_names_101 ?_
    refine aw_iload2 X dX9_names_103 ?_
    refine aw_icmpge X dX9_names_104 (tgt := 147) (by decide) (fun c2 => ?_) (fun c2 => ?_)
    · refine aw_drop13 ?_
      exact K
    · refine aw_iload12 X dX9_names_107 ?_
      refine aw_ifeq X dX9_names_109 (tgt := 147) (by decide) (fun _ => ?_) (fun c9 => by first | exact absurd ((rfl : nI 0 = 0)) c9 | exact absurd c9 ((rfl : nI 0 = 0)))
      refine aw_drop13 ?_
      exact K
  · have hl : x.length = b.length := (nI_eq (by omega) (by omega)).mp c1
    refine aw_iconst X dX9_names_91 (v := nI 1) (by decide) ?_
    refine aw_goto X dX9_names_92 (tgt := 96) (by decide) ?_
    refine aw_istore12 X dX9_names_96 (by rw [hn]; decide) rfl ?_
    refine aw_iconst X dX9_names_98 (v := nI 0) (by decide) ?_
    refine aw_istore13 X dX9_names_99 (by rw [hn]; decide) rfl ?_
    refine aw_loop (σ := Nat) (fun i => i ≤ b.length) (fun i => b.length - i) (fun _ => M) (fun i => [some (.ref y), some (.int (nI a)), some (.int (nI b.length)), a3, a4, a5, some (.int v6), a7, some (.int (nI f)), a9, some (.int s10), some (.int (nI x.length)), some (.int (b2i (eqTo x b i))), some (.int (nI i))]) ?_ 0 (Nat.zero_le _)
    intro i hi ih
    try dsimp only at hi ih ⊢
    refine aw_iload13 X dX9_names_101 ?_
    refine aw_iload2 X dX9_names_103 ?_
    refine aw_icmpge X dX9_names_104 (tgt := 147) (by decide) (fun c2 => ?_) (fun c2 => ?_)
    · have e : i = b.length := by have := (nI_leI (by omega) (by omega)).mp c2; omega
      subst e
      have e2 : eqTo x b b.length = decide (x = b) := by
        cases hq : eqTo x b b.length with
        | true => exact (decide_eq_true (eq_of_to hl hq)).symm
        | false =>
          have : x ≠ b := fun e => by
            rw [e, eqTo_all.mpr (fun _ _ => rfl)] at hq
            cases hq
          exact (decide_eq_false this).symm
      rw [e2]
      refine aw_drop13 ?_
      exact K
    · have hlt : i < b.length := by
        rcases Nat.lt_or_ge i b.length with q | q
        · exact q
        · exact absurd (nI_le q (by omega)) c2
      refine aw_iload12 X dX9_names_107 ?_
      refine aw_ifeq X dX9_names_109 (tgt := 147) (by decide) (fun c3 => ?_) (fun c3 => ?_)
      · have e2 : eqTo x b i = false := b2i_0.mp c3
        have : x ≠ b := fun e => by
          rw [e, eqTo_all.mpr (fun _ _ => rfl)] at e2
          cases e2
        rw [e2]
        rw [show decide (x = b) = false by simp [this]] at K
        refine aw_drop13 ?_
        exact K
      · have e2 : eqTo x b i = true := by
          cases hq : eqTo x b i with
          | true => rfl
          | false => exact absurd (b2i_0.mpr hq) c3
        have q := ih (i + 1) hlt (by omega)
        rw [eqTo, e2, Bool.true_and] at q
        refine aw_aload0 X dX9_names_112 ?_
        refine aw_get X fX9_97 dX9_names_113 (h.at) rfl ?_
        refine aw_iload1 X dX9_names_116 ?_
        refine aw_iload13 X dX9_names_117 ?_
        refine aw_iadd X dX9_names_119 ?_
        first | with_reducible refine aw_int (nI_add _ _) ?_ | skip
        refine aw_iald X dX9_names_120 (h.ai 26 rfl) rfl (by omega) (by decide) ?_
        refine aw_int (hb i hlt) ?_
        refine aw_aload0 X dX9_names_121 ?_
        refine aw_get X fX9_97 dX9_names_122 (h.at) rfl ?_
        refine aw_iload8 X dX9_names_125 ?_
        refine aw_iload13 X dX9_names_127 ?_
        refine aw_iadd X dX9_names_129 ?_
        first | with_reducible refine aw_int (nI_add _ _) ?_ | skip
        refine aw_iald X dX9_names_130 (h.ai 26 rfl) rfl (by omega) (by decide) ?_
        refine aw_int (hx i (by omega)) ?_
        refine aw_icmpne X dX9_names_131 (tgt := 138) (by decide) (fun c4 => ?_) (fun c4 => ?_)
        · rw [show decide (b.getD i 0 = x.getD i 0) = false from decide_eq_false c4] at q
          refine aw_iconst X dX9_names_138 (v := nI 0) (by decide) ?_
          refine aw_istore12 X dX9_names_139 (by rw [hn]; decide) rfl ?_
          refine aw_iinc13 X dX9_names_141 (by rw [hn]; decide) (am_inc _ 1) rfl ?_
          refine aw_goto X dX9_names_144 (tgt := 101) (by decide) ?_
          exact q
        · rw [show decide (b.getD i 0 = x.getD i 0) = true from decide_eq_true c4] at q
          refine aw_iconst X dX9_names_134 (v := nI 1) (by decide) ?_
          refine aw_goto X dX9_names_135 (tgt := 139) (by decide) ?_
          refine aw_istore12 X dX9_names_139 (by rw [hn]; decide) rfl ?_
          refine aw_iinc13 X dX9_names_141 (by rw [hn]; decide) (am_inc _ 1) rfl ?_
          refine aw_goto X dX9_names_144 (tgt := 101) (by decide) ?_
          exact q
theorem c_X9_names {l : Launch} {G : AG} {M0 M : AM} {y a lp kk : Nat} {A : MA} {S : Nat → Int64} {c : Nat → Int32} {b : List Int32} {P : PS} {w : Option Nat} {lpi : Int32} (h : md G M0 M y A S c) (hP : ∀ p, p < 12 → pRel A p (P p)) (hb : ∀ i, i < b.length → A 26 (a + i) = b.getD i 0) (ha : a + b.length ≤ 1440) (hlp : lp < 12) (hw : ∀ p, w = some p → p < 12) (hk : ∀ m, Pw P w lp = some m → lpi = nI kk ∧ kk ≤ m.length) : Cn l G yX9_names cX9_names 14 (some .int) rX9_names M [.ref y, .int (nI a), .int (nI b.length), .int (nI lp), .int lpi, .int (behI w)] (fun v M' => M' = M ∧ v = some (.int (nI (List.count b (allB (Pw P w) lp ++ ((Pw P w lp).getD []).take kk))))) := by
  have hok : ∀ i, i < 12 → ∀ m, P i = some m → okP m := fun i hi m e => by
    have := hP i hi
    rw [e] at this
    exact this.2.1
  have hoq := Pw_ok (w := w) hok
  have hws : ∀ k, w = some k → k < 2 ^ 31 := fun k e => by have := hw k e; omega
  have hlen : ∀ p, p ≤ lp → (upto (Pw P w) lp kk p).length ≤ 1440 := fun p hp => by
    rw [upto, if_pos hp]
    exact Nat.le_trans (allB_len (fun i hi => okP.empty hoq hi) p (by omega)) (by omega)
  rw [← upto_end]
  refine Cn.of (by decide) [some (.ref y), some (.int (nI a)), some (.int (nI b.length)), some (.int (nI lp)), some (.int lpi), some (.int (behI w)), none, none, none, none, none, none, none, none] rfl (Nat.le_of_ble_eq_true rfl) ?_
  intro Z hZ
  obtain ⟨rfl, hn, rfl, hR, X, hr, hnm⟩ := hZ
  refine aw_iconst X dX9_names_0 (v := nI 0) (by decide) ?_
  refine aw_istore6 X dX9_names_1 (by rw [hn]; decide) rfl ?_
  refine aw_iconst X dX9_names_3 (v := nI 0) (by decide) ?_
  refine aw_istore7 X dX9_names_4 (by rw [hn]; decide) rfl ?_
  refine aw_loop (σ := Nat) (fun p => p ≤ lp + 1) (fun p => lp + 1 - p) (fun _ => M) (fun p => [some (.ref y), some (.int (nI a)), some (.int (nI b.length)), some (.int (nI lp)), some (.int lpi), some (.int (behI w)), some (.int (nI (List.count b (upto (Pw P w) lp kk p)))), some (.int (nI p)), none, none, none, none, none, none]) ?_ 0 (Nat.zero_le _)
  intro p hp ih
  try dsimp only at hp ih ⊢
  refine aw_iload7 X dX9_names_6 ?_
  refine aw_iload3 X dX9_names_8 ?_
  refine aw_icmpgt X dX9_names_9 (tgt := 181) (by decide) (fun c1 => ?_) (fun c1 => ?_)
  · have e : p = lp + 1 := by have := (nI_ltI (by omega) (by omega)).mp c1; omega
    subst e
    refine aw_iload6 X dX9_names_181 ?_
    refine aw_ireturn X (ty := .int) hr (by first | rfl | decide | assumption) dX9_names_183 (⟨rfl, rfl⟩)
  · have hlt : p ≤ lp := by
      rcases Nat.lt_or_ge lp p with q | q
      · exact absurd (nI_lt q (by omega)) c1
      · exact q
    have hl0 := hlen p hlt
    have hn0 : ((Pw P w p).getD []).length ≤ 120 := okP.empty hoq (by omega)
    have hls : lstN (Pw P w) lp kk p ≤ ((Pw P w p).getD []).length := by
      unfold lstN
      split
      · rename_i e
        rw [e]
        exact Nat.min_le_right _ _
      · exact Nat.le_refl _
    have qn := ih (p + 1) (by omega) (by omega)
    rw [upto_succ hlt, List.count_append] at qn
    refine aw_bipush X dX9_names_12 (v := nI 120) (by decide) ?_
    refine aw_iload7 X dX9_names_14 ?_
    refine aw_imul X dX9_names_16 ?_
    first | with_reducible refine aw_int (pk_mul _ _) ?_ | skip
    refine aw_istore8 X dX9_names_17 (by rw [hn]; decide) rfl ?_
    refine aw_aload0 X dX9_names_19 ?_
    refine aw_get X fX9_88 dX9_names_20 (h.at) rfl ?_
    refine aw_iload7 X dX9_names_23 ?_
    refine aw_zald X dX9_names_25 (h.az 23 rfl) rfl (by omega) (by decide) ?_
    refine aw_int ((hP p (by omega)).st) ?_
    refine aw_join 58 [some (.ref y), some (.int (nI a)), some (.int (nI b.length)), some (.int (nI lp)), some (.int lpi), some (.int (behI w)), some (.int (nI (List.count b (upto (Pw P w) lp kk p)))), some (.int (nI p)), some (.int (nI (120 * p))), none, none, none, none, none] [.int (nI (lstN (Pw P w) lp kk p))] ?_ (fun K => ?_)
    · clear ih
      refine aw_istore9 X dX9_names_58 (by rw [hn]; decide) rfl ?_
      refine aw_iconst X dX9_names_60 (v := nI 0) (by decide) ?_
      refine aw_istore10 X dX9_names_61 (by rw [hn]; decide) rfl ?_
      refine aw_loop (σ := Nat) (fun k => k ≤ lstN (Pw P w) lp kk p) (fun k => lstN (Pw P w) lp kk p - k) (fun _ => M) (fun k => [some (.ref y), some (.int (nI a)), some (.int (nI b.length)), some (.int (nI lp)), some (.int lpi), some (.int (behI w)), some (.int (nI (List.count b (upto (Pw P w) lp kk p) + List.count b (((Pw P w p).getD []).take k)))), some (.int (nI p)), some (.int (nI (120 * p + (((Pw P w p).getD []).take k).flatten.length))), some (.int (nI (lstN (Pw P w) lp kk p))), some (.int (nI k)), none, none, none]) ?_ 0 (Nat.zero_le _)
      intro k hk1 ih
      try dsimp only at hk1 ih ⊢
      refine aw_iload10 X dX9_names_63 ?_
      refine aw_iload9 X dX9_names_65 ?_
      refine aw_icmpge X dX9_names_67 (tgt := 175) (by decide) (fun c2 => ?_) (fun c2 => ?_)
      · have e : k = lstN (Pw P w) lp kk p := by have := (nI_leI (by omega) (by omega)).mp c2; omega
        subst e
        refine aw_iinc7 X dX9_names_175 (by rw [hn]; decide) (am_inc _ 1) rfl ?_
        refine aw_goto X dX9_names_178 (tgt := 6) (by decide) ?_
        exact aw_drop8 (aw_drop9 (aw_drop10 qn))
      · have hkl : k < lstN (Pw P w) lp kk p := by
          rcases Nat.lt_or_ge k (lstN (Pw P w) lp kk p) with q | q
          · exact q
          · exact absurd (nI_le q (by omega)) c2
        have q := ih (k + 1) hkl (by omega)
        cases hm : Pw P w p with
        | none =>
          rw [hm] at hls
          simp at hls
          omega
        | some m =>
          rw [hm] at hls hn0 q
          dsimp only [Option.getD_some] at hls hn0 q ⊢
          obtain ⟨hPm, -⟩ := Pw_some hm
          have hpr := hP p (by omega)
          rw [hPm] at hpr
          obtain ⟨p1, p2, p3, p4, p5⟩ := hpr
          have hkm : k < m.length := by omega
          have ho := p2.off hkm
          have hcl : List.count b (m.take k) ≤ 120 := Nat.le_trans cnt_len (by rw [List.length_take]; omega)
          have hcu : List.count b (upto (Pw P w) lp kk p) ≤ 1440 := Nat.le_trans cnt_len hl0
          refine aw_aload0 X dX9_names_70 ?_
          refine aw_get X fX9_94 dX9_names_71 (h.at) rfl ?_
          refine aw_bipush X dX9_names_74 (v := nI 120) (by decide) ?_
          refine aw_iload7 X dX9_names_76 ?_
          refine aw_imul X dX9_names_78 ?_
          first | with_reducible refine aw_int (pk_mul _ _) ?_ | skip
          refine aw_iload10 X dX9_names_79 ?_
          refine aw_iadd X dX9_names_81 ?_
          first | with_reducible refine aw_int (nI_add _ _) ?_ | skip
          refine aw_iald X dX9_names_82 (h.ai 25 rfl) rfl (by omega) (by decide) ?_
          refine aw_int (p4 k hkm) ?_
          refine aw_istore11 X dX9_names_83 (by rw [hn]; decide) rfl ?_
          refine lp_alike X hn h hb ha (x := m.getD k []) (fun i hi => ?_) (by omega) ?_
          · rw [Nat.add_assoc, p5 _ (by have := off_succ hkm; have := off_le m (k + 1); omega), flat_get hkm hi]
          · rw [off_succ hkm, cnt_succ hkm, ← Nat.add_assoc, ← Nat.add_assoc] at q
            refine aw_iload6 X dX9_names_147 ?_
            refine aw_iload12 X dX9_names_149 ?_
            by_cases e : m.getD k [] = b
            · rw [show decide (m.getD k [] = b) = true from decide_eq_true e]
              rw [if_pos e] at q
              refine aw_ifeq X dX9_names_151 (tgt := 158) (by decide) (fun c9 => by first | exact absurd ((by decide : ¬ nI 1 = 0)) c9 | exact absurd c9 ((by decide : ¬ nI 1 = 0))) (fun _ => ?_)
              refine aw_iconst X dX9_names_154 (v := nI 1) (by decide) ?_
              refine aw_goto X dX9_names_155 (tgt := 159) (by decide) ?_
              refine aw_iadd X dX9_names_159 ?_
              first | with_reducible refine aw_int (nI_add _ _) ?_ | skip
              refine aw_istore6 X dX9_names_160 (by rw [hn]; decide) rfl ?_
              refine aw_iload8 X dX9_names_162 ?_
              refine aw_iload11 X dX9_names_164 ?_
              refine aw_iadd X dX9_names_166 ?_
              first | with_reducible refine aw_int (nI_add _ _) ?_ | skip
              refine aw_istore8 X dX9_names_167 (by rw [hn]; decide) rfl ?_
              refine aw_iinc10 X dX9_names_169 (by rw [hn]; decide) (am_inc _ 1) rfl ?_
              refine aw_goto X dX9_names_172 (tgt := 63) (by decide) ?_
              exact aw_drop11 (aw_drop12 q)
            · rw [show decide (m.getD k [] = b) = false from decide_eq_false e]
              rw [if_neg e] at q
              refine aw_ifeq X dX9_names_151 (tgt := 158) (by decide) (fun _ => ?_) (fun c9 => by first | exact absurd ((rfl : nI 0 = 0)) c9 | exact absurd c9 ((rfl : nI 0 = 0)))
              refine aw_iconst X dX9_names_158 (v := nI 0) (by decide) ?_
              refine aw_iadd X dX9_names_159 ?_
              first | with_reducible refine aw_int (nI_add _ _) ?_ | skip
              refine aw_istore6 X dX9_names_160 (by rw [hn]; decide) rfl ?_
              refine aw_iload8 X dX9_names_162 ?_
              refine aw_iload11 X dX9_names_164 ?_
              refine aw_iadd X dX9_names_166 ?_
              first | with_reducible refine aw_int (nI_add _ _) ?_ | skip
              refine aw_istore8 X dX9_names_167 (by rw [hn]; decide) rfl ?_
              refine aw_iinc10 X dX9_names_169 (by rw [hn]; decide) (am_inc _ 1) rfl ?_
              refine aw_goto X dX9_names_172 (tgt := 63) (by decide) ?_
              exact aw_drop11 (aw_drop12 q)
    · cases hm : Pw P w p with
      | none =>
        have e0 : lstN (Pw P w) lp kk p = 0 := by
          rw [hm] at hls
          simp at hls
          exact hls
        rw [e0] at K
        by_cases hs : (P p).isSome = true
        · rw [if_pos hs]
          have e2 : w = some p := by
            rcases Pw_none hm with q | q
            · rw [q] at hs
              cases hs
            · exact q
          refine aw_ifeq X dX9_names_26 (tgt := 36) (by decide) (fun c9 => by first | exact absurd ((by decide : ¬ nI 1 = 0)) c9 | exact absurd c9 ((by decide : ¬ nI 1 = 0))) (fun _ => ?_)
          refine aw_iload7 X dX9_names_29 ?_
          refine aw_iload5 X dX9_names_31 ?_
          refine aw_icmpne X dX9_names_33 (tgt := 40) (by decide) (fun c9 => by first | exact absurd ((show nI p = behI w from (behI_eq hws (by omega)).mpr e2)) c9 | exact absurd c9 ((show nI p = behI w from (behI_eq hws (by omega)).mpr e2))) (fun _ => ?_)
          refine aw_iconst X dX9_names_36 (v := nI 0) (by decide) ?_
          refine aw_goto X dX9_names_37 (tgt := 58) (by decide) ?_
          exact K
        · rw [if_neg hs]
          refine aw_ifeq X dX9_names_26 (tgt := 36) (by decide) (fun _ => ?_) (fun c9 => by first | exact absurd ((rfl : nI 0 = 0)) c9 | exact absurd c9 ((rfl : nI 0 = 0)))
          refine aw_iconst X dX9_names_36 (v := nI 0) (by decide) ?_
          refine aw_goto X dX9_names_37 (tgt := 58) (by decide) ?_
          exact K
      | some m =>
        obtain ⟨hPm, hwn⟩ := Pw_some hm
        have hpr := hP p (by omega)
        rw [hPm] at hpr ⊢
        obtain ⟨p1, p2, p3, p4, p5⟩ := hpr
        rw [if_pos (show (some m).isSome = true from rfl)]
        refine aw_ifeq X dX9_names_26 (tgt := 36) (by decide) (fun c9 => by first | exact absurd ((by decide : ¬ nI 1 = 0)) c9 | exact absurd c9 ((by decide : ¬ nI 1 = 0))) (fun _ => ?_)
        refine aw_iload7 X dX9_names_29 ?_
        refine aw_iload5 X dX9_names_31 ?_
        refine aw_icmpne X dX9_names_33 (tgt := 40) (by decide) (fun _ => ?_) (fun c9 => by first | exact absurd ((show ¬ nI p = behI w from fun e => hwn ((behI_eq hws (by omega)).mp e))) c9 | exact absurd c9 ((show ¬ nI p = behI w from fun e => hwn ((behI_eq hws (by omega)).mp e))))
        refine aw_iload7 X dX9_names_40 ?_
        refine aw_iload3 X dX9_names_42 ?_
        refine aw_icmpne X dX9_names_43 (tgt := 51) (by decide) (fun c3 => ?_) (fun c3 => ?_)
        · have hne : p ≠ lp := fun e => c3 (by rw [e])
          have e0 : lstN (Pw P w) lp kk p = m.length := by rw [lstN, if_neg hne, hm]; rfl
          rw [e0] at K
          refine aw_aload0 X dX9_names_51 ?_
          refine aw_get X fX9_91 dX9_names_52 (h.at) rfl ?_
          refine aw_iload7 X dX9_names_55 ?_
          refine aw_iald X dX9_names_57 (h.ai 24 rfl) rfl (by omega) (by decide) ?_
          exact aw_int p3 K
        · have he : p = lp := (nI_eq (by omega) (by omega)).mp c3
          subst he
          obtain ⟨x1, x2⟩ := hk m hm
          have e0 : lstN (Pw P w) p kk p = kk := by rw [lstN, if_pos rfl, hm]; exact Nat.min_eq_left x2
          rw [e0] at K
          refine aw_iload4 X dX9_names_46 ?_
          refine aw_goto X dX9_names_48 (tgt := 58) (by decide) ?_
          exact aw_int x1 K
