theorem pRel.off {A B : MA} {p i : Nat} {P : Option (List (List Int32))} (h : pRel A p P) (h23 : B 23 p = A 23 p ∧ B 24 p = A 24 p) (h25 : ∀ k, k < 120 * i ∨ 120 * i + 120 ≤ k → B 25 k = A 25 k ∧ B 26 k = A 26 k) (e : p ≠ i) : pRel B p P := by
  cases P with
  | none => exact h23.1.trans h
  | some l =>
    obtain ⟨p1, p2, p3, p4, p5⟩ := h
    have := p2.1
    have := p2.2.1
    exact ⟨h23.1.trans p1, p2, h23.2.trans p3, fun k hk => ((h25 (120 * p + k) (by omega)).1).trans (p4 k hk), fun k hk => ((h25 (120 * p + k) (by omega)).2).trans (p5 k hk)⟩
theorem mRel.pap {A B : MA} {S : Nat → Int64} {c c' : Nat → Int32} {τ : TS} {i : Nat} {P : Option (List (List Int32))} (h : mRel A S c τ) (hA : ∀ a, a < 20 ∨ 26 < a → B a = A a) (h23 : ∀ j, j ≠ i → B 23 j = A 23 j ∧ B 24 j = A 24 j) (h25 : ∀ k, k < 120 * i ∨ 120 * i + 120 ≤ k → B 25 k = A 25 k ∧ B 26 k = A 26 k) (hi : pRel B i P) (c0 : c' 0 = c 0) (c16 : c' 16 = c 16) (c28 : c' 28 = c 28) (c29 : c' 29 = c 29) (c30 : c' 30 = c 30) : mRel B S c' (setP τ i P) := by
  obtain ⟨r1, r2, r3, r4, r5, r6, r7, r8⟩ := h
  refine ⟨by rw [c0]; exact r1, fun j hj => (r2 j hj).cg (hA 1 (by omega)) (hA 2 (by omega)), fun j hj => (r3 j hj).cg (fun a x1 x2 => hA a (by omega)), fun j hj => (r4 j hj).cg (fun a x1 x2 => hA a (by omega)), by rw [c16]; exact r5, fun v hv => (r6 v hv).cg (fun a x1 x2 => hA a (by omega)), ?_, fun p hp => ?_⟩
  · unfold gRel
    rw [c28, c29, c30]
    exact r7
  · show pRel B p (va_up τ.2.2.2.2.2 i P p)
    by_cases e : p = i
    · subst e
      rw [va_up_self]
      exact hi
    · rw [va_up_ne _ _ e]
      exact (r8 p hp).off (h23 p e) h25 e
/-- one that is gone with the paper -/
def gf (P : PS) (p : Nat) : List Int32 → Nat := fun b => if b ∈ allB (va_up P p none) 12 then 0 else 1
theorem c_X9_release {l : Launch} {G : AG} {M0 M : AM} {y t : Nat} {τ : TS} {f : Int32} (hm : isMD G M0 M y τ t) : Cn l G yX9_release cX9_release 7 (some .int) rX9_release M [.ref y, .int f] (MP Value.int G M y (spRelease τ f)) := by
  obtain ⟨A, S, c, h0, hr0, -⟩ := hm
  have h := h0.base
  have q8 := hr0.2.2.2.2.2.2.2
  refine Cn.of (by decide) [some (.ref y), some (.int f), none, none, none, none, none] rfl (Nat.le_of_ble_eq_true rfl) ?_
  intro Z hZ
  obtain ⟨rfl, hn, rfl, hR, X, hr, hnm⟩ := hZ
  refine aw_aload0 X dX9_release_0 ?_
  refine aw_aload0 X dX9_release_1 ?_
  refine aw_iload1 X dX9_release_2 ?_
  refine aw_callV X (c_X9_isThere h hr0) kX9_208 (ci := 10) rfl (h.at) dX9_release_3 rfl rfl (by first | decide | exact Nat.le_of_ble_eq_true rfl) (by rw [hR]; exact ⟨by first | decide | exact Nat.le_of_ble_eq_true rfl | (dsimp only; omega), by first | decide | exact Nat.le_of_ble_eq_true rfl | (dsimp only; omega)⟩) (by rw [hR]; exact ⟨by first | decide | exact Nat.le_of_ble_eq_true rfl | (dsimp only; omega), by first | decide | exact Nat.le_of_ble_eq_true rfl | (dsimp only; omega)⟩) (fun v M1 hv => ?_)
  obtain ⟨rfl, rfl⟩ := hv
  refine aw_callV X (c_X9_may h) kX9_106 (ci := 10) rfl (h.at) dX9_release_6 rfl rfl (by first | decide | exact Nat.le_of_ble_eq_true rfl) (by rw [hR]; exact ⟨by first | decide | exact Nat.le_of_ble_eq_true rfl | (dsimp only; omega), by first | decide | exact Nat.le_of_ble_eq_true rfl | (dsimp only; omega)⟩) (by rw [hR]; exact ⟨by first | decide | exact Nat.le_of_ble_eq_true rfl | (dsimp only; omega), by first | decide | exact Nat.le_of_ble_eq_true rfl | (dsimp only; omega)⟩) (fun v M2 hv => ?_)
  obtain ⟨rfl, h1⟩ := hv
  refine aw_ifne X dX9_release_9 (tgt := 14) (by decide) (fun c1 => ?_) (fun c1 => ?_)
  · have hp : isP τ f := Decidable.byContradiction (fun e => c1 (am_bz.mpr e))
    obtain ⟨j1, j2, j3⟩ := inI_j hp.1 (by omega)
    obtain ⟨m, hm9⟩ := Option.isSome_iff_exists.mp hp.2
    have hm9 : τ.2.2.2.2.2 (ix f) = some m := hm9
    have hq := q8 (ix f) j1
    rw [hm9] at hq
    obtain ⟨p1, p2, p3, p4, p5⟩ := id hq
    have hml := p2.2.1
    have hbl : (allB τ.2.2.2.2.2 (ix f)).length ≤ 1440 := Nat.le_trans (allB_len (fun i hi => okP.empty (P := τ.2.2.2.2.2) (fun i hi l e => by have := q8 i hi; rw [e] at this; exact this.2.1) hi) _ (by omega)) (by omega)
    rw [show (Value.int f) = .int (nI (ix f)) from congrArg Value.int j2]
    refine aw_iconst X dX9_release_14 (v := nI 0) (by decide) ?_
    refine aw_istore2 X dX9_release_15 (by rw [hn]; decide) rfl ?_
    refine aw_bipush X dX9_release_16 (v := nI 120) (by decide) ?_
    refine aw_iload1 X dX9_release_18 ?_
    refine aw_imul X dX9_release_19 ?_
    first | with_reducible refine aw_int (pk_mul _ _) ?_ | skip
    refine aw_istore3 X dX9_release_20 (by rw [hn]; decide) rfl ?_
    refine aw_iconst X dX9_release_21 (v := nI 0) (by decide) ?_
    refine aw_istore4 X dX9_release_22 (by rw [hn]; decide) rfl ?_
    refine aw_loop (σ := Nat) (fun k => k ≤ m.length) (fun k => m.length - k) (fun _ => M2) (fun k => [some (.ref y), some (.int (nI (ix f))), some (.int (nI (fsum (gf τ.2.2.2.2.2 (ix f)) m k))), some (.int (nI (120 * ix f + (m.take k).flatten.length))), some (.int (nI k)), none, none]) ?_ 0 (Nat.zero_le _)
    intro k hk ih
    try dsimp only at hk ih ⊢
    refine aw_iload4 X dX9_release_24 ?_
    refine aw_aload0 X dX9_release_26 ?_
    refine aw_get X fX9_91 dX9_release_27 (h1.at) rfl ?_
    refine aw_iload1 X dX9_release_30 ?_
    refine aw_iald X dX9_release_31 (h1.ai 24 rfl) rfl (by omega) (by decide) ?_
    refine aw_int p3 ?_
    refine aw_icmpge X dX9_release_32 (tgt := 124) (by decide) (fun c2 => ?_) (fun c2 => ?_)
    · have e : k = m.length := by have := (nI_leI (by omega) (by omega)).mp c2; omega
      subst e
      refine aw_aload0 X dX9_release_124 ?_
      refine aw_get X fX9_88 dX9_release_125 (h1.at) rfl ?_
      refine aw_iload1 X dX9_release_128 ?_
      refine aw_iconst X dX9_release_129 (v := nI 0) (by decide) ?_
      refine aw_msz X 23 dX9_release_130 h1 rfl rfl (by omega) (by decide) rfl (fun M3 h2 => ?_)
      refine aw_iload2 X dX9_release_131 ?_
      refine aw_ireturn X (ty := .int) hr (by first | rfl | decide | assumption) dX9_release_132 (MP.of (k := 0) (by rw [spRelease, if_pos hp, goneP, hm9]; rfl) h2 (mRel.pap hr0 (P := none) (fun a ha => va_up_ne _ _ (by omega)) (fun j hj => ⟨pk_un hj, rfl⟩) (fun k hk => ⟨rfl, rfl⟩) pk_us rfl rfl rfl rfl rfl) (by rw [va_up_self, if_pos hp]))
    · have hkl : k < m.length := by
        rcases Nat.lt_or_ge k m.length with q | q
        · exact q
        · exact absurd (nI_le q (by omega)) c2
      have ho := p2.off hkl
      have q := ih (k + 1) hkl (by omega)
      rw [off_succ hkl, ← Nat.add_assoc, fsum] at q
      clear ih
      refine aw_aload0 X dX9_release_35 ?_
      refine aw_get X fX9_94 dX9_release_36 (h1.at) rfl ?_
      refine aw_bipush X dX9_release_39 (v := nI 120) (by decide) ?_
      refine aw_iload1 X dX9_release_41 ?_
      refine aw_imul X dX9_release_42 ?_
      first | with_reducible refine aw_int (pk_mul _ _) ?_ | skip
      refine aw_iload4 X dX9_release_43 ?_
      refine aw_iadd X dX9_release_45 ?_
      first | with_reducible refine aw_int (nI_add _ _) ?_ | skip
      refine aw_iald X dX9_release_46 (h1.ai 25 rfl) rfl (by omega) (by decide) ?_
      refine aw_int (p4 k hkl) ?_
      refine aw_istore5 X dX9_release_47 (by rw [hn]; decide) rfl ?_
      refine aw_aload0 X dX9_release_49 ?_
      refine aw_iload3 X dX9_release_50 ?_
      refine aw_iload5 X dX9_release_51 ?_
      refine aw_iload1 X dX9_release_53 ?_
      refine aw_iload4 X dX9_release_54 ?_
      refine aw_iconst X dX9_release_56 (v := -1) (by decide) ?_
      refine aw_callV X (c_X9_names (w := none) (P := τ.2.2.2.2.2) (lp := ix f) (kk := k) (b := m.getD k []) h1 q8 (hq.chunk hkl) (by omega) j1 (fun p e => by cases e) (fun m' e => by have e : τ.2.2.2.2.2 (ix f) = some m' := e; rw [hm9] at e; cases e; exact ⟨rfl, by omega⟩)) kX9_211 (ci := 10) rfl (h1.at) dX9_release_57 rfl rfl (by first | decide | exact Nat.le_of_ble_eq_true rfl) (by rw [hR]; exact ⟨by first | decide | exact Nat.le_of_ble_eq_true rfl | (dsimp only; omega), by first | decide | exact Nat.le_of_ble_eq_true rfl | (dsimp only; omega)⟩) (by rw [hR]; exact ⟨by first | decide | exact Nat.le_of_ble_eq_true rfl | (dsimp only; omega), by first | decide | exact Nat.le_of_ble_eq_true rfl | (dsimp only; omega)⟩) (fun v M4 hv => ?_)
      obtain ⟨rfl, rfl⟩ := hv
      refine aw_aload0 X dX9_release_60 ?_
      refine aw_iload3 X dX9_release_61 ?_
      refine aw_iload5 X dX9_release_62 ?_
      refine aw_iload1 X dX9_release_64 ?_
      refine aw_iconst X dX9_release_65 (v := nI 0) (by decide) ?_
      refine aw_iconst X dX9_release_66 (v := -1) (by decide) ?_
      refine aw_callV X (c_X9_names (w := none) (P := τ.2.2.2.2.2) (lp := ix f) (kk := 0) (b := m.getD k []) h1 q8 (hq.chunk hkl) (by omega) j1 (fun p e => by cases e) (fun m' e => ⟨rfl, Nat.zero_le _⟩)) kX9_211 (ci := 10) rfl (h1.at) dX9_release_67 rfl rfl (by first | decide | exact Nat.le_of_ble_eq_true rfl) (by rw [hR]; exact ⟨by first | decide | exact Nat.le_of_ble_eq_true rfl | (dsimp only; omega), by first | decide | exact Nat.le_of_ble_eq_true rfl | (dsimp only; omega)⟩) (by rw [hR]; exact ⟨by first | decide | exact Nat.le_of_ble_eq_true rfl | (dsimp only; omega), by first | decide | exact Nat.le_of_ble_eq_true rfl | (dsimp only; omega)⟩) (fun v M5 hv => ?_)
      obtain ⟨rfl, rfl⟩ := hv
      rw [show allB (Pw τ.2.2.2.2.2 none) (ix f) ++ ((Pw τ.2.2.2.2.2 none (ix f)).getD []).take k = allB τ.2.2.2.2.2 (ix f) ++ m.take k by show allB τ.2.2.2.2.2 (ix f) ++ ((τ.2.2.2.2.2 (ix f)).getD []).take k = _; rw [hm9]; rfl, show allB (Pw τ.2.2.2.2.2 none) (ix f) ++ ((Pw τ.2.2.2.2.2 none (ix f)).getD []).take 0 = allB τ.2.2.2.2.2 (ix f) by rw [List.take_zero, List.append_nil]; rfl]
      rw [List.count_append]
      have hc1 : List.count (m.getD k []) (allB τ.2.2.2.2.2 (ix f)) ≤ 1440 := Nat.le_trans cnt_len hbl
      have hc2 : List.count (m.getD k []) (m.take k) ≤ 120 := Nat.le_trans cnt_len (by rw [List.length_take]; omega)
      refine aw_joinA (ι := Unit) (fun _ => m.getD k [] ∈ m.take k) (fun _ => M5) 77 [some (.ref y), some (.int (nI (ix f))), some (.int (nI (fsum (gf τ.2.2.2.2.2 (ix f)) m k))), some (.int (nI (120 * ix f + (m.take k).flatten.length))), some (.int (nI k)), some (.int (nI (m.getD k []).length)), none] (fun _ hin => ?_) (fun K => ?_)
      · rw [if_pos hin] at q
        refine aw_iconst X dX9_release_77 (v := nI 0) (by decide) ?_
        refine aw_istore6 X dX9_release_78 (by rw [hn]; decide) rfl ?_
        refine aw_iload2 X dX9_release_80 ?_
        refine aw_iload6 X dX9_release_81 ?_
        refine aw_ifeq X dX9_release_83 (tgt := 110) (by decide) (fun _ => ?_) (fun c9 => by first | exact absurd ((rfl : nI 0 = 0)) c9 | exact absurd c9 ((rfl : nI 0 = 0)))
        refine aw_iconst X dX9_release_110 (v := nI 0) (by decide) ?_
        refine aw_iadd X dX9_release_111 ?_
        first | with_reducible refine aw_int (nI_add _ _) ?_ | skip
        refine aw_istore2 X dX9_release_112 (by rw [hn]; decide) rfl ?_
        refine aw_iload3 X dX9_release_113 ?_
        refine aw_iload5 X dX9_release_114 ?_
        refine aw_iadd X dX9_release_116 ?_
        first | with_reducible refine aw_int (nI_add _ _) ?_ | skip
        refine aw_istore3 X dX9_release_117 (by rw [hn]; decide) rfl ?_
        refine aw_iinc4 X dX9_release_118 (by rw [hn]; decide) (am_inc _ 1) rfl ?_
        refine aw_goto X dX9_release_121 (tgt := 24) (by decide) ?_
        exact aw_drop5 (aw_drop6 q)
      · refine aw_icmpne X dX9_release_70 (tgt := 77) (by decide) (fun c3 => ?_) (fun c3 => ?_)
        · refine K () (Decidable.byContradiction (fun e => c3 ?_))
          rw [List.count_eq_zero.mpr e, Nat.add_zero]
        · have hin : ¬ m.getD k [] ∈ m.take k := by
            intro e
            have := (nI_eq (by omega) (by omega)).mp c3
            have := List.count_pos_iff.mpr e
            omega
          rw [if_neg hin] at q
          refine aw_iconst X dX9_release_73 (v := nI 1) (by decide) ?_
          refine aw_goto X dX9_release_74 (tgt := 78) (by decide) ?_
          refine aw_istore6 X dX9_release_78 (by rw [hn]; decide) rfl ?_
          refine aw_iload2 X dX9_release_80 ?_
          refine aw_iload6 X dX9_release_81 ?_
          refine aw_ifeq X dX9_release_83 (tgt := 110) (by decide) (fun c9 => by first | exact absurd ((by decide : ¬ nI 1 = 0)) c9 | exact absurd c9 ((by decide : ¬ nI 1 = 0))) (fun _ => ?_)
          refine aw_aload0 X dX9_release_86 ?_
          refine aw_iload3 X dX9_release_87 ?_
          refine aw_iload5 X dX9_release_88 ?_
          refine aw_bipush X dX9_release_90 (v := nI 11) (by decide) ?_
          refine aw_aload0 X dX9_release_92 ?_
          refine aw_get X fX9_91 dX9_release_93 (h1.at) rfl ?_
          refine aw_bipush X dX9_release_96 (v := nI 11) (by decide) ?_
          refine aw_iald X dX9_release_98 (h1.ai 24 rfl) rfl (by omega) (by decide) ?_
          refine aw_iload1 X dX9_release_99 ?_
          refine aw_callV X (c_X9_names (w := some (ix f)) (P := τ.2.2.2.2.2) (lp := 11) (kk := ((Pw τ.2.2.2.2.2 (some (ix f)) 11).getD []).length) (b := m.getD k []) h1 q8 (hq.chunk hkl) (by omega) (by omega) (fun p e => by cases e; exact j1) (pRel.last q8 11 (by omega))) kX9_211 (ci := 10) rfl (h1.at) dX9_release_100 rfl rfl (by first | decide | exact Nat.le_of_ble_eq_true rfl) (by rw [hR]; exact ⟨by first | decide | exact Nat.le_of_ble_eq_true rfl | (dsimp only; omega), by first | decide | exact Nat.le_of_ble_eq_true rfl | (dsimp only; omega)⟩) (by rw [hR]; exact ⟨by first | decide | exact Nat.le_of_ble_eq_true rfl | (dsimp only; omega), by first | decide | exact Nat.le_of_ble_eq_true rfl | (dsimp only; omega)⟩) (fun v M6 hv => ?_)
          obtain ⟨rfl, rfl⟩ := hv
          rw [nm_all, show Pw τ.2.2.2.2.2 (some (ix f)) = va_up τ.2.2.2.2.2 (ix f) none from rfl]
          have hcn : List.count (m.getD k []) (allB (va_up τ.2.2.2.2.2 (ix f) none) 12) < 2 ^ 31 := by
            refine Nat.lt_of_le_of_lt cnt_len (Nat.lt_of_le_of_lt (allB_len (fun i hi => okP.empty (P := va_up τ.2.2.2.2.2 (ix f) none) (Pw_ok (w := some (ix f)) (fun i hi l e => by have := q8 i hi; rw [e] at this; exact this.2.1)) hi) 12 (Nat.le_refl _)) (by omega))
          by_cases hin2 : m.getD k [] ∈ allB (va_up τ.2.2.2.2.2 (ix f) none) 12
          · rw [gf, if_pos hin2] at q
            refine aw_ifne X dX9_release_103 (tgt := 110) (by decide) (fun _ => ?_) (fun c9 => by first | exact absurd ((fun e : nI (List.count (m.getD k []) (allB (va_up τ.2.2.2.2.2 (ix f) none) 12)) = 0 => by have := (nI_eq hcn (by omega)).mp (show _ = nI 0 from e); have := List.count_pos_iff.mpr hin2; omega)) c9 | exact absurd c9 ((fun e : nI (List.count (m.getD k []) (allB (va_up τ.2.2.2.2.2 (ix f) none) 12)) = 0 => by have := (nI_eq hcn (by omega)).mp (show _ = nI 0 from e); have := List.count_pos_iff.mpr hin2; omega)))
            refine aw_iconst X dX9_release_110 (v := nI 0) (by decide) ?_
            refine aw_iadd X dX9_release_111 ?_
            first | with_reducible refine aw_int (nI_add _ _) ?_ | skip
            refine aw_istore2 X dX9_release_112 (by rw [hn]; decide) rfl ?_
            refine aw_iload3 X dX9_release_113 ?_
            refine aw_iload5 X dX9_release_114 ?_
            refine aw_iadd X dX9_release_116 ?_
            first | with_reducible refine aw_int (nI_add _ _) ?_ | skip
            refine aw_istore3 X dX9_release_117 (by rw [hn]; decide) rfl ?_
            refine aw_iinc4 X dX9_release_118 (by rw [hn]; decide) (am_inc _ 1) rfl ?_
            refine aw_goto X dX9_release_121 (tgt := 24) (by decide) ?_
            exact aw_drop5 (aw_drop6 q)
          · rw [gf, if_neg hin2] at q
            rw [List.count_eq_zero.mpr hin2]
            refine aw_ifne X dX9_release_103 (tgt := 110) (by decide) (fun c9 => by first | exact absurd ((rfl : nI 0 = 0)) c9 | exact absurd c9 ((rfl : nI 0 = 0))) (fun _ => ?_)
            refine aw_iconst X dX9_release_106 (v := nI 1) (by decide) ?_
            refine aw_goto X dX9_release_107 (tgt := 111) (by decide) ?_
            refine aw_iadd X dX9_release_111 ?_
            first | with_reducible refine aw_int (nI_add _ _) ?_ | skip
            refine aw_istore2 X dX9_release_112 (by rw [hn]; decide) rfl ?_
            refine aw_iload3 X dX9_release_113 ?_
            refine aw_iload5 X dX9_release_114 ?_
            refine aw_iadd X dX9_release_116 ?_
            first | with_reducible refine aw_int (nI_add _ _) ?_ | skip
            refine aw_istore3 X dX9_release_117 (by rw [hn]; decide) rfl ?_
            refine aw_iinc4 X dX9_release_118 (by rw [hn]; decide) (am_inc _ 1) rfl ?_
            refine aw_goto X dX9_release_121 (tgt := 24) (by decide) ?_
            exact aw_drop5 (aw_drop6 q)
  · have hno := am_bz.mp c1
    refine aw_iconst X dX9_release_12 (v := nI 0) (by decide) ?_
    refine aw_ireturn X (ty := .int) hr (by first | rfl | decide | assumption) dX9_release_13 (MP.of (by rw [spRelease, if_neg hno]; rfl) h1 hr0.t (by rw [va_up_self, if_neg hno]))
theorem c_X9_fetch {l : Launch} {G : AG} {M0 M : AM} {y t : Nat} {τ : TS} {p f : Int32} (hm : isMD G M0 M y τ t) : Cn l G yX9_fetch cX9_fetch 4 (some .int) rX9_fetch M [.ref y, .int p, .int f] (MP Value.int G M y (spFetch τ p f)) := by
  obtain ⟨A, S, c, h0, hr0, -⟩ := hm
  have h := h0.base
  have q8 := hr0.2.2.2.2.2.2.2
  have q0 := hr0.1.1
  have q1 := hr0.1.2
  refine Cn.of (by decide) [some (.ref y), some (.int p), some (.int f), none] rfl (Nat.le_of_ble_eq_true rfl) ?_
  intro Z hZ
  obtain ⟨rfl, hn, rfl, hR, X, hr, hnm⟩ := hZ
  refine aw_aload0 X dX9_fetch_0 ?_
  refine aw_merge (isP τ p ∧ isF τ f) 22 [some (.ref y), some (.int p), some (.int f), none] [.ref y] ?_ (fun K => ?_)
  · refine aw_callV X (c_X9_may h) kX9_106 (ci := 10) rfl (h.at) dX9_fetch_22 rfl rfl (by first | decide | exact Nat.le_of_ble_eq_true rfl) (by rw [hR]; exact ⟨by first | decide | exact Nat.le_of_ble_eq_true rfl | (dsimp only; omega), by first | decide | exact Nat.le_of_ble_eq_true rfl | (dsimp only; omega)⟩) (by rw [hR]; exact ⟨by first | decide | exact Nat.le_of_ble_eq_true rfl | (dsimp only; omega), by first | decide | exact Nat.le_of_ble_eq_true rfl | (dsimp only; omega)⟩) (fun o M2 hv => ?_)
    obtain ⟨rfl, h1⟩ := hv
    refine aw_ifne X dX9_fetch_25 (tgt := 30) (by decide) (fun c1 => ?_) (fun c1 => ?_)
    · have hp : isP τ p ∧ isF τ f := Decidable.byContradiction (fun e => c1 (am_bz.mpr e))
      obtain ⟨j1, j2, j3⟩ := inI_j hp.1.1 (by omega)
      obtain ⟨k1, k2, k3⟩ := inI_j hp.2 (by omega)
      obtain ⟨m, hm9⟩ := Option.isSome_iff_exists.mp hp.1.2
      have hm9 : τ.2.2.2.2.2 (ix p) = some m := hm9
      have hL : tL τ p = m := by show (τ.2.2.2.2.2 (ix p)).getD [] = m; rw [hm9]; rfl
      have hq := q8 (ix p) j1
      rw [hm9] at hq
      obtain ⟨p1, p2, p3, p4, p5⟩ := id hq
      have hml := p2.2.1
      have hfl := p2.1
      refine aw_aload0 X dX9_fetch_30 ?_
      refine aw_aload0 X dX9_fetch_31 ?_
      refine aw_iload1 X dX9_fetch_32 ?_
      refine aw_aload0 X dX9_fetch_33 ?_
      refine aw_get X fX9_91 dX9_fetch_34 (h1.at) rfl ?_
      refine aw_iload1 X dX9_fetch_37 ?_
      refine aw_iald X dX9_fetch_38 (h1.ai 24 rfl) j2 (by omega) (by decide) ?_
      refine aw_int p3 ?_
      refine aw_int2 j2 ?_
      refine aw_callV X (c_X9_begin h1 j1 hq (Nat.le_refl _)) kX9_215 (ci := 10) rfl (h1.at) dX9_fetch_39 rfl rfl (by first | decide | exact Nat.le_of_ble_eq_true rfl) (by rw [hR]; exact ⟨by first | decide | exact Nat.le_of_ble_eq_true rfl | (dsimp only; omega), by first | decide | exact Nat.le_of_ble_eq_true rfl | (dsimp only; omega)⟩) (by rw [hR]; exact ⟨by first | decide | exact Nat.le_of_ble_eq_true rfl | (dsimp only; omega), by first | decide | exact Nat.le_of_ble_eq_true rfl | (dsimp only; omega)⟩) (fun v M3 hv => ?_)
      obtain ⟨rfl, rfl⟩ := hv
      rw [List.take_length]
      refine aw_bipush X dX9_fetch_42 (v := nI 120) (by decide) ?_
      refine aw_iload1 X dX9_fetch_44 ?_
      refine aw_imul X dX9_fetch_45 ?_
      refine aw_isub X dX9_fetch_46 ?_
      refine aw_int (y := nI m.flatten.length) ?_ ?_
      · have e1 : nI 120 * p = nI (120 * ix p) := by
          conv => lhs; rw [j2]
          exact pk_mul _ _
        rw [e1, pk_sub (by omega), Nat.add_sub_cancel_left]
      refine aw_mput26 X pX9_125 dX9_fetch_47 h1 (fun M4 h2 => ?_)
      refine aw_iconst X dX9_fetch_50 (v := nI 0) (by decide) ?_
      refine aw_istore3 X dX9_fetch_51 (by rw [hn]; decide) rfl ?_
      refine aw_loop (σ := Nat × (Nat → Int32) × AM) (fun i => i.1 ≤ m.flatten.length ∧ md (zG Z) M i.2.2 y (va_up A 21 i.2.1) S (va_up (va_up c 35 (nI (if isP τ p ∧ isF τ f then 0 else 1))) 26 (nI m.flatten.length)) ∧ ∀ k, k < i.1 → i.2.1 k = m.flatten.getD k 0) (fun i => m.flatten.length - i.1) (fun i => i.2.2) (fun i => [some (.ref y), some (.int p), some (.int f), some (.int (nI i.1))]) ?_ (0, A 21, M4) ⟨Nat.zero_le _, by dsimp only; rw [va_up_id]; exact h2, fun k hk => absurd hk (Nat.not_lt_zero _)⟩
      rintro ⟨i, g, M5⟩ ⟨hi, h3, hg⟩ ih
      try dsimp only at hi h3 hg ih ⊢
      refine aw_iload3 X dX9_fetch_52 ?_
      refine aw_aload0 X dX9_fetch_53 ?_
      refine aw_get X fX9_125 dX9_fetch_54 (h3.at) rfl ?_
      refine aw_int (y := nI m.flatten.length) (va_up_self _ 26 _) ?_
      refine aw_icmpge X dX9_fetch_57 (tgt := 83) (by decide) (fun c2 => ?_) (fun c2 => ?_)
      · have e : i = m.flatten.length := by have := (nI_leI (by omega) (by omega)).mp c2; omega
        subst e
        refine aw_aload0 X dX9_fetch_83 ?_
        refine aw_iload2 X dX9_fetch_84 ?_
        refine aw_callV X (c_X9_give (bs := m.flatten) h3 k2 (by omega) (va_up_self _ 26 _) hfl hg) kX9_177 (ci := 10) rfl (h3.at) dX9_fetch_85 rfl rfl (by first | decide | exact Nat.le_of_ble_eq_true rfl) (by rw [hR]; exact ⟨by first | decide | exact Nat.le_of_ble_eq_true rfl | (dsimp only; omega), by first | decide | exact Nat.le_of_ble_eq_true rfl | (dsimp only; omega)⟩) (by rw [hR]; exact ⟨by first | decide | exact Nat.le_of_ble_eq_true rfl | (dsimp only; omega), by first | decide | exact Nat.le_of_ble_eq_true rfl | (dsimp only; omega)⟩) (fun o M6 hv => ?_)
        obtain ⟨rfl, B2, h4, y1, y2, y3, y4⟩ := hv
        refine aw_ireturn X (ty := .int) hr (by first | rfl | decide | assumption) dX9_fetch_88 (MP.of (k := 0) (by rw [spFetch, if_pos hp, hL]) h4 (mRel.file (mRel.scr hr0 (B := va_up A 21 g) (fun a x => va_up_ne _ _ (by omega)) rfl rfl rfl rfl rfl) y1 y2 y3 y4) (by show nI (if isP τ p ∧ isF τ f then 0 else 1) = nI 0; rw [if_pos hp]))
      · have hlt : i < m.flatten.length := by
          rcases Nat.lt_or_ge i m.flatten.length with q | q
          · exact q
          · exact absurd (nI_le q (by omega)) c2
        refine aw_aload0 X dX9_fetch_60 ?_
        refine aw_get X fX9_72 dX9_fetch_61 (h3.at) rfl ?_
        refine aw_iload3 X dX9_fetch_64 ?_
        refine aw_aload0 X dX9_fetch_65 ?_
        refine aw_get X fX9_97 dX9_fetch_66 (h3.at) rfl ?_
        refine aw_bipush X dX9_fetch_69 (v := nI 120) (by decide) ?_
        refine aw_iload1 X dX9_fetch_71 ?_
        refine aw_imul X dX9_fetch_72 ?_
        refine aw_iload3 X dX9_fetch_73 ?_
        refine aw_iadd X dX9_fetch_74 ?_
        refine aw_int (ix_add j2) ?_
        refine aw_iald X dX9_fetch_75 (h3.ai 26 rfl) rfl (by omega) (by decide) ?_
        refine aw_int (y := m.flatten.getD i 0) (p5 i hlt) ?_
        refine aw_mst X 21 dX9_fetch_76 h3 rfl rfl (by omega) (by decide) (fun M6 h4 => ?_)
        refine aw_iinc3 X dX9_fetch_77 (by rw [hn]; decide) (am_inc _ 1) rfl ?_
        refine aw_goto X dX9_fetch_80 (tgt := 52) (by decide) ?_
        rw [va_up2, va_up_self] at h4
        refine ih (i + 1, upd g i (m.flatten.getD i 0), M6) ⟨hlt, h4, fun k hk => ?_⟩ (by dsimp only; omega)
        dsimp only at hk ⊢
        by_cases e : k = i
        · rw [e, pk_us]
        · rw [pk_un e]
          exact hg k (by omega)
    · have hno := am_bz.mp c1
      refine aw_iconst X dX9_fetch_28 (v := nI 0) (by decide) ?_
      refine aw_ireturn X (ty := .int) hr (by first | rfl | decide | assumption) dX9_fetch_29 (MP.of (by rw [spFetch, if_neg hno]; rfl) h1 hr0.t (by rw [va_up_self, if_neg hno]))
  · refine aw_aload0 X dX9_fetch_1 ?_
    refine aw_iload1 X dX9_fetch_2 ?_
    refine aw_callV X (c_X9_isThere h hr0) kX9_208 (ci := 10) rfl (h.at) dX9_fetch_3 rfl rfl (by first | decide | exact Nat.le_of_ble_eq_true rfl) (by rw [hR]; exact ⟨by first | decide | exact Nat.le_of_ble_eq_true rfl | (dsimp only; omega), by first | decide | exact Nat.le_of_ble_eq_true rfl | (dsimp only; omega)⟩) (by rw [hR]; exact ⟨by first | decide | exact Nat.le_of_ble_eq_true rfl | (dsimp only; omega), by first | decide | exact Nat.le_of_ble_eq_true rfl | (dsimp only; omega)⟩) (fun o M1 hv => ?_)
    obtain ⟨rfl, rfl⟩ := hv
    refine aw_ifeq X dX9_fetch_6 (tgt := 21) (by decide) (fun c1 => ?_) (fun c1 => ?_)
    · have hp := am_bz.mp c1
      refine aw_iconst X dX9_fetch_21 (v := nI 0) (by decide) ?_
      exact aw_b0 (fun e => hp e.1) K
    · have hp : isP τ p := Decidable.byContradiction (fun e => c1 (am_bz.mpr e))
      refine aw_aload0 X dX9_fetch_9 ?_
      refine aw_iload2 X dX9_fetch_10 ?_
      refine aw_callV X (c_X9_isFile h q0) kX9_114 (ci := 10) rfl (h.at) dX9_fetch_11 rfl rfl (by first | decide | exact Nat.le_of_ble_eq_true rfl) (by rw [hR]; exact ⟨by first | decide | exact Nat.le_of_ble_eq_true rfl | (dsimp only; omega), by first | decide | exact Nat.le_of_ble_eq_true rfl | (dsimp only; omega)⟩) (by rw [hR]; exact ⟨by first | decide | exact Nat.le_of_ble_eq_true rfl | (dsimp only; omega), by first | decide | exact Nat.le_of_ble_eq_true rfl | (dsimp only; omega)⟩) (fun o M1 hv => ?_)
      obtain ⟨rfl, rfl⟩ := hv
      refine aw_ifeq X dX9_fetch_14 (tgt := 21) (by decide) (fun c2 => ?_) (fun c2 => ?_)
      · have hp2 := am_bz.mp c2
        refine aw_iconst X dX9_fetch_21 (v := nI 0) (by decide) ?_
        exact aw_b0 (fun e => hp2 e.2) K
      · have hp2 : isF τ f := Decidable.byContradiction (fun e => c2 (am_bz.mpr e))
        refine aw_iconst X dX9_fetch_17 (v := nI 1) (by decide) ?_
        refine aw_goto X dX9_fetch_18 (tgt := 22) (by decide) ?_
        exact aw_b1 (⟨hp, hp2⟩) K
