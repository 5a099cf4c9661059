theorem sgRel.off {A B : MA} {S S' : Nat → Int64} {g j : Nat} {s s' : SG} (h : sgRel A S j s) (o : sgSet A B S S' g s') (e : j ≠ g) : sgRel B S' j s := by
  obtain ⟨u1, u2, u3, u4, u5⟩ := h
  obtain ⟨-, h3, h7, -⟩ := o
  obtain ⟨w1, w2, w3, w4⟩ := h3 j e
  have hn := sgN_le u1
  refine ⟨u1, by rw [w1]; exact u2, fun hm => by rw [w2, w3]; exact u3 hm, by rw [w4]; exact u4, fun k hk => ?_⟩
  rw [(h7 (120 * j + k) (by omega)).1, (h7 (120 * j + k) (by omega)).2]
  exact u5 k hk
abbrev kdP (τ : TS) (f v : Int32) : Prop := isF τ f ∧ inI v (tN τ)
abbrev kdR (b : Int32) : Prop := rgI b (nI 1) (nI 7)
abbrev kdT (τ : TS) (v : Int32) : Prop := tN τ < 20 ∧ (rbv (tVs τ) (ix v)).isLeft = true
theorem spKeepDelta_yes {τ : TS} {f v b : Int32} {rb : List Int32} (h : kdP τ f v) (h2 : kdR b) (h3 : tN τ < 20) (e : rbv (tVs τ) (ix v) = .inl rb) : spKeepDelta τ f v b = (0, nI (tN τ), setV τ (tN τ + 1) (tN τ) (some (.inr (ix v, cmpD (true, ix b, 256, rb) (tF τ f))))) := by
  rw [spKeepDelta, if_pos h, if_pos h2, if_pos h3, show rbv τ.2.2.2.1.2 (ix v) = .inl rb from e]
theorem spKeepDelta_no {τ : TS} {f v b : Int32} (h : ¬ (kdP τ f v ∧ kdR b ∧ (kdP τ f v ∧ kdT τ v))) : spKeepDelta τ f v b = (thA (kdP τ f v) (kdR b) (kdP τ f v ∧ kdT τ v), 0, τ) := by
  by_cases h1 : kdP τ f v
  · by_cases h2 : kdR b
    · have h3 : ¬ kdT τ v := fun e => h ⟨h1, h2, h1, e⟩
      have e3 : thA (kdP τ f v) (kdR b) (kdP τ f v ∧ kdT τ v) = 3 := by rw [thA, if_pos h1, if_pos h2, if_neg (fun e => h3 e.2)]
      rw [e3, spKeepDelta, if_pos h1, if_pos h2]
      by_cases h4 : tN τ < 20
      · obtain ⟨r, e⟩ : ∃ r, rbv (tVs τ) (ix v) = r := ⟨_, rfl⟩
        cases r with
        | inl rb => exact absurd ⟨h4, by rw [e]; rfl⟩ h3
        | inr q => rw [if_pos h4, show rbv τ.2.2.2.1.2 (ix v) = .inr q from e]
      · rw [if_neg h4]
    · rw [spKeepDelta, thA, if_pos h1, if_neg h2, if_pos h1, if_neg h2]
  · rw [spKeepDelta, thA, if_neg h1, if_neg h1]
theorem c_X9_keepDelta {l : Launch} {G : AG} {M0 M : AM} {y t : Nat} {τ : TS} {f v b : Int32} (hm : isMD G M0 M y τ t) : Cn l G yX9_keepDelta cX9_keepDelta 7 (some .int) rX9_keepDelta M [.ref y, .int f, .int v, .int b] (MP Value.int G M y (spKeepDelta τ f v b)) := by
  obtain ⟨A, S, c, h0, hr0, -⟩ := hm
  have h := h0.base
  obtain ⟨⟨q0, q1⟩, q2, q3, q4, ⟨q5, q6⟩, q7, -⟩ := id hr0
  refine Cn.of (by decide) [some (.ref y), some (.int f), some (.int v), some (.int b), none, none, none] rfl (Nat.le_of_ble_eq_true rfl) ?_
  intro Z hZ
  obtain ⟨rfl, hn, rfl, hR, X, hr, hnm⟩ := hZ
  refine aw_merge (kdP τ f v) 21 [some (.ref y), some (.int f), some (.int v), some (.int b), none, none, none] [] ?_ (fun K => ?_)
  · refine aw_istore4 X dX9_keepDelta_21 (by rw [hn]; decide) rfl ?_
    refine aw_merge (kdR b) 39 [some (.ref y), some (.int f), some (.int v), some (.int b), some (.int (am_b (kdP τ f v))), none, none] [] ?_ (fun K => ?_)
    · refine aw_istore5 X dX9_keepDelta_39 (by rw [hn]; decide) rfl ?_
      refine aw_aload0 X dX9_keepDelta_41 ?_
      refine aw_iload4 X dX9_keepDelta_42 ?_
      refine aw_iload5 X dX9_keepDelta_44 ?_
      refine aw_iload4 X dX9_keepDelta_46 ?_
      have fin : ∀ (A1 : MA) (c1 : Nat → Int32) (M1 : AM), md (zG Z) M M1 y A1 S c1 → mRel A1 S c1 τ → ¬ (kdP τ f v ∧ kdT τ v) → AW Z (am_Q Z (MP Value.int (zG Z) M y (spKeepDelta τ f v b)) (fun _ _ => False) rX9_keepDelta.cells rX9_keepDelta.slots) M1 0 0 72 [some (.ref y), some (.int f), some (.int v), some (.int b), some (.int (am_b (kdP τ f v))), some (.int (am_b (kdR b))), none] [.int (am_b (kdR b)), .int (am_b (kdP τ f v)), .ref y] := by
        intro A1 c1 M1 h1 hr1 hn3
        have hno : ¬ (kdP τ f v ∧ kdR b ∧ (kdP τ f v ∧ kdT τ v)) := fun e => hn3 e.2.2
        refine aw_iconst X dX9_keepDelta_72 (v := nI 0) (by decide) ?_
        refine aw_int (x := nI 0) (y := am_b (kdP τ f v ∧ kdT τ v)) (am_b0 hn3).symm ?_
        refine aw_callV X (c_X9_mayAll h1) kX9_117 (ci := 10) rfl (h1.at) dX9_keepDelta_73 rfl rfl (by first | decide | exact Nat.le_of_ble_eq_true rfl) (by rw [hR]; exact ⟨by first | decide | exact Nat.le_of_ble_eq_true rfl | (dsimp only; omega), by first | decide | exact Nat.le_of_ble_eq_true rfl | (dsimp only; omega)⟩) (by rw [hR]; exact ⟨by first | decide | exact Nat.le_of_ble_eq_true rfl | (dsimp only; omega), by first | decide | exact Nat.le_of_ble_eq_true rfl | (dsimp only; omega)⟩) (fun o M2 hv => ?_)
        obtain ⟨rfl, h2⟩ := hv
        refine aw_ifne X dX9_keepDelta_76 (tgt := 81) (by decide) (fun c9 => by first | exact absurd ((am_bz.mpr hno)) c9 | exact absurd c9 ((am_bz.mpr hno))) (fun _ => ?_)
        refine aw_iconst X dX9_keepDelta_79 (v := nI 0) (by decide) ?_
        refine aw_ireturn X (ty := .int) hr (by first | rfl | decide | assumption) dX9_keepDelta_80 (MP.of (spKeepDelta_no hno) h2 hr1.t (va_up_self _ _ _))
      refine aw_ifeq X dX9_keepDelta_48 (tgt := 72) (by decide) (fun c1 => ?_) (fun c1 => ?_)
      · have hp := am_bz.mp c1
        exact fin A c _ h hr0 (fun e => hp e.1)
      · have hp : kdP τ f v := Decidable.byContradiction (fun e => c1 (am_bz.mpr e))
        obtain ⟨j1, j2, j3⟩ := inI_j hp.1 (by omega)
        obtain ⟨k1, k2, k3⟩ := inI_j hp.2 (by omega)
        refine aw_aload0 X dX9_keepDelta_51 ?_
        refine aw_get X fX9_180 dX9_keepDelta_52 (h.at) rfl ?_
        refine aw_int (y := nI (tN τ)) q5 ?_
        refine aw_bipush X dX9_keepDelta_55 (v := nI 20) (by decide) ?_
        refine aw_icmpge X dX9_keepDelta_57 (tgt := 72) (by decide) (fun c2 => ?_) (fun c2 => ?_)
        · exact fin A c _ h hr0 (fun e => by have := (nI_leI (by omega) (by omega)).mp c2; exact absurd e.2.1 (by omega))
        · have hlt : tN τ < 20 := by
            rcases Nat.lt_or_ge (tN τ) 20 with q | q
            · exact q
            · exact absurd (nI_le q (by omega)) c2
          refine aw_aload0 X dX9_keepDelta_60 ?_
          refine aw_iload2 X dX9_keepDelta_61 ?_
          refine aw_int k2 ?_
          refine aw_callV X (c_X9_makes h hr0 k1) kX9_199 (ci := 10) rfl (h.at) dX9_keepDelta_62 rfl rfl (by first | decide | exact Nat.le_of_ble_eq_true rfl) (by rw [hR]; exact ⟨by first | decide | exact Nat.le_of_ble_eq_true rfl | (dsimp only; omega), by first | decide | exact Nat.le_of_ble_eq_true rfl | (dsimp only; omega)⟩) (by rw [hR]; exact ⟨by first | decide | exact Nat.le_of_ble_eq_true rfl | (dsimp only; omega), by first | decide | exact Nat.le_of_ble_eq_true rfl | (dsimp only; omega)⟩) (fun o M2 hv => ?_)
          obtain ⟨A', c', h1, hA, hc, z, hz⟩ := hv
          have hr1 : mRel A' S c' τ := hc.rel hr0 hA
          rcases hz with ⟨bs, e, rfl, hl, h26, hb⟩ | ⟨q, e, rfl⟩
          · have ht : kdP τ f v ∧ kdT τ v := ⟨hp, hlt, by rw [e]; rfl⟩
            refine aw_ifeq X dX9_keepDelta_65 (tgt := 72) (by decide) (fun c9 => by first | exact absurd ((by decide : ¬ nI 1 = 0)) c9 | exact absurd c9 ((by decide : ¬ nI 1 = 0))) (fun _ => ?_)
            refine aw_iconst X dX9_keepDelta_68 (v := nI 1) (by decide) ?_
            refine aw_goto X dX9_keepDelta_69 (tgt := 73) (by decide) ?_
            refine aw_int (x := nI 1) (y := am_b (kdP τ f v ∧ kdT τ v)) (am_b1 ht).symm ?_
            refine aw_callV X (c_X9_mayAll h1) kX9_117 (ci := 10) rfl (h1.at) dX9_keepDelta_73 rfl rfl (by first | decide | exact Nat.le_of_ble_eq_true rfl) (by rw [hR]; exact ⟨by first | decide | exact Nat.le_of_ble_eq_true rfl | (dsimp only; omega), by first | decide | exact Nat.le_of_ble_eq_true rfl | (dsimp only; omega)⟩) (by rw [hR]; exact ⟨by first | decide | exact Nat.le_of_ble_eq_true rfl | (dsimp only; omega), by first | decide | exact Nat.le_of_ble_eq_true rfl | (dsimp only; omega)⟩) (fun o M3 hv => ?_)
            obtain ⟨rfl, h2⟩ := hv
            refine aw_ifne X dX9_keepDelta_76 (tgt := 81) (by decide) (fun c3 => ?_) (fun c3 => ?_)
            · have hp2 : kdP τ f v ∧ kdR b ∧ (kdP τ f v ∧ kdT τ v) := Decidable.byContradiction (fun e => c3 (am_bz.mpr e))
              obtain ⟨b1, b2, b3⟩ := rgI_j hp2.2.1 (by omega) (by omega)
              refine aw_aload0 X dX9_keepDelta_81 ?_
              refine aw_iconst X dX9_keepDelta_82 (v := nI 4) (by decide) ?_
              refine aw_iload3 X dX9_keepDelta_83 ?_
              refine aw_sipush X dX9_keepDelta_84 (v := nI 256) (by decide) ?_
              refine aw_int2 b3 ?_
              refine aw_callV X (c_X9_signs (bs := bs) h2 (by omega) h26 hl hb ⟨b1, b2⟩ (by omega)) kX9_149 (ci := 10) rfl (h2.at) dX9_keepDelta_87 rfl rfl (by first | decide | exact Nat.le_of_ble_eq_true rfl) (by rw [hR]; exact ⟨by first | decide | exact Nat.le_of_ble_eq_true rfl | (dsimp only; omega), by first | decide | exact Nat.le_of_ble_eq_true rfl | (dsimp only; omega)⟩) (by rw [hR]; exact ⟨by first | decide | exact Nat.le_of_ble_eq_true rfl | (dsimp only; omega), by first | decide | exact Nat.le_of_ble_eq_true rfl | (dsimp only; omega)⟩) (fun o M4 hv => ?_)
              obtain ⟨rfl, B, S', h3, hsg⟩ := hv
              obtain ⟨g1, g2, g3, g4⟩ := id hsg
              refine aw_aload0 X dX9_keepDelta_90 ?_
              refine aw_get X fX9_180 dX9_keepDelta_91 (h3.at) rfl ?_
              refine aw_int (y := nI (tN τ)) (hc.2.1.trans q5) ?_
              refine aw_istore6 X dX9_keepDelta_94 (by rw [hn]; decide) rfl ?_
              refine aw_aload0 X dX9_keepDelta_96 ?_
              refine aw_get X fX9_57 dX9_keepDelta_97 (h3.at) rfl ?_
              refine aw_iload6 X dX9_keepDelta_100 ?_
              refine aw_iconst X dX9_keepDelta_102 (v := nI 2) (by decide) ?_
              refine aw_mst X 16 dX9_keepDelta_103 h3 rfl rfl (by omega) (by decide) (fun M5 h4 => ?_)
              refine aw_aload0 X dX9_keepDelta_104 ?_
              refine aw_get X fX9_60 dX9_keepDelta_105 (h4.at) rfl ?_
              refine aw_iload6 X dX9_keepDelta_108 ?_
              refine aw_iload2 X dX9_keepDelta_110 ?_
              refine aw_mst X 17 dX9_keepDelta_111 h4 rfl rfl (by omega) (by decide) (fun M6 h5 => ?_)
              obtain ⟨B5, hB5, d1, d16, d17⟩ : ∃ B5 : MA, B5 = va_up (va_up B 16 (upd (B 16) (tN τ) (nI 2))) 17 (upd (B 17) (tN τ) v) ∧ (∀ a, a ≠ 16 → a ≠ 17 → B5 a = B a) ∧ B5 16 = upd (B 16) (tN τ) (nI 2) ∧ B5 17 = upd (B 17) (tN τ) v := ⟨_, rfl, fun a x1 x2 => (va_up_ne _ _ x2).trans (va_up_ne _ _ x1), rfl, rfl⟩
              have h5 : md (zG Z) M M6 y B5 S' (va_up c' 35 (nI (thA (kdP τ f v) (kdR b) (kdP τ f v ∧ kdT τ v)))) := by rw [hB5]; exact h5
              have a5 : ∀ a, a < 3 ∨ (7 < a ∧ a < 16) ∨ a = 18 ∨ a = 19 ∨ 22 < a → B5 a = A a := fun a ha => (d1 a (by omega) (by omega)).trans ((g1 a (by omega)).trans (hA a (by omega)))
              have sg5 : sgRel B5 S' 4 (true, ix b, 256, bs) := g4.cg (fun a x1 x2 => d1 a (by omega) (by omega))
              have fl5 : flRel B5 (ix f) (tF τ f) := (q2 (ix f) (by omega)).cg (a5 1 (by omega)) (a5 2 (by omega))
              refine aw_aload0 X dX9_keepDelta_112 ?_
              refine aw_iconst X dX9_keepDelta_113 (v := nI 4) (by decide) ?_
              refine aw_iload6 X dX9_keepDelta_114 ?_
              refine aw_iadd X dX9_keepDelta_116 ?_
              first | with_reducible refine aw_int (nI_add _ _) ?_ | skip
              refine aw_iconst X dX9_keepDelta_117 (v := nI 4) (by decide) ?_
              refine aw_iload1 X dX9_keepDelta_118 ?_
              refine aw_int j2 ?_
              refine aw_callV X (c_X9_compares h5 (by omega) (by omega) (by omega) sg5 rfl fl5) kX9_161 (ci := 10) rfl (h5.at) dX9_keepDelta_119 rfl rfl (by first | decide | exact Nat.le_of_ble_eq_true rfl) (by rw [hR]; exact ⟨by first | decide | exact Nat.le_of_ble_eq_true rfl | (dsimp only; omega), by first | decide | exact Nat.le_of_ble_eq_true rfl | (dsimp only; omega)⟩) (by rw [hR]; exact ⟨by first | decide | exact Nat.le_of_ble_eq_true rfl | (dsimp only; omega), by first | decide | exact Nat.le_of_ble_eq_true rfl | (dsimp only; omega)⟩) (fun o M7 hv => ?_)
              obtain ⟨rfl, B6, h6, z1, z2⟩ := hv
              refine aw_aload0 X dX9_keepDelta_122 ?_
              refine aw_dup X dX9_keepDelta_123 rfl ?_
              refine aw_get X fX9_180 dX9_keepDelta_124 (h6.at) rfl ?_
              refine aw_int (y := nI (tN τ)) (hc.2.1.trans q5) ?_
              refine aw_iconst X dX9_keepDelta_127 (v := nI 1) (by decide) ?_
              refine aw_iadd X dX9_keepDelta_128 ?_
              first | with_reducible refine aw_int (nI_add _ _) ?_ | skip
              refine aw_mput16 X pX9_180 dX9_keepDelta_129 h6 (fun M8 h7 => ?_)
              refine aw_iload6 X dX9_keepDelta_132 ?_
              have hi : vRel B6 (tN τ) (some (.inr (ix v, cmpD (true, ix b, 256, bs) (tF τ f)))) := ⟨by rw [z2.1 16 (by omega), d16]; exact pk_us, by rw [z2.1 17 (by omega), d17, pk_us]; exact k2, k1, z1⟩
              have hS : ∀ j, j < 4 → sgRel B6 S' j (τ.2.1 j) := fun j hj => (((((q3 j hj).cg (fun a x1 x2 => hA a (by omega))).off hsg (by omega)).cg (fun a x1 x2 => d1 a (by omega) (by omega))).cg (fun a x1 x2 => z2.1 a (by omega)))
              have hD : ∀ j, j < 4 → dlRel B6 j (τ.2.2.1 j) := fun j hj => ((q4 j hj).cg (fun a x1 x2 => a5 a (by omega))).off z2 (by omega)
              have hV : ∀ w, w < 20 → w ≠ tN τ → vRel B6 w (τ.2.2.2.1.2 w) := fun w hw e => ((q7 w hw).off2 (fun a x1 x2 => a5 a (by omega)) ⟨by rw [d16, pk_un e, g1 16 (by omega), hA 16 (by omega)], by rw [d17, pk_un e, g1 17 (by omega), hA 17 (by omega)], by rw [a5 18 (by omega)]⟩ (fun k hk => by rw [a5 19 (by omega)])).off z2 (by omega)
              refine aw_ireturn X (ty := .int) hr (by first | rfl | decide | assumption) dX9_keepDelta_134 (MP.of (k := 0) (spKeepDelta_yes hp hp2.2.1 hlt e) h7 (mRel.ver hr1 ((z2.1 1 (by omega)).trans ((a5 1 (by omega)).trans (hA 1 (by omega)).symm)) ((z2.1 2 (by omega)).trans ((a5 2 (by omega)).trans (hA 2 (by omega)).symm)) hS hD (va_up_self _ _ _) (by omega) hV hi (fun a x1 x2 => (z2.1 a (by omega)).trans ((a5 a (by omega)).trans (hA a (by omega)).symm)) rfl rfl rfl rfl) (by show nI (thA (kdP τ f v) (kdR b) (kdP τ f v ∧ kdT τ v)) = nI 0; rw [thA, if_pos hp, if_pos hp2.2.1, if_pos ht]))
            · have hno := am_bz.mp c3
              refine aw_iconst X dX9_keepDelta_79 (v := nI 0) (by decide) ?_
              refine aw_ireturn X (ty := .int) hr (by first | rfl | decide | assumption) dX9_keepDelta_80 (MP.of (spKeepDelta_no hno) h2 hr1.t (va_up_self _ _ _))
          · refine aw_ifeq X dX9_keepDelta_65 (tgt := 72) (by decide) (fun _ => ?_) (fun c9 => by first | exact absurd ((rfl : nI 0 = 0)) c9 | exact absurd c9 ((rfl : nI 0 = 0)))
            exact fin A' c' _ h1 hr1 (fun q => by have q2 := q.2.2; rw [e] at q2; cases q2)
    · refine aw_iload3 X dX9_keepDelta_23 ?_
      refine aw_iconst X dX9_keepDelta_24 (v := nI 1) (by decide) ?_
      refine aw_icmplt X dX9_keepDelta_25 (tgt := 38) (by decide) (fun c1 => ?_) (fun c1 => ?_)
      · refine aw_iconst X dX9_keepDelta_38 (v := nI 0) (by decide) ?_
        exact aw_b0 (fun e => e.1 c1) K
      · refine aw_iload3 X dX9_keepDelta_28 ?_
        refine aw_bipush X dX9_keepDelta_29 (v := nI 7) (by decide) ?_
        refine aw_icmpgt X dX9_keepDelta_31 (tgt := 38) (by decide) (fun c2 => ?_) (fun c2 => ?_)
        · refine aw_iconst X dX9_keepDelta_38 (v := nI 0) (by decide) ?_
          exact aw_b0 (fun e => Int32.lt_irrefl (Int32.lt_of_lt_of_le c2 e.2)) K
        · refine aw_iconst X dX9_keepDelta_34 (v := nI 1) (by decide) ?_
          refine aw_goto X dX9_keepDelta_35 (tgt := 39) (by decide) ?_
          exact aw_b1 (⟨c1, Int32.not_lt.mp c2⟩) K
  · refine aw_aload0 X dX9_keepDelta_0 ?_
    refine aw_iload1 X dX9_keepDelta_1 ?_
    refine aw_callV X (c_X9_isFile h q0) kX9_114 (ci := 10) rfl (h.at) dX9_keepDelta_2 rfl rfl (by first | decide | exact Nat.le_of_ble_eq_true rfl) (by rw [hR]; exact ⟨by first | decide | exact Nat.le_of_ble_eq_true rfl | (dsimp only; omega), by first | decide | exact Nat.le_of_ble_eq_true rfl | (dsimp only; omega)⟩) (by rw [hR]; exact ⟨by first | decide | exact Nat.le_of_ble_eq_true rfl | (dsimp only; omega), by first | decide | exact Nat.le_of_ble_eq_true rfl | (dsimp only; omega)⟩) (fun o M1 hv => ?_)
    obtain ⟨rfl, rfl⟩ := hv
    refine aw_ifeq X dX9_keepDelta_5 (tgt := 20) (by decide) (fun c1 => ?_) (fun c1 => ?_)
    · have hp := am_bz.mp c1
      refine aw_iconst X dX9_keepDelta_20 (v := nI 0) (by decide) ?_
      exact aw_b0 (fun e => hp e.1) K
    · have hp : isF τ f := Decidable.byContradiction (fun e => c1 (am_bz.mpr e))
      refine aw_aload0 X dX9_keepDelta_8 ?_
      refine aw_iload2 X dX9_keepDelta_9 ?_
      refine aw_callV X (c_X9_isVersion h q5) kX9_196 (ci := 10) rfl (h.at) dX9_keepDelta_10 rfl rfl (by first | decide | exact Nat.le_of_ble_eq_true rfl) (by rw [hR]; exact ⟨by first | decide | exact Nat.le_of_ble_eq_true rfl | (dsimp only; omega), by first | decide | exact Nat.le_of_ble_eq_true rfl | (dsimp only; omega)⟩) (by rw [hR]; exact ⟨by first | decide | exact Nat.le_of_ble_eq_true rfl | (dsimp only; omega), by first | decide | exact Nat.le_of_ble_eq_true rfl | (dsimp only; omega)⟩) (fun o M1 hv => ?_)
      obtain ⟨rfl, rfl⟩ := hv
      refine aw_ifeq X dX9_keepDelta_13 (tgt := 20) (by decide) (fun c2 => ?_) (fun c2 => ?_)
      · have hp2 := am_bz.mp c2
        refine aw_iconst X dX9_keepDelta_20 (v := nI 0) (by decide) ?_
        exact aw_b0 (fun e => hp2 e.2) K
      · have hp2 : inI v (tN τ) := Decidable.byContradiction (fun e => c2 (am_bz.mpr e))
        refine aw_iconst X dX9_keepDelta_16 (v := nI 1) (by decide) ?_
        refine aw_goto X dX9_keepDelta_17 (tgt := 21) (by decide) ?_
        exact aw_b1 (⟨hp, hp2⟩) K
