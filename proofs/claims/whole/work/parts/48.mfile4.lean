theorem nI_addv {x : Int32} (a : Nat) (hx : x = nI (ix x)) : nI a + x = nI (a + ix x) := by
  conv => lhs; rw [hx]
  exact nI_add _ _
theorem inI_rg {x : Int32} : inI x 256 ↔ rgI x (nI 0) (nI 255) := by
  constructor
  · intro h
    obtain ⟨j1, j2, j3⟩ := inI_j h (by omega)
    refine ⟨h.1, ?_⟩
    rw [j2]
    exact nI_le (by omega) (by omega)
  · intro h
    obtain ⟨j1, j2, j3⟩ := rgI_j h (by omega) (by omega)
    refine ⟨h.1, ?_⟩
    rw [j3]
    exact nI_lt (by omega) (by omega)
abbrev adP (a s m : Int32) : Prop := rgI a (nI 0) (nI 255) ∧ rgI s (nI 0) (nI 255) ∧ rgI m (nI 1) (nI 120)
theorem spAdd_no {τ : TS} {f a s m : Int32} (h : ¬ (isF τ f ∧ adP a s m ∧ (isF τ f ∧ adP a s m ∧ (tF τ f).length + ix m ≤ 120))) : spAdd τ f a s m = (thA (isF τ f) (adP a s m) (isF τ f ∧ adP a s m ∧ (tF τ f).length + ix m ≤ 120), 0, τ) := by
  by_cases h1 : isF τ f
  · by_cases h2 : adP a s m
    · have h3 : ¬ (tF τ f).length + ix m ≤ 120 := fun e => h ⟨h1, h2, h1, h2, e⟩
      rw [spAdd, thA, if_pos h1, if_pos h2, if_neg h3, if_pos h1, if_pos h2, if_neg (fun e => h3 e.2.2)]
    · rw [spAdd, thA, if_pos h1, if_neg h2, if_pos h1, if_neg h2]
  · rw [spAdd, thA, if_neg h1, if_neg h1]
theorem c_X9_add {l : Launch} {G : AG} {M0 M : AM} {y t : Nat} {τ : TS} {f a b m : Int32} (hm : isMD G M0 M y τ t) : Cn l G yX9_add cX9_add 8 (some .int) rX9_add M [.ref y, .int f, .int a, .int b, .int m] (MP Value.int G M y (spAdd τ f a b m)) := by
  obtain ⟨A, S, c, h0, hr0, -⟩ := hm
  have h := h0.base
  obtain ⟨⟨q0, q1⟩, q2, -⟩ := id hr0
  refine Cn.of (by decide) [some (.ref y), some (.int f), some (.int a), some (.int b), some (.int m), none, none, none] rfl (Nat.le_of_ble_eq_true rfl) ?_
  intro Z hZ
  obtain ⟨rfl, hn, rfl, hR, X, hr, hnm⟩ := hZ
  refine aw_merge (adP a b m) 32 [some (.ref y), some (.int f), some (.int a), some (.int b), some (.int m), none, none, none] [] ?_ (fun K => ?_)
  · refine aw_istore5 X dX9_add_32 (by rw [hn]; decide) rfl ?_
    refine aw_aload0 X dX9_add_34 ?_
    refine aw_aload0 X dX9_add_35 ?_
    refine aw_iload1 X dX9_add_36 ?_
    refine aw_callV X (c_X9_isFile h q0) kX9_114 (ci := 10) rfl (h.at) dX9_add_37 rfl rfl (by first | decide | exact Nat.le_of_ble_eq_true rfl) (by rw [hR]; exact ⟨by first | decide | exact Nat.le_of_ble_eq_true rfl | (dsimp only; omega), by first | decide | exact Nat.le_of_ble_eq_true rfl | (dsimp only; omega)⟩) (by rw [hR]; exact ⟨by first | decide | exact Nat.le_of_ble_eq_true rfl | (dsimp only; omega), by first | decide | exact Nat.le_of_ble_eq_true rfl | (dsimp only; omega)⟩) (fun v M1 hv => ?_)
    obtain ⟨rfl, rfl⟩ := hv
    refine aw_merge (isF τ f ∧ adP a b m ∧ (tF τ f).length + ix m ≤ 120) 74 [some (.ref y), some (.int f), some (.int a), some (.int b), some (.int m), some (.int (am_b (adP a b m))), none, none] [.int (am_b (adP a b m)), .int (am_b (isF τ f)), .ref y] ?_ (fun K => ?_)
    · refine aw_callV X (c_X9_mayAll h) kX9_117 (ci := 10) rfl (h.at) dX9_add_74 rfl rfl (by first | decide | exact Nat.le_of_ble_eq_true rfl) (by rw [hR]; exact ⟨by first | decide | exact Nat.le_of_ble_eq_true rfl | (dsimp only; omega), by first | decide | exact Nat.le_of_ble_eq_true rfl | (dsimp only; omega)⟩) (by rw [hR]; exact ⟨by first | decide | exact Nat.le_of_ble_eq_true rfl | (dsimp only; omega), by first | decide | exact Nat.le_of_ble_eq_true rfl | (dsimp only; omega)⟩) (fun v M2 hv => ?_)
      obtain ⟨rfl, h1⟩ := hv
      refine aw_ifne X dX9_add_77 (tgt := 82) (by decide) (fun c1 => ?_) (fun c1 => ?_)
      · have hp : isF τ f ∧ adP a b m ∧ (isF τ f ∧ adP a b m ∧ (tF τ f).length + ix m ≤ 120) := Decidable.byContradiction (fun e => c1 (am_bz.mpr e))
        obtain ⟨hp1, hp2, -, -, hlt⟩ := hp
        obtain ⟨j1, j2, j3⟩ := inI_j hp1 (by omega)
        obtain ⟨x1, x2, x3⟩ := rgI_j hp2.1 (by omega) (by omega)
        obtain ⟨y1, y2, y3⟩ := rgI_j hp2.2.1 (by omega) (by omega)
        obtain ⟨z1, z2, z3⟩ := rgI_j hp2.2.2 (by omega) (by omega)
        obtain ⟨w1, w2, w3⟩ := q2 (ix f) (by omega)
        have w1 : (tF τ f).length ≤ 120 := w1
        refine aw_iload2 X dX9_add_82 ?_
        refine aw_int (y := nI ((ix a + 0 * ix b) % 256)) (x3.trans (congrArg nI (by omega))) ?_
        refine aw_istore6 X dX9_add_83 (by rw [hn]; decide) rfl ?_
        refine aw_iconst X dX9_add_85 (v := nI 0) (by decide) ?_
        refine aw_istore7 X dX9_add_86 (by rw [hn]; decide) rfl ?_
        refine aw_loop (σ := Nat × MA × AM) (fun i => i.1 ≤ ix m ∧ md (zG Z) M1 i.2.2 y i.2.1 S (va_up c 35 (nI (thA (isF τ f) (adP a b m) (isF τ f ∧ adP a b m ∧ (tF τ f).length + ix m ≤ 120)))) ∧ (∀ a, 3 ≤ a → a ≤ 26 → i.2.1 a = A a) ∧ i.2.1 1 (ix f) = nI ((tF τ f).length + i.1) ∧ (∀ j, j ≠ ix f → i.2.1 1 j = A 1 j) ∧ (∀ k, k < 120 * ix f ∨ 120 * ix f + 120 ≤ k → i.2.1 2 k = A 2 k) ∧ ∀ k, k < (tF τ f).length + i.1 → i.2.1 2 (120 * ix f + k) = (tF τ f ++ adds (ix a) (ix b) i.1).getD k 0) (fun i => ix m - i.1) (fun i => i.2.2) (fun i => [some (.ref y), some (.int f), some (.int a), some (.int b), some (.int m), some (.int (am_b (adP a b m))), some (.int (nI ((ix a + i.1 * ix b) % 256))), some (.int (nI i.1))]) ?_ (0, A, M2) ⟨Nat.zero_le _, h1, fun _ _ _ => rfl, w2, fun _ _ => rfl, fun _ _ => rfl, fun k hk => by dsimp only; rw [adds, List.append_nil]; exact w3 k hk⟩
        rintro ⟨i, B, M3⟩ ⟨hi, h3, b3, b1, b1', b2, bp⟩ ih
        dsimp only at hi h3 b3 b1 b1' b2 bp ih ⊢
        refine aw_iload7 X dX9_add_88 ?_
        refine aw_iload4 X dX9_add_90 ?_
        refine aw_icmpge X dX9_add_92 (tgt := 139) (by decide) (fun c3 => ?_) (fun c3 => ?_)
        · have e : i = ix m := by
            rw [z3] at c3
            have := (nI_leI (by omega) (by omega)).mp c3
            omega
          subst e
          refine aw_aload0 X dX9_add_139 ?_
          refine aw_get X fX9_7 dX9_add_140 (h3.at) rfl ?_
          refine aw_iload1 X dX9_add_143 ?_
          refine aw_iald X dX9_add_144 (h3.ai 1 rfl) j2 (by omega) (by decide) ?_
          refine aw_int (y := nI ((tF τ f).length + ix m)) b1 ?_
          refine aw_ireturn X (ty := .int) hr (by first | rfl | decide | assumption) dX9_add_145 (MP.of (by rw [spAdd, if_pos hp1, if_pos hp2, if_pos hlt]) h3 (hr0.t.file b3 b1' b2 ⟨by rw [List.length_append, adds_len]; exact hlt, by rw [List.length_append, adds_len]; exact b1, fun k hk => bp k (by rw [List.length_append, adds_len] at hk; exact hk)⟩) (by rw [va_up_self, thA, if_pos hp1, if_pos hp2, if_pos ⟨hp1, hp2, hlt⟩]))
        · have hlt2 : i < ix m := by
            rcases Nat.lt_or_ge i (ix m) with q | q
            · exact q
            · exact absurd (by rw [z3]; exact nI_le q (by omega)) c3
          have hmul : i * ix b ≤ 120 * 255 := Nat.mul_le_mul (by omega) (by omega)
          refine aw_aload0 X dX9_add_95 ?_
          refine aw_get X fX9_13 dX9_add_96 (h3.at) rfl ?_
          refine aw_bipush X dX9_add_99 (v := nI 120) (by decide) ?_
          refine aw_iload1 X dX9_add_101 ?_
          refine aw_imul X dX9_add_102 ?_
          refine aw_aload0 X dX9_add_103 ?_
          refine aw_get X fX9_7 dX9_add_104 (h3.at) rfl ?_
          refine aw_iload1 X dX9_add_107 ?_
          refine aw_iald X dX9_add_108 (h3.ai 1 rfl) j2 (by omega) (by decide) ?_
          refine aw_int (y := nI ((tF τ f).length + i)) b1 ?_
          refine aw_iadd X dX9_add_109 ?_
          refine aw_int (ix_add j2) ?_
          refine aw_iload6 X dX9_add_110 ?_
          refine aw_mst X 2 dX9_add_112 h3 rfl rfl (by omega) (by decide) (fun M4 h4 => ?_)
          refine aw_aload0 X dX9_add_113 ?_
          refine aw_get X fX9_7 dX9_add_114 (h4.at) rfl ?_
          refine aw_iload1 X dX9_add_117 ?_
          refine aw_dup2 X dX9_add_118 rfl rfl ?_
          refine aw_iald X dX9_add_119 (h4.ai 1 rfl) j2 (by omega) (by decide) ?_
          refine aw_int (y := nI ((tF τ f).length + i)) b1 ?_
          refine aw_iconst X dX9_add_120 (v := nI 1) (by decide) ?_
          refine aw_iadd X dX9_add_121 ?_
          first | with_reducible refine aw_int (nI_add _ _) ?_ | skip
          refine aw_mst X 1 dX9_add_122 h4 rfl j2 (by omega) (by decide) (fun M5 h5 => ?_)
          refine aw_iload6 X dX9_add_123 ?_
          refine aw_iload3 X dX9_add_125 ?_
          refine aw_iadd X dX9_add_126 ?_
          refine aw_int (y := nI ((ix a + i * ix b) % 256 + ix b)) (nI_addv _ y3) ?_
          refine aw_sipush X dX9_add_127 (v := nI 256) (by decide) ?_
          refine aw_irem X dX9_add_130 (nI_ne0 (by omega) (by omega)) ?_
          refine aw_int (y := nI ((ix a + (i + 1) * ix b) % 256)) (by rw [pk_rem (by omega) (by omega) (by omega)]; congr 1; rw [Nat.succ_mul]; omega) ?_
          refine aw_istore6 X dX9_add_131 (by rw [hn]; decide) rfl ?_
          refine aw_iinc7 X dX9_add_133 (by rw [hn]; decide) (am_inc _ 1) rfl ?_
          refine aw_goto X dX9_add_136 (tgt := 88) (by decide) ?_
          refine ih (i + 1, va_up (va_up B 2 (upd (B 2) (120 * ix f + ((tF τ f).length + i)) (nI ((ix a + i * ix b) % 256)))) 1 (upd (B 1) (ix f) (nI ((tF τ f).length + i + 1))), M5) ⟨hlt2, h5, fun a x1 x2 => (va_up_ne _ _ (by omega)).trans ((va_up_ne _ _ (by omega)).trans (b3 a x1 x2)), pk_us, fun j hj => (pk_un hj).trans (b1' j hj), fun k hk => (pk_un (by omega)).trans (b2 k hk), fun k hk => ?_⟩ (by dsimp only; omega)
          dsimp only at hk
          show upd (B 2) (120 * ix f + ((tF τ f).length + i)) (nI ((ix a + i * ix b) % 256)) (120 * ix f + k) = _
          have hl9 : (tF τ f ++ adds (ix a) (ix b) i).length = (tF τ f).length + i := by rw [List.length_append, adds_len]
          rw [adds, ← List.append_assoc, getD_app _ _ _ _ (by omega), hl9]
          by_cases e : k = (tF τ f).length + i
          · rw [if_pos e, e, pk_us]
          · rw [if_neg e, pk_un (by omega)]
            exact bp k (by omega)
      · have hp := am_bz.mp c1
        refine aw_iconst X dX9_add_80 (v := nI 0) (by decide) ?_
        refine aw_ireturn X (ty := .int) hr (by first | rfl | decide | assumption) dX9_add_81 (MP.of (spAdd_no hp) h1 hr0.t (va_up_self _ _ _))
    · refine aw_iload5 X dX9_add_40 ?_
      refine aw_aload0 X dX9_add_42 ?_
      refine aw_iload1 X dX9_add_43 ?_
      refine aw_callV X (c_X9_isFile h q0) kX9_114 (ci := 10) rfl (h.at) dX9_add_44 rfl rfl (by first | decide | exact Nat.le_of_ble_eq_true rfl) (by rw [hR]; exact ⟨by first | decide | exact Nat.le_of_ble_eq_true rfl | (dsimp only; omega), by first | decide | exact Nat.le_of_ble_eq_true rfl | (dsimp only; omega)⟩) (by rw [hR]; exact ⟨by first | decide | exact Nat.le_of_ble_eq_true rfl | (dsimp only; omega), by first | decide | exact Nat.le_of_ble_eq_true rfl | (dsimp only; omega)⟩) (fun v M1 hv => ?_)
      obtain ⟨rfl, rfl⟩ := hv
      refine aw_ifeq X dX9_add_47 (tgt := 73) (by decide) (fun c1 => ?_) (fun c1 => ?_)
      · have hp := am_bz.mp c1
        refine aw_iconst X dX9_add_73 (v := nI 0) (by decide) ?_
        exact aw_b0 (fun e => hp e.1) K
      · have hp1 : isF τ f := Decidable.byContradiction (fun e => c1 (am_bz.mpr e))
        obtain ⟨j1, j2, j3⟩ := inI_j hp1 (by omega)
        obtain ⟨w1, w2, w3⟩ := q2 (ix f) (by omega)
        have w1 : (tF τ f).length ≤ 120 := w1
        refine aw_iload5 X dX9_add_50 ?_
        refine aw_ifeq X dX9_add_52 (tgt := 73) (by decide) (fun c2 => ?_) (fun c2 => ?_)
        · have hp := am_bz.mp c2
          refine aw_iconst X dX9_add_73 (v := nI 0) (by decide) ?_
          exact aw_b0 (fun e => hp e.2.1) K
        · have hp2 : adP a b m := Decidable.byContradiction (fun e => c2 (am_bz.mpr e))
          obtain ⟨z1, z2, z3⟩ := rgI_j hp2.2.2 (by omega) (by omega)
          refine aw_aload0 X dX9_add_55 ?_
          refine aw_get X fX9_7 dX9_add_56 (h.at) rfl ?_
          refine aw_iload1 X dX9_add_59 ?_
          refine aw_iald X dX9_add_60 (h.ai 1 rfl) j2 (by omega) (by decide) ?_
          refine aw_int (y := nI (tF τ f).length) w2 ?_
          refine aw_iload4 X dX9_add_61 ?_
          refine aw_iadd X dX9_add_63 ?_
          refine aw_int (y := nI ((tF τ f).length + ix m)) (nI_addv _ z3) ?_
          refine aw_bipush X dX9_add_64 (v := nI 120) (by decide) ?_
          refine aw_icmpgt X dX9_add_66 (tgt := 73) (by decide) (fun c4 => ?_) (fun c4 => ?_)
          · have hp : ¬ (tF τ f).length + ix m ≤ 120 := fun e => absurd c4 (nI_nlt e (by omega))
            refine aw_iconst X dX9_add_73 (v := nI 0) (by decide) ?_
            exact aw_b0 (fun e => hp e.2.2) K
          · have hp : (tF τ f).length + ix m ≤ 120 := by
              rcases Nat.lt_or_ge 120 ((tF τ f).length + ix m) with q | q
              · exact absurd (nI_lt q (by omega)) c4
              · exact q
            refine aw_iconst X dX9_add_69 (v := nI 1) (by decide) ?_
            refine aw_goto X dX9_add_70 (tgt := 74) (by decide) ?_
            exact aw_b1 (⟨hp1, hp2, hp⟩) K
  · refine aw_iload2 X dX9_add_0 ?_
    refine aw_callS X (c_X9_isByte) kX9_110 dX9_add_1 rfl rfl (by first | decide | exact Nat.le_of_ble_eq_true rfl) (by rw [hR]; exact ⟨by first | decide | exact Nat.le_of_ble_eq_true rfl | (dsimp only; omega), by first | decide | exact Nat.le_of_ble_eq_true rfl | (dsimp only; omega)⟩) (by rw [hR]; exact ⟨by first | decide | exact Nat.le_of_ble_eq_true rfl | (dsimp only; omega), by first | decide | exact Nat.le_of_ble_eq_true rfl | (dsimp only; omega)⟩) (fun v M1 hv => ?_)
    obtain ⟨rfl, rfl⟩ := hv
    refine aw_ifeq X dX9_add_4 (tgt := 31) (by decide) (fun c1 => ?_) (fun c1 => ?_)
    · have hp := am_bz.mp c1
      refine aw_iconst X dX9_add_31 (v := nI 0) (by decide) ?_
      exact aw_b0 (fun e => hp (inI_rg.mpr e.1)) K
    · have hp1 := inI_rg.mp (Decidable.byContradiction (fun e => c1 (am_bz.mpr e)))
      refine aw_iload3 X dX9_add_7 ?_
      refine aw_callS X (c_X9_isByte) kX9_110 dX9_add_8 rfl rfl (by first | decide | exact Nat.le_of_ble_eq_true rfl) (by rw [hR]; exact ⟨by first | decide | exact Nat.le_of_ble_eq_true rfl | (dsimp only; omega), by first | decide | exact Nat.le_of_ble_eq_true rfl | (dsimp only; omega)⟩) (by rw [hR]; exact ⟨by first | decide | exact Nat.le_of_ble_eq_true rfl | (dsimp only; omega), by first | decide | exact Nat.le_of_ble_eq_true rfl | (dsimp only; omega)⟩) (fun v M1 hv => ?_)
      obtain ⟨rfl, rfl⟩ := hv
      refine aw_ifeq X dX9_add_11 (tgt := 31) (by decide) (fun c2 => ?_) (fun c2 => ?_)
      · have hp := am_bz.mp c2
        refine aw_iconst X dX9_add_31 (v := nI 0) (by decide) ?_
        exact aw_b0 (fun e => hp (inI_rg.mpr e.2.1)) K
      · have hp2 := inI_rg.mp (Decidable.byContradiction (fun e => c2 (am_bz.mpr e)))
        refine aw_iload4 X dX9_add_14 ?_
        refine aw_iconst X dX9_add_16 (v := nI 1) (by decide) ?_
        refine aw_icmplt X dX9_add_17 (tgt := 31) (by decide) (fun c3 => ?_) (fun c3 => ?_)
        · refine aw_iconst X dX9_add_31 (v := nI 0) (by decide) ?_
          exact aw_b0 (fun e => e.2.2.1 c3) K
        · refine aw_iload4 X dX9_add_20 ?_
          refine aw_bipush X dX9_add_22 (v := nI 120) (by decide) ?_
          refine aw_icmpgt X dX9_add_24 (tgt := 31) (by decide) (fun c4 => ?_) (fun c4 => ?_)
          · refine aw_iconst X dX9_add_31 (v := nI 0) (by decide) ?_
            exact aw_b0 (fun e => Int32.lt_irrefl (Int32.lt_of_lt_of_le c4 e.2.2.2)) K
          · refine aw_iconst X dX9_add_27 (v := nI 1) (by decide) ?_
            refine aw_goto X dX9_add_28 (tgt := 32) (by decide) ?_
            exact aw_b1 (⟨hp1, hp2, c3, Int32.not_lt.mp c4⟩) K
