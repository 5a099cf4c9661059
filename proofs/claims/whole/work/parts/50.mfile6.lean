theorem nI_subv {x : Int32} {a : Nat} (hx : x = nI (ix x)) (h : ix x ≤ a) : nI a - x = nI (a - ix x) := by
  conv => lhs; rw [hx]
  exact pk_sub h
theorem del_get {bs : List Int32} {p m j : Nat} (hp : p + m ≤ bs.length) : (bs.take p ++ bs.drop (p + m)).getD j 0 = if j < p then bs.getD j 0 else bs.getD (j + m) 0 := by
  rw [List.getD_eq_getElem?_getD]
  by_cases h1 : j < p
  · rw [if_pos h1, List.getElem?_append_left (by rw [List.length_take]; omega), List.getElem?_take, if_pos h1, List.getD_eq_getElem?_getD]
  · rw [if_neg h1, List.getElem?_append_right (by rw [List.length_take]; omega), List.length_take, Nat.min_eq_left (by omega), List.getElem?_drop, List.getD_eq_getElem?_getD, show p + m + (j - p) = j + m by omega]
abbrev rmP (τ : TS) (f p : Int32) : Prop := isF τ f ∧ inI p ((tF τ f).length + 1)
abbrev rmR (τ : TS) (f p m : Int32) : Prop := rmP τ f p ∧ rgI m (nI 0) (nI ((tF τ f).length - ix p))
theorem spRemove_no {τ : TS} {f p m : Int32} (h : ¬ (rmP τ f p ∧ rmR τ f p m)) : spRemove τ f p m = (thB (rmP τ f p) (rmR τ f p m), 0, τ) := by
  by_cases h1 : rmP τ f p
  · have h2 : ¬ rgI m (nI 0) (nI ((tF τ f).length - ix p)) := fun e => h ⟨h1, h1, e⟩
    rw [spRemove, thB, if_pos h1, if_neg h2, if_pos h1, if_neg (fun e => h2 e.2)]
  · rw [spRemove, thB, if_neg h1, if_neg h1]
theorem c_X9_remove {l : Launch} {G : AG} {M0 M : AM} {y t : Nat} {τ : TS} {f p m : Int32} (hm : isMD G M0 M y τ t) : Cn l G yX9_remove cX9_remove 6 (some .int) rX9_remove M [.ref y, .int f, .int p, .int m] (MP Value.int G M y (spRemove τ f p m)) := by
  obtain ⟨A, S, c, h0, hr0, -⟩ := hm
  have h := h0.base
  obtain ⟨⟨q0, q1⟩, q2, -⟩ := id hr0
  refine Cn.of (by decide) [some (.ref y), some (.int f), some (.int p), some (.int m), none, none] rfl (Nat.le_of_ble_eq_true rfl) ?_
  intro Z hZ
  obtain ⟨rfl, hn, rfl, hR, X, hr, hnm⟩ := hZ
  refine aw_aload0 X dX9_remove_0 ?_
  refine aw_iload1 X dX9_remove_1 ?_
  refine aw_callV X (c_X9_isFile h q0) kX9_114 (ci := 10) rfl (h.at) dX9_remove_2 rfl rfl (by first | decide | exact Nat.le_of_ble_eq_true rfl) (by rw [hR]; exact ⟨by first | decide | exact Nat.le_of_ble_eq_true rfl | (dsimp only; omega), by first | decide | exact Nat.le_of_ble_eq_true rfl | (dsimp only; omega)⟩) (by rw [hR]; exact ⟨by first | decide | exact Nat.le_of_ble_eq_true rfl | (dsimp only; omega), by first | decide | exact Nat.le_of_ble_eq_true rfl | (dsimp only; omega)⟩) (fun o M1 hv => ?_)
  obtain ⟨rfl, rfl⟩ := hv
  refine aw_merge (rmP τ f p) 27 [some (.ref y), some (.int f), some (.int p), some (.int m), none, none] [] ?_ (fun K => ?_)
  · refine aw_istore4 X dX9_remove_27 (by rw [hn]; decide) rfl ?_
    refine aw_aload0 X dX9_remove_29 ?_
    refine aw_iload4 X dX9_remove_30 ?_
    refine aw_merge (rmR τ f p m) 58 [some (.ref y), some (.int f), some (.int p), some (.int m), some (.int (am_b (rmP τ f p))), none] [.int (am_b (rmP τ f p)), .ref y] ?_ (fun K => ?_)
    · refine aw_callV X (c_X9_mayBoth h) kX9_121 (ci := 10) rfl (h.at) dX9_remove_58 rfl rfl (by first | decide | exact Nat.le_of_ble_eq_true rfl) (by rw [hR]; exact ⟨by first | decide | exact Nat.le_of_ble_eq_true rfl | (dsimp only; omega), by first | decide | exact Nat.le_of_ble_eq_true rfl | (dsimp only; omega)⟩) (by rw [hR]; exact ⟨by first | decide | exact Nat.le_of_ble_eq_true rfl | (dsimp only; omega), by first | decide | exact Nat.le_of_ble_eq_true rfl | (dsimp only; omega)⟩) (fun o M2 hv => ?_)
      obtain ⟨rfl, h1⟩ := hv
      refine aw_ifne X dX9_remove_61 (tgt := 66) (by decide) (fun c1 => ?_) (fun c1 => ?_)
      · have hp : rmP τ f p ∧ rmR τ f p m := Decidable.byContradiction (fun e => c1 (am_bz.mpr e))
        obtain ⟨hp1, hp2⟩ := hp
        obtain ⟨j1, j2, j3⟩ := inI_j hp1.1 (by omega)
        obtain ⟨w1, w2, w3⟩ := q2 (ix f) (by omega)
        have w1 : (tF τ f).length ≤ 120 := w1
        obtain ⟨k1, k2, k3⟩ := inI_j hp1.2 (by omega)
        obtain ⟨m1, m2, m3⟩ := rgI_j hp2.2 (by omega) (by omega)
        refine aw_aload0 X dX9_remove_66 ?_
        refine aw_get X fX9_7 dX9_remove_67 (h1.at) rfl ?_
        refine aw_iload1 X dX9_remove_70 ?_
        refine aw_dup2 X dX9_remove_71 rfl rfl ?_
        refine aw_iald X dX9_remove_72 (h1.ai 1 rfl) j2 (by omega) (by decide) ?_
        refine aw_int (y := nI (tF τ f).length) w2 ?_
        refine aw_iload3 X dX9_remove_73 ?_
        refine aw_isub X dX9_remove_74 ?_
        refine aw_int (y := nI ((tF τ f).length - ix m)) (nI_subv m3 (by omega)) ?_
        refine aw_mst X 1 dX9_remove_75 h1 rfl j2 (by omega) (by decide) (fun M4 h4 => ?_)
        refine aw_iload2 X dX9_remove_76 ?_
        refine aw_int k2 ?_
        refine aw_istore5 X dX9_remove_77 (by rw [hn]; decide) rfl ?_
        refine aw_loop (σ := Nat × MA × AM) (fun i => ix p ≤ i.1 ∧ i.1 ≤ (tF τ f).length - ix m ∧ md (zG Z) M1 i.2.2 y i.2.1 S (va_up c 35 (nI (thB (rmP τ f p) (rmR τ f p m)))) ∧ (∀ a, 3 ≤ a → a ≤ 26 → i.2.1 a = A a) ∧ i.2.1 1 = upd (A 1) (ix f) (nI ((tF τ f).length - ix m)) ∧ (∀ k, k < 120 * ix f ∨ 120 * ix f + 120 ≤ k → i.2.1 2 k = A 2 k) ∧ (∀ k, k < ix p → i.2.1 2 (120 * ix f + k) = (tF τ f).getD k 0) ∧ (∀ k, ix p ≤ k → k < i.1 → i.2.1 2 (120 * ix f + k) = (tF τ f).getD (k + ix m) 0) ∧ ∀ k, i.1 ≤ k → k < (tF τ f).length → i.2.1 2 (120 * ix f + k) = (tF τ f).getD k 0) (fun i => (tF τ f).length - ix m - i.1) (fun i => i.2.2) (fun i => [some (.ref y), some (.int f), some (.int p), some (.int m), some (.int (am_b (rmP τ f p))), some (.int (nI i.1))]) ?_ (ix p, va_up A 1 (upd (A 1) (ix f) (nI ((tF τ f).length - ix m))), M4) ⟨Nat.le_refl _, by dsimp only; omega, h4, fun a x1 x2 => va_up_ne _ _ (by omega), va_up_self A 1 _, fun _ _ => rfl, fun k hk => w3 k (by show k < (tF τ f).length; omega), fun k x1 x2 => by dsimp only at x2; omega, fun k x1 x2 => w3 k x2⟩
        rintro ⟨i, B, M3⟩ ⟨hi0, hi, h3, b3, b1, b2, bl, bm, bh⟩ ih
        dsimp only at hi0 hi h3 b3 b1 b2 bl bm bh ih ⊢
        have b9 : B 1 (ix f) = nI ((tF τ f).length - ix m) := by rw [b1]; exact pk_us
        refine aw_iload5 X dX9_remove_79 ?_
        refine aw_aload0 X dX9_remove_81 ?_
        refine aw_get X fX9_7 dX9_remove_82 (h3.at) rfl ?_
        refine aw_iload1 X dX9_remove_85 ?_
        refine aw_iald X dX9_remove_86 (h3.ai 1 rfl) j2 (by omega) (by decide) ?_
        refine aw_int b9 ?_
        refine aw_icmpge X dX9_remove_87 (tgt := 122) (by decide) (fun c3 => ?_) (fun c3 => ?_)
        · have e : i = (tF τ f).length - ix m := by have := (nI_leI (by omega) (by omega)).mp c3; omega
          subst e
          refine aw_aload0 X dX9_remove_122 ?_
          refine aw_get X fX9_7 dX9_remove_123 (h3.at) rfl ?_
          refine aw_iload1 X dX9_remove_126 ?_
          refine aw_iald X dX9_remove_127 (h3.ai 1 rfl) j2 (by omega) (by decide) ?_
          refine aw_int b9 ?_
          have hlen : ((tF τ f).take (ix p) ++ (tF τ f).drop (ix p + ix m)).length = (tF τ f).length - ix m := by rw [List.length_append, List.length_take, List.length_drop]; omega
          refine aw_ireturn X (ty := .int) hr (by first | rfl | decide | assumption) dX9_remove_128 (MP.of (by rw [spRemove, if_pos hp1, if_pos hp2.2]) h3 (hr0.t.file b3 (fun j hj => by rw [b1]; exact pk_un hj) b2 ⟨by rw [hlen]; omega, by rw [hlen]; exact b9, fun k hk => ?_⟩) (by rw [va_up_self, thB, if_pos hp1, if_pos hp2]))
          rw [hlen] at hk
          rw [del_get (by omega)]
          by_cases e1 : k < ix p
          · rw [if_pos e1]
            exact bl k e1
          · rw [if_neg e1]
            exact bm k (by omega) hk
        · have hgt : i < (tF τ f).length - ix m := by
            rcases Nat.lt_or_ge i ((tF τ f).length - ix m) with q | q
            · exact q
            · exact absurd (nI_le q (by omega)) c3
          refine aw_aload0 X dX9_remove_90 ?_
          refine aw_get X fX9_13 dX9_remove_91 (h3.at) rfl ?_
          refine aw_bipush X dX9_remove_94 (v := nI 120) (by decide) ?_
          refine aw_iload1 X dX9_remove_96 ?_
          refine aw_imul X dX9_remove_97 ?_
          refine aw_iload5 X dX9_remove_98 ?_
          refine aw_iadd X dX9_remove_100 ?_
          refine aw_int (ix_add j2) ?_
          refine aw_aload0 X dX9_remove_101 ?_
          refine aw_get X fX9_13 dX9_remove_102 (h3.at) rfl ?_
          refine aw_bipush X dX9_remove_105 (v := nI 120) (by decide) ?_
          refine aw_iload1 X dX9_remove_107 ?_
          refine aw_imul X dX9_remove_108 ?_
          refine aw_iload5 X dX9_remove_109 ?_
          refine aw_iadd X dX9_remove_111 ?_
          refine aw_int (ix_add j2) ?_
          refine aw_iload3 X dX9_remove_112 ?_
          refine aw_iadd X dX9_remove_113 ?_
          refine aw_int (nI_addv _ m3) ?_
          refine aw_iald X dX9_remove_114 (h3.ai 2 rfl) rfl (by omega) (by decide) ?_
          refine aw_int (y := (tF τ f).getD (i + ix m) 0) (by rw [Nat.add_assoc]; exact bh (i + ix m) (by omega) (by omega)) ?_
          refine aw_mst X 2 dX9_remove_115 h3 rfl rfl (by omega) (by decide) (fun M5 h5 => ?_)
          refine aw_iinc5 X dX9_remove_116 (by rw [hn]; decide) (am_inc _ 1) rfl ?_
          refine aw_goto X dX9_remove_119 (tgt := 79) (by decide) ?_
          refine ih (i + 1, va_up B 2 (upd (B 2) (120 * ix f + i) ((tF τ f).getD (i + ix m) 0)), M5) ⟨by dsimp only; omega, hgt, h5, fun a x1 x2 => (va_up_ne _ _ (by omega)).trans (b3 a x1 x2), b1, fun k hk => (pk_un (by omega)).trans (b2 k hk), fun k hk => (pk_un (by omega)).trans (bl k hk), fun k x1 x2 => ?_, fun k x1 x2 => (pk_un (by dsimp only at x1; omega)).trans (bh k (by dsimp only at x1; omega) x2)⟩ (by dsimp only; omega)
          dsimp only at x2
          show upd (B 2) (120 * ix f + i) ((tF τ f).getD (i + ix m) 0) (120 * ix f + k) = _
          by_cases e : k = i
          · rw [e, pk_us]
          · rw [pk_un (by omega)]
            exact bm k x1 (by omega)
      · have hp := am_bz.mp c1
        refine aw_iconst X dX9_remove_64 (v := nI 0) (by decide) ?_
        refine aw_ireturn X (ty := .int) hr (by first | rfl | decide | assumption) dX9_remove_65 (MP.of (spRemove_no hp) h1 hr0.t (va_up_self _ _ _))
    · refine aw_iload4 X dX9_remove_32 ?_
      refine aw_ifeq X dX9_remove_34 (tgt := 57) (by decide) (fun c2 => ?_) (fun c2 => ?_)
      · have hp := am_bz.mp c2
        refine aw_iconst X dX9_remove_57 (v := nI 0) (by decide) ?_
        exact aw_b0 (fun e => hp e.1) K
      · have hp1 : rmP τ f p := Decidable.byContradiction (fun e => c2 (am_bz.mpr e))
        obtain ⟨j1, j2, j3⟩ := inI_j hp1.1 (by omega)
        obtain ⟨w1, w2, w3⟩ := q2 (ix f) (by omega)
        have w1 : (tF τ f).length ≤ 120 := w1
        obtain ⟨k1, k2, k3⟩ := inI_j hp1.2 (by omega)
        refine aw_iload3 X dX9_remove_37 ?_
        refine aw_iflt X dX9_remove_38 (tgt := 57) (by decide) (fun c3 => ?_) (fun c3 => ?_)
        · refine aw_iconst X dX9_remove_57 (v := nI 0) (by decide) ?_
          exact aw_b0 (fun e => e.2.1 c3) K
        · refine aw_iload3 X dX9_remove_41 ?_
          refine aw_aload0 X dX9_remove_42 ?_
          refine aw_get X fX9_7 dX9_remove_43 (h.at) rfl ?_
          refine aw_iload1 X dX9_remove_46 ?_
          refine aw_iald X dX9_remove_47 (h.ai 1 rfl) j2 (by omega) (by decide) ?_
          refine aw_int (y := nI (tF τ f).length) w2 ?_
          refine aw_iload2 X dX9_remove_48 ?_
          refine aw_isub X dX9_remove_49 ?_
          refine aw_int (y := nI ((tF τ f).length - ix p)) (nI_subv k2 (by omega)) ?_
          refine aw_icmpgt X dX9_remove_50 (tgt := 57) (by decide) (fun c4 => ?_) (fun c4 => ?_)
          · refine aw_iconst X dX9_remove_57 (v := nI 0) (by decide) ?_
            exact aw_b0 (fun e => Int32.lt_irrefl (Int32.lt_of_lt_of_le c4 e.2.2)) K
          · refine aw_iconst X dX9_remove_53 (v := nI 1) (by decide) ?_
            refine aw_goto X dX9_remove_54 (tgt := 58) (by decide) ?_
            exact aw_b1 (⟨hp1, c3, Int32.not_lt.mp c4⟩) K
  · refine aw_ifeq X dX9_remove_5 (tgt := 26) (by decide) (fun c1 => ?_) (fun c1 => ?_)
    · have hp := am_bz.mp c1
      refine aw_iconst X dX9_remove_26 (v := nI 0) (by decide) ?_
      exact aw_b0 (fun e => hp e.1) K
    · have hp1 : isF τ f := Decidable.byContradiction (fun e => c1 (am_bz.mpr e))
      obtain ⟨j1, j2, j3⟩ := inI_j hp1 (by omega)
      obtain ⟨w1, w2, w3⟩ := q2 (ix f) (by omega)
      have w1 : (tF τ f).length ≤ 120 := w1
      refine aw_iload2 X dX9_remove_8 ?_
      refine aw_iflt X dX9_remove_9 (tgt := 26) (by decide) (fun c2 => ?_) (fun c2 => ?_)
      · refine aw_iconst X dX9_remove_26 (v := nI 0) (by decide) ?_
        exact aw_b0 (fun e => e.2.1 c2) K
      · refine aw_iload2 X dX9_remove_12 ?_
        refine aw_aload0 X dX9_remove_13 ?_
        refine aw_get X fX9_7 dX9_remove_14 (h.at) rfl ?_
        refine aw_iload1 X dX9_remove_17 ?_
        refine aw_iald X dX9_remove_18 (h.ai 1 rfl) j2 (by omega) (by decide) ?_
        refine aw_int (y := nI (tF τ f).length) w2 ?_
        refine aw_icmpgt X dX9_remove_19 (tgt := 26) (by decide) (fun c3 => ?_) (fun c3 => ?_)
        · refine aw_iconst X dX9_remove_26 (v := nI 0) (by decide) ?_
          exact aw_b0 (fun e => Int32.lt_irrefl (Int32.lt_of_lt_of_le c3 ((inI_le (by omega) c2).mp e.2))) K
        · refine aw_iconst X dX9_remove_22 (v := nI 1) (by decide) ?_
          refine aw_goto X dX9_remove_23 (tgt := 27) (by decide) ?_
          exact aw_b1 (⟨hp1, (inI_le (by omega) c2).mpr (Int32.not_lt.mp c3)⟩) K
