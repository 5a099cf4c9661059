theorem c_X9_weakOf {l : Launch} {G : AG} {M : AM} {e N a a' m d : Nat} {fA : Nat → Int32} {bs : List Int32} (h : M.1 e = some (am_ai G N fA)) (hN : a + m ≤ N) (hN2 : N < 2 ^ 31) (hf : ∀ k, k < m → fA (a + k) = bs.getD (a' + k) 0) (hd : 0 < d) (hd2 : d < 2 ^ 31) : Cn l G yX9_weakOf cX9_weakOf 7 (some .int) rX9_weakOf M [.ref e, .int (nI a), .int (nI m), .int (nI d)] (fun v M' => M' = M ∧ v = some (.int (wk bs a' m d))) := by
  refine Cn.of (by decide) [some (.ref e), some (.int (nI a)), some (.int (nI m)), some (.int (nI d)), none, none, none] rfl (Nat.le_of_ble_eq_true rfl) ?_
  intro Z hZ
  obtain ⟨rfl, hn, rfl, hR, X, hr, hnm⟩ := hZ
  refine aw_iconst X dX9_weakOf_0 (v := nI 0) (by decide) ?_
  refine aw_istore4 X dX9_weakOf_1 (by rw [hn]; decide) rfl ?_
  refine aw_iconst X dX9_weakOf_3 (v := nI 0) (by decide) ?_
  refine aw_istore5 X dX9_weakOf_4 (by rw [hn]; decide) rfl ?_
  refine aw_iconst X dX9_weakOf_6 (v := nI 0) (by decide) ?_
  refine aw_istore6 X dX9_weakOf_7 (by rw [hn]; decide) rfl ?_
  refine aw_loop (σ := Nat) (fun i => i ≤ m) (fun i => m - i) (fun _ => M) (fun i => [some (.ref e), some (.int (nI a)), some (.int (nI m)), some (.int (nI d)), some (.int (wkA bs a' i)), some (.int (wkB bs a' m i)), some (.int (nI i))]) ?_ 0 (Nat.zero_le _)
  rintro i hi ih
  dsimp only at hi ih ⊢
  refine aw_iload6 X dX9_weakOf_9 ?_
  refine aw_iload2 X dX9_weakOf_11 ?_
  refine aw_icmpge X dX9_weakOf_12 (tgt := 48) (by decide) (fun c => ?_) (fun c => ?_)
  · have e9 : i = m := by have := (nI_leI (by omega) (by omega)).mp c; omega
    subst e9
    refine aw_iload5 X dX9_weakOf_48 ?_
    refine aw_iload3 X dX9_weakOf_50 ?_
    refine aw_irem X dX9_weakOf_51 (nI_ne0 hd hd2) ?_
    refine aw_iload3 X dX9_weakOf_52 ?_
    refine aw_imul X dX9_weakOf_53 ?_
    refine aw_iload4 X dX9_weakOf_54 ?_
    refine aw_iload3 X dX9_weakOf_56 ?_
    refine aw_irem X dX9_weakOf_57 (nI_ne0 hd hd2) ?_
    refine aw_iadd X dX9_weakOf_58 ?_
    refine aw_ireturn X (ty := .int) hr (by first | rfl | decide | assumption) dX9_weakOf_59 (⟨rfl, rfl⟩)
  · have hlt : i < m := by
      rcases Nat.lt_or_ge i m with q | q
      · exact q
      · exact absurd (nI_le q (by omega)) c
    refine aw_iload4 X dX9_weakOf_15 ?_
    refine aw_aload0 X dX9_weakOf_17 ?_
    refine aw_iload1 X dX9_weakOf_18 ?_
    refine aw_iload6 X dX9_weakOf_19 ?_
    refine aw_iadd X dX9_weakOf_21 ?_
    first | with_reducible refine aw_int (nI_add _ _) ?_ | skip
    refine aw_iald X dX9_weakOf_22 h rfl (by omega) hN2 ?_
    refine aw_int (hf i hlt) ?_
    refine aw_iadd X dX9_weakOf_23 ?_
    refine aw_istore4 X dX9_weakOf_24 (by rw [hn]; decide) rfl ?_
    refine aw_iload5 X dX9_weakOf_26 ?_
    refine aw_iload2 X dX9_weakOf_28 ?_
    refine aw_iload6 X dX9_weakOf_29 ?_
    refine aw_isub X dX9_weakOf_31 ?_
    first | with_reducible refine aw_int (pk_sub (by omega)) ?_ | skip
    refine aw_aload0 X dX9_weakOf_32 ?_
    refine aw_iload1 X dX9_weakOf_33 ?_
    refine aw_iload6 X dX9_weakOf_34 ?_
    refine aw_iadd X dX9_weakOf_36 ?_
    first | with_reducible refine aw_int (nI_add _ _) ?_ | skip
    refine aw_iald X dX9_weakOf_37 h rfl (by omega) hN2 ?_
    refine aw_int (hf i hlt) ?_
    refine aw_imul X dX9_weakOf_38 ?_
    refine aw_iadd X dX9_weakOf_39 ?_
    refine aw_istore5 X dX9_weakOf_40 (by rw [hn]; decide) rfl ?_
    refine aw_iinc6 X dX9_weakOf_42 (by rw [hn]; decide) (am_inc _ 1) rfl ?_
    refine aw_goto X dX9_weakOf_45 (tgt := 9) (by decide) ?_
    exact ih (i + 1) hlt (by omega)
theorem c_X9_bring {l : Launch} {G : AG} {M0 M : AM} {y : Nat} {A : MA} {S : Nat → Int64} {c : Nat → Int32} {f : Int32} {bs : List Int32} (h : md G M0 M y A S c) (hf : f = nI (ix f)) (hf6 : ix f < 6) (hr0 : flRel A (ix f) bs) : Cn l G yX9_bring cX9_bring 3 none rX9_bring M [.ref y, .int f] (fun v M' => v = none ∧ ∃ g : Nat → Int32, md G M0 M' y (va_up A 21 g) S (va_up c 26 (nI bs.length)) ∧ ∀ k, k < bs.length → g k = bs.getD k 0) := by
  obtain ⟨w1, w2, w3⟩ := hr0
  refine Cn.of (by decide) [some (.ref y), some (.int f), none] rfl (Nat.le_of_ble_eq_true rfl) ?_
  intro Z hZ
  obtain ⟨rfl, hn, rfl, hR, X, hr, hnm⟩ := hZ
  refine aw_aload0 X dX9_bring_0 ?_
  refine aw_aload0 X dX9_bring_1 ?_
  refine aw_get X fX9_7 dX9_bring_2 (h.at) rfl ?_
  refine aw_iload1 X dX9_bring_5 ?_
  refine aw_iald X dX9_bring_6 (h.ai 1 rfl) hf (by omega) (by decide) ?_
  refine aw_int w2 ?_
  refine aw_mput26 X pX9_125 dX9_bring_7 h (fun M1 h1 => ?_)
  refine aw_iconst X dX9_bring_10 (v := nI 0) (by decide) ?_
  refine aw_istore2 X dX9_bring_11 (by rw [hn]; decide) rfl ?_
  refine aw_loop (σ := Nat × (Nat → Int32) × AM) (fun i => i.1 ≤ bs.length ∧ md (zG Z) M0 i.2.2 y (va_up A 21 i.2.1) S (va_up c 26 (nI bs.length)) ∧ ∀ k, k < i.1 → i.2.1 k = bs.getD k 0) (fun i => bs.length - i.1) (fun i => i.2.2) (fun i => [some (.ref y), some (.int f), some (.int (nI i.1))]) ?_ (0, A 21, M1) ⟨Nat.zero_le _, by dsimp only; rw [va_up_id]; exact h1, fun k hk => absurd hk (Nat.not_lt_zero _)⟩
  rintro ⟨i, g, M2⟩ ⟨hi, h2, hg⟩ ih
  dsimp only at hi h2 hg ih ⊢
  refine aw_iload2 X dX9_bring_12 ?_
  refine aw_aload0 X dX9_bring_13 ?_
  refine aw_get X fX9_125 dX9_bring_14 (h2.at) rfl ?_
  refine aw_int (y := nI bs.length) (va_up_self c 26 _) ?_
  refine aw_icmpge X dX9_bring_17 (tgt := 43) (by decide) (fun c3 => ?_) (fun c3 => ?_)
  · have e : i = bs.length := by have := (nI_leI (by omega) (by omega)).mp c3; omega
    subst e
    refine aw_vreturn X hr dX9_bring_43 (⟨rfl, g, h2, hg⟩)
  · have hlt : i < bs.length := by
      rcases Nat.lt_or_ge i bs.length with q | q
      · exact q
      · exact absurd (nI_le q (by omega)) c3
    refine aw_aload0 X dX9_bring_20 ?_
    refine aw_get X fX9_72 dX9_bring_21 (h2.at) rfl ?_
    refine aw_iload2 X dX9_bring_24 ?_
    refine aw_aload0 X dX9_bring_25 ?_
    refine aw_get X fX9_13 dX9_bring_26 (h2.at) rfl ?_
    refine aw_bipush X dX9_bring_29 (v := nI 120) (by decide) ?_
    refine aw_iload1 X dX9_bring_31 ?_
    refine aw_imul X dX9_bring_32 ?_
    refine aw_iload2 X dX9_bring_33 ?_
    refine aw_iadd X dX9_bring_34 ?_
    refine aw_int (ix_add hf) ?_
    refine aw_iald X dX9_bring_35 (h2.ai 2 rfl) rfl (by omega) (by decide) ?_
    refine aw_int (y := bs.getD i 0) (w3 i hlt) ?_
    refine aw_mst X 21 dX9_bring_36 h2 rfl rfl (by omega) (by decide) (fun M3 h3 => ?_)
    refine aw_iinc2 X dX9_bring_37 (by rw [hn]; decide) (am_inc _ 1) rfl ?_
    refine aw_goto X dX9_bring_40 (tgt := 12) (by decide) ?_
    rw [va_up2, va_up_self] at h3
    refine ih (i + 1, upd g i (bs.getD i 0), M3) ⟨hlt, h3, fun k hk => ?_⟩ (by dsimp only; omega)
    dsimp only at hk ⊢
    by_cases e : k = i
    · rw [e, pk_us]
    · rw [pk_un e]
      exact hg k (by omega)
theorem c_X9_give {l : Launch} {G : AG} {M0 M : AM} {y : Nat} {A : MA} {S : Nat → Int64} {c : Nat → Int32} {f : Int32} {bs : List Int32} (h : md G M0 M y A S c) (hf : f = nI (ix f)) (hf6 : ix f < 6) (hc : c 26 = nI bs.length) (hl : bs.length ≤ 120) (hg : ∀ k, k < bs.length → A 21 k = bs.getD k 0) : Cn l G yX9_give cX9_give 3 (some .int) rX9_give M [.ref y, .int f] (fun v M' => v = some (.int (nI bs.length)) ∧ ∃ B : MA, md G M0 M' y B S c ∧ (∀ a, 3 ≤ a → a ≤ 26 → B a = A a) ∧ (∀ j, j ≠ ix f → B 1 j = A 1 j) ∧ (∀ k, k < 120 * ix f ∨ 120 * ix f + 120 ≤ k → B 2 k = A 2 k) ∧ flRel B (ix f) bs) := by
  refine Cn.of (by decide) [some (.ref y), some (.int f), none] rfl (Nat.le_of_ble_eq_true rfl) ?_
  intro Z hZ
  obtain ⟨rfl, hn, rfl, hR, X, hr, hnm⟩ := hZ
  refine aw_aload0 X dX9_give_0 ?_
  refine aw_get X fX9_7 dX9_give_1 (h.at) rfl ?_
  refine aw_iload1 X dX9_give_4 ?_
  refine aw_aload0 X dX9_give_5 ?_
  refine aw_get X fX9_125 dX9_give_6 (h.at) rfl ?_
  refine aw_int hc ?_
  refine aw_mst X 1 dX9_give_9 h rfl hf (by omega) (by decide) (fun M1 h1 => ?_)
  refine aw_iconst X dX9_give_10 (v := nI 0) (by decide) ?_
  refine aw_istore2 X dX9_give_11 (by rw [hn]; decide) rfl ?_
  refine aw_loop (σ := Nat × MA × AM) (fun i => i.1 ≤ bs.length ∧ md (zG Z) M0 i.2.2 y i.2.1 S c ∧ (∀ a, 3 ≤ a → a ≤ 26 → i.2.1 a = A a) ∧ i.2.1 1 = upd (A 1) (ix f) (nI bs.length) ∧ (∀ k, k < 120 * ix f ∨ 120 * ix f + 120 ≤ k → i.2.1 2 k = A 2 k) ∧ ∀ k, k < i.1 → i.2.1 2 (120 * ix f + k) = bs.getD k 0) (fun i => bs.length - i.1) (fun i => i.2.2) (fun i => [some (.ref y), some (.int f), some (.int (nI i.1))]) ?_ (0, va_up A 1 (upd (A 1) (ix f) (nI bs.length)), M1) ⟨Nat.zero_le _, h1, fun a x1 x2 => va_up_ne _ _ (by omega), va_up_self A 1 _, fun _ _ => rfl, fun k hk => absurd hk (Nat.not_lt_zero _)⟩
  rintro ⟨i, B, M2⟩ ⟨hi, h2, b3, b1, b2, bp⟩ ih
  dsimp only at hi h2 b3 b1 b2 bp ih ⊢
  refine aw_iload2 X dX9_give_12 ?_
  refine aw_aload0 X dX9_give_13 ?_
  refine aw_get X fX9_125 dX9_give_14 (h2.at) rfl ?_
  refine aw_int (y := nI bs.length) hc ?_
  refine aw_icmpge X dX9_give_17 (tgt := 43) (by decide) (fun c3 => ?_) (fun c3 => ?_)
  · have e : i = bs.length := by have := (nI_leI (by omega) (by omega)).mp c3; omega
    subst e
    refine aw_aload0 X dX9_give_43 ?_
    refine aw_get X fX9_125 dX9_give_44 (h2.at) rfl ?_
    refine aw_int (y := nI bs.length) hc ?_
    refine aw_ireturn X (ty := .int) hr (by first | rfl | decide | assumption) dX9_give_47 (⟨rfl, B, h2, b3, fun j hj => by rw [b1]; exact pk_un hj, b2, hl, by rw [b1]; exact pk_us, bp⟩)
  · have hlt : i < bs.length := by
      rcases Nat.lt_or_ge i bs.length with q | q
      · exact q
      · exact absurd (nI_le q (by omega)) c3
    refine aw_aload0 X dX9_give_20 ?_
    refine aw_get X fX9_13 dX9_give_21 (h2.at) rfl ?_
    refine aw_bipush X dX9_give_24 (v := nI 120) (by decide) ?_
    refine aw_iload1 X dX9_give_26 ?_
    refine aw_imul X dX9_give_27 ?_
    refine aw_iload2 X dX9_give_28 ?_
    refine aw_iadd X dX9_give_29 ?_
    refine aw_int (ix_add hf) ?_
    refine aw_aload0 X dX9_give_30 ?_
    refine aw_get X fX9_72 dX9_give_31 (h2.at) rfl ?_
    refine aw_iload2 X dX9_give_34 ?_
    refine aw_iald X dX9_give_35 (h2.ai 21 rfl) rfl (by omega) (by decide) ?_
    refine aw_int (y := bs.getD i 0) (by rw [b3 21 (by omega) (by omega)]; exact hg i hlt) ?_
    refine aw_mst X 2 dX9_give_36 h2 rfl rfl (by omega) (by decide) (fun M3 h3 => ?_)
    refine aw_iinc2 X dX9_give_37 (by rw [hn]; decide) (am_inc _ 1) rfl ?_
    refine aw_goto X dX9_give_40 (tgt := 12) (by decide) ?_
    refine ih (i + 1, va_up B 2 (upd (B 2) (120 * ix f + i) (bs.getD i 0)), M3) ⟨hlt, h3, fun a x1 x2 => (va_up_ne _ _ (by omega)).trans (b3 a x1 x2), b1, fun k hk => (pk_un (by omega)).trans (b2 k hk), fun k hk => ?_⟩ (by dsimp only; omega)
    dsimp only at hk
    show upd (B 2) (120 * ix f + i) (bs.getD i 0) (120 * ix f + k) = _
    by_cases e : k = i
    · rw [e, pk_us]
    · rw [pk_un (by omega)]
      exact bp k (by omega)
