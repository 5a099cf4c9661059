/-! the model stores a file -/
def hs (bs : List Int32) (p : Nat) : Nat → Int32
  | 0 => nI 0
  | k + 1 => hs bs p k + nI (k + 1) * bs.getD (p - k) 0
theorem am_at_sub {bs : List Int32} {p j : Nat} (hp : p < 2 ^ 31) (h : j ≤ p) : am_at bs (nI p - nI j) = bs.getD (p - j) 0 := by
  rw [pk_sub h, am_at_n (by omega)]
theorem am_at_neg {bs : List Int32} {x : Int32} (h : x < 0) : am_at bs x = 0 := if_pos h
theorem i0_add (x : Int32) : nI 0 + x = x := Int32.zero_add x
theorem i1_mul (x : Int32) : nI 1 * x = x := Int32.one_mul x
theorem i_mul0 (x : Int32) : x * 0 = 0 := Int32.mul_zero
theorem i_add0 (x : Int32) : x + 0 = x := Int32.add_zero x
theorem hs_hI {bs : List Int32} {p k : Nat} (hp : p < 1000) (h : (k = 4 ∧ 3 ≤ p) ∨ (k ≤ 4 ∧ k = p + 1)) : hs bs p k = hI bs p := by
  unfold hI
  rw [am_at_n (by omega)]
  rcases h with ⟨rfl, h3⟩ | ⟨h1, rfl⟩
  · rw [am_at_sub (by omega) (by omega), am_at_sub (by omega) (by omega), am_at_sub (by omega) h3]
    simp only [hs, Nat.zero_add, Nat.sub_zero, i0_add, i1_mul]
  · rcases (by omega : p = 0 ∨ p = 1 ∨ p = 2 ∨ p = 3) with rfl | rfl | rfl | rfl
    · rw [am_at_neg (by decide : nI 0 - nI 1 < 0), am_at_neg (by decide : nI 0 - nI 2 < 0), am_at_neg (by decide : nI 0 - nI 3 < 0)]
      simp only [hs, Nat.zero_add, Nat.sub_zero, i0_add, i1_mul, i_mul0, i_add0]
    · rw [am_at_sub (by omega) (by omega), am_at_neg (by decide : nI 1 - nI 2 < 0), am_at_neg (by decide : nI 1 - nI 3 < 0)]
      simp only [hs, Nat.zero_add, Nat.sub_zero, i0_add, i1_mul, i_mul0, i_add0]
    · rw [am_at_sub (by omega) (by omega), am_at_sub (by omega) (by omega), am_at_neg (by decide : nI 2 - nI 3 < 0)]
      simp only [hs, Nat.zero_add, Nat.sub_zero, i0_add, i1_mul, i_mul0, i_add0]
    · rw [am_at_sub (by omega) (by omega), am_at_sub (by omega) (by omega), am_at_sub (by omega) (by omega)]
      simp only [hs, Nat.zero_add, Nat.sub_zero, i0_add, i1_mul]
theorem c_X9_hash {l : Launch} {G : AG} {M0 M : AM} {y p : Nat} {A : MA} {S : Nat → Int64} {c : Nat → Int32} {f : Int32} {bs : List Int32} (h : md G M0 M y A S c) (hf : f = nI (ix f)) (hf6 : ix f < 6) (fl : flRel A (ix f) bs) (hp : p < bs.length) : Cn l G yX9_hash cX9_hash 5 (some .int) rX9_hash M [.ref y, .int f, .int (nI p)] (fun v M' => M' = M ∧ v = some (.int (hI bs p))) := by
  have hl := fl.1
  refine Cn.of (by decide) [some (.ref y), some (.int f), some (.int (nI p)), none, none] rfl (Nat.le_of_ble_eq_true rfl) ?_
  intro Z hZ
  obtain ⟨rfl, hn, rfl, hR, X, hr, hnm⟩ := hZ
  refine aw_iconst X dX9_hash_0 (v := nI 0) (by decide) ?_
  refine aw_istore3 X dX9_hash_1 (by rw [hn]; decide) rfl ?_
  refine aw_iconst X dX9_hash_2 (v := nI 0) (by decide) ?_
  refine aw_istore4 X dX9_hash_3 (by rw [hn]; decide) rfl ?_
  refine aw_loop (σ := Nat) (fun i => i ≤ 4 ∧ i ≤ p + 1) (fun i => 4 - i) (fun _ => M) (fun i => [some (.ref y), some (.int f), some (.int (nI p)), some (.int (hs bs p i)), some (.int (nI i))]) ?_ 0 ⟨Nat.zero_le _, Nat.zero_le _⟩
  rintro i ⟨h4, hi⟩ ih
  try dsimp only at h4 hi ih ⊢
  refine aw_iload4 X dX9_hash_5 ?_
  refine aw_iconst X dX9_hash_7 (v := nI 4) (by decide) ?_
  refine aw_icmpge X dX9_hash_8 (tgt := 45) (by decide) (fun c1 => ?_) (fun c1 => ?_)
  · have e : 4 ≤ i := (nI_leI (by omega) (by omega)).mp c1
    refine aw_iload3 X dX9_hash_45 ?_
    refine aw_ireturn X (ty := .int) hr (by first | rfl | decide | assumption) dX9_hash_46 (⟨rfl, by rw [hs_hI (by omega) (Or.inl ⟨by omega, by omega⟩)]⟩)
  · have hlt : i < 4 := by
      rcases Nat.lt_or_ge i 4 with q | q
      · exact q
      · exact absurd (nI_le q (by omega)) c1
    refine aw_iload4 X dX9_hash_11 ?_
    refine aw_iload2 X dX9_hash_13 ?_
    refine aw_icmpgt X dX9_hash_14 (tgt := 45) (by decide) (fun c2 => ?_) (fun c2 => ?_)
    · have e : p < i := (nI_ltI (by omega) (by omega)).mp c2
      refine aw_iload3 X dX9_hash_45 ?_
      refine aw_ireturn X (ty := .int) hr (by first | rfl | decide | assumption) dX9_hash_46 (⟨rfl, by rw [hs_hI (by omega) (Or.inr ⟨by omega, by omega⟩)]⟩)
    · have hip : i ≤ p := by
        rcases Nat.lt_or_ge p i with q | q
        · exact absurd (nI_lt q (by omega)) c2
        · exact q
      refine aw_iload3 X dX9_hash_17 ?_
      refine aw_iload4 X dX9_hash_18 ?_
      refine aw_iconst X dX9_hash_20 (v := nI 1) (by decide) ?_
      refine aw_iadd X dX9_hash_21 ?_
      first | with_reducible refine aw_int (nI_add _ _) ?_ | skip
      refine aw_aload0 X dX9_hash_22 ?_
      refine aw_get X fX9_13 dX9_hash_23 (h.at) rfl ?_
      refine aw_bipush X dX9_hash_26 (v := nI 120) (by decide) ?_
      refine aw_iload1 X dX9_hash_28 ?_
      refine aw_imul X dX9_hash_29 ?_
      refine aw_iload2 X dX9_hash_30 ?_
      refine aw_iadd X dX9_hash_31 ?_
      refine aw_int (ix_add hf) ?_
      refine aw_iload4 X dX9_hash_32 ?_
      refine aw_isub X dX9_hash_34 ?_
      first | with_reducible refine aw_int (pk_sub (by omega)) ?_ | skip
      refine aw_iald X dX9_hash_35 (h.ai 2 rfl) rfl (by omega) (by decide) ?_
      refine aw_int (y := bs.getD (p - i) 0) (by rw [show 120 * ix f + p - i = 120 * ix f + (p - i) by omega]; exact fl.2.2 _ (by omega)) ?_
      refine aw_imul X dX9_hash_36 ?_
      refine aw_iadd X dX9_hash_37 ?_
      refine aw_istore3 X dX9_hash_38 (by rw [hn]; decide) rfl ?_
      refine aw_iinc4 X dX9_hash_39 (by rw [hn]; decide) (am_inc _ 1) rfl ?_
      refine aw_goto X dX9_hash_42 (tgt := 5) (by decide) ?_
      exact ih (i + 1) ⟨hlt, by omega⟩ (by omega)
