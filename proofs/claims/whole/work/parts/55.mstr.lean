theorem c_X9_strongOf {l : Launch} {G : AG} {M : AM} {e N a a' m : Nat} {fA : Nat → Int32} {bs : List Int32} (h : M.1 e = some (am_ai G N fA)) (hN : a + m ≤ N) (hN2 : N < 2 ^ 31) (hf : ∀ k, k < m → fA (a + k) = bs.getD (a' + k) 0) (hm : 0 < m) : Cn l G yX9_strongOf cX9_strongOf 6 (some .long) rX9_strongOf M [.ref e, .int (nI a), .int (nI m)] (fun v M' => M' = M ∧ v = some (.long (sg bs a' m))) := by
  refine Cn.of (by decide) [some (.ref e), some (.int (nI a)), some (.int (nI m)), none, none, none] rfl (Nat.le_of_ble_eq_true rfl) ?_
  intro Z hZ
  obtain ⟨rfl, hn, rfl, hR, X, hr, hnm⟩ := hZ
  refine aw_lconst X dX9_strongOf_0 (v := 0) (by decide) ?_
  refine aw_lstore3 X dX9_strongOf_1 (by rw [hn]; decide) rfl ?_
  refine aw_iload2 X dX9_strongOf_2 ?_
  refine aw_iconst X dX9_strongOf_3 (v := nI 1) (by decide) ?_
  refine aw_isub X dX9_strongOf_4 ?_
  refine aw_int (am_dn_sub hm) ?_
  refine aw_istore5 X dX9_strongOf_5 (by rw [hn]; decide) rfl ?_
  have hz : sgS bs a' m (m - m) = 0 := by
    rw [Nat.sub_self]
    rfl
  rw [← hz]
  refine aw_loop (σ := Nat) (fun j => j ≤ m) (fun j => j) (fun _ => M) (fun j => [some (.ref e), some (.int (nI a)), some (.int (nI m)), some (.long (sgS bs a' m (m - j))), none, some (.int (am_dn j))]) ?_ m (Nat.le_refl _)
  intro j hj ih
  dsimp only at ih ⊢
  refine aw_iload5 X dX9_strongOf_7 ?_
  cases j with
  | zero =>
    refine aw_iflt X dX9_strongOf_9 (tgt := 34) (by decide) (fun _ => ?_) (fun c9 => by first | exact absurd (am_dn_neg) c9 | exact absurd c9 (am_dn_neg))
    refine aw_lload3 X dX9_strongOf_34 ?_
    refine aw_lreturn X hr dX9_strongOf_35 (⟨rfl, rfl⟩)
  | succ j =>
    refine aw_iflt X dX9_strongOf_9 (tgt := 34) (by decide) (fun c9 => by first | exact absurd (nI_pos (by omega)) c9 | exact absurd c9 (nI_pos (by omega))) (fun _ => ?_)
    refine aw_ldc2 X kcX9_128 dX9_strongOf_12 ?_
    refine aw_lload3 X dX9_strongOf_15 ?_
    refine aw_lmul X dX9_strongOf_16 ?_
    refine aw_long (Int64.mul_comm _ _) ?_
    refine aw_aload0 X dX9_strongOf_17 ?_
    refine aw_iload1 X dX9_strongOf_18 ?_
    refine aw_iload5 X dX9_strongOf_19 ?_
    refine aw_iadd X dX9_strongOf_21 ?_
    first | with_reducible refine aw_int (nI_add _ _) ?_ | skip
    refine aw_iald X dX9_strongOf_22 h rfl (by omega) hN2 ?_
    refine aw_int (hf j (by omega)) ?_
    refine aw_i2l X dX9_strongOf_23 ?_
    refine aw_ladd X dX9_strongOf_24 ?_
    refine aw_lconst X dX9_strongOf_25 (v := 1) (by decide) ?_
    refine aw_ladd X dX9_strongOf_26 ?_
    refine aw_lstore3 X dX9_strongOf_27 (by rw [hn]; decide) rfl ?_
    refine aw_iinc5 X dX9_strongOf_28 (by rw [hn]; decide) (am_dn_dec j) rfl ?_
    refine aw_goto X dX9_strongOf_31 (tgt := 7) (by decide) ?_
    have e9 : sgS bs a' m (m - (j + 1)) * 257 + (bs.getD (a' + j) 0).toInt64 + 1 = sgS bs a' m (m - j) := by
      rw [show m - j = m - (j + 1) + 1 by omega, sgS, show m - 1 - (m - (j + 1)) = j by omega]
    have k := ih j (by omega) (by omega)
    rw [← e9] at k
    exact k
theorem c_X9_lengthOf {l : Launch} {G : AG} {M0 M : AM} {y g k L n : Nat} {A : MA} {S : Nat → Int64} {c : Nat → Int32} (h : md G M0 M y A S c) (hg : g < 5) (h3 : A 3 g = nI L) (h5 : A 5 g = nI n) (hL : L ≤ 7) (hn : n ≤ 120) (hk : k * L ≤ n) : Cn l G yX9_lengthOf cX9_lengthOf 4 (some .int) rX9_lengthOf M [.ref y, .int (nI g), .int (nI k)] (fun v M' => M' = M ∧ v = some (.int (nI (min L (n - k * L))))) := by
  refine Cn.of (by decide) [some (.ref y), some (.int (nI g)), some (.int (nI k)), none] rfl (Nat.le_of_ble_eq_true rfl) ?_
  intro Z hZ
  obtain ⟨rfl, hn, rfl, hR, X, hr, hnm⟩ := hZ
  refine aw_aload0 X dX9_lengthOf_0 ?_
  refine aw_get X fX9_22 dX9_lengthOf_1 (h.at) rfl ?_
  refine aw_iload1 X dX9_lengthOf_4 ?_
  refine aw_iald X dX9_lengthOf_5 (h.ai 5 rfl) rfl (by omega) (by decide) ?_
  refine aw_int h5 ?_
  refine aw_iload2 X dX9_lengthOf_6 ?_
  refine aw_aload0 X dX9_lengthOf_7 ?_
  refine aw_get X fX9_16 dX9_lengthOf_8 (h.at) rfl ?_
  refine aw_iload1 X dX9_lengthOf_11 ?_
  refine aw_iald X dX9_lengthOf_12 (h.ai 3 rfl) rfl (by omega) (by decide) ?_
  refine aw_int h3 ?_
  refine aw_imul X dX9_lengthOf_13 ?_
  first | with_reducible refine aw_int (pk_mul _ _) ?_ | skip
  refine aw_isub X dX9_lengthOf_14 ?_
  first | with_reducible refine aw_int (pk_sub (by omega)) ?_ | skip
  refine aw_istore3 X dX9_lengthOf_15 (by rw [hn]; decide) rfl ?_
  refine aw_iload3 X dX9_lengthOf_16 ?_
  refine aw_aload0 X dX9_lengthOf_17 ?_
  refine aw_get X fX9_16 dX9_lengthOf_18 (h.at) rfl ?_
  refine aw_iload1 X dX9_lengthOf_21 ?_
  refine aw_iald X dX9_lengthOf_22 (h.ai 3 rfl) rfl (by omega) (by decide) ?_
  refine aw_int h3 ?_
  refine aw_icmpge X dX9_lengthOf_23 (tgt := 30) (by decide) (fun c1 => ?_) (fun c1 => ?_)
  · have e : min L (n - k * L) = L := Nat.min_eq_left ((nI_leI (by omega) (by omega)).mp c1)
    refine aw_aload0 X dX9_lengthOf_30 ?_
    refine aw_get X fX9_16 dX9_lengthOf_31 (h.at) rfl ?_
    refine aw_iload1 X dX9_lengthOf_34 ?_
    refine aw_iald X dX9_lengthOf_35 (h.ai 3 rfl) rfl (by omega) (by decide) ?_
    refine aw_int h3 ?_
    refine aw_ireturn X (ty := .int) hr (by first | rfl | decide | assumption) dX9_lengthOf_36 (⟨rfl, by rw [e]⟩)
  · have e : min L (n - k * L) = n - k * L := Nat.min_eq_right (by
      rcases Nat.lt_or_ge (n - k * L) L with q | q
      · omega
      · exact absurd (nI_le q (by omega)) c1)
    refine aw_iload3 X dX9_lengthOf_26 ?_
    refine aw_goto X dX9_lengthOf_27 (tgt := 36) (by decide) ?_
    refine aw_ireturn X (ty := .int) hr (by first | rfl | decide | assumption) dX9_lengthOf_36 (⟨rfl, by rw [e]⟩)
