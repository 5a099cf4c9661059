/-- a list: its array, the array's length, what it holds -/
def isLs (G : AG) (M : AM) (L e cap : Nat) (xs : List Nat) : Prop := ∃ mc : Int32, M.1 L = some (am_o 0 [.int mc, .ref e, .int (nI xs.length)]) ∧ xs.length ≤ cap ∧ ((cap = 0 ∧ e = G.2.2.2.1) ∨ (0 < cap ∧ ∃ f : Nat → Option Nat, M.1 e = some (am_aq G 8 cap f) ∧ (∀ i, i < xs.length → f i = some (xs.getD i 0)) ∧ ∀ i, xs.length ≤ i → f i = none))
/-- they are chunks -/
def isCs (M : AM) (xs : List Nat) : Prop := ∀ c ∈ xs, ∃ vs, M.1 c = some (.inr (2, vs))
theorem isLs.at {G : AG} {M : AM} {L e cap : Nat} {xs : List Nat} (h : isLs G M L e cap xs) : ∃ mc : Int32, M.1 L = some (am_o 0 [.int mc, .ref e, .int (nI xs.length)]) := by
  obtain ⟨mc, h1, -⟩ := h
  exact ⟨mc, h1⟩
theorem isLs.ks {G : AG} {M M' : AM} {L e cap : Nat} {xs : List Nat} (h : isLs G M L e cap xs) (h1 : ∀ x, M.1 L = some x → M'.1 L = some x) (h2 : 0 < cap → ∀ x, M.1 e = some x → M'.1 e = some x) : isLs G M' L e cap xs := by
  obtain ⟨mc, a1, a2, a3⟩ := h
  refine ⟨mc, h1 _ a1, a2, ?_⟩
  rcases a3 with a3 | ⟨a3, f, a4, a5⟩
  · exact Or.inl a3
  · exact Or.inr ⟨a3, f, h2 a3 _ a4, a5⟩
theorem c_ls_size {l : Launch} {G : AG} {M : AM} {L e cap : Nat} {xs : List Nat} (h : isLs G M L e cap xs) : Cn l G yJx4a65c_size_8abf5 cJx4a65c_size_8abf5 1 (some .int) rJx4a65c_size_8abf5 M [.ref L] (fun v M' => M' = M ∧ v = some (.int (nI xs.length))) := by
  obtain ⟨mc, h1, -⟩ := h
  refine Cn.ofF (by decide +kernel) [some (.ref L)] rfl (Nat.le_of_ble_eq_true rfl) ?_
  intro Z hZ
  obtain ⟨rfl, hn, rfl, hR, X, hr, hnm⟩ := hZ
  refine aw_aload0 X dJx4a65c_size_8abf5_0 ?_
  refine aw_get X fJx4a65c_48 dJx4a65c_size_8abf5_1 (h1) rfl ?_
  refine aw_ireturn X (ty := .int) hr (by first | rfl | decide | assumption) dJx4a65c_size_8abf5_4 (⟨rfl, rfl⟩)
theorem c_ls_elem {l : Launch} {G : AG} {M : AM} {L e cap i : Nat} {xs : List Nat} (h : isLs G M L e cap xs) (hi : i < xs.length) (hc : cap < 65536) : Cn l G yJx4a65c_elementData_915e3 cJx4a65c_elementData_915e3 2 (some (.object "java/lang/Object")) rJx4a65c_elementData_915e3 M [.ref L, .int (nI i)] (fun v M' => M' = M ∧ v = some (.ref (xs.getD i 0))) := by
  obtain ⟨mc, h1, h2, h3⟩ := h
  rcases h3 with ⟨h3, -⟩ | ⟨h3, f, h4, h5, h6⟩
  · omega
  · refine Cn.ofF (by decide +kernel) [some (.ref L), some (.int (nI i))] rfl (Nat.le_of_ble_eq_true rfl) ?_
    intro Z hZ
    obtain ⟨rfl, hn, rfl, hR, X, hr, hnm⟩ := hZ
    refine aw_aload0 X dJx4a65c_elementData_915e3_0 ?_
    refine aw_get X fJx4a65c_9 dJx4a65c_elementData_915e3_1 (h1) rfl ?_
    refine aw_iload1 X dJx4a65c_elementData_915e3_4 ?_
    refine aw_aald X at_8 dJx4a65c_elementData_915e3_5 h4 rfl (by omega) (by omega) ?_
    refine aw_rf (h5 i hi) ?_
    refine aw_areturn X hr (Or.inl ⟨_, rfl⟩) (Or.inr ⟨_, rfl⟩) dJx4a65c_elementData_915e3_6 (⟨rfl, rfl⟩)
theorem c_pre_ix {l : Launch} {G : AG} {M : AM} {i n : Nat} (hi : i < n) (hn : n < 2 ^ 31) : Cn l G yJ3_checkIndex_8e157 cJ3_checkIndex_8e157 3 (some .int) rJ3_checkIndex_8e157 M [.int (nI i), .int (nI n), .null] (fun v M' => M' = M ∧ v = some (.int (nI i))) := by
  refine Cn.ofF (by decide +kernel) [some (.int (nI i)), some (.int (nI n)), some .null] rfl (Nat.le_of_ble_eq_true rfl) ?_
  intro Z hZ
  obtain ⟨rfl, hn, rfl, hR, X, hr, hnm⟩ := hZ
  refine aw_iload0 X dJ3_checkIndex_8e157_0 ?_
  refine aw_iflt X dJ3_checkIndex_8e157_1 (tgt := 9) (by decide) (fun c9 => by first | exact absurd (nI_pos (by omega)) c9 | exact absurd c9 (nI_pos (by omega))) (fun _ => ?_)
  refine aw_iload0 X dJ3_checkIndex_8e157_4 ?_
  refine aw_iload1 X dJ3_checkIndex_8e157_5 ?_
  refine aw_icmplt X dJ3_checkIndex_8e157_6 (tgt := 16) (by decide) (fun _ => ?_) (fun c9 => by first | exact absurd (nI_lt hi (by omega)) c9 | exact absurd c9 (nI_lt hi (by omega)))
  refine aw_iload0 X dJ3_checkIndex_8e157_16 ?_
  refine aw_ireturn X (ty := .int) hr (by first | rfl | decide | assumption) dJ3_checkIndex_8e157_17 (⟨rfl, rfl⟩)
theorem c_obj_ix {l : Launch} {G : AG} {M : AM} {i n : Nat} (hi : i < n) (hn : n < 2 ^ 31) : Cn l G yJ15_checkIndex_7cf53 cJ15_checkIndex_7cf53 2 (some .int) rJ15_checkIndex_7cf53 M [.int (nI i), .int (nI n)] (fun v M' => M' = M ∧ v = some (.int (nI i))) := by
  refine Cn.ofF (by decide +kernel) [some (.int (nI i)), some (.int (nI n))] rfl (Nat.le_of_ble_eq_true rfl) ?_
  intro Z hZ
  obtain ⟨rfl, hn, rfl, hR, X, hr, hnm⟩ := hZ
  refine aw_iload0 X dJ15_checkIndex_7cf53_0 ?_
  refine aw_iload1 X dJ15_checkIndex_7cf53_1 ?_
  refine aw_null X dJ15_checkIndex_7cf53_2 ?_
  refine aw_callS X (c_pre_ix hi (by assumption)) kJ15_105 dJ15_checkIndex_7cf53_3 rfl rfl (by first | decide | exact Nat.le_of_ble_eq_true rfl) (by rw [hR]; exact ⟨by first | decide | exact Nat.le_of_ble_eq_true rfl | (dsimp only; omega), by first | decide | exact Nat.le_of_ble_eq_true rfl | (dsimp only; omega)⟩) (by rw [hR]; exact ⟨by first | decide | exact Nat.le_of_ble_eq_true rfl | (dsimp only; omega), by first | decide | exact Nat.le_of_ble_eq_true rfl | (dsimp only; omega)⟩) (fun v M1 hv => ?_)
  obtain ⟨rfl, rfl⟩ := hv
  refine aw_ireturn X (ty := .int) hr (by first | rfl | decide | assumption) dJ15_checkIndex_7cf53_6 (⟨rfl, rfl⟩)
theorem c_ls_get {l : Launch} {G : AG} {M : AM} {L e cap i : Nat} {xs : List Nat} (h : isLs G M L e cap xs) (hi : i < xs.length) (hc : cap < 65536) : Cn l G yJx4a65c_get_915e3 cJx4a65c_get_915e3 2 (some (.object "java/lang/Object")) rJx4a65c_get_915e3 M [.ref L, .int (nI i)] (fun v M' => M' = M ∧ v = some (.ref (xs.getD i 0))) := by
  obtain ⟨mc, h1, h2, -⟩ := id h
  refine Cn.ofF (by decide +kernel) [some (.ref L), some (.int (nI i))] rfl (Nat.le_of_ble_eq_true rfl) ?_
  intro Z hZ
  obtain ⟨rfl, hn, rfl, hR, X, hr, hnm⟩ := hZ
  refine aw_iload1 X dJx4a65c_get_915e3_0 ?_
  refine aw_aload0 X dJx4a65c_get_915e3_1 ?_
  refine aw_get X fJx4a65c_48 dJx4a65c_get_915e3_2 (h1) rfl ?_
  refine aw_callS X (c_obj_ix hi (by omega)) kJx4a65c_118 dJx4a65c_get_915e3_5 rfl rfl (by first | decide | exact Nat.le_of_ble_eq_true rfl) (by rw [hR]; exact ⟨by first | decide | exact Nat.le_of_ble_eq_true rfl | (dsimp only; omega), by first | decide | exact Nat.le_of_ble_eq_true rfl | (dsimp only; omega)⟩) (by rw [hR]; exact ⟨by first | decide | exact Nat.le_of_ble_eq_true rfl | (dsimp only; omega), by first | decide | exact Nat.le_of_ble_eq_true rfl | (dsimp only; omega)⟩) (fun v M1 hv => ?_)
  obtain ⟨rfl, rfl⟩ := hv
  refine aw_pop X dJx4a65c_get_915e3_8 rfl ?_
  refine aw_aload0 X dJx4a65c_get_915e3_9 ?_
  refine aw_iload1 X dJx4a65c_get_915e3_10 ?_
  refine aw_callV X (c_ls_elem h hi hc) kJx4a65c_123 (ci := 0) rfl (h1) dJx4a65c_get_915e3_11 rfl rfl (by first | decide | exact Nat.le_of_ble_eq_true rfl) (by rw [hR]; exact ⟨by first | decide | exact Nat.le_of_ble_eq_true rfl | (dsimp only; omega), by first | decide | exact Nat.le_of_ble_eq_true rfl | (dsimp only; omega)⟩) (by rw [hR]; exact ⟨by first | decide | exact Nat.le_of_ble_eq_true rfl | (dsimp only; omega), by first | decide | exact Nat.le_of_ble_eq_true rfl | (dsimp only; omega)⟩) (fun v M1 hv => ?_)
  obtain ⟨rfl, rfl⟩ := hv
  refine aw_areturn X hr (Or.inl ⟨_, rfl⟩) (Or.inr ⟨_, rfl⟩) dJx4a65c_get_915e3_14 (⟨rfl, rfl⟩)
theorem c_newLen {l : Launch} {G : AG} {M : AM} {a b c0 : Nat} (ha : 0 < a ∧ a < 1000000) (hb : b < 1000000) (hc : c0 < 1000000) : Cn l G yJ8_newLength_cabcc cJ8_newLength_cabcc 4 (some .int) rJ8_newLength_cabcc M [.int (nI a), .int (nI b), .int (nI c0)] (fun v M' => M' = M ∧ v = some (.int (nI (a + max b c0)))) := by
  refine Cn.ofF (by decide +kernel) [some (.int (nI a)), some (.int (nI b)), some (.int (nI c0)), none] rfl (Nat.le_of_ble_eq_true rfl) ?_
  intro Z hZ
  obtain ⟨rfl, hn, rfl, hR, X, hr, hnm⟩ := hZ
  refine aw_iload0 X dJ8_newLength_cabcc_0 ?_
  refine aw_iload1 X dJ8_newLength_cabcc_1 ?_
  refine aw_iload2 X dJ8_newLength_cabcc_2 ?_
  refine aw_max X kJ8_194 dJ8_newLength_cabcc_3 (by omega) (by omega) (by rw [hR]; first | decide | exact Nat.le_of_ble_eq_true rfl | (dsimp only; omega)) (by rw [hR]; exact Nat.le_of_ble_eq_true rfl) (by rw [hR]; exact ⟨by first | decide | exact Nat.le_of_ble_eq_true rfl | (dsimp only; omega), by first | decide | exact Nat.le_of_ble_eq_true rfl | (dsimp only; omega)⟩) ?_
  refine aw_iadd X dJ8_newLength_cabcc_6 ?_
  first | with_reducible refine aw_int (nI_add _ _) ?_ | skip
  refine aw_istore3 X dJ8_newLength_cabcc_7 (by rw [hn]; decide) rfl ?_
  refine aw_iconst X dJ8_newLength_cabcc_8 (v := nI 0) (by decide) ?_
  refine aw_iload3 X dJ8_newLength_cabcc_9 ?_
  refine aw_icmpge X dJ8_newLength_cabcc_10 (tgt := 21) (by decide) (fun c9 => by first | exact absurd (nI_ge (a := 0) (b := a + max b c0) (by omega) (by omega)) c9 | exact absurd c9 (nI_ge (a := 0) (b := a + max b c0) (by omega) (by omega))) (fun _ => ?_)
  refine aw_iload3 X dJ8_newLength_cabcc_13 ?_
  refine aw_ldc X kcJ8_200 dJ8_newLength_cabcc_14 ?_
  refine aw_int (show (2147483639 : Int32) = nI 2147483639 from rfl) ?_
  refine aw_icmpgt X dJ8_newLength_cabcc_16 (tgt := 21) (by decide) (fun c9 => by first | exact absurd (nI_nlt (a := 2147483639) (b := a + max b c0) (by omega) (by omega)) c9 | exact absurd c9 (nI_nlt (a := 2147483639) (b := a + max b c0) (by omega) (by omega))) (fun _ => ?_)
  refine aw_iload3 X dJ8_newLength_cabcc_19 ?_
  refine aw_ireturn X (ty := .int) hr (by first | rfl | decide | assumption) dJ8_newLength_cabcc_20 (⟨rfl, rfl⟩)
theorem c_copyOf3 {l : Launch} {G : AG} {M : AM} {e cap N : Nat} {f : Nat → Option Nat} (h : M.1 e = some (am_aq G 8 cap f)) (h1 : cap ≤ N) (hN : N < 65536) (hel : ∀ i y, i < cap → f i = some y → ∃ vs, M.1 y = some (.inr (2, vs))) : Cn l G yJ7_copyOf_6403c cJ7_copyOf_6403c 4 (some (.array (.object "java/lang/Object"))) { rJ7_copyOf_6403c with cells := 1, slots := N } M [.ref e, .int (nI N), .ref G.2.2.2.2] (fun v M' => ∃ e', v = some (.ref e') ∧ (∀ q x, M.1 q = some x → q < e') ∧ M'.1 e' = some (am_aq G 8 N (va_cpy f (fun _ => none) 0 0 cap)) ∧ ∀ q, q ≠ e' → M'.1 q = M.1 q) := by
  refine Cn.ofF (by decide +kernel) [some (.ref e), some (.int (nI N)), some (.ref G.2.2.2.2), none] rfl (Nat.le_of_ble_eq_true rfl) ?_
  intro Z hZ
  obtain ⟨rfl, hn, rfl, hR, X, hr, hnm⟩ := hZ
  refine aw_aload2 X dJ7_copyOf_6403c_0 ?_
  refine aw_ldcM X X.mi dJ7_copyOf_6403c_1 ?_
  refine aw_acmpneR X dJ7_copyOf_6403c_3 (tgt := 13) (by decide) (fun c => absurd rfl c) (fun _ => ?_)
  refine aw_iload1 X dJ7_copyOf_6403c_6 ?_
  refine aw_newq X at_8 cnJ7_2 ao_Object dJ7_copyOf_6403c_7 rfl hN (by rw [hR]; exact Nat.le_refl 1) (by rw [hR]; show 0 + N ≤ N; omega) (fun q hqA hlt hz => ?_)
  have he : e ≠ q := fun e0 => by have := hlt e _ h; omega
  refine aw_goto X dJ7_copyOf_6403c_10 (tgt := 24) (by decide) ?_
  refine aw_astore3 X dJ7_copyOf_6403c_24 (by rw [hn]; decide) rfl ?_
  refine aw_aload0 X dJ7_copyOf_6403c_25 ?_
  refine aw_iconst X dJ7_copyOf_6403c_26 (v := nI 0) (by decide) ?_
  refine aw_aload3 X dJ7_copyOf_6403c_27 ?_
  refine aw_iconst X dJ7_copyOf_6403c_28 (v := nI 0) (by decide) ?_
  refine aw_aload0 X dJ7_copyOf_6403c_29 ?_
  refine aw_alen X dJ7_copyOf_6403c_30 ((am_nn he).trans h) (t := 8) rfl rfl ?_
  refine aw_iload1 X dJ7_copyOf_6403c_31 ?_
  refine aw_min X kJ7_304 dJ7_copyOf_6403c_32 (by omega) (by omega) (by rw [hR]; first | decide | exact Nat.le_of_ble_eq_true rfl | (dsimp only; omega)) (by rw [hR]; exact Nat.le_of_ble_eq_true rfl) (by rw [hR]; exact ⟨by first | decide | exact Nat.le_of_ble_eq_true rfl | (dsimp only; omega), by first | decide | exact Nat.le_of_ble_eq_true rfl | (dsimp only; omega)⟩) ?_
  rw [Nat.min_eq_left h1]
  refine aw_copyq X (f := f) (g := fun _ => none) ((am_nn he).trans h) am_ns (Nat.le_refl _) h1 (by omega) (fun i y hi hy => ?_) dJ7_copyOf_6403c_35 (by rw [hR]; exact Nat.le_refl 1) (by rw [hR]; exact Nat.le_of_ble_eq_true rfl) ?_
  · obtain ⟨vs, hvs⟩ := hel i y hi hy
    exact ⟨vs, (am_nn (fun e0 => by have := hlt y _ hvs; omega)).trans hvs⟩
  · refine aw_aload3 X dJ7_copyOf_6403c_38 ?_
    refine aw_widen (k' := 1) (n' := N) (by omega) (by omega) ?_
    refine aw_areturn X hr (Or.inr ⟨_, rfl⟩) (Or.inr ⟨_, rfl⟩) dJ7_copyOf_6403c_39 ?_
    exact ⟨q, rfl, hlt, am_us, fun j hj => (am_un hj).trans (am_nn hj)⟩
theorem c_copyOf2 {l : Launch} {G : AG} {M : AM} {e cap N : Nat} {f : Nat → Option Nat} (h : M.1 e = some (am_aq G 8 cap f)) (h1 : cap ≤ N) (hN : N < 65536) (hel : ∀ i y, i < cap → f i = some y → ∃ vs, M.1 y = some (.inr (2, vs))) : Cn l G yJ7_copyOf_1904c cJ7_copyOf_1904c 2 (some (.array (.object "java/lang/Object"))) { rJ7_copyOf_1904c with cells := 1, slots := N } M [.ref e, .int (nI N)] (fun v M' => ∃ e', v = some (.ref e') ∧ (∀ q x, M.1 q = some x → q < e') ∧ M'.1 e' = some (am_aq G 8 N (va_cpy f (fun _ => none) 0 0 cap)) ∧ ∀ q, q ≠ e' → M'.1 q = M.1 q) := by
  refine Cn.ofF (by decide +kernel) [some (.ref e), some (.int (nI N))] rfl (Nat.le_of_ble_eq_true rfl) ?_
  intro Z hZ
  obtain ⟨rfl, hn, rfl, hR, X, hr, hnm⟩ := hZ
  refine aw_aload0 X dJ7_copyOf_1904c_0 ?_
  refine aw_iload1 X dJ7_copyOf_1904c_1 ?_
  refine aw_aload0 X dJ7_copyOf_1904c_2 ?_
  refine aw_getC X X.mi h dJ7_copyOf_1904c_3 (by rw [hR]; exact Nat.le_of_ble_eq_true rfl) (by rw [hR]; exact Nat.le_of_ble_eq_true rfl) ?_
  refine aw_callS X (c_copyOf3 h h1 hN hel) kJ7_300 dJ7_copyOf_1904c_6 rfl rfl (by first | decide | exact Nat.le_of_ble_eq_true rfl) (by rw [hR]; exact ⟨by first | decide | exact Nat.le_of_ble_eq_true rfl | (dsimp only; omega), by first | decide | exact Nat.le_of_ble_eq_true rfl | (dsimp only; omega)⟩) (by rw [hR]; exact ⟨Nat.le_refl 1, by show 0 + N ≤ N; omega⟩) (fun v M1 hv => ?_)
  obtain ⟨e', rfl, hv⟩ := hv
  refine aw_widen (k' := 1) (n' := N) (Nat.le_refl 1) (by show 0 + N ≤ N; omega) ?_
  refine aw_areturn X hr (Or.inr ⟨_, rfl⟩) (Or.inr ⟨_, rfl⟩) dJ7_copyOf_1904c_9 ?_
  exact ⟨e', rfl, hv⟩
