/-- a chunk: its bytes and how often it is named -/
def isChunk (G : AG) (M : AM) (c : Nat) (b : List Int32) (t : Nat) : Prop := ∃ f : Nat → Int32, M.1 c = some (am_o 2 [.ref (c + 1), .int (nI b.length), .int (nI t)]) ∧ M.1 (c + 1) = some (am_ai G 40 f) ∧ b.length ≤ 40 ∧ ∀ k, k < b.length → f k = b.getD k 0
theorem isChunk.at {G : AG} {M : AM} {c t : Nat} {b : List Int32} (h : isChunk G M c b t) : M.1 c = some (am_o 2 [.ref (c + 1), .int (nI b.length), .int (nI t)]) := by
  obtain ⟨f, h1, -⟩ := h
  exact h1
theorem isChunk.le {G : AG} {M : AM} {c t : Nat} {b : List Int32} (h : isChunk G M c b t) : b.length ≤ 40 := by
  obtain ⟨f, h1, h2, h3, -⟩ := h
  exact h3
theorem isChunk.ks {G : AG} {M M' : AM} {c t : Nat} {b : List Int32} (h : isChunk G M c b t) (h1 : ∀ x, M.1 c = some x → M'.1 c = some x) (h2 : ∀ x, M.1 (c + 1) = some x → M'.1 (c + 1) = some x) : isChunk G M' c b t := by
  obtain ⟨f, a1, a2, a3⟩ := h
  exact ⟨f, h1 _ a1, h2 _ a2, a3⟩
theorem isChunk.out {G : AG} {M M' : AM} {c t a b : Nat} {bs : List Int32} (h : isChunk G M c bs t) (ho : am_out M M' a b) (hd : c + 2 ≤ a ∨ b ≤ c) : isChunk G M' c bs t := by
  obtain ⟨f, a1, a2, a3⟩ := h
  exact ⟨f, (ho _ (by omega)).trans a1, (ho _ (by omega)).trans a2, a3⟩
theorem sl_len {bs : List Int32} {a m : Nat} (ha : a + m ≤ bs.length) : ((bs.drop a).take m).length = m := by
  simp
  omega
theorem sl_get {bs : List Int32} {a m i : Nat} (ha : a + m ≤ bs.length) (hi : i < m) : ((bs.drop a).take m).getD i 0 = bs.getD (a + i) 0 := by
  simp [List.getD_eq_getElem?_getD, List.getElem?_take, hi]
theorem ls_ext {x y : List Int32} (hl : x.length = y.length) (h : ∀ i, i < x.length → x.getD i 0 = y.getD i 0) : x = y := by
  apply List.ext_getElem hl
  intro i h1 h2
  have := h i h1
  rw [List.getD_eq_getElem?_getD, List.getD_eq_getElem?_getD, List.getElem?_eq_getElem h1, List.getElem?_eq_getElem h2] at this
  exact this
theorem c_X1_init {l : Launch} {G : AG} {M : AM} {c : Nat} {x : Value} (h : M.1 c = some (am_o 2 [x, .int (nI 0), .int (nI 0)])) (hz : M.2 = some (c + 1)) : Cn l G yX1_init cX1_init 1 none { rX1_init with cells := 1, slots := 40 } M [.ref c] (fun v M' => v = none ∧ isChunk G M' c [] 0 ∧ M'.2 = some (c + 2) ∧ ∀ q, q ≠ c → q ≠ c + 1 → M'.1 q = M.1 q) := by
  refine Cn.of (by decide) [some (.ref c)] rfl (Nat.le_of_ble_eq_true rfl) ?_
  intro Z hZ
  obtain ⟨rfl, hn, rfl, hR, X, hr, hnm⟩ := hZ
  refine aw_aload0 X dX1_init_0 ?_
  refine aw_obj X olX1_3 oi_i oi_c dX1_init_1 (by rw [hR]; exact Nat.le_refl 1) (by rw [hR]; exact Nat.le_of_ble_eq_true rfl) ?_
  refine aw_aload0 X dX1_init_4 ?_
  refine aw_bipush X dX1_init_5 (v := nI 40) (by decide) ?_
  refine aw_newI X 40 dX1_init_7 rfl (by decide) (by rw [hR]; exact Nat.le_refl 1) (by rw [hR]; exact Nat.le_refl 40) ac_int (fun q hqA hlt hq => ?_)
  cases hq _ hz
  refine aw_putF0 X pX1_9 hnm dX1_init_9 ((am_nn (by omega)).trans h) rfl rfl ?_
  refine aw_widen (k' := 1) (n' := 40) (by omega) (by omega) ?_
  refine aw_vreturn X hr dX1_init_12 (⟨rfl, ⟨_, am_us, (am_un (by omega)).trans am_ns, Nat.zero_le _, fun k hk => absurd hk (Nat.not_lt_zero _)⟩, rfl, fun q h1 h2 => (am_un h1).trans (am_nn h2)⟩)
theorem c_X1_fill {l : Launch} {G : AG} {M : AM} {c t r a m : Nat} {b bs : List Int32} (h : isChunk G M c b t) (hr0 : isRow G M r bs) (ha : a + m ≤ bs.length) (hm : m ≤ 40) (hd : r + 2 ≤ c ∨ c + 2 ≤ r) : Cn l G yX1_fill cX1_fill 5 none rX1_fill M [.ref c, .ref r, .int (nI a), .int (nI m)] (fun v M' => v = none ∧ isChunk G M' c ((bs.drop a).take m) t ∧ am_out M M' c (c + 2)) := by
  obtain ⟨f, h1, h2, h3, h4⟩ := id h
  have hbl := hr0.le
  refine Cn.of (by decide) [some (.ref c), some (.ref r), some (.int (nI a)), some (.int (nI m)), none] rfl (Nat.le_of_ble_eq_true rfl) ?_
  intro Z hZ
  obtain ⟨rfl, hn, rfl, hR, X, hr, hnm⟩ := hZ
  refine aw_aload0 X dX1_fill_0 ?_
  refine aw_iload3 X dX1_fill_1 ?_
  refine aw_aload0 X dX1_fill_2 ?_
  refine aw_get X fX1_9 dX1_fill_3 (h1) rfl ?_
  refine aw_alen X dX1_fill_6 (h2) (t := 0) rfl rfl ?_
  refine aw_min X kX1_15 dX1_fill_7 (by omega) (by omega) (by rw [hR]; first | decide | exact Nat.le_of_ble_eq_true rfl | (dsimp only; omega)) (by rw [hR]; exact Nat.le_of_ble_eq_true rfl) (by rw [hR]; exact ⟨by first | decide | exact Nat.le_of_ble_eq_true rfl | (dsimp only; omega), by first | decide | exact Nat.le_of_ble_eq_true rfl | (dsimp only; omega)⟩) ?_
  refine aw_int (y := nI m) (by rw [Nat.min_eq_left hm]) ?_
  refine aw_put1 X pX1_21 dX1_fill_10 (h1) rfl rfl ?_
  refine aw_iconst X dX1_fill_13 (v := nI 0) (by decide) ?_
  refine aw_istore4 X dX1_fill_14 (by rw [hn]; decide) rfl ?_
  have hM0 : am_out M (am_up M c (am_o 2 [.ref (c + 1), .int (nI m), .int (nI t)])) c (c + 1) := am_out.up (by omega) (by omega)
  have hc0 : (am_up M c (am_o 2 [.ref (c + 1), .int (nI m), .int (nI t)])).1 c = some (am_o 2 [.ref (c + 1), .int (nI m), .int (nI t)]) := am_us
  generalize am_up M c (am_o 2 [.ref (c + 1), .int (nI m), .int (nI t)]) = M0 at hM0 hc0 ⊢
  refine aw_loop (σ := Nat × AM) (fun s => s.1 ≤ m ∧ am_out M0 s.2 (c + 1) (c + 2) ∧ ∃ f' : Nat → Int32, s.2.1 (c + 1) = some (am_ai (zG Z) 40 f') ∧ ∀ k, k < s.1 → f' k = bs.getD (a + k) 0) (fun s => m - s.1) (fun s => s.2) (fun s => [some (.ref c), some (.ref r), some (.int (nI a)), some (.int (nI m)), some (.int (nI s.1))]) ?_ (0, M0) ⟨Nat.zero_le _, am_out.rf, f, (hM0 _ (by omega)).trans h2, fun k hk => absurd hk (Nat.not_lt_zero _)⟩
  rintro ⟨i, M1⟩ ⟨hi, hout, f', m1, hlo⟩ ih
  dsimp only at hi hout m1 hlo ih ⊢
  have hc1 := (hout c (by omega)).trans hc0
  refine aw_iload4 X dX1_fill_16 ?_
  refine aw_aload0 X dX1_fill_18 ?_
  refine aw_get X fX1_21 dX1_fill_19 (hc1) rfl ?_
  refine aw_icmpge X dX1_fill_22 (tgt := 46) (by decide) (fun c9 => ?_) (fun c9 => ?_)
  · have e : i = m := by have := (nI_leI (by omega) (by omega)).mp c9; omega
    subst e
    refine aw_vreturn X hr dX1_fill_46 (⟨rfl, ⟨f', by rw [sl_len ha]; exact hc1, m1, by rw [sl_len ha]; exact hm, fun k hk => ?_⟩, (hM0.wd (by omega) (by omega)).tr (hout.wd (by omega) (by omega))⟩)
    rw [sl_len ha] at hk
    rw [sl_get ha hk]
    exact hlo k hk
  · have hlt : i < m := by
      rcases Nat.lt_or_ge i m with q | q
      · exact q
      · exact absurd (nI_le q (by omega)) c9
    have hr1 := (hr0.out hM0 (by omega)).out hout (by omega)
    obtain ⟨g, o1, -⟩ := id hr1
    refine aw_aload0 X dX1_fill_25 ?_
    refine aw_get X fX1_9 dX1_fill_26 (hc1) rfl ?_
    refine aw_iload4 X dX1_fill_29 ?_
    refine aw_aload1 X dX1_fill_31 ?_
    refine aw_iload2 X dX1_fill_32 ?_
    refine aw_iload4 X dX1_fill_33 ?_
    refine aw_iadd X dX1_fill_35 ?_
    first | with_reducible refine aw_int (nI_add _ _) ?_ | skip
    refine aw_callV X (c_X4_at hr1) kX1_25 (ci := 5) rfl (o1) dX1_fill_36 rfl rfl (by first | decide | exact Nat.le_of_ble_eq_true rfl) (by rw [hR]; exact ⟨by first | decide | exact Nat.le_of_ble_eq_true rfl | (dsimp only; omega), by first | decide | exact Nat.le_of_ble_eq_true rfl | (dsimp only; omega)⟩) (by rw [hR]; exact ⟨by first | decide | exact Nat.le_of_ble_eq_true rfl | (dsimp only; omega), by first | decide | exact Nat.le_of_ble_eq_true rfl | (dsimp only; omega)⟩) (fun v M2 hv => ?_)
    obtain ⟨rfl, rfl⟩ := hv
    refine aw_int (am_at_n (by omega)) ?_
    refine aw_iast X dX1_fill_39 m1 rfl (by omega) (by decide) ?_
    refine aw_iinc4 X dX1_fill_40 (by rw [hn]; decide) (am_inc _ 1) rfl ?_
    refine aw_goto X dX1_fill_43 (tgt := 16) (by decide) ?_
    refine ih (i + 1, _) ⟨by omega, hout.tr (am_out.up (by omega) (by omega)), upd f' i (bs.getD (a + i) 0), am_us, fun k hk => ?_⟩ (by dsimp only; omega)
    dsimp only at hk
    by_cases e : k = i
    · subst e
      rw [pk_us]
    · rw [pk_un e]
      exact hlo k (by omega)
theorem c_X1_isIn {l : Launch} {G : AG} {M : AM} {c t r a m : Nat} {b bs : List Int32} (h : isChunk G M c b t) (hr0 : isRow G M r bs) (ha : a + m ≤ bs.length) (hm : m ≤ 40) : Cn l G yX1_isIn cX1_isIn 5 (some .boolean) rX1_isIn M [.ref c, .ref r, .int (nI a), .int (nI m)] (fun v M' => M' = M ∧ v = some (.int (am_b (b = (bs.drop a).take m)))) := by
  obtain ⟨f, h1, h2, h3, h4⟩ := id h
  have hbl := hr0.le
  refine Cn.of (by decide) [some (.ref c), some (.ref r), some (.int (nI a)), some (.int (nI m)), none] rfl (Nat.le_of_ble_eq_true rfl) ?_
  intro Z hZ
  obtain ⟨rfl, hn, rfl, hR, X, hr, hnm⟩ := hZ
  refine aw_aload0 X dX1_isIn_0 ?_
  refine aw_get X fX1_21 dX1_isIn_1 (h1) rfl ?_
  refine aw_iload3 X dX1_isIn_4 ?_
  refine aw_icmpeq X dX1_isIn_5 (tgt := 10) (by decide) (fun c9 => ?_) (fun c9 => ?_)
  · have e : b.length = m := (nI_eq (by omega) (by omega)).mp c9
    refine aw_iconst X dX1_isIn_10 (v := nI 0) (by decide) ?_
    refine aw_istore4 X dX1_isIn_11 (by rw [hn]; decide) rfl ?_
    refine aw_loop (σ := Nat) (fun i => i ≤ m ∧ ∀ k, k < i → b.getD k 0 = bs.getD (a + k) 0) (fun i => m - i) (fun _ => M) (fun i => [some (.ref c), some (.ref r), some (.int (nI a)), some (.int (nI m)), some (.int (nI i))]) ?_ 0 ⟨Nat.zero_le _, fun k hk => absurd hk (Nat.not_lt_zero _)⟩
    rintro i ⟨hi, hlo⟩ ih
    dsimp only at hi hlo ih ⊢
    refine aw_iload4 X dX1_isIn_13 ?_
    refine aw_aload0 X dX1_isIn_15 ?_
    refine aw_get X fX1_21 dX1_isIn_16 (h1) rfl ?_
    refine aw_icmpge X dX1_isIn_19 (tgt := 48) (by decide) (fun c8 => ?_) (fun c8 => ?_)
    · have e2 : i = m := by have := (nI_leI (by omega) (by omega)).mp c8; omega
      subst e2
      have e3 : b = (bs.drop a).take i := ls_ext (by rw [sl_len ha]; exact e) (fun k hk => by rw [sl_get ha (by omega)]; exact hlo k (by omega))
      refine aw_iconst X dX1_isIn_48 (v := nI 1) (by decide) ?_
      refine aw_ireturn X (ty := .boolean) hr (by first | rfl | decide | assumption) dX1_isIn_49 (⟨rfl, by rw [am_b, if_pos e3]⟩)
    · have hlt : i < m := by
        rcases Nat.lt_or_ge i m with q | q
        · exact q
        · exact absurd (nI_le (by omega) (by omega)) c8
      obtain ⟨g, o1, -⟩ := id hr0
      refine aw_aload0 X dX1_isIn_22 ?_
      refine aw_get X fX1_9 dX1_isIn_23 (h1) rfl ?_
      refine aw_iload4 X dX1_isIn_26 ?_
      refine aw_iald X dX1_isIn_28 h2 rfl (by omega) (by decide) ?_
      refine aw_aload1 X dX1_isIn_29 ?_
      refine aw_iload2 X dX1_isIn_30 ?_
      refine aw_iload4 X dX1_isIn_31 ?_
      refine aw_iadd X dX1_isIn_33 ?_
      first | with_reducible refine aw_int (nI_add _ _) ?_ | skip
      refine aw_callV X (c_X4_at hr0) kX1_25 (ci := 5) rfl (o1) dX1_isIn_34 rfl rfl (by first | decide | exact Nat.le_of_ble_eq_true rfl) (by rw [hR]; exact ⟨by first | decide | exact Nat.le_of_ble_eq_true rfl | (dsimp only; omega), by first | decide | exact Nat.le_of_ble_eq_true rfl | (dsimp only; omega)⟩) (by rw [hR]; exact ⟨by first | decide | exact Nat.le_of_ble_eq_true rfl | (dsimp only; omega), by first | decide | exact Nat.le_of_ble_eq_true rfl | (dsimp only; omega)⟩) (fun v M2 hv => ?_)
      obtain ⟨rfl, rfl⟩ := hv
      refine aw_int (am_at_n (by omega)) ?_
      refine aw_icmpeq X dX1_isIn_37 (tgt := 42) (by decide) (fun c7 => ?_) (fun c7 => ?_)
      · refine aw_iinc4 X dX1_isIn_42 (by rw [hn]; decide) (am_inc _ 1) rfl ?_
        refine aw_goto X dX1_isIn_45 (tgt := 13) (by decide) ?_
        refine ih (i + 1) ⟨by omega, fun k hk => ?_⟩ (by omega)
        by_cases e5 : k = i
        · subst e5
          rw [← h4 k (by omega)]
          exact c7
        · exact hlo k (by omega)
      · refine aw_iconst X dX1_isIn_40 (v := nI 0) (by decide) ?_
        have e3 : ¬ b = (bs.drop a).take m := fun e4 => c7 (by
          rw [h4 i (by omega), e4, sl_get ha hlt])
        refine aw_ireturn X (ty := .boolean) hr (by first | rfl | decide | assumption) dX1_isIn_41 (⟨rfl, by rw [am_b, if_neg e3]⟩)
  · have e : ¬ b = (bs.drop a).take m := fun e4 => c9 (by rw [e4, sl_len ha])
    refine aw_iconst X dX1_isIn_8 (v := nI 0) (by decide) ?_
    refine aw_ireturn X (ty := .boolean) hr (by first | rfl | decide | assumption) dX1_isIn_9 (⟨rfl, by rw [am_b, if_neg e]⟩)
