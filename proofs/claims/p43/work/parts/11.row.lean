theorem am_k {M : AM} {q j : Nat} {e : va_E} {x : Option va_E} (h : M.1 j = x) (hn : j ≠ q) : (am_up M q e).1 j = x := (am_un hn).trans h
/-! numbers -/
theorem am_inc (i j : Nat) : nI i + Int32.ofInt (j : Int) = nI (i + j) := by
  rw [← nI_add]
  congr 1
theorem am_dec (i : Nat) : nI (i + 1) + Int32.ofInt (-1) = nI i := pk_m1 i
theorem am_ix {x : Int32} {n : Nat} (h1 : ¬ x < 0) (h2 : ¬ nI n ≤ x) (hn : n < 2 ^ 31) : ∃ j : Nat, j < n ∧ x = nI j := by
  rcases pk_ix x hn with h | h | h
  · exact absurd h h1
  · exact absurd h h2
  · exact h
/-- a byte at a place that may be none -/
def am_at (bs : List Int32) (x : Int32) : Int32 := if x < 0 then 0 else bs.getD x.toNatClampNeg 0
theorem am_at_n {bs : List Int32} {k : Nat} (h : k < 2 ^ 31) : am_at bs (nI k) = bs.getD k 0 := by
  rw [am_at, if_neg (nI_pos h), nI_clamp h]
theorem am_at_hi {bs : List Int32} {x : Int32} (hl : bs.length < 2 ^ 31) (h : nI bs.length ≤ x) : am_at bs x = 0 := by
  by_cases h0 : x < 0
  · rw [am_at, if_pos h0]
  · rw [am_at, if_neg h0]
    obtain ⟨j, hj, rfl⟩ := nI_of h0
    rw [nI_clamp hj]
    have := (nI_leI hl hj).mp h
    simp [List.getD, List.getElem?_eq_none this]
/-! rows: the bytes of a file -/
def isRow (G : AG) (M : AM) (r : Nat) (bs : List Int32) : Prop := ∃ f : Nat → Int32, M.1 r = some (am_o 5 [.ref (r + 1), .int (nI bs.length)]) ∧ M.1 (r + 1) = some (am_ai G 120 f) ∧ bs.length ≤ 120 ∧ ∀ k, k < bs.length → f k = bs.getD k 0
theorem isRow.out {G : AG} {M M' : AM} {r a b : Nat} {bs : List Int32} (h : isRow G M r bs) (ho : am_out M M' a b) (hd : r + 2 ≤ a ∨ b ≤ r) : isRow G M' r bs := by
  obtain ⟨f, h1, h2, h3, h4⟩ := h
  exact ⟨f, (ho r (by omega)).trans h1, (ho (r + 1) (by omega)).trans h2, h3, h4⟩
theorem isRow.le {G : AG} {M : AM} {r : Nat} {bs : List Int32} (h : isRow G M r bs) : bs.length ≤ 120 := by
  obtain ⟨f, h1, h2, h3, h4⟩ := h
  exact h3
theorem c_X4_at {l : Launch} {G : AG} {M : AM} {r : Nat} {x : Int32} {bs : List Int32} (h : isRow G M r bs) : Cn l G yX4_at cX4_at 2 (some .int) rX4_at M [.ref r, .int x] (fun v M' => M' = M ∧ v = some (.int (am_at bs x))) := by
  obtain ⟨f, h1, h2, hl, hf⟩ := h
  refine Cn.of (by decide) [some (.ref r), some (.int x)] rfl (Nat.le_of_ble_eq_true rfl) ?_
  intro Z hZ
  obtain ⟨rfl, hn, rfl, hR, X, hr, hnm⟩ := hZ
  refine aw_iload1 X dX4_at_0 ?_
  refine aw_iflt X dX4_at_1 (tgt := 21) (by decide) (fun c => ?_) (fun c => ?_)
  · refine aw_iconst X dX4_at_21 (v := nI 0) (by decide) ?_
    refine aw_ireturn X (ty := .int) hr (by first | rfl | decide | assumption) dX4_at_22 (⟨rfl, by rw [am_at, if_pos c, nI_0]⟩)
  · refine aw_iload1 X dX4_at_4 ?_
    refine aw_aload0 X dX4_at_5 ?_
    refine aw_get X fX4_15 dX4_at_6 (h1) rfl ?_
    refine aw_icmpge X dX4_at_9 (tgt := 21) (by decide) (fun c2 => ?_) (fun c2 => ?_)
    · refine aw_iconst X dX4_at_21 (v := nI 0) (by decide) ?_
      refine aw_ireturn X (ty := .int) hr (by first | rfl | decide | assumption) dX4_at_22 (⟨rfl, by rw [am_at_hi (by omega) c2, nI_0]⟩)
    · obtain ⟨j, hj, rfl⟩ := am_ix c c2 (by omega)
      refine aw_aload0 X dX4_at_12 ?_
      refine aw_get X fX4_9 dX4_at_13 (h1) rfl ?_
      refine aw_iload1 X dX4_at_16 ?_
      refine aw_iald X dX4_at_17 h2 rfl (by omega) (by decide) ?_
      refine aw_goto X dX4_at_18 (tgt := 22) (by decide) ?_
      refine aw_ireturn X (ty := .int) hr (by first | rfl | decide | assumption) dX4_at_22 (⟨rfl, by rw [am_at_n (by omega), hf j hj]⟩)
theorem c_X4_append {l : Launch} {G : AG} {M : AM} {r : Nat} {y : Int32} {bs : List Int32} (h : isRow G M r bs) (hlen : bs.length < 120) : Cn l G yX4_append cX4_append 2 none rX4_append M [.ref r, .int y] (fun v M' => isRow G M' r (bs ++ [y]) ∧ am_out M M' r (r + 2) ∧ v = none) := by
  obtain ⟨f, h1, h2, hl, hf⟩ := h
  refine Cn.of (by decide) [some (.ref r), some (.int y)] rfl (Nat.le_of_ble_eq_true rfl) ?_
  intro Z hZ
  obtain ⟨rfl, hn, rfl, hR, X, hr, hnm⟩ := hZ
  refine aw_aload0 X dX4_append_0 ?_
  refine aw_get X fX4_15 dX4_append_1 (h1) rfl ?_
  refine aw_aload0 X dX4_append_4 ?_
  refine aw_get X fX4_9 dX4_append_5 (h1) rfl ?_
  refine aw_alen X dX4_append_8 (h2) (t := 0) rfl rfl ?_
  refine aw_icmpge X dX4_append_9 (tgt := 32) (by decide) (fun c9 => by first | exact absurd (nI_ge hlen (by omega)) c9 | exact absurd c9 (nI_ge hlen (by omega))) (fun _ => ?_)
  refine aw_aload0 X dX4_append_12 ?_
  refine aw_get X fX4_9 dX4_append_13 (h1) rfl ?_
  refine aw_aload0 X dX4_append_16 ?_
  refine aw_get X fX4_15 dX4_append_17 (h1) rfl ?_
  refine aw_iload1 X dX4_append_20 ?_
  refine aw_iast X dX4_append_21 h2 rfl hlen (by decide) ?_
  have h1' := (am_un (M := M) (q := r + 1) (e := am_ai (zG Z) 120 (upd f bs.length y)) (j := r) (by omega)).trans h1
  refine aw_aload0 X dX4_append_22 ?_
  refine aw_dup X dX4_append_23 rfl ?_
  refine aw_get X fX4_15 dX4_append_24 (h1') rfl ?_
  refine aw_iconst X dX4_append_27 (v := nI 1) (by decide) ?_
  refine aw_iadd X dX4_append_28 ?_
  first | with_reducible refine aw_int (nI_add _ _) ?_ | skip
  refine aw_put1 X pX4_15 dX4_append_29 (h1') rfl rfl ?_
  refine aw_vreturn X hr dX4_append_32 (?_)
  refine ⟨⟨upd f bs.length y, ?_, ?_, by simp; omega, fun k hk => ?_⟩, fun q hq => ?_, rfl⟩
  · rw [am_us]
    simp
  · rw [am_un (by omega), am_us]
  · by_cases e : k = bs.length
    · subst e
      simp [upd]
    · have hk' : k < bs.length := by simp at hk; omega
      rw [pk_un e, hf k hk']
      simp [List.getD, List.getElem?_append_left hk']
  · rw [am_un (by omega), am_un (by omega)]
