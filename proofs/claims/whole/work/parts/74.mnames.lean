/-! the model's papers: where a chunk begins, how often its bytes are named -/
theorem off_succ {l : List (List Int32)} {k : Nat} (h : k < l.length) : (l.take (k + 1)).flatten.length = (l.take k).flatten.length + (l.getD k []).length := by
  rw [take_snoc h, List.flatten_append, List.length_append]
  simp
theorem off_le (l : List (List Int32)) (k : Nat) : (l.take k).flatten.length ≤ l.flatten.length := by
  conv => rhs; rw [← List.take_append_drop k l, List.flatten_append, List.length_append]
  exact Nat.le_add_right _ _
theorem flat_get {l : List (List Int32)} {k i : Nat} (h : k < l.length) (hi : i < (l.getD k []).length) : l.flatten.getD ((l.take k).flatten.length + i) 0 = (l.getD k []).getD i 0 := by
  have e : l.flatten = (l.take k).flatten ++ ((l.getD k []) ++ (l.drop (k + 1)).flatten) := by
    conv => lhs; rw [← List.take_append_drop (k + 1) l, List.flatten_append, take_snoc h, List.flatten_append]
    simp
  rw [e, gd_r, gd_l hi]
theorem okP.off {l : List (List Int32)} (h : okP l) {k : Nat} (hk : k < l.length) : (l.take k).flatten.length + (l.getD k []).length ≤ 120 := by
  rw [← off_succ hk]
  exact Nat.le_trans (off_le _ _) h.1
theorem okP.le40 {l : List (List Int32)} (h : okP l) {k : Nat} (hk : k < l.length) : 0 < (l.getD k []).length ∧ (l.getD k []).length ≤ 40 := by
  refine h.2.2 _ ?_
  rw [List.getD_eq_getElem?_getD, List.getElem?_eq_getElem hk]
  exact List.getElem_mem hk
theorem c_X9_begin {l : Launch} {G : AG} {M0 M : AM} {y p k : Nat} {A : MA} {S : Nat → Int64} {c : Nat → Int32} {m : List (List Int32)} (h : md G M0 M y A S c) (hp : p < 12) (hr : pRel A p (some m)) (hk : k ≤ m.length) : Cn l G yX9_begin cX9_begin 5 (some .int) rX9_begin M [.ref y, .int (nI p), .int (nI k)] (fun v M' => M' = M ∧ v = some (.int (nI (120 * p + (m.take k).flatten.length)))) := by
  obtain ⟨w1, w2, w3, w4, w5⟩ := hr
  have hml := w2.2.1
  refine Cn.of (by decide) [some (.ref y), some (.int (nI p)), some (.int (nI k)), none, none] rfl (Nat.le_of_ble_eq_true rfl) ?_
  intro Z hZ
  obtain ⟨rfl, hn, rfl, hR, X, hr, hnm⟩ := hZ
  refine aw_bipush X dX9_begin_0 (v := nI 120) (by decide) ?_
  refine aw_iload1 X dX9_begin_2 ?_
  refine aw_imul X dX9_begin_3 ?_
  first | with_reducible refine aw_int (pk_mul _ _) ?_ | skip
  refine aw_istore3 X dX9_begin_4 (by rw [hn]; decide) rfl ?_
  refine aw_iconst X dX9_begin_5 (v := nI 0) (by decide) ?_
  refine aw_istore4 X dX9_begin_6 (by rw [hn]; decide) rfl ?_
  refine aw_loop (σ := Nat) (fun i => i ≤ k) (fun i => k - i) (fun _ => M) (fun i => [some (.ref y), some (.int (nI p)), some (.int (nI k)), some (.int (nI (120 * p + (m.take i).flatten.length))), some (.int (nI i))]) ?_ 0 (Nat.zero_le _)
  intro i hi ih
  try dsimp only at hi ih ⊢
  refine aw_iload4 X dX9_begin_8 ?_
  refine aw_iload2 X dX9_begin_10 ?_
  refine aw_icmpge X dX9_begin_11 (tgt := 35) (by decide) (fun c1 => ?_) (fun c1 => ?_)
  · have e : i = k := by have := (nI_leI (by omega) (by omega)).mp c1; omega
    subst e
    refine aw_iload3 X dX9_begin_35 ?_
    refine aw_ireturn X (ty := .int) hr (by first | rfl | decide | assumption) dX9_begin_36 (⟨rfl, rfl⟩)
  · have hlt : i < k := by
      rcases Nat.lt_or_ge i k with q | q
      · exact q
      · exact absurd (nI_le q (by omega)) c1
    have q := ih (i + 1) hlt (by omega)
    rw [off_succ (by omega), ← Nat.add_assoc] at q
    refine aw_iload3 X dX9_begin_14 ?_
    refine aw_aload0 X dX9_begin_15 ?_
    refine aw_get X fX9_94 dX9_begin_16 (h.at) rfl ?_
    refine aw_bipush X dX9_begin_19 (v := nI 120) (by decide) ?_
    refine aw_iload1 X dX9_begin_21 ?_
    refine aw_imul X dX9_begin_22 ?_
    first | with_reducible refine aw_int (pk_mul _ _) ?_ | skip
    refine aw_iload4 X dX9_begin_23 ?_
    refine aw_iadd X dX9_begin_25 ?_
    first | with_reducible refine aw_int (nI_add _ _) ?_ | skip
    refine aw_iald X dX9_begin_26 (h.ai 25 rfl) rfl (by omega) (by decide) ?_
    refine aw_int (w4 i (by omega)) ?_
    refine aw_iadd X dX9_begin_27 ?_
    first | with_reducible refine aw_int (nI_add _ _) ?_ | skip
    refine aw_istore3 X dX9_begin_28 (by rw [hn]; decide) rfl ?_
    refine aw_iinc4 X dX9_begin_29 (by rw [hn]; decide) (am_inc _ 1) rfl ?_
    refine aw_goto X dX9_begin_32 (tgt := 8) (by decide) ?_
    exact q
/-- the papers without one of them -/
def Pw (P : PS) : Option Nat → PS
  | none => P
  | some p => va_up P p none
/-- the chunks up to a paper, of that paper only the first ones -/
def upto (Q : PS) (lp kk : Nat) (p : Nat) : List (List Int32) := if p ≤ lp then allB Q p else allB Q lp ++ ((Q lp).getD []).take kk
def lstN (Q : PS) (lp kk p : Nat) : Nat := if p = lp then min kk ((Q lp).getD []).length else ((Q p).getD []).length
theorem upto_succ {Q : PS} {lp kk p : Nat} (h : p ≤ lp) : upto Q lp kk (p + 1) = upto Q lp kk p ++ ((Q p).getD []).take (lstN Q lp kk p) := by
  unfold upto lstN
  rw [if_pos h]
  by_cases e : p = lp
  · subst e
    rw [if_neg (by omega), if_pos rfl, ← List.take_take, List.take_length]
  · rw [if_pos (by omega), if_neg e, List.take_length, allB]
theorem upto_end {Q : PS} {lp kk : Nat} : upto Q lp kk (lp + 1) = allB Q lp ++ ((Q lp).getD []).take kk := by
  unfold upto
  rw [if_neg (by omega)]
theorem cnt_succ {l : List (List Int32)} {b : List Int32} {k : Nat} (h : k < l.length) : List.count b (l.take (k + 1)) = List.count b (l.take k) + if l.getD k [] = b then 1 else 0 := by
  rw [take_snoc h, List.count_append, List.count_singleton]
  congr 1
  by_cases e : l.getD k [] = b
  · rw [if_pos e, if_pos (by simpa using e)]
  · rw [if_neg e, if_neg (by simpa using e)]
theorem cnt_len {l : List (List Int32)} {b : List Int32} : List.count b l ≤ l.length := List.count_le_length
theorem okP.empty {P : PS} (h : ∀ i, i < 12 → ∀ l, P i = some l → okP l) {i : Nat} (hi : i < 12) : ((P i).getD []).length ≤ 120 := by
  cases e : P i with
  | none => exact Nat.zero_le _
  | some l => exact (h i hi l e).2.1
theorem allB_len {P : PS} (h : ∀ i, i < 12 → ((P i).getD []).length ≤ 120) : ∀ n, n ≤ 12 → (allB P n).length ≤ 120 * n
  | 0, _ => Nat.le_refl _
  | n + 1, hn => by
    rw [allB, List.length_append]
    have := allB_len h n (by omega)
    have := h n (by omega)
    omega
theorem Pw_ok {P : PS} {w : Option Nat} (h : ∀ i, i < 12 → ∀ l, P i = some l → okP l) : ∀ i, i < 12 → ∀ l, Pw P w i = some l → okP l := by
  intro i hi l e
  cases w with
  | none => exact h i hi l e
  | some p =>
    have e : va_up P p none i = some l := e
    by_cases q : i = p
    · subst q
      rw [va_up_self] at e
      cases e
    · rw [va_up_ne _ _ q] at e
      exact h i hi l e
theorem Pw_some {P : PS} {w : Option Nat} {i : Nat} {l : List (List Int32)} (h : Pw P w i = some l) : P i = some l ∧ w ≠ some i := by
  cases w with
  | none => exact ⟨h, fun e => by cases e⟩
  | some p =>
    have e : va_up P p none i = some l := h
    by_cases q : i = p
    · subst q
      rw [va_up_self] at e
      cases e
    · rw [va_up_ne _ _ q] at e
      exact ⟨e, fun e2 => by cases e2; exact q rfl⟩
theorem Pw_none {P : PS} {w : Option Nat} {i : Nat} (h : Pw P w i = none) : P i = none ∨ w = some i := by
  cases w with
  | none => exact Or.inl h
  | some p =>
    have e : va_up P p none i = none := h
    by_cases q : i = p
    · exact Or.inr (by rw [q])
    · rw [va_up_ne _ _ q] at e
      exact Or.inl e
/-- two runs of bytes are alike up to a place -/
def eqTo (a b : List Int32) : Nat → Bool
  | 0 => true
  | i + 1 => eqTo a b i && decide (b.getD i 0 = a.getD i 0)
theorem eqTo_all {a b : List Int32} : ∀ {n}, eqTo a b n = true ↔ ∀ i, i < n → b.getD i 0 = a.getD i 0
  | 0 => ⟨fun _ i hi => absurd hi (Nat.not_lt_zero _), fun _ => rfl⟩
  | n + 1 => by
    rw [eqTo, Bool.and_eq_true, eqTo_all, decide_eq_true_eq]
    constructor
    · rintro ⟨h1, h2⟩ i hi
      by_cases e : i = n
      · rw [e]
        exact h2
      · exact h1 i (by omega)
    · exact fun h => ⟨fun i hi => h i (by omega), h n (by omega)⟩
theorem eqTo_off {a b : List Int32} {i : Nat} (h : eqTo a b i = false) : ∀ {n}, i ≤ n → eqTo a b n = false
  | 0, hn => by
    rw [show i = 0 by omega] at h
    exact h
  | n + 1, hn => by
    by_cases e : i = n + 1
    · rw [← e]
      exact h
    · rw [eqTo, eqTo_off h (by omega), Bool.false_and]
theorem eq_of_to {a b : List Int32} (hl : a.length = b.length) (h : eqTo a b b.length = true) : a = b := by
  refine List.ext_getElem hl (fun i h1 h2 => ?_)
  have := eqTo_all.mp h i h2
  rw [List.getD_eq_getElem?_getD, List.getD_eq_getElem?_getD, List.getElem?_eq_getElem h1, List.getElem?_eq_getElem h2] at this
  exact this.symm
