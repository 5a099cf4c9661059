/-! the layer of maps: what the heap holds is told by a map from addresses to cells -/
abbrev AM : Type := (Nat → Option va_E) × Option Nat
def am_up (M : AM) (q : Nat) (e : va_E) : AM := (fun j => if j = q then some e else M.1 j, M.2)
/-- a new cell: the heap's end is told behind it -/
def am_nw (M : AM) (q : Nat) (e : va_E) : AM := (fun j => if j = q then some e else M.1 j, some (q + 1))
theorem am_us {M : AM} {q : Nat} {e : va_E} : (am_up M q e).1 q = some e := if_pos rfl
theorem am_un {M : AM} {q j : Nat} {e : va_E} (h : j ≠ q) : (am_up M q e).1 j = M.1 j := if_neg h
theorem am_uu {M : AM} {q : Nat} {e e' : va_E} : am_up (am_up M q e) q e' = am_up M q e' := by
  refine Prod.ext ?_ rfl
  funext j
  by_cases h : j = q
  · simp [am_up, h]
  · simp [am_up, h]
theorem am_ns {M : AM} {q : Nat} {e : va_E} : (am_nw M q e).1 q = some e := if_pos rfl
theorem am_nn {M : AM} {q j : Nat} {e : va_E} (h : j ≠ q) : (am_nw M q e).1 j = M.1 j := if_neg h
/-- outside of a .. b nothing is changed -/
def am_out (M M' : AM) (a b : Nat) : Prop := ∀ q : Nat, q < a ∨ b ≤ q → M'.1 q = M.1 q
theorem am_out.rf {M : AM} {a b : Nat} : am_out M M a b := fun _ _ => rfl
theorem am_out.tr {M M' M'' : AM} {a b : Nat} (h : am_out M M' a b) (h' : am_out M' M'' a b) : am_out M M'' a b := fun q hq => (h' q hq).trans (h q hq)
theorem am_out.wd {M M' : AM} {a b a' b' : Nat} (h : am_out M M' a b) (h1 : a' ≤ a) (h2 : b ≤ b') : am_out M M' a' b' := fun q hq => h q (by omega)
theorem am_out.up {M : AM} {q a b : Nat} {e : va_E} (h1 : a ≤ q) (h2 : q < b) : am_out M (am_up M q e) a b := fun j hj => am_un (by omega)
/-- D: the classes; the classes of arrays; the least address that is the law's own; the address of the list's static empty array; that of the Class object of Object[] -/
abbrev AG : Type := va_G × (Nat → ClassId) × Nat × (Nat × Nat)
def am_A (G : AG) : Nat → Prop := fun q => G.2.2.1 ≤ q
def am_tys (G : AG) : List (ClassId × FieldType) := [(G.2.1 0, .int), (G.2.1 1, .long), (G.2.1 2, .boolean), (G.2.1 3, .object "RollSync$Row"), (G.2.1 4, .object "RollSync$Signature"), (G.2.1 5, .object "RollSync$Delta"), (G.2.1 6, .object "RollSync$Version"), (G.2.1 7, .object "RollSync$Paper"), (G.2.1 8, .object "java/lang/Object")]
/-- the cells -/
abbrev am_ai (G : AG) (n : Nat) (f : Nat → Int32) : va_E := .inl (G.2.1 0, n, .inl f)
abbrev am_al (G : AG) (n : Nat) (f : Nat → Int64) : va_E := .inl (G.2.1 1, n, .inr (.inl f))
abbrev am_az (G : AG) (n : Nat) (f : Nat → Int32) : va_E := .inl (G.2.1 2, n, .inl f)
abbrev am_aq (G : AG) (t n : Nat) (f : Nat → Option Nat) : va_E := .inl (G.2.1 t, n, .inr (.inr (.inr (.inr f))))
abbrev am_o (ci : Nat) (fs : List Value) : va_E := .inr (ci, fs)
/-- the words that go along wherever the tables go -/
def am_ok : Cond → Bool
  | .fieldLinkNest .. => true
  | .methodLinkNest .. => true
  | .castable .. => true
  | .declares .. => true
  | .arrayOver (.object _) => true
  | w => goodWord w
theorem am_ok_tab {w : Cond} (h : am_ok w = true) : w.onTables = true ∨ ∃ ty, w = .arrayClass ty ∨ w = .arrayOver ty := by
  cases w <;> first | exact Or.inl rfl | exact Or.inr ⟨_, Or.inl rfl⟩ | exact Or.inr ⟨_, Or.inr rfl⟩ | (simp only [am_ok, goodWord, Bool.and_eq_true] at h; exact Or.inl h.1)
theorem am_ok_any {w : Cond} (h : am_ok w = true) {A A' : Array Value} {U : State} (hb : w.before A U = true) : w.before A' U = true := by
  rcases am_ok_tab h with h1 | ⟨ty, rfl | rfl⟩
  · exact va_tabs h1 rfl hb
  · exact hb
  · exact hb
theorem am_ok_mv {w : Cond} (h : am_ok w = true) {s U : State} (hW : s.WarmedH U.vm) (hb : w.before #[] s = true) : w.before #[] U = true := by
  cases w with
  | fieldLinkNest a b c d e f => exact va_Nw.warmF hW hb
  | methodLinkNest a b c d => exact va_Nw.warmM hW hb
  | castable a b => exact va_Nw.warmC hW hb
  | declares a => exact va_Nw.warmD hW hb
  | arrayOver t =>
    cases t with
    | object C => exact va_AO.moved hW.alike hb
    | _ => exact word_at hW (good_of_word h) hb
  | _ => exact word_at hW (good_of_word h) hb
/-- the list's static empty array -/
abbrev am_dN : String := "DEFAULTCAPACITY_EMPTY_ELEMENTDATA"
abbrev am_dD : String := "[Ljava/lang/Object;"
def am_strs : List (Nat × String) := [(54, "there are 6 files"), (264, "no such number"), (269, "out of its range"), (70, "the file would have more than 120 bytes"), (79, "the file has 120 bytes"), (121, "no signature in its place"), (151, "no delta, or a copy goes beyond the basis"), (277, "there are 20 versions"), (279, "the version is broken"), (214, "there are 12 papers"), (275, "no such paper")]
/-- what holds of the tables and of what nobody writes, in each frame -/
def am_E (G : AG) (U : State) : Prop :=
  (∀ w ∈ lw_tbl, am_ok w = true → w.before #[] U = true) ∧ va_K G.1 vwCl (am_tys G) U ∧
  vx_Zq Bundle.tN "UNASSIGNED_STACK" Bundle.steD (am_A G) U U.heap ∧ vx_Zq Bundle.tN "SUPPRESSED_SENTINEL" Bundle.listD (am_A G) U U.heap ∧
  va_Z "java/util/ArrayList" am_dN am_dD (.ref G.2.2.2.1) (am_A G) U U.heap ∧ ((∃ cell : Cell, U.heap[G.2.2.2.1]? = some cell ∧ U.isArrayOf cell (.object "java/lang/Object") ∧ cell.slots.size.toInt32 = nI 0) ∧ ¬ am_A G G.2.2.2.1) ∧
  (∀ q ∈ am_strs, ∃ sa, vk_R "RollSync" q.1 q.2 sa U) ∧ va_Mi "[Ljava/lang/Object;" G.2.2.2.2 U ∧ G.2.2.1 ≤ U.heap.size
theorem am_E.mv {G : AG} {s U : State} {locs : List Loc} (h : am_E G s) (hW : s.WarmedH U.vm) (hS : va_S (am_A G) s.heap U.heap locs) : am_E G U := by
  obtain ⟨h1, h2, h3, h4, h5, ⟨⟨cell, z1, z2, z3⟩, h6a⟩, h7, h8, h9⟩ := h
  have hq : ∀ a : Nat, a < s.heap.size → ¬ am_A G a → U.heap[a]? = s.heap[a]? := hS.2.1
  refine ⟨fun w hw hk => am_ok_mv hk hW (h1 w hw hk), va_K.moved hW.alike h2, vx_Zq.moved hW.alike (h3.kept hq), vx_Zq.moved hW.alike (h4.kept hq), va_Z.moved hW.alike (h5.kept hq), ⟨⟨cell, ?_, State.isArrayOf_alike hW.alike z2, z3⟩, h6a⟩, fun q hm => ?_, va_Mi.moved hW.alike h8, Nat.le_trans h9 hS.1⟩
  · rw [hq _ (Array.getElem?_eq_some_iff.mp z1).1 h6a]
    exact z1
  · obtain ⟨sa, hr⟩ := h7 q hm
    exact ⟨sa, vk_R.warm hW hr⟩
theorem am_E.cl {G : AG} {U : State} {g : JFrame} {mk : MethodId} {a : Array Value} (h : am_E G U) : am_E G (U.calling g mk a) :=
  h.mv (U := U.calling g mk a) (locs := []) (State.WarmedH.refl U) va_S.rf
/-- the heap holds what the map tells -/
def am_H (G : AG) (M : AM) (H : Heap) : Prop := (∀ (q : Nat) (e : va_E), M.1 q = some e → va_at G.1 vwCl (q, e) H ∧ am_A G q) ∧ ∀ z : Nat, M.2 = some z → H.size = z
theorem am_H.lt {G : AG} {M : AM} {H : Heap} (h : am_H G M H) {q : Nat} {e : va_E} (hq : M.1 q = some e) : q < H.size := (h.1 q e hq).1.lt
theorem am_H.put {G : AG} {M : AM} {H H1 : Heap} {a : Nat} {e0 e : va_E} (h : am_H G M H) (ha : M.1 a = some e0) (he : va_at G.1 vwCl (a, e) H1) (z1 : H1.size = H.size) (oq : ∀ q : Nat, q ≠ a → H1[q]? = H[q]?) : am_H G (am_up M a e) H1 := by
  refine ⟨fun q x hq => ?_, fun z hz => z1.trans (h.2 z hz)⟩
  by_cases hqa : q = a
  · subst hqa
    rw [am_us] at hq
    cases hq
    exact ⟨he, (h.1 _ _ ha).2⟩
  · rw [am_un hqa] at hq
    exact ⟨(h.1 _ _ hq).1.kept (oq q hqa), (h.1 _ _ hq).2⟩
theorem am_H.add {G : AG} {M : AM} {H H1 : Heap} {a : Nat} {e : va_E} (h : am_H G M H) (ha : H.size = a) (hA : am_A G a) (he : va_at G.1 vwCl (a, e) H1) (z1 : H1.size = a + 1) (oq : ∀ q : Nat, q < a → H1[q]? = H[q]?) : am_H G (am_nw M a e) H1 := by
  refine ⟨fun q x hq => ?_, fun z hz => ?_⟩
  · by_cases hqa : q = a
    · subst hqa
      rw [am_ns] at hq
      cases hq
      exact ⟨he, hA⟩
    · rw [am_nn hqa] at hq
      have hl := h.lt hq
      exact ⟨(h.1 _ _ hq).1.kept (oq q (by omega)), (h.1 _ _ hq).2⟩
  · simp only [am_nw, Option.some.injEq] at hz
    omega
theorem am_H.P {G : AG} {M : AM} {H : Heap} (h : am_H G M H) {q : Nat} {e : va_E} (hq : M.1 q = some e) : va_P G.1 vwCl [(q, e)] H := by
  intro k x hx
  have hz : k < 1 := (List.getElem?_eq_some_iff.mp hx).1
  rw [show k = 0 by omega] at hx
  cases hx
  exact (h.1 q e hq).1
theorem am_S.put {A : Nat → Prop} {H0 H H1 : Heap} {locs : List Loc} {a k : Nat} (h : va_S A H0 H locs) (z : H1.size = H.size) (oq : ∀ q : Nat, q ≠ a → H1[q]? = H[q]?) (ha : A a) : va_S A H0 H1 (locs ++ [⟨a, k⟩]) := h.put z oq ha
theorem am_S.add {A : Nat → Prop} {H0 H H1 : Heap} {locs : List Loc} {h : Nat} (hS : va_S A H0 H locs) (hh : H.size = h) (z : H1.size = h + 1) (oq : ∀ q : Nat, q < h → H1[q]? = H[q]?) : va_S A H0 H1 locs :=
  ⟨Nat.le_trans hS.1 (by omega), fun x h1 h2 => (oq x (by have := hS.1; omega)).trans (hS.2.1 x h1 h2), hS.2.2⟩
/-- the locals, by their places -/
def am_L (ls : Array Slot) (nL : Nat) (L : List (Option Value)) : Prop := ls.size = nL ∧ lv_wf ls ∧ ∀ (k : Nat) (v : Value), L[k]? = some (some v) → ls[k]? = some (.val v)
def am_pr : Nat → List (Option Value) → List (Nat × Value)
  | _, [] => []
  | n, none :: t => am_pr (n + 1) t
  | n, some v :: t => (n, v) :: am_pr (n + 1) t
theorem am_pr_in : ∀ (L : List (Option Value)) (n : Nat) (q : Nat × Value), q ∈ am_pr n L ↔ ∃ k, q.1 = n + k ∧ L[k]? = some (some q.2)
  | [], n, q => by simp [am_pr]
  | none :: t, n, q => by
    rw [am_pr, am_pr_in t (n + 1) q]
    constructor
    · rintro ⟨k, h1, h2⟩
      exact ⟨k + 1, by omega, by simpa using h2⟩
    · rintro ⟨k, h1, h2⟩
      cases k with
      | zero => simp at h2
      | succ k => exact ⟨k, by omega, by simpa using h2⟩
  | some v :: t, n, q => by
    rw [am_pr, List.mem_cons, am_pr_in t (n + 1) q]
    constructor
    · rintro (rfl | ⟨k, h1, h2⟩)
      · exact ⟨0, rfl, rfl⟩
      · exact ⟨k + 1, by omega, by simpa using h2⟩
    · rintro ⟨k, h1, h2⟩
      cases k with
      | zero =>
        left
        obtain ⟨a, b⟩ := q
        simp at h1 h2
        rw [h1, h2]
      | succ k => exact Or.inr ⟨k, by omega, by simpa using h2⟩
theorem am_L.has {ls : Array Slot} {nL : Nat} {L : List (Option Value)} (h : am_L ls nL L) : lv_has ls nL (am_pr 0 L) := by
  refine ⟨h.1, h.2.1, fun q hq => ?_⟩
  obtain ⟨k, h1, h2⟩ := (am_pr_in L 0 q).mp hq
  rw [h1, Nat.zero_add]
  exact h.2.2 k q.2 h2
theorem am_L.of {ls : Array Slot} {nL : Nat} {l : List (Nat × Value)} {L : List (Option Value)} (h : lv_has ls nL l) (hl : ∀ (k : Nat) (v : Value), L[k]? = some (some v) → (k, v) ∈ l) : am_L ls nL L :=
  ⟨h.1, h.2.1, fun k v hk => h.2.2 (k, v) (hl k v hk)⟩
theorem am_L.sub {ls : Array Slot} {nL : Nat} {L L' : List (Option Value)} (h : am_L ls nL L) (hl : ∀ (k : Nat) (v : Value), L'[k]? = some (some v) → L[k]? = some (some v)) : am_L ls nL L' :=
  ⟨h.1, h.2.1, fun k v hk => h.2.2 k v (hl k v hk)⟩
/-- a value of two words is not just below -/
def am_c1 (L : List (Option Value)) (i : Nat) : Bool := match i with
  | 0 => true
  | j + 1 => match L[j]? with
    | some (some v) => decide (v.category = 1)
    | _ => true
theorem am_L.st1 {ls' : Array Slot} {nL i : Nat} {L : List (Option Value)} {v : Value} (h : lv_has ls' nL ((i, v) :: (am_pr 0 L).filter (fun q => !(q.1 == i) && !(q.1 + 1 == i && q.2.category == 2)))) (hc : am_c1 L i = true) : am_L ls' nL (L.set i (some v)) := by
  refine am_L.of h fun k w hk => ?_
  by_cases hki : k = i
  · subst hki
    rw [List.getElem?_set_self (by
      by_cases hl : k < L.length
      · exact hl
      · rw [List.set_eq_of_length_le (by omega)] at hk
        exact absurd (List.getElem?_eq_some_iff.mp hk).1 hl)] at hk
    cases hk
    exact List.mem_cons_self
  · rw [List.getElem?_set_ne (Ne.symm hki)] at hk
    refine List.mem_cons_of_mem _ (List.mem_filter.mpr ⟨(am_pr_in L 0 (k, w)).mpr ⟨k, by simp, hk⟩, ?_⟩)
    have h2 : ¬ (k + 1 = i ∧ w.category = 2) := by
      rintro ⟨e1, e2⟩
      subst e1
      simp only [am_c1, hk, decide_eq_true_eq] at hc
      omega
    simp only [Bool.and_eq_true, Bool.not_eq_true', beq_eq_false_iff_ne, ne_eq, Bool.and_eq_false_iff]
    refine ⟨hki, ?_⟩
    by_cases e : k + 1 = i
    · exact Or.inr fun e2 => h2 ⟨e, e2⟩
    · exact Or.inl e
theorem am_L.st2 {ls' : Array Slot} {nL i : Nat} {L : List (Option Value)} {v : Value} (h : lv_has ls' nL ((i, v) :: (am_pr 0 L).filter (fun q => !(q.1 == i) && (!(q.1 == i + 1) && !(q.1 + 1 == i && q.2.category == 2))))) (hc : am_c1 L i = true) : am_L ls' nL ((L.set i (some v)).set (i + 1) none) := by
  refine am_L.of h fun k w hk => ?_
  have hk1 : k ≠ i + 1 := by
    intro e
    subst e
    by_cases hl : i + 1 < (L.set i (some v)).length
    · rw [List.getElem?_set_self hl] at hk
      cases hk
    · rw [List.getElem?_eq_none (by simp at hl ⊢; omega)] at hk
      cases hk
  rw [List.getElem?_set_ne (Ne.symm hk1)] at hk
  by_cases hki : k = i
  · subst hki
    rw [List.getElem?_set_self (by
      by_cases hl : k < L.length
      · exact hl
      · rw [List.set_eq_of_length_le (by omega)] at hk
        exact absurd (List.getElem?_eq_some_iff.mp hk).1 hl)] at hk
    cases hk
    exact List.mem_cons_self
  · rw [List.getElem?_set_ne (Ne.symm hki)] at hk
    refine List.mem_cons_of_mem _ (List.mem_filter.mpr ⟨(am_pr_in L 0 (k, w)).mpr ⟨k, by simp, hk⟩, ?_⟩)
    have h2 : ¬ (k + 1 = i ∧ w.category = 2) := by
      rintro ⟨e1, e2⟩
      subst e1
      simp only [am_c1, hk, decide_eq_true_eq] at hc
      omega
    simp only [Bool.and_eq_true, Bool.not_eq_true', beq_eq_false_iff_ne, ne_eq, Bool.and_eq_false_iff]
    refine ⟨hki, hk1, ?_⟩
    by_cases e : k + 1 = i
    · exact Or.inr fun e2 => h2 ⟨e, e2⟩
    · exact Or.inl e
