/-! lists: what is named, what is unlike -/
def allK (nm : Nat → List Nat) : Nat → List Nat
  | 0 => []
  | k + 1 => allK nm k ++ nm k
theorem mem_allK {nm : Nat → List Nat} {x : Nat} : ∀ {n : Nat}, x ∈ allK nm n ↔ ∃ i, i < n ∧ x ∈ nm i
  | 0 => by simp [allK]
  | n + 1 => by
    rw [allK, List.mem_append, mem_allK]
    constructor
    · rintro (⟨i, h1, h2⟩ | h)
      · exact ⟨i, by omega, h2⟩
      · exact ⟨n, by omega, h⟩
    · rintro ⟨i, h1, h2⟩
      by_cases e : i = n
      · subst e
        exact Or.inr h2
      · exact Or.inl ⟨i, by omega, h2⟩
theorem allK_off {nm : Nat → List Nat} {p : Nat} {l : List Nat} : ∀ {n : Nat}, n ≤ p → allK (va_up nm p l) n = allK nm n
  | 0, _ => rfl
  | n + 1, h => by
    rw [allK, allK, allK_off (by omega), va_up_ne _ _ (by omega)]
theorem allK_count {nm : Nat → List Nat} {p x : Nat} {l : List Nat} : ∀ {n : Nat}, p < n → List.count x (allK (va_up nm p l) n) + List.count x (nm p) = List.count x (allK nm n) + List.count x l
  | 0, h => by omega
  | n + 1, h => by
    rw [allK, allK, List.count_append, List.count_append]
    by_cases e : p = n
    · subst e
      rw [allK_off (Nat.le_refl _), va_up_self]
      omega
    · have := allK_count (nm := nm) (x := x) (l := l) (n := n) (by omega : p < n)
      rw [va_up_ne _ _ (by omega)]
      omega
theorem allK_len {nm : Nat → List Nat} : ∀ {n : Nat}, (∀ i, i < n → (nm i).length ≤ 120) → (allK nm n).length ≤ 120 * n
  | 0, _ => by simp [allK]
  | n + 1, h => by
    have h1 := allK_len (n := n) (fun i hi => h i (by omega))
    have h2 := h n (by omega)
    rw [allK, List.length_append]
    omega
theorem allK_lenp {nm : Nat → List Nat} {p : Nat} : ∀ {n : Nat}, (∀ i, i < n → (nm i).length ≤ 120) → p < n → (allK nm n).length + 120 ≤ 120 * n + (nm p).length
  | 0, _, h => by omega
  | n + 1, h, hp => by
    rw [allK, List.length_append]
    by_cases e : p = n
    · subst e
      have := allK_len (n := p) (fun i hi => h i (by omega))
      omega
    · have := allK_lenp (n := n) (fun i hi => h i (by omega)) (by omega : p < n)
      have := h n (by omega)
      omega
theorem sum_erase {α : Type} [DecidableEq α] (f : α → Nat) : ∀ {l : List α} {a : α}, a ∈ l → ((l.erase a).map f).sum + f a = (l.map f).sum
  | [], a, h => by cases h
  | x :: t, a, h => by
    by_cases e : x = a
    · subst e
      rw [List.erase_cons_head, List.map_cons, List.sum_cons]
      omega
    · have h2 : a ∈ t := by
        rcases List.mem_cons.mp h with q | q
        · exact absurd q.symm e
        · exact q
      rw [List.erase_cons_tail (by simpa using e), List.map_cons, List.map_cons, List.sum_cons, List.sum_cons]
      have := sum_erase f h2
      omega
theorem sum_sub {α : Type} [DecidableEq α] (f : α → Nat) : ∀ {l l' : List α}, l.Nodup → (∀ x ∈ l, x ∈ l') → (l.map f).sum ≤ (l'.map f).sum
  | [], l', _, _ => Nat.zero_le _
  | x :: t, l', hn, hs => by
    rw [List.nodup_cons] at hn
    have h1 := sum_erase f (hs x List.mem_cons_self)
    have h2 := sum_sub f (l := t) (l' := l'.erase x) hn.2 (fun y hy => by
      have hne : y ≠ x := fun e => hn.1 (by rw [← e]; exact hy)
      exact (List.mem_erase_of_ne hne).mpr (hs y (List.mem_cons_of_mem _ hy)))
    rw [List.map_cons, List.sum_cons]
    omega
theorem sum_same {α : Type} [DecidableEq α] (f : α → Nat) {l l' : List α} (h1 : l.Nodup) (h2 : l'.Nodup) (h : ∀ x, x ∈ l ↔ x ∈ l') : (l.map f).sum = (l'.map f).sum :=
  Nat.le_antisymm (sum_sub f h1 (fun x hx => (h x).mp hx)) (sum_sub f h2 (fun x hx => (h x).mpr hx))
theorem sum_one {α : Type} : ∀ {l : List α}, (l.map (fun _ => 1)).sum = l.length
  | [] => rfl
  | x :: t => by
    rw [List.map_cons, List.sum_cons, sum_one, List.length_cons]
    omega
theorem len_sub {l l' : List Nat} (h : l.Nodup) (hs : ∀ x ∈ l, x ∈ l') : l.length ≤ l'.length := by
  have := sum_sub (fun _ => 1) h hs
  rw [sum_one, sum_one] at this
  exact this
/-! the cuts -/
def cs (g : Nat × Nat × Nat) (bs : List Int32) : Nat → List (List Int32) × Nat
  | 0 => ([], 0)
  | k + 1 => if endB g bs k (k + 1 - (cs g bs k).2) then ((cs g bs k).1 ++ [(bs.drop (cs g bs k).2).take (k + 1 - (cs g bs k).2)], k + 1) else cs g bs k
theorem cs_inv {g : Nat × Nat × Nat} {bs : List Int32} (h0 : 0 < g.2.1) (h40 : g.2.1 ≤ 40) : ∀ k, k ≤ bs.length → (cs g bs k).2 ≤ k ∧ k - (cs g bs k).2 < g.2.1 ∧ (cs g bs k).1.length ≤ k ∧ (cs g bs k).1.flatten = bs.take (cs g bs k).2 ∧ (∀ b ∈ (cs g bs k).1, 0 < b.length ∧ b.length ≤ 40) ∧ (k = bs.length → (cs g bs k).2 = k)
  | 0, _ => ⟨Nat.le_refl _, h0, Nat.le_refl _, by simp [cs], fun b hb => (nomatch hb), fun _ => rfl⟩
  | k + 1, hk => by
    obtain ⟨a1, a2, a3, a4, a5, a6⟩ := cs_inv (bs := bs) h0 h40 k (by omega)
    rw [cs]
    by_cases hc : endB g bs k (k + 1 - (cs g bs k).2)
    · rw [if_pos hc]
      refine ⟨Nat.le_refl _, by dsimp only; omega, by dsimp only; rw [List.length_append]; show _ + 1 ≤ _; omega, ?_, fun b hb => ?_, fun _ => rfl⟩
      · dsimp only
        rw [List.flatten_append, a4]
        simp only [List.flatten_cons, List.flatten_nil, List.append_nil]
        rw [show k + 1 = (cs g bs k).2 + (k + 1 - (cs g bs k).2) by omega, List.take_add, Nat.add_sub_cancel_left]
      · rcases List.mem_append.mp hb with q | q
        · exact a5 b q
        · rw [List.mem_singleton.mp q, sl_len (by omega)]
          omega
    · rw [if_neg hc]
      have n1 : ¬ g.2.1 ≤ k + 1 - (cs g bs k).2 := fun e => hc (Or.inl e)
      have n2 : ¬ k + 1 = bs.length := fun e => hc (Or.inr (Or.inl e))
      exact ⟨by omega, by omega, by omega, a4, a5, fun e => absurd e n2⟩
theorem cs_flat {g : Nat × Nat × Nat} {bs : List Int32} (h0 : 0 < g.2.1) (h40 : g.2.1 ≤ 40) : (cs g bs bs.length).1.flatten = bs := by
  obtain ⟨-, -, -, a4, -, a6⟩ := cs_inv (bs := bs) h0 h40 bs.length (Nat.le_refl _)
  rw [a4, a6 rfl, List.take_length]
/-! the papers -/
abbrev PS : Type := Nat → Option (List (List Int32))
abbrev nmf (s : SH) : Nat → List Nat := fun i => sNm s i
def okP (l : List (List Int32)) : Prop := l.flatten.length ≤ 120 ∧ l.length ≤ 120 ∧ ∀ b ∈ l, 0 < b.length ∧ b.length ≤ 40
def shL (s : SH) (P : PS) : Prop :=
  (∀ i, i < 12 → (s.2.2.1 i).1 = if (P i).isSome then 1 else 0) ∧
  (∀ i, i < 12 → (sNm s i).map s.2.2.2.1 = (P i).getD []) ∧
  (∀ i, i < 12 → ∀ c ∈ sNm s i, c ∈ sMade s) ∧
  (∀ c ∈ sMade s, s.2.2.2.2 c = List.count c (allK (nmf s) 12)) ∧
  (∀ c ∈ sMade s, ∀ c' ∈ sMade s, 0 < s.2.2.2.2 c → 0 < s.2.2.2.2 c' → s.2.2.2.1 c = s.2.2.2.1 c' → c = c') ∧
  (∀ i, i < 12 → ∀ l, P i = some l → okP l)
theorem shL.live {s : SH} {P : PS} (h : shL s P) {i c : Nat} (hi : i < 12) (hc : c ∈ sNm s i) : 0 < s.2.2.2.2 c := by
  rw [h.2.2.2.1 c (h.2.2.1 i hi c hc)]
  exact List.count_pos_iff.mpr (mem_allK.mpr ⟨i, hi, hc⟩)
theorem shL.len {s : SH} {P : PS} (h : shL s P) {i : Nat} (hi : i < 12) : (sNm s i).length ≤ 120 := by
  have h2 := congrArg List.length (h.2.1 i hi)
  rw [List.length_map] at h2
  rw [h2]
  cases e : P i with
  | none => exact Nat.zero_le _
  | some l => exact (h.2.2.2.2.2 i hi l e).2.1
theorem shL.room {s : SH} {P : PS} (h : shL s P) {p : Nat} (hp : p < 12) (hn : (sNm s p).length < 120) : (allK (nmf s) 12).length < 1440 := by
  have := allK_lenp (nm := nmf s) (p := p) (n := 12) (fun i hi => h.len hi) hp
  dsimp only [nmf] at this ⊢
  omega
theorem shL.new {s : SH} {P : PS} {b : List Int32} (h : shL s P) {p : Nat} (hp : p < 12) (hn : (sNm s p).length < 120) (hd : (sMade s).Nodup) (hnew : newB s b) : (sMade s).length < 1440 := by
  refine Nat.lt_of_le_of_lt (len_sub hd (fun x hx => ?_)) (h.room hp hn)
  have := (hnew x hx).1
  rw [h.2.2.2.1 x hx] at this
  exact List.count_pos_iff.mp this
theorem chOf.facts {s s' : SH} {P : PS} {c : Nat} {b : List Int32} (h : shL s P) (hc : chOf s s' c b) :
    s'.1 = s.1 ∧ s'.2.2.1 = s.2.2.1 ∧ c ∈ sMade s' ∧ (∀ x ∈ sMade s, x ∈ sMade s') ∧ (∀ x ∈ sMade s', x ∈ sMade s ∨ x = c) ∧
    (∀ x ∈ sMade s, 0 < s.2.2.2.2 x → s'.2.2.2.1 x = s.2.2.2.1 x) ∧ (∀ x ∈ sMade s, s'.2.2.2.2 x = s.2.2.2.2 x) ∧ s'.2.2.2.1 c = b ∧ (c ∉ sMade s → s'.2.2.2.2 c = 0) ∧
    (∀ x ∈ sMade s, 0 < s.2.2.2.2 x → s.2.2.2.1 x = b → x = c) := by
  rcases hc with ⟨rfl, h1, h2, h3⟩ | ⟨h1, h2, h3, rfl⟩ | ⟨h1, h2, e', rfl⟩
  · exact ⟨rfl, rfl, h1, fun x hx => hx, fun x hx => Or.inl hx, fun x _ _ => rfl, fun x _ => rfl, h3, fun n => absurd h1 n, fun x hx h0 e => h.2.2.2.2.1 x hx c h1 h0 h2 (e.trans h3.symm)⟩
  · refine ⟨rfl, rfl, h1, fun x hx => hx, fun x hx => Or.inl hx, fun x _ h0 => ?_, fun x _ => ?_, va_up_self _ _ _, fun n => absurd h1 n, fun x hx h0 e => absurd e (h3 x hx h0)⟩
    · exact va_up_ne _ _ (fun e => by rw [e] at h0; omega)
    · dsimp only
      by_cases e : x = c
      · rw [e, va_up_self, h2]
      · exact va_up_ne _ _ e
  · refine ⟨rfl, rfl, List.mem_append_right _ (List.mem_singleton.mpr rfl), fun x hx => List.mem_append_left _ hx, fun x hx => ?_, fun x hx _ => ?_, fun x hx => ?_, va_up_self _ _ _, fun _ => va_up_self _ _ _, fun x hx _ e => absurd e (h1 x hx).2⟩
    · rcases List.mem_append.mp hx with q | q
      · exact Or.inl q
      · exact Or.inr (List.mem_singleton.mp q)
    · exact va_up_ne _ _ (fun e => h2 (e ▸ hx))
    · exact va_up_ne _ _ (fun e => h2 (e ▸ hx))
theorem shL.put {s s' : SH} {P : PS} {p c e cap : Nat} {b : List Int32} {l : List (List Int32)} (h : shL s P) (hp : p < 12) (hP : P p = some l) (hc : chOf s s' c b) (hok : okP (l ++ [b])) :
    shL (s'.1, s'.2.1, va_up s'.2.2.1 p (1, e, cap, sNm s' p ++ [c]), s'.2.2.2.1, va_up s'.2.2.2.2 c (s'.2.2.2.2 c + 1)) (va_up P p (some (l ++ [b]))) := by
  obtain ⟨f1, f2, f3, f4, f5, f6, f7, f8, f9, f10⟩ := hc.facts h
  obtain ⟨h1, h2, h3, h4, h5, h6⟩ := id h
  have hnm : ∀ i, sNm s' i = sNm s i := fun i => by show (s'.2.2.1 i).2.2.2 = (s.2.2.1 i).2.2.2; rw [f2]
  have hmp : ∀ i, i < 12 → (sNm s i).map s'.2.2.2.1 = (P i).getD [] := fun i hi => by
    rw [← h2 i hi]
    exact List.map_congr_left (fun x hx => f6 x (h3 i hi x hx) (h.live hi hx))
  have hup : (nmf (s'.1, s'.2.1, va_up s'.2.2.1 p (1, e, cap, sNm s' p ++ [c]), s'.2.2.2.1, va_up s'.2.2.2.2 c (s'.2.2.2.2 c + 1))) = va_up (nmf s) p (sNm s p ++ [c]) := by
    funext i
    show (va_up s'.2.2.1 p (1, e, cap, sNm s' p ++ [c]) i).2.2.2 = _
    by_cases ei : i = p
    · subst ei
      rw [va_up_self, va_up_self, hnm]
    · rw [va_up_ne _ _ ei, va_up_ne _ _ ei, f2]
  have hcnt : ∀ x, List.count x (allK (nmf (s'.1, s'.2.1, va_up s'.2.2.1 p (1, e, cap, sNm s' p ++ [c]), s'.2.2.2.1, va_up s'.2.2.2.2 c (s'.2.2.2.2 c + 1))) 12) = List.count x (allK (nmf s) 12) + List.count x [c] := fun x => by
    rw [hup]
    have := allK_count (nm := nmf s) (p := p) (x := x) (l := sNm s p ++ [c]) (n := 12) hp
    rw [List.count_append] at this
    dsimp only [nmf] at this ⊢
    omega
  refine ⟨fun i hi => ?_, fun i hi => ?_, fun i hi x hx => ?_, fun x hx => ?_, fun x hx y hy hx0 hy0 exy => ?_, fun i hi m hm => ?_⟩
  · dsimp only
    by_cases ei : i = p
    · subst ei
      rw [va_up_self, va_up_self]
      rfl
    · rw [va_up_ne _ _ ei, va_up_ne _ _ ei, f2]
      exact h1 i hi
  · show ((va_up s'.2.2.1 p (1, e, cap, sNm s' p ++ [c]) i).2.2.2).map s'.2.2.2.1 = _
    by_cases ei : i = p
    · subst ei
      rw [va_up_self, va_up_self]
      show (sNm s' i ++ [c]).map s'.2.2.2.1 = l ++ [b]
      rw [List.map_append, hnm, hmp i hi, hP]
      show l ++ [s'.2.2.2.1 c] = _
      rw [f8]
    · rw [va_up_ne _ _ ei, va_up_ne _ _ ei, f2]
      exact hmp i hi
  · have hx : x ∈ (va_up s'.2.2.1 p (1, e, cap, sNm s' p ++ [c]) i).2.2.2 := hx
    show x ∈ sMade s'
    by_cases ei : i = p
    · subst ei
      rw [va_up_self] at hx
      rcases List.mem_append.mp hx with q | q
      · rw [hnm] at q
        exact f4 x (h3 i hi x q)
      · rw [List.mem_singleton.mp q]
        exact f3
    · rw [va_up_ne _ _ ei, f2] at hx
      exact f4 x (h3 i hi x hx)
  · rw [hcnt]
    show va_up s'.2.2.2.2 c (s'.2.2.2.2 c + 1) x = _
    have hx : x ∈ sMade s' := hx
    by_cases ex : x = c
    · subst ex
      rw [va_up_self, List.count_singleton_self]
      by_cases hm : x ∈ sMade s
      · rw [f7 x hm, h4 x hm]
      · rw [f9 hm]
        have : List.count x (allK (nmf s) 12) = 0 := List.count_eq_zero.mpr (fun q => by
          obtain ⟨i, hi, hq⟩ := mem_allK.mp q
          exact hm (h3 i hi x hq))
        omega
    · rw [va_up_ne _ _ ex]
      have hm : x ∈ sMade s := (f5 x hx).resolve_right ex
      rw [f7 x hm, h4 x hm, List.count_eq_zero.mpr (fun q => ex (List.mem_singleton.mp q))]
      omega
  · have hx : x ∈ sMade s' := hx
    have hy : y ∈ sMade s' := hy
    have exy : s'.2.2.2.1 x = s'.2.2.2.1 y := exy
    have hx0 : 0 < va_up s'.2.2.2.2 c (s'.2.2.2.2 c + 1) x := hx0
    have hy0 : 0 < va_up s'.2.2.2.2 c (s'.2.2.2.2 c + 1) y := hy0
    by_cases ex : x = c
    · by_cases ey : y = c
      · rw [ex, ey]
      · rw [va_up_ne _ _ ey] at hy0
        have hm : y ∈ sMade s := (f5 y hy).resolve_right ey
        rw [f7 y hm] at hy0
        rw [f6 y hm hy0, ex, f8] at exy
        exact absurd (f10 y hm hy0 exy.symm) ey
    · rw [va_up_ne _ _ ex] at hx0
      have hm : x ∈ sMade s := (f5 x hx).resolve_right ex
      rw [f7 x hm] at hx0
      rw [f6 x hm hx0] at exy
      by_cases ey : y = c
      · rw [ey, f8] at exy
        exact absurd (f10 x hm hx0 exy) ex
      · rw [va_up_ne _ _ ey] at hy0
        have hm2 : y ∈ sMade s := (f5 y hy).resolve_right ey
        rw [f7 y hm2] at hy0
        rw [f6 y hm2 hy0] at exy
        exact h5 x hm y hm2 hx0 hy0 exy
  · by_cases ei : i = p
    · subst ei
      rw [va_up_self] at hm
      cases hm
      exact hok
    · rw [va_up_ne _ _ ei] at hm
      exact h6 i hi m hm
/-- the capacity after a chunk of the bytes b -/
def ncap (s : SH) (b : List Int32) : Nat := if newB s b then lsN (sMade s).length s.2.1.2.1 else s.2.1.2.1
theorem sh_pot {s : SH} {b : List Int32} : shC s b ≤ 3 ∧ shS s b ≤ 43 + 4 * (ncap s b - s.2.1.2.1) ∧ s.2.1.2.1 ≤ ncap s b ∧ (ncap s b = s.2.1.2.1 ∨ ncap s b ≤ 10 + (sMade s).length + (sMade s).length / 2) := by
  unfold shC shS ncap
  have hg := gcap_b s.2.1.2.1
  split
  · unfold lsC lsS lsN
    split
    · rename_i e
      omega
    · omega
  · omega
theorem chOf.pot {s s' : SH} {c : Nat} {b : List Int32} (hc : chOf s s' c b) : s'.2.1.2.1 = ncap s b ∧ (sMade s).length ≤ (sMade s').length ∧ (sMade s').length ≤ (sMade s).length + 1 := by
  rcases hc with ⟨rfl, h1, h2, h3⟩ | ⟨h1, h2, h3, rfl⟩ | ⟨h1, h2, e', rfl⟩
  · refine ⟨?_, Nat.le_refl _, Nat.le_succ _⟩
    unfold ncap
    rw [if_neg (fun hn => (hn c h1).2 h3)]
  · refine ⟨?_, Nat.le_refl _, Nat.le_succ _⟩
    unfold ncap
    rw [if_neg (fun hn => by have := (hn c h1).1; omega)]
  · refine ⟨?_, ?_, ?_⟩
    · unfold ncap
      rw [if_pos h1]
    · show _ ≤ (sMade s ++ [c]).length
      rw [List.length_append]
      omega
    · show (sMade s ++ [c]).length ≤ _
      rw [List.length_append]
      exact Nat.le_refl _
theorem ls_pot {len cap : Nat} (h : len ≤ cap) : lsC len cap ≤ 1 ∧ lsS len cap ≤ 4 * (lsN len cap - cap) ∧ cap ≤ lsN len cap ∧ (cap ≤ 200 → len < 120 → lsN len cap ≤ 200) := by
  have hg := gcap_b cap
  unfold lsC lsS lsN
  split <;> omega
