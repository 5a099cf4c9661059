/-! the chunks of all papers, and sums over the unlike ones -/
def allB (P : PS) : Nat → List (List Int32)
  | 0 => []
  | k + 1 => allB P k ++ (P k).getD []
def fsum (f : List Int32 → Nat) (l : List (List Int32)) : Nat → Nat
  | 0 => 0
  | k + 1 => fsum f l k + (if l.getD k [] ∈ l.take k then 0 else f (l.getD k []))
def foL (l : List (List Int32)) : Nat → List (List Int32)
  | 0 => []
  | k + 1 => if l.getD k [] ∈ l.take k then foL l k else foL l k ++ [l.getD k []]
theorem take_snoc {l : List (List Int32)} {k : Nat} (h : k < l.length) : l.take (k + 1) = l.take k ++ [l.getD k []] := by
  rw [List.take_succ, List.getElem?_eq_getElem h, List.getD_eq_getElem?_getD, List.getElem?_eq_getElem h]
  rfl
theorem foL_mem {l : List (List Int32)} {x : List Int32} : ∀ {k : Nat}, k ≤ l.length → (x ∈ foL l k ↔ x ∈ l.take k)
  | 0, _ => by simp [foL]
  | k + 1, h => by
    have ih := foL_mem (l := l) (x := x) (k := k) (by omega)
    rw [take_snoc (by omega), List.mem_append, foL]
    by_cases hc : l.getD k [] ∈ l.take k
    · rw [if_pos hc, ih]
      constructor
      · exact Or.inl
      · rintro (q | q)
        · exact q
        · rw [List.mem_singleton.mp q]
          exact hc
    · rw [if_neg hc, List.mem_append, ih]
theorem foL_nd {l : List (List Int32)} : ∀ {k : Nat}, k ≤ l.length → (foL l k).Nodup
  | 0, _ => by simp [foL]
  | k + 1, h => by
    have ih := foL_nd (l := l) (k := k) (by omega)
    rw [foL]
    by_cases hc : l.getD k [] ∈ l.take k
    · rw [if_pos hc]
      exact ih
    · rw [if_neg hc, List.nodup_append]
      refine ⟨ih, by simp, fun x hx y hy e => hc ?_⟩
      rw [List.mem_singleton] at hy
      rw [← hy, ← e]
      exact (foL_mem (by omega)).mp hx
theorem foL_sum (f : List Int32 → Nat) (l : List (List Int32)) : ∀ k, ((foL l k).map f).sum = fsum f l k
  | 0 => rfl
  | k + 1 => by
    have ih := foL_sum f l k
    rw [foL, fsum]
    by_cases hc : l.getD k [] ∈ l.take k
    · rw [if_pos hc, if_pos hc, ih]
      rfl
    · rw [if_neg hc, if_neg hc, List.map_append, List.sum_append, ih]
      simp
theorem nodup_map {w : Nat → List Int32} : ∀ {X : List Nat}, X.Nodup → (∀ x ∈ X, ∀ y ∈ X, w x = w y → x = y) → (X.map w).Nodup
  | [], _, _ => by simp
  | x :: t, hn, hi => by
    rw [List.nodup_cons] at hn
    rw [List.map_cons, List.nodup_cons]
    refine ⟨fun q => ?_, nodup_map hn.2 (fun a ha b hb => hi a (List.mem_cons_of_mem _ ha) b (List.mem_cons_of_mem _ hb))⟩
    obtain ⟨y, hy, e⟩ := List.mem_map.mp q
    have := hi y (List.mem_cons_of_mem _ hy) x List.mem_cons_self e
    exact hn.1 (this ▸ hy)
theorem unlike {w : Nat → List Int32} {X : List Nat} {L : List (List Int32)} (f : List Int32 → Nat) (hn : X.Nodup) (hi : ∀ x ∈ X, ∀ y ∈ X, w x = w y → x = y) (hm : ∀ b, b ∈ L ↔ ∃ c, c ∈ X ∧ w c = b) : (X.map (fun c => f (w c))).sum = fsum f L L.length := by
  rw [← foL_sum, show X.map (fun c => f (w c)) = (X.map w).map f by rw [List.map_map]; rfl]
  refine sum_same f (nodup_map hn hi) (foL_nd (Nat.le_refl _)) (fun b => ?_)
  rw [foL_mem (Nat.le_refl _), List.take_length, hm, List.mem_map]
theorem filt_sum (s : SH) (g : Nat → Nat) : ∀ X : List Nat, (X.map (liveG s g)).sum = ((X.filter (fun c => decide (0 < s.2.2.2.2 c))).map g).sum
  | [] => rfl
  | x :: t => by
    have ih := filt_sum s g t
    rw [List.map_cons, List.sum_cons, ih]
    by_cases hc : 0 < s.2.2.2.2 x
    · rw [List.filter_cons_of_pos (by simpa using hc), List.map_cons, List.sum_cons, liveG, if_pos hc]
    · rw [List.filter_cons_of_neg (by simpa using hc), liveG, if_neg hc, Nat.zero_add]
theorem shL.all {s : SH} {P : PS} (h : shL s P) : ∀ n, n ≤ 12 → (allK (nmf s) n).map s.2.2.2.1 = allB P n
  | 0, _ => rfl
  | n + 1, hn => by
    rw [allK, allB, List.map_append, h.all n (by omega), h.2.1 n (by omega)]
theorem shL.inK {s : SH} {P : PS} (h : shL s P) {c : Nat} (hc : c ∈ allK (nmf s) 12) : c ∈ sMade s ∧ 0 < s.2.2.2.2 c := by
  obtain ⟨i, hi, hx⟩ := mem_allK.mp hc
  exact ⟨h.2.2.1 i hi c hx, h.live hi hx⟩
theorem shL.inj {s : SH} {P : PS} (h : shL s P) {c d : Nat} (hc : c ∈ allK (nmf s) 12) (hd : d ∈ allK (nmf s) 12) (e : s.2.2.2.1 c = s.2.2.2.1 d) : c = d :=
  h.2.2.2.2.1 c (h.inK hc).1 d (h.inK hd).1 (h.inK hc).2 (h.inK hd).2 e
theorem count_map {w : Nat → List Int32} {c : Nat} : ∀ {X : List Nat}, (∀ x ∈ X, w x = w c → x = c) → List.count (w c) (X.map w) = List.count c X
  | [], _ => rfl
  | x :: t, h => by
    have ih := count_map (w := w) (c := c) (X := t) (fun y hy => h y (List.mem_cons_of_mem _ hy))
    rw [List.map_cons, List.count_cons, List.count_cons, ih]
    congr 1
    by_cases e : x = c
    · subst e
      simp
    · have : ¬ w x = w c := fun q => e (h x List.mem_cons_self q)
      simp [e, this]
theorem shL.times {s : SH} {P : PS} (h : shL s P) {c : Nat} (hc : c ∈ allK (nmf s) 12) : s.2.2.2.2 c = List.count (s.2.2.2.1 c) (allB P 12) := by
  rw [h.2.2.2.1 c (h.inK hc).1, ← h.all 12 (Nat.le_refl _), count_map (fun x hx e => h.inj hx hc e)]
theorem shL.sums {D hh : Nat} {s : SH} {P : PS} (h : shL s P) (ha : shA D hh s) (f : List Int32 → Nat) : ((sMade s).map (liveG s (fun c => f (s.2.2.2.1 c)))).sum = fsum f (allB P 12) (allB P 12).length := by
  rw [filt_sum]
  have hmem : ∀ c, c ∈ (sMade s).filter (fun c => decide (0 < s.2.2.2.2 c)) ↔ c ∈ allK (nmf s) 12 := fun c => by
    rw [List.mem_filter, decide_eq_true_eq]
    constructor
    · rintro ⟨h1, h2⟩
      rw [h.2.2.2.1 c h1] at h2
      exact List.count_pos_iff.mp h2
    · exact h.inK
  refine unlike f (ha.2.2.2.2.1.filter _) (fun x hx y hy e => h.inj ((hmem x).mp hx) ((hmem y).mp hy) e) (fun b => ?_)
  rw [← h.all 12 (Nat.le_refl _), List.mem_map]
  constructor
  · rintro ⟨c, h1, h2⟩
    exact ⟨c, (hmem c).mpr h1, h2⟩
  · rintro ⟨c, h1, h2⟩
    exact ⟨c, (hmem c).mp h1, h2⟩
def lo : List Nat → List Nat
  | [] => []
  | c :: l => if c ∈ l then lo l else c :: lo l
theorem lo_mem {x : Nat} : ∀ {l : List Nat}, x ∈ lo l ↔ x ∈ l
  | [] => Iff.rfl
  | c :: l => by
    have ih := lo_mem (x := x) (l := l)
    rw [lo]
    by_cases hc : c ∈ l
    · rw [if_pos hc, ih, List.mem_cons]
      constructor
      · exact Or.inr
      · rintro (q | q)
        · rw [q]
          exact hc
        · exact q
    · rw [if_neg hc, List.mem_cons, List.mem_cons, ih]
theorem lo_nd : ∀ {l : List Nat}, (lo l).Nodup
  | [] => List.nodup_nil
  | c :: l => by
    rw [lo]
    by_cases hc : c ∈ l
    · rw [if_pos hc]
      exact lo_nd
    · rw [if_neg hc, List.nodup_cons]
      exact ⟨fun q => hc (lo_mem.mp q), lo_nd⟩
theorem dg_lo : ∀ {l : List Nat} {t : Nat → Nat}, (∀ c ∈ l, List.count c l ≤ t c) → dg t l = ((lo l).map (fun c => if t c = List.count c l then 1 else 0)).sum
  | [], _, _ => rfl
  | c :: l, t, h => by
    have h1 := h c List.mem_cons_self
    rw [List.count_cons_self] at h1
    have ih := dg_lo (l := l) (t := va_up t c (t c - 1)) (fun x hx => by
      have := h x (List.mem_cons_of_mem _ hx)
      by_cases e : x = c
      · subst e
        rw [va_up_self]
        omega
      · rw [va_up_ne _ _ e]
        rw [List.count_cons_of_ne (fun q => e q.symm)] at this
        exact this)
    have hcg : ∀ x ∈ lo l, (if va_up t c (t c - 1) x = List.count x l then 1 else 0) = (if t x = List.count x (c :: l) then 1 else 0) := fun x hx => by
      by_cases e : x = c
      · subst e
        rw [va_up_self, List.count_cons_self]
        by_cases q : t x = List.count x l + 1
        · rw [if_pos q, if_pos (by omega)]
        · rw [if_neg q, if_neg (by omega)]
      · rw [va_up_ne _ _ e, List.count_cons_of_ne (fun q => e q.symm)]
    rw [dg, ih, List.map_congr_left hcg, lo]
    by_cases hc : c ∈ l
    · have : 0 < List.count c l := List.count_pos_iff.mpr hc
      rw [if_pos hc, if_neg (by omega), Nat.zero_add]
    · have : List.count c l = 0 := List.count_eq_zero.mpr hc
      rw [if_neg hc, List.map_cons, List.sum_cons, List.count_cons_self, this]
theorem allK_nil {nm : Nat → List Nat} {w : Nat → List Int32} {P : PS} {p : Nat} : ∀ {n : Nat}, (∀ i, i < n → (nm i).map w = (P i).getD []) → (allK (va_up nm p []) n).map w = allB (va_up P p none) n
  | 0, _ => rfl
  | n + 1, h => by
    rw [allK, allB, List.map_append, allK_nil (fun i hi => h i (by omega))]
    by_cases e : n = p
    · subst e
      rw [va_up_self, va_up_self]
      rfl
    · rw [va_up_ne _ _ e, va_up_ne _ _ e, h n (by omega)]
theorem mem_nil {nm : Nat → List Nat} {p n x : Nat} (h : x ∈ allK (va_up nm p []) n) : x ∈ allK nm n := by
  obtain ⟨i, hi, hx⟩ := mem_allK.mp h
  by_cases e : i = p
  · subst e
    rw [va_up_self] at hx
    cases hx
  · rw [va_up_ne _ _ e] at hx
    exact mem_allK.mpr ⟨i, hi, hx⟩
/-- how many chunks are gone with the paper p -/
def goneP (P : PS) (p : Nat) : Nat := fsum (fun b => if b ∈ allB (va_up P p none) 12 then 0 else 1) ((P p).getD []) ((P p).getD []).length
theorem shL.dgone {s : SH} {P : PS} (h : shL s P) {p : Nat} (hp : p < 12) : dg s.2.2.2.2 (sNm s p) = goneP P p := by
  have hin : ∀ c ∈ sNm s p, c ∈ allK (nmf s) 12 := fun c hc => mem_allK.mpr ⟨p, hp, hc⟩
  have hct : ∀ c ∈ sNm s p, s.2.2.2.2 c = List.count c (allK (va_up (nmf s) p []) 12) + List.count c (sNm s p) := fun c hc => by
    have a1 := h.2.2.2.1 c (h.2.2.1 p hp c hc)
    have a3 := allK_count (nm := nmf s) (p := p) (x := c) (l := []) (n := 12) hp
    have a4 : List.count c ([] : List Nat) = 0 := rfl
    dsimp only [nmf] at a1 a3 ⊢
    omega
  rw [dg_lo (fun c hc => by rw [hct c hc]; omega)]
  have hcg : ∀ c ∈ lo (sNm s p), (if s.2.2.2.2 c = List.count c (sNm s p) then 1 else 0) = (fun b => if b ∈ allB (va_up P p none) 12 then 0 else 1) (s.2.2.2.1 c) := fun c hc => by
    have hc := lo_mem.mp hc
    have e1 := hct c hc
    rw [← allK_nil (nm := nmf s) (w := s.2.2.2.1) (fun i hi => h.2.1 i hi)]
    dsimp only
    by_cases q : c ∈ allK (va_up (nmf s) p []) 12
    · have := List.count_pos_iff.mpr q
      rw [if_neg (by omega), if_pos (List.mem_map.mpr ⟨c, q, rfl⟩)]
    · have := List.count_eq_zero.mpr q
      rw [if_pos (by omega), if_neg]
      intro q2
      obtain ⟨x, hx, e⟩ := List.mem_map.mp q2
      exact q (h.inj (mem_nil hx) (hin c hc) e ▸ hx)
  rw [List.map_congr_left hcg, goneP, ← h.2.1 p hp]
  refine unlike (fun b => if b ∈ allB (va_up P p none) 12 then 0 else 1) lo_nd (fun x hx y hy e => h.inj (hin x (lo_mem.mp hx)) (hin y (lo_mem.mp hy)) e) (fun b => ?_)
  rw [List.mem_map]
  constructor
  · rintro ⟨c, h1, h2⟩
    exact ⟨c, lo_mem.mpr h1, h2⟩
  · rintro ⟨c, h1, h2⟩
    exact ⟨c, lo_mem.mp h1, h2⟩
