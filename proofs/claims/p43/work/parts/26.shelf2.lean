/-! what stays where it is, but at E -/
def KE (M M' : AM) (E : Nat → Prop) : Prop := ∀ q x, M.1 q = some x → ¬ E q → M'.1 q = some x
theorem KE.rf {M : AM} {E : Nat → Prop} : KE M M E := fun _ _ h _ => h
theorem KE.tr {M M' M'' : AM} {E : Nat → Prop} (h : KE M M' E) (h' : KE M' M'' E) : KE M M'' E := fun q x hq he => h' q x (h q x hq he) he
theorem KE.mono {M M' : AM} {E E' : Nat → Prop} (h : KE M M' E) (hE : ∀ q, E q → E' q) : KE M M' E' := fun q x hq he => h q x hq (fun e => he (hE q e))
theorem KE.out {M M' : AM} {a b : Nat} (h : am_out M M' a b) : KE M M' (fun q => a ≤ q ∧ q < b) := fun q x hq he => (h q (by omega)).trans hq
theorem KE.up {M : AM} {a : Nat} {e : va_E} : KE M (am_up M a e) (fun q => q = a) := fun q x hq he => (am_un he).trans hq
theorem isRow.ke {G : AG} {M M' : AM} {E : Nat → Prop} {r : Nat} {bs : List Int32} (h : isRow G M r bs) (hk : KE M M' E) (h1 : ¬ E r) (h2 : ¬ E (r + 1)) : isRow G M' r bs := by
  obtain ⟨f, a1, a2, a3⟩ := h
  exact ⟨f, hk _ _ a1 h1, hk _ _ a2 h2, a3⟩
theorem isChunk.ke {G : AG} {M M' : AM} {E : Nat → Prop} {c t : Nat} {b : List Int32} (h : isChunk G M c b t) (hk : KE M M' E) (h1 : ¬ E c) (h2 : ¬ E (c + 1)) : isChunk G M' c b t :=
  h.ks (fun x hx => hk _ _ hx h1) (fun x hx => hk _ _ hx h2)
theorem isLs.ke {G : AG} {M M' : AM} {E : Nat → Prop} {L e cap : Nat} {xs : List Nat} (h : isLs G M L e cap xs) (hk : KE M M' E) (h1 : ¬ E L) (h2 : 0 < cap → ¬ E e) : isLs G M' L e cap xs :=
  h.ks (fun x hx => hk _ _ hx h1) (fun h0 x hx => hk _ _ hx (h2 h0))
theorem isPp.ke {G : AG} {M M' : AM} {E : Nat → Prop} {q : Nat} {p : PP} (h : isPp G M q p) (hk : KE M M' E) (h1 : ¬ E q) (h2 : ¬ E (q + 1)) (h3 : 0 < p.2.2.1 → ¬ E p.2.1) : isPp G M' q p :=
  ⟨hk _ _ h.1 h1, h.2.ke hk h2 h3⟩
theorem isLs.arr {G : AG} {M : AM} {L e cap : Nat} {xs : List Nat} (h : isLs G M L e cap xs) (h0 : 0 < cap) : ∃ f : Nat → Option Nat, M.1 e = some (am_aq G 8 cap f) := by
  obtain ⟨mc, a1, a2, a3⟩ := h
  rcases a3 with ⟨a3, -⟩ | ⟨a3, f, a4, a5⟩
  · omega
  · exact ⟨f, a4⟩
theorem arr_ne_o {G : AG} {M : AM} {e q cap ci : Nat} {f : Nat → Option Nat} {vs : List Value} (h : M.1 e = some (am_aq G 8 cap f)) (h2 : M.1 q = some (.inr (ci, vs))) : e ≠ q := fun e0 => by
  rw [e0, h2] at h
  cases h
theorem arr_ne_i {G : AG} {M : AM} {e q cap N : Nat} {f : Nat → Option Nat} {g : Nat → Int32} (h : M.1 e = some (am_aq G 8 cap f)) (h2 : M.1 q = some (am_ai G N g)) : e ≠ q := fun e0 => by
  rw [e0, h2] at h
  simp [am_ai, am_aq] at h
theorem ls_ne_c {G : AG} {M : AM} {L e cap c t : Nat} {xs : List Nat} {b : List Int32} (h : isLs G M L e cap xs) (h0 : 0 < cap) (hc : isChunk G M c b t) : e ≠ c ∧ e ≠ c + 1 := by
  obtain ⟨f, hf⟩ := h.arr h0
  obtain ⟨g, c1, c2, -⟩ := hc
  exact ⟨arr_ne_o hf c1, arr_ne_i hf c2⟩
theorem ch_ne {G : AG} {M : AM} {c t c' t' : Nat} {b b' : List Int32} (hc : isChunk G M c b t) (hc' : isChunk G M c' b' t') : c + 1 ≠ c' := fun e0 => by
  obtain ⟨g, c1, c2, -⟩ := hc
  obtain ⟨g', d1, d2, -⟩ := hc'
  rw [e0, d1] at c2
  cases c2
theorem isShM.chunk {G : AG} {M M' : AM} {h D c t' : Nat} {b' : List Int32} {s : SH} (hs : isShM G M h s) (ha : shA D h s) (hc : c ∈ sMade s) (hk : KE M M' (fun q => q = c ∨ q = c + 1)) (hn : isChunk G M' c b' t') : isShM G M' h (s.1, s.2.1, s.2.2.1, va_up s.2.2.2.1 c b', va_up s.2.2.2.2 c t') := by
  obtain ⟨h1, ⟨f, h2, hf⟩, h3, h4, h5⟩ := id hs
  obtain ⟨a1, -, -, a4, -, -, a7, -⟩ := id ha
  have hcD := (a7 c hc).1
  refine ⟨hk _ _ h1 (by omega), ⟨f, hk _ _ h2 (by omega), hf⟩, h3.ke hk (by omega) (fun h0 => ?_), fun i hi => (h4 i hi).ke hk (by omega) (by omega) (fun h0 => ?_), fun x hx => ?_⟩
  · have := ls_ne_c h3 h0 (h5 c hc)
    omega
  · have := ls_ne_c (h4 i hi).2 h0 (h5 c hc)
    omega
  · dsimp only
    by_cases e : x = c
    · subst e
      rw [va_up_self, va_up_self]
      exact hn
    · rw [va_up_ne _ _ e, va_up_ne _ _ e]
      have n1 := ch_ne (h5 x hx) (h5 c hc)
      have n2 := ch_ne (h5 c hc) (h5 x hx)
      exact (h5 x hx).ke hk (by omega) (by omega)
theorem shA.chunk {h D c t' : Nat} {b' : List Int32} {s : SH} (ha : shA D h s) (ht : t' ≤ 1440) : shA D h (s.1, s.2.1, s.2.2.1, va_up s.2.2.2.1 c b', va_up s.2.2.2.2 c t') := by
  obtain ⟨a1, a2, a3, a4, a5, a6, a7, a8⟩ := ha
  refine ⟨a1, a2, a3, a4, a5, a6, fun x hx => ⟨(a7 x hx).1, ?_⟩, a8⟩
  dsimp only
  by_cases e : x = c
  · subst e
    rw [va_up_self]
    exact ht
  · rw [va_up_ne _ _ e]
    exact (a7 x hx).2
theorem isShM.made {G : AG} {M M' : AM} {h D c t' e' cap' : Nat} {b' : List Int32} {s : SH} (hs : isShM G M h s) (ha : shA D h s) (hk : KE M M' (fun q => q = h + 2 ∨ (0 < s.2.1.2.1 ∧ q = s.2.1.1))) (hl : isLs G M' (h + 2) e' cap' (sMade s ++ [c])) (hcn : c ∉ sMade s) (hn : isChunk G M' c b' t') : isShM G M' h (s.1, (e', cap', sMade s ++ [c]), s.2.2.1, va_up s.2.2.2.1 c b', va_up s.2.2.2.2 c t') := by
  obtain ⟨h1, ⟨f, h2, hf⟩, h3, h4, h5⟩ := id hs
  obtain ⟨a1, -, a3, a4, -, -, a7, -⟩ := id ha
  refine ⟨hk _ _ h1 (by omega), ⟨f, hk _ _ h2 (by omega), hf⟩, hl, fun i hi => (h4 i hi).ke hk (by omega) (by omega) (fun h0 e => ?_), fun x hx => ?_⟩
  · have := (a4 i hi).2.2 h0
    rcases e with e | ⟨e1, e2⟩
    · omega
    · exact this.2.1 e1 e2
  · dsimp only at hx ⊢
    rcases List.mem_append.mp hx with hx | hx
    · have e : x ≠ c := fun e => hcn (e ▸ hx)
      rw [va_up_ne _ _ e, va_up_ne _ _ e]
      have := (a7 x hx).1
      refine (h5 x hx).ke hk (fun e9 => ?_) (fun e9 => ?_)
      · rcases e9 with e9 | ⟨e1, e2⟩
        · omega
        · have := ls_ne_c h3 e1 (h5 x hx)
          omega
      · rcases e9 with e9 | ⟨e1, e2⟩
        · omega
        · have := ls_ne_c h3 e1 (h5 x hx)
          omega
    · rw [List.mem_singleton.mp hx, va_up_self, va_up_self]
      exact hn
theorem shA.made {h D c t' e' cap' : Nat} {b' : List Int32} {s : SH} (ha : shA D h s) (hcn : c ∉ sMade s) (hc : D ≤ c) (ht : t' ≤ 1440) (hcap : cap' ≤ 2200) (hlen : (sMade s).length < 1440) (he : 0 < cap' → D ≤ e') (hne : ∀ i, i < 12 → 0 < (s.2.2.1 i).2.2.1 → (s.2.2.1 i).2.1 ≠ e') : shA D h (s.1, (e', cap', sMade s ++ [c]), s.2.2.1, va_up s.2.2.2.1 c b', va_up s.2.2.2.2 c t') := by
  obtain ⟨a1, a2, a3, a4, a5, a6, a7, a8⟩ := ha
  refine ⟨a1, hcap, he, fun i hi => ⟨(a4 i hi).1, (a4 i hi).2.1, fun h0 => ⟨((a4 i hi).2.2 h0).1, fun _ => hne i hi h0, ((a4 i hi).2.2 h0).2.2⟩⟩, ?_, (by show (sMade s ++ [c]).length ≤ 1440; rw [List.length_append]; show _ + 1 ≤ _; omega), fun x hx => ?_, a8⟩
  · rw [List.nodup_append]
    refine ⟨a5, by simp, fun x hx y hy e => hcn ?_⟩
    rw [List.mem_singleton] at hy
    rw [← hy, ← e]
    exact hx
  · dsimp only at hx ⊢
    rcases List.mem_append.mp hx with hx | hx
    · have e : x ≠ c := fun e => hcn (e ▸ hx)
      rw [va_up_ne _ _ e]
      exact a7 x hx
    · rw [List.mem_singleton.mp hx, va_up_self]
      exact ⟨hc, ht⟩
theorem isShM.paper {G : AG} {M M' : AM} {h D i : Nat} {p : PP} {s : SH} (hs : isShM G M h s) (ha : shA D h s) (hi : i < 12) (hk : KE M M' (fun q => q = h + 3 + 2 * i ∨ q = h + 3 + 2 * i + 1 ∨ (0 < (s.2.2.1 i).2.2.1 ∧ q = (s.2.2.1 i).2.1))) (hp : isPp G M' (h + 3 + 2 * i) p) : isShM G M' h (s.1, s.2.1, va_up s.2.2.1 i p, s.2.2.2) := by
  obtain ⟨h1, ⟨f, h2, hf⟩, h3, h4, h5⟩ := id hs
  obtain ⟨a1, -, a3, a4, -, -, a7, -⟩ := id ha
  refine ⟨hk _ _ h1 (fun e9 => ?_), ⟨f, hk _ _ h2 (fun e9 => ?_), hf⟩, h3.ke hk (fun e9 => ?_) (fun h0 e9 => ?_), fun j hj => ?_, fun x hx => (h5 x hx).ke hk (fun e9 => ?_) (fun e9 => ?_)⟩
  · rcases e9 with e9 | e9 | ⟨e1, e2⟩
    · omega
    · omega
    · have := ((a4 i hi).2.2 e1).1
      omega
  · rcases e9 with e9 | e9 | ⟨e1, e2⟩
    · omega
    · omega
    · have := ((a4 i hi).2.2 e1).1
      omega
  · rcases e9 with e9 | e9 | ⟨e1, e2⟩
    · omega
    · omega
    · have := ((a4 i hi).2.2 e1).1
      omega
  · have := a3 h0
    rcases e9 with e9 | e9 | ⟨e1, e2⟩
    · omega
    · omega
    · exact ((a4 i hi).2.2 e1).2.1 h0 e2.symm
  · dsimp only
    by_cases e : j = i
    · subst e
      rw [va_up_self]
      exact hp
    · rw [va_up_ne _ _ e]
      refine (h4 j hj).ke hk (fun e9 => ?_) (fun e9 => ?_) (fun h0 e9 => ?_)
      · rcases e9 with e9 | e9 | ⟨e1, e2⟩
        · omega
        · omega
        · have := ((a4 i hi).2.2 e1).1
          omega
      · rcases e9 with e9 | e9 | ⟨e1, e2⟩
        · omega
        · omega
        · have := ((a4 i hi).2.2 e1).1
          omega
      · have := ((a4 j hj).2.2 h0).1
        rcases e9 with e9 | e9 | ⟨e1, e2⟩
        · omega
        · omega
        · exact ((a4 i hi).2.2 e1).2.2 j hj e h0 e2.symm
  · have := (a7 x hx).1
    rcases e9 with e9 | e9 | ⟨e1, e2⟩
    · omega
    · omega
    · have := ls_ne_c (h4 i hi).2 e1 (h5 x hx)
      omega
  · have := (a7 x hx).1
    rcases e9 with e9 | e9 | ⟨e1, e2⟩
    · omega
    · omega
    · have := ls_ne_c (h4 i hi).2 e1 (h5 x hx)
      omega
theorem shA.paper {h D i : Nat} {p : PP} {s : SH} (ha : shA D h s) (h1 : p.1 ≤ 1) (h2 : p.2.2.1 ≤ 200) (h3 : 0 < p.2.2.1 → D ≤ p.2.1 ∧ (0 < s.2.1.2.1 → p.2.1 ≠ s.2.1.1) ∧ ∀ j, j < 12 → j ≠ i → 0 < (s.2.2.1 j).2.2.1 → p.2.1 ≠ (s.2.2.1 j).2.1) : shA D h (s.1, s.2.1, va_up s.2.2.1 i p, s.2.2.2) := by
  obtain ⟨a1, a2, a3, a4, a5, a6, a7, a8⟩ := ha
  refine ⟨a1, a2, a3, fun j hj => ?_, a5, a6, a7, a8⟩
  dsimp only
  by_cases e : j = i
  · subst e
    rw [va_up_self]
    refine ⟨h1, h2, fun h0 => ⟨(h3 h0).1, (h3 h0).2.1, fun k hk hne hc => ?_⟩⟩
    rw [va_up_ne _ _ hne] at hc ⊢
    exact (h3 h0).2.2 k hk hne hc
  · rw [va_up_ne _ _ e]
    refine ⟨(a4 j hj).1, (a4 j hj).2.1, fun h0 => ⟨((a4 j hj).2.2 h0).1, ((a4 j hj).2.2 h0).2.1, fun k hk hne hc => ?_⟩⟩
    by_cases e2 : k = i
    · subst e2
      rw [va_up_self] at hc ⊢
      exact fun e9 => (h3 hc).2.2 j hj e h0 e9.symm
    · rw [va_up_ne _ _ e2] at hc ⊢
      exact ((a4 j hj).2.2 h0).2.2 k hk hne hc
theorem nwX1 : ∀ j, j < 3 → defaultValue (tyX1 j) = vp_V [.null, .int (nI 0), .int (nI 0)] j := fun j hj => by
  rcases j with _ | _ | _ | j
  · rfl
  · rfl
  · rfl
  · omega
