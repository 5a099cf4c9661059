/-! what a call changes -/
theorem isRS.file {G : AG} {M M' : AM} {x D : Nat} {τ : TS} {i : Nat} {bs : List Int32} (h : isRS G M x D τ) (hi : i < 6) (hn : isRow G M' (x + 223 + 2 * i) bs) (hk : KE M M' (fun q => x + 223 + 2 * i ≤ q ∧ q < x + 223 + 2 * i + 2)) : isRS G M' x D ((τ.1.1, va_up τ.1.2 i bs), τ.2) := by
  obtain ⟨h1, h2, o, ⟨f, f1, f2⟩, ⟨g, g1, g2⟩, ⟨d, d1, d2⟩, ⟨ap, p1⟩, ⟨w, aw, y, rb, ch, ar⟩, ⟨s, sh, sA, sL, sg0⟩, F, S, L⟩ := h
  have sA1 := sA.1
  exact ⟨h1, h2, hk _ _ o (by omega), ⟨f, hk _ _ f1 (by omega), f2⟩, ⟨g, hk _ _ g1 (by omega), g2⟩, ⟨d, hk _ _ d1 (by omega), d2⟩, ⟨ap, p1.kr hk (fun q a b => by omega)⟩, ⟨w, aw, y, rb, ch, ar.kr hk (fun q a b => by omega)⟩, ⟨s, sh.kr sA hk (fun q a b => by omega) (fun q a => by omega), sA, sL, sg0⟩, fun j hj => by
    by_cases e : j = i
    · subst e
      show isRow _ _ _ (va_up _ _ _ _)
      rw [va_up_self]
      exact hn
    · show isRow _ _ _ (va_up _ _ _ _)
      rw [va_up_ne _ _ e]
      exact (F j hj).kr hk (fun q a b => by omega), fun j hj => (S j hj).kr hk (fun q a b => by omega), fun j hj => (L j hj).kr hk (fun q a b => by omega)⟩
theorem isRS.sig {G : AG} {M M' : AM} {x D : Nat} {τ : TS} {i : Nat} {sg : SG} (h : isRS G M x D τ) (hi : i < 4) (hn : isSig G M' (x + 235 + 3 * i) sg) (hk : KE M M' (fun q => x + 235 + 3 * i ≤ q ∧ q < x + 235 + 3 * i + 3)) : isRS G M' x D (τ.1, va_up τ.2.1 i sg, τ.2.2) := by
  obtain ⟨h1, h2, o, ⟨f, f1, f2⟩, ⟨g, g1, g2⟩, ⟨d, d1, d2⟩, ⟨ap, p1⟩, ⟨w, aw, y, rb, ch, ar⟩, ⟨s, sh, sA, sL, sg0⟩, F, S, L⟩ := h
  have sA1 := sA.1
  exact ⟨h1, h2, hk _ _ o (by omega), ⟨f, hk _ _ f1 (by omega), f2⟩, ⟨g, hk _ _ g1 (by omega), g2⟩, ⟨d, hk _ _ d1 (by omega), d2⟩, ⟨ap, p1.kr hk (fun q a b => by omega)⟩, ⟨w, aw, y, rb, ch, ar.kr hk (fun q a b => by omega)⟩, ⟨s, sh.kr sA hk (fun q a b => by omega) (fun q a => by omega), sA, sL, sg0⟩, fun j hj => (F j hj).kr hk (fun q a b => by omega), fun j hj => by
    by_cases e : j = i
    · subst e
      show isSig _ _ _ (va_up _ _ _ _)
      rw [va_up_self]
      exact hn
    · show isSig _ _ _ (va_up _ _ _ _)
      rw [va_up_ne _ _ e]
      exact (S j hj).kr hk (fun q a b => by omega), fun j hj => (L j hj).kr hk (fun q a b => by omega)⟩
theorem isRS.delta {G : AG} {M M' : AM} {x D : Nat} {τ : TS} {i : Nat} {dl : DL} (h : isRS G M x D τ) (hi : i < 4) (hn : isDelta G M' (x + 247 + 6 * i) dl) (hk : KE M M' (fun q => x + 247 + 6 * i ≤ q ∧ q < x + 247 + 6 * i + 6)) : isRS G M' x D (τ.1, τ.2.1, va_up τ.2.2.1 i dl, τ.2.2.2) := by
  obtain ⟨h1, h2, o, ⟨f, f1, f2⟩, ⟨g, g1, g2⟩, ⟨d, d1, d2⟩, ⟨ap, p1⟩, ⟨w, aw, y, rb, ch, ar⟩, ⟨s, sh, sA, sL, sg0⟩, F, S, L⟩ := h
  have sA1 := sA.1
  exact ⟨h1, h2, hk _ _ o (by omega), ⟨f, hk _ _ f1 (by omega), f2⟩, ⟨g, hk _ _ g1 (by omega), g2⟩, ⟨d, hk _ _ d1 (by omega), d2⟩, ⟨ap, p1.kr hk (fun q a b => by omega)⟩, ⟨w, aw, y, rb, ch, ar.kr hk (fun q a b => by omega)⟩, ⟨s, sh.kr sA hk (fun q a b => by omega) (fun q a => by omega), sA, sL, sg0⟩, fun j hj => (F j hj).kr hk (fun q a b => by omega), fun j hj => (S j hj).kr hk (fun q a b => by omega), fun j hj => by
    by_cases e : j = i
    · subst e
      show isDelta _ _ _ (va_up _ _ _ _)
      rw [va_up_self]
      exact hn
    · show isDelta _ _ _ (va_up _ _ _ _)
      rw [va_up_ne _ _ e]
      exact (L j hj).kr hk (fun q a b => by omega)⟩
theorem isRS.app {G : AG} {M M' : AM} {x D : Nat} {τ : TS} {bs : List Int32} (h : isRS G M x D τ) (hn : isRow G M' (x + 4) bs) (hk : KE M M' (fun q => x + 4 ≤ q ∧ q < x + 6)) : isRS G M' x D τ := by
  obtain ⟨h1, h2, o, ⟨f, f1, f2⟩, ⟨g, g1, g2⟩, ⟨d, d1, d2⟩, ⟨ap, p1⟩, ⟨w, aw, y, rb, ch, ar⟩, ⟨s, sh, sA, sL, sg0⟩, F, S, L⟩ := h
  have sA1 := sA.1
  exact ⟨h1, h2, hk _ _ o (by omega), ⟨f, hk _ _ f1 (by omega), f2⟩, ⟨g, hk _ _ g1 (by omega), g2⟩, ⟨d, hk _ _ d1 (by omega), d2⟩, ⟨_, hn⟩, ⟨w, aw, y, rb, ch, ar.kr hk (fun q a b => by omega)⟩, ⟨s, sh.kr sA hk (fun q a b => by omega) (fun q a => by omega), sA, sL, sg0⟩, fun j hj => (F j hj).kr hk (fun q a b => by omega), fun j hj => (S j hj).kr hk (fun q a b => by omega), fun j hj => (L j hj).kr hk (fun q a b => by omega)⟩
theorem isRS.arch {G : AG} {M M' : AM} {x D : Nat} {τ : TS} {n : Nat} {V : Nat → VK} {w' aw' y' : Int32} {rb' : List Int32} {ch' : Nat → Int32} (h : isRS G M x D τ) (hn : isAr G M' (x + 6) n V w' aw' y' rb' ch') (hk : KE M M' (fun q => x + 6 ≤ q ∧ q < x + 196)) : isRS G M' x D (τ.1, τ.2.1, τ.2.2.1, (n, V), τ.2.2.2.2) := by
  obtain ⟨h1, h2, o, ⟨f, f1, f2⟩, ⟨g, g1, g2⟩, ⟨d, d1, d2⟩, ⟨ap, p1⟩, ⟨w, aw, y, rb, ch, ar⟩, ⟨s, sh, sA, sL, sg0⟩, F, S, L⟩ := h
  have sA1 := sA.1
  exact ⟨h1, h2, hk _ _ o (by omega), ⟨f, hk _ _ f1 (by omega), f2⟩, ⟨g, hk _ _ g1 (by omega), g2⟩, ⟨d, hk _ _ d1 (by omega), d2⟩, ⟨ap, p1.kr hk (fun q a b => by omega)⟩, ⟨_, _, _, _, _, hn⟩, ⟨s, sh.kr sA hk (fun q a b => by omega) (fun q a => by omega), sA, sL, sg0⟩, fun j hj => (F j hj).kr hk (fun q a b => by omega), fun j hj => (S j hj).kr hk (fun q a b => by omega), fun j hj => (L j hj).kr hk (fun q a b => by omega)⟩
theorem isRS.shelf {G : AG} {M M' : AM} {x D : Nat} {τ : TS} {s' : SH} {P' : PS} (h : isRS G M x D τ) (hn : isShM G M' (x + 196) s') (hA : shA D (x + 196) s') (hL : shL s' P') (hk : KE M M' (fun q => (x + 196 ≤ q ∧ q < x + 223) ∨ D ≤ q)) : isRS G M' x D (τ.1, τ.2.1, τ.2.2.1, τ.2.2.2.1, s'.1, P') := by
  obtain ⟨h1, h2, o, ⟨f, f1, f2⟩, ⟨g, g1, g2⟩, ⟨d, d1, d2⟩, ⟨ap, p1⟩, ⟨w, aw, y, rb, ch, ar⟩, ⟨s, sh, sA, sL, sg0⟩, F, S, L⟩ := h
  have sA1 := sA.1
  exact ⟨h1, h2, hk _ _ o (by omega), ⟨f, hk _ _ f1 (by omega), f2⟩, ⟨g, hk _ _ g1 (by omega), g2⟩, ⟨d, hk _ _ d1 (by omega), d2⟩, ⟨ap, p1.kr hk (fun q a b => by omega)⟩, ⟨w, aw, y, rb, ch, ar.kr hk (fun q a b => by omega)⟩, ⟨_, hn, hA, hL, rfl⟩, fun j hj => (F j hj).kr hk (fun q a b => by omega), fun j hj => (S j hj).kr hk (fun q a b => by omega), fun j hj => (L j hj).kr hk (fun q a b => by omega)⟩
theorem isRS.kr {G : AG} {M M' : AM} {x D : Nat} {τ : TS} {E : Nat → Prop} (h : isRS G M x D τ) (hk : KE M M' E) (hE : ∀ q, E q → q < x ∨ (x + 271 ≤ q ∧ q < D)) : isRS G M' x D τ := by
  obtain ⟨h1, h2, o, ⟨f, f1, f2⟩, ⟨g, g1, g2⟩, ⟨d, d1, d2⟩, ⟨ap, p1⟩, ⟨w, aw, y, rb, ch, ar⟩, ⟨s, sh, sA, sL, sg0⟩, F, S, L⟩ := h
  have sA1 := sA.1
  exact ⟨h1, h2, hk _ _ o (fun e => by have := hE _ e; omega), ⟨f, hk _ _ f1 (fun e => by have := hE _ e; omega), f2⟩, ⟨g, hk _ _ g1 (fun e => by have := hE _ e; omega), g2⟩, ⟨d, hk _ _ d1 (fun e => by have := hE _ e; omega), d2⟩, ⟨ap, p1.kr hk (fun q a b e => by have := hE _ e; omega)⟩, ⟨w, aw, y, rb, ch, ar.kr hk (fun q a b e => by have := hE _ e; omega)⟩, ⟨s, sh.kr sA hk (fun q a b e => by have := hE _ e; omega) (fun q a e => by have := hE _ e; omega), sA, sL, sg0⟩, fun j hj => (F j hj).kr hk (fun q a b e => by have := hE _ e; omega), fun j hj => (S j hj).kr hk (fun q a b e => by have := hE _ e; omega), fun j hj => (L j hj).kr hk (fun q a b e => by have := hE _ e; omega)⟩
theorem isRS.count {G : AG} {M M' : AM} {x D : Nat} {τ : TS} {n : Nat} (h : isRS G M x D τ) (hn6 : n ≤ 6) (hn : M'.1 x = some (am_o 9 [.ref (x + 1), .ref (x + 2), .ref (x + 3), .ref (x + 4), .ref (x + 6), .ref (x + 196), .int (nI n)])) (hk : KE M M' (fun q => q = x)) : isRS G M' x D ((n, τ.1.2), τ.2) := by
  obtain ⟨h1, h2, o, ⟨f, f1, f2⟩, ⟨g, g1, g2⟩, ⟨d, d1, d2⟩, ⟨ap, p1⟩, ⟨w, aw, y, rb, ch, ar⟩, ⟨s, sh, sA, sL, sg0⟩, F, S, L⟩ := h
  have sA1 := sA.1
  exact ⟨hn6, h2, hn, ⟨f, hk _ _ f1 (by omega), f2⟩, ⟨g, hk _ _ g1 (by omega), g2⟩, ⟨d, hk _ _ d1 (by omega), d2⟩, ⟨ap, p1.kr hk (fun q a b => by omega)⟩, ⟨w, aw, y, rb, ch, ar.kr hk (fun q a b => by omega)⟩, ⟨s, sh.kr sA hk (fun q a b => by omega) (fun q a => by omega), sA, sL, sg0⟩, fun j hj => (F j hj).kr hk (fun q a b => by omega), fun j hj => (S j hj).kr hk (fun q a b => by omega), fun j hj => (L j hj).kr hk (fun q a b => by omega)⟩
