/-! what a comparison gives -/
abbrev IN : Type := Bool × Nat × Nat
abbrev DL : Type := Bool × List IN × Nat × List Int32
abbrev CS : Type := List IN × Option Nat × Nat
abbrev dI : IN := (false, 0, 0)
def behI : Option Nat → Int32
  | none => -1
  | some b => nI b
theorem behI_eq {o : Option Nat} {b : Nat} (ho : ∀ k, o = some k → k < 2 ^ 31) (hb : b < 2 ^ 31) : nI b = behI o ↔ o = some b := by
  cases o with
  | none =>
    constructor
    · intro h
      have h1 := nI_pos' hb
      rw [h] at h1
      exact absurd h1 (by decide)
    · intro h
      cases h
  | some k =>
    have hk := ho k rfl
    constructor
    · intro h
      have := (nI_eq hb hk).mp h
      rw [this]
    · intro h
      cases h
      rfl
theorem behI_none {o : Option Nat} (ho : ∀ k, o = some k → k < 2 ^ 31) : behI o = -1 ↔ o = none := by
  cases o with
  | none => simp [behI]
  | some k =>
    constructor
    · intro h
      have h1 := nI_pos' (ho k rfl)
      have h2 : nI k = -1 := h
      rw [h2] at h1
      exact absurd h1 (by decide)
    · intro h
      cases h
def lowest (P : Nat → Bool) : Nat → Option Nat
  | 0 => none
  | k + 1 => match lowest P k with
    | some j => some j
    | none => if P k then some k else none
def anyB (P : Nat → Bool) : Nat → Bool
  | 0 => false
  | k + 1 => anyB P k || P k
theorem lowest_some {P : Nat → Bool} : ∀ {n b : Nat}, lowest P n = some b → b < n ∧ P b = true
  | 0, b, h => by cases h
  | n + 1, b, h => by
    unfold lowest at h
    cases hl : lowest P n with
    | some j =>
      rw [hl] at h
      cases h
      have := lowest_some hl
      exact ⟨by omega, this.2⟩
    | none =>
      rw [hl] at h
      dsimp only at h
      split at h
      · cases h
        exact ⟨by omega, by assumption⟩
      · cases h
theorem lowest_none {P : Nat → Bool} : ∀ {n : Nat}, lowest P n = none → ∀ k, k < n → P k = false
  | 0, _, k, hk => by omega
  | n + 1, h, k, hk => by
    unfold lowest at h
    cases hl : lowest P n with
    | some j => rw [hl] at h; cases h
    | none =>
      rw [hl] at h
      dsimp only at h
      by_cases e : k = n
      · subst e
        cases hp : P k with
        | true => rw [hp] at h; cases h
        | false => rfl
      · exact lowest_none hl k (by omega)
theorem anyB_false {P : Nat → Bool} : ∀ {n : Nat}, (∀ k, k < n → P k = false) → anyB P n = false
  | 0, _ => rfl
  | n + 1, h => by
    rw [anyB, anyB_false (fun k hk => h k (by omega)), h n (by omega)]
    rfl
def fnd (P : Nat → Bool) (n : Nat) (beh : Option Nat) : Option Nat := match beh with
  | some b => if b < n ∧ P b = true then some b else lowest P n
  | none => lowest P n
theorem fnd_some {P : Nat → Bool} {n b : Nat} {beh : Option Nat} (h : fnd P n beh = some b) : b < n ∧ P b = true := by
  unfold fnd at h
  split at h
  · split at h
    · cases h
      assumption
    · exact lowest_some h
  · exact lowest_some h
theorem fnd_none {P : Nat → Bool} {n : Nat} {beh : Option Nat} (h : fnd P n beh = none) : ∀ k, k < n → P k = false := by
  unfold fnd at h
  split at h
  · split at h
    · cases h
    · exact lowest_none h
  · exact lowest_none h
theorem fnd_low {P : Nat → Bool} {n : Nat} {beh : Option Nat} (h : ∀ b, beh = some b → b < n → P b = false) : fnd P n beh = lowest P n := by
  unfold fnd
  split
  · rename_i b
    rw [if_neg]
    intro q
    rw [h b rfl q.1] at q
    cases q.2
  · rfl
theorem fnd_beh {P : Nat → Bool} {n b : Nat} (h1 : b < n) (h2 : P b = true) : fnd P n (some b) = some b := if_pos ⟨h1, h2⟩
theorem fnd_off {P : Nat → Bool} {n : Nat} {beh : Option Nat} (h : ∀ k, k < n → P k = false) : fnd P n beh = none := by
  cases hf : fnd P n beh with
  | none => rfl
  | some b =>
    have := fnd_some hf
    rw [h b this.1] at this
    cases this.2
/-- the block k has the window's length and its weak sum .. and its strong sum -/
def qW (s : SG) (bs : List Int32) (p w k : Nat) : Bool := decide (sgL s k = w) && decide (sgW s k = wk bs p w s.2.2.1)
def qP (s : SG) (bs : List Int32) (p w k : Nat) : Bool := qW s bs p w k && decide (sgG s k = sg bs p w)
theorem qP_len {s : SG} {bs : List Int32} {p w k : Nat} (h : qP s bs p w k = true) : sgL s k = w := by
  simp only [qP, qW, Bool.and_eq_true, decide_eq_true_eq] at h
  exact h.1.1
def lastI (ins : List IN) : IN := ins.getD (ins.length - 1) dI
def bump (ins : List IN) (n : Nat) : List IN := ins.set (ins.length - 1) ((lastI ins).1, (lastI ins).2.1, (lastI ins).2.2 + n)
def litI (ins : List IN) (p : Nat) : List IN := if 0 < ins.length ∧ (lastI ins).1 = false then bump ins 1 else ins ++ [(false, p, 1)]
def cpI (ins : List IN) (beh : Option Nat) (b a w : Nat) : List IN := if beh = some b ∧ 0 < ins.length then bump ins w else ins ++ [(true, a, w)]
def cstep (s : SG) (bs : List Int32) (p : Nat) (t : CS) : CS × Nat :=
  match fnd (qP s bs p (min s.2.1 (bs.length - p))) (sgN s) t.2.1 with
  | some b => ((cpI t.1 t.2.1 b (b * s.2.1) (min s.2.1 (bs.length - p)), some (b + 1), t.2.2), min s.2.1 (bs.length - p))
  | none => ((litI t.1 p, none, t.2.2 + if anyB (qW s bs p (min s.2.1 (bs.length - p))) (sgN s) then 1 else 0), 1)
def crun (s : SG) (bs : List Int32) : Nat → Nat → CS → CS
  | 0, _, t => t
  | f + 1, p, t => if p < bs.length then crun s bs f (p + (cstep s bs p t).2) (cstep s bs p t).1 else t
def cmps (s : SG) (bs : List Int32) : CS := crun s bs bs.length 0 ([], none, 0)
def cmpD (s : SG) (bs : List Int32) : DL := (true, (cmps s bs).1, (cmps s bs).2.2, bs)
def sumsz : List IN → Nat
  | [] => 0
  | i :: t => i.2.2 + sumsz t
theorem sumsz_app (a b : List IN) : sumsz (a ++ b) = sumsz a + sumsz b := by
  induction a with
  | nil => simp [sumsz]
  | cons i t ih => simp [sumsz, ih, Nat.add_assoc]
theorem sumsz_take_le (a : List IN) (k : Nat) : sumsz (a.take k) ≤ sumsz a := by
  conv => rhs; rw [← List.take_append_drop k a, sumsz_app]
  exact Nat.le_add_right _ _
theorem split_last {ins : List IN} (h : 0 < ins.length) : ins = ins.dropLast ++ [lastI ins] := by
  have hne : ins ≠ [] := by intro e; rw [e] at h; exact absurd h (by decide)
  have e : lastI ins = ins.getLast hne := by
    rw [lastI, List.getLast_eq_getElem, List.getD, List.getElem?_eq_getElem (by omega)]
    rfl
  rw [e]
  exact (List.dropLast_concat_getLast hne).symm
theorem bump_split {ins : List IN} (h : 0 < ins.length) (n : Nat) : bump ins n = ins.dropLast ++ [((lastI ins).1, (lastI ins).2.1, (lastI ins).2.2 + n)] := by
  have e := split_last h
  unfold bump
  generalize hx : ((lastI ins).1, (lastI ins).2.1, (lastI ins).2.2 + n) = x
  conv => lhs; rw [e]
  have h2 : (ins.dropLast ++ [lastI ins]).length - 1 = ins.dropLast.length := by simp
  rw [List.length_append] at h2
  simp only [List.length_append, List.length_cons, List.length_nil]
  rw [show ins.dropLast.length + (0 + 1) - 1 = ins.dropLast.length by omega, List.set_append]
  simp
theorem bump_len (ins : List IN) (n : Nat) : (bump ins n).length = ins.length := by simp [bump]
theorem lastI_app (a : List IN) (i : IN) : lastI (a ++ [i]) = i := by
  simp [lastI, List.getD]
theorem bump_get {ins : List IN} {n k : Nat} (hk : k < ins.length) : (bump ins n).getD k dI = if k = ins.length - 1 then ((lastI ins).1, (lastI ins).2.1, (lastI ins).2.2 + n) else ins.getD k dI := by
  unfold bump
  by_cases e : k = ins.length - 1
  · rw [if_pos e, List.getD, ← e, List.getElem?_set_self hk]
    rfl
  · rw [if_neg e, List.getD, List.getElem?_set_ne (Ne.symm e)]
    rfl
/-- what holds of a comparison on its way -/
def cinv (s : SG) (p : Nat) (t : CS) : Prop :=
  t.1.length ≤ p ∧ sumsz t.1 = p ∧ (∀ i ∈ t.1, i.1 = false → i.2.1 + i.2.2 ≤ p) ∧ (∀ i ∈ t.1, i.1 = true → i.2.1 + i.2.2 ≤ s.2.2.2.length) ∧ t.2.2 ≤ p ∧
  (∀ b, t.2.1 = some b → 0 < t.1.length ∧ (lastI t.1).1 = true ∧ b ≤ sgN s ∧ (lastI t.1).2.1 + (lastI t.1).2.2 = min (b * s.2.1) s.2.2.2.length) ∧
  (0 < t.1.length → (lastI t.1).1 = false → (lastI t.1).2.1 + (lastI t.1).2.2 = p)
theorem cinv_0 (s : SG) : cinv s 0 ([], none, 0) :=
  ⟨Nat.le_refl _, rfl, fun i h => (nomatch h), fun i h => (nomatch h), Nat.le_refl _, fun b h => (nomatch h), fun h => absurd h (by decide)⟩
theorem cinv_step {s : SG} {bs : List Int32} {p : Nat} {t : CS} (hs : sgV s) (hp : p < bs.length) (h : cinv s p t) :
    cinv s (p + (cstep s bs p t).2) (cstep s bs p t).1 ∧ 0 < (cstep s bs p t).2 ∧ p + (cstep s bs p t).2 ≤ bs.length := by
  obtain ⟨ins, beh, al⟩ := t
  obtain ⟨v1, v2, v3, v4, v5⟩ := hs
  obtain ⟨h1, h2, h3, h4, h5, h6, h7⟩ := h
  dsimp only at h1 h2 h3 h4 h5 h6 h7
  cases hf : fnd (qP s bs p (min s.2.1 (bs.length - p))) (sgN s) beh with
  | some b =>
    have e : cstep s bs p (ins, beh, al) = ((cpI ins beh b (b * s.2.1) (min s.2.1 (bs.length - p)), some (b + 1), al), min s.2.1 (bs.length - p)) := by
      simp only [cstep, hf]
    rw [e]
    dsimp only
    obtain ⟨f1, f2⟩ := fnd_some hf
    have hl : min s.2.1 (s.2.2.2.length - b * s.2.1) = min s.2.1 (bs.length - p) := qP_len f2
    have hb : b * s.2.1 < s.2.2.2.length := (nb_lt v1).mp f1
    have hb1 : (b + 1) * s.2.1 = b * s.2.1 + s.2.1 := Nat.succ_mul _ _
    generalize hw : min s.2.1 (bs.length - p) = w at hl ⊢
    have hw0 : 0 < w := by omega
    have hsum : b * s.2.1 + w = min ((b + 1) * s.2.1) s.2.2.2.length := by omega
    refine ⟨?_, hw0, by omega⟩
    unfold cpI
    by_cases hc : beh = some b ∧ 0 < ins.length
    · rw [if_pos hc]
      obtain ⟨g1, g2, g3, g4⟩ := h6 b hc.1
      have hsp := split_last hc.2
      rw [bump_split hc.2]
      have hdl : ins.dropLast.length + 1 = ins.length := by simp; omega
      have hs2 : sumsz ins.dropLast + (lastI ins).2.2 = p := by
        rw [← h2]
        conv => rhs; rw [hsp]
        rw [sumsz_app]
        simp [sumsz]
      refine ⟨by simp; omega, by rw [sumsz_app]; simp [sumsz]; omega, fun i hi hc1 => ?_, fun i hi hc1 => ?_, by dsimp only; omega, fun b' hb' => ?_, fun _ hc1 => ?_⟩
      · rcases List.mem_append.mp hi with q | q
        · exact Nat.le_trans (h3 i ((List.dropLast_sublist ins).subset q) hc1) (by omega)
        · rw [List.mem_singleton.mp q] at hc1
          dsimp only at hc1
          rw [g2] at hc1
          cases hc1
      · rcases List.mem_append.mp hi with q | q
        · exact h4 i ((List.dropLast_sublist ins).subset q) hc1
        · rw [List.mem_singleton.mp q]
          dsimp only
          omega
      · cases hb'
        dsimp only
        rw [lastI_app]
        dsimp only
        exact ⟨by simp, g2, by omega, by omega⟩
      · dsimp only at hc1
        rw [lastI_app] at hc1
        dsimp only at hc1
        rw [g2] at hc1
        cases hc1
    · rw [if_neg hc]
      refine ⟨by simp; omega, by rw [sumsz_app]; simp [sumsz]; omega, fun i hi hc1 => ?_, fun i hi hc1 => ?_, by dsimp only; omega, fun b' hb' => ?_, fun _ hc1 => ?_⟩
      · rcases List.mem_append.mp hi with q | q
        · exact Nat.le_trans (h3 i q hc1) (by omega)
        · rw [List.mem_singleton.mp q] at hc1
          cases hc1
      · rcases List.mem_append.mp hi with q | q
        · exact h4 i q hc1
        · rw [List.mem_singleton.mp q]
          dsimp only
          omega
      · cases hb'
        dsimp only
        rw [lastI_app]
        dsimp only
        exact ⟨by simp, rfl, by omega, by omega⟩
      · dsimp only at hc1
        rw [lastI_app] at hc1
        cases hc1
  | none =>
    have e : cstep s bs p (ins, beh, al) = ((litI ins p, none, al + if anyB (qW s bs p (min s.2.1 (bs.length - p))) (sgN s) then 1 else 0), 1) := by
      simp only [cstep, hf]
    rw [e]
    dsimp only
    have hal : (if anyB (qW s bs p (min s.2.1 (bs.length - p))) (sgN s) = true then 1 else 0) ≤ 1 := by split <;> omega
    generalize (if anyB (qW s bs p (min s.2.1 (bs.length - p))) (sgN s) = true then 1 else 0) = a1 at hal ⊢
    refine ⟨?_, by omega, by omega⟩
    unfold litI
    by_cases hc : 0 < ins.length ∧ (lastI ins).1 = false
    · rw [if_pos hc]
      have g4 := h7 hc.1 hc.2
      have hsp := split_last hc.1
      rw [bump_split hc.1]
      have hdl : ins.dropLast.length + 1 = ins.length := by simp; omega
      have hs2 : sumsz ins.dropLast + (lastI ins).2.2 = p := by
        rw [← h2]
        conv => rhs; rw [hsp]
        rw [sumsz_app]
        simp [sumsz]
      refine ⟨by simp; omega, by rw [sumsz_app]; simp [sumsz]; omega, fun i hi hc1 => ?_, fun i hi hc1 => ?_, by dsimp only; omega, fun b' hb' => (nomatch hb'), fun _ hc1 => ?_⟩
      · rcases List.mem_append.mp hi with q | q
        · exact Nat.le_trans (h3 i ((List.dropLast_sublist ins).subset q) hc1) (by omega)
        · rw [List.mem_singleton.mp q]
          dsimp only
          omega
      · rcases List.mem_append.mp hi with q | q
        · exact h4 i ((List.dropLast_sublist ins).subset q) hc1
        · rw [List.mem_singleton.mp q] at hc1
          dsimp only at hc1
          rw [hc.2] at hc1
          cases hc1
      · dsimp only
        rw [lastI_app]
        dsimp only
        omega
    · rw [if_neg hc]
      refine ⟨by simp; omega, by rw [sumsz_app]; simp [sumsz]; omega, fun i hi hc1 => ?_, fun i hi hc1 => ?_, by dsimp only; omega, fun b' hb' => (nomatch hb'), fun _ hc1 => ?_⟩
      · rcases List.mem_append.mp hi with q | q
        · exact Nat.le_trans (h3 i q hc1) (by omega)
        · rw [List.mem_singleton.mp q]
          dsimp only
          omega
      · rcases List.mem_append.mp hi with q | q
        · exact h4 i q hc1
        · rw [List.mem_singleton.mp q] at hc1
          cases hc1
      · dsimp only
        rw [lastI_app]
def dlV (D : DL) : Prop := D.2.1.length ≤ 120 ∧ sumsz D.2.1 = D.2.2.2.length ∧ D.2.2.2.length ≤ 120 ∧ (∀ i ∈ D.2.1, i.1 = false → i.2.1 + i.2.2 ≤ D.2.2.2.length) ∧ (∀ i ∈ D.2.1, i.1 = true → i.2.1 + i.2.2 ≤ 120) ∧ D.2.2.1 ≤ 120
theorem crun_V {s : SG} {bs : List Int32} (hs : sgV s) : ∀ (f p : Nat) (t : CS), bs.length - p ≤ f → p ≤ bs.length → cinv s p t → cinv s bs.length (crun s bs f p t)
  | 0, p, t, hf, hp, h => by
    have e : p = bs.length := by omega
    rw [← e]
    exact h
  | f + 1, p, t, hf, hp, h => by
    unfold crun
    by_cases hc : p < bs.length
    · rw [if_pos hc]
      obtain ⟨a, b, c⟩ := cinv_step hs hc h
      exact crun_V hs f _ _ (by omega) c a
    · rw [if_neg hc]
      have e : p = bs.length := by omega
      rw [← e]
      exact h
theorem cmpD_V {s : SG} {bs : List Int32} (hs : sgV s) (hb : bs.length ≤ 120) : dlV (cmpD s bs) := by
  obtain ⟨h1, h2, h3, h4, h5, -, -⟩ := crun_V (bs := bs) hs bs.length 0 ([], none, 0) (by omega) (by omega) (cinv_0 s)
  exact ⟨Nat.le_trans h1 hb, h2, hb, h3, fun i hi hc => Nat.le_trans (h4 i hi hc) hs.2.2.2.2, Nat.le_trans h5 hb⟩
theorem crun_stop {s : SG} {bs : List Int32} {p : Nat} {t : CS} (h : bs.length ≤ p) : ∀ f, crun s bs f p t = t
  | 0 => rfl
  | f + 1 => by
    unfold crun
    rw [if_neg (by omega)]
theorem crun_go {s : SG} {bs : List Int32} {p f : Nat} {t : CS} (h : p < bs.length) : crun s bs (f + 1) p t = crun s bs f (p + (cstep s bs p t).2) (cstep s bs p t).1 := by
  conv => lhs; unfold crun
  rw [if_pos h]
/-- the cost -/
def pr (ins : List IN) : Nat → Nat
  | 0 => 0
  | k + 1 => pr ins k + (if (ins.getD k dI).1 then 3 else 1 + (ins.getD k dI).2.2)
def price (ins : List IN) : Nat := pr ins ins.length
/-- no copy goes beyond n bytes -/
def fitB (ins : List IN) (n : Nat) : Bool := ins.all (fun i => !i.1 || decide (i.2.1 + i.2.2 ≤ n))
def piece (cm bb : List Int32) (i : IN) : List Int32 := ((if i.1 then bb else cm).drop i.2.1).take i.2.2
def app (ins : List IN) (cm bb : List Int32) : List Int32 := ins.flatMap (piece cm bb)
theorem fitB_at {ins : List IN} {n : Nat} (h : fitB ins n = true) {i : IN} (hi : i ∈ ins) (hc : i.1 = true) : i.2.1 + i.2.2 ≤ n := by
  have := List.all_eq_true.mp h i hi
  simpa [hc] using this
theorem piece_len {D : DL} {bb : List Int32} (hV : dlV D) (hf : fitB D.2.1 bb.length = true) {i : IN} (hi : i ∈ D.2.1) : (piece D.2.2.2 bb i).length = i.2.2 := by
  unfold piece
  cases hc : i.1 with
  | true =>
    have := fitB_at hf hi hc
    simp
    omega
  | false =>
    have := hV.2.2.2.1 i hi hc
    simp
    omega
theorem app_len {D : DL} {bb : List Int32} (hV : dlV D) (hf : fitB D.2.1 bb.length = true) : ∀ l : List IN, (∀ i ∈ l, i ∈ D.2.1) → (app l D.2.2.2 bb).length = sumsz l
  | [], _ => rfl
  | i :: t, h => by
    have h1 := app_len hV hf t (fun j hj => h j (List.mem_cons_of_mem _ hj))
    unfold app at h1 ⊢
    rw [List.flatMap_cons, List.length_append, h1, piece_len hV hf (h i List.mem_cons_self)]
    rfl
theorem app_le {D : DL} {bb : List Int32} (hV : dlV D) (hf : fitB D.2.1 bb.length = true) : (app D.2.1 D.2.2.2 bb).length ≤ 120 := by
  rw [app_len hV hf _ (fun _ h => h), hV.2.1]
  exact hV.2.2.1
