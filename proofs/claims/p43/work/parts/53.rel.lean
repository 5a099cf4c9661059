/-! the law's tables, and what they say of the class's state -/
abbrev szL : Nat → Nat := fun j => [64, 4, 64, 12, 64, 64, 64, 64, 8, 64, 12, 64, 64, 64, 64, 8, 1, 64, 64, 8, 3].getD j 0
def filesR (f n : Nat → Int32) (fl : Nat → List Int32) : Prop := ∀ i, i < 4 → (fl i).length ≤ 16 ∧ byB (fl i) ∧ n i = nI (fl i).length ∧ bR f (16 * i) (fl i)
def sigR (sb sp : Nat → Int32) (i : Nat) (s : SG) : Prop := sgV s ∧ s.2.2.2.length ≤ 16 ∧ byB s.2.2.2 ∧ ((s.1 = true ∧ sp i = nI s.2.1 ∧ sp (4 + i) = nI s.2.2.1 ∧ sp (8 + i) = nI s.2.2.2.length ∧ bR sb (16 * i) s.2.2.2) ∨ (s.1 = false ∧ sp i = nI 0 ∧ sgN s = 0))
def sigsR (sb sp : Nat → Int32) (sg : Nat → SG) : Prop := ∀ i, i < 4 → sigR sb sp i (sg i)
def delR (db dc ds dm dp : Nat → Int32) (i : Nat) (D : DL) : Prop := (D.1 = true ∧ dV D ∧ dlR db dc ds dm dp i D) ∨ (D.1 = false ∧ D.2.1 = [] ∧ D.2.2.1 = 0 ∧ dp i = -1)
def delsR (db dc ds dm dp : Nat → Int32) (dl : Nat → DL) : Prop := ∀ i, i < 4 → delR db dc ds dm dp i (dl i)
def versR (vb vp eb ec es em ep c : Nat → Int32) (a : Nat × (Nat → VK)) : Prop := c 0 = nI a.1 ∧ vsR vb vp eb ec es em ep a.1 a.2
def cutsR (cu : Nat → Int32) (g : Nat × Nat × Nat) : Prop := cu 0 = nI g.1 ∧ cu 1 = nI g.2.1 ∧ cu 2 = nI g.2.2 ∧ 0 < g.1 ∧ g.1 ≤ 16 ∧ g.1 ≤ g.2.1 ∧ g.2.1 ≤ 40 ∧ 0 < g.2.2 ∧ g.2.2 ≤ 64
def lR (F : Nat → Nat → Int32) (τ : TS) : Prop := τ.1.1 = 4 ∧ filesR (F 0) (F 1) τ.1.2 ∧ sigsR (F 2) (F 3) τ.2.1 ∧ delsR (F 4) (F 5) (F 6) (F 7) (F 8) τ.2.2.1 ∧ versR (F 9) (F 10) (F 11) (F 12) (F 13) (F 14) (F 15) (F 16) τ.2.2.2.1 ∧ cutsR (F 20) τ.2.2.2.2.1 ∧ psR (F 17) (F 18) (F 19) τ.2.2.2.2.2
abbrev tbL (G : AG) (x : Nat) (M0 M : AM) (F : Nat → Nat → Int32) : Prop := tbM G szL 21 (x + 271) M0 M F
/-- the law's state between two steps -/
def lS (G : AG) (M : AM) (x : Nat) (τ : TS) : Prop := isRS G M x (x + 292) τ ∧ ∃ F, tbL G x M M F ∧ lR F τ
/-- true, and the tables still tell the state -/
def lP (G : AG) (x : Nat) (v : Option Value) (M' : AM) : Prop := v = some (.int (nI 1)) ∧ ∃ τ', lS G M' x τ'
theorem tbM.ke {G : AG} {sz : Nat → Nat} {N b : Nat} {M0 M M' : AM} {F : Nat → Nat → Int32} {E : Nat → Prop} (h : tbM G sz N b M0 M F) (hk : KE M M' E) (hE : ∀ q, E q → q < b ∨ b + N ≤ q) : tbM G sz N b M' M' F := ⟨fun j hj => hk _ _ (h.1 j hj) (fun e => by have := hE _ e; omega), KE.rf⟩
/-- behind a call of the class -/
theorem lS.of {G : AG} {M0 M M' : AM} {x : Nat} {τ : TS} {F : Nat → Nat → Int32} {E : Nat → Prop} (h : tbL G x M0 M F) (hr : lR F τ) (hs : isRS G M' x (x + 292) τ) (hk : KE M M' E) (hE : ∀ q, E q → q < x + 271 ∨ x + 292 ≤ q) : lS G M' x τ := ⟨hs, F, tbM.ke h hk (fun q e => by have := hE q e; omega), hr⟩
theorem eD_ok {x : Nat} : ∀ q, eD x (x + 292) q → q < x + 271 ∨ x + 292 ≤ q := fun q e => by
  rcases e with e | e
  · omega
  · omega
theorem eX_ok {x : Nat} : ∀ q, eX x q → q < x + 271 ∨ x + 292 ≤ q := fun q e => by
  have := e.2
  omega
/-- the class's state while the tables change -/
theorem isRS.tb {G : AG} {M M' : AM} {x : Nat} {τ : TS} {F : Nat → Nat → Int32} (h : isRS G M x (x + 292) τ) (ht : tbL G x M M' F) : isRS G M' x (x + 292) τ := h.kr ht.2 (fun q e => by omega)
theorem filesR.set {f n g m : Nat → Int32} {fl : Nat → List Int32} {i : Nat} {bs : List Int32} (h : filesR f n fl) (hl : bs.length ≤ 16) (hb : byB bs) (hm : m i = nI bs.length) (hm2 : ∀ j, j < 4 → j ≠ i → m j = n j) (hg : bR g (16 * i) bs) (hg2 : ∀ k, k < 16 * i ∨ 16 * i + 16 ≤ k → g k = f k) : filesR g m (va_up fl i bs) := by
  intro j hj
  by_cases e : j = i
  · subst e
    rw [va_up_self]
    exact ⟨hl, hb, hm, hg⟩
  · rw [va_up_ne _ _ e]
    obtain ⟨a1, a2, a3, a4⟩ := h j hj
    exact ⟨a1, a2, (hm2 j hj e).trans a3, fun k hk => (hg2 _ (by omega)).trans (a4 k hk)⟩
theorem byB.app {a b : List Int32} (h : byB a) (h2 : byB b) : byB (a ++ b) := fun v hv => (List.mem_append.mp hv).elim (h v) (h2 v)
theorem byB.one {n : Nat} (h : n < 256) : byB [nI n] := fun v hv => ⟨n, h, List.mem_singleton.mp hv⟩
theorem byB.take {a : List Int32} (h : byB a) (k : Nat) : byB (a.take k) := fun v hv => h v (List.mem_of_mem_take hv)
theorem byB.drop {a : List Int32} (h : byB a) (k : Nat) : byB (a.drop k) := fun v hv => h v (List.mem_of_mem_drop hv)
theorem byB_adds (a s : Nat) : ∀ k, byB (adds a s k)
  | 0 => fun v hv => (nomatch hv)
  | k + 1 => (byB_adds a s k).app (byB.one (Nat.mod_lt _ (by decide)))
theorem inI_n {i n : Nat} (hi : i < n) (hn : n < 2 ^ 31) : inI (nI i) n := ⟨nI_pos (by omega), nI_lt hi hn⟩
theorem inI_of {w : Int32} {n : Nat} (h1 : ¬ w < 0) (h2 : ¬ nI n ≤ w) : inI w n := ⟨h1, Int32.not_le.mp h2⟩
theorem ix_n {i : Nat} (hi : i < 2 ^ 31) : ix (nI i) = i := nI_clamp hi
theorem aw_splQ {Z : AZ} {Q : State → Prop} {M : AM} {k n pc : Nat} {L : List (Option Value)} {st : List Value} (pm : Nat) (P : Prop) (H : (P → AW Z Q M k n pm L st) → AW Z Q M k n pc L st) (K : P → AW Z Q M k n pm L st) : AW Z Q M k n pc L st := H K
theorem lR.files {F F' : Nat → Nat → Int32} {τ : TS} {fl : Nat → List Int32} (h : lR F τ) (hf : filesR (F' 0) (F' 1) fl) (ho : ∀ j, 2 ≤ j → F' j = F j) : lR F' ((τ.1.1, fl), τ.2) := by
  obtain ⟨h1, -, h3, h4, h5, h6, h7⟩ := h
  refine ⟨h1, hf, ?_, ?_, ?_, ?_, ?_⟩
  · rw [ho 2 (by decide), ho 3 (by decide)]
    exact h3
  · rw [ho 4 (by decide), ho 5 (by decide), ho 6 (by decide), ho 7 (by decide), ho 8 (by decide)]
    exact h4
  · rw [ho 9 (by decide), ho 10 (by decide), ho 11 (by decide), ho 12 (by decide), ho 13 (by decide), ho 14 (by decide), ho 15 (by decide), ho 16 (by decide)]
    exact h5
  · rw [ho 20 (by decide)]
    exact h6
  · rw [ho 17 (by decide), ho 18 (by decide), ho 19 (by decide)]
    exact h7
theorem filesR.push {f n : Nat → Int32} {fl : Nat → List Int32} {i v : Nat} {bs : List Int32} (h : filesR f n (va_up fl i bs)) (hi : i < 4) (hl : bs.length < 16) (hv : v < 256) : filesR (upd f (16 * i + bs.length) (nI v)) (upd n i (nI (bs.length + 1))) (va_up fl i (bs ++ [nI v])) := by
  have h0 := h i hi
  rw [va_up_self] at h0
  obtain ⟨a1, a2, a3, a4⟩ := h0
  have q := h.set (i := i) (bs := bs ++ [nI v]) (g := upd f (16 * i + bs.length) (nI v)) (m := upd n i (nI (bs.length + 1))) (by rw [List.length_append]; exact hl) (a2.app (byB.one hv)) (by rw [pk_us, List.length_append]; rfl) (fun j _ hj => pk_un hj) (fun k hk => ?_) (fun k hk => pk_un (by omega))
  · rw [va_up2] at q
    exact q
  · rw [List.length_append] at hk
    have hk : k < bs.length + 1 := hk
    by_cases e : k = bs.length
    · rw [e, pk_us, show bs.length = bs.length + 0 from rfl, gd_r]
      rfl
    · rw [pk_un (by omega), gd_l (by omega)]
      exact a4 k (by omega)
