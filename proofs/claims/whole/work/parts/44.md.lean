/-! the model's cells: the object y, its arrays y + 1 to y + 26 -/
def mobj (y : Nat) (c : Nat → Int32) : List Value := [.int (c 0), .ref (y + 1), .ref (y + 2), .ref (y + 3), .ref (y + 4), .ref (y + 5), .ref (y + 6), .ref (y + 7), .ref (y + 8), .ref (y + 9), .ref (y + 10), .ref (y + 11), .ref (y + 12), .ref (y + 13), .ref (y + 14), .ref (y + 15), .int (c 16), .ref (y + 16), .ref (y + 17), .ref (y + 18), .ref (y + 19), .ref (y + 20), .int (c 22), .int (c 23), .int (c 24), .ref (y + 21), .int (c 26), .ref (y + 22), .int (c 28), .int (c 29), .int (c 30), .ref (y + 23), .ref (y + 24), .ref (y + 25), .ref (y + 26), .int (c 35)]
/-- kind (1 ints, 2 booleans) and length of an array -/
def mT : Nat → Nat × Nat
  | 1 => (1, 6)
  | 2 => (1, 720)
  | 3 => (1, 5)
  | 4 => (1, 5)
  | 5 => (1, 5)
  | 6 => (1, 5)
  | 7 => (1, 600)
  | 9 => (2, 24)
  | 10 => (1, 24)
  | 11 => (1, 24)
  | 12 => (2, 2880)
  | 13 => (1, 2880)
  | 14 => (1, 2880)
  | 15 => (1, 2880)
  | 16 => (1, 20)
  | 17 => (1, 20)
  | 18 => (1, 20)
  | 19 => (1, 2400)
  | 20 => (1, 20)
  | 21 => (1, 120)
  | 22 => (1, 120)
  | 23 => (2, 12)
  | 24 => (1, 12)
  | 25 => (1, 1440)
  | 26 => (1, 1440)
  | _ => (0, 0)
theorem mT_le {a k n : Nat} (h : mT a = (k, n)) (h0 : 0 < k) : 0 < a ∧ a ≠ 8 ∧ a < 27 := by
  unfold mT at h
  split at h
  all_goals first | (cases h; omega) | omega
abbrev MA : Type := Nat → Nat → Int32
def md (G : AG) (M0 M : AM) (y : Nat) (A : MA) (S : Nat → Int64) (c : Nat → Int32) : Prop :=
  M.1 y = some (am_o 10 (mobj y c)) ∧ (∀ a n, mT a = (1, n) → M.1 (y + a) = some (am_ai G n (A a))) ∧ (∀ a n, mT a = (2, n) → M.1 (y + a) = some (am_az G n (A a))) ∧ M.1 (y + 8) = some (am_al G 600 S) ∧ KE M0 M (fun q => y ≤ q ∧ q < y + 27)
section MDfacts
variable {G : AG} {M0 M : AM} {y : Nat} {A : MA} {S : Nat → Int64} {c : Nat → Int32}
theorem md.at (h : md G M0 M y A S c) : M.1 y = some (am_o 10 (mobj y c)) := h.1
theorem md.ai (h : md G M0 M y A S c) (a : Nat) {n : Nat} (hT : mT a = (1, n)) : M.1 (y + a) = some (am_ai G n (A a)) := h.2.1 a n hT
theorem md.az (h : md G M0 M y A S c) (a : Nat) {n : Nat} (hT : mT a = (2, n)) : M.1 (y + a) = some (am_az G n (A a)) := h.2.2.1 a n hT
theorem md.al (h : md G M0 M y A S c) : M.1 (y + 8) = some (am_al G 600 S) := h.2.2.2.1
theorem md.obj (h : md G M0 M y A S c) (c' : Nat → Int32) : md G M0 (am_up M y (am_o 10 (mobj y c'))) y A S c' :=
  ⟨am_us, fun a n hT => (am_un (by have := mT_le hT (by omega); omega)).trans (h.2.1 a n hT), fun a n hT => (am_un (by have := mT_le hT (by omega); omega)).trans (h.2.2.1 a n hT), (am_un (by omega)).trans h.2.2.2.1, h.2.2.2.2.tr (KE.up.mono (fun q e => by omega))⟩
theorem md.st (h : md G M0 M y A S c) (a : Nat) {n : Nat} (hT : mT a = (1, n)) (f : Nat → Int32) : md G M0 (am_up M (y + a) (am_ai G n f)) y (va_up A a f) S c := by
  have h1 := mT_le hT (by omega)
  refine ⟨(am_un (by omega)).trans h.1, fun b m hb => ?_, fun b m hb => ?_, (am_un (by omega)).trans h.2.2.2.1, h.2.2.2.2.tr (KE.up.mono (fun q e => by omega))⟩
  · by_cases e : b = a
    · subst e
      rw [hT] at hb
      cases hb
      rw [va_up_self]
      exact am_us
    · rw [va_up_ne _ _ e]
      exact (am_un (by omega)).trans (h.2.1 b m hb)
  · have e : b ≠ a := fun e => by
      subst e
      rw [hT] at hb
      cases hb
    rw [va_up_ne _ _ e]
    exact (am_un (by omega)).trans (h.2.2.1 b m hb)
theorem md.sz (h : md G M0 M y A S c) (a : Nat) {n : Nat} (hT : mT a = (2, n)) (f : Nat → Int32) : md G M0 (am_up M (y + a) (am_az G n f)) y (va_up A a f) S c := by
  have h1 := mT_le hT (by omega)
  refine ⟨(am_un (by omega)).trans h.1, fun b m hb => ?_, fun b m hb => ?_, (am_un (by omega)).trans h.2.2.2.1, h.2.2.2.2.tr (KE.up.mono (fun q e => by omega))⟩
  · have e : b ≠ a := fun e => by
      subst e
      rw [hT] at hb
      cases hb
    rw [va_up_ne _ _ e]
    exact (am_un (by omega)).trans (h.2.1 b m hb)
  · by_cases e : b = a
    · subst e
      rw [hT] at hb
      cases hb
      rw [va_up_self]
      exact am_us
    · rw [va_up_ne _ _ e]
      exact (am_un (by omega)).trans (h.2.2.1 b m hb)
theorem md.sl (h : md G M0 M y A S c) (f : Nat → Int64) : md G M0 (am_up M (y + 8) (am_al G 600 f)) y A f c :=
  ⟨(am_un (by omega)).trans h.1, fun a n hT => (am_un (by have := mT_le hT (by omega); omega)).trans (h.2.1 a n hT), fun a n hT => (am_un (by have := mT_le hT (by omega); omega)).trans (h.2.2.1 a n hT), am_us, h.2.2.2.2.tr (KE.up.mono (fun q e => by omega))⟩
end MDfacts
section MDrows
variable {Z : AZ} {cc : ByteArray} {Q : State → Prop} {M M0 : AM} {k n pc y : Nat} {L : List (Option Value)} {st : List Value} {A : MA} {S : Nat → Int64} {c : Nat → Int32}
theorem aw_mst (X : am_X RX9 cc Z) (a : Nat) {N j : Nat} {x v : Int32} (d : decode cc pc = .ok (.iastore, 1)) (h : md (zG Z) M0 M y A S c) (hT : mT a = (1, N)) (hx : x = nI j) (hj : j < N) (hN : N < 2 ^ 31) (kk : ∀ M', md (zG Z) M0 M' y (va_up A a (upd (A a) j v)) S c → AW Z Q M' k n (pc + 1) L st) : AW Z Q M k n pc L (.int v :: .int x :: .ref (y + a) :: st) :=
  aw_iast X d (h.ai a hT) hx hj hN (kk _ (h.st a hT _))
theorem aw_msz (X : am_X RX9 cc Z) (a : Nat) {N j : Nat} {x v : Int32} (d : decode cc pc = .ok (.bastore, 1)) (h : md (zG Z) M0 M y A S c) (hT : mT a = (2, N)) (hx : x = nI j) (hj : j < N) (hN : N < 2 ^ 31) (hy : narrow .boolean (.int v) = .int v) (kk : ∀ M', md (zG Z) M0 M' y (va_up A a (upd (A a) j v)) S c → AW Z Q M' k n (pc + 1) L st) : AW Z Q M k n pc L (.int v :: .int x :: .ref (y + a) :: st) :=
  aw_zast X d (h.az a hT) hx hj hN hy (kk _ (h.sz a hT _))
theorem aw_msl (X : am_X RX9 cc Z) {j : Nat} {x : Int32} {v : Int64} (d : decode cc pc = .ok (.lastore, 1)) (h : md (zG Z) M0 M y A S c) (hx : x = nI j) (hj : j < 600) (kk : ∀ M', md (zG Z) M0 M' y A (vp_updL S j v) c → AW Z Q M' k n (pc + 1) L st) : AW Z Q M k n pc L (.long v :: .int x :: .ref (y + 8) :: st) :=
  aw_last X d h.al hx hj (by decide) (kk _ (h.sl _))
theorem aw_mput0 (X : am_X RX9 cc Z) {idx : Nat} {v : Int32} (hF : am_Fp RX9 idx 10 0 .int) (d : decode cc pc = .ok (.putfield idx, 3)) (h : md (zG Z) M0 M y A S c) (kk : ∀ M', md (zG Z) M0 M' y A S (va_up c 0 v) → AW Z Q M' k n (pc + 3) L st) : AW Z Q M k n pc L (.int v :: .ref y :: st) :=
  aw_put0 X hF d h.at rfl rfl (kk _ (h.obj (va_up c 0 v)))
theorem aw_mput16 (X : am_X RX9 cc Z) {idx : Nat} {v : Int32} (hF : am_Fp RX9 idx 10 16 .int) (d : decode cc pc = .ok (.putfield idx, 3)) (h : md (zG Z) M0 M y A S c) (kk : ∀ M', md (zG Z) M0 M' y A S (va_up c 16 v) → AW Z Q M' k n (pc + 3) L st) : AW Z Q M k n pc L (.int v :: .ref y :: st) :=
  aw_put16 X hF d h.at rfl rfl (kk _ (h.obj (va_up c 16 v)))
theorem aw_mput22 (X : am_X RX9 cc Z) {idx : Nat} {v : Int32} (hF : am_Fp RX9 idx 10 22 .int) (d : decode cc pc = .ok (.putfield idx, 3)) (h : md (zG Z) M0 M y A S c) (kk : ∀ M', md (zG Z) M0 M' y A S (va_up c 22 v) → AW Z Q M' k n (pc + 3) L st) : AW Z Q M k n pc L (.int v :: .ref y :: st) :=
  aw_put22 X hF d h.at rfl rfl (kk _ (h.obj (va_up c 22 v)))
theorem aw_mput23 (X : am_X RX9 cc Z) {idx : Nat} {v : Int32} (hF : am_Fp RX9 idx 10 23 .int) (d : decode cc pc = .ok (.putfield idx, 3)) (h : md (zG Z) M0 M y A S c) (kk : ∀ M', md (zG Z) M0 M' y A S (va_up c 23 v) → AW Z Q M' k n (pc + 3) L st) : AW Z Q M k n pc L (.int v :: .ref y :: st) :=
  aw_put23 X hF d h.at rfl rfl (kk _ (h.obj (va_up c 23 v)))
theorem aw_mput24 (X : am_X RX9 cc Z) {idx : Nat} {v : Int32} (hF : am_Fp RX9 idx 10 24 .int) (d : decode cc pc = .ok (.putfield idx, 3)) (h : md (zG Z) M0 M y A S c) (kk : ∀ M', md (zG Z) M0 M' y A S (va_up c 24 v) → AW Z Q M' k n (pc + 3) L st) : AW Z Q M k n pc L (.int v :: .ref y :: st) :=
  aw_put24 X hF d h.at rfl rfl (kk _ (h.obj (va_up c 24 v)))
theorem aw_mput26 (X : am_X RX9 cc Z) {idx : Nat} {v : Int32} (hF : am_Fp RX9 idx 10 26 .int) (d : decode cc pc = .ok (.putfield idx, 3)) (h : md (zG Z) M0 M y A S c) (kk : ∀ M', md (zG Z) M0 M' y A S (va_up c 26 v) → AW Z Q M' k n (pc + 3) L st) : AW Z Q M k n pc L (.int v :: .ref y :: st) :=
  aw_put26 X hF d h.at rfl rfl (kk _ (h.obj (va_up c 26 v)))
theorem aw_mput28 (X : am_X RX9 cc Z) {idx : Nat} {v : Int32} (hF : am_Fp RX9 idx 10 28 .int) (d : decode cc pc = .ok (.putfield idx, 3)) (h : md (zG Z) M0 M y A S c) (kk : ∀ M', md (zG Z) M0 M' y A S (va_up c 28 v) → AW Z Q M' k n (pc + 3) L st) : AW Z Q M k n pc L (.int v :: .ref y :: st) :=
  aw_put28 X hF d h.at rfl rfl (kk _ (h.obj (va_up c 28 v)))
theorem aw_mput29 (X : am_X RX9 cc Z) {idx : Nat} {v : Int32} (hF : am_Fp RX9 idx 10 29 .int) (d : decode cc pc = .ok (.putfield idx, 3)) (h : md (zG Z) M0 M y A S c) (kk : ∀ M', md (zG Z) M0 M' y A S (va_up c 29 v) → AW Z Q M' k n (pc + 3) L st) : AW Z Q M k n pc L (.int v :: .ref y :: st) :=
  aw_put29 X hF d h.at rfl rfl (kk _ (h.obj (va_up c 29 v)))
theorem aw_mput30 (X : am_X RX9 cc Z) {idx : Nat} {v : Int32} (hF : am_Fp RX9 idx 10 30 .int) (d : decode cc pc = .ok (.putfield idx, 3)) (h : md (zG Z) M0 M y A S c) (kk : ∀ M', md (zG Z) M0 M' y A S (va_up c 30 v) → AW Z Q M' k n (pc + 3) L st) : AW Z Q M k n pc L (.int v :: .ref y :: st) :=
  aw_put30 X hF d h.at rfl rfl (kk _ (h.obj (va_up c 30 v)))
theorem aw_mput35 (X : am_X RX9 cc Z) {idx : Nat} {v : Int32} (hF : am_Fp RX9 idx 10 35 .int) (d : decode cc pc = .ok (.putfield idx, 3)) (h : md (zG Z) M0 M y A S c) (kk : ∀ M', md (zG Z) M0 M' y A S (va_up c 35 v) → AW Z Q M' k n (pc + 3) L st) : AW Z Q M k n pc L (.int v :: .ref y :: st) :=
  aw_put35 X hF d h.at rfl rfl (kk _ (h.obj (va_up c 35 v)))
end MDrows
/-! what the model's cells hold of the state -/
def sgRel (A : MA) (S : Nat → Int64) (i : Nat) (s : SG) : Prop := sgV s ∧ A 3 i = (if s.1 then nI s.2.1 else 0) ∧ (s.1 = true → A 4 i = nI s.2.2.1 ∧ A 5 i = nI s.2.2.2.length) ∧ A 6 i = nI (sgN s) ∧ ∀ k, k < sgN s → A 7 (120 * i + k) = sgW s k ∧ S (120 * i + k) = sgG s k
def dlRel (A : MA) (i : Nat) (D : DL) : Prop := dlV D ∧ A 9 i = b2i D.1 ∧ A 10 i = nI D.2.1.length ∧ A 11 i = nI D.2.2.1 ∧ (∀ k, k < D.2.1.length → A 12 (120 * i + k) = b2i (D.2.1.getD k dI).1 ∧ A 13 (120 * i + k) = nI (D.2.1.getD k dI).2.1 ∧ A 14 (120 * i + k) = nI (D.2.1.getD k dI).2.2) ∧ ∀ k, k < D.2.2.2.length → A 15 (120 * i + k) = D.2.2.2.getD k 0
def flRel (A : MA) (i : Nat) (bs : List Int32) : Prop := bs.length ≤ 120 ∧ A 1 i = nI bs.length ∧ ∀ k, k < bs.length → A 2 (120 * i + k) = bs.getD k 0
def vRel (A : MA) (v : Nat) (V : VK) : Prop := match V with
  | none => A 16 v = nI 0
  | some (.inl bs) => A 16 v = nI 1 ∧ bs.length ≤ 120 ∧ A 18 v = nI bs.length ∧ ∀ k, k < bs.length → A 19 (120 * v + k) = bs.getD k 0
  | some (.inr (b, D)) => A 16 v = nI 2 ∧ A 17 v = nI b ∧ b < v ∧ dlRel A (4 + v) D
def pRel (A : MA) (p : Nat) (P : Option (List (List Int32))) : Prop := match P with
  | none => A 23 p = nI 0
  | some l => A 23 p = nI 1 ∧ okP l ∧ A 24 p = nI l.length ∧ (∀ k, k < l.length → A 25 (120 * p + k) = nI (l.getD k []).length) ∧ ∀ k, k < l.flatten.length → A 26 (120 * p + k) = l.flatten.getD k 0
def gRel (c : Nat → Int32) (g : Nat × Nat × Nat) : Prop := c 28 = nI g.1 ∧ c 29 = nI g.2.1 ∧ c 30 = nI g.2.2 ∧ 0 < g.1 ∧ g.1 ≤ 16 ∧ g.1 ≤ g.2.1 ∧ g.2.1 ≤ 40 ∧ 0 < g.2.2 ∧ g.2.2 ≤ 64
def mRel (A : MA) (S : Nat → Int64) (c : Nat → Int32) (τ : TS) : Prop :=
  (c 0 = nI τ.1.1 ∧ τ.1.1 ≤ 6) ∧ (∀ i, i < 6 → flRel A i (τ.1.2 i)) ∧ (∀ i, i < 4 → sgRel A S i (τ.2.1 i)) ∧ (∀ i, i < 4 → dlRel A i (τ.2.2.1 i)) ∧ (c 16 = nI (tN τ) ∧ tN τ ≤ 20) ∧ (∀ v, v < 20 → vRel A v (τ.2.2.2.1.2 v)) ∧ gRel c τ.2.2.2.2.1 ∧ (∀ p, p < 12 → pRel A p (τ.2.2.2.2.2 p))
/-- the model stands for τ, and its latest call threw t -/
def isMD (G : AG) (M0 M : AM) (y : Nat) (τ : TS) (t : Nat) : Prop := ∃ A S c, md G M0 M y A S c ∧ mRel A S c τ ∧ c 35 = nI t
/-- what a call of the model gives -/
def MP {α : Type} (w : α → Value) (G : AG) (M : AM) (y : Nat) (sp : Nat × α × TS) (v : Option Value) (M' : AM) : Prop := v = some (w sp.2.1) ∧ isMD G M M' y sp.2.2 sp.1
def MPv (G : AG) (M : AM) (y : Nat) (sp : OUT) (v : Option Value) (M' : AM) : Prop := v = none ∧ isMD G M M' y sp.2.2 sp.1
theorem c_X9_thrown {l : Launch} {G : AG} {M0 M : AM} {y t : Nat} {τ : TS} (h : isMD G M0 M y τ t) : Cn l G yX9_thrown cX9_thrown 1 (some .int) rX9_thrown M [.ref y] (fun v M' => v = some (.int (nI t)) ∧ M' = M) := by
  obtain ⟨A, S, c, h1, h2, h3⟩ := h
  refine Cn.of (by decide) [some (.ref y)] rfl (Nat.le_of_ble_eq_true rfl) ?_
  intro Z hZ
  obtain ⟨rfl, hn, rfl, hR, X, hr, hnm⟩ := hZ
  refine aw_aload0 X dX9_thrown_0 ?_
  refine aw_get X fX9_100 dX9_thrown_1 (h1.at) rfl ?_
  refine aw_int h3 ?_
  refine aw_ireturn X (ty := .int) hr (by first | rfl | decide | assumption) dX9_thrown_4 (⟨rfl, rfl⟩)
theorem c_X9_may {l : Launch} {G : AG} {M0 M : AM} {y : Nat} {A : MA} {S : Nat → Int64} {c : Nat → Int32} {p : Prop} [Decidable p] (h : md G M0 M y A S c) : Cn l G yX9_may cX9_may 2 (some .boolean) rX9_may M [.ref y, .int (am_b p)] (fun v M' => v = some (.int (am_b p)) ∧ md G M0 M' y A S (va_up c 35 (nI (if p then 0 else 1)))) := by
  refine Cn.of (by decide) [some (.ref y), some (.int (am_b p))] rfl (Nat.le_of_ble_eq_true rfl) ?_
  intro Z hZ
  obtain ⟨rfl, hn, rfl, hR, X, hr, hnm⟩ := hZ
  refine aw_aload0 X dX9_may_0 ?_
  refine aw_iload1 X dX9_may_1 ?_
  by_cases hp : p
  · have e : am_b p = nI 1 := by rw [am_b, if_pos hp]
    rw [if_pos hp, e]
    refine aw_ifeq X dX9_may_2 (tgt := 9) (by decide) (fun c9 => by first | exact absurd ((by decide : ¬ nI 1 = 0)) c9 | exact absurd c9 ((by decide : ¬ nI 1 = 0))) (fun _ => ?_)
    refine aw_iconst X dX9_may_5 (v := nI 0) (by decide) ?_
    refine aw_goto X dX9_may_6 (tgt := 10) (by decide) ?_
    refine aw_mput35 X pX9_100 dX9_may_10 h (fun M h => ?_)
    refine aw_iload1 X dX9_may_13 ?_
    refine aw_ireturn X (ty := .boolean) hr (by first | rfl | decide | assumption) dX9_may_14 (⟨rfl, h⟩)
  · have e : am_b p = nI 0 := by rw [am_b, if_neg hp]
    rw [if_neg hp, e]
    refine aw_ifeq X dX9_may_2 (tgt := 9) (by decide) (fun _ => ?_) (fun c9 => by first | exact absurd ((by decide : nI 0 = 0)) c9 | exact absurd c9 ((by decide : nI 0 = 0)))
    refine aw_iconst X dX9_may_9 (v := nI 1) (by decide) ?_
    refine aw_mput35 X pX9_100 dX9_may_10 h (fun M h => ?_)
    refine aw_iload1 X dX9_may_13 ?_
    refine aw_ireturn X (ty := .boolean) hr (by first | rfl | decide | assumption) dX9_may_14 (⟨rfl, h⟩)
