/-! versions: none: lost; whole bytes; or a delta on an earlier one -/
abbrev VK : Type := Option (List Int32 ⊕ (Nat × DL))
def vkC (V : VK) (kd bb : Int32) (bs : List Int32) (D : DL) : Prop := match V with
  | none => kd = nI 2
  | some (.inl b) => kd = nI 0 ∧ bs = b
  | some (.inr (b, D')) => kd = nI 1 ∧ bb = nI b ∧ D = D'
def isVer (G : AG) (M : AM) (v : Nat) (V : VK) : Prop := ∃ (kd bb : Int32) (bs : List Int32) (D : DL), M.1 v = some (am_o 8 [.ref (v + 1), .ref (v + 3), .int kd, .int bb]) ∧ isRow G M (v + 1) bs ∧ isDelta G M (v + 3) D ∧ vkC V kd bb bs D
theorem isVer.out {G : AG} {M M' : AM} {v a b : Nat} {V : VK} (h : isVer G M v V) (ho : am_out M M' a b) (hd : v + 9 ≤ a ∨ b ≤ v) : isVer G M' v V := by
  obtain ⟨kd, bb, bs, D, h1, h2, h3, h4⟩ := h
  exact ⟨kd, bb, bs, D, (ho _ (by omega)).trans h1, h2.out ho (by omega), h3.out ho (by omega), h4⟩
theorem c_X7_becomeWhole {l : Launch} {G : AG} {M : AM} {v r : Nat} {V : VK} {bs : List Int32} (h : isVer G M v V) (hr0 : isRow G M r bs) (hd : r + 2 ≤ v ∨ v + 9 ≤ r) : Cn l G yX7_becomeWhole cX7_becomeWhole 2 none rX7_becomeWhole M [.ref v, .ref r] (fun o M' => isVer G M' v (some (.inl bs)) ∧ am_out M M' v (v + 9) ∧ o = none) := by
  obtain ⟨kd, bb, b0, D, h1, h2, h3, h4⟩ := h
  refine Cn.of (by decide) [some (.ref v), some (.ref r)] rfl (Nat.le_of_ble_eq_true rfl) ?_
  intro Z hZ
  obtain ⟨rfl, hn, rfl, hR, X, hr, hnm⟩ := hZ
  refine aw_aload0 X dX7_becomeWhole_0 ?_
  refine aw_iconst X dX7_becomeWhole_1 (v := nI 0) (by decide) ?_
  refine aw_put2 X pX7_25 dX7_becomeWhole_2 (h1) rfl rfl ?_
  refine aw_aload0 X dX7_becomeWhole_5 ?_
  refine aw_get X fX7_12 dX7_becomeWhole_6 (am_us) rfl ?_
  refine aw_aload1 X dX7_becomeWhole_9 ?_
  have hout0 : am_out M (am_up M v (am_o 8 [.ref (v + 1), .ref (v + 3), .int (nI 0), .int bb])) v (v + 1) := am_out.up (by omega) (by omega)
  have h2' := h2.out hout0 (by omega)
  have hr1 := hr0.out hout0 (by omega)
  obtain ⟨f, q1, -⟩ := id h2'
  refine aw_callV X (c_X4_become h2' hr1 (by omega)) kX7_32 (ci := 5) rfl (q1) dX7_becomeWhole_10 rfl rfl (by first | decide | exact Nat.le_of_ble_eq_true rfl) (by rw [hR]; exact ⟨by first | decide | exact Nat.le_of_ble_eq_true rfl | (dsimp only; omega), by first | decide | exact Nat.le_of_ble_eq_true rfl | (dsimp only; omega)⟩) (by rw [hR]; exact ⟨by first | decide | exact Nat.le_of_ble_eq_true rfl | (dsimp only; omega), by first | decide | exact Nat.le_of_ble_eq_true rfl | (dsimp only; omega)⟩) (fun o M1 hv => ?_)
  obtain ⟨b1, hout, rfl⟩ := hv
  refine aw_vreturn X hr dX7_becomeWhole_13 (?_)
  exact ⟨⟨_, _, _, _, (hout _ (by omega)).trans am_us, b1, (h3.out hout0 (by omega)).out hout (by omega), rfl, rfl⟩, (hout0.wd (by omega) (by omega)).tr (hout.wd (by omega) (by omega)), rfl⟩
def held : VK → Nat
  | none => 0
  | some (.inl bs) => bs.length
  | some (.inr (_, D)) => price D.2.1
theorem c_X7_holds {l : Launch} {G : AG} {M : AM} {v : Nat} {V : VK} (h : isVer G M v V) : Cn l G yX7_holds cX7_holds 1 (some .int) rX7_holds M [.ref v] (fun o M' => M' = M ∧ o = some (.int (nI (held V)))) := by
  obtain ⟨kd, bb, b0, D, h1, h2, h3, h4⟩ := h
  refine Cn.of (by decide) [some (.ref v)] rfl (Nat.le_of_ble_eq_true rfl) ?_
  intro Z hZ
  obtain ⟨rfl, hn, rfl, hR, X, hr, hnm⟩ := hZ
  refine aw_aload0 X dX7_holds_0 ?_
  refine aw_get X fX7_25 dX7_holds_1 (h1) rfl ?_
  refine aw_iconst X dX7_holds_4 (v := nI 2) (by decide) ?_
  match V, h4 with
  | none, h4 =>
    have h4 : kd = nI 2 := h4
    subst h4
    refine aw_icmpne X dX7_holds_5 (tgt := 10) (by decide) (fun c9 => by first | exact absurd (rfl) c9 | exact absurd c9 (rfl)) (fun _ => ?_)
    refine aw_iconst X dX7_holds_8 (v := nI 0) (by decide) ?_
    refine aw_ireturn X (ty := .int) hr (by first | rfl | decide | assumption) dX7_holds_9 (⟨rfl, rfl⟩)
  | some (.inl b), h4 =>
    obtain ⟨h4, h5⟩ := h4
    subst h4
    subst h5
    obtain ⟨f, q1, -⟩ := h2
    refine aw_icmpne X dX7_holds_5 (tgt := 10) (by decide) (fun _ => ?_) (fun c9 => by first | exact absurd (by decide) c9 | exact absurd c9 (by decide))
    refine aw_aload0 X dX7_holds_10 ?_
    refine aw_get X fX7_25 dX7_holds_11 (h1) rfl ?_
    refine aw_ifne X dX7_holds_14 (tgt := 27) (by decide) (fun c9 => by first | exact absurd (nI_0) c9 | exact absurd c9 (nI_0)) (fun _ => ?_)
    refine aw_aload0 X dX7_holds_17 ?_
    refine aw_get X fX7_12 dX7_holds_18 (h1) rfl ?_
    refine aw_get X fX7_36 dX7_holds_21 (q1) rfl ?_
    refine aw_goto X dX7_holds_24 (tgt := 34) (by decide) ?_
    refine aw_ireturn X (ty := .int) hr (by first | rfl | decide | assumption) dX7_holds_34 (⟨rfl, rfl⟩)
  | some (.inr (b, D')), h4 =>
    obtain ⟨h4, h5, h6⟩ := h4
    subst h4
    subst h6
    refine aw_icmpne X dX7_holds_5 (tgt := 10) (by decide) (fun _ => ?_) (fun c9 => by first | exact absurd (by decide) c9 | exact absurd c9 (by decide))
    refine aw_aload0 X dX7_holds_10 ?_
    refine aw_get X fX7_25 dX7_holds_11 (h1) rfl ?_
    refine aw_ifne X dX7_holds_14 (tgt := 27) (by decide) (fun _ => ?_) (fun c9 => by first | exact absurd (by decide) c9 | exact absurd c9 (by decide))
    refine aw_aload0 X dX7_holds_27 ?_
    refine aw_get X fX7_21 dX7_holds_28 (h1) rfl ?_
    obtain ⟨-, bb2, fc, fa, fz, q1, -⟩ := id h3
    refine aw_callV X (c_X2_price h3) kX7_39 (ci := 3) rfl (q1) dX7_holds_31 rfl rfl (by first | decide | exact Nat.le_of_ble_eq_true rfl) (by rw [hR]; exact ⟨by first | decide | exact Nat.le_of_ble_eq_true rfl | (dsimp only; omega), by first | decide | exact Nat.le_of_ble_eq_true rfl | (dsimp only; omega)⟩) (by rw [hR]; exact ⟨by first | decide | exact Nat.le_of_ble_eq_true rfl | (dsimp only; omega), by first | decide | exact Nat.le_of_ble_eq_true rfl | (dsimp only; omega)⟩) (fun o M1 hv => ?_)
    obtain ⟨rfl, rfl⟩ := hv
    refine aw_ireturn X (ty := .int) hr (by first | rfl | decide | assumption) dX7_holds_34 (⟨rfl, rfl⟩)
/-! the archive: n versions; where, away, why; the bytes put together; the chain -/
def isAr (G : AG) (M : AM) (a n : Nat) (V : Nat → VK) (w aw y : Int32) (rb : List Int32) (ch : Nat → Int32) : Prop := n ≤ 20 ∧ (∀ i b D, i < n → V i = some (.inr (b, D)) → b < i) ∧ ∃ (kp : Nat → Option Nat) (s : SG) (nx : List Int32), M.1 a = some (am_o 1 [.ref (a + 1), .ref (a + 2), .ref (a + 3), .ref (a + 6), .ref (a + 8), .int (nI n), .int w, .int aw, .int y]) ∧ M.1 (a + 1) = some (am_aq G 6 20 kp) ∧ (∀ i, i < 20 → kp i = some (a + 10 + 9 * i)) ∧ M.1 (a + 2) = some (am_ai G 20 ch) ∧ isSig G M (a + 3) s ∧ isRow G M (a + 6) rb ∧ isRow G M (a + 8) nx ∧ ∀ i, i < 20 → isVer G M (a + 10 + 9 * i) (V i)
theorem isAr.out {G : AG} {M M' : AM} {a n p q : Nat} {V : Nat → VK} {w aw y : Int32} {rb : List Int32} {ch : Nat → Int32} (h : isAr G M a n V w aw y rb ch) (ho : am_out M M' p q) (hd : a + 190 ≤ p ∨ q ≤ a) : isAr G M' a n V w aw y rb ch := by
  obtain ⟨h1, h2, kp, s, nx, h3, h4, h5, h6, h7, h8, h9, h10⟩ := h
  exact ⟨h1, h2, kp, s, nx, (ho _ (by omega)).trans h3, (ho _ (by omega)).trans h4, h5, (ho _ (by omega)).trans h6, h7.out ho (by omega), h8.out ho (by omega), h9.out ho (by omega), fun i hi => (h10 i hi).out ho (by omega)⟩
/-- only the archive's own numbers change -/
theorem isAr.obj {G : AG} {M : AM} {a n : Nat} {V : Nat → VK} {w aw y w' aw' y' : Int32} {rb : List Int32} {ch : Nat → Int32} (h : isAr G M a n V w aw y rb ch) : isAr G (am_up M a (am_o 1 [.ref (a + 1), .ref (a + 2), .ref (a + 3), .ref (a + 6), .ref (a + 8), .int (nI n), .int w', .int aw', .int y'])) a n V w' aw' y' rb ch := by
  obtain ⟨h1, h2, kp, s, nx, h3, h4, h5, h6, h7, h8, h9, h10⟩ := h
  have ho : am_out M (am_up M a (am_o 1 [.ref (a + 1), .ref (a + 2), .ref (a + 3), .ref (a + 6), .ref (a + 8), .int (nI n), .int w', .int aw', .int y'])) a (a + 1) := am_out.up (by omega) (by omega)
  exact ⟨h1, h2, kp, s, nx, am_us, am_k h4 (by omega), h5, am_k h6 (by omega), h7.out ho (by omega), h8.out ho (by omega), h9.out ho (by omega), fun i hi => (h10 i hi).out ho (by omega)⟩
theorem isAr.at {G : AG} {M : AM} {a n : Nat} {V : Nat → VK} {w aw y : Int32} {rb : List Int32} {ch : Nat → Int32} (h : isAr G M a n V w aw y rb ch) : M.1 a = some (am_o 1 [.ref (a + 1), .ref (a + 2), .ref (a + 3), .ref (a + 6), .ref (a + 8), .int (nI n), .int w, .int aw, .int y]) := by
  obtain ⟨h1, h2, kp, s, nx, h3, -⟩ := h
  exact h3
/-- rebuilding -/
abbrev RB : Type := List Int32 ⊕ (Nat × Nat × Nat)
def rbl (V : Nat → VK) : Nat → Nat → RB
  | 0, v => .inr (v, 0, 1)
  | f + 1, v => match V v with
    | none => .inr (v, 0, 1)
    | some (.inl bs) => .inl bs
    | some (.inr (b, D)) => match rbl V f b with
      | .inl bs => if fitB D.2.1 bs.length then .inl (app D.2.1 D.2.2.2 bs) else .inr (v, 0, 2)
      | .inr (w, d, r) => .inr (w, d + 1, r)
def rbv (V : Nat → VK) (v : Nat) : RB := rbl V (v + 1) v
theorem rbl_fuel {V : Nat → VK} {n : Nat} (hV : ∀ i b D, i < n → V i = some (.inr (b, D)) → b < i) : ∀ (f v : Nat), v < n → v < f → rbl V f v = rbv V v := by
  intro f
  induction f with
  | zero => intro v _ h; omega
  | succ f ih =>
    intro v hv hf
    unfold rbv
    unfold rbl
    cases hx : V v with
    | none => rfl
    | some x =>
      cases x with
      | inl bs => rfl
      | inr q =>
        obtain ⟨b, D⟩ := q
        have hb := hV v b D hv hx
        dsimp only
        rw [ih b (by omega) (by omega)]
        have e : rbl V v b = rbv V b := by
          clear ih
          have key : ∀ f, ∀ g v : Nat, v < n → v < f → v < g → rbl V f v = rbl V g v := by
            intro f
            induction f with
            | zero => intro g v _ h; omega
            | succ f ih2 =>
              intro g v hv hf hg
              cases g with
              | zero => omega
              | succ g =>
                unfold rbl
                cases hy : V v with
                | none => rfl
                | some y =>
                  cases y with
                  | inl bs => rfl
                  | inr q =>
                    obtain ⟨b2, D2⟩ := q
                    have hb2 := hV v b2 D2 hv hy
                    dsimp only
                    rw [ih2 g b2 (by omega) (by omega) (by omega)]
          exact key v (b + 1) b (by omega) hb (by omega)
        rw [e]
theorem rbv_none {V : Nat → VK} {v : Nat} (h : V v = none) : rbv V v = .inr (v, 0, 1) := by
  rw [rbv, rbl, h]
theorem rbv_whole {V : Nat → VK} {v : Nat} {bs : List Int32} (h : V v = some (.inl bs)) : rbv V v = .inl bs := by
  rw [rbv, rbl, h]
theorem rbv_rest {V : Nat → VK} {n v b : Nat} {D : DL} (hV : ∀ i b D, i < n → V i = some (.inr (b, D)) → b < i) (hv : v < n) (h : V v = some (.inr (b, D))) : rbv V v = match rbv V b with
      | .inl bs => if fitB D.2.1 bs.length then .inl (app D.2.1 D.2.2.2 bs) else .inr (v, 0, 2)
      | .inr (w, d, r) => .inr (w, d + 1, r) := by
  have hb := hV v b D hv h
  conv => lhs; rw [rbv, rbl, h]
  dsimp only
  rw [rbl_fuel hV v b (by omega) hb]
/-- the way down -/
def pth (V : Nat → VK) (v : Nat) : Nat → Nat
  | 0 => v
  | j + 1 => match V (pth V v j) with
    | some (.inr (b, _)) => b
    | _ => pth V v j
def isRest (V : VK) : Prop := ∃ b D, V = some (.inr (b, D))
theorem pth_le {V : Nat → VK} {n v : Nat} (hV : ∀ i b D, i < n → V i = some (.inr (b, D)) → b < i) (hv : v < n) : ∀ j, (∀ i, i < j → isRest (V (pth V v i))) → pth V v j + j ≤ v
  | 0, _ => Nat.le_refl _
  | j + 1, h => by
    have h1 := pth_le hV hv j (fun i hi => h i (by omega))
    obtain ⟨b, D, hb⟩ := h j (by omega)
    have h2 := hV _ b D (by omega) hb
    have e : pth V v (j + 1) = b := by rw [pth, hb]
    rw [e]
    omega
theorem rb_lift {V : Nat → VK} {n v : Nat} (hV : ∀ i b D, i < n → V i = some (.inr (b, D)) → b < i) (hv : v < n) {w d r : Nat} : ∀ j, (∀ i, i < j → isRest (V (pth V v i))) → rbv V (pth V v j) = .inr (w, d, r) → rbv V v = .inr (w, d + j, r)
  | 0, _, h => h
  | j + 1, h, hr => by
    have h1 := pth_le hV hv j (fun i hi => h i (by omega))
    obtain ⟨b, D, hb⟩ := h j (by omega)
    have e : pth V v (j + 1) = b := by rw [pth, hb]
    rw [e] at hr
    have h2 : rbv V (pth V v j) = .inr (w, d + 1, r) := by
      rw [rbv_rest hV (by omega) hb, hr]
    have h3 := rb_lift hV hv j (fun i hi => h i (by omega)) h2
    rw [h3]
    congr 3
    omega
/-- what the archive tells behind a rebuilding -/
def rbN : RB → Int32 × Int32 × Int32
  | .inl _ => (-1, -1, -1)
  | .inr (w, d, r) => (nI w, nI d, nI r)
def isArB (G : AG) (M : AM) (a n : Nat) (V : Nat → VK) (r : RB) : Prop := ∃ rb ch, isAr G M a n V (rbN r).1 (rbN r).2.1 (rbN r).2.2 rb ch ∧ ∀ bs, r = .inl bs → rb = bs
theorem c_X0_breakAt {l : Launch} {G : AG} {M : AM} {a n : Nat} {V : Nat → VK} {w aw y : Int32} {rb : List Int32} {ch : Nat → Int32} {i j k : Nat} (h : isAr G M a n V w aw y rb ch) : Cn l G yX0_breakAt cX0_breakAt 4 none rX0_breakAt M [.ref a, .int (nI i), .int (nI j), .int (nI k)] (fun o M' => isAr G M' a n V (nI i) (nI j) (nI k) rb ch ∧ am_out M M' a (a + 190) ∧ o = none) := by
  have h1 := h.at
  refine Cn.of (by decide) [some (.ref a), some (.int (nI i)), some (.int (nI j)), some (.int (nI k))] rfl (Nat.le_of_ble_eq_true rfl) ?_
  intro Z hZ
  obtain ⟨rfl, hn, rfl, hR, X, hr, hnm⟩ := hZ
  refine aw_aload0 X dX0_breakAt_0 ?_
  refine aw_iload1 X dX0_breakAt_1 ?_
  refine aw_put6 X pX0_38 dX0_breakAt_2 (h1) rfl rfl ?_
  refine aw_aload0 X dX0_breakAt_5 ?_
  refine aw_iload2 X dX0_breakAt_6 ?_
  refine aw_put7 X pX0_42 dX0_breakAt_7 (am_us) rfl rfl ?_
  rw [am_uu]
  refine aw_aload0 X dX0_breakAt_10 ?_
  refine aw_iload3 X dX0_breakAt_11 ?_
  refine aw_put8 X pX0_45 dX0_breakAt_12 (am_us) rfl rfl ?_
  rw [am_uu]
  refine aw_vreturn X hr dX0_breakAt_15 (?_)
  exact ⟨h.obj, am_out.up (by omega) (by omega), rfl⟩
