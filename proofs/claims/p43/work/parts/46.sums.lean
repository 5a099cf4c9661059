/-! sums of bytes, as the law counts them -/
def byB (bs : List Int32) : Prop := ∀ v ∈ bs, ∃ n, n < 256 ∧ v = nI n
def bn (bs : List Int32) (k : Nat) : Nat := ix (bs.getD k 0)
theorem byB.at {bs : List Int32} (h : byB bs) (k : Nat) : bs.getD k 0 = nI (bn bs k) ∧ bn bs k < 256 := by
  have h2 : ∃ n, n < 256 ∧ bs.getD k 0 = nI n := by
    rcases Nat.lt_or_ge k bs.length with q | q
    · rw [List.getD_eq_getElem?_getD, List.getElem?_eq_getElem q]
      exact h _ (List.getElem_mem q)
    · rw [List.getD_eq_getElem?_getD, List.getElem?_eq_none q]
      exact ⟨0, by decide, rfl⟩
  obtain ⟨n, hn, e⟩ := h2
  have e2 : bn bs k = n := by
    unfold bn
    rw [e]
    exact nI_clamp (by omega)
  rw [e2]
  exact ⟨e, hn⟩
def lA (bs : List Int32) (a : Nat) : Nat → Nat
  | 0 => 0
  | i + 1 => lA bs a i + bn bs (a + i)
def lB (bs : List Int32) (a m : Nat) : Nat → Nat
  | 0 => 0
  | i + 1 => lB bs a m i + (m - i) * bn bs (a + i)
def lC (bs : List Int32) (a : Nat) : Nat → Nat
  | 0 => 0
  | i + 1 => lC bs a i + lA bs a (i + 1)
theorem lA_le {bs : List Int32} (h : byB bs) (a : Nat) : ∀ i, lA bs a i ≤ 256 * i
  | 0 => Nat.le_refl _
  | i + 1 => by
    have := lA_le h a i
    have := (h.at (a + i)).2
    rw [lA]
    omega
theorem lC_le {bs : List Int32} (h : byB bs) (a : Nat) : ∀ i, i ≤ 16 → lC bs a i ≤ 4096 * i
  | 0, _ => Nat.le_refl _
  | i + 1, hi => by
    have := lC_le h a i (by omega)
    have := lA_le h a (i + 1)
    rw [lC]
    omega
theorem lB_C {bs : List Int32} (a m : Nat) : ∀ i, i ≤ m → lC bs a i + (m - i) * lA bs a i = lB bs a m i
  | 0, _ => by simp [lC, lA, lB]
  | i + 1, hi => by
    have h := lB_C (bs := bs) a m i (by omega)
    obtain ⟨r, hr⟩ : ∃ r, m - i = r + 1 := ⟨m - i - 1, by omega⟩
    have hr2 : m - (i + 1) = r := by omega
    rw [hr] at h
    have h2 : lA bs a (i + 1) = lA bs a i + bn bs (a + i) := rfl
    have h3 : lC bs a (i + 1) = lC bs a i + lA bs a (i + 1) := rfl
    have h4 : lB bs a m (i + 1) = lB bs a m i + (m - i) * bn bs (a + i) := rfl
    rw [h3, h4, ← h, hr2, hr, h2, Nat.mul_add, Nat.succ_mul, Nat.succ_mul]
    omega
theorem wkA_n {bs : List Int32} (h : byB bs) (a : Nat) : ∀ i, wkA bs a i = nI (lA bs a i)
  | 0 => rfl
  | i + 1 => by
    rw [wkA, wkA_n h a i, (h.at (a + i)).1, nI_add]
    rfl
theorem wkB_n {bs : List Int32} (h : byB bs) (a m : Nat) : ∀ i, wkB bs a m i = nI (lB bs a m i)
  | 0 => rfl
  | i + 1 => by
    rw [wkB, wkB_n h a m i, (h.at (a + i)).1, pk_mul, nI_add]
    rfl
theorem wk_n {bs : List Int32} (h : byB bs) {a m d : Nat} (hm : m ≤ 16) (hd : 0 < d) (hd2 : d ≤ 4096) : wk bs a m d = nI (lC bs a m % d * d + lA bs a m % d) := by
  have e := lB_C (bs := bs) a m m (Nat.le_refl _)
  rw [Nat.sub_self, Nat.zero_mul, Nat.add_zero] at e
  have h1 := lA_le h a m
  have h2 := lC_le h a m hm
  unfold wk
  rw [wkA_n h, wkB_n h, ← e, pk_rem (by omega) hd (by omega), pk_rem (by omega) hd (by omega), pk_mul, nI_add]
/-- the strong sum as a number -/
def sN (bs : List Int32) (a : Nat) : Nat → Nat
  | 0 => 0
  | m + 1 => bn bs a + 1 + 257 * sN bs (a + 1) m
def sF (bs : List Int32) (a : Nat) : Nat → Nat
  | 0 => 0
  | i + 1 => sF bs a i + 257 ^ i * (bn bs (a + i) + 1)
theorem sF_N {bs : List Int32} (a m : Nat) : ∀ i, i ≤ m → sF bs a i + 257 ^ i * sN bs (a + i) (m - i) = sN bs a m
  | 0, _ => by simp [sF]
  | i + 1, hi => by
    have h := sF_N (bs := bs) a m i (by omega)
    obtain ⟨r, hr⟩ : ∃ r, m - i = r + 1 := ⟨m - i - 1, by omega⟩
    have hr2 : m - (i + 1) = r := by omega
    rw [hr, sN] at h
    rw [← h, hr2, sF, Nat.pow_succ, Nat.mul_add, Nat.mul_add, Nat.mul_add, show a + (i + 1) = a + i + 1 by omega, Nat.mul_assoc]
    omega
theorem sgS_N {bs : List Int32} (h : byB bs) (a m : Nat) : ∀ j, j ≤ m → sgS bs a m j = lN (sN bs (a + (m - j)) j)
  | 0, _ => rfl
  | j + 1, hj => by
    have e := h.at (a + (m - 1 - j))
    have e2 := sgS_N h a m j (by omega)
    have e3 : a + (m - (j + 1)) = a + (m - 1 - j) := by omega
    have e4 : a + (m - j) = a + (m - 1 - j) + 1 := by omega
    have e5 : (257 : Int64) = lN 257 := rfl
    rw [e4] at e2
    rw [sgS, e2, e.1, nI_l (by omega), e5, lN_mul, lN_add, lN_1, e3, sN]
    exact congrArg lN (by omega)
theorem sg_N {bs : List Int32} (h : byB bs) (a m : Nat) : sg bs a m = lN (sN bs a m) := by
  unfold sg
  rw [sgS_N h a m m (Nat.le_refl _), Nat.sub_self, Nat.add_zero]
theorem sN_lt {bs : List Int32} (h : byB bs) : ∀ (m a : Nat), sN bs a m < 257 ^ m
  | 0, _ => by
    show (0 : Nat) < 257 ^ 0
    decide
  | m + 1, a => by
    have h1 := sN_lt h m (a + 1)
    have h2 := (h.at a).2
    rw [sN, Nat.pow_succ]
    omega
theorem sN_inj {bs cs : List Int32} (hb : byB bs) (hc : byB cs) : ∀ (m a c : Nat), sN bs a m = sN cs c m → ∀ i, i < m → bs.getD (a + i) 0 = cs.getD (c + i) 0
  | 0, _, _, _, i, hi => by omega
  | m + 1, a, c, h, i, hi => by
    have h1 := hb.at a
    have h2 := hc.at c
    rw [sN, sN] at h
    cases i with
    | zero =>
      rw [Nat.add_zero, Nat.add_zero, h1.1, h2.1]
      exact congrArg nI (by omega)
    | succ i =>
      have := sN_inj hb hc m (a + 1) (c + 1) (by omega) i (by omega)
      rwa [show a + 1 + i = a + (i + 1) by omega, show c + 1 + i = c + (i + 1) by omega] at this
theorem sN_eq {bs cs : List Int32} : ∀ (m a c : Nat), (∀ i, i < m → bs.getD (a + i) 0 = cs.getD (c + i) 0) → sN bs a m = sN cs c m
  | 0, _, _, _ => rfl
  | m + 1, a, c, h => by
    have h1 := h 0 (by omega)
    have h2 : bn bs a = bn cs c := congrArg ix h1
    rw [sN, sN, h2, sN_eq m (a + 1) (c + 1) (fun i hi => by
      have := h (i + 1) (by omega)
      rwa [show a + (i + 1) = a + 1 + i by omega, show c + (i + 1) = c + 1 + i by omega] at this)]
theorem wk_eq {bs cs : List Int32} (hb : byB bs) (hc : byB cs) {m a c d : Nat} (hm : m ≤ 16) (hd : 0 < d) (hd2 : d ≤ 4096) (h : ∀ i, i < m → bs.getD (a + i) 0 = cs.getD (c + i) 0) : wk bs a m d = wk cs c m d := by
  have hA : ∀ i, i ≤ m → lA bs a i = lA cs c i := fun i => by
    induction i with
    | zero => exact fun _ => rfl
    | succ i ih =>
      intro hi
      rw [lA, lA, ih (by omega), show bn bs (a + i) = bn cs (c + i) from congrArg ix (h i (by omega))]
  have hC : ∀ i, i ≤ m → lC bs a i = lC cs c i := fun i => by
    induction i with
    | zero => exact fun _ => rfl
    | succ i ih =>
      intro hi
      rw [lC, lC, ih (by omega), hA _ hi]
  rw [wk_n hb hm hd hd2, wk_n hc hm hd hd2, hA m (Nat.le_refl _), hC m (Nat.le_refl _)]
/-- one strong sum, one row of bytes: at most seven of them -/
theorem sg_iff {bs cs : List Int32} (hb : byB bs) (hc : byB cs) {m a c : Nat} (hm : m ≤ 7) : sg bs a m = sg cs c m ↔ ∀ i, i < m → bs.getD (a + i) 0 = cs.getD (c + i) 0 := by
  have h1 : ∀ (ds : List Int32), byB ds → ∀ q, sN ds q m < 2 ^ 63 := fun ds hd q => Nat.lt_of_lt_of_le (sN_lt hd m q) (Nat.le_trans (Nat.pow_le_pow_right (by decide) hm) (by decide))
  rw [sg_N hb, sg_N hc, pk_lEQ (h1 bs hb a) (h1 cs hc c)]
  exact ⟨fun h => sN_inj hb hc m a c h, fun h => sN_eq m a c h⟩
theorem c_L_weak {l : Launch} {G : AG} {M : AM} {e N a a' m d : Nat} {fA : Nat → Int32} {bs : List Int32} (h : M.1 e = some (am_ai G N fA)) (hN : a + m ≤ N) (hN2 : N < 2 ^ 31) (hf : ∀ k, k < m → fA (a + k) = bs.getD (a' + k) 0) (hb : byB bs) (hm : m ≤ 16) (hd : 0 < d) (hd2 : d ≤ 4096) : Cn l G yL_weak cL_weak 7 (some .int) rL_weak M [.ref e, .int (nI a), .int (nI m), .int (nI d)] (fun v M' => M' = M ∧ v = some (.int (wk bs a' m d))) := by
  refine Cn.of (by decide) [some (.ref e), some (.int (nI a)), some (.int (nI m)), some (.int (nI d)), none, none, none] rfl (Nat.le_of_ble_eq_true rfl) ?_
  intro Z hZ
  obtain ⟨rfl, hn, rfl, hR, X, hr, hnm⟩ := hZ
  refine aw_iconst X dL_weak_0 (v := nI 0) (by decide) ?_
  refine aw_istore4 X dL_weak_1 (by rw [hn]; decide) rfl ?_
  refine aw_iconst X dL_weak_3 (v := nI 0) (by decide) ?_
  refine aw_istore5 X dL_weak_4 (by rw [hn]; decide) rfl ?_
  refine aw_iconst X dL_weak_6 (v := nI 0) (by decide) ?_
  refine aw_istore6 X dL_weak_7 (by rw [hn]; decide) rfl ?_
  have z1 : (0 : Nat) = lA bs a' 0 % d := (Nat.zero_mod d).symm
  have z2 : (0 : Nat) = lC bs a' 0 % d := (Nat.zero_mod d).symm
  refine aw_locals (L' := [some (.ref e), some (.int (nI a)), some (.int (nI m)), some (.int (nI d)), some (.int (nI (lA bs a' 0 % d))), some (.int (nI (lC bs a' 0 % d))), some (.int (nI 0))]) (fun k v hk => by rw [← z1, ← z2] at hk; exact hk) ?_
  refine aw_loop (σ := Nat) (fun i => i ≤ m) (fun i => m - i) (fun _ => M) (fun i => [some (.ref e), some (.int (nI a)), some (.int (nI m)), some (.int (nI d)), some (.int (nI (lA bs a' i % d))), some (.int (nI (lC bs a' i % d))), some (.int (nI i))]) ?_ 0 (Nat.zero_le _)
  rintro i hi ih
  dsimp only at hi ih ⊢
  have hA := lA_le hb a' i
  have hC := lC_le hb a' i (by omega)
  have mA := Nat.mod_lt (lA bs a' i) hd
  have mC := Nat.mod_lt (lC bs a' i) hd
  refine aw_iload6 X dL_weak_9 ?_
  refine aw_iload2 X dL_weak_11 ?_
  refine aw_icmpge X dL_weak_12 (tgt := 43) (by decide) (fun c => ?_) (fun c => ?_)
  · have e9 : i = m := by have := (nI_leI (by omega) (by omega)).mp c; omega
    subst e9
    refine aw_iload5 X dL_weak_43 ?_
    refine aw_iload3 X dL_weak_45 ?_
    refine aw_imul X dL_weak_46 ?_
    first | with_reducible refine aw_int (pk_mul _ _) ?_ | skip
    refine aw_iload4 X dL_weak_47 ?_
    refine aw_iadd X dL_weak_49 ?_
    first | with_reducible refine aw_int (nI_add _ _) ?_ | skip
    refine aw_ireturn X (ty := .int) hr (by first | rfl | decide | assumption) dL_weak_50 (⟨rfl, by rw [wk_n hb hm hd hd2]⟩)
  · have hlt : i < m := by
      rcases Nat.lt_or_ge i m with q | q
      · exact q
      · exact absurd (nI_le q (by omega)) c
    have hx := hb.at (a' + i)
    refine aw_iload4 X dL_weak_15 ?_
    refine aw_aload0 X dL_weak_17 ?_
    refine aw_iload1 X dL_weak_18 ?_
    refine aw_iload6 X dL_weak_19 ?_
    refine aw_iadd X dL_weak_21 ?_
    first | with_reducible refine aw_int (nI_add _ _) ?_ | skip
    refine aw_iald X dL_weak_22 h rfl (by omega) hN2 ?_
    refine aw_int ((hf i hlt).trans hx.1) ?_
    refine aw_iadd X dL_weak_23 ?_
    first | with_reducible refine aw_int (nI_add _ _) ?_ | skip
    refine aw_iload3 X dL_weak_24 ?_
    refine aw_irem X dL_weak_25 (nI_ne0 hd (by omega)) ?_
    have eA : (lA bs a' i % d + bn bs (a' + i)) % d = lA bs a' (i + 1) % d := by rw [lA, Nat.mod_add_mod]
    refine aw_int ((pk_rem (by omega) hd (by omega)).trans (congrArg nI eA)) ?_
    have mA2 := Nat.mod_lt (lA bs a' (i + 1)) hd
    refine aw_istore4 X dL_weak_26 (by rw [hn]; decide) rfl ?_
    refine aw_iload5 X dL_weak_28 ?_
    refine aw_iload4 X dL_weak_30 ?_
    refine aw_iadd X dL_weak_32 ?_
    first | with_reducible refine aw_int (nI_add _ _) ?_ | skip
    refine aw_iload3 X dL_weak_33 ?_
    refine aw_irem X dL_weak_34 (nI_ne0 hd (by omega)) ?_
    have eC : (lC bs a' i % d + lA bs a' (i + 1) % d) % d = lC bs a' (i + 1) % d := by rw [lC, ← Nat.add_mod]
    refine aw_int ((pk_rem (by omega) hd (by omega)).trans (congrArg nI eC)) ?_
    refine aw_istore5 X dL_weak_35 (by rw [hn]; decide) rfl ?_
    refine aw_iinc6 X dL_weak_37 (by rw [hn]; decide) (am_inc _ 1) rfl ?_
    refine aw_goto X dL_weak_40 (tgt := 9) (by decide) ?_
    exact ih (i + 1) hlt (by omega)
theorem c_L_strong {l : Launch} {G : AG} {M : AM} {e N a a' m : Nat} {fA : Nat → Int32} {bs : List Int32} (h : M.1 e = some (am_ai G N fA)) (hN : a + m ≤ N) (hN2 : N < 2 ^ 31) (hf : ∀ k, k < m → fA (a + k) = bs.getD (a' + k) 0) (hb : byB bs) : Cn l G yL_strong cL_strong 8 (some .long) rL_strong M [.ref e, .int (nI a), .int (nI m)] (fun v M' => M' = M ∧ v = some (.long (sg bs a' m))) := by
  refine Cn.of (by decide) [some (.ref e), some (.int (nI a)), some (.int (nI m)), none, none, none, none, none] rfl (Nat.le_of_ble_eq_true rfl) ?_
  intro Z hZ
  obtain ⟨rfl, hn, rfl, hR, X, hr, hnm⟩ := hZ
  refine aw_lconst X dL_strong_0 (v := 0) (by decide) ?_
  refine aw_lstore3 X dL_strong_1 (by rw [hn]; decide) rfl ?_
  refine aw_lconst X dL_strong_2 (v := 1) (by decide) ?_
  refine aw_lstore5 X dL_strong_3 (by rw [hn]; decide) rfl ?_
  refine aw_iconst X dL_strong_5 (v := nI 0) (by decide) ?_
  refine aw_istore7 X dL_strong_6 (by rw [hn]; decide) rfl ?_
  refine aw_loop (σ := Nat) (fun i => i ≤ m) (fun i => m - i) (fun _ => M) (fun i => [some (.ref e), some (.int (nI a)), some (.int (nI m)), some (.long (lN (sF bs a' i))), none, some (.long (lN (257 ^ i))), none, some (.int (nI i))]) ?_ 0 (Nat.zero_le _)
  rintro i hi ih
  dsimp only at hi ih ⊢
  refine aw_iload7 X dL_strong_8 ?_
  refine aw_iload2 X dL_strong_10 ?_
  refine aw_icmpge X dL_strong_11 (tgt := 43) (by decide) (fun c => ?_) (fun c => ?_)
  · have e9 : i = m := by have := (nI_leI (by omega) (by omega)).mp c; omega
    subst e9
    refine aw_lload3 X dL_strong_43 ?_
    have e := sF_N (bs := bs) a' i i (Nat.le_refl _)
    rw [Nat.sub_self, sN, Nat.mul_zero, Nat.add_zero] at e
    refine aw_lreturn X hr dL_strong_44 (⟨rfl, by rw [sg_N hb, e]⟩)
  · have hlt : i < m := by
      rcases Nat.lt_or_ge i m with q | q
      · exact q
      · exact absurd (nI_le q (by omega)) c
    have hx := hb.at (a' + i)
    refine aw_lload3 X dL_strong_14 ?_
    refine aw_lload5 X dL_strong_15 ?_
    refine aw_aload0 X dL_strong_17 ?_
    refine aw_iload1 X dL_strong_18 ?_
    refine aw_iload7 X dL_strong_19 ?_
    refine aw_iadd X dL_strong_21 ?_
    first | with_reducible refine aw_int (nI_add _ _) ?_ | skip
    refine aw_iald X dL_strong_22 h rfl (by omega) hN2 ?_
    refine aw_int ((hf i hlt).trans hx.1) ?_
    refine aw_iconst X dL_strong_23 (v := nI 1) (by decide) ?_
    refine aw_iadd X dL_strong_24 ?_
    first | with_reducible refine aw_int (nI_add _ _) ?_ | skip
    refine aw_i2l X dL_strong_25 ?_
    refine aw_long (nI_l (by omega)) ?_
    refine aw_lmul X dL_strong_26 ?_
    refine aw_long (lN_mul _ _) ?_
    refine aw_ladd X dL_strong_27 ?_
    refine aw_long (lN_add _ _) ?_
    refine aw_lstore3 X dL_strong_28 (by rw [hn]; decide) rfl ?_
    refine aw_lload5 X dL_strong_29 ?_
    refine aw_ldc2 X kcL_15 dL_strong_31 ?_
    refine aw_lmul X dL_strong_34 ?_
    refine aw_long (y := lN (257 ^ (i + 1))) (by rw [show (257 : Int64) = lN 257 from rfl, lN_mul, Nat.pow_succ]) ?_
    refine aw_lstore5 X dL_strong_35 (by rw [hn]; decide) rfl ?_
    refine aw_iinc7 X dL_strong_37 (by rw [hn]; decide) (am_inc _ 1) rfl ?_
    refine aw_goto X dL_strong_40 (tgt := 8) (by decide) ?_
    exact ih (i + 1) hlt (by omega)
