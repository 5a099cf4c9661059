theorem aw_loop {Z : AZ} {Q : State → Prop} {k n pc : Nat} {σ : Type} (I : σ → Prop) (μ : σ → Nat) (FM : σ → AM) (FL : σ → List (Option Value)) (hs : ∀ s, I s → (∀ s', I s' → μ s' < μ s → AW Z Q (FM s') k n pc (FL s') []) → AW Z Q (FM s) k n pc (FL s) []) (s0 : σ) (h0 : I s0) : AW Z Q (FM s0) k n pc (FL s0) [] := by
  have key : ∀ (d : Nat) (s : σ), μ s < d → I s → AW Z Q (FM s) k n pc (FL s) [] := by
    intro d
    induction d with
    | zero => exact fun s h _ => absurd h (Nat.not_lt_zero _)
    | succ d ih => exact fun s h hI => hs s hI (fun s' hI' hl => ih s' (by omega) hI')
  exact key (μ s0 + 1) s0 (Nat.lt_succ_self _) h0
/-- the number that counts down: one below j -/
def am_dn : Nat → Int32
  | 0 => -1
  | j + 1 => nI j
theorem am_dn_sub {m : Nat} (h : 0 < m) : nI m - nI 1 = am_dn m := by
  cases m with
  | zero => omega
  | succ m => exact nI_pred m
theorem am_dn_dec (j : Nat) : nI j + Int32.ofInt (-1) = am_dn j := by
  cases j with
  | zero => decide
  | succ j => exact pk_m1 j
theorem am_dn_neg : am_dn 0 < 0 := by decide
theorem getD_take_drop {bo : List Int32} {a i : Nat} (h : a + i < bo.length) : (bo.drop a).take (i + 1) = (bo.drop a).take i ++ [bo.getD (a + i) 0] := by
  rw [List.take_succ]
  congr 1
  simp [List.getD, List.getElem?_eq_getElem h]
theorem c_X4_appendFrom {l : Launch} {G : AG} {M : AM} {r o a m : Nat} {bs bo : List Int32} (h : isRow G M r bs) (ho : isRow G M o bo) (hd : r + 2 ≤ o ∨ o + 2 ≤ r) (ha : a + m ≤ bo.length) (hm : bs.length + m ≤ 120) : Cn l G yX4_appendFrom cX4_appendFrom 5 none rX4_appendFrom M [.ref r, .ref o, .int (nI a), .int (nI m)] (fun v M' => isRow G M' r (bs ++ (bo.drop a).take m) ∧ am_out M M' r (r + 2) ∧ v = none) := by
  have hbo := ho.le
  refine Cn.of (by decide) [some (.ref r), some (.ref o), some (.int (nI a)), some (.int (nI m)), none] rfl (Nat.le_of_ble_eq_true rfl) ?_
  intro Z hZ
  obtain ⟨rfl, hn, rfl, hR, X, hr, hnm⟩ := hZ
  refine aw_iconst X dX4_appendFrom_0 (v := nI 0) (by decide) ?_
  refine aw_istore4 X dX4_appendFrom_1 (by rw [hn]; decide) rfl ?_
  refine aw_loop (σ := Nat × AM) (fun s => s.1 ≤ m ∧ isRow (zG Z) s.2 r (bs ++ (bo.drop a).take s.1) ∧ am_out M s.2 r (r + 2)) (fun s => m - s.1) (fun s => s.2) (fun s => [some (.ref r), some (.ref o), some (.int (nI a)), some (.int (nI m)), some (.int (nI s.1))]) ?_ (0, M) ⟨Nat.zero_le _, by simpa using h, am_out.rf⟩
  rintro ⟨i, M1⟩ ⟨hi, h1, hout⟩ ih
  dsimp only at hi h1 hout ih ⊢
  refine aw_iload4 X dX4_appendFrom_3 ?_
  refine aw_iload3 X dX4_appendFrom_5 ?_
  refine aw_icmpge X dX4_appendFrom_6 (tgt := 27) (by decide) (fun c => ?_) (fun c => ?_)
  · have e : i = m := by have := (nI_leI (by omega) (by omega)).mp c; omega
    subst e
    refine aw_vreturn X hr dX4_appendFrom_27 (⟨h1, hout, rfl⟩)
  · have hlt : i < m := by
      rcases Nat.lt_or_ge i m with q | q
      · exact q
      · exact absurd (nI_le q (by omega)) c
    refine aw_aload0 X dX4_appendFrom_9 ?_
    refine aw_aload1 X dX4_appendFrom_10 ?_
    refine aw_iload2 X dX4_appendFrom_11 ?_
    refine aw_iload4 X dX4_appendFrom_12 ?_
    refine aw_iadd X dX4_appendFrom_14 ?_
    first | with_reducible refine aw_int (nI_add _ _) ?_ | skip
    obtain ⟨g, o1, -⟩ := id (ho.out hout (by omega))
    refine aw_callV X (c_X4_at (ho.out hout (by omega))) kX4_19 (ci := 5) rfl (o1) dX4_appendFrom_15 rfl rfl (by first | decide | exact Nat.le_of_ble_eq_true rfl) (by rw [hR]; exact ⟨by first | decide | exact Nat.le_of_ble_eq_true rfl | (dsimp only; omega), by first | decide | exact Nat.le_of_ble_eq_true rfl | (dsimp only; omega)⟩) (by rw [hR]; exact ⟨by first | decide | exact Nat.le_of_ble_eq_true rfl | (dsimp only; omega), by first | decide | exact Nat.le_of_ble_eq_true rfl | (dsimp only; omega)⟩) (fun v M2 hv => ?_)
    obtain ⟨rfl, rfl⟩ := hv
    refine aw_int (am_at_n (by omega)) ?_
    obtain ⟨f1, q1, -⟩ := id h1
    refine aw_callV X (c_X4_append h1 (by simp; omega)) kX4_23 (ci := 5) rfl (q1) dX4_appendFrom_18 rfl rfl (by first | decide | exact Nat.le_of_ble_eq_true rfl) (by rw [hR]; exact ⟨by first | decide | exact Nat.le_of_ble_eq_true rfl | (dsimp only; omega), by first | decide | exact Nat.le_of_ble_eq_true rfl | (dsimp only; omega)⟩) (by rw [hR]; exact ⟨by first | decide | exact Nat.le_of_ble_eq_true rfl | (dsimp only; omega), by first | decide | exact Nat.le_of_ble_eq_true rfl | (dsimp only; omega)⟩) (fun v M3 hv => ?_)
    obtain ⟨h3, hout3, rfl⟩ := hv
    refine aw_iinc4 X dX4_appendFrom_21 (by rw [hn]; decide) (am_inc _ 1) rfl ?_
    refine aw_goto X dX4_appendFrom_24 (tgt := 3) (by decide) ?_
    refine ih (i + 1, M3) ⟨by omega, ?_, hout.tr hout3⟩ (by dsimp only; omega)
    dsimp only
    rw [getD_take_drop (by omega), ← List.append_assoc]
    exact h3
theorem c_X4_become {l : Launch} {G : AG} {M : AM} {r o : Nat} {bs bo : List Int32} (h : isRow G M r bs) (ho : isRow G M o bo) (hd : r = o ∨ r + 2 ≤ o ∨ o + 2 ≤ r) : Cn l G yX4_become cX4_become 3 none rX4_become M [.ref r, .ref o] (fun v M' => isRow G M' r bo ∧ am_out M M' r (r + 2) ∧ v = none) := by
  have hbo := ho.le
  obtain ⟨f, h1, h2, hl, hf⟩ := h
  obtain ⟨g, o1, o2, ol, og⟩ := ho
  refine Cn.of (by decide) [some (.ref r), some (.ref o), none] rfl (Nat.le_of_ble_eq_true rfl) ?_
  intro Z hZ
  obtain ⟨rfl, hn, rfl, hR, X, hr, hnm⟩ := hZ
  refine aw_iconst X dX4_become_0 (v := nI 0) (by decide) ?_
  refine aw_istore2 X dX4_become_1 (by rw [hn]; decide) rfl ?_
  refine aw_loop (σ := Nat × AM) (fun s => s.1 ≤ bo.length ∧ am_out M s.2 (r + 1) (r + 2) ∧ ∃ f' : Nat → Int32, s.2.1 (r + 1) = some (am_ai (zG Z) 120 f') ∧ (∀ k, k < s.1 → f' k = bo.getD k 0) ∧ ∀ k, s.1 ≤ k → f' k = f k) (fun s => bo.length - s.1) (fun s => s.2) (fun s => [some (.ref r), some (.ref o), some (.int (nI s.1))]) ?_ (0, M) ⟨Nat.zero_le _, am_out.rf, f, h2, fun k hk => absurd hk (Nat.not_lt_zero _), fun _ _ => rfl⟩
  rintro ⟨i, M1⟩ ⟨hi, hout, f', m1, hlo, hhi⟩ ih
  dsimp only at hi hout m1 hlo hhi ih ⊢
  have r1 : M1.1 r = some (am_o 5 [.ref (r + 1), .int (nI bs.length)]) := (hout r (by omega)).trans h1
  have q1 : M1.1 o = some (am_o 5 [.ref (o + 1), .int (nI bo.length)]) := (hout o (by omega)).trans o1
  refine aw_iload2 X dX4_become_2 ?_
  refine aw_aload1 X dX4_become_3 ?_
  refine aw_get X fX4_15 dX4_become_4 (q1) rfl ?_
  refine aw_icmpge X dX4_become_7 (tgt := 28) (by decide) (fun c => ?_) (fun c => ?_)
  · have e : i = bo.length := by have := (nI_leI (by omega) (by omega)).mp c; omega
    subst e
    refine aw_aload0 X dX4_become_28 ?_
    refine aw_aload1 X dX4_become_29 ?_
    refine aw_get X fX4_15 dX4_become_30 (q1) rfl ?_
    refine aw_put1 X pX4_15 dX4_become_33 (r1) rfl rfl ?_
    refine aw_vreturn X hr dX4_become_36 (?_)
    refine ⟨⟨f', ?_, ?_, hbo, fun k hk => hlo k hk⟩, fun q hq => ?_, rfl⟩
    · exact am_us
    · rw [am_un (by omega)]
      exact m1
    · rw [am_un (by omega)]
      exact hout q (by omega)
  · have hlt : i < bo.length := by
      rcases Nat.lt_or_ge i bo.length with q | q
      · exact q
      · exact absurd (nI_le q (by omega)) c
    have hq : ∃ g' : Nat → Int32, M1.1 (o + 1) = some (am_ai (zG Z) 120 g') ∧ g' i = bo.getD i 0 := by
      rcases hd with e | e
      · subst e
        refine ⟨f', m1, ?_⟩
        have ef : f = g := by
          have e2 := h2.symm.trans o2
          simp only [am_ai, Option.some.injEq, Sum.inl.injEq, Prod.mk.injEq, true_and] at e2
          exact e2
        rw [hhi i (Nat.le_refl _), ef]
        exact og i hlt
      · exact ⟨g, (hout (o + 1) (by omega)).trans o2, og i hlt⟩
    obtain ⟨g', q2, q3⟩ := hq
    refine aw_aload0 X dX4_become_10 ?_
    refine aw_get X fX4_9 dX4_become_11 (r1) rfl ?_
    refine aw_iload2 X dX4_become_14 ?_
    refine aw_aload1 X dX4_become_15 ?_
    refine aw_get X fX4_9 dX4_become_16 (q1) rfl ?_
    refine aw_iload2 X dX4_become_19 ?_
    refine aw_iald X dX4_become_20 q2 rfl (by omega) (by decide) ?_
    refine aw_iast X dX4_become_21 m1 rfl (by omega) (by decide) ?_
    refine aw_iinc2 X dX4_become_22 (by rw [hn]; decide) (am_inc _ 1) rfl ?_
    refine aw_goto X dX4_become_25 (tgt := 2) (by decide) ?_
    refine ih (i + 1, _) ⟨by omega, hout.tr (am_out.up (by omega) (by omega)), upd f' i (g' i), am_us, fun k hk => ?_, fun k hk => ?_⟩ (by dsimp only; omega)
    · dsimp only at hk
      by_cases e : k = i
      · subst e
        rw [pk_us]
        exact q3
      · rw [pk_un e]
        exact hlo k (by omega)
    · dsimp only at hk
      rw [pk_un (by omega)]
      exact hhi k (by omega)
theorem c_X4_putIn {l : Launch} {G : AG} {M : AM} {r p : Nat} {y : Int32} {bs : List Int32} (h : isRow G M r bs) (hlen : bs.length < 120) (hp : p ≤ bs.length) : Cn l G yX4_putIn cX4_putIn 4 none rX4_putIn M [.ref r, .int (nI p), .int y] (fun v M' => isRow G M' r (bs.take p ++ y :: bs.drop p) ∧ am_out M M' r (r + 2) ∧ v = none) := by
  refine Cn.of (by decide) [some (.ref r), some (.int (nI p)), some (.int y), none] rfl (Nat.le_of_ble_eq_true rfl) ?_
  intro Z hZ
  obtain ⟨rfl, hn, rfl, hR, X, hr, hnm⟩ := hZ
  obtain ⟨f0, q0, -⟩ := id h
  refine aw_aload0 X dX4_putIn_0 ?_
  refine aw_iload2 X dX4_putIn_1 ?_
  refine aw_callV X (c_X4_append h hlen) kX4_23 (ci := 5) rfl (q0) dX4_putIn_2 rfl rfl (by first | decide | exact Nat.le_of_ble_eq_true rfl) (by rw [hR]; exact ⟨by first | decide | exact Nat.le_of_ble_eq_true rfl | (dsimp only; omega), by first | decide | exact Nat.le_of_ble_eq_true rfl | (dsimp only; omega)⟩) (by rw [hR]; exact ⟨by first | decide | exact Nat.le_of_ble_eq_true rfl | (dsimp only; omega), by first | decide | exact Nat.le_of_ble_eq_true rfl | (dsimp only; omega)⟩) (fun v M0 hv => ?_)
  obtain ⟨⟨f, h1, h2, hl, hf⟩, hout0, rfl⟩ := hv
  have hll : (bs ++ [y]).length = bs.length + 1 := by simp
  rw [hll] at h1 hl hf
  refine aw_aload0 X dX4_putIn_5 ?_
  refine aw_get X fX4_15 dX4_putIn_6 (h1) rfl ?_
  refine aw_iconst X dX4_putIn_9 (v := nI 1) (by decide) ?_
  refine aw_isub X dX4_putIn_10 ?_
  first | with_reducible refine aw_int (pk_sub (by omega)) ?_ | skip
  refine aw_istore3 X dX4_putIn_11 (by rw [hn]; decide) rfl ?_
  refine aw_loop (σ := Nat × AM) (fun s => p ≤ s.1 ∧ s.1 ≤ bs.length ∧ am_out M0 s.2 (r + 1) (r + 2) ∧ ∃ f' : Nat → Int32, s.2.1 (r + 1) = some (am_ai (zG Z) 120 f') ∧ (∀ k, k ≤ s.1 → f' k = f k) ∧ ∀ k, s.1 < k → k ≤ bs.length → f' k = f (k - 1)) (fun s => s.1 - p) (fun s => s.2) (fun s => [some (.ref r), some (.int (nI p)), some (.int y), some (.int (nI s.1))]) ?_ (bs.length, M0) ⟨hp, Nat.le_refl _, am_out.rf, f, h2, fun _ _ => rfl, fun k h1 h2 => by dsimp only at h1; omega⟩
  rintro ⟨i, M1⟩ ⟨hpi, hi, hout, f', m1, hlo, hhi⟩ ih
  dsimp only at hpi hi hout m1 hlo hhi ih ⊢
  have r1 : M1.1 r = some (am_o 5 [.ref (r + 1), .int (nI (bs.length + 1))]) := (hout r (by omega)).trans h1
  refine aw_iload3 X dX4_putIn_12 ?_
  refine aw_iload1 X dX4_putIn_13 ?_
  refine aw_icmple X dX4_putIn_14 (tgt := 37) (by decide) (fun c => ?_) (fun c => ?_)
  · have e : i = p := by have := (nI_leI (by omega) (by omega)).mp c; omega
    subst e
    refine aw_aload0 X dX4_putIn_37 ?_
    refine aw_get X fX4_9 dX4_putIn_38 (r1) rfl ?_
    refine aw_iload1 X dX4_putIn_41 ?_
    refine aw_iload2 X dX4_putIn_42 ?_
    refine aw_iast X dX4_putIn_43 m1 rfl (by omega) (by decide) ?_
    refine aw_vreturn X hr dX4_putIn_44 (?_)
    have e2 : (bs.take i ++ y :: bs.drop i).length = bs.length + 1 := by
      simp only [List.length_append, List.length_take, List.length_cons, List.length_drop]
      omega
    refine ⟨⟨upd f' i y, ?_, am_us, by omega, fun k hk => ?_⟩, fun q hq => ?_, rfl⟩
    · rw [am_un (by omega), r1, e2]
    · have hk' : k < bs.length + 1 := by rw [e2] at hk; exact hk
      by_cases e : k = i
      · subst e
        rw [pk_us]
        simp [List.getD, Nat.min_eq_left hp]
      · rw [pk_un e]
        by_cases hki : k < i
        · rw [hlo k (by omega), hf k (by omega)]
          have a1 : k < bs.length := by omega
          simp [List.getD, List.getElem?_append, hki, a1, Nat.min_eq_left hp]
        · rw [hhi k (by omega) (by omega), hf (k - 1) (by omega)]
          have a1 : k - 1 < bs.length := by omega
          obtain ⟨j, rfl⟩ : ∃ j, k = i + 1 + j := ⟨k - i - 1, by omega⟩
          simp only [List.getD, List.getElem?_append, List.length_take, Nat.min_eq_left hp]
          rw [if_pos a1, if_neg (by omega), show i + 1 + j - i = j + 1 by omega, List.getElem?_cons_succ, List.getElem?_drop, show i + 1 + j - 1 = i + j by omega]
    · rw [am_un (by omega)]
      exact (hout q (by omega)).trans (hout0 q hq)
  · have hlt : p < i := by
      rcases Nat.lt_or_ge p i with q | q
      · exact q
      · exact absurd (nI_le q (by omega)) c
    refine aw_aload0 X dX4_putIn_17 ?_
    refine aw_get X fX4_9 dX4_putIn_18 (r1) rfl ?_
    refine aw_iload3 X dX4_putIn_21 ?_
    refine aw_aload0 X dX4_putIn_22 ?_
    refine aw_get X fX4_9 dX4_putIn_23 (r1) rfl ?_
    refine aw_iload3 X dX4_putIn_26 ?_
    refine aw_iconst X dX4_putIn_27 (v := nI 1) (by decide) ?_
    refine aw_isub X dX4_putIn_28 ?_
    first | with_reducible refine aw_int (pk_sub (by omega)) ?_ | skip
    refine aw_iald X dX4_putIn_29 m1 rfl (by omega) (by decide) ?_
    refine aw_iast X dX4_putIn_30 m1 rfl (by omega) (by decide) ?_
    obtain ⟨i, rfl⟩ : ∃ j, i = j + 1 := ⟨i - 1, by omega⟩
    refine aw_iinc3 X dX4_putIn_31 (by rw [hn]; decide) (am_dec _) rfl ?_
    refine aw_goto X dX4_putIn_34 (tgt := 12) (by decide) ?_
    refine ih (i, _) ⟨by dsimp only; omega, by dsimp only; omega, hout.tr (am_out.up (by omega) (by omega)), _, am_us, fun k hk => ?_, fun k hk hk2 => ?_⟩ (by dsimp only; omega)
    · dsimp only at hk
      rw [pk_un (by omega)]
      exact hlo k (by omega)
    · dsimp only at hk
      by_cases e : k = i + 1
      · subst e
        rw [pk_us, show i + 1 - 1 = i by omega]
        exact hlo i (by omega)
      · rw [pk_un e]
        exact hhi k (by omega) hk2
theorem c_X4_takeOut {l : Launch} {G : AG} {M : AM} {r p m : Nat} {bs : List Int32} (h : isRow G M r bs) (hp : p + m ≤ bs.length) : Cn l G yX4_takeOut cX4_takeOut 4 none rX4_takeOut M [.ref r, .int (nI p), .int (nI m)] (fun v M' => isRow G M' r (bs.take p ++ bs.drop (p + m)) ∧ am_out M M' r (r + 2) ∧ v = none) := by
  obtain ⟨f, h1, h2, hl, hf⟩ := h
  refine Cn.of (by decide) [some (.ref r), some (.int (nI p)), some (.int (nI m)), none] rfl (Nat.le_of_ble_eq_true rfl) ?_
  intro Z hZ
  obtain ⟨rfl, hn, rfl, hR, X, hr, hnm⟩ := hZ
  refine aw_iload1 X dX4_takeOut_0 ?_
  refine aw_istore3 X dX4_takeOut_1 (by rw [hn]; decide) rfl ?_
  refine aw_loop (σ := Nat × AM) (fun s => p ≤ s.1 ∧ s.1 + m ≤ bs.length ∧ am_out M s.2 (r + 1) (r + 2) ∧ ∃ f' : Nat → Int32, s.2.1 (r + 1) = some (am_ai (zG Z) 120 f') ∧ (∀ k, k < p → f' k = f k) ∧ (∀ k, p ≤ k → k < s.1 → f' k = f (k + m)) ∧ ∀ k, s.1 ≤ k → f' k = f k) (fun s => bs.length - s.1) (fun s => s.2) (fun s => [some (.ref r), some (.int (nI p)), some (.int (nI m)), some (.int (nI s.1))]) ?_ (p, M) ⟨Nat.le_refl _, hp, am_out.rf, f, h2, fun _ _ => rfl, fun k a b => by dsimp only at b; omega, fun _ _ => rfl⟩
  rintro ⟨i, M1⟩ ⟨hpi, hi, hout, f', m1, hlo, hmi, hhi⟩ ih
  dsimp only at hpi hi hout m1 hlo hmi hhi ih ⊢
  have r1 : M1.1 r = some (am_o 5 [.ref (r + 1), .int (nI bs.length)]) := (hout r (by omega)).trans h1
  refine aw_iload3 X dX4_takeOut_2 ?_
  refine aw_iload2 X dX4_takeOut_3 ?_
  refine aw_iadd X dX4_takeOut_4 ?_
  first | with_reducible refine aw_int (nI_add _ _) ?_ | skip
  refine aw_aload0 X dX4_takeOut_5 ?_
  refine aw_get X fX4_15 dX4_takeOut_6 (r1) rfl ?_
  refine aw_icmpge X dX4_takeOut_9 (tgt := 32) (by decide) (fun c => ?_) (fun c => ?_)
  · have e : i + m = bs.length := by have := (nI_leI (by omega) (by omega)).mp c; omega
    refine aw_aload0 X dX4_takeOut_32 ?_
    refine aw_dup X dX4_takeOut_33 rfl ?_
    refine aw_get X fX4_15 dX4_takeOut_34 (r1) rfl ?_
    refine aw_iload2 X dX4_takeOut_37 ?_
    refine aw_isub X dX4_takeOut_38 ?_
    first | with_reducible refine aw_int (pk_sub (by omega)) ?_ | skip
    refine aw_put1 X pX4_15 dX4_takeOut_39 (r1) rfl rfl ?_
    refine aw_vreturn X hr dX4_takeOut_42 (?_)
    have e2 : (bs.take p ++ bs.drop (p + m)).length = bs.length - m := by
      simp only [List.length_append, List.length_take, List.length_drop]
      omega
    refine ⟨⟨f', ?_, ?_, by omega, fun k hk => ?_⟩, fun q hq => ?_, rfl⟩
    · rw [am_us, e2]
    · rw [am_un (by omega)]
      exact m1
    · rw [e2] at hk
      by_cases hkp : k < p
      · rw [hlo k hkp, hf k (by omega)]
        simp only [List.getD, List.getElem?_append, List.length_take]
        rw [if_pos (by omega), List.getElem?_take, if_pos hkp]
      · rw [hmi k (by omega) (by omega), hf (k + m) (by omega)]
        simp only [List.getD, List.getElem?_append, List.length_take]
        rw [if_neg (by omega), List.getElem?_drop]
        congr 2
        omega
    · rw [am_un (by omega)]
      exact hout q (by omega)
  · have hlt : i + m < bs.length := by
      rcases Nat.lt_or_ge (i + m) bs.length with q | q
      · exact q
      · exact absurd (nI_le q (by omega)) c
    refine aw_aload0 X dX4_takeOut_12 ?_
    refine aw_get X fX4_9 dX4_takeOut_13 (r1) rfl ?_
    refine aw_iload3 X dX4_takeOut_16 ?_
    refine aw_aload0 X dX4_takeOut_17 ?_
    refine aw_get X fX4_9 dX4_takeOut_18 (r1) rfl ?_
    refine aw_iload3 X dX4_takeOut_21 ?_
    refine aw_iload2 X dX4_takeOut_22 ?_
    refine aw_iadd X dX4_takeOut_23 ?_
    first | with_reducible refine aw_int (nI_add _ _) ?_ | skip
    refine aw_iald X dX4_takeOut_24 m1 rfl (by omega) (by decide) ?_
    refine aw_iast X dX4_takeOut_25 m1 rfl (by omega) (by decide) ?_
    refine aw_iinc3 X dX4_takeOut_26 (by rw [hn]; decide) (am_inc _ 1) rfl ?_
    refine aw_goto X dX4_takeOut_29 (tgt := 2) (by decide) ?_
    refine ih (i + 1, _) ⟨by dsimp only; omega, by dsimp only; omega, hout.tr (am_out.up (by omega) (by omega)), _, am_us, fun k hk => ?_, fun k hk hk2 => ?_, fun k hk => ?_⟩ (by dsimp only; omega)
    · rw [pk_un (by omega)]
      exact hlo k hk
    · dsimp only at hk2
      by_cases e : k = i
      · subst e
        rw [pk_us]
        exact hhi (k + m) (by omega)
      · rw [pk_un e]
        exact hmi k hk (by omega)
    · dsimp only at hk
      rw [pk_un (by omega)]
      exact hhi k (by omega)
def am_b (p : Prop) [Decidable p] : Int32 := if p then nI 1 else nI 0
/-! the sums -/
def wkA (bs : List Int32) (a : Nat) : Nat → Int32
  | 0 => nI 0
  | i + 1 => wkA bs a i + bs.getD (a + i) 0
def wkB (bs : List Int32) (a m : Nat) : Nat → Int32
  | 0 => nI 0
  | i + 1 => wkB bs a m i + nI (m - i) * bs.getD (a + i) 0
def wk (bs : List Int32) (a m d : Nat) : Int32 := (wkB bs a m m - wkB bs a m m / nI d * nI d) * nI d + (wkA bs a m - wkA bs a m / nI d * nI d)
/-- the strong sum of m bytes from a, the last j of them -/
def sgS (bs : List Int32) (a : Nat) (m : Nat) : Nat → Int64
  | 0 => 0
  | j + 1 => sgS bs a m j * 257 + (bs.getD (a + (m - 1 - j)) 0).toInt64 + 1
def sg (bs : List Int32) (a m : Nat) : Int64 := sgS bs a m m
theorem c_X4_weakSum {l : Launch} {G : AG} {M : AM} {r a m d : Nat} {bs : List Int32} (h : isRow G M r bs) (ha : a + m ≤ bs.length) (hd : 0 < d) (hd2 : d < 2 ^ 31) : Cn l G yX4_weakSum cX4_weakSum 7 (some .int) rX4_weakSum M [.ref r, .int (nI a), .int (nI m), .int (nI d)] (fun v M' => M' = M ∧ v = some (.int (wk bs a m d))) := by
  have hl := h.le
  obtain ⟨f, h1, -⟩ := id h
  refine Cn.of (by decide) [some (.ref r), some (.int (nI a)), some (.int (nI m)), some (.int (nI d)), none, none, none] rfl (Nat.le_of_ble_eq_true rfl) ?_
  intro Z hZ
  obtain ⟨rfl, hn, rfl, hR, X, hr, hnm⟩ := hZ
  refine aw_iconst X dX4_weakSum_0 (v := nI 0) (by decide) ?_
  refine aw_istore4 X dX4_weakSum_1 (by rw [hn]; decide) rfl ?_
  refine aw_iconst X dX4_weakSum_3 (v := nI 0) (by decide) ?_
  refine aw_istore5 X dX4_weakSum_4 (by rw [hn]; decide) rfl ?_
  refine aw_iconst X dX4_weakSum_6 (v := nI 0) (by decide) ?_
  refine aw_istore6 X dX4_weakSum_7 (by rw [hn]; decide) rfl ?_
  refine aw_loop (σ := Nat) (fun i => i ≤ m) (fun i => m - i) (fun _ => M) (fun i => [some (.ref r), some (.int (nI a)), some (.int (nI m)), some (.int (nI d)), some (.int (wkA bs a i)), some (.int (wkB bs a m i)), some (.int (nI i))]) ?_ 0 (Nat.zero_le _)
  intro i hi ih
  dsimp only at ih ⊢
  refine aw_iload6 X dX4_weakSum_9 ?_
  refine aw_iload2 X dX4_weakSum_11 ?_
  refine aw_icmpge X dX4_weakSum_12 (tgt := 52) (by decide) (fun c => ?_) (fun c => ?_)
  · have e : i = m := by have := (nI_leI (by omega) (by omega)).mp c; omega
    subst e
    refine aw_iload5 X dX4_weakSum_52 ?_
    refine aw_iload3 X dX4_weakSum_54 ?_
    refine aw_irem X dX4_weakSum_55 (nI_ne0 hd hd2) ?_
    refine aw_iload3 X dX4_weakSum_56 ?_
    refine aw_imul X dX4_weakSum_57 ?_
    first | with_reducible refine aw_int (pk_mul _ _) ?_ | skip
    refine aw_iload4 X dX4_weakSum_58 ?_
    refine aw_iload3 X dX4_weakSum_60 ?_
    refine aw_irem X dX4_weakSum_61 (nI_ne0 hd hd2) ?_
    refine aw_iadd X dX4_weakSum_62 ?_
    first | with_reducible refine aw_int (nI_add _ _) ?_ | skip
    refine aw_ireturn X (ty := .int) hr (by first | rfl | decide | assumption) dX4_weakSum_63 (⟨rfl, rfl⟩)
  · have hlt : i < m := by
      rcases Nat.lt_or_ge i m with q | q
      · exact q
      · exact absurd (nI_le q (by omega)) c
    refine aw_iload4 X dX4_weakSum_15 ?_
    refine aw_aload0 X dX4_weakSum_17 ?_
    refine aw_iload1 X dX4_weakSum_18 ?_
    refine aw_iload6 X dX4_weakSum_19 ?_
    refine aw_iadd X dX4_weakSum_21 ?_
    first | with_reducible refine aw_int (nI_add _ _) ?_ | skip
    refine aw_callV X (c_X4_at h) kX4_19 (ci := 5) rfl (h1) dX4_weakSum_22 rfl rfl (by first | decide | exact Nat.le_of_ble_eq_true rfl) (by rw [hR]; exact ⟨by first | decide | exact Nat.le_of_ble_eq_true rfl | (dsimp only; omega), by first | decide | exact Nat.le_of_ble_eq_true rfl | (dsimp only; omega)⟩) (by rw [hR]; exact ⟨by first | decide | exact Nat.le_of_ble_eq_true rfl | (dsimp only; omega), by first | decide | exact Nat.le_of_ble_eq_true rfl | (dsimp only; omega)⟩) (fun v M2 hv => ?_)
    obtain ⟨rfl, rfl⟩ := hv
    refine aw_int (am_at_n (by omega)) ?_
    refine aw_iadd X dX4_weakSum_25 ?_
    first | with_reducible refine aw_int (nI_add _ _) ?_ | skip
    refine aw_istore4 X dX4_weakSum_26 (by rw [hn]; decide) rfl ?_
    refine aw_iload5 X dX4_weakSum_28 ?_
    refine aw_iload2 X dX4_weakSum_30 ?_
    refine aw_iload6 X dX4_weakSum_31 ?_
    refine aw_isub X dX4_weakSum_33 ?_
    first | with_reducible refine aw_int (pk_sub (by omega)) ?_ | skip
    refine aw_aload0 X dX4_weakSum_34 ?_
    refine aw_iload1 X dX4_weakSum_35 ?_
    refine aw_iload6 X dX4_weakSum_36 ?_
    refine aw_iadd X dX4_weakSum_38 ?_
    first | with_reducible refine aw_int (nI_add _ _) ?_ | skip
    refine aw_callV X (c_X4_at h) kX4_19 (ci := 5) rfl (h1) dX4_weakSum_39 rfl rfl (by first | decide | exact Nat.le_of_ble_eq_true rfl) (by rw [hR]; exact ⟨by first | decide | exact Nat.le_of_ble_eq_true rfl | (dsimp only; omega), by first | decide | exact Nat.le_of_ble_eq_true rfl | (dsimp only; omega)⟩) (by rw [hR]; exact ⟨by first | decide | exact Nat.le_of_ble_eq_true rfl | (dsimp only; omega), by first | decide | exact Nat.le_of_ble_eq_true rfl | (dsimp only; omega)⟩) (fun v M2 hv => ?_)
    obtain ⟨rfl, rfl⟩ := hv
    refine aw_int (am_at_n (by omega)) ?_
    refine aw_imul X dX4_weakSum_42 ?_
    first | with_reducible refine aw_int (pk_mul _ _) ?_ | skip
    refine aw_iadd X dX4_weakSum_43 ?_
    first | with_reducible refine aw_int (nI_add _ _) ?_ | skip
    refine aw_istore5 X dX4_weakSum_44 (by rw [hn]; decide) rfl ?_
    refine aw_iinc6 X dX4_weakSum_46 (by rw [hn]; decide) (am_inc _ 1) rfl ?_
    refine aw_goto X dX4_weakSum_49 (tgt := 9) (by decide) ?_
    exact ih (i + 1) (by omega) (by omega)
theorem c_X4_strongSum {l : Launch} {G : AG} {M : AM} {r a m : Nat} {bs : List Int32} (h : isRow G M r bs) (ha : a + m ≤ bs.length) (hm : 0 < m) : Cn l G yX4_strongSum cX4_strongSum 6 (some .long) rX4_strongSum M [.ref r, .int (nI a), .int (nI m)] (fun v M' => M' = M ∧ v = some (.long (sg bs a m))) := by
  have hl := h.le
  obtain ⟨f, h1, -⟩ := id h
  refine Cn.of (by decide) [some (.ref r), some (.int (nI a)), some (.int (nI m)), none, none, none] rfl (Nat.le_of_ble_eq_true rfl) ?_
  intro Z hZ
  obtain ⟨rfl, hn, rfl, hR, X, hr, hnm⟩ := hZ
  refine aw_lconst X dX4_strongSum_0 (v := 0) (by decide) ?_
  refine aw_lstore3 X dX4_strongSum_1 (by rw [hn]; decide) rfl ?_
  refine aw_iload2 X dX4_strongSum_2 ?_
  refine aw_iconst X dX4_strongSum_3 (v := nI 1) (by decide) ?_
  refine aw_isub X dX4_strongSum_4 ?_
  refine aw_int (am_dn_sub hm) ?_
  refine aw_istore5 X dX4_strongSum_5 (by rw [hn]; decide) rfl ?_
  have hz : sgS bs a m (m - m) = 0 := by
    rw [Nat.sub_self]
    rfl
  rw [← hz]
  refine aw_loop (σ := Nat) (fun j => j ≤ m) (fun j => j) (fun _ => M) (fun j => [some (.ref r), some (.int (nI a)), some (.int (nI m)), some (.long (sgS bs a m (m - j))), none, some (.int (am_dn j))]) ?_ m (Nat.le_refl _)
  intro j hj ih
  dsimp only at ih ⊢
  refine aw_iload5 X dX4_strongSum_7 ?_
  cases j with
  | zero =>
    refine aw_iflt X dX4_strongSum_9 (tgt := 36) (by decide) (fun _ => ?_) (fun c9 => by first | exact absurd (am_dn_neg) c9 | exact absurd c9 (am_dn_neg))
    refine aw_lload3 X dX4_strongSum_36 ?_
    refine aw_lreturn X hr dX4_strongSum_37 (⟨rfl, rfl⟩)
  | succ j =>
    refine aw_iflt X dX4_strongSum_9 (tgt := 36) (by decide) (fun c9 => by first | exact absurd (nI_pos (by omega)) c9 | exact absurd c9 (nI_pos (by omega))) (fun _ => ?_)
    refine aw_lload3 X dX4_strongSum_12 ?_
    refine aw_ldc2 X kcX4_27 dX4_strongSum_13 ?_
    refine aw_lmul X dX4_strongSum_16 ?_
    refine aw_aload0 X dX4_strongSum_17 ?_
    refine aw_iload1 X dX4_strongSum_18 ?_
    refine aw_iload5 X dX4_strongSum_19 ?_
    refine aw_iadd X dX4_strongSum_21 ?_
    first | with_reducible refine aw_int (nI_add _ _) ?_ | skip
    refine aw_callV X (c_X4_at h) kX4_19 (ci := 5) rfl (h1) dX4_strongSum_22 rfl rfl (by first | decide | exact Nat.le_of_ble_eq_true rfl) (by rw [hR]; exact ⟨by first | decide | exact Nat.le_of_ble_eq_true rfl | (dsimp only; omega), by first | decide | exact Nat.le_of_ble_eq_true rfl | (dsimp only; omega)⟩) (by rw [hR]; exact ⟨by first | decide | exact Nat.le_of_ble_eq_true rfl | (dsimp only; omega), by first | decide | exact Nat.le_of_ble_eq_true rfl | (dsimp only; omega)⟩) (fun v M2 hv => ?_)
    obtain ⟨rfl, rfl⟩ := hv
    refine aw_int (am_at_n (by omega)) ?_
    refine aw_i2l X dX4_strongSum_25 ?_
    refine aw_ladd X dX4_strongSum_26 ?_
    refine aw_lconst X dX4_strongSum_27 (v := 1) (by decide) ?_
    refine aw_ladd X dX4_strongSum_28 ?_
    refine aw_lstore3 X dX4_strongSum_29 (by rw [hn]; decide) rfl ?_
    refine aw_iinc5 X dX4_strongSum_30 (by rw [hn]; decide) (am_dn_dec j) rfl ?_
    refine aw_goto X dX4_strongSum_33 (tgt := 7) (by decide) ?_
    have e : sgS bs a m (m - (j + 1)) * 257 + (bs.getD (a + j) 0).toInt64 + 1 = sgS bs a m (m - j) := by
      rw [show m - j = m - (j + 1) + 1 by omega, sgS, show m - 1 - (m - (j + 1)) = j by omega]
    have k := ih j (by omega) (by omega)
    rw [← e] at k
    exact k
