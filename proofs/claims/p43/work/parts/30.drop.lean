/-- how many are gone when the chunks of l are named once less each -/
def dg (t : Nat → Nat) : List Nat → Nat
  | [] => 0
  | c :: l => (if t c = 1 then 1 else 0) + dg (va_up t c (t c - 1)) l
theorem dg_le : ∀ (l : List Nat) (t : Nat → Nat), dg t l ≤ l.length
  | [], _ => Nat.le_refl _
  | c :: l, t => by
    have := dg_le l (va_up t c (t c - 1))
    rw [dg, List.length_cons]
    split <;> omega
theorem drop_cons {xs : List Nat} {i : Nat} (h : i < xs.length) : xs.drop i = xs.getD i 0 :: xs.drop (i + 1) := by
  rw [List.drop_eq_getElem_cons h, List.getD_eq_getElem?_getD, List.getElem?_eq_getElem h]
  rfl
theorem shL.gone {s : SH} {P : PS} {p e cap : Nat} {t' : Nat → Nat} (h : shL s P) (hp : p < 12) (ht : ∀ x ∈ sMade s, t' x + List.count x (sNm s p) = s.2.2.2.2 x) : shL (s.1, s.2.1, va_up s.2.2.1 p (0, e, cap, []), s.2.2.2.1, t') (va_up P p none) := by
  obtain ⟨h1, h2, h3, h4, h5, h6⟩ := h
  have hnm : nmf (s.1, s.2.1, va_up s.2.2.1 p (0, e, cap, []), s.2.2.2.1, t') = va_up (nmf s) p [] := by
    funext i
    show ((va_up s.2.2.1 p (0, e, cap, []) : Nat → PP) i).2.2.2 = _
    by_cases ei : i = p
    · subst ei
      rw [va_up_self, va_up_self]
    · rw [va_up_ne _ _ ei, va_up_ne _ _ ei]
  refine ⟨fun i hi => ?_, fun i hi => ?_, fun i hi x hx => ?_, fun x hx => ?_, fun x hx y hy hx0 hy0 exy => ?_, fun i hi m hm => ?_⟩
  · dsimp only
    by_cases ei : i = p
    · subst ei
      rw [va_up_self, va_up_self]
      rfl
    · rw [va_up_ne _ _ ei, va_up_ne _ _ ei]
      exact h1 i hi
  · show (((va_up s.2.2.1 p (0, e, cap, []) : Nat → PP) i).2.2.2).map _ = _
    by_cases ei : i = p
    · subst ei
      rw [va_up_self, va_up_self]
      rfl
    · rw [va_up_ne _ _ ei, va_up_ne _ _ ei]
      exact h2 i hi
  · have hx : x ∈ ((va_up s.2.2.1 p (0, e, cap, []) : Nat → PP) i).2.2.2 := hx
    by_cases ei : i = p
    · subst ei
      rw [va_up_self] at hx
      cases hx
    · rw [va_up_ne _ _ ei] at hx
      exact h3 i hi x hx
  · rw [hnm]
    have a1 := ht x hx
    have a2 := h4 x hx
    have a3 := allK_count (nm := nmf s) (p := p) (x := x) (l := []) (n := 12) hp
    have a4 : List.count x ([] : List Nat) = 0 := rfl
    show t' x = _
    dsimp only [nmf] at a1 a2 a3 ⊢
    omega
  · have hx0 : 0 < t' x := hx0
    have hy0 : 0 < t' y := hy0
    have a1 := ht x hx
    have a2 := ht y hy
    exact h5 x hx y hy (by omega) (by omega) exy
  · by_cases ei : i = p
    · subst ei
      rw [va_up_self] at hm
      cases hm
    · rw [va_up_ne _ _ ei] at hm
      exact h6 i hi m hm
theorem c_X5_dropPaper {l : Launch} {G : AG} {M : AM} {D h p : Nat} {s : SH} {P : PS} (hs : isShM G M h s) (ha : shA D h s) (hl : shL s P) (hp : p < 12) : Cn l G yX5_dropPaper cX5_dropPaper 6 (some .int) rX5_dropPaper M [.ref h, .int (nI p)] (fun v M' => ∃ s', v = some (.int (nI (dg s.2.2.2.2 (sNm s p)))) ∧ isShM G M' h s' ∧ shA D h s' ∧ shL s' (va_up P p none) ∧ s'.1 = s.1 ∧ KE M M' (fun q => (h ≤ q ∧ q < h + 27) ∨ D ≤ q)) := by
  obtain ⟨h1, ⟨f, h2, hf⟩, -, h4, -⟩ := id hs
  obtain ⟨a1, -, -, a4, -, -, a7, -⟩ := id ha
  have hlen := hl.len hp
  have hcapN := (a4 p hp).2.1
  have hcapD := (a4 p hp).2.2
  refine Cn.of (by decide) [some (.ref h), some (.int (nI p)), none, none, none, none] rfl (Nat.le_of_ble_eq_true rfl) ?_
  intro Z hZ
  obtain ⟨rfl, hn, rfl, hR, X, hr, hnm⟩ := hZ
  refine aw_aload0 X dX5_dropPaper_0 ?_
  refine aw_get X fX5_11 dX5_dropPaper_1 (h1) rfl ?_
  refine aw_iload1 X dX5_dropPaper_4 ?_
  refine aw_aald X at_7 dX5_dropPaper_5 h2 rfl hp (by decide) ?_
  refine aw_rf (hf p hp) ?_
  refine aw_astore2 X dX5_dropPaper_6 (by rw [hn]; decide) rfl ?_
  refine aw_iconst X dX5_dropPaper_7 (v := nI 0) (by decide) ?_
  refine aw_istore3 X dX5_dropPaper_8 (by rw [hn]; decide) rfl ?_
  refine aw_iconst X dX5_dropPaper_9 (v := nI 0) (by decide) ?_
  refine aw_istore4 X dX5_dropPaper_10 (by rw [hn]; decide) rfl ?_
  refine aw_loop (σ := Nat × Nat × (Nat → Nat) × AM) (fun i => i.1 ≤ (sNm s p).length ∧ isShM (zG Z) i.2.2.2 h (s.1, s.2.1, s.2.2.1, s.2.2.2.1, i.2.2.1) ∧ shA D h (s.1, s.2.1, s.2.2.1, s.2.2.2.1, i.2.2.1) ∧ (∀ x ∈ sMade s, i.2.2.1 x + List.count x ((sNm s p).take i.1) = s.2.2.2.2 x) ∧ i.2.1 + dg i.2.2.1 ((sNm s p).drop i.1) = dg s.2.2.2.2 (sNm s p) ∧ KE M i.2.2.2 (fun q => (h ≤ q ∧ q < h + 27) ∨ D ≤ q)) (fun i => (sNm s p).length - i.1) (fun i => i.2.2.2) (fun i => [some (.ref h), some (.int (nI p)), some (.ref (h + 3 + 2 * p)), some (.int (nI i.2.1)), some (.int (nI i.1)), none]) ?_ (0, 0, s.2.2.2.2, M) ⟨Nat.zero_le _, hs, ha, fun x _ => rfl, Nat.zero_add _, KE.rf⟩
  rintro ⟨i, g, t1, M1⟩ ⟨hi, hs1, ha1, ht1, hg1, hke⟩ ih
  dsimp only at hi hs1 ha1 ht1 hg1 hke ih ⊢
  have hpp := hs1.2.2.2.1 p hp
  dsimp only at hpp
  obtain ⟨mc, l1⟩ := hpp.2.at
  have hdg := dg_le (sNm s p) s.2.2.2.2
  refine aw_iload4 X dX5_dropPaper_12 ?_
  refine aw_aload2 X dX5_dropPaper_14 ?_
  refine aw_get X fX5_57 dX5_dropPaper_15 (hpp.1) rfl ?_
  refine aw_callV X (c_ls_size hpp.2) kX5_68 (ci := 0) rfl (l1) dX5_dropPaper_18 rfl rfl (by first | decide | exact Nat.le_of_ble_eq_true rfl) (by rw [hR]; exact ⟨by first | decide | exact Nat.le_of_ble_eq_true rfl | (dsimp only; omega), by first | decide | exact Nat.le_of_ble_eq_true rfl | (dsimp only; omega)⟩) (by rw [hR]; exact ⟨by first | decide | exact Nat.le_of_ble_eq_true rfl | (dsimp only; omega), by first | decide | exact Nat.le_of_ble_eq_true rfl | (dsimp only; omega)⟩) (fun v M1 hv => ?_)
  obtain ⟨rfl, rfl⟩ := hv
  refine aw_icmpge X dX5_dropPaper_21 (tgt := 66) (by decide) (fun c9 => ?_) (fun c9 => ?_)
  · have e : i = (sNm s p).length := by have c9 : nI (sNm s p).length ≤ nI i := c9; have := (nI_leI (by omega) (by omega)).mp c9; omega
    subst e
    rw [List.drop_length] at hg1
    rw [List.take_length] at ht1
    have hg2 : g = dg s.2.2.2.2 (sNm s p) := hg1
    subst hg2
    refine aw_aload2 X dX5_dropPaper_66 ?_
    refine aw_get X fX5_57 dX5_dropPaper_67 (hpp.1) rfl ?_
    refine aw_callV X (c_ls_clear hpp.2 (by omega)) kX5_83 (ci := 0) rfl (l1) dX5_dropPaper_70 rfl rfl (by first | decide | exact Nat.le_of_ble_eq_true rfl) (by rw [hR]; exact ⟨by first | decide | exact Nat.le_of_ble_eq_true rfl | (dsimp only; omega), by first | decide | exact Nat.le_of_ble_eq_true rfl | (dsimp only; omega)⟩) (by rw [hR]; exact ⟨by first | decide | exact Nat.le_of_ble_eq_true rfl | (dsimp only; omega), by first | decide | exact Nat.le_of_ble_eq_true rfl | (dsimp only; omega)⟩) (fun v M2 hv => ?_)
    obtain ⟨rfl, hl2, hk2⟩ := hv
    have hq2 : M2.1 (h + 3 + 2 * p) = some (am_o 4 [.ref (h + 3 + 2 * p + 1), .int (nI (s.2.2.1 p).1)]) := by
      refine (hk2 _ (by omega) (fun h0 e9 => ?_)).trans hpp.1
      obtain ⟨fA, hfA⟩ := hpp.2.arr h0
      exact arr_ne_o hfA hpp.1 e9.symm
    refine aw_aload2 X dX5_dropPaper_73 ?_
    refine aw_iconst X dX5_dropPaper_74 (v := nI 0) (by decide) ?_
    refine aw_put1 X pX5_35 dX5_dropPaper_75 (hq2) (by first | rfl | decide | assumption) rfl ?_
    refine aw_iload3 X dX5_dropPaper_78 ?_
    have hk3 : KE M1 (am_up M2 (h + 3 + 2 * p) (am_o 4 [.ref (h + 3 + 2 * p + 1), .int (nI 0)])) (fun q => q = h + 3 + 2 * p ∨ q = h + 3 + 2 * p + 1 ∨ (0 < (s.2.2.1 p).2.2.1 ∧ q = (s.2.2.1 p).2.1)) := fun q x hq he => (am_un (fun e9 => he (Or.inl e9))).trans ((hk2 q (fun e9 => he (Or.inr (Or.inl e9))) (fun h0 e9 => he (Or.inr (Or.inr ⟨h0, e9⟩)))).trans hq)
    have hpp3 : isPp (zG Z) (am_up M2 (h + 3 + 2 * p) (am_o 4 [.ref (h + 3 + 2 * p + 1), .int (nI 0)])) (h + 3 + 2 * p) (0, (s.2.2.1 p).2.1, (s.2.2.1 p).2.2.1, []) := by
      refine ⟨am_us, hl2.ke KE.up (by omega) (fun h0 e9 => ?_)⟩
      obtain ⟨fA, hfA⟩ := hl2.arr h0
      exact arr_ne_o hfA hq2 e9
    have hs3 := hs1.paper ha1 hp hk3 hpp3
    have ha3 := ha1.paper (i := p) (p := (0, (s.2.2.1 p).2.1, (s.2.2.1 p).2.2.1, [])) (Nat.zero_le _) hcapN hcapD
    have hl3 := hl.gone (e := (s.2.2.1 p).2.1) (cap := (s.2.2.1 p).2.2.1) hp ht1
    refine aw_ireturn X (ty := .int) hr (by first | rfl | decide | assumption) dX5_dropPaper_79 (⟨_, rfl, hs3, ha3, hl3, rfl, hke.tr (hk3.mono (fun q hq => ?_))⟩)
    rcases hq with q9 | q9 | ⟨q1, q2⟩
    · omega
    · omega
    · have := (hcapD q1).1
      omega
  · have hlt : i < (sNm s p).length := by
      rcases Nat.lt_or_ge i (sNm s p).length with q | q
      · exact q
      · exact absurd (nI_le q (by omega)) c9
    have hmem := hl.2.2.1 p hp _ (getN_mem hlt)
    have hcc := hs1.2.2.2.2 _ hmem
    have hcD := (ha1.2.2.2.2.2.2.1 _ hmem).1
    have hcT := (ha1.2.2.2.2.2.2.1 _ hmem).2
    dsimp only at hcc hcD hcT
    generalize hc : (sNm s p).getD i 0 = c at hmem hcc hcD hcT
    have hsplit : ∀ x, List.count x (sNm s p) = List.count x ((sNm s p).take i) + List.count x ((sNm s p).drop i) := fun x => by
      rw [← List.count_append, List.take_append_drop]
    have hdr := drop_cons hlt
    rw [hc] at hdr
    have hpos : 0 < t1 c := by
      have q1 := ht1 c hmem
      have q2 := hl.2.2.2.1 c hmem
      have q3 := hsplit c
      rw [hdr, List.count_cons_self] at q3
      have q4 := allK_count (nm := nmf s) (p := p) (x := c) (l := []) (n := 12) hp
      have q5 : List.count c ([] : List Nat) = 0 := rfl
      dsimp only [nmf] at q1 q2 q3 q4
      omega
    refine aw_aload2 X dX5_dropPaper_24 ?_
    refine aw_get X fX5_57 dX5_dropPaper_25 (hpp.1) rfl ?_
    refine aw_iload4 X dX5_dropPaper_28 ?_
    refine aw_callV X (c_ls_get hpp.2 hlt (by omega)) kX5_71 (ci := 0) rfl (l1) dX5_dropPaper_30 rfl rfl (by first | decide | exact Nat.le_of_ble_eq_true rfl) (by rw [hR]; exact ⟨by first | decide | exact Nat.le_of_ble_eq_true rfl | (dsimp only; omega), by first | decide | exact Nat.le_of_ble_eq_true rfl | (dsimp only; omega)⟩) (by rw [hR]; exact ⟨by first | decide | exact Nat.le_of_ble_eq_true rfl | (dsimp only; omega), by first | decide | exact Nat.le_of_ble_eq_true rfl | (dsimp only; omega)⟩) (fun v M1 hv => ?_)
    obtain ⟨rfl, rfl⟩ := hv
    rw [show ((s.2.2.1 p).2.2.2).getD i 0 = c from hc]
    refine aw_cast X cnX5_53 dX5_dropPaper_33 (hcc.at) ?_
    refine aw_astore5 X dX5_dropPaper_36 (by rw [hn]; decide) rfl ?_
    refine aw_aload5 X dX5_dropPaper_38 ?_
    refine aw_dup X dX5_dropPaper_40 rfl ?_
    refine aw_get X fX5_52 dX5_dropPaper_41 (hcc.at) rfl ?_
    refine aw_iconst X dX5_dropPaper_44 (v := nI 1) (by decide) ?_
    refine aw_isub X dX5_dropPaper_45 ?_
    first | with_reducible refine aw_int (pk_sub (by omega)) ?_ | skip
    refine aw_put2 X pX5_52 dX5_dropPaper_46 (hcc.at) rfl rfl ?_
    refine aw_aload5 X dX5_dropPaper_49 ?_
    refine aw_get X fX5_52 dX5_dropPaper_51 (am_us) rfl ?_
    have hc3 : isChunk (zG Z) (am_up M1 c (am_o 2 [.ref (c + 1), .int (nI (s.2.2.2.1 c).length), .int (nI (t1 c - 1))])) c (s.2.2.2.1 c) (t1 c - 1) := by
      obtain ⟨g, g1, g2, g3⟩ := hcc
      exact ⟨g, am_us, (am_un (by omega)).trans g2, g3⟩
    have hs3 := hs1.chunk ha1 hmem (KE.up.mono (fun q hq => Or.inl hq)) hc3
    have ha3 := ha1.chunk (c := c) (b' := s.2.2.2.1 c) (t' := t1 c - 1) (by omega)
    dsimp only at hs3 ha3
    rw [va_up_id] at hs3 ha3
    have ht3 : ∀ x ∈ sMade s, va_up t1 c (t1 c - 1) x + List.count x ((sNm s p).take (i + 1)) = s.2.2.2.2 x := fun x hx => by
      have q1 := ht1 x hx
      have q2 : (sNm s p).take (i + 1) = (sNm s p).take i ++ [c] := by
        rw [List.take_succ, List.getElem?_eq_getElem hlt]
        rw [List.getD_eq_getElem?_getD, List.getElem?_eq_getElem hlt] at hc
        have hc : (sNm s p)[i] = c := hc
        rw [hc]
        rfl
      rw [q2, List.count_append]
      by_cases e : x = c
      · subst e
        rw [va_up_self, List.count_singleton_self]
        omega
      · rw [va_up_ne _ _ e, List.count_eq_zero.mpr (fun q => e (List.mem_singleton.mp q))]
        exact q1
    have hke3 : KE M (am_up M1 c (am_o 2 [.ref (c + 1), .int (nI (s.2.2.2.1 c).length), .int (nI (t1 c - 1))])) (fun q => (h ≤ q ∧ q < h + 27) ∨ D ≤ q) := hke.tr (KE.up.mono (fun q hq => by omega))
    rw [hdr, dg] at hg1
    refine aw_ifne X dX5_dropPaper_54 (tgt := 60) (by decide) (fun c8 => ?_) (fun c8 => ?_)
    · have e1 : ¬ t1 c = 1 := fun e => c8 (by rw [e]; rfl)
      rw [if_neg e1, Nat.zero_add] at hg1
      refine aw_iinc4 X dX5_dropPaper_60 (by rw [hn]; decide) (am_inc _ 1) rfl ?_
      refine aw_goto X dX5_dropPaper_63 (tgt := 12) (by decide) ?_
      refine aw_drop5 ?_
      exact ih (i + 1, g, _, _) ⟨hlt, hs3, ha3, ht3, hg1, hke3⟩ (by dsimp only; omega)
    · have e1 : t1 c = 1 := by
        have := (nI_eq (a := t1 c - 1) (b := 0) (by omega) (by omega)).mp c8
        omega
      rw [if_pos e1, ← Nat.add_assoc] at hg1
      refine aw_iinc3 X dX5_dropPaper_57 (by rw [hn]; decide) (am_inc _ 1) rfl ?_
      refine aw_iinc4 X dX5_dropPaper_60 (by rw [hn]; decide) (am_inc _ 1) rfl ?_
      refine aw_goto X dX5_dropPaper_63 (tgt := 12) (by decide) ?_
      refine aw_drop5 ?_
      exact ih (i + 1, g + 1, _, _) ⟨hlt, hs3, ha3, ht3, hg1, hke3⟩ (by dsimp only; omega)
/-- the bytes of the first i chunks -/
def fl (w : Nat → List Int32) (xs : List Nat) : Nat → List Int32
  | 0 => []
  | i + 1 => fl w xs i ++ w (xs.getD i 0)
theorem fl_eq {w : Nat → List Int32} {xs : List Nat} : ∀ i, i ≤ xs.length → fl w xs i = ((xs.take i).map w).flatten
  | 0, _ => rfl
  | i + 1, h => by
    rw [fl, fl_eq i (by omega), List.take_succ, List.getElem?_eq_getElem (by omega), List.getD_eq_getElem?_getD, List.getElem?_eq_getElem (by omega)]
    simp only [Option.toList_some, List.map_append, List.map_cons, List.map_nil, List.flatten_append, List.flatten_cons, List.flatten_nil, List.append_nil, Option.getD_some]
theorem fl_mono {w : Nat → List Int32} {xs : List Nat} {i : Nat} : ∀ {j : Nat}, i ≤ j → (fl w xs i).length ≤ (fl w xs j).length
  | 0, h => by
    rw [show i = 0 by omega]
    exact Nat.le_refl _
  | j + 1, h => by
    by_cases e : i = j + 1
    · rw [e]
      exact Nat.le_refl _
    · have := fl_mono (w := w) (xs := xs) (i := i) (j := j) (by omega)
      rw [fl, List.length_append]
      omega
theorem c_X3_writeTo {l : Launch} {G : AG} {M : AM} {q r : Nat} {pp : PP} {w : Nat → List Int32} {t : Nat → Nat} {bs : List Int32} (hq : isPp G M q pp) (hc : ∀ c ∈ pp.2.2.2, isChunk G M c (w c) (t c)) (hr0 : isRow G M r bs) (hrq : r + 2 ≤ q ∨ q + 2 ≤ r) (hre : 0 < pp.2.2.1 → r + 2 ≤ pp.2.1) (hrc : ∀ c ∈ pp.2.2.2, r + 2 ≤ c) (hcap : pp.2.2.1 ≤ 2500) (hlen : ((pp.2.2.2.map w).flatten).length ≤ 120) : Cn l G yX3_writeTo cX3_writeTo 5 none rX3_writeTo M [.ref q, .ref r] (fun v M' => v = none ∧ isRow G M' r (pp.2.2.2.map w).flatten ∧ am_out M M' r (r + 2)) := by
  have hfl : fl w pp.2.2.2 pp.2.2.2.length = (pp.2.2.2.map w).flatten := by rw [fl_eq _ (Nat.le_refl _), List.take_length]
  rw [← hfl] at hlen ⊢
  obtain ⟨f, r1, r2, -⟩ := id hr0
  obtain ⟨-, -, hcl, -⟩ := id hq.2
  refine Cn.of (by decide) [some (.ref q), some (.ref r), none, none, none] rfl (Nat.le_of_ble_eq_true rfl) ?_
  intro Z hZ
  obtain ⟨rfl, hn, rfl, hR, X, hr, hnm⟩ := hZ
  refine aw_aload1 X dX3_writeTo_0 ?_
  refine aw_iconst X dX3_writeTo_1 (v := nI 0) (by decide) ?_
  refine aw_put1 X pX3_16 dX3_writeTo_2 (r1) rfl rfl ?_
  refine aw_iconst X dX3_writeTo_5 (v := nI 0) (by decide) ?_
  refine aw_istore2 X dX3_writeTo_6 (by rw [hn]; decide) rfl ?_
  have hout0 : am_out M (am_up M r (am_o 5 [.ref (r + 1), .int (nI 0)])) r (r + 2) := am_out.up (by omega) (by omega)
  have hrow0 : isRow (zG Z) (am_up M r (am_o 5 [.ref (r + 1), .int (nI 0)])) r (fl w pp.2.2.2 0) := ⟨f, am_us, (am_un (by omega)).trans r2, Nat.zero_le _, fun k hk => absurd hk (Nat.not_lt_zero _)⟩
  refine aw_loop (σ := Nat × AM) (fun i => i.1 ≤ pp.2.2.2.length ∧ isRow (zG Z) i.2 r (fl w pp.2.2.2 i.1) ∧ am_out M i.2 r (r + 2)) (fun i => pp.2.2.2.length - i.1) (fun i => i.2) (fun i => [some (.ref q), some (.ref r), some (.int (nI i.1)), none, none]) ?_ (0, _) ⟨Nat.zero_le _, hrow0, hout0⟩
  rintro ⟨i, M1⟩ ⟨hi, hrow1, hout1⟩ ih
  dsimp only at hi hrow1 hout1 ih ⊢
  have hk1 := KE.out hout1
  have hq1 : isPp (zG Z) M1 q pp := hq.ke hk1 (by omega) (by omega) (fun h0 => by have := hre h0; omega)
  obtain ⟨mc, l1⟩ := hq1.2.at
  refine aw_iload2 X dX3_writeTo_7 ?_
  refine aw_aload0 X dX3_writeTo_8 ?_
  refine aw_get X fX3_10 dX3_writeTo_9 (hq1.1) rfl ?_
  refine aw_callV X (c_ls_size hq1.2) kX3_22 (ci := 0) rfl (l1) dX3_writeTo_12 rfl rfl (by first | decide | exact Nat.le_of_ble_eq_true rfl) (by rw [hR]; exact ⟨by first | decide | exact Nat.le_of_ble_eq_true rfl | (dsimp only; omega), by first | decide | exact Nat.le_of_ble_eq_true rfl | (dsimp only; omega)⟩) (by rw [hR]; exact ⟨by first | decide | exact Nat.le_of_ble_eq_true rfl | (dsimp only; omega), by first | decide | exact Nat.le_of_ble_eq_true rfl | (dsimp only; omega)⟩) (fun v M1 hv => ?_)
  obtain ⟨rfl, rfl⟩ := hv
  refine aw_icmpge X dX3_writeTo_15 (tgt := 65) (by decide) (fun c9 => ?_) (fun c9 => ?_)
  · have e : i = pp.2.2.2.length := by have := (nI_leI (by omega) (by omega)).mp c9; omega
    subst e
    refine aw_vreturn X hr dX3_writeTo_65 (⟨rfl, hrow1, hout1⟩)
  · have hlt : i < pp.2.2.2.length := by
      rcases Nat.lt_or_ge i pp.2.2.2.length with q | q
      · exact q
      · exact absurd (nI_le q (by omega)) c9
    have hmem := getN_mem hlt
    have hcD := hrc _ hmem
    have hcc := (hc _ hmem).ke hk1 (by omega) (by omega)
    have hmono := fl_mono (w := w) (xs := pp.2.2.2) (i := i + 1) (j := pp.2.2.2.length) (by omega)
    rw [fl, List.length_append] at hmono
    refine aw_aload0 X dX3_writeTo_18 ?_
    refine aw_get X fX3_10 dX3_writeTo_19 (hq1.1) rfl ?_
    refine aw_iload2 X dX3_writeTo_22 ?_
    refine aw_callV X (c_ls_get hq1.2 hlt (by omega)) kX3_25 (ci := 0) rfl (l1) dX3_writeTo_23 rfl rfl (by first | decide | exact Nat.le_of_ble_eq_true rfl) (by rw [hR]; exact ⟨by first | decide | exact Nat.le_of_ble_eq_true rfl | (dsimp only; omega), by first | decide | exact Nat.le_of_ble_eq_true rfl | (dsimp only; omega)⟩) (by rw [hR]; exact ⟨by first | decide | exact Nat.le_of_ble_eq_true rfl | (dsimp only; omega), by first | decide | exact Nat.le_of_ble_eq_true rfl | (dsimp only; omega)⟩) (fun v M1 hv => ?_)
    obtain ⟨rfl, rfl⟩ := hv
    generalize hcx : pp.2.2.2.getD i 0 = c at hmem hcD hcc hmono
    have hcl40 := hcc.le
    refine aw_cast X cnX3_29 dX3_writeTo_26 (hcc.at) ?_
    refine aw_astore3 X dX3_writeTo_29 (by rw [hn]; decide) rfl ?_
    refine aw_iconst X dX3_writeTo_30 (v := nI 0) (by decide) ?_
    refine aw_istore4 X dX3_writeTo_31 (by rw [hn]; decide) rfl ?_
    refine aw_loop (σ := Nat × AM) (fun k => k.1 ≤ (w c).length ∧ isRow (zG Z) k.2 r (fl w pp.2.2.2 i ++ (w c).take k.1) ∧ am_out M1 k.2 r (r + 2)) (fun k => (w c).length - k.1) (fun k => k.2) (fun k => [some (.ref q), some (.ref r), some (.int (nI i)), some (.ref c), some (.int (nI k.1))]) ?_ (0, M1) ⟨Nat.zero_le _, by simpa using hrow1, am_out.rf⟩
    rintro ⟨k, M2⟩ ⟨hk, hrow2, hout2⟩ ih2
    dsimp only at hk hrow2 hout2 ih2 ⊢
    have hcc2 := hcc.out hout2 (by omega)
    obtain ⟨fc, c1, c2, -, c4⟩ := id hcc2
    refine aw_iload4 X dX3_writeTo_33 ?_
    refine aw_aload3 X dX3_writeTo_35 ?_
    refine aw_get X fX3_31 dX3_writeTo_36 (c1) rfl ?_
    refine aw_icmpge X dX3_writeTo_39 (tgt := 59) (by decide) (fun c7 => ?_) (fun c7 => ?_)
    · have e : k = (w c).length := by have := (nI_leI (by omega) (by omega)).mp c7; omega
      subst e
      refine aw_iinc2 X dX3_writeTo_59 (by rw [hn]; decide) (am_inc _ 1) rfl ?_
      refine aw_goto X dX3_writeTo_62 (tgt := 7) (by decide) ?_
      refine aw_drop3 ?_
      refine aw_drop4 ?_
      refine ih (i + 1, M2) ⟨hlt, ?_, hout1.tr hout2⟩ (by dsimp only; omega)
      dsimp only
      rw [fl, hcx]
      rw [List.take_length] at hrow2
      exact hrow2
    · have hlk : k < (w c).length := by
        rcases Nat.lt_or_ge k (w c).length with q | q
        · exact q
        · exact absurd (nI_le q (by omega)) c7
      refine aw_aload1 X dX3_writeTo_42 ?_
      refine aw_aload3 X dX3_writeTo_43 ?_
      refine aw_get X fX3_32 dX3_writeTo_44 (c1) rfl ?_
      refine aw_iload4 X dX3_writeTo_47 ?_
      refine aw_iald X dX3_writeTo_49 c2 rfl (by omega) (by decide) ?_
      rw [c4 k hlk]
      obtain ⟨fr, o1, -⟩ := id hrow2
      refine aw_callV X (c_X4_append hrow2 (by rw [List.length_append, List.length_take]; omega)) kX3_36 (ci := 5) rfl (o1) dX3_writeTo_50 rfl rfl (by first | decide | exact Nat.le_of_ble_eq_true rfl) (by rw [hR]; exact ⟨by first | decide | exact Nat.le_of_ble_eq_true rfl | (dsimp only; omega), by first | decide | exact Nat.le_of_ble_eq_true rfl | (dsimp only; omega)⟩) (by rw [hR]; exact ⟨by first | decide | exact Nat.le_of_ble_eq_true rfl | (dsimp only; omega), by first | decide | exact Nat.le_of_ble_eq_true rfl | (dsimp only; omega)⟩) (fun v M3 hv => ?_)
      obtain ⟨h3, hout3, rfl⟩ := hv
      refine aw_iinc4 X dX3_writeTo_53 (by rw [hn]; decide) (am_inc _ 1) rfl ?_
      refine aw_goto X dX3_writeTo_56 (tgt := 33) (by decide) ?_
      refine ih2 (k + 1, M3) ⟨hlk, ?_, hout2.tr hout3⟩ (by dsimp only; omega)
      dsimp only
      rw [List.append_assoc] at h3
      have e1 : (w c).take (k + 1) = (w c).take k ++ [(w c).getD k 0] := by
        rw [List.take_succ, List.getElem?_eq_getElem hlk, List.getD_eq_getElem?_getD, List.getElem?_eq_getElem hlk]
        rfl
      rw [e1]
      exact h3
