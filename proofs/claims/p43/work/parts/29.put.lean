theorem va_up_id {α : Type} (f : Nat → α) (k : Nat) : va_up f k (f k) = f := by
  funext j
  by_cases e : j = k
  · subst e
    rw [va_up_self]
  · rw [va_up_ne _ _ e]
theorem shL.nil {s : SH} {P : PS} {p : Nat} (h : shL s P) (hp : p < 12) (hP : P p = none) : sNm s p = [] := by
  have := h.2.1 p hp
  rw [hP] at this
  exact List.map_eq_nil_iff.mp this
theorem shL.none_some {s : SH} {P : PS} {p e cap : Nat} (h : shL s P) (hp : p < 12) (hP : P p = none) : shL (s.1, s.2.1, va_up s.2.2.1 p (1, e, cap, []), s.2.2.2) (va_up P p (some [])) := by
  have hnil := h.nil hp hP
  have hpp : ∀ i, ((va_up s.2.2.1 p (1, e, cap, []) : Nat → PP) i).2.2.2 = sNm s i := fun i => by
    by_cases ei : i = p
    · subst ei
      rw [va_up_self, hnil]
    · rw [va_up_ne _ _ ei]
  have hnm : nmf (s.1, s.2.1, va_up s.2.2.1 p (1, e, cap, []), s.2.2.2) = nmf s := funext hpp
  obtain ⟨h1, h2, h3, h4, h5, h6⟩ := h
  refine ⟨fun i hi => ?_, fun i hi => ?_, fun i hi x hx => ?_, fun x hx => ?_, h5, fun i hi m hm => ?_⟩
  · dsimp only
    by_cases ei : i = p
    · subst ei
      rw [va_up_self, va_up_self]
      rfl
    · rw [va_up_ne _ _ ei, va_up_ne _ _ ei]
      exact h1 i hi
  · show (((va_up s.2.2.1 p (1, e, cap, []) : Nat → PP) i).2.2.2).map _ = _
    rw [hpp]
    by_cases ei : i = p
    · subst ei
      rw [va_up_self, hnil]
      rfl
    · rw [va_up_ne _ _ ei]
      exact h2 i hi
  · have hx : x ∈ ((va_up s.2.2.1 p (1, e, cap, []) : Nat → PP) i).2.2.2 := hx
    rw [hpp] at hx
    exact h3 i hi x hx
  · rw [hnm]
    exact h4 x hx
  · by_cases ei : i = p
    · subst ei
      rw [va_up_self] at hm
      cases hm
      exact ⟨Nat.zero_le _, Nat.zero_le _, fun b hb => (nomatch hb)⟩
    · rw [va_up_ne _ _ ei] at hm
      exact h6 i hi m hm
theorem c_X5_putPaper {l : Launch} {G : AG} {M : AM} {D h r p : Nat} {s : SH} {P : PS} {bs : List Int32} (hs : isShM G M h s) (ha : shA D h s) (hl : shL s P) (hp : p < 12) (hP : P p = none) (hr0 : isRow G M r bs) (hrh : (r + 2 ≤ h ∨ h + 27 ≤ r) ∧ r + 2 ≤ D) (hD : ∃ x, M.1 (D - 1) = some x) : Cn l G yX5_putPaper cX5_putPaper 7 none { rX5_putPaper with cells := 480, slots := 9700 } M [.ref h, .int (nI p), .ref r] (fun v M' => ∃ s', v = none ∧ isShM G M' h s' ∧ shA D h s' ∧ shL s' (va_up P p (some (cs s.1 bs bs.length).1)) ∧ s'.1 = s.1 ∧ KE M M' (fun q => (h ≤ q ∧ q < h + 27) ∨ D ≤ q)) := by
  obtain ⟨h1, ⟨f, h2, hf⟩, h3, h4, h5⟩ := id hs
  obtain ⟨a1, a2, a3, a4, a5, a6, a7, b1, b2, b3, b4, b5, b6⟩ := id ha
  have hbl := hr0.le
  have hpl := h4 p hp
  have hnil := hl.nil hp hP
  obtain ⟨mc0, -, hm0, -⟩ := id h3
  refine Cn.of (by decide) [some (.ref h), some (.int (nI p)), some (.ref r), none, none, none, none] rfl (Nat.le_of_ble_eq_true rfl) ?_
  intro Z hZ
  obtain ⟨rfl, hn, rfl, hR, X, hr, hnm⟩ := hZ
  refine aw_aload0 X dX5_putPaper_0 ?_
  refine aw_get X fX5_11 dX5_putPaper_1 (h1) rfl ?_
  refine aw_iload1 X dX5_putPaper_4 ?_
  refine aw_aald X at_7 dX5_putPaper_5 h2 rfl hp (by decide) ?_
  refine aw_rf (hf p hp) ?_
  refine aw_astore3 X dX5_putPaper_6 (by rw [hn]; decide) rfl ?_
  refine aw_aload3 X dX5_putPaper_7 ?_
  refine aw_iconst X dX5_putPaper_8 (v := nI 1) (by decide) ?_
  refine aw_put1 X pX5_35 dX5_putPaper_9 (hpl.1) (by first | rfl | decide | assumption) rfl ?_
  refine aw_iconst X dX5_putPaper_12 (v := nI 0) (by decide) ?_
  refine aw_istore4 X dX5_putPaper_13 (by rw [hn]; decide) rfl ?_
  refine aw_iconst X dX5_putPaper_15 (v := nI 0) (by decide) ?_
  refine aw_istore5 X dX5_putPaper_16 (by rw [hn]; decide) rfl ?_
  have hpp1 : isPp (zG Z) (am_up M (h + 3 + 2 * p) (am_o 4 [.ref (h + 3 + 2 * p + 1), .int (nI 1)])) (h + 3 + 2 * p) (1, (s.2.2.1 p).2.1, (s.2.2.1 p).2.2.1, []) := by
    refine ⟨am_us, ?_⟩
    rw [← hnil]
    exact hpl.2.ke KE.up (by omega) (fun h0 e => by
      obtain ⟨fA, hfA⟩ := hpl.2.arr h0
      exact arr_ne_o hfA hpl.1 e)
  have hs0 := hs.paper ha hp (KE.up.mono (fun q hq => Or.inl hq)) hpp1
  have ha0 := ha.paper (i := p) (p := (1, (s.2.2.1 p).2.1, (s.2.2.1 p).2.2.1, [])) (Nat.le_refl 1) (a4 p hp).2.1 (a4 p hp).2.2
  have hl0 := hl.none_some (e := (s.2.2.1 p).2.1) (cap := (s.2.2.1 p).2.2.1) hp hP
  have hk0 : KE M (am_up M (h + 3 + 2 * p) (am_o 4 [.ref (h + 3 + 2 * p + 1), .int (nI 1)])) (fun q => (h ≤ q ∧ q < h + 27) ∨ D ≤ q) := KE.up.mono (fun q hq => by omega)
  generalize am_up M (h + 3 + 2 * p) (am_o 4 [.ref (h + 3 + 2 * p + 1), .int (nI 1)]) = M0 at hs0 hk0 ⊢
  refine aw_widen (Nat.zero_le _) (Nat.zero_le _) (aw_loopK (σ := Nat × SH × AM) (fun i => i.1 ≤ bs.length ∧ isShM (zG Z) i.2.2 h i.2.1 ∧ shA D h i.2.1 ∧ shL i.2.1 (va_up P p (some (cs s.1 bs i.1).1)) ∧ i.2.1.1 = s.1 ∧ KE M i.2.2 (fun q => (h ≤ q ∧ q < h + 27) ∨ D ≤ q) ∧ (sMade i.2.1).length ≤ (sMade s).length + i.1 ∧ s.2.1.2.1 ≤ i.2.1.2.1.2.1 ∧ (i.2.1.2.1.2.1 = s.2.1.2.1 ∨ i.2.1.2.1.2.1 ≤ 10 + (sMade i.2.1).length + (sMade i.2.1).length / 2) ∧ (s.2.2.1 p).2.2.1 ≤ (i.2.1.2.2.1 p).2.2.1) (fun i => bs.length - i.1) (fun i => i.2.2) (fun i => 4 * i.1) (fun i => 43 * i.1 + 4 * (i.2.1.2.1.2.1 - s.2.1.2.1) + 4 * ((i.2.1.2.2.1 p).2.2.1 - (s.2.2.1 p).2.2.1)) (fun i => [some (.ref h), some (.int (nI p)), some (.ref r), some (.ref (h + 3 + 2 * p)), some (.int (nI (cs s.1 bs i.1).2)), some (.int (nI i.1)), none]) ?_ (0, (s.1, s.2.1, va_up s.2.2.1 p (1, (s.2.2.1 p).2.1, (s.2.2.1 p).2.2.1, []), s.2.2.2), M0) ?_)
  · rintro ⟨k, s1, M1⟩ ⟨hk, hs1, ha1, hl1, hg1, hke, hmk, hcp1, hcp2, hcpN⟩ ih
    dsimp only at hk hs1 ha1 hl1 hg1 hke hmk hcp1 hcp2 hcpN ih ⊢
    obtain ⟨-, aM1, aM2, aN, aNd, aMl, aMc, -⟩ := id ha1
    have aNp := aN p hp
    have hr1 : isRow (zG Z) M1 r bs := hr0.ke hke (by omega) (by omega)
    obtain ⟨fr, o1, -⟩ := id hr1
    obtain ⟨k1, k2, k3, k4, k5, k6⟩ := cs_inv (g := s.1) (bs := bs) (by omega) b4 k hk
    have hcapN : (s1.2.2.1 p).2.2.1 ≤ 200 := aNp.2.1
    have hbnd : 43 * k + 4 * (s1.2.1.2.1 - s.2.1.2.1) + 4 * ((s1.2.2.1 p).2.2.1 - (s.2.2.1 p).2.2.1) ≤ 9400 := by
      dsimp only [sMade] at *
      omega
    refine aw_iload5 X dX5_putPaper_18 ?_
    refine aw_aload2 X dX5_putPaper_20 ?_
    refine aw_get X fX5_39 dX5_putPaper_21 (o1) rfl ?_
    refine aw_icmpge X dX5_putPaper_24 (tgt := 93) (by decide) (fun c9 => ?_) (fun c9 => ?_)
    · have e : k = bs.length := by have := (nI_leI (by omega) (by omega)).mp c9; omega
      subst e
      refine aw_widen (k' := 480) (n' := 9700) (by omega) (by omega) ?_
      refine aw_vreturn X hr dX5_putPaper_93 (⟨s1, rfl, hs1, ha1, hl1, hg1, hke⟩)
    · have hlt : k < bs.length := by
        rcases Nat.lt_or_ge k bs.length with q | q
        · exact q
        · exact absurd (nI_le q (by omega)) c9
      refine aw_aload0 X dX5_putPaper_27 ?_
      refine aw_aload2 X dX5_putPaper_28 ?_
      refine aw_iload5 X dX5_putPaper_29 ?_
      refine aw_iload5 X dX5_putPaper_31 ?_
      refine aw_iconst X dX5_putPaper_33 (v := nI 1) (by decide) ?_
      refine aw_iadd X dX5_putPaper_34 ?_
      first | with_reducible refine aw_int (nI_add _ _) ?_ | skip
      refine aw_iload4 X dX5_putPaper_35 ?_
      refine aw_isub X dX5_putPaper_37 ?_
      first | with_reducible refine aw_int (pk_sub (by omega)) ?_ | skip
      refine aw_callV X (c_X5_endsBehind hs1 ha1 hr1 hlt (by omega)) kX5_44 (ci := 6) rfl (hs1.at) dX5_putPaper_38 rfl rfl (by first | decide | exact Nat.le_of_ble_eq_true rfl) (by rw [hR]; exact ⟨by first | decide | exact Nat.le_of_ble_eq_true rfl | (dsimp only; omega), by first | decide | exact Nat.le_of_ble_eq_true rfl | (dsimp only; omega)⟩) (by rw [hR]; exact ⟨by first | decide | exact Nat.le_of_ble_eq_true rfl | (dsimp only; omega), by first | decide | exact Nat.le_of_ble_eq_true rfl | (dsimp only; omega)⟩) (fun v M1 hv => ?_)
      obtain ⟨rfl, rfl⟩ := hv
      rw [hg1]
      refine aw_ifeq X dX5_putPaper_41 (tgt := 87) (by decide) (fun c8 => ?_) (fun c8 => ?_)
      · have hne : ¬ endB s.1 bs k (k + 1 - (cs s.1 bs k).2) := fun e => by
          rw [am_b, if_pos e] at c8
          exact absurd c8 (by decide)
        have e1 : cs s.1 bs (k + 1) = cs s.1 bs k := by rw [cs, if_neg hne]
        refine aw_iinc5 X dX5_putPaper_87 (by rw [hn]; decide) (am_inc _ 1) rfl ?_
        refine aw_goto X dX5_putPaper_90 (tgt := 18) (by decide) ?_
        have q := ih (k + 1, s1, M1) ⟨by omega, hs1, ha1, by rw [e1]; exact hl1, hg1, hke, by dsimp only; omega, hcp1, hcp2, hcpN⟩ (by dsimp only; omega)
        dsimp only at q
        rw [e1] at q
        refine aw_widen ?_ ?_ q
        · show 4 * k + 0 ≤ _
          omega
        · show 43 * k + 4 * (s1.2.1.2.1 - s.2.1.2.1) + 4 * ((s1.2.2.1 p).2.2.1 - (s.2.2.1 p).2.2.1) + 0 ≤ _
          omega
      · have hen : endB s.1 bs k (k + 1 - (cs s.1 bs k).2) := Decidable.byContradiction (fun e => c8 (by rw [am_b, if_neg e]; rfl))
        have e1 : cs s.1 bs (k + 1) = ((cs s.1 bs k).1 ++ [(bs.drop (cs s.1 bs k).2).take (k + 1 - (cs s.1 bs k).2)], k + 1) := by rw [cs, if_pos hen]
        obtain ⟨n1, n2, n3, n4, n5, n6⟩ := cs_inv (g := s.1) (bs := bs) (by omega) b4 (k + 1) hlt
        have hPk : (va_up P p (some (cs s.1 bs k).1)) p = some (cs s.1 bs k).1 := va_up_self _ _ _
        have hnl : (sNm s1 p).length = (cs s.1 bs k).1.length := by
          have := congrArg List.length (hl1.2.1 p hp)
          rw [List.length_map, hPk] at this
          exact this
        generalize hbk : (bs.drop (cs s.1 bs k).2).take (k + 1 - (cs s.1 bs k).2) = b at e1
        have hpot := sh_pot (s := s1) (b := b)
        have hlsN := ls_pot (len := (sNm s1 p).length) (cap := (s1.2.2.1 p).2.2.1) (by
          obtain ⟨-, -, q, -⟩ := (hs1.2.2.2.1 p hp).2
          exact q)
        refine aw_aload0 X dX5_putPaper_44 ?_
        refine aw_aload2 X dX5_putPaper_45 ?_
        refine aw_iload4 X dX5_putPaper_46 ?_
        refine aw_iload5 X dX5_putPaper_48 ?_
        refine aw_iconst X dX5_putPaper_50 (v := nI 1) (by decide) ?_
        refine aw_iadd X dX5_putPaper_51 ?_
        first | with_reducible refine aw_int (nI_add _ _) ?_ | skip
        refine aw_iload4 X dX5_putPaper_52 ?_
        refine aw_isub X dX5_putPaper_54 ?_
        first | with_reducible refine aw_int (pk_sub (by omega)) ?_ | skip
        refine aw_callV X (c_X5_chunkOf hs1 ha1 hr1 hrh (by omega) (by omega) (fun hnew => hl1.new hp (by omega) aNd hnew) (by obtain ⟨x, hx⟩ := hD; exact ⟨x, hke _ _ hx (by omega)⟩)) kX5_48 (ci := 6) rfl (hs1.at) dX5_putPaper_55 rfl rfl (by first | decide | exact Nat.le_of_ble_eq_true rfl) (by rw [hR]; exact ⟨by first | decide | exact Nat.le_of_ble_eq_true rfl | (dsimp only; omega), by first | decide | exact Nat.le_of_ble_eq_true rfl | (dsimp only; omega)⟩) (by rw [hR, hbk]; exact ⟨by show 4 * k + 0 + shC s1 b ≤ 480; omega, by show 43 * k + 4 * (s1.2.1.2.1 - s.2.1.2.1) + 4 * ((s1.2.2.1 p).2.2.1 - (s.2.2.1 p).2.2.1) + 0 + shS s1 b ≤ 9700; dsimp only [sMade] at *; omega⟩) (fun v M2 hv => ?_)
        rw [hbk] at hv ⊢
        obtain ⟨c, s2, rfl, hs2, ha2, hch, hk2⟩ := hv
        obtain ⟨p1, p2, p3⟩ := hch.pot
        obtain ⟨f1, f2, f3, f4, f5, f6, f7, f8, f9, f10⟩ := hch.facts hl1
        have hc2 := hs2.2.2.2.2 c f3
        have hcD := (ha2.2.2.2.2.2.2.1 c f3).1
        have hst : (s1.2.2.1 p).1 = 1 := by
          rw [hl1.1 p hp, hPk]
          rfl
        have hokb : okP ((cs s.1 bs k).1 ++ [b]) := by
          rw [e1] at n3 n4 n5
          refine ⟨?_, ?_, n5⟩
          · rw [n4, List.length_take]
            omega
          · dsimp only at n3
            omega
        have ht2 : s2.2.2.2.2 c + 1 ≤ 1440 := by
          have hrm := hl1.room hp (by omega : (sNm s1 p).length < 120)
          by_cases hm : c ∈ sMade s1
          · rw [f7 c hm, hl1.2.2.2.1 c hm]
            have := List.count_le_length (a := c) (l := allK (nmf s1) 12)
            omega
          · rw [f9 hm]
            omega
        refine aw_astore6 X dX5_putPaper_58 (by rw [hn]; decide) rfl ?_
        refine aw_aload6 X dX5_putPaper_60 ?_
        refine aw_dup X dX5_putPaper_62 rfl ?_
        refine aw_get X fX5_52 dX5_putPaper_63 (hc2.at) rfl ?_
        refine aw_iconst X dX5_putPaper_66 (v := nI 1) (by decide) ?_
        refine aw_iadd X dX5_putPaper_67 ?_
        first | with_reducible refine aw_int (nI_add _ _) ?_ | skip
        refine aw_put2 X pX5_52 dX5_putPaper_68 (hc2.at) rfl rfl ?_
        have hc3 : isChunk (zG Z) (am_up M2 c (am_o 2 [.ref (c + 1), .int (nI (s2.2.2.2.1 c).length), .int (nI (s2.2.2.2.2 c + 1))])) c (s2.2.2.2.1 c) (s2.2.2.2.2 c + 1) := by
          obtain ⟨g, g1, g2, g3⟩ := hc2
          exact ⟨g, am_us, (am_un (by omega)).trans g2, g3⟩
        have hs3 := hs2.chunk ha2 f3 (KE.up.mono (fun q hq => Or.inl hq)) hc3
        have ha3 := ha2.chunk (c := c) (b' := s2.2.2.2.1 c) ht2
        rw [va_up_id] at hs3 ha3
        have hk3 : KE M2 (am_up M2 c (am_o 2 [.ref (c + 1), .int (nI (s2.2.2.2.1 c).length), .int (nI (s2.2.2.2.2 c + 1))])) (fun q => (h ≤ q ∧ q < h + 27) ∨ D ≤ q) := KE.up.mono (fun q hq => by omega)
        have hc3' := hc3.at
        generalize am_up M2 c (am_o 2 [.ref (c + 1), .int (nI (s2.2.2.2.1 c).length), .int (nI (s2.2.2.2.2 c + 1))]) = M3 at hs3 hk3 hc3' ⊢
        have hpp3 := hs3.2.2.2.1 p hp
        dsimp only at hpp3
        rw [f2] at hpp3
        obtain ⟨mc3, l3⟩ := hpp3.2.at
        have hcs3 : isCs M3 (sNm s1 p) := fun x hx => ⟨_, (hs3.2.2.2.2 x (f4 x (hl1.2.2.1 p hp x hx))).at⟩
        have hD3 : ∃ x, M3.1 (D - 1) = some x := by
          obtain ⟨x, hx⟩ := hD
          exact ⟨x, hk3 _ _ (hk2 _ _ (hke _ _ hx (by omega)) (by omega)) (by omega)⟩
        refine aw_aload3 X dX5_putPaper_71 ?_
        refine aw_get X fX5_57 dX5_putPaper_72 (hpp3.1) rfl ?_
        refine aw_aload6 X dX5_putPaper_75 ?_
        refine aw_callV X (c_ls_add hpp3.2 hcs3 hc3' (by omega)) kX5_60 (ci := 0) rfl (l3) dX5_putPaper_77 rfl rfl (by first | decide | exact Nat.le_of_ble_eq_true rfl) (by rw [hR]; exact ⟨by first | decide | exact Nat.le_of_ble_eq_true rfl | (dsimp only; omega), by first | decide | exact Nat.le_of_ble_eq_true rfl | (dsimp only; omega)⟩) (by rw [hR]; exact ⟨by show 4 * k + 0 + shC s1 b + lsC (sNm s1 p).length (s1.2.2.1 p).2.2.1 ≤ 480; omega, by show 43 * k + 4 * (s1.2.1.2.1 - s.2.1.2.1) + 4 * ((s1.2.2.1 p).2.2.1 - (s.2.2.1 p).2.2.1) + 0 + shS s1 b + lsS (sNm s1 p).length (s1.2.2.1 p).2.2.1 ≤ 9700; dsimp only [sMade] at *; omega⟩) (fun v M4 hv => ?_)
        obtain ⟨rfl, e', he', hl4, hk4⟩ := hv
        have hk4' : KE M3 M4 (fun q => q = h + 3 + 2 * p ∨ q = h + 3 + 2 * p + 1 ∨ (0 < (s2.2.2.1 p).2.2.1 ∧ q = (s2.2.2.1 p).2.1)) := fun q x hq he => hk4 q x hq (fun e9 => he (Or.inr (Or.inl e9))) (fun h0 e9 => he (Or.inr (Or.inr (by rw [f2]; exact ⟨h0, e9⟩))))
        have hq4 : M4.1 (h + 3 + 2 * p) = some (am_o 4 [.ref (h + 3 + 2 * p + 1), .int (nI 1)]) := by
          have hp1 := hpp3.1
          rw [hst] at hp1
          refine hk4 _ _ hp1 (by omega) (fun h0 e9 => ?_)
          obtain ⟨fA, hfA⟩ := hpp3.2.arr h0
          exact arr_ne_o hfA hpp3.1 e9.symm
        have hs4 := hs3.paper ha3 hp hk4' (p := (1, e', lsN (sNm s1 p).length (s1.2.2.1 p).2.2.1, sNm s1 p ++ [c])) ⟨hq4, hl4⟩
        have hDe : D ≤ e' ∨ (0 < (s1.2.2.1 p).2.2.1 ∧ e' = (s1.2.2.1 p).2.1) := by
          rcases he' with q | q
          · exact Or.inr q
          · obtain ⟨x, hx⟩ := hD3
            have := q _ _ hx
            exact Or.inl (by omega)
        have ha4 := ha3.paper (i := p) (p := (1, e', lsN (sNm s1 p).length (s1.2.2.1 p).2.2.1, sNm s1 p ++ [c])) (Nat.le_refl 1) (hlsN.2.2.2 hcapN (by omega)) (fun h0 => by
          have hap := (ha2.2.2.2.1 p hp).2.2
          rw [f2] at hap
          refine ⟨?_, fun h9 => ?_, fun j hj hne hj0 => ?_⟩
          · rcases hDe with q | ⟨q1, q2⟩
            · exact q
            · exact q2 ▸ (hap q1).1
          · rcases he' with q | q
            · rw [q.2]
              exact (hap q.1).2.1 h9
            · obtain ⟨fA, hfA⟩ := hs3.2.2.1.arr h9
              have := q _ _ hfA
              dsimp only at this ⊢
              omega
          · rcases he' with q | q
            · rw [q.2]
              dsimp only at hj0 ⊢
              have := (hap q.1).2.2 j hj hne (by rw [← f2]; exact hj0)
              rw [f2]
              exact this
            · obtain ⟨fA, hfA⟩ := (hs3.2.2.2.1 j hj).2.arr hj0
              have := q _ _ hfA
              dsimp only at this ⊢
              omega)
        have hl5 := hl1.put (e := e') (cap := lsN (sNm s1 p).length (s1.2.2.1 p).2.2.1) hp hPk hch hokb
        rw [va_up2] at hl5
        have hnm2 : sNm s2 p = sNm s1 p := by show (s2.2.2.1 p).2.2.2 = (s1.2.2.1 p).2.2.2; rw [f2]
        rw [hnm2] at hl5
        refine aw_pop X dX5_putPaper_80 rfl ?_
        refine aw_iload5 X dX5_putPaper_81 ?_
        refine aw_iconst X dX5_putPaper_83 (v := nI 1) (by decide) ?_
        refine aw_iadd X dX5_putPaper_84 ?_
        first | with_reducible refine aw_int (nI_add _ _) ?_ | skip
        refine aw_istore4 X dX5_putPaper_85 (by rw [hn]; decide) rfl ?_
        refine aw_iinc5 X dX5_putPaper_87 (by rw [hn]; decide) (am_inc _ 1) rfl ?_
        refine aw_goto X dX5_putPaper_90 (tgt := 18) (by decide) ?_
        refine aw_drop6 ?_
        have q := ih (k + 1, (s2.1, s2.2.1, va_up s2.2.2.1 p (1, e', lsN (sNm s1 p).length (s1.2.2.1 p).2.2.1, sNm s1 p ++ [c]), s2.2.2.2.1, va_up s2.2.2.2.2 c (s2.2.2.2.2 c + 1)), M4) ⟨hlt, hs4, ha4, ?_, ?_, ?_, ?_, ?_, ?_, ?_⟩ (by dsimp only; omega)
        · dsimp only at q
          rw [e1] at q
          refine aw_widen ?_ ?_ q
          · show 4 * k + 0 + shC s1 b + lsC (sNm s1 p).length (s1.2.2.1 p).2.2.1 ≤ 4 * (k + 1)
            omega
          · show 43 * k + 4 * (s1.2.1.2.1 - s.2.1.2.1) + 4 * ((s1.2.2.1 p).2.2.1 - (s.2.2.1 p).2.2.1) + 0 + shS s1 b + lsS (sNm s1 p).length (s1.2.2.1 p).2.2.1 ≤ _
            rw [va_up_self]
            dsimp only
            omega
        · dsimp only
          rw [e1]
          exact hl5
        · exact f1.trans hg1
        · refine hke.tr (KE.tr ?_ (hk3.tr ?_))
          · exact hk2.mono (fun q hq => by omega)
          · refine hk4'.mono (fun q hq => ?_)
            rcases hq with q9 | q9 | ⟨q1, q2⟩
            · omega
            · omega
            · have := ((ha2.2.2.2.1 p hp).2.2 q1).1
              omega
        · dsimp only [sMade] at *
          omega
        · dsimp only
          omega
        · dsimp only [sMade] at *
          omega
        · dsimp only
          rw [va_up_self]
          dsimp only
          omega
  · exact ⟨Nat.zero_le _, hs0, ha0, hl0, rfl, hk0, Nat.le_refl _, Nat.le_refl _, Or.inl rfl, by dsimp only; rw [va_up_self]; exact Nat.le_refl _⟩
