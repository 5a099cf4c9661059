abbrev newB (s : SH) (b : List Int32) : Prop := ∀ x ∈ sMade s, 0 < s.2.2.2.2 x ∧ s.2.2.2.1 x ≠ b
def shC (s : SH) (b : List Int32) : Nat := if newB s b then 2 + lsC (sMade s).length s.2.1.2.1 else 0
def shS (s : SH) (b : List Int32) : Nat := if newB s b then 43 + lsS (sMade s).length s.2.1.2.1 else 0
/-- c is the chunk of the bytes b: it was there, or was free, or is new -/
def chOf (s s' : SH) (c : Nat) (b : List Int32) : Prop :=
  (s' = s ∧ c ∈ sMade s ∧ 0 < s.2.2.2.2 c ∧ s.2.2.2.1 c = b) ∨
  (c ∈ sMade s ∧ s.2.2.2.2 c = 0 ∧ (∀ x ∈ sMade s, 0 < s.2.2.2.2 x → s.2.2.2.1 x ≠ b) ∧ s' = (s.1, s.2.1, s.2.2.1, va_up s.2.2.2.1 c b, va_up s.2.2.2.2 c 0)) ∨
  (newB s b ∧ c ∉ sMade s ∧ ∃ e', s' = (s.1, (e', lsN (sMade s).length s.2.1.2.1, sMade s ++ [c]), s.2.2.1, va_up s.2.2.2.1 c b, va_up s.2.2.2.2 c 0))
theorem va_up2 {α : Type} (f : Nat → α) (k : Nat) (v w : α) : va_up (va_up f k v) k w = va_up f k w := by
  funext j
  by_cases e : j = k
  · subst e
    rw [va_up_self, va_up_self]
  · rw [va_up_ne _ _ e, va_up_ne _ _ e, va_up_ne _ _ e]
theorem isShM.at {G : AG} {M : AM} {h : Nat} {s : SH} (hs : isShM G M h s) : M.1 h = some (am_o 6 [.ref (h + 1), .ref (h + 2), .int (nI s.1.1), .int (nI s.1.2.1), .int (nI s.1.2.2)]) := hs.1
theorem lsN_le {len cap : Nat} (h1 : len < 1440) (h2 : cap ≤ 2200) : lsN len cap ≤ 2200 := by
  have := gcap_b cap
  unfold lsN
  split <;> omega
theorem c_X5_chunkOf {l : Launch} {G : AG} {M : AM} {D h r a m : Nat} {s : SH} {bs : List Int32} (hs : isShM G M h s) (ha : shA D h s) (hr0 : isRow G M r bs) (hrh : (r + 2 ≤ h ∨ h + 27 ≤ r) ∧ r + 2 ≤ D) (hb : a + m ≤ bs.length) (hm : m ≤ 40) (hroom : newB s ((bs.drop a).take m) → (sMade s).length < 1440) (hD : ∃ x, M.1 (D - 1) = some x) : Cn l G yX5_chunkOf cX5_chunkOf 7 (some (.object "RollSync$Chunk")) { rX5_chunkOf with cells := shC s ((bs.drop a).take m), slots := shS s ((bs.drop a).take m) } M [.ref h, .ref r, .int (nI a), .int (nI m)] (fun v M' => ∃ c s', v = some (.ref c) ∧ isShM G M' h s' ∧ shA D h s' ∧ chOf s s' c ((bs.drop a).take m) ∧ KE M M' (fun q => q = h + 2 ∨ D ≤ q)) := by
  obtain ⟨h1, ⟨f, h2, hf⟩, h3, h4, h5⟩ := id hs
  obtain ⟨a1, a2, a3, a4, a5, a6, a7, -⟩ := id ha
  have hbl := hr0.le
  obtain ⟨mc, l1⟩ := h3.at
  generalize hbb : (bs.drop a).take m = b at hroom ⊢
  refine Cn.of (by decide) [some (.ref h), some (.ref r), some (.int (nI a)), some (.int (nI m)), none, none, none] rfl (Nat.le_of_ble_eq_true rfl) ?_
  intro Z hZ
  obtain ⟨rfl, hn, rfl, hR, X, hr, hnm⟩ := hZ
  refine aw_null X dX5_chunkOf_0 ?_
  refine aw_astoreN4 X dX5_chunkOf_1 (by rw [hn]; decide) rfl ?_
  refine aw_iconst X dX5_chunkOf_3 (v := nI 0) (by decide) ?_
  refine aw_istore5 X dX5_chunkOf_4 (by rw [hn]; decide) rfl ?_
  refine aw_loop (σ := Nat × Option Nat) (fun i => i.1 ≤ (sMade s).length ∧ (∀ k, k < i.1 → 0 < s.2.2.2.2 ((sMade s).getD k 0) → s.2.2.2.1 ((sMade s).getD k 0) ≠ b) ∧ (i.2 = none → ∀ k, k < i.1 → 0 < s.2.2.2.2 ((sMade s).getD k 0)) ∧ ∀ c, i.2 = some c → c ∈ sMade s ∧ s.2.2.2.2 c = 0) (fun i => (sMade s).length - i.1) (fun _ => M) (fun i => [some (.ref h), some (.ref r), some (.int (nI a)), some (.int (nI m)), some (va_rf i.2), some (.int (nI i.1)), none]) ?_ (0, none) ⟨Nat.zero_le _, fun k hk => absurd hk (Nat.not_lt_zero _), fun _ k hk => absurd hk (Nat.not_lt_zero _), fun c e => by cases e⟩
  rintro ⟨i, fr⟩ ⟨hi, hno, hfn, hfs⟩ ih
  dsimp only at hi hno hfn hfs ih ⊢
  refine aw_iload5 X dX5_chunkOf_6 ?_
  refine aw_aload0 X dX5_chunkOf_8 ?_
  refine aw_get X fX5_20 dX5_chunkOf_9 (h1) rfl ?_
  refine aw_callV X (c_ls_size h3) kX5_68 (ci := 0) rfl (l1) dX5_chunkOf_12 rfl rfl (by first | decide | exact Nat.le_of_ble_eq_true rfl) (by rw [hR]; exact ⟨by first | decide | exact Nat.le_of_ble_eq_true rfl | (dsimp only; omega), by first | decide | exact Nat.le_of_ble_eq_true rfl | (dsimp only; omega)⟩) (by rw [hR]; exact ⟨by first | decide | exact Nat.le_of_ble_eq_true rfl | (dsimp only; omega), by first | decide | exact Nat.le_of_ble_eq_true rfl | (dsimp only; omega)⟩) (fun v M hv => ?_)
  obtain ⟨rfl, rfl⟩ := hv
  refine aw_icmpge X dX5_chunkOf_15 (tgt := 67) (by decide) (fun c9 => ?_) (fun c9 => ?_)
  · have e : i = (sMade s).length := by have := (nI_leI (by omega) (by omega)).mp c9; omega
    subst e
    have hall : ∀ x ∈ sMade s, 0 < s.2.2.2.2 x → s.2.2.2.1 x ≠ b := fun x hx h0 => by
      obtain ⟨k, hk, rfl⟩ := List.getElem_of_mem hx
      have := hno k hk
      rw [List.getD_eq_getElem?_getD, List.getElem?_eq_getElem hk] at this
      exact this h0
    cases fr with
    | none =>
      have hnew : newB s b := fun x hx => by
        obtain ⟨k, hk, rfl⟩ := List.getElem_of_mem hx
        have := hfn rfl k hk
        rw [List.getD_eq_getElem?_getD, List.getElem?_eq_getElem hk] at this
        exact ⟨this, hall _ hx this⟩
      have hlen := hroom hnew
      have eC : shC s b = 2 + lsC (sMade s).length s.2.1.2.1 := if_pos hnew
      have eS : shS s b = 43 + lsS (sMade s).length s.2.1.2.1 := if_pos hnew
      refine aw_aloadN4 X dX5_chunkOf_67 ?_
      refine aw_ifnonnullN X dX5_chunkOf_69 ?_
      refine aw_new X cl_2 tyX1 tyX1_ok nwX1 cnX5_53 inX1 iiX1 dX5_chunkOf_72 (by rw [hR]; show 0 + 1 ≤ shC s b; omega) (by rw [hR]; show 0 + 3 ≤ shS s b; omega) (fun q hqA hlt hz => ?_)
      refine aw_dup X dX5_chunkOf_75 rfl ?_
      refine aw_callI X (c_X1_init am_ns rfl) kX5_78 dX5_chunkOf_76 rfl rfl (by first | decide | exact Nat.le_of_ble_eq_true rfl) (by rw [hR]; exact ⟨by first | decide | exact Nat.le_of_ble_eq_true rfl | (dsimp only; omega), by first | decide | exact Nat.le_of_ble_eq_true rfl | (dsimp only; omega)⟩) (by rw [hR]; exact ⟨by show 0 + 1 + 1 ≤ shC s b; omega, by show 0 + 3 + 40 ≤ shS s b; omega⟩) (fun v M2 hv => ?_)
      obtain ⟨rfl, hq2, -, hout2⟩ := hv
      have hDq : D ≤ q := by
        obtain ⟨x, hx⟩ := hD
        have := hlt _ _ hx
        omega
      have kq : ∀ j x, M.1 j = some x → M2.1 j = some x := fun j x hx => by
        have := hlt j x hx
        exact (hout2 j (by omega) (by omega)).trans ((am_nn (by omega)).trans hx)
      have hcn : q ∉ sMade s := fun hx => by
        have := hlt q _ (h5 q hx).at
        omega
      have h3' : isLs (zG Z) M2 (h + 2) s.2.1.1 s.2.1.2.1 (sMade s) := h3.ks (fun x hx => kq _ x hx) (fun _ x hx => kq _ x hx)
      have hcs' : isCs M2 (sMade s) := fun x hx => ⟨_, kq _ _ (h5 x hx).at⟩
      refine aw_astore4 X dX5_chunkOf_79 (by rw [hn]; decide) rfl ?_
      refine aw_aload0 X dX5_chunkOf_81 ?_
      refine aw_get X fX5_20 dX5_chunkOf_82 (kq _ _ h1) rfl ?_
      refine aw_aload4 X dX5_chunkOf_85 ?_
      refine aw_callV X (c_ls_add h3' hcs' hq2.at (by omega)) kX5_60 (ci := 0) rfl (kq _ _ l1) dX5_chunkOf_87 rfl rfl (by first | decide | exact Nat.le_of_ble_eq_true rfl) (by rw [hR]; exact ⟨by first | decide | exact Nat.le_of_ble_eq_true rfl | (dsimp only; omega), by first | decide | exact Nat.le_of_ble_eq_true rfl | (dsimp only; omega)⟩) (by rw [hR]; exact ⟨by show 0 + 1 + 1 + lsC _ _ ≤ shC s b; omega, by show 0 + 3 + 40 + lsS _ _ ≤ shS s b; omega⟩) (fun v M3 hv => ?_)
      obtain ⟨rfl, e', he', hl3, hk3⟩ := hv
      have hk3' : KE M2 M3 (fun j => j = h + 2 ∨ (0 < s.2.1.2.1 ∧ j = s.2.1.1)) := fun j x hx he => hk3 j x hx (fun e => he (Or.inl e)) (fun h0 e => he (Or.inr ⟨h0, e⟩))
      have hq3 : isChunk (zG Z) M3 q [] 0 := by
        refine hq2.ke hk3' (fun e9 => ?_) (fun e9 => ?_)
        · rcases e9 with e9 | ⟨e1, e2⟩
          · omega
          · have := ls_ne_c h3' e1 hq2
            omega
        · rcases e9 with e9 | ⟨e1, e2⟩
          · omega
          · have := ls_ne_c h3' e1 hq2
            omega
      have hs2 : isShM (zG Z) M2 h s := ⟨kq _ _ h1, ⟨f, kq _ _ h2, hf⟩, h3', fun i hi => ⟨kq _ _ (h4 i hi).1, (h4 i hi).2.ks (fun x hx => kq _ x hx) (fun _ x hx => kq _ x hx)⟩, fun x hx => (h5 x hx).ks (fun y hy => kq _ y hy) (fun y hy => kq _ y hy)⟩
      have hs3 := hs2.made (b' := []) (t' := 0) ha hk3' hl3 hcn hq3
      have hne : ∀ i, i < 12 → 0 < (s.2.2.1 i).2.2.1 → (s.2.2.1 i).2.1 ≠ e' := fun i hi h0 e0 => by
        have hA := (a4 i hi).2.2 h0
        obtain ⟨fA, hfA⟩ := (hs2.2.2.2.1 i hi).2.arr h0
        rcases he' with he' | he'
        · exact hA.2.1 he'.1 (e0.trans he'.2)
        · have := he' _ _ hfA
          omega
      have he9 : 0 < lsN (sMade s).length s.2.1.2.1 → D ≤ e' := fun _ => by
        rcases he' with he' | he'
        · rw [he'.2]
          exact a3 he'.1
        · have := he' _ _ hq2.at
          omega
      have ha3 := ha.made (c := q) (t' := 0) (b' := []) hcn hDq (by omega) (lsN_le hlen a2) hlen he9 hne
      have hr3 : isRow (zG Z) M3 r bs := (isRow.ke hr0 (E := fun _ => False) (fun j x hj _ => kq j x hj) (fun e => e) (fun e => e)).ke hk3' (fun e9 => ?_) (fun e9 => ?_)
      refine aw_pop X dX5_chunkOf_90 rfl ?_
      refine aw_aload4 X dX5_chunkOf_91 ?_
      refine aw_aload1 X dX5_chunkOf_93 ?_
      refine aw_iload2 X dX5_chunkOf_94 ?_
      refine aw_iload3 X dX5_chunkOf_95 ?_
      refine aw_callV X (c_X1_fill hq3 hr3 hb hm (by omega)) kX5_79 (ci := 2) rfl (hq3.at) dX5_chunkOf_96 rfl rfl (by first | decide | exact Nat.le_of_ble_eq_true rfl) (by rw [hR]; exact ⟨by first | decide | exact Nat.le_of_ble_eq_true rfl | (dsimp only; omega), by first | decide | exact Nat.le_of_ble_eq_true rfl | (dsimp only; omega)⟩) (by rw [hR]; exact ⟨by first | decide | exact Nat.le_of_ble_eq_true rfl | (dsimp only; omega), by first | decide | exact Nat.le_of_ble_eq_true rfl | (dsimp only; omega)⟩) (fun v M4 hv => ?_)
      obtain ⟨rfl, hq4, hout4⟩ := hv
      rw [hbb] at hq4
      have hs4 := hs3.chunk (c := q) ha3 (List.mem_append_right _ (List.mem_singleton.mpr rfl)) ((KE.out hout4).mono (fun j hj => by omega)) hq4
      have ha4 := ha3.chunk (c := q) (t' := 0) (b' := b) (by omega)
      dsimp only at hs4 ha4
      rw [va_up2, va_up2] at hs4 ha4
      refine aw_widen (k' := shC s b) (n' := shS s b) (by show 0 + 1 + 1 + lsC _ _ ≤ shC s b; omega) (by show 0 + 3 + 40 + lsS _ _ ≤ shS s b; omega) ?_
      refine aw_aload4 X dX5_chunkOf_99 ?_
      refine aw_areturn X hr (Or.inl ⟨_, rfl⟩) (Or.inr ⟨_, rfl⟩) dX5_chunkOf_101 (⟨q, _, rfl, hs4, ha4, Or.inr (Or.inr ⟨hnew, hcn, e', rfl⟩), fun j x hj he => ?_⟩)
      · refine (hout4 j (by omega)).trans (hk3' j x (kq j x hj) (fun e9 => ?_))
        rcases e9 with e9 | ⟨e1, e2⟩
        · omega
        · have := a3 e1
          omega
      · rcases e9 with e9 | ⟨e1, e2⟩
        · omega
        · have := a3 e1
          omega
      · rcases e9 with e9 | ⟨e1, e2⟩
        · omega
        · have := a3 e1
          omega
    | some c =>
      obtain ⟨hc1, hc2⟩ := hfs c rfl
      have hcc := h5 c hc1
      rw [hc2] at hcc
      refine aw_aload4 X dX5_chunkOf_67 ?_
      refine aw_ifnonnull X dX5_chunkOf_69 (tgt := 91) (by decide) ?_
      refine aw_aload4 X dX5_chunkOf_91 ?_
      refine aw_aload1 X dX5_chunkOf_93 ?_
      refine aw_iload2 X dX5_chunkOf_94 ?_
      refine aw_iload3 X dX5_chunkOf_95 ?_
      have hcD := (a7 c hc1).1
      refine aw_callV X (c_X1_fill hcc hr0 hb hm (by omega)) kX5_79 (ci := 2) rfl (hcc.at) dX5_chunkOf_96 rfl rfl (by first | decide | exact Nat.le_of_ble_eq_true rfl) (by rw [hR]; exact ⟨by first | decide | exact Nat.le_of_ble_eq_true rfl | (dsimp only; omega), by first | decide | exact Nat.le_of_ble_eq_true rfl | (dsimp only; omega)⟩) (by rw [hR]; exact ⟨by first | decide | exact Nat.le_of_ble_eq_true rfl | (dsimp only; omega), by first | decide | exact Nat.le_of_ble_eq_true rfl | (dsimp only; omega)⟩) (fun v M4 hv => ?_)
      obtain ⟨rfl, hq4, hout4⟩ := hv
      rw [hbb] at hq4
      have hs4 := hs.chunk ha hc1 ((KE.out hout4).mono (fun j hj => by omega)) hq4
      have ha4 := ha.chunk (c := c) (t' := 0) (b' := b) (by omega)
      refine aw_widen (k' := shC s b) (n' := shS s b) (Nat.zero_le _) (Nat.zero_le _) ?_
      refine aw_aload4 X dX5_chunkOf_99 ?_
      refine aw_areturn X hr (Or.inl ⟨_, rfl⟩) (Or.inr ⟨_, rfl⟩) dX5_chunkOf_101 (⟨c, _, rfl, hs4, ha4, Or.inr (Or.inl ⟨hc1, hc2, hall, rfl⟩), (KE.out hout4).mono (fun j hj => by omega)⟩)
  · have hlt : i < (sMade s).length := by
      rcases Nat.lt_or_ge i (sMade s).length with q | q
      · exact q
      · exact absurd (nI_le q (by omega)) c9
    have hm9 := getN_mem hlt
    have hcc := h5 _ hm9
    have ht9 := (a7 _ hm9).2
    refine aw_aload0 X dX5_chunkOf_18 ?_
    refine aw_get X fX5_20 dX5_chunkOf_19 (h1) rfl ?_
    refine aw_iload5 X dX5_chunkOf_22 ?_
    refine aw_callV X (c_ls_get h3 hlt (by omega)) kX5_71 (ci := 0) rfl (l1) dX5_chunkOf_24 rfl rfl (by first | decide | exact Nat.le_of_ble_eq_true rfl) (by rw [hR]; exact ⟨by first | decide | exact Nat.le_of_ble_eq_true rfl | (dsimp only; omega), by first | decide | exact Nat.le_of_ble_eq_true rfl | (dsimp only; omega)⟩) (by rw [hR]; exact ⟨by first | decide | exact Nat.le_of_ble_eq_true rfl | (dsimp only; omega), by first | decide | exact Nat.le_of_ble_eq_true rfl | (dsimp only; omega)⟩) (fun v M1 hv => ?_)
    obtain ⟨rfl, rfl⟩ := hv
    refine aw_cast X cnX5_53 dX5_chunkOf_27 (hcc.at) ?_
    refine aw_astore6 X dX5_chunkOf_30 (by rw [hn]; decide) rfl ?_
    refine aw_aload6 X dX5_chunkOf_32 ?_
    refine aw_get X fX5_52 dX5_chunkOf_34 (hcc.at) rfl ?_
    refine aw_ifne X dX5_chunkOf_37 (tgt := 47) (by decide) (fun c8 => ?_) (fun c8 => ?_)
    · have e9 : 0 < s.2.2.2.2 ((sMade s).getD i 0) := Nat.pos_of_ne_zero (fun e => c8 (by rw [e]; rfl))
      refine aw_aload6 X dX5_chunkOf_47 ?_
      refine aw_aload1 X dX5_chunkOf_49 ?_
      refine aw_iload2 X dX5_chunkOf_50 ?_
      refine aw_iload3 X dX5_chunkOf_51 ?_
      refine aw_callV X (c_X1_isIn hcc hr0 hb hm) kX5_75 (ci := 2) rfl (hcc.at) dX5_chunkOf_52 rfl rfl (by first | decide | exact Nat.le_of_ble_eq_true rfl) (by rw [hR]; exact ⟨by first | decide | exact Nat.le_of_ble_eq_true rfl | (dsimp only; omega), by first | decide | exact Nat.le_of_ble_eq_true rfl | (dsimp only; omega)⟩) (by rw [hR]; exact ⟨by first | decide | exact Nat.le_of_ble_eq_true rfl | (dsimp only; omega), by first | decide | exact Nat.le_of_ble_eq_true rfl | (dsimp only; omega)⟩) (fun v M1 hv => ?_)
      obtain ⟨rfl, rfl⟩ := hv
      rw [hbb]
      refine aw_ifeq X dX5_chunkOf_55 (tgt := 61) (by decide) (fun c7 => ?_) (fun c7 => ?_)
      · have e8 : ¬ s.2.2.2.1 ((sMade s).getD i 0) = b := fun e => by
          rw [am_b, if_pos e] at c7
          exact absurd c7 (by decide)
        refine aw_iinc5 X dX5_chunkOf_61 (by rw [hn]; decide) (am_inc _ 1) (by cases fr <;> rfl) ?_
        refine aw_goto X dX5_chunkOf_64 (tgt := 6) (by decide) ?_
        refine aw_drop6 ?_
        refine ih (i + 1, fr) ⟨by omega, fun k hk h0 => ?_, fun e k hk => ?_, hfs⟩ (by dsimp only; omega)
        · by_cases e : k = i
          · subst e
            exact e8
          · exact hno k (by dsimp only at hk; omega) h0
        · by_cases e5 : k = i
          · subst e5
            exact e9
          · exact hfn e k (by dsimp only at hk; omega)
      · have e8 : s.2.2.2.1 ((sMade s).getD i 0) = b := Decidable.byContradiction (fun e => c7 (by rw [am_b, if_neg e]; rfl))
        refine aw_widen (k' := shC s b) (n' := shS s b) (Nat.zero_le _) (Nat.zero_le _) ?_
        refine aw_aload6 X dX5_chunkOf_58 ?_
        refine aw_areturn X hr (Or.inl ⟨_, rfl⟩) (Or.inr ⟨_, rfl⟩) dX5_chunkOf_60 (⟨_, s, rfl, hs, ha, Or.inl ⟨rfl, hm9, e9, e8⟩, KE.rf⟩)
    · have e9 : s.2.2.2.2 ((sMade s).getD i 0) = 0 := (nI_eq (by omega) (by omega)).mp c8
      refine aw_aload6 X dX5_chunkOf_40 ?_
      refine aw_astore4 X dX5_chunkOf_42 (by rw [hn]; decide) rfl ?_
      refine aw_goto X dX5_chunkOf_44 (tgt := 61) (by decide) ?_
      refine aw_iinc5 X dX5_chunkOf_61 (by rw [hn]; decide) (am_inc _ 1) rfl ?_
      refine aw_goto X dX5_chunkOf_64 (tgt := 6) (by decide) ?_
      refine aw_drop6 ?_
      refine ih (i + 1, some ((sMade s).getD i 0)) ⟨by omega, fun k hk h0 => ?_, fun e => (by cases e), fun c hc => ?_⟩ (by dsimp only; omega)
      · by_cases e : k = i
        · subst e
          omega
        · exact hno k (by dsimp only at hk; omega) h0
      · cases hc
        exact ⟨hm9, e9⟩
