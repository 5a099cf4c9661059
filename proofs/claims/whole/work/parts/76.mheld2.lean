theorem nm_all {Q : PS} : allB Q 11 ++ ((Q 11).getD []).take ((Q 11).getD []).length = allB Q 12 := by
  rw [List.take_length]
  rfl
theorem allB_pre {P : PS} {p : Nat} : ∀ {n : Nat}, p < n → ∃ r, allB P n = allB P p ++ ((P p).getD [] ++ r)
  | 0, h => absurd h (Nat.not_lt_zero _)
  | n + 1, h => by
    rw [allB]
    by_cases e : p = n
    · exact ⟨[], by rw [e, List.append_nil]⟩
    · obtain ⟨r, hr⟩ := allB_pre (P := P) (p := p) (n := n) (by omega)
      exact ⟨r ++ (P n).getD [], by rw [hr, List.append_assoc, List.append_assoc]⟩
theorem allB_at {P : PS} {p k n : Nat} (h : p < n) (hk : k < ((P p).getD []).length) : (allB P n).getD ((allB P p).length + k) [] = ((P p).getD []).getD k [] ∧ (allB P n).take ((allB P p).length + k) = allB P p ++ ((P p).getD []).take k := by
  obtain ⟨r, hr⟩ := allB_pre (P := P) h
  rw [hr]
  constructor
  · rw [List.getD_eq_getElem?_getD, List.getElem?_append_right (by omega), Nat.add_sub_cancel_left, List.getElem?_append_left hk, List.getD_eq_getElem?_getD]
  · rw [List.take_append, List.take_of_length_le (by omega), Nat.add_sub_cancel_left, List.take_append_of_le_length (by omega)]
theorem pRel.chunk {A : MA} {p k : Nat} {m : List (List Int32)} (h : pRel A p (some m)) (hk : k < m.length) : ∀ i, i < (m.getD k []).length → A 26 (120 * p + (m.take k).flatten.length + i) = (m.getD k []).getD i 0 := fun i hi => by
  obtain ⟨p1, p2, p3, p4, p5⟩ := h
  rw [Nat.add_assoc, p5 _ (by have := off_succ hk; have := off_le m (k + 1); omega), flat_get hk hi]
theorem pRel.last {A : MA} {P : PS} {w : Option Nat} (hP : ∀ p, p < 12 → pRel A p (P p)) (p : Nat) (hp : p < 12) : ∀ m, Pw P w p = some m → A 24 p = nI ((Pw P w p).getD []).length ∧ ((Pw P w p).getD []).length ≤ m.length := fun m e => by
  have := hP p hp
  rw [(Pw_some e).1] at this
  rw [e]
  exact ⟨this.2.2.1, Nat.le_refl _⟩
theorem c_X9_shared {l : Launch} {G : AG} {M0 M : AM} {y t : Nat} {τ : TS} {f k : Int32} (hm : isMD G M0 M y τ t) : Cn l G yX9_shared cX9_shared 3 (some .int) rX9_shared M [.ref y, .int f, .int k] (MP Value.int G M y (spShared τ f k)) := by
  obtain ⟨A, S, c, h0, hr0, -⟩ := hm
  have h := h0.base
  have q8 := hr0.2.2.2.2.2.2.2
  refine Cn.of (by decide) [some (.ref y), some (.int f), some (.int k)] rfl (Nat.le_of_ble_eq_true rfl) ?_
  intro Z hZ
  obtain ⟨rfl, hn, rfl, hR, X, hr, hnm⟩ := hZ
  refine aw_aload0 X dX9_shared_0 ?_
  refine aw_aload0 X dX9_shared_1 ?_
  refine aw_iload1 X dX9_shared_2 ?_
  refine aw_iload2 X dX9_shared_3 ?_
  refine aw_callV X (c_X9_isPart h hr0) kX9_222 (ci := 10) rfl (h.at) dX9_shared_4 rfl rfl (by first | decide | exact Nat.le_of_ble_eq_true rfl) (by rw [hR]; exact ⟨by first | decide | exact Nat.le_of_ble_eq_true rfl | (dsimp only; omega), by first | decide | exact Nat.le_of_ble_eq_true rfl | (dsimp only; omega)⟩) (by rw [hR]; exact ⟨by first | decide | exact Nat.le_of_ble_eq_true rfl | (dsimp only; omega), by first | decide | exact Nat.le_of_ble_eq_true rfl | (dsimp only; omega)⟩) (fun v M1 hv => ?_)
  obtain ⟨rfl, rfl⟩ := hv
  refine aw_callV X (c_X9_may h) kX9_106 (ci := 10) rfl (h.at) dX9_shared_7 rfl rfl (by first | decide | exact Nat.le_of_ble_eq_true rfl) (by rw [hR]; exact ⟨by first | decide | exact Nat.le_of_ble_eq_true rfl | (dsimp only; omega), by first | decide | exact Nat.le_of_ble_eq_true rfl | (dsimp only; omega)⟩) (by rw [hR]; exact ⟨by first | decide | exact Nat.le_of_ble_eq_true rfl | (dsimp only; omega), by first | decide | exact Nat.le_of_ble_eq_true rfl | (dsimp only; omega)⟩) (fun v M2 hv => ?_)
  obtain ⟨rfl, h1⟩ := hv
  refine aw_ifeq X dX9_shared_10 (tgt := 47) (by decide) (fun c1 => ?_) (fun c1 => ?_)
  · have hp := am_bz.mp c1
    refine aw_iconst X dX9_shared_47 (v := nI 0) (by decide) ?_
    refine aw_ireturn X (ty := .int) hr (by first | rfl | decide | assumption) dX9_shared_48 (MP.of (by rw [spShared, if_neg hp]; rfl) h1 hr0.t (by rw [va_up_self, if_neg hp]))
  · have hp : isK τ f k := Decidable.byContradiction (fun e => c1 (am_bz.mpr e))
    obtain ⟨j1, j2, j3⟩ := inI_j hp.1.1 (by omega)
    obtain ⟨m, hm9⟩ := Option.isSome_iff_exists.mp hp.1.2
    have hq := q8 (ix f) j1
    rw [show τ.2.2.2.2.2 (ix f) = some m from hm9] at hq
    have hL : tL τ f = m := by show (tP τ f).getD [] = m; rw [hm9]; rfl
    have hml := hq.2.1.2.1
    have hk9 : inI k m.length := by have := hp.2; rw [hL] at this; exact this
    obtain ⟨k1, k2, k3⟩ := inI_j hk9 (by omega)
    have ho := hq.2.1.off k1
    refine aw_aload0 X dX9_shared_13 ?_
    refine aw_aload0 X dX9_shared_14 ?_
    refine aw_iload1 X dX9_shared_15 ?_
    refine aw_iload2 X dX9_shared_16 ?_
    refine aw_int k2 ?_
    refine aw_int2 j2 ?_
    refine aw_callV X (c_X9_begin h1 j1 hq (by omega)) kX9_215 (ci := 10) rfl (h1.at) dX9_shared_17 rfl rfl (by first | decide | exact Nat.le_of_ble_eq_true rfl) (by rw [hR]; exact ⟨by first | decide | exact Nat.le_of_ble_eq_true rfl | (dsimp only; omega), by first | decide | exact Nat.le_of_ble_eq_true rfl | (dsimp only; omega)⟩) (by rw [hR]; exact ⟨by first | decide | exact Nat.le_of_ble_eq_true rfl | (dsimp only; omega), by first | decide | exact Nat.le_of_ble_eq_true rfl | (dsimp only; omega)⟩) (fun v M3 hv => ?_)
    obtain ⟨rfl, rfl⟩ := hv
    refine aw_aload0 X dX9_shared_20 ?_
    refine aw_get X fX9_94 dX9_shared_21 (h1.at) rfl ?_
    refine aw_bipush X dX9_shared_24 (v := nI 120) (by decide) ?_
    refine aw_iload1 X dX9_shared_26 ?_
    refine aw_imul X dX9_shared_27 ?_
    refine aw_iload2 X dX9_shared_28 ?_
    refine aw_iadd X dX9_shared_29 ?_
    refine aw_int (ix_add2 j2 k2) ?_
    refine aw_iald X dX9_shared_30 (h1.ai 25 rfl) rfl (by omega) (by decide) ?_
    refine aw_int (hq.2.2.2.1 _ k1) ?_
    refine aw_bipush X dX9_shared_31 (v := nI 11) (by decide) ?_
    refine aw_aload0 X dX9_shared_33 ?_
    refine aw_get X fX9_91 dX9_shared_34 (h1.at) rfl ?_
    refine aw_bipush X dX9_shared_37 (v := nI 11) (by decide) ?_
    refine aw_iald X dX9_shared_39 (h1.ai 24 rfl) rfl (by omega) (by decide) ?_
    refine aw_iconst X dX9_shared_40 (v := -1) (by decide) ?_
    refine aw_callV X (c_X9_names (w := none) (P := τ.2.2.2.2.2) (lp := 11) (kk := ((Pw τ.2.2.2.2.2 none 11).getD []).length) (b := m.getD (ix k) []) h1 q8 (hq.chunk k1) (by omega) (by omega) (fun p e => by cases e) (pRel.last q8 11 (by omega))) kX9_211 (ci := 10) rfl (h1.at) dX9_shared_41 rfl rfl (by first | decide | exact Nat.le_of_ble_eq_true rfl) (by rw [hR]; exact ⟨by first | decide | exact Nat.le_of_ble_eq_true rfl | (dsimp only; omega), by first | decide | exact Nat.le_of_ble_eq_true rfl | (dsimp only; omega)⟩) (by rw [hR]; exact ⟨by first | decide | exact Nat.le_of_ble_eq_true rfl | (dsimp only; omega), by first | decide | exact Nat.le_of_ble_eq_true rfl | (dsimp only; omega)⟩) (fun v M4 hv => ?_)
    obtain ⟨rfl, rfl⟩ := hv
    refine aw_goto X dX9_shared_44 (tgt := 48) (by decide) ?_
    rw [nm_all]
    refine aw_ireturn X (ty := .int) hr (by first | rfl | decide | assumption) dX9_shared_48 (MP.of (by rw [spShared, if_pos hp, hL]; rfl) h1 hr0.t (by rw [va_up_self, if_pos hp]))
/-- the number that a chunk counts -/
def hf (ib : Bool) : List Int32 → Nat := fun b => if ib = true then b.length else 1
theorem c_X9_held {l : Launch} {G : AG} {M0 M : AM} {y : Nat} {A : MA} {S : Nat → Int64} {c : Nat → Int32} {P : PS} {ib : Bool} (h : md G M0 M y A S c) (q8 : ∀ p, p < 12 → pRel A p (P p)) : Cn l G yX9_held cX9_held 7 (some .int) rX9_held M [.ref y, .int (b2i ib)] (fun v M' => M' = M ∧ v = some (.int (nI (fsum (hf ib) (allB P 12) (allB P 12).length)))) := by
  refine Cn.of (by decide) [some (.ref y), some (.int (b2i ib)), none, none, none, none, none] rfl (Nat.le_of_ble_eq_true rfl) ?_
  intro Z hZ
  obtain ⟨rfl, hn, rfl, hR, X, hr, hnm⟩ := hZ
  refine aw_iconst X dX9_held_0 (v := nI 0) (by decide) ?_
  refine aw_istore2 X dX9_held_1 (by rw [hn]; decide) rfl ?_
  refine aw_iconst X dX9_held_2 (v := nI 0) (by decide) ?_
  refine aw_istore3 X dX9_held_3 (by rw [hn]; decide) rfl ?_
  refine aw_loop (σ := Nat) (fun p => p ≤ 12) (fun p => 12 - p) (fun _ => M) (fun p => [some (.ref y), some (.int (b2i ib)), some (.int (nI (fsum (hf ib) (allB P 12) (allB P p).length))), some (.int (nI p)), none, none, none]) ?_ 0 (Nat.zero_le _)
  intro p hp ih
  try dsimp only at hp ih ⊢
  refine aw_iload3 X dX9_held_4 ?_
  refine aw_bipush X dX9_held_5 (v := nI 12) (by decide) ?_
  refine aw_icmpge X dX9_held_7 (tgt := 100) (by decide) (fun c1 => ?_) (fun c1 => ?_)
  · have e : p = 12 := by have := (nI_leI (by omega) (by omega)).mp c1; omega
    subst e
    refine aw_iload2 X dX9_held_100 ?_
    refine aw_ireturn X (ty := .int) hr (by first | rfl | decide | assumption) dX9_held_101 (⟨rfl, rfl⟩)
  · have hlt : p < 12 := by
      rcases Nat.lt_or_ge p 12 with q | q
      · exact q
      · exact absurd (nI_le q (by omega)) c1
    have qn := ih (p + 1) hlt (by omega)
    rw [show (allB P (p + 1)).length = (allB P p).length + ((P p).getD []).length by rw [allB, List.length_append]] at qn
    clear ih
    refine aw_bipush X dX9_held_10 (v := nI 120) (by decide) ?_
    refine aw_iload3 X dX9_held_12 ?_
    refine aw_imul X dX9_held_13 ?_
    first | with_reducible refine aw_int (pk_mul _ _) ?_ | skip
    refine aw_istore4 X dX9_held_14 (by rw [hn]; decide) rfl ?_
    refine aw_iconst X dX9_held_16 (v := nI 0) (by decide) ?_
    refine aw_istore5 X dX9_held_17 (by rw [hn]; decide) rfl ?_
    cases hm : P p with
    | none =>
      have hq := q8 p hlt
      rw [hm] at hq qn
      refine aw_iload5 X dX9_held_19 ?_
      refine aw_aload0 X dX9_held_21 ?_
      refine aw_get X fX9_91 dX9_held_22 (h.at) rfl ?_
      refine aw_iload3 X dX9_held_25 ?_
      refine aw_iald X dX9_held_26 (h.ai 24 rfl) rfl (by omega) (by decide) ?_
      refine aw_joinA (ι := Unit) (fun _ => True) (fun _ => M) 94 [some (.ref y), some (.int (b2i ib)), some (.int (nI (fsum (hf ib) (allB P 12) (allB P p).length))), some (.int (nI p)), some (.int (nI (120 * p))), some (.int (nI 0)), none] (fun _ _ => ?_) (fun K => ?_)
      · refine aw_iinc3 X dX9_held_94 (by rw [hn]; decide) (am_inc _ 1) rfl ?_
        refine aw_goto X dX9_held_97 (tgt := 4) (by decide) ?_
        exact aw_drop4 (aw_drop5 qn)
      · refine aw_icmpge X dX9_held_27 (tgt := 94) (by decide) (fun c2 => ?_) (fun c2 => ?_)
        · exact K () trivial
        · refine aw_aload0 X dX9_held_30 ?_
          refine aw_get X fX9_88 dX9_held_31 (h.at) rfl ?_
          refine aw_iload3 X dX9_held_34 ?_
          refine aw_zald X dX9_held_35 (h.az 23 rfl) rfl (by omega) (by decide) ?_
          refine aw_int (y := nI 0) hq ?_
          refine aw_ifeq X dX9_held_36 (tgt := 94) (by decide) (fun _ => ?_) (fun c9 => by first | exact absurd ((rfl : nI 0 = 0)) c9 | exact absurd c9 ((rfl : nI 0 = 0)))
          exact K () trivial
    | some m =>
      have hq := q8 p hlt
      have hat : ∀ k, k < m.length → (allB P 12).getD ((allB P p).length + k) [] = m.getD k [] ∧ (allB P 12).take ((allB P p).length + k) = allB P p ++ m.take k := fun k hk => by
        have := allB_at (P := P) (p := p) (k := k) (n := 12) hlt (by rw [hm]; exact hk)
        rw [hm] at this
        exact this
      rw [hm] at hq qn
      obtain ⟨p1, p2, p3, p4, p5⟩ := id hq
      have hml := p2.2.1
      refine aw_loop (σ := Nat) (fun k => k ≤ m.length) (fun k => m.length - k) (fun _ => M) (fun k => [some (.ref y), some (.int (b2i ib)), some (.int (nI (fsum (hf ib) (allB P 12) ((allB P p).length + k)))), some (.int (nI p)), some (.int (nI (120 * p + (m.take k).flatten.length))), some (.int (nI k)), none]) ?_ 0 (Nat.zero_le _)
      intro k hk ih
      try dsimp only at hk ih ⊢
      refine aw_iload5 X dX9_held_19 ?_
      refine aw_aload0 X dX9_held_21 ?_
      refine aw_get X fX9_91 dX9_held_22 (h.at) rfl ?_
      refine aw_iload3 X dX9_held_25 ?_
      refine aw_iald X dX9_held_26 (h.ai 24 rfl) rfl (by omega) (by decide) ?_
      refine aw_int p3 ?_
      refine aw_icmpge X dX9_held_27 (tgt := 94) (by decide) (fun c2 => ?_) (fun c2 => ?_)
      · have e : k = m.length := by have := (nI_leI (by omega) (by omega)).mp c2; omega
        subst e
        refine aw_iinc3 X dX9_held_94 (by rw [hn]; decide) (am_inc _ 1) rfl ?_
        refine aw_goto X dX9_held_97 (tgt := 4) (by decide) ?_
        exact aw_drop4 (aw_drop5 qn)
      · have hkl : k < m.length := by
          rcases Nat.lt_or_ge k m.length with q | q
          · exact q
          · exact absurd (nI_le q (by omega)) c2
        have ho := p2.off hkl
        obtain ⟨g1, g2⟩ := hat k hkl
        have q := ih (k + 1) hkl (by omega)
        rw [off_succ hkl, ← Nat.add_assoc, ← Nat.add_assoc, fsum, g1, g2] at q
        refine aw_aload0 X dX9_held_30 ?_
        refine aw_get X fX9_88 dX9_held_31 (h.at) rfl ?_
        refine aw_iload3 X dX9_held_34 ?_
        refine aw_zald X dX9_held_35 (h.az 23 rfl) rfl (by omega) (by decide) ?_
        refine aw_int p1 ?_
        refine aw_ifeq X dX9_held_36 (tgt := 94) (by decide) (fun c9 => by first | exact absurd ((by decide : ¬ nI 1 = 0)) c9 | exact absurd c9 ((by decide : ¬ nI 1 = 0))) (fun _ => ?_)
        refine aw_aload0 X dX9_held_39 ?_
        refine aw_get X fX9_94 dX9_held_40 (h.at) rfl ?_
        refine aw_bipush X dX9_held_43 (v := nI 120) (by decide) ?_
        refine aw_iload3 X dX9_held_45 ?_
        refine aw_imul X dX9_held_46 ?_
        first | with_reducible refine aw_int (pk_mul _ _) ?_ | skip
        refine aw_iload5 X dX9_held_47 ?_
        refine aw_iadd X dX9_held_49 ?_
        first | with_reducible refine aw_int (nI_add _ _) ?_ | skip
        refine aw_iald X dX9_held_50 (h.ai 25 rfl) rfl (by omega) (by decide) ?_
        refine aw_int (p4 k hkl) ?_
        refine aw_istore6 X dX9_held_51 (by rw [hn]; decide) rfl ?_
        refine aw_aload0 X dX9_held_53 ?_
        refine aw_iload4 X dX9_held_54 ?_
        refine aw_iload6 X dX9_held_56 ?_
        refine aw_iload3 X dX9_held_58 ?_
        refine aw_iload5 X dX9_held_59 ?_
        refine aw_iconst X dX9_held_61 (v := -1) (by decide) ?_
        refine aw_callV X (c_X9_names (w := none) (P := P) (lp := p) (kk := k) (b := m.getD k []) h q8 (hq.chunk hkl) (by omega) hlt (fun p e => by cases e) (fun m' e => by have e : P p = some m' := e; rw [hm] at e; cases e; exact ⟨rfl, by omega⟩)) kX9_211 (ci := 10) rfl (h.at) dX9_held_62 rfl rfl (by first | decide | exact Nat.le_of_ble_eq_true rfl) (by rw [hR]; exact ⟨by first | decide | exact Nat.le_of_ble_eq_true rfl | (dsimp only; omega), by first | decide | exact Nat.le_of_ble_eq_true rfl | (dsimp only; omega)⟩) (by rw [hR]; exact ⟨by first | decide | exact Nat.le_of_ble_eq_true rfl | (dsimp only; omega), by first | decide | exact Nat.le_of_ble_eq_true rfl | (dsimp only; omega)⟩) (fun v M4 hv => ?_)
        obtain ⟨rfl, rfl⟩ := hv
        rw [show allB (Pw P none) p ++ ((Pw P none p).getD []).take k = allB P p ++ m.take k by show allB P p ++ ((P p).getD []).take k = _; rw [hm]; rfl]
        have hcn : List.count (m.getD k []) (allB P p ++ m.take k) < 2 ^ 31 := by
          refine Nat.lt_of_le_of_lt cnt_len ?_
          have := allB_len (P := P) (fun i hi => okP.empty (P := P) (fun i hi l e => by have := q8 i hi; rw [e] at this; exact this.2.1) hi) p (by omega)
          rw [List.length_append, List.length_take]
          omega
        by_cases hin : m.getD k [] ∈ allB P p ++ m.take k
        · rw [if_pos hin] at q
          refine aw_ifne X dX9_held_65 (tgt := 81) (by decide) (fun _ => ?_) (fun c9 => by first | exact absurd ((fun e : nI (List.count (m.getD k []) (allB P p ++ m.take k)) = 0 => by have := (nI_eq hcn (by omega)).mp (show _ = nI 0 from e); have := List.count_pos_iff.mpr hin; omega)) c9 | exact absurd c9 ((fun e : nI (List.count (m.getD k []) (allB P p ++ m.take k)) = 0 => by have := (nI_eq hcn (by omega)).mp (show _ = nI 0 from e); have := List.count_pos_iff.mpr hin; omega)))
          refine aw_iload4 X dX9_held_81 ?_
          refine aw_iload6 X dX9_held_83 ?_
          refine aw_iadd X dX9_held_85 ?_
          first | with_reducible refine aw_int (nI_add _ _) ?_ | skip
          refine aw_istore4 X dX9_held_86 (by rw [hn]; decide) rfl ?_
          refine aw_iinc5 X dX9_held_88 (by rw [hn]; decide) (am_inc _ 1) rfl ?_
          refine aw_goto X dX9_held_91 (tgt := 19) (by decide) ?_
          exact aw_drop6 q
        · rw [if_neg hin] at q
          rw [List.count_eq_zero.mpr hin]
          refine aw_ifne X dX9_held_65 (tgt := 81) (by decide) (fun c9 => by first | exact absurd ((rfl : nI 0 = 0)) c9 | exact absurd c9 ((rfl : nI 0 = 0))) (fun _ => ?_)
          refine aw_iload2 X dX9_held_68 ?_
          refine aw_iload1 X dX9_held_69 ?_
          cases ib with
          | true =>
            refine aw_ifeq X dX9_held_70 (tgt := 78) (by decide) (fun c9 => by first | exact absurd ((by decide : ¬ nI 1 = 0)) c9 | exact absurd c9 ((by decide : ¬ nI 1 = 0))) (fun _ => ?_)
            refine aw_iload6 X dX9_held_73 ?_
            refine aw_goto X dX9_held_75 (tgt := 79) (by decide) ?_
            refine aw_iadd X dX9_held_79 ?_
            first | with_reducible refine aw_int (nI_add _ _) ?_ | skip
            refine aw_istore2 X dX9_held_80 (by rw [hn]; decide) rfl ?_
            refine aw_iload4 X dX9_held_81 ?_
            refine aw_iload6 X dX9_held_83 ?_
            refine aw_iadd X dX9_held_85 ?_
            first | with_reducible refine aw_int (nI_add _ _) ?_ | skip
            refine aw_istore4 X dX9_held_86 (by rw [hn]; decide) rfl ?_
            refine aw_iinc5 X dX9_held_88 (by rw [hn]; decide) (am_inc _ 1) rfl ?_
            refine aw_goto X dX9_held_91 (tgt := 19) (by decide) ?_
            exact aw_drop6 q
          | false =>
            refine aw_ifeq X dX9_held_70 (tgt := 78) (by decide) (fun _ => ?_) (fun c9 => by first | exact absurd ((rfl : nI 0 = 0)) c9 | exact absurd c9 ((rfl : nI 0 = 0)))
            refine aw_iconst X dX9_held_78 (v := nI 1) (by decide) ?_
            refine aw_iadd X dX9_held_79 ?_
            first | with_reducible refine aw_int (nI_add _ _) ?_ | skip
            refine aw_istore2 X dX9_held_80 (by rw [hn]; decide) rfl ?_
            refine aw_iload4 X dX9_held_81 ?_
            refine aw_iload6 X dX9_held_83 ?_
            refine aw_iadd X dX9_held_85 ?_
            first | with_reducible refine aw_int (nI_add _ _) ?_ | skip
            refine aw_istore4 X dX9_held_86 (by rw [hn]; decide) rfl ?_
            refine aw_iinc5 X dX9_held_88 (by rw [hn]; decide) (am_inc _ 1) rfl ?_
            refine aw_goto X dX9_held_91 (tgt := 19) (by decide) ?_
            exact aw_drop6 q
theorem c_X9_chunks {l : Launch} {G : AG} {M0 M : AM} {y t : Nat} {τ : TS} (hm : isMD G M0 M y τ t) : Cn l G yX9_chunks cX9_chunks 1 (some .int) rX9_chunks M [.ref y] (MP Value.int G M y (spChunks τ)) := by
  obtain ⟨A, S, c, h0, hr0, -⟩ := hm
  have h := h0.base
  have q8 := hr0.2.2.2.2.2.2.2
  refine Cn.of (by decide) [some (.ref y)] rfl (Nat.le_of_ble_eq_true rfl) ?_
  intro Z hZ
  obtain ⟨rfl, hn, rfl, hR, X, hr, hnm⟩ := hZ
  refine aw_aload0 X dX9_chunks_0 ?_
  refine aw_iconst X dX9_chunks_1 (v := nI 0) (by decide) ?_
  refine aw_mput35 X pX9_100 dX9_chunks_2 h (fun M1 h1 => ?_)
  refine aw_aload0 X dX9_chunks_5 ?_
  refine aw_iconst X dX9_chunks_6 (v := nI 0) (by decide) ?_
  refine aw_callV X (c_X9_held (ib := false) h1 q8) kX9_218 (ci := 10) rfl (h1.at) dX9_chunks_7 rfl rfl (by first | decide | exact Nat.le_of_ble_eq_true rfl) (by rw [hR]; exact ⟨by first | decide | exact Nat.le_of_ble_eq_true rfl | (dsimp only; omega), by first | decide | exact Nat.le_of_ble_eq_true rfl | (dsimp only; omega)⟩) (by rw [hR]; exact ⟨by first | decide | exact Nat.le_of_ble_eq_true rfl | (dsimp only; omega), by first | decide | exact Nat.le_of_ble_eq_true rfl | (dsimp only; omega)⟩) (fun v M2 hv => ?_)
  obtain ⟨rfl, rfl⟩ := hv
  refine aw_ireturn X (ty := .int) hr (by first | rfl | decide | assumption) dX9_chunks_10 (MP.of (k := 0) rfl h1 hr0.t (va_up_self _ _ _))
theorem c_X9_heldBytes {l : Launch} {G : AG} {M0 M : AM} {y t : Nat} {τ : TS} (hm : isMD G M0 M y τ t) : Cn l G yX9_heldBytes cX9_heldBytes 1 (some .int) rX9_heldBytes M [.ref y] (MP Value.int G M y (spHeldBytes τ)) := by
  obtain ⟨A, S, c, h0, hr0, -⟩ := hm
  have h := h0.base
  have q8 := hr0.2.2.2.2.2.2.2
  refine Cn.of (by decide) [some (.ref y)] rfl (Nat.le_of_ble_eq_true rfl) ?_
  intro Z hZ
  obtain ⟨rfl, hn, rfl, hR, X, hr, hnm⟩ := hZ
  refine aw_aload0 X dX9_heldBytes_0 ?_
  refine aw_iconst X dX9_heldBytes_1 (v := nI 0) (by decide) ?_
  refine aw_mput35 X pX9_100 dX9_heldBytes_2 h (fun M1 h1 => ?_)
  refine aw_aload0 X dX9_heldBytes_5 ?_
  refine aw_iconst X dX9_heldBytes_6 (v := nI 1) (by decide) ?_
  refine aw_callV X (c_X9_held (ib := true) h1 q8) kX9_218 (ci := 10) rfl (h1.at) dX9_heldBytes_7 rfl rfl (by first | decide | exact Nat.le_of_ble_eq_true rfl) (by rw [hR]; exact ⟨by first | decide | exact Nat.le_of_ble_eq_true rfl | (dsimp only; omega), by first | decide | exact Nat.le_of_ble_eq_true rfl | (dsimp only; omega)⟩) (by rw [hR]; exact ⟨by first | decide | exact Nat.le_of_ble_eq_true rfl | (dsimp only; omega), by first | decide | exact Nat.le_of_ble_eq_true rfl | (dsimp only; omega)⟩) (fun v M2 hv => ?_)
  obtain ⟨rfl, rfl⟩ := hv
  refine aw_ireturn X (ty := .int) hr (by first | rfl | decide | assumption) dX9_heldBytes_10 (MP.of (k := 0) rfl h1 hr0.t (va_up_self _ _ _))
