/-! calls on papers and chunks -/
theorem lowest_congr {P Q : Nat → Bool} : ∀ {n : Nat}, (∀ i, i < n → P i = Q i) → lowest P n = lowest Q n
  | 0, _ => rfl
  | n + 1, h => by
    rw [lowest, lowest, lowest_congr (fun i hi => h i (by omega)), h n (by omega)]
theorem shL.free {s : SH} {P : PS} (h : shL s P) : lowest (freeP s) 12 = lowest (fun i => (P i).isNone) 12 := lowest_congr (fun i hi => by
  show decide ((s.2.2.1 i).1 = 0) = (P i).isNone
  rw [h.1 i hi]
  cases P i with
  | none => rfl
  | some l => rfl)
theorem shL.pap {s : SH} {P : PS} (h : shL s P) : ∀ n, n ≤ 12 → npap s n = papN P n
  | 0, _ => rfl
  | n + 1, hn => by
    rw [npap, papN, h.pap n (by omega), h.1 n (by omega)]
theorem shL.st {s : SH} {P : PS} (h : shL s P) {i : Nat} (hi : i < 12) (hs : (P i).isSome = true) : (s.2.2.1 i).1 = 1 := by
  rw [h.1 i hi, if_pos hs]
theorem c_X8_checkPaper {l : Launch} {G : AG} {M : AM} {x D : Nat} {τ : TS} {p : Int32} (hfl : l.stackTraces = false) (hs : isRS G M x D τ) : Cx l G yX8_checkPaper cX8_checkPaper 2 none { rX8_checkPaper with cells := 2, slots := 12 } M [.ref x, .int p] (fun v M' => v = none ∧ M' = M ∧ isP τ p) (fun E M' => E = exI ∧ M' = (M.1, none) ∧ ¬ isP τ p) := by
  obtain ⟨s, sh, sA, sL, sg0⟩ := hs.2.2.2.2.2.2.2.2.1
  obtain ⟨s1, ⟨pf, p1, p2⟩, s3, s4, s5⟩ := id sh
  refine Cx.of (by decide) [some (.ref x), some (.int p)] rfl (Nat.le_of_ble_eq_true rfl) ?_
  intro Z hZ hT
  obtain ⟨rfl, hn, rfl, hR, X, hr, hnm⟩ := hZ
  refine aw_iload1 X dX8_checkPaper_0 ?_
  refine aw_bipush X dX8_checkPaper_1 (v := nI 12) (by decide) ?_
  refine aw_callSX X (c_X8_checkIndex hfl) kX8_75 dX8_checkPaper_3 rfl rfl (by first | decide | exact Nat.le_of_ble_eq_true rfl) (by rw [hR]; exact ⟨by first | decide | exact Nat.le_of_ble_eq_true rfl | (dsimp only; omega), by first | decide | exact Nat.le_of_ble_eq_true rfl | (dsimp only; omega)⟩) (by rw [hR]; exact ⟨by first | decide | exact Nat.le_of_ble_eq_true rfl | (dsimp only; omega), by first | decide | exact Nat.le_of_ble_eq_true rfl | (dsimp only; omega)⟩) (fun v M1 hv => ?_) (fun E M1 h1 => ?_)
  · obtain ⟨rfl, rfl, h1⟩ := hv
    obtain ⟨j1, j2, j3⟩ := inI_j h1 (by omega)
    refine aw_aload0 X dX8_checkPaper_6 ?_
    refine aw_get X fX8_42 dX8_checkPaper_7 (hs.at) rfl ?_
    refine aw_get X fX8_226 dX8_checkPaper_10 (s1) rfl ?_
    refine aw_iload1 X dX8_checkPaper_13 ?_
    refine aw_aald X at_7 dX8_checkPaper_14 p1 j2 j1 (by decide) ?_
    refine aw_rf (p2 _ j1) ?_
    refine aw_get X fX8_272 dX8_checkPaper_15 ((s4 _ j1).1) rfl ?_
    refine aw_ifne X dX8_checkPaper_18 (tgt := 32) (by decide) (fun c => ?_) (fun c => ?_)
    · have hst : (tP τ p).isSome = true := Decidable.byContradiction (fun e => c (by rw [sL.1 _ j1, if_neg e]; rfl))
      refine aw_widen (k' := 2) (n' := 12) (Nat.le_of_ble_eq_true rfl) (Nat.le_of_ble_eq_true rfl) ?_
      refine aw_vreturn X hr dX8_checkPaper_32 (⟨rfl, rfl, h1, hst⟩)
    · have hst : ¬ (tP τ p).isSome = true := fun e => by
        rw [sL.st j1 e] at c
        exact absurd c (by decide)
      refine aw_throwW X hfl th_IOB (text := "no such paper") (by decide) dX8_checkPaper_21 dX8_checkPaper_24 dX8_checkPaper_25 dX8_checkPaper_28 dX8_checkPaper_31 hT (by rw [hR]; exact Nat.le_of_ble_eq_true rfl) (by rw [hR]; exact Nat.le_of_ble_eq_true rfl) (by rw [hR]; exact Nat.le_of_ble_eq_true rfl) (by rw [hR]; exact Nat.le_of_ble_eq_true rfl) (Nat.le_of_ble_eq_true rfl) (Nat.le_of_ble_eq_true rfl) (⟨rfl, rfl, fun h => hst h.2⟩)
  · obtain ⟨e1, e2, e3⟩ := h1
    refine ax_out X hT (Nat.le_of_ble_eq_true rfl) (Nat.le_of_ble_eq_true rfl) (⟨e1, e2, fun h => e3 h.1⟩)
theorem c_X8_papers {l : Launch} {G : AG} {M : AM} {x D : Nat} {τ : TS} (hs : isRS G M x D τ) : Cn l G yX8_papers cX8_papers 1 (some .int) rX8_papers M [.ref x] (RP Value.int G M x D (spPapers τ)) := by
  obtain ⟨s, sh, sA, sL, sg0⟩ := hs.2.2.2.2.2.2.2.2.1
  refine Cn.of (by decide) [some (.ref x)] rfl (Nat.le_of_ble_eq_true rfl) ?_
  intro Z hZ
  obtain ⟨rfl, hn, rfl, hR, X, hr, hnm⟩ := hZ
  refine aw_aload0 X dX8_papers_0 ?_
  refine aw_get X fX8_42 dX8_papers_1 (hs.at) rfl ?_
  refine aw_callV X (c_X5_countPapers sh sA) kX8_235 (ci := 6) rfl (sh.at) dX8_papers_4 rfl rfl (by first | decide | exact Nat.le_of_ble_eq_true rfl) (by rw [hR]; exact ⟨by first | decide | exact Nat.le_of_ble_eq_true rfl | (dsimp only; omega), by first | decide | exact Nat.le_of_ble_eq_true rfl | (dsimp only; omega)⟩) (by rw [hR]; exact ⟨by first | decide | exact Nat.le_of_ble_eq_true rfl | (dsimp only; omega), by first | decide | exact Nat.le_of_ble_eq_true rfl | (dsimp only; omega)⟩) (fun v M1 hv => ?_)
  obtain ⟨rfl, rfl⟩ := hv
  refine aw_int (congrArg nI (sL.pap 12 (Nat.le_refl _))) ?_
  refine aw_ireturn X (ty := .int) hr (by first | rfl | decide | assumption) dX8_papers_7 (RP.of rfl hs KE.rf)
theorem c_X8_chunks {l : Launch} {G : AG} {M : AM} {x D : Nat} {τ : TS} (hs : isRS G M x D τ) : Cn l G yX8_chunks cX8_chunks 1 (some .int) rX8_chunks M [.ref x] (RP Value.int G M x D (spChunks τ)) := by
  obtain ⟨s, sh, sA, sL, sg0⟩ := hs.2.2.2.2.2.2.2.2.1
  refine Cn.of (by decide) [some (.ref x)] rfl (Nat.le_of_ble_eq_true rfl) ?_
  intro Z hZ
  obtain ⟨rfl, hn, rfl, hR, X, hr, hnm⟩ := hZ
  refine aw_aload0 X dX8_chunks_0 ?_
  refine aw_get X fX8_42 dX8_chunks_1 (hs.at) rfl ?_
  refine aw_callV X (c_X5_countChunks sh sA) kX8_238 (ci := 6) rfl (sh.at) dX8_chunks_4 rfl rfl (by first | decide | exact Nat.le_of_ble_eq_true rfl) (by rw [hR]; exact ⟨by first | decide | exact Nat.le_of_ble_eq_true rfl | (dsimp only; omega), by first | decide | exact Nat.le_of_ble_eq_true rfl | (dsimp only; omega)⟩) (by rw [hR]; exact ⟨by first | decide | exact Nat.le_of_ble_eq_true rfl | (dsimp only; omega), by first | decide | exact Nat.le_of_ble_eq_true rfl | (dsimp only; omega)⟩) (fun v M1 hv => ?_)
  obtain ⟨rfl, rfl⟩ := hv
  refine aw_int (congrArg nI (sL.sums sA (fun _ => 1))) ?_
  refine aw_ireturn X (ty := .int) hr (by first | rfl | decide | assumption) dX8_chunks_7 (RP.of rfl hs KE.rf)
theorem c_X8_heldBytes {l : Launch} {G : AG} {M : AM} {x D : Nat} {τ : TS} (hs : isRS G M x D τ) : Cn l G yX8_heldBytes cX8_heldBytes 1 (some .int) rX8_heldBytes M [.ref x] (RP Value.int G M x D (spHeldBytes τ)) := by
  obtain ⟨s, sh, sA, sL, sg0⟩ := hs.2.2.2.2.2.2.2.2.1
  refine Cn.of (by decide) [some (.ref x)] rfl (Nat.le_of_ble_eq_true rfl) ?_
  intro Z hZ
  obtain ⟨rfl, hn, rfl, hR, X, hr, hnm⟩ := hZ
  refine aw_aload0 X dX8_heldBytes_0 ?_
  refine aw_get X fX8_42 dX8_heldBytes_1 (hs.at) rfl ?_
  refine aw_callV X (c_X5_countBytes sh sA) kX8_241 (ci := 6) rfl (sh.at) dX8_heldBytes_4 rfl rfl (by first | decide | exact Nat.le_of_ble_eq_true rfl) (by rw [hR]; exact ⟨by first | decide | exact Nat.le_of_ble_eq_true rfl | (dsimp only; omega), by first | decide | exact Nat.le_of_ble_eq_true rfl | (dsimp only; omega)⟩) (by rw [hR]; exact ⟨by first | decide | exact Nat.le_of_ble_eq_true rfl | (dsimp only; omega), by first | decide | exact Nat.le_of_ble_eq_true rfl | (dsimp only; omega)⟩) (fun v M1 hv => ?_)
  obtain ⟨rfl, rfl⟩ := hv
  refine aw_int (congrArg nI (sL.sums sA List.length)) ?_
  refine aw_ireturn X (ty := .int) hr (by first | rfl | decide | assumption) dX8_heldBytes_7 (RP.of rfl hs KE.rf)
theorem c_X8_parts {l : Launch} {G : AG} {M : AM} {x D : Nat} {τ : TS} {p : Int32} (hfl : l.stackTraces = false) (hs : isRS G M x D τ) : Cx l G yX8_parts cX8_parts 2 (some .int) { rX8_parts with cells := 2, slots := 12 } M [.ref x, .int p] (RP Value.int G M x D (spParts τ p)) (RX G M x D (spParts τ p) ecI) := by
  have hn6 := hs.1
  obtain ⟨fa, fa1, fa2⟩ := hs.2.2.2.1
  obtain ⟨sa, sa1, sa2⟩ := hs.2.2.2.2.1
  obtain ⟨da, da1, da2⟩ := hs.2.2.2.2.2.1
  obtain ⟨s, sh, sA, sL, sg0⟩ := hs.2.2.2.2.2.2.2.2.1
  obtain ⟨s1, ⟨pf, p1, p2⟩, s3, s4, s5⟩ := id sh
  have sA1 := sA.1
  have hxD := hs.2.1
  refine Cx.of (by decide) [some (.ref x), some (.int p)] rfl (Nat.le_of_ble_eq_true rfl) ?_
  intro Z hZ hT
  obtain ⟨rfl, hn, rfl, hR, X, hr, hnm⟩ := hZ
  refine aw_aload0 X dX8_parts_0 ?_
  refine aw_iload1 X dX8_parts_1 ?_
  refine aw_callVX X (c_X8_checkPaper hfl hs) kX8_220 (ci := 9) rfl (hs.at) dX8_parts_2 rfl rfl (by first | decide | exact Nat.le_of_ble_eq_true rfl) (by rw [hR]; exact ⟨by first | decide | exact Nat.le_of_ble_eq_true rfl | (dsimp only; omega), by first | decide | exact Nat.le_of_ble_eq_true rfl | (dsimp only; omega)⟩) (by rw [hR]; exact ⟨by first | decide | exact Nat.le_of_ble_eq_true rfl | (dsimp only; omega), by first | decide | exact Nat.le_of_ble_eq_true rfl | (dsimp only; omega)⟩) (fun v M1 hv => ?_) (fun E M1 h1 => ?_)
  · obtain ⟨rfl, rfl, h1⟩ := hv
    obtain ⟨j1, j2, j3⟩ := inI_j h1.1 (by omega)
    have hpp := s4 (ix p) j1
    obtain ⟨mc, l1⟩ := hpp.2.at
    refine aw_aload0 X dX8_parts_5 ?_
    refine aw_get X fX8_42 dX8_parts_6 (hs.at) rfl ?_
    refine aw_get X fX8_226 dX8_parts_9 (s1) rfl ?_
    refine aw_iload1 X dX8_parts_12 ?_
    refine aw_aald X at_7 dX8_parts_13 p1 j2 j1 (by decide) ?_
    refine aw_rf (p2 _ j1) ?_
    refine aw_get X fX8_244 dX8_parts_14 (hpp.1) rfl ?_
    refine aw_callV X (c_ls_size hpp.2) kX8_248 (ci := 0) rfl (l1) dX8_parts_17 rfl rfl (by first | decide | exact Nat.le_of_ble_eq_true rfl) (by rw [hR]; exact ⟨by first | decide | exact Nat.le_of_ble_eq_true rfl | (dsimp only; omega), by first | decide | exact Nat.le_of_ble_eq_true rfl | (dsimp only; omega)⟩) (by rw [hR]; exact ⟨by first | decide | exact Nat.le_of_ble_eq_true rfl | (dsimp only; omega), by first | decide | exact Nat.le_of_ble_eq_true rfl | (dsimp only; omega)⟩) (fun v M1 hv => ?_)
    obtain ⟨rfl, rfl⟩ := hv
    have hlen : (sNm s (ix p)).length = (tL τ p).length := by rw [← show (sNm s (ix p)).map s.2.2.2.1 = tL τ p from sL.2.1 _ j1, List.length_map]
    refine aw_int (congrArg nI hlen) ?_
    refine aw_ireturn X (ty := .int) hr (by first | rfl | decide | assumption) dX8_parts_20 (RP.of (by rw [spParts, if_pos h1]) hs KE.rf)
  · obtain ⟨e1, e2, e3⟩ := h1
    refine ax_out X hT (Nat.le_of_ble_eq_true rfl) (Nat.le_of_ble_eq_true rfl) (RX.of (k := 1) (by rw [spParts, if_neg e3]) (by decide) e1 hs e2)
theorem c_X8_partLength {l : Launch} {G : AG} {M : AM} {x D : Nat} {τ : TS} {p k : Int32} (hfl : l.stackTraces = false) (hs : isRS G M x D τ) : Cx l G yX8_partLength cX8_partLength 3 (some .int) { rX8_partLength with cells := 3, slots := 18 } M [.ref x, .int p, .int k] (RP Value.int G M x D (spPartLen τ p k)) (RX G M x D (spPartLen τ p k) ecI) := by
  have hn6 := hs.1
  obtain ⟨fa, fa1, fa2⟩ := hs.2.2.2.1
  obtain ⟨sa, sa1, sa2⟩ := hs.2.2.2.2.1
  obtain ⟨da, da1, da2⟩ := hs.2.2.2.2.2.1
  obtain ⟨s, sh, sA, sL, sg0⟩ := hs.2.2.2.2.2.2.2.2.1
  obtain ⟨s1, ⟨pf, p1, p2⟩, s3, s4, s5⟩ := id sh
  have sA1 := sA.1
  have hxD := hs.2.1
  refine Cx.of (by decide) [some (.ref x), some (.int p), some (.int k)] rfl (Nat.le_of_ble_eq_true rfl) ?_
  intro Z hZ hT
  obtain ⟨rfl, hn, rfl, hR, X, hr, hnm⟩ := hZ
  refine aw_aload0 X dX8_partLength_0 ?_
  refine aw_iload1 X dX8_partLength_1 ?_
  refine aw_callVX X (c_X8_checkPaper hfl hs) kX8_220 (ci := 9) rfl (hs.at) dX8_partLength_2 rfl rfl (by first | decide | exact Nat.le_of_ble_eq_true rfl) (by rw [hR]; exact ⟨by first | decide | exact Nat.le_of_ble_eq_true rfl | (dsimp only; omega), by first | decide | exact Nat.le_of_ble_eq_true rfl | (dsimp only; omega)⟩) (by rw [hR]; exact ⟨by first | decide | exact Nat.le_of_ble_eq_true rfl | (dsimp only; omega), by first | decide | exact Nat.le_of_ble_eq_true rfl | (dsimp only; omega)⟩) (fun v M1 hv => ?_) (fun E M1 h1 => ?_)
  · obtain ⟨rfl, rfl, h1⟩ := hv
    obtain ⟨j1, j2, j3⟩ := inI_j h1.1 (by omega)
    have hpp := s4 (ix p) j1
    obtain ⟨mc, l1⟩ := hpp.2.at
    have hlen : (sNm s (ix p)).length = (tL τ p).length := by rw [← show (sNm s (ix p)).map s.2.2.2.1 = tL τ p from sL.2.1 _ j1, List.length_map]
    have hln := sL.len j1
    refine aw_iload2 X dX8_partLength_5 ?_
    refine aw_aload0 X dX8_partLength_6 ?_
    refine aw_get X fX8_42 dX8_partLength_7 (hs.at) rfl ?_
    refine aw_get X fX8_226 dX8_partLength_10 (s1) rfl ?_
    refine aw_iload1 X dX8_partLength_13 ?_
    refine aw_aald X at_7 dX8_partLength_14 p1 j2 j1 (by decide) ?_
    refine aw_rf (p2 _ j1) ?_
    refine aw_get X fX8_244 dX8_partLength_15 (hpp.1) rfl ?_
    refine aw_callV X (c_ls_size hpp.2) kX8_248 (ci := 0) rfl (l1) dX8_partLength_18 rfl rfl (by first | decide | exact Nat.le_of_ble_eq_true rfl) (by rw [hR]; exact ⟨by first | decide | exact Nat.le_of_ble_eq_true rfl | (dsimp only; omega), by first | decide | exact Nat.le_of_ble_eq_true rfl | (dsimp only; omega)⟩) (by rw [hR]; exact ⟨by first | decide | exact Nat.le_of_ble_eq_true rfl | (dsimp only; omega), by first | decide | exact Nat.le_of_ble_eq_true rfl | (dsimp only; omega)⟩) (fun v M1 hv => ?_)
    obtain ⟨rfl, rfl⟩ := hv
    refine aw_callSX X (c_X8_checkIndex hfl) kX8_75 dX8_partLength_21 rfl rfl (by first | decide | exact Nat.le_of_ble_eq_true rfl) (by rw [hR]; exact ⟨by first | decide | exact Nat.le_of_ble_eq_true rfl | (dsimp only; omega), by first | decide | exact Nat.le_of_ble_eq_true rfl | (dsimp only; omega)⟩) (by rw [hR]; exact ⟨by first | decide | exact Nat.le_of_ble_eq_true rfl | (dsimp only; omega), by first | decide | exact Nat.le_of_ble_eq_true rfl | (dsimp only; omega)⟩) (fun v M1 hv => ?_) (fun E M1 h1 => ?_)
    · obtain ⟨rfl, rfl, h2⟩ := hv
      have h2 : inI k (sNm s (ix p)).length := h2
      obtain ⟨k4, k2, k3⟩ := inI_j h2 (by omega)
      have h3 : isK τ p k := ⟨h1, by rw [← hlen]; exact h2⟩
      have hbk : s.2.2.2.1 ((sNm s (ix p)).getD (ix k) 0) = (tL τ p).getD (ix k) [] := by
        rw [← show (sNm s (ix p)).map s.2.2.2.1 = tL τ p from sL.2.1 _ j1, List.getD_eq_getElem?_getD, List.getD_eq_getElem?_getD, List.getElem?_map, List.getElem?_eq_getElem k4]
        rfl
      have hcc := s5 _ (sL.2.2.1 _ j1 _ (getN_mem k4))
      have hcap := (sA.2.2.2.1 _ j1).2.1
      refine aw_aload0 X dX8_partLength_24 ?_
      refine aw_get X fX8_42 dX8_partLength_25 (hs.at) rfl ?_
      refine aw_get X fX8_226 dX8_partLength_28 (s1) rfl ?_
      refine aw_iload1 X dX8_partLength_31 ?_
      refine aw_aald X at_7 dX8_partLength_32 p1 j2 j1 (by decide) ?_
      refine aw_rf (p2 _ j1) ?_
      refine aw_get X fX8_244 dX8_partLength_33 (hpp.1) rfl ?_
      refine aw_iload2 X dX8_partLength_36 ?_
      rw [show (Value.int k) = .int (nI (ix k)) from congrArg Value.int k2]
      refine aw_callV X (c_ls_get hpp.2 k4 (by omega)) kX8_252 (ci := 0) rfl (l1) dX8_partLength_37 rfl rfl (by first | decide | exact Nat.le_of_ble_eq_true rfl) (by rw [hR]; exact ⟨by first | decide | exact Nat.le_of_ble_eq_true rfl | (dsimp only; omega), by first | decide | exact Nat.le_of_ble_eq_true rfl | (dsimp only; omega)⟩) (by rw [hR]; exact ⟨by first | decide | exact Nat.le_of_ble_eq_true rfl | (dsimp only; omega), by first | decide | exact Nat.le_of_ble_eq_true rfl | (dsimp only; omega)⟩) (fun v M1 hv => ?_)
      obtain ⟨rfl, rfl⟩ := hv
      refine aw_cast X cnX8_256 dX8_partLength_40 (hcc.at) ?_
      refine aw_get X fX8_258 dX8_partLength_43 (hcc.at) rfl ?_
      have hb : s.2.2.2.1 ((sNm s (ix p)).getD (ix k) 0) = (tL τ p).getD (ix k) [] := hbk
      refine aw_int (congrArg (fun b => nI (List.length b)) hb) ?_
      refine aw_ireturn X (ty := .int) hr (by first | rfl | decide | assumption) dX8_partLength_46 (RP.of (by rw [spPartLen, if_pos h3]) hs KE.rf)
    · obtain ⟨e1, e2, e3⟩ := h1
      refine ax_out X hT (Nat.le_of_ble_eq_true rfl) (Nat.le_of_ble_eq_true rfl) (RX.of (k := 1) (by rw [spPartLen, if_neg (fun h => e3 (by have := h.2; rw [← hlen] at this; exact this))]) (by decide) e1 hs e2)
  · obtain ⟨e1, e2, e3⟩ := h1
    refine ax_out X hT (Nat.le_of_ble_eq_true rfl) (Nat.le_of_ble_eq_true rfl) (RX.of (k := 1) (by rw [spPartLen, if_neg (fun h => e3 h.1)]) (by decide) e1 hs e2)
theorem c_X8_shared {l : Launch} {G : AG} {M : AM} {x D : Nat} {τ : TS} {p k : Int32} (hfl : l.stackTraces = false) (hs : isRS G M x D τ) : Cx l G yX8_shared cX8_shared 3 (some .int) { rX8_shared with cells := 3, slots := 18 } M [.ref x, .int p, .int k] (RP Value.int G M x D (spShared τ p k)) (RX G M x D (spShared τ p k) ecI) := by
  have hn6 := hs.1
  obtain ⟨fa, fa1, fa2⟩ := hs.2.2.2.1
  obtain ⟨sa, sa1, sa2⟩ := hs.2.2.2.2.1
  obtain ⟨da, da1, da2⟩ := hs.2.2.2.2.2.1
  obtain ⟨s, sh, sA, sL, sg0⟩ := hs.2.2.2.2.2.2.2.2.1
  obtain ⟨s1, ⟨pf, p1, p2⟩, s3, s4, s5⟩ := id sh
  have sA1 := sA.1
  have hxD := hs.2.1
  refine Cx.of (by decide) [some (.ref x), some (.int p), some (.int k)] rfl (Nat.le_of_ble_eq_true rfl) ?_
  intro Z hZ hT
  obtain ⟨rfl, hn, rfl, hR, X, hr, hnm⟩ := hZ
  refine aw_aload0 X dX8_shared_0 ?_
  refine aw_iload1 X dX8_shared_1 ?_
  refine aw_callVX X (c_X8_checkPaper hfl hs) kX8_220 (ci := 9) rfl (hs.at) dX8_shared_2 rfl rfl (by first | decide | exact Nat.le_of_ble_eq_true rfl) (by rw [hR]; exact ⟨by first | decide | exact Nat.le_of_ble_eq_true rfl | (dsimp only; omega), by first | decide | exact Nat.le_of_ble_eq_true rfl | (dsimp only; omega)⟩) (by rw [hR]; exact ⟨by first | decide | exact Nat.le_of_ble_eq_true rfl | (dsimp only; omega), by first | decide | exact Nat.le_of_ble_eq_true rfl | (dsimp only; omega)⟩) (fun v M1 hv => ?_) (fun E M1 h1 => ?_)
  · obtain ⟨rfl, rfl, h1⟩ := hv
    obtain ⟨j1, j2, j3⟩ := inI_j h1.1 (by omega)
    have hpp := s4 (ix p) j1
    obtain ⟨mc, l1⟩ := hpp.2.at
    have hlen : (sNm s (ix p)).length = (tL τ p).length := by rw [← show (sNm s (ix p)).map s.2.2.2.1 = tL τ p from sL.2.1 _ j1, List.length_map]
    have hln := sL.len j1
    refine aw_iload2 X dX8_shared_5 ?_
    refine aw_aload0 X dX8_shared_6 ?_
    refine aw_get X fX8_42 dX8_shared_7 (hs.at) rfl ?_
    refine aw_get X fX8_226 dX8_shared_10 (s1) rfl ?_
    refine aw_iload1 X dX8_shared_13 ?_
    refine aw_aald X at_7 dX8_shared_14 p1 j2 j1 (by decide) ?_
    refine aw_rf (p2 _ j1) ?_
    refine aw_get X fX8_244 dX8_shared_15 (hpp.1) rfl ?_
    refine aw_callV X (c_ls_size hpp.2) kX8_248 (ci := 0) rfl (l1) dX8_shared_18 rfl rfl (by first | decide | exact Nat.le_of_ble_eq_true rfl) (by rw [hR]; exact ⟨by first | decide | exact Nat.le_of_ble_eq_true rfl | (dsimp only; omega), by first | decide | exact Nat.le_of_ble_eq_true rfl | (dsimp only; omega)⟩) (by rw [hR]; exact ⟨by first | decide | exact Nat.le_of_ble_eq_true rfl | (dsimp only; omega), by first | decide | exact Nat.le_of_ble_eq_true rfl | (dsimp only; omega)⟩) (fun v M1 hv => ?_)
    obtain ⟨rfl, rfl⟩ := hv
    refine aw_callSX X (c_X8_checkIndex hfl) kX8_75 dX8_shared_21 rfl rfl (by first | decide | exact Nat.le_of_ble_eq_true rfl) (by rw [hR]; exact ⟨by first | decide | exact Nat.le_of_ble_eq_true rfl | (dsimp only; omega), by first | decide | exact Nat.le_of_ble_eq_true rfl | (dsimp only; omega)⟩) (by rw [hR]; exact ⟨by first | decide | exact Nat.le_of_ble_eq_true rfl | (dsimp only; omega), by first | decide | exact Nat.le_of_ble_eq_true rfl | (dsimp only; omega)⟩) (fun v M1 hv => ?_) (fun E M1 h1 => ?_)
    · obtain ⟨rfl, rfl, h2⟩ := hv
      have h2 : inI k (sNm s (ix p)).length := h2
      obtain ⟨k4, k2, k3⟩ := inI_j h2 (by omega)
      have h3 : isK τ p k := ⟨h1, by rw [← hlen]; exact h2⟩
      have hbk : s.2.2.2.1 ((sNm s (ix p)).getD (ix k) 0) = (tL τ p).getD (ix k) [] := by
        rw [← show (sNm s (ix p)).map s.2.2.2.1 = tL τ p from sL.2.1 _ j1, List.getD_eq_getElem?_getD, List.getD_eq_getElem?_getD, List.getElem?_map, List.getElem?_eq_getElem k4]
        rfl
      have hcc := s5 _ (sL.2.2.1 _ j1 _ (getN_mem k4))
      have hcap := (sA.2.2.2.1 _ j1).2.1
      refine aw_aload0 X dX8_shared_24 ?_
      refine aw_get X fX8_42 dX8_shared_25 (hs.at) rfl ?_
      refine aw_get X fX8_226 dX8_shared_28 (s1) rfl ?_
      refine aw_iload1 X dX8_shared_31 ?_
      refine aw_aald X at_7 dX8_shared_32 p1 j2 j1 (by decide) ?_
      refine aw_rf (p2 _ j1) ?_
      refine aw_get X fX8_244 dX8_shared_33 (hpp.1) rfl ?_
      refine aw_iload2 X dX8_shared_36 ?_
      rw [show (Value.int k) = .int (nI (ix k)) from congrArg Value.int k2]
      refine aw_callV X (c_ls_get hpp.2 k4 (by omega)) kX8_252 (ci := 0) rfl (l1) dX8_shared_37 rfl rfl (by first | decide | exact Nat.le_of_ble_eq_true rfl) (by rw [hR]; exact ⟨by first | decide | exact Nat.le_of_ble_eq_true rfl | (dsimp only; omega), by first | decide | exact Nat.le_of_ble_eq_true rfl | (dsimp only; omega)⟩) (by rw [hR]; exact ⟨by first | decide | exact Nat.le_of_ble_eq_true rfl | (dsimp only; omega), by first | decide | exact Nat.le_of_ble_eq_true rfl | (dsimp only; omega)⟩) (fun v M1 hv => ?_)
      obtain ⟨rfl, rfl⟩ := hv
      refine aw_cast X cnX8_256 dX8_shared_40 (hcc.at) ?_
      refine aw_get X fX8_259 dX8_shared_43 (hcc.at) rfl ?_
      have hb : s.2.2.2.1 ((sNm s (ix p)).getD (ix k) 0) = (tL τ p).getD (ix k) [] := hbk
      have ht := sL.times (mem_allK.mpr ⟨ix p, j1, getN_mem k4⟩)
      rw [hb] at ht
      refine aw_int (congrArg nI ht) ?_
      refine aw_ireturn X (ty := .int) hr (by first | rfl | decide | assumption) dX8_shared_46 (RP.of (by rw [spShared, if_pos h3]) hs KE.rf)
    · obtain ⟨e1, e2, e3⟩ := h1
      refine ax_out X hT (Nat.le_of_ble_eq_true rfl) (Nat.le_of_ble_eq_true rfl) (RX.of (k := 1) (by rw [spShared, if_neg (fun h => e3 (by have := h.2; rw [← hlen] at this; exact this))]) (by decide) e1 hs e2)
  · obtain ⟨e1, e2, e3⟩ := h1
    refine ax_out X hT (Nat.le_of_ble_eq_true rfl) (Nat.le_of_ble_eq_true rfl) (RX.of (k := 1) (by rw [spShared, if_neg (fun h => e3 h.1)]) (by decide) e1 hs e2)
theorem c_X8_cuts {l : Launch} {G : AG} {M : AM} {x D : Nat} {τ : TS} {a b c : Int32} (hfl : l.stackTraces = false) (hs : isRS G M x D τ) : Cx l G yX8_cuts cX8_cuts 4 none { rX8_cuts with cells := 3, slots := 18 } M [.ref x, .int a, .int b, .int c] (RPv G M x D (spCuts τ a b c)) (RX G M x D (spCuts τ a b c) (fun _ => exA)) := by
  have hn6 := hs.1
  obtain ⟨fa, fa1, fa2⟩ := hs.2.2.2.1
  obtain ⟨sa, sa1, sa2⟩ := hs.2.2.2.2.1
  obtain ⟨da, da1, da2⟩ := hs.2.2.2.2.2.1
  obtain ⟨s, sh, sA, sL, sg0⟩ := hs.2.2.2.2.2.2.2.2.1
  obtain ⟨s1, ⟨pf, p1, p2⟩, s3, s4, s5⟩ := id sh
  have sA1 := sA.1
  have hxD := hs.2.1
  refine Cx.of (by decide) [some (.ref x), some (.int a), some (.int b), some (.int c)] rfl (Nat.le_of_ble_eq_true rfl) ?_
  intro Z hZ hT
  obtain ⟨rfl, hn, rfl, hR, X, hr, hnm⟩ := hZ
  refine aw_iload1 X dX8_cuts_0 ?_
  refine aw_iconst X dX8_cuts_1 (v := nI 1) (by decide) ?_
  refine aw_bipush X dX8_cuts_2 (v := nI 16) (by decide) ?_
  refine aw_callSX X (c_X8_checkRange hfl) kX8_63 dX8_cuts_4 rfl rfl (by first | decide | exact Nat.le_of_ble_eq_true rfl) (by rw [hR]; exact ⟨by first | decide | exact Nat.le_of_ble_eq_true rfl | (dsimp only; omega), by first | decide | exact Nat.le_of_ble_eq_true rfl | (dsimp only; omega)⟩) (by rw [hR]; exact ⟨by first | decide | exact Nat.le_of_ble_eq_true rfl | (dsimp only; omega), by first | decide | exact Nat.le_of_ble_eq_true rfl | (dsimp only; omega)⟩) (fun v M1 hv => ?_) (fun E M1 h1 => ?_)
  · obtain ⟨rfl, rfl, h1⟩ := hv
    obtain ⟨a1, a2, a3⟩ := rgI_j h1 (by omega) (by omega)
    refine aw_iload2 X dX8_cuts_7 ?_
    refine aw_iload1 X dX8_cuts_8 ?_
    refine aw_bipush X dX8_cuts_9 (v := nI 40) (by decide) ?_
    refine aw_callSX X (c_X8_checkRange hfl) kX8_63 dX8_cuts_11 rfl rfl (by first | decide | exact Nat.le_of_ble_eq_true rfl) (by rw [hR]; exact ⟨by first | decide | exact Nat.le_of_ble_eq_true rfl | (dsimp only; omega), by first | decide | exact Nat.le_of_ble_eq_true rfl | (dsimp only; omega)⟩) (by rw [hR]; exact ⟨by first | decide | exact Nat.le_of_ble_eq_true rfl | (dsimp only; omega), by first | decide | exact Nat.le_of_ble_eq_true rfl | (dsimp only; omega)⟩) (fun v M1 hv => ?_) (fun E M1 h1 => ?_)
    · obtain ⟨rfl, rfl, h2⟩ := hv
      have h2' := h2
      rw [a3] at h2'
      obtain ⟨b1, b2, b3⟩ := rgI_j h2' (by omega) (by omega)
      refine aw_iload3 X dX8_cuts_14 ?_
      refine aw_iconst X dX8_cuts_15 (v := nI 1) (by decide) ?_
      refine aw_bipush X dX8_cuts_16 (v := nI 64) (by decide) ?_
      refine aw_callSX X (c_X8_checkRange hfl) kX8_63 dX8_cuts_18 rfl rfl (by first | decide | exact Nat.le_of_ble_eq_true rfl) (by rw [hR]; exact ⟨by first | decide | exact Nat.le_of_ble_eq_true rfl | (dsimp only; omega), by first | decide | exact Nat.le_of_ble_eq_true rfl | (dsimp only; omega)⟩) (by rw [hR]; exact ⟨by first | decide | exact Nat.le_of_ble_eq_true rfl | (dsimp only; omega), by first | decide | exact Nat.le_of_ble_eq_true rfl | (dsimp only; omega)⟩) (fun v M1 hv => ?_) (fun E M1 h1 => ?_)
      · obtain ⟨rfl, rfl, h3⟩ := hv
        obtain ⟨c1, c2, c3⟩ := rgI_j h3 (by omega) (by omega)
        refine aw_aload0 X dX8_cuts_21 ?_
        refine aw_get X fX8_42 dX8_cuts_22 (hs.at) rfl ?_
        refine aw_iload1 X dX8_cuts_25 ?_
        refine aw_put2 X pX8_202 dX8_cuts_26 (s1) rfl rfl ?_
        refine aw_aload0 X dX8_cuts_29 ?_
        refine aw_get X fX8_42 dX8_cuts_30 ((am_un (by omega)).trans hs.at) rfl ?_
        refine aw_iload2 X dX8_cuts_33 ?_
        refine aw_put3 X pX8_205 dX8_cuts_34 (am_us) rfl rfl ?_
        rw [am_uu]
        refine aw_aload0 X dX8_cuts_37 ?_
        refine aw_get X fX8_42 dX8_cuts_38 ((am_un (by omega)).trans hs.at) rfl ?_
        refine aw_iload3 X dX8_cuts_41 ?_
        refine aw_put4 X pX8_208 dX8_cuts_42 (am_us) rfl rfl ?_
        rw [am_uu]
        have ku : KE M1 (am_up M1 (x + 196) (am_o 6 [.ref (x + 196 + 1), .ref (x + 196 + 2), .int a, .int b, .int c])) (fun q => q = x + 196) := KE.up
        have sh2 : isShM (zG Z) (am_up M1 (x + 196) (am_o 6 [.ref (x + 196 + 1), .ref (x + 196 + 2), .int a, .int b, .int c])) (x + 196) ((ix a, ix b, ix c), s.2) := by
          obtain ⟨A1, A2, A3, A4, A5, A6, A7, A8⟩ := sA
          refine ⟨?_, ⟨pf, ku _ _ p1 (by omega), p2⟩, s3.ke ku (by omega) (fun h0 => by have := A3 h0; omega), fun i hi => (s4 i hi).ke ku (by omega) (by omega) (fun h0 => by have := ((A4 i hi).2.2 h0).1; omega), fun c hc => (s5 c hc).ke ku (by have := (A7 c hc).1; omega) (by have := (A7 c hc).1; omega)⟩
          rw [am_us, a3, b3, c3]
          simp only [ix, nI_clamp (show ix a < 2 ^ 31 by omega), nI_clamp (show ix b < 2 ^ 31 by omega), nI_clamp (show ix c < 2 ^ 31 by omega)]
        have sA2 : shA D (x + 196) ((ix a, ix b, ix c), s.2) := by
          obtain ⟨A1, A2, A3, A4, A5, A6, A7, A8⟩ := sA
          exact ⟨A1, A2, A3, A4, A5, A6, A7, a1, a2, b1, b2, c1, c2⟩
        have sL2 : shL ((ix a, ix b, ix c), s.2) τ.2.2.2.2.2 := sL
        refine aw_vreturn X hr dX8_cuts_45 (RPv.of (by rw [spCuts, if_pos ⟨h1, h2, h3⟩]) (hs.shelf sh2 sA2 sL2 (ku.mono (fun q e => by omega))) (ku.mono (fun q e => by omega)))
      · obtain ⟨e1, e2, e3⟩ := h1
        refine ax_out X hT (Nat.le_of_ble_eq_true rfl) (Nat.le_of_ble_eq_true rfl) (RX.of (k := 1) (by rw [spCuts, if_neg (fun h => e3 h.2.2)]) (by decide) e1 hs e2)
    · obtain ⟨e1, e2, e3⟩ := h1
      refine ax_out X hT (Nat.le_of_ble_eq_true rfl) (Nat.le_of_ble_eq_true rfl) (RX.of (k := 1) (by rw [spCuts, if_neg (fun h => e3 h.2.1)]) (by decide) e1 hs e2)
  · obtain ⟨e1, e2, e3⟩ := h1
    refine ax_out X hT (Nat.le_of_ble_eq_true rfl) (Nat.le_of_ble_eq_true rfl) (RX.of (k := 1) (by rw [spCuts, if_neg (fun h => e3 h.1)]) (by decide) e1 hs e2)
theorem c_X8_release {l : Launch} {G : AG} {M : AM} {x D : Nat} {τ : TS} {p : Int32} (hfl : l.stackTraces = false) (hs : isRS G M x D τ) : Cx l G yX8_release cX8_release 2 (some .int) { rX8_release with cells := 2, slots := 12 } M [.ref x, .int p] (RP Value.int G M x D (spRelease τ p)) (RX G M x D (spRelease τ p) ecI) := by
  have hn6 := hs.1
  obtain ⟨fa, fa1, fa2⟩ := hs.2.2.2.1
  obtain ⟨sa, sa1, sa2⟩ := hs.2.2.2.2.1
  obtain ⟨da, da1, da2⟩ := hs.2.2.2.2.2.1
  obtain ⟨s, sh, sA, sL, sg0⟩ := hs.2.2.2.2.2.2.2.2.1
  obtain ⟨s1, ⟨pf, p1, p2⟩, s3, s4, s5⟩ := id sh
  have sA1 := sA.1
  have hxD := hs.2.1
  refine Cx.of (by decide) [some (.ref x), some (.int p)] rfl (Nat.le_of_ble_eq_true rfl) ?_
  intro Z hZ hT
  obtain ⟨rfl, hn, rfl, hR, X, hr, hnm⟩ := hZ
  refine aw_aload0 X dX8_release_0 ?_
  refine aw_iload1 X dX8_release_1 ?_
  refine aw_callVX X (c_X8_checkPaper hfl hs) kX8_220 (ci := 9) rfl (hs.at) dX8_release_2 rfl rfl (by first | decide | exact Nat.le_of_ble_eq_true rfl) (by rw [hR]; exact ⟨by first | decide | exact Nat.le_of_ble_eq_true rfl | (dsimp only; omega), by first | decide | exact Nat.le_of_ble_eq_true rfl | (dsimp only; omega)⟩) (by rw [hR]; exact ⟨by first | decide | exact Nat.le_of_ble_eq_true rfl | (dsimp only; omega), by first | decide | exact Nat.le_of_ble_eq_true rfl | (dsimp only; omega)⟩) (fun v M1 hv => ?_) (fun E M1 h1 => ?_)
  · obtain ⟨rfl, rfl, h1⟩ := hv
    obtain ⟨j1, j2, j3⟩ := inI_j h1.1 (by omega)
    refine aw_aload0 X dX8_release_5 ?_
    refine aw_get X fX8_42 dX8_release_6 (hs.at) rfl ?_
    refine aw_iload1 X dX8_release_9 ?_
    rw [show (Value.int p) = .int (nI (ix p)) from congrArg Value.int j2]
    refine aw_callV X (c_X5_dropPaper sh sA sL j1) kX8_223 (ci := 6) rfl (sh.at) dX8_release_10 rfl rfl (by first | decide | exact Nat.le_of_ble_eq_true rfl) (by rw [hR]; exact ⟨by first | decide | exact Nat.le_of_ble_eq_true rfl | (dsimp only; omega), by first | decide | exact Nat.le_of_ble_eq_true rfl | (dsimp only; omega)⟩) (by rw [hR]; exact ⟨by first | decide | exact Nat.le_of_ble_eq_true rfl | (dsimp only; omega), by first | decide | exact Nat.le_of_ble_eq_true rfl | (dsimp only; omega)⟩) (fun v M2 hv => ?_)
    obtain ⟨s', rfl, t1, t2, t3, t4, t5⟩ := hv
    have hs2 := hs.shelf t1 t2 t3 (t5.mono (fun q e => by omega))
    rw [t4, sg0] at hs2
    refine aw_int (congrArg nI (sL.dgone j1)) ?_
    refine aw_ireturn X (ty := .int) hr (by first | rfl | decide | assumption) dX8_release_13 (RP.of (by rw [spRelease, if_pos h1]) hs2 (t5.mono (fun q e => by omega)))
  · obtain ⟨e1, e2, e3⟩ := h1
    refine ax_out X hT (Nat.le_of_ble_eq_true rfl) (Nat.le_of_ble_eq_true rfl) (RX.of (k := 1) (by rw [spRelease, if_neg e3]) (by decide) e1 hs e2)
theorem c_X8_fetch {l : Launch} {G : AG} {M : AM} {x D : Nat} {τ : TS} {p f : Int32} (hfl : l.stackTraces = false) (hs : isRS G M x D τ) : Cx l G yX8_fetch cX8_fetch 3 (some .int) { rX8_fetch with cells := 3, slots := 18 } M [.ref x, .int p, .int f] (RP Value.int G M x D (spFetch τ p f)) (RX G M x D (spFetch τ p f) ecI) := by
  have hn6 := hs.1
  obtain ⟨fa, fa1, fa2⟩ := hs.2.2.2.1
  obtain ⟨sa, sa1, sa2⟩ := hs.2.2.2.2.1
  obtain ⟨da, da1, da2⟩ := hs.2.2.2.2.2.1
  obtain ⟨s, sh, sA, sL, sg0⟩ := hs.2.2.2.2.2.2.2.2.1
  obtain ⟨s1, ⟨pf, p1, p2⟩, s3, s4, s5⟩ := id sh
  have sA1 := sA.1
  have hxD := hs.2.1
  refine Cx.of (by decide) [some (.ref x), some (.int p), some (.int f)] rfl (Nat.le_of_ble_eq_true rfl) ?_
  intro Z hZ hT
  obtain ⟨rfl, hn, rfl, hR, X, hr, hnm⟩ := hZ
  refine aw_aload0 X dX8_fetch_0 ?_
  refine aw_iload1 X dX8_fetch_1 ?_
  refine aw_callVX X (c_X8_checkPaper hfl hs) kX8_220 (ci := 9) rfl (hs.at) dX8_fetch_2 rfl rfl (by first | decide | exact Nat.le_of_ble_eq_true rfl) (by rw [hR]; exact ⟨by first | decide | exact Nat.le_of_ble_eq_true rfl | (dsimp only; omega), by first | decide | exact Nat.le_of_ble_eq_true rfl | (dsimp only; omega)⟩) (by rw [hR]; exact ⟨by first | decide | exact Nat.le_of_ble_eq_true rfl | (dsimp only; omega), by first | decide | exact Nat.le_of_ble_eq_true rfl | (dsimp only; omega)⟩) (fun v M1 hv => ?_) (fun E M1 h1 => ?_)
  · obtain ⟨rfl, rfl, h1⟩ := hv
    obtain ⟨j1, j2, j3⟩ := inI_j h1.1 (by omega)
    refine aw_aload0 X dX8_fetch_5 ?_
    refine aw_iload2 X dX8_fetch_6 ?_
    refine aw_callVX X (c_X8_checkFile hfl hs) kX8_59 (ci := 9) rfl (hs.at) dX8_fetch_7 rfl rfl (by first | decide | exact Nat.le_of_ble_eq_true rfl) (by rw [hR]; exact ⟨by first | decide | exact Nat.le_of_ble_eq_true rfl | (dsimp only; omega), by first | decide | exact Nat.le_of_ble_eq_true rfl | (dsimp only; omega)⟩) (by rw [hR]; exact ⟨by first | decide | exact Nat.le_of_ble_eq_true rfl | (dsimp only; omega), by first | decide | exact Nat.le_of_ble_eq_true rfl | (dsimp only; omega)⟩) (fun v M1 hv => ?_) (fun E M1 h1 => ?_)
    · obtain ⟨rfl, rfl, h2⟩ := hv
      obtain ⟨k1, k2, k3⟩ := inI_j h2 (by omega)
      have hrow : isRow (zG Z) M1 (x + 223 + 2 * ix f) (tF τ f) := hs.2.2.2.2.2.2.2.2.2.1 (ix f) (by omega)
      have hpp := s4 (ix p) j1
      have hcap := (sA.2.2.2.1 _ j1).2
      have hfl9 : ((sNm s (ix p)).map s.2.2.2.1).flatten = (tL τ p).flatten := by rw [sL.2.1 _ j1]
      have hl9 : (tL τ p).flatten.length ≤ 120 := by
        cases hP : tP τ p with
        | none => simp [tL, hP]
        | some m =>
          have := (sL.2.2.2.2.2 _ j1 m hP).1
          simp only [tL, hP, Option.getD_some]
          exact this
      refine aw_aload0 X dX8_fetch_10 ?_
      refine aw_get X fX8_42 dX8_fetch_11 (hs.at) rfl ?_
      refine aw_get X fX8_226 dX8_fetch_14 (s1) rfl ?_
      refine aw_iload1 X dX8_fetch_17 ?_
      refine aw_aald X at_7 dX8_fetch_18 p1 j2 j1 (by decide) ?_
      refine aw_rf (p2 _ j1) ?_
      refine aw_aload0 X dX8_fetch_19 ?_
      refine aw_get X fX8_11 dX8_fetch_20 (hs.at) rfl ?_
      refine aw_iload2 X dX8_fetch_23 ?_
      refine aw_aald X at_3 dX8_fetch_24 fa1 k2 (by omega) (by decide) ?_
      refine aw_rf (fa2 _ (by omega)) ?_
      refine aw_callV X (c_X3_writeTo hpp (fun c hc => s5 c (sL.2.2.1 _ j1 c hc)) hrow (by omega) (fun h0 => by have := (hcap.2 h0).1; omega) (fun c hc => by have := (sA.2.2.2.2.2.2.1 c (sL.2.2.1 _ j1 c hc)).1; omega) (by omega) (by rw [show ((s.2.2.1 (ix p)).2.2.2.map s.2.2.2.1).flatten = (tL τ p).flatten from hfl9]; exact hl9)) kX8_230 (ci := 4) rfl (hpp.1) dX8_fetch_25 rfl rfl (by first | decide | exact Nat.le_of_ble_eq_true rfl) (by rw [hR]; exact ⟨by first | decide | exact Nat.le_of_ble_eq_true rfl | (dsimp only; omega), by first | decide | exact Nat.le_of_ble_eq_true rfl | (dsimp only; omega)⟩) (by rw [hR]; exact ⟨by first | decide | exact Nat.le_of_ble_eq_true rfl | (dsimp only; omega), by first | decide | exact Nat.le_of_ble_eq_true rfl | (dsimp only; omega)⟩) (fun v M2 hv => ?_)
      obtain ⟨rfl, q1, q2⟩ := hv
      rw [show ((s.2.2.1 (ix p)).2.2.2.map s.2.2.2.1).flatten = (tL τ p).flatten from hfl9] at q1
      have hs2 := hs.file (i := ix f) (by omega) q1 (KE.out q2)
      obtain ⟨f8, r8, -⟩ := id q1
      refine aw_aload0 X dX8_fetch_28 ?_
      refine aw_get X fX8_11 dX8_fetch_29 (hs2.at) rfl ?_
      refine aw_iload2 X dX8_fetch_32 ?_
      refine aw_aald X at_3 dX8_fetch_33 ((KE.out q2) _ _ fa1 (by omega)) k2 (by omega) (by decide) ?_
      refine aw_rf (fa2 _ (by omega)) ?_
      refine aw_get X fX8_67 dX8_fetch_34 (r8) rfl ?_
      refine aw_ireturn X (ty := .int) hr (by first | rfl | decide | assumption) dX8_fetch_37 (RP.of (by rw [spFetch, if_pos ⟨h1, h2⟩]) hs2 ((KE.out q2).mono (fun q e => by omega)))
    · obtain ⟨e1, e2, e3⟩ := h1
      refine ax_out X hT (Nat.le_of_ble_eq_true rfl) (Nat.le_of_ble_eq_true rfl) (RX.of (k := 1) (by rw [spFetch, if_neg (fun h => e3 h.2)]) (by decide) e1 hs e2)
  · obtain ⟨e1, e2, e3⟩ := h1
    refine ax_out X hT (Nat.le_of_ble_eq_true rfl) (Nat.le_of_ble_eq_true rfl) (RX.of (k := 1) (by rw [spFetch, if_neg (fun h => e3 h.1)]) (by decide) e1 hs e2)
theorem c_X8_store {l : Launch} {G : AG} {M : AM} {x D : Nat} {τ : TS} {f : Int32} (hfl : l.stackTraces = false) (hs : isRS G M x D τ) (hD : ∃ y, M.1 (D - 1) = some y) : Cx l G yX8_store cX8_store 3 (some .int) { rX8_store with cells := 482, slots := 9712 } M [.ref x, .int f] (RP Value.int G M x D (spStore τ f)) (RX G M x D (spStore τ f) ecIS) := by
  have hn6 := hs.1
  obtain ⟨fa, fa1, fa2⟩ := hs.2.2.2.1
  obtain ⟨sa, sa1, sa2⟩ := hs.2.2.2.2.1
  obtain ⟨da, da1, da2⟩ := hs.2.2.2.2.2.1
  obtain ⟨s, sh, sA, sL, sg0⟩ := hs.2.2.2.2.2.2.2.2.1
  obtain ⟨s1, ⟨pf, p1, p2⟩, s3, s4, s5⟩ := id sh
  have sA1 := sA.1
  have hxD := hs.2.1
  refine Cx.of (by decide) [some (.ref x), some (.int f), none] rfl (Nat.le_of_ble_eq_true rfl) ?_
  intro Z hZ hT
  obtain ⟨rfl, hn, rfl, hR, X, hr, hnm⟩ := hZ
  refine aw_aload0 X dX8_store_0 ?_
  refine aw_iload1 X dX8_store_1 ?_
  refine aw_callVX X (c_X8_checkFile hfl hs) kX8_59 (ci := 9) rfl (hs.at) dX8_store_2 rfl rfl (by first | decide | exact Nat.le_of_ble_eq_true rfl) (by rw [hR]; exact ⟨by first | decide | exact Nat.le_of_ble_eq_true rfl | (dsimp only; omega), by first | decide | exact Nat.le_of_ble_eq_true rfl | (dsimp only; omega)⟩) (by rw [hR]; exact ⟨by first | decide | exact Nat.le_of_ble_eq_true rfl | (dsimp only; omega), by first | decide | exact Nat.le_of_ble_eq_true rfl | (dsimp only; omega)⟩) (fun v M1 hv => ?_) (fun E M1 h1 => ?_)
  · obtain ⟨rfl, rfl, h1⟩ := hv
    obtain ⟨k1, k2, k3⟩ := inI_j h1 (by omega)
    have hrow : isRow (zG Z) M1 (x + 223 + 2 * ix f) (tF τ f) := hs.2.2.2.2.2.2.2.2.2.1 (ix f) (by omega)
    refine aw_aload0 X dX8_store_5 ?_
    refine aw_get X fX8_42 dX8_store_6 (hs.at) rfl ?_
    refine aw_callV X (c_X5_lowestFree sh sA) kX8_211 (ci := 6) rfl (sh.at) dX8_store_9 rfl rfl (by first | decide | exact Nat.le_of_ble_eq_true rfl) (by rw [hR]; exact ⟨by first | decide | exact Nat.le_of_ble_eq_true rfl | (dsimp only; omega), by first | decide | exact Nat.le_of_ble_eq_true rfl | (dsimp only; omega)⟩) (by rw [hR]; exact ⟨by first | decide | exact Nat.le_of_ble_eq_true rfl | (dsimp only; omega), by first | decide | exact Nat.le_of_ble_eq_true rfl | (dsimp only; omega)⟩) (fun v M1 hv => ?_)
    obtain ⟨rfl, rfl⟩ := hv
    rw [sL.free]
    refine aw_istore2 X dX8_store_12 (by rw [hn]; decide) rfl ?_
    refine aw_iload2 X dX8_store_13 ?_
    refine aw_iconst X dX8_store_14 (v := -1) (by decide) ?_
    cases hlo : lowest (fun i => (τ.2.2.2.2.2 i).isNone) 12 with
    | none =>
      refine aw_icmpne X dX8_store_15 (tgt := 28) (by decide) (fun c9 => by first | exact absurd (rfl) c9 | exact absurd c9 (rfl)) (fun _ => ?_)
      refine aw_throw X hfl th_ISE (text := "there are 12 papers") (by decide) dX8_store_18 dX8_store_21 dX8_store_22 dX8_store_24 dX8_store_27 hT (by rw [hR]; exact Nat.le_of_ble_eq_true rfl) (by rw [hR]; exact Nat.le_of_ble_eq_true rfl) (by rw [hR]; exact Nat.le_of_ble_eq_true rfl) (by rw [hR]; exact Nat.le_of_ble_eq_true rfl) (Nat.le_of_ble_eq_true rfl) (Nat.le_of_ble_eq_true rfl) (RX.of (k := 2) (by rw [spStore, if_pos h1, hlo]) (by decide) rfl hs rfl)
    | some p =>
      obtain ⟨q1, q2⟩ := lowest_some hlo
      have hP : τ.2.2.2.2.2 p = none := by simpa using q2
      refine aw_icmpne X dX8_store_15 (tgt := 28) (by decide) (fun _ => ?_) (fun c9 => by first | exact absurd (fun e => absurd e (by intro e9; have h9 := nI_pos' (n := p) (by omega); rw [show nI p = -1 from e9] at h9; exact absurd h9 (by decide))) c9 | exact absurd c9 (fun e => absurd e (by intro e9; have h9 := nI_pos' (n := p) (by omega); rw [show nI p = -1 from e9] at h9; exact absurd h9 (by decide))))
      refine aw_aload0 X dX8_store_28 ?_
      refine aw_get X fX8_42 dX8_store_29 (hs.at) rfl ?_
      refine aw_iload2 X dX8_store_32 ?_
      refine aw_aload0 X dX8_store_33 ?_
      refine aw_get X fX8_11 dX8_store_34 (hs.at) rfl ?_
      refine aw_iload1 X dX8_store_37 ?_
      refine aw_aald X at_3 dX8_store_38 fa1 k2 (by omega) (by decide) ?_
      refine aw_rf (fa2 _ (by omega)) ?_
      refine aw_callV X (c_X5_putPaper sh sA sL q1 hP hrow (by omega) hD) kX8_216 (ci := 6) rfl (sh.at) dX8_store_39 rfl rfl (by first | decide | exact Nat.le_of_ble_eq_true rfl) (by rw [hR]; exact ⟨by first | decide | exact Nat.le_of_ble_eq_true rfl | (dsimp only; omega), by first | decide | exact Nat.le_of_ble_eq_true rfl | (dsimp only; omega)⟩) (by rw [hR]; exact ⟨by first | decide | exact Nat.le_of_ble_eq_true rfl | (dsimp only; omega), by first | decide | exact Nat.le_of_ble_eq_true rfl | (dsimp only; omega)⟩) (fun v M2 hv => ?_)
      obtain ⟨s', rfl, t1, t2, t3, t4, t5⟩ := hv
      have hs2 := hs.shelf t1 t2 t3 (t5.mono (fun q e => by omega))
      rw [t4, sg0] at hs2
      refine aw_iload2 X dX8_store_42 ?_
      refine aw_widen (k' := 482) (n' := 9712) (Nat.le_of_ble_eq_true rfl) (Nat.le_of_ble_eq_true rfl) ?_
      refine aw_ireturn X (ty := .int) hr (by first | rfl | decide | assumption) dX8_store_43 (RP.of (by rw [spStore, if_pos h1, hlo]; rfl) hs2 (t5.mono (fun q e => by omega)))
  · obtain ⟨e1, e2, e3⟩ := h1
    refine ax_out X hT (Nat.le_of_ble_eq_true rfl) (Nat.le_of_ble_eq_true rfl) (RX.of (k := 1) (by rw [spStore, if_neg e3]) (by decide) e1 hs e2)
