/-! what the calls check -/
abbrev exI : String := "java/lang/IndexOutOfBoundsException"
abbrev exA : String := "java/lang/IllegalArgumentException"
abbrev exS : String := "java/lang/IllegalStateException"
abbrev inI (x : Int32) (n : Nat) : Prop := ¬ x < 0 ∧ x < nI n
abbrev rgI (x lo hi : Int32) : Prop := ¬ x < lo ∧ x ≤ hi
abbrev ix (x : Int32) : Nat := x.toNatClampNeg
theorem inI_j {x : Int32} {n : Nat} (h : inI x n) (hn : n < 2 ^ 31) : ix x < n ∧ x = nI (ix x) ∧ ix x < 2 ^ 31 := by
  obtain ⟨j, hj, rfl⟩ := nI_of h.1
  rw [ix, nI_clamp hj]
  exact ⟨(nI_ltI hj hn).mp h.2, rfl, hj⟩
theorem rgI_j {x : Int32} {a b : Nat} (h : rgI x (nI a) (nI b)) (ha : a < 2 ^ 31) (hb : b < 2 ^ 31) : a ≤ ix x ∧ ix x ≤ b ∧ x = nI (ix x) := by
  have h0 : ¬ x < 0 := fun e => h.1 (Int32.lt_of_lt_of_le e (nI_pos' ha))
  obtain ⟨j, hj, rfl⟩ := nI_of h0
  rw [ix, nI_clamp hj]
  refine ⟨?_, (nI_leI hj hb).mp h.2, rfl⟩
  rcases Nat.lt_or_ge j a with q | q
  · exact absurd (nI_lt q ha) h.1
  · exact q
theorem c_X8_checkIndex {l : Launch} {G : AG} {M : AM} {x : Int32} {n : Nat} (hfl : l.stackTraces = false) : Cx l G yX8_checkIndex cX8_checkIndex 2 none { rX8_checkIndex with cells := 1, slots := 6 } M [.int x, .int (nI n)] (fun v M' => v = none ∧ M' = M ∧ inI x n) (fun E M' => E = exI ∧ M' = (M.1, none) ∧ ¬ inI x n) := by
  refine Cx.of (by decide) [some (.int x), some (.int (nI n))] rfl (Nat.le_of_ble_eq_true rfl) ?_
  intro Z hZ hT
  obtain ⟨rfl, hn, rfl, hR, X, hr, hnm⟩ := hZ
  refine aw_iload0 X dX8_checkIndex_0 ?_
  refine aw_iflt X dX8_checkIndex_1 (tgt := 9) (by decide) (fun c => ?_) (fun c => ?_)
  · refine aw_throwW X hfl th_IOB (text := "no such number") (by decide) dX8_checkIndex_9 dX8_checkIndex_12 dX8_checkIndex_13 dX8_checkIndex_16 dX8_checkIndex_19 hT (by rw [hR]; exact Nat.le_of_ble_eq_true rfl) (by rw [hR]; exact Nat.le_of_ble_eq_true rfl) (by rw [hR]; exact Nat.le_of_ble_eq_true rfl) (by rw [hR]; exact Nat.le_of_ble_eq_true rfl) (Nat.le_of_ble_eq_true rfl) (Nat.le_of_ble_eq_true rfl) (⟨rfl, rfl, fun h => h.1 c⟩)
  · refine aw_iload0 X dX8_checkIndex_4 ?_
    refine aw_iload1 X dX8_checkIndex_5 ?_
    refine aw_icmplt X dX8_checkIndex_6 (tgt := 20) (by decide) (fun c2 => ?_) (fun c2 => ?_)
    · refine aw_widen (k' := 1) (n' := 6) (Nat.le_of_ble_eq_true rfl) (Nat.le_of_ble_eq_true rfl) ?_
      refine aw_vreturn X hr dX8_checkIndex_20 (⟨rfl, rfl, c, c2⟩)
    · refine aw_throwW X hfl th_IOB (text := "no such number") (by decide) dX8_checkIndex_9 dX8_checkIndex_12 dX8_checkIndex_13 dX8_checkIndex_16 dX8_checkIndex_19 hT (by rw [hR]; exact Nat.le_of_ble_eq_true rfl) (by rw [hR]; exact Nat.le_of_ble_eq_true rfl) (by rw [hR]; exact Nat.le_of_ble_eq_true rfl) (by rw [hR]; exact Nat.le_of_ble_eq_true rfl) (Nat.le_of_ble_eq_true rfl) (Nat.le_of_ble_eq_true rfl) (⟨rfl, rfl, fun h => c2 h.2⟩)
theorem c_X8_checkRange {l : Launch} {G : AG} {M : AM} {x lo hi : Int32} (hfl : l.stackTraces = false) : Cx l G yX8_checkRange cX8_checkRange 3 none { rX8_checkRange with cells := 1, slots := 6 } M [.int x, .int lo, .int hi] (fun v M' => v = none ∧ M' = M ∧ rgI x lo hi) (fun E M' => E = exA ∧ M' = (M.1, none) ∧ ¬ rgI x lo hi) := by
  refine Cx.of (by decide) [some (.int x), some (.int lo), some (.int hi)] rfl (Nat.le_of_ble_eq_true rfl) ?_
  intro Z hZ hT
  obtain ⟨rfl, hn, rfl, hR, X, hr, hnm⟩ := hZ
  refine aw_iload0 X dX8_checkRange_0 ?_
  refine aw_iload1 X dX8_checkRange_1 ?_
  refine aw_icmplt X dX8_checkRange_2 (tgt := 10) (by decide) (fun c => ?_) (fun c => ?_)
  · refine aw_throwW X hfl th_IAE (text := "out of its range") (by decide) dX8_checkRange_10 dX8_checkRange_13 dX8_checkRange_14 dX8_checkRange_17 dX8_checkRange_20 hT (by rw [hR]; exact Nat.le_of_ble_eq_true rfl) (by rw [hR]; exact Nat.le_of_ble_eq_true rfl) (by rw [hR]; exact Nat.le_of_ble_eq_true rfl) (by rw [hR]; exact Nat.le_of_ble_eq_true rfl) (Nat.le_of_ble_eq_true rfl) (Nat.le_of_ble_eq_true rfl) (⟨rfl, rfl, fun h => h.1 c⟩)
  · refine aw_iload0 X dX8_checkRange_5 ?_
    refine aw_iload2 X dX8_checkRange_6 ?_
    refine aw_icmple X dX8_checkRange_7 (tgt := 21) (by decide) (fun c2 => ?_) (fun c2 => ?_)
    · refine aw_widen (k' := 1) (n' := 6) (Nat.le_of_ble_eq_true rfl) (Nat.le_of_ble_eq_true rfl) ?_
      refine aw_vreturn X hr dX8_checkRange_21 (⟨rfl, rfl, c, c2⟩)
    · refine aw_throwW X hfl th_IAE (text := "out of its range") (by decide) dX8_checkRange_10 dX8_checkRange_13 dX8_checkRange_14 dX8_checkRange_17 dX8_checkRange_20 hT (by rw [hR]; exact Nat.le_of_ble_eq_true rfl) (by rw [hR]; exact Nat.le_of_ble_eq_true rfl) (by rw [hR]; exact Nat.le_of_ble_eq_true rfl) (by rw [hR]; exact Nat.le_of_ble_eq_true rfl) (Nat.le_of_ble_eq_true rfl) (Nat.le_of_ble_eq_true rfl) (⟨rfl, rfl, fun h => c2 h.2⟩)
theorem isRS.at {G : AG} {M : AM} {x D : Nat} {τ : TS} (h : isRS G M x D τ) : M.1 x = some (am_o 9 [.ref (x + 1), .ref (x + 2), .ref (x + 3), .ref (x + 4), .ref (x + 6), .ref (x + 196), .int (nI τ.1.1)]) := h.2.2.1
theorem isRS.fg {G : AG} {M : AM} {x D : Nat} {τ : TS} (h : isRS G M x D τ) : isRS G (M.1, none) x D τ := h
theorem c_X8_checkFile {l : Launch} {G : AG} {M : AM} {x D : Nat} {τ : TS} {f : Int32} (hfl : l.stackTraces = false) (hs : isRS G M x D τ) : Cx l G yX8_checkFile cX8_checkFile 2 none { rX8_checkFile with cells := 1, slots := 6 } M [.ref x, .int f] (fun v M' => v = none ∧ M' = M ∧ inI f τ.1.1) (fun E M' => E = exI ∧ M' = (M.1, none) ∧ ¬ inI f τ.1.1) := by
  refine Cx.of (by decide) [some (.ref x), some (.int f)] rfl (Nat.le_of_ble_eq_true rfl) ?_
  intro Z hZ hT
  obtain ⟨rfl, hn, rfl, hR, X, hr, hnm⟩ := hZ
  refine aw_iload1 X dX8_checkFile_0 ?_
  refine aw_aload0 X dX8_checkFile_1 ?_
  refine aw_get X fX8_48 dX8_checkFile_2 (hs.at) rfl ?_
  refine aw_callSX X (c_X8_checkIndex hfl) kX8_75 dX8_checkFile_5 rfl rfl (by first | decide | exact Nat.le_of_ble_eq_true rfl) (by rw [hR]; exact ⟨by first | decide | exact Nat.le_of_ble_eq_true rfl | (dsimp only; omega), by first | decide | exact Nat.le_of_ble_eq_true rfl | (dsimp only; omega)⟩) (by rw [hR]; exact ⟨by first | decide | exact Nat.le_of_ble_eq_true rfl | (dsimp only; omega), by first | decide | exact Nat.le_of_ble_eq_true rfl | (dsimp only; omega)⟩) (fun v M1 hv => ?_) (fun E M1 h1 => ?_)
  · obtain ⟨rfl, rfl, h1⟩ := hv
    refine aw_vreturn X hr dX8_checkFile_8 (⟨rfl, rfl, h1⟩)
  · refine ax_out X hT (Nat.le_of_ble_eq_true rfl) (Nat.le_of_ble_eq_true rfl) (h1)
theorem c_X8_checkRoomForVersion {l : Launch} {G : AG} {M : AM} {x D : Nat} {τ : TS} (hfl : l.stackTraces = false) (hs : isRS G M x D τ) : Cx l G yX8_checkRoomForVersion cX8_checkRoomForVersion 1 none { rX8_checkRoomForVersion with cells := 1, slots := 6 } M [.ref x] (fun v M' => v = none ∧ M' = M ∧ τ.2.2.2.1.1 < 20) (fun E M' => E = exS ∧ M' = (M.1, none) ∧ ¬ τ.2.2.2.1.1 < 20) := by
  obtain ⟨w, aw, y, rb, ch, har⟩ := hs.2.2.2.2.2.2.2.1
  have hn20 := har.1
  refine Cx.of (by decide) [some (.ref x)] rfl (Nat.le_of_ble_eq_true rfl) ?_
  intro Z hZ hT
  obtain ⟨rfl, hn, rfl, hR, X, hr, hnm⟩ := hZ
  refine aw_aload0 X dX8_checkRoomForVersion_0 ?_
  refine aw_get X fX8_35 dX8_checkRoomForVersion_1 (hs.at) rfl ?_
  refine aw_get X fX8_164 dX8_checkRoomForVersion_4 (har.at) rfl ?_
  refine aw_bipush X dX8_checkRoomForVersion_7 (v := nI 20) (by decide) ?_
  refine aw_icmplt X dX8_checkRoomForVersion_9 (tgt := 23) (by decide) (fun c => ?_) (fun c => ?_)
  · refine aw_widen (k' := 1) (n' := 6) (Nat.le_of_ble_eq_true rfl) (Nat.le_of_ble_eq_true rfl) ?_
    refine aw_vreturn X hr dX8_checkRoomForVersion_23 (⟨rfl, rfl, (nI_ltI (by omega) (by omega)).mp c⟩)
  · refine aw_throwW X hfl th_ISE (text := "there are 20 versions") (by decide) dX8_checkRoomForVersion_12 dX8_checkRoomForVersion_15 dX8_checkRoomForVersion_16 dX8_checkRoomForVersion_19 dX8_checkRoomForVersion_22 hT (by rw [hR]; exact Nat.le_of_ble_eq_true rfl) (by rw [hR]; exact Nat.le_of_ble_eq_true rfl) (by rw [hR]; exact Nat.le_of_ble_eq_true rfl) (by rw [hR]; exact Nat.le_of_ble_eq_true rfl) (Nat.le_of_ble_eq_true rfl) (Nat.le_of_ble_eq_true rfl) (⟨rfl, rfl, fun h => c (nI_lt h (by omega))⟩)
theorem c_X8_checkBlock {l : Launch} {G : AG} {M : AM} {x D : Nat} {τ : TS} {g b : Int32} (hfl : l.stackTraces = false) (hs : isRS G M x D τ) : Cx l G yX8_checkBlock cX8_checkBlock 3 none { rX8_checkBlock with cells := 2, slots := 12 } M [.ref x, .int g, .int b] (fun v M' => v = none ∧ M' = M ∧ inI g 4 ∧ inI b (sgN (τ.2.1 (ix g)))) (fun E M' => E = exI ∧ M' = (M.1, none) ∧ ¬ (inI g 4 ∧ inI b (sgN (τ.2.1 (ix g))))) := by
  obtain ⟨f, s1, s2⟩ := hs.2.2.2.2.1
  refine Cx.of (by decide) [some (.ref x), some (.int g), some (.int b)] rfl (Nat.le_of_ble_eq_true rfl) ?_
  intro Z hZ hT
  obtain ⟨rfl, hn, rfl, hR, X, hr, hnm⟩ := hZ
  refine aw_iload1 X dX8_checkBlock_0 ?_
  refine aw_iconst X dX8_checkBlock_1 (v := nI 4) (by decide) ?_
  refine aw_callSX X (c_X8_checkIndex hfl) kX8_75 dX8_checkBlock_2 rfl rfl (by first | decide | exact Nat.le_of_ble_eq_true rfl) (by rw [hR]; exact ⟨by first | decide | exact Nat.le_of_ble_eq_true rfl | (dsimp only; omega), by first | decide | exact Nat.le_of_ble_eq_true rfl | (dsimp only; omega)⟩) (by rw [hR]; exact ⟨by first | decide | exact Nat.le_of_ble_eq_true rfl | (dsimp only; omega), by first | decide | exact Nat.le_of_ble_eq_true rfl | (dsimp only; omega)⟩) (fun v M1 hv => ?_) (fun E M1 h1 => ?_)
  · obtain ⟨rfl, rfl, h1⟩ := hv
    obtain ⟨i1, i2, -⟩ := inI_j h1 (by decide)
    generalize hj : ix g = j at i1 i2 ⊢
    subst i2
    have hsg := hs.2.2.2.2.2.2.2.2.2.2.1 j i1
    obtain ⟨-, fw, fs, g1, -⟩ := id hsg
    refine aw_iload2 X dX8_checkBlock_5 ?_
    refine aw_aload0 X dX8_checkBlock_6 ?_
    refine aw_get X fX8_17 dX8_checkBlock_7 (hs.at) rfl ?_
    refine aw_iload1 X dX8_checkBlock_10 ?_
    refine aw_aald X at_4 dX8_checkBlock_11 s1 rfl i1 (by decide) ?_
    refine aw_rf (s2 j i1) ?_
    refine aw_get X fX8_103 dX8_checkBlock_12 (g1) rfl ?_
    refine aw_callSX X (c_X8_checkIndex hfl) kX8_75 dX8_checkBlock_15 rfl rfl (by first | decide | exact Nat.le_of_ble_eq_true rfl) (by rw [hR]; exact ⟨by first | decide | exact Nat.le_of_ble_eq_true rfl | (dsimp only; omega), by first | decide | exact Nat.le_of_ble_eq_true rfl | (dsimp only; omega)⟩) (by rw [hR]; exact ⟨by first | decide | exact Nat.le_of_ble_eq_true rfl | (dsimp only; omega), by first | decide | exact Nat.le_of_ble_eq_true rfl | (dsimp only; omega)⟩) (fun v M1 hv => ?_) (fun E M1 h1 => ?_)
    · obtain ⟨rfl, rfl, h2⟩ := hv
      refine aw_vreturn X hr dX8_checkBlock_18 (⟨rfl, rfl, h1, h2⟩)
    · obtain ⟨e1, e2, e3⟩ := h1
      refine ax_out X hT (Nat.le_of_ble_eq_true rfl) (Nat.le_of_ble_eq_true rfl) (⟨e1, e2, fun h => e3 h.2⟩)
  · obtain ⟨e1, e2, e3⟩ := h1
    refine ax_out X hT (Nat.le_of_ble_eq_true rfl) (Nat.le_of_ble_eq_true rfl) (⟨e1, e2, fun h => e3 h.1⟩)
theorem c_X8_checkInstruction {l : Launch} {G : AG} {M : AM} {x D : Nat} {τ : TS} {g b : Int32} (hfl : l.stackTraces = false) (hs : isRS G M x D τ) : Cx l G yX8_checkInstruction cX8_checkInstruction 3 none { rX8_checkInstruction with cells := 2, slots := 12 } M [.ref x, .int g, .int b] (fun v M' => v = none ∧ M' = M ∧ inI g 4 ∧ inI b (τ.2.2.1 (ix g)).2.1.length) (fun E M' => E = exI ∧ M' = (M.1, none) ∧ ¬ (inI g 4 ∧ inI b (τ.2.2.1 (ix g)).2.1.length)) := by
  obtain ⟨f, s1, s2⟩ := hs.2.2.2.2.2.1
  refine Cx.of (by decide) [some (.ref x), some (.int g), some (.int b)] rfl (Nat.le_of_ble_eq_true rfl) ?_
  intro Z hZ hT
  obtain ⟨rfl, hn, rfl, hR, X, hr, hnm⟩ := hZ
  refine aw_iload1 X dX8_checkInstruction_0 ?_
  refine aw_iconst X dX8_checkInstruction_1 (v := nI 4) (by decide) ?_
  refine aw_callSX X (c_X8_checkIndex hfl) kX8_75 dX8_checkInstruction_2 rfl rfl (by first | decide | exact Nat.le_of_ble_eq_true rfl) (by rw [hR]; exact ⟨by first | decide | exact Nat.le_of_ble_eq_true rfl | (dsimp only; omega), by first | decide | exact Nat.le_of_ble_eq_true rfl | (dsimp only; omega)⟩) (by rw [hR]; exact ⟨by first | decide | exact Nat.le_of_ble_eq_true rfl | (dsimp only; omega), by first | decide | exact Nat.le_of_ble_eq_true rfl | (dsimp only; omega)⟩) (fun v M1 hv => ?_) (fun E M1 h1 => ?_)
  · obtain ⟨rfl, rfl, h1⟩ := hv
    obtain ⟨i1, i2, -⟩ := inI_j h1 (by decide)
    generalize hj : ix g = j at i1 i2 ⊢
    subst i2
    have hsg := hs.2.2.2.2.2.2.2.2.2.2.2 j i1
    obtain ⟨-, bb, fc, fa, fz, g1, -⟩ := id hsg
    refine aw_iload2 X dX8_checkInstruction_5 ?_
    refine aw_aload0 X dX8_checkInstruction_6 ?_
    refine aw_get X fX8_23 dX8_checkInstruction_7 (hs.at) rfl ?_
    refine aw_iload1 X dX8_checkInstruction_10 ?_
    refine aw_aald X at_5 dX8_checkInstruction_11 s1 rfl i1 (by decide) ?_
    refine aw_rf (s2 j i1) ?_
    refine aw_get X fX8_126 dX8_checkInstruction_12 (g1) rfl ?_
    refine aw_callSX X (c_X8_checkIndex hfl) kX8_75 dX8_checkInstruction_15 rfl rfl (by first | decide | exact Nat.le_of_ble_eq_true rfl) (by rw [hR]; exact ⟨by first | decide | exact Nat.le_of_ble_eq_true rfl | (dsimp only; omega), by first | decide | exact Nat.le_of_ble_eq_true rfl | (dsimp only; omega)⟩) (by rw [hR]; exact ⟨by first | decide | exact Nat.le_of_ble_eq_true rfl | (dsimp only; omega), by first | decide | exact Nat.le_of_ble_eq_true rfl | (dsimp only; omega)⟩) (fun v M1 hv => ?_) (fun E M1 h1 => ?_)
    · obtain ⟨rfl, rfl, h2⟩ := hv
      refine aw_vreturn X hr dX8_checkInstruction_18 (⟨rfl, rfl, h1, h2⟩)
    · obtain ⟨e1, e2, e3⟩ := h1
      refine ax_out X hT (Nat.le_of_ble_eq_true rfl) (Nat.le_of_ble_eq_true rfl) (⟨e1, e2, fun h => e3 h.2⟩)
  · obtain ⟨e1, e2, e3⟩ := h1
    refine ax_out X hT (Nat.le_of_ble_eq_true rfl) (Nat.le_of_ble_eq_true rfl) (⟨e1, e2, fun h => e3 h.1⟩)
