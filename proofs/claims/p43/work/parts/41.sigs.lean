/-! calls on signatures and deltas -/
theorem sgN_le {s : SG} (h : sgV s) : sgN s ≤ 120 := by
  rcases Nat.lt_or_ge 120 (sgN s) with q | q
  · have h1 := (nb_lt h.1).mp q
    have h2 := Nat.mul_le_mul_left 120 h.1
    have h3 := h.2.2.2.2
    omega
  · exact q
theorem c_X8_blocks {l : Launch} {G : AG} {M : AM} {x D : Nat} {τ : TS} {g : Int32} (hfl : l.stackTraces = false) (hs : isRS G M x D τ) : Cx l G yX8_blocks cX8_blocks 2 (some .int) { rX8_blocks with cells := 1, slots := 6 } M [.ref x, .int g] (RP Value.int G M x D (spBlocks τ g)) (RX G M x D (spBlocks τ g) ecI) := by
  have hn6 := hs.1
  obtain ⟨fa, fa1, fa2⟩ := hs.2.2.2.1
  obtain ⟨sa, sa1, sa2⟩ := hs.2.2.2.2.1
  obtain ⟨da, da1, da2⟩ := hs.2.2.2.2.2.1
  refine Cx.of (by decide) [some (.ref x), some (.int g)] rfl (Nat.le_of_ble_eq_true rfl) ?_
  intro Z hZ hT
  obtain ⟨rfl, hn, rfl, hR, X, hr, hnm⟩ := hZ
  refine aw_iload1 X dX8_blocks_0 ?_
  refine aw_iconst X dX8_blocks_1 (v := nI 4) (by decide) ?_
  refine aw_callSX X (c_X8_checkIndex hfl) kX8_75 dX8_blocks_2 rfl rfl (by first | decide | exact Nat.le_of_ble_eq_true rfl) (by rw [hR]; exact ⟨by first | decide | exact Nat.le_of_ble_eq_true rfl | (dsimp only; omega), by first | decide | exact Nat.le_of_ble_eq_true rfl | (dsimp only; omega)⟩) (by rw [hR]; exact ⟨by first | decide | exact Nat.le_of_ble_eq_true rfl | (dsimp only; omega), by first | decide | exact Nat.le_of_ble_eq_true rfl | (dsimp only; omega)⟩) (fun v M1 hv => ?_) (fun E M1 h1 => ?_)
  · obtain ⟨rfl, rfl, h1⟩ := hv
    obtain ⟨j1, j2, j3⟩ := inI_j h1 (by omega)
    have hsg : isSig (zG Z) M1 (x + 235 + 3 * ix g) (tS τ g) := hs.2.2.2.2.2.2.2.2.2.2.1 (ix g) j1
    obtain ⟨sv, fw, fs, g1, g2, g3, g4⟩ := id hsg
    refine aw_aload0 X dX8_blocks_5 ?_
    refine aw_get X fX8_17 dX8_blocks_6 (hs.at) rfl ?_
    refine aw_iload1 X dX8_blocks_9 ?_
    refine aw_aald X at_4 dX8_blocks_10 sa1 j2 j1 (by decide) ?_
    refine aw_rf (sa2 _ j1) ?_
    refine aw_get X fX8_103 dX8_blocks_11 (g1) rfl ?_
    refine aw_ireturn X (ty := .int) hr (by first | rfl | decide | assumption) dX8_blocks_14 (RP.of (by rw [spBlocks, if_pos h1]) hs KE.rf)
  · obtain ⟨e1, e2, e3⟩ := h1
    refine ax_out X hT (Nat.le_of_ble_eq_true rfl) (Nat.le_of_ble_eq_true rfl) (RX.of (k := 1) (by rw [spBlocks, if_neg e3]) (by decide) e1 hs e2)
theorem c_X8_instructions {l : Launch} {G : AG} {M : AM} {x D : Nat} {τ : TS} {g : Int32} (hfl : l.stackTraces = false) (hs : isRS G M x D τ) : Cx l G yX8_instructions cX8_instructions 2 (some .int) { rX8_instructions with cells := 1, slots := 6 } M [.ref x, .int g] (RP Value.int G M x D (spInstr τ g)) (RX G M x D (spInstr τ g) ecI) := by
  have hn6 := hs.1
  obtain ⟨fa, fa1, fa2⟩ := hs.2.2.2.1
  obtain ⟨sa, sa1, sa2⟩ := hs.2.2.2.2.1
  obtain ⟨da, da1, da2⟩ := hs.2.2.2.2.2.1
  refine Cx.of (by decide) [some (.ref x), some (.int g)] rfl (Nat.le_of_ble_eq_true rfl) ?_
  intro Z hZ hT
  obtain ⟨rfl, hn, rfl, hR, X, hr, hnm⟩ := hZ
  refine aw_iload1 X dX8_instructions_0 ?_
  refine aw_iconst X dX8_instructions_1 (v := nI 4) (by decide) ?_
  refine aw_callSX X (c_X8_checkIndex hfl) kX8_75 dX8_instructions_2 rfl rfl (by first | decide | exact Nat.le_of_ble_eq_true rfl) (by rw [hR]; exact ⟨by first | decide | exact Nat.le_of_ble_eq_true rfl | (dsimp only; omega), by first | decide | exact Nat.le_of_ble_eq_true rfl | (dsimp only; omega)⟩) (by rw [hR]; exact ⟨by first | decide | exact Nat.le_of_ble_eq_true rfl | (dsimp only; omega), by first | decide | exact Nat.le_of_ble_eq_true rfl | (dsimp only; omega)⟩) (fun v M1 hv => ?_) (fun E M1 h1 => ?_)
  · obtain ⟨rfl, rfl, h1⟩ := hv
    obtain ⟨j1, j2, j3⟩ := inI_j h1 (by omega)
    have hdl : isDelta (zG Z) M1 (x + 247 + 6 * ix g) (tD τ g) := hs.2.2.2.2.2.2.2.2.2.2.2 (ix g) j1
    obtain ⟨dv, bb, fc, fz, fy, g1, g2, g3, g4, g5, g6, g7⟩ := id hdl
    refine aw_aload0 X dX8_instructions_5 ?_
    refine aw_get X fX8_23 dX8_instructions_6 (hs.at) rfl ?_
    refine aw_iload1 X dX8_instructions_9 ?_
    refine aw_aald X at_5 dX8_instructions_10 da1 j2 j1 (by decide) ?_
    refine aw_rf (da2 _ j1) ?_
    refine aw_get X fX8_126 dX8_instructions_11 (g1) rfl ?_
    refine aw_ireturn X (ty := .int) hr (by first | rfl | decide | assumption) dX8_instructions_14 (RP.of (by rw [spInstr, if_pos h1]) hs KE.rf)
  · obtain ⟨e1, e2, e3⟩ := h1
    refine ax_out X hT (Nat.le_of_ble_eq_true rfl) (Nat.le_of_ble_eq_true rfl) (RX.of (k := 1) (by rw [spInstr, if_neg e3]) (by decide) e1 hs e2)
theorem c_X8_alarms {l : Launch} {G : AG} {M : AM} {x D : Nat} {τ : TS} {g : Int32} (hfl : l.stackTraces = false) (hs : isRS G M x D τ) : Cx l G yX8_alarms cX8_alarms 2 (some .int) { rX8_alarms with cells := 1, slots := 6 } M [.ref x, .int g] (RP Value.int G M x D (spAlarms τ g)) (RX G M x D (spAlarms τ g) ecI) := by
  have hn6 := hs.1
  obtain ⟨fa, fa1, fa2⟩ := hs.2.2.2.1
  obtain ⟨sa, sa1, sa2⟩ := hs.2.2.2.2.1
  obtain ⟨da, da1, da2⟩ := hs.2.2.2.2.2.1
  refine Cx.of (by decide) [some (.ref x), some (.int g)] rfl (Nat.le_of_ble_eq_true rfl) ?_
  intro Z hZ hT
  obtain ⟨rfl, hn, rfl, hR, X, hr, hnm⟩ := hZ
  refine aw_iload1 X dX8_alarms_0 ?_
  refine aw_iconst X dX8_alarms_1 (v := nI 4) (by decide) ?_
  refine aw_callSX X (c_X8_checkIndex hfl) kX8_75 dX8_alarms_2 rfl rfl (by first | decide | exact Nat.le_of_ble_eq_true rfl) (by rw [hR]; exact ⟨by first | decide | exact Nat.le_of_ble_eq_true rfl | (dsimp only; omega), by first | decide | exact Nat.le_of_ble_eq_true rfl | (dsimp only; omega)⟩) (by rw [hR]; exact ⟨by first | decide | exact Nat.le_of_ble_eq_true rfl | (dsimp only; omega), by first | decide | exact Nat.le_of_ble_eq_true rfl | (dsimp only; omega)⟩) (fun v M1 hv => ?_) (fun E M1 h1 => ?_)
  · obtain ⟨rfl, rfl, h1⟩ := hv
    obtain ⟨j1, j2, j3⟩ := inI_j h1 (by omega)
    have hdl : isDelta (zG Z) M1 (x + 247 + 6 * ix g) (tD τ g) := hs.2.2.2.2.2.2.2.2.2.2.2 (ix g) j1
    obtain ⟨dv, bb, fc, fz, fy, g1, g2, g3, g4, g5, g6, g7⟩ := id hdl
    refine aw_aload0 X dX8_alarms_5 ?_
    refine aw_get X fX8_23 dX8_alarms_6 (hs.at) rfl ?_
    refine aw_iload1 X dX8_alarms_9 ?_
    refine aw_aald X at_5 dX8_alarms_10 da1 j2 j1 (by decide) ?_
    refine aw_rf (da2 _ j1) ?_
    refine aw_get X fX8_144 dX8_alarms_11 (g1) rfl ?_
    refine aw_ireturn X (ty := .int) hr (by first | rfl | decide | assumption) dX8_alarms_14 (RP.of (by rw [spAlarms, if_pos h1]) hs KE.rf)
  · obtain ⟨e1, e2, e3⟩ := h1
    refine ax_out X hT (Nat.le_of_ble_eq_true rfl) (Nat.le_of_ble_eq_true rfl) (RX.of (k := 1) (by rw [spAlarms, if_neg e3]) (by decide) e1 hs e2)
theorem c_X8_cost {l : Launch} {G : AG} {M : AM} {x D : Nat} {τ : TS} {g : Int32} (hfl : l.stackTraces = false) (hs : isRS G M x D τ) : Cx l G yX8_cost cX8_cost 2 (some .int) { rX8_cost with cells := 1, slots := 6 } M [.ref x, .int g] (RP Value.int G M x D (spCost τ g)) (RX G M x D (spCost τ g) ecI) := by
  have hn6 := hs.1
  obtain ⟨fa, fa1, fa2⟩ := hs.2.2.2.1
  obtain ⟨sa, sa1, sa2⟩ := hs.2.2.2.2.1
  obtain ⟨da, da1, da2⟩ := hs.2.2.2.2.2.1
  refine Cx.of (by decide) [some (.ref x), some (.int g)] rfl (Nat.le_of_ble_eq_true rfl) ?_
  intro Z hZ hT
  obtain ⟨rfl, hn, rfl, hR, X, hr, hnm⟩ := hZ
  refine aw_iload1 X dX8_cost_0 ?_
  refine aw_iconst X dX8_cost_1 (v := nI 4) (by decide) ?_
  refine aw_callSX X (c_X8_checkIndex hfl) kX8_75 dX8_cost_2 rfl rfl (by first | decide | exact Nat.le_of_ble_eq_true rfl) (by rw [hR]; exact ⟨by first | decide | exact Nat.le_of_ble_eq_true rfl | (dsimp only; omega), by first | decide | exact Nat.le_of_ble_eq_true rfl | (dsimp only; omega)⟩) (by rw [hR]; exact ⟨by first | decide | exact Nat.le_of_ble_eq_true rfl | (dsimp only; omega), by first | decide | exact Nat.le_of_ble_eq_true rfl | (dsimp only; omega)⟩) (fun v M1 hv => ?_) (fun E M1 h1 => ?_)
  · obtain ⟨rfl, rfl, h1⟩ := hv
    obtain ⟨j1, j2, j3⟩ := inI_j h1 (by omega)
    have hdl : isDelta (zG Z) M1 (x + 247 + 6 * ix g) (tD τ g) := hs.2.2.2.2.2.2.2.2.2.2.2 (ix g) j1
    obtain ⟨dv, bb, fc, fz, fy, g1, g2, g3, g4, g5, g6, g7⟩ := id hdl
    refine aw_aload0 X dX8_cost_5 ?_
    refine aw_get X fX8_23 dX8_cost_6 (hs.at) rfl ?_
    refine aw_iload1 X dX8_cost_9 ?_
    refine aw_aald X at_5 dX8_cost_10 da1 j2 j1 (by decide) ?_
    refine aw_rf (da2 _ j1) ?_
    refine aw_callV X (c_X2_price hdl) kX8_140 (ci := 3) rfl (g1) dX8_cost_11 rfl rfl (by first | decide | exact Nat.le_of_ble_eq_true rfl) (by rw [hR]; exact ⟨by first | decide | exact Nat.le_of_ble_eq_true rfl | (dsimp only; omega), by first | decide | exact Nat.le_of_ble_eq_true rfl | (dsimp only; omega)⟩) (by rw [hR]; exact ⟨by first | decide | exact Nat.le_of_ble_eq_true rfl | (dsimp only; omega), by first | decide | exact Nat.le_of_ble_eq_true rfl | (dsimp only; omega)⟩) (fun v M1 hv => ?_)
    obtain ⟨rfl, rfl⟩ := hv
    refine aw_ireturn X (ty := .int) hr (by first | rfl | decide | assumption) dX8_cost_14 (RP.of (by rw [spCost, if_pos h1]) hs KE.rf)
  · obtain ⟨e1, e2, e3⟩ := h1
    refine ax_out X hT (Nat.le_of_ble_eq_true rfl) (Nat.le_of_ble_eq_true rfl) (RX.of (k := 1) (by rw [spCost, if_neg e3]) (by decide) e1 hs e2)
theorem c_X8_weak {l : Launch} {G : AG} {M : AM} {x D : Nat} {τ : TS} {g b : Int32} (hfl : l.stackTraces = false) (hs : isRS G M x D τ) : Cx l G yX8_weak cX8_weak 3 (some .int) { rX8_weak with cells := 2, slots := 12 } M [.ref x, .int g, .int b] (RP Value.int G M x D (spWeak τ g b)) (RX G M x D (spWeak τ g b) ecI) := by
  have hn6 := hs.1
  obtain ⟨fa, fa1, fa2⟩ := hs.2.2.2.1
  obtain ⟨sa, sa1, sa2⟩ := hs.2.2.2.2.1
  obtain ⟨da, da1, da2⟩ := hs.2.2.2.2.2.1
  refine Cx.of (by decide) [some (.ref x), some (.int g), some (.int b)] rfl (Nat.le_of_ble_eq_true rfl) ?_
  intro Z hZ hT
  obtain ⟨rfl, hn, rfl, hR, X, hr, hnm⟩ := hZ
  refine aw_aload0 X dX8_weak_0 ?_
  refine aw_iload1 X dX8_weak_1 ?_
  refine aw_iload2 X dX8_weak_2 ?_
  refine aw_callVX X (c_X8_checkBlock hfl hs) kX8_106 (ci := 9) rfl (hs.at) dX8_weak_3 rfl rfl (by first | decide | exact Nat.le_of_ble_eq_true rfl) (by rw [hR]; exact ⟨by first | decide | exact Nat.le_of_ble_eq_true rfl | (dsimp only; omega), by first | decide | exact Nat.le_of_ble_eq_true rfl | (dsimp only; omega)⟩) (by rw [hR]; exact ⟨by first | decide | exact Nat.le_of_ble_eq_true rfl | (dsimp only; omega), by first | decide | exact Nat.le_of_ble_eq_true rfl | (dsimp only; omega)⟩) (fun v M1 hv => ?_) (fun E M1 h1 => ?_)
  · obtain ⟨rfl, rfl, h1, h2⟩ := hv
    obtain ⟨j1, j2, j3⟩ := inI_j h1 (by omega)
    have hsg : isSig (zG Z) M1 (x + 235 + 3 * ix g) (tS τ g) := hs.2.2.2.2.2.2.2.2.2.2.1 (ix g) j1
    obtain ⟨sv, fw, fs, g1, g2, g3, g4⟩ := id hsg
    have hnb : sgN (tS τ g) ≤ 120 := sgN_le sv
    have h2 : inI b (sgN (tS τ g)) := h2
    obtain ⟨k1, k2, k3⟩ := inI_j h2 (by omega)
    refine aw_aload0 X dX8_weak_6 ?_
    refine aw_get X fX8_17 dX8_weak_7 (hs.at) rfl ?_
    refine aw_iload1 X dX8_weak_10 ?_
    refine aw_aald X at_4 dX8_weak_11 sa1 j2 j1 (by decide) ?_
    refine aw_rf (sa2 _ j1) ?_
    refine aw_get X fX8_109 dX8_weak_12 (g1) rfl ?_
    refine aw_iload2 X dX8_weak_15 ?_
    refine aw_iald X dX8_weak_16 g2 k2 (by omega) (by decide) ?_
    refine aw_int ((g4 _ k1).1) ?_
    refine aw_ireturn X (ty := .int) hr (by first | rfl | decide | assumption) dX8_weak_17 (RP.of (by rw [spWeak, if_pos ⟨h1, h2⟩]) hs KE.rf)
  · obtain ⟨e1, e2, e3⟩ := h1
    refine ax_out X hT (Nat.le_of_ble_eq_true rfl) (Nat.le_of_ble_eq_true rfl) (RX.of (k := 1) (by rw [spWeak, if_neg e3]) (by decide) e1 hs e2)
theorem c_X8_strong {l : Launch} {G : AG} {M : AM} {x D : Nat} {τ : TS} {g b : Int32} (hfl : l.stackTraces = false) (hs : isRS G M x D τ) : Cx l G yX8_strong cX8_strong 3 (some .long) { rX8_strong with cells := 2, slots := 12 } M [.ref x, .int g, .int b] (RP Value.long G M x D (spStrong τ g b)) (RX G M x D (spStrong τ g b) ecI) := by
  have hn6 := hs.1
  obtain ⟨fa, fa1, fa2⟩ := hs.2.2.2.1
  obtain ⟨sa, sa1, sa2⟩ := hs.2.2.2.2.1
  obtain ⟨da, da1, da2⟩ := hs.2.2.2.2.2.1
  refine Cx.of (by decide) [some (.ref x), some (.int g), some (.int b)] rfl (Nat.le_of_ble_eq_true rfl) ?_
  intro Z hZ hT
  obtain ⟨rfl, hn, rfl, hR, X, hr, hnm⟩ := hZ
  refine aw_aload0 X dX8_strong_0 ?_
  refine aw_iload1 X dX8_strong_1 ?_
  refine aw_iload2 X dX8_strong_2 ?_
  refine aw_callVX X (c_X8_checkBlock hfl hs) kX8_106 (ci := 9) rfl (hs.at) dX8_strong_3 rfl rfl (by first | decide | exact Nat.le_of_ble_eq_true rfl) (by rw [hR]; exact ⟨by first | decide | exact Nat.le_of_ble_eq_true rfl | (dsimp only; omega), by first | decide | exact Nat.le_of_ble_eq_true rfl | (dsimp only; omega)⟩) (by rw [hR]; exact ⟨by first | decide | exact Nat.le_of_ble_eq_true rfl | (dsimp only; omega), by first | decide | exact Nat.le_of_ble_eq_true rfl | (dsimp only; omega)⟩) (fun v M1 hv => ?_) (fun E M1 h1 => ?_)
  · obtain ⟨rfl, rfl, h1, h2⟩ := hv
    obtain ⟨j1, j2, j3⟩ := inI_j h1 (by omega)
    have hsg : isSig (zG Z) M1 (x + 235 + 3 * ix g) (tS τ g) := hs.2.2.2.2.2.2.2.2.2.2.1 (ix g) j1
    obtain ⟨sv, fw, fs, g1, g2, g3, g4⟩ := id hsg
    have hnb : sgN (tS τ g) ≤ 120 := sgN_le sv
    have h2 : inI b (sgN (tS τ g)) := h2
    obtain ⟨k1, k2, k3⟩ := inI_j h2 (by omega)
    refine aw_aload0 X dX8_strong_6 ?_
    refine aw_get X fX8_17 dX8_strong_7 (hs.at) rfl ?_
    refine aw_iload1 X dX8_strong_10 ?_
    refine aw_aald X at_4 dX8_strong_11 sa1 j2 j1 (by decide) ?_
    refine aw_rf (sa2 _ j1) ?_
    refine aw_get X fX8_113 dX8_strong_12 (g1) rfl ?_
    refine aw_iload2 X dX8_strong_15 ?_
    refine aw_lald X dX8_strong_16 g3 k2 (by omega) (by decide) ?_
    refine aw_long ((g4 _ k1).2) ?_
    refine aw_lreturn X hr dX8_strong_17 (RP.of (by rw [spStrong, if_pos ⟨h1, h2⟩]) hs KE.rf)
  · obtain ⟨e1, e2, e3⟩ := h1
    refine ax_out X hT (Nat.le_of_ble_eq_true rfl) (Nat.le_of_ble_eq_true rfl) (RX.of (k := 1) (by rw [spStrong, if_neg e3]) (by decide) e1 hs e2)
theorem c_X8_isCopy {l : Launch} {G : AG} {M : AM} {x D : Nat} {τ : TS} {g b : Int32} (hfl : l.stackTraces = false) (hs : isRS G M x D τ) : Cx l G yX8_isCopy cX8_isCopy 3 (some .boolean) { rX8_isCopy with cells := 2, slots := 12 } M [.ref x, .int g, .int b] (RP Value.int G M x D (spIsCopy τ g b)) (RX G M x D (spIsCopy τ g b) ecI) := by
  have hn6 := hs.1
  obtain ⟨fa, fa1, fa2⟩ := hs.2.2.2.1
  obtain ⟨sa, sa1, sa2⟩ := hs.2.2.2.2.1
  obtain ⟨da, da1, da2⟩ := hs.2.2.2.2.2.1
  refine Cx.of (by decide) [some (.ref x), some (.int g), some (.int b)] rfl (Nat.le_of_ble_eq_true rfl) ?_
  intro Z hZ hT
  obtain ⟨rfl, hn, rfl, hR, X, hr, hnm⟩ := hZ
  refine aw_aload0 X dX8_isCopy_0 ?_
  refine aw_iload1 X dX8_isCopy_1 ?_
  refine aw_iload2 X dX8_isCopy_2 ?_
  refine aw_callVX X (c_X8_checkInstruction hfl hs) kX8_127 (ci := 9) rfl (hs.at) dX8_isCopy_3 rfl rfl (by first | decide | exact Nat.le_of_ble_eq_true rfl) (by rw [hR]; exact ⟨by first | decide | exact Nat.le_of_ble_eq_true rfl | (dsimp only; omega), by first | decide | exact Nat.le_of_ble_eq_true rfl | (dsimp only; omega)⟩) (by rw [hR]; exact ⟨by first | decide | exact Nat.le_of_ble_eq_true rfl | (dsimp only; omega), by first | decide | exact Nat.le_of_ble_eq_true rfl | (dsimp only; omega)⟩) (fun v M1 hv => ?_) (fun E M1 h1 => ?_)
  · obtain ⟨rfl, rfl, h1, h2⟩ := hv
    obtain ⟨j1, j2, j3⟩ := inI_j h1 (by omega)
    have hdl : isDelta (zG Z) M1 (x + 247 + 6 * ix g) (tD τ g) := hs.2.2.2.2.2.2.2.2.2.2.2 (ix g) j1
    obtain ⟨dv, bb, fc, fz, fy, g1, g2, g3, g4, g5, g6, g7⟩ := id hdl
    have h2 : inI b (tD τ g).2.1.length := h2
    obtain ⟨k1, k2, k3⟩ := inI_j h2 (by omega)
    refine aw_aload0 X dX8_isCopy_6 ?_
    refine aw_get X fX8_23 dX8_isCopy_7 (hs.at) rfl ?_
    refine aw_iload1 X dX8_isCopy_10 ?_
    refine aw_aald X at_5 dX8_isCopy_11 da1 j2 j1 (by decide) ?_
    refine aw_rf (da2 _ j1) ?_
    refine aw_get X fX8_130 dX8_isCopy_12 (g1) rfl ?_
    refine aw_iload2 X dX8_isCopy_15 ?_
    refine aw_zald X dX8_isCopy_16 g2 k2 (by omega) (by decide) ?_
    refine aw_int ((g7 _ k1).1) ?_
    refine aw_ireturn X (ty := .boolean) hr (b2i_z _) dX8_isCopy_17 (RP.of (by rw [spIsCopy, if_pos ⟨h1, h2⟩]) hs KE.rf)
  · obtain ⟨e1, e2, e3⟩ := h1
    refine ax_out X hT (Nat.le_of_ble_eq_true rfl) (Nat.le_of_ble_eq_true rfl) (RX.of (k := 1) (by rw [spIsCopy, if_neg e3]) (by decide) e1 hs e2)
theorem c_X8_startOf {l : Launch} {G : AG} {M : AM} {x D : Nat} {τ : TS} {g b : Int32} (hfl : l.stackTraces = false) (hs : isRS G M x D τ) : Cx l G yX8_startOf cX8_startOf 3 (some .int) { rX8_startOf with cells := 2, slots := 12 } M [.ref x, .int g, .int b] (RP Value.int G M x D (spStart τ g b)) (RX G M x D (spStart τ g b) ecI) := by
  have hn6 := hs.1
  obtain ⟨fa, fa1, fa2⟩ := hs.2.2.2.1
  obtain ⟨sa, sa1, sa2⟩ := hs.2.2.2.2.1
  obtain ⟨da, da1, da2⟩ := hs.2.2.2.2.2.1
  refine Cx.of (by decide) [some (.ref x), some (.int g), some (.int b)] rfl (Nat.le_of_ble_eq_true rfl) ?_
  intro Z hZ hT
  obtain ⟨rfl, hn, rfl, hR, X, hr, hnm⟩ := hZ
  refine aw_aload0 X dX8_startOf_0 ?_
  refine aw_iload1 X dX8_startOf_1 ?_
  refine aw_iload2 X dX8_startOf_2 ?_
  refine aw_callVX X (c_X8_checkInstruction hfl hs) kX8_127 (ci := 9) rfl (hs.at) dX8_startOf_3 rfl rfl (by first | decide | exact Nat.le_of_ble_eq_true rfl) (by rw [hR]; exact ⟨by first | decide | exact Nat.le_of_ble_eq_true rfl | (dsimp only; omega), by first | decide | exact Nat.le_of_ble_eq_true rfl | (dsimp only; omega)⟩) (by rw [hR]; exact ⟨by first | decide | exact Nat.le_of_ble_eq_true rfl | (dsimp only; omega), by first | decide | exact Nat.le_of_ble_eq_true rfl | (dsimp only; omega)⟩) (fun v M1 hv => ?_) (fun E M1 h1 => ?_)
  · obtain ⟨rfl, rfl, h1, h2⟩ := hv
    obtain ⟨j1, j2, j3⟩ := inI_j h1 (by omega)
    have hdl : isDelta (zG Z) M1 (x + 247 + 6 * ix g) (tD τ g) := hs.2.2.2.2.2.2.2.2.2.2.2 (ix g) j1
    obtain ⟨dv, bb, fc, fz, fy, g1, g2, g3, g4, g5, g6, g7⟩ := id hdl
    have h2 : inI b (tD τ g).2.1.length := h2
    obtain ⟨k1, k2, k3⟩ := inI_j h2 (by omega)
    refine aw_aload0 X dX8_startOf_6 ?_
    refine aw_get X fX8_23 dX8_startOf_7 (hs.at) rfl ?_
    refine aw_iload1 X dX8_startOf_10 ?_
    refine aw_aald X at_5 dX8_startOf_11 da1 j2 j1 (by decide) ?_
    refine aw_rf (da2 _ j1) ?_
    refine aw_get X fX8_134 dX8_startOf_12 (g1) rfl ?_
    refine aw_iload2 X dX8_startOf_15 ?_
    refine aw_iald X dX8_startOf_16 g3 k2 (by omega) (by decide) ?_
    refine aw_int ((g7 _ k1).2.1) ?_
    refine aw_ireturn X (ty := .int) hr (by first | rfl | decide | assumption) dX8_startOf_17 (RP.of (by rw [spStart, if_pos ⟨h1, h2⟩]) hs KE.rf)
  · obtain ⟨e1, e2, e3⟩ := h1
    refine ax_out X hT (Nat.le_of_ble_eq_true rfl) (Nat.le_of_ble_eq_true rfl) (RX.of (k := 1) (by rw [spStart, if_neg e3]) (by decide) e1 hs e2)
theorem c_X8_bytesOf {l : Launch} {G : AG} {M : AM} {x D : Nat} {τ : TS} {g b : Int32} (hfl : l.stackTraces = false) (hs : isRS G M x D τ) : Cx l G yX8_bytesOf cX8_bytesOf 3 (some .int) { rX8_bytesOf with cells := 2, slots := 12 } M [.ref x, .int g, .int b] (RP Value.int G M x D (spBytes τ g b)) (RX G M x D (spBytes τ g b) ecI) := by
  have hn6 := hs.1
  obtain ⟨fa, fa1, fa2⟩ := hs.2.2.2.1
  obtain ⟨sa, sa1, sa2⟩ := hs.2.2.2.2.1
  obtain ⟨da, da1, da2⟩ := hs.2.2.2.2.2.1
  refine Cx.of (by decide) [some (.ref x), some (.int g), some (.int b)] rfl (Nat.le_of_ble_eq_true rfl) ?_
  intro Z hZ hT
  obtain ⟨rfl, hn, rfl, hR, X, hr, hnm⟩ := hZ
  refine aw_aload0 X dX8_bytesOf_0 ?_
  refine aw_iload1 X dX8_bytesOf_1 ?_
  refine aw_iload2 X dX8_bytesOf_2 ?_
  refine aw_callVX X (c_X8_checkInstruction hfl hs) kX8_127 (ci := 9) rfl (hs.at) dX8_bytesOf_3 rfl rfl (by first | decide | exact Nat.le_of_ble_eq_true rfl) (by rw [hR]; exact ⟨by first | decide | exact Nat.le_of_ble_eq_true rfl | (dsimp only; omega), by first | decide | exact Nat.le_of_ble_eq_true rfl | (dsimp only; omega)⟩) (by rw [hR]; exact ⟨by first | decide | exact Nat.le_of_ble_eq_true rfl | (dsimp only; omega), by first | decide | exact Nat.le_of_ble_eq_true rfl | (dsimp only; omega)⟩) (fun v M1 hv => ?_) (fun E M1 h1 => ?_)
  · obtain ⟨rfl, rfl, h1, h2⟩ := hv
    obtain ⟨j1, j2, j3⟩ := inI_j h1 (by omega)
    have hdl : isDelta (zG Z) M1 (x + 247 + 6 * ix g) (tD τ g) := hs.2.2.2.2.2.2.2.2.2.2.2 (ix g) j1
    obtain ⟨dv, bb, fc, fz, fy, g1, g2, g3, g4, g5, g6, g7⟩ := id hdl
    have h2 : inI b (tD τ g).2.1.length := h2
    obtain ⟨k1, k2, k3⟩ := inI_j h2 (by omega)
    refine aw_aload0 X dX8_bytesOf_6 ?_
    refine aw_get X fX8_23 dX8_bytesOf_7 (hs.at) rfl ?_
    refine aw_iload1 X dX8_bytesOf_10 ?_
    refine aw_aald X at_5 dX8_bytesOf_11 da1 j2 j1 (by decide) ?_
    refine aw_rf (da2 _ j1) ?_
    refine aw_get X fX8_137 dX8_bytesOf_12 (g1) rfl ?_
    refine aw_iload2 X dX8_bytesOf_15 ?_
    refine aw_iald X dX8_bytesOf_16 g4 k2 (by omega) (by decide) ?_
    refine aw_int ((g7 _ k1).2.2) ?_
    refine aw_ireturn X (ty := .int) hr (by first | rfl | decide | assumption) dX8_bytesOf_17 (RP.of (by rw [spBytes, if_pos ⟨h1, h2⟩]) hs KE.rf)
  · obtain ⟨e1, e2, e3⟩ := h1
    refine ax_out X hT (Nat.le_of_ble_eq_true rfl) (Nat.le_of_ble_eq_true rfl) (RX.of (k := 1) (by rw [spBytes, if_neg e3]) (by decide) e1 hs e2)
theorem c_X8_sign {l : Launch} {G : AG} {M : AM} {x D : Nat} {τ : TS} {g f b d : Int32} (hfl : l.stackTraces = false) (hs : isRS G M x D τ) : Cx l G yX8_sign cX8_sign 5 (some .int) { rX8_sign with cells := 4, slots := 24 } M [.ref x, .int g, .int f, .int b, .int d] (RP Value.int G M x D (spSign τ g f b d)) (RX G M x D (spSign τ g f b d) ecIA) := by
  have hn6 := hs.1
  obtain ⟨fa, fa1, fa2⟩ := hs.2.2.2.1
  obtain ⟨sa, sa1, sa2⟩ := hs.2.2.2.2.1
  obtain ⟨da, da1, da2⟩ := hs.2.2.2.2.2.1
  refine Cx.of (by decide) [some (.ref x), some (.int g), some (.int f), some (.int b), some (.int d)] rfl (Nat.le_of_ble_eq_true rfl) ?_
  intro Z hZ hT
  obtain ⟨rfl, hn, rfl, hR, X, hr, hnm⟩ := hZ
  refine aw_iload1 X dX8_sign_0 ?_
  refine aw_iconst X dX8_sign_1 (v := nI 4) (by decide) ?_
  refine aw_callSX X (c_X8_checkIndex hfl) kX8_75 dX8_sign_2 rfl rfl (by first | decide | exact Nat.le_of_ble_eq_true rfl) (by rw [hR]; exact ⟨by first | decide | exact Nat.le_of_ble_eq_true rfl | (dsimp only; omega), by first | decide | exact Nat.le_of_ble_eq_true rfl | (dsimp only; omega)⟩) (by rw [hR]; exact ⟨by first | decide | exact Nat.le_of_ble_eq_true rfl | (dsimp only; omega), by first | decide | exact Nat.le_of_ble_eq_true rfl | (dsimp only; omega)⟩) (fun v M1 hv => ?_) (fun E M1 h1 => ?_)
  · obtain ⟨rfl, rfl, h1⟩ := hv
    obtain ⟨j1, j2, j3⟩ := inI_j h1 (by omega)
    refine aw_aload0 X dX8_sign_5 ?_
    refine aw_iload2 X dX8_sign_6 ?_
    refine aw_callVX X (c_X8_checkFile hfl hs) kX8_59 (ci := 9) rfl (hs.at) dX8_sign_7 rfl rfl (by first | decide | exact Nat.le_of_ble_eq_true rfl) (by rw [hR]; exact ⟨by first | decide | exact Nat.le_of_ble_eq_true rfl | (dsimp only; omega), by first | decide | exact Nat.le_of_ble_eq_true rfl | (dsimp only; omega)⟩) (by rw [hR]; exact ⟨by first | decide | exact Nat.le_of_ble_eq_true rfl | (dsimp only; omega), by first | decide | exact Nat.le_of_ble_eq_true rfl | (dsimp only; omega)⟩) (fun v M1 hv => ?_) (fun E M1 h1 => ?_)
    · obtain ⟨rfl, rfl, h2⟩ := hv
      obtain ⟨k1, k2, k3⟩ := inI_j h2 (by omega)
      refine aw_iload3 X dX8_sign_10 ?_
      refine aw_iconst X dX8_sign_11 (v := nI 1) (by decide) ?_
      refine aw_bipush X dX8_sign_12 (v := nI 7) (by decide) ?_
      refine aw_callSX X (c_X8_checkRange hfl) kX8_63 dX8_sign_14 rfl rfl (by first | decide | exact Nat.le_of_ble_eq_true rfl) (by rw [hR]; exact ⟨by first | decide | exact Nat.le_of_ble_eq_true rfl | (dsimp only; omega), by first | decide | exact Nat.le_of_ble_eq_true rfl | (dsimp only; omega)⟩) (by rw [hR]; exact ⟨by first | decide | exact Nat.le_of_ble_eq_true rfl | (dsimp only; omega), by first | decide | exact Nat.le_of_ble_eq_true rfl | (dsimp only; omega)⟩) (fun v M1 hv => ?_) (fun E M1 h1 => ?_)
      · obtain ⟨rfl, rfl, h3⟩ := hv
        obtain ⟨a1, a2, a3⟩ := rgI_j h3 (by omega) (by omega)
        refine aw_iload4 X dX8_sign_17 ?_
        refine aw_iconst X dX8_sign_19 (v := nI 1) (by decide) ?_
        refine aw_sipush X dX8_sign_20 (v := nI 4096) (by decide) ?_
        refine aw_callSX X (c_X8_checkRange hfl) kX8_63 dX8_sign_23 rfl rfl (by first | decide | exact Nat.le_of_ble_eq_true rfl) (by rw [hR]; exact ⟨by first | decide | exact Nat.le_of_ble_eq_true rfl | (dsimp only; omega), by first | decide | exact Nat.le_of_ble_eq_true rfl | (dsimp only; omega)⟩) (by rw [hR]; exact ⟨by first | decide | exact Nat.le_of_ble_eq_true rfl | (dsimp only; omega), by first | decide | exact Nat.le_of_ble_eq_true rfl | (dsimp only; omega)⟩) (fun v M1 hv => ?_) (fun E M1 h1 => ?_)
        · obtain ⟨rfl, rfl, h4⟩ := hv
          obtain ⟨b1, b2, b3⟩ := rgI_j h4 (by omega) (by omega)
          have hsg : isSig (zG Z) M1 (x + 235 + 3 * ix g) (tS τ g) := hs.2.2.2.2.2.2.2.2.2.2.1 (ix g) j1
          have hrow : isRow (zG Z) M1 (x + 223 + 2 * ix f) (tF τ f) := hs.2.2.2.2.2.2.2.2.2.1 (ix f) (by omega)
          obtain ⟨sv, fw, fs, g1, g2, g3, g4⟩ := id hsg
          refine aw_aload0 X dX8_sign_26 ?_
          refine aw_get X fX8_17 dX8_sign_27 (hs.at) rfl ?_
          refine aw_iload1 X dX8_sign_30 ?_
          refine aw_aald X at_4 dX8_sign_31 sa1 j2 j1 (by decide) ?_
          refine aw_rf (sa2 _ j1) ?_
          refine aw_aload0 X dX8_sign_32 ?_
          refine aw_get X fX8_11 dX8_sign_33 (hs.at) rfl ?_
          refine aw_iload2 X dX8_sign_36 ?_
          refine aw_aald X at_3 dX8_sign_37 fa1 k2 (by omega) (by decide) ?_
          refine aw_rf (fa2 _ (by omega)) ?_
          refine aw_iload3 X dX8_sign_38 ?_
          refine aw_iload4 X dX8_sign_39 ?_
          have e2 : (Value.int b) = .int (nI (ix b)) := congrArg Value.int a3
          have e3 : (Value.int d) = .int (nI (ix d)) := congrArg Value.int b3
          rw [e2, e3]
          refine aw_callV X (c_X6_make hsg hrow (by omega) ⟨a1, a2⟩ ⟨b1, b2⟩) kX8_99 (ci := 7) rfl (g1) dX8_sign_41 rfl rfl (by first | decide | exact Nat.le_of_ble_eq_true rfl) (by rw [hR]; exact ⟨by first | decide | exact Nat.le_of_ble_eq_true rfl | (dsimp only; omega), by first | decide | exact Nat.le_of_ble_eq_true rfl | (dsimp only; omega)⟩) (by rw [hR]; exact ⟨by first | decide | exact Nat.le_of_ble_eq_true rfl | (dsimp only; omega), by first | decide | exact Nat.le_of_ble_eq_true rfl | (dsimp only; omega)⟩) (fun v M2 hv => ?_)
          obtain ⟨q1, q2, rfl⟩ := hv
          have hs2 := hs.sig j1 q1 (KE.out q2)
          obtain ⟨-, fw2, fs2, r1, -⟩ := id q1
          refine aw_aload0 X dX8_sign_44 ?_
          refine aw_get X fX8_17 dX8_sign_45 (hs2.at) rfl ?_
          refine aw_iload1 X dX8_sign_48 ?_
          refine aw_aald X at_4 dX8_sign_49 ((KE.out q2) _ _ sa1 (by omega)) j2 j1 (by decide) ?_
          refine aw_rf (sa2 _ j1) ?_
          refine aw_get X fX8_103 dX8_sign_50 (r1) rfl ?_
          refine aw_ireturn X (ty := .int) hr (by first | rfl | decide | assumption) dX8_sign_53 (RP.of (by rw [spSign, if_pos ⟨h1, h2⟩, if_pos ⟨h3, h4⟩]) hs2 ((KE.out q2).mono (fun q e => by omega)))
        · obtain ⟨e1, e2, e3⟩ := h1
          refine ax_out X hT (Nat.le_of_ble_eq_true rfl) (Nat.le_of_ble_eq_true rfl) (RX.of (k := 2) (by rw [spSign, if_pos ⟨by assumption, by assumption⟩, if_neg (fun h => e3 h.2)]) (by decide) e1 hs e2)
      · obtain ⟨e1, e2, e3⟩ := h1
        refine ax_out X hT (Nat.le_of_ble_eq_true rfl) (Nat.le_of_ble_eq_true rfl) (RX.of (k := 2) (by rw [spSign, if_pos ⟨by assumption, by assumption⟩, if_neg (fun h => e3 h.1)]) (by decide) e1 hs e2)
    · obtain ⟨e1, e2, e3⟩ := h1
      refine ax_out X hT (Nat.le_of_ble_eq_true rfl) (Nat.le_of_ble_eq_true rfl) (RX.of (k := 1) (by rw [spSign, if_neg (fun h => e3 h.2)]) (by decide) e1 hs e2)
  · obtain ⟨e1, e2, e3⟩ := h1
    refine ax_out X hT (Nat.le_of_ble_eq_true rfl) (Nat.le_of_ble_eq_true rfl) (RX.of (k := 1) (by rw [spSign, if_neg (fun h => e3 h.1)]) (by decide) e1 hs e2)
theorem c_X8_compare {l : Launch} {G : AG} {M : AM} {x D : Nat} {τ : TS} {d g f : Int32} (hfl : l.stackTraces = false) (hs : isRS G M x D τ) : Cx l G yX8_compare cX8_compare 4 (some .int) { rX8_compare with cells := 4, slots := 24 } M [.ref x, .int d, .int g, .int f] (RP Value.int G M x D (spCompare τ d g f)) (RX G M x D (spCompare τ d g f) ecIS) := by
  have hn6 := hs.1
  obtain ⟨fa, fa1, fa2⟩ := hs.2.2.2.1
  obtain ⟨sa, sa1, sa2⟩ := hs.2.2.2.2.1
  obtain ⟨da, da1, da2⟩ := hs.2.2.2.2.2.1
  refine Cx.of (by decide) [some (.ref x), some (.int d), some (.int g), some (.int f)] rfl (Nat.le_of_ble_eq_true rfl) ?_
  intro Z hZ hT
  obtain ⟨rfl, hn, rfl, hR, X, hr, hnm⟩ := hZ
  refine aw_iload1 X dX8_compare_0 ?_
  refine aw_iconst X dX8_compare_1 (v := nI 4) (by decide) ?_
  refine aw_callSX X (c_X8_checkIndex hfl) kX8_75 dX8_compare_2 rfl rfl (by first | decide | exact Nat.le_of_ble_eq_true rfl) (by rw [hR]; exact ⟨by first | decide | exact Nat.le_of_ble_eq_true rfl | (dsimp only; omega), by first | decide | exact Nat.le_of_ble_eq_true rfl | (dsimp only; omega)⟩) (by rw [hR]; exact ⟨by first | decide | exact Nat.le_of_ble_eq_true rfl | (dsimp only; omega), by first | decide | exact Nat.le_of_ble_eq_true rfl | (dsimp only; omega)⟩) (fun v M1 hv => ?_) (fun E M1 h1 => ?_)
  · obtain ⟨rfl, rfl, h1⟩ := hv
    obtain ⟨j1, j2, j3⟩ := inI_j h1 (by omega)
    refine aw_iload2 X dX8_compare_5 ?_
    refine aw_iconst X dX8_compare_6 (v := nI 4) (by decide) ?_
    refine aw_callSX X (c_X8_checkIndex hfl) kX8_75 dX8_compare_7 rfl rfl (by first | decide | exact Nat.le_of_ble_eq_true rfl) (by rw [hR]; exact ⟨by first | decide | exact Nat.le_of_ble_eq_true rfl | (dsimp only; omega), by first | decide | exact Nat.le_of_ble_eq_true rfl | (dsimp only; omega)⟩) (by rw [hR]; exact ⟨by first | decide | exact Nat.le_of_ble_eq_true rfl | (dsimp only; omega), by first | decide | exact Nat.le_of_ble_eq_true rfl | (dsimp only; omega)⟩) (fun v M1 hv => ?_) (fun E M1 h1 => ?_)
    · obtain ⟨rfl, rfl, h2⟩ := hv
      obtain ⟨k1, k2, k3⟩ := inI_j h2 (by omega)
      refine aw_aload0 X dX8_compare_10 ?_
      refine aw_iload3 X dX8_compare_11 ?_
      refine aw_callVX X (c_X8_checkFile hfl hs) kX8_59 (ci := 9) rfl (hs.at) dX8_compare_12 rfl rfl (by first | decide | exact Nat.le_of_ble_eq_true rfl) (by rw [hR]; exact ⟨by first | decide | exact Nat.le_of_ble_eq_true rfl | (dsimp only; omega), by first | decide | exact Nat.le_of_ble_eq_true rfl | (dsimp only; omega)⟩) (by rw [hR]; exact ⟨by first | decide | exact Nat.le_of_ble_eq_true rfl | (dsimp only; omega), by first | decide | exact Nat.le_of_ble_eq_true rfl | (dsimp only; omega)⟩) (fun v M1 hv => ?_) (fun E M1 h1 => ?_)
      · obtain ⟨rfl, rfl, h3⟩ := hv
        obtain ⟨a1, a2, a3⟩ := inI_j h3 (by omega)
        have hsg : isSig (zG Z) M1 (x + 235 + 3 * ix g) (tS τ g) := hs.2.2.2.2.2.2.2.2.2.2.1 (ix g) k1
        have hrow : isRow (zG Z) M1 (x + 223 + 2 * ix f) (tF τ f) := hs.2.2.2.2.2.2.2.2.2.1 (ix f) (by omega)
        have hdl : isDelta (zG Z) M1 (x + 247 + 6 * ix d) (tD τ d) := hs.2.2.2.2.2.2.2.2.2.2.2 (ix d) j1
        obtain ⟨sv, fw, fs, g1, g2, g3, g4⟩ := id hsg
        obtain ⟨dv, bb, fc, fz, fy, d1, -⟩ := id hdl
        refine aw_aload0 X dX8_compare_15 ?_
        refine aw_get X fX8_17 dX8_compare_16 (hs.at) rfl ?_
        refine aw_iload2 X dX8_compare_19 ?_
        refine aw_aald X at_4 dX8_compare_20 sa1 k2 k1 (by decide) ?_
        refine aw_rf (sa2 _ k1) ?_
        refine aw_get X fX8_117 dX8_compare_21 (g1) rfl ?_
        refine aw_ifne X dX8_compare_24 (tgt := 37) (by decide) (fun c => ?_) (fun c => ?_)
        · have hm : (tS τ g).1 = true := by
            cases hx : (tS τ g).1 with
            | true => rfl
            | false => exact absurd (b2i_0.mpr hx) c
          refine aw_aload0 X dX8_compare_37 ?_
          refine aw_get X fX8_23 dX8_compare_38 (hs.at) rfl ?_
          refine aw_iload1 X dX8_compare_41 ?_
          refine aw_aald X at_5 dX8_compare_42 da1 j2 j1 (by decide) ?_
          refine aw_rf (da2 _ j1) ?_
          refine aw_aload0 X dX8_compare_43 ?_
          refine aw_get X fX8_17 dX8_compare_44 (hs.at) rfl ?_
          refine aw_iload2 X dX8_compare_47 ?_
          refine aw_aald X at_4 dX8_compare_48 sa1 k2 k1 (by decide) ?_
          refine aw_rf (sa2 _ k1) ?_
          refine aw_aload0 X dX8_compare_49 ?_
          refine aw_get X fX8_11 dX8_compare_50 (hs.at) rfl ?_
          refine aw_iload3 X dX8_compare_53 ?_
          refine aw_aald X at_3 dX8_compare_54 fa1 a2 (by omega) (by decide) ?_
          refine aw_rf (fa2 _ (by omega)) ?_
          refine aw_callV X (c_X2_make hdl hsg hrow (by omega) (by omega)) kX8_123 (ci := 3) rfl (d1) dX8_compare_55 rfl rfl (by first | decide | exact Nat.le_of_ble_eq_true rfl) (by rw [hR]; exact ⟨by first | decide | exact Nat.le_of_ble_eq_true rfl | (dsimp only; omega), by first | decide | exact Nat.le_of_ble_eq_true rfl | (dsimp only; omega)⟩) (by rw [hR]; exact ⟨by first | decide | exact Nat.le_of_ble_eq_true rfl | (dsimp only; omega), by first | decide | exact Nat.le_of_ble_eq_true rfl | (dsimp only; omega)⟩) (fun v M2 hv => ?_)
          obtain ⟨q1, q2, rfl⟩ := hv
          have hs2 := hs.delta j1 q1 (KE.out q2)
          obtain ⟨-, bb2, fc2, fz2, fy2, r1, -⟩ := id q1
          refine aw_aload0 X dX8_compare_58 ?_
          refine aw_get X fX8_23 dX8_compare_59 (hs2.at) rfl ?_
          refine aw_iload1 X dX8_compare_62 ?_
          refine aw_aald X at_5 dX8_compare_63 ((KE.out q2) _ _ da1 (by omega)) j2 j1 (by decide) ?_
          refine aw_rf (da2 _ j1) ?_
          refine aw_get X fX8_126 dX8_compare_64 (r1) rfl ?_
          refine aw_widen (k' := 4) (n' := 24) (Nat.le_of_ble_eq_true rfl) (Nat.le_of_ble_eq_true rfl) ?_
          refine aw_ireturn X (ty := .int) hr (by first | rfl | decide | assumption) dX8_compare_67 (RP.of (by rw [spCompare, if_pos ⟨h1, h2, h3⟩, if_pos hm]) hs2 ((KE.out q2).mono (fun q e => by omega)))
        · have hm : ¬ (tS τ g).1 = true := fun e => by
            have := b2i_0.mp c
            rw [e] at this
            cases this
          refine aw_throw X hfl th_ISE (text := "no signature in its place") (by decide) dX8_compare_27 dX8_compare_30 dX8_compare_31 dX8_compare_33 dX8_compare_36 hT (by rw [hR]; exact Nat.le_of_ble_eq_true rfl) (by rw [hR]; exact Nat.le_of_ble_eq_true rfl) (by rw [hR]; exact Nat.le_of_ble_eq_true rfl) (by rw [hR]; exact Nat.le_of_ble_eq_true rfl) (Nat.le_of_ble_eq_true rfl) (Nat.le_of_ble_eq_true rfl) (RX.of (k := 2) (by rw [spCompare, if_pos ⟨h1, h2, h3⟩, if_neg hm]) (by decide) rfl hs rfl)
      · obtain ⟨e1, e2, e3⟩ := h1
        refine ax_out X hT (Nat.le_of_ble_eq_true rfl) (Nat.le_of_ble_eq_true rfl) (RX.of (k := 1) (by rw [spCompare, if_neg (fun h => e3 h.2.2)]) (by decide) e1 hs e2)
    · obtain ⟨e1, e2, e3⟩ := h1
      refine ax_out X hT (Nat.le_of_ble_eq_true rfl) (Nat.le_of_ble_eq_true rfl) (RX.of (k := 1) (by rw [spCompare, if_neg (fun h => e3 h.2.1)]) (by decide) e1 hs e2)
  · obtain ⟨e1, e2, e3⟩ := h1
    refine ax_out X hT (Nat.le_of_ble_eq_true rfl) (Nat.le_of_ble_eq_true rfl) (RX.of (k := 1) (by rw [spCompare, if_neg (fun h => e3 h.1)]) (by decide) e1 hs e2)
theorem c_X8_apply {l : Launch} {G : AG} {M : AM} {x D : Nat} {τ : TS} {d g f : Int32} (hfl : l.stackTraces = false) (hs : isRS G M x D τ) : Cx l G yX8_apply cX8_apply 4 (some .int) { rX8_apply with cells := 4, slots := 24 } M [.ref x, .int d, .int g, .int f] (RP Value.int G M x D (spApply τ d g f)) (RX G M x D (spApply τ d g f) ecIS) := by
  have hn6 := hs.1
  obtain ⟨fa, fa1, fa2⟩ := hs.2.2.2.1
  obtain ⟨sa, sa1, sa2⟩ := hs.2.2.2.2.1
  obtain ⟨da, da1, da2⟩ := hs.2.2.2.2.2.1
  refine Cx.of (by decide) [some (.ref x), some (.int d), some (.int g), some (.int f)] rfl (Nat.le_of_ble_eq_true rfl) ?_
  intro Z hZ hT
  obtain ⟨rfl, hn, rfl, hR, X, hr, hnm⟩ := hZ
  obtain ⟨ap, hap⟩ := hs.2.2.2.2.2.2.1
  refine aw_iload1 X dX8_apply_0 ?_
  refine aw_iconst X dX8_apply_1 (v := nI 4) (by decide) ?_
  refine aw_callSX X (c_X8_checkIndex hfl) kX8_75 dX8_apply_2 rfl rfl (by first | decide | exact Nat.le_of_ble_eq_true rfl) (by rw [hR]; exact ⟨by first | decide | exact Nat.le_of_ble_eq_true rfl | (dsimp only; omega), by first | decide | exact Nat.le_of_ble_eq_true rfl | (dsimp only; omega)⟩) (by rw [hR]; exact ⟨by first | decide | exact Nat.le_of_ble_eq_true rfl | (dsimp only; omega), by first | decide | exact Nat.le_of_ble_eq_true rfl | (dsimp only; omega)⟩) (fun v M1 hv => ?_) (fun E M1 h1 => ?_)
  · obtain ⟨rfl, rfl, h1⟩ := hv
    obtain ⟨j1, j2, j3⟩ := inI_j h1 (by omega)
    refine aw_aload0 X dX8_apply_5 ?_
    refine aw_iload2 X dX8_apply_6 ?_
    refine aw_callVX X (c_X8_checkFile hfl hs) kX8_59 (ci := 9) rfl (hs.at) dX8_apply_7 rfl rfl (by first | decide | exact Nat.le_of_ble_eq_true rfl) (by rw [hR]; exact ⟨by first | decide | exact Nat.le_of_ble_eq_true rfl | (dsimp only; omega), by first | decide | exact Nat.le_of_ble_eq_true rfl | (dsimp only; omega)⟩) (by rw [hR]; exact ⟨by first | decide | exact Nat.le_of_ble_eq_true rfl | (dsimp only; omega), by first | decide | exact Nat.le_of_ble_eq_true rfl | (dsimp only; omega)⟩) (fun v M1 hv => ?_) (fun E M1 h1 => ?_)
    · obtain ⟨rfl, rfl, h2⟩ := hv
      obtain ⟨k1, k2, k3⟩ := inI_j h2 (by omega)
      refine aw_aload0 X dX8_apply_10 ?_
      refine aw_iload3 X dX8_apply_11 ?_
      refine aw_callVX X (c_X8_checkFile hfl hs) kX8_59 (ci := 9) rfl (hs.at) dX8_apply_12 rfl rfl (by first | decide | exact Nat.le_of_ble_eq_true rfl) (by rw [hR]; exact ⟨by first | decide | exact Nat.le_of_ble_eq_true rfl | (dsimp only; omega), by first | decide | exact Nat.le_of_ble_eq_true rfl | (dsimp only; omega)⟩) (by rw [hR]; exact ⟨by first | decide | exact Nat.le_of_ble_eq_true rfl | (dsimp only; omega), by first | decide | exact Nat.le_of_ble_eq_true rfl | (dsimp only; omega)⟩) (fun v M1 hv => ?_) (fun E M1 h1 => ?_)
      · obtain ⟨rfl, rfl, h3⟩ := hv
        obtain ⟨a1, a2, a3⟩ := inI_j h3 (by omega)
        have hrow : isRow (zG Z) M1 (x + 223 + 2 * ix g) (tF τ g) := hs.2.2.2.2.2.2.2.2.2.1 (ix g) (by omega)
        have hrow2 : isRow (zG Z) M1 (x + 223 + 2 * ix f) (tF τ f) := hs.2.2.2.2.2.2.2.2.2.1 (ix f) (by omega)
        have hdl : isDelta (zG Z) M1 (x + 247 + 6 * ix d) (tD τ d) := hs.2.2.2.2.2.2.2.2.2.2.2 (ix d) j1
        obtain ⟨dv, bb, fc, fz, fy, d1, -⟩ := id hdl
        obtain ⟨fr2, rr2, -⟩ := id hrow2
        refine aw_aload0 X dX8_apply_15 ?_
        refine aw_get X fX8_23 dX8_apply_16 (hs.at) rfl ?_
        refine aw_iload1 X dX8_apply_19 ?_
        refine aw_aald X at_5 dX8_apply_20 da1 j2 j1 (by decide) ?_
        refine aw_rf (da2 _ j1) ?_
        refine aw_get X fX8_147 dX8_apply_21 (d1) rfl ?_
        refine aw_ifeq X dX8_apply_24 (tgt := 45) (by decide) (fun c => ?_) (fun c => ?_)
        · have hm : ¬ ((tD τ d).1 = true ∧ fitB (tD τ d).2.1 (tF τ g).length = true) := fun e => by
            have := b2i_0.mp c
            rw [e.1] at this
            cases this
          refine aw_throw X hfl th_ISE (text := "no delta, or a copy goes beyond the basis") (by decide) dX8_apply_45 dX8_apply_48 dX8_apply_49 dX8_apply_51 dX8_apply_54 hT (by rw [hR]; exact Nat.le_of_ble_eq_true rfl) (by rw [hR]; exact Nat.le_of_ble_eq_true rfl) (by rw [hR]; exact Nat.le_of_ble_eq_true rfl) (by rw [hR]; exact Nat.le_of_ble_eq_true rfl) (Nat.le_of_ble_eq_true rfl) (Nat.le_of_ble_eq_true rfl) (RX.of (k := 2) (by rw [spApply, if_pos ⟨h1, h2, h3⟩, if_neg hm]) (by decide) rfl hs rfl)
        · have hm : (tD τ d).1 = true := by
            cases hx : (tD τ d).1 with
            | true => rfl
            | false => exact absurd (b2i_0.mpr hx) c
          refine aw_aload0 X dX8_apply_27 ?_
          refine aw_get X fX8_23 dX8_apply_28 (hs.at) rfl ?_
          refine aw_iload1 X dX8_apply_31 ?_
          refine aw_aald X at_5 dX8_apply_32 da1 j2 j1 (by decide) ?_
          refine aw_rf (da2 _ j1) ?_
          refine aw_aload0 X dX8_apply_33 ?_
          refine aw_get X fX8_11 dX8_apply_34 (hs.at) rfl ?_
          refine aw_iload2 X dX8_apply_37 ?_
          refine aw_aald X at_3 dX8_apply_38 fa1 k2 (by omega) (by decide) ?_
          refine aw_rf (fa2 _ (by omega)) ?_
          refine aw_callV X (c_X2_fits hdl hrow) kX8_148 (ci := 3) rfl (d1) dX8_apply_39 rfl rfl (by first | decide | exact Nat.le_of_ble_eq_true rfl) (by rw [hR]; exact ⟨by first | decide | exact Nat.le_of_ble_eq_true rfl | (dsimp only; omega), by first | decide | exact Nat.le_of_ble_eq_true rfl | (dsimp only; omega)⟩) (by rw [hR]; exact ⟨by first | decide | exact Nat.le_of_ble_eq_true rfl | (dsimp only; omega), by first | decide | exact Nat.le_of_ble_eq_true rfl | (dsimp only; omega)⟩) (fun v M1 hv => ?_)
          obtain ⟨rfl, rfl⟩ := hv
          refine aw_ifne X dX8_apply_42 (tgt := 55) (by decide) (fun c2 => ?_) (fun c2 => ?_)
          · have hft : fitB (tD τ d).2.1 (tF τ g).length = true := by
              cases hx : fitB (tD τ d).2.1 (tF τ g).length with
              | true => rfl
              | false => exact absurd (b2i_0.mpr hx) c2
            refine aw_aload0 X dX8_apply_55 ?_
            refine aw_get X fX8_23 dX8_apply_56 (hs.at) rfl ?_
            refine aw_iload1 X dX8_apply_59 ?_
            refine aw_aald X at_5 dX8_apply_60 da1 j2 j1 (by decide) ?_
            refine aw_rf (da2 _ j1) ?_
            refine aw_aload0 X dX8_apply_61 ?_
            refine aw_get X fX8_11 dX8_apply_62 (hs.at) rfl ?_
            refine aw_iload2 X dX8_apply_65 ?_
            refine aw_aald X at_3 dX8_apply_66 fa1 k2 (by omega) (by decide) ?_
            refine aw_rf (fa2 _ (by omega)) ?_
            refine aw_aload0 X dX8_apply_67 ?_
            refine aw_get X fX8_28 dX8_apply_68 (hs.at) rfl ?_
            refine aw_callV X (c_X2_give hdl hrow hap (by omega) (by omega) hft) kX8_153 (ci := 3) rfl (d1) dX8_apply_71 rfl rfl (by first | decide | exact Nat.le_of_ble_eq_true rfl) (by rw [hR]; exact ⟨by first | decide | exact Nat.le_of_ble_eq_true rfl | (dsimp only; omega), by first | decide | exact Nat.le_of_ble_eq_true rfl | (dsimp only; omega)⟩) (by rw [hR]; exact ⟨by first | decide | exact Nat.le_of_ble_eq_true rfl | (dsimp only; omega), by first | decide | exact Nat.le_of_ble_eq_true rfl | (dsimp only; omega)⟩) (fun v M2 hv => ?_)
            obtain ⟨q1, q2, rfl⟩ := hv
            have hs2 := hs.app q1 (KE.out q2)
            have hrow3 := hrow2.kr (KE.out q2) (fun q a b => by omega)
            refine aw_aload0 X dX8_apply_74 ?_
            refine aw_get X fX8_11 dX8_apply_75 (hs2.at) rfl ?_
            refine aw_iload3 X dX8_apply_78 ?_
            refine aw_aald X at_3 dX8_apply_79 ((KE.out q2) _ _ fa1 (by omega)) a2 (by omega) (by decide) ?_
            refine aw_rf (fa2 _ (by omega)) ?_
            refine aw_aload0 X dX8_apply_80 ?_
            refine aw_get X fX8_28 dX8_apply_81 (hs2.at) rfl ?_
            refine aw_callV X (c_X4_become hrow3 q1 (by omega)) kX8_87 (ci := 5) rfl ((KE.out q2 _ _ rr2 (by omega))) dX8_apply_84 rfl rfl (by first | decide | exact Nat.le_of_ble_eq_true rfl) (by rw [hR]; exact ⟨by first | decide | exact Nat.le_of_ble_eq_true rfl | (dsimp only; omega), by first | decide | exact Nat.le_of_ble_eq_true rfl | (dsimp only; omega)⟩) (by rw [hR]; exact ⟨by first | decide | exact Nat.le_of_ble_eq_true rfl | (dsimp only; omega), by first | decide | exact Nat.le_of_ble_eq_true rfl | (dsimp only; omega)⟩) (fun v M3 hv => ?_)
            obtain ⟨q3, q4, rfl⟩ := hv
            have hs3 := hs2.file (i := ix f) (by omega) q3 (KE.out q4)
            obtain ⟨fq, q5, -⟩ := id q1
            refine aw_aload0 X dX8_apply_87 ?_
            refine aw_get X fX8_28 dX8_apply_88 (hs3.at) rfl ?_
            refine aw_get X fX8_67 dX8_apply_91 ((KE.out q4) _ _ q5 (by omega)) rfl ?_
            refine aw_widen (k' := 4) (n' := 24) (Nat.le_of_ble_eq_true rfl) (Nat.le_of_ble_eq_true rfl) ?_
            refine aw_ireturn X (ty := .int) hr (by first | rfl | decide | assumption) dX8_apply_94 (RP.of (by rw [spApply, if_pos ⟨h1, h2, h3⟩, if_pos ⟨hm, hft⟩]) hs3 (((KE.out q2).mono (fun q e => by omega)).tr ((KE.out q4).mono (fun q e => by omega))))
          · have hft : ¬ ((tD τ d).1 = true ∧ fitB (tD τ d).2.1 (tF τ g).length = true) := fun e => by
              have := b2i_0.mp c2
              rw [e.2] at this
              cases this
            refine aw_throw X hfl th_ISE (text := "no delta, or a copy goes beyond the basis") (by decide) dX8_apply_45 dX8_apply_48 dX8_apply_49 dX8_apply_51 dX8_apply_54 hT (by rw [hR]; exact Nat.le_of_ble_eq_true rfl) (by rw [hR]; exact Nat.le_of_ble_eq_true rfl) (by rw [hR]; exact Nat.le_of_ble_eq_true rfl) (by rw [hR]; exact Nat.le_of_ble_eq_true rfl) (Nat.le_of_ble_eq_true rfl) (Nat.le_of_ble_eq_true rfl) (RX.of (k := 2) (by rw [spApply, if_pos ⟨h1, h2, h3⟩, if_neg hft]) (by decide) rfl hs rfl)
      · obtain ⟨e1, e2, e3⟩ := h1
        refine ax_out X hT (Nat.le_of_ble_eq_true rfl) (Nat.le_of_ble_eq_true rfl) (RX.of (k := 1) (by rw [spApply, if_neg (fun h => e3 h.2.2)]) (by decide) e1 hs e2)
    · obtain ⟨e1, e2, e3⟩ := h1
      refine ax_out X hT (Nat.le_of_ble_eq_true rfl) (Nat.le_of_ble_eq_true rfl) (RX.of (k := 1) (by rw [spApply, if_neg (fun h => e3 h.2.1)]) (by decide) e1 hs e2)
  · obtain ⟨e1, e2, e3⟩ := h1
    refine ax_out X hT (Nat.le_of_ble_eq_true rfl) (Nat.le_of_ble_eq_true rfl) (RX.of (k := 1) (by rw [spApply, if_neg (fun h => e3 h.1)]) (by decide) e1 hs e2)
