/-! calls on files -/
theorem am_b_n (p : Prop) [Decidable p] : narrow .boolean (.int (am_b p)) = .int (am_b p) := by
  unfold am_b
  split <;> rfl
theorem c_X8_file {l : Launch} {G : AG} {M : AM} {x D : Nat} {τ : TS} (hfl : l.stackTraces = false) (hs : isRS G M x D τ) : Cx l G yX8_file cX8_file 1 (some .int) { rX8_file with cells := 1, slots := 6 } M [.ref x] (RP Value.int G M x D (spFile τ)) (RX G M x D (spFile τ) (fun _ => exS)) := by
  have hn6 := hs.1
  refine Cx.of (by decide) [some (.ref x)] rfl (Nat.le_of_ble_eq_true rfl) ?_
  intro Z hZ hT
  obtain ⟨rfl, hn, rfl, hR, X, hr, hnm⟩ := hZ
  refine aw_aload0 X dX8_file_0 ?_
  refine aw_get X fX8_48 dX8_file_1 (hs.at) rfl ?_
  refine aw_bipush X dX8_file_4 (v := nI 6) (by decide) ?_
  refine aw_icmplt X dX8_file_6 (tgt := 19) (by decide) (fun c => ?_) (fun c => ?_)
  · have hlt : τ.1.1 < 6 := (nI_ltI (by omega) (by omega)).mp c
    have hs' := hs.count (n := τ.1.1 + 1) (by omega) am_us KE.up
    refine aw_aload0 X dX8_file_19 ?_
    refine aw_dup X dX8_file_20 rfl ?_
    refine aw_get X fX8_48 dX8_file_21 (hs.at) rfl ?_
    refine aw_iconst X dX8_file_24 (v := nI 1) (by decide) ?_
    refine aw_iadd X dX8_file_25 ?_
    first | with_reducible refine aw_int (nI_add _ _) ?_ | skip
    refine aw_put6 X pX8_48 dX8_file_26 (hs.at) rfl rfl ?_
    refine aw_aload0 X dX8_file_29 ?_
    refine aw_get X fX8_48 dX8_file_30 (am_us) rfl ?_
    refine aw_iconst X dX8_file_33 (v := nI 1) (by decide) ?_
    refine aw_isub X dX8_file_34 ?_
    first | with_reducible refine aw_int (pk_sub (by omega)) ?_ | skip
    refine aw_widen (k' := 1) (n' := 6) (Nat.le_of_ble_eq_true rfl) (Nat.le_of_ble_eq_true rfl) ?_
    refine aw_ireturn X (ty := .int) hr (by first | rfl | decide | assumption) dX8_file_35 (RP.of (by rw [spFile, if_pos hlt]; rfl) hs' (KE.up.mono (fun q e => by omega)))
  · have hlt : ¬ τ.1.1 < 6 := fun e => c (nI_lt e (by omega))
    refine aw_throw X hfl th_ISE (text := "there are 6 files") (by decide) dX8_file_9 dX8_file_12 dX8_file_13 dX8_file_15 dX8_file_18 hT (by rw [hR]; exact Nat.le_of_ble_eq_true rfl) (by rw [hR]; exact Nat.le_of_ble_eq_true rfl) (by rw [hR]; exact Nat.le_of_ble_eq_true rfl) (by rw [hR]; exact Nat.le_of_ble_eq_true rfl) (Nat.le_of_ble_eq_true rfl) (Nat.le_of_ble_eq_true rfl) (RX.of (k := 1) (by rw [spFile, if_neg hlt]) (by decide) rfl hs rfl)
theorem c_X8_length {l : Launch} {G : AG} {M : AM} {x D : Nat} {τ : TS} {f : Int32} (hfl : l.stackTraces = false) (hs : isRS G M x D τ) : Cx l G yX8_length cX8_length 2 (some .int) { rX8_length with cells := 1, slots := 6 } M [.ref x, .int f] (RP Value.int G M x D (spLength τ f)) (RX G M x D (spLength τ f) ecI) := by
  have hn6 := hs.1
  obtain ⟨fa, fa1, fa2⟩ := hs.2.2.2.1
  refine Cx.of (by decide) [some (.ref x), some (.int f)] rfl (Nat.le_of_ble_eq_true rfl) ?_
  intro Z hZ hT
  obtain ⟨rfl, hn, rfl, hR, X, hr, hnm⟩ := hZ
  refine aw_aload0 X dX8_length_0 ?_
  refine aw_iload1 X dX8_length_1 ?_
  refine aw_callVX X (c_X8_checkFile hfl hs) kX8_59 (ci := 9) rfl (hs.at) dX8_length_2 rfl rfl (by first | decide | exact Nat.le_of_ble_eq_true rfl) (by rw [hR]; exact ⟨by first | decide | exact Nat.le_of_ble_eq_true rfl | (dsimp only; omega), by first | decide | exact Nat.le_of_ble_eq_true rfl | (dsimp only; omega)⟩) (by rw [hR]; exact ⟨by first | decide | exact Nat.le_of_ble_eq_true rfl | (dsimp only; omega), by first | decide | exact Nat.le_of_ble_eq_true rfl | (dsimp only; omega)⟩) (fun v M1 hv => ?_) (fun E M1 h1 => ?_)
  · obtain ⟨rfl, rfl, h1⟩ := hv
    obtain ⟨j1, j2, j3⟩ := inI_j h1 (by omega)
    obtain ⟨fr, r1, -⟩ := hs.2.2.2.2.2.2.2.2.2.1 (ix f) (by omega)
    refine aw_aload0 X dX8_length_5 ?_
    refine aw_get X fX8_11 dX8_length_6 (hs.at) rfl ?_
    refine aw_iload1 X dX8_length_9 ?_
    refine aw_aald X at_3 dX8_length_10 fa1 j2 (by omega) (by decide) ?_
    refine aw_rf (fa2 _ (by omega)) ?_
    refine aw_get X fX8_67 dX8_length_11 (r1) rfl ?_
    refine aw_ireturn X (ty := .int) hr (by first | rfl | decide | assumption) dX8_length_14 (RP.of (by rw [spLength, if_pos h1]) hs KE.rf)
  · obtain ⟨e1, e2, e3⟩ := h1
    refine ax_out X hT (Nat.le_of_ble_eq_true rfl) (Nat.le_of_ble_eq_true rfl) (RX.of (k := 1) (by rw [spLength, if_neg e3]) (by decide) e1 hs e2)
theorem c_X8_byteAt {l : Launch} {G : AG} {M : AM} {x D : Nat} {τ : TS} {f p : Int32} (hfl : l.stackTraces = false) (hs : isRS G M x D τ) : Cx l G yX8_byteAt cX8_byteAt 3 (some .int) { rX8_byteAt with cells := 2, slots := 12 } M [.ref x, .int f, .int p] (RP Value.int G M x D (spByteAt τ f p)) (RX G M x D (spByteAt τ f p) ecI) := by
  have hn6 := hs.1
  obtain ⟨fa, fa1, fa2⟩ := hs.2.2.2.1
  refine Cx.of (by decide) [some (.ref x), some (.int f), some (.int p)] rfl (Nat.le_of_ble_eq_true rfl) ?_
  intro Z hZ hT
  obtain ⟨rfl, hn, rfl, hR, X, hr, hnm⟩ := hZ
  refine aw_aload0 X dX8_byteAt_0 ?_
  refine aw_iload1 X dX8_byteAt_1 ?_
  refine aw_callVX X (c_X8_checkFile hfl hs) kX8_59 (ci := 9) rfl (hs.at) dX8_byteAt_2 rfl rfl (by first | decide | exact Nat.le_of_ble_eq_true rfl) (by rw [hR]; exact ⟨by first | decide | exact Nat.le_of_ble_eq_true rfl | (dsimp only; omega), by first | decide | exact Nat.le_of_ble_eq_true rfl | (dsimp only; omega)⟩) (by rw [hR]; exact ⟨by first | decide | exact Nat.le_of_ble_eq_true rfl | (dsimp only; omega), by first | decide | exact Nat.le_of_ble_eq_true rfl | (dsimp only; omega)⟩) (fun v M1 hv => ?_) (fun E M1 h1 => ?_)
  · obtain ⟨rfl, rfl, h1⟩ := hv
    obtain ⟨j1, j2, j3⟩ := inI_j h1 (by omega)
    have hrow : isRow (zG Z) M1 (x + 223 + 2 * ix f) (tF τ f) := hs.2.2.2.2.2.2.2.2.2.1 (ix f) (by omega)
    have hbl : (tF τ f).length ≤ 120 := hrow.le
    obtain ⟨fr, r1, -⟩ := id hrow
    refine aw_iload2 X dX8_byteAt_5 ?_
    refine aw_aload0 X dX8_byteAt_6 ?_
    refine aw_get X fX8_11 dX8_byteAt_7 (hs.at) rfl ?_
    refine aw_iload1 X dX8_byteAt_10 ?_
    refine aw_aald X at_3 dX8_byteAt_11 fa1 j2 (by omega) (by decide) ?_
    refine aw_rf (fa2 _ (by omega)) ?_
    refine aw_get X fX8_67 dX8_byteAt_12 (r1) rfl ?_
    refine aw_callSX X (c_X8_checkIndex hfl) kX8_75 dX8_byteAt_15 rfl rfl (by first | decide | exact Nat.le_of_ble_eq_true rfl) (by rw [hR]; exact ⟨by first | decide | exact Nat.le_of_ble_eq_true rfl | (dsimp only; omega), by first | decide | exact Nat.le_of_ble_eq_true rfl | (dsimp only; omega)⟩) (by rw [hR]; exact ⟨by first | decide | exact Nat.le_of_ble_eq_true rfl | (dsimp only; omega), by first | decide | exact Nat.le_of_ble_eq_true rfl | (dsimp only; omega)⟩) (fun v M1 hv => ?_) (fun E M1 h1 => ?_)
    · obtain ⟨rfl, rfl, h2⟩ := hv
      obtain ⟨k1, k2, k3⟩ := inI_j h2 (by omega)
      refine aw_aload0 X dX8_byteAt_18 ?_
      refine aw_get X fX8_11 dX8_byteAt_19 (hs.at) rfl ?_
      refine aw_iload1 X dX8_byteAt_22 ?_
      refine aw_aald X at_3 dX8_byteAt_23 fa1 j2 (by omega) (by decide) ?_
      refine aw_rf (fa2 _ (by omega)) ?_
      refine aw_iload2 X dX8_byteAt_24 ?_
      refine aw_callV X (c_X4_at hrow) kX8_91 (ci := 5) rfl (r1) dX8_byteAt_25 rfl rfl (by first | decide | exact Nat.le_of_ble_eq_true rfl) (by rw [hR]; exact ⟨by first | decide | exact Nat.le_of_ble_eq_true rfl | (dsimp only; omega), by first | decide | exact Nat.le_of_ble_eq_true rfl | (dsimp only; omega)⟩) (by rw [hR]; exact ⟨by first | decide | exact Nat.le_of_ble_eq_true rfl | (dsimp only; omega), by first | decide | exact Nat.le_of_ble_eq_true rfl | (dsimp only; omega)⟩) (fun v M1 hv => ?_)
      obtain ⟨rfl, rfl⟩ := hv
      refine aw_int (show am_at (τ.1.2 (ix f)) p = (tF τ f).getD (ix p) 0 by rw [k2, am_at_n k3, ← k2]) ?_
      refine aw_ireturn X (ty := .int) hr (by first | rfl | decide | assumption) dX8_byteAt_28 (RP.of (by rw [spByteAt, if_pos ⟨h1, h2⟩]) hs KE.rf)
    · obtain ⟨e1, e2, e3⟩ := h1
      refine ax_out X hT (Nat.le_of_ble_eq_true rfl) (Nat.le_of_ble_eq_true rfl) (RX.of (k := 1) (by rw [spByteAt, if_neg (fun h => e3 h.2)]) (by decide) e1 hs e2)
  · obtain ⟨e1, e2, e3⟩ := h1
    refine ax_out X hT (Nat.le_of_ble_eq_true rfl) (Nat.le_of_ble_eq_true rfl) (RX.of (k := 1) (by rw [spByteAt, if_neg (fun h => e3 h.1)]) (by decide) e1 hs e2)
theorem c_X8_copy {l : Launch} {G : AG} {M : AM} {x D : Nat} {τ : TS} {f p : Int32} (hfl : l.stackTraces = false) (hs : isRS G M x D τ) : Cx l G yX8_copy cX8_copy 3 none { rX8_copy with cells := 2, slots := 12 } M [.ref x, .int f, .int p] (RPv G M x D (spCopy τ f p)) (RX G M x D (spCopy τ f p) ecI) := by
  have hn6 := hs.1
  obtain ⟨fa, fa1, fa2⟩ := hs.2.2.2.1
  refine Cx.of (by decide) [some (.ref x), some (.int f), some (.int p)] rfl (Nat.le_of_ble_eq_true rfl) ?_
  intro Z hZ hT
  obtain ⟨rfl, hn, rfl, hR, X, hr, hnm⟩ := hZ
  refine aw_aload0 X dX8_copy_0 ?_
  refine aw_iload1 X dX8_copy_1 ?_
  refine aw_callVX X (c_X8_checkFile hfl hs) kX8_59 (ci := 9) rfl (hs.at) dX8_copy_2 rfl rfl (by first | decide | exact Nat.le_of_ble_eq_true rfl) (by rw [hR]; exact ⟨by first | decide | exact Nat.le_of_ble_eq_true rfl | (dsimp only; omega), by first | decide | exact Nat.le_of_ble_eq_true rfl | (dsimp only; omega)⟩) (by rw [hR]; exact ⟨by first | decide | exact Nat.le_of_ble_eq_true rfl | (dsimp only; omega), by first | decide | exact Nat.le_of_ble_eq_true rfl | (dsimp only; omega)⟩) (fun v M1 hv => ?_) (fun E M1 h1 => ?_)
  · obtain ⟨rfl, rfl, h1⟩ := hv
    refine aw_aload0 X dX8_copy_5 ?_
    refine aw_iload2 X dX8_copy_6 ?_
    refine aw_callVX X (c_X8_checkFile hfl hs) kX8_59 (ci := 9) rfl (hs.at) dX8_copy_7 rfl rfl (by first | decide | exact Nat.le_of_ble_eq_true rfl) (by rw [hR]; exact ⟨by first | decide | exact Nat.le_of_ble_eq_true rfl | (dsimp only; omega), by first | decide | exact Nat.le_of_ble_eq_true rfl | (dsimp only; omega)⟩) (by rw [hR]; exact ⟨by first | decide | exact Nat.le_of_ble_eq_true rfl | (dsimp only; omega), by first | decide | exact Nat.le_of_ble_eq_true rfl | (dsimp only; omega)⟩) (fun v M1 hv => ?_) (fun E M1 h1 => ?_)
    · obtain ⟨rfl, rfl, h2⟩ := hv
      obtain ⟨j1, j2, j3⟩ := inI_j h1 (by omega)
      obtain ⟨k1, k2, k3⟩ := inI_j h2 (by omega)
      have hrow : isRow (zG Z) M1 (x + 223 + 2 * ix f) (tF τ f) := hs.2.2.2.2.2.2.2.2.2.1 (ix f) (by omega)
      have hrow2 := hs.2.2.2.2.2.2.2.2.2.1 (ix p) (by omega)
      obtain ⟨fr, r1, -⟩ := id hrow2
      refine aw_aload0 X dX8_copy_10 ?_
      refine aw_get X fX8_11 dX8_copy_11 (hs.at) rfl ?_
      refine aw_iload2 X dX8_copy_14 ?_
      refine aw_aald X at_3 dX8_copy_15 fa1 k2 (by omega) (by decide) ?_
      refine aw_rf (fa2 _ (by omega)) ?_
      refine aw_aload0 X dX8_copy_16 ?_
      refine aw_get X fX8_11 dX8_copy_17 (hs.at) rfl ?_
      refine aw_iload1 X dX8_copy_20 ?_
      refine aw_aald X at_3 dX8_copy_21 fa1 j2 (by omega) (by decide) ?_
      refine aw_rf (fa2 _ (by omega)) ?_
      refine aw_callV X (c_X4_become hrow2 hrow (by omega)) kX8_87 (ci := 5) rfl (r1) dX8_copy_22 rfl rfl (by first | decide | exact Nat.le_of_ble_eq_true rfl) (by rw [hR]; exact ⟨by first | decide | exact Nat.le_of_ble_eq_true rfl | (dsimp only; omega), by first | decide | exact Nat.le_of_ble_eq_true rfl | (dsimp only; omega)⟩) (by rw [hR]; exact ⟨by first | decide | exact Nat.le_of_ble_eq_true rfl | (dsimp only; omega), by first | decide | exact Nat.le_of_ble_eq_true rfl | (dsimp only; omega)⟩) (fun v M2 hv => ?_)
      obtain ⟨q1, q2, rfl⟩ := hv
      refine aw_vreturn X hr dX8_copy_25 (RPv.of (by rw [spCopy, if_pos ⟨h1, h2⟩]) (hs.file (by omega) q1 (KE.out q2)) ((KE.out q2).mono (fun q e => by omega)))
    · obtain ⟨e1, e2, e3⟩ := h1
      refine ax_out X hT (Nat.le_of_ble_eq_true rfl) (Nat.le_of_ble_eq_true rfl) (RX.of (k := 1) (by rw [spCopy, if_neg (fun h => e3 h.2)]) (by decide) e1 hs e2)
  · obtain ⟨e1, e2, e3⟩ := h1
    refine ax_out X hT (Nat.le_of_ble_eq_true rfl) (Nat.le_of_ble_eq_true rfl) (RX.of (k := 1) (by rw [spCopy, if_neg (fun h => e3 h.1)]) (by decide) e1 hs e2)
theorem c_X8_insert {l : Launch} {G : AG} {M : AM} {x D : Nat} {τ : TS} {f p y : Int32} (hfl : l.stackTraces = false) (hs : isRS G M x D τ) : Cx l G yX8_insert cX8_insert 5 (some .int) { rX8_insert with cells := 4, slots := 24 } M [.ref x, .int f, .int p, .int y] (RP Value.int G M x D (spInsert τ f p y)) (RX G M x D (spInsert τ f p y) ecIAS) := by
  have hn6 := hs.1
  obtain ⟨fa, fa1, fa2⟩ := hs.2.2.2.1
  refine Cx.of (by decide) [some (.ref x), some (.int f), some (.int p), some (.int y), none] rfl (Nat.le_of_ble_eq_true rfl) ?_
  intro Z hZ hT
  obtain ⟨rfl, hn, rfl, hR, X, hr, hnm⟩ := hZ
  refine aw_aload0 X dX8_insert_0 ?_
  refine aw_iload1 X dX8_insert_1 ?_
  refine aw_callVX X (c_X8_checkFile hfl hs) kX8_59 (ci := 9) rfl (hs.at) dX8_insert_2 rfl rfl (by first | decide | exact Nat.le_of_ble_eq_true rfl) (by rw [hR]; exact ⟨by first | decide | exact Nat.le_of_ble_eq_true rfl | (dsimp only; omega), by first | decide | exact Nat.le_of_ble_eq_true rfl | (dsimp only; omega)⟩) (by rw [hR]; exact ⟨by first | decide | exact Nat.le_of_ble_eq_true rfl | (dsimp only; omega), by first | decide | exact Nat.le_of_ble_eq_true rfl | (dsimp only; omega)⟩) (fun v M1 hv => ?_) (fun E M1 h1 => ?_)
  · obtain ⟨rfl, rfl, h1⟩ := hv
    obtain ⟨j1, j2, j3⟩ := inI_j h1 (by omega)
    have hrow : isRow (zG Z) M1 (x + 223 + 2 * ix f) (tF τ f) := hs.2.2.2.2.2.2.2.2.2.1 (ix f) (by omega)
    have hbl : (tF τ f).length ≤ 120 := hrow.le
    obtain ⟨fr, r1, -⟩ := id hrow
    refine aw_aload0 X dX8_insert_5 ?_
    refine aw_get X fX8_11 dX8_insert_6 (hs.at) rfl ?_
    refine aw_iload1 X dX8_insert_9 ?_
    refine aw_aald X at_3 dX8_insert_10 fa1 j2 (by omega) (by decide) ?_
    refine aw_rf (fa2 _ (by omega)) ?_
    refine aw_astore4 X dX8_insert_11 (by rw [hn]; decide) rfl ?_
    refine aw_iload2 X dX8_insert_13 ?_
    refine aw_aload4 X dX8_insert_14 ?_
    refine aw_get X fX8_67 dX8_insert_16 (r1) rfl ?_
    refine aw_iconst X dX8_insert_19 (v := nI 1) (by decide) ?_
    refine aw_iadd X dX8_insert_20 ?_
    first | with_reducible refine aw_int (nI_add _ _) ?_ | skip
    refine aw_callSX X (c_X8_checkIndex hfl) kX8_75 dX8_insert_21 rfl rfl (by first | decide | exact Nat.le_of_ble_eq_true rfl) (by rw [hR]; exact ⟨by first | decide | exact Nat.le_of_ble_eq_true rfl | (dsimp only; omega), by first | decide | exact Nat.le_of_ble_eq_true rfl | (dsimp only; omega)⟩) (by rw [hR]; exact ⟨by first | decide | exact Nat.le_of_ble_eq_true rfl | (dsimp only; omega), by first | decide | exact Nat.le_of_ble_eq_true rfl | (dsimp only; omega)⟩) (fun v M1 hv => ?_) (fun E M1 h1 => ?_)
    · obtain ⟨rfl, rfl, h2⟩ := hv
      obtain ⟨k1, k2, k3⟩ := inI_j h2 (by omega)
      refine aw_iload3 X dX8_insert_24 ?_
      refine aw_iconst X dX8_insert_25 (v := nI 0) (by decide) ?_
      refine aw_sipush X dX8_insert_26 (v := nI 255) (by decide) ?_
      refine aw_callSX X (c_X8_checkRange hfl) kX8_63 dX8_insert_29 rfl rfl (by first | decide | exact Nat.le_of_ble_eq_true rfl) (by rw [hR]; exact ⟨by first | decide | exact Nat.le_of_ble_eq_true rfl | (dsimp only; omega), by first | decide | exact Nat.le_of_ble_eq_true rfl | (dsimp only; omega)⟩) (by rw [hR]; exact ⟨by first | decide | exact Nat.le_of_ble_eq_true rfl | (dsimp only; omega), by first | decide | exact Nat.le_of_ble_eq_true rfl | (dsimp only; omega)⟩) (fun v M1 hv => ?_) (fun E M1 h1 => ?_)
      · obtain ⟨rfl, rfl, h3⟩ := hv
        refine aw_aload4 X dX8_insert_32 ?_
        refine aw_get X fX8_67 dX8_insert_34 (r1) rfl ?_
        refine aw_bipush X dX8_insert_37 (v := nI 120) (by decide) ?_
        refine aw_icmplt X dX8_insert_39 (tgt := 52) (by decide) (fun c => ?_) (fun c => ?_)
        · have hlt : (tF τ f).length < 120 := (nI_ltI (by omega) (by omega)).mp c
          refine aw_aload4 X dX8_insert_52 ?_
          refine aw_iload2 X dX8_insert_54 ?_
          refine aw_iload3 X dX8_insert_55 ?_
          rw [k2]
          refine aw_callV X (c_X4_putIn hrow hlt (by omega)) kX8_81 (ci := 5) rfl (r1) dX8_insert_56 rfl rfl (by first | decide | exact Nat.le_of_ble_eq_true rfl) (by rw [hR]; exact ⟨by first | decide | exact Nat.le_of_ble_eq_true rfl | (dsimp only; omega), by first | decide | exact Nat.le_of_ble_eq_true rfl | (dsimp only; omega)⟩) (by rw [hR]; exact ⟨by first | decide | exact Nat.le_of_ble_eq_true rfl | (dsimp only; omega), by first | decide | exact Nat.le_of_ble_eq_true rfl | (dsimp only; omega)⟩) (fun v M2 hv => ?_)
          obtain ⟨q1, q2, rfl⟩ := hv
          obtain ⟨fr2, r2, -⟩ := id q1
          refine aw_aload4 X dX8_insert_59 ?_
          refine aw_get X fX8_67 dX8_insert_61 (r2) rfl ?_
          refine aw_widen (k' := 4) (n' := 24) (Nat.le_of_ble_eq_true rfl) (Nat.le_of_ble_eq_true rfl) ?_
          refine aw_int (y := nI ((tF τ f).length + 1)) (by congr 1; rw [List.length_append, List.length_cons, List.length_take, List.length_drop]; omega) ?_
          refine aw_ireturn X (ty := .int) hr (by first | rfl | decide | assumption) dX8_insert_64 (RP.of (by rw [← k2, spInsert, if_pos ⟨h1, h2⟩, if_pos h3, if_pos hlt]) (hs.file (by omega) q1 (KE.out q2)) ((KE.out q2).mono (fun q e => by omega)))
        · have hlt : ¬ (tF τ f).length < 120 := fun e => c (nI_lt e (by omega))
          refine aw_throw X hfl th_ISE (text := "the file has 120 bytes") (by decide) dX8_insert_42 dX8_insert_45 dX8_insert_46 dX8_insert_48 dX8_insert_51 hT (by rw [hR]; exact Nat.le_of_ble_eq_true rfl) (by rw [hR]; exact Nat.le_of_ble_eq_true rfl) (by rw [hR]; exact Nat.le_of_ble_eq_true rfl) (by rw [hR]; exact Nat.le_of_ble_eq_true rfl) (Nat.le_of_ble_eq_true rfl) (Nat.le_of_ble_eq_true rfl) (RX.of (k := 3) (by rw [spInsert, if_pos ⟨h1, h2⟩, if_pos h3, if_neg hlt]) (by decide) rfl hs rfl)
      · obtain ⟨e1, e2, e3⟩ := h1
        refine ax_out X hT (Nat.le_of_ble_eq_true rfl) (Nat.le_of_ble_eq_true rfl) (RX.of (k := 2) (by rw [spInsert, if_pos ⟨by assumption, h2⟩, if_neg e3]) (by decide) e1 hs e2)
    · obtain ⟨e1, e2, e3⟩ := h1
      refine ax_out X hT (Nat.le_of_ble_eq_true rfl) (Nat.le_of_ble_eq_true rfl) (RX.of (k := 1) (by rw [spInsert, if_neg (fun h => e3 h.2)]) (by decide) e1 hs e2)
  · obtain ⟨e1, e2, e3⟩ := h1
    refine ax_out X hT (Nat.le_of_ble_eq_true rfl) (Nat.le_of_ble_eq_true rfl) (RX.of (k := 1) (by rw [spInsert, if_neg (fun h => e3 h.1)]) (by decide) e1 hs e2)
