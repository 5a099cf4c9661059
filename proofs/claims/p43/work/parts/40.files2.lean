theorem c_X8_remove {l : Launch} {G : AG} {M : AM} {x D : Nat} {τ : TS} {f p y : Int32} (hfl : l.stackTraces = false) (hs : isRS G M x D τ) : Cx l G yX8_remove cX8_remove 5 (some .int) { rX8_remove with cells := 3, slots := 18 } M [.ref x, .int f, .int p, .int y] (RP Value.int G M x D (spRemove τ f p y)) (RX G M x D (spRemove τ f p y) ecIA) := by
  have hn6 := hs.1
  obtain ⟨fa, fa1, fa2⟩ := hs.2.2.2.1
  refine Cx.of (by decide) [some (.ref x), some (.int f), some (.int p), some (.int y), none] rfl (Nat.le_of_ble_eq_true rfl) ?_
  intro Z hZ hT
  obtain ⟨rfl, hn, rfl, hR, X, hr, hnm⟩ := hZ
  refine aw_aload0 X dX8_remove_0 ?_
  refine aw_iload1 X dX8_remove_1 ?_
  refine aw_callVX X (c_X8_checkFile hfl hs) kX8_59 (ci := 9) rfl (hs.at) dX8_remove_2 rfl rfl (by first | decide | exact Nat.le_of_ble_eq_true rfl) (by rw [hR]; exact ⟨by first | decide | exact Nat.le_of_ble_eq_true rfl | (dsimp only; omega), by first | decide | exact Nat.le_of_ble_eq_true rfl | (dsimp only; omega)⟩) (by rw [hR]; exact ⟨by first | decide | exact Nat.le_of_ble_eq_true rfl | (dsimp only; omega), by first | decide | exact Nat.le_of_ble_eq_true rfl | (dsimp only; omega)⟩) (fun v M1 hv => ?_) (fun E M1 h1 => ?_)
  · obtain ⟨rfl, rfl, h1⟩ := hv
    obtain ⟨j1, j2, j3⟩ := inI_j h1 (by omega)
    have hrow : isRow (zG Z) M1 (x + 223 + 2 * ix f) (tF τ f) := hs.2.2.2.2.2.2.2.2.2.1 (ix f) (by omega)
    have hbl : (tF τ f).length ≤ 120 := hrow.le
    obtain ⟨fr, r1, -⟩ := id hrow
    refine aw_aload0 X dX8_remove_5 ?_
    refine aw_get X fX8_11 dX8_remove_6 (hs.at) rfl ?_
    refine aw_iload1 X dX8_remove_9 ?_
    refine aw_aald X at_3 dX8_remove_10 fa1 j2 (by omega) (by decide) ?_
    refine aw_rf (fa2 _ (by omega)) ?_
    refine aw_astore4 X dX8_remove_11 (by rw [hn]; decide) rfl ?_
    refine aw_iload2 X dX8_remove_13 ?_
    refine aw_aload4 X dX8_remove_14 ?_
    refine aw_get X fX8_67 dX8_remove_16 (r1) rfl ?_
    refine aw_iconst X dX8_remove_19 (v := nI 1) (by decide) ?_
    refine aw_iadd X dX8_remove_20 ?_
    first | with_reducible refine aw_int (nI_add _ _) ?_ | skip
    refine aw_callSX X (c_X8_checkIndex hfl) kX8_75 dX8_remove_21 rfl rfl (by first | decide | exact Nat.le_of_ble_eq_true rfl) (by rw [hR]; exact ⟨by first | decide | exact Nat.le_of_ble_eq_true rfl | (dsimp only; omega), by first | decide | exact Nat.le_of_ble_eq_true rfl | (dsimp only; omega)⟩) (by rw [hR]; exact ⟨by first | decide | exact Nat.le_of_ble_eq_true rfl | (dsimp only; omega), by first | decide | exact Nat.le_of_ble_eq_true rfl | (dsimp only; omega)⟩) (fun v M1 hv => ?_) (fun E M1 h1 => ?_)
    · obtain ⟨rfl, rfl, h2⟩ := hv
      obtain ⟨k1, k2, k3⟩ := inI_j h2 (by omega)
      refine aw_iload3 X dX8_remove_24 ?_
      refine aw_iconst X dX8_remove_25 (v := nI 0) (by decide) ?_
      refine aw_aload4 X dX8_remove_26 ?_
      refine aw_get X fX8_67 dX8_remove_28 (r1) rfl ?_
      refine aw_iload2 X dX8_remove_31 ?_
      refine aw_isub X dX8_remove_32 ?_
      refine aw_int (y := nI ((tF τ f).length - ix p)) (by conv => lhs; rw [k2]
                                                           exact pk_sub (by omega)) ?_
      refine aw_callSX X (c_X8_checkRange hfl) kX8_63 dX8_remove_33 rfl rfl (by first | decide | exact Nat.le_of_ble_eq_true rfl) (by rw [hR]; exact ⟨by first | decide | exact Nat.le_of_ble_eq_true rfl | (dsimp only; omega), by first | decide | exact Nat.le_of_ble_eq_true rfl | (dsimp only; omega)⟩) (by rw [hR]; exact ⟨by first | decide | exact Nat.le_of_ble_eq_true rfl | (dsimp only; omega), by first | decide | exact Nat.le_of_ble_eq_true rfl | (dsimp only; omega)⟩) (fun v M1 hv => ?_) (fun E M1 h1 => ?_)
      · obtain ⟨rfl, rfl, h3⟩ := hv
        obtain ⟨m1, m2, m3⟩ := rgI_j h3 (by omega) (by omega)
        refine aw_aload4 X dX8_remove_36 ?_
        refine aw_iload2 X dX8_remove_38 ?_
        refine aw_iload3 X dX8_remove_39 ?_
        have e2 : (Value.int p) = .int (nI (ix p)) := congrArg Value.int k2
        have e3 : (Value.int y) = .int (nI (ix y)) := congrArg Value.int m3
        rw [e2, e3]
        refine aw_callV X (c_X4_takeOut hrow (by omega)) kX8_84 (ci := 5) rfl (r1) dX8_remove_40 rfl rfl (by first | decide | exact Nat.le_of_ble_eq_true rfl) (by rw [hR]; exact ⟨by first | decide | exact Nat.le_of_ble_eq_true rfl | (dsimp only; omega), by first | decide | exact Nat.le_of_ble_eq_true rfl | (dsimp only; omega)⟩) (by rw [hR]; exact ⟨by first | decide | exact Nat.le_of_ble_eq_true rfl | (dsimp only; omega), by first | decide | exact Nat.le_of_ble_eq_true rfl | (dsimp only; omega)⟩) (fun v M2 hv => ?_)
        obtain ⟨q1, q2, rfl⟩ := hv
        obtain ⟨fr2, r2, -⟩ := id q1
        refine aw_aload4 X dX8_remove_43 ?_
        refine aw_get X fX8_67 dX8_remove_45 (r2) rfl ?_
        refine aw_int (y := nI ((tF τ f).length - ix y)) (by congr 1; rw [List.length_append, List.length_take, List.length_drop]; omega) ?_
        refine aw_ireturn X (ty := .int) hr (by first | rfl | decide | assumption) dX8_remove_48 (RP.of (by rw [spRemove, if_pos ⟨h1, h2⟩, if_pos h3]) (hs.file (by omega) q1 (KE.out q2)) ((KE.out q2).mono (fun q e => by omega)))
      · obtain ⟨e1, e2, e3⟩ := h1
        refine ax_out X hT (Nat.le_of_ble_eq_true rfl) (Nat.le_of_ble_eq_true rfl) (RX.of (k := 2) (by rw [spRemove, if_pos ⟨by assumption, h2⟩, if_neg e3]) (by decide) e1 hs e2)
    · obtain ⟨e1, e2, e3⟩ := h1
      refine ax_out X hT (Nat.le_of_ble_eq_true rfl) (Nat.le_of_ble_eq_true rfl) (RX.of (k := 1) (by rw [spRemove, if_neg (fun h => e3 h.2)]) (by decide) e1 hs e2)
  · obtain ⟨e1, e2, e3⟩ := h1
    refine ax_out X hT (Nat.le_of_ble_eq_true rfl) (Nat.le_of_ble_eq_true rfl) (RX.of (k := 1) (by rw [spRemove, if_neg (fun h => e3 h.1)]) (by decide) e1 hs e2)
theorem adds_len (a s : Nat) : ∀ k, (adds a s k).length = k
  | 0 => rfl
  | k + 1 => by
    rw [adds, List.length_append, adds_len a s k]
    rfl
theorem c_X8_add {l : Launch} {G : AG} {M : AM} {x D : Nat} {τ : TS} {f p y m : Int32} (hfl : l.stackTraces = false) (hs : isRS G M x D τ) : Cx l G yX8_add cX8_add 7 (some .int) { rX8_add with cells := 5, slots := 30 } M [.ref x, .int f, .int p, .int y, .int m] (RP Value.int G M x D (spAdd τ f p y m)) (RX G M x D (spAdd τ f p y m) ecIAS) := by
  have hn6 := hs.1
  obtain ⟨fa, fa1, fa2⟩ := hs.2.2.2.1
  refine Cx.of (by decide) [some (.ref x), some (.int f), some (.int p), some (.int y), some (.int m), none, none] rfl (Nat.le_of_ble_eq_true rfl) ?_
  intro Z hZ hT
  obtain ⟨rfl, hn, rfl, hR, X, hr, hnm⟩ := hZ
  refine aw_aload0 X dX8_add_0 ?_
  refine aw_iload1 X dX8_add_1 ?_
  refine aw_callVX X (c_X8_checkFile hfl hs) kX8_59 (ci := 9) rfl (hs.at) dX8_add_2 rfl rfl (by first | decide | exact Nat.le_of_ble_eq_true rfl) (by rw [hR]; exact ⟨by first | decide | exact Nat.le_of_ble_eq_true rfl | (dsimp only; omega), by first | decide | exact Nat.le_of_ble_eq_true rfl | (dsimp only; omega)⟩) (by rw [hR]; exact ⟨by first | decide | exact Nat.le_of_ble_eq_true rfl | (dsimp only; omega), by first | decide | exact Nat.le_of_ble_eq_true rfl | (dsimp only; omega)⟩) (fun v M1 hv => ?_) (fun E M1 h1 => ?_)
  · obtain ⟨rfl, rfl, h1⟩ := hv
    obtain ⟨j1, j2, j3⟩ := inI_j h1 (by omega)
    refine aw_iload2 X dX8_add_5 ?_
    refine aw_iconst X dX8_add_6 (v := nI 0) (by decide) ?_
    refine aw_sipush X dX8_add_7 (v := nI 255) (by decide) ?_
    refine aw_callSX X (c_X8_checkRange hfl) kX8_63 dX8_add_10 rfl rfl (by first | decide | exact Nat.le_of_ble_eq_true rfl) (by rw [hR]; exact ⟨by first | decide | exact Nat.le_of_ble_eq_true rfl | (dsimp only; omega), by first | decide | exact Nat.le_of_ble_eq_true rfl | (dsimp only; omega)⟩) (by rw [hR]; exact ⟨by first | decide | exact Nat.le_of_ble_eq_true rfl | (dsimp only; omega), by first | decide | exact Nat.le_of_ble_eq_true rfl | (dsimp only; omega)⟩) (fun v M1 hv => ?_) (fun E M1 h1 => ?_)
    · obtain ⟨rfl, rfl, h2⟩ := hv
      obtain ⟨a1, a2, a3⟩ := rgI_j h2 (by omega) (by omega)
      refine aw_iload3 X dX8_add_13 ?_
      refine aw_iconst X dX8_add_14 (v := nI 0) (by decide) ?_
      refine aw_sipush X dX8_add_15 (v := nI 255) (by decide) ?_
      refine aw_callSX X (c_X8_checkRange hfl) kX8_63 dX8_add_18 rfl rfl (by first | decide | exact Nat.le_of_ble_eq_true rfl) (by rw [hR]; exact ⟨by first | decide | exact Nat.le_of_ble_eq_true rfl | (dsimp only; omega), by first | decide | exact Nat.le_of_ble_eq_true rfl | (dsimp only; omega)⟩) (by rw [hR]; exact ⟨by first | decide | exact Nat.le_of_ble_eq_true rfl | (dsimp only; omega), by first | decide | exact Nat.le_of_ble_eq_true rfl | (dsimp only; omega)⟩) (fun v M1 hv => ?_) (fun E M1 h1 => ?_)
      · obtain ⟨rfl, rfl, h3⟩ := hv
        obtain ⟨b1, b2, b3⟩ := rgI_j h3 (by omega) (by omega)
        refine aw_iload4 X dX8_add_21 ?_
        refine aw_iconst X dX8_add_23 (v := nI 1) (by decide) ?_
        refine aw_bipush X dX8_add_24 (v := nI 120) (by decide) ?_
        refine aw_callSX X (c_X8_checkRange hfl) kX8_63 dX8_add_26 rfl rfl (by first | decide | exact Nat.le_of_ble_eq_true rfl) (by rw [hR]; exact ⟨by first | decide | exact Nat.le_of_ble_eq_true rfl | (dsimp only; omega), by first | decide | exact Nat.le_of_ble_eq_true rfl | (dsimp only; omega)⟩) (by rw [hR]; exact ⟨by first | decide | exact Nat.le_of_ble_eq_true rfl | (dsimp only; omega), by first | decide | exact Nat.le_of_ble_eq_true rfl | (dsimp only; omega)⟩) (fun v M1 hv => ?_) (fun E M1 h1 => ?_)
        · obtain ⟨rfl, rfl, h4⟩ := hv
          obtain ⟨m1, m2, m3⟩ := rgI_j h4 (by omega) (by omega)
          have hrow : isRow (zG Z) M1 (x + 223 + 2 * ix f) (tF τ f) := hs.2.2.2.2.2.2.2.2.2.1 (ix f) (by omega)
          have hbl : (tF τ f).length ≤ 120 := hrow.le
          obtain ⟨fr, r1, -⟩ := id hrow
          refine aw_aload0 X dX8_add_29 ?_
          refine aw_get X fX8_11 dX8_add_30 (hs.at) rfl ?_
          refine aw_iload1 X dX8_add_33 ?_
          refine aw_aald X at_3 dX8_add_34 fa1 j2 (by omega) (by decide) ?_
          refine aw_rf (fa2 _ (by omega)) ?_
          refine aw_astore5 X dX8_add_35 (by rw [hn]; decide) rfl ?_
          refine aw_aload5 X dX8_add_37 ?_
          refine aw_get X fX8_67 dX8_add_39 (r1) rfl ?_
          refine aw_iload4 X dX8_add_42 ?_
          refine aw_iadd X dX8_add_44 ?_
          refine aw_int (y := nI ((tF τ f).length + ix m)) (by conv => lhs; rw [m3]
                                                               exact nI_add _ _) ?_
          refine aw_bipush X dX8_add_45 (v := nI 120) (by decide) ?_
          refine aw_icmple X dX8_add_47 (tgt := 60) (by decide) (fun c => ?_) (fun c => ?_)
          · have hlt : (tF τ f).length + ix m ≤ 120 := (nI_leI (by omega) (by omega)).mp c
            refine aw_iconst X dX8_add_60 (v := nI 0) (by decide) ?_
            refine aw_istore6 X dX8_add_61 (by rw [hn]; decide) rfl ?_
            refine aw_loop (σ := Nat × AM) (fun i => i.1 ≤ ix m ∧ isRow (zG Z) i.2 (x + 223 + 2 * ix f) (tF τ f ++ adds (ix p) (ix y) i.1) ∧ am_out M1 i.2 (x + 223 + 2 * ix f) (x + 223 + 2 * ix f + 2)) (fun i => ix m - i.1) (fun i => i.2) (fun i => [some (.ref x), some (.int f), some (.int p), some (.int y), some (.int m), some (.ref (x + 223 + 2 * ix f)), some (.int (nI i.1))]) ?_ (0, M1) ⟨Nat.zero_le _, by rw [adds, List.append_nil]; exact hrow, am_out.rf⟩
            rintro ⟨i, M2⟩ ⟨hi, hrow2, hout⟩ ih
            dsimp only at hi hrow2 hout ih ⊢
            have hl2 : (tF τ f ++ adds (ix p) (ix y) i).length = (tF τ f).length + i := by rw [List.length_append, adds_len]
            obtain ⟨fr2, r2, -⟩ := id hrow2
            refine aw_iload6 X dX8_add_63 ?_
            refine aw_iload4 X dX8_add_65 ?_
            refine aw_icmpge X dX8_add_67 (tgt := 91) (by decide) (fun c9 => ?_) (fun c9 => ?_)
            · have e : i = ix m := by
                rw [m3] at c9
                have := (nI_leI (by omega) (by omega)).mp c9
                omega
              subst e
              refine aw_aload5 X dX8_add_91 ?_
              refine aw_get X fX8_67 dX8_add_93 (r2) rfl ?_
              refine aw_int (y := nI ((tF τ f).length + ix m)) (by rw [hl2]) ?_
              refine aw_widen (k' := 5) (n' := 30) (Nat.le_of_ble_eq_true rfl) (Nat.le_of_ble_eq_true rfl) ?_
              refine aw_ireturn X (ty := .int) hr (by first | rfl | decide | assumption) dX8_add_96 (RP.of (by rw [spAdd, if_pos h1, if_pos ⟨h2, h3, h4⟩, if_pos hlt]) (hs.file (by omega) hrow2 (KE.out hout)) ((KE.out hout).mono (fun q e => by omega)))
            · have hlt2 : i < ix m := by
                rcases Nat.lt_or_ge i (ix m) with q | q
                · exact q
                · exact absurd (by rw [m3]; exact nI_le q (by omega)) c9
              refine aw_aload5 X dX8_add_70 ?_
              refine aw_iload2 X dX8_add_72 ?_
              refine aw_iload6 X dX8_add_73 ?_
              refine aw_iload3 X dX8_add_75 ?_
              refine aw_imul X dX8_add_76 ?_
              refine aw_iadd X dX8_add_77 ?_
              have hmul : i * ix y ≤ 120 * 255 := Nat.mul_le_mul (by omega) (by omega)
              refine aw_int (y := nI (ix p + i * ix y)) (by conv => lhs; rw [a3, b3]
                                                            rw [pk_mul, nI_add]) ?_
              refine aw_sipush X dX8_add_78 (v := nI 256) (by decide) ?_
              refine aw_irem X dX8_add_81 (nI_ne0 (by omega) (by omega)) ?_
              refine aw_int (pk_rem (by omega) (by omega) (by omega)) ?_
              refine aw_callV X (c_X4_append hrow2 (by omega)) kX8_72 (ci := 5) rfl (r2) dX8_add_82 rfl rfl (by first | decide | exact Nat.le_of_ble_eq_true rfl) (by rw [hR]; exact ⟨by first | decide | exact Nat.le_of_ble_eq_true rfl | (dsimp only; omega), by first | decide | exact Nat.le_of_ble_eq_true rfl | (dsimp only; omega)⟩) (by rw [hR]; exact ⟨by first | decide | exact Nat.le_of_ble_eq_true rfl | (dsimp only; omega), by first | decide | exact Nat.le_of_ble_eq_true rfl | (dsimp only; omega)⟩) (fun v M3 hv => ?_)
              obtain ⟨q1, q2, rfl⟩ := hv
              refine aw_iinc6 X dX8_add_85 (by rw [hn]; decide) (am_inc _ 1) rfl ?_
              refine aw_goto X dX8_add_88 (tgt := 63) (by decide) ?_
              refine ih (i + 1, M3) ⟨hlt2, ?_, hout.tr q2⟩ (by dsimp only; omega)
              dsimp only
              rw [adds, ← List.append_assoc]
              exact q1
          · have hlt : ¬ (tF τ f).length + ix m ≤ 120 := fun e => c (nI_le e (by omega))
            refine aw_throw X hfl th_ISE (text := "the file would have more than 120 bytes") (by decide) dX8_add_50 dX8_add_53 dX8_add_54 dX8_add_56 dX8_add_59 hT (by rw [hR]; exact Nat.le_of_ble_eq_true rfl) (by rw [hR]; exact Nat.le_of_ble_eq_true rfl) (by rw [hR]; exact Nat.le_of_ble_eq_true rfl) (by rw [hR]; exact Nat.le_of_ble_eq_true rfl) (Nat.le_of_ble_eq_true rfl) (Nat.le_of_ble_eq_true rfl) (RX.of (k := 3) (by rw [spAdd, if_pos h1, if_pos ⟨h2, h3, h4⟩, if_neg hlt]) (by decide) rfl hs rfl)
        · obtain ⟨e1, e2, e3⟩ := h1
          refine ax_out X hT (Nat.le_of_ble_eq_true rfl) (Nat.le_of_ble_eq_true rfl) (RX.of (k := 2) (by rw [spAdd, if_pos (by assumption), if_neg (fun h => e3 h.2.2)]) (by decide) e1 hs e2)
      · obtain ⟨e1, e2, e3⟩ := h1
        refine ax_out X hT (Nat.le_of_ble_eq_true rfl) (Nat.le_of_ble_eq_true rfl) (RX.of (k := 2) (by rw [spAdd, if_pos (by assumption), if_neg (fun h => e3 h.2.1)]) (by decide) e1 hs e2)
    · obtain ⟨e1, e2, e3⟩ := h1
      refine ax_out X hT (Nat.le_of_ble_eq_true rfl) (Nat.le_of_ble_eq_true rfl) (RX.of (k := 2) (by rw [spAdd, if_pos (by assumption), if_neg (fun h => e3 h.1)]) (by decide) e1 hs e2)
  · obtain ⟨e1, e2, e3⟩ := h1
    refine ax_out X hT (Nat.le_of_ble_eq_true rfl) (Nat.le_of_ble_eq_true rfl) (RX.of (k := 1) (by rw [spAdd, if_neg e3]) (by decide) e1 hs e2)
