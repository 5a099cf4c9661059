theorem sgQ_cases {s : SG} {q : Nat} (hv : sgV s) (hq : 0 < q) : sgQ s q = min s.2.1 q ∨ (sgQ s q = 0 ∧ ∀ k, k < sgN s → sgL s k ≠ min s.2.1 q) := by
  obtain ⟨v1, -⟩ := hv
  unfold sgQ
  by_cases h1 : s.2.1 ≤ q
  · rw [if_pos h1, Nat.min_eq_left h1]
    exact Or.inl rfl
  · rw [if_neg h1, Nat.min_eq_right (by omega)]
    by_cases h2 : 0 < sgN s ∧ sgL s (sgN s - 1) = q
    · rw [if_pos h2]
      exact Or.inl rfl
    · rw [if_neg h2]
      refine Or.inr ⟨rfl, fun k hk e => ?_⟩
      by_cases h3 : k = sgN s - 1
      · exact h2 ⟨by omega, by rw [← h3]; exact e⟩
      · have h4 : (k + 1) * s.2.1 < s.2.2.2.length := (nb_lt v1).mp (show k + 1 < sgN s by omega)
        rw [Nat.succ_mul] at h4
        have h5 : min s.2.1 (s.2.2.2.length - k * s.2.1) = q := e
        omega
theorem cstep_off {s : SG} {bs : List Int32} {p : Nat} {t : CS} (h : ∀ k, k < sgN s → sgL s k ≠ min s.2.1 (bs.length - p)) : cstep s bs p t = ((litI t.1 p, none, t.2.2), 1) := by
  have h1 : ∀ k, k < sgN s → qW s bs p (min s.2.1 (bs.length - p)) k = false := fun k hk => by simp [qW, h k hk]
  have h2 : fnd (qP s bs p (min s.2.1 (bs.length - p))) (sgN s) t.2.1 = none := fnd_off (fun k hk => by simp [qP, h1 k hk])
  unfold cstep
  rw [h2, anyB_false h1]
  rfl
theorem c_X2_goOn {l : Launch} {G : AG} {M : AM} {d g p : Nat} {s : SG} {mk : Bool} {ins : List IN} {al : Nat} {cm : List Int32} {beh : Option Nat} (h : isDW G M d mk ins al cm (behI beh)) (hs : isSig G M g s) (hd : g + 3 ≤ d ∨ d + 6 ≤ g) (hp : p < cm.length) (hi : cinv s p (ins, beh, al)) : Cn l G yX2_goOn cX2_goOn 5 (some .int) rX2_goOn M [.ref d, .ref g, .int (nI p)] (fun v M' => isDW G M' d mk (cstep s cm p (ins, beh, al)).1.1 (cstep s cm p (ins, beh, al)).1.2.2 cm (behI (cstep s cm p (ins, beh, al)).1.2.1) ∧ am_out M M' d (d + 4) ∧ v = some (.int (nI (cstep s cm p (ins, beh, al)).2))) := by
  obtain ⟨fc, fa, fz, h1, h2, h3, h4, h5, h6, h7⟩ := id h
  obtain ⟨⟨v1, v2, v3, v4, v5⟩, fw, fs, s1, s2, s3, s4⟩ := id hs
  have hcm := h5.le
  obtain ⟨f5, r1, -⟩ := id h5
  have hN : sgN s ≤ 120 := Nat.le_trans (nb_leN v1) v5
  have hins : ins.length < 120 := by have := hi.1; dsimp only at this; omega
  have hb : ∀ k, beh = some k → k < 2 ^ 31 := fun k hk => by have := (hi.2.2.2.2.2.1 k hk).2.2.1; omega
  have hq : sgQ s (cm.length - p) = min s.2.1 (cm.length - p) ∨ (sgQ s (cm.length - p) = 0 ∧ ∀ k, k < sgN s → sgL s k ≠ min s.2.1 (cm.length - p)) := sgQ_cases hs.1 (by omega)
  refine Cn.of (by decide) [some (.ref d), some (.ref g), some (.int (nI p)), none, none] rfl (Nat.le_of_ble_eq_true rfl) ?_
  intro Z hZ
  obtain ⟨rfl, hn, rfl, hR, X, hr, hnm⟩ := hZ
  refine aw_aload1 X dX2_goOn_0 ?_
  refine aw_aload0 X dX2_goOn_1 ?_
  refine aw_get X fX2_25 dX2_goOn_2 (h1) rfl ?_
  refine aw_get X fX2_47 dX2_goOn_5 (r1) rfl ?_
  refine aw_iload2 X dX2_goOn_8 ?_
  refine aw_isub X dX2_goOn_9 ?_
  first | with_reducible refine aw_int (pk_sub (by omega)) ?_ | skip
  refine aw_callV X (c_X6_windowFor hs (by omega)) kX2_60 (ci := 7) rfl (s1) dX2_goOn_10 rfl rfl (by first | decide | exact Nat.le_of_ble_eq_true rfl) (by rw [hR]; exact ⟨by first | decide | exact Nat.le_of_ble_eq_true rfl | (dsimp only; omega), by first | decide | exact Nat.le_of_ble_eq_true rfl | (dsimp only; omega)⟩) (by rw [hR]; exact ⟨by first | decide | exact Nat.le_of_ble_eq_true rfl | (dsimp only; omega), by first | decide | exact Nat.le_of_ble_eq_true rfl | (dsimp only; omega)⟩) (fun v M2 hv => ?_)
  obtain ⟨rfl, rfl⟩ := hv
  refine aw_istore3 X dX2_goOn_13 (by rw [hn]; decide) rfl ?_
  refine aw_iload3 X dX2_goOn_14 ?_
  rcases hq with hq | ⟨hq, hno⟩
  · rw [hq]
    generalize hw : min s.2.1 (cm.length - p) = w
    have hw0 : 0 < w := by omega
    have hw7 : w ≤ 7 := by omega
    refine aw_ifne X dX2_goOn_15 (tgt := 22) (by decide) (fun _ => ?_) (fun c9 => by first | exact absurd (nI_ne0 hw0 (by omega)) c9 | exact absurd c9 (nI_ne0 hw0 (by omega)))
    refine aw_aload0 X dX2_goOn_22 ?_
    refine aw_aload1 X dX2_goOn_23 ?_
    refine aw_iload2 X dX2_goOn_24 ?_
    refine aw_iload3 X dX2_goOn_25 ?_
    refine aw_callV X (c_X2_matchingBlock (w := w) h hs hd (by omega) hw0 hb) kX2_66 (ci := 3) rfl (h1) dX2_goOn_26 rfl rfl (by first | decide | exact Nat.le_of_ble_eq_true rfl) (by rw [hR]; exact ⟨by first | decide | exact Nat.le_of_ble_eq_true rfl | (dsimp only; omega), by first | decide | exact Nat.le_of_ble_eq_true rfl | (dsimp only; omega)⟩) (by rw [hR]; exact ⟨by first | decide | exact Nat.le_of_ble_eq_true rfl | (dsimp only; omega), by first | decide | exact Nat.le_of_ble_eq_true rfl | (dsimp only; omega)⟩) (fun v M3 hv => ?_)
    obtain ⟨b1, hout, rfl⟩ := hv
    have hfb : ∀ k, fnd (qP s cm p w) (sgN s) beh = some k → k < 2 ^ 31 := fun k hk => by have := (fnd_some hk).1; omega
    refine aw_istore4 X dX2_goOn_29 (by rw [hn]; decide) rfl ?_
    refine aw_iload4 X dX2_goOn_31 ?_
    refine aw_iconst X dX2_goOn_33 (v := -1) (by decide) ?_
    refine aw_icmpne X dX2_goOn_34 (tgt := 44) (by decide) (fun c => ?_) (fun c => ?_)
    · cases hf : fnd (qP s cm p w) (sgN s) beh with
      | none => rw [hf] at c; exact absurd rfl c
      | some b =>
        have e0 : alW s cm p w beh = 0 := by
          rw [alW, if_neg]
          rintro ⟨q, -⟩
          rw [hf] at q
          cases q
        rw [e0] at b1
        have es : cstep s cm p (ins, beh, al) = ((cpI ins beh b (b * s.2.1) w, some (b + 1), al), w) := by
          unfold cstep
          dsimp only
          rw [hw, hf]
        rw [es]
        obtain ⟨f1, f2⟩ := fnd_some hf
        refine aw_locals (L' := [some (.ref d), some (.ref g), some (.int (nI p)), some (.int (nI w)), some (.int (nI b))]) (fun _ _ h => h) ?_
        refine aw_aload0 X dX2_goOn_44 ?_
        refine aw_iload4 X dX2_goOn_45 ?_
        refine aw_iload4 X dX2_goOn_47 ?_
        refine aw_aload1 X dX2_goOn_49 ?_
        refine aw_get X fX2_74 dX2_goOn_50 ((hout _ (by omega)).trans s1) rfl ?_
        refine aw_imul X dX2_goOn_53 ?_
        first | with_reducible refine aw_int (pk_mul _ _) ?_ | skip
        refine aw_iload3 X dX2_goOn_54 ?_
        obtain ⟨fc', fa', fz', q1, -⟩ := id b1
        refine aw_callV X (c_X2_addCopy b1 hins hb (by omega)) kX2_77 (ci := 3) rfl (q1) dX2_goOn_55 rfl rfl (by first | decide | exact Nat.le_of_ble_eq_true rfl) (by rw [hR]; exact ⟨by first | decide | exact Nat.le_of_ble_eq_true rfl | (dsimp only; omega), by first | decide | exact Nat.le_of_ble_eq_true rfl | (dsimp only; omega)⟩) (by rw [hR]; exact ⟨by first | decide | exact Nat.le_of_ble_eq_true rfl | (dsimp only; omega), by first | decide | exact Nat.le_of_ble_eq_true rfl | (dsimp only; omega)⟩) (fun v M4 hv => ?_)
        obtain ⟨b2, hout2, rfl⟩ := hv
        refine aw_iload3 X dX2_goOn_58 ?_
        refine aw_ireturn X (ty := .int) hr (by first | rfl | decide | assumption) dX2_goOn_59 (⟨b2, hout.tr hout2, rfl⟩)
    · have hf : fnd (qP s cm p w) (sgN s) beh = none := (behI_none hfb).mp c
      have es : cstep s cm p (ins, beh, al) = ((litI ins p, none, al + alW s cm p w beh), 1) := by
        unfold cstep
        dsimp only
        rw [hw, hf, alW, hf]
        simp
      rw [es]
      refine aw_aload0 X dX2_goOn_37 ?_
      refine aw_iload2 X dX2_goOn_38 ?_
      obtain ⟨fc', fa', fz', q1, -⟩ := id b1
      refine aw_callV X (c_X2_addLiteral b1 hins) kX2_70 (ci := 3) rfl (q1) dX2_goOn_39 rfl rfl (by first | decide | exact Nat.le_of_ble_eq_true rfl) (by rw [hR]; exact ⟨by first | decide | exact Nat.le_of_ble_eq_true rfl | (dsimp only; omega), by first | decide | exact Nat.le_of_ble_eq_true rfl | (dsimp only; omega)⟩) (by rw [hR]; exact ⟨by first | decide | exact Nat.le_of_ble_eq_true rfl | (dsimp only; omega), by first | decide | exact Nat.le_of_ble_eq_true rfl | (dsimp only; omega)⟩) (fun v M4 hv => ?_)
      obtain ⟨b2, hout2, rfl⟩ := hv
      refine aw_iconst X dX2_goOn_42 (v := nI 1) (by decide) ?_
      refine aw_ireturn X (ty := .int) hr (by first | rfl | decide | assumption) dX2_goOn_43 (⟨b2, hout.tr hout2, rfl⟩)
  · rw [hq]
    refine aw_ifne X dX2_goOn_15 (tgt := 22) (by decide) (fun c9 => by first | exact absurd (nI_0) c9 | exact absurd c9 (nI_0)) (fun _ => ?_)
    rw [cstep_off hno]
    refine aw_iconst X dX2_goOn_18 (v := -1) (by decide) ?_
    refine aw_goto X dX2_goOn_19 (tgt := 29) (by decide) ?_
    refine aw_istore4 X dX2_goOn_29 (by rw [hn]; decide) rfl ?_
    refine aw_iload4 X dX2_goOn_31 ?_
    refine aw_iconst X dX2_goOn_33 (v := -1) (by decide) ?_
    refine aw_icmpne X dX2_goOn_34 (tgt := 44) (by decide) (fun c9 => by first | exact absurd (rfl) c9 | exact absurd c9 (rfl)) (fun _ => ?_)
    refine aw_aload0 X dX2_goOn_37 ?_
    refine aw_iload2 X dX2_goOn_38 ?_
    refine aw_callV X (c_X2_addLiteral h hins) kX2_70 (ci := 3) rfl (h1) dX2_goOn_39 rfl rfl (by first | decide | exact Nat.le_of_ble_eq_true rfl) (by rw [hR]; exact ⟨by first | decide | exact Nat.le_of_ble_eq_true rfl | (dsimp only; omega), by first | decide | exact Nat.le_of_ble_eq_true rfl | (dsimp only; omega)⟩) (by rw [hR]; exact ⟨by first | decide | exact Nat.le_of_ble_eq_true rfl | (dsimp only; omega), by first | decide | exact Nat.le_of_ble_eq_true rfl | (dsimp only; omega)⟩) (fun v M4 hv => ?_)
    obtain ⟨b2, hout2, rfl⟩ := hv
    refine aw_iconst X dX2_goOn_42 (v := nI 1) (by decide) ?_
    refine aw_ireturn X (ty := .int) hr (by first | rfl | decide | assumption) dX2_goOn_43 (⟨b2, hout2, rfl⟩)
theorem c_X2_make {l : Launch} {G : AG} {M : AM} {d g r : Nat} {s : SG} {D : DL} {bs : List Int32} (h : isDelta G M d D) (hs : isSig G M g s) (hr0 : isRow G M r bs) (hd : g + 3 ≤ d ∨ d + 6 ≤ g) (hd2 : r + 2 ≤ d ∨ d + 6 ≤ r) : Cn l G yX2_make cX2_make 4 none rX2_make M [.ref d, .ref g, .ref r] (fun v M' => isDelta G M' d (cmpD s bs) ∧ am_out M M' d (d + 6) ∧ v = none) := by
  obtain ⟨hV, bb, fc, fa, fz, h1, h2, h3, h4, h5, h6, h7⟩ := h
  have hbs := hr0.le
  refine Cn.of (by decide) [some (.ref d), some (.ref g), some (.ref r), none] rfl (Nat.le_of_ble_eq_true rfl) ?_
  intro Z hZ
  obtain ⟨rfl, hn, rfl, hR, X, hr, hnm⟩ := hZ
  refine aw_aload0 X dX2_make_0 ?_
  refine aw_iconst X dX2_make_1 (v := nI 1) (by decide) ?_
  refine aw_put4 X pX2_33 dX2_make_2 (h1) (by first | rfl | decide | assumption) rfl ?_
  refine aw_aload0 X dX2_make_5 ?_
  refine aw_iconst X dX2_make_6 (v := nI 0) (by decide) ?_
  refine aw_put5 X pX2_37 dX2_make_7 (am_us) rfl rfl ?_
  rw [am_uu]
  refine aw_aload0 X dX2_make_10 ?_
  refine aw_iconst X dX2_make_11 (v := nI 0) (by decide) ?_
  refine aw_put6 X pX2_40 dX2_make_12 (am_us) rfl rfl ?_
  rw [am_uu]
  refine aw_aload0 X dX2_make_15 ?_
  refine aw_iconst X dX2_make_16 (v := -1) (by decide) ?_
  refine aw_put7 X pX2_29 dX2_make_17 (am_us) rfl rfl ?_
  rw [am_uu]
  have hout0 : am_out M (am_up M d (am_o 3 [.ref (d + 1), .ref (d + 2), .ref (d + 3), .ref (d + 4), .int (nI 1), .int (nI 0), .int (nI 0), .int (-1)])) d (d + 1) := am_out.up (by omega) (by omega)
  have k1 : (am_up M d (am_o 3 [.ref (d + 1), .ref (d + 2), .ref (d + 3), .ref (d + 4), .int (nI 1), .int (nI 0), .int (nI 0), .int (-1)])).1 d = _ := am_us
  generalize am_up M d (am_o 3 [.ref (d + 1), .ref (d + 2), .ref (d + 3), .ref (d + 4), .int (nI 1), .int (nI 0), .int (nI 0), .int (-1)]) = M0 at hout0 k1 ⊢
  refine aw_aload0 X dX2_make_20 ?_
  refine aw_get X fX2_25 dX2_make_21 (k1) rfl ?_
  refine aw_aload2 X dX2_make_24 ?_
  have h5' := h5.out hout0 (by omega)
  have hr1 := hr0.out hout0 (by omega)
  obtain ⟨f5, r1, -⟩ := id h5'
  refine aw_callV X (c_X4_become h5' hr1 (by omega)) kX2_43 (ci := 5) rfl (r1) dX2_make_25 rfl rfl (by first | decide | exact Nat.le_of_ble_eq_true rfl) (by rw [hR]; exact ⟨by first | decide | exact Nat.le_of_ble_eq_true rfl | (dsimp only; omega), by first | decide | exact Nat.le_of_ble_eq_true rfl | (dsimp only; omega)⟩) (by rw [hR]; exact ⟨by first | decide | exact Nat.le_of_ble_eq_true rfl | (dsimp only; omega), by first | decide | exact Nat.le_of_ble_eq_true rfl | (dsimp only; omega)⟩) (fun v M1 hv => ?_)
  obtain ⟨b5, hout1, rfl⟩ := hv
  have hw : isDW (zG Z) M1 d true [] 0 bs (behI none) := ⟨fc, fa, fz, (hout1 _ (by omega)).trans k1, (hout1 _ (by omega)).trans ((hout0 _ (by omega)).trans h2), (hout1 _ (by omega)).trans ((hout0 _ (by omega)).trans h3), (hout1 _ (by omega)).trans ((hout0 _ (by omega)).trans h4), b5, by decide, fun k hk => absurd hk (Nat.not_lt_zero _)⟩
  have hout : am_out M M1 d (d + 6) := (hout0.wd (by omega) (by omega)).tr (hout1.wd (by omega) (by omega))
  refine aw_iconst X dX2_make_28 (v := nI 0) (by decide) ?_
  refine aw_istore3 X dX2_make_29 (by rw [hn]; decide) rfl ?_
  refine aw_loopM (fun (a : Nat × CS) M2 => a.1 ≤ bs.length ∧ cinv s a.1 a.2 ∧ isDW (zG Z) M2 d true a.2.1 a.2.2.2 bs (behI a.2.2.1) ∧ am_out M M2 d (d + 6) ∧ ∃ f, bs.length - a.1 ≤ f ∧ crun s bs f a.1 a.2 = cmps s bs) (fun a => bs.length - a.1) (fun a => [some (.ref d), some (.ref g), some (.ref r), some (.int (nI a.1))]) ?_ (0, ([], none, 0)) ⟨Nat.zero_le _, cinv_0 s, hw, hout, bs.length, by omega, rfl⟩
  rintro ⟨p, ins, beh, al⟩ M2 ⟨hp, hi, hw2, hout2, f, hf, hrun⟩ ih
  dsimp only at hp hi hw2 hf hrun ih ⊢
  have hr2 := hr0.out hout2 (by omega)
  have hs2 := hs.out hout2 (by omega)
  obtain ⟨fr, q1, -⟩ := id hr2
  refine aw_iload3 X dX2_make_30 ?_
  refine aw_aload2 X dX2_make_31 ?_
  refine aw_get X fX2_47 dX2_make_32 (q1) rfl ?_
  refine aw_icmpge X dX2_make_35 (tgt := 54) (by decide) (fun c => ?_) (fun c => ?_)
  · have e : p = bs.length := by have := (nI_leI (by omega) (by omega)).mp c; omega
    refine aw_vreturn X hr dX2_make_54 (?_)
    refine ⟨⟨cmpD_V hs.1 hbs, behI beh, ?_⟩, hout2, rfl⟩
    rw [crun_stop (by omega)] at hrun
    have e2 : cmpD s bs = (true, ins, al, bs) := by rw [cmpD, ← hrun]
    rw [e2]
    exact hw2
  · have hlt : p < bs.length := by
      rcases Nat.lt_or_ge p bs.length with q | q
      · exact q
      · exact absurd (nI_le q (by omega)) c
    obtain ⟨i1, i2, i3⟩ := cinv_step hs.1 hlt hi
    obtain ⟨fc', fa', fz', q2, -⟩ := id hw2
    refine aw_iload3 X dX2_make_38 ?_
    refine aw_iconst X dX2_make_39 (v := nI 1) (by decide) ?_
    refine aw_aload0 X dX2_make_40 ?_
    refine aw_aload1 X dX2_make_41 ?_
    refine aw_iload3 X dX2_make_42 ?_
    refine aw_callV X (c_X2_goOn hw2 hs2 hd hlt hi) kX2_50 (ci := 3) rfl (q2) dX2_make_43 rfl rfl (by first | decide | exact Nat.le_of_ble_eq_true rfl) (by rw [hR]; exact ⟨by first | decide | exact Nat.le_of_ble_eq_true rfl | (dsimp only; omega), by first | decide | exact Nat.le_of_ble_eq_true rfl | (dsimp only; omega)⟩) (by rw [hR]; exact ⟨by first | decide | exact Nat.le_of_ble_eq_true rfl | (dsimp only; omega), by first | decide | exact Nat.le_of_ble_eq_true rfl | (dsimp only; omega)⟩) (fun v M3 hv => ?_)
    obtain ⟨b3, hout3, rfl⟩ := hv
    generalize hcs : cstep s bs p (ins, beh, al) = cs at i1 i2 i3 b3
    refine aw_max X kX2_54 dX2_make_46 (by omega) (by omega) (by rw [hR]; first | decide | exact Nat.le_of_ble_eq_true rfl | (dsimp only; omega)) (by rw [hR]; exact Nat.le_of_ble_eq_true rfl) (by rw [hR]; exact ⟨by first | decide | exact Nat.le_of_ble_eq_true rfl | (dsimp only; omega), by first | decide | exact Nat.le_of_ble_eq_true rfl | (dsimp only; omega)⟩) ?_
    rw [Nat.max_eq_right (by omega)]
    refine aw_iadd X dX2_make_49 ?_
    first | with_reducible refine aw_int (nI_add _ _) ?_ | skip
    refine aw_istore3 X dX2_make_50 (by rw [hn]; decide) rfl ?_
    refine aw_goto X dX2_make_51 (tgt := 30) (by decide) ?_
    refine ih (p + cs.2, cs.1) M3 ⟨i3, i1, b3, hout2.tr (hout3.wd (by omega) (by omega)), ?_⟩ (by dsimp only; omega)
    obtain ⟨f', rfl⟩ : ∃ f', f = f' + 1 := ⟨f - 1, by omega⟩
    rw [crun_go hlt, hcs] at hrun
    exact ⟨f', by dsimp only; omega, hrun⟩
theorem c_X2_price {l : Launch} {G : AG} {M : AM} {d : Nat} {D : DL} (h : isDelta G M d D) : Cn l G yX2_price cX2_price 3 (some .int) rX2_price M [.ref d] (fun v M' => M' = M ∧ v = some (.int (nI (price D.2.1)))) := by
  obtain ⟨hV, bb, fc, fa, fz, h1, h2, h3, h4, h5, h6, h7⟩ := h
  refine Cn.of (by decide) [some (.ref d), none, none] rfl (Nat.le_of_ble_eq_true rfl) ?_
  intro Z hZ
  obtain ⟨rfl, hn, rfl, hR, X, hr, hnm⟩ := hZ
  refine aw_iconst X dX2_price_0 (v := nI 0) (by decide) ?_
  refine aw_istore1 X dX2_price_1 (by rw [hn]; decide) rfl ?_
  refine aw_iconst X dX2_price_2 (v := nI 0) (by decide) ?_
  refine aw_istore2 X dX2_price_3 (by rw [hn]; decide) rfl ?_
  refine aw_loopM (fun (k : Nat) M1 => k ≤ D.2.1.length ∧ M1 = M) (fun k => D.2.1.length - k) (fun k => [some (.ref d), some (.int (nI (pr D.2.1 k))), some (.int (nI k))]) ?_ 0 ⟨Nat.zero_le _, rfl⟩
  rintro k M1 ⟨hk, rfl⟩ ih
  refine aw_iload2 X dX2_price_4 ?_
  refine aw_aload0 X dX2_price_5 ?_
  refine aw_get X fX2_37 dX2_price_6 (h1) rfl ?_
  refine aw_icmpge X dX2_price_9 (tgt := 42) (by decide) (fun c => ?_) (fun c => ?_)
  · have e : k = D.2.1.length := by have := (nI_leI (by omega) (by omega)).mp c; omega
    subst e
    refine aw_iload1 X dX2_price_42 ?_
    refine aw_ireturn X (ty := .int) hr (by first | rfl | decide | assumption) dX2_price_43 (⟨rfl, rfl⟩)
  · have hlt : k < D.2.1.length := by
      rcases Nat.lt_or_ge k D.2.1.length with q | q
      · exact q
      · exact absurd (nI_le q (by omega)) c
    obtain ⟨e1, e2, e3⟩ := h7 k hlt
    refine aw_iload1 X dX2_price_12 ?_
    refine aw_aload0 X dX2_price_13 ?_
    refine aw_get X fX2_9 dX2_price_14 (h1) rfl ?_
    refine aw_iload2 X dX2_price_17 ?_
    refine aw_zald X dX2_price_18 h2 rfl (by omega) (by decide) ?_
    rw [e1]
    refine aw_ifeq X dX2_price_19 (tgt := 26) (by decide) (fun c2 => ?_) (fun c2 => ?_)
    · have e4 := b2i_0.mp c2
      refine aw_iconst X dX2_price_26 (v := nI 1) (by decide) ?_
      refine aw_aload0 X dX2_price_27 ?_
      refine aw_get X fX2_19 dX2_price_28 (h1) rfl ?_
      refine aw_iload2 X dX2_price_31 ?_
      refine aw_iald X dX2_price_32 h4 rfl (by omega) (by decide) ?_
      refine aw_int e3 ?_
      refine aw_iadd X dX2_price_33 ?_
      first | with_reducible refine aw_int (nI_add _ _) ?_ | skip
      refine aw_iadd X dX2_price_34 ?_
      first | with_reducible refine aw_int (nI_add _ _) ?_ | skip
      refine aw_istore1 X dX2_price_35 (by rw [hn]; decide) rfl ?_
      refine aw_iinc2 X dX2_price_36 (by rw [hn]; decide) (am_inc _ 1) rfl ?_
      refine aw_goto X dX2_price_39 (tgt := 4) (by decide) ?_
      have q := ih (k + 1) M1 ⟨by omega, rfl⟩ (by omega)
      have e5 : pr D.2.1 (k + 1) = pr D.2.1 k + (1 + (D.2.1.getD k dI).2.2) := by rw [pr, e4]; rfl
      rw [e5] at q
      exact q
    · have e4 : (D.2.1.getD k dI).1 = true := by
        cases hx : (D.2.1.getD k dI).1 with
        | true => rfl
        | false => exact absurd (b2i_0.mpr hx) c2
      refine aw_iconst X dX2_price_22 (v := nI 3) (by decide) ?_
      refine aw_goto X dX2_price_23 (tgt := 34) (by decide) ?_
      refine aw_iadd X dX2_price_34 ?_
      first | with_reducible refine aw_int (nI_add _ _) ?_ | skip
      refine aw_istore1 X dX2_price_35 (by rw [hn]; decide) rfl ?_
      refine aw_iinc2 X dX2_price_36 (by rw [hn]; decide) (am_inc _ 1) rfl ?_
      refine aw_goto X dX2_price_39 (tgt := 4) (by decide) ?_
      have q := ih (k + 1) M1 ⟨by omega, rfl⟩ (by omega)
      have e5 : pr D.2.1 (k + 1) = pr D.2.1 k + 3 := by rw [pr, e4]; rfl
      rw [e5] at q
      exact q
theorem getD_mem {ins : List IN} {k : Nat} (h : k < ins.length) : ins.getD k dI ∈ ins := by
  rw [List.getD, List.getElem?_eq_getElem h]
  exact List.getElem_mem h
theorem fitB_all {ins : List IN} {n : Nat} (h : ∀ k, k < ins.length → (ins.getD k dI).1 = true → (ins.getD k dI).2.1 + (ins.getD k dI).2.2 ≤ n) : fitB ins n = true := by
  refine List.all_eq_true.mpr fun i hi => ?_
  obtain ⟨k, hk, rfl⟩ := List.getElem_of_mem hi
  have := h k hk
  rw [List.getD, List.getElem?_eq_getElem hk] at this
  cases hx : ins[k].1 with
  | false => simp
  | true =>
    simp only [Bool.not_true, Bool.false_or, decide_eq_true_eq]
    exact this hx
theorem c_X2_fits {l : Launch} {G : AG} {M : AM} {d r : Nat} {D : DL} {bs : List Int32} (h : isDelta G M d D) (hr0 : isRow G M r bs) : Cn l G yX2_fits cX2_fits 3 (some .boolean) rX2_fits M [.ref d, .ref r] (fun v M' => M' = M ∧ v = some (.int (b2i (fitB D.2.1 bs.length)))) := by
  obtain ⟨hV, bb, fc, fa, fz, h1, h2, h3, h4, h5, h6, h7⟩ := h
  have hbs := hr0.le
  obtain ⟨f, r1, -⟩ := hr0
  refine Cn.of (by decide) [some (.ref d), some (.ref r), none] rfl (Nat.le_of_ble_eq_true rfl) ?_
  intro Z hZ
  obtain ⟨rfl, hn, rfl, hR, X, hr, hnm⟩ := hZ
  refine aw_iconst X dX2_fits_0 (v := nI 0) (by decide) ?_
  refine aw_istore2 X dX2_fits_1 (by rw [hn]; decide) rfl ?_
  refine aw_loopM (fun (k : Nat) M1 => k ≤ D.2.1.length ∧ M1 = M ∧ ∀ j, j < k → (D.2.1.getD j dI).1 = true → (D.2.1.getD j dI).2.1 + (D.2.1.getD j dI).2.2 ≤ bs.length) (fun k => D.2.1.length - k) (fun k => [some (.ref d), some (.ref r), some (.int (nI k))]) ?_ 0 ⟨Nat.zero_le _, rfl, fun j hj => absurd hj (Nat.not_lt_zero _)⟩
  rintro k M1 ⟨hk, rfl, hall⟩ ih
  refine aw_iload2 X dX2_fits_2 ?_
  refine aw_aload0 X dX2_fits_3 ?_
  refine aw_get X fX2_37 dX2_fits_4 (h1) rfl ?_
  refine aw_icmpge X dX2_fits_7 (tgt := 47) (by decide) (fun c => ?_) (fun c => ?_)
  · have e : k = D.2.1.length := by have := (nI_leI (by omega) (by omega)).mp c; omega
    subst e
    refine aw_iconst X dX2_fits_47 (v := nI 1) (by decide) ?_
    refine aw_ireturn X (ty := .boolean) hr (by first | rfl | decide | assumption) dX2_fits_48 (⟨rfl, by rw [fitB_all hall]; rfl⟩)
  · have hlt : k < D.2.1.length := by
      rcases Nat.lt_or_ge k D.2.1.length with q | q
      · exact q
      · exact absurd (nI_le q (by omega)) c
    obtain ⟨e1, e2, e3⟩ := h7 k hlt
    refine aw_aload0 X dX2_fits_10 ?_
    refine aw_get X fX2_9 dX2_fits_11 (h1) rfl ?_
    refine aw_iload2 X dX2_fits_14 ?_
    refine aw_zald X dX2_fits_15 h2 rfl (by omega) (by decide) ?_
    rw [e1]
    refine aw_ifeq X dX2_fits_16 (tgt := 41) (by decide) (fun c2 => ?_) (fun c2 => ?_)
    · have e4 := b2i_0.mp c2
      refine aw_iinc2 X dX2_fits_41 (by rw [hn]; decide) (am_inc _ 1) rfl ?_
      refine aw_goto X dX2_fits_44 (tgt := 2) (by decide) ?_
      refine ih (k + 1) M1 ⟨by omega, rfl, fun j hj hc => ?_⟩ (by omega)
      by_cases e : j = k
      · rw [e, e4] at hc
        cases hc
      · exact hall j (by omega) hc
    · have e4 : (D.2.1.getD k dI).1 = true := by
        cases hx : (D.2.1.getD k dI).1 with
        | true => rfl
        | false => exact absurd (b2i_0.mpr hx) c2
      have hbd := hV.2.2.2.2.1 _ (getD_mem hlt) e4
      refine aw_aload0 X dX2_fits_19 ?_
      refine aw_get X fX2_15 dX2_fits_20 (h1) rfl ?_
      refine aw_iload2 X dX2_fits_23 ?_
      refine aw_iald X dX2_fits_24 h3 rfl (by omega) (by decide) ?_
      refine aw_int e2 ?_
      refine aw_aload0 X dX2_fits_25 ?_
      refine aw_get X fX2_19 dX2_fits_26 (h1) rfl ?_
      refine aw_iload2 X dX2_fits_29 ?_
      refine aw_iald X dX2_fits_30 h4 rfl (by omega) (by decide) ?_
      refine aw_int e3 ?_
      refine aw_iadd X dX2_fits_31 ?_
      first | with_reducible refine aw_int (nI_add _ _) ?_ | skip
      refine aw_aload1 X dX2_fits_32 ?_
      refine aw_get X fX2_47 dX2_fits_33 (r1) rfl ?_
      refine aw_icmple X dX2_fits_36 (tgt := 41) (by decide) (fun c3 => ?_) (fun c3 => ?_)
      · have e5 := (nI_leI (by omega) (by omega)).mp c3
        refine aw_iinc2 X dX2_fits_41 (by rw [hn]; decide) (am_inc _ 1) rfl ?_
        refine aw_goto X dX2_fits_44 (tgt := 2) (by decide) ?_
        refine ih (k + 1) M1 ⟨by omega, rfl, fun j hj hc => ?_⟩ (by omega)
        by_cases e : j = k
        · rw [e]
          exact e5
        · exact hall j (by omega) hc
      · have e5 : ¬ (D.2.1.getD k dI).2.1 + (D.2.1.getD k dI).2.2 ≤ bs.length := fun q => c3 (nI_le q (by omega))
        refine aw_iconst X dX2_fits_39 (v := nI 0) (by decide) ?_
        refine aw_ireturn X (ty := .boolean) hr (by first | rfl | decide | assumption) dX2_fits_40 (⟨rfl, ?_⟩)
        have e6 : fitB D.2.1 bs.length = false := by
          cases hx : fitB D.2.1 bs.length with
          | false => rfl
          | true => exact absurd (fitB_at hx (getD_mem hlt) e4) e5
        rw [e6]
        rfl
theorem app_succ {ins : List IN} {cm bb : List Int32} {k : Nat} (h : k < ins.length) : app (ins.take (k + 1)) cm bb = app (ins.take k) cm bb ++ piece cm bb (ins.getD k dI) := by
  unfold app
  rw [List.take_succ, List.flatMap_append, List.getD, List.getElem?_eq_getElem h]
  simp only [Option.toList_some, List.flatMap_cons, List.flatMap_nil, List.append_nil, Option.getD_some]
theorem c_X2_give {l : Launch} {G : AG} {M : AM} {d r t : Nat} {D : DL} {bs bt : List Int32} (h : isDelta G M d D) (hr0 : isRow G M r bs) (ht : isRow G M t bt) (hd : t + 2 ≤ r ∨ r + 2 ≤ t) (hd2 : t + 2 ≤ d ∨ d + 6 ≤ t) (hfit : fitB D.2.1 bs.length = true) : Cn l G yX2_give cX2_give 4 none rX2_give M [.ref d, .ref r, .ref t] (fun v M' => isRow G M' t (app D.2.1 D.2.2.2 bs) ∧ am_out M M' t (t + 2) ∧ v = none) := by
  obtain ⟨hV, bb, fc, fa, fz, h1, h2, h3, h4, h5, h6, h7⟩ := id h
  have hbs := hr0.le
  obtain ⟨f, t1, t2, -⟩ := id ht
  have hle := fun k => Nat.le_trans (Nat.le_of_eq (app_len hV hfit (D.2.1.take k) (fun i hi => List.mem_of_mem_take hi))) (Nat.le_trans (sumsz_take_le D.2.1 k) (Nat.le_trans (Nat.le_of_eq hV.2.1) hV.2.2.1))
  refine Cn.of (by decide) [some (.ref d), some (.ref r), some (.ref t), none] rfl (Nat.le_of_ble_eq_true rfl) ?_
  intro Z hZ
  obtain ⟨rfl, hn, rfl, hR, X, hr, hnm⟩ := hZ
  refine aw_aload2 X dX2_give_0 ?_
  refine aw_iconst X dX2_give_1 (v := nI 0) (by decide) ?_
  refine aw_put1 X pX2_47 dX2_give_2 (t1) rfl rfl ?_
  refine aw_iconst X dX2_give_5 (v := nI 0) (by decide) ?_
  refine aw_istore3 X dX2_give_6 (by rw [hn]; decide) rfl ?_
  refine aw_loopM (fun (k : Nat) M1 => k ≤ D.2.1.length ∧ isRow (zG Z) M1 t (app (D.2.1.take k) D.2.2.2 bs) ∧ am_out M M1 t (t + 2)) (fun k => D.2.1.length - k) (fun k => [some (.ref d), some (.ref r), some (.ref t), some (.int (nI k))]) ?_ 0 ⟨Nat.zero_le _, ⟨f, am_us, am_k t2 (by omega), by simp [app], fun k hk => absurd hk (Nat.not_lt_zero _)⟩, am_out.up (by omega) (by omega)⟩
  rintro k M1 ⟨hk, hrow, hout⟩ ih
  have k1 := (hout _ (by omega)).trans h1
  have k2 := (hout _ (by omega)).trans h2
  have k3 := (hout _ (by omega)).trans h3
  have k4 := (hout _ (by omega)).trans h4
  refine aw_iload3 X dX2_give_7 ?_
  refine aw_aload0 X dX2_give_8 ?_
  refine aw_get X fX2_37 dX2_give_9 (k1) rfl ?_
  refine aw_icmpge X dX2_give_12 (tgt := 54) (by decide) (fun c => ?_) (fun c => ?_)
  · have e : k = D.2.1.length := by have := (nI_leI (by omega) (by omega)).mp c; omega
    subst e
    refine aw_vreturn X hr dX2_give_54 (?_)
    rw [List.take_length] at hrow
    exact ⟨hrow, hout, rfl⟩
  · have hlt : k < D.2.1.length := by
      rcases Nat.lt_or_ge k D.2.1.length with q | q
      · exact q
      · exact absurd (nI_le q (by omega)) c
    obtain ⟨e1, e2, e3⟩ := h7 k hlt
    have hk1 := hle (k + 1)
    rw [app_succ hlt, List.length_append, piece_len hV hfit (getD_mem hlt)] at hk1
    obtain ⟨ft, q1, -⟩ := id hrow
    refine aw_aload2 X dX2_give_15 ?_
    refine aw_aload0 X dX2_give_16 ?_
    refine aw_get X fX2_9 dX2_give_17 (k1) rfl ?_
    refine aw_iload3 X dX2_give_20 ?_
    refine aw_zald X dX2_give_21 k2 rfl (by omega) (by decide) ?_
    rw [e1]
    refine aw_ifeq X dX2_give_22 (tgt := 29) (by decide) (fun c2 => ?_) (fun c2 => ?_)
    · have e4 := b2i_0.mp c2
      have hbd := hV.2.2.2.1 _ (getD_mem hlt) e4
      refine aw_aload0 X dX2_give_29 ?_
      refine aw_get X fX2_25 dX2_give_30 (k1) rfl ?_
      refine aw_aload0 X dX2_give_33 ?_
      refine aw_get X fX2_15 dX2_give_34 (k1) rfl ?_
      refine aw_iload3 X dX2_give_37 ?_
      refine aw_iald X dX2_give_38 k3 rfl (by omega) (by decide) ?_
      refine aw_int e2 ?_
      refine aw_aload0 X dX2_give_39 ?_
      refine aw_get X fX2_19 dX2_give_40 (k1) rfl ?_
      refine aw_iload3 X dX2_give_43 ?_
      refine aw_iald X dX2_give_44 k4 rfl (by omega) (by decide) ?_
      refine aw_int e3 ?_
      refine aw_callV X (c_X4_appendFrom hrow (h5.out hout (by omega)) (by omega) hbd hk1) kX2_107 (ci := 5) rfl (q1) dX2_give_45 rfl rfl (by first | decide | exact Nat.le_of_ble_eq_true rfl) (by rw [hR]; exact ⟨by first | decide | exact Nat.le_of_ble_eq_true rfl | (dsimp only; omega), by first | decide | exact Nat.le_of_ble_eq_true rfl | (dsimp only; omega)⟩) (by rw [hR]; exact ⟨by first | decide | exact Nat.le_of_ble_eq_true rfl | (dsimp only; omega), by first | decide | exact Nat.le_of_ble_eq_true rfl | (dsimp only; omega)⟩) (fun v M2 hv => ?_)
      obtain ⟨hrow2, hout2, rfl⟩ := hv
      refine aw_iinc3 X dX2_give_48 (by rw [hn]; decide) (am_inc _ 1) rfl ?_
      refine aw_goto X dX2_give_51 (tgt := 7) (by decide) ?_
      refine ih (k + 1) M2 ⟨by omega, ?_, hout.tr hout2⟩ (by omega)
      rw [app_succ hlt, piece, e4]
      exact hrow2
    · have e4 : (D.2.1.getD k dI).1 = true := by
        cases hx : (D.2.1.getD k dI).1 with
        | true => rfl
        | false => exact absurd (b2i_0.mpr hx) c2
      have hbd := fitB_at hfit (getD_mem hlt) e4
      refine aw_aload1 X dX2_give_25 ?_
      refine aw_goto X dX2_give_26 (tgt := 33) (by decide) ?_
      refine aw_aload0 X dX2_give_33 ?_
      refine aw_get X fX2_15 dX2_give_34 (k1) rfl ?_
      refine aw_iload3 X dX2_give_37 ?_
      refine aw_iald X dX2_give_38 k3 rfl (by omega) (by decide) ?_
      refine aw_int e2 ?_
      refine aw_aload0 X dX2_give_39 ?_
      refine aw_get X fX2_19 dX2_give_40 (k1) rfl ?_
      refine aw_iload3 X dX2_give_43 ?_
      refine aw_iald X dX2_give_44 k4 rfl (by omega) (by decide) ?_
      refine aw_int e3 ?_
      refine aw_callV X (c_X4_appendFrom hrow (hr0.out hout (by omega)) (by omega) hbd hk1) kX2_107 (ci := 5) rfl (q1) dX2_give_45 rfl rfl (by first | decide | exact Nat.le_of_ble_eq_true rfl) (by rw [hR]; exact ⟨by first | decide | exact Nat.le_of_ble_eq_true rfl | (dsimp only; omega), by first | decide | exact Nat.le_of_ble_eq_true rfl | (dsimp only; omega)⟩) (by rw [hR]; exact ⟨by first | decide | exact Nat.le_of_ble_eq_true rfl | (dsimp only; omega), by first | decide | exact Nat.le_of_ble_eq_true rfl | (dsimp only; omega)⟩) (fun v M2 hv => ?_)
      obtain ⟨hrow2, hout2, rfl⟩ := hv
      refine aw_iinc3 X dX2_give_48 (by rw [hn]; decide) (am_inc _ 1) rfl ?_
      refine aw_goto X dX2_give_51 (tgt := 7) (by decide) ?_
      refine ih (k + 1) M2 ⟨by omega, ?_, hout.tr hout2⟩ (by omega)
      rw [app_succ hlt, piece, e4]
      exact hrow2
