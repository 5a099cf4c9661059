theorem aw_rf {Z : AZ} {Q : State → Prop} {M : AM} {k n pc x : Nat} {L : List (Option Value)} {st : List Value} {o : Option Nat} (h : o = some x) (kk : AW Z Q M k n pc L (.ref x :: st)) : AW Z Q M k n pc L (va_rf o :: st) := by
  rw [h]
  exact kk
theorem aw_rf1 {Z : AZ} {Q : State → Prop} {M : AM} {k n pc x : Nat} {L : List (Option Value)} {st : List Value} {v : Value} {o : Option Nat} (h : o = some x) (kk : AW Z Q M k n pc L (v :: .ref x :: st)) : AW Z Q M k n pc L (v :: va_rf o :: st) := by
  rw [h]
  exact kk
theorem am_dn_sub0 (m : Nat) : nI m - nI 1 = am_dn m := by
  cases m with
  | zero => decide
  | succ m => exact nI_pred m
theorem isAr.next {G : AG} {M M' : AM} {a n : Nat} {V : Nat → VK} {w aw y : Int32} {rb nx' : List Int32} {ch : Nat → Int32} (h : isAr G M a n V w aw y rb ch) (ho : am_out M M' (a + 8) (a + 10)) (hr : isRow G M' (a + 8) nx') : isAr G M' a n V w aw y rb ch := by
  obtain ⟨h1, h2, kp, s, nx, h3, h4, h5, h6, h7, h8, h9, h10⟩ := h
  exact ⟨h1, h2, kp, s, nx', (ho _ (by omega)).trans h3, (ho _ (by omega)).trans h4, h5, (ho _ (by omega)).trans h6, h7.out ho (by omega), h8.out ho (by omega), hr, fun i hi => (h10 i hi).out ho (by omega)⟩
theorem isAr.rb {G : AG} {M M' : AM} {a n : Nat} {V : Nat → VK} {w aw y : Int32} {rb rb' : List Int32} {ch : Nat → Int32} (h : isAr G M a n V w aw y rb ch) (ho : am_out M M' (a + 6) (a + 8)) (hr : isRow G M' (a + 6) rb') : isAr G M' a n V w aw y rb' ch := by
  obtain ⟨h1, h2, kp, s, nx, h3, h4, h5, h6, h7, h8, h9, h10⟩ := h
  exact ⟨h1, h2, kp, s, nx, (ho _ (by omega)).trans h3, (ho _ (by omega)).trans h4, h5, (ho _ (by omega)).trans h6, h7.out ho (by omega), hr, h9.out ho (by omega), fun i hi => (h10 i hi).out ho (by omega)⟩
theorem isAr.ch {G : AG} {M : AM} {a n : Nat} {V : Nat → VK} {w aw y : Int32} {rb : List Int32} {ch ch' : Nat → Int32} (h : isAr G M a n V w aw y rb ch) : isAr G (am_up M (a + 2) (am_ai G 20 ch')) a n V w aw y rb ch' := by
  obtain ⟨h1, h2, kp, s, nx, h3, h4, h5, h6, h7, h8, h9, h10⟩ := h
  have ho : am_out M (am_up M (a + 2) (am_ai G 20 ch')) (a + 2) (a + 3) := am_out.up (by omega) (by omega)
  exact ⟨h1, h2, kp, s, nx, am_k h3 (by omega), am_k h4 (by omega), h5, am_us, h7.out ho (by omega), h8.out ho (by omega), h9.out ho (by omega), fun i hi => (h10 i hi).out ho (by omega)⟩
theorem c_X0_climb {l : Launch} {G : AG} {M : AM} {a n v j : Nat} {V : Nat → VK} {rb : List Int32} {ch : Nat → Int32} (h : isAr G M a n V (-1) (-1) (-1) rb ch) (hv : v < n) (hj : ∀ i, i < j → isRest (V (pth V v i)) ∧ ch i = nI (pth V v i)) (hrb : rbv V (pth V v j) = .inl rb) : Cn l G yX0_climb cX0_climb 4 none rX0_climb M [.ref a, .int (nI j)] (fun o M' => isArB G M' a n V (rbv V v) ∧ am_out M M' a (a + 190) ∧ o = none) := by
  have hV := h.2.1
  have hn := h.1
  have hpj := pth_le hV hv j (fun i hi => (hj i hi).1)
  refine Cn.of (by decide) [some (.ref a), some (.int (nI j)), none, none] rfl (Nat.le_of_ble_eq_true rfl) ?_
  intro Z hZ
  obtain ⟨rfl, hn, rfl, hR, X, hr, hnm⟩ := hZ
  refine aw_iload1 X dX0_climb_0 ?_
  refine aw_iconst X dX0_climb_1 (v := nI 1) (by decide) ?_
  refine aw_isub X dX0_climb_2 ?_
  refine aw_int (am_dn_sub0 j) ?_
  refine aw_istore2 X dX0_climb_3 (by rw [hn]; decide) rfl ?_
  refine aw_loopM (fun (m : Nat) M1 => m ≤ j ∧ am_out M M1 a (a + 190) ∧ ∃ rb1, isAr (zG Z) M1 a n V (-1) (-1) (-1) rb1 ch ∧ rbv V (pth V v m) = .inl rb1) (fun m => m) (fun m => [some (.ref a), some (.int (nI j)), some (.int (am_dn m)), none]) ?_ j ⟨Nat.le_refl _, am_out.rf, rb, h, hrb⟩
  rintro m M1 ⟨hm, hout, rb1, h1, hrb1⟩ ih
  refine aw_iload2 X dX0_climb_4 ?_
  cases m with
  | zero =>
    refine aw_iflt X dX0_climb_5 (tgt := 76) (by decide) (fun _ => ?_) (fun c9 => by first | exact absurd (am_dn_neg) c9 | exact absurd c9 (am_dn_neg))
    refine aw_vreturn X hr dX0_climb_76 (?_)
    refine ⟨⟨rb1, ch, ?_, fun bs hb => ?_⟩, hout, rfl⟩
    · have e : rbv V v = .inl rb1 := hrb1
      rw [e]
      exact h1
    · have e : rbv V v = .inl rb1 := hrb1
      rw [e] at hb
      cases hb
      rfl
  | succ m =>
    have hpm := pth_le hV hv m (fun i hi => (hj i (by omega)).1)
    obtain ⟨⟨b, D, hb⟩, hch⟩ := hj m (by omega)
    have eb : pth V v (m + 1) = b := by rw [pth, hb]
    rw [eb] at hrb1
    obtain ⟨-, -, kp, s, nx, q1, q2, q3, q4, q5, q6, q7, q8⟩ := id h1
    have hver := q8 (pth V v m) (by omega)
    obtain ⟨kd, bb, bs0, D0, w1, w2, w3, w4⟩ := id hver
    rw [hb] at w4
    obtain ⟨-, -, rfl⟩ := w4
    have hD := rbv_rest hV (by omega) hb
    rw [hrb1] at hD
    dsimp only at hD
    obtain ⟨-, bb2, fc, fa, fz, e1, -⟩ := id w3
    obtain ⟨f6, g6, -⟩ := id q6
    obtain ⟨f7, g7, -⟩ := id q7
    refine aw_iflt X dX0_climb_5 (tgt := 76) (by decide) (fun c9 => by first | exact absurd (nI_pos (by omega)) c9 | exact absurd c9 (nI_pos (by omega))) (fun _ => ?_)
    refine aw_aload0 X dX0_climb_8 ?_
    refine aw_get X fX0_11 dX0_climb_9 (q1) rfl ?_
    refine aw_aload0 X dX0_climb_12 ?_
    refine aw_get X fX0_17 dX0_climb_13 (q1) rfl ?_
    refine aw_iload2 X dX0_climb_16 ?_
    refine aw_iald X dX0_climb_17 q4 rfl (by omega) (by decide) ?_
    refine aw_aald X at_6 dX0_climb_18 q2 hch (by omega) (by decide) ?_
    refine aw_rf (q3 _ (by omega)) ?_
    refine aw_get X fX0_66 dX0_climb_19 (w1) rfl ?_
    refine aw_astore3 X dX0_climb_22 (by rw [hn]; decide) rfl ?_
    refine aw_aload3 X dX0_climb_23 ?_
    refine aw_aload0 X dX0_climb_24 ?_
    refine aw_get X fX0_31 dX0_climb_25 (q1) rfl ?_
    refine aw_callV X (c_X2_fits w3 q6) kX0_89 (ci := 3) rfl (e1) dX0_climb_28 rfl rfl (by first | decide | exact Nat.le_of_ble_eq_true rfl) (by rw [hR]; exact ⟨by first | decide | exact Nat.le_of_ble_eq_true rfl | (dsimp only; omega), by first | decide | exact Nat.le_of_ble_eq_true rfl | (dsimp only; omega)⟩) (by rw [hR]; exact ⟨by first | decide | exact Nat.le_of_ble_eq_true rfl | (dsimp only; omega), by first | decide | exact Nat.le_of_ble_eq_true rfl | (dsimp only; omega)⟩) (fun o M2 hv => ?_)
    obtain ⟨rfl, rfl⟩ := hv
    refine aw_ifne X dX0_climb_31 (tgt := 47) (by decide) (fun c => ?_) (fun c => ?_)
    · have hfit : fitB D0.2.1 rb1.length = true := by
        cases hx : fitB D0.2.1 rb1.length with
        | true => rfl
        | false => exact absurd (b2i_0.mpr hx) c
      rw [if_pos hfit] at hD
      refine aw_aload3 X dX0_climb_47 ?_
      refine aw_aload0 X dX0_climb_48 ?_
      refine aw_get X fX0_31 dX0_climb_49 (q1) rfl ?_
      refine aw_aload0 X dX0_climb_52 ?_
      refine aw_get X fX0_35 dX0_climb_53 (q1) rfl ?_
      refine aw_callV X (c_X2_give w3 q6 q7 (by omega) (by omega) hfit) kX0_93 (ci := 3) rfl (e1) dX0_climb_56 rfl rfl (by first | decide | exact Nat.le_of_ble_eq_true rfl) (by rw [hR]; exact ⟨by first | decide | exact Nat.le_of_ble_eq_true rfl | (dsimp only; omega), by first | decide | exact Nat.le_of_ble_eq_true rfl | (dsimp only; omega)⟩) (by rw [hR]; exact ⟨by first | decide | exact Nat.le_of_ble_eq_true rfl | (dsimp only; omega), by first | decide | exact Nat.le_of_ble_eq_true rfl | (dsimp only; omega)⟩) (fun o M3 hv => ?_)
      obtain ⟨b3, hout3, rfl⟩ := hv
      have h3 := h1.next hout3 b3
      obtain ⟨-, -, kp3, s3, nx3, p1, p2, p3, p4, p5, p6, p7, p8⟩ := id h3
      obtain ⟨f8, g8, -⟩ := id p6
      refine aw_aload0 X dX0_climb_59 ?_
      refine aw_get X fX0_31 dX0_climb_60 (p1) rfl ?_
      refine aw_aload0 X dX0_climb_63 ?_
      refine aw_get X fX0_35 dX0_climb_64 (p1) rfl ?_
      refine aw_callV X (c_X4_become p6 b3 (by omega)) kX0_82 (ci := 5) rfl (g8) dX0_climb_67 rfl rfl (by first | decide | exact Nat.le_of_ble_eq_true rfl) (by rw [hR]; exact ⟨by first | decide | exact Nat.le_of_ble_eq_true rfl | (dsimp only; omega), by first | decide | exact Nat.le_of_ble_eq_true rfl | (dsimp only; omega)⟩) (by rw [hR]; exact ⟨by first | decide | exact Nat.le_of_ble_eq_true rfl | (dsimp only; omega), by first | decide | exact Nat.le_of_ble_eq_true rfl | (dsimp only; omega)⟩) (fun o M4 hv => ?_)
      obtain ⟨b4, hout4, rfl⟩ := hv
      refine aw_iinc2 X dX0_climb_70 (by rw [hn]; decide) (am_dn_dec m) rfl ?_
      refine aw_goto X dX0_climb_73 (tgt := 4) (by decide) ?_
      refine aw_drop3 ?_
      exact ih m M4 ⟨by omega, hout.tr ((hout3.wd (by omega) (by omega)).tr (hout4.wd (by omega) (by omega))), _, h3.rb hout4 b4, hD⟩ (by omega)
    · have hfit : fitB D0.2.1 rb1.length = false := by
        cases hx : fitB D0.2.1 rb1.length with
        | false => rfl
        | true => rw [hx] at c; exact absurd c (by decide)
      rw [hfit, if_neg (by decide)] at hD
      have hD2 := rb_lift hV hv m (fun i hi => (hj i (by omega)).1) hD
      refine aw_aload0 X dX0_climb_34 ?_
      refine aw_aload0 X dX0_climb_35 ?_
      refine aw_get X fX0_17 dX0_climb_36 (q1) rfl ?_
      refine aw_iload2 X dX0_climb_39 ?_
      refine aw_iald X dX0_climb_40 q4 rfl (by omega) (by decide) ?_
      refine aw_int hch ?_
      refine aw_iload2 X dX0_climb_41 ?_
      refine aw_iconst X dX0_climb_42 (v := nI 2) (by decide) ?_
      refine aw_callV X (c_X0_breakAt h1) kX0_75 (ci := 1) rfl (q1) dX0_climb_43 rfl rfl (by first | decide | exact Nat.le_of_ble_eq_true rfl) (by rw [hR]; exact ⟨by first | decide | exact Nat.le_of_ble_eq_true rfl | (dsimp only; omega), by first | decide | exact Nat.le_of_ble_eq_true rfl | (dsimp only; omega)⟩) (by rw [hR]; exact ⟨by first | decide | exact Nat.le_of_ble_eq_true rfl | (dsimp only; omega), by first | decide | exact Nat.le_of_ble_eq_true rfl | (dsimp only; omega)⟩) (fun o M3 hv => ?_)
      obtain ⟨b3, hout3, rfl⟩ := hv
      refine aw_vreturn X hr dX0_climb_46 (?_)
      rw [hD2, Nat.zero_add]
      exact ⟨⟨rb1, ch, b3, fun bs hb => by cases hb⟩, hout.tr hout3, rfl⟩
theorem c_X0_putTogether {l : Launch} {G : AG} {M : AM} {a n v : Nat} {V : Nat → VK} {w aw y : Int32} {rb : List Int32} {ch : Nat → Int32} (h : isAr G M a n V w aw y rb ch) (hv : v < n) : Cn l G yX0_putTogether cX0_putTogether 4 none rX0_putTogether M [.ref a, .int (nI v)] (fun o M' => isArB G M' a n V (rbv V v) ∧ am_out M M' a (a + 190) ∧ o = none) := by
  have hV := h.2.1
  have hn := h.1
  have h0 := h.at
  refine Cn.of (by decide) [some (.ref a), some (.int (nI v)), none, none] rfl (Nat.le_of_ble_eq_true rfl) ?_
  intro Z hZ
  obtain ⟨rfl, hn, rfl, hR, X, hr, hnm⟩ := hZ
  refine aw_aload0 X dX0_putTogether_0 ?_
  refine aw_iconst X dX0_putTogether_1 (v := -1) (by decide) ?_
  refine aw_put6 X pX0_38 dX0_putTogether_2 (h0) rfl rfl ?_
  refine aw_aload0 X dX0_putTogether_5 ?_
  refine aw_iconst X dX0_putTogether_6 (v := -1) (by decide) ?_
  refine aw_put7 X pX0_42 dX0_putTogether_7 (am_us) rfl rfl ?_
  rw [am_uu]
  refine aw_aload0 X dX0_putTogether_10 ?_
  refine aw_iconst X dX0_putTogether_11 (v := -1) (by decide) ?_
  refine aw_put8 X pX0_45 dX0_putTogether_12 (am_us) rfl rfl ?_
  rw [am_uu]
  refine aw_iconst X dX0_putTogether_15 (v := nI 0) (by decide) ?_
  refine aw_istore2 X dX0_putTogether_16 (by rw [hn]; decide) rfl ?_
  refine aw_iload1 X dX0_putTogether_17 ?_
  refine aw_istore3 X dX0_putTogether_18 (by rw [hn]; decide) rfl ?_
  refine aw_loopM (fun (j : Nat) M1 => am_out M M1 a (a + 190) ∧ ∃ ch1, isAr (zG Z) M1 a n V (-1) (-1) (-1) rb ch1 ∧ ∀ i, i < j → isRest (V (pth V v i)) ∧ ch1 i = nI (pth V v i)) (fun j => v - j) (fun j => [some (.ref a), some (.int (nI v)), some (.int (nI j)), some (.int (nI (pth V v j)))]) ?_ 0 ⟨am_out.up (by omega) (by omega), ch, h.obj, fun i hi => absurd hi (Nat.not_lt_zero _)⟩
  rintro j M1 ⟨hout, ch1, h1, hj⟩ ih
  have hpj := pth_le hV hv j (fun i hi => (hj i hi).1)
  obtain ⟨-, -, kp, s, nx, q1, q2, q3, q4, q5, q6, q7, q8⟩ := id h1
  have hver := q8 (pth V v j) (by omega)
  obtain ⟨kd, bb, bs0, D0, w1, w2, w3, w4⟩ := id hver
  refine aw_aload0 X dX0_putTogether_19 ?_
  refine aw_get X fX0_11 dX0_putTogether_20 (q1) rfl ?_
  refine aw_iload3 X dX0_putTogether_23 ?_
  refine aw_aald X at_6 dX0_putTogether_24 q2 rfl (by omega) (by decide) ?_
  refine aw_rf (q3 _ (by omega)) ?_
  refine aw_get X fX0_60 dX0_putTogether_25 (w1) rfl ?_
  refine aw_iconst X dX0_putTogether_28 (v := nI 1) (by decide) ?_
  cases hx : V (pth V v j) with
  | none =>
    rw [hx] at w4
    have w4 : kd = nI 2 := w4
    subst w4
    refine aw_icmpne X dX0_putTogether_29 (tgt := 64) (by decide) (fun _ => ?_) (fun c9 => by first | exact absurd (by decide) c9 | exact absurd c9 (by decide))
    refine aw_aload0 X dX0_putTogether_64 ?_
    refine aw_get X fX0_11 dX0_putTogether_65 (q1) rfl ?_
    refine aw_iload3 X dX0_putTogether_68 ?_
    refine aw_aald X at_6 dX0_putTogether_69 q2 rfl (by omega) (by decide) ?_
    refine aw_rf (q3 _ (by omega)) ?_
    refine aw_get X fX0_60 dX0_putTogether_70 (w1) rfl ?_
    refine aw_iconst X dX0_putTogether_73 (v := nI 2) (by decide) ?_
    refine aw_icmpne X dX0_putTogether_74 (tgt := 85) (by decide) (fun c9 => by first | exact absurd (rfl) c9 | exact absurd c9 (rfl)) (fun _ => ?_)
    have hD := rb_lift hV hv j (fun i hi => (hj i hi).1) (rbv_none hx)
    refine aw_aload0 X dX0_putTogether_77 ?_
    refine aw_iload3 X dX0_putTogether_78 ?_
    refine aw_iload2 X dX0_putTogether_79 ?_
    refine aw_iconst X dX0_putTogether_80 (v := nI 1) (by decide) ?_
    refine aw_callV X (c_X0_breakAt h1) kX0_75 (ci := 1) rfl (q1) dX0_putTogether_81 rfl rfl (by first | decide | exact Nat.le_of_ble_eq_true rfl) (by rw [hR]; exact ⟨by first | decide | exact Nat.le_of_ble_eq_true rfl | (dsimp only; omega), by first | decide | exact Nat.le_of_ble_eq_true rfl | (dsimp only; omega)⟩) (by rw [hR]; exact ⟨by first | decide | exact Nat.le_of_ble_eq_true rfl | (dsimp only; omega), by first | decide | exact Nat.le_of_ble_eq_true rfl | (dsimp only; omega)⟩) (fun o M3 hv => ?_)
    obtain ⟨b3, hout3, rfl⟩ := hv
    refine aw_vreturn X hr dX0_putTogether_84 (?_)
    rw [hD, Nat.zero_add]
    exact ⟨⟨rb, ch1, b3, fun bs hb => by cases hb⟩, hout.tr hout3, rfl⟩
  | some x =>
    rw [hx] at w4
    cases x with
    | inl bs1 =>
      obtain ⟨rfl, rfl⟩ := w4
      refine aw_icmpne X dX0_putTogether_29 (tgt := 64) (by decide) (fun _ => ?_) (fun c9 => by first | exact absurd (by decide) c9 | exact absurd c9 (by decide))
      refine aw_aload0 X dX0_putTogether_64 ?_
      refine aw_get X fX0_11 dX0_putTogether_65 (q1) rfl ?_
      refine aw_iload3 X dX0_putTogether_68 ?_
      refine aw_aald X at_6 dX0_putTogether_69 q2 rfl (by omega) (by decide) ?_
      refine aw_rf (q3 _ (by omega)) ?_
      refine aw_get X fX0_60 dX0_putTogether_70 (w1) rfl ?_
      refine aw_iconst X dX0_putTogether_73 (v := nI 2) (by decide) ?_
      refine aw_icmpne X dX0_putTogether_74 (tgt := 85) (by decide) (fun _ => ?_) (fun c9 => by first | exact absurd (by decide) c9 | exact absurd c9 (by decide))
      refine aw_aload0 X dX0_putTogether_85 ?_
      refine aw_get X fX0_31 dX0_putTogether_86 (q1) rfl ?_
      refine aw_aload0 X dX0_putTogether_89 ?_
      refine aw_get X fX0_11 dX0_putTogether_90 (q1) rfl ?_
      refine aw_iload3 X dX0_putTogether_93 ?_
      refine aw_aald X at_6 dX0_putTogether_94 q2 rfl (by omega) (by decide) ?_
      refine aw_rf (q3 _ (by omega)) ?_
      obtain ⟨f6, g6, -⟩ := id q6
      refine aw_get X fX0_79 dX0_putTogether_95 (w1) rfl ?_
      refine aw_callV X (c_X4_become q6 w2 (by omega)) kX0_82 (ci := 5) rfl (g6) dX0_putTogether_98 rfl rfl (by first | decide | exact Nat.le_of_ble_eq_true rfl) (by rw [hR]; exact ⟨by first | decide | exact Nat.le_of_ble_eq_true rfl | (dsimp only; omega), by first | decide | exact Nat.le_of_ble_eq_true rfl | (dsimp only; omega)⟩) (by rw [hR]; exact ⟨by first | decide | exact Nat.le_of_ble_eq_true rfl | (dsimp only; omega), by first | decide | exact Nat.le_of_ble_eq_true rfl | (dsimp only; omega)⟩) (fun o M2 hv => ?_)
      obtain ⟨b2, hout2, rfl⟩ := hv
      have h2 := h1.rb hout2 b2
      refine aw_aload0 X dX0_putTogether_101 ?_
      refine aw_iload2 X dX0_putTogether_102 ?_
      refine aw_callV X (c_X0_climb h2 hv hj (rbv_whole hx)) kX0_85 (ci := 1) rfl (h2.at) dX0_putTogether_103 rfl rfl (by first | decide | exact Nat.le_of_ble_eq_true rfl) (by rw [hR]; exact ⟨by first | decide | exact Nat.le_of_ble_eq_true rfl | (dsimp only; omega), by first | decide | exact Nat.le_of_ble_eq_true rfl | (dsimp only; omega)⟩) (by rw [hR]; exact ⟨by first | decide | exact Nat.le_of_ble_eq_true rfl | (dsimp only; omega), by first | decide | exact Nat.le_of_ble_eq_true rfl | (dsimp only; omega)⟩) (fun o M3 hv => ?_)
      obtain ⟨b3, hout3, rfl⟩ := hv
      refine aw_vreturn X hr dX0_putTogether_106 (?_)
      exact ⟨b3, hout.tr ((hout2.wd (by omega) (by omega)).tr hout3), rfl⟩
    | inr q =>
      obtain ⟨b, D⟩ := q
      obtain ⟨rfl, rfl, rfl⟩ := w4
      have hb := hV _ b D0 (by omega) hx
      refine aw_icmpne X dX0_putTogether_29 (tgt := 64) (by decide) (fun c9 => by first | exact absurd (rfl) c9 | exact absurd c9 (rfl)) (fun _ => ?_)
      refine aw_iload2 X dX0_putTogether_32 ?_
      refine aw_aload0 X dX0_putTogether_33 ?_
      refine aw_get X fX0_17 dX0_putTogether_34 (q1) rfl ?_
      refine aw_alen X dX0_putTogether_37 (q4) (t := 0) rfl rfl ?_
      refine aw_icmpge X dX0_putTogether_38 (tgt := 64) (by decide) (fun c9 => by first | exact absurd (nI_ge (a := j) (b := 20) (by omega) (by omega)) c9 | exact absurd c9 (nI_ge (a := j) (b := 20) (by omega) (by omega))) (fun _ => ?_)
      refine aw_aload0 X dX0_putTogether_41 ?_
      refine aw_get X fX0_17 dX0_putTogether_42 (q1) rfl ?_
      refine aw_iload2 X dX0_putTogether_45 ?_
      refine aw_iload3 X dX0_putTogether_46 ?_
      refine aw_iast X dX0_putTogether_47 q4 rfl (by omega) (by decide) ?_
      refine aw_iinc2 X dX0_putTogether_48 (by rw [hn]; decide) (am_inc _ 1) rfl ?_
      refine aw_aload0 X dX0_putTogether_51 ?_
      refine aw_get X fX0_11 dX0_putTogether_52 (am_k q1 (by omega)) rfl ?_
      refine aw_iload3 X dX0_putTogether_55 ?_
      refine aw_aald X at_6 dX0_putTogether_56 (am_k q2 (by omega)) rfl (by omega) (by decide) ?_
      refine aw_rf (q3 _ (by omega)) ?_
      refine aw_get X fX0_63 dX0_putTogether_57 (am_k w1 (by omega)) rfl ?_
      refine aw_istore3 X dX0_putTogether_60 (by rw [hn]; decide) rfl ?_
      refine aw_goto X dX0_putTogether_61 (tgt := 19) (by decide) ?_
      have eb : pth V v (j + 1) = b := by rw [pth, hx]
      rw [← eb]
      refine ih (j + 1) _ ⟨hout.tr (am_out.up (by omega) (by omega)), _, h1.ch, fun i hi => ?_⟩ (by omega)
      by_cases e : i = j
      · subst e
        rw [pk_us]
        exact ⟨⟨b, D0, hx⟩, rfl⟩
      · rw [pk_un e]
        exact hj i (by omega)
