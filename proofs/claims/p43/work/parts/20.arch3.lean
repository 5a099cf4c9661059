theorem isAr.put {G : AG} {M M' : AM} {a n k : Nat} {V : Nat → VK} {W : VK} {w aw y : Int32} {rb : List Int32} {ch : Nat → Int32} (h : isAr G M a n V w aw y rb ch) (hk : k < 20) (ho : am_out M M' (a + 10 + 9 * k) (a + 10 + 9 * k + 9)) (hw : isVer G M' (a + 10 + 9 * k) W) (hb : ∀ b D, W = some (.inr (b, D)) → b < k) : isAr G M' a n (va_up V k W) w aw y rb ch := by
  obtain ⟨h1, h2, kp, s, nx, h3, h4, h5, h6, h7, h8, h9, h10⟩ := h
  refine ⟨h1, fun i b D hi hx => ?_, kp, s, nx, (ho _ (by omega)).trans h3, (ho _ (by omega)).trans h4, h5, (ho _ (by omega)).trans h6, h7.out ho (by omega), h8.out ho (by omega), h9.out ho (by omega), fun i hi => ?_⟩
  · by_cases e : i = k
    · subst e
      rw [va_up_self] at hx
      exact hb b D hx
    · rw [va_up_ne _ _ e] at hx
      exact h2 i b D hi hx
  · by_cases e : i = k
    · subst e
      rw [va_up_self]
      exact hw
    · rw [va_up_ne _ _ e]
      exact (h10 i hi).out ho (by omega)
theorem isAr.cnt {G : AG} {M : AM} {a n : Nat} {V : Nat → VK} {w aw y : Int32} {rb : List Int32} {ch : Nat → Int32} (h : isAr G M a n V w aw y rb ch) (hn : n < 20) (hb : ∀ b D, V n = some (.inr (b, D)) → b < n) : isAr G (am_up M a (am_o 1 [.ref (a + 1), .ref (a + 2), .ref (a + 3), .ref (a + 6), .ref (a + 8), .int (nI (n + 1)), .int w, .int aw, .int y])) a (n + 1) V w aw y rb ch := by
  obtain ⟨h1, h2, kp, s, nx, h3, h4, h5, h6, h7, h8, h9, h10⟩ := h
  have ho : am_out M (am_up M a (am_o 1 [.ref (a + 1), .ref (a + 2), .ref (a + 3), .ref (a + 6), .ref (a + 8), .int (nI (n + 1)), .int w, .int aw, .int y])) a (a + 1) := am_out.up (by omega) (by omega)
  refine ⟨by omega, fun i b D hi hx => ?_, kp, s, nx, am_us, am_k h4 (by omega), h5, am_k h6 (by omega), h7.out ho (by omega), h8.out ho (by omega), h9.out ho (by omega), fun i hi => (h10 i hi).out ho (by omega)⟩
  by_cases e : i = n
  · subst e
    exact hb b D hx
  · exact h2 i b D (by omega) hx
theorem c_X0_addWhole {l : Launch} {G : AG} {M : AM} {a n r : Nat} {V : Nat → VK} {w aw y : Int32} {rb bs : List Int32} {ch : Nat → Int32} (h : isAr G M a n V w aw y rb ch) (hn : n < 20) (hr0 : isRow G M r bs) (hd : r + 2 ≤ a ∨ a + 190 ≤ r) : Cn l G yX0_addWhole cX0_addWhole 2 (some .int) rX0_addWhole M [.ref a, .ref r] (fun o M' => isAr G M' a (n + 1) (va_up V n (some (.inl bs))) w aw y rb ch ∧ am_out M M' a (a + 190) ∧ o = some (.int (nI n))) := by
  obtain ⟨-, -, kp, s, nx, q1, q2, q3, q4, q5, q6, q7, q8⟩ := id h
  have hver := q8 n hn
  obtain ⟨kd, bb, bs0, D0, w1, w2, w3, w4⟩ := id hver
  refine Cn.of (by decide) [some (.ref a), some (.ref r)] rfl (Nat.le_of_ble_eq_true rfl) ?_
  intro Z hZ
  obtain ⟨rfl, hn, rfl, hR, X, hr, hnm⟩ := hZ
  refine aw_aload0 X dX0_addWhole_0 ?_
  refine aw_get X fX0_11 dX0_addWhole_1 (q1) rfl ?_
  refine aw_aload0 X dX0_addWhole_4 ?_
  refine aw_get X fX0_49 dX0_addWhole_5 (q1) rfl ?_
  refine aw_aald X at_6 dX0_addWhole_8 q2 rfl (by omega) (by decide) ?_
  refine aw_rf (q3 _ (by omega)) ?_
  refine aw_aload1 X dX0_addWhole_9 ?_
  refine aw_callV X (c_X7_becomeWhole hver hr0 (by omega)) kX0_52 (ci := 8) rfl (w1) dX0_addWhole_10 rfl rfl (by first | decide | exact Nat.le_of_ble_eq_true rfl) (by rw [hR]; exact ⟨by first | decide | exact Nat.le_of_ble_eq_true rfl | (dsimp only; omega), by first | decide | exact Nat.le_of_ble_eq_true rfl | (dsimp only; omega)⟩) (by rw [hR]; exact ⟨by first | decide | exact Nat.le_of_ble_eq_true rfl | (dsimp only; omega), by first | decide | exact Nat.le_of_ble_eq_true rfl | (dsimp only; omega)⟩) (fun o M1 hv => ?_)
  obtain ⟨b1, hout, rfl⟩ := hv
  have h1 := h.put (by omega) hout b1 (fun b D e => by cases e)
  have h2 := h1.cnt (by omega) (fun b D e => by rw [va_up_self] at e; cases e)
  refine aw_aload0 X dX0_addWhole_13 ?_
  refine aw_dup X dX0_addWhole_14 rfl ?_
  refine aw_get X fX0_49 dX0_addWhole_15 (h1.at) rfl ?_
  refine aw_iconst X dX0_addWhole_18 (v := nI 1) (by decide) ?_
  refine aw_iadd X dX0_addWhole_19 ?_
  first | with_reducible refine aw_int (nI_add _ _) ?_ | skip
  refine aw_put5 X pX0_49 dX0_addWhole_20 (h1.at) rfl rfl ?_
  refine aw_aload0 X dX0_addWhole_23 ?_
  refine aw_get X fX0_49 dX0_addWhole_24 (am_us) rfl ?_
  refine aw_iconst X dX0_addWhole_27 (v := nI 1) (by decide) ?_
  refine aw_isub X dX0_addWhole_28 ?_
  first | with_reducible refine aw_int (pk_sub (by omega)) ?_ | skip
  refine aw_ireturn X (ty := .int) hr (by first | rfl | decide | assumption) dX0_addWhole_29 (⟨h2, (hout.wd (by omega) (by omega)).tr (am_out.up (by omega) (by omega)), rfl⟩)
theorem c_X0_addResting {l : Launch} {G : AG} {M : AM} {a n r b L : Nat} {V : Nat → VK} {w aw y : Int32} {rb bs : List Int32} {ch : Nat → Int32} (h : isAr G M a n V w aw y rb ch) (hn20 : n < 20) (hb : b < n) (hL : 0 < L ∧ L ≤ 7) (hr0 : isRow G M r bs) (hd : r + 2 ≤ a ∨ a + 190 ≤ r) : Cn l G yX0_addResting cX0_addResting 5 (some .int) rX0_addResting M [.ref a, .ref r, .int (nI b), .int (nI L)] (fun o M' => isAr G M' a (n + 1) (va_up V n (some (.inr (b, cmpD (true, L, 256, rb) bs)))) w aw y rb ch ∧ am_out M M' a (a + 190) ∧ o = some (.int (nI n))) := by
  obtain ⟨g1, g2, kp, s, nx, q1, q2, q3, q4, q5, q6, q7, q8⟩ := id h
  refine Cn.of (by decide) [some (.ref a), some (.ref r), some (.int (nI b)), some (.int (nI L)), none] rfl (Nat.le_of_ble_eq_true rfl) ?_
  intro Z hZ
  obtain ⟨rfl, hn, rfl, hR, X, hr, hnm⟩ := hZ
  obtain ⟨-, fw, fs, s1, -⟩ := id q5
  refine aw_aload0 X dX0_addResting_0 ?_
  refine aw_get X fX0_24 dX0_addResting_1 (q1) rfl ?_
  refine aw_aload0 X dX0_addResting_4 ?_
  refine aw_get X fX0_31 dX0_addResting_5 (q1) rfl ?_
  refine aw_iload3 X dX0_addResting_8 ?_
  refine aw_sipush X dX0_addResting_9 (v := nI 256) (by decide) ?_
  refine aw_callV X (c_X6_make q5 q6 (by omega) hL (by omega)) kX0_56 (ci := 7) rfl (s1) dX0_addResting_12 rfl rfl (by first | decide | exact Nat.le_of_ble_eq_true rfl) (by rw [hR]; exact ⟨by first | decide | exact Nat.le_of_ble_eq_true rfl | (dsimp only; omega), by first | decide | exact Nat.le_of_ble_eq_true rfl | (dsimp only; omega)⟩) (by rw [hR]; exact ⟨by first | decide | exact Nat.le_of_ble_eq_true rfl | (dsimp only; omega), by first | decide | exact Nat.le_of_ble_eq_true rfl | (dsimp only; omega)⟩) (fun o M1 hv => ?_)
  obtain ⟨b1, hout1, rfl⟩ := hv
  have h1 : isAr (zG Z) M1 a n V w aw y rb ch := ⟨g1, g2, kp, _, nx, (hout1 _ (by omega)).trans q1, (hout1 _ (by omega)).trans q2, q3, (hout1 _ (by omega)).trans q4, b1, q6.out hout1 (by omega), q7.out hout1 (by omega), fun i hi => (q8 i hi).out hout1 (by omega)⟩
  have hr1 := hr0.out hout1 (by omega)
  have q1' := h1.at
  have q2' := (hout1 (a + 1) (by omega)).trans q2
  have hver := (q8 n hn20).out hout1 (by omega)
  obtain ⟨kd, bb, bs0, D0, w1, w2, w3, w4⟩ := id hver
  refine aw_aload0 X dX0_addResting_15 ?_
  refine aw_get X fX0_11 dX0_addResting_16 (q1') rfl ?_
  refine aw_aload0 X dX0_addResting_19 ?_
  refine aw_get X fX0_49 dX0_addResting_20 (q1') rfl ?_
  refine aw_aald X at_6 dX0_addResting_23 q2' rfl (by omega) (by decide) ?_
  refine aw_rf (q3 _ (by omega)) ?_
  refine aw_astore4 X dX0_addResting_24 (by rw [hn]; decide) rfl ?_
  refine aw_aload4 X dX0_addResting_26 ?_
  refine aw_iconst X dX0_addResting_28 (v := nI 1) (by decide) ?_
  refine aw_put2 X pX0_60 dX0_addResting_29 (w1) rfl rfl ?_
  refine aw_aload4 X dX0_addResting_32 ?_
  refine aw_iload2 X dX0_addResting_34 ?_
  refine aw_put3 X pX0_63 dX0_addResting_35 (am_us) rfl rfl ?_
  rw [am_uu]
  have hout2 : am_out M1 (am_up M1 (a + 10 + 9 * n) (am_o 8 [.ref (a + 10 + 9 * n + 1), .ref (a + 10 + 9 * n + 3), .int (nI 1), .int (nI b)])) (a + 10 + 9 * n) (a + 10 + 9 * n + 1) := am_out.up (by omega) (by omega)
  have w3' := w3.out hout2 (by omega)
  have b1' := b1.out hout2 (by omega)
  have hr2 := hr1.out hout2 (by omega)
  obtain ⟨-, bb2, fc, fa, fz, e1, -⟩ := id w3'
  refine aw_aload4 X dX0_addResting_38 ?_
  refine aw_get X fX0_66 dX0_addResting_40 (am_us) rfl ?_
  refine aw_aload0 X dX0_addResting_43 ?_
  refine aw_get X fX0_24 dX0_addResting_44 (am_k q1' (by omega)) rfl ?_
  refine aw_aload1 X dX0_addResting_47 ?_
  refine aw_callV X (c_X2_make w3' b1' hr2 (by omega) (by omega)) kX0_70 (ci := 3) rfl (e1) dX0_addResting_48 rfl rfl (by first | decide | exact Nat.le_of_ble_eq_true rfl) (by rw [hR]; exact ⟨by first | decide | exact Nat.le_of_ble_eq_true rfl | (dsimp only; omega), by first | decide | exact Nat.le_of_ble_eq_true rfl | (dsimp only; omega)⟩) (by rw [hR]; exact ⟨by first | decide | exact Nat.le_of_ble_eq_true rfl | (dsimp only; omega), by first | decide | exact Nat.le_of_ble_eq_true rfl | (dsimp only; omega)⟩) (fun o M2 hv => ?_)
  obtain ⟨b2, hout3, rfl⟩ := hv
  have hw : isVer (zG Z) M2 (a + 10 + 9 * n) (some (.inr (b, cmpD (true, L, 256, rb) bs))) := ⟨_, _, _, _, (hout3 _ (by omega)).trans am_us, (w2.out hout2 (by omega)).out hout3 (by omega), b2, rfl, rfl, rfl⟩
  have h2 := h1.put hn20 ((hout2.wd (by omega) (by omega)).tr (hout3.wd (by omega) (by omega))) hw (fun b' D' e => by cases e; exact hb)
  have h3 := h2.cnt (by omega) (fun b' D' e => by rw [va_up_self] at e; cases e; exact hb)
  refine aw_aload0 X dX0_addResting_51 ?_
  refine aw_dup X dX0_addResting_52 rfl ?_
  refine aw_get X fX0_49 dX0_addResting_53 (h2.at) rfl ?_
  refine aw_iconst X dX0_addResting_56 (v := nI 1) (by decide) ?_
  refine aw_iadd X dX0_addResting_57 ?_
  first | with_reducible refine aw_int (nI_add _ _) ?_ | skip
  refine aw_put5 X pX0_49 dX0_addResting_58 (h2.at) rfl rfl ?_
  refine aw_aload0 X dX0_addResting_61 ?_
  refine aw_get X fX0_49 dX0_addResting_62 (am_us) rfl ?_
  refine aw_iconst X dX0_addResting_65 (v := nI 1) (by decide) ?_
  refine aw_isub X dX0_addResting_66 ?_
  first | with_reducible refine aw_int (pk_sub (by omega)) ?_ | skip
  refine aw_ireturn X (ty := .int) hr (by first | rfl | decide | assumption) dX0_addResting_67 (⟨h3, (hout1.wd (by omega) (by omega)).tr ((hout2.wd (by omega) (by omega)).tr ((hout3.wd (by omega) (by omega)).tr (am_out.up (by omega) (by omega)))), rfl⟩)
