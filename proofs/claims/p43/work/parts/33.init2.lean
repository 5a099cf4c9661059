theorem ini.ke {M M' : AM} {q n : Nat} (h : ini M M' q n) : KE M M' (fun j => q ≤ j) := fun j x hx he => (h.2 j (by omega)).trans hx
theorem KE.nw {M : AM} {q : Nat} {e : va_E} : KE M (am_nw M q e) (fun j => j = q) := fun j x hx he => (am_nn he).trans hx
theorem isRow.kr {G : AG} {M M' : AM} {E : Nat → Prop} {r : Nat} {bs : List Int32} (h : isRow G M r bs) (hk : KE M M' E) (hd : ∀ q, r ≤ q → q < r + 2 → ¬ E q) : isRow G M' r bs :=
  h.ke hk (hd _ (by omega) (by omega)) (hd _ (by omega) (by omega))
theorem isSig.kr {G : AG} {M M' : AM} {E : Nat → Prop} {g : Nat} {s : SG} (h : isSig G M g s) (hk : KE M M' E) (hd : ∀ q, g ≤ q → q < g + 3 → ¬ E q) : isSig G M' g s := by
  obtain ⟨h0, fw, fs, h1, h2, h3, h4⟩ := h
  exact ⟨h0, fw, fs, hk _ _ h1 (hd _ (by omega) (by omega)), hk _ _ h2 (hd _ (by omega) (by omega)), hk _ _ h3 (hd _ (by omega) (by omega)), h4⟩
theorem isDelta.kr {G : AG} {M M' : AM} {E : Nat → Prop} {d : Nat} {D : DL} (h : isDelta G M d D) (hk : KE M M' E) (hd : ∀ q, d ≤ q → q < d + 6 → ¬ E q) : isDelta G M' d D := by
  obtain ⟨h0, bb, fc, fa, fz, h1, h2, h3, h4, h5, h6⟩ := h
  exact ⟨h0, bb, fc, fa, fz, hk _ _ h1 (hd _ (by omega) (by omega)), hk _ _ h2 (hd _ (by omega) (by omega)), hk _ _ h3 (hd _ (by omega) (by omega)), hk _ _ h4 (hd _ (by omega) (by omega)), h5.kr hk (fun q a b => hd q (by omega) (by omega)), h6⟩
theorem isVer.kr {G : AG} {M M' : AM} {E : Nat → Prop} {v : Nat} {V : VK} (h : isVer G M v V) (hk : KE M M' E) (hd : ∀ q, v ≤ q → q < v + 9 → ¬ E q) : isVer G M' v V := by
  obtain ⟨kd, bb, bs, D, h1, h2, h3, h4⟩ := h
  exact ⟨kd, bb, bs, D, hk _ _ h1 (hd _ (by omega) (by omega)), h2.kr hk (fun q a b => hd q (by omega) (by omega)), h3.kr hk (fun q a b => hd q (by omega) (by omega)), h4⟩
theorem isAr.kr {G : AG} {M M' : AM} {E : Nat → Prop} {a n : Nat} {V : Nat → VK} {w aw y : Int32} {rb : List Int32} {ch : Nat → Int32} (h : isAr G M a n V w aw y rb ch) (hk : KE M M' E) (hd : ∀ q, a ≤ q → q < a + 190 → ¬ E q) : isAr G M' a n V w aw y rb ch := by
  obtain ⟨h1, h2, kp, s, nx, h3, h4, h5, h6, h7, h8, h9, h10⟩ := h
  exact ⟨h1, h2, kp, s, nx, hk _ _ h3 (hd _ (by omega) (by omega)), hk _ _ h4 (hd _ (by omega) (by omega)), h5, hk _ _ h6 (hd _ (by omega) (by omega)), h7.kr hk (fun q a b => hd q (by omega) (by omega)), h8.kr hk (fun q a b => hd q (by omega) (by omega)), h9.kr hk (fun q a b => hd q (by omega) (by omega)), fun i hi => (h10 i hi).kr hk (fun q a b => hd q (by omega) (by omega))⟩
theorem isPp.kr {G : AG} {M M' : AM} {E : Nat → Prop} {q0 : Nat} {p : PP} (h : isPp G M q0 p) (hk : KE M M' E) (hd : ∀ q, q0 ≤ q → q < q0 + 2 → ¬ E q) (h3 : p.2.2.1 = 0) : isPp G M' q0 p :=
  h.ke hk (hd _ (by omega) (by omega)) (hd _ (by omega) (by omega)) (fun h0 => by omega)
theorem c_X0_init {l : Launch} {G : AG} {M : AM} {a : Nat} (h : M.1 a = some (am_o 1 [.null, .null, .null, .null, .null, .int (nI 0), .int (nI 0), .int (nI 0), .int (nI 0)])) (hz : M.2 = some (a + 1)) : Cn l G yX0_init cX0_init 2 none { rX0_init with cells := 189, slots := 12851 } M [.ref a] (fun v M' => v = none ∧ isAr G M' a 0 (fun _ => none) (-1) (-1) (-1) [] (fun _ => 0) ∧ ini M M' a 190) := by
  refine Cn.of (by decide) [some (.ref a), none] rfl (Nat.le_of_ble_eq_true rfl) ?_
  intro Z hZ
  obtain ⟨rfl, hn, rfl, hR, X, hr, hnm⟩ := hZ
  refine aw_aload0 X dX0_init_0 ?_
  refine aw_obj X olX0_3 oi_i oi_c dX0_init_1 (by rw [hR]; exact Nat.le_of_ble_eq_true rfl) (by rw [hR]; exact Nat.le_of_ble_eq_true rfl) ?_
  refine aw_aload0 X dX0_init_4 ?_
  refine aw_bipush X dX0_init_5 (v := nI 20) (by decide) ?_
  refine aw_newq X at_6 cnX0_9 ao_Version dX0_init_7 (N := 20) rfl (by decide) (by rw [hR]; exact Nat.le_of_ble_eq_true rfl) (by rw [hR]; exact Nat.le_of_ble_eq_true rfl) (fun e heA hlt he => ?_)
  cases he _ hz
  refine aw_putF0 X pX0_11 hnm dX0_init_10 ((am_nn (by omega)).trans h) rfl rfl ?_
  refine aw_aload0 X dX0_init_13 ?_
  refine aw_bipush X dX0_init_14 (v := nI 20) (by decide) ?_
  refine aw_newI X 20 dX0_init_16 rfl (by decide) (by rw [hR]; exact Nat.le_of_ble_eq_true rfl) (by rw [hR]; exact Nat.le_of_ble_eq_true rfl) ac_int (fun e2 heA2 hlt2 he2 => ?_)
  cases he2 _ (show _ = some (a + 1 + 1) from rfl)
  refine aw_putF1 X pX0_17 hnm dX0_init_18 ((am_nn (by omega)).trans am_us) rfl rfl ?_
  refine aw_aload0 X dX0_init_21 ?_
  refine aw_new X cl_7 tyX6 tyX6_ok nwX6 cnX0_21 inX6 iiX6 dX0_init_22 (by rw [hR]; exact Nat.le_of_ble_eq_true rfl) (by rw [hR]; exact Nat.le_of_ble_eq_true rfl) (fun e3 heA3 hlt3 he3 => ?_)
  cases he3 _ (show _ = some (a + 1 + 1 + 1) from rfl)
  refine aw_dup X dX0_init_25 rfl ?_
  refine aw_callI X (c_X6_init am_ns rfl) kX0_23 dX0_init_26 rfl rfl (by first | decide | exact Nat.le_of_ble_eq_true rfl) (by rw [hR]; exact ⟨by first | decide | exact Nat.le_of_ble_eq_true rfl | (dsimp only; omega), by first | decide | exact Nat.le_of_ble_eq_true rfl | (dsimp only; omega)⟩) (by rw [hR]; exact ⟨by first | decide | exact Nat.le_of_ble_eq_true rfl | (dsimp only; omega), by first | decide | exact Nat.le_of_ble_eq_true rfl | (dsimp only; omega)⟩) (fun v M2 hv => ?_)
  obtain ⟨rfl, hsig, h2, hfr⟩ := hv
  have g1 : M2.1 a = some (am_o 1 [.ref (a + 1), .ref (a + 1 + 1), .null, .null, .null, .int (nI 0), .int (nI 0), .int (nI 0), .int (nI 0)]) := (hfr _ (by omega)).trans ((am_nn (by omega)).trans am_us)
  have g2 : M2.1 (a + 1) = some (am_aq (zG Z) 6 20 (fun _ => none)) := (hfr _ (by omega)).trans ((am_nn (by omega)).trans ((am_un (by omega)).trans ((am_nn (by omega)).trans ((am_un (by omega)).trans am_ns))))
  have g3 : M2.1 (a + 2) = some (am_ai (zG Z) 20 (fun _ => 0)) := (hfr _ (by omega)).trans ((am_nn (by omega)).trans ((am_un (by omega)).trans am_ns))
  have gf : ∀ j, j < a → M2.1 j = M.1 j := fun j hj => (hfr _ (by omega)).trans ((am_nn (by omega)).trans ((am_un (by omega)).trans ((am_nn (by omega)).trans ((am_un (by omega)).trans (am_nn (by omega))))))
  refine aw_putF2 X pX0_24 hnm dX0_init_29 (g1) rfl rfl ?_
  refine aw_aload0 X dX0_init_32 ?_
  refine aw_new X cl_5 tyX4 tyX4_ok nwX4 cnX0_28 inX4 iiX4 dX0_init_33 (by rw [hR]; exact Nat.le_of_ble_eq_true rfl) (by rw [hR]; exact Nat.le_of_ble_eq_true rfl) (fun e4 heA4 hlt4 he4 => ?_)
  cases he4 (a + 6) (show _ = some (a + 6) from h2)
  refine aw_dup X dX0_init_36 rfl ?_
  refine aw_callI X (c_X4_init am_ns rfl) kX0_30 dX0_init_37 rfl rfl (by first | decide | exact Nat.le_of_ble_eq_true rfl) (by rw [hR]; exact ⟨by first | decide | exact Nat.le_of_ble_eq_true rfl | (dsimp only; omega), by first | decide | exact Nat.le_of_ble_eq_true rfl | (dsimp only; omega)⟩) (by rw [hR]; exact ⟨by first | decide | exact Nat.le_of_ble_eq_true rfl | (dsimp only; omega), by first | decide | exact Nat.le_of_ble_eq_true rfl | (dsimp only; omega)⟩) (fun v M3 hv => ?_)
  obtain ⟨rfl, hrow3, h3, hfr3⟩ := hv
  refine aw_putF3 X pX0_31 hnm dX0_init_40 ((hfr3 _ (by omega)).trans ((am_nn (by omega)).trans am_us)) rfl rfl ?_
  refine aw_aload0 X dX0_init_43 ?_
  refine aw_new X cl_5 tyX4 tyX4_ok nwX4 cnX0_28 inX4 iiX4 dX0_init_44 (by rw [hR]; exact Nat.le_of_ble_eq_true rfl) (by rw [hR]; exact Nat.le_of_ble_eq_true rfl) (fun e5 heA5 hlt5 he5 => ?_)
  cases he5 (a + 8) (show _ = some (a + 8) from h3)
  refine aw_dup X dX0_init_47 rfl ?_
  refine aw_callI X (c_X4_init am_ns rfl) kX0_30 dX0_init_48 rfl rfl (by first | decide | exact Nat.le_of_ble_eq_true rfl) (by rw [hR]; exact ⟨by first | decide | exact Nat.le_of_ble_eq_true rfl | (dsimp only; omega), by first | decide | exact Nat.le_of_ble_eq_true rfl | (dsimp only; omega)⟩) (by rw [hR]; exact ⟨by first | decide | exact Nat.le_of_ble_eq_true rfl | (dsimp only; omega), by first | decide | exact Nat.le_of_ble_eq_true rfl | (dsimp only; omega)⟩) (fun v M4 hv => ?_)
  obtain ⟨rfl, hrow4, h4, hfr4⟩ := hv
  refine aw_putF4 X pX0_35 hnm dX0_init_51 ((hfr4 _ (by omega)).trans ((am_nn (by omega)).trans am_us)) rfl rfl ?_
  refine aw_aload0 X dX0_init_54 ?_
  refine aw_iconst X dX0_init_55 (v := -1) (by decide) ?_
  refine aw_put6 X pX0_38 dX0_init_56 (am_us) rfl rfl ?_
  rw [am_uu]
  refine aw_aload0 X dX0_init_59 ?_
  refine aw_iconst X dX0_init_60 (v := -1) (by decide) ?_
  refine aw_put7 X pX0_42 dX0_init_61 (am_us) rfl rfl ?_
  rw [am_uu]
  refine aw_aload0 X dX0_init_64 ?_
  refine aw_iconst X dX0_init_65 (v := -1) (by decide) ?_
  refine aw_put8 X pX0_45 dX0_init_66 (am_us) rfl rfl ?_
  rw [am_uu]
  refine aw_iconst X dX0_init_69 (v := nI 0) (by decide) ?_
  refine aw_istore1 X dX0_init_70 (by rw [hn]; decide) rfl ?_
  have k2 : KE M2 M4 (fun j => j = a ∨ a + 6 ≤ j) := fun j x hx he => (hfr4 j (by omega)).trans ((am_nn (by omega)).trans ((am_un (by omega)).trans ((hfr3 j (by omega)).trans ((am_nn (by omega)).trans ((am_un (by omega)).trans hx)))))
  have k3 : KE M3 M4 (fun j => j = a ∨ a + 8 ≤ j) := fun j x hx he => (hfr4 j (by omega)).trans ((am_nn (by omega)).trans ((am_un (by omega)).trans hx))
  have kf : ∀ j, j < a → M4.1 j = M.1 j := fun j hj => (hfr4 j (by omega)).trans ((am_nn (by omega)).trans ((am_un (by omega)).trans ((hfr3 j (by omega)).trans ((am_nn (by omega)).trans ((am_un (by omega)).trans (gf j hj))))))
  have G1 := k2 _ _ g2 (by omega)
  have G2 := k2 _ _ g3 (by omega)
  have G3 := hsig.kr k2 (fun q a b => by omega)
  have G4 := hrow3.kr k3 (fun q a b => by omega)
  have ku : KE M4 (am_up M4 a (am_o 1 [.ref (a + 1), .ref (a + 1 + 1), .ref (a + 1 + 1 + 1), .ref (a + 6), .ref (a + 8), .int (nI 0), .int (-1), .int (-1), .int (-1)])) (fun j => j = a) := KE.up
  have G0 : (am_up M4 a (am_o 1 [.ref (a + 1), .ref (a + 1 + 1), .ref (a + 1 + 1 + 1), .ref (a + 6), .ref (a + 8), .int (nI 0), .int (-1), .int (-1), .int (-1)])).1 a = some (am_o 1 [.ref (a + 1), .ref (a + 2), .ref (a + 3), .ref (a + 6), .ref (a + 8), .int (nI 0), .int (-1), .int (-1), .int (-1)]) := am_us
  have GE : (am_up M4 a (am_o 1 [.ref (a + 1), .ref (a + 1 + 1), .ref (a + 1 + 1 + 1), .ref (a + 6), .ref (a + 8), .int (nI 0), .int (-1), .int (-1), .int (-1)])).2 = some (a + 10 + 9 * 0) := h4
  have kf5 : ∀ j, j < a → (am_up M4 a (am_o 1 [.ref (a + 1), .ref (a + 1 + 1), .ref (a + 1 + 1 + 1), .ref (a + 6), .ref (a + 8), .int (nI 0), .int (-1), .int (-1), .int (-1)])).1 j = M.1 j := fun j hj => (am_un (by omega)).trans (kf j hj)
  generalize am_up M4 a (am_o 1 [.ref (a + 1), .ref (a + 1 + 1), .ref (a + 1 + 1 + 1), .ref (a + 6), .ref (a + 8), .int (nI 0), .int (-1), .int (-1), .int (-1)]) = M5 at ku G0 GE kf5 ⊢
  refine aw_widen (k' := 9 + 9 * 0) (n' := 531 + 616 * 0) (by exact Nat.le_of_ble_eq_true rfl) (by exact Nat.le_of_ble_eq_true rfl) (aw_loopK (σ := Nat × AM) (fun i => i.1 ≤ 20 ∧ i.2.1 a = some (am_o 1 [.ref (a + 1), .ref (a + 2), .ref (a + 3), .ref (a + 6), .ref (a + 8), .int (nI 0), .int (-1), .int (-1), .int (-1)]) ∧ (∃ kp : Nat → Option Nat, i.2.1 (a + 1) = some (am_aq (zG Z) 6 20 kp) ∧ ∀ k, k < i.1 → kp k = some (a + 10 + 9 * k)) ∧ i.2.1 (a + 2) = some (am_ai (zG Z) 20 (fun _ => 0)) ∧ isSig (zG Z) i.2 (a + 3) (false, 1, 1, []) ∧ isRow (zG Z) i.2 (a + 6) [] ∧ isRow (zG Z) i.2 (a + 8) [] ∧ (∀ k, k < i.1 → isVer (zG Z) i.2 (a + 10 + 9 * k) none) ∧ i.2.2 = some (a + 10 + 9 * i.1) ∧ ∀ j, j < a → i.2.1 j = M.1 j) (fun i => 20 - i.1) (fun i => i.2) (fun i => 9 + 9 * i.1) (fun i => 531 + 616 * i.1) (fun i => [some (.ref a), some (.int (nI i.1))]) ?_ (0, M5) ⟨Nat.zero_le _, G0, ⟨_, ku _ _ G1 (by omega), fun k hk => absurd hk (Nat.not_lt_zero _)⟩, ku _ _ G2 (by omega), G3.kr ku (fun q a b => by omega), G4.kr ku (fun q a b => by omega), hrow4.kr ku (fun q a b => by omega), fun k hk => absurd hk (Nat.not_lt_zero _), GE, kf5⟩)
  rintro ⟨i, M6⟩ ⟨hi, i0, ⟨kp, i1, i1'⟩, i2, i3, i4, i5, i6, i7, i8⟩ ih
  dsimp only at hi i0 i1 i1' i2 i3 i4 i5 i6 i7 i8 ih ⊢
  refine aw_iload1 X dX0_init_71 ?_
  refine aw_aload0 X dX0_init_72 ?_
  refine aw_get X fX0_11 dX0_init_73 (i0) rfl ?_
  refine aw_alen X dX0_init_76 (i1) (t := 6) rfl rfl ?_
  refine aw_icmpge X dX0_init_77 (tgt := 99) (by decide) (fun c => ?_) (fun c => ?_)
  · have e : i = 20 := by have := (nI_leI (by omega) (by omega)).mp c; omega
    subst e
    refine aw_vreturn X hr dX0_init_99 (⟨rfl, ⟨Nat.zero_le _, fun i b D hi => absurd hi (Nat.not_lt_zero _), kp, _, _, i0, i1, i1', i2, i3, i4, i5, i6⟩, i7, i8⟩)
  · have hlt : i < 20 := by
      rcases Nat.lt_or_ge i 20 with q | q
      · exact q
      · exact absurd (nI_le q (by omega)) c
    refine aw_aload0 X dX0_init_80 ?_
    refine aw_get X fX0_11 dX0_init_81 (i0) rfl ?_
    refine aw_iload1 X dX0_init_84 ?_
    refine aw_new X cl_8 tyX7 tyX7_ok nwX7 cnX0_9 inX7 iiX7 dX0_init_85 (by rw [hR]; show 9 + 9 * i + 1 ≤ 189; omega) (by rw [hR]; show 531 + 616 * i + 4 ≤ 12851; omega) (fun e9 heA9 hlt9 he9 => ?_)
    cases he9 _ i7
    refine aw_dup X dX0_init_88 rfl ?_
    refine aw_callI X (c_X7_init am_ns rfl) kX0_48 dX0_init_89 rfl rfl (by first | decide | exact Nat.le_of_ble_eq_true rfl) (by rw [hR]; exact ⟨by first | decide | exact Nat.le_of_ble_eq_true rfl | (dsimp only; omega), by first | decide | exact Nat.le_of_ble_eq_true rfl | (dsimp only; omega)⟩) (by rw [hR]; exact ⟨by show 9 + 9 * i + 1 + 8 ≤ 189; omega, by show 531 + 616 * i + 4 + 612 ≤ 12851; omega⟩) (fun v M7 hv => ?_)
    obtain ⟨rfl, hver, h7, hfr7⟩ := hv
    have k7 : KE M6 M7 (fun j => a + 10 + 9 * i ≤ j) := fun j x hx he => (hfr7 j (by omega)).trans ((am_nn (by omega)).trans hx)
    obtain ⟨kd9, bb9, bs9, D9, hv9, -⟩ := id hver
    refine aw_aast X as_8_6 dX0_init_92 (k7 _ _ i1 (by omega)) hv9 rfl hlt (by decide) ?_
    refine aw_iinc1 X dX0_init_93 (by rw [hn]; decide) (am_inc _ 1) rfl ?_
    refine aw_goto X dX0_init_96 (tgt := 71) (by decide) ?_
    have k8 : KE M7 (am_up M7 (a + 1) (am_aq (zG Z) 6 20 (va_up kp i (some (a + 10 + 9 * i))))) (fun j => j = a + 1) := KE.up
    refine aw_widen (k' := 9 + 9 * (i + 1)) (n' := 531 + 616 * (i + 1)) (by show 9 + 9 * i + 1 + 8 ≤ _; omega) (by show 531 + 616 * i + 4 + 612 ≤ _; omega) (ih (i + 1, _) ⟨hlt, k8 _ _ (k7 _ _ i0 (by omega)) (by omega), ⟨_, am_us, fun k hk => ?_⟩, k8 _ _ (k7 _ _ i2 (by omega)) (by omega), (i3.kr k7 (fun q a b => by omega)).kr k8 (fun q a b => by omega), (i4.kr k7 (fun q a b => by omega)).kr k8 (fun q a b => by omega), (i5.kr k7 (fun q a b => by omega)).kr k8 (fun q a b => by omega), fun k hk => ?_, h7, fun j hj => (am_un (by omega)).trans ((hfr7 j (by omega)).trans ((am_nn (by omega)).trans (i8 j hj)))⟩ (by dsimp only; omega))
    · by_cases e : k = i
      · subst e
        exact va_up_self _ _ _
      · rw [va_up_ne _ _ e]
        exact i1' k (by dsimp only at hk; omega)
    · dsimp only at hk ⊢
      by_cases e : k = i
      · subst e
        exact hver.kr k8 (fun q a b => by omega)
      · exact ((i6 k (by omega)).kr k7 (fun q a b => by omega)).kr k8 (fun q a b => by omega)
