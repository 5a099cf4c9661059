theorem isShM.kr {G : AG} {M M' : AM} {E : Nat → Prop} {h D : Nat} {s : SH} (hs : isShM G M h s) (ha : shA D h s) (hk : KE M M' E) (hd : ∀ q, h ≤ q → q < h + 27 → ¬ E q) (hD : ∀ q, D ≤ q → ¬ E q) : isShM G M' h s := by
  obtain ⟨h1, ⟨f, h2, hf⟩, h3, h4, h5⟩ := hs
  obtain ⟨a1, -, a3, a4, -, -, a7, -⟩ := ha
  exact ⟨hk _ _ h1 (hd _ (by omega) (by omega)), ⟨f, hk _ _ h2 (hd _ (by omega) (by omega)), hf⟩, h3.ke hk (hd _ (by omega) (by omega)) (fun h0 => hD _ (a3 h0)), fun i hi => (h4 i hi).ke hk (hd _ (by omega) (by omega)) (hd _ (by omega) (by omega)) (fun h0 => hD _ ((a4 i hi).2.2 h0).1), fun c hc => (h5 c hc).ke hk (hD _ (a7 c hc).1) (hD _ (by have := (a7 c hc).1; omega))⟩
theorem isShM.kr0 {G : AG} {M M' : AM} {E : Nat → Prop} {h d : Nat} (hs : isShM G M h (sh0 d)) (hk : KE M M' E) (hd : ∀ q, h ≤ q → q < h + 27 → ¬ E q) : isShM G M' h (sh0 d) := by
  obtain ⟨h1, ⟨f, h2, hf⟩, h3, h4, h5⟩ := hs
  exact ⟨hk _ _ h1 (hd _ (by omega) (by omega)), ⟨f, hk _ _ h2 (hd _ (by omega) (by omega)), hf⟩, h3.ke hk (hd _ (by omega) (by omega)) (fun h0 => absurd h0 (Nat.lt_irrefl 0)), fun i hi => (h4 i hi).ke hk (hd _ (by omega) (by omega)) (hd _ (by omega) (by omega)) (fun h0 => absurd h0 (Nat.lt_irrefl 0)), fun c hc => (nomatch hc)⟩
/-- what stands of the synchroniser before its files, signatures and deltas are made -/
def rsB (G : AG) (M0 M : AM) (x : Nat) : Prop := M.1 x = some (am_o 9 [.ref (x + 1), .ref (x + 2), .ref (x + 3), .ref (x + 4), .ref (x + 6), .ref (x + 196), .int (nI 0)]) ∧ isRow G M (x + 4) [] ∧ isAr G M (x + 6) 0 (fun _ => none) (-1) (-1) (-1) [] (fun _ => 0) ∧ isShM G M (x + 196) (sh0 G.2.2.2.1) ∧ KE M0 M (fun j => x ≤ j)
theorem rsB.kr {G : AG} {M0 M M' : AM} {x : Nat} {E : Nat → Prop} (h : rsB G M0 M x) (hk : KE M M' E) (hE : ∀ j, E j → j = x + 1 ∨ j = x + 2 ∨ j = x + 3 ∨ x + 223 ≤ j) : rsB G M0 M' x := by
  obtain ⟨h1, h2, h3, h4, h5⟩ := h
  exact ⟨hk _ _ h1 (fun e => by have := hE _ e; omega), h2.kr hk (fun q a b e => by have := hE _ e; omega), h3.kr hk (fun q a b e => by have := hE _ e; omega), h4.kr0 hk (fun q a b e => by have := hE _ e; omega), h5.tr (hk.mono (fun q e => by have := hE _ e; omega))⟩
theorem nwX8 : ∀ j, j < 7 → defaultValue (tyX8 j) = vp_V [.null, .null, .null, .null, .null, .null, .int (nI 0)] j := fun j hj => by
  rcases j with _ | _ | _ | _ | _ | _ | _ | j
  all_goals first | rfl | omega
theorem c_X8_init {l : Launch} {G : AG} {M : AM} {x : Nat} (h0 : M.1 x = some (am_o 9 [.null, .null, .null, .null, .null, .null, .int (nI 0)])) (hz : M.2 = some (x + 1)) : Cn l G yX8_init cX8_init 2 none { rX8_init with cells := 270, slots := 16756 } M [.ref x] (fun v M' => v = none ∧ (∀ D, x + 272 ≤ D → isRS G M' x D ts0) ∧ M'.2 = some (x + 271) ∧ KE M M' (fun j => x ≤ j)) := by
  refine Cn.of (by decide) [some (.ref x), none] rfl (Nat.le_of_ble_eq_true rfl) ?_
  intro Z hZ
  obtain ⟨rfl, hn, rfl, hR, X, hr, hnm⟩ := hZ
  refine aw_aload0 X dX8_init_0 ?_
  refine aw_obj X olX8_1 oi_i oi_c dX8_init_1 (by rw [hR]; exact Nat.le_of_ble_eq_true rfl) (by rw [hR]; exact Nat.le_of_ble_eq_true rfl) ?_
  refine aw_aload0 X dX8_init_4 ?_
  refine aw_bipush X dX8_init_5 (v := nI 6) (by decide) ?_
  refine aw_newq X at_3 cnX8_9 ao_Row dX8_init_7 (N := 6) rfl (by decide) (by rw [hR]; exact Nat.le_of_ble_eq_true rfl) (by rw [hR]; exact Nat.le_of_ble_eq_true rfl) (fun e heA hlt he => ?_)
  cases he _ hz
  refine aw_putF0 X pX8_11 hnm dX8_init_10 ((am_nn (by omega)).trans h0) rfl rfl ?_
  refine aw_aload0 X dX8_init_13 ?_
  refine aw_iconst X dX8_init_14 (v := nI 4) (by decide) ?_
  refine aw_newq X at_4 cnX8_15 ao_Signature dX8_init_15 (N := 4) rfl (by decide) (by rw [hR]; exact Nat.le_of_ble_eq_true rfl) (by rw [hR]; exact Nat.le_of_ble_eq_true rfl) (fun e2 heA2 hlt2 he2 => ?_)
  cases he2 (x + 2) (show _ = some (x + 2) from rfl)
  refine aw_putF1 X pX8_17 hnm dX8_init_18 ((am_nn (by omega)).trans am_us) rfl rfl ?_
  refine aw_aload0 X dX8_init_21 ?_
  refine aw_iconst X dX8_init_22 (v := nI 4) (by decide) ?_
  refine aw_newq X at_5 cnX8_21 ao_Delta dX8_init_23 (N := 4) rfl (by decide) (by rw [hR]; exact Nat.le_of_ble_eq_true rfl) (by rw [hR]; exact Nat.le_of_ble_eq_true rfl) (fun e3 heA3 hlt3 he3 => ?_)
  cases he3 (x + 3) (show _ = some (x + 3) from rfl)
  refine aw_putF2 X pX8_23 hnm dX8_init_26 ((am_nn (by omega)).trans am_us) rfl rfl ?_
  refine aw_aload0 X dX8_init_29 ?_
  refine aw_new X cl_5 tyX4 tyX4_ok nwX4 cnX8_9 inX4 iiX4 dX8_init_30 (by rw [hR]; exact Nat.le_of_ble_eq_true rfl) (by rw [hR]; exact Nat.le_of_ble_eq_true rfl) (fun e4 heA4 hlt4 he4 => ?_)
  cases he4 (x + 4) (show _ = some (x + 4) from rfl)
  refine aw_dup X dX8_init_33 rfl ?_
  refine aw_callI X (c_X4_init am_ns rfl) kX8_27 dX8_init_34 rfl rfl (by first | decide | exact Nat.le_of_ble_eq_true rfl) (by rw [hR]; exact ⟨by first | decide | exact Nat.le_of_ble_eq_true rfl | (dsimp only; omega), by first | decide | exact Nat.le_of_ble_eq_true rfl | (dsimp only; omega)⟩) (by rw [hR]; exact ⟨by first | decide | exact Nat.le_of_ble_eq_true rfl | (dsimp only; omega), by first | decide | exact Nat.le_of_ble_eq_true rfl | (dsimp only; omega)⟩) (fun v M2 hv => ?_)
  obtain ⟨rfl, hrow, h2, hfr2⟩ := hv
  have g0 : M2.1 x = some (am_o 9 [.ref (x + 1), .ref (x + 2), .ref (x + 3), .null, .null, .null, .int (nI 0)]) := (hfr2 _ (by omega)).trans ((am_nn (by omega)).trans am_us)
  have g1 : M2.1 (x + 1) = some (am_aq (zG Z) 3 6 (fun _ => none)) := (hfr2 _ (by omega)).trans ((am_nn (by omega)).trans ((am_un (by omega)).trans ((am_nn (by omega)).trans ((am_un (by omega)).trans ((am_nn (by omega)).trans ((am_un (by omega)).trans am_ns))))))
  have g2 : M2.1 (x + 2) = some (am_aq (zG Z) 4 4 (fun _ => none)) := (hfr2 _ (by omega)).trans ((am_nn (by omega)).trans ((am_un (by omega)).trans ((am_nn (by omega)).trans ((am_un (by omega)).trans am_ns))))
  have g3 : M2.1 (x + 3) = some (am_aq (zG Z) 5 4 (fun _ => none)) := (hfr2 _ (by omega)).trans ((am_nn (by omega)).trans ((am_un (by omega)).trans am_ns))
  have gf : KE M M2 (fun j => x ≤ j) := fun j y hj he => (hfr2 _ (by omega)).trans ((am_nn (by omega)).trans ((am_un (by omega)).trans ((am_nn (by omega)).trans ((am_un (by omega)).trans ((am_nn (by omega)).trans ((am_un (by omega)).trans ((am_nn (by omega)).trans hj)))))))
  refine aw_putF3 X pX8_28 hnm dX8_init_37 (g0) rfl rfl ?_
  refine aw_aload0 X dX8_init_40 ?_
  refine aw_new X cl_1 tyX0 tyX0_ok nwX0 cnX8_32 inX0 iiX0 dX8_init_41 (by rw [hR]; exact Nat.le_of_ble_eq_true rfl) (by rw [hR]; exact Nat.le_of_ble_eq_true rfl) (fun e5 heA5 hlt5 he5 => ?_)
  cases he5 (x + 6) (show _ = some (x + 6) from h2)
  refine aw_dup X dX8_init_44 rfl ?_
  refine aw_callI X (c_X0_init am_ns rfl) kX8_34 dX8_init_45 rfl rfl (by first | decide | exact Nat.le_of_ble_eq_true rfl) (by rw [hR]; exact ⟨by first | decide | exact Nat.le_of_ble_eq_true rfl | (dsimp only; omega), by first | decide | exact Nat.le_of_ble_eq_true rfl | (dsimp only; omega)⟩) (by rw [hR]; exact ⟨by first | decide | exact Nat.le_of_ble_eq_true rfl | (dsimp only; omega), by first | decide | exact Nat.le_of_ble_eq_true rfl | (dsimp only; omega)⟩) (fun v M3 hv => ?_)
  obtain ⟨rfl, har, h3, hfr3⟩ := hv
  refine aw_putF4 X pX8_35 hnm dX8_init_48 ((hfr3 _ (by omega)).trans ((am_nn (by omega)).trans am_us)) rfl rfl ?_
  refine aw_aload0 X dX8_init_51 ?_
  refine aw_new X cl_6 tyX5 tyX5_ok nwX5 cnX8_39 inX5 iiX5 dX8_init_52 (by rw [hR]; exact Nat.le_of_ble_eq_true rfl) (by rw [hR]; exact Nat.le_of_ble_eq_true rfl) (fun e6 heA6 hlt6 he6 => ?_)
  cases he6 (x + 196) (show _ = some (x + 196) from h3)
  refine aw_dup X dX8_init_55 rfl ?_
  refine aw_callI X (c_X5_init am_ns rfl) kX8_41 dX8_init_56 rfl rfl (by first | decide | exact Nat.le_of_ble_eq_true rfl) (by rw [hR]; exact ⟨by first | decide | exact Nat.le_of_ble_eq_true rfl | (dsimp only; omega), by first | decide | exact Nat.le_of_ble_eq_true rfl | (dsimp only; omega)⟩) (by rw [hR]; exact ⟨by first | decide | exact Nat.le_of_ble_eq_true rfl | (dsimp only; omega), by first | decide | exact Nat.le_of_ble_eq_true rfl | (dsimp only; omega)⟩) (fun v M4 hv => ?_)
  obtain ⟨rfl, hsh, h4, hfr4⟩ := hv
  refine aw_putF5 X pX8_42 hnm dX8_init_59 ((hfr4 _ (by omega)).trans ((am_nn (by omega)).trans am_us)) rfl rfl ?_
  refine aw_iconst X dX8_init_62 (v := nI 0) (by decide) ?_
  refine aw_istore1 X dX8_init_63 (by rw [hn]; decide) rfl ?_
  have k3 : KE M3 M4 (fun j => j = x ∨ x + 196 ≤ j) := fun j y hj he => (hfr4 j (by omega)).trans ((am_nn (by omega)).trans ((am_un (by omega)).trans hj))
  have k2 : KE M2 M4 (fun j => j = x ∨ x + 6 ≤ j) := fun j y hj he => (hfr4 j (by omega)).trans ((am_nn (by omega)).trans ((am_un (by omega)).trans ((hfr3 j (by omega)).trans ((am_nn (by omega)).trans ((am_un (by omega)).trans hj)))))
  have ku : KE M4 (am_up M4 x (am_o 9 [.ref (x + 1), .ref (x + 2), .ref (x + 3), .ref (x + 4), .ref (x + 6), .ref (x + 196), .int (nI 0)])) (fun j => j = x) := KE.up
  have B : rsB (zG Z) M (am_up M4 x (am_o 9 [.ref (x + 1), .ref (x + 2), .ref (x + 3), .ref (x + 4), .ref (x + 6), .ref (x + 196), .int (nI 0)])) x := ⟨am_us, (hrow.kr k2 (fun q a b => by omega)).kr ku (fun q a b => by omega), (har.kr k3 (fun q a b => by omega)).kr ku (fun q a b => by omega), hsh.kr0 ku (fun q a b => by omega), (gf.tr (k2.mono (fun q e => by omega))).tr (ku.mono (fun q e => by omega))⟩
  have G1 := ku _ _ (k2 _ _ g1 (by omega)) (by omega)
  have G2 := ku _ _ (k2 _ _ g2 (by omega)) (by omega)
  have G3 := ku _ _ (k2 _ _ g3 (by omega)) (by omega)
  have GE : (am_up M4 x (am_o 9 [.ref (x + 1), .ref (x + 2), .ref (x + 3), .ref (x + 4), .ref (x + 6), .ref (x + 196), .int (nI 0)])).2 = some (x + 223 + 2 * 0) := h4
  refine aw_widen (k' := 222 + 2 * 0) (n' := 13076 + 122 * 0) (by exact Nat.le_of_ble_eq_true rfl) (by exact Nat.le_of_ble_eq_true rfl) ?_
  generalize am_up M4 x (am_o 9 [.ref (x + 1), .ref (x + 2), .ref (x + 3), .ref (x + 4), .ref (x + 6), .ref (x + 196), .int (nI 0)]) = M5 at B G1 G2 G3 GE ⊢
  refine aw_loopK (σ := Nat × AM) (fun i => i.1 ≤ 6 ∧ rsB (zG Z) M i.2 x ∧ (∃ kp : Nat → Option Nat, i.2.1 (x + 1) = some (am_aq (zG Z) 3 6 kp) ∧ ∀ k, k < i.1 → kp k = some (x + 223 + 2 * k)) ∧ i.2.1 (x + 2) = some (am_aq (zG Z) 4 4 (fun _ => none)) ∧ i.2.1 (x + 3) = some (am_aq (zG Z) 5 4 (fun _ => none)) ∧ (∀ k, k < i.1 → isRow (zG Z) i.2 (x + 223 + 2 * k) []) ∧ i.2.2 = some (x + 223 + 2 * i.1)) (fun i => 6 - i.1) (fun i => i.2) (fun i => 222 + 2 * i.1) (fun i => 13076 + 122 * i.1) (fun i => [some (.ref x), some (.int (nI i.1))]) ?_ (0, M5) ⟨Nat.zero_le _, B, ⟨_, G1, fun k hk => absurd hk (Nat.not_lt_zero _)⟩, G2, G3, fun k hk => absurd hk (Nat.not_lt_zero _), GE⟩
  clear B G1 G2 G3 GE
  rintro ⟨i, M6⟩ ⟨hi, B, ⟨kp, i1, i1'⟩, j1, j2, i6, i7⟩ ih
  dsimp only at hi B i1 i1' j1 j2 i6 i7 ih ⊢
  refine aw_iload1 X dX8_init_64 ?_
  refine aw_aload0 X dX8_init_65 ?_
  refine aw_get X fX8_11 dX8_init_66 (B.1) rfl ?_
  refine aw_alen X dX8_init_69 (i1) (t := 3) rfl rfl ?_
  refine aw_icmpge X dX8_init_70 (tgt := 92) (by decide) (fun c => ?_) (fun c => ?_)
  · have e : i = 6 := by have := (nI_leI (by omega) (by omega)).mp c; omega
    subst e
    refine aw_iconst X dX8_init_92 (v := nI 0) (by decide) ?_
    refine aw_istore1 X dX8_init_93 (by rw [hn]; decide) rfl ?_
    have G1 : ∃ f : Nat → Option Nat, M6.1 (x + 1) = some (am_aq (zG Z) 3 6 f) ∧ ∀ k, k < 6 → f k = some (x + 223 + 2 * k) := ⟨kp, i1, i1'⟩
    have G2 := j1
    have G3 := j2
    have R := i6
    have GE := i7
    refine aw_widen (k' := 234 + 3 * 0) (n' := 13808 + 247 * 0) (by exact Nat.le_of_ble_eq_true rfl) (by exact Nat.le_of_ble_eq_true rfl) ?_
    clear ih j1 j2 i6 i7
    refine aw_loopK (σ := Nat × AM) (fun i => i.1 ≤ 4 ∧ rsB (zG Z) M i.2 x ∧ (∃ kp : Nat → Option Nat, i.2.1 (x + 2) = some (am_aq (zG Z) 4 4 kp) ∧ ∀ k, k < i.1 → kp k = some (x + 235 + 3 * k)) ∧ (∃ f : Nat → Option Nat, i.2.1 (x + 1) = some (am_aq (zG Z) 3 6 f) ∧ ∀ k, k < 6 → f k = some (x + 223 + 2 * k)) ∧ i.2.1 (x + 3) = some (am_aq (zG Z) 5 4 (fun _ => none)) ∧ (∀ k, k < 6 → isRow (zG Z) i.2 (x + 223 + 2 * k) []) ∧ (∀ k, k < i.1 → isSig (zG Z) i.2 (x + 235 + 3 * k) (false, 1, 1, [])) ∧ i.2.2 = some (x + 235 + 3 * i.1)) (fun i => 4 - i.1) (fun i => i.2) (fun i => 234 + 3 * i.1) (fun i => 13808 + 247 * i.1) (fun i => [some (.ref x), some (.int (nI i.1))]) ?_ (0, M6) ⟨Nat.zero_le _, B, ⟨_, G2, fun k hk => absurd hk (Nat.not_lt_zero _)⟩, G1, G3, R, fun k hk => absurd hk (Nat.not_lt_zero _), GE⟩
    clear B G1 G2 G3 GE
    rintro ⟨i, M6⟩ ⟨hi, B, ⟨kp, i1, i1'⟩, ⟨j1f, j1, j1h⟩, j2, j3, i6, i7⟩ ih
    dsimp only at hi B i1 i1' j1f j1 j1h j2 j3 i6 i7 ih ⊢
    refine aw_iload1 X dX8_init_94 ?_
    refine aw_aload0 X dX8_init_95 ?_
    refine aw_get X fX8_17 dX8_init_96 (B.1) rfl ?_
    refine aw_alen X dX8_init_99 (i1) (t := 4) rfl rfl ?_
    refine aw_icmpge X dX8_init_100 (tgt := 122) (by decide) (fun c => ?_) (fun c => ?_)
    · have e : i = 4 := by have := (nI_leI (by omega) (by omega)).mp c; omega
      subst e
      refine aw_iconst X dX8_init_122 (v := nI 0) (by decide) ?_
      refine aw_istore1 X dX8_init_123 (by rw [hn]; decide) rfl ?_
      have G1 : ∃ f : Nat → Option Nat, M6.1 (x + 1) = some (am_aq (zG Z) 3 6 f) ∧ ∀ k, k < 6 → f k = some (x + 223 + 2 * k) := ⟨j1f, j1, j1h⟩
      have G2 : ∃ f : Nat → Option Nat, M6.1 (x + 2) = some (am_aq (zG Z) 4 4 f) ∧ ∀ k, k < 4 → f k = some (x + 235 + 3 * k) := ⟨kp, i1, i1'⟩
      have G3 := j2
      have R := j3
      have S := i6
      have GE := i7
      refine aw_widen (k' := 246 + 6 * 0) (n' := 14796 + 490 * 0) (by exact Nat.le_of_ble_eq_true rfl) (by exact Nat.le_of_ble_eq_true rfl) ?_
      clear ih j1 j2 j3 i6 i7
      refine aw_loopK (σ := Nat × AM) (fun i => i.1 ≤ 4 ∧ rsB (zG Z) M i.2 x ∧ (∃ kp : Nat → Option Nat, i.2.1 (x + 3) = some (am_aq (zG Z) 5 4 kp) ∧ ∀ k, k < i.1 → kp k = some (x + 247 + 6 * k)) ∧ (∃ f : Nat → Option Nat, i.2.1 (x + 1) = some (am_aq (zG Z) 3 6 f) ∧ ∀ k, k < 6 → f k = some (x + 223 + 2 * k)) ∧ (∃ f : Nat → Option Nat, i.2.1 (x + 2) = some (am_aq (zG Z) 4 4 f) ∧ ∀ k, k < 4 → f k = some (x + 235 + 3 * k)) ∧ (∀ k, k < 6 → isRow (zG Z) i.2 (x + 223 + 2 * k) []) ∧ (∀ k, k < 4 → isSig (zG Z) i.2 (x + 235 + 3 * k) (false, 1, 1, [])) ∧ (∀ k, k < i.1 → isDelta (zG Z) i.2 (x + 247 + 6 * k) (false, [], 0, [])) ∧ i.2.2 = some (x + 247 + 6 * i.1)) (fun i => 4 - i.1) (fun i => i.2) (fun i => 246 + 6 * i.1) (fun i => 14796 + 490 * i.1) (fun i => [some (.ref x), some (.int (nI i.1))]) ?_ (0, M6) ⟨Nat.zero_le _, B, ⟨_, G3, fun k hk => absurd hk (Nat.not_lt_zero _)⟩, G1, G2, R, S, fun k hk => absurd hk (Nat.not_lt_zero _), GE⟩
      clear B G1 G2 G3 GE
      rintro ⟨i, M6⟩ ⟨hi, B, ⟨kp, i1, i1'⟩, ⟨j1f, j1, j1h⟩, ⟨j2f, j2, j2h⟩, j3, j4, i6, i7⟩ ih
      dsimp only at hi B i1 i1' j1f j1 j1h j2f j2 j2h j3 j4 i6 i7 ih ⊢
      refine aw_iload1 X dX8_init_124 ?_
      refine aw_aload0 X dX8_init_125 ?_
      refine aw_get X fX8_23 dX8_init_126 (B.1) rfl ?_
      refine aw_alen X dX8_init_129 (i1) (t := 5) rfl rfl ?_
      refine aw_icmpge X dX8_init_130 (tgt := 152) (by decide) (fun c => ?_) (fun c => ?_)
      · have e : i = 4 := by have := (nI_leI (by omega) (by omega)).mp c; omega
        subst e
        refine aw_vreturn X hr dX8_init_152 (⟨rfl, fun D hD => ⟨Nat.zero_le _, hD, B.1, ⟨j1f, j1, j1h⟩, ⟨j2f, j2, j2h⟩, ⟨kp, i1, i1'⟩, ⟨_, B.2.1⟩, ⟨_, _, _, _, _, B.2.2.1⟩, ⟨_, B.2.2.2.1, sh0_A (by omega), sh0_L, rfl⟩, j3, j4, i6⟩, i7, B.2.2.2.2⟩)
      · have hlt : i < 4 := by
          rcases Nat.lt_or_ge i 4 with q | q
          · exact q
          · exact absurd (nI_le q (by omega)) c
        refine aw_aload0 X dX8_init_133 ?_
        refine aw_get X fX8_23 dX8_init_134 (B.1) rfl ?_
        refine aw_iload1 X dX8_init_137 ?_
        refine aw_new X cl_3 tyX2 tyX2_ok nwX2 cnX8_21 inX2 iiX2 dX8_init_138 (by rw [hR]; show 246 + 6 * i + 1 ≤ 270; omega) (by rw [hR]; show 14796 + 490 * i + 8 ≤ 16756; omega) (fun e9 heA9 hlt9 he9 => ?_)
        cases he9 _ i7
        refine aw_dup X dX8_init_141 rfl ?_
        refine aw_callI X (c_X2_init am_ns rfl) kX8_47 dX8_init_142 rfl rfl (by first | decide | exact Nat.le_of_ble_eq_true rfl) (by rw [hR]; exact ⟨by first | decide | exact Nat.le_of_ble_eq_true rfl | (dsimp only; omega), by first | decide | exact Nat.le_of_ble_eq_true rfl | (dsimp only; omega)⟩) (by rw [hR]; exact ⟨by show 246 + 6 * i + 1 + 5 ≤ 270; omega, by show 14796 + 490 * i + 8 + 482 ≤ 16756; omega⟩) (fun v M7 hv => ?_)
        obtain ⟨rfl, hver, h7, hfr7⟩ := hv
        have k7 : KE M6 M7 (fun j => x + 247 + 6 * i ≤ j) := fun j x hx he => (hfr7 j (by omega)).trans ((am_nn (by omega)).trans hx)
        obtain ⟨-, bb9, fc9, fa9, fz9, hobj, -⟩ := id hver
        refine aw_aast X as_3_5 dX8_init_145 (k7 _ _ i1 (by omega)) hobj rfl hlt (by decide) ?_
        refine aw_iinc1 X dX8_init_146 (by rw [hn]; decide) (am_inc _ 1) rfl ?_
        refine aw_goto X dX8_init_149 (tgt := 124) (by decide) ?_
        have k8 : KE M7 (am_up M7 (x + 3) (am_aq (zG Z) 5 4 (va_up kp i (some (x + 247 + 6 * i))))) (fun j => j = x + 3) := KE.up
        refine aw_widen (k' := 246 + 6 * (i + 1)) (n' := 14796 + 490 * (i + 1)) (by show 246 + 6 * i + 1 + 5 ≤ _; omega) (by show 14796 + 490 * i + 8 + 482 ≤ _; omega) (ih (i + 1, _) ⟨hlt, (B.kr k7 (fun j e => by omega)).kr k8 (fun j e => by omega), ⟨_, am_us, fun k hk => ?_⟩, ⟨j1f, k8 _ _ (k7 _ _ j1 (by omega)) (by omega), j1h⟩, ⟨j2f, k8 _ _ (k7 _ _ j2 (by omega)) (by omega), j2h⟩, fun k hk => ((j3 k hk).kr k7 (fun q a b => by omega)).kr k8 (fun q a b => by omega), fun k hk => ((j4 k hk).kr k7 (fun q a b => by omega)).kr k8 (fun q a b => by omega), fun k hk => ?_, h7⟩ (by dsimp only; omega))
        · by_cases e : k = i
          · subst e
            exact va_up_self _ _ _
          · rw [va_up_ne _ _ e]
            exact i1' k (by dsimp only at hk; omega)
        · dsimp only at hk ⊢
          by_cases e : k = i
          · subst e
            exact hver.kr k8 (fun q a b => by omega)
          · exact ((i6 k (by omega)).kr k7 (fun q a b => by omega)).kr k8 (fun q a b => by omega)

    · have hlt : i < 4 := by
        rcases Nat.lt_or_ge i 4 with q | q
        · exact q
        · exact absurd (nI_le q (by omega)) c
      refine aw_aload0 X dX8_init_103 ?_
      refine aw_get X fX8_17 dX8_init_104 (B.1) rfl ?_
      refine aw_iload1 X dX8_init_107 ?_
      refine aw_new X cl_7 tyX6 tyX6_ok nwX6 cnX8_15 inX6 iiX6 dX8_init_108 (by rw [hR]; show 234 + 3 * i + 1 ≤ 270; omega) (by rw [hR]; show 13808 + 247 * i + 7 ≤ 16756; omega) (fun e9 heA9 hlt9 he9 => ?_)
      cases he9 _ i7
      refine aw_dup X dX8_init_111 rfl ?_
      refine aw_callI X (c_X6_init am_ns rfl) kX8_46 dX8_init_112 rfl rfl (by first | decide | exact Nat.le_of_ble_eq_true rfl) (by rw [hR]; exact ⟨by first | decide | exact Nat.le_of_ble_eq_true rfl | (dsimp only; omega), by first | decide | exact Nat.le_of_ble_eq_true rfl | (dsimp only; omega)⟩) (by rw [hR]; exact ⟨by show 234 + 3 * i + 1 + 2 ≤ 270; omega, by show 13808 + 247 * i + 7 + 240 ≤ 16756; omega⟩) (fun v M7 hv => ?_)
      obtain ⟨rfl, hver, h7, hfr7⟩ := hv
      have k7 : KE M6 M7 (fun j => x + 235 + 3 * i ≤ j) := fun j x hx he => (hfr7 j (by omega)).trans ((am_nn (by omega)).trans hx)
      obtain ⟨-, fw9, fs9, hobj, -⟩ := id hver
      refine aw_aast X as_7_4 dX8_init_115 (k7 _ _ i1 (by omega)) hobj rfl hlt (by decide) ?_
      refine aw_iinc1 X dX8_init_116 (by rw [hn]; decide) (am_inc _ 1) rfl ?_
      refine aw_goto X dX8_init_119 (tgt := 94) (by decide) ?_
      have k8 : KE M7 (am_up M7 (x + 2) (am_aq (zG Z) 4 4 (va_up kp i (some (x + 235 + 3 * i))))) (fun j => j = x + 2) := KE.up
      refine aw_widen (k' := 234 + 3 * (i + 1)) (n' := 13808 + 247 * (i + 1)) (by show 234 + 3 * i + 1 + 2 ≤ _; omega) (by show 13808 + 247 * i + 7 + 240 ≤ _; omega) (ih (i + 1, _) ⟨hlt, (B.kr k7 (fun j e => by omega)).kr k8 (fun j e => by omega), ⟨_, am_us, fun k hk => ?_⟩, ⟨j1f, k8 _ _ (k7 _ _ j1 (by omega)) (by omega), j1h⟩, k8 _ _ (k7 _ _ j2 (by omega)) (by omega), fun k hk => ((j3 k hk).kr k7 (fun q a b => by omega)).kr k8 (fun q a b => by omega), fun k hk => ?_, h7⟩ (by dsimp only; omega))
      · by_cases e : k = i
        · subst e
          exact va_up_self _ _ _
        · rw [va_up_ne _ _ e]
          exact i1' k (by dsimp only at hk; omega)
      · dsimp only at hk ⊢
        by_cases e : k = i
        · subst e
          exact hver.kr k8 (fun q a b => by omega)
        · exact ((i6 k (by omega)).kr k7 (fun q a b => by omega)).kr k8 (fun q a b => by omega)

  · have hlt : i < 6 := by
      rcases Nat.lt_or_ge i 6 with q | q
      · exact q
      · exact absurd (nI_le q (by omega)) c
    refine aw_aload0 X dX8_init_73 ?_
    refine aw_get X fX8_11 dX8_init_74 (B.1) rfl ?_
    refine aw_iload1 X dX8_init_77 ?_
    refine aw_new X cl_5 tyX4 tyX4_ok nwX4 cnX8_9 inX4 iiX4 dX8_init_78 (by rw [hR]; show 222 + 2 * i + 1 ≤ 270; omega) (by rw [hR]; show 13076 + 122 * i + 2 ≤ 16756; omega) (fun e9 heA9 hlt9 he9 => ?_)
    cases he9 _ i7
    refine aw_dup X dX8_init_81 rfl ?_
    refine aw_callI X (c_X4_init am_ns rfl) kX8_27 dX8_init_82 rfl rfl (by first | decide | exact Nat.le_of_ble_eq_true rfl) (by rw [hR]; exact ⟨by first | decide | exact Nat.le_of_ble_eq_true rfl | (dsimp only; omega), by first | decide | exact Nat.le_of_ble_eq_true rfl | (dsimp only; omega)⟩) (by rw [hR]; exact ⟨by show 222 + 2 * i + 1 + 1 ≤ 270; omega, by show 13076 + 122 * i + 2 + 120 ≤ 16756; omega⟩) (fun v M7 hv => ?_)
    obtain ⟨rfl, hver, h7, hfr7⟩ := hv
    have k7 : KE M6 M7 (fun j => x + 223 + 2 * i ≤ j) := fun j x hx he => (hfr7 j (by omega)).trans ((am_nn (by omega)).trans hx)
    obtain ⟨f9, hobj, -⟩ := id hver
    refine aw_aast X as_5_3 dX8_init_85 (k7 _ _ i1 (by omega)) hobj rfl hlt (by decide) ?_
    refine aw_iinc1 X dX8_init_86 (by rw [hn]; decide) (am_inc _ 1) rfl ?_
    refine aw_goto X dX8_init_89 (tgt := 64) (by decide) ?_
    have k8 : KE M7 (am_up M7 (x + 1) (am_aq (zG Z) 3 6 (va_up kp i (some (x + 223 + 2 * i))))) (fun j => j = x + 1) := KE.up
    refine aw_widen (k' := 222 + 2 * (i + 1)) (n' := 13076 + 122 * (i + 1)) (by show 222 + 2 * i + 1 + 1 ≤ _; omega) (by show 13076 + 122 * i + 2 + 120 ≤ _; omega) (ih (i + 1, _) ⟨hlt, (B.kr k7 (fun j e => by omega)).kr k8 (fun j e => by omega), ⟨_, am_us, fun k hk => ?_⟩, k8 _ _ (k7 _ _ j1 (by omega)) (by omega), k8 _ _ (k7 _ _ j2 (by omega)) (by omega), fun k hk => ?_, h7⟩ (by dsimp only; omega))
    · by_cases e : k = i
      · subst e
        exact va_up_self _ _ _
      · rw [va_up_ne _ _ e]
        exact i1' k (by dsimp only at hk; omega)
    · dsimp only at hk ⊢
      by_cases e : k = i
      · subst e
        exact hver.kr k8 (fun q a b => by omega)
      · exact ((i6 k (by omega)).kr k7 (fun q a b => by omega)).kr k8 (fun q a b => by omega)
