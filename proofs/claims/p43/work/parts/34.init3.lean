abbrev sh0 (d : Nat) : SH := ((4, 16, 8), (d, 0, []), fun _ => (0, d, 0, []), fun _ => [], fun _ => 0)
theorem c_X5_init {l : Launch} {G : AG} {M : AM} {h : Nat} (h0 : M.1 h = some (am_o 6 [.null, .null, .int (nI 0), .int (nI 0), .int (nI 0)])) (hz : M.2 = some (h + 1)) : Cn l G yX5_init cX5_init 2 none { rX5_init with cells := 26, slots := 75 } M [.ref h] (fun v M' => v = none ∧ isShM G M' h (sh0 G.2.2.2.1) ∧ ini M M' h 27) := by
  refine Cn.of (by decide) [some (.ref h), none] rfl (Nat.le_of_ble_eq_true rfl) ?_
  intro Z hZ
  obtain ⟨rfl, hn, rfl, hR, X, hr, hnm⟩ := hZ
  refine aw_aload0 X dX5_init_0 ?_
  refine aw_obj X olX5_3 oi_i oi_c dX5_init_1 (by rw [hR]; exact Nat.le_of_ble_eq_true rfl) (by rw [hR]; exact Nat.le_of_ble_eq_true rfl) ?_
  refine aw_aload0 X dX5_init_4 ?_
  refine aw_bipush X dX5_init_5 (v := nI 12) (by decide) ?_
  refine aw_newq X at_7 cnX5_9 ao_Paper dX5_init_7 (N := 12) rfl (by decide) (by rw [hR]; exact Nat.le_of_ble_eq_true rfl) (by rw [hR]; exact Nat.le_of_ble_eq_true rfl) (fun e heA hlt he => ?_)
  cases he _ hz
  refine aw_putF0 X pX5_11 hnm dX5_init_10 ((am_nn (by omega)).trans h0) rfl rfl ?_
  refine aw_aload0 X dX5_init_13 ?_
  refine aw_new X cl_0 tyJx4a65c tyJx4a65c_ok nwJx4a65c cnX5_17 inJx4a65c iiJx4a65c dX5_init_14 (by rw [hR]; exact Nat.le_of_ble_eq_true rfl) (by rw [hR]; exact Nat.le_of_ble_eq_true rfl) (fun e4 heA4 hlt4 he4 => ?_)
  cases he4 (h + 2) (show _ = some (h + 2) from rfl)
  refine aw_dup X dX5_init_17 rfl ?_
  refine aw_callI X (c_ls_init am_ns) kX5_19 dX5_init_18 rfl rfl (by first | decide | exact Nat.le_of_ble_eq_true rfl) (by rw [hR]; exact ⟨by first | decide | exact Nat.le_of_ble_eq_true rfl | (dsimp only; omega), by first | decide | exact Nat.le_of_ble_eq_true rfl | (dsimp only; omega)⟩) (by rw [hR]; exact ⟨by first | decide | exact Nat.le_of_ble_eq_true rfl | (dsimp only; omega), by first | decide | exact Nat.le_of_ble_eq_true rfl | (dsimp only; omega)⟩) (fun v M2 hv => ?_)
  obtain ⟨rfl, rfl⟩ := hv
  refine aw_putF1 X pX5_20 hnm dX5_init_21 ((am_un (by omega)).trans ((am_nn (by omega)).trans am_us)) rfl rfl ?_
  refine aw_aload0 X dX5_init_24 ?_
  refine aw_iconst X dX5_init_25 (v := nI 4) (by decide) ?_
  refine aw_put2 X pX5_24 dX5_init_26 (am_us) rfl rfl ?_
  rw [am_uu]
  refine aw_aload0 X dX5_init_29 ?_
  refine aw_bipush X dX5_init_30 (v := nI 16) (by decide) ?_
  refine aw_put3 X pX5_28 dX5_init_32 (am_us) rfl rfl ?_
  rw [am_uu]
  refine aw_aload0 X dX5_init_35 ?_
  refine aw_bipush X dX5_init_36 (v := nI 8) (by decide) ?_
  refine aw_put4 X pX5_31 dX5_init_38 (am_us) rfl rfl ?_
  rw [am_uu]
  refine aw_iconst X dX5_init_41 (v := nI 0) (by decide) ?_
  refine aw_istore1 X dX5_init_42 (by rw [hn]; decide) rfl ?_
  have G0 : (am_up (am_up (am_nw (am_up (am_nw M (h + 1) (am_aq (zG Z) 7 12 fun _ => none)) h (am_o 6 [.ref (h + 1), .null, .int (nI 0), .int (nI 0), .int (nI 0)])) (h + 2) (.inr (0, [.int (nI 0), .null, .int (nI 0)]))) (h + 2) (am_o 0 [.int (nI 0), .ref (zG Z).2.2.2.1, .int (nI 0)])) h (am_o 6 [.ref (h + 1), .ref (h + 2), .int (nI 4), .int (nI 16), .int (nI 8)])).1 h = some (am_o 6 [.ref (h + 1), .ref (h + 2), .int (nI 4), .int (nI 16), .int (nI 8)]) := am_us
  have G1 : (am_up (am_up (am_nw (am_up (am_nw M (h + 1) (am_aq (zG Z) 7 12 fun _ => none)) h (am_o 6 [.ref (h + 1), .null, .int (nI 0), .int (nI 0), .int (nI 0)])) (h + 2) (.inr (0, [.int (nI 0), .null, .int (nI 0)]))) (h + 2) (am_o 0 [.int (nI 0), .ref (zG Z).2.2.2.1, .int (nI 0)])) h (am_o 6 [.ref (h + 1), .ref (h + 2), .int (nI 4), .int (nI 16), .int (nI 8)])).1 (h + 1) = some (am_aq (zG Z) 7 12 fun _ => none) := (am_un (by omega)).trans ((am_un (by omega)).trans ((am_nn (by omega)).trans ((am_un (by omega)).trans am_ns)))
  have G2 : (am_up (am_up (am_nw (am_up (am_nw M (h + 1) (am_aq (zG Z) 7 12 fun _ => none)) h (am_o 6 [.ref (h + 1), .null, .int (nI 0), .int (nI 0), .int (nI 0)])) (h + 2) (.inr (0, [.int (nI 0), .null, .int (nI 0)]))) (h + 2) (am_o 0 [.int (nI 0), .ref (zG Z).2.2.2.1, .int (nI 0)])) h (am_o 6 [.ref (h + 1), .ref (h + 2), .int (nI 4), .int (nI 16), .int (nI 8)])).1 (h + 2) = some (am_o 0 [.int (nI 0), .ref (zG Z).2.2.2.1, .int (nI 0)]) := (am_un (by omega)).trans am_us
  have G3 : (am_up (am_up (am_nw (am_up (am_nw M (h + 1) (am_aq (zG Z) 7 12 fun _ => none)) h (am_o 6 [.ref (h + 1), .null, .int (nI 0), .int (nI 0), .int (nI 0)])) (h + 2) (.inr (0, [.int (nI 0), .null, .int (nI 0)]))) (h + 2) (am_o 0 [.int (nI 0), .ref (zG Z).2.2.2.1, .int (nI 0)])) h (am_o 6 [.ref (h + 1), .ref (h + 2), .int (nI 4), .int (nI 16), .int (nI 8)])).2 = some (h + 3 + 2 * 0) := rfl
  have G4 : ∀ j, j < h → (am_up (am_up (am_nw (am_up (am_nw M (h + 1) (am_aq (zG Z) 7 12 fun _ => none)) h (am_o 6 [.ref (h + 1), .null, .int (nI 0), .int (nI 0), .int (nI 0)])) (h + 2) (.inr (0, [.int (nI 0), .null, .int (nI 0)]))) (h + 2) (am_o 0 [.int (nI 0), .ref (zG Z).2.2.2.1, .int (nI 0)])) h (am_o 6 [.ref (h + 1), .ref (h + 2), .int (nI 4), .int (nI 16), .int (nI 8)])).1 j = M.1 j := fun j hj => (am_un (by omega)).trans ((am_un (by omega)).trans ((am_nn (by omega)).trans ((am_un (by omega)).trans (am_nn (by omega)))))
  refine aw_widen (k' := 2 + 2 * 0) (n' := 15 + 5 * 0) (by exact Nat.le_of_ble_eq_true rfl) (by exact Nat.le_of_ble_eq_true rfl) ?_
  generalize (am_up (am_up (am_nw (am_up (am_nw M (h + 1) (am_aq (zG Z) 7 12 fun _ => none)) h (am_o 6 [.ref (h + 1), .null, .int (nI 0), .int (nI 0), .int (nI 0)])) (h + 2) (.inr (0, [.int (nI 0), .null, .int (nI 0)]))) (h + 2) (am_o 0 [.int (nI 0), .ref (zG Z).2.2.2.1, .int (nI 0)])) h (am_o 6 [.ref (h + 1), .ref (h + 2), .int (nI 4), .int (nI 16), .int (nI 8)])) = M5 at G0 G1 G2 G3 G4
  refine aw_loopK (σ := Nat × AM) (fun i => i.1 ≤ 12 ∧ i.2.1 h = some (am_o 6 [.ref (h + 1), .ref (h + 2), .int (nI 4), .int (nI 16), .int (nI 8)]) ∧ (∃ kp : Nat → Option Nat, i.2.1 (h + 1) = some (am_aq (zG Z) 7 12 kp) ∧ ∀ k, k < i.1 → kp k = some (h + 3 + 2 * k)) ∧ i.2.1 (h + 2) = some (am_o 0 [.int (nI 0), .ref (zG Z).2.2.2.1, .int (nI 0)]) ∧ (∀ k, k < i.1 → isPp (zG Z) i.2 (h + 3 + 2 * k) (0, (zG Z).2.2.2.1, 0, [])) ∧ i.2.2 = some (h + 3 + 2 * i.1) ∧ ∀ j, j < h → i.2.1 j = M.1 j) (fun i => 12 - i.1) (fun i => i.2) (fun i => 2 + 2 * i.1) (fun i => 15 + 5 * i.1) (fun i => [some (.ref h), some (.int (nI i.1))]) ?_ (0, M5) ⟨Nat.zero_le _, G0, ⟨_, G1, fun k hk => absurd hk (Nat.not_lt_zero _)⟩, G2, fun k hk => absurd hk (Nat.not_lt_zero _), G3, G4⟩
  rintro ⟨i, M6⟩ ⟨hi, i0, ⟨kp, i1, i1'⟩, i2, i3, i7, i8⟩ ih
  dsimp only at hi i0 i1 i1' i2 i3 i7 i8 ih ⊢
  refine aw_iload1 X dX5_init_43 ?_
  refine aw_aload0 X dX5_init_44 ?_
  refine aw_get X fX5_11 dX5_init_45 (i0) rfl ?_
  refine aw_alen X dX5_init_48 (i1) (t := 7) rfl rfl ?_
  refine aw_icmpge X dX5_init_49 (tgt := 71) (by decide) (fun c => ?_) (fun c => ?_)
  · have e : i = 12 := by have := (nI_leI (by omega) (by omega)).mp c; omega
    subst e
    refine aw_vreturn X hr dX5_init_71 (⟨rfl, ⟨i0, ⟨kp, i1, i1'⟩, ⟨_, i2, Nat.zero_le _, Or.inl ⟨rfl, rfl⟩⟩, i3, fun c hc => (nomatch hc)⟩, i7, i8⟩)
  · have hlt : i < 12 := by
      rcases Nat.lt_or_ge i 12 with q | q
      · exact q
      · exact absurd (nI_le q (by omega)) c
    refine aw_aload0 X dX5_init_52 ?_
    refine aw_get X fX5_11 dX5_init_53 (i0) rfl ?_
    refine aw_iload1 X dX5_init_56 ?_
    refine aw_new X cl_4 tyX3 tyX3_ok nwX3 cnX5_9 inX3 iiX3 dX5_init_57 (by rw [hR]; show 2 + 2 * i + 1 ≤ 26; omega) (by rw [hR]; show 15 + 5 * i + 2 ≤ 75; omega) (fun e9 heA9 hlt9 he9 => ?_)
    cases he9 _ i7
    refine aw_dup X dX5_init_60 rfl ?_
    refine aw_callI X (c_X3_init am_ns rfl) kX5_34 dX5_init_61 rfl rfl (by first | decide | exact Nat.le_of_ble_eq_true rfl) (by rw [hR]; exact ⟨by first | decide | exact Nat.le_of_ble_eq_true rfl | (dsimp only; omega), by first | decide | exact Nat.le_of_ble_eq_true rfl | (dsimp only; omega)⟩) (by rw [hR]; exact ⟨by show 2 + 2 * i + 1 + 1 ≤ 26; omega, by show 15 + 5 * i + 2 + 3 ≤ 75; omega⟩) (fun v M7 hv => ?_)
    obtain ⟨rfl, hver, h7, hfr7⟩ := hv
    have k7 : KE M6 M7 (fun j => h + 3 + 2 * i ≤ j) := fun j x hx he => (hfr7 j (by omega)).trans ((am_nn (by omega)).trans hx)
    refine aw_aast X as_4_7 dX5_init_64 (k7 _ _ i1 (by omega)) hver.1 rfl hlt (by decide) ?_
    refine aw_iinc1 X dX5_init_65 (by rw [hn]; decide) (am_inc _ 1) rfl ?_
    refine aw_goto X dX5_init_68 (tgt := 43) (by decide) ?_
    have k8 : KE M7 (am_up M7 (h + 1) (am_aq (zG Z) 7 12 (va_up kp i (some (h + 3 + 2 * i))))) (fun j => j = h + 1) := KE.up
    refine aw_widen (k' := 2 + 2 * (i + 1)) (n' := 15 + 5 * (i + 1)) (by show 2 + 2 * i + 1 + 1 ≤ _; omega) (by show 15 + 5 * i + 2 + 3 ≤ _; omega) (ih (i + 1, _) ⟨hlt, k8 _ _ (k7 _ _ i0 (by omega)) (by omega), ⟨_, am_us, fun k hk => ?_⟩, k8 _ _ (k7 _ _ i2 (by omega)) (by omega), fun k hk => ?_, h7, fun j hj => (am_un (by omega)).trans ((hfr7 j (by omega)).trans ((am_nn (by omega)).trans (i8 j hj)))⟩ (by dsimp only; omega))
    · by_cases e : k = i
      · subst e
        exact va_up_self _ _ _
      · rw [va_up_ne _ _ e]
        exact i1' k (by dsimp only at hk; omega)
    · dsimp only at hk ⊢
      by_cases e : k = i
      · subst e
        exact hver.kr k8 (fun q a b => by omega) rfl
      · exact ((i3 k (by omega)).kr k7 (fun q a b => by omega) rfl).kr k8 (fun q a b => by omega) rfl
theorem sh0_A {D h d : Nat} (hD : h + 28 ≤ D) : shA D h (sh0 d) :=
  ⟨hD, Nat.zero_le _, fun h0 => absurd h0 (Nat.lt_irrefl 0), fun i hi => ⟨Nat.zero_le _, Nat.zero_le _, fun h0 => absurd h0 (Nat.lt_irrefl 0)⟩, List.nodup_nil, Nat.zero_le _, fun c hc => (nomatch hc), (by decide : 0 < 4), (by decide : 4 ≤ 16), (by decide : 4 ≤ 16), (by decide : 16 ≤ 40), (by decide : 0 < 8), (by decide : 8 ≤ 64)⟩
theorem sh0_L {d : Nat} : shL (sh0 d) (fun _ => none) :=
  ⟨fun i hi => rfl, fun i hi => rfl, fun i hi c hc => (nomatch hc), fun c hc => (nomatch hc), fun c hc => (nomatch hc), fun i hi l hl => (nomatch hl)⟩
/-! the synchroniser: files, signatures, deltas, versions, cuts, papers -/
abbrev TS : Type := (Nat × (Nat → List Int32)) × (Nat → SG) × (Nat → DL) × (Nat × (Nat → VK)) × (Nat × Nat × Nat) × PS
def isRS (G : AG) (M : AM) (x D : Nat) (τ : TS) : Prop :=
  τ.1.1 ≤ 6 ∧ x + 272 ≤ D ∧
  M.1 x = some (am_o 9 [.ref (x + 1), .ref (x + 2), .ref (x + 3), .ref (x + 4), .ref (x + 6), .ref (x + 196), .int (nI τ.1.1)]) ∧
  (∃ f, M.1 (x + 1) = some (am_aq G 3 6 f) ∧ ∀ i, i < 6 → f i = some (x + 223 + 2 * i)) ∧
  (∃ f, M.1 (x + 2) = some (am_aq G 4 4 f) ∧ ∀ i, i < 4 → f i = some (x + 235 + 3 * i)) ∧
  (∃ f, M.1 (x + 3) = some (am_aq G 5 4 f) ∧ ∀ i, i < 4 → f i = some (x + 247 + 6 * i)) ∧
  (∃ ap, isRow G M (x + 4) ap) ∧
  (∃ w aw y rb ch, isAr G M (x + 6) τ.2.2.2.1.1 τ.2.2.2.1.2 w aw y rb ch) ∧
  (∃ s, isShM G M (x + 196) s ∧ shA D (x + 196) s ∧ shL s τ.2.2.2.2.2 ∧ s.1 = τ.2.2.2.2.1) ∧
  (∀ i, i < 6 → isRow G M (x + 223 + 2 * i) (τ.1.2 i)) ∧
  (∀ i, i < 4 → isSig G M (x + 235 + 3 * i) (τ.2.1 i)) ∧
  (∀ i, i < 4 → isDelta G M (x + 247 + 6 * i) (τ.2.2.1 i))
abbrev ts0 : TS := ((0, fun _ => []), fun _ => (false, 1, 1, []), fun _ => (false, [], 0, []), (0, fun _ => none), (4, 16, 8), fun _ => none)
