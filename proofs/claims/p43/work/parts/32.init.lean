/-! the constructors: cells at the heap's end -/
def ini (M M' : AM) (q n : Nat) : Prop := M'.2 = some (q + n) ∧ ∀ j, j < q → M'.1 j = M.1 j
theorem nwX4 : ∀ j, j < 2 → defaultValue (tyX4 j) = vp_V [.null, .int (nI 0)] j := fun j hj => by
  rcases j with _ | _ | j
  · rfl
  · rfl
  · omega
theorem nwX6 : ∀ j, j < 7 → defaultValue (tyX6 j) = vp_V [.null, .null, .int (nI 0), .int (nI 0), .int (nI 0), .int (nI 0), .int (nI 0)] j := fun j hj => by
  rcases j with _ | _ | _ | _ | _ | _ | _ | j
  all_goals first | rfl | omega
theorem nwX2 : ∀ j, j < 8 → defaultValue (tyX2 j) = vp_V [.null, .null, .null, .null, .int (nI 0), .int (nI 0), .int (nI 0), .int (nI 0)] j := fun j hj => by
  rcases j with _ | _ | _ | _ | _ | _ | _ | _ | j
  all_goals first | rfl | omega
theorem nwX7 : ∀ j, j < 4 → defaultValue (tyX7 j) = vp_V [.null, .null, .int (nI 0), .int (nI 0)] j := fun j hj => by
  rcases j with _ | _ | _ | _ | j
  all_goals first | rfl | omega
theorem nwX0 : ∀ j, j < 9 → defaultValue (tyX0 j) = vp_V [.null, .null, .null, .null, .null, .int (nI 0), .int (nI 0), .int (nI 0), .int (nI 0)] j := fun j hj => by
  rcases j with _ | _ | _ | _ | _ | _ | _ | _ | _ | j
  all_goals first | rfl | omega
theorem nwX3 : ∀ j, j < 2 → defaultValue (tyX3 j) = vp_V [.null, .int (nI 0)] j := fun j hj => by
  rcases j with _ | _ | j
  all_goals first | rfl | omega
theorem nwX5 : ∀ j, j < 5 → defaultValue (tyX5 j) = vp_V [.null, .null, .int (nI 0), .int (nI 0), .int (nI 0)] j := fun j hj => by
  rcases j with _ | _ | _ | _ | _ | j
  all_goals first | rfl | omega
theorem nwJx4a65c : ∀ j, j < 3 → defaultValue (tyJx4a65c j) = vp_V [.int (nI 0), .null, .int (nI 0)] j := fun j hj => by
  rcases j with _ | _ | _ | j
  all_goals first | rfl | omega
theorem c_X4_init {l : Launch} {G : AG} {M : AM} {q : Nat} (h : M.1 q = some (am_o 5 [.null, .int (nI 0)])) (hz : M.2 = some (q + 1)) : Cn l G yX4_init cX4_init 1 none { rX4_init with cells := 1, slots := 120 } M [.ref q] (fun v M' => v = none ∧ isRow G M' q [] ∧ ini M M' q 2) := by
  refine Cn.of (by decide) [some (.ref q)] rfl (Nat.le_of_ble_eq_true rfl) ?_
  intro Z hZ
  obtain ⟨rfl, hn, rfl, hR, X, hr, hnm⟩ := hZ
  refine aw_aload0 X dX4_init_0 ?_
  refine aw_obj X olX4_3 oi_i oi_c dX4_init_1 (by rw [hR]; exact Nat.le_of_ble_eq_true rfl) (by rw [hR]; exact Nat.le_of_ble_eq_true rfl) ?_
  refine aw_aload0 X dX4_init_4 ?_
  refine aw_bipush X dX4_init_5 (v := nI 120) (by decide) ?_
  refine aw_newI X 120 dX4_init_7 rfl (by decide) (by rw [hR]; exact Nat.le_refl 1) (by rw [hR]; exact Nat.le_refl 120) ac_int (fun e heA hlt he => ?_)
  cases he _ hz
  refine aw_putF0 X pX4_9 hnm dX4_init_9 ((am_nn (by omega)).trans h) rfl rfl ?_
  refine aw_widen (k' := 1) (n' := 120) (by omega) (by omega) ?_
  refine aw_vreturn X hr dX4_init_12 (⟨rfl, ⟨_, am_us, (am_un (by omega)).trans am_ns, Nat.zero_le _, fun k hk => absurd hk (Nat.not_lt_zero _)⟩, rfl, fun j hj => (am_un (by omega)).trans (am_nn (by omega))⟩)
theorem c_X6_init {l : Launch} {G : AG} {M : AM} {q : Nat} (h : M.1 q = some (am_o 7 [.null, .null, .int (nI 0), .int (nI 0), .int (nI 0), .int (nI 0), .int (nI 0)])) (hz : M.2 = some (q + 1)) : Cn l G yX6_init cX6_init 1 none { rX6_init with cells := 2, slots := 240 } M [.ref q] (fun v M' => v = none ∧ isSig G M' q (false, 1, 1, []) ∧ ini M M' q 3) := by
  refine Cn.of (by decide) [some (.ref q)] rfl (Nat.le_of_ble_eq_true rfl) ?_
  intro Z hZ
  obtain ⟨rfl, hn, rfl, hR, X, hr, hnm⟩ := hZ
  refine aw_aload0 X dX6_init_0 ?_
  refine aw_obj X olX6_3 oi_i oi_c dX6_init_1 (by rw [hR]; exact Nat.le_of_ble_eq_true rfl) (by rw [hR]; exact Nat.le_of_ble_eq_true rfl) ?_
  refine aw_aload0 X dX6_init_4 ?_
  refine aw_bipush X dX6_init_5 (v := nI 120) (by decide) ?_
  refine aw_newI X 120 dX6_init_7 rfl (by decide) (by rw [hR]; exact Nat.le_of_ble_eq_true rfl) (by rw [hR]; exact Nat.le_of_ble_eq_true rfl) ac_int (fun e heA hlt he => ?_)
  cases he _ hz
  refine aw_putF0 X pX6_9 hnm dX6_init_9 ((am_nn (by omega)).trans h) rfl rfl ?_
  refine aw_aload0 X dX6_init_12 ?_
  refine aw_bipush X dX6_init_13 (v := nI 120) (by decide) ?_
  refine aw_newL X 120 dX6_init_15 rfl (by decide) (by rw [hR]; exact Nat.le_of_ble_eq_true rfl) (by rw [hR]; exact Nat.le_of_ble_eq_true rfl) ac_long (fun e2 heA2 hlt2 he2 => ?_)
  cases he2 _ (show _ = some (q + 1 + 1) from rfl)
  refine aw_putF1 X pX6_15 hnm dX6_init_17 ((am_nn (by omega)).trans am_us) rfl rfl ?_
  refine aw_aload0 X dX6_init_20 ?_
  refine aw_iconst X dX6_init_21 (v := nI 1) (by decide) ?_
  refine aw_put3 X pX6_19 dX6_init_22 (am_us) rfl rfl ?_
  rw [am_uu]
  refine aw_aload0 X dX6_init_25 ?_
  refine aw_iconst X dX6_init_26 (v := nI 1) (by decide) ?_
  refine aw_put4 X pX6_23 dX6_init_27 (am_us) rfl rfl ?_
  rw [am_uu]
  refine aw_widen (k' := 2) (n' := 240) (by omega) (by omega) ?_
  refine aw_vreturn X hr dX6_init_30 (⟨rfl, ⟨⟨by decide, by decide, by decide, by decide, Nat.zero_le _⟩, _, _, am_us, (am_un (by omega)).trans ((am_nn (by omega)).trans ((am_un (by omega)).trans am_ns)), (am_un (by omega)).trans am_ns, fun k hk => absurd hk (Nat.not_lt_zero _)⟩, rfl, fun j hj => (am_un (by omega)).trans ((am_nn (by omega)).trans ((am_un (by omega)).trans (am_nn (by omega))))⟩)
theorem c_X2_init {l : Launch} {G : AG} {M : AM} {q : Nat} (h : M.1 q = some (am_o 3 [.null, .null, .null, .null, .int (nI 0), .int (nI 0), .int (nI 0), .int (nI 0)])) (hz : M.2 = some (q + 1)) : Cn l G yX2_init cX2_init 1 none { rX2_init with cells := 5, slots := 482 } M [.ref q] (fun v M' => v = none ∧ isDelta G M' q (false, [], 0, []) ∧ ini M M' q 6) := by
  refine Cn.of (by decide) [some (.ref q)] rfl (Nat.le_of_ble_eq_true rfl) ?_
  intro Z hZ
  obtain ⟨rfl, hn, rfl, hR, X, hr, hnm⟩ := hZ
  refine aw_aload0 X dX2_init_0 ?_
  refine aw_obj X olX2_3 oi_i oi_c dX2_init_1 (by rw [hR]; exact Nat.le_of_ble_eq_true rfl) (by rw [hR]; exact Nat.le_of_ble_eq_true rfl) ?_
  refine aw_aload0 X dX2_init_4 ?_
  refine aw_bipush X dX2_init_5 (v := nI 120) (by decide) ?_
  refine aw_newZ X 120 dX2_init_7 rfl (by decide) (by rw [hR]; exact Nat.le_of_ble_eq_true rfl) (by rw [hR]; exact Nat.le_of_ble_eq_true rfl) ac_boolean (fun e heA hlt he => ?_)
  cases he _ hz
  refine aw_putF0 X pX2_9 hnm dX2_init_9 ((am_nn (by omega)).trans h) rfl rfl ?_
  refine aw_aload0 X dX2_init_12 ?_
  refine aw_bipush X dX2_init_13 (v := nI 120) (by decide) ?_
  refine aw_newI X 120 dX2_init_15 rfl (by decide) (by rw [hR]; exact Nat.le_of_ble_eq_true rfl) (by rw [hR]; exact Nat.le_of_ble_eq_true rfl) ac_int (fun e2 heA2 hlt2 he2 => ?_)
  cases he2 _ (show _ = some (q + 1 + 1) from rfl)
  refine aw_putF1 X pX2_15 hnm dX2_init_17 ((am_nn (by omega)).trans am_us) rfl rfl ?_
  refine aw_aload0 X dX2_init_20 ?_
  refine aw_bipush X dX2_init_21 (v := nI 120) (by decide) ?_
  refine aw_newI X 120 dX2_init_23 rfl (by decide) (by rw [hR]; exact Nat.le_of_ble_eq_true rfl) (by rw [hR]; exact Nat.le_of_ble_eq_true rfl) ac_int (fun e3 heA3 hlt3 he3 => ?_)
  cases he3 _ (show _ = some (q + 1 + 1 + 1) from rfl)
  refine aw_putF2 X pX2_19 hnm dX2_init_25 ((am_nn (by omega)).trans am_us) rfl rfl ?_
  refine aw_aload0 X dX2_init_28 ?_
  refine aw_new X cl_5 tyX4 tyX4_ok nwX4 cnX2_22 inX4 iiX4 dX2_init_29 (by rw [hR]; exact Nat.le_of_ble_eq_true rfl) (by rw [hR]; exact Nat.le_of_ble_eq_true rfl) (fun e4 heA4 hlt4 he4 => ?_)
  cases he4 _ (show _ = some (q + 1 + 1 + 1 + 1) from rfl)
  refine aw_dup X dX2_init_32 rfl ?_
  refine aw_callI X (c_X4_init am_ns rfl) kX2_24 dX2_init_33 rfl rfl (by first | decide | exact Nat.le_of_ble_eq_true rfl) (by rw [hR]; exact ⟨by first | decide | exact Nat.le_of_ble_eq_true rfl | (dsimp only; omega), by first | decide | exact Nat.le_of_ble_eq_true rfl | (dsimp only; omega)⟩) (by rw [hR]; exact ⟨by first | decide | exact Nat.le_of_ble_eq_true rfl | (dsimp only; omega), by first | decide | exact Nat.le_of_ble_eq_true rfl | (dsimp only; omega)⟩) (fun v M2 hv => ?_)
  obtain ⟨rfl, hrow, h2, hfr⟩ := hv
  have g1 : M2.1 q = some (am_o 3 [.ref (q + 1), .ref (q + 1 + 1), .ref (q + 1 + 1 + 1), .null, .int (nI 0), .int (nI 0), .int (nI 0), .int (nI 0)]) := (hfr _ (by omega)).trans ((am_nn (by omega)).trans am_us)
  have g2 : M2.1 (q + 1) = some (am_az (zG Z) 120 (fun _ => 0)) := (hfr _ (by omega)).trans ((am_nn (by omega)).trans ((am_un (by omega)).trans ((am_nn (by omega)).trans ((am_un (by omega)).trans ((am_nn (by omega)).trans ((am_un (by omega)).trans am_ns))))))
  have g3 : M2.1 (q + 2) = some (am_ai (zG Z) 120 (fun _ => 0)) := (hfr _ (by omega)).trans ((am_nn (by omega)).trans ((am_un (by omega)).trans ((am_nn (by omega)).trans ((am_un (by omega)).trans am_ns))))
  have g4 : M2.1 (q + 3) = some (am_ai (zG Z) 120 (fun _ => 0)) := (hfr _ (by omega)).trans ((am_nn (by omega)).trans ((am_un (by omega)).trans am_ns))
  have gf : ∀ j, j < q → M2.1 j = M.1 j := fun j hj => (hfr _ (by omega)).trans ((am_nn (by omega)).trans ((am_un (by omega)).trans ((am_nn (by omega)).trans ((am_un (by omega)).trans ((am_nn (by omega)).trans ((am_un (by omega)).trans (am_nn (by omega))))))))
  refine aw_putF3 X pX2_25 hnm dX2_init_36 (g1) rfl rfl ?_
  refine aw_aload0 X dX2_init_39 ?_
  refine aw_iconst X dX2_init_40 (v := -1) (by decide) ?_
  refine aw_put7 X pX2_29 dX2_init_41 (am_us) rfl rfl ?_
  rw [am_uu]
  refine aw_widen (k' := 5) (n' := 482) (by exact Nat.le_of_ble_eq_true rfl) (by exact Nat.le_of_ble_eq_true rfl) ?_
  refine aw_vreturn X hr dX2_init_44 (⟨rfl, ⟨⟨Nat.zero_le _, rfl, Nat.zero_le _, fun i hi => (nomatch hi), fun i hi => (nomatch hi), Nat.zero_le _⟩, _, _, _, _, am_us, (am_un (by omega)).trans g2, (am_un (by omega)).trans g3, (am_un (by omega)).trans g4, hrow.out (a := q) (b := q + 1) (am_out.up (by omega) (by omega)) (by omega), Nat.zero_le _, fun k hk => absurd hk (Nat.not_lt_zero _)⟩, h2, fun j hj => (am_un (by omega)).trans (gf j hj)⟩)
theorem c_X7_init {l : Launch} {G : AG} {M : AM} {q : Nat} (h : M.1 q = some (am_o 8 [.null, .null, .int (nI 0), .int (nI 0)])) (hz : M.2 = some (q + 1)) : Cn l G yX7_init cX7_init 1 none { rX7_init with cells := 8, slots := 612 } M [.ref q] (fun v M' => v = none ∧ isVer G M' q none ∧ ini M M' q 9) := by
  refine Cn.of (by decide) [some (.ref q)] rfl (Nat.le_of_ble_eq_true rfl) ?_
  intro Z hZ
  obtain ⟨rfl, hn, rfl, hR, X, hr, hnm⟩ := hZ
  refine aw_aload0 X dX7_init_0 ?_
  refine aw_obj X olX7_3 oi_i oi_c dX7_init_1 (by rw [hR]; exact Nat.le_of_ble_eq_true rfl) (by rw [hR]; exact Nat.le_of_ble_eq_true rfl) ?_
  refine aw_aload0 X dX7_init_4 ?_
  refine aw_new X cl_5 tyX4 tyX4_ok nwX4 cnX7_9 inX4 iiX4 dX7_init_5 (by rw [hR]; exact Nat.le_of_ble_eq_true rfl) (by rw [hR]; exact Nat.le_of_ble_eq_true rfl) (fun e4 heA4 hlt4 he4 => ?_)
  cases he4 _ hz
  refine aw_dup X dX7_init_8 rfl ?_
  refine aw_callI X (c_X4_init am_ns rfl) kX7_11 dX7_init_9 rfl rfl (by first | decide | exact Nat.le_of_ble_eq_true rfl) (by rw [hR]; exact ⟨by first | decide | exact Nat.le_of_ble_eq_true rfl | (dsimp only; omega), by first | decide | exact Nat.le_of_ble_eq_true rfl | (dsimp only; omega)⟩) (by rw [hR]; exact ⟨by first | decide | exact Nat.le_of_ble_eq_true rfl | (dsimp only; omega), by first | decide | exact Nat.le_of_ble_eq_true rfl | (dsimp only; omega)⟩) (fun v M2 hv => ?_)
  obtain ⟨rfl, hrow, h2, hfr⟩ := hv
  have g1 := (hfr q (by omega)).trans ((am_nn (by omega)).trans h)
  refine aw_putF0 X pX7_12 hnm dX7_init_12 (g1) rfl rfl ?_
  refine aw_aload0 X dX7_init_15 ?_
  refine aw_new X cl_3 tyX2 tyX2_ok nwX2 cnX7_18 inX2 iiX2 dX7_init_16 (by rw [hR]; exact Nat.le_of_ble_eq_true rfl) (by rw [hR]; exact Nat.le_of_ble_eq_true rfl) (fun e5 heA5 hlt5 he5 => ?_)
  cases he5 (q + 1 + 2) (show _ = some (q + 1 + 2) from h2)
  refine aw_dup X dX7_init_19 rfl ?_
  refine aw_callI X (c_X2_init am_ns rfl) kX7_20 dX7_init_20 rfl rfl (by first | decide | exact Nat.le_of_ble_eq_true rfl) (by rw [hR]; exact ⟨by first | decide | exact Nat.le_of_ble_eq_true rfl | (dsimp only; omega), by first | decide | exact Nat.le_of_ble_eq_true rfl | (dsimp only; omega)⟩) (by rw [hR]; exact ⟨by first | decide | exact Nat.le_of_ble_eq_true rfl | (dsimp only; omega), by first | decide | exact Nat.le_of_ble_eq_true rfl | (dsimp only; omega)⟩) (fun v M3 hv => ?_)
  obtain ⟨rfl, hdel, h3, hfr3⟩ := hv
  have g2 : M3.1 q = some (am_o 8 [.ref (q + 1), .null, .int (nI 0), .int (nI 0)]) := (hfr3 q (by omega)).trans ((am_nn (by omega)).trans am_us)
  refine aw_putF1 X pX7_21 hnm dX7_init_23 (g2) rfl rfl ?_
  refine aw_aload0 X dX7_init_26 ?_
  refine aw_iconst X dX7_init_27 (v := nI 2) (by decide) ?_
  refine aw_put2 X pX7_25 dX7_init_28 (am_us) rfl rfl ?_
  rw [am_uu]
  refine aw_aload0 X dX7_init_31 ?_
  refine aw_iconst X dX7_init_32 (v := -1) (by decide) ?_
  refine aw_put3 X pX7_29 dX7_init_33 (am_us) rfl rfl ?_
  rw [am_uu]
  have hrow2 : isRow (zG Z) M3 (q + 1) [] := by
    obtain ⟨f, r1, r2, r3⟩ := hrow
    exact ⟨f, (hfr3 _ (by omega)).trans ((am_nn (by omega)).trans ((am_un (by omega)).trans r1)), (hfr3 _ (by omega)).trans ((am_nn (by omega)).trans ((am_un (by omega)).trans r2)), r3⟩
  refine aw_widen (k' := 8) (n' := 612) (by exact Nat.le_of_ble_eq_true rfl) (by exact Nat.le_of_ble_eq_true rfl) ?_
  refine aw_vreturn X hr dX7_init_36 (⟨rfl, ⟨_, _, _, _, am_us, hrow2.out (a := q) (b := q + 1) (am_out.up (by omega) (by omega)) (by omega), hdel.out (a := q) (b := q + 1) (am_out.up (by omega) (by omega)) (by omega), rfl⟩, h3, fun j hj => (am_un (by omega)).trans ((hfr3 j (by omega)).trans ((am_nn (by omega)).trans ((am_un (by omega)).trans ((hfr j (by omega)).trans (am_nn (by omega))))))⟩)
theorem c_X3_init {l : Launch} {G : AG} {M : AM} {q : Nat} (h : M.1 q = some (am_o 4 [.null, .int (nI 0)])) (hz : M.2 = some (q + 1)) : Cn l G yX3_init cX3_init 1 none { rX3_init with cells := 1, slots := 3 } M [.ref q] (fun v M' => v = none ∧ isPp G M' q (0, G.2.2.2.1, 0, []) ∧ ini M M' q 2) := by
  refine Cn.of (by decide) [some (.ref q)] rfl (Nat.le_of_ble_eq_true rfl) ?_
  intro Z hZ
  obtain ⟨rfl, hn, rfl, hR, X, hr, hnm⟩ := hZ
  refine aw_aload0 X dX3_init_0 ?_
  refine aw_obj X olX3_1 oi_i oi_c dX3_init_1 (by rw [hR]; exact Nat.le_of_ble_eq_true rfl) (by rw [hR]; exact Nat.le_of_ble_eq_true rfl) ?_
  refine aw_aload0 X dX3_init_4 ?_
  refine aw_new X cl_0 tyJx4a65c tyJx4a65c_ok nwJx4a65c cnX3_7 inJx4a65c iiJx4a65c dX3_init_5 (by rw [hR]; exact Nat.le_of_ble_eq_true rfl) (by rw [hR]; exact Nat.le_of_ble_eq_true rfl) (fun e4 heA4 hlt4 he4 => ?_)
  cases he4 _ hz
  refine aw_dup X dX3_init_8 rfl ?_
  refine aw_callI X (c_ls_init am_ns) kX3_9 dX3_init_9 rfl rfl (by first | decide | exact Nat.le_of_ble_eq_true rfl) (by rw [hR]; exact ⟨by first | decide | exact Nat.le_of_ble_eq_true rfl | (dsimp only; omega), by first | decide | exact Nat.le_of_ble_eq_true rfl | (dsimp only; omega)⟩) (by rw [hR]; exact ⟨by first | decide | exact Nat.le_of_ble_eq_true rfl | (dsimp only; omega), by first | decide | exact Nat.le_of_ble_eq_true rfl | (dsimp only; omega)⟩) (fun v M2 hv => ?_)
  obtain ⟨rfl, rfl⟩ := hv
  refine aw_putF0 X pX3_10 hnm dX3_init_12 ((am_un (by omega)).trans ((am_nn (by omega)).trans h)) rfl rfl ?_
  refine aw_widen (k' := 1) (n' := 3) (by exact Nat.le_of_ble_eq_true rfl) (by exact Nat.le_of_ble_eq_true rfl) ?_
  refine aw_vreturn X hr dX3_init_15 (⟨rfl, ⟨am_us, _, (am_un (by omega)).trans am_us, Nat.zero_le _, Or.inl ⟨rfl, rfl⟩⟩, rfl, fun j hj => (am_un (by omega)).trans ((am_un (by omega)).trans (am_nn (by omega)))⟩)
