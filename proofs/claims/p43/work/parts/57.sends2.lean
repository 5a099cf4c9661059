theorem tbL_nw {G : AG} {x : Nat} {M M' : AM} {F : Nat → Nat → Int32} (h : tbL G x M M F) (hk : KE M M' (fun _ => False)) : tbL G x M' M' F := tbM.ke h hk (fun q e => e.elim)
theorem sd_cmp0 {Z : AZ} {M : AM} {x j o : Nat} {τ : TS} {F : Nat → Nat → Int32} {kd y w : Int32} (C : sdC Z M x τ F) (hj : j < 5) (ho : o < 5) (hw : ¬ ((inI w 4 ∧ j < 4) ∧ o < 4)) : AW Z (am_Q Z (lP (zG Z) x) (fun _ _ => False) 5 40) M 0 0 345 (sdL x kd y w j (nI 0) [some (.int (nI o)), none, none, none, none]) [] := by
  obtain ⟨X, hn, hR, hr, hN, hfl, hs, hT, hL⟩ := C
  refine aw_iload14 X dL_sends_345 ?_
  refine aw_ifne X dL_sends_347 (tgt := 355) (by decide) (fun c9 => by first | exact absurd ((rfl : nI 0 = 0)) c9 | exact absurd c9 ((rfl : nI 0 = 0))) (fun _ => ?_)
  refine aw_bipush X dL_sends_350 (v := -101) (by decide) ?_
  refine aw_goto X dL_sends_352 (tgt := 369) (by decide) ?_
  refine aw_istore16 X dL_sends_369 (by rw [hn]; decide) rfl ?_
  refine aw_iload16 X dL_sends_371 ?_
  refine aw_ifne X dL_sends_373 (tgt := 415) (by decide) (fun _ => ?_) (fun c9 => by first | exact absurd ((by decide : ¬ (-101 : Int32) = 0)) c9 | exact absurd c9 ((by decide : ¬ (-101 : Int32) = 0)))
  refine aw_aload0 X dL_sends_415 ?_
  refine aw_iconst X dL_sends_416 (v := nI 0) (by decide) ?_
  refine aw_iload12 X dL_sends_417 ?_
  refine aw_iload15 X dL_sends_419 ?_
  refine aw_iload13 X dL_sends_421 ?_
  refine aw_callSH X hN (w_compare hfl hs) kL_161 dL_sends_423 rfl rfl (by first | decide | exact Nat.le_of_ble_eq_true rfl) (by rw [hR]; exact ⟨by first | decide | exact Nat.le_of_ble_eq_true rfl | (dsimp only; omega), by first | decide | exact Nat.le_of_ble_eq_true rfl | (dsimp only; omega)⟩) (by rw [hR]; exact ⟨by first | decide | exact Nat.le_of_ble_eq_true rfl | (dsimp only; omega), by first | decide | exact Nat.le_of_ble_eq_true rfl | (dsimp only; omega)⟩) (fun v M1 hv => ?_)
  obtain ⟨rfl, hs1, hk1⟩ := hv
  have e0 : spCompare τ w (nI o) (nI j) = (1, 0, τ) := by
    rw [spCompare, if_neg]
    intro q
    obtain ⟨q1, q2, q3⟩ := q
    rw [isF, hL.1] at q3
    exact hw ⟨⟨q1, (nI_ltI (by omega) (by omega)).mp q3.2⟩, (nI_ltI (by omega) (by omega)).mp q2.2⟩
  rw [e0] at hs1 ⊢
  refine aw_iload16 X dL_sends_426 ?_
  refine aw_icmpne X dL_sends_428 (tgt := 435) (by decide) (fun c9 => by first | exact absurd ((rfl : wr (1, 0, τ) = -101)) c9 | exact absurd c9 ((rfl : wr (1, 0, τ) = -101))) (fun _ => ?_)
  refine aw_iconst X dL_sends_431 (v := nI 1) (by decide) ?_
  refine aw_goto X dL_sends_432 (tgt := 436) (by decide) ?_
  refine aw_widen (k' := 5) (n' := 40) (Nat.le_of_ble_eq_true rfl) (Nat.le_of_ble_eq_true rfl) ?_
  refine aw_ireturn X (ty := .boolean) hr (by first | rfl | decide | assumption) dL_sends_436 (⟨rfl, τ, lS.of hT hL hs1 hk1 eD_ok⟩)
theorem sd_cmp1 {Z : AZ} {M : AM} {x i j o : Nat} {τ : TS} {F : Nat → Nat → Int32} {kd y : Int32} (C : sdC Z M x τ F) (hi : i < 4) (hj : j < 4) (ho : o < 4) : AW Z (am_Q Z (lP (zG Z) x) (fun _ _ => False) 5 40) M 0 0 345 (sdL x kd y (nI i) j (nI 1) [some (.int (nI o)), none, none, none, none]) [] := by
  obtain ⟨X, hn, hR, hr, hN, hfl, hs, hT, hL⟩ := C
  obtain ⟨l1, l2, l3, l4⟩ := hL.2.1 j hj
  obtain ⟨s1, s2, s3, s4⟩ := hL.2.2.1 o ho
  have hF4 : isF τ (nI j) := by rw [isF, hL.1]; exact inI_n hj (by decide)
  have hi4 : inI (nI i) 4 := inI_n hi (by decide)
  have ho4 : inI (nI o) 4 := inI_n ho (by decide)
  have hL1 : (τ.2.1 o).2.1 ≤ 7 := s1.2.1
  have hL0 : 0 < (τ.2.1 o).2.1 := s1.1
  refine aw_iload14 X dL_sends_345 ?_
  refine aw_ifne X dL_sends_347 (tgt := 355) (by decide) (fun _ => ?_) (fun c9 => by first | exact absurd ((by decide : ¬ nI 1 = 0)) c9 | exact absurd c9 ((by decide : ¬ nI 1 = 0)))
  refine aw_aload6 X dL_sends_355 ?_
  refine aw_iload15 X dL_sends_357 ?_
  refine aw_iald X dL_sends_359 (hT.at 3 (by decide)) rfl (show o < 12 by omega) (by decide) ?_
  rcases s4 with ⟨t1, t2, t3, t4, t5⟩ | ⟨t1, t2, t3⟩
  · refine aw_int t2 ?_
    refine aw_ifne X dL_sends_360 (tgt := 368) (by decide) (fun _ => ?_) (fun c9 => by first | exact absurd (nI_ne0 hL0 (by omega)) c9 | exact absurd c9 (nI_ne0 hL0 (by omega)))
    refine aw_iconst X dL_sends_368 (v := nI 0) (by decide) ?_
    refine aw_istore16 X dL_sends_369 (by rw [hn]; decide) rfl ?_
    refine aw_iload16 X dL_sends_371 ?_
    refine aw_ifne X dL_sends_373 (tgt := 415) (by decide) (fun c9 => by first | exact absurd ((rfl : nI 0 = 0)) c9 | exact absurd c9 ((rfl : nI 0 = 0))) (fun _ => ?_)
    refine aw_aload5 X dL_sends_376 ?_
    refine aw_aload6 X dL_sends_378 ?_
    refine aw_iload15 X dL_sends_380 ?_
    refine aw_aload3 X dL_sends_382 ?_
    refine aw_bipush X dL_sends_383 (v := nI 16) (by decide) ?_
    refine aw_iload13 X dL_sends_385 ?_
    refine aw_imul X dL_sends_387 ?_
    first | with_reducible refine aw_int (pk_mul _ _) ?_ | skip
    refine aw_aload4 X dL_sends_388 ?_
    refine aw_iload13 X dL_sends_390 ?_
    refine aw_iald X dL_sends_392 (hT.at 1 (by decide)) rfl (show j < 4 from hj) (by decide) ?_
    refine aw_int l3 ?_
    refine aw_aload7 X dL_sends_393 ?_
    refine aw_aload8 X dL_sends_395 ?_
    refine aw_aload9 X dL_sends_397 ?_
    refine aw_aload10 X dL_sends_399 ?_
    refine aw_aload11 X dL_sends_401 ?_
    refine aw_iload12 X dL_sends_403 ?_
    have h5 := tb5 (a := 4) hT (by decide) (fun t ht => by rcases t with _ | _ | _ | _ | _ | t <;> first | rfl | omega)
    refine aw_callS X (c_L_compare (d := i) (sg0 := o) (s := τ.2.1 o) (bs := τ.1.2 j) (a := 16 * j) (b0 := x + 275) (hT.at 2 (by decide)) (hT.at 3 (by decide)) (hT.at 0 (by decide)) (by decide) (by decide) (by omega) (by omega) (by omega) h5 hi ho t2 t3 t4 s1 s3 l2 l1 s2 (show 16 * o + (τ.2.1 o).2.2.2.length ≤ 64 by omega) (show 16 * j + (τ.1.2 j).length ≤ 64 by omega) t5 l4) kL_158 dL_sends_405 rfl rfl (by first | decide | exact Nat.le_of_ble_eq_true rfl) (by rw [hR]; exact ⟨by first | decide | exact Nat.le_of_ble_eq_true rfl | (dsimp only; omega), by first | decide | exact Nat.le_of_ble_eq_true rfl | (dsimp only; omega)⟩) (by rw [hR]; exact ⟨by first | decide | exact Nat.le_of_ble_eq_true rfl | (dsimp only; omega), by first | decide | exact Nat.le_of_ble_eq_true rfl | (dsimp only; omega)⟩) (fun v M1 hv => ?_)
    obtain ⟨rfl, F', h1, w1, w2, w3⟩ := hv
    have hb := tb5_back (a := 4) hT (by decide) (fun t ht => by rcases t with _ | _ | _ | _ | _ | t <;> first | rfl | omega) h1
    have hV := cmpD_dV (s := τ.2.1 o) s1 l1 l2
    have hfin := hL.2.2.2.1.set (F := fun t => F (4 + t)) (F' := F') hi (D := cmpD (τ.2.1 o) (τ.1.2 j)) rfl hV w1 w2 w3
    refine aw_aload11 X dL_sends_408 ?_
    refine aw_iload12 X dL_sends_410 ?_
    refine aw_iald X dL_sends_412 (hb.at 8 (by decide)) rfl (show i < 8 by omega) (by decide) ?_
    refine aw_int (y := nI (cmpD (τ.2.1 o) (τ.1.2 j)).2.1.length) w1.1 ?_
    refine aw_istore16 X dL_sends_413 (by rw [hn]; decide) rfl ?_
    refine aw_aload0 X dL_sends_415 ?_
    refine aw_iconst X dL_sends_416 (v := nI 0) (by decide) ?_
    refine aw_iload12 X dL_sends_417 ?_
    refine aw_iload15 X dL_sends_419 ?_
    refine aw_iload13 X dL_sends_421 ?_
    refine aw_callSH X hN (w_compare hfl (hs.tb hb)) kL_161 dL_sends_423 rfl rfl (by first | decide | exact Nat.le_of_ble_eq_true rfl) (by rw [hR]; exact ⟨by first | decide | exact Nat.le_of_ble_eq_true rfl | (dsimp only; omega), by first | decide | exact Nat.le_of_ble_eq_true rfl | (dsimp only; omega)⟩) (by rw [hR]; exact ⟨by first | decide | exact Nat.le_of_ble_eq_true rfl | (dsimp only; omega), by first | decide | exact Nat.le_of_ble_eq_true rfl | (dsimp only; omega)⟩) (fun v M2 hv => ?_)
    obtain ⟨rfl, hs1, hk1⟩ := hv
    have e0 : spCompare τ (nI i) (nI o) (nI j) = (0, nI (cmpD (τ.2.1 o) (τ.1.2 j)).2.1.length, (τ.1, τ.2.1, va_up τ.2.2.1 i (cmpD (τ.2.1 o) (τ.1.2 j)), τ.2.2.2)) := by
      rw [spCompare, if_pos ⟨hi4, ho4, hF4⟩]
      simp only [tF, tS, ix_n (show i < 2 ^ 31 by omega), ix_n (show j < 2 ^ 31 by omega), ix_n (show o < 2 ^ 31 by omega)]
      rw [if_pos t1]
    rw [e0] at hs1 ⊢
    refine aw_iload16 X dL_sends_426 ?_
    refine aw_icmpne X dL_sends_428 (tgt := 435) (by decide) (fun c9 => by first | exact absurd ((rfl : wr (0, nI (cmpD (τ.2.1 o) (τ.1.2 j)).2.1.length, (τ.1, τ.2.1, va_up τ.2.2.1 i (cmpD (τ.2.1 o) (τ.1.2 j)), τ.2.2.2)) = nI (cmpD (τ.2.1 o) (τ.1.2 j)).2.1.length)) c9 | exact absurd c9 ((rfl : wr (0, nI (cmpD (τ.2.1 o) (τ.1.2 j)).2.1.length, (τ.1, τ.2.1, va_up τ.2.2.1 i (cmpD (τ.2.1 o) (τ.1.2 j)), τ.2.2.2)) = nI (cmpD (τ.2.1 o) (τ.1.2 j)).2.1.length))) (fun _ => ?_)
    refine aw_iconst X dL_sends_431 (v := nI 1) (by decide) ?_
    refine aw_goto X dL_sends_432 (tgt := 436) (by decide) ?_
    refine aw_widen (k' := 5) (n' := 40) (Nat.le_of_ble_eq_true rfl) (Nat.le_of_ble_eq_true rfl) ?_
    refine aw_ireturn X (ty := .boolean) hr (by first | rfl | decide | assumption) dL_sends_436 (⟨rfl, _, lS.of hb (hL.dels hfin (fun t ht => mix_out (by omega))) hs1 hk1 eD_ok⟩)
  · refine aw_int t2 ?_
    refine aw_ifne X dL_sends_360 (tgt := 368) (by decide) (fun c9 => by first | exact absurd ((rfl : nI 0 = 0)) c9 | exact absurd c9 ((rfl : nI 0 = 0))) (fun _ => ?_)
    refine aw_bipush X dL_sends_363 (v := -102) (by decide) ?_
    refine aw_goto X dL_sends_365 (tgt := 369) (by decide) ?_
    refine aw_istore16 X dL_sends_369 (by rw [hn]; decide) rfl ?_
    refine aw_iload16 X dL_sends_371 ?_
    refine aw_ifne X dL_sends_373 (tgt := 415) (by decide) (fun _ => ?_) (fun c9 => by first | exact absurd ((by decide : ¬ (-102 : Int32) = 0)) c9 | exact absurd c9 ((by decide : ¬ (-102 : Int32) = 0)))
    refine aw_aload0 X dL_sends_415 ?_
    refine aw_iconst X dL_sends_416 (v := nI 0) (by decide) ?_
    refine aw_iload12 X dL_sends_417 ?_
    refine aw_iload15 X dL_sends_419 ?_
    refine aw_iload13 X dL_sends_421 ?_
    refine aw_callSH X hN (w_compare hfl hs) kL_161 dL_sends_423 rfl rfl (by first | decide | exact Nat.le_of_ble_eq_true rfl) (by rw [hR]; exact ⟨by first | decide | exact Nat.le_of_ble_eq_true rfl | (dsimp only; omega), by first | decide | exact Nat.le_of_ble_eq_true rfl | (dsimp only; omega)⟩) (by rw [hR]; exact ⟨by first | decide | exact Nat.le_of_ble_eq_true rfl | (dsimp only; omega), by first | decide | exact Nat.le_of_ble_eq_true rfl | (dsimp only; omega)⟩) (fun v M1 hv => ?_)
    obtain ⟨rfl, hs1, hk1⟩ := hv
    have e0 : spCompare τ (nI i) (nI o) (nI j) = (2, 0, τ) := by
      rw [spCompare, if_pos ⟨hi4, ho4, hF4⟩]
      simp only [tS, ix_n (show o < 2 ^ 31 by omega)]
      rw [if_neg (by rw [t1]; decide)]
    rw [e0] at hs1 ⊢
    refine aw_iload16 X dL_sends_426 ?_
    refine aw_icmpne X dL_sends_428 (tgt := 435) (by decide) (fun c9 => by first | exact absurd ((rfl : wr (2, 0, τ) = -102)) c9 | exact absurd c9 ((rfl : wr (2, 0, τ) = -102))) (fun _ => ?_)
    refine aw_iconst X dL_sends_431 (v := nI 1) (by decide) ?_
    refine aw_goto X dL_sends_432 (tgt := 436) (by decide) ?_
    refine aw_widen (k' := 5) (n' := 40) (Nat.le_of_ble_eq_true rfl) (Nat.le_of_ble_eq_true rfl) ?_
    refine aw_ireturn X (ty := .boolean) hr (by first | rfl | decide | assumption) dL_sends_436 (⟨rfl, τ, lS.of hT hL hs1 hk1 eD_ok⟩)
theorem sd_app0 {Z : AZ} {M : AM} {x j o : Nat} {τ : TS} {F : Nat → Nat → Int32} {kd y w : Int32} (C : sdC Z M x τ F) (hj : j < 5) (ho : o < 5) (hw : ¬ ((inI w 4 ∧ j < 4) ∧ o < 4)) : AW Z (am_Q Z (lP (zG Z) x) (fun _ _ => False) 5 40) M 0 0 437 (sdL x kd y w j (nI 0) [some (.int (nI o)), none, none, none, none]) [] := by
  obtain ⟨X, hn, hR, hr, hN, hfl, hs, hT, hL⟩ := C
  refine aw_bipush X dL_sends_437 (v := nI 16) (by decide) ?_
  refine aw_newI X 16 dL_sends_439 rfl (by decide) (by rw [hR]; exact Nat.le_of_ble_eq_true rfl) (by rw [hR]; exact Nat.le_of_ble_eq_true rfl) ac_int (fun e heA hlt he => ?_)
  have kn := ke_nw (e := am_ai (zG Z) 16 (fun _ => 0)) hlt
  refine aw_astore16 X dL_sends_441 (by rw [hn]; decide) rfl ?_
  refine aw_iload14 X dL_sends_443 ?_
  refine aw_ifne X dL_sends_445 (tgt := 453) (by decide) (fun c9 => by first | exact absurd ((rfl : nI 0 = 0)) c9 | exact absurd c9 ((rfl : nI 0 = 0))) (fun _ => ?_)
  refine aw_bipush X dL_sends_448 (v := -101) (by decide) ?_
  refine aw_goto X dL_sends_450 (tgt := 494) (by decide) ?_
  refine aw_istore17 X dL_sends_494 (by rw [hn]; decide) rfl ?_
  refine aw_iload17 X dL_sends_496 ?_
  refine aw_iconst X dL_sends_498 (v := -1) (by decide) ?_
  refine aw_icmpne X dL_sends_499 (tgt := 507) (by decide) (fun _ => ?_) (fun c9 => by first | exact absurd ((by decide : ¬ (-101 : Int32) = -1)) c9 | exact absurd c9 ((by decide : ¬ (-101 : Int32) = -1)))
  refine aw_iload17 X dL_sends_507 ?_
  refine aw_istore17 X dL_sends_509 (by rw [hn]; decide) rfl ?_
  refine aw_iload17 X dL_sends_511 ?_
  refine aw_iflt X dL_sends_513 (tgt := 529) (by decide) (fun _ => ?_) (fun c9 => by first | exact absurd ((by decide : (-101 : Int32) < 0)) c9 | exact absurd c9 ((by decide : (-101 : Int32) < 0)))
  refine aw_aload0 X dL_sends_529 ?_
  refine aw_iconst X dL_sends_530 (v := nI 1) (by decide) ?_
  refine aw_iload12 X dL_sends_531 ?_
  refine aw_iload13 X dL_sends_533 ?_
  refine aw_iload15 X dL_sends_535 ?_
  refine aw_callSH X hN (w_apply hfl (hs.kk kn)) kL_161 dL_sends_537 rfl rfl (by first | decide | exact Nat.le_of_ble_eq_true rfl) (by rw [hR]; exact ⟨by first | decide | exact Nat.le_of_ble_eq_true rfl | (dsimp only; omega), by first | decide | exact Nat.le_of_ble_eq_true rfl | (dsimp only; omega)⟩) (by rw [hR]; exact ⟨by first | decide | exact Nat.le_of_ble_eq_true rfl | (dsimp only; omega), by first | decide | exact Nat.le_of_ble_eq_true rfl | (dsimp only; omega)⟩) (fun v M1 hv => ?_)
  obtain ⟨rfl, hs1, hk1⟩ := hv
  have e0 : spApply τ w (nI j) (nI o) = (1, 0, τ) := by
    rw [spApply, if_neg]
    intro q
    obtain ⟨q1, q2, q3⟩ := q
    rw [isF, hL.1] at q2 q3
    exact hw ⟨⟨q1, (nI_ltI (by omega) (by omega)).mp q2.2⟩, (nI_ltI (by omega) (by omega)).mp q3.2⟩
  rw [e0] at hs1 ⊢
  refine aw_iload17 X dL_sends_540 ?_
  refine aw_icmpne X dL_sends_542 (tgt := 549) (by decide) (fun c9 => by first | exact absurd ((rfl : wr (1, 0, τ) = -101)) c9 | exact absurd c9 ((rfl : wr (1, 0, τ) = -101))) (fun _ => ?_)
  refine aw_iconst X dL_sends_545 (v := nI 1) (by decide) ?_
  refine aw_goto X dL_sends_546 (tgt := 550) (by decide) ?_
  refine aw_widen (k' := 5) (n' := 40) (Nat.le_of_ble_eq_true rfl) (Nat.le_of_ble_eq_true rfl) ?_
  refine aw_ireturn X (ty := .boolean) hr (by first | rfl | decide | assumption) dL_sends_550 (⟨rfl, τ, lS.of (tbL_nw hT kn) hL hs1 hk1 eD_ok⟩)
theorem sd_app1 {Z : AZ} {M : AM} {x i j o : Nat} {τ : TS} {F : Nat → Nat → Int32} {kd y : Int32} (C : sdC Z M x τ F) (hi : i < 4) (hj : j < 4) (ho : o < 4) : AW Z (am_Q Z (lP (zG Z) x) (fun _ _ => False) 5 40) M 0 0 437 (sdL x kd y (nI i) j (nI 1) [some (.int (nI o)), none, none, none, none]) [] := by
  obtain ⟨X, hn, hR, hr, hN, hfl, hs, hT, hL⟩ := C
  obtain ⟨l1, l2, l3, l4⟩ := hL.2.1 j hj
  have hFj : isF τ (nI j) := by rw [isF, hL.1]; exact inI_n hj (by decide)
  have hFo : isF τ (nI o) := by rw [isF, hL.1]; exact inI_n ho (by decide)
  have hi4 : inI (nI i) 4 := inI_n hi (by decide)
  refine aw_bipush X dL_sends_437 (v := nI 16) (by decide) ?_
  refine aw_newI X 16 dL_sends_439 rfl (by decide) (by rw [hR]; exact Nat.le_of_ble_eq_true rfl) (by rw [hR]; exact Nat.le_of_ble_eq_true rfl) ac_int (fun e heA hlt he => ?_)
  have kn := ke_nw (e := am_ai (zG Z) 16 (fun _ => 0)) hlt
  have he := am_ns (M := M) (q := e) (e := am_ai (zG Z) 16 (fun _ => 0))
  generalize am_nw M e (am_ai (zG Z) 16 (fun _ => 0)) = Mn at kn he
  have hx20 := hlt _ _ (hT.at 20 (by decide))
  have hs0 := hs
  have hT0 := hT
  have hT := tbL_nw hT kn
  have hs := hs.kk kn
  -- the exceptional end
  have bad : ∀ M1 : AM, isRS (zG Z) M1 x (x + 292) τ → tbL (zG Z) x M1 M1 F → spApply τ (nI i) (nI j) (nI o) = (2, 0, τ) → AW Z (am_Q Z (lP (zG Z) x) (fun _ _ => False) 5 40) M1 1 16 511 (sdL x kd y (nI i) j (nI 1) [some (.int (nI o)), some (.ref e), some (.int (-102)), none, none]) [] := fun M1 hs hT e0 => by
    refine aw_iload17 X dL_sends_511 ?_
    refine aw_iflt X dL_sends_513 (tgt := 529) (by decide) (fun _ => ?_) (fun c9 => by first | exact absurd ((by decide : (-102 : Int32) < 0)) c9 | exact absurd c9 ((by decide : (-102 : Int32) < 0)))
    refine aw_aload0 X dL_sends_529 ?_
    refine aw_iconst X dL_sends_530 (v := nI 1) (by decide) ?_
    refine aw_iload12 X dL_sends_531 ?_
    refine aw_iload13 X dL_sends_533 ?_
    refine aw_iload15 X dL_sends_535 ?_
    refine aw_callSH X hN (w_apply hfl hs) kL_161 dL_sends_537 rfl rfl (by first | decide | exact Nat.le_of_ble_eq_true rfl) (by rw [hR]; exact ⟨by first | decide | exact Nat.le_of_ble_eq_true rfl | (dsimp only; omega), by first | decide | exact Nat.le_of_ble_eq_true rfl | (dsimp only; omega)⟩) (by rw [hR]; exact ⟨by first | decide | exact Nat.le_of_ble_eq_true rfl | (dsimp only; omega), by first | decide | exact Nat.le_of_ble_eq_true rfl | (dsimp only; omega)⟩) (fun v M2 hv => ?_)
    obtain ⟨rfl, hs1, hk1⟩ := hv
    rw [e0] at hs1 ⊢
    refine aw_iload17 X dL_sends_540 ?_
    refine aw_icmpne X dL_sends_542 (tgt := 549) (by decide) (fun c9 => by first | exact absurd ((rfl : wr (2, 0, τ) = -102)) c9 | exact absurd c9 ((rfl : wr (2, 0, τ) = -102))) (fun _ => ?_)
    refine aw_iconst X dL_sends_545 (v := nI 1) (by decide) ?_
    refine aw_goto X dL_sends_546 (tgt := 550) (by decide) ?_
    refine aw_widen (k' := 5) (n' := 40) (Nat.le_of_ble_eq_true rfl) (Nat.le_of_ble_eq_true rfl) ?_
    refine aw_ireturn X (ty := .boolean) hr (by first | rfl | decide | assumption) dL_sends_550 (⟨rfl, τ, lS.of hT hL hs1 hk1 eD_ok⟩)
  refine aw_astore16 X dL_sends_441 (by rw [hn]; decide) rfl ?_
  refine aw_iload14 X dL_sends_443 ?_
  refine aw_ifne X dL_sends_445 (tgt := 453) (by decide) (fun _ => ?_) (fun c9 => by first | exact absurd ((by decide : ¬ nI 1 = 0)) c9 | exact absurd c9 ((by decide : ¬ nI 1 = 0)))
  refine aw_aload11 X dL_sends_453 ?_
  refine aw_iload12 X dL_sends_455 ?_
  refine aw_iald X dL_sends_457 (hT.at 8 (by decide)) rfl (show i < 8 by omega) (by decide) ?_
  rcases hL.2.2.2.1 i hi with ⟨d1, d2, d3⟩ | ⟨d1, d2, d3, d4⟩
  · have hD16 := d2.2.1
    refine aw_int d3.1 ?_
    refine aw_ifge X dL_sends_458 (tgt := 466) (by decide) (fun _ => ?_) (fun c9 => by first | exact absurd (nI_pos' (by omega)) c9 | exact absurd c9 (nI_pos' (by omega)))
    refine aw_aload3 X dL_sends_466 ?_
    refine aw_bipush X dL_sends_467 (v := nI 16) (by decide) ?_
    refine aw_iload13 X dL_sends_469 ?_
    refine aw_imul X dL_sends_471 ?_
    first | with_reducible refine aw_int (pk_mul _ _) ?_ | skip
    refine aw_aload4 X dL_sends_472 ?_
    refine aw_iload13 X dL_sends_474 ?_
    refine aw_iald X dL_sends_476 (hT.at 1 (by decide)) rfl (show j < 4 from hj) (by decide) ?_
    refine aw_int l3 ?_
    refine aw_aload7 X dL_sends_477 ?_
    refine aw_aload8 X dL_sends_479 ?_
    refine aw_aload9 X dL_sends_481 ?_
    refine aw_aload10 X dL_sends_483 ?_
    refine aw_aload11 X dL_sends_485 ?_
    refine aw_iload12 X dL_sends_487 ?_
    refine aw_aload16 X dL_sends_489 ?_
    refine aw_callS X (c_L_apply (D := τ.2.2.1 i) (bb := τ.1.2 j) (a := 16 * j) (hT.at 0 (by decide)) (hT.at 4 (by decide)) (hT.at 5 (by decide)) (hT.at 6 (by decide)) (hT.at 7 (by decide)) (hT.at 8 (by decide)) he ⟨by omega, by omega, by omega, by omega, by omega, by omega⟩ hi d2 d3 l4 (show 16 * j + (τ.1.2 j).length ≤ 64 by omega) (by decide)) kL_164 dL_sends_491 rfl rfl (by first | decide | exact Nat.le_of_ble_eq_true rfl) (by rw [hR]; exact ⟨by first | decide | exact Nat.le_of_ble_eq_true rfl | (dsimp only; omega), by first | decide | exact Nat.le_of_ble_eq_true rfl | (dsimp only; omega)⟩) (by rw [hR]; exact ⟨by first | decide | exact Nat.le_of_ble_eq_true rfl | (dsimp only; omega), by first | decide | exact Nat.le_of_ble_eq_true rfl | (dsimp only; omega)⟩) (fun v M1 hv => ?_)
    obtain ⟨g, rfl, hap⟩ := hv
    have kM : KE M (am_up Mn e (am_ai (zG Z) 16 g)) (fun _ => False) := fun q y hq _ => (am_un (Nat.ne_of_lt (hlt q y hq))).trans (kn q y hq id)
    have hT1 := tbL_nw hT0 kM
    have hs1 := hs0.kk kM
    have u1 := am_us (M := Mn) (q := e) (e := am_ai (zG Z) 16 g)
    generalize am_up Mn e (am_ai (zG Z) 16 g) = M1 at hT1 hs1 u1
    rcases hap with ⟨f1, rfl, f3⟩ | ⟨f1, rfl⟩
    · have hal : (app (τ.2.2.1 i).2.1 (τ.2.2.1 i).2.2.2 (τ.1.2 j)).length ≤ 16 := by rw [app_len d2.1 f1 _ (fun _ h => h), d2.1.2.1]; exact d2.2.2.1
      have hby := byB_app (ins := (τ.2.2.1 i).2.1) d2.2.2.2 l2
      generalize hap9 : app (τ.2.2.1 i).2.1 (τ.2.2.1 i).2.2.2 (τ.1.2 j) = ap at hal hby f3
      refine aw_istore17 X dL_sends_494 (by rw [hn]; decide) rfl ?_
      refine aw_iload17 X dL_sends_496 ?_
      refine aw_iconst X dL_sends_498 (v := -1) (by decide) ?_
      refine aw_icmpne X dL_sends_499 (tgt := 507) (by decide) (fun _ => ?_) (fun c9 => by first | exact absurd ((fun q => absurd (nI_pos' (n := ap.length) (by omega)) (by rw [q]; decide))) c9 | exact absurd c9 ((fun q => absurd (nI_pos' (n := ap.length) (by omega)) (by rw [q]; decide))))
      refine aw_iload17 X dL_sends_507 ?_
      refine aw_istore17 X dL_sends_509 (by rw [hn]; decide) rfl ?_
      refine aw_iload17 X dL_sends_511 ?_
      refine aw_iflt X dL_sends_513 (tgt := 529) (by decide) (fun c9 => by first | exact absurd (nI_pos (by omega)) c9 | exact absurd c9 (nI_pos (by omega))) (fun _ => ?_)
      refine aw_aload3 X dL_sends_516 ?_
      refine aw_aload4 X dL_sends_517 ?_
      refine aw_iload15 X dL_sends_519 ?_
      refine aw_aload16 X dL_sends_521 ?_
      refine aw_iconst X dL_sends_523 (v := nI 0) (by decide) ?_
      refine aw_iload17 X dL_sends_524 ?_
      refine aw_callS X (c_L_give (i := o) (from0 := 0) (m := ap.length) (hT1.at 0 (by decide)) (hT1.at 1 (by decide)) u1 ho hal (show 0 + ap.length ≤ 16 by omega) (by decide) (by omega) (by omega) (fun _ => by omega)) kL_146 dL_sends_526 rfl rfl (by first | decide | exact Nat.le_of_ble_eq_true rfl) (by rw [hR]; exact ⟨by first | decide | exact Nat.le_of_ble_eq_true rfl | (dsimp only; omega), by first | decide | exact Nat.le_of_ble_eq_true rfl | (dsimp only; omega)⟩) (by rw [hR]; exact ⟨by first | decide | exact Nat.le_of_ble_eq_true rfl | (dsimp only; omega), by first | decide | exact Nat.le_of_ble_eq_true rfl | (dsimp only; omega)⟩) (fun v M2 hv => ?_)
      obtain ⟨rfl, g', hM2, g1, g2⟩ := hv
      have h2 : tbL (zG Z) x M1 M2 (va_up (va_up F 1 (upd (F 1) o (nI ap.length))) 0 g') := by
        rw [hM2]
        exact (hT1.st (j := 1) (by decide) _).st (j := 0) (by decide) _
      have hfin := hL.2.1.set (i := o) (bs := ap) (g := g') (m := upd (F 1) o (nI ap.length)) hal hby pk_us (fun j _ hj => pk_un hj) (fun k hk => (g1 k hk).trans (f3 k hk)) g2
      refine aw_aload0 X dL_sends_529 ?_
      refine aw_iconst X dL_sends_530 (v := nI 1) (by decide) ?_
      refine aw_iload12 X dL_sends_531 ?_
      refine aw_iload13 X dL_sends_533 ?_
      refine aw_iload15 X dL_sends_535 ?_
      refine aw_callSH X hN (w_apply hfl (hs1.tb h2)) kL_161 dL_sends_537 rfl rfl (by first | decide | exact Nat.le_of_ble_eq_true rfl) (by rw [hR]; exact ⟨by first | decide | exact Nat.le_of_ble_eq_true rfl | (dsimp only; omega), by first | decide | exact Nat.le_of_ble_eq_true rfl | (dsimp only; omega)⟩) (by rw [hR]; exact ⟨by first | decide | exact Nat.le_of_ble_eq_true rfl | (dsimp only; omega), by first | decide | exact Nat.le_of_ble_eq_true rfl | (dsimp only; omega)⟩) (fun v M3 hv => ?_)
      obtain ⟨rfl, hs3, hk3⟩ := hv
      have e0 : spApply τ (nI i) (nI j) (nI o) = (0, nI ap.length, ((τ.1.1, va_up τ.1.2 o ap), τ.2)) := by
        rw [spApply, if_pos ⟨hi4, hFj, hFo⟩]
        simp only [tD, tF, setF, ix_n (show i < 2 ^ 31 by omega), ix_n (show j < 2 ^ 31 by omega), ix_n (show o < 2 ^ 31 by omega)]
        rw [if_pos ⟨d1, f1⟩, hap9]
      rw [e0] at hs3 ⊢
      refine aw_iload17 X dL_sends_540 ?_
      refine aw_icmpne X dL_sends_542 (tgt := 549) (by decide) (fun c9 => by first | exact absurd ((rfl : wr (0, nI ap.length, ((τ.1.1, va_up τ.1.2 o ap), τ.2)) = nI ap.length)) c9 | exact absurd c9 ((rfl : wr (0, nI ap.length, ((τ.1.1, va_up τ.1.2 o ap), τ.2)) = nI ap.length))) (fun _ => ?_)
      refine aw_iconst X dL_sends_545 (v := nI 1) (by decide) ?_
      refine aw_goto X dL_sends_546 (tgt := 550) (by decide) ?_
      refine aw_widen (k' := 5) (n' := 40) (Nat.le_of_ble_eq_true rfl) (Nat.le_of_ble_eq_true rfl) ?_
      refine aw_ireturn X (ty := .boolean) hr (by first | rfl | decide | assumption) dL_sends_550 (⟨rfl, _, lS.of h2 (hL.files hfin (fun j hj => by rw [va_up_ne _ _ (by omega), va_up_ne _ _ (by omega)])) hs3 hk3 eD_ok⟩)
    · refine aw_istore17 X dL_sends_494 (by rw [hn]; decide) rfl ?_
      refine aw_iload17 X dL_sends_496 ?_
      refine aw_iconst X dL_sends_498 (v := -1) (by decide) ?_
      refine aw_icmpne X dL_sends_499 (tgt := 507) (by decide) (fun c9 => by first | exact absurd ((rfl : (-1 : Int32) = -1)) c9 | exact absurd c9 ((rfl : (-1 : Int32) = -1))) (fun _ => ?_)
      refine aw_bipush X dL_sends_502 (v := -102) (by decide) ?_
      refine aw_goto X dL_sends_504 (tgt := 509) (by decide) ?_
      refine aw_istore17 X dL_sends_509 (by rw [hn]; decide) rfl ?_
      exact bad _ hs1 hT1 (by
        rw [spApply, if_pos ⟨hi4, hFj, hFo⟩]
        simp only [tD, tF, ix_n (show i < 2 ^ 31 by omega), ix_n (show j < 2 ^ 31 by omega)]
        rw [if_neg (fun q => by rw [f1] at q; cases q.2)])
  · refine aw_int d4 ?_
    refine aw_ifge X dL_sends_458 (tgt := 466) (by decide) (fun c9 => by first | exact absurd ((by decide : ¬ (0 : Int32) ≤ -1)) c9 | exact absurd c9 ((by decide : ¬ (0 : Int32) ≤ -1))) (fun _ => ?_)
    refine aw_bipush X dL_sends_461 (v := -102) (by decide) ?_
    refine aw_goto X dL_sends_463 (tgt := 494) (by decide) ?_
    refine aw_istore17 X dL_sends_494 (by rw [hn]; decide) rfl ?_
    refine aw_iload17 X dL_sends_496 ?_
    refine aw_iconst X dL_sends_498 (v := -1) (by decide) ?_
    refine aw_icmpne X dL_sends_499 (tgt := 507) (by decide) (fun _ => ?_) (fun c9 => by first | exact absurd ((by decide : ¬ (-102 : Int32) = -1)) c9 | exact absurd c9 ((by decide : ¬ (-102 : Int32) = -1)))
    refine aw_iload17 X dL_sends_507 ?_
    refine aw_istore17 X dL_sends_509 (by rw [hn]; decide) rfl ?_
    exact bad _ hs hT (by
      rw [spApply, if_pos ⟨hi4, hFj, hFo⟩]
      simp only [tD, ix_n (show i < 2 ^ 31 by omega)]
      rw [if_neg (fun q => by rw [d1] at q; cases q.1)])
theorem c_L_sends {l : Launch} {G : AG} {M : AM} {x : Nat} {τ : TS} {kd y : Int32} (hfl : l.stackTraces = false) (S : lS G M x τ) : Cq l G yL_sends cL_sends 20 (some .boolean) { rL_sends with cells := 5, slots := 40 } M [.ref x, .int kd, .int y, .ref (x + 271), .ref (x + 272), .ref (x + 273), .ref (x + 274), .ref (x + 275), .ref (x + 276), .ref (x + 277), .ref (x + 278), .ref (x + 279)] ncs (lP G x) := by
  obtain ⟨hs, F, hT, hL⟩ := S
  refine Cq.of (by decide) [some (.ref x), some (.int kd), some (.int y), some (.ref (x + 271)), some (.ref (x + 272)), some (.ref (x + 273)), some (.ref (x + 274)), some (.ref (x + 275)), some (.ref (x + 276)), some (.ref (x + 277)), some (.ref (x + 278)), some (.ref (x + 279)), none, none, none, none, none, none, none, none] rfl (Nat.le_of_ble_eq_true rfl) ?_
  intro Z hZ hN
  obtain ⟨rfl, hn, rfl, hR, X, hr, hnm⟩ := hZ
  refine aw_iload2 X dL_sends_0 ?_
  refine aw_iconst X dL_sends_1 (v := nI 5) (by decide) ?_
  refine aw_callS X (c_L_some (N := 5) (by decide) (by decide)) kL_136 dL_sends_2 rfl rfl (by first | decide | exact Nat.le_of_ble_eq_true rfl) (by rw [hR]; exact ⟨by first | decide | exact Nat.le_of_ble_eq_true rfl | (dsimp only; omega), by first | decide | exact Nat.le_of_ble_eq_true rfl | (dsimp only; omega)⟩) (by rw [hR]; exact ⟨by first | decide | exact Nat.le_of_ble_eq_true rfl | (dsimp only; omega), by first | decide | exact Nat.le_of_ble_eq_true rfl | (dsimp only; omega)⟩) (fun v M hv => ?_)
  obtain ⟨rfl, j0, hj0, rfl⟩ := hv
  refine aw_spl (pm := 22) (P := fun _ => True) (fun K => ?_) (fun v _ => ?_)
  · refine aw_iload2 X dL_sends_5 ?_
    refine aw_bipush X dL_sends_6 (v := nI 9) (by decide) ?_
    refine aw_ishr X dL_sends_8 ?_
    refine aw_bipush X dL_sends_9 (v := nI 13) (by decide) ?_
    refine aw_callS X (c_L_some (N := 13) (by decide) (by decide)) kL_136 dL_sends_11 rfl rfl (by first | decide | exact Nat.le_of_ble_eq_true rfl) (by rw [hR]; exact ⟨by first | decide | exact Nat.le_of_ble_eq_true rfl | (dsimp only; omega), by first | decide | exact Nat.le_of_ble_eq_true rfl | (dsimp only; omega)⟩) (by rw [hR]; exact ⟨by first | decide | exact Nat.le_of_ble_eq_true rfl | (dsimp only; omega), by first | decide | exact Nat.le_of_ble_eq_true rfl | (dsimp only; omega)⟩) (fun v M hv => ?_)
    obtain ⟨rfl, j, hj, rfl⟩ := hv
    refine aw_ifne X dL_sends_14 (tgt := 21) (by decide) (fun c => ?_) (fun c => ?_)
    · refine aw_iconst X dL_sends_21 (v := nI 0) (by decide) ?_
      exact K _ trivial
    · refine aw_iconst X dL_sends_17 (v := nI 1) (by decide) ?_
      refine aw_goto X dL_sends_18 (tgt := 22) (by decide) ?_
      exact K _ trivial
  refine aw_isub X dL_sends_22 ?_
  refine aw_any (fun w => ?_)
  refine aw_istore12 X dL_sends_23 (by rw [hn]; decide) rfl ?_
  refine aw_iload2 X dL_sends_25 ?_
  refine aw_iconst X dL_sends_26 (v := nI 3) (by decide) ?_
  refine aw_ishr X dL_sends_27 ?_
  refine aw_iconst X dL_sends_28 (v := nI 5) (by decide) ?_
  refine aw_callS X (c_L_some (N := 5) (by decide) (by decide)) kL_136 dL_sends_29 rfl rfl (by first | decide | exact Nat.le_of_ble_eq_true rfl) (by rw [hR]; exact ⟨by first | decide | exact Nat.le_of_ble_eq_true rfl | (dsimp only; omega), by first | decide | exact Nat.le_of_ble_eq_true rfl | (dsimp only; omega)⟩) (by rw [hR]; exact ⟨by first | decide | exact Nat.le_of_ble_eq_true rfl | (dsimp only; omega), by first | decide | exact Nat.le_of_ble_eq_true rfl | (dsimp only; omega)⟩) (fun v M hv => ?_)
  obtain ⟨rfl, j, hj, rfl⟩ := hv
  refine aw_istore13 X dL_sends_32 (by rw [hn]; decide) rfl ?_
  have C : sdC Z M x τ F := ⟨X, hn, hR, hr, hN, hfl, hs, hT, hL⟩
  refine aw_splB (pm := 56) (P := inI w 4 ∧ j < 4) (fun K => ?_) ?_
  · refine aw_iload12 X dL_sends_34 ?_
    refine aw_iflt X dL_sends_36 (tgt := 55) (by decide) (fun c => ?_) (fun c => ?_)
    · refine aw_iconst X dL_sends_55 (v := nI 0) (by decide) ?_
      exact aw_b0 (fun e => e.1.1 c) K
    · refine aw_iload12 X dL_sends_39 ?_
      refine aw_iconst X dL_sends_41 (v := nI 4) (by decide) ?_
      refine aw_icmpge X dL_sends_42 (tgt := 55) (by decide) (fun c2 => ?_) (fun c2 => ?_)
      · refine aw_iconst X dL_sends_55 (v := nI 0) (by decide) ?_
        exact aw_b0 (fun e => absurd c2 (Int32.not_le.mpr e.1.2)) K
      · refine aw_iload13 X dL_sends_45 ?_
        refine aw_iconst X dL_sends_47 (v := nI 4) (by decide) ?_
        refine aw_icmpge X dL_sends_48 (tgt := 55) (by decide) (fun c3 => ?_) (fun c3 => ?_)
        · refine aw_iconst X dL_sends_55 (v := nI 0) (by decide) ?_
          exact aw_b0 (fun e => absurd ((nI_leI (by decide) (by omega)).mp c3) (by omega)) K
        · refine aw_iconst X dL_sends_51 (v := nI 1) (by decide) ?_
          refine aw_goto X dL_sends_52 (tgt := 56) (by decide) ?_
          exact aw_b1 ⟨inI_of c c2, by
            rcases Nat.lt_or_ge j 4 with q | q
            · exact q
            · exact absurd (nI_le q (by omega)) c3⟩ K
  refine aw_istore14 X dL_sends_56 (by rw [hn]; decide) rfl ?_
  refine aw_iload1 X dL_sends_58 ?_
  by_cases hw : inI w 4 ∧ j < 4
  · rw [am_b1 hw]
    obtain ⟨w1, w2, -⟩ := inI_j hw.1 (by decide)
    have hj4 := hw.2
    generalize ix w = i at w1 w2
    subst w2
    refine aw_ifne X dL_sends_59 (tgt := 313) (by decide) (fun c => ?_) (fun c => ?_)
    · refine aw_iload2 X dL_sends_313 ?_
      refine aw_iconst X dL_sends_314 (v := nI 5) (by decide) ?_
      refine aw_ishr X dL_sends_315 ?_
      refine aw_iconst X dL_sends_316 (v := nI 5) (by decide) ?_
      refine aw_callS X (c_L_some (N := 5) (by decide) (by decide)) kL_136 dL_sends_317 rfl rfl (by first | decide | exact Nat.le_of_ble_eq_true rfl) (by rw [hR]; exact ⟨by first | decide | exact Nat.le_of_ble_eq_true rfl | (dsimp only; omega), by first | decide | exact Nat.le_of_ble_eq_true rfl | (dsimp only; omega)⟩) (by rw [hR]; exact ⟨by first | decide | exact Nat.le_of_ble_eq_true rfl | (dsimp only; omega), by first | decide | exact Nat.le_of_ble_eq_true rfl | (dsimp only; omega)⟩) (fun v M hv => ?_)
      obtain ⟨rfl, o, ho, rfl⟩ := hv
      have C : sdC Z M x τ F := ⟨X, hn, hR, hr, hN, hfl, hs, hT, hL⟩
      refine aw_istore15 X dL_sends_320 (by rw [hn]; decide) rfl ?_
      refine aw_iload14 X dL_sends_322 ?_
      refine aw_ifeq X dL_sends_324 (tgt := 337) (by decide) (fun c9 => by first | exact absurd ((by decide : ¬ nI 1 = 0)) c9 | exact absurd c9 ((by decide : ¬ nI 1 = 0))) (fun _ => ?_)
      refine aw_iload15 X dL_sends_327 ?_
      refine aw_iconst X dL_sends_329 (v := nI 4) (by decide) ?_
      by_cases ho4 : o < 4
      · refine aw_icmpge X dL_sends_330 (tgt := 337) (by decide) (fun c9 => by first | exact absurd (nI_ge ho4 (by decide)) c9 | exact absurd c9 (nI_ge ho4 (by decide))) (fun _ => ?_)
        refine aw_iconst X dL_sends_333 (v := nI 1) (by decide) ?_
        refine aw_goto X dL_sends_334 (tgt := 338) (by decide) ?_
        refine aw_istore14 X dL_sends_338 (by rw [hn]; decide) rfl ?_
        refine aw_iload1 X dL_sends_340 ?_
        refine aw_iconst X dL_sends_341 (v := nI 1) (by decide) ?_
        refine aw_icmpne X dL_sends_342 (tgt := 437) (by decide) (fun c3 => ?_) (fun c3 => ?_)
        · exact sd_app1 C w1 hj4 ho4
        · exact sd_cmp1 C w1 hj4 ho4
      · refine aw_icmpge X dL_sends_330 (tgt := 337) (by decide) (fun _ => ?_) (fun c9 => by first | exact absurd (nI_le (by omega) (by omega)) c9 | exact absurd c9 (nI_le (by omega) (by omega)))
        refine aw_iconst X dL_sends_337 (v := nI 0) (by decide) ?_
        refine aw_istore14 X dL_sends_338 (by rw [hn]; decide) rfl ?_
        refine aw_iload1 X dL_sends_340 ?_
        refine aw_iconst X dL_sends_341 (v := nI 1) (by decide) ?_
        refine aw_icmpne X dL_sends_342 (tgt := 437) (by decide) (fun c3 => ?_) (fun c3 => ?_)
        · exact sd_app0 C (by omega) ho (fun q => ho4 q.2)
        · exact sd_cmp0 C (by omega) ho (fun q => ho4 q.2)
    · exact sd_sign1 C w1 hj4
  · rw [am_b0 hw]
    refine aw_ifne X dL_sends_59 (tgt := 313) (by decide) (fun c => ?_) (fun c => ?_)
    · refine aw_iload2 X dL_sends_313 ?_
      refine aw_iconst X dL_sends_314 (v := nI 5) (by decide) ?_
      refine aw_ishr X dL_sends_315 ?_
      refine aw_iconst X dL_sends_316 (v := nI 5) (by decide) ?_
      refine aw_callS X (c_L_some (N := 5) (by decide) (by decide)) kL_136 dL_sends_317 rfl rfl (by first | decide | exact Nat.le_of_ble_eq_true rfl) (by rw [hR]; exact ⟨by first | decide | exact Nat.le_of_ble_eq_true rfl | (dsimp only; omega), by first | decide | exact Nat.le_of_ble_eq_true rfl | (dsimp only; omega)⟩) (by rw [hR]; exact ⟨by first | decide | exact Nat.le_of_ble_eq_true rfl | (dsimp only; omega), by first | decide | exact Nat.le_of_ble_eq_true rfl | (dsimp only; omega)⟩) (fun v M hv => ?_)
      obtain ⟨rfl, o, ho, rfl⟩ := hv
      have C : sdC Z M x τ F := ⟨X, hn, hR, hr, hN, hfl, hs, hT, hL⟩
      refine aw_istore15 X dL_sends_320 (by rw [hn]; decide) rfl ?_
      refine aw_iload14 X dL_sends_322 ?_
      refine aw_ifeq X dL_sends_324 (tgt := 337) (by decide) (fun _ => ?_) (fun c9 => by first | exact absurd ((rfl : nI 0 = 0)) c9 | exact absurd c9 ((rfl : nI 0 = 0)))
      refine aw_iconst X dL_sends_337 (v := nI 0) (by decide) ?_
      refine aw_istore14 X dL_sends_338 (by rw [hn]; decide) rfl ?_
      refine aw_iload1 X dL_sends_340 ?_
      refine aw_iconst X dL_sends_341 (v := nI 1) (by decide) ?_
      refine aw_icmpne X dL_sends_342 (tgt := 437) (by decide) (fun c3 => ?_) (fun c3 => ?_)
      · exact sd_app0 C hj ho (fun q => hw q.1)
      · exact sd_cmp0 C hj ho (fun q => hw q.1)
    · exact sd_sign0 C hj hw
