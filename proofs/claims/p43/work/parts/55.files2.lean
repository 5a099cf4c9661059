theorem fi_rem0 {Z : AZ} {M : AM} {x : Nat} {τ : TS} {F : Nat → Nat → Int32} {kd y w : Int32} (C : fiC Z M x τ F) (hw : ¬ inI w 4) : AW Z (am_Q Z (lP (zG Z) x) (fun _ _ => False) 5 30) M 0 0 475 [some (.ref x), some (.int kd), some (.int y), some (.ref (x + 271)), some (.ref (x + 272)), some (.int w), some (.int (nI 0)), none, none, none, none, none, none] [] := by
  obtain ⟨X, hn, hR, hr, hN, hfl, hs, hT, hL⟩ := C
  refine aw_iload2 X dL_files_475 ?_
  refine aw_iconst X dL_files_476 (v := nI 4) (by decide) ?_
  refine aw_ishr X dL_files_477 ?_
  refine aw_bipush X dL_files_478 (v := nI 18) (by decide) ?_
  refine aw_callS X (c_L_some (N := 18) (by decide) (by decide)) kL_136 dL_files_480 rfl rfl (by first | decide | exact Nat.le_of_ble_eq_true rfl) (by rw [hR]; exact ⟨by first | decide | exact Nat.le_of_ble_eq_true rfl | (dsimp only; omega), by first | decide | exact Nat.le_of_ble_eq_true rfl | (dsimp only; omega)⟩) (by rw [hR]; exact ⟨by first | decide | exact Nat.le_of_ble_eq_true rfl | (dsimp only; omega), by first | decide | exact Nat.le_of_ble_eq_true rfl | (dsimp only; omega)⟩) (fun v M hv => ?_)
  obtain ⟨rfl, j, hj, rfl⟩ := hv
  refine aw_iconst X dL_files_483 (v := nI 1) (by decide) ?_
  refine aw_isub X dL_files_484 ?_
  refine aw_any (fun p => ?_)
  refine aw_istore7 X dL_files_485 (by rw [hn]; decide) rfl ?_
  refine aw_iload2 X dL_files_487 ?_
  refine aw_bipush X dL_files_488 (v := nI 6) (by decide) ?_
  refine aw_ishr X dL_files_490 ?_
  refine aw_iconst X dL_files_491 (v := nI 5) (by decide) ?_
  refine aw_callS X (c_L_some (N := 5) (by decide) (by decide)) kL_136 dL_files_492 rfl rfl (by first | decide | exact Nat.le_of_ble_eq_true rfl) (by rw [hR]; exact ⟨by first | decide | exact Nat.le_of_ble_eq_true rfl | (dsimp only; omega), by first | decide | exact Nat.le_of_ble_eq_true rfl | (dsimp only; omega)⟩) (by rw [hR]; exact ⟨by first | decide | exact Nat.le_of_ble_eq_true rfl | (dsimp only; omega), by first | decide | exact Nat.le_of_ble_eq_true rfl | (dsimp only; omega)⟩) (fun v M hv => ?_)
  obtain ⟨rfl, j2, hj2, rfl⟩ := hv
  refine aw_spl (pm := 512) (P := fun _ => True) (fun K => ?_) (fun v _ => ?_)
  · refine aw_iload2 X dL_files_495 ?_
    refine aw_bipush X dL_files_496 (v := nI 8) (by decide) ?_
    refine aw_ishr X dL_files_498 ?_
    refine aw_bipush X dL_files_499 (v := nI 9) (by decide) ?_
    refine aw_callS X (c_L_some (N := 9) (by decide) (by decide)) kL_136 dL_files_501 rfl rfl (by first | decide | exact Nat.le_of_ble_eq_true rfl) (by rw [hR]; exact ⟨by first | decide | exact Nat.le_of_ble_eq_true rfl | (dsimp only; omega), by first | decide | exact Nat.le_of_ble_eq_true rfl | (dsimp only; omega)⟩) (by rw [hR]; exact ⟨by first | decide | exact Nat.le_of_ble_eq_true rfl | (dsimp only; omega), by first | decide | exact Nat.le_of_ble_eq_true rfl | (dsimp only; omega)⟩) (fun v M hv => ?_)
    obtain ⟨rfl, j, hj, rfl⟩ := hv
    refine aw_ifne X dL_files_504 (tgt := 511) (by decide) (fun c => ?_) (fun c => ?_)
    · refine aw_iconst X dL_files_511 (v := nI 0) (by decide) ?_
      exact K _ trivial
    · refine aw_iconst X dL_files_507 (v := nI 1) (by decide) ?_
      refine aw_goto X dL_files_508 (tgt := 512) (by decide) ?_
      exact K _ trivial
  refine aw_isub X dL_files_512 ?_
  refine aw_any (fun m => ?_)
  refine aw_istore8 X dL_files_513 (by rw [hn]; decide) rfl ?_
  refine aw_iload6 X dL_files_515 ?_
  refine aw_ifeq X dL_files_517 (tgt := 539) (by decide) (fun _ => ?_) (fun c9 => by first | exact absurd ((rfl : nI 0 = 0)) c9 | exact absurd c9 ((rfl : nI 0 = 0)))
  refine aw_iconst X dL_files_539 (v := nI 0) (by decide) ?_
  refine aw_istore9 X dL_files_540 (by rw [hn]; decide) rfl ?_
  refine aw_iload9 X dL_files_542 ?_
  refine aw_ifne X dL_files_544 (tgt := 552) (by decide) (fun c9 => by first | exact absurd ((rfl : nI 0 = 0)) c9 | exact absurd c9 ((rfl : nI 0 = 0))) (fun _ => ?_)
  refine aw_bipush X dL_files_547 (v := -101) (by decide) ?_
  refine aw_goto X dL_files_549 (tgt := 583) (by decide) ?_
  refine aw_istore10 X dL_files_583 (by rw [hn]; decide) rfl ?_
  refine aw_iload10 X dL_files_585 ?_
  refine aw_iflt X dL_files_587 (tgt := 637) (by decide) (fun _ => ?_) (fun c9 => by first | exact absurd ((by decide : (-101 : Int32) < 0)) c9 | exact absurd c9 ((by decide : (-101 : Int32) < 0)))
  refine aw_aload0 X dL_files_637 ?_
  refine aw_iconst X dL_files_638 (v := nI 2) (by decide) ?_
  refine aw_iload5 X dL_files_639 ?_
  refine aw_iload7 X dL_files_641 ?_
  refine aw_iload8 X dL_files_643 ?_
  refine aw_iconst X dL_files_645 (v := nI 0) (by decide) ?_
  refine aw_callSH X hN (w_remove hfl hs) kL_142 dL_files_646 rfl rfl (by first | decide | exact Nat.le_of_ble_eq_true rfl) (by rw [hR]; exact ⟨by first | decide | exact Nat.le_of_ble_eq_true rfl | (dsimp only; omega), by first | decide | exact Nat.le_of_ble_eq_true rfl | (dsimp only; omega)⟩) (by rw [hR]; exact ⟨by first | decide | exact Nat.le_of_ble_eq_true rfl | (dsimp only; omega), by first | decide | exact Nat.le_of_ble_eq_true rfl | (dsimp only; omega)⟩) (fun v M1 hv => ?_)
  obtain ⟨rfl, hs1, hk1⟩ := hv
  have e0 : spRemove τ w p m = (1, 0, τ) := by rw [spRemove, if_neg (fun q => hw (by have := q.1; rwa [isF, hL.1] at this))]
  rw [e0] at hs1 ⊢
  refine aw_iload10 X dL_files_649 ?_
  refine aw_icmpne X dL_files_651 (tgt := 658) (by decide) (fun c9 => by first | exact absurd ((rfl : wr (1, 0, τ) = -101)) c9 | exact absurd c9 ((rfl : wr (1, 0, τ) = -101))) (fun _ => ?_)
  refine aw_iconst X dL_files_654 (v := nI 1) (by decide) ?_
  refine aw_goto X dL_files_655 (tgt := 659) (by decide) ?_
  refine aw_widen (k' := 5) (n' := 30) (Nat.le_of_ble_eq_true rfl) (Nat.le_of_ble_eq_true rfl) ?_
  refine aw_ireturn X (ty := .boolean) hr (by first | rfl | decide | assumption) dL_files_659 (⟨rfl, τ, lS.of hT hL hs1 hk1 eD_ok⟩)
theorem spRem_ok {τ : TS} {i j m : Nat} (h4 : τ.1.1 = 4) (hi : i < 4) (hl : (τ.1.2 i).length ≤ 16) (hj : j + m ≤ (τ.1.2 i).length) : spRemove τ (nI i) (nI j) (nI m) = (0, nI ((τ.1.2 i).length - m), ((τ.1.1, va_up τ.1.2 i ((τ.1.2 i).take j ++ (τ.1.2 i).drop (j + m))), τ.2)) := by
  rw [spRemove]
  simp only [tF, setF, isF, h4, ix_n (show i < 2 ^ 31 by omega), ix_n (show j < 2 ^ 31 by omega), ix_n (show m < 2 ^ 31 by omega)]
  rw [if_pos ⟨inI_n hi (by decide), inI_n (by omega) (by omega)⟩, if_pos ⟨nI_nlt (by omega) (by omega), nI_le (by omega) (by omega)⟩]
theorem spRem_bad {τ : TS} {i j : Nat} {m : Int32} (h4 : τ.1.1 = 4) (hi : i < 4) (hl : (τ.1.2 i).length ≤ 16) (hj : j ≤ (τ.1.2 i).length) (hm : ¬ rgI m (nI 0) (nI ((τ.1.2 i).length - j))) : spRemove τ (nI i) (nI j) m = (2, 0, τ) := by
  rw [spRemove]
  simp only [tF, setF, isF, h4, ix_n (show i < 2 ^ 31 by omega), ix_n (show j < 2 ^ 31 by omega)]
  rw [if_pos ⟨inI_n hi (by decide), inI_n (by omega) (by omega)⟩, if_neg hm]
theorem fi_rem1 {Z : AZ} {M : AM} {x i : Nat} {τ : TS} {F : Nat → Nat → Int32} {kd y : Int32} (C : fiC Z M x τ F) (hi : i < 4) : AW Z (am_Q Z (lP (zG Z) x) (fun _ _ => False) 5 30) M 0 0 475 [some (.ref x), some (.int kd), some (.int y), some (.ref (x + 271)), some (.ref (x + 272)), some (.int (nI i)), some (.int (nI 1)), none, none, none, none, none, none] [] := by
  obtain ⟨X, hn, hR, hr, hN, hfl, hs, hT, hL⟩ := C
  obtain ⟨l1, l2, l3, l4⟩ := hL.2.1 i hi
  have hn1 := hT.at 1 (by decide)
  refine aw_iload2 X dL_files_475 ?_
  refine aw_iconst X dL_files_476 (v := nI 4) (by decide) ?_
  refine aw_ishr X dL_files_477 ?_
  refine aw_bipush X dL_files_478 (v := nI 18) (by decide) ?_
  refine aw_callS X (c_L_some (N := 18) (by decide) (by decide)) kL_136 dL_files_480 rfl rfl (by first | decide | exact Nat.le_of_ble_eq_true rfl) (by rw [hR]; exact ⟨by first | decide | exact Nat.le_of_ble_eq_true rfl | (dsimp only; omega), by first | decide | exact Nat.le_of_ble_eq_true rfl | (dsimp only; omega)⟩) (by rw [hR]; exact ⟨by first | decide | exact Nat.le_of_ble_eq_true rfl | (dsimp only; omega), by first | decide | exact Nat.le_of_ble_eq_true rfl | (dsimp only; omega)⟩) (fun v M hv => ?_)
  obtain ⟨rfl, j, hj, rfl⟩ := hv
  refine aw_iconst X dL_files_483 (v := nI 1) (by decide) ?_
  refine aw_isub X dL_files_484 ?_
  refine aw_any (fun p => ?_)
  refine aw_istore7 X dL_files_485 (by rw [hn]; decide) rfl ?_
  refine aw_iload2 X dL_files_487 ?_
  refine aw_bipush X dL_files_488 (v := nI 6) (by decide) ?_
  refine aw_ishr X dL_files_490 ?_
  refine aw_iconst X dL_files_491 (v := nI 5) (by decide) ?_
  refine aw_callS X (c_L_some (N := 5) (by decide) (by decide)) kL_136 dL_files_492 rfl rfl (by first | decide | exact Nat.le_of_ble_eq_true rfl) (by rw [hR]; exact ⟨by first | decide | exact Nat.le_of_ble_eq_true rfl | (dsimp only; omega), by first | decide | exact Nat.le_of_ble_eq_true rfl | (dsimp only; omega)⟩) (by rw [hR]; exact ⟨by first | decide | exact Nat.le_of_ble_eq_true rfl | (dsimp only; omega), by first | decide | exact Nat.le_of_ble_eq_true rfl | (dsimp only; omega)⟩) (fun v M hv => ?_)
  obtain ⟨rfl, j2, hj2, rfl⟩ := hv
  refine aw_spl (pm := 512) (P := fun _ => True) (fun K => ?_) (fun v _ => ?_)
  · refine aw_iload2 X dL_files_495 ?_
    refine aw_bipush X dL_files_496 (v := nI 8) (by decide) ?_
    refine aw_ishr X dL_files_498 ?_
    refine aw_bipush X dL_files_499 (v := nI 9) (by decide) ?_
    refine aw_callS X (c_L_some (N := 9) (by decide) (by decide)) kL_136 dL_files_501 rfl rfl (by first | decide | exact Nat.le_of_ble_eq_true rfl) (by rw [hR]; exact ⟨by first | decide | exact Nat.le_of_ble_eq_true rfl | (dsimp only; omega), by first | decide | exact Nat.le_of_ble_eq_true rfl | (dsimp only; omega)⟩) (by rw [hR]; exact ⟨by first | decide | exact Nat.le_of_ble_eq_true rfl | (dsimp only; omega), by first | decide | exact Nat.le_of_ble_eq_true rfl | (dsimp only; omega)⟩) (fun v M hv => ?_)
    obtain ⟨rfl, j, hj, rfl⟩ := hv
    refine aw_ifne X dL_files_504 (tgt := 511) (by decide) (fun c => ?_) (fun c => ?_)
    · refine aw_iconst X dL_files_511 (v := nI 0) (by decide) ?_
      exact K _ trivial
    · refine aw_iconst X dL_files_507 (v := nI 1) (by decide) ?_
      refine aw_goto X dL_files_508 (tgt := 512) (by decide) ?_
      exact K _ trivial
  refine aw_isub X dL_files_512 ?_
  refine aw_any (fun m => ?_)
  refine aw_istore8 X dL_files_513 (by rw [hn]; decide) rfl ?_
  refine aw_splB (pm := 540) (P := inI p ((τ.1.2 i).length + 1)) (fun K => ?_) ?_
  · refine aw_iload6 X dL_files_515 ?_
    refine aw_ifeq X dL_files_517 (tgt := 539) (by decide) (fun c9 => by first | exact absurd ((by decide : ¬ nI 1 = 0)) c9 | exact absurd c9 ((by decide : ¬ nI 1 = 0))) (fun _ => ?_)
    refine aw_iload7 X dL_files_520 ?_
    refine aw_iflt X dL_files_522 (tgt := 539) (by decide) (fun c => ?_) (fun c => ?_)
    · refine aw_iconst X dL_files_539 (v := nI 0) (by decide) ?_
      exact aw_b0 (fun e => e.1 c) K
    · refine aw_iload7 X dL_files_525 ?_
      refine aw_aload4 X dL_files_527 ?_
      refine aw_iload5 X dL_files_529 ?_
      refine aw_iald X dL_files_531 hn1 rfl (show i < 4 from hi) (by decide) ?_
      refine aw_int l3 ?_
      refine aw_icmpgt X dL_files_532 (tgt := 539) (by decide) (fun c2 => ?_) (fun c2 => ?_)
      · refine aw_iconst X dL_files_539 (v := nI 0) (by decide) ?_
        exact aw_b0 (fun e => by
          obtain ⟨u1, u2, u3⟩ := inI_j e (by omega)
          rw [u2] at c2
          have := (nI_ltI (by omega) (by omega)).mp c2
          omega) K
      · refine aw_iconst X dL_files_535 (v := nI 1) (by decide) ?_
        refine aw_goto X dL_files_536 (tgt := 540) (by decide) ?_
        exact aw_b1 ⟨c, by
          obtain ⟨u, hu, e⟩ := nI_of c
          rw [e] at c2 ⊢
          exact nI_lt (by
            rcases Nat.lt_or_ge (τ.1.2 i).length u with q | q
            · exact absurd (nI_lt q hu) c2
            · omega) (by omega)⟩ K
  refine aw_istore9 X dL_files_540 (by rw [hn]; decide) rfl ?_
  by_cases hp : inI p ((τ.1.2 i).length + 1)
  · rw [am_b1 hp]
    obtain ⟨j1, j2, j3⟩ := inI_j hp (by omega)
    generalize hj9 : ix p = q at j1 j2 j3
    subst j2
    by_cases hm : rgI m (nI 0) (nI ((τ.1.2 i).length - q))
    · obtain ⟨-, m2, m3⟩ := rgI_j hm (by omega) (by omega)
      generalize hm9 : ix m = t at m2 m3
      subst m3
      refine aw_iload9 X dL_files_542 ?_
      refine aw_ifne X dL_files_544 (tgt := 552) (by decide) (fun _ => ?_) (fun c9 => by first | exact absurd ((by decide : ¬ nI 1 = 0)) c9 | exact absurd c9 ((by decide : ¬ nI 1 = 0)))
      refine aw_iload8 X dL_files_552 ?_
      refine aw_iflt X dL_files_554 (tgt := 570) (by decide) (fun c9 => by first | exact absurd (nI_pos (by omega)) c9 | exact absurd c9 (nI_pos (by omega))) (fun _ => ?_)
      refine aw_iload8 X dL_files_557 ?_
      refine aw_aload4 X dL_files_559 ?_
      refine aw_iload5 X dL_files_561 ?_
      refine aw_iald X dL_files_563 hn1 rfl (show i < 4 from hi) (by decide) ?_
      refine aw_int l3 ?_
      refine aw_iload7 X dL_files_564 ?_
      refine aw_isub X dL_files_566 ?_
      refine aw_int (pk_sub (by omega)) ?_
      refine aw_icmple X dL_files_567 (tgt := 575) (by decide) (fun _ => ?_) (fun c9 => by first | exact absurd (nI_le m2 (by omega)) c9 | exact absurd c9 (nI_le m2 (by omega)))
      refine aw_aload4 X dL_files_575 ?_
      refine aw_iload5 X dL_files_577 ?_
      refine aw_iald X dL_files_579 hn1 rfl (show i < 4 from hi) (by decide) ?_
      refine aw_int l3 ?_
      refine aw_iload8 X dL_files_580 ?_
      refine aw_isub X dL_files_582 ?_
      refine aw_int (pk_sub (by omega)) ?_
      refine aw_istore10 X dL_files_583 (by rw [hn]; decide) rfl ?_
      refine aw_iload10 X dL_files_585 ?_
      refine aw_iflt X dL_files_587 (tgt := 637) (by decide) (fun c9 => by first | exact absurd (nI_pos (by omega)) c9 | exact absurd c9 (nI_pos (by omega))) (fun _ => ?_)
      refine aw_aload4 X dL_files_590 ?_
      refine aw_iload5 X dL_files_592 ?_
      refine aw_iload10 X dL_files_594 ?_
      refine aw_tst X 1 dL_files_596 hT (by decide) rfl (show i < 4 from hi) (by decide) (fun M0 h0 => ?_)
      refine aw_iload7 X dL_files_597 ?_
      refine aw_istore11 X dL_files_599 (by rw [hn]; decide) rfl ?_
      refine aw_loopM (fun (k : Nat) M1 => q ≤ k ∧ k ≤ (τ.1.2 i).length - t ∧ ∃ F1, tbL (zG Z) x M M1 F1 ∧ F1 1 = upd (F 1) i (nI ((τ.1.2 i).length - t)) ∧ (∀ j, 2 ≤ j → F1 j = F j) ∧ (∀ j, j < 16 * i + q ∨ 16 * i + k ≤ j → F1 0 j = F 0 j) ∧ ∀ j, q ≤ j → j < k → F1 0 (16 * i + j) = F 0 (16 * i + j + t)) (fun k => (τ.1.2 i).length - t - k) (fun k => [some (.ref x), some (.int kd), some (.int y), some (.ref (x + 271)), some (.ref (x + 272)), some (.int (nI i)), some (.int (nI 1)), some (.int (nI q)), some (.int (nI t)), some (.int (nI 1)), some (.int (nI ((τ.1.2 i).length - t))), some (.int (nI k)), none]) ?_ q ⟨Nat.le_refl _, by omega, _, h0, va_up_self _ _ _, fun j hj => va_up_ne _ _ (by omega), fun j hj => by rw [va_up_ne _ _ (by decide)], fun j h1 h2 => by omega⟩
      rintro k M1 ⟨hk1, hk2, F1, h1, n1, o1, f1, f2⟩ ih
      try dsimp only at ih ⊢
      refine aw_iload11 X dL_files_601 ?_
      refine aw_iload10 X dL_files_603 ?_
      refine aw_icmpge X dL_files_605 (tgt := 637) (by decide) (fun c3 => ?_) (fun c3 => ?_)
      · have e : k = (τ.1.2 i).length - t := by have := (nI_leI (by omega) (by omega)).mp c3; omega
        refine aw_aload0 X dL_files_637 ?_
        refine aw_iconst X dL_files_638 (v := nI 2) (by decide) ?_
        refine aw_iload5 X dL_files_639 ?_
        refine aw_iload7 X dL_files_641 ?_
        refine aw_iload8 X dL_files_643 ?_
        refine aw_iconst X dL_files_645 (v := nI 0) (by decide) ?_
        refine aw_callSH X hN (w_remove hfl (hs.tb h1)) kL_142 dL_files_646 rfl rfl (by first | decide | exact Nat.le_of_ble_eq_true rfl) (by rw [hR]; exact ⟨by first | decide | exact Nat.le_of_ble_eq_true rfl | (dsimp only; omega), by first | decide | exact Nat.le_of_ble_eq_true rfl | (dsimp only; omega)⟩) (by rw [hR]; exact ⟨by first | decide | exact Nat.le_of_ble_eq_true rfl | (dsimp only; omega), by first | decide | exact Nat.le_of_ble_eq_true rfl | (dsimp only; omega)⟩) (fun v M4 hv => ?_)
        obtain ⟨rfl, hs1, hk9⟩ := hv
        rw [spRem_ok hL.1 hi l1 (by omega)] at hs1 ⊢
        refine aw_iload10 X dL_files_649 ?_
        refine aw_icmpne X dL_files_651 (tgt := 658) (by decide) (fun c9 => by first | exact absurd ((rfl : wr (0, nI ((τ.1.2 i).length - t), ((τ.1.1, va_up τ.1.2 i ((τ.1.2 i).take q ++ (τ.1.2 i).drop (q + t))), τ.2)) = nI ((τ.1.2 i).length - t))) c9 | exact absurd c9 ((rfl : wr (0, nI ((τ.1.2 i).length - t), ((τ.1.1, va_up τ.1.2 i ((τ.1.2 i).take q ++ (τ.1.2 i).drop (q + t))), τ.2)) = nI ((τ.1.2 i).length - t)))) (fun _ => ?_)
        refine aw_iconst X dL_files_654 (v := nI 1) (by decide) ?_
        refine aw_goto X dL_files_655 (tgt := 659) (by decide) ?_
        refine aw_widen (k' := 5) (n' := 30) (Nat.le_of_ble_eq_true rfl) (Nat.le_of_ble_eq_true rfl) ?_
        have hlen : ((τ.1.2 i).take q ++ (τ.1.2 i).drop (q + t)).length = (τ.1.2 i).length - t := by
          rw [List.length_append, List.length_take, List.length_drop]
          omega
        have htl : ((τ.1.2 i).take q).length = q := by rw [List.length_take]; omega
        have hfin := hL.2.1.set (i := i) (bs := (τ.1.2 i).take q ++ (τ.1.2 i).drop (q + t)) (g := F1 0) (m := F1 1) (by omega) ((l2.take q).app (l2.drop (q + t))) (by rw [n1, pk_us, hlen]) (fun j _ hj => by rw [n1, pk_un hj]) (fun j hj => ?_) (fun j hj => f1 j (by omega))
        · refine aw_ireturn X (ty := .boolean) hr (by first | rfl | decide | assumption) dL_files_659 (⟨rfl, _, lS.of h1 (hL.files hfin o1) hs1 hk9 eD_ok⟩)
        · rw [hlen] at hj
          rw [app_get, htl]
          by_cases q9 : j < q
          · rw [if_pos q9, take_get q9, f1 _ (by omega)]
            exact l4 j (by omega)
          · rw [if_neg q9, f2 j (by omega) (by omega), drop_get, Nat.add_assoc, l4 (j + t) (by omega), show q + t + (j - q) = j + t by omega]
      · have hlt : k < (τ.1.2 i).length - t := by
          rcases Nat.lt_or_ge k ((τ.1.2 i).length - t) with e | e
          · exact e
          · exact absurd (nI_le e (by omega)) c3
        refine aw_aload3 X dL_files_608 ?_
        refine aw_bipush X dL_files_609 (v := nI 16) (by decide) ?_
        refine aw_iload5 X dL_files_611 ?_
        refine aw_imul X dL_files_613 ?_
        first | with_reducible refine aw_int (pk_mul _ _) ?_ | skip
        refine aw_iload11 X dL_files_614 ?_
        refine aw_iadd X dL_files_616 ?_
        first | with_reducible refine aw_int (nI_add _ _) ?_ | skip
        refine aw_aload3 X dL_files_617 ?_
        refine aw_bipush X dL_files_618 (v := nI 16) (by decide) ?_
        refine aw_iload5 X dL_files_620 ?_
        refine aw_imul X dL_files_622 ?_
        first | with_reducible refine aw_int (pk_mul _ _) ?_ | skip
        refine aw_iload11 X dL_files_623 ?_
        refine aw_iadd X dL_files_625 ?_
        first | with_reducible refine aw_int (nI_add _ _) ?_ | skip
        refine aw_iload8 X dL_files_626 ?_
        refine aw_iadd X dL_files_628 ?_
        first | with_reducible refine aw_int (nI_add _ _) ?_ | skip
        refine aw_iald X dL_files_629 (h1.at 0 (by decide)) rfl (show 16 * i + k + t < 64 by omega) (by decide) ?_
        refine aw_tst X 0 dL_files_630 h1 (by decide) rfl (show 16 * i + k < 64 by omega) (by decide) (fun M2 h2 => ?_)
        refine aw_iinc11 X dL_files_631 (by rw [hn]; decide) (am_inc _ 1) rfl ?_
        refine aw_goto X dL_files_634 (tgt := 601) (by decide) ?_
        refine ih (k + 1) M2 ⟨by omega, by omega, _, h2, ?_, fun j hj => ?_, fun j hj => ?_, fun j hj1 hj2 => ?_⟩ (by omega)
        · rw [va_up_ne _ _ (by decide)]
          exact n1
        · rw [va_up_ne _ _ (by omega)]
          exact o1 j hj
        · rw [va_up_self, pk_un (by omega)]
          exact f1 j (by omega)
        · rw [va_up_self]
          by_cases e : j = k
          · rw [e, pk_us]
            exact f1 _ (by omega)
          · rw [pk_un (by omega)]
            exact f2 j hj1 (by omega)
    · refine aw_iload9 X dL_files_542 ?_
      refine aw_ifne X dL_files_544 (tgt := 552) (by decide) (fun _ => ?_) (fun c9 => by first | exact absurd ((by decide : ¬ nI 1 = 0)) c9 | exact absurd c9 ((by decide : ¬ nI 1 = 0)))
      refine aw_spl0 (pm := 570) (fun K => ?_) ?_
      · refine aw_iload8 X dL_files_552 ?_
        refine aw_iflt X dL_files_554 (tgt := 570) (by decide) (fun c => ?_) (fun c => ?_)
        · exact K
        · refine aw_iload8 X dL_files_557 ?_
          refine aw_aload4 X dL_files_559 ?_
          refine aw_iload5 X dL_files_561 ?_
          refine aw_iald X dL_files_563 hn1 rfl (show i < 4 from hi) (by decide) ?_
          refine aw_int l3 ?_
          refine aw_iload7 X dL_files_564 ?_
          refine aw_isub X dL_files_566 ?_
          refine aw_int (pk_sub (by omega)) ?_
          refine aw_icmple X dL_files_567 (tgt := 575) (by decide) (fun c2 => ?_) (fun c2 => ?_)
          · exact absurd ⟨c, c2⟩ hm
          · exact K
      refine aw_bipush X dL_files_570 (v := -102) (by decide) ?_
      refine aw_goto X dL_files_572 (tgt := 583) (by decide) ?_
      refine aw_istore10 X dL_files_583 (by rw [hn]; decide) rfl ?_
      refine aw_iload10 X dL_files_585 ?_
      refine aw_iflt X dL_files_587 (tgt := 637) (by decide) (fun _ => ?_) (fun c9 => by first | exact absurd ((by decide : (-102 : Int32) < 0)) c9 | exact absurd c9 ((by decide : (-102 : Int32) < 0)))
      refine aw_aload0 X dL_files_637 ?_
      refine aw_iconst X dL_files_638 (v := nI 2) (by decide) ?_
      refine aw_iload5 X dL_files_639 ?_
      refine aw_iload7 X dL_files_641 ?_
      refine aw_iload8 X dL_files_643 ?_
      refine aw_iconst X dL_files_645 (v := nI 0) (by decide) ?_
      refine aw_callSH X hN (w_remove hfl hs) kL_142 dL_files_646 rfl rfl (by first | decide | exact Nat.le_of_ble_eq_true rfl) (by rw [hR]; exact ⟨by first | decide | exact Nat.le_of_ble_eq_true rfl | (dsimp only; omega), by first | decide | exact Nat.le_of_ble_eq_true rfl | (dsimp only; omega)⟩) (by rw [hR]; exact ⟨by first | decide | exact Nat.le_of_ble_eq_true rfl | (dsimp only; omega), by first | decide | exact Nat.le_of_ble_eq_true rfl | (dsimp only; omega)⟩) (fun v M1 hv => ?_)
      obtain ⟨rfl, hs1, hk1⟩ := hv
      rw [spRem_bad hL.1 hi l1 (by omega) hm] at hs1 ⊢
      refine aw_iload10 X dL_files_649 ?_
      refine aw_icmpne X dL_files_651 (tgt := 658) (by decide) (fun c9 => by first | exact absurd ((rfl : wr (2, 0, τ) = -102)) c9 | exact absurd c9 ((rfl : wr (2, 0, τ) = -102))) (fun _ => ?_)
      refine aw_iconst X dL_files_654 (v := nI 1) (by decide) ?_
      refine aw_goto X dL_files_655 (tgt := 659) (by decide) ?_
      refine aw_widen (k' := 5) (n' := 30) (Nat.le_of_ble_eq_true rfl) (Nat.le_of_ble_eq_true rfl) ?_
      refine aw_ireturn X (ty := .boolean) hr (by first | rfl | decide | assumption) dL_files_659 (⟨rfl, τ, lS.of hT hL hs1 hk1 eD_ok⟩)
  · rw [am_b0 hp]
    refine aw_iload9 X dL_files_542 ?_
    refine aw_ifne X dL_files_544 (tgt := 552) (by decide) (fun c9 => by first | exact absurd ((rfl : nI 0 = 0)) c9 | exact absurd c9 ((rfl : nI 0 = 0))) (fun _ => ?_)
    refine aw_bipush X dL_files_547 (v := -101) (by decide) ?_
    refine aw_goto X dL_files_549 (tgt := 583) (by decide) ?_
    refine aw_istore10 X dL_files_583 (by rw [hn]; decide) rfl ?_
    refine aw_iload10 X dL_files_585 ?_
    refine aw_iflt X dL_files_587 (tgt := 637) (by decide) (fun _ => ?_) (fun c9 => by first | exact absurd ((by decide : (-101 : Int32) < 0)) c9 | exact absurd c9 ((by decide : (-101 : Int32) < 0)))
    refine aw_aload0 X dL_files_637 ?_
    refine aw_iconst X dL_files_638 (v := nI 2) (by decide) ?_
    refine aw_iload5 X dL_files_639 ?_
    refine aw_iload7 X dL_files_641 ?_
    refine aw_iload8 X dL_files_643 ?_
    refine aw_iconst X dL_files_645 (v := nI 0) (by decide) ?_
    refine aw_callSH X hN (w_remove hfl hs) kL_142 dL_files_646 rfl rfl (by first | decide | exact Nat.le_of_ble_eq_true rfl) (by rw [hR]; exact ⟨by first | decide | exact Nat.le_of_ble_eq_true rfl | (dsimp only; omega), by first | decide | exact Nat.le_of_ble_eq_true rfl | (dsimp only; omega)⟩) (by rw [hR]; exact ⟨by first | decide | exact Nat.le_of_ble_eq_true rfl | (dsimp only; omega), by first | decide | exact Nat.le_of_ble_eq_true rfl | (dsimp only; omega)⟩) (fun v M1 hv => ?_)
    obtain ⟨rfl, hs1, hk1⟩ := hv
    have e0 : spRemove τ (nI i) p m = (1, 0, τ) := by
      rw [spRemove]
      simp only [tF, isF, hL.1, ix_n (show i < 2 ^ 31 by omega)]
      rw [if_neg (fun q => hp q.2)]
    rw [e0] at hs1 ⊢
    refine aw_iload10 X dL_files_649 ?_
    refine aw_icmpne X dL_files_651 (tgt := 658) (by decide) (fun c9 => by first | exact absurd ((rfl : wr (1, 0, τ) = -101)) c9 | exact absurd c9 ((rfl : wr (1, 0, τ) = -101))) (fun _ => ?_)
    refine aw_iconst X dL_files_654 (v := nI 1) (by decide) ?_
    refine aw_goto X dL_files_655 (tgt := 659) (by decide) ?_
    refine aw_widen (k' := 5) (n' := 30) (Nat.le_of_ble_eq_true rfl) (Nat.le_of_ble_eq_true rfl) ?_
    refine aw_ireturn X (ty := .boolean) hr (by first | rfl | decide | assumption) dL_files_659 (⟨rfl, τ, lS.of hT hL hs1 hk1 eD_ok⟩)
theorem fi_cp0 {Z : AZ} {M : AM} {x : Nat} {τ : TS} {F : Nat → Nat → Int32} {kd y w : Int32} (C : fiC Z M x τ F) (hw : ¬ inI w 4) : AW Z (am_Q Z (lP (zG Z) x) (fun _ _ => False) 5 30) M 0 0 660 [some (.ref x), some (.int kd), some (.int y), some (.ref (x + 271)), some (.ref (x + 272)), some (.int w), some (.int (nI 0)), none, none, none, none, none, none] [] := by
  obtain ⟨X, hn, hR, hr, hN, hfl, hs, hT, hL⟩ := C
  refine aw_iload2 X dL_files_660 ?_
  refine aw_iconst X dL_files_661 (v := nI 4) (by decide) ?_
  refine aw_ishr X dL_files_662 ?_
  refine aw_iconst X dL_files_663 (v := nI 5) (by decide) ?_
  refine aw_callS X (c_L_some (N := 5) (by decide) (by decide)) kL_136 dL_files_664 rfl rfl (by first | decide | exact Nat.le_of_ble_eq_true rfl) (by rw [hR]; exact ⟨by first | decide | exact Nat.le_of_ble_eq_true rfl | (dsimp only; omega), by first | decide | exact Nat.le_of_ble_eq_true rfl | (dsimp only; omega)⟩) (by rw [hR]; exact ⟨by first | decide | exact Nat.le_of_ble_eq_true rfl | (dsimp only; omega), by first | decide | exact Nat.le_of_ble_eq_true rfl | (dsimp only; omega)⟩) (fun v M hv => ?_)
  obtain ⟨rfl, j, hj, rfl⟩ := hv
  refine aw_istore7 X dL_files_667 (by rw [hn]; decide) rfl ?_
  refine aw_iload6 X dL_files_669 ?_
  refine aw_ifeq X dL_files_671 (tgt := 684) (by decide) (fun _ => ?_) (fun c9 => by first | exact absurd ((rfl : nI 0 = 0)) c9 | exact absurd c9 ((rfl : nI 0 = 0)))
  refine aw_iconst X dL_files_684 (v := nI 0) (by decide) ?_
  refine aw_istore8 X dL_files_685 (by rw [hn]; decide) rfl ?_
  refine aw_iload8 X dL_files_687 ?_
  refine aw_ifeq X dL_files_689 (tgt := 711) (by decide) (fun _ => ?_) (fun c9 => by first | exact absurd ((rfl : nI 0 = 0)) c9 | exact absurd c9 ((rfl : nI 0 = 0)))
  refine aw_aload0 X dL_files_711 ?_
  refine aw_iload5 X dL_files_712 ?_
  refine aw_iload7 X dL_files_714 ?_
  refine aw_callSH X hN (w_copy hfl hs) kL_150 dL_files_716 rfl rfl (by first | decide | exact Nat.le_of_ble_eq_true rfl) (by rw [hR]; exact ⟨by first | decide | exact Nat.le_of_ble_eq_true rfl | (dsimp only; omega), by first | decide | exact Nat.le_of_ble_eq_true rfl | (dsimp only; omega)⟩) (by rw [hR]; exact ⟨by first | decide | exact Nat.le_of_ble_eq_true rfl | (dsimp only; omega), by first | decide | exact Nat.le_of_ble_eq_true rfl | (dsimp only; omega)⟩) (fun v M1 hv => ?_)
  obtain ⟨rfl, hs1, hk1⟩ := hv
  have e0 : spCopy τ w (nI j) = (1, 0, τ) := by rw [spCopy, if_neg (fun q => hw (by have := q.1; rwa [isF, hL.1] at this))]
  rw [e0] at hs1 ⊢
  refine aw_iload8 X dL_files_719 ?_
  refine aw_ifeq X dL_files_721 (tgt := 728) (by decide) (fun _ => ?_) (fun c9 => by first | exact absurd ((rfl : nI 0 = 0)) c9 | exact absurd c9 ((rfl : nI 0 = 0)))
  refine aw_bipush X dL_files_728 (v := -101) (by decide) ?_
  refine aw_icmpne X dL_files_730 (tgt := 737) (by decide) (fun c9 => by first | exact absurd ((rfl : wr (1, 0, τ) = -101)) c9 | exact absurd c9 ((rfl : wr (1, 0, τ) = -101))) (fun _ => ?_)
  refine aw_iconst X dL_files_733 (v := nI 1) (by decide) ?_
  refine aw_goto X dL_files_734 (tgt := 738) (by decide) ?_
  refine aw_widen (k' := 5) (n' := 30) (Nat.le_of_ble_eq_true rfl) (Nat.le_of_ble_eq_true rfl) ?_
  refine aw_ireturn X (ty := .boolean) hr (by first | rfl | decide | assumption) dL_files_738 (⟨rfl, τ, lS.of hT hL hs1 hk1 eD_ok⟩)
theorem fi_cp1 {Z : AZ} {M : AM} {x i : Nat} {τ : TS} {F : Nat → Nat → Int32} {kd y : Int32} (C : fiC Z M x τ F) (hi : i < 4) : AW Z (am_Q Z (lP (zG Z) x) (fun _ _ => False) 5 30) M 0 0 660 [some (.ref x), some (.int kd), some (.int y), some (.ref (x + 271)), some (.ref (x + 272)), some (.int (nI i)), some (.int (nI 1)), none, none, none, none, none, none] [] := by
  obtain ⟨X, hn, hR, hr, hN, hfl, hs, hT, hL⟩ := C
  obtain ⟨l1, l2, l3, l4⟩ := hL.2.1 i hi
  have hn1 := hT.at 1 (by decide)
  have hn0 := hT.at 0 (by decide)
  refine aw_iload2 X dL_files_660 ?_
  refine aw_iconst X dL_files_661 (v := nI 4) (by decide) ?_
  refine aw_ishr X dL_files_662 ?_
  refine aw_iconst X dL_files_663 (v := nI 5) (by decide) ?_
  refine aw_callS X (c_L_some (N := 5) (by decide) (by decide)) kL_136 dL_files_664 rfl rfl (by first | decide | exact Nat.le_of_ble_eq_true rfl) (by rw [hR]; exact ⟨by first | decide | exact Nat.le_of_ble_eq_true rfl | (dsimp only; omega), by first | decide | exact Nat.le_of_ble_eq_true rfl | (dsimp only; omega)⟩) (by rw [hR]; exact ⟨by first | decide | exact Nat.le_of_ble_eq_true rfl | (dsimp only; omega), by first | decide | exact Nat.le_of_ble_eq_true rfl | (dsimp only; omega)⟩) (fun v M hv => ?_)
  obtain ⟨rfl, j, hj, rfl⟩ := hv
  refine aw_istore7 X dL_files_667 (by rw [hn]; decide) rfl ?_
  refine aw_iload6 X dL_files_669 ?_
  refine aw_ifeq X dL_files_671 (tgt := 684) (by decide) (fun c9 => by first | exact absurd ((by decide : ¬ nI 1 = 0)) c9 | exact absurd c9 ((by decide : ¬ nI 1 = 0))) (fun _ => ?_)
  refine aw_iload7 X dL_files_674 ?_
  refine aw_iconst X dL_files_676 (v := nI 4) (by decide) ?_
  by_cases hj4 : j < 4
  · refine aw_icmpge X dL_files_677 (tgt := 684) (by decide) (fun c9 => by first | exact absurd (nI_ge hj4 (by decide)) c9 | exact absurd c9 (nI_ge hj4 (by decide))) (fun _ => ?_)
    refine aw_iconst X dL_files_680 (v := nI 1) (by decide) ?_
    refine aw_goto X dL_files_681 (tgt := 685) (by decide) ?_
    refine aw_istore8 X dL_files_685 (by rw [hn]; decide) rfl ?_
    refine aw_iload8 X dL_files_687 ?_
    refine aw_ifeq X dL_files_689 (tgt := 711) (by decide) (fun c9 => by first | exact absurd ((by decide : ¬ nI 1 = 0)) c9 | exact absurd c9 ((by decide : ¬ nI 1 = 0))) (fun _ => ?_)
    refine aw_aload3 X dL_files_692 ?_
    refine aw_aload4 X dL_files_693 ?_
    refine aw_iload7 X dL_files_695 ?_
    refine aw_aload3 X dL_files_697 ?_
    refine aw_bipush X dL_files_698 (v := nI 16) (by decide) ?_
    refine aw_iload5 X dL_files_700 ?_
    refine aw_imul X dL_files_702 ?_
    first | with_reducible refine aw_int (pk_mul _ _) ?_ | skip
    refine aw_aload4 X dL_files_703 ?_
    refine aw_iload5 X dL_files_705 ?_
    refine aw_iald X dL_files_707 hn1 rfl (show i < 4 from hi) (by decide) ?_
    refine aw_int l3 ?_
    refine aw_callS X (c_L_give (i := j) (from0 := 16 * i) (m := (τ.1.2 i).length) hn0 hn1 hn0 hj4 l1 (show 16 * i + (τ.1.2 i).length ≤ 64 by omega) (by decide) (by omega) (by omega) (fun _ => by omega)) kL_146 dL_files_708 rfl rfl (by first | decide | exact Nat.le_of_ble_eq_true rfl) (by rw [hR]; exact ⟨by first | decide | exact Nat.le_of_ble_eq_true rfl | (dsimp only; omega), by first | decide | exact Nat.le_of_ble_eq_true rfl | (dsimp only; omega)⟩) (by rw [hR]; exact ⟨by first | decide | exact Nat.le_of_ble_eq_true rfl | (dsimp only; omega), by first | decide | exact Nat.le_of_ble_eq_true rfl | (dsimp only; omega)⟩) (fun v M1 hv => ?_)
    obtain ⟨rfl, g, hM1, g1, g2⟩ := hv
    have h1 : tbL (zG Z) x M M1 (va_up (va_up F 1 (upd (F 1) j (nI (τ.1.2 i).length))) 0 g) := by
      rw [hM1]
      exact (hT.st (j := 1) (by decide) _).st (j := 0) (by decide) _
    have hfin := hL.2.1.set (i := j) (bs := τ.1.2 i) (g := g) (m := upd (F 1) j (nI (τ.1.2 i).length)) l1 l2 pk_us (fun j _ hj => pk_un hj) (fun k hk => (g1 k hk).trans (l4 k hk)) g2
    refine aw_aload0 X dL_files_711 ?_
    refine aw_iload5 X dL_files_712 ?_
    refine aw_iload7 X dL_files_714 ?_
    refine aw_callSH X hN (w_copy hfl (hs.tb h1)) kL_150 dL_files_716 rfl rfl (by first | decide | exact Nat.le_of_ble_eq_true rfl) (by rw [hR]; exact ⟨by first | decide | exact Nat.le_of_ble_eq_true rfl | (dsimp only; omega), by first | decide | exact Nat.le_of_ble_eq_true rfl | (dsimp only; omega)⟩) (by rw [hR]; exact ⟨by first | decide | exact Nat.le_of_ble_eq_true rfl | (dsimp only; omega), by first | decide | exact Nat.le_of_ble_eq_true rfl | (dsimp only; omega)⟩) (fun v M2 hv => ?_)
    obtain ⟨rfl, hs1, hk1⟩ := hv
    have e0 : spCopy τ (nI i) (nI j) = (0, 0, ((τ.1.1, va_up τ.1.2 j (τ.1.2 i)), τ.2)) := by
      rw [spCopy]
      simp only [tF, setF, isF, hL.1, ix_n (show i < 2 ^ 31 by omega), ix_n (show j < 2 ^ 31 by omega)]
      rw [if_pos ⟨inI_n hi (by decide), inI_n hj4 (by decide)⟩]
    rw [e0] at hs1 ⊢
    refine aw_iload8 X dL_files_719 ?_
    refine aw_ifeq X dL_files_721 (tgt := 728) (by decide) (fun c9 => by first | exact absurd ((by decide : ¬ nI 1 = 0)) c9 | exact absurd c9 ((by decide : ¬ nI 1 = 0))) (fun _ => ?_)
    refine aw_iconst X dL_files_724 (v := nI 0) (by decide) ?_
    refine aw_goto X dL_files_725 (tgt := 730) (by decide) ?_
    refine aw_icmpne X dL_files_730 (tgt := 737) (by decide) (fun c9 => by first | exact absurd ((rfl : wr (0, 0, ((τ.1.1, va_up τ.1.2 j (τ.1.2 i)), τ.2)) = nI 0)) c9 | exact absurd c9 ((rfl : wr (0, 0, ((τ.1.1, va_up τ.1.2 j (τ.1.2 i)), τ.2)) = nI 0))) (fun _ => ?_)
    refine aw_iconst X dL_files_733 (v := nI 1) (by decide) ?_
    refine aw_goto X dL_files_734 (tgt := 738) (by decide) ?_
    refine aw_widen (k' := 5) (n' := 30) (Nat.le_of_ble_eq_true rfl) (Nat.le_of_ble_eq_true rfl) ?_
    refine aw_ireturn X (ty := .boolean) hr (by first | rfl | decide | assumption) dL_files_738 (⟨rfl, _, lS.of h1 (hL.files hfin (fun j hj => by rw [va_up_ne _ _ (by omega), va_up_ne _ _ (by omega)])) hs1 hk1 eD_ok⟩)
  · refine aw_icmpge X dL_files_677 (tgt := 684) (by decide) (fun _ => ?_) (fun c9 => by first | exact absurd (nI_le (by omega) (by omega)) c9 | exact absurd c9 (nI_le (by omega) (by omega)))
    refine aw_iconst X dL_files_684 (v := nI 0) (by decide) ?_
    refine aw_istore8 X dL_files_685 (by rw [hn]; decide) rfl ?_
    refine aw_iload8 X dL_files_687 ?_
    refine aw_ifeq X dL_files_689 (tgt := 711) (by decide) (fun _ => ?_) (fun c9 => by first | exact absurd ((rfl : nI 0 = 0)) c9 | exact absurd c9 ((rfl : nI 0 = 0)))
    refine aw_aload0 X dL_files_711 ?_
    refine aw_iload5 X dL_files_712 ?_
    refine aw_iload7 X dL_files_714 ?_
    refine aw_callSH X hN (w_copy hfl hs) kL_150 dL_files_716 rfl rfl (by first | decide | exact Nat.le_of_ble_eq_true rfl) (by rw [hR]; exact ⟨by first | decide | exact Nat.le_of_ble_eq_true rfl | (dsimp only; omega), by first | decide | exact Nat.le_of_ble_eq_true rfl | (dsimp only; omega)⟩) (by rw [hR]; exact ⟨by first | decide | exact Nat.le_of_ble_eq_true rfl | (dsimp only; omega), by first | decide | exact Nat.le_of_ble_eq_true rfl | (dsimp only; omega)⟩) (fun v M1 hv => ?_)
    obtain ⟨rfl, hs1, hk1⟩ := hv
    have e0 : spCopy τ (nI i) (nI j) = (1, 0, τ) := by
      rw [spCopy, if_neg]
      intro q
      have q2 := q.2
      rw [isF, hL.1] at q2
      exact absurd q2.2 (nI_nlt (by omega) (by omega))
    rw [e0] at hs1 ⊢
    refine aw_iload8 X dL_files_719 ?_
    refine aw_ifeq X dL_files_721 (tgt := 728) (by decide) (fun _ => ?_) (fun c9 => by first | exact absurd ((rfl : nI 0 = 0)) c9 | exact absurd c9 ((rfl : nI 0 = 0)))
    refine aw_bipush X dL_files_728 (v := -101) (by decide) ?_
    refine aw_icmpne X dL_files_730 (tgt := 737) (by decide) (fun c9 => by first | exact absurd ((rfl : wr (1, 0, τ) = -101)) c9 | exact absurd c9 ((rfl : wr (1, 0, τ) = -101))) (fun _ => ?_)
    refine aw_iconst X dL_files_733 (v := nI 1) (by decide) ?_
    refine aw_goto X dL_files_734 (tgt := 738) (by decide) ?_
    refine aw_widen (k' := 5) (n' := 30) (Nat.le_of_ble_eq_true rfl) (Nat.le_of_ble_eq_true rfl) ?_
    refine aw_ireturn X (ty := .boolean) hr (by first | rfl | decide | assumption) dL_files_738 (⟨rfl, τ, lS.of hT hL hs1 hk1 eD_ok⟩)
theorem c_L_files {l : Launch} {G : AG} {M : AM} {x : Nat} {τ : TS} {kd y : Int32} (hfl : l.stackTraces = false) (S : lS G M x τ) : Cq l G yL_files cL_files 13 (some .boolean) { rL_files with cells := 5, slots := 30 } M [.ref x, .int kd, .int y, .ref (x + 271), .ref (x + 272)] ncs (lP G x) := by
  obtain ⟨hs, F, hT, hL⟩ := S
  refine Cq.of (by decide) [some (.ref x), some (.int kd), some (.int y), some (.ref (x + 271)), some (.ref (x + 272)), none, none, none, none, none, none, none, none] rfl (Nat.le_of_ble_eq_true rfl) ?_
  intro Z hZ hN
  obtain ⟨rfl, hn, rfl, hR, X, hr, hnm⟩ := hZ
  refine aw_iload2 X dL_files_0 ?_
  refine aw_iconst X dL_files_1 (v := nI 5) (by decide) ?_
  refine aw_callS X (c_L_some (N := 5) (by decide) (by decide)) kL_136 dL_files_2 rfl rfl (by first | decide | exact Nat.le_of_ble_eq_true rfl) (by rw [hR]; exact ⟨by first | decide | exact Nat.le_of_ble_eq_true rfl | (dsimp only; omega), by first | decide | exact Nat.le_of_ble_eq_true rfl | (dsimp only; omega)⟩) (by rw [hR]; exact ⟨by first | decide | exact Nat.le_of_ble_eq_true rfl | (dsimp only; omega), by first | decide | exact Nat.le_of_ble_eq_true rfl | (dsimp only; omega)⟩) (fun v M hv => ?_)
  obtain ⟨rfl, j, hj, rfl⟩ := hv
  refine aw_spl (pm := 22) (P := fun _ => True) (fun K => ?_) (fun v _ => ?_)
  · refine aw_iload2 X dL_files_5 ?_
    refine aw_bipush X dL_files_6 (v := nI 9) (by decide) ?_
    refine aw_ishr X dL_files_8 ?_
    refine aw_bipush X dL_files_9 (v := nI 13) (by decide) ?_
    refine aw_callS X (c_L_some (N := 13) (by decide) (by decide)) kL_136 dL_files_11 rfl rfl (by first | decide | exact Nat.le_of_ble_eq_true rfl) (by rw [hR]; exact ⟨by first | decide | exact Nat.le_of_ble_eq_true rfl | (dsimp only; omega), by first | decide | exact Nat.le_of_ble_eq_true rfl | (dsimp only; omega)⟩) (by rw [hR]; exact ⟨by first | decide | exact Nat.le_of_ble_eq_true rfl | (dsimp only; omega), by first | decide | exact Nat.le_of_ble_eq_true rfl | (dsimp only; omega)⟩) (fun v M hv => ?_)
    obtain ⟨rfl, j, hj, rfl⟩ := hv
    refine aw_ifne X dL_files_14 (tgt := 21) (by decide) (fun c => ?_) (fun c => ?_)
    · refine aw_iconst X dL_files_21 (v := nI 0) (by decide) ?_
      exact K _ trivial
    · refine aw_iconst X dL_files_17 (v := nI 1) (by decide) ?_
      refine aw_goto X dL_files_18 (tgt := 22) (by decide) ?_
      exact K _ trivial
  refine aw_isub X dL_files_22 ?_
  refine aw_any (fun w => ?_)
  refine aw_istore5 X dL_files_23 (by rw [hn]; decide) rfl ?_
  have C : fiC Z M x τ F := ⟨X, hn, hR, hr, hN, hfl, hs, hT, hL⟩
  refine aw_splB (pm := 41) (P := inI w 4) (fun K => ?_) ?_
  · refine aw_iload5 X dL_files_25 ?_
    refine aw_iflt X dL_files_27 (tgt := 40) (by decide) (fun c => ?_) (fun c => ?_)
    · refine aw_iconst X dL_files_40 (v := nI 0) (by decide) ?_
      exact aw_b0 (fun e => e.1 c) K
    · refine aw_iload5 X dL_files_30 ?_
      refine aw_iconst X dL_files_32 (v := nI 4) (by decide) ?_
      refine aw_icmpge X dL_files_33 (tgt := 40) (by decide) (fun c2 => ?_) (fun c2 => ?_)
      · refine aw_iconst X dL_files_40 (v := nI 0) (by decide) ?_
        exact aw_b0 (fun e => absurd c2 (Int32.not_le.mpr e.2)) K
      · refine aw_iconst X dL_files_36 (v := nI 1) (by decide) ?_
        refine aw_goto X dL_files_37 (tgt := 41) (by decide) ?_
        exact aw_b1 (inI_of c c2) K
  refine aw_istore6 X dL_files_41 (by rw [hn]; decide) rfl ?_
  by_cases hw : inI w 4
  · rw [am_b1 hw]
    obtain ⟨w1, w2, -⟩ := inI_j hw (by decide)
    generalize ix w = i at w1 w2
    subst w2
    refine aw_iload1 X dL_files_43 ?_
    refine aw_iconst X dL_files_44 (v := nI 2) (by decide) ?_
    refine aw_icmpge X dL_files_45 (tgt := 260) (by decide) (fun c => ?_) (fun c => ?_)
    · refine aw_iload1 X dL_files_260 ?_
      refine aw_iconst X dL_files_261 (v := nI 2) (by decide) ?_
      refine aw_icmpne X dL_files_262 (tgt := 470) (by decide) (fun c2 => ?_) (fun c2 => ?_)
      · refine aw_iload1 X dL_files_470 ?_
        refine aw_iconst X dL_files_471 (v := nI 3) (by decide) ?_
        refine aw_icmpne X dL_files_472 (tgt := 660) (by decide) (fun c3 => ?_) (fun c3 => ?_)
        · exact fi_cp1 C w1
        · exact fi_rem1 C w1
      · exact fi_ins1 C w1
    · exact fi_add1 C w1
  · rw [am_b0 hw]
    refine aw_iload1 X dL_files_43 ?_
    refine aw_iconst X dL_files_44 (v := nI 2) (by decide) ?_
    refine aw_icmpge X dL_files_45 (tgt := 260) (by decide) (fun c => ?_) (fun c => ?_)
    · refine aw_iload1 X dL_files_260 ?_
      refine aw_iconst X dL_files_261 (v := nI 2) (by decide) ?_
      refine aw_icmpne X dL_files_262 (tgt := 470) (by decide) (fun c2 => ?_) (fun c2 => ?_)
      · refine aw_iload1 X dL_files_470 ?_
        refine aw_iconst X dL_files_471 (v := nI 3) (by decide) ?_
        refine aw_icmpne X dL_files_472 (tgt := 660) (by decide) (fun c3 => ?_) (fun c3 => ?_)
        · exact fi_cp0 C hw
        · exact fi_rem0 C hw
      · exact fi_ins0 C hw
    · exact fi_add0 C hw
