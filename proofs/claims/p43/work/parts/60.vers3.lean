theorem vs_lose {Z : AZ} {M0 M : AM} {x e1 e2 v : Nat} {τ : TS} {F : Nat → Nat → Int32} {kd y w a b : Int32} (C : vC Z M0 M x e1 e2 τ F) (hv5 : v < 5) : AW Z (am_Q Z (lP (zG Z) x) (fun _ _ => False) 10 90) M 2 19 439 (vL x kd y w e1 e2 v a b [none, none, none, none, none]) [] := by
  obtain ⟨hs, hT⟩ := C.T KE.rf
  obtain ⟨X, hn, hR, hr, hN, hfl, -, -, hL, -⟩ := C
  obtain ⟨vc, vn, vd, va⟩ := hL.2.2.2.2.1
  refine aw_iload16 X dL_versions_439 ?_
  refine aw_aload12 X dL_versions_441 ?_
  refine aw_iconst X dL_versions_443 (v := nI 0) (by decide) ?_
  refine aw_iald X dL_versions_444 (hT.at 16 (by decide)) (rfl : nI 0 = nI 0) (show 0 < 1 by decide) (by decide) ?_
  refine aw_int vc ?_
  by_cases hv : v < τ.2.2.2.1.1
  · obtain ⟨q1, q2⟩ := va v hv
    have hv4 : inI (nI v) (tN τ) := inI_n hv (show τ.2.2.2.1.1 < 2 ^ 31 by omega)
    refine aw_icmpge X dL_versions_445 (tgt := 464) (by decide) (fun c9 => by first | exact absurd (nI_ge hv (by omega)) c9 | exact absurd c9 (nI_ge hv (by omega))) (fun _ => ?_)
    refine aw_iload16 X dL_versions_448 ?_
    refine aw_aload6 X dL_versions_450 ?_
    refine aw_aload8 X dL_versions_452 ?_
    refine aw_aload10 X dL_versions_454 ?_
    refine aw_aload11 X dL_versions_456 ?_
    refine aw_callS X (c_L_held (V := τ.2.2.2.1.2 v) (hT.at 10 (by decide)) (hT.at 12 (by decide)) (hT.at 14 (by decide)) (hT.at 15 (by decide)) (by omega) q1 q2) kL_177 dL_versions_458 rfl rfl (by first | decide | exact Nat.le_of_ble_eq_true rfl) (by rw [hR]; exact ⟨by first | decide | exact Nat.le_of_ble_eq_true rfl | (dsimp only; omega), by first | decide | exact Nat.le_of_ble_eq_true rfl | (dsimp only; omega)⟩) (by rw [hR]; exact ⟨by first | decide | exact Nat.le_of_ble_eq_true rfl | (dsimp only; omega), by first | decide | exact Nat.le_of_ble_eq_true rfl | (dsimp only; omega)⟩) (fun o M hv9 => ?_)
    obtain ⟨rfl, rfl⟩ := hv9
    have hh : held (τ.2.2.2.1.2 v) < 2 ^ 20 := by
      match hVi : τ.2.2.2.1.2 v, q1 with
      | none, _ => exact Nat.lt_of_le_of_lt (Nat.le_refl _) (by decide)
      | some (.inl bs), w => 
        have := w.1
        show bs.length < _
        omega
      | some (.inr (b, D)), w =>
        have hp : ∀ k, k ≤ D.2.1.length → pr D.2.1 k ≤ 200 * k := fun k => by
          induction k with
          | zero => exact fun _ => Nat.le_refl _
          | succ k ih =>
            intro hk
            have h1 := ih (by omega)
            have h2 := getD_mem (show k < D.2.1.length by omega)
            have h3 := w.1.2.2.2.1 _ h2
            have h4 := w.1.2.2.2.2.1 _ h2
            have h5 := w.2.2.1
            rw [pr]
            split
            · omega
            · rename_i hc
              have := h3 (by simpa using hc)
              omega
        have := hp _ (Nat.le_refl _)
        have := w.2.1
        show price D.2.1 < _
        unfold price
        omega
    refine aw_goto X dL_versions_461 (tgt := 466) (by decide) ?_
    refine aw_istore19 X dL_versions_466 (by rw [hn]; decide) rfl ?_
    refine aw_iload19 X dL_versions_468 ?_
    refine aw_iflt X dL_versions_470 (tgt := 479) (by decide) (fun c9 => by first | exact absurd (nI_pos (by omega)) c9 | exact absurd c9 (nI_pos (by omega))) (fun _ => ?_)
    refine aw_aload6 X dL_versions_473 ?_
    refine aw_iload16 X dL_versions_475 ?_
    refine aw_iconst X dL_versions_477 (v := nI 0) (by decide) ?_
    refine aw_tst X 10 dL_versions_478 hT (by decide) rfl (show v < 12 by omega) (by decide) (fun M1 h1 => ?_)
    refine aw_aload0 X dL_versions_479 ?_
    refine aw_bipush X dL_versions_480 (v := nI 9) (by decide) ?_
    refine aw_iload16 X dL_versions_482 ?_
    refine aw_iconst X dL_versions_484 (v := nI 0) (by decide) ?_
    refine aw_callSH X hN (w_lose hfl (hs.tb h1)) kL_181 dL_versions_485 rfl rfl (by first | decide | exact Nat.le_of_ble_eq_true rfl) (by rw [hR]; exact ⟨by first | decide | exact Nat.le_of_ble_eq_true rfl | (dsimp only; omega), by first | decide | exact Nat.le_of_ble_eq_true rfl | (dsimp only; omega)⟩) (by rw [hR]; exact ⟨by first | decide | exact Nat.le_of_ble_eq_true rfl | (dsimp only; omega), by first | decide | exact Nat.le_of_ble_eq_true rfl | (dsimp only; omega)⟩) (fun o M2 hv9 => ?_)
    obtain ⟨rfl, hs1, hk1⟩ := hv9
    have e0 : spLose τ (nI v) = (0, nI (held (τ.2.2.2.1.2 v)), setV τ τ.2.2.2.1.1 v none) := by
      rw [spLose, if_pos hv4]
      simp only [tV, tN, ix_n (show v < 2 ^ 31 by omega)]
    rw [e0] at hs1 ⊢
    refine aw_iload19 X dL_versions_488 ?_
    refine aw_icmpne X dL_versions_490 (tgt := 497) (by decide) (fun c9 => by first | exact absurd ((rfl : wr (0, nI (held (τ.2.2.2.1.2 v)), setV τ τ.2.2.2.1.1 v none) = nI (held (τ.2.2.2.1.2 v)))) c9 | exact absurd c9 ((rfl : wr (0, nI (held (τ.2.2.2.1.2 v)), setV τ τ.2.2.2.1.1 v none) = nI (held (τ.2.2.2.1.2 v))))) (fun _ => ?_)
    refine aw_iconst X dL_versions_493 (v := nI 1) (by decide) ?_
    refine aw_goto X dL_versions_494 (tgt := 498) (by decide) ?_
    refine aw_widen (k' := 10) (n' := 90) (Nat.le_of_ble_eq_true rfl) (Nat.le_of_ble_eq_true rfl) ?_
    have hfin : versR (va_up F 10 (upd (F 10) v (nI 0)) 9) (va_up F 10 (upd (F 10) v (nI 0)) 10) (va_up F 10 (upd (F 10) v (nI 0)) 11) (va_up F 10 (upd (F 10) v (nI 0)) 12) (va_up F 10 (upd (F 10) v (nI 0)) 13) (va_up F 10 (upd (F 10) v (nI 0)) 14) (va_up F 10 (upd (F 10) v (nI 0)) 15) (va_up F 10 (upd (F 10) v (nI 0)) 16) (τ.2.2.2.1.1, va_up τ.2.2.2.1.2 v none) := by
      show versR (F 9) (upd (F 10) v (nI 0)) (F 11) (F 12) (F 13) (F 14) (F 15) (F 16) _
      exact ⟨vc, vsR.set (show vsR (F 9) (F 10) (F 11) (F 12) (F 13) (F 14) (F 15) τ.2.2.2.1.1 τ.2.2.2.1.2 from ⟨vn, vd, va⟩) vn (fun t ht => Or.inr ht) trivial (show upd (F 10) v (nI 0) v = nI 0 from pk_us) (fun b D e => by cases e) (by omega) (fun _ _ => rfl) (fun k hk _ _ => pk_un hk) (fun _ _ => ⟨rfl, rfl, rfl, rfl⟩) (fun _ _ _ => rfl)⟩
    refine aw_ireturn X (ty := .boolean) hr (by first | rfl | decide | assumption) dL_versions_498 (⟨rfl, _, lS.of h1 (hL.vers hfin (fun j hj => va_up_ne _ _ (by omega))) hs1 hk1 eD_ok⟩)
  · refine aw_icmpge X dL_versions_445 (tgt := 464) (by decide) (fun _ => ?_) (fun c9 => by first | exact absurd (nI_le (by omega) (by omega)) c9 | exact absurd c9 (nI_le (by omega) (by omega)))
    refine aw_bipush X dL_versions_464 (v := -101) (by decide) ?_
    refine aw_istore19 X dL_versions_466 (by rw [hn]; decide) rfl ?_
    refine aw_iload19 X dL_versions_468 ?_
    refine aw_iflt X dL_versions_470 (tgt := 479) (by decide) (fun _ => ?_) (fun c9 => by first | exact absurd ((by decide : (-101 : Int32) < 0)) c9 | exact absurd c9 ((by decide : (-101 : Int32) < 0)))
    refine aw_aload0 X dL_versions_479 ?_
    refine aw_bipush X dL_versions_480 (v := nI 9) (by decide) ?_
    refine aw_iload16 X dL_versions_482 ?_
    refine aw_iconst X dL_versions_484 (v := nI 0) (by decide) ?_
    refine aw_callSH X hN (w_lose hfl hs) kL_181 dL_versions_485 rfl rfl (by first | decide | exact Nat.le_of_ble_eq_true rfl) (by rw [hR]; exact ⟨by first | decide | exact Nat.le_of_ble_eq_true rfl | (dsimp only; omega), by first | decide | exact Nat.le_of_ble_eq_true rfl | (dsimp only; omega)⟩) (by rw [hR]; exact ⟨by first | decide | exact Nat.le_of_ble_eq_true rfl | (dsimp only; omega), by first | decide | exact Nat.le_of_ble_eq_true rfl | (dsimp only; omega)⟩) (fun o M2 hv9 => ?_)
    obtain ⟨rfl, hs1, hk1⟩ := hv9
    have e0 : spLose τ (nI v) = (1, 0, τ) := by
      rw [spLose, if_neg]
      exact fun q => hv ((nI_ltI (by omega) (by omega)).mp q.2)
    rw [e0] at hs1 ⊢
    refine aw_iload19 X dL_versions_488 ?_
    refine aw_icmpne X dL_versions_490 (tgt := 497) (by decide) (fun c9 => by first | exact absurd ((rfl : wr (1, 0, τ) = -101)) c9 | exact absurd c9 ((rfl : wr (1, 0, τ) = -101))) (fun _ => ?_)
    refine aw_iconst X dL_versions_493 (v := nI 1) (by decide) ?_
    refine aw_goto X dL_versions_494 (tgt := 498) (by decide) ?_
    refine aw_widen (k' := 10) (n' := 90) (Nat.le_of_ble_eq_true rfl) (Nat.le_of_ble_eq_true rfl) ?_
    refine aw_ireturn X (ty := .boolean) hr (by first | rfl | decide | assumption) dL_versions_498 (⟨rfl, τ, lS.of hT hL hs1 hk1 eD_ok⟩)
theorem vs_rep0 {Z : AZ} {M0 M : AM} {x e1 e2 v : Nat} {τ : TS} {F : Nat → Nat → Int32} {kd y w a : Int32} (C : vC Z M0 M x e1 e2 τ F) (hv5 : v < 5) (hw : ¬ (inI w 4 ∧ v < τ.2.2.2.1.1)) : AW Z (am_Q Z (lP (zG Z) x) (fun _ _ => False) 10 90) M 2 19 504 (vL x kd y w e1 e2 v a (nI 0) [none, none, none, none, none]) [] := by
  obtain ⟨hs, hT⟩ := C.T KE.rf
  obtain ⟨X, hn, hR, hr, hN, hfl, -, -, hL, -⟩ := C
  have vn := hL.2.2.2.2.1.2.1
  refine aw_iload18 X dL_versions_504 ?_
  refine aw_ifeq X dL_versions_506 (tgt := 568) (by decide) (fun _ => ?_) (fun c9 => by first | exact absurd ((rfl : nI 0 = 0)) c9 | exact absurd c9 ((rfl : nI 0 = 0)))
  refine aw_aload0 X dL_versions_568 ?_
  refine aw_iload16 X dL_versions_569 ?_
  refine aw_iload15 X dL_versions_571 ?_
  refine aw_callSH X hN (w_replace hfl hs) kL_184 dL_versions_573 rfl rfl (by first | decide | exact Nat.le_of_ble_eq_true rfl) (by rw [hR]; exact ⟨by first | decide | exact Nat.le_of_ble_eq_true rfl | (dsimp only; omega), by first | decide | exact Nat.le_of_ble_eq_true rfl | (dsimp only; omega)⟩) (by rw [hR]; exact ⟨by first | decide | exact Nat.le_of_ble_eq_true rfl | (dsimp only; omega), by first | decide | exact Nat.le_of_ble_eq_true rfl | (dsimp only; omega)⟩) (fun o M2 hv9 => ?_)
  obtain ⟨rfl, hs1, hk1⟩ := hv9
  have e0 : spReplace τ (nI v) w = (1, 0, τ) := by
    rw [spReplace, if_neg]
    intro q
    obtain ⟨q1, q2⟩ := q
    rw [isF, hL.1] at q2
    exact hw ⟨q2, (nI_ltI (by omega) (by omega)).mp q1.2⟩
  rw [e0] at hs1 ⊢
  refine aw_iload18 X dL_versions_576 ?_
  refine aw_ifeq X dL_versions_578 (tgt := 585) (by decide) (fun _ => ?_) (fun c9 => by first | exact absurd ((rfl : nI 0 = 0)) c9 | exact absurd c9 ((rfl : nI 0 = 0)))
  refine aw_bipush X dL_versions_585 (v := -101) (by decide) ?_
  refine aw_icmpne X dL_versions_587 (tgt := 594) (by decide) (fun c9 => by first | exact absurd ((rfl : wr (1, 0, τ) = -101)) c9 | exact absurd c9 ((rfl : wr (1, 0, τ) = -101))) (fun _ => ?_)
  refine aw_iconst X dL_versions_590 (v := nI 1) (by decide) ?_
  refine aw_goto X dL_versions_591 (tgt := 595) (by decide) ?_
  refine aw_widen (k' := 10) (n' := 90) (Nat.le_of_ble_eq_true rfl) (Nat.le_of_ble_eq_true rfl) ?_
  refine aw_ireturn X (ty := .boolean) hr (by first | rfl | decide | assumption) dL_versions_595 (⟨rfl, τ, lS.of hT hL hs1 hk1 eD_ok⟩)
theorem vs_rep1 {Z : AZ} {M0 M : AM} {x e1 e2 v i : Nat} {τ : TS} {F : Nat → Nat → Int32} {kd y a : Int32} (C : vC Z M0 M x e1 e2 τ F) (hi : i < 4) (hv : v < τ.2.2.2.1.1) : AW Z (am_Q Z (lP (zG Z) x) (fun _ _ => False) 10 90) M 2 19 504 (vL x kd y (nI i) e1 e2 v a (nI 1) [none, none, none, none, none]) [] := by
  obtain ⟨hs, hT⟩ := C.T KE.rf
  obtain ⟨X, hn, hR, hr, hN, hfl, -, -, hL, -⟩ := C
  obtain ⟨vc, vn, vd, va⟩ := hL.2.2.2.2.1
  obtain ⟨l1, l2, l3, l4⟩ := hL.2.1 i hi
  have hF4 : isF τ (nI i) := by rw [isF, hL.1]; exact inI_n hi (by decide)
  have hv4 : inI (nI v) (tN τ) := inI_n hv (show τ.2.2.2.1.1 < 2 ^ 31 by omega)
  refine aw_iload18 X dL_versions_504 ?_
  refine aw_ifeq X dL_versions_506 (tgt := 568) (by decide) (fun c9 => by first | exact absurd ((by decide : ¬ nI 1 = 0)) c9 | exact absurd c9 ((by decide : ¬ nI 1 = 0))) (fun _ => ?_)
  refine aw_aload6 X dL_versions_509 ?_
  refine aw_iload16 X dL_versions_511 ?_
  refine aw_iconst X dL_versions_513 (v := nI 1) (by decide) ?_
  refine aw_tst X 10 dL_versions_514 hT (by decide) rfl (show v < 12 by omega) (by decide) (fun M1 h1 => ?_)
  refine aw_aload6 X dL_versions_515 ?_
  refine aw_bipush X dL_versions_517 (v := nI 8) (by decide) ?_
  refine aw_iload16 X dL_versions_519 ?_
  refine aw_iadd X dL_versions_521 ?_
  first | with_reducible refine aw_int (nI_add _ _) ?_ | skip
  refine aw_aload4 X dL_versions_522 ?_
  refine aw_iload15 X dL_versions_524 ?_
  refine aw_iald X dL_versions_526 (h1.at 1 (by decide)) rfl (show i < 4 from hi) (by decide) ?_
  refine aw_int (y := nI (τ.1.2 i).length) l3 ?_
  refine aw_tst X 10 dL_versions_527 h1 (by decide) rfl (show 8 + v < 12 by omega) (by decide) (fun M2 h2 => ?_)
  rw [va_up_self, va_up2] at h2
  obtain ⟨vp', hvp⟩ : ∃ vp', vp' = upd (upd (F 10) v (nI 1)) (8 + v) (nI (τ.1.2 i).length) := ⟨_, rfl⟩
  rw [← hvp] at h2
  have p1 : vp' v = nI 1 := by rw [hvp, pk_un (by omega), pk_us]
  have p3 : vp' (8 + v) = nI (τ.1.2 i).length := by rw [hvp, pk_us]
  have p4 : ∀ k, k ≠ v → k ≠ 4 + v → k ≠ 8 + v → vp' k = F 10 k := fun k h1 h2 h3 => by rw [hvp, pk_un h3, pk_un h1]
  refine aw_iconst X dL_versions_528 (v := nI 0) (by decide) ?_
  refine aw_istore19 X dL_versions_529 (by rw [hn]; decide) rfl ?_
  refine aw_loopM (fun (k : Nat) M5 => k ≤ (τ.1.2 i).length ∧ ∃ F1, tbL (zG Z) x M M5 F1 ∧ F1 10 = vp' ∧ (∀ t, t ≠ 9 → t ≠ 10 → F1 t = F t) ∧ (∀ t, t < 16 * v ∨ 16 * v + 16 ≤ t → F1 9 t = F 9 t) ∧ ∀ t, t < k → F1 9 (16 * v + t) = (τ.1.2 i).getD t 0) (fun k => (τ.1.2 i).length - k) (fun k => vL x kd y (nI i) e1 e2 v a (nI 1) [some (.int (nI k)), none, none, none, none]) ?_ 0 ⟨Nat.zero_le _, _, h2, va_up_self _ _ _, fun t _ h2 => va_up_ne _ _ h2, fun t _ => by rw [va_up_ne _ _ (by decide)], fun t ht => absurd ht (Nat.not_lt_zero _)⟩
  rintro k M5 ⟨hk, F1, h5, n1, o1, f1, f2⟩ ih
  try dsimp only at ih ⊢
  refine aw_iload19 X dL_versions_531 ?_
  refine aw_aload4 X dL_versions_533 ?_
  refine aw_iload15 X dL_versions_535 ?_
  refine aw_iald X dL_versions_537 (h5.at 1 (by decide)) rfl (show i < 4 from hi) (by decide) ?_
  refine aw_int (y := nI (τ.1.2 i).length) (by rw [o1 1 (by decide) (by decide)]; exact l3) ?_
  refine aw_icmpge X dL_versions_538 (tgt := 568) (by decide) (fun c3 => ?_) (fun c3 => ?_)
  · have e : k = (τ.1.2 i).length := by have := (nI_leI (by omega) (by omega)).mp c3; omega
    subst e
    refine aw_aload0 X dL_versions_568 ?_
    refine aw_iload16 X dL_versions_569 ?_
    refine aw_iload15 X dL_versions_571 ?_
    refine aw_callSH X hN (w_replace hfl (hs.tb h5)) kL_184 dL_versions_573 rfl rfl (by first | decide | exact Nat.le_of_ble_eq_true rfl) (by rw [hR]; exact ⟨by first | decide | exact Nat.le_of_ble_eq_true rfl | (dsimp only; omega), by first | decide | exact Nat.le_of_ble_eq_true rfl | (dsimp only; omega)⟩) (by rw [hR]; exact ⟨by first | decide | exact Nat.le_of_ble_eq_true rfl | (dsimp only; omega), by first | decide | exact Nat.le_of_ble_eq_true rfl | (dsimp only; omega)⟩) (fun o M6 hv9 => ?_)
    obtain ⟨rfl, hs1, hk1⟩ := hv9
    have e0 : spReplace τ (nI v) (nI i) = (0, 0, setV τ τ.2.2.2.1.1 v (some (.inl (τ.1.2 i)))) := by
      rw [spReplace, if_pos ⟨hv4, hF4⟩]
      simp only [tF, tN, ix_n (show v < 2 ^ 31 by omega), ix_n (show i < 2 ^ 31 by omega)]
    rw [e0] at hs1 ⊢
    refine aw_iload18 X dL_versions_576 ?_
    refine aw_ifeq X dL_versions_578 (tgt := 585) (by decide) (fun c9 => by first | exact absurd ((by decide : ¬ nI 1 = 0)) c9 | exact absurd c9 ((by decide : ¬ nI 1 = 0))) (fun _ => ?_)
    refine aw_iconst X dL_versions_581 (v := nI 0) (by decide) ?_
    refine aw_goto X dL_versions_582 (tgt := 587) (by decide) ?_
    refine aw_icmpne X dL_versions_587 (tgt := 594) (by decide) (fun c9 => by first | exact absurd ((rfl : wr (0, 0, setV τ τ.2.2.2.1.1 v (some (.inl (τ.1.2 i)))) = nI 0)) c9 | exact absurd c9 ((rfl : wr (0, 0, setV τ τ.2.2.2.1.1 v (some (.inl (τ.1.2 i)))) = nI 0))) (fun _ => ?_)
    refine aw_iconst X dL_versions_590 (v := nI 1) (by decide) ?_
    refine aw_goto X dL_versions_591 (tgt := 595) (by decide) ?_
    refine aw_widen (k' := 10) (n' := 90) (Nat.le_of_ble_eq_true rfl) (Nat.le_of_ble_eq_true rfl) ?_
    have hfin : versR (F1 9) (F1 10) (F1 11) (F1 12) (F1 13) (F1 14) (F1 15) (F1 16) (τ.2.2.2.1.1, va_up τ.2.2.2.1.2 v (some (.inl (τ.1.2 i)))) := by
      refine ⟨by rw [o1 16 (by decide) (by decide)]; exact vc, vsR.set (show vsR (F 9) (F 10) (F 11) (F 12) (F 13) (F 14) (F 15) τ.2.2.2.1.1 τ.2.2.2.1.2 from ⟨vn, vd, va⟩) vn (fun t ht => Or.inr ht) ⟨l1, l2⟩ ⟨by rw [n1]; exact p1, by rw [n1]; exact p3, f2⟩ (fun b D e => by cases e) (by omega) f1 (fun k h1 h2 h3 => by rw [n1]; exact p4 k h1 h2 h3) (fun k _ => ?_) (fun k _ _ => ?_)⟩
      · rw [o1 11 (by decide) (by decide), o1 12 (by decide) (by decide), o1 13 (by decide) (by decide), o1 14 (by decide) (by decide)]
        exact ⟨rfl, rfl, rfl, rfl⟩
      · rw [o1 15 (by decide) (by decide)]
    refine aw_ireturn X (ty := .boolean) hr (by first | rfl | decide | assumption) dL_versions_595 (⟨rfl, _, lS.of h5 (hL.vers hfin (fun j hj => o1 j (by omega) (by omega))) hs1 hk1 eD_ok⟩)
  · have hlt : k < (τ.1.2 i).length := by
      rcases Nat.lt_or_ge k (τ.1.2 i).length with q | q
      · exact q
      · exact absurd (nI_le q (by omega)) c3
    refine aw_aload5 X dL_versions_541 ?_
    refine aw_bipush X dL_versions_543 (v := nI 16) (by decide) ?_
    refine aw_iload16 X dL_versions_545 ?_
    refine aw_imul X dL_versions_547 ?_
    first | with_reducible refine aw_int (pk_mul _ _) ?_ | skip
    refine aw_iload19 X dL_versions_548 ?_
    refine aw_iadd X dL_versions_550 ?_
    first | with_reducible refine aw_int (nI_add _ _) ?_ | skip
    refine aw_aload3 X dL_versions_551 ?_
    refine aw_bipush X dL_versions_552 (v := nI 16) (by decide) ?_
    refine aw_iload15 X dL_versions_554 ?_
    refine aw_imul X dL_versions_556 ?_
    first | with_reducible refine aw_int (pk_mul _ _) ?_ | skip
    refine aw_iload19 X dL_versions_557 ?_
    refine aw_iadd X dL_versions_559 ?_
    first | with_reducible refine aw_int (nI_add _ _) ?_ | skip
    refine aw_iald X dL_versions_560 (h5.at 0 (by decide)) rfl (show 16 * i + k < 64 by omega) (by decide) ?_
    refine aw_int (y := (τ.1.2 i).getD k 0) (by rw [o1 0 (by decide) (by decide)]; exact l4 k hlt) ?_
    refine aw_tst X 9 dL_versions_561 h5 (by decide) rfl (show 16 * v + k < 64 by omega) (by decide) (fun M6 h6 => ?_)
    refine aw_iinc19 X dL_versions_562 (by rw [hn]; decide) (am_inc _ 1) rfl ?_
    refine aw_goto X dL_versions_565 (tgt := 531) (by decide) ?_
    refine ih (k + 1) M6 ⟨hlt, _, h6, ?_, fun t h1 h2 => ?_, fun t ht => ?_, fun t ht => ?_⟩ (by omega)
    · rw [va_up_ne _ _ (by decide)]
      exact n1
    · rw [va_up_ne _ _ h1]
      exact o1 t h1 h2
    · rw [va_up_self, pk_un (by omega)]
      exact f1 t ht
    · rw [va_up_self]
      by_cases e : t = k
      · rw [e, pk_us]
      · rw [pk_un (by omega)]
        exact f2 t (by omega)
theorem vs_reb0 {Z : AZ} {M0 M : AM} {x e1 e2 v : Nat} {τ : TS} {F : Nat → Nat → Int32} {kd y w a : Int32} (C : vC Z M0 M x e1 e2 τ F) (hv5 : v < 5) (hw : ¬ (inI w 4 ∧ v < τ.2.2.2.1.1)) : AW Z (am_Q Z (lP (zG Z) x) (fun _ _ => False) 10 90) M 2 19 596 (vL x kd y w e1 e2 v a (nI 0) [none, none, none, none, none]) [] := by
  obtain ⟨hs, hT⟩ := C.T KE.rf
  obtain ⟨X, hn, hR, hr, hN, hfl, -, -, hL, -⟩ := C
  have vn := hL.2.2.2.2.1.2.1
  refine aw_iload18 X dL_versions_596 ?_
  refine aw_ifeq X dL_versions_598 (tgt := 627) (by decide) (fun _ => ?_) (fun c9 => by first | exact absurd ((rfl : nI 0 = 0)) c9 | exact absurd c9 ((rfl : nI 0 = 0)))
  refine aw_bipush X dL_versions_627 (v := -101) (by decide) ?_
  refine aw_istore19 X dL_versions_629 (by rw [hn]; decide) rfl ?_
  refine aw_iload19 X dL_versions_631 ?_
  refine aw_iflt X dL_versions_633 (tgt := 649) (by decide) (fun _ => ?_) (fun c9 => by first | exact absurd ((by decide : (-101 : Int32) < 0)) c9 | exact absurd c9 ((by decide : (-101 : Int32) < 0)))
  refine aw_aload0 X dL_versions_649 ?_
  refine aw_iconst X dL_versions_650 (v := nI 3) (by decide) ?_
  refine aw_iload16 X dL_versions_651 ?_
  refine aw_iload15 X dL_versions_653 ?_
  refine aw_iconst X dL_versions_655 (v := nI 0) (by decide) ?_
  refine aw_callSH X hN (w_rebuild hfl hs) kL_161 dL_versions_656 rfl rfl (by first | decide | exact Nat.le_of_ble_eq_true rfl) (by rw [hR]; exact ⟨by first | decide | exact Nat.le_of_ble_eq_true rfl | (dsimp only; omega), by first | decide | exact Nat.le_of_ble_eq_true rfl | (dsimp only; omega)⟩) (by rw [hR]; exact ⟨by first | decide | exact Nat.le_of_ble_eq_true rfl | (dsimp only; omega), by first | decide | exact Nat.le_of_ble_eq_true rfl | (dsimp only; omega)⟩) (fun o M2 hv9 => ?_)
  obtain ⟨rfl, hs1, hk1⟩ := hv9
  have e0 : spRebuild τ (nI v) w = (1, 0, τ) := by
    rw [spRebuild, if_neg]
    intro q
    obtain ⟨q1, q2⟩ := q
    rw [isF, hL.1] at q2
    exact hw ⟨q2, (nI_ltI (by omega) (by omega)).mp q1.2⟩
  rw [e0] at hs1 ⊢
  refine aw_iload19 X dL_versions_659 ?_
  refine aw_iconst X dL_versions_661 (v := -1) (by decide) ?_
  refine aw_icmpne X dL_versions_662 (tgt := 670) (by decide) (fun _ => ?_) (fun c9 => by first | exact absurd ((by decide : ¬ (-101 : Int32) = -1)) c9 | exact absurd c9 ((by decide : ¬ (-101 : Int32) = -1)))
  refine aw_iload19 X dL_versions_670 ?_
  refine aw_icmpne X dL_versions_672 (tgt := 679) (by decide) (fun c9 => by first | exact absurd ((rfl : wr (1, 0, τ) = -101)) c9 | exact absurd c9 ((rfl : wr (1, 0, τ) = -101))) (fun _ => ?_)
  refine aw_iconst X dL_versions_675 (v := nI 1) (by decide) ?_
  refine aw_goto X dL_versions_676 (tgt := 680) (by decide) ?_
  refine aw_widen (k' := 10) (n' := 90) (Nat.le_of_ble_eq_true rfl) (Nat.le_of_ble_eq_true rfl) ?_
  refine aw_ireturn X (ty := .boolean) hr (by first | rfl | decide | assumption) dL_versions_680 (⟨rfl, τ, lS.of hT hL hs1 hk1 eD_ok⟩)
theorem vs_reb1 {Z : AZ} {M0 M : AM} {x e1 e2 v i : Nat} {τ : TS} {F : Nat → Nat → Int32} {kd y a : Int32} (C : vC Z M0 M x e1 e2 τ F) (hi : i < 4) (hv : v < τ.2.2.2.1.1) : AW Z (am_Q Z (lP (zG Z) x) (fun _ _ => False) 10 90) M 2 19 596 (vL x kd y (nI i) e1 e2 v a (nI 1) [none, none, none, none, none]) [] := by
  obtain ⟨hs, hT⟩ := C.T KE.rf
  have C0 := C
  obtain ⟨X, hn, hR, hr, hN, hfl, -, -, hL, hlt, h12, kM, ⟨g1, o1⟩, ⟨g2, o2⟩, hx⟩ := C
  obtain ⟨vc, vn, vd, va⟩ := hL.2.2.2.2.1
  have hF4 : isF τ (nI i) := by rw [isF, hL.1]; exact inI_n hi (by decide)
  have hv4 : inI (nI v) (tN τ) := inI_n hv (show τ.2.2.2.1.1 < 2 ^ 31 by omega)
  refine aw_iload18 X dL_versions_596 ?_
  refine aw_ifeq X dL_versions_598 (tgt := 627) (by decide) (fun c9 => by first | exact absurd ((by decide : ¬ nI 1 = 0)) c9 | exact absurd c9 ((by decide : ¬ nI 1 = 0))) (fun _ => ?_)
  refine aw_iload16 X dL_versions_601 ?_
  refine aw_aload5 X dL_versions_603 ?_
  refine aw_aload6 X dL_versions_605 ?_
  refine aw_aload7 X dL_versions_607 ?_
  refine aw_aload8 X dL_versions_609 ?_
  refine aw_aload9 X dL_versions_611 ?_
  refine aw_aload10 X dL_versions_613 ?_
  refine aw_aload11 X dL_versions_615 ?_
  refine aw_aload13 X dL_versions_617 ?_
  refine aw_aload14 X dL_versions_619 ?_
  refine aw_callS X (c_L_rebuild (V := τ.2.2.2.1.2) (n := τ.2.2.2.1.1) ⟨hT.at 9 (by decide), hT.at 10 (by decide), hT.at 11 (by decide), hT.at 12 (by decide), hT.at 13 (by decide), hT.at 14 (by decide), hT.at 15 (by decide)⟩ o1 o2 ⟨by omega, by omega, by omega, by omega, by omega, by omega, by omega⟩ ⟨by omega, by omega, by omega, by omega, by omega, by omega, by omega, by omega⟩ ⟨vn, vd, va⟩ hv) kL_170 dL_versions_621 rfl rfl (by first | decide | exact Nat.le_of_ble_eq_true rfl) (by rw [hR]; exact ⟨by first | decide | exact Nat.le_of_ble_eq_true rfl | (dsimp only; omega), by first | decide | exact Nat.le_of_ble_eq_true rfl | (dsimp only; omega)⟩) (by rw [hR]; exact ⟨by first | decide | exact Nat.le_of_ble_eq_true rfl | (dsimp only; omega), by first | decide | exact Nat.le_of_ble_eq_true rfl | (dsimp only; omega)⟩) (fun o M1 hv1 => ?_)
  obtain ⟨kb, g, h, u1, u2, hrp⟩ := hv1
  obtain ⟨hs1, hT1⟩ := C0.T (kb.mono (fun q e => by rcases e with e | e <;> omega))
  cases hrb : rbv τ.2.2.2.1.2 v with
  | inr p =>
    rw [hrb] at hrp
    obtain ⟨hrp, -⟩ := hrp
    have hrp : o = some (.int (-1)) := hrp
    subst hrp
    refine aw_goto X dL_versions_624 (tgt := 629) (by decide) ?_
    refine aw_istore19 X dL_versions_629 (by rw [hn]; decide) rfl ?_
    refine aw_iload19 X dL_versions_631 ?_
    refine aw_iflt X dL_versions_633 (tgt := 649) (by decide) (fun _ => ?_) (fun c9 => by first | exact absurd ((by decide : (-1 : Int32) < 0)) c9 | exact absurd c9 ((by decide : (-1 : Int32) < 0)))
    refine aw_aload0 X dL_versions_649 ?_
    refine aw_iconst X dL_versions_650 (v := nI 3) (by decide) ?_
    refine aw_iload16 X dL_versions_651 ?_
    refine aw_iload15 X dL_versions_653 ?_
    refine aw_iconst X dL_versions_655 (v := nI 0) (by decide) ?_
    refine aw_callSH X hN (w_rebuild hfl hs1) kL_161 dL_versions_656 rfl rfl (by first | decide | exact Nat.le_of_ble_eq_true rfl) (by rw [hR]; exact ⟨by first | decide | exact Nat.le_of_ble_eq_true rfl | (dsimp only; omega), by first | decide | exact Nat.le_of_ble_eq_true rfl | (dsimp only; omega)⟩) (by rw [hR]; exact ⟨by first | decide | exact Nat.le_of_ble_eq_true rfl | (dsimp only; omega), by first | decide | exact Nat.le_of_ble_eq_true rfl | (dsimp only; omega)⟩) (fun o M2 hv9 => ?_)
    obtain ⟨rfl, hs2, hk2⟩ := hv9
    have e0 : spRebuild τ (nI v) (nI i) = (2, 0, τ) := by
      rw [spRebuild, if_pos ⟨hv4, hF4⟩]
      simp only [ix_n (show v < 2 ^ 31 by omega)]
      rw [hrb]
    rw [e0] at hs2 ⊢
    refine aw_iload19 X dL_versions_659 ?_
    refine aw_iconst X dL_versions_661 (v := -1) (by decide) ?_
    refine aw_icmpne X dL_versions_662 (tgt := 670) (by decide) (fun c9 => by first | exact absurd ((rfl : (-1 : Int32) = -1)) c9 | exact absurd c9 ((rfl : (-1 : Int32) = -1))) (fun _ => ?_)
    refine aw_bipush X dL_versions_665 (v := -102) (by decide) ?_
    refine aw_goto X dL_versions_667 (tgt := 672) (by decide) ?_
    refine aw_icmpne X dL_versions_672 (tgt := 679) (by decide) (fun c9 => by first | exact absurd ((rfl : wr (2, 0, τ) = -102)) c9 | exact absurd c9 ((rfl : wr (2, 0, τ) = -102))) (fun _ => ?_)
    refine aw_iconst X dL_versions_675 (v := nI 1) (by decide) ?_
    refine aw_goto X dL_versions_676 (tgt := 680) (by decide) ?_
    refine aw_widen (k' := 10) (n' := 90) (Nat.le_of_ble_eq_true rfl) (Nat.le_of_ble_eq_true rfl) ?_
    refine aw_ireturn X (ty := .boolean) hr (by first | rfl | decide | assumption) dL_versions_680 (⟨rfl, τ, lS.of hT1 hL hs2 hk2 eD_ok⟩)
  | inl rb =>
    rw [hrb] at hrp
    obtain ⟨⟨hrp, rb1, rb2, rb3⟩, -⟩ := hrp
    subst hrp
    refine aw_goto X dL_versions_624 (tgt := 629) (by decide) ?_
    refine aw_istore19 X dL_versions_629 (by rw [hn]; decide) rfl ?_
    refine aw_iload19 X dL_versions_631 ?_
    refine aw_iflt X dL_versions_633 (tgt := 649) (by decide) (fun c9 => by first | exact absurd (nI_pos (by omega)) c9 | exact absurd c9 (nI_pos (by omega))) (fun _ => ?_)
    refine aw_aload3 X dL_versions_636 ?_
    refine aw_aload4 X dL_versions_637 ?_
    refine aw_iload15 X dL_versions_639 ?_
    refine aw_aload13 X dL_versions_641 ?_
    refine aw_iconst X dL_versions_643 (v := nI 0) (by decide) ?_
    refine aw_iload19 X dL_versions_644 ?_
    refine aw_callS X (c_L_give (i := i) (from0 := 0) (m := rb.length) (hT1.at 0 (by decide)) (hT1.at 1 (by decide)) u1 hi rb2 (show 0 + rb.length ≤ 16 by omega) (by decide) (by omega) (by omega) (fun _ => by omega)) kL_146 dL_versions_646 rfl rfl (by first | decide | exact Nat.le_of_ble_eq_true rfl) (by rw [hR]; exact ⟨by first | decide | exact Nat.le_of_ble_eq_true rfl | (dsimp only; omega), by first | decide | exact Nat.le_of_ble_eq_true rfl | (dsimp only; omega)⟩) (by rw [hR]; exact ⟨by first | decide | exact Nat.le_of_ble_eq_true rfl | (dsimp only; omega), by first | decide | exact Nat.le_of_ble_eq_true rfl | (dsimp only; omega)⟩) (fun o M2 hv9 => ?_)
    obtain ⟨rfl, g', hM2, g3, g4⟩ := hv9
    have h2 : tbL (zG Z) x M1 M2 (va_up (va_up F 1 (upd (F 1) i (nI rb.length))) 0 g') := by
      rw [hM2]
      exact (hT1.st (j := 1) (by decide) _).st (j := 0) (by decide) _
    have hfin := hL.2.1.set (i := i) (bs := rb) (g := g') (m := upd (F 1) i (nI rb.length)) rb2 rb3 pk_us (fun j _ hj => pk_un hj) (fun k hk => (g3 k hk).trans (rb1 k hk)) g4
    refine aw_aload0 X dL_versions_649 ?_
    refine aw_iconst X dL_versions_650 (v := nI 3) (by decide) ?_
    refine aw_iload16 X dL_versions_651 ?_
    refine aw_iload15 X dL_versions_653 ?_
    refine aw_iconst X dL_versions_655 (v := nI 0) (by decide) ?_
    refine aw_callSH X hN (w_rebuild hfl (hs1.tb h2)) kL_161 dL_versions_656 rfl rfl (by first | decide | exact Nat.le_of_ble_eq_true rfl) (by rw [hR]; exact ⟨by first | decide | exact Nat.le_of_ble_eq_true rfl | (dsimp only; omega), by first | decide | exact Nat.le_of_ble_eq_true rfl | (dsimp only; omega)⟩) (by rw [hR]; exact ⟨by first | decide | exact Nat.le_of_ble_eq_true rfl | (dsimp only; omega), by first | decide | exact Nat.le_of_ble_eq_true rfl | (dsimp only; omega)⟩) (fun o M3 hv9 => ?_)
    obtain ⟨rfl, hs3, hk3⟩ := hv9
    have e0 : spRebuild τ (nI v) (nI i) = (0, nI rb.length, ((τ.1.1, va_up τ.1.2 i rb), τ.2)) := by
      rw [spRebuild, if_pos ⟨hv4, hF4⟩]
      simp only [setF, ix_n (show v < 2 ^ 31 by omega), ix_n (show i < 2 ^ 31 by omega)]
      rw [hrb]
    rw [e0] at hs3 ⊢
    refine aw_iload19 X dL_versions_659 ?_
    refine aw_iconst X dL_versions_661 (v := -1) (by decide) ?_
    refine aw_icmpne X dL_versions_662 (tgt := 670) (by decide) (fun _ => ?_) (fun c9 => by first | exact absurd ((fun q => absurd (nI_pos' (n := rb.length) (by omega)) (by rw [q]; decide))) c9 | exact absurd c9 ((fun q => absurd (nI_pos' (n := rb.length) (by omega)) (by rw [q]; decide))))
    refine aw_iload19 X dL_versions_670 ?_
    refine aw_icmpne X dL_versions_672 (tgt := 679) (by decide) (fun c9 => by first | exact absurd ((rfl : wr (0, nI rb.length, ((τ.1.1, va_up τ.1.2 i rb), τ.2)) = nI rb.length)) c9 | exact absurd c9 ((rfl : wr (0, nI rb.length, ((τ.1.1, va_up τ.1.2 i rb), τ.2)) = nI rb.length))) (fun _ => ?_)
    refine aw_iconst X dL_versions_675 (v := nI 1) (by decide) ?_
    refine aw_goto X dL_versions_676 (tgt := 680) (by decide) ?_
    refine aw_widen (k' := 10) (n' := 90) (Nat.le_of_ble_eq_true rfl) (Nat.le_of_ble_eq_true rfl) ?_
    refine aw_ireturn X (ty := .boolean) hr (by first | rfl | decide | assumption) dL_versions_680 (⟨rfl, _, lS.of h2 (hL.files hfin (fun j hj => by rw [va_up_ne _ _ (by omega), va_up_ne _ _ (by omega)])) hs3 hk3 eD_ok⟩)
theorem c_L_versions {l : Launch} {G : AG} {M : AM} {x kd : Nat} {τ : TS} {y : Int32} (hfl : l.stackTraces = false) (S : lS G M x τ) (hkd : kd < 5) : Cq l G yL_versions cL_versions 24 (some .boolean) rmV M [.ref x, .int (nI kd), .int y, .ref (x + 271), .ref (x + 272), .ref (x + 280), .ref (x + 281), .ref (x + 282), .ref (x + 283), .ref (x + 284), .ref (x + 285), .ref (x + 286), .ref (x + 287)] ncs (lP G x) := by
  obtain ⟨hs, F, hT, hL⟩ := S
  refine Cq.of (by decide) [some (.ref x), some (.int (nI kd)), some (.int y), some (.ref (x + 271)), some (.ref (x + 272)), some (.ref (x + 280)), some (.ref (x + 281)), some (.ref (x + 282)), some (.ref (x + 283)), some (.ref (x + 284)), some (.ref (x + 285)), some (.ref (x + 286)), some (.ref (x + 287)), none, none, none, none, none, none, none, none, none, none, none] rfl (Nat.le_of_ble_eq_true rfl) ?_
  intro Z hZ hN
  obtain ⟨rfl, hn, rfl, hR, X, hr, hnm⟩ := hZ
  obtain ⟨vc, vn, vd, va⟩ := hL.2.2.2.2.1
  refine aw_bipush X dL_versions_0 (v := nI 16) (by decide) ?_
  refine aw_newI X 16 dL_versions_2 rfl (by decide) (by rw [hR]; exact Nat.le_of_ble_eq_true rfl) (by rw [hR]; exact Nat.le_of_ble_eq_true rfl) ac_int (fun e1 heA1 hlt1 he1 => ?_)
  refine aw_astore13 X dL_versions_4 (by rw [hn]; decide) rfl ?_
  refine aw_iconst X dL_versions_6 (v := nI 3) (by decide) ?_
  refine aw_newI X 3 dL_versions_7 rfl (by decide) (by rw [hR]; exact Nat.le_of_ble_eq_true rfl) (by rw [hR]; exact Nat.le_of_ble_eq_true rfl) ac_int (fun e2 heA2 hlt2 he2 => ?_)
  have h12 := hlt2 _ _ am_ns
  have k1 := ke_nw (e := am_ai (zG Z) 16 (fun _ => 0)) hlt1
  have k2 := ke_nw (e := am_ai (zG Z) 3 (fun _ => 0)) hlt2
  have n2 := am_ns (M := am_nw M e1 (am_ai (zG Z) 16 (fun _ => 0))) (q := e2) (e := am_ai (zG Z) 3 (fun _ => 0))
  have n1 := k2 _ _ am_ns id
  have hx := hlt1 _ _ (hT.at 20 (by decide))
  have k12 := k1.tr k2
  generalize am_nw (am_nw M e1 (am_ai (zG Z) 16 (fun _ => 0))) e2 (am_ai (zG Z) 3 (fun _ => 0)) = M2 at n1 n2 k12
  refine aw_astore14 X dL_versions_9 (by rw [hn]; decide) rfl ?_
  refine aw_iload2 X dL_versions_11 ?_
  refine aw_iconst X dL_versions_12 (v := nI 5) (by decide) ?_
  refine aw_callS X (c_L_some (N := 5) (by decide) (by decide)) kL_136 dL_versions_13 rfl rfl (by first | decide | exact Nat.le_of_ble_eq_true rfl) (by rw [hR]; exact ⟨by first | decide | exact Nat.le_of_ble_eq_true rfl | (dsimp only; omega), by first | decide | exact Nat.le_of_ble_eq_true rfl | (dsimp only; omega)⟩) (by rw [hR]; exact ⟨by first | decide | exact Nat.le_of_ble_eq_true rfl | (dsimp only; omega), by first | decide | exact Nat.le_of_ble_eq_true rfl | (dsimp only; omega)⟩) (fun v M2 hv => ?_)
  obtain ⟨rfl, j0, hj0, rfl⟩ := hv
  refine aw_spl (pm := 33) (P := fun _ => True) (fun K => ?_) (fun v _ => ?_)
  · refine aw_iload2 X dL_versions_16 ?_
    refine aw_bipush X dL_versions_17 (v := nI 9) (by decide) ?_
    refine aw_ishr X dL_versions_19 ?_
    refine aw_bipush X dL_versions_20 (v := nI 13) (by decide) ?_
    refine aw_callS X (c_L_some (N := 13) (by decide) (by decide)) kL_136 dL_versions_22 rfl rfl (by first | decide | exact Nat.le_of_ble_eq_true rfl) (by rw [hR]; exact ⟨by first | decide | exact Nat.le_of_ble_eq_true rfl | (dsimp only; omega), by first | decide | exact Nat.le_of_ble_eq_true rfl | (dsimp only; omega)⟩) (by rw [hR]; exact ⟨by first | decide | exact Nat.le_of_ble_eq_true rfl | (dsimp only; omega), by first | decide | exact Nat.le_of_ble_eq_true rfl | (dsimp only; omega)⟩) (fun v M2 hv => ?_)
    obtain ⟨rfl, j, hj, rfl⟩ := hv
    refine aw_ifne X dL_versions_25 (tgt := 32) (by decide) (fun c => ?_) (fun c => ?_)
    · refine aw_iconst X dL_versions_32 (v := nI 0) (by decide) ?_
      exact K _ trivial
    · refine aw_iconst X dL_versions_28 (v := nI 1) (by decide) ?_
      refine aw_goto X dL_versions_29 (tgt := 33) (by decide) ?_
      exact K _ trivial
  refine aw_isub X dL_versions_33 ?_
  refine aw_any (fun w => ?_)
  refine aw_istore15 X dL_versions_34 (by rw [hn]; decide) rfl ?_
  refine aw_iload2 X dL_versions_36 ?_
  refine aw_iconst X dL_versions_37 (v := nI 3) (by decide) ?_
  refine aw_ishr X dL_versions_38 ?_
  refine aw_iconst X dL_versions_39 (v := nI 5) (by decide) ?_
  refine aw_callS X (c_L_some (N := 5) (by decide) (by decide)) kL_136 dL_versions_40 rfl rfl (by first | decide | exact Nat.le_of_ble_eq_true rfl) (by rw [hR]; exact ⟨by first | decide | exact Nat.le_of_ble_eq_true rfl | (dsimp only; omega), by first | decide | exact Nat.le_of_ble_eq_true rfl | (dsimp only; omega)⟩) (by rw [hR]; exact ⟨by first | decide | exact Nat.le_of_ble_eq_true rfl | (dsimp only; omega), by first | decide | exact Nat.le_of_ble_eq_true rfl | (dsimp only; omega)⟩) (fun v M2 hv => ?_)
  obtain ⟨rfl, v, hv5, rfl⟩ := hv
  refine aw_istore16 X dL_versions_43 (by rw [hn]; decide) rfl ?_
  have C : vC Z M M2 x e1 e2 τ F := ⟨X, hn, hR, hr, hN, hfl, hs, hT, hL, hlt1, h12, k12, ⟨_, n1⟩, ⟨_, n2⟩, by omega⟩
  have hT2 := (C.T KE.rf).2
  refine aw_splB (pm := 61) (P := inI w 4) (fun K => ?_) ?_
  · refine aw_iload15 X dL_versions_45 ?_
    refine aw_iflt X dL_versions_47 (tgt := 60) (by decide) (fun c => ?_) (fun c => ?_)
    · refine aw_iconst X dL_versions_60 (v := nI 0) (by decide) ?_
      exact aw_b0 (fun e => e.1 c) K
    · refine aw_iload15 X dL_versions_50 ?_
      refine aw_iconst X dL_versions_52 (v := nI 4) (by decide) ?_
      refine aw_icmpge X dL_versions_53 (tgt := 60) (by decide) (fun c2 => ?_) (fun c2 => ?_)
      · refine aw_iconst X dL_versions_60 (v := nI 0) (by decide) ?_
        exact aw_b0 (fun e => absurd c2 (Int32.not_le.mpr e.2)) K
      · refine aw_iconst X dL_versions_56 (v := nI 1) (by decide) ?_
        refine aw_goto X dL_versions_57 (tgt := 61) (by decide) ?_
        exact aw_b1 (inI_of c c2) K
  refine aw_istore17 X dL_versions_61 (by rw [hn]; decide) rfl ?_
  refine aw_splB (pm := 82) (P := inI w 4 ∧ v < τ.2.2.2.1.1) (fun K => ?_) ?_
  · refine aw_iload17 X dL_versions_63 ?_
    refine aw_ifeq X dL_versions_65 (tgt := 81) (by decide) (fun c => ?_) (fun c => ?_)
    · refine aw_iconst X dL_versions_81 (v := nI 0) (by decide) ?_
      exact aw_b0 (fun e => am_bz.mp c e.1) K
    · refine aw_iload16 X dL_versions_68 ?_
      refine aw_aload12 X dL_versions_70 ?_
      refine aw_iconst X dL_versions_72 (v := nI 0) (by decide) ?_
      refine aw_iald X dL_versions_73 (hT2.at 16 (by decide)) (rfl : nI 0 = nI 0) (show 0 < 1 by decide) (by decide) ?_
      refine aw_int vc ?_
      refine aw_icmpge X dL_versions_74 (tgt := 81) (by decide) (fun c2 => ?_) (fun c2 => ?_)
      · refine aw_iconst X dL_versions_81 (v := nI 0) (by decide) ?_
        exact aw_b0 (fun e => absurd ((nI_leI (by omega) (by omega)).mp c2) (by omega)) K
      · refine aw_iconst X dL_versions_77 (v := nI 1) (by decide) ?_
        refine aw_goto X dL_versions_78 (tgt := 82) (by decide) ?_
        exact aw_b1 ⟨am_bn.mp c, by
          rcases Nat.lt_or_ge v τ.2.2.2.1.1 with q | q
          · exact q
          · exact absurd (nI_le q (by omega)) c2⟩ K
  refine aw_istore18 X dL_versions_82 (by rw [hn]; decide) rfl ?_
  refine aw_iload1 X dL_versions_84 ?_
  refine aw_iconst X dL_versions_85 (v := nI 2) (by decide) ?_
  by_cases hw : inI w 4 ∧ v < τ.2.2.2.1.1
  · rw [am_b1 hw, am_b1 hw.1]
    obtain ⟨w1, w2, -⟩ := inI_j hw.1 (by decide)
    have hvn := hw.2
    generalize ix w = i at w1 w2
    subst w2
    refine aw_icmpge X dL_versions_86 (tgt := 434) (by decide) (fun c => ?_) (fun c => ?_)
    · refine aw_iload1 X dL_versions_434 ?_
      refine aw_iconst X dL_versions_435 (v := nI 2) (by decide) ?_
      refine aw_icmpne X dL_versions_436 (tgt := 499) (by decide) (fun c2 => ?_) (fun c2 => ?_)
      · refine aw_iload1 X dL_versions_499 ?_
        refine aw_iconst X dL_versions_500 (v := nI 3) (by decide) ?_
        refine aw_icmpne X dL_versions_501 (tgt := 596) (by decide) (fun c3 => ?_) (fun c3 => ?_)
        · exact vs_reb1 C w1 hvn
        · exact vs_rep1 C w1 hvn
      · exact vs_lose C hv5
    · have hk2 : kd < 2 := by
        rcases Nat.lt_or_ge kd 2 with q | q
        · exact q
        · exact absurd (nI_le q (by omega)) c
      rcases (by omega : kd = 0 ∨ kd = 1) with rfl | rfl
      · exact vs_keep1 C w1
      · exact vs_kd1 C w1 hvn
  · rw [am_b0 hw]
    refine aw_icmpge X dL_versions_86 (tgt := 434) (by decide) (fun c => ?_) (fun c => ?_)
    · refine aw_iload1 X dL_versions_434 ?_
      refine aw_iconst X dL_versions_435 (v := nI 2) (by decide) ?_
      refine aw_icmpne X dL_versions_436 (tgt := 499) (by decide) (fun c2 => ?_) (fun c2 => ?_)
      · refine aw_iload1 X dL_versions_499 ?_
        refine aw_iconst X dL_versions_500 (v := nI 3) (by decide) ?_
        refine aw_icmpne X dL_versions_501 (tgt := 596) (by decide) (fun c3 => ?_) (fun c3 => ?_)
        · exact vs_reb0 C hv5 hw
        · exact vs_rep0 C hv5 hw
      · exact vs_lose C hv5
    · have hk2 : kd < 2 := by
        rcases Nat.lt_or_ge kd 2 with q | q
        · exact q
        · exact absurd (nI_le q (by omega)) c
      rcases (by omega : kd = 0 ∨ kd = 1) with rfl | rfl
      · by_cases hw4 : inI w 4
        · rw [am_b1 hw4]
          obtain ⟨w1, w2, -⟩ := inI_j hw4 (by decide)
          generalize ix w = i at w1 w2
          subst w2
          exact vs_keep1 C w1
        · rw [am_b0 hw4]
          exact vs_keep0 C hw4
      · exact vs_kd0 C hv5 hw
