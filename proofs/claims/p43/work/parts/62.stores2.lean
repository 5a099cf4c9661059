theorem allB_none {P : PS} {n : Nat} (h : ∀ i, n ≤ i → P i = none) : ∀ k, allB P (n + k) = allB P n
  | 0 => rfl
  | k + 1 => by
    rw [← Nat.add_assoc, allB, allB_none h k, h (n + k) (by omega)]
    exact List.append_nil _
theorem allB_4 {P : PS} (h : ∀ i, 4 ≤ i → P i = none) : allB P 12 = allB P 4 := allB_none h 8
theorem isP_iff {τ : TS} {p : Nat} (hP : ∀ i, 4 ≤ i → τ.2.2.2.2.2 i = none) (hp : p < 5) : isP τ (nI p) ↔ p < 4 ∧ (τ.2.2.2.2.2 p).isSome = true := by
  unfold isP
  simp only [tP, ix_n (show p < 2 ^ 31 by omega)]
  constructor
  · rintro ⟨h1, h2⟩
    refine ⟨?_, h2⟩
    rcases Nat.lt_or_ge p 4 with q | q
    · exact q
    · rw [hP p q] at h2
      cases h2
  · rintro ⟨h1, h2⟩
    exact ⟨inI_n (by omega) (by decide), h2⟩
theorem st_store1 {Z : AZ} {M : AM} {x p i : Nat} {τ : TS} {F : Nat → Nat → Int32} {kd y b : Int32} (C : stC Z M x τ F) (hi : i < 4) : AW Z (am_Q Z (lP (zG Z) x) (fun _ _ => False) 482 9712) M 0 0 270 (stL x kd y (nI i) p (nI 1) b [none, none, none, none, none]) [] := by
  obtain ⟨X, hn, hR, hr, hN, hfl, hs, hT, hL⟩ := id C
  have hP := hL.2.2.2.2.2.2
  refine aw_iconst X dL_stores_270 (v := nI 0) (by decide) ?_
  refine aw_istore13 X dL_stores_271 (by rw [hn]; decide) rfl ?_
  refine aw_loop (σ := Nat) (fun f => f ≤ 4 ∧ ∀ t, t < f → (τ.2.2.2.2.2 t).isSome = true) (fun f => 4 - f) (fun _ => M) (fun f => stL x kd y (nI i) p (nI 1) b [some (.int (nI f)), none, none, none, none]) ?_ 0 ⟨by decide, fun t ht => absurd ht (Nat.not_lt_zero _)⟩
  rintro f ⟨hf, hall⟩ ih
  try dsimp only at ih ⊢
  refine aw_iload13 X dL_stores_273 ?_
  refine aw_iconst X dL_stores_275 (v := nI 4) (by decide) ?_
  refine aw_icmpge X dL_stores_276 (tgt := 294) (by decide) (fun c1 => ?_) (fun c1 => ?_)
  · have e : f = 4 := by have := (nI_leI (by decide) (by omega)).mp c1; omega
    subst e
    refine aw_iload13 X dL_stores_294 ?_
    refine aw_iconst X dL_stores_296 (v := nI 4) (by decide) ?_
    refine aw_icmpne X dL_stores_297 (tgt := 307) (by decide) (fun c9 => by first | exact absurd ((rfl : nI 4 = nI 4)) c9 | exact absurd c9 ((rfl : nI 4 = nI 4))) (fun _ => ?_)
    refine aw_iload11 X dL_stores_300 ?_
    refine aw_ifeq X dL_stores_302 (tgt := 307) (by decide) (fun c9 => by first | exact absurd ((by decide : ¬ nI 1 = 0)) c9 | exact absurd c9 ((by decide : ¬ nI 1 = 0))) (fun _ => ?_)
    refine aw_iconst X dL_stores_305 (v := nI 1) (by decide) ?_
    refine aw_widen (k' := 482) (n' := 9712) (Nat.le_of_ble_eq_true rfl) (Nat.le_of_ble_eq_true rfl) ?_
    refine aw_ireturn X (ty := .boolean) hr (by first | rfl | decide | assumption) dL_stores_306 (⟨rfl, τ, hs, F, hT, hL⟩)
  · have hlt : f < 4 := by
      rcases Nat.lt_or_ge f 4 with q | q
      · exact q
      · exact absurd (nI_le q (by omega)) c1
    refine aw_aload7 X dL_stores_279 ?_
    refine aw_iload13 X dL_stores_281 ?_
    refine aw_iald X dL_stores_283 (hT.at 19 (by decide)) rfl (show f < 8 by omega) (by decide) ?_
    cases hq : τ.2.2.2.2.2 f with
    | none =>
      clear ih
      refine aw_int (hP.no hlt hq) ?_
      refine aw_iconst X dL_stores_284 (v := nI 1) (by decide) ?_
      refine aw_icmpne X dL_stores_285 (tgt := 294) (by decide) (fun _ => ?_) (fun c9 => by first | exact absurd ((by decide : ¬ nI 0 = nI 1)) c9 | exact absurd c9 ((by decide : ¬ nI 0 = nI 1)))
      refine aw_iload13 X dL_stores_294 ?_
      refine aw_iconst X dL_stores_296 (v := nI 4) (by decide) ?_
      refine aw_icmpne X dL_stores_297 (tgt := 307) (by decide) (fun _ => ?_) (fun c9 => by first | exact absurd ((fun e => absurd ((nI_eq (by omega) (by decide)).mp e) (by omega))) c9 | exact absurd c9 ((fun e => absurd ((nI_eq (by omega) (by decide)).mp e) (by omega))))
      refine aw_iload11 X dL_stores_307 ?_
      refine aw_ifeq X dL_stores_309 (tgt := 514) (by decide) (fun c9 => by first | exact absurd ((by decide : ¬ nI 1 = 0)) c9 | exact absurd c9 ((by decide : ¬ nI 1 = 0))) (fun _ => ?_)
      exact st_put C hi hlt hq hall
    | some l =>
      refine aw_int (hP.at hlt hq).2.1 ?_
      refine aw_iconst X dL_stores_284 (v := nI 1) (by decide) ?_
      refine aw_icmpne X dL_stores_285 (tgt := 294) (by decide) (fun c9 => by first | exact absurd ((rfl : nI 1 = nI 1)) c9 | exact absurd c9 ((rfl : nI 1 = nI 1))) (fun _ => ?_)
      refine aw_iinc13 X dL_stores_288 (by rw [hn]; decide) (am_inc _ 1) rfl ?_
      refine aw_goto X dL_stores_291 (tgt := 273) (by decide) ?_
      exact ih (f + 1) ⟨by omega, fun t ht => by
        by_cases e : t = f
        · rw [e, hq]; rfl
        · exact hall t (by omega)⟩ (by omega)
theorem st_store0 {Z : AZ} {M : AM} {x p : Nat} {τ : TS} {F : Nat → Nat → Int32} {kd y w b : Int32} (C : stC Z M x τ F) (hw : ¬ inI w 4) : AW Z (am_Q Z (lP (zG Z) x) (fun _ _ => False) 482 9712) M 0 0 270 (stL x kd y w p (nI 0) b [none, none, none, none, none]) [] := by
  obtain ⟨X, hn, hR, hr, hN, hfl, hs, hT, hL⟩ := id C
  have hP := hL.2.2.2.2.2.2
  refine aw_iconst X dL_stores_270 (v := nI 0) (by decide) ?_
  refine aw_istore13 X dL_stores_271 (by rw [hn]; decide) rfl ?_
  have fin : ∀ f : Nat, f ≤ 4 → AW Z (am_Q Z (lP (zG Z) x) (fun _ _ => False) 482 9712) M 0 0 294 (stL x kd y w p (nI 0) b [some (.int (nI f)), none, none, none, none]) [] := fun f hf => by
    refine aw_spl0 (pm := 307) (fun K => ?_) ?_
    · refine aw_iload13 X dL_stores_294 ?_
      refine aw_iconst X dL_stores_296 (v := nI 4) (by decide) ?_
      refine aw_icmpne X dL_stores_297 (tgt := 307) (by decide) (fun c => ?_) (fun c => ?_)
      · exact K
      · refine aw_iload11 X dL_stores_300 ?_
        refine aw_ifeq X dL_stores_302 (tgt := 307) (by decide) (fun _ => ?_) (fun c9 => by first | exact absurd ((rfl : nI 0 = 0)) c9 | exact absurd c9 ((rfl : nI 0 = 0)))
        exact K
    refine aw_iload11 X dL_stores_307 ?_
    refine aw_ifeq X dL_stores_309 (tgt := 514) (by decide) (fun _ => ?_) (fun c9 => by first | exact absurd ((rfl : nI 0 = 0)) c9 | exact absurd c9 ((rfl : nI 0 = 0)))
    refine aw_aload0 X dL_stores_514 ?_
    refine aw_iconst X dL_stores_515 (v := nI 4) (by decide) ?_
    refine aw_iload9 X dL_stores_516 ?_
    refine aw_iconst X dL_stores_518 (v := nI 0) (by decide) ?_
    refine aw_iconst X dL_stores_519 (v := nI 0) (by decide) ?_
    refine aw_callSH X hN (w_store hfl hs ⟨_, hT.at 20 (by decide)⟩) kL_161 dL_stores_520 rfl rfl (by first | decide | exact Nat.le_of_ble_eq_true rfl) (by rw [hR]; exact ⟨by first | decide | exact Nat.le_of_ble_eq_true rfl | (dsimp only; omega), by first | decide | exact Nat.le_of_ble_eq_true rfl | (dsimp only; omega)⟩) (by rw [hR]; exact ⟨by first | decide | exact Nat.le_of_ble_eq_true rfl | (dsimp only; omega), by first | decide | exact Nat.le_of_ble_eq_true rfl | (dsimp only; omega)⟩) (fun v M4 hv => ?_)
    obtain ⟨rfl, hs1, hk1⟩ := hv
    have e0 : spStore τ w = (1, 0, τ) := by rw [spStore, if_neg (by rw [isF, hL.1]; exact hw)]
    rw [e0] at hs1 ⊢
    refine aw_iload11 X dL_stores_523 ?_
    refine aw_ifeq X dL_stores_525 (tgt := 533) (by decide) (fun _ => ?_) (fun c9 => by first | exact absurd ((rfl : nI 0 = 0)) c9 | exact absurd c9 ((rfl : nI 0 = 0)))
    refine aw_bipush X dL_stores_533 (v := -101) (by decide) ?_
    refine aw_icmpne X dL_stores_535 (tgt := 542) (by decide) (fun c9 => by first | exact absurd ((rfl : wr (1, 0, τ) = -101)) c9 | exact absurd c9 ((rfl : wr (1, 0, τ) = -101))) (fun _ => ?_)
    refine aw_iconst X dL_stores_538 (v := nI 1) (by decide) ?_
    refine aw_goto X dL_stores_539 (tgt := 543) (by decide) ?_
    refine aw_widen (k' := 482) (n' := 9712) (Nat.le_of_ble_eq_true rfl) (Nat.le_of_ble_eq_true rfl) ?_
    refine aw_ireturn X (ty := .boolean) hr (by first | rfl | decide | assumption) dL_stores_543 (⟨rfl, τ, lS.of hT hL hs1 hk1 eD_ok⟩)
  refine aw_loop (σ := Nat) (fun f => f ≤ 4) (fun f => 4 - f) (fun _ => M) (fun f => stL x kd y w p (nI 0) b [some (.int (nI f)), none, none, none, none]) ?_ 0 (by decide)
  rintro f hf ih
  try dsimp only at ih ⊢
  refine aw_iload13 X dL_stores_273 ?_
  refine aw_iconst X dL_stores_275 (v := nI 4) (by decide) ?_
  refine aw_icmpge X dL_stores_276 (tgt := 294) (by decide) (fun c1 => ?_) (fun c1 => ?_)
  · exact fin f hf
  · have hlt : f < 4 := by
      rcases Nat.lt_or_ge f 4 with q | q
      · exact q
      · exact absurd (nI_le q (by omega)) c1
    refine aw_aload7 X dL_stores_279 ?_
    refine aw_iload13 X dL_stores_281 ?_
    refine aw_iald X dL_stores_283 (hT.at 19 (by decide)) rfl (show f < 8 by omega) (by decide) ?_
    refine aw_iconst X dL_stores_284 (v := nI 1) (by decide) ?_
    refine aw_icmpne X dL_stores_285 (tgt := 294) (by decide) (fun c2 => ?_) (fun c2 => ?_)
    · exact fin f hf
    · refine aw_iinc13 X dL_stores_288 (by rw [hn]; decide) (am_inc _ 1) rfl ?_
      refine aw_goto X dL_stores_291 (tgt := 273) (by decide) ?_
      exact ih (f + 1) (by omega) (by omega)
theorem st_rel0 {Z : AZ} {M : AM} {x p : Nat} {τ : TS} {F : Nat → Nat → Int32} {kd y w a : Int32} (C : stC Z M x τ F) (hp : p < 5) (hw : ¬ (p < 4 ∧ (τ.2.2.2.2.2 p).isSome = true)) : AW Z (am_Q Z (lP (zG Z) x) (fun _ _ => False) 482 9712) M 0 0 549 (stL x kd y w p a (nI 0) [none, none, none, none, none]) [] := by
  obtain ⟨X, hn, hR, hr, hN, hfl, hs, hT, hL⟩ := id C
  have hP := hL.2.2.2.2.2.2
  refine aw_iconst X dL_stores_549 (v := nI 0) (by decide) ?_
  refine aw_istore13 X dL_stores_550 (by rw [hn]; decide) rfl ?_
  refine aw_iconst X dL_stores_552 (v := nI 0) (by decide) ?_
  refine aw_istore14 X dL_stores_553 (by rw [hn]; decide) rfl ?_
  refine aw_iload14 X dL_stores_555 ?_
  refine aw_bipush X dL_stores_557 (v := nI 16) (by decide) ?_
  refine aw_icmpge X dL_stores_559 (tgt := 669) (by decide) (fun c9 => by first | exact absurd (nI_ge (show 0 < 16 by decide) (by decide)) c9 | exact absurd c9 (nI_ge (show 0 < 16 by decide) (by decide))) (fun _ => ?_)
  refine aw_iload12 X dL_stores_562 ?_
  refine aw_ifeq X dL_stores_564 (tgt := 669) (by decide) (fun _ => ?_) (fun c9 => by first | exact absurd ((rfl : nI 0 = 0)) c9 | exact absurd c9 ((rfl : nI 0 = 0)))
  refine aw_iload12 X dL_stores_669 ?_
  refine aw_ifeq X dL_stores_671 (tgt := 680) (by decide) (fun _ => ?_) (fun c9 => by first | exact absurd ((rfl : nI 0 = 0)) c9 | exact absurd c9 ((rfl : nI 0 = 0)))
  refine aw_aload0 X dL_stores_680 ?_
  refine aw_iconst X dL_stores_681 (v := nI 0) (by decide) ?_
  refine aw_iload10 X dL_stores_682 ?_
  refine aw_iconst X dL_stores_684 (v := nI 0) (by decide) ?_
  refine aw_callSH X hN (w_release hfl hs) kL_194 dL_stores_685 rfl rfl (by first | decide | exact Nat.le_of_ble_eq_true rfl) (by rw [hR]; exact ⟨by first | decide | exact Nat.le_of_ble_eq_true rfl | (dsimp only; omega), by first | decide | exact Nat.le_of_ble_eq_true rfl | (dsimp only; omega)⟩) (by rw [hR]; exact ⟨by first | decide | exact Nat.le_of_ble_eq_true rfl | (dsimp only; omega), by first | decide | exact Nat.le_of_ble_eq_true rfl | (dsimp only; omega)⟩) (fun v M4 hv => ?_)
  obtain ⟨rfl, hs1, hk1⟩ := hv
  have e0 : spRelease τ (nI p) = (1, 0, τ) := by rw [spRelease, if_neg (fun q => hw ((isP_iff hP.1 hp).mp q))]
  rw [e0] at hs1 ⊢
  refine aw_iload12 X dL_stores_688 ?_
  refine aw_ifeq X dL_stores_690 (tgt := 698) (by decide) (fun _ => ?_) (fun c9 => by first | exact absurd ((rfl : nI 0 = 0)) c9 | exact absurd c9 ((rfl : nI 0 = 0)))
  refine aw_bipush X dL_stores_698 (v := -101) (by decide) ?_
  refine aw_icmpne X dL_stores_700 (tgt := 707) (by decide) (fun c9 => by first | exact absurd ((rfl : wr (1, 0, τ) = -101)) c9 | exact absurd c9 ((rfl : wr (1, 0, τ) = -101))) (fun _ => ?_)
  refine aw_iconst X dL_stores_703 (v := nI 1) (by decide) ?_
  refine aw_goto X dL_stores_704 (tgt := 708) (by decide) ?_
  refine aw_widen (k' := 482) (n' := 9712) (Nat.le_of_ble_eq_true rfl) (Nat.le_of_ble_eq_true rfl) ?_
  refine aw_ireturn X (ty := .boolean) hr (by first | rfl | decide | assumption) dL_stores_708 (⟨rfl, τ, lS.of hT hL hs1 hk1 eD_ok⟩)
theorem psR.last {pb pl pp : Nat → Int32} {P : PS} (h : psR pb pl pp P) {q : Nat} (hq : q < 4) {l : List (List Int32)} (e : P q = some l) : l.length ≤ l.length ∧ pp (4 + q) = nI l.length := ⟨Nat.le_refl _, (h.at hq e).2.2.1⟩
theorem st_rel1 {Z : AZ} {M : AM} {x p : Nat} {τ : TS} {F : Nat → Nat → Int32} {kd y w a : Int32} {m : List (List Int32)} (C : stC Z M x τ F) (hp : p < 4) (hm : τ.2.2.2.2.2 p = some m) : AW Z (am_Q Z (lP (zG Z) x) (fun _ _ => False) 482 9712) M 0 0 549 (stL x kd y w p a (nI 1) [none, none, none, none, none]) [] := by
  obtain ⟨X, hn, hR, hr, hN, hfl, hs, hT, hL⟩ := id C
  have hP := hL.2.2.2.2.2.2
  obtain ⟨m1, m2, m3, m4, m5⟩ := hP.at hp hm
  have hm16 := m1.2.1
  have q17 := hT.at 17 (by decide)
  have q18 := hT.at 18 (by decide)
  have q19 := hT.at 19 (by decide)
  have hgl : ∀ k, fsum (fun b => if b ∈ allB (va_up τ.2.2.2.2.2 p none) 12 then 0 else 1) m k ≤ k := fun k => by
    induction k with
    | zero => exact Nat.le_refl _
    | succ k ih =>
      rw [fsum]
      split
      · omega
      · split <;> omega
  refine aw_iconst X dL_stores_549 (v := nI 0) (by decide) ?_
  refine aw_istore13 X dL_stores_550 (by rw [hn]; decide) rfl ?_
  refine aw_iconst X dL_stores_552 (v := nI 0) (by decide) ?_
  refine aw_istore14 X dL_stores_553 (by rw [hn]; decide) rfl ?_
  refine aw_loop (σ := Nat) (fun k => k ≤ m.length) (fun k => m.length - k) (fun _ => M) (fun k => stL x kd y w p a (nI 1) [some (.int (nI (fsum (fun b => if b ∈ allB (va_up τ.2.2.2.2.2 p none) 12 then 0 else 1) m k))), some (.int (nI k)), none, none, none]) ?_ 0 (Nat.zero_le _)
  rintro k hk ih
  try dsimp only at ih ⊢
  have hgk := hgl k
  have fin : k = m.length → AW Z (am_Q Z (lP (zG Z) x) (fun _ _ => False) 482 9712) M 0 0 669 (stL x kd y w p a (nI 1) [some (.int (nI (fsum (fun b => if b ∈ allB (va_up τ.2.2.2.2.2 p none) 12 then 0 else 1) m k))), some (.int (nI k)), none, none, none]) [] := fun e => by
    subst e
    refine aw_iload12 X dL_stores_669 ?_
    refine aw_ifeq X dL_stores_671 (tgt := 680) (by decide) (fun c9 => by first | exact absurd ((by decide : ¬ nI 1 = 0)) c9 | exact absurd c9 ((by decide : ¬ nI 1 = 0))) (fun _ => ?_)
    refine aw_aload7 X dL_stores_674 ?_
    refine aw_iload10 X dL_stores_676 ?_
    refine aw_iconst X dL_stores_678 (v := nI 0) (by decide) ?_
    refine aw_tst X 19 dL_stores_679 hT (by decide) rfl (show p < 8 by omega) (by decide) (fun M1 h1 => ?_)
    refine aw_aload0 X dL_stores_680 ?_
    refine aw_iconst X dL_stores_681 (v := nI 0) (by decide) ?_
    refine aw_iload10 X dL_stores_682 ?_
    refine aw_iconst X dL_stores_684 (v := nI 0) (by decide) ?_
    refine aw_callSH X hN (w_release hfl (hs.tb h1)) kL_194 dL_stores_685 rfl rfl (by first | decide | exact Nat.le_of_ble_eq_true rfl) (by rw [hR]; exact ⟨by first | decide | exact Nat.le_of_ble_eq_true rfl | (dsimp only; omega), by first | decide | exact Nat.le_of_ble_eq_true rfl | (dsimp only; omega)⟩) (by rw [hR]; exact ⟨by first | decide | exact Nat.le_of_ble_eq_true rfl | (dsimp only; omega), by first | decide | exact Nat.le_of_ble_eq_true rfl | (dsimp only; omega)⟩) (fun v M4 hv => ?_)
    obtain ⟨rfl, hs1, hk1⟩ := hv
    have hg9 : goneP τ.2.2.2.2.2 p = fsum (fun b => if b ∈ allB (va_up τ.2.2.2.2.2 p none) 12 then 0 else 1) m m.length := by
      unfold goneP
      rw [hm]
      rfl
    have e0 : spRelease τ (nI p) = (0, nI (fsum (fun b => if b ∈ allB (va_up τ.2.2.2.2.2 p none) 12 then 0 else 1) m m.length), setP τ p none) := by
      rw [spRelease, if_pos ((isP_iff hP.1 (by omega)).mpr ⟨hp, by rw [hm]; rfl⟩)]
      simp only [ix_n (show p < 2 ^ 31 by omega)]
      rw [hg9]
    rw [e0] at hs1 ⊢
    refine aw_iload12 X dL_stores_688 ?_
    refine aw_ifeq X dL_stores_690 (tgt := 698) (by decide) (fun c9 => by first | exact absurd ((by decide : ¬ nI 1 = 0)) c9 | exact absurd c9 ((by decide : ¬ nI 1 = 0))) (fun _ => ?_)
    refine aw_iload13 X dL_stores_693 ?_
    refine aw_goto X dL_stores_695 (tgt := 700) (by decide) ?_
    refine aw_icmpne X dL_stores_700 (tgt := 707) (by decide) (fun c9 => by first | exact absurd ((rfl : wr (0, nI (fsum (fun b => if b ∈ allB (va_up τ.2.2.2.2.2 p none) 12 then 0 else 1) m m.length), setP τ p none) = nI (fsum (fun b => if b ∈ allB (va_up τ.2.2.2.2.2 p none) 12 then 0 else 1) m m.length))) c9 | exact absurd c9 ((rfl : wr (0, nI (fsum (fun b => if b ∈ allB (va_up τ.2.2.2.2.2 p none) 12 then 0 else 1) m m.length), setP τ p none) = nI (fsum (fun b => if b ∈ allB (va_up τ.2.2.2.2.2 p none) 12 then 0 else 1) m m.length)))) (fun _ => ?_)
    refine aw_iconst X dL_stores_703 (v := nI 1) (by decide) ?_
    refine aw_goto X dL_stores_704 (tgt := 708) (by decide) ?_
    refine aw_widen (k' := 482) (n' := 9712) (Nat.le_of_ble_eq_true rfl) (Nat.le_of_ble_eq_true rfl) ?_
    have hfin : psR (va_up F 19 (upd (F 19) p (nI 0)) 17) (va_up F 19 (upd (F 19) p (nI 0)) 18) (va_up F 19 (upd (F 19) p (nI 0)) 19) (va_up τ.2.2.2.2.2 p none) := by
      rw [va_up_self, va_up_ne _ _ (show (17 : Nat) ≠ 19 by decide), va_up_ne _ _ (show (18 : Nat) ≠ 19 by decide)]
      exact hP.set hp (fun l e => by cases e) (show upd (F 19) p (nI 0) p = nI 0 from pk_us) (fun _ _ => ⟨rfl, rfl⟩) (fun k hk _ => pk_un hk)
    refine aw_ireturn X (ty := .boolean) hr (by first | rfl | decide | assumption) dL_stores_708 (⟨rfl, _, lS.of h1 (hL.paps hfin (fun j hj => va_up_ne _ _ (by omega))) hs1 hk1 eD_ok⟩)
  refine aw_iload14 X dL_stores_555 ?_
  refine aw_bipush X dL_stores_557 (v := nI 16) (by decide) ?_
  refine aw_icmpge X dL_stores_559 (tgt := 669) (by decide) (fun c1 => ?_) (fun c1 => ?_)
  · have := (nI_leI (by decide) (by omega)).mp c1
    exact fin (by omega)
  · refine aw_iload12 X dL_stores_562 ?_
    refine aw_ifeq X dL_stores_564 (tgt := 669) (by decide) (fun c9 => by first | exact absurd ((by decide : ¬ nI 1 = 0)) c9 | exact absurd c9 ((by decide : ¬ nI 1 = 0))) (fun _ => ?_)
    refine aw_iload14 X dL_stores_567 ?_
    refine aw_aload7 X dL_stores_569 ?_
    refine aw_iconst X dL_stores_571 (v := nI 4) (by decide) ?_
    refine aw_iload10 X dL_stores_572 ?_
    refine aw_iadd X dL_stores_574 ?_
    first | with_reducible refine aw_int (nI_add _ _) ?_ | skip
    refine aw_iald X dL_stores_575 q19 rfl (show 4 + p < 8 by omega) (by decide) ?_
    refine aw_int m3 ?_
    refine aw_icmpge X dL_stores_576 (tgt := 669) (by decide) (fun c2 => ?_) (fun c2 => ?_)
    · have := (nI_leI (by omega) (by omega)).mp c2
      exact fin (by omega)
    · clear fin
      have hlt : k < m.length := by
        rcases Nat.lt_or_ge k m.length with q | q
        · exact q
        · exact absurd (nI_le q (by omega)) c2
      have hcl : ∀ l : List (List Int32), l.length ≤ 1000 → List.count (m.getD k []) l < 2 ^ 31 := fun l hl => by
        have := List.count_le_length (a := m.getD k []) (l := l)
        omega
      have hal : ∀ (Q : PS), (∀ i, i < 4 → ∀ l, Q i = some l → pV l) → ∀ n, n ≤ 4 → (allB Q n).length ≤ 16 * n := fun Q hQ n => by
        induction n with
        | zero => exact fun _ => Nat.le_refl _
        | succ n ih =>
          intro hn
          rw [allB, List.length_append]
          have := ih (by omega)
          cases hq : Q n with
          | none => simp only [Option.getD_none, List.length_nil]; omega
          | some l => 
            have := (hQ n (by omega) l hq).2.1
            simp only [Option.getD_some]
            omega
      have hPV : ∀ i, i < 4 → ∀ l, τ.2.2.2.2.2 i = some l → pV l := fun i hi => (hP.2 i hi).1
      have hap := hal _ hPV p (by omega)
      refine aw_splB (pm := 622) (P := ¬ m.getD k [] ∈ m.take k) (fun K => ?_) ?_
      · refine aw_aload5 X dL_stores_579 ?_
        refine aw_aload6 X dL_stores_581 ?_
        refine aw_aload7 X dL_stores_583 ?_
        refine aw_iload10 X dL_stores_585 ?_
        refine aw_iload14 X dL_stores_587 ?_
        refine aw_iload10 X dL_stores_589 ?_
        refine aw_iload14 X dL_stores_591 ?_
        refine aw_iconst X dL_stores_593 (v := -1) (by decide) ?_
        refine aw_callS X (c_L_named (p := p) (kp := k) (lp := p) (kk := k) (w := none) q17 q18 q19 hP hp hm hlt hp (fun l e => by rw [hm] at e; cases e; exact ⟨by omega, rfl⟩) (fun k h => nomatch h)) kL_190 dL_stores_594 rfl rfl (by first | decide | exact Nat.le_of_ble_eq_true rfl) (by rw [hR]; exact ⟨by first | decide | exact Nat.le_of_ble_eq_true rfl | (dsimp only; omega), by first | decide | exact Nat.le_of_ble_eq_true rfl | (dsimp only; omega)⟩) (by rw [hR]; exact ⟨by first | decide | exact Nat.le_of_ble_eq_true rfl | (dsimp only; omega), by first | decide | exact Nat.le_of_ble_eq_true rfl | (dsimp only; omega)⟩) (fun v M hv => ?_)
        obtain ⟨rfl, rfl⟩ := hv
        refine aw_aload5 X dL_stores_597 ?_
        refine aw_aload6 X dL_stores_599 ?_
        refine aw_aload7 X dL_stores_601 ?_
        refine aw_iload10 X dL_stores_603 ?_
        refine aw_iload14 X dL_stores_605 ?_
        refine aw_iload10 X dL_stores_607 ?_
        refine aw_iconst X dL_stores_609 (v := nI 0) (by decide) ?_
        refine aw_iconst X dL_stores_610 (v := -1) (by decide) ?_
        refine aw_callS X (c_L_named (p := p) (kp := k) (lp := p) (kk := 0) (w := none) q17 q18 q19 hP hp hm hlt hp (fun l e => ⟨Nat.zero_le _, rfl⟩) (fun k h => nomatch h)) kL_190 dL_stores_611 rfl rfl (by first | decide | exact Nat.le_of_ble_eq_true rfl) (by rw [hR]; exact ⟨by first | decide | exact Nat.le_of_ble_eq_true rfl | (dsimp only; omega), by first | decide | exact Nat.le_of_ble_eq_true rfl | (dsimp only; omega)⟩) (by rw [hR]; exact ⟨by first | decide | exact Nat.le_of_ble_eq_true rfl | (dsimp only; omega), by first | decide | exact Nat.le_of_ble_eq_true rfl | (dsimp only; omega)⟩) (fun v M hv => ?_)
        obtain ⟨rfl, rfl⟩ := hv
        have e1 : ((Pw τ.2.2.2.2.2 none p).getD []) = m := by show (τ.2.2.2.2.2 p).getD [] = m; rw [hm]; rfl
        rw [e1, List.take_zero, List.append_nil, List.count_append]
        have hc1 := hcl (allB (Pw τ.2.2.2.2.2 none) p) (Nat.le_trans hap (by omega))
        have hc2 := List.count_le_length (a := m.getD k []) (l := m.take k)
        have hc3 : (m.take k).length ≤ k := by rw [List.length_take]; omega
        have hc4 := Nat.le_trans (List.count_le_length (a := m.getD k []) (l := allB (Pw τ.2.2.2.2.2 none) p)) hap
        refine aw_icmpne X dL_stores_614 (tgt := 621) (by decide) (fun c => ?_) (fun c => ?_)
        · refine aw_iconst X dL_stores_621 (v := nI 0) (by decide) ?_
          refine aw_b0 (fun e => c ?_) K
          rw [List.count_eq_zero.mpr e, Nat.add_zero]
        · refine aw_iconst X dL_stores_617 (v := nI 1) (by decide) ?_
          refine aw_goto X dL_stores_618 (tgt := 622) (by decide) ?_
          refine aw_b1 ?_ K
          have := (nI_eq (by omega) (by omega)).mp c
          exact List.count_eq_zero.mp (by omega)
      refine aw_istore15 X dL_stores_622 (by rw [hn]; decide) rfl ?_
      refine aw_iload13 X dL_stores_624 ?_
      refine aw_splV (pm := 660) (v := nI (if m.getD k [] ∈ m.take k then 0 else if m.getD k [] ∈ allB (va_up τ.2.2.2.2.2 p none) 12 then 0 else 1)) (fun K => ?_) ?_
      · refine aw_iload15 X dL_stores_626 ?_
        refine aw_ifeq X dL_stores_628 (tgt := 659) (by decide) (fun c => ?_) (fun c => ?_)
        · have hin : m.getD k [] ∈ m.take k := Decidable.not_not.mp (am_bz.mp c)
          rw [if_pos hin] at K
          refine aw_iconst X dL_stores_659 (v := nI 0) (by decide) ?_
          exact K
        · have hnin : ¬ m.getD k [] ∈ m.take k := am_bn.mp c
          rw [if_neg hnin] at K
          refine aw_aload5 X dL_stores_631 ?_
          refine aw_aload6 X dL_stores_633 ?_
          refine aw_aload7 X dL_stores_635 ?_
          refine aw_iload10 X dL_stores_637 ?_
          refine aw_iload14 X dL_stores_639 ?_
          refine aw_iconst X dL_stores_641 (v := nI 3) (by decide) ?_
          refine aw_aload7 X dL_stores_642 ?_
          refine aw_bipush X dL_stores_644 (v := nI 7) (by decide) ?_
          refine aw_iald X dL_stores_646 q19 (rfl : nI 7 = nI 7) (show 7 < 8 by decide) (by decide) ?_
          refine aw_iload10 X dL_stores_647 ?_
          have hz : ∀ l, τ.2.2.2.2.2 3 = some l → ((τ.2.2.2.2.2 3).getD []).length ≤ l.length ∧ F 19 7 = nI ((τ.2.2.2.2.2 3).getD []).length := fun l e => by
            rw [e]
            exact ⟨Nat.le_refl _, (hP.at (by decide) e).2.2.1⟩
          refine aw_callS X (c_L_named (p := p) (kp := k) (lp := 3) (kk := ((τ.2.2.2.2.2 3).getD []).length) (w := some p) q17 q18 q19 hP hp hm hlt (by decide) hz (fun k h => by cases h; exact hp)) kL_190 dL_stores_649 rfl rfl (by first | decide | exact Nat.le_of_ble_eq_true rfl) (by rw [hR]; exact ⟨by first | decide | exact Nat.le_of_ble_eq_true rfl | (dsimp only; omega), by first | decide | exact Nat.le_of_ble_eq_true rfl | (dsimp only; omega)⟩) (by rw [hR]; exact ⟨by first | decide | exact Nat.le_of_ble_eq_true rfl | (dsimp only; omega), by first | decide | exact Nat.le_of_ble_eq_true rfl | (dsimp only; omega)⟩) (fun v M hv => ?_)
          obtain ⟨rfl, rfl⟩ := hv
          have e4 : allB (Pw τ.2.2.2.2.2 (some p)) 3 ++ ((Pw τ.2.2.2.2.2 (some p) 3).getD []).take ((τ.2.2.2.2.2 3).getD []).length = allB (va_up τ.2.2.2.2.2 p none) 12 := by
            rw [allB_4 (fun i hi => by rw [va_up_ne _ _ (by omega)]; exact hP.1 i hi)]
            show _ = allB (va_up τ.2.2.2.2.2 p none) 3 ++ ((va_up τ.2.2.2.2.2 p none) 3).getD []
            show allB (va_up τ.2.2.2.2.2 p none) 3 ++ ((va_up τ.2.2.2.2.2 p none 3).getD []).take ((τ.2.2.2.2.2 3).getD []).length = _
            congr 1
            by_cases e : 3 = p
            · subst e
              rw [va_up_self]
              exact List.take_nil
            · rw [va_up_ne _ _ e, List.take_length]
          rw [e4]
          have hlen : (allB (va_up τ.2.2.2.2.2 p none) 12).length ≤ 64 := by
            rw [allB_4 (fun i hi => by rw [va_up_ne _ _ (by omega)]; exact hP.1 i hi)]
            refine hal _ (fun i hi l e => ?_) 4 (Nat.le_refl _)
            by_cases q : i = p
            · subst q
              rw [va_up_self] at e
              cases e
            · rw [va_up_ne _ _ q] at e
              exact hPV i hi l e
          have hc5 := Nat.le_trans (List.count_le_length (a := m.getD k []) (l := allB (va_up τ.2.2.2.2.2 p none) 12)) hlen
          refine aw_ifne X dL_stores_652 (tgt := 659) (by decide) (fun c3 => ?_) (fun c3 => ?_)
          · have hin : m.getD k [] ∈ allB (va_up τ.2.2.2.2.2 p none) 12 := by
              refine Decidable.byContradiction (fun q => c3 ?_)
              rw [List.count_eq_zero.mpr q]
              rfl
            rw [if_pos hin] at K
            refine aw_iconst X dL_stores_659 (v := nI 0) (by decide) ?_
            exact K
          · have hnin2 : ¬ m.getD k [] ∈ allB (va_up τ.2.2.2.2.2 p none) 12 := by
              have := (nI_eq (b := 0) (by omega) (by decide)).mp c3
              exact List.count_eq_zero.mp this
            rw [if_neg hnin2] at K
            refine aw_iconst X dL_stores_655 (v := nI 1) (by decide) ?_
            refine aw_goto X dL_stores_656 (tgt := 660) (by decide) ?_
            exact K
      refine aw_iadd X dL_stores_660 ?_
      first | with_reducible refine aw_int (nI_add _ _) ?_ | skip
      refine aw_istore13 X dL_stores_661 (by rw [hn]; decide) rfl ?_
      refine aw_iinc14 X dL_stores_663 (by rw [hn]; decide) (am_inc _ 1) rfl ?_
      refine aw_goto X dL_stores_666 (tgt := 555) (by decide) ?_
      have q := ih (k + 1) hlt (by omega)
      rw [fsum] at q
      exact aw_drop15 q
theorem st_fet0 {Z : AZ} {M : AM} {x p : Nat} {τ : TS} {F : Nat → Nat → Int32} {kd y w a : Int32} (C : stC Z M x τ F) (hp : p < 5) (hw : ¬ (p < 4 ∧ (τ.2.2.2.2.2 p).isSome = true)) : AW Z (am_Q Z (lP (zG Z) x) (fun _ _ => False) 482 9712) M 0 0 709 (stL x kd y w p a (nI 0) [none, none, none, none, none]) [] := by
  obtain ⟨X, hn, hR, hr, hN, hfl, hs, hT, hL⟩ := id C
  have hP := hL.2.2.2.2.2.2
  refine aw_iconst X dL_stores_709 (v := nI 0) (by decide) ?_
  refine aw_istore13 X dL_stores_710 (by rw [hn]; decide) rfl ?_
  refine aw_iconst X dL_stores_712 (v := nI 0) (by decide) ?_
  refine aw_istore14 X dL_stores_713 (by rw [hn]; decide) rfl ?_
  refine aw_iload12 X dL_stores_715 ?_
  refine aw_ifeq X dL_stores_717 (tgt := 754) (by decide) (fun _ => ?_) (fun c9 => by first | exact absurd ((rfl : nI 0 = 0)) c9 | exact absurd c9 ((rfl : nI 0 = 0)))
  refine aw_iload12 X dL_stores_754 ?_
  refine aw_ifeq X dL_stores_756 (tgt := 781) (by decide) (fun _ => ?_) (fun c9 => by first | exact absurd ((rfl : nI 0 = 0)) c9 | exact absurd c9 ((rfl : nI 0 = 0)))
  refine aw_aload0 X dL_stores_781 ?_
  refine aw_iconst X dL_stores_782 (v := nI 1) (by decide) ?_
  refine aw_iload10 X dL_stores_783 ?_
  refine aw_iload9 X dL_stores_785 ?_
  refine aw_callSH X hN (w_fetch hfl hs) kL_194 dL_stores_787 rfl rfl (by first | decide | exact Nat.le_of_ble_eq_true rfl) (by rw [hR]; exact ⟨by first | decide | exact Nat.le_of_ble_eq_true rfl | (dsimp only; omega), by first | decide | exact Nat.le_of_ble_eq_true rfl | (dsimp only; omega)⟩) (by rw [hR]; exact ⟨by first | decide | exact Nat.le_of_ble_eq_true rfl | (dsimp only; omega), by first | decide | exact Nat.le_of_ble_eq_true rfl | (dsimp only; omega)⟩) (fun v M4 hv => ?_)
  obtain ⟨rfl, hs1, hk1⟩ := hv
  have e0 : spFetch τ (nI p) w = (1, 0, τ) := by rw [spFetch, if_neg (fun q => hw ((isP_iff hP.1 hp).mp q.1))]
  rw [e0] at hs1 ⊢
  refine aw_iload12 X dL_stores_790 ?_
  refine aw_ifeq X dL_stores_792 (tgt := 805) (by decide) (fun _ => ?_) (fun c9 => by first | exact absurd ((rfl : nI 0 = 0)) c9 | exact absurd c9 ((rfl : nI 0 = 0)))
  refine aw_bipush X dL_stores_805 (v := -101) (by decide) ?_
  refine aw_icmpne X dL_stores_807 (tgt := 814) (by decide) (fun c9 => by first | exact absurd ((rfl : wr (1, 0, τ) = -101)) c9 | exact absurd c9 ((rfl : wr (1, 0, τ) = -101))) (fun _ => ?_)
  refine aw_iconst X dL_stores_810 (v := nI 1) (by decide) ?_
  refine aw_goto X dL_stores_811 (tgt := 815) (by decide) ?_
  refine aw_widen (k' := 482) (n' := 9712) (Nat.le_of_ble_eq_true rfl) (Nat.le_of_ble_eq_true rfl) ?_
  refine aw_ireturn X (ty := .boolean) hr (by first | rfl | decide | assumption) dL_stores_815 (⟨rfl, τ, lS.of hT hL hs1 hk1 eD_ok⟩)
theorem st_fetl {Z : AZ} {Q : State → Prop} {M : AM} {k0 n0 x p : Nat} {τ : TS} {F : Nat → Nat → Int32} {kd y w a : Int32} {m : List (List Int32)} (X : am_X RL cL_stores Z) (hn : zn Z = 18) (hT : tbL (zG Z) x M M F) (hP : psR (F 17) (F 18) (F 19) τ.2.2.2.2.2) (hp : p < 4) (hm : τ.2.2.2.2.2 p = some m) (K : AW Z Q M k0 n0 754 (stL x kd y w p a (nI 1) [some (.int (nI m.flatten.length)), none, none, none, none]) []) : AW Z Q M k0 n0 709 (stL x kd y w p a (nI 1) [none, none, none, none, none]) [] := by
  obtain ⟨m1, m2, m3, m4, m5⟩ := hP.at hp hm
  have hm16 := m1.2.1
  refine aw_iconst X dL_stores_709 (v := nI 0) (by decide) ?_
  refine aw_istore13 X dL_stores_710 (by rw [hn]; decide) rfl ?_
  refine aw_iconst X dL_stores_712 (v := nI 0) (by decide) ?_
  refine aw_istore14 X dL_stores_713 (by rw [hn]; decide) rfl ?_
  refine aw_loop (σ := Nat) (fun k => k ≤ m.length) (fun k => m.length - k) (fun _ => M) (fun k => stL x kd y w p a (nI 1) [some (.int (nI (m.take k).flatten.length)), some (.int (nI k)), none, none, none]) ?_ 0 (Nat.zero_le _)
  rintro k hk ih
  try dsimp only at ih ⊢
  refine aw_iload12 X dL_stores_715 ?_
  refine aw_ifeq X dL_stores_717 (tgt := 754) (by decide) (fun c9 => by first | exact absurd ((by decide : ¬ nI 1 = 0)) c9 | exact absurd c9 ((by decide : ¬ nI 1 = 0))) (fun _ => ?_)
  refine aw_iload14 X dL_stores_720 ?_
  refine aw_aload7 X dL_stores_722 ?_
  refine aw_iconst X dL_stores_724 (v := nI 4) (by decide) ?_
  refine aw_iload10 X dL_stores_725 ?_
  refine aw_iadd X dL_stores_727 ?_
  first | with_reducible refine aw_int (nI_add _ _) ?_ | skip
  refine aw_iald X dL_stores_728 (hT.at 19 (by decide)) rfl (show 4 + p < 8 by omega) (by decide) ?_
  refine aw_int m3 ?_
  refine aw_icmpge X dL_stores_729 (tgt := 754) (by decide) (fun c2 => ?_) (fun c2 => ?_)
  · have e : k = m.length := by have := (nI_leI (by omega) (by omega)).mp c2; omega
    subst e
    rw [List.take_length]
    exact aw_drop14 K
  · have hlt : k < m.length := by
      rcases Nat.lt_or_ge k m.length with q | q
      · exact q
      · exact absurd (nI_le q (by omega)) c2
    refine aw_iload13 X dL_stores_732 ?_
    refine aw_aload6 X dL_stores_734 ?_
    refine aw_bipush X dL_stores_736 (v := nI 16) (by decide) ?_
    refine aw_iload10 X dL_stores_738 ?_
    refine aw_imul X dL_stores_740 ?_
    first | with_reducible refine aw_int (pk_mul _ _) ?_ | skip
    refine aw_iload14 X dL_stores_741 ?_
    refine aw_iadd X dL_stores_743 ?_
    first | with_reducible refine aw_int (nI_add _ _) ?_ | skip
    refine aw_iald X dL_stores_744 (hT.at 18 (by decide)) rfl (show 16 * p + k < 64 by omega) (by decide) ?_
    refine aw_int (m4 k hlt) ?_
    refine aw_iadd X dL_stores_745 ?_
    first | with_reducible refine aw_int (nI_add _ _) ?_ | skip
    refine aw_istore13 X dL_stores_746 (by rw [hn]; decide) rfl ?_
    refine aw_iinc14 X dL_stores_748 (by rw [hn]; decide) (am_inc _ 1) rfl ?_
    refine aw_goto X dL_stores_751 (tgt := 715) (by decide) ?_
    have q := ih (k + 1) hlt (by omega)
    rw [off_succ hlt] at q
    exact q
theorem st_fet1 {Z : AZ} {M : AM} {x p : Nat} {τ : TS} {F : Nat → Nat → Int32} {kd y w : Int32} {m : List (List Int32)} (C : stC Z M x τ F) (hp : p < 4) (hm : τ.2.2.2.2.2 p = some m) (hw : ¬ inI w 4) : AW Z (am_Q Z (lP (zG Z) x) (fun _ _ => False) 482 9712) M 0 0 709 (stL x kd y w p (nI 0) (nI 1) [none, none, none, none, none]) [] := by
  obtain ⟨X, hn, hR, hr, hN, hfl, hs, hT, hL⟩ := id C
  refine st_fetl X hn hT hL.2.2.2.2.2.2 hp hm ?_
  refine aw_iload12 X dL_stores_754 ?_
  refine aw_ifeq X dL_stores_756 (tgt := 781) (by decide) (fun c9 => by first | exact absurd ((by decide : ¬ nI 1 = 0)) c9 | exact absurd c9 ((by decide : ¬ nI 1 = 0))) (fun _ => ?_)
  refine aw_iload11 X dL_stores_759 ?_
  refine aw_ifeq X dL_stores_761 (tgt := 781) (by decide) (fun _ => ?_) (fun c9 => by first | exact absurd ((rfl : nI 0 = 0)) c9 | exact absurd c9 ((rfl : nI 0 = 0)))
  refine aw_aload0 X dL_stores_781 ?_
  refine aw_iconst X dL_stores_782 (v := nI 1) (by decide) ?_
  refine aw_iload10 X dL_stores_783 ?_
  refine aw_iload9 X dL_stores_785 ?_
  refine aw_callSH X hN (w_fetch hfl hs) kL_194 dL_stores_787 rfl rfl (by first | decide | exact Nat.le_of_ble_eq_true rfl) (by rw [hR]; exact ⟨by first | decide | exact Nat.le_of_ble_eq_true rfl | (dsimp only; omega), by first | decide | exact Nat.le_of_ble_eq_true rfl | (dsimp only; omega)⟩) (by rw [hR]; exact ⟨by first | decide | exact Nat.le_of_ble_eq_true rfl | (dsimp only; omega), by first | decide | exact Nat.le_of_ble_eq_true rfl | (dsimp only; omega)⟩) (fun v M4 hv => ?_)
  obtain ⟨rfl, hs1, hk1⟩ := hv
  have e0 : spFetch τ (nI p) w = (1, 0, τ) := by rw [spFetch, if_neg (fun q => hw (by have := q.2; rwa [isF, hL.1] at this))]
  rw [e0] at hs1 ⊢
  refine aw_iload12 X dL_stores_790 ?_
  refine aw_ifeq X dL_stores_792 (tgt := 805) (by decide) (fun c9 => by first | exact absurd ((by decide : ¬ nI 1 = 0)) c9 | exact absurd c9 ((by decide : ¬ nI 1 = 0))) (fun _ => ?_)
  refine aw_iload11 X dL_stores_795 ?_
  refine aw_ifeq X dL_stores_797 (tgt := 805) (by decide) (fun _ => ?_) (fun c9 => by first | exact absurd ((rfl : nI 0 = 0)) c9 | exact absurd c9 ((rfl : nI 0 = 0)))
  refine aw_bipush X dL_stores_805 (v := -101) (by decide) ?_
  refine aw_icmpne X dL_stores_807 (tgt := 814) (by decide) (fun c9 => by first | exact absurd ((rfl : wr (1, 0, τ) = -101)) c9 | exact absurd c9 ((rfl : wr (1, 0, τ) = -101))) (fun _ => ?_)
  refine aw_iconst X dL_stores_810 (v := nI 1) (by decide) ?_
  refine aw_goto X dL_stores_811 (tgt := 815) (by decide) ?_
  refine aw_widen (k' := 482) (n' := 9712) (Nat.le_of_ble_eq_true rfl) (Nat.le_of_ble_eq_true rfl) ?_
  refine aw_ireturn X (ty := .boolean) hr (by first | rfl | decide | assumption) dL_stores_815 (⟨rfl, τ, lS.of hT hL hs1 hk1 eD_ok⟩)
theorem st_fet2 {Z : AZ} {M : AM} {x p i : Nat} {τ : TS} {F : Nat → Nat → Int32} {kd y : Int32} {m : List (List Int32)} (C : stC Z M x τ F) (hp : p < 4) (hm : τ.2.2.2.2.2 p = some m) (hi : i < 4) : AW Z (am_Q Z (lP (zG Z) x) (fun _ _ => False) 482 9712) M 0 0 709 (stL x kd y (nI i) p (nI 1) (nI 1) [none, none, none, none, none]) [] := by
  obtain ⟨X, hn, hR, hr, hN, hfl, hs, hT, hL⟩ := id C
  have hP := hL.2.2.2.2.2.2
  obtain ⟨m1, m2, m3, m4, m5⟩ := hP.at hp hm
  refine st_fetl X hn hT hP hp hm ?_
  refine aw_iload12 X dL_stores_754 ?_
  refine aw_ifeq X dL_stores_756 (tgt := 781) (by decide) (fun c9 => by first | exact absurd ((by decide : ¬ nI 1 = 0)) c9 | exact absurd c9 ((by decide : ¬ nI 1 = 0))) (fun _ => ?_)
  refine aw_iload11 X dL_stores_759 ?_
  refine aw_ifeq X dL_stores_761 (tgt := 781) (by decide) (fun c9 => by first | exact absurd ((by decide : ¬ nI 1 = 0)) c9 | exact absurd c9 ((by decide : ¬ nI 1 = 0))) (fun _ => ?_)
  refine aw_aload3 X dL_stores_764 ?_
  refine aw_aload4 X dL_stores_765 ?_
  refine aw_iload9 X dL_stores_767 ?_
  refine aw_aload5 X dL_stores_769 ?_
  refine aw_bipush X dL_stores_771 (v := nI 16) (by decide) ?_
  refine aw_iload10 X dL_stores_773 ?_
  refine aw_imul X dL_stores_775 ?_
  first | with_reducible refine aw_int (pk_mul _ _) ?_ | skip
  refine aw_iload13 X dL_stores_776 ?_
  refine aw_callS X (c_L_give (i := i) (from0 := 16 * p) (m := m.flatten.length) (hT.at 0 (by decide)) (hT.at 1 (by decide)) (hT.at 17 (by decide)) hi m1.1 (show 16 * p + m.flatten.length ≤ 64 by have := m1.1; omega) (by decide) (by omega) (by omega) (fun _ => by omega)) kL_146 dL_stores_778 rfl rfl (by first | decide | exact Nat.le_of_ble_eq_true rfl) (by rw [hR]; exact ⟨by first | decide | exact Nat.le_of_ble_eq_true rfl | (dsimp only; omega), by first | decide | exact Nat.le_of_ble_eq_true rfl | (dsimp only; omega)⟩) (by rw [hR]; exact ⟨by first | decide | exact Nat.le_of_ble_eq_true rfl | (dsimp only; omega), by first | decide | exact Nat.le_of_ble_eq_true rfl | (dsimp only; omega)⟩) (fun v M1 hv => ?_)
  obtain ⟨rfl, g, hM1, g1, g2⟩ := hv
  have h1 : tbL (zG Z) x M M1 (va_up (va_up F 1 (upd (F 1) i (nI m.flatten.length))) 0 g) := by
    rw [hM1]
    exact (hT.st (j := 1) (by decide) _).st (j := 0) (by decide) _
  have hfin := hL.2.1.set (i := i) (bs := m.flatten) (g := g) (m := upd (F 1) i (nI m.flatten.length)) m1.1 m1.2.2.2 pk_us (fun j _ hj => pk_un hj) (fun k hk => (g1 k hk).trans (m5 k hk)) g2
  refine aw_aload0 X dL_stores_781 ?_
  refine aw_iconst X dL_stores_782 (v := nI 1) (by decide) ?_
  refine aw_iload10 X dL_stores_783 ?_
  refine aw_iload9 X dL_stores_785 ?_
  refine aw_callSH X hN (w_fetch hfl (hs.tb h1)) kL_194 dL_stores_787 rfl rfl (by first | decide | exact Nat.le_of_ble_eq_true rfl) (by rw [hR]; exact ⟨by first | decide | exact Nat.le_of_ble_eq_true rfl | (dsimp only; omega), by first | decide | exact Nat.le_of_ble_eq_true rfl | (dsimp only; omega)⟩) (by rw [hR]; exact ⟨by first | decide | exact Nat.le_of_ble_eq_true rfl | (dsimp only; omega), by first | decide | exact Nat.le_of_ble_eq_true rfl | (dsimp only; omega)⟩) (fun v M4 hv => ?_)
  obtain ⟨rfl, hs1, hk1⟩ := hv
  have e0 : spFetch τ (nI p) (nI i) = (0, nI m.flatten.length, ((τ.1.1, va_up τ.1.2 i m.flatten), τ.2)) := by
    rw [spFetch, if_pos ⟨(isP_iff hP.1 (by omega)).mpr ⟨hp, by rw [hm]; rfl⟩, by rw [isF, hL.1]; exact inI_n hi (by decide)⟩]
    simp only [tL, tP, setF, ix_n (show p < 2 ^ 31 by omega), ix_n (show i < 2 ^ 31 by omega), hm, Option.getD_some]
  rw [e0] at hs1 ⊢
  refine aw_iload12 X dL_stores_790 ?_
  refine aw_ifeq X dL_stores_792 (tgt := 805) (by decide) (fun c9 => by first | exact absurd ((by decide : ¬ nI 1 = 0)) c9 | exact absurd c9 ((by decide : ¬ nI 1 = 0))) (fun _ => ?_)
  refine aw_iload11 X dL_stores_795 ?_
  refine aw_ifeq X dL_stores_797 (tgt := 805) (by decide) (fun c9 => by first | exact absurd ((by decide : ¬ nI 1 = 0)) c9 | exact absurd c9 ((by decide : ¬ nI 1 = 0))) (fun _ => ?_)
  refine aw_iload13 X dL_stores_800 ?_
  refine aw_goto X dL_stores_802 (tgt := 807) (by decide) ?_
  refine aw_icmpne X dL_stores_807 (tgt := 814) (by decide) (fun c9 => by first | exact absurd ((rfl : wr (0, nI m.flatten.length, ((τ.1.1, va_up τ.1.2 i m.flatten), τ.2)) = nI m.flatten.length)) c9 | exact absurd c9 ((rfl : wr (0, nI m.flatten.length, ((τ.1.1, va_up τ.1.2 i m.flatten), τ.2)) = nI m.flatten.length))) (fun _ => ?_)
  refine aw_iconst X dL_stores_810 (v := nI 1) (by decide) ?_
  refine aw_goto X dL_stores_811 (tgt := 815) (by decide) ?_
  refine aw_widen (k' := 482) (n' := 9712) (Nat.le_of_ble_eq_true rfl) (Nat.le_of_ble_eq_true rfl) ?_
  refine aw_ireturn X (ty := .boolean) hr (by first | rfl | decide | assumption) dL_stores_815 (⟨rfl, _, lS.of h1 (hL.files hfin (fun j hj => by rw [va_up_ne _ _ (by omega), va_up_ne _ _ (by omega)])) hs1 hk1 eD_ok⟩)
theorem c_L_stores {l : Launch} {G : AG} {M : AM} {x : Nat} {τ : TS} {kd y : Int32} (hfl : l.stackTraces = false) (S : lS G M x τ) : Cq l G yL_stores cL_stores 18 (some .boolean) rmS M [.ref x, .int kd, .int y, .ref (x + 271), .ref (x + 272), .ref (x + 288), .ref (x + 289), .ref (x + 290), .ref (x + 291)] ncs (lP G x) := by
  obtain ⟨hs, F, hT, hL⟩ := S
  refine Cq.of (by decide) [some (.ref x), some (.int kd), some (.int y), some (.ref (x + 271)), some (.ref (x + 272)), some (.ref (x + 288)), some (.ref (x + 289)), some (.ref (x + 290)), some (.ref (x + 291)), none, none, none, none, none, none, none, none, none] rfl (Nat.le_of_ble_eq_true rfl) ?_
  intro Z hZ hN
  obtain ⟨rfl, hn, rfl, hR, X, hr, hnm⟩ := hZ
  have hP := hL.2.2.2.2.2.2
  refine aw_iload2 X dL_stores_0 ?_
  refine aw_iconst X dL_stores_1 (v := nI 5) (by decide) ?_
  refine aw_callS X (c_L_some (N := 5) (by decide) (by decide)) kL_136 dL_stores_2 rfl rfl (by first | decide | exact Nat.le_of_ble_eq_true rfl) (by rw [hR]; exact ⟨by first | decide | exact Nat.le_of_ble_eq_true rfl | (dsimp only; omega), by first | decide | exact Nat.le_of_ble_eq_true rfl | (dsimp only; omega)⟩) (by rw [hR]; exact ⟨by first | decide | exact Nat.le_of_ble_eq_true rfl | (dsimp only; omega), by first | decide | exact Nat.le_of_ble_eq_true rfl | (dsimp only; omega)⟩) (fun v M hv => ?_)
  obtain ⟨rfl, j0, hj0, rfl⟩ := hv
  refine aw_spl (pm := 22) (P := fun _ => True) (fun K => ?_) (fun v _ => ?_)
  · refine aw_iload2 X dL_stores_5 ?_
    refine aw_bipush X dL_stores_6 (v := nI 9) (by decide) ?_
    refine aw_ishr X dL_stores_8 ?_
    refine aw_bipush X dL_stores_9 (v := nI 13) (by decide) ?_
    refine aw_callS X (c_L_some (N := 13) (by decide) (by decide)) kL_136 dL_stores_11 rfl rfl (by first | decide | exact Nat.le_of_ble_eq_true rfl) (by rw [hR]; exact ⟨by first | decide | exact Nat.le_of_ble_eq_true rfl | (dsimp only; omega), by first | decide | exact Nat.le_of_ble_eq_true rfl | (dsimp only; omega)⟩) (by rw [hR]; exact ⟨by first | decide | exact Nat.le_of_ble_eq_true rfl | (dsimp only; omega), by first | decide | exact Nat.le_of_ble_eq_true rfl | (dsimp only; omega)⟩) (fun v M hv => ?_)
    obtain ⟨rfl, j, hj, rfl⟩ := hv
    refine aw_ifne X dL_stores_14 (tgt := 21) (by decide) (fun c => ?_) (fun c => ?_)
    · refine aw_iconst X dL_stores_21 (v := nI 0) (by decide) ?_
      exact K _ trivial
    · refine aw_iconst X dL_stores_17 (v := nI 1) (by decide) ?_
      refine aw_goto X dL_stores_18 (tgt := 22) (by decide) ?_
      exact K _ trivial
  refine aw_isub X dL_stores_22 ?_
  refine aw_any (fun w => ?_)
  refine aw_istore9 X dL_stores_23 (by rw [hn]; decide) rfl ?_
  refine aw_iload2 X dL_stores_25 ?_
  refine aw_iconst X dL_stores_26 (v := nI 3) (by decide) ?_
  refine aw_ishr X dL_stores_27 ?_
  refine aw_iconst X dL_stores_28 (v := nI 5) (by decide) ?_
  refine aw_callS X (c_L_some (N := 5) (by decide) (by decide)) kL_136 dL_stores_29 rfl rfl (by first | decide | exact Nat.le_of_ble_eq_true rfl) (by rw [hR]; exact ⟨by first | decide | exact Nat.le_of_ble_eq_true rfl | (dsimp only; omega), by first | decide | exact Nat.le_of_ble_eq_true rfl | (dsimp only; omega)⟩) (by rw [hR]; exact ⟨by first | decide | exact Nat.le_of_ble_eq_true rfl | (dsimp only; omega), by first | decide | exact Nat.le_of_ble_eq_true rfl | (dsimp only; omega)⟩) (fun v M hv => ?_)
  obtain ⟨rfl, p, hp, rfl⟩ := hv
  refine aw_istore10 X dL_stores_32 (by rw [hn]; decide) rfl ?_
  have C : stC Z M x τ F := ⟨X, hn, hR, hr, hN, hfl, hs, hT, hL⟩
  refine aw_splB (pm := 50) (P := inI w 4) (fun K => ?_) ?_
  · refine aw_iload9 X dL_stores_34 ?_
    refine aw_iflt X dL_stores_36 (tgt := 49) (by decide) (fun c => ?_) (fun c => ?_)
    · refine aw_iconst X dL_stores_49 (v := nI 0) (by decide) ?_
      exact aw_b0 (fun e => e.1 c) K
    · refine aw_iload9 X dL_stores_39 ?_
      refine aw_iconst X dL_stores_41 (v := nI 4) (by decide) ?_
      refine aw_icmpge X dL_stores_42 (tgt := 49) (by decide) (fun c2 => ?_) (fun c2 => ?_)
      · refine aw_iconst X dL_stores_49 (v := nI 0) (by decide) ?_
        exact aw_b0 (fun e => absurd c2 (Int32.not_le.mpr e.2)) K
      · refine aw_iconst X dL_stores_45 (v := nI 1) (by decide) ?_
        refine aw_goto X dL_stores_46 (tgt := 50) (by decide) ?_
        exact aw_b1 (inI_of c c2) K
  refine aw_istore11 X dL_stores_50 (by rw [hn]; decide) rfl ?_
  refine aw_splB (pm := 72) (P := p < 4 ∧ (τ.2.2.2.2.2 p).isSome = true) (fun K => ?_) ?_
  · refine aw_iload10 X dL_stores_52 ?_
    refine aw_iconst X dL_stores_54 (v := nI 4) (by decide) ?_
    refine aw_icmpge X dL_stores_55 (tgt := 71) (by decide) (fun c => ?_) (fun c => ?_)
    · refine aw_iconst X dL_stores_71 (v := nI 0) (by decide) ?_
      exact aw_b0 (fun e => absurd ((nI_leI (by decide) (by omega)).mp c) (by omega)) K
    · have hp4 : p < 4 := by
        rcases Nat.lt_or_ge p 4 with q | q
        · exact q
        · exact absurd (nI_le q (by omega)) c
      refine aw_aload7 X dL_stores_58 ?_
      refine aw_iload10 X dL_stores_60 ?_
      refine aw_iald X dL_stores_62 (hT.at 19 (by decide)) rfl (show p < 8 by omega) (by decide) ?_
      cases hq : τ.2.2.2.2.2 p with
      | none =>
        refine aw_int (hP.no hp4 hq) ?_
        refine aw_iconst X dL_stores_63 (v := nI 1) (by decide) ?_
        refine aw_icmpne X dL_stores_64 (tgt := 71) (by decide) (fun _ => ?_) (fun c9 => by first | exact absurd ((by decide : ¬ nI 0 = nI 1)) c9 | exact absurd c9 ((by decide : ¬ nI 0 = nI 1)))
        refine aw_iconst X dL_stores_71 (v := nI 0) (by decide) ?_
        exact aw_b0 (fun e => by rw [hq] at e; cases e.2) K
      | some m =>
        refine aw_int (hP.at hp4 hq).2.1 ?_
        refine aw_iconst X dL_stores_63 (v := nI 1) (by decide) ?_
        refine aw_icmpne X dL_stores_64 (tgt := 71) (by decide) (fun c9 => by first | exact absurd ((rfl : nI 1 = nI 1)) c9 | exact absurd c9 ((rfl : nI 1 = nI 1))) (fun _ => ?_)
        refine aw_iconst X dL_stores_67 (v := nI 1) (by decide) ?_
        refine aw_goto X dL_stores_68 (tgt := 72) (by decide) ?_
        exact aw_b1 ⟨hp4, by rw [hq]; rfl⟩ K
  refine aw_istore12 X dL_stores_72 (by rw [hn]; decide) rfl ?_
  refine aw_iload1 X dL_stores_74 ?_
  refine aw_ifne X dL_stores_75 (tgt := 265) (by decide) (fun c => ?_) (fun c => ?_)
  · refine aw_iload1 X dL_stores_265 ?_
    refine aw_iconst X dL_stores_266 (v := nI 3) (by decide) ?_
    refine aw_icmpge X dL_stores_267 (tgt := 544) (by decide) (fun c2 => ?_) (fun c2 => ?_)
    · refine aw_iload1 X dL_stores_544 ?_
      refine aw_iconst X dL_stores_545 (v := nI 3) (by decide) ?_
      refine aw_icmpne X dL_stores_546 (tgt := 709) (by decide) (fun c3 => ?_) (fun c3 => ?_)
      · by_cases hq : p < 4 ∧ (τ.2.2.2.2.2 p).isSome = true
        · rw [am_b1 hq]
          obtain ⟨m, hm⟩ := Option.isSome_iff_exists.mp hq.2
          by_cases hw : inI w 4
          · rw [am_b1 hw]
            obtain ⟨w1, w2, -⟩ := inI_j hw (by decide)
            generalize ix w = i at w1 w2
            subst w2
            exact st_fet2 C hq.1 hm w1
          · rw [am_b0 hw]
            exact st_fet1 C hq.1 hm hw
        · rw [am_b0 hq]
          exact st_fet0 C hp hq
      · by_cases hq : p < 4 ∧ (τ.2.2.2.2.2 p).isSome = true
        · rw [am_b1 hq]
          obtain ⟨m, hm⟩ := Option.isSome_iff_exists.mp hq.2
          exact st_rel1 C hq.1 hm
        · rw [am_b0 hq]
          exact st_rel0 C hp hq
    · by_cases hw : inI w 4
      · rw [am_b1 hw]
        obtain ⟨w1, w2, -⟩ := inI_j hw (by decide)
        generalize ix w = i at w1 w2
        subst w2
        exact st_store1 C w1
      · rw [am_b0 hw]
        exact st_store0 C hw
  · exact st_cut C
