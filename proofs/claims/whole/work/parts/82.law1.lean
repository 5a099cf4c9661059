/-! the law: one call of the class and of the model, compared -/
theorem isMD.base {G : AG} {M0 M : AM} {y t : Nat} {τ : TS} (h : isMD G M0 M y τ t) : isMD G M M y τ t := by
  obtain ⟨A, S, c, h1, h2, h3⟩ := h
  exact ⟨A, S, c, h1.base, h2, h3⟩
theorem isMD.ke {G : AG} {M0 M : AM} {y t : Nat} {τ : TS} (h : isMD G M0 M y τ t) : KE M0 M (fun q => y ≤ q ∧ q < y + 27) := by
  obtain ⟨A, S, c, h1, h2, h3⟩ := h
  exact h1.2.2.2.2
theorem isMD.at {G : AG} {M0 M : AM} {y t : Nat} {τ : TS} (h : isMD G M0 M y τ t) : ∃ c, M.1 y = some (am_o 10 (mobj y c)) := by
  obtain ⟨A, S, c, h1, h2, h3⟩ := h
  exact ⟨c, h1.1⟩
theorem isMD.kr {G : AG} {M0 M M' : AM} {y t : Nat} {τ : TS} {E : Nat → Prop} (h : isMD G M0 M y τ t) (hk : KE M M' E) (hE : ∀ q, E q → q < y ∨ y + 27 ≤ q) : isMD G M' M' y τ t := by
  obtain ⟨A, S, c, ⟨a1, a2, a3, a4, -⟩, h2, h3⟩ := h
  exact ⟨A, S, c, ⟨hk _ _ a1 (fun e => by have := hE _ e; omega), fun a n hT => hk _ _ (a2 a n hT) (fun e => by have := hE _ e; have := mT_le hT (by omega); omega), fun a n hT => hk _ _ (a3 a n hT) (fun e => by have := hE _ e; have := mT_le hT (by omega); omega), hk _ _ a4 (fun e => by have := hE _ e; omega), KE.rf⟩, h2, h3⟩
/-- what the law's frame has -/
def lwC (Z : AZ) (b L : Nat) (xs : Nat → Int32) : Prop := am_X RL cL_law Z ∧ ncs (zs Z) ∧ va_X b L xs (zs Z) (zs Z).heap ∧ b < (zs Z).heap.size ∧ ¬ am_A (zG Z) b ∧ (zl Z).stackTraces = false ∧ zn Z = 8 ∧ zR Z = room_1
theorem aw_sld {Z : AZ} {Q : State → Prop} {M : AM} {k n pc b L : Nat} {xs : Nat → Int32} {Lo : List (Option Value)} {st : List Value} (C : lwC Z b L xs) {j : Nat} {x : Int32} (d : decode cL_law pc = .ok (.iaload, 1)) (hx : x = nI j) (hj : j < L) (hL : L < 2 ^ 31) (kk : AW Z Q M k n (pc + 1) Lo (.int (xs j) :: st)) : AW Z Q M k n pc Lo (.int x :: .ref b :: st) := by
  intro H locs ls hH hS hl
  obtain ⟨X, -, hX, hbl, hbA, -⟩ := C
  exact va_sld X.1 X.2.1 hX hbl hbA hS (am_in hx hj hL) d (by rw [am_cl hx hj hL]; exact kk H locs ls hH hS hl)
theorem aw_slen {Z : AZ} {Q : State → Prop} {M : AM} {k n pc b L : Nat} {xs : Nat → Int32} {Lo : List (Option Value)} {st : List Value} (C : lwC Z b L xs) (d : decode cL_law pc = .ok (.arraylength, 1)) (kk : AW Z Q M k n (pc + 1) Lo (.int (nI L) :: st)) : AW Z Q M k n pc Lo (.ref b :: st) := by
  intro H locs ls hH hS hl
  obtain ⟨X, -, hX, hbl, hbA, -⟩ := C
  exact va_slen X.1 X.2.1 hX hbl hbA hS d (kk H locs ls hH hS hl)
/-- behind a call -/
def lwT (Z : AZ) (Q : State → Prop) (k n b x i : Nat) : Prop := ∀ (M' : AM) (k' n' : Nat) (τ' : TS) (t' : Nat) (u5 u6 u7 : Option Value), k' ≤ k + 482 → n' ≤ n + 9712 → isRS (zG Z) M' x (x + 299) τ' → isMD (zG Z) M' M' (x + 271) τ' t' → (∃ S, M'.1 (x + 298) = some (am_al (zG Z) 1 S)) → AW Z Q M' k' n' 2593 [some (.ref b), some (.ref x), some (.ref (x + 271)), some (.ref (x + 298)), some (.int (nI i)), u5, u6, u7] []
theorem lc_file {Z : AZ} {Q : State → Prop} {M : AM} {k n b L x i t : Nat} {xs : Nat → Int32} {τ : TS} {u5 u6 u7 : Option Value} {S : Nat → Int64} (C : lwC Z b L xs) (hi : i + 4 < L) (hL : L < 2 ^ 31) (hk : k + 482 ≤ 601024) (hnn : n + 9712 ≤ 7293034) (hs : isRS (zG Z) M x (x + 299) τ) (hm : isMD (zG Z) M M (x + 271) τ t) (ho : M.1 (x + 298) = some (am_al (zG Z) 1 S)) (T : lwT Z Q k n b x i) : AW Z Q M k n 212 [some (.ref b), some (.ref x), some (.ref (x + 271)), some (.ref (x + 298)), some (.int (nI i)), u5, u6, u7] [] := by
  obtain ⟨X, hN, -, -, -, hfl, hn, hR⟩ := id C
  refine aw_aload1 X dL_law_212 ?_
  refine aw_aload3 X dL_law_213 ?_
  refine aw_callSH X hN (c_L_file hfl hs ho ⟨by omega, by omega⟩) kL_136 dL_law_214 rfl rfl (by first | decide | exact Nat.le_of_ble_eq_true rfl) (by rw [hR]; exact ⟨Nat.le_of_ble_eq_true rfl, Nat.le_of_ble_eq_true rfl⟩) (by rw [hR]; exact ⟨by show k + 1 ≤ 601024; omega, by show n + 6 ≤ 7293034; omega⟩) (fun v M1 hv => ?_)
  obtain ⟨rfl, hs1, hk1, S1, ho1, hv1⟩ := hv
  have hm1 := hm.kr hk1 (fun q e => by omega)
  obtain ⟨c1, hat1⟩ := hm1.at
  refine aw_istore5 X dL_law_217 (by rw [hn]; decide) rfl ?_
  refine aw_aload2 X dL_law_219 ?_
  refine aw_callV X (c_X9_file hm1) kL_141 (ci := 10) rfl hat1 dL_law_220 rfl rfl (by first | decide | exact Nat.le_of_ble_eq_true rfl) (by rw [hR]; exact ⟨Nat.le_of_ble_eq_true rfl, Nat.le_of_ble_eq_true rfl⟩) (by rw [hR]; exact ⟨by show k + 1 + 0 ≤ 601024; omega, by show n + 6 + 0 ≤ 7293034; omega⟩) (fun v M2 hv => ?_)
  obtain ⟨rfl, hm2⟩ := hv
  have hk2 := hm2.ke
  have hs2 := hs1.kr hk2 (fun q e => by omega)
  have ho2 := hk2 _ _ ho1 (by omega)
  obtain ⟨c2, hat2⟩ := hm2.at
  refine aw_istore6 X dL_law_223 (by rw [hn]; decide) rfl ?_
  refine aw_aload2 X dL_law_225 ?_
  refine aw_callV X (c_X9_thrown hm2) kL_142 (ci := 10) rfl hat2 dL_law_226 rfl rfl (by first | decide | exact Nat.le_of_ble_eq_true rfl) (by rw [hR]; exact ⟨Nat.le_of_ble_eq_true rfl, Nat.le_of_ble_eq_true rfl⟩) (by rw [hR]; exact ⟨by show k + 1 + 0 + 0 ≤ 601024; omega, by show n + 6 + 0 + 0 ≤ 7293034; omega⟩) (fun v M3 hv => ?_)
  obtain ⟨rfl, rfl⟩ := hv
  refine aw_iload5 X dL_law_229 ?_
  refine aw_icmpeq X dL_law_231 (tgt := 236) (by decide) (fun _ => ?_) (fun c9 => by first | exact absurd (rfl) c9 | exact absurd c9 (rfl))
  refine aw_iload5 X dL_law_236 ?_
  by_cases e0 : (spFile τ).1 = 0
  · refine aw_ifne X dL_law_238 (tgt := 253) (by decide) (fun c9 => by first | exact absurd ((show nI (spFile τ).1 = 0 from by rw [e0]; rfl)) c9 | exact absurd c9 ((show nI (spFile τ).1 = 0 from by rw [e0]; rfl))) (fun _ => ?_)
    refine aw_aload3 X dL_law_241 ?_
    refine aw_iconst X dL_law_242 (v := nI 0) (by decide) ?_
    refine aw_lald X dL_law_243 ho2 rfl (by omega) (by decide) ?_
    refine aw_long (y := cvI (spFile τ).2.1) (hv1 e0) ?_
    refine aw_iload6 X dL_law_244 ?_
    refine aw_i2l X dL_law_246 ?_
    refine aw_lcmp X dL_law_247 ?_
    refine aw_ifeq X dL_law_248 (tgt := 253) (by decide) (fun _ => ?_) (fun c9 => by first | exact absurd (((lg_cmp_eq _ _).mpr rfl)) c9 | exact absurd c9 (((lg_cmp_eq _ _).mpr rfl)))
    refine aw_goto X dL_law_253 (tgt := 2593) (by decide) ?_
    exact T M3 _ _ _ _ _ _ _ (by show k + 1 + 0 + 0 ≤ k + 482; omega) (by show n + 6 + 0 + 0 ≤ n + 9712; omega) hs2 hm2.base ⟨_, ho2⟩
  · refine aw_ifne X dL_law_238 (tgt := 253) (by decide) (fun _ => ?_) (fun c9 => by first | exact absurd ((show ¬ nI (spFile τ).1 = 0 from nI_ne0 (by omega) (by have := le_spFile (τ := τ); omega))) c9 | exact absurd c9 ((show ¬ nI (spFile τ).1 = 0 from nI_ne0 (by omega) (by have := le_spFile (τ := τ); omega))))
    refine aw_goto X dL_law_253 (tgt := 2593) (by decide) ?_
    exact T M3 _ _ _ _ _ _ _ (by show k + 1 + 0 + 0 ≤ k + 482; omega) (by show n + 6 + 0 + 0 ≤ n + 9712; omega) hs2 hm2.base ⟨_, ho2⟩
theorem lc_add {Z : AZ} {Q : State → Prop} {M : AM} {k n b L x i t : Nat} {xs : Nat → Int32} {τ : TS} {u5 u6 u7 : Option Value} {S : Nat → Int64} (C : lwC Z b L xs) (hi : i + 4 < L) (hL : L < 2 ^ 31) (hk : k + 482 ≤ 601024) (hnn : n + 9712 ≤ 7293034) (hs : isRS (zG Z) M x (x + 299) τ) (hm : isMD (zG Z) M M (x + 271) τ t) (ho : M.1 (x + 298) = some (am_al (zG Z) 1 S)) (T : lwT Z Q k n b x i) : AW Z Q M k n 256 [some (.ref b), some (.ref x), some (.ref (x + 271)), some (.ref (x + 298)), some (.int (nI i)), u5, u6, u7] [] := by
  obtain ⟨X, hN, -, -, -, hfl, hn, hR⟩ := id C
  refine aw_aload1 X dL_law_256 ?_
  refine aw_aload0 X dL_law_257 ?_
  refine aw_iload4 X dL_law_258 ?_
  refine aw_iconst X dL_law_260 (v := nI 1) (by decide) ?_
  refine aw_iadd X dL_law_261 ?_
  first | with_reducible refine aw_int (nI_add _ _) ?_ | skip
  refine aw_sld C dL_law_262 rfl (by omega) (by omega) ?_
  refine aw_aload0 X dL_law_263 ?_
  refine aw_iload4 X dL_law_264 ?_
  refine aw_iconst X dL_law_266 (v := nI 2) (by decide) ?_
  refine aw_iadd X dL_law_267 ?_
  first | with_reducible refine aw_int (nI_add _ _) ?_ | skip
  refine aw_sld C dL_law_268 rfl (by omega) (by omega) ?_
  refine aw_aload0 X dL_law_269 ?_
  refine aw_iload4 X dL_law_270 ?_
  refine aw_iconst X dL_law_272 (v := nI 3) (by decide) ?_
  refine aw_iadd X dL_law_273 ?_
  first | with_reducible refine aw_int (nI_add _ _) ?_ | skip
  refine aw_sld C dL_law_274 rfl (by omega) (by omega) ?_
  refine aw_aload0 X dL_law_275 ?_
  refine aw_iload4 X dL_law_276 ?_
  refine aw_iconst X dL_law_278 (v := nI 4) (by decide) ?_
  refine aw_iadd X dL_law_279 ?_
  first | with_reducible refine aw_int (nI_add _ _) ?_ | skip
  refine aw_sld C dL_law_280 rfl (by omega) (by omega) ?_
  refine aw_aload3 X dL_law_281 ?_
  refine aw_callSH X hN (c_L_add hfl hs ho ⟨by omega, by omega⟩) kL_145 dL_law_282 rfl rfl (by first | decide | exact Nat.le_of_ble_eq_true rfl) (by rw [hR]; exact ⟨Nat.le_of_ble_eq_true rfl, Nat.le_of_ble_eq_true rfl⟩) (by rw [hR]; exact ⟨by show k + 5 ≤ 601024; omega, by show n + 30 ≤ 7293034; omega⟩) (fun v M1 hv => ?_)
  obtain ⟨rfl, hs1, hk1, S1, ho1, hv1⟩ := hv
  have hm1 := hm.kr hk1 (fun q e => by omega)
  obtain ⟨c1, hat1⟩ := hm1.at
  refine aw_istore5 X dL_law_285 (by rw [hn]; decide) rfl ?_
  refine aw_aload2 X dL_law_287 ?_
  refine aw_aload0 X dL_law_288 ?_
  refine aw_iload4 X dL_law_289 ?_
  refine aw_iconst X dL_law_291 (v := nI 1) (by decide) ?_
  refine aw_iadd X dL_law_292 ?_
  first | with_reducible refine aw_int (nI_add _ _) ?_ | skip
  refine aw_sld C dL_law_293 rfl (by omega) (by omega) ?_
  refine aw_aload0 X dL_law_294 ?_
  refine aw_iload4 X dL_law_295 ?_
  refine aw_iconst X dL_law_297 (v := nI 2) (by decide) ?_
  refine aw_iadd X dL_law_298 ?_
  first | with_reducible refine aw_int (nI_add _ _) ?_ | skip
  refine aw_sld C dL_law_299 rfl (by omega) (by omega) ?_
  refine aw_aload0 X dL_law_300 ?_
  refine aw_iload4 X dL_law_301 ?_
  refine aw_iconst X dL_law_303 (v := nI 3) (by decide) ?_
  refine aw_iadd X dL_law_304 ?_
  first | with_reducible refine aw_int (nI_add _ _) ?_ | skip
  refine aw_sld C dL_law_305 rfl (by omega) (by omega) ?_
  refine aw_aload0 X dL_law_306 ?_
  refine aw_iload4 X dL_law_307 ?_
  refine aw_iconst X dL_law_309 (v := nI 4) (by decide) ?_
  refine aw_iadd X dL_law_310 ?_
  first | with_reducible refine aw_int (nI_add _ _) ?_ | skip
  refine aw_sld C dL_law_311 rfl (by omega) (by omega) ?_
  refine aw_callV X (c_X9_add hm1) kL_148 (ci := 10) rfl hat1 dL_law_312 rfl rfl (by first | decide | exact Nat.le_of_ble_eq_true rfl) (by rw [hR]; exact ⟨Nat.le_of_ble_eq_true rfl, Nat.le_of_ble_eq_true rfl⟩) (by rw [hR]; exact ⟨by show k + 5 + 0 ≤ 601024; omega, by show n + 30 + 0 ≤ 7293034; omega⟩) (fun v M2 hv => ?_)
  obtain ⟨rfl, hm2⟩ := hv
  have hk2 := hm2.ke
  have hs2 := hs1.kr hk2 (fun q e => by omega)
  have ho2 := hk2 _ _ ho1 (by omega)
  obtain ⟨c2, hat2⟩ := hm2.at
  refine aw_istore6 X dL_law_315 (by rw [hn]; decide) rfl ?_
  refine aw_aload2 X dL_law_317 ?_
  refine aw_callV X (c_X9_thrown hm2) kL_142 (ci := 10) rfl hat2 dL_law_318 rfl rfl (by first | decide | exact Nat.le_of_ble_eq_true rfl) (by rw [hR]; exact ⟨Nat.le_of_ble_eq_true rfl, Nat.le_of_ble_eq_true rfl⟩) (by rw [hR]; exact ⟨by show k + 5 + 0 + 0 ≤ 601024; omega, by show n + 30 + 0 + 0 ≤ 7293034; omega⟩) (fun v M3 hv => ?_)
  obtain ⟨rfl, rfl⟩ := hv
  refine aw_iload5 X dL_law_321 ?_
  refine aw_icmpeq X dL_law_323 (tgt := 328) (by decide) (fun _ => ?_) (fun c9 => by first | exact absurd (rfl) c9 | exact absurd c9 (rfl))
  refine aw_iload5 X dL_law_328 ?_
  by_cases e0 : (spAdd τ (xs (i + 1)) (xs (i + 2)) (xs (i + 3)) (xs (i + 4))).1 = 0
  · refine aw_ifne X dL_law_330 (tgt := 345) (by decide) (fun c9 => by first | exact absurd ((show nI (spAdd τ (xs (i + 1)) (xs (i + 2)) (xs (i + 3)) (xs (i + 4))).1 = 0 from by rw [e0]; rfl)) c9 | exact absurd c9 ((show nI (spAdd τ (xs (i + 1)) (xs (i + 2)) (xs (i + 3)) (xs (i + 4))).1 = 0 from by rw [e0]; rfl))) (fun _ => ?_)
    refine aw_aload3 X dL_law_333 ?_
    refine aw_iconst X dL_law_334 (v := nI 0) (by decide) ?_
    refine aw_lald X dL_law_335 ho2 rfl (by omega) (by decide) ?_
    refine aw_long (y := cvI (spAdd τ (xs (i + 1)) (xs (i + 2)) (xs (i + 3)) (xs (i + 4))).2.1) (hv1 e0) ?_
    refine aw_iload6 X dL_law_336 ?_
    refine aw_i2l X dL_law_338 ?_
    refine aw_lcmp X dL_law_339 ?_
    refine aw_ifeq X dL_law_340 (tgt := 345) (by decide) (fun _ => ?_) (fun c9 => by first | exact absurd (((lg_cmp_eq _ _).mpr rfl)) c9 | exact absurd c9 (((lg_cmp_eq _ _).mpr rfl)))
    refine aw_goto X dL_law_345 (tgt := 2593) (by decide) ?_
    exact T M3 _ _ _ _ _ _ _ (by show k + 5 + 0 + 0 ≤ k + 482; omega) (by show n + 30 + 0 + 0 ≤ n + 9712; omega) hs2 hm2.base ⟨_, ho2⟩
  · refine aw_ifne X dL_law_330 (tgt := 345) (by decide) (fun _ => ?_) (fun c9 => by first | exact absurd ((show ¬ nI (spAdd τ (xs (i + 1)) (xs (i + 2)) (xs (i + 3)) (xs (i + 4))).1 = 0 from nI_ne0 (by omega) (by have := le_spAdd (τ := τ) (f := (xs (i + 1))) (p := (xs (i + 2))) (y := (xs (i + 3))) (m := (xs (i + 4))); omega))) c9 | exact absurd c9 ((show ¬ nI (spAdd τ (xs (i + 1)) (xs (i + 2)) (xs (i + 3)) (xs (i + 4))).1 = 0 from nI_ne0 (by omega) (by have := le_spAdd (τ := τ) (f := (xs (i + 1))) (p := (xs (i + 2))) (y := (xs (i + 3))) (m := (xs (i + 4))); omega))))
    refine aw_goto X dL_law_345 (tgt := 2593) (by decide) ?_
    exact T M3 _ _ _ _ _ _ _ (by show k + 5 + 0 + 0 ≤ k + 482; omega) (by show n + 30 + 0 + 0 ≤ n + 9712; omega) hs2 hm2.base ⟨_, ho2⟩
theorem lc_insert {Z : AZ} {Q : State → Prop} {M : AM} {k n b L x i t : Nat} {xs : Nat → Int32} {τ : TS} {u5 u6 u7 : Option Value} {S : Nat → Int64} (C : lwC Z b L xs) (hi : i + 4 < L) (hL : L < 2 ^ 31) (hk : k + 482 ≤ 601024) (hnn : n + 9712 ≤ 7293034) (hs : isRS (zG Z) M x (x + 299) τ) (hm : isMD (zG Z) M M (x + 271) τ t) (ho : M.1 (x + 298) = some (am_al (zG Z) 1 S)) (T : lwT Z Q k n b x i) : AW Z Q M k n 348 [some (.ref b), some (.ref x), some (.ref (x + 271)), some (.ref (x + 298)), some (.int (nI i)), u5, u6, u7] [] := by
  obtain ⟨X, hN, -, -, -, hfl, hn, hR⟩ := id C
  refine aw_aload1 X dL_law_348 ?_
  refine aw_aload0 X dL_law_349 ?_
  refine aw_iload4 X dL_law_350 ?_
  refine aw_iconst X dL_law_352 (v := nI 1) (by decide) ?_
  refine aw_iadd X dL_law_353 ?_
  first | with_reducible refine aw_int (nI_add _ _) ?_ | skip
  refine aw_sld C dL_law_354 rfl (by omega) (by omega) ?_
  refine aw_aload0 X dL_law_355 ?_
  refine aw_iload4 X dL_law_356 ?_
  refine aw_iconst X dL_law_358 (v := nI 2) (by decide) ?_
  refine aw_iadd X dL_law_359 ?_
  first | with_reducible refine aw_int (nI_add _ _) ?_ | skip
  refine aw_sld C dL_law_360 rfl (by omega) (by omega) ?_
  refine aw_aload0 X dL_law_361 ?_
  refine aw_iload4 X dL_law_362 ?_
  refine aw_iconst X dL_law_364 (v := nI 3) (by decide) ?_
  refine aw_iadd X dL_law_365 ?_
  first | with_reducible refine aw_int (nI_add _ _) ?_ | skip
  refine aw_sld C dL_law_366 rfl (by omega) (by omega) ?_
  refine aw_aload3 X dL_law_367 ?_
  refine aw_callSH X hN (c_L_insert hfl hs ho ⟨by omega, by omega⟩) kL_149 dL_law_368 rfl rfl (by first | decide | exact Nat.le_of_ble_eq_true rfl) (by rw [hR]; exact ⟨Nat.le_of_ble_eq_true rfl, Nat.le_of_ble_eq_true rfl⟩) (by rw [hR]; exact ⟨by show k + 4 ≤ 601024; omega, by show n + 24 ≤ 7293034; omega⟩) (fun v M1 hv => ?_)
  obtain ⟨rfl, hs1, hk1, S1, ho1, hv1⟩ := hv
  have hm1 := hm.kr hk1 (fun q e => by omega)
  obtain ⟨c1, hat1⟩ := hm1.at
  refine aw_istore5 X dL_law_371 (by rw [hn]; decide) rfl ?_
  refine aw_aload2 X dL_law_373 ?_
  refine aw_aload0 X dL_law_374 ?_
  refine aw_iload4 X dL_law_375 ?_
  refine aw_iconst X dL_law_377 (v := nI 1) (by decide) ?_
  refine aw_iadd X dL_law_378 ?_
  first | with_reducible refine aw_int (nI_add _ _) ?_ | skip
  refine aw_sld C dL_law_379 rfl (by omega) (by omega) ?_
  refine aw_aload0 X dL_law_380 ?_
  refine aw_iload4 X dL_law_381 ?_
  refine aw_iconst X dL_law_383 (v := nI 2) (by decide) ?_
  refine aw_iadd X dL_law_384 ?_
  first | with_reducible refine aw_int (nI_add _ _) ?_ | skip
  refine aw_sld C dL_law_385 rfl (by omega) (by omega) ?_
  refine aw_aload0 X dL_law_386 ?_
  refine aw_iload4 X dL_law_387 ?_
  refine aw_iconst X dL_law_389 (v := nI 3) (by decide) ?_
  refine aw_iadd X dL_law_390 ?_
  first | with_reducible refine aw_int (nI_add _ _) ?_ | skip
  refine aw_sld C dL_law_391 rfl (by omega) (by omega) ?_
  refine aw_callV X (c_X9_insert hm1) kL_152 (ci := 10) rfl hat1 dL_law_392 rfl rfl (by first | decide | exact Nat.le_of_ble_eq_true rfl) (by rw [hR]; exact ⟨Nat.le_of_ble_eq_true rfl, Nat.le_of_ble_eq_true rfl⟩) (by rw [hR]; exact ⟨by show k + 4 + 0 ≤ 601024; omega, by show n + 24 + 0 ≤ 7293034; omega⟩) (fun v M2 hv => ?_)
  obtain ⟨rfl, hm2⟩ := hv
  have hk2 := hm2.ke
  have hs2 := hs1.kr hk2 (fun q e => by omega)
  have ho2 := hk2 _ _ ho1 (by omega)
  obtain ⟨c2, hat2⟩ := hm2.at
  refine aw_istore6 X dL_law_395 (by rw [hn]; decide) rfl ?_
  refine aw_aload2 X dL_law_397 ?_
  refine aw_callV X (c_X9_thrown hm2) kL_142 (ci := 10) rfl hat2 dL_law_398 rfl rfl (by first | decide | exact Nat.le_of_ble_eq_true rfl) (by rw [hR]; exact ⟨Nat.le_of_ble_eq_true rfl, Nat.le_of_ble_eq_true rfl⟩) (by rw [hR]; exact ⟨by show k + 4 + 0 + 0 ≤ 601024; omega, by show n + 24 + 0 + 0 ≤ 7293034; omega⟩) (fun v M3 hv => ?_)
  obtain ⟨rfl, rfl⟩ := hv
  refine aw_iload5 X dL_law_401 ?_
  refine aw_icmpeq X dL_law_403 (tgt := 408) (by decide) (fun _ => ?_) (fun c9 => by first | exact absurd (rfl) c9 | exact absurd c9 (rfl))
  refine aw_iload5 X dL_law_408 ?_
  by_cases e0 : (spInsert τ (xs (i + 1)) (xs (i + 2)) (xs (i + 3))).1 = 0
  · refine aw_ifne X dL_law_410 (tgt := 425) (by decide) (fun c9 => by first | exact absurd ((show nI (spInsert τ (xs (i + 1)) (xs (i + 2)) (xs (i + 3))).1 = 0 from by rw [e0]; rfl)) c9 | exact absurd c9 ((show nI (spInsert τ (xs (i + 1)) (xs (i + 2)) (xs (i + 3))).1 = 0 from by rw [e0]; rfl))) (fun _ => ?_)
    refine aw_aload3 X dL_law_413 ?_
    refine aw_iconst X dL_law_414 (v := nI 0) (by decide) ?_
    refine aw_lald X dL_law_415 ho2 rfl (by omega) (by decide) ?_
    refine aw_long (y := cvI (spInsert τ (xs (i + 1)) (xs (i + 2)) (xs (i + 3))).2.1) (hv1 e0) ?_
    refine aw_iload6 X dL_law_416 ?_
    refine aw_i2l X dL_law_418 ?_
    refine aw_lcmp X dL_law_419 ?_
    refine aw_ifeq X dL_law_420 (tgt := 425) (by decide) (fun _ => ?_) (fun c9 => by first | exact absurd (((lg_cmp_eq _ _).mpr rfl)) c9 | exact absurd c9 (((lg_cmp_eq _ _).mpr rfl)))
    refine aw_goto X dL_law_425 (tgt := 2593) (by decide) ?_
    exact T M3 _ _ _ _ _ _ _ (by show k + 4 + 0 + 0 ≤ k + 482; omega) (by show n + 24 + 0 + 0 ≤ n + 9712; omega) hs2 hm2.base ⟨_, ho2⟩
  · refine aw_ifne X dL_law_410 (tgt := 425) (by decide) (fun _ => ?_) (fun c9 => by first | exact absurd ((show ¬ nI (spInsert τ (xs (i + 1)) (xs (i + 2)) (xs (i + 3))).1 = 0 from nI_ne0 (by omega) (by have := le_spInsert (τ := τ) (f := (xs (i + 1))) (p := (xs (i + 2))) (y := (xs (i + 3))); omega))) c9 | exact absurd c9 ((show ¬ nI (spInsert τ (xs (i + 1)) (xs (i + 2)) (xs (i + 3))).1 = 0 from nI_ne0 (by omega) (by have := le_spInsert (τ := τ) (f := (xs (i + 1))) (p := (xs (i + 2))) (y := (xs (i + 3))); omega))))
    refine aw_goto X dL_law_425 (tgt := 2593) (by decide) ?_
    exact T M3 _ _ _ _ _ _ _ (by show k + 4 + 0 + 0 ≤ k + 482; omega) (by show n + 24 + 0 + 0 ≤ n + 9712; omega) hs2 hm2.base ⟨_, ho2⟩
theorem lc_remove {Z : AZ} {Q : State → Prop} {M : AM} {k n b L x i t : Nat} {xs : Nat → Int32} {τ : TS} {u5 u6 u7 : Option Value} {S : Nat → Int64} (C : lwC Z b L xs) (hi : i + 4 < L) (hL : L < 2 ^ 31) (hk : k + 482 ≤ 601024) (hnn : n + 9712 ≤ 7293034) (hs : isRS (zG Z) M x (x + 299) τ) (hm : isMD (zG Z) M M (x + 271) τ t) (ho : M.1 (x + 298) = some (am_al (zG Z) 1 S)) (T : lwT Z Q k n b x i) : AW Z Q M k n 428 [some (.ref b), some (.ref x), some (.ref (x + 271)), some (.ref (x + 298)), some (.int (nI i)), u5, u6, u7] [] := by
  obtain ⟨X, hN, -, -, -, hfl, hn, hR⟩ := id C
  refine aw_aload1 X dL_law_428 ?_
  refine aw_aload0 X dL_law_429 ?_
  refine aw_iload4 X dL_law_430 ?_
  refine aw_iconst X dL_law_432 (v := nI 1) (by decide) ?_
  refine aw_iadd X dL_law_433 ?_
  first | with_reducible refine aw_int (nI_add _ _) ?_ | skip
  refine aw_sld C dL_law_434 rfl (by omega) (by omega) ?_
  refine aw_aload0 X dL_law_435 ?_
  refine aw_iload4 X dL_law_436 ?_
  refine aw_iconst X dL_law_438 (v := nI 2) (by decide) ?_
  refine aw_iadd X dL_law_439 ?_
  first | with_reducible refine aw_int (nI_add _ _) ?_ | skip
  refine aw_sld C dL_law_440 rfl (by omega) (by omega) ?_
  refine aw_aload0 X dL_law_441 ?_
  refine aw_iload4 X dL_law_442 ?_
  refine aw_iconst X dL_law_444 (v := nI 3) (by decide) ?_
  refine aw_iadd X dL_law_445 ?_
  first | with_reducible refine aw_int (nI_add _ _) ?_ | skip
  refine aw_sld C dL_law_446 rfl (by omega) (by omega) ?_
  refine aw_aload3 X dL_law_447 ?_
  refine aw_callSH X hN (c_L_remove hfl hs ho ⟨by omega, by omega⟩) kL_153 dL_law_448 rfl rfl (by first | decide | exact Nat.le_of_ble_eq_true rfl) (by rw [hR]; exact ⟨Nat.le_of_ble_eq_true rfl, Nat.le_of_ble_eq_true rfl⟩) (by rw [hR]; exact ⟨by show k + 3 ≤ 601024; omega, by show n + 18 ≤ 7293034; omega⟩) (fun v M1 hv => ?_)
  obtain ⟨rfl, hs1, hk1, S1, ho1, hv1⟩ := hv
  have hm1 := hm.kr hk1 (fun q e => by omega)
  obtain ⟨c1, hat1⟩ := hm1.at
  refine aw_istore5 X dL_law_451 (by rw [hn]; decide) rfl ?_
  refine aw_aload2 X dL_law_453 ?_
  refine aw_aload0 X dL_law_454 ?_
  refine aw_iload4 X dL_law_455 ?_
  refine aw_iconst X dL_law_457 (v := nI 1) (by decide) ?_
  refine aw_iadd X dL_law_458 ?_
  first | with_reducible refine aw_int (nI_add _ _) ?_ | skip
  refine aw_sld C dL_law_459 rfl (by omega) (by omega) ?_
  refine aw_aload0 X dL_law_460 ?_
  refine aw_iload4 X dL_law_461 ?_
  refine aw_iconst X dL_law_463 (v := nI 2) (by decide) ?_
  refine aw_iadd X dL_law_464 ?_
  first | with_reducible refine aw_int (nI_add _ _) ?_ | skip
  refine aw_sld C dL_law_465 rfl (by omega) (by omega) ?_
  refine aw_aload0 X dL_law_466 ?_
  refine aw_iload4 X dL_law_467 ?_
  refine aw_iconst X dL_law_469 (v := nI 3) (by decide) ?_
  refine aw_iadd X dL_law_470 ?_
  first | with_reducible refine aw_int (nI_add _ _) ?_ | skip
  refine aw_sld C dL_law_471 rfl (by omega) (by omega) ?_
  refine aw_callV X (c_X9_remove hm1) kL_155 (ci := 10) rfl hat1 dL_law_472 rfl rfl (by first | decide | exact Nat.le_of_ble_eq_true rfl) (by rw [hR]; exact ⟨Nat.le_of_ble_eq_true rfl, Nat.le_of_ble_eq_true rfl⟩) (by rw [hR]; exact ⟨by show k + 3 + 0 ≤ 601024; omega, by show n + 18 + 0 ≤ 7293034; omega⟩) (fun v M2 hv => ?_)
  obtain ⟨rfl, hm2⟩ := hv
  have hk2 := hm2.ke
  have hs2 := hs1.kr hk2 (fun q e => by omega)
  have ho2 := hk2 _ _ ho1 (by omega)
  obtain ⟨c2, hat2⟩ := hm2.at
  refine aw_istore6 X dL_law_475 (by rw [hn]; decide) rfl ?_
  refine aw_aload2 X dL_law_477 ?_
  refine aw_callV X (c_X9_thrown hm2) kL_142 (ci := 10) rfl hat2 dL_law_478 rfl rfl (by first | decide | exact Nat.le_of_ble_eq_true rfl) (by rw [hR]; exact ⟨Nat.le_of_ble_eq_true rfl, Nat.le_of_ble_eq_true rfl⟩) (by rw [hR]; exact ⟨by show k + 3 + 0 + 0 ≤ 601024; omega, by show n + 18 + 0 + 0 ≤ 7293034; omega⟩) (fun v M3 hv => ?_)
  obtain ⟨rfl, rfl⟩ := hv
  refine aw_iload5 X dL_law_481 ?_
  refine aw_icmpeq X dL_law_483 (tgt := 488) (by decide) (fun _ => ?_) (fun c9 => by first | exact absurd (rfl) c9 | exact absurd c9 (rfl))
  refine aw_iload5 X dL_law_488 ?_
  by_cases e0 : (spRemove τ (xs (i + 1)) (xs (i + 2)) (xs (i + 3))).1 = 0
  · refine aw_ifne X dL_law_490 (tgt := 505) (by decide) (fun c9 => by first | exact absurd ((show nI (spRemove τ (xs (i + 1)) (xs (i + 2)) (xs (i + 3))).1 = 0 from by rw [e0]; rfl)) c9 | exact absurd c9 ((show nI (spRemove τ (xs (i + 1)) (xs (i + 2)) (xs (i + 3))).1 = 0 from by rw [e0]; rfl))) (fun _ => ?_)
    refine aw_aload3 X dL_law_493 ?_
    refine aw_iconst X dL_law_494 (v := nI 0) (by decide) ?_
    refine aw_lald X dL_law_495 ho2 rfl (by omega) (by decide) ?_
    refine aw_long (y := cvI (spRemove τ (xs (i + 1)) (xs (i + 2)) (xs (i + 3))).2.1) (hv1 e0) ?_
    refine aw_iload6 X dL_law_496 ?_
    refine aw_i2l X dL_law_498 ?_
    refine aw_lcmp X dL_law_499 ?_
    refine aw_ifeq X dL_law_500 (tgt := 505) (by decide) (fun _ => ?_) (fun c9 => by first | exact absurd (((lg_cmp_eq _ _).mpr rfl)) c9 | exact absurd c9 (((lg_cmp_eq _ _).mpr rfl)))
    refine aw_goto X dL_law_505 (tgt := 2593) (by decide) ?_
    exact T M3 _ _ _ _ _ _ _ (by show k + 3 + 0 + 0 ≤ k + 482; omega) (by show n + 18 + 0 + 0 ≤ n + 9712; omega) hs2 hm2.base ⟨_, ho2⟩
  · refine aw_ifne X dL_law_490 (tgt := 505) (by decide) (fun _ => ?_) (fun c9 => by first | exact absurd ((show ¬ nI (spRemove τ (xs (i + 1)) (xs (i + 2)) (xs (i + 3))).1 = 0 from nI_ne0 (by omega) (by have := le_spRemove (τ := τ) (f := (xs (i + 1))) (p := (xs (i + 2))) (y := (xs (i + 3))); omega))) c9 | exact absurd c9 ((show ¬ nI (spRemove τ (xs (i + 1)) (xs (i + 2)) (xs (i + 3))).1 = 0 from nI_ne0 (by omega) (by have := le_spRemove (τ := τ) (f := (xs (i + 1))) (p := (xs (i + 2))) (y := (xs (i + 3))); omega))))
    refine aw_goto X dL_law_505 (tgt := 2593) (by decide) ?_
    exact T M3 _ _ _ _ _ _ _ (by show k + 3 + 0 + 0 ≤ k + 482; omega) (by show n + 18 + 0 + 0 ≤ n + 9712; omega) hs2 hm2.base ⟨_, ho2⟩
theorem lc_copy {Z : AZ} {Q : State → Prop} {M : AM} {k n b L x i t : Nat} {xs : Nat → Int32} {τ : TS} {u5 u6 u7 : Option Value} {S : Nat → Int64} (C : lwC Z b L xs) (hi : i + 4 < L) (hL : L < 2 ^ 31) (hk : k + 482 ≤ 601024) (hnn : n + 9712 ≤ 7293034) (hs : isRS (zG Z) M x (x + 299) τ) (hm : isMD (zG Z) M M (x + 271) τ t) (ho : M.1 (x + 298) = some (am_al (zG Z) 1 S)) (T : lwT Z Q k n b x i) : AW Z Q M k n 508 [some (.ref b), some (.ref x), some (.ref (x + 271)), some (.ref (x + 298)), some (.int (nI i)), u5, u6, u7] [] := by
  obtain ⟨X, hN, -, -, -, hfl, hn, hR⟩ := id C
  refine aw_aload1 X dL_law_508 ?_
  refine aw_aload0 X dL_law_509 ?_
  refine aw_iload4 X dL_law_510 ?_
  refine aw_iconst X dL_law_512 (v := nI 1) (by decide) ?_
  refine aw_iadd X dL_law_513 ?_
  first | with_reducible refine aw_int (nI_add _ _) ?_ | skip
  refine aw_sld C dL_law_514 rfl (by omega) (by omega) ?_
  refine aw_aload0 X dL_law_515 ?_
  refine aw_iload4 X dL_law_516 ?_
  refine aw_iconst X dL_law_518 (v := nI 2) (by decide) ?_
  refine aw_iadd X dL_law_519 ?_
  first | with_reducible refine aw_int (nI_add _ _) ?_ | skip
  refine aw_sld C dL_law_520 rfl (by omega) (by omega) ?_
  refine aw_callSH X hN (c_L_copy hfl hs) kL_156 dL_law_521 rfl rfl (by first | decide | exact Nat.le_of_ble_eq_true rfl) (by rw [hR]; exact ⟨Nat.le_of_ble_eq_true rfl, Nat.le_of_ble_eq_true rfl⟩) (by rw [hR]; exact ⟨by show k + 2 ≤ 601024; omega, by show n + 12 ≤ 7293034; omega⟩) (fun v M1 hv => ?_)
  obtain ⟨rfl, hs1, hk1⟩ := hv
  have ho1 := hk1 _ _ ho (by omega)
  have hm1 := hm.kr hk1 (fun q e => by omega)
  obtain ⟨c1, hat1⟩ := hm1.at
  refine aw_istore5 X dL_law_524 (by rw [hn]; decide) rfl ?_
  refine aw_aload2 X dL_law_526 ?_
  refine aw_aload0 X dL_law_527 ?_
  refine aw_iload4 X dL_law_528 ?_
  refine aw_iconst X dL_law_530 (v := nI 1) (by decide) ?_
  refine aw_iadd X dL_law_531 ?_
  first | with_reducible refine aw_int (nI_add _ _) ?_ | skip
  refine aw_sld C dL_law_532 rfl (by omega) (by omega) ?_
  refine aw_aload0 X dL_law_533 ?_
  refine aw_iload4 X dL_law_534 ?_
  refine aw_iconst X dL_law_536 (v := nI 2) (by decide) ?_
  refine aw_iadd X dL_law_537 ?_
  first | with_reducible refine aw_int (nI_add _ _) ?_ | skip
  refine aw_sld C dL_law_538 rfl (by omega) (by omega) ?_
  refine aw_callV X (c_X9_copy hm1) kL_159 (ci := 10) rfl hat1 dL_law_539 rfl rfl (by first | decide | exact Nat.le_of_ble_eq_true rfl) (by rw [hR]; exact ⟨Nat.le_of_ble_eq_true rfl, Nat.le_of_ble_eq_true rfl⟩) (by rw [hR]; exact ⟨by show k + 2 + 0 ≤ 601024; omega, by show n + 12 + 0 ≤ 7293034; omega⟩) (fun v M2 hv => ?_)
  obtain ⟨rfl, hm2⟩ := hv
  have hk2 := hm2.ke
  have hs2 := hs1.kr hk2 (fun q e => by omega)
  have ho2 := hk2 _ _ ho1 (by omega)
  obtain ⟨c2, hat2⟩ := hm2.at
  refine aw_aload2 X dL_law_542 ?_
  refine aw_callV X (c_X9_thrown hm2) kL_142 (ci := 10) rfl hat2 dL_law_543 rfl rfl (by first | decide | exact Nat.le_of_ble_eq_true rfl) (by rw [hR]; exact ⟨Nat.le_of_ble_eq_true rfl, Nat.le_of_ble_eq_true rfl⟩) (by rw [hR]; exact ⟨by show k + 2 + 0 + 0 ≤ 601024; omega, by show n + 12 + 0 + 0 ≤ 7293034; omega⟩) (fun v M3 hv => ?_)
  obtain ⟨rfl, rfl⟩ := hv
  refine aw_iload5 X dL_law_546 ?_
  refine aw_icmpeq X dL_law_548 (tgt := 553) (by decide) (fun _ => ?_) (fun c9 => by first | exact absurd (rfl) c9 | exact absurd c9 (rfl))
  refine aw_goto X dL_law_553 (tgt := 2593) (by decide) ?_
  exact T M3 _ _ _ _ _ _ _ (by show k + 2 + 0 + 0 ≤ k + 482; omega) (by show n + 12 + 0 + 0 ≤ n + 9712; omega) hs2 hm2.base ⟨_, ho2⟩
theorem lc_length {Z : AZ} {Q : State → Prop} {M : AM} {k n b L x i t : Nat} {xs : Nat → Int32} {τ : TS} {u5 u6 u7 : Option Value} {S : Nat → Int64} (C : lwC Z b L xs) (hi : i + 4 < L) (hL : L < 2 ^ 31) (hk : k + 482 ≤ 601024) (hnn : n + 9712 ≤ 7293034) (hs : isRS (zG Z) M x (x + 299) τ) (hm : isMD (zG Z) M M (x + 271) τ t) (ho : M.1 (x + 298) = some (am_al (zG Z) 1 S)) (T : lwT Z Q k n b x i) : AW Z Q M k n 556 [some (.ref b), some (.ref x), some (.ref (x + 271)), some (.ref (x + 298)), some (.int (nI i)), u5, u6, u7] [] := by
  obtain ⟨X, hN, -, -, -, hfl, hn, hR⟩ := id C
  refine aw_aload1 X dL_law_556 ?_
  refine aw_aload0 X dL_law_557 ?_
  refine aw_iload4 X dL_law_558 ?_
  refine aw_iconst X dL_law_560 (v := nI 1) (by decide) ?_
  refine aw_iadd X dL_law_561 ?_
  first | with_reducible refine aw_int (nI_add _ _) ?_ | skip
  refine aw_sld C dL_law_562 rfl (by omega) (by omega) ?_
  refine aw_aload3 X dL_law_563 ?_
  refine aw_callSH X hN (c_L_length hfl hs ho ⟨by omega, by omega⟩) kL_160 dL_law_564 rfl rfl (by first | decide | exact Nat.le_of_ble_eq_true rfl) (by rw [hR]; exact ⟨Nat.le_of_ble_eq_true rfl, Nat.le_of_ble_eq_true rfl⟩) (by rw [hR]; exact ⟨by show k + 1 ≤ 601024; omega, by show n + 6 ≤ 7293034; omega⟩) (fun v M1 hv => ?_)
  obtain ⟨rfl, hs1, hk1, S1, ho1, hv1⟩ := hv
  have hm1 := hm.kr hk1 (fun q e => by omega)
  obtain ⟨c1, hat1⟩ := hm1.at
  refine aw_istore5 X dL_law_567 (by rw [hn]; decide) rfl ?_
  refine aw_aload2 X dL_law_569 ?_
  refine aw_aload0 X dL_law_570 ?_
  refine aw_iload4 X dL_law_571 ?_
  refine aw_iconst X dL_law_573 (v := nI 1) (by decide) ?_
  refine aw_iadd X dL_law_574 ?_
  first | with_reducible refine aw_int (nI_add _ _) ?_ | skip
  refine aw_sld C dL_law_575 rfl (by omega) (by omega) ?_
  refine aw_callV X (c_X9_length hm1) kL_163 (ci := 10) rfl hat1 dL_law_576 rfl rfl (by first | decide | exact Nat.le_of_ble_eq_true rfl) (by rw [hR]; exact ⟨Nat.le_of_ble_eq_true rfl, Nat.le_of_ble_eq_true rfl⟩) (by rw [hR]; exact ⟨by show k + 1 + 0 ≤ 601024; omega, by show n + 6 + 0 ≤ 7293034; omega⟩) (fun v M2 hv => ?_)
  obtain ⟨rfl, hm2⟩ := hv
  have hk2 := hm2.ke
  have hs2 := hs1.kr hk2 (fun q e => by omega)
  have ho2 := hk2 _ _ ho1 (by omega)
  obtain ⟨c2, hat2⟩ := hm2.at
  refine aw_istore6 X dL_law_579 (by rw [hn]; decide) rfl ?_
  refine aw_aload2 X dL_law_581 ?_
  refine aw_callV X (c_X9_thrown hm2) kL_142 (ci := 10) rfl hat2 dL_law_582 rfl rfl (by first | decide | exact Nat.le_of_ble_eq_true rfl) (by rw [hR]; exact ⟨Nat.le_of_ble_eq_true rfl, Nat.le_of_ble_eq_true rfl⟩) (by rw [hR]; exact ⟨by show k + 1 + 0 + 0 ≤ 601024; omega, by show n + 6 + 0 + 0 ≤ 7293034; omega⟩) (fun v M3 hv => ?_)
  obtain ⟨rfl, rfl⟩ := hv
  refine aw_iload5 X dL_law_585 ?_
  refine aw_icmpeq X dL_law_587 (tgt := 592) (by decide) (fun _ => ?_) (fun c9 => by first | exact absurd (rfl) c9 | exact absurd c9 (rfl))
  refine aw_iload5 X dL_law_592 ?_
  by_cases e0 : (spLength τ (xs (i + 1))).1 = 0
  · refine aw_ifne X dL_law_594 (tgt := 609) (by decide) (fun c9 => by first | exact absurd ((show nI (spLength τ (xs (i + 1))).1 = 0 from by rw [e0]; rfl)) c9 | exact absurd c9 ((show nI (spLength τ (xs (i + 1))).1 = 0 from by rw [e0]; rfl))) (fun _ => ?_)
    refine aw_aload3 X dL_law_597 ?_
    refine aw_iconst X dL_law_598 (v := nI 0) (by decide) ?_
    refine aw_lald X dL_law_599 ho2 rfl (by omega) (by decide) ?_
    refine aw_long (y := cvI (spLength τ (xs (i + 1))).2.1) (hv1 e0) ?_
    refine aw_iload6 X dL_law_600 ?_
    refine aw_i2l X dL_law_602 ?_
    refine aw_lcmp X dL_law_603 ?_
    refine aw_ifeq X dL_law_604 (tgt := 609) (by decide) (fun _ => ?_) (fun c9 => by first | exact absurd (((lg_cmp_eq _ _).mpr rfl)) c9 | exact absurd c9 (((lg_cmp_eq _ _).mpr rfl)))
    refine aw_goto X dL_law_609 (tgt := 2593) (by decide) ?_
    exact T M3 _ _ _ _ _ _ _ (by show k + 1 + 0 + 0 ≤ k + 482; omega) (by show n + 6 + 0 + 0 ≤ n + 9712; omega) hs2 hm2.base ⟨_, ho2⟩
  · refine aw_ifne X dL_law_594 (tgt := 609) (by decide) (fun _ => ?_) (fun c9 => by first | exact absurd ((show ¬ nI (spLength τ (xs (i + 1))).1 = 0 from nI_ne0 (by omega) (by have := le_spLength (τ := τ) (f := (xs (i + 1))); omega))) c9 | exact absurd c9 ((show ¬ nI (spLength τ (xs (i + 1))).1 = 0 from nI_ne0 (by omega) (by have := le_spLength (τ := τ) (f := (xs (i + 1))); omega))))
    refine aw_goto X dL_law_609 (tgt := 2593) (by decide) ?_
    exact T M3 _ _ _ _ _ _ _ (by show k + 1 + 0 + 0 ≤ k + 482; omega) (by show n + 6 + 0 + 0 ≤ n + 9712; omega) hs2 hm2.base ⟨_, ho2⟩
theorem lc_byteAt {Z : AZ} {Q : State → Prop} {M : AM} {k n b L x i t : Nat} {xs : Nat → Int32} {τ : TS} {u5 u6 u7 : Option Value} {S : Nat → Int64} (C : lwC Z b L xs) (hi : i + 4 < L) (hL : L < 2 ^ 31) (hk : k + 482 ≤ 601024) (hnn : n + 9712 ≤ 7293034) (hs : isRS (zG Z) M x (x + 299) τ) (hm : isMD (zG Z) M M (x + 271) τ t) (ho : M.1 (x + 298) = some (am_al (zG Z) 1 S)) (T : lwT Z Q k n b x i) : AW Z Q M k n 612 [some (.ref b), some (.ref x), some (.ref (x + 271)), some (.ref (x + 298)), some (.int (nI i)), u5, u6, u7] [] := by
  obtain ⟨X, hN, -, -, -, hfl, hn, hR⟩ := id C
  refine aw_aload1 X dL_law_612 ?_
  refine aw_aload0 X dL_law_613 ?_
  refine aw_iload4 X dL_law_614 ?_
  refine aw_iconst X dL_law_616 (v := nI 1) (by decide) ?_
  refine aw_iadd X dL_law_617 ?_
  first | with_reducible refine aw_int (nI_add _ _) ?_ | skip
  refine aw_sld C dL_law_618 rfl (by omega) (by omega) ?_
  refine aw_aload0 X dL_law_619 ?_
  refine aw_iload4 X dL_law_620 ?_
  refine aw_iconst X dL_law_622 (v := nI 2) (by decide) ?_
  refine aw_iadd X dL_law_623 ?_
  first | with_reducible refine aw_int (nI_add _ _) ?_ | skip
  refine aw_sld C dL_law_624 rfl (by omega) (by omega) ?_
  refine aw_aload3 X dL_law_625 ?_
  refine aw_callSH X hN (c_L_byteAt hfl hs ho ⟨by omega, by omega⟩) kL_164 dL_law_626 rfl rfl (by first | decide | exact Nat.le_of_ble_eq_true rfl) (by rw [hR]; exact ⟨Nat.le_of_ble_eq_true rfl, Nat.le_of_ble_eq_true rfl⟩) (by rw [hR]; exact ⟨by show k + 2 ≤ 601024; omega, by show n + 12 ≤ 7293034; omega⟩) (fun v M1 hv => ?_)
  obtain ⟨rfl, hs1, hk1, S1, ho1, hv1⟩ := hv
  have hm1 := hm.kr hk1 (fun q e => by omega)
  obtain ⟨c1, hat1⟩ := hm1.at
  refine aw_istore5 X dL_law_629 (by rw [hn]; decide) rfl ?_
  refine aw_aload2 X dL_law_631 ?_
  refine aw_aload0 X dL_law_632 ?_
  refine aw_iload4 X dL_law_633 ?_
  refine aw_iconst X dL_law_635 (v := nI 1) (by decide) ?_
  refine aw_iadd X dL_law_636 ?_
  first | with_reducible refine aw_int (nI_add _ _) ?_ | skip
  refine aw_sld C dL_law_637 rfl (by omega) (by omega) ?_
  refine aw_aload0 X dL_law_638 ?_
  refine aw_iload4 X dL_law_639 ?_
  refine aw_iconst X dL_law_641 (v := nI 2) (by decide) ?_
  refine aw_iadd X dL_law_642 ?_
  first | with_reducible refine aw_int (nI_add _ _) ?_ | skip
  refine aw_sld C dL_law_643 rfl (by omega) (by omega) ?_
  refine aw_callV X (c_X9_byteAt hm1) kL_167 (ci := 10) rfl hat1 dL_law_644 rfl rfl (by first | decide | exact Nat.le_of_ble_eq_true rfl) (by rw [hR]; exact ⟨Nat.le_of_ble_eq_true rfl, Nat.le_of_ble_eq_true rfl⟩) (by rw [hR]; exact ⟨by show k + 2 + 0 ≤ 601024; omega, by show n + 12 + 0 ≤ 7293034; omega⟩) (fun v M2 hv => ?_)
  obtain ⟨rfl, hm2⟩ := hv
  have hk2 := hm2.ke
  have hs2 := hs1.kr hk2 (fun q e => by omega)
  have ho2 := hk2 _ _ ho1 (by omega)
  obtain ⟨c2, hat2⟩ := hm2.at
  refine aw_istore6 X dL_law_647 (by rw [hn]; decide) rfl ?_
  refine aw_aload2 X dL_law_649 ?_
  refine aw_callV X (c_X9_thrown hm2) kL_142 (ci := 10) rfl hat2 dL_law_650 rfl rfl (by first | decide | exact Nat.le_of_ble_eq_true rfl) (by rw [hR]; exact ⟨Nat.le_of_ble_eq_true rfl, Nat.le_of_ble_eq_true rfl⟩) (by rw [hR]; exact ⟨by show k + 2 + 0 + 0 ≤ 601024; omega, by show n + 12 + 0 + 0 ≤ 7293034; omega⟩) (fun v M3 hv => ?_)
  obtain ⟨rfl, rfl⟩ := hv
  refine aw_iload5 X dL_law_653 ?_
  refine aw_icmpeq X dL_law_655 (tgt := 660) (by decide) (fun _ => ?_) (fun c9 => by first | exact absurd (rfl) c9 | exact absurd c9 (rfl))
  refine aw_iload5 X dL_law_660 ?_
  by_cases e0 : (spByteAt τ (xs (i + 1)) (xs (i + 2))).1 = 0
  · refine aw_ifne X dL_law_662 (tgt := 677) (by decide) (fun c9 => by first | exact absurd ((show nI (spByteAt τ (xs (i + 1)) (xs (i + 2))).1 = 0 from by rw [e0]; rfl)) c9 | exact absurd c9 ((show nI (spByteAt τ (xs (i + 1)) (xs (i + 2))).1 = 0 from by rw [e0]; rfl))) (fun _ => ?_)
    refine aw_aload3 X dL_law_665 ?_
    refine aw_iconst X dL_law_666 (v := nI 0) (by decide) ?_
    refine aw_lald X dL_law_667 ho2 rfl (by omega) (by decide) ?_
    refine aw_long (y := cvI (spByteAt τ (xs (i + 1)) (xs (i + 2))).2.1) (hv1 e0) ?_
    refine aw_iload6 X dL_law_668 ?_
    refine aw_i2l X dL_law_670 ?_
    refine aw_lcmp X dL_law_671 ?_
    refine aw_ifeq X dL_law_672 (tgt := 677) (by decide) (fun _ => ?_) (fun c9 => by first | exact absurd (((lg_cmp_eq _ _).mpr rfl)) c9 | exact absurd c9 (((lg_cmp_eq _ _).mpr rfl)))
    refine aw_goto X dL_law_677 (tgt := 2593) (by decide) ?_
    exact T M3 _ _ _ _ _ _ _ (by show k + 2 + 0 + 0 ≤ k + 482; omega) (by show n + 12 + 0 + 0 ≤ n + 9712; omega) hs2 hm2.base ⟨_, ho2⟩
  · refine aw_ifne X dL_law_662 (tgt := 677) (by decide) (fun _ => ?_) (fun c9 => by first | exact absurd ((show ¬ nI (spByteAt τ (xs (i + 1)) (xs (i + 2))).1 = 0 from nI_ne0 (by omega) (by have := le_spByteAt (τ := τ) (f := (xs (i + 1))) (p := (xs (i + 2))); omega))) c9 | exact absurd c9 ((show ¬ nI (spByteAt τ (xs (i + 1)) (xs (i + 2))).1 = 0 from nI_ne0 (by omega) (by have := le_spByteAt (τ := τ) (f := (xs (i + 1))) (p := (xs (i + 2))); omega))))
    refine aw_goto X dL_law_677 (tgt := 2593) (by decide) ?_
    exact T M3 _ _ _ _ _ _ _ (by show k + 2 + 0 + 0 ≤ k + 482; omega) (by show n + 12 + 0 + 0 ≤ n + 9712; omega) hs2 hm2.base ⟨_, ho2⟩
theorem lc_same {Z : AZ} {Q : State → Prop} {M : AM} {k n b L x i t : Nat} {xs : Nat → Int32} {τ : TS} {u5 u6 u7 : Option Value} {S : Nat → Int64} (C : lwC Z b L xs) (hi : i + 4 < L) (hL : L < 2 ^ 31) (hk : k + 482 ≤ 601024) (hnn : n + 9712 ≤ 7293034) (hs : isRS (zG Z) M x (x + 299) τ) (hm : isMD (zG Z) M M (x + 271) τ t) (ho : M.1 (x + 298) = some (am_al (zG Z) 1 S)) (T : lwT Z Q k n b x i) : AW Z Q M k n 680 [some (.ref b), some (.ref x), some (.ref (x + 271)), some (.ref (x + 298)), some (.int (nI i)), u5, u6, u7] [] := by
  obtain ⟨X, hN, -, -, -, hfl, hn, hR⟩ := id C
  refine aw_aload1 X dL_law_680 ?_
  refine aw_aload0 X dL_law_681 ?_
  refine aw_iload4 X dL_law_682 ?_
  refine aw_iconst X dL_law_684 (v := nI 1) (by decide) ?_
  refine aw_iadd X dL_law_685 ?_
  first | with_reducible refine aw_int (nI_add _ _) ?_ | skip
  refine aw_sld C dL_law_686 rfl (by omega) (by omega) ?_
  refine aw_aload0 X dL_law_687 ?_
  refine aw_iload4 X dL_law_688 ?_
  refine aw_iconst X dL_law_690 (v := nI 2) (by decide) ?_
  refine aw_iadd X dL_law_691 ?_
  first | with_reducible refine aw_int (nI_add _ _) ?_ | skip
  refine aw_sld C dL_law_692 rfl (by omega) (by omega) ?_
  refine aw_aload3 X dL_law_693 ?_
  refine aw_callSH X hN (c_L_same hfl hs ho ⟨by omega, by omega⟩) kL_168 dL_law_694 rfl rfl (by first | decide | exact Nat.le_of_ble_eq_true rfl) (by rw [hR]; exact ⟨Nat.le_of_ble_eq_true rfl, Nat.le_of_ble_eq_true rfl⟩) (by rw [hR]; exact ⟨by show k + 2 ≤ 601024; omega, by show n + 12 ≤ 7293034; omega⟩) (fun v M1 hv => ?_)
  obtain ⟨rfl, hs1, hk1, S1, ho1, hv1⟩ := hv
  have hm1 := hm.kr hk1 (fun q e => by omega)
  obtain ⟨c1, hat1⟩ := hm1.at
  refine aw_istore5 X dL_law_697 (by rw [hn]; decide) rfl ?_
  refine aw_aload2 X dL_law_699 ?_
  refine aw_aload0 X dL_law_700 ?_
  refine aw_iload4 X dL_law_701 ?_
  refine aw_iconst X dL_law_703 (v := nI 1) (by decide) ?_
  refine aw_iadd X dL_law_704 ?_
  first | with_reducible refine aw_int (nI_add _ _) ?_ | skip
  refine aw_sld C dL_law_705 rfl (by omega) (by omega) ?_
  refine aw_aload0 X dL_law_706 ?_
  refine aw_iload4 X dL_law_707 ?_
  refine aw_iconst X dL_law_709 (v := nI 2) (by decide) ?_
  refine aw_iadd X dL_law_710 ?_
  first | with_reducible refine aw_int (nI_add _ _) ?_ | skip
  refine aw_sld C dL_law_711 rfl (by omega) (by omega) ?_
  refine aw_callV X (c_X9_same hm1) kL_170 (ci := 10) rfl hat1 dL_law_712 rfl rfl (by first | decide | exact Nat.le_of_ble_eq_true rfl) (by rw [hR]; exact ⟨Nat.le_of_ble_eq_true rfl, Nat.le_of_ble_eq_true rfl⟩) (by rw [hR]; exact ⟨by show k + 2 + 0 ≤ 601024; omega, by show n + 12 + 0 ≤ 7293034; omega⟩) (fun v M2 hv => ?_)
  obtain ⟨rfl, hm2⟩ := hv
  have hk2 := hm2.ke
  have hs2 := hs1.kr hk2 (fun q e => by omega)
  have ho2 := hk2 _ _ ho1 (by omega)
  obtain ⟨c2, hat2⟩ := hm2.at
  refine aw_istore6 X dL_law_715 (by rw [hn]; decide) rfl ?_
  refine aw_aload2 X dL_law_717 ?_
  refine aw_callV X (c_X9_thrown hm2) kL_142 (ci := 10) rfl hat2 dL_law_718 rfl rfl (by first | decide | exact Nat.le_of_ble_eq_true rfl) (by rw [hR]; exact ⟨Nat.le_of_ble_eq_true rfl, Nat.le_of_ble_eq_true rfl⟩) (by rw [hR]; exact ⟨by show k + 2 + 0 + 0 ≤ 601024; omega, by show n + 12 + 0 + 0 ≤ 7293034; omega⟩) (fun v M3 hv => ?_)
  obtain ⟨rfl, rfl⟩ := hv
  refine aw_iload5 X dL_law_721 ?_
  refine aw_icmpeq X dL_law_723 (tgt := 728) (by decide) (fun _ => ?_) (fun c9 => by first | exact absurd (rfl) c9 | exact absurd c9 (rfl))
  refine aw_iload5 X dL_law_728 ?_
  by_cases e0 : (spSame τ (xs (i + 1)) (xs (i + 2))).1 = 0
  · refine aw_ifne X dL_law_730 (tgt := 752) (by decide) (fun c9 => by first | exact absurd ((show nI (spSame τ (xs (i + 1)) (xs (i + 2))).1 = 0 from by rw [e0]; rfl)) c9 | exact absurd c9 ((show nI (spSame τ (xs (i + 1)) (xs (i + 2))).1 = 0 from by rw [e0]; rfl))) (fun _ => ?_)
    refine aw_aload3 X dL_law_733 ?_
    refine aw_iconst X dL_law_734 (v := nI 0) (by decide) ?_
    refine aw_lald X dL_law_735 ho2 rfl (by omega) (by decide) ?_
    by_cases c1 : (spSame τ (xs (i + 1)) (xs (i + 2))).2.1 = 0
    · refine aw_long (y := 0) ((hv1 e0).trans (if_pos c1)) ?_
      refine aw_iload6 X dL_law_736 ?_
      refine aw_ifeq X dL_law_738 (tgt := 745) (by decide) (fun _ => ?_) (fun c9 => by first | exact absurd (c1) c9 | exact absurd c9 (c1))
      refine aw_lconst X dL_law_745 (v := 0) (by decide) ?_
      refine aw_lcmp X dL_law_746 ?_
      refine aw_ifeq X dL_law_747 (tgt := 752) (by decide) (fun _ => ?_) (fun c9 => by first | exact absurd (((lg_cmp_eq _ _).mpr rfl)) c9 | exact absurd c9 (((lg_cmp_eq _ _).mpr rfl)))
      refine aw_goto X dL_law_752 (tgt := 2593) (by decide) ?_
      exact T M3 _ _ _ _ _ _ _ (by show k + 2 + 0 + 0 ≤ k + 482; omega) (by show n + 12 + 0 + 0 ≤ n + 9712; omega) hs2 hm2.base ⟨_, ho2⟩
    · refine aw_long (y := 1) ((hv1 e0).trans (if_neg c1)) ?_
      refine aw_iload6 X dL_law_736 ?_
      refine aw_ifeq X dL_law_738 (tgt := 745) (by decide) (fun c9 => by first | exact absurd (c1) c9 | exact absurd c9 (c1)) (fun _ => ?_)
      refine aw_lconst X dL_law_741 (v := 1) (by decide) ?_
      refine aw_goto X dL_law_742 (tgt := 746) (by decide) ?_
      refine aw_lcmp X dL_law_746 ?_
      refine aw_ifeq X dL_law_747 (tgt := 752) (by decide) (fun _ => ?_) (fun c9 => by first | exact absurd (((lg_cmp_eq _ _).mpr rfl)) c9 | exact absurd c9 (((lg_cmp_eq _ _).mpr rfl)))
      refine aw_goto X dL_law_752 (tgt := 2593) (by decide) ?_
      exact T M3 _ _ _ _ _ _ _ (by show k + 2 + 0 + 0 ≤ k + 482; omega) (by show n + 12 + 0 + 0 ≤ n + 9712; omega) hs2 hm2.base ⟨_, ho2⟩
  · refine aw_ifne X dL_law_730 (tgt := 752) (by decide) (fun _ => ?_) (fun c9 => by first | exact absurd ((show ¬ nI (spSame τ (xs (i + 1)) (xs (i + 2))).1 = 0 from nI_ne0 (by omega) (by have := le_spSame (τ := τ) (f := (xs (i + 1))) (p := (xs (i + 2))); omega))) c9 | exact absurd c9 ((show ¬ nI (spSame τ (xs (i + 1)) (xs (i + 2))).1 = 0 from nI_ne0 (by omega) (by have := le_spSame (τ := τ) (f := (xs (i + 1))) (p := (xs (i + 2))); omega))))
    refine aw_goto X dL_law_752 (tgt := 2593) (by decide) ?_
    exact T M3 _ _ _ _ _ _ _ (by show k + 2 + 0 + 0 ≤ k + 482; omega) (by show n + 12 + 0 + 0 ≤ n + 9712; omega) hs2 hm2.base ⟨_, ho2⟩
theorem lc_sign {Z : AZ} {Q : State → Prop} {M : AM} {k n b L x i t : Nat} {xs : Nat → Int32} {τ : TS} {u5 u6 u7 : Option Value} {S : Nat → Int64} (C : lwC Z b L xs) (hi : i + 4 < L) (hL : L < 2 ^ 31) (hk : k + 482 ≤ 601024) (hnn : n + 9712 ≤ 7293034) (hs : isRS (zG Z) M x (x + 299) τ) (hm : isMD (zG Z) M M (x + 271) τ t) (ho : M.1 (x + 298) = some (am_al (zG Z) 1 S)) (T : lwT Z Q k n b x i) : AW Z Q M k n 755 [some (.ref b), some (.ref x), some (.ref (x + 271)), some (.ref (x + 298)), some (.int (nI i)), u5, u6, u7] [] := by
  obtain ⟨X, hN, -, -, -, hfl, hn, hR⟩ := id C
  refine aw_aload1 X dL_law_755 ?_
  refine aw_aload0 X dL_law_756 ?_
  refine aw_iload4 X dL_law_757 ?_
  refine aw_iconst X dL_law_759 (v := nI 1) (by decide) ?_
  refine aw_iadd X dL_law_760 ?_
  first | with_reducible refine aw_int (nI_add _ _) ?_ | skip
  refine aw_sld C dL_law_761 rfl (by omega) (by omega) ?_
  refine aw_aload0 X dL_law_762 ?_
  refine aw_iload4 X dL_law_763 ?_
  refine aw_iconst X dL_law_765 (v := nI 2) (by decide) ?_
  refine aw_iadd X dL_law_766 ?_
  first | with_reducible refine aw_int (nI_add _ _) ?_ | skip
  refine aw_sld C dL_law_767 rfl (by omega) (by omega) ?_
  refine aw_aload0 X dL_law_768 ?_
  refine aw_iload4 X dL_law_769 ?_
  refine aw_iconst X dL_law_771 (v := nI 3) (by decide) ?_
  refine aw_iadd X dL_law_772 ?_
  first | with_reducible refine aw_int (nI_add _ _) ?_ | skip
  refine aw_sld C dL_law_773 rfl (by omega) (by omega) ?_
  refine aw_aload0 X dL_law_774 ?_
  refine aw_iload4 X dL_law_775 ?_
  refine aw_iconst X dL_law_777 (v := nI 4) (by decide) ?_
  refine aw_iadd X dL_law_778 ?_
  first | with_reducible refine aw_int (nI_add _ _) ?_ | skip
  refine aw_sld C dL_law_779 rfl (by omega) (by omega) ?_
  refine aw_aload3 X dL_law_780 ?_
  refine aw_callSH X hN (c_L_sign hfl hs ho ⟨by omega, by omega⟩) kL_171 dL_law_781 rfl rfl (by first | decide | exact Nat.le_of_ble_eq_true rfl) (by rw [hR]; exact ⟨Nat.le_of_ble_eq_true rfl, Nat.le_of_ble_eq_true rfl⟩) (by rw [hR]; exact ⟨by show k + 4 ≤ 601024; omega, by show n + 24 ≤ 7293034; omega⟩) (fun v M1 hv => ?_)
  obtain ⟨rfl, hs1, hk1, S1, ho1, hv1⟩ := hv
  have hm1 := hm.kr hk1 (fun q e => by omega)
  obtain ⟨c1, hat1⟩ := hm1.at
  refine aw_istore5 X dL_law_784 (by rw [hn]; decide) rfl ?_
  refine aw_aload2 X dL_law_786 ?_
  refine aw_aload0 X dL_law_787 ?_
  refine aw_iload4 X dL_law_788 ?_
  refine aw_iconst X dL_law_790 (v := nI 1) (by decide) ?_
  refine aw_iadd X dL_law_791 ?_
  first | with_reducible refine aw_int (nI_add _ _) ?_ | skip
  refine aw_sld C dL_law_792 rfl (by omega) (by omega) ?_
  refine aw_aload0 X dL_law_793 ?_
  refine aw_iload4 X dL_law_794 ?_
  refine aw_iconst X dL_law_796 (v := nI 2) (by decide) ?_
  refine aw_iadd X dL_law_797 ?_
  first | with_reducible refine aw_int (nI_add _ _) ?_ | skip
  refine aw_sld C dL_law_798 rfl (by omega) (by omega) ?_
  refine aw_aload0 X dL_law_799 ?_
  refine aw_iload4 X dL_law_800 ?_
  refine aw_iconst X dL_law_802 (v := nI 3) (by decide) ?_
  refine aw_iadd X dL_law_803 ?_
  first | with_reducible refine aw_int (nI_add _ _) ?_ | skip
  refine aw_sld C dL_law_804 rfl (by omega) (by omega) ?_
  refine aw_aload0 X dL_law_805 ?_
  refine aw_iload4 X dL_law_806 ?_
  refine aw_iconst X dL_law_808 (v := nI 4) (by decide) ?_
  refine aw_iadd X dL_law_809 ?_
  first | with_reducible refine aw_int (nI_add _ _) ?_ | skip
  refine aw_sld C dL_law_810 rfl (by omega) (by omega) ?_
  refine aw_callV X (c_X9_sign hm1) kL_173 (ci := 10) rfl hat1 dL_law_811 rfl rfl (by first | decide | exact Nat.le_of_ble_eq_true rfl) (by rw [hR]; exact ⟨Nat.le_of_ble_eq_true rfl, Nat.le_of_ble_eq_true rfl⟩) (by rw [hR]; exact ⟨by show k + 4 + 0 ≤ 601024; omega, by show n + 24 + 0 ≤ 7293034; omega⟩) (fun v M2 hv => ?_)
  obtain ⟨rfl, hm2⟩ := hv
  have hk2 := hm2.ke
  have hs2 := hs1.kr hk2 (fun q e => by omega)
  have ho2 := hk2 _ _ ho1 (by omega)
  obtain ⟨c2, hat2⟩ := hm2.at
  refine aw_istore6 X dL_law_814 (by rw [hn]; decide) rfl ?_
  refine aw_aload2 X dL_law_816 ?_
  refine aw_callV X (c_X9_thrown hm2) kL_142 (ci := 10) rfl hat2 dL_law_817 rfl rfl (by first | decide | exact Nat.le_of_ble_eq_true rfl) (by rw [hR]; exact ⟨Nat.le_of_ble_eq_true rfl, Nat.le_of_ble_eq_true rfl⟩) (by rw [hR]; exact ⟨by show k + 4 + 0 + 0 ≤ 601024; omega, by show n + 24 + 0 + 0 ≤ 7293034; omega⟩) (fun v M3 hv => ?_)
  obtain ⟨rfl, rfl⟩ := hv
  refine aw_iload5 X dL_law_820 ?_
  refine aw_icmpeq X dL_law_822 (tgt := 827) (by decide) (fun _ => ?_) (fun c9 => by first | exact absurd (rfl) c9 | exact absurd c9 (rfl))
  refine aw_iload5 X dL_law_827 ?_
  by_cases e0 : (spSign τ (xs (i + 1)) (xs (i + 2)) (xs (i + 3)) (xs (i + 4))).1 = 0
  · refine aw_ifne X dL_law_829 (tgt := 844) (by decide) (fun c9 => by first | exact absurd ((show nI (spSign τ (xs (i + 1)) (xs (i + 2)) (xs (i + 3)) (xs (i + 4))).1 = 0 from by rw [e0]; rfl)) c9 | exact absurd c9 ((show nI (spSign τ (xs (i + 1)) (xs (i + 2)) (xs (i + 3)) (xs (i + 4))).1 = 0 from by rw [e0]; rfl))) (fun _ => ?_)
    refine aw_aload3 X dL_law_832 ?_
    refine aw_iconst X dL_law_833 (v := nI 0) (by decide) ?_
    refine aw_lald X dL_law_834 ho2 rfl (by omega) (by decide) ?_
    refine aw_long (y := cvI (spSign τ (xs (i + 1)) (xs (i + 2)) (xs (i + 3)) (xs (i + 4))).2.1) (hv1 e0) ?_
    refine aw_iload6 X dL_law_835 ?_
    refine aw_i2l X dL_law_837 ?_
    refine aw_lcmp X dL_law_838 ?_
    refine aw_ifeq X dL_law_839 (tgt := 844) (by decide) (fun _ => ?_) (fun c9 => by first | exact absurd (((lg_cmp_eq _ _).mpr rfl)) c9 | exact absurd c9 (((lg_cmp_eq _ _).mpr rfl)))
    refine aw_goto X dL_law_844 (tgt := 2593) (by decide) ?_
    exact T M3 _ _ _ _ _ _ _ (by show k + 4 + 0 + 0 ≤ k + 482; omega) (by show n + 24 + 0 + 0 ≤ n + 9712; omega) hs2 hm2.base ⟨_, ho2⟩
  · refine aw_ifne X dL_law_829 (tgt := 844) (by decide) (fun _ => ?_) (fun c9 => by first | exact absurd ((show ¬ nI (spSign τ (xs (i + 1)) (xs (i + 2)) (xs (i + 3)) (xs (i + 4))).1 = 0 from nI_ne0 (by omega) (by have := le_spSign (τ := τ) (g := (xs (i + 1))) (f := (xs (i + 2))) (b := (xs (i + 3))) (d := (xs (i + 4))); omega))) c9 | exact absurd c9 ((show ¬ nI (spSign τ (xs (i + 1)) (xs (i + 2)) (xs (i + 3)) (xs (i + 4))).1 = 0 from nI_ne0 (by omega) (by have := le_spSign (τ := τ) (g := (xs (i + 1))) (f := (xs (i + 2))) (b := (xs (i + 3))) (d := (xs (i + 4))); omega))))
    refine aw_goto X dL_law_844 (tgt := 2593) (by decide) ?_
    exact T M3 _ _ _ _ _ _ _ (by show k + 4 + 0 + 0 ≤ k + 482; omega) (by show n + 24 + 0 + 0 ≤ n + 9712; omega) hs2 hm2.base ⟨_, ho2⟩
theorem lc_blocks {Z : AZ} {Q : State → Prop} {M : AM} {k n b L x i t : Nat} {xs : Nat → Int32} {τ : TS} {u5 u6 u7 : Option Value} {S : Nat → Int64} (C : lwC Z b L xs) (hi : i + 4 < L) (hL : L < 2 ^ 31) (hk : k + 482 ≤ 601024) (hnn : n + 9712 ≤ 7293034) (hs : isRS (zG Z) M x (x + 299) τ) (hm : isMD (zG Z) M M (x + 271) τ t) (ho : M.1 (x + 298) = some (am_al (zG Z) 1 S)) (T : lwT Z Q k n b x i) : AW Z Q M k n 847 [some (.ref b), some (.ref x), some (.ref (x + 271)), some (.ref (x + 298)), some (.int (nI i)), u5, u6, u7] [] := by
  obtain ⟨X, hN, -, -, -, hfl, hn, hR⟩ := id C
  refine aw_aload1 X dL_law_847 ?_
  refine aw_aload0 X dL_law_848 ?_
  refine aw_iload4 X dL_law_849 ?_
  refine aw_iconst X dL_law_851 (v := nI 1) (by decide) ?_
  refine aw_iadd X dL_law_852 ?_
  first | with_reducible refine aw_int (nI_add _ _) ?_ | skip
  refine aw_sld C dL_law_853 rfl (by omega) (by omega) ?_
  refine aw_aload3 X dL_law_854 ?_
  refine aw_callSH X hN (c_L_blocks hfl hs ho ⟨by omega, by omega⟩) kL_174 dL_law_855 rfl rfl (by first | decide | exact Nat.le_of_ble_eq_true rfl) (by rw [hR]; exact ⟨Nat.le_of_ble_eq_true rfl, Nat.le_of_ble_eq_true rfl⟩) (by rw [hR]; exact ⟨by show k + 1 ≤ 601024; omega, by show n + 6 ≤ 7293034; omega⟩) (fun v M1 hv => ?_)
  obtain ⟨rfl, hs1, hk1, S1, ho1, hv1⟩ := hv
  have hm1 := hm.kr hk1 (fun q e => by omega)
  obtain ⟨c1, hat1⟩ := hm1.at
  refine aw_istore5 X dL_law_858 (by rw [hn]; decide) rfl ?_
  refine aw_aload2 X dL_law_860 ?_
  refine aw_aload0 X dL_law_861 ?_
  refine aw_iload4 X dL_law_862 ?_
  refine aw_iconst X dL_law_864 (v := nI 1) (by decide) ?_
  refine aw_iadd X dL_law_865 ?_
  first | with_reducible refine aw_int (nI_add _ _) ?_ | skip
  refine aw_sld C dL_law_866 rfl (by omega) (by omega) ?_
  refine aw_callV X (c_X9_blocks hm1) kL_176 (ci := 10) rfl hat1 dL_law_867 rfl rfl (by first | decide | exact Nat.le_of_ble_eq_true rfl) (by rw [hR]; exact ⟨Nat.le_of_ble_eq_true rfl, Nat.le_of_ble_eq_true rfl⟩) (by rw [hR]; exact ⟨by show k + 1 + 0 ≤ 601024; omega, by show n + 6 + 0 ≤ 7293034; omega⟩) (fun v M2 hv => ?_)
  obtain ⟨rfl, hm2⟩ := hv
  have hk2 := hm2.ke
  have hs2 := hs1.kr hk2 (fun q e => by omega)
  have ho2 := hk2 _ _ ho1 (by omega)
  obtain ⟨c2, hat2⟩ := hm2.at
  refine aw_istore6 X dL_law_870 (by rw [hn]; decide) rfl ?_
  refine aw_aload2 X dL_law_872 ?_
  refine aw_callV X (c_X9_thrown hm2) kL_142 (ci := 10) rfl hat2 dL_law_873 rfl rfl (by first | decide | exact Nat.le_of_ble_eq_true rfl) (by rw [hR]; exact ⟨Nat.le_of_ble_eq_true rfl, Nat.le_of_ble_eq_true rfl⟩) (by rw [hR]; exact ⟨by show k + 1 + 0 + 0 ≤ 601024; omega, by show n + 6 + 0 + 0 ≤ 7293034; omega⟩) (fun v M3 hv => ?_)
  obtain ⟨rfl, rfl⟩ := hv
  refine aw_iload5 X dL_law_876 ?_
  refine aw_icmpeq X dL_law_878 (tgt := 883) (by decide) (fun _ => ?_) (fun c9 => by first | exact absurd (rfl) c9 | exact absurd c9 (rfl))
  refine aw_iload5 X dL_law_883 ?_
  by_cases e0 : (spBlocks τ (xs (i + 1))).1 = 0
  · refine aw_ifne X dL_law_885 (tgt := 900) (by decide) (fun c9 => by first | exact absurd ((show nI (spBlocks τ (xs (i + 1))).1 = 0 from by rw [e0]; rfl)) c9 | exact absurd c9 ((show nI (spBlocks τ (xs (i + 1))).1 = 0 from by rw [e0]; rfl))) (fun _ => ?_)
    refine aw_aload3 X dL_law_888 ?_
    refine aw_iconst X dL_law_889 (v := nI 0) (by decide) ?_
    refine aw_lald X dL_law_890 ho2 rfl (by omega) (by decide) ?_
    refine aw_long (y := cvI (spBlocks τ (xs (i + 1))).2.1) (hv1 e0) ?_
    refine aw_iload6 X dL_law_891 ?_
    refine aw_i2l X dL_law_893 ?_
    refine aw_lcmp X dL_law_894 ?_
    refine aw_ifeq X dL_law_895 (tgt := 900) (by decide) (fun _ => ?_) (fun c9 => by first | exact absurd (((lg_cmp_eq _ _).mpr rfl)) c9 | exact absurd c9 (((lg_cmp_eq _ _).mpr rfl)))
    refine aw_goto X dL_law_900 (tgt := 2593) (by decide) ?_
    exact T M3 _ _ _ _ _ _ _ (by show k + 1 + 0 + 0 ≤ k + 482; omega) (by show n + 6 + 0 + 0 ≤ n + 9712; omega) hs2 hm2.base ⟨_, ho2⟩
  · refine aw_ifne X dL_law_885 (tgt := 900) (by decide) (fun _ => ?_) (fun c9 => by first | exact absurd ((show ¬ nI (spBlocks τ (xs (i + 1))).1 = 0 from nI_ne0 (by omega) (by have := le_spBlocks (τ := τ) (g := (xs (i + 1))); omega))) c9 | exact absurd c9 ((show ¬ nI (spBlocks τ (xs (i + 1))).1 = 0 from nI_ne0 (by omega) (by have := le_spBlocks (τ := τ) (g := (xs (i + 1))); omega))))
    refine aw_goto X dL_law_900 (tgt := 2593) (by decide) ?_
    exact T M3 _ _ _ _ _ _ _ (by show k + 1 + 0 + 0 ≤ k + 482; omega) (by show n + 6 + 0 + 0 ≤ n + 9712; omega) hs2 hm2.base ⟨_, ho2⟩
