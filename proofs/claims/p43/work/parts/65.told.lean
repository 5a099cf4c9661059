/-! the law: versions and papers are told anew -/
theorem st_spBrAt {τ : TS} {f : Int32} : (spBrAt τ f).2.2 = τ := by unfold spBrAt; split <;> rfl
theorem st_spBrAfter {τ : TS} {f : Int32} : (spBrAfter τ f).2.2 = τ := by unfold spBrAfter; split <;> rfl
theorem st_spReason {τ : TS} {f : Int32} : (spReason τ f).2.2 = τ := by unfold spReason; split <;> rfl
theorem st_spHeldBy {τ : TS} {f : Int32} : (spHeldBy τ f).2.2 = τ := by unfold spHeldBy; split <;> rfl
theorem st_spParts {τ : TS} {f : Int32} : (spParts τ f).2.2 = τ := by unfold spParts; split <;> rfl
theorem st_spPartLen {τ : TS} {f p : Int32} : (spPartLen τ f p).2.2 = τ := by unfold spPartLen; split <;> rfl
theorem st_spShared {τ : TS} {f p : Int32} : (spShared τ f p).2.2 = τ := by unfold spShared; split <;> rfl
theorem st_toldX {G : AG} {M M' : AM} {x : Nat} {τ τ' : TS} {F : Nat → Nat → Int32} (hT : tbL G x M M F) (hs : isRS G M' x (x + 292) τ') (hk : KE M M' (eX x)) (e : τ' = τ) : isRS G M' x (x + 292) τ ∧ tbL G x M' M' F := ⟨e ▸ hs, tbM.ke hT hk (fun q e => by have := eX_ok q e; omega)⟩
theorem papN_none {P : PS} {n : Nat} (h : ∀ i, n ≤ i → P i = none) : ∀ k, papN P (n + k) = papN P n
  | 0 => rfl
  | k + 1 => by
    rw [← Nat.add_assoc, papN, papN_none h k, h (n + k) (by omega)]
    rfl
theorem allB_pre {P : PS} (n : Nat) : ∀ r, ∃ R, allB P (n + r) = allB P n ++ R
  | 0 => ⟨[], (List.append_nil _).symm⟩
  | r + 1 => by
    obtain ⟨R, hR⟩ := allB_pre (P := P) n r
    exact ⟨R ++ (P (n + r)).getD [], by rw [← Nat.add_assoc, allB, hR, List.append_assoc]⟩
theorem allB_at {P : PS} {q : Nat} {m : List (List Int32)} (hq : q < 4) (hm : P q = some m) : ∃ R, allB P 4 = allB P q ++ (m ++ R) := by
  obtain ⟨R, hR⟩ := allB_pre (P := P) (q + 1) (3 - q)
  refine ⟨R, ?_⟩
  rw [show q + 1 + (3 - q) = 4 by omega] at hR
  rw [hR, allB, hm, Option.getD_some, List.append_assoc]
theorem get_mid {X m R : List (List Int32)} {k : Nat} (h : k < m.length) : (X ++ (m ++ R)).getD (X.length + k) [] = m.getD k [] := by
  rw [List.getD_eq_getElem?_getD, List.getElem?_append_right (by omega), Nat.add_sub_cancel_left, List.getElem?_append_left h, List.getD_eq_getElem?_getD]
theorem take_mid {X m R : List (List Int32)} {k : Nat} (h : k ≤ m.length) : (X ++ (m ++ R)).take (X.length + k) = X ++ m.take k := by
  rw [List.take_append, List.take_of_length_le (by omega), Nat.add_sub_cancel_left, List.take_append_of_le_length h]
abbrev rmK : Room := { rL_keepsTold with cells := 20, slots := 140 }
abbrev ktL (x : Nat) (y : Int32) (e1 e2 : Nat) (w a : Int32) (t : List (Option Value)) : List (Option Value) := some (.ref x) :: some (.int y) :: some (.ref (x + 280)) :: some (.ref (x + 281)) :: some (.ref (x + 282)) :: some (.ref (x + 283)) :: some (.ref (x + 284)) :: some (.ref (x + 285)) :: some (.ref (x + 286)) :: some (.ref (x + 287)) :: some (.ref (x + 288)) :: some (.ref (x + 289)) :: some (.ref (x + 290)) :: some (.ref e1) :: some (.ref e2) :: some (.int w) :: some (.int a) :: t
abbrev ktQ (Z : AZ) (x : Nat) (τ : TS) : State → Prop := am_Q Z (fun v M' => v = some (.int (nI 1)) ∧ lS (zG Z) M' x τ) (fun _ _ => False) 20 140
def ktC (Z : AZ) : Prop := am_X RL cL_keepsTold Z ∧ zn Z = 24 ∧ zR Z = rmK ∧ (zM Z).sig.returnType = some .boolean ∧ ncs (zs Z) ∧ (zl Z).stackTraces = false
theorem kt_pap {Z : AZ} {M : AM} {x e1 e2 : Nat} {τ : TS} {F : Nat → Nat → Int32} {y w a : Int32} (C : ktC Z) (hs : isRS (zG Z) M x (x + 292) τ) (hT : tbL (zG Z) x M M F) (hL : lR F τ) : AW Z (ktQ Z x τ) M 7 59 267 (ktL x y e1 e2 w a [some (.int (nI (fsum (fun _ => 1) (tA τ) (tA τ).length))), some (.int (nI (fsum List.length (tA τ) (tA τ).length))), some (.int (nI (papN τ.2.2.2.2.2 12))), none, none, none, none]) [] := by
  obtain ⟨X, hn, hR, hr, hN, hfl⟩ := C
  have hP := hL.2.2.2.2.2.2
  refine aw_iload1 X dL_keepsTold_267 ?_
  refine aw_iconst X dL_keepsTold_268 (v := nI 3) (by decide) ?_
  refine aw_ishr X dL_keepsTold_269 ?_
  refine aw_iconst X dL_keepsTold_270 (v := nI 5) (by decide) ?_
  refine aw_callS X (c_L_some (N := 5) (by decide) (by decide)) kL_136 dL_keepsTold_271 rfl rfl (by first | decide | exact Nat.le_of_ble_eq_true rfl) (by rw [hR]; exact ⟨by first | decide | exact Nat.le_of_ble_eq_true rfl | (dsimp only; omega), by first | decide | exact Nat.le_of_ble_eq_true rfl | (dsimp only; omega)⟩) (by rw [hR]; exact ⟨by first | decide | exact Nat.le_of_ble_eq_true rfl | (dsimp only; omega), by first | decide | exact Nat.le_of_ble_eq_true rfl | (dsimp only; omega)⟩) (fun v M hv => ?_)
  obtain ⟨rfl, p, hp, rfl⟩ := hv
  have hpi := isP_iff (τ := τ) hP.1 hp
  refine aw_istore20 X dL_keepsTold_274 (by rw [hn]; decide) rfl ?_
  refine aw_splB (pm := 296) (P := isP τ (nI p)) (fun K => ?_) ?_
  · refine aw_iload20 X dL_keepsTold_276 ?_
    refine aw_iconst X dL_keepsTold_278 (v := nI 4) (by decide) ?_
    refine aw_icmpge X dL_keepsTold_279 (tgt := 295) (by decide) (fun c => ?_) (fun c => ?_)
    · refine aw_iconst X dL_keepsTold_295 (v := nI 0) (by decide) ?_
      exact aw_b0 (fun e => absurd ((nI_leI (by decide) (by omega)).mp c) (by have := (hpi.mp e).1; omega)) K
    · have hp4 : p < 4 := by
        rcases Nat.lt_or_ge p 4 with q | q
        · exact q
        · exact absurd (nI_le q (by omega)) c
      refine aw_aload12 X dL_keepsTold_282 ?_
      refine aw_iload20 X dL_keepsTold_284 ?_
      refine aw_iald X dL_keepsTold_286 (hT.at 19 (by decide)) rfl (show p < 8 by omega) (by decide) ?_
      cases hq : τ.2.2.2.2.2 p with
      | none =>
        refine aw_int (hP.no hp4 hq) ?_
        refine aw_iconst X dL_keepsTold_287 (v := nI 1) (by decide) ?_
        refine aw_icmpne X dL_keepsTold_288 (tgt := 295) (by decide) (fun _ => ?_) (fun c9 => by first | exact absurd ((by decide : ¬ nI 0 = nI 1)) c9 | exact absurd c9 ((by decide : ¬ nI 0 = nI 1)))
        refine aw_iconst X dL_keepsTold_295 (v := nI 0) (by decide) ?_
        exact aw_b0 (fun e => by have := (hpi.mp e).2; rw [hq] at this; cases this) K
      | some m =>
        refine aw_int (hP.at hp4 hq).2.1 ?_
        refine aw_iconst X dL_keepsTold_287 (v := nI 1) (by decide) ?_
        refine aw_icmpne X dL_keepsTold_288 (tgt := 295) (by decide) (fun c9 => by first | exact absurd ((rfl : nI 1 = nI 1)) c9 | exact absurd c9 ((rfl : nI 1 = nI 1))) (fun _ => ?_)
        refine aw_iconst X dL_keepsTold_291 (v := nI 1) (by decide) ?_
        refine aw_goto X dL_keepsTold_292 (tgt := 296) (by decide) ?_
        exact aw_b1 (hpi.mpr ⟨hp4, by rw [hq]; rfl⟩) K
  have hrow : isP τ (nI p) → ∃ m, p < 4 ∧ τ.2.2.2.2.2 p = some m ∧ tL τ (nI p) = m ∧ pV m ∧ F 19 (4 + p) = nI m.length ∧ ∀ k, k < m.length → F 18 (16 * p + k) = nI (m.getD k []).length := fun h => by
    obtain ⟨h1, h2⟩ := hpi.mp h
    obtain ⟨m, hm⟩ := Option.isSome_iff_exists.mp h2
    obtain ⟨u1, u2, u3, u4, u5⟩ := hP.at h1 hm
    refine ⟨m, h1, hm, ?_, u1, u3, u4⟩
    simp only [tL, tP, ix_n (show p < 2 ^ 31 by omega), hm, Option.getD_some]
  refine aw_istore21 X dL_keepsTold_296 (by rw [hn]; decide) rfl ?_
  refine aw_iload1 X dL_keepsTold_298 ?_
  refine aw_iconst X dL_keepsTold_299 (v := nI 5) (by decide) ?_
  refine aw_ishr X dL_keepsTold_300 ?_
  refine aw_spl (pm := 319) (P := fun v => ∃ N, 0 < N ∧ N ≤ 100 ∧ v = nI N) (fun K => ?_) ?_
  · refine aw_iload21 X dL_keepsTold_301 ?_
    refine aw_ifeq X dL_keepsTold_303 (tgt := 318) (by decide) (fun c => ?_) (fun c => ?_)
    · refine aw_iconst X dL_keepsTold_318 (v := nI 2) (by decide) ?_
      exact K _ ⟨2, by decide, by decide, rfl⟩
    · obtain ⟨m, h4, hm, hml, hmV, hm19, hm18⟩ := hrow (am_bn.mp c)
      refine aw_aload12 X dL_keepsTold_306 ?_
      refine aw_iconst X dL_keepsTold_308 (v := nI 4) (by decide) ?_
      refine aw_iload20 X dL_keepsTold_309 ?_
      refine aw_iadd X dL_keepsTold_311 ?_
      first | with_reducible refine aw_int (nI_add _ _) ?_ | skip
      refine aw_iald X dL_keepsTold_312 (hT.at 19 (by decide)) rfl (show 4 + p < 8 by omega) (by decide) ?_
      refine aw_int hm19 ?_
      refine aw_iconst X dL_keepsTold_313 (v := nI 2) (by decide) ?_
      refine aw_iadd X dL_keepsTold_314 ?_
      first | with_reducible refine aw_int (nI_add _ _) ?_ | skip
      refine aw_goto X dL_keepsTold_315 (tgt := 319) (by decide) ?_
      exact K _ ⟨m.length + 2, by omega, by have := hmV.2.1; omega, rfl⟩
  rintro _ ⟨N, hN0, hN1, rfl⟩
  refine aw_callS X (c_L_some (N := N) hN0 (by omega)) kL_136 dL_keepsTold_319 rfl rfl (by first | decide | exact Nat.le_of_ble_eq_true rfl) (by rw [hR]; exact ⟨by first | decide | exact Nat.le_of_ble_eq_true rfl | (dsimp only; omega), by first | decide | exact Nat.le_of_ble_eq_true rfl | (dsimp only; omega)⟩) (by rw [hR]; exact ⟨by first | decide | exact Nat.le_of_ble_eq_true rfl | (dsimp only; omega), by first | decide | exact Nat.le_of_ble_eq_true rfl | (dsimp only; omega)⟩) (fun v M hv => ?_)
  obtain ⟨rfl, j0, hj0, rfl⟩ := hv
  refine aw_iconst X dL_keepsTold_322 (v := nI 1) (by decide) ?_
  refine aw_isub X dL_keepsTold_323 ?_
  refine aw_any (fun r => ?_)
  refine aw_istore22 X dL_keepsTold_324 (by rw [hn]; decide) rfl ?_
  refine aw_splB (pm := 353) (P := isK τ (nI p) r) (fun K => ?_) ?_
  · refine aw_iload21 X dL_keepsTold_326 ?_
    refine aw_ifeq X dL_keepsTold_328 (tgt := 352) (by decide) (fun c => ?_) (fun c => ?_)
    · refine aw_iconst X dL_keepsTold_352 (v := nI 0) (by decide) ?_
      exact aw_b0 (fun e => am_bz.mp c e.1) K
    · obtain ⟨m, h4, hm, hml, hmV, hm19, hm18⟩ := hrow (am_bn.mp c)
      refine aw_iload22 X dL_keepsTold_331 ?_
      refine aw_iflt X dL_keepsTold_333 (tgt := 352) (by decide) (fun c2 => ?_) (fun c2 => ?_)
      · refine aw_iconst X dL_keepsTold_352 (v := nI 0) (by decide) ?_
        exact aw_b0 (fun e => e.2.1 c2) K
      · refine aw_iload22 X dL_keepsTold_336 ?_
        refine aw_aload12 X dL_keepsTold_338 ?_
        refine aw_iconst X dL_keepsTold_340 (v := nI 4) (by decide) ?_
        refine aw_iload20 X dL_keepsTold_341 ?_
        refine aw_iadd X dL_keepsTold_343 ?_
        first | with_reducible refine aw_int (nI_add _ _) ?_ | skip
        refine aw_iald X dL_keepsTold_344 (hT.at 19 (by decide)) rfl (show 4 + p < 8 by omega) (by decide) ?_
        refine aw_int hm19 ?_
        refine aw_icmpge X dL_keepsTold_345 (tgt := 352) (by decide) (fun c3 => ?_) (fun c3 => ?_)
        · refine aw_iconst X dL_keepsTold_352 (v := nI 0) (by decide) ?_
          exact aw_b0 (fun e => absurd c3 (Int32.not_le.mpr (by have := e.2.2; rwa [hml] at this))) K
        · refine aw_iconst X dL_keepsTold_348 (v := nI 1) (by decide) ?_
          refine aw_goto X dL_keepsTold_349 (tgt := 353) (by decide) ?_
          exact aw_b1 ⟨am_bn.mp c, by rw [hml]; exact inI_of c2 c3⟩ K
  refine aw_istore23 X dL_keepsTold_353 (by rw [hn]; decide) rfl ?_
  refine aw_aload0 X dL_keepsTold_355 ?_
  refine aw_callV X (c_X8_papers hs) kL_211 (ci := 9) rfl (hs.at) dL_keepsTold_356 rfl rfl (by first | decide | exact Nat.le_of_ble_eq_true rfl) (by rw [hR]; exact ⟨by first | decide | exact Nat.le_of_ble_eq_true rfl | (dsimp only; omega), by first | decide | exact Nat.le_of_ble_eq_true rfl | (dsimp only; omega)⟩) (by rw [hR]; exact ⟨by first | decide | exact Nat.le_of_ble_eq_true rfl | (dsimp only; omega), by first | decide | exact Nat.le_of_ble_eq_true rfl | (dsimp only; omega)⟩) (fun v M1 hv => ?_)
  obtain ⟨-, rfl, hs1, hk1⟩ := hv
  obtain ⟨hs, hT⟩ := st_told hT hs1 hk1 (τ := τ) rfl
  refine aw_iload19 X dL_keepsTold_359 ?_
  refine aw_icmpne X dL_keepsTold_361 (tgt := 489) (by decide) (fun c9 => by first | exact absurd (rfl) c9 | exact absurd c9 (rfl)) (fun _ => ?_)
  refine aw_aload0 X dL_keepsTold_364 ?_
  refine aw_callV X (c_X8_chunks hs) kL_213 (ci := 9) rfl (hs.at) dL_keepsTold_365 rfl rfl (by first | decide | exact Nat.le_of_ble_eq_true rfl) (by rw [hR]; exact ⟨by first | decide | exact Nat.le_of_ble_eq_true rfl | (dsimp only; omega), by first | decide | exact Nat.le_of_ble_eq_true rfl | (dsimp only; omega)⟩) (by rw [hR]; exact ⟨by first | decide | exact Nat.le_of_ble_eq_true rfl | (dsimp only; omega), by first | decide | exact Nat.le_of_ble_eq_true rfl | (dsimp only; omega)⟩) (fun v M1 hv => ?_)
  obtain ⟨-, rfl, hs1, hk1⟩ := hv
  obtain ⟨hs, hT⟩ := st_told hT hs1 hk1 (τ := τ) rfl
  refine aw_iload17 X dL_keepsTold_368 ?_
  refine aw_icmpne X dL_keepsTold_370 (tgt := 489) (by decide) (fun c9 => by first | exact absurd (rfl) c9 | exact absurd c9 (rfl)) (fun _ => ?_)
  refine aw_aload0 X dL_keepsTold_373 ?_
  refine aw_callV X (c_X8_heldBytes hs) kL_216 (ci := 9) rfl (hs.at) dL_keepsTold_374 rfl rfl (by first | decide | exact Nat.le_of_ble_eq_true rfl) (by rw [hR]; exact ⟨by first | decide | exact Nat.le_of_ble_eq_true rfl | (dsimp only; omega), by first | decide | exact Nat.le_of_ble_eq_true rfl | (dsimp only; omega)⟩) (by rw [hR]; exact ⟨by first | decide | exact Nat.le_of_ble_eq_true rfl | (dsimp only; omega), by first | decide | exact Nat.le_of_ble_eq_true rfl | (dsimp only; omega)⟩) (fun v M1 hv => ?_)
  obtain ⟨-, rfl, hs1, hk1⟩ := hv
  obtain ⟨hs, hT⟩ := st_told hT hs1 hk1 (τ := τ) rfl
  refine aw_iload18 X dL_keepsTold_377 ?_
  refine aw_icmpne X dL_keepsTold_379 (tgt := 489) (by decide) (fun c9 => by first | exact absurd (rfl) c9 | exact absurd c9 (rfl)) (fun _ => ?_)
  refine aw_aload0 X dL_keepsTold_382 ?_
  refine aw_iconst X dL_keepsTold_383 (v := nI 2) (by decide) ?_
  refine aw_iload20 X dL_keepsTold_384 ?_
  refine aw_iconst X dL_keepsTold_386 (v := nI 0) (by decide) ?_
  refine aw_callSH X hN (w_parts hfl hs) kL_194 dL_keepsTold_387 rfl rfl (by first | decide | exact Nat.le_of_ble_eq_true rfl) (by rw [hR]; exact ⟨by first | decide | exact Nat.le_of_ble_eq_true rfl | (dsimp only; omega), by first | decide | exact Nat.le_of_ble_eq_true rfl | (dsimp only; omega)⟩) (by rw [hR]; exact ⟨by first | decide | exact Nat.le_of_ble_eq_true rfl | (dsimp only; omega), by first | decide | exact Nat.le_of_ble_eq_true rfl | (dsimp only; omega)⟩) (fun v M1 hv => ?_)
  obtain ⟨rfl, hs1, hk1⟩ := hv
  obtain ⟨hs, hT⟩ := st_told hT hs1 hk1 st_spParts
  refine aw_splV (pm := 407) (v := wr (spParts τ (nI p))) (fun K => ?_) ?_
  · refine aw_iload21 X dL_keepsTold_390 ?_
    refine aw_ifeq X dL_keepsTold_392 (tgt := 405) (by decide) (fun c => ?_) (fun c => ?_)
    · refine aw_bipush X dL_keepsTold_405 (v := -101) (by decide) ?_
      refine aw_int (y := wr (spParts τ (nI p))) (by rw [spParts, if_neg (am_bz.mp c)]; rfl) ?_
      exact K
    · obtain ⟨m, h4, hm, hml, hmV, hm19, hm18⟩ := hrow (am_bn.mp c)
      refine aw_aload12 X dL_keepsTold_395 ?_
      refine aw_iconst X dL_keepsTold_397 (v := nI 4) (by decide) ?_
      refine aw_iload20 X dL_keepsTold_398 ?_
      refine aw_iadd X dL_keepsTold_400 ?_
      first | with_reducible refine aw_int (nI_add _ _) ?_ | skip
      refine aw_iald X dL_keepsTold_401 (hT.at 19 (by decide)) rfl (show 4 + p < 8 by omega) (by decide) ?_
      refine aw_goto X dL_keepsTold_402 (tgt := 407) (by decide) ?_
      refine aw_int (y := wr (spParts τ (nI p))) (by rw [spParts, if_pos (am_bn.mp c), hml]; exact hm19) ?_
      exact K
  refine aw_icmpne X dL_keepsTold_407 (tgt := 489) (by decide) (fun c9 => by first | exact absurd (rfl) c9 | exact absurd c9 (rfl)) (fun _ => ?_)
  refine aw_aload0 X dL_keepsTold_410 ?_
  refine aw_iconst X dL_keepsTold_411 (v := nI 3) (by decide) ?_
  refine aw_iload20 X dL_keepsTold_412 ?_
  refine aw_iload22 X dL_keepsTold_414 ?_
  refine aw_callSH X hN (w_partLength hfl hs) kL_194 dL_keepsTold_416 rfl rfl (by first | decide | exact Nat.le_of_ble_eq_true rfl) (by rw [hR]; exact ⟨by first | decide | exact Nat.le_of_ble_eq_true rfl | (dsimp only; omega), by first | decide | exact Nat.le_of_ble_eq_true rfl | (dsimp only; omega)⟩) (by rw [hR]; exact ⟨by first | decide | exact Nat.le_of_ble_eq_true rfl | (dsimp only; omega), by first | decide | exact Nat.le_of_ble_eq_true rfl | (dsimp only; omega)⟩) (fun v M1 hv => ?_)
  obtain ⟨rfl, hs1, hk1⟩ := hv
  obtain ⟨hs, hT⟩ := st_told hT hs1 hk1 st_spPartLen
  refine aw_splV (pm := 440) (v := wr (spPartLen τ (nI p) r)) (fun K => ?_) ?_
  · refine aw_iload23 X dL_keepsTold_419 ?_
    refine aw_ifeq X dL_keepsTold_421 (tgt := 438) (by decide) (fun c => ?_) (fun c => ?_)
    · refine aw_bipush X dL_keepsTold_438 (v := -101) (by decide) ?_
      refine aw_int (y := wr (spPartLen τ (nI p) r)) (by rw [spPartLen, if_neg (am_bz.mp c)]; rfl) ?_
      exact K
    · have hK := am_bn.mp c
      obtain ⟨m, h4, hm, hml, hmV, hm19, hm18⟩ := hrow hK.1
      have hr9 := hK.2
      rw [hml] at hr9
      have hm16 := hmV.2.1
      obtain ⟨u1, u2, u3⟩ := inI_j hr9 (by omega)
      refine aw_aload11 X dL_keepsTold_424 ?_
      refine aw_bipush X dL_keepsTold_426 (v := nI 16) (by decide) ?_
      refine aw_iload20 X dL_keepsTold_428 ?_
      refine aw_imul X dL_keepsTold_430 ?_
      first | with_reducible refine aw_int (pk_mul _ _) ?_ | skip
      refine aw_iload22 X dL_keepsTold_431 ?_
      refine aw_int u2 ?_
      refine aw_iadd X dL_keepsTold_433 ?_
      first | with_reducible refine aw_int (nI_add _ _) ?_ | skip
      refine aw_iald X dL_keepsTold_434 (hT.at 18 (by decide)) rfl (show 16 * p + ix r < 64 by omega) (by decide) ?_
      refine aw_goto X dL_keepsTold_435 (tgt := 440) (by decide) ?_
      refine aw_int (y := wr (spPartLen τ (nI p) r)) (by rw [spPartLen, if_pos hK, hml]; exact hm18 _ u1) ?_
      exact K
  refine aw_icmpne X dL_keepsTold_440 (tgt := 489) (by decide) (fun c9 => by first | exact absurd (rfl) c9 | exact absurd c9 (rfl)) (fun _ => ?_)
  refine aw_aload0 X dL_keepsTold_443 ?_
  refine aw_iconst X dL_keepsTold_444 (v := nI 4) (by decide) ?_
  refine aw_iload20 X dL_keepsTold_445 ?_
  refine aw_iload22 X dL_keepsTold_447 ?_
  refine aw_callSH X hN (w_shared hfl hs) kL_194 dL_keepsTold_449 rfl rfl (by first | decide | exact Nat.le_of_ble_eq_true rfl) (by rw [hR]; exact ⟨by first | decide | exact Nat.le_of_ble_eq_true rfl | (dsimp only; omega), by first | decide | exact Nat.le_of_ble_eq_true rfl | (dsimp only; omega)⟩) (by rw [hR]; exact ⟨by first | decide | exact Nat.le_of_ble_eq_true rfl | (dsimp only; omega), by first | decide | exact Nat.le_of_ble_eq_true rfl | (dsimp only; omega)⟩) (fun v M1 hv => ?_)
  obtain ⟨rfl, hs1, hk1⟩ := hv
  obtain ⟨hs, hT⟩ := st_told hT hs1 hk1 st_spShared
  refine aw_splV (pm := 482) (v := wr (spShared τ (nI p) r)) (fun K => ?_) ?_
  · refine aw_iload23 X dL_keepsTold_452 ?_
    refine aw_ifeq X dL_keepsTold_454 (tgt := 480) (by decide) (fun c => ?_) (fun c => ?_)
    · refine aw_bipush X dL_keepsTold_480 (v := -101) (by decide) ?_
      refine aw_int (y := wr (spShared τ (nI p) r)) (by rw [spShared, if_neg (am_bz.mp c)]; rfl) ?_
      exact K
    · have hK := am_bn.mp c
      obtain ⟨m, h4, hm, hml, hmV, hm19, hm18⟩ := hrow hK.1
      have hr9 := hK.2
      rw [hml] at hr9
      have hm16 := hmV.2.1
      obtain ⟨u1, u2, u3⟩ := inI_j hr9 (by omega)
      have hz : ∀ l, τ.2.2.2.2.2 3 = some l → ((τ.2.2.2.2.2 3).getD []).length ≤ l.length ∧ F 19 7 = nI ((τ.2.2.2.2.2 3).getD []).length := fun l e => by
        rw [e]
        exact ⟨Nat.le_refl _, (hP.at (by decide) e).2.2.1⟩
      refine aw_aload10 X dL_keepsTold_457 ?_
      refine aw_aload11 X dL_keepsTold_459 ?_
      refine aw_aload12 X dL_keepsTold_461 ?_
      refine aw_iload20 X dL_keepsTold_463 ?_
      refine aw_iload22 X dL_keepsTold_465 ?_
      refine aw_int u2 ?_
      refine aw_iconst X dL_keepsTold_467 (v := nI 3) (by decide) ?_
      refine aw_aload12 X dL_keepsTold_468 ?_
      refine aw_bipush X dL_keepsTold_470 (v := nI 7) (by decide) ?_
      refine aw_iald X dL_keepsTold_472 (hT.at 19 (by decide)) (rfl : nI 7 = nI 7) (show 7 < 8 by decide) (by decide) ?_
      refine aw_iconst X dL_keepsTold_473 (v := -1) (by decide) ?_
      refine aw_callS X (c_L_named (p := p) (kp := ix r) (lp := 3) (kk := ((τ.2.2.2.2.2 3).getD []).length) (w := none) (hT.at 17 (by decide)) (hT.at 18 (by decide)) (hT.at 19 (by decide)) hP h4 hm u1 (by decide) hz (fun k h => nomatch h)) kL_190 dL_keepsTold_474 rfl rfl (by first | decide | exact Nat.le_of_ble_eq_true rfl) (by rw [hR]; exact ⟨by first | decide | exact Nat.le_of_ble_eq_true rfl | (dsimp only; omega), by first | decide | exact Nat.le_of_ble_eq_true rfl | (dsimp only; omega)⟩) (by rw [hR]; exact ⟨by first | decide | exact Nat.le_of_ble_eq_true rfl | (dsimp only; omega), by first | decide | exact Nat.le_of_ble_eq_true rfl | (dsimp only; omega)⟩) (fun v M1 hv => ?_)
      obtain ⟨rfl, rfl⟩ := hv
      refine aw_goto X dL_keepsTold_477 (tgt := 482) (by decide) ?_
      have e4 : allB (Pw τ.2.2.2.2.2 none) 3 ++ ((Pw τ.2.2.2.2.2 none 3).getD []).take ((τ.2.2.2.2.2 3).getD []).length = tA τ := by
        show allB τ.2.2.2.2.2 3 ++ ((τ.2.2.2.2.2 3).getD []).take ((τ.2.2.2.2.2 3).getD []).length = allB τ.2.2.2.2.2 12
        rw [List.take_length, allB_4 hP.1]
        rfl
      refine aw_int (y := wr (spShared τ (nI p) r)) (by rw [spShared, if_pos hK, hml, e4]; rfl) ?_
      exact K
  refine aw_icmpne X dL_keepsTold_482 (tgt := 489) (by decide) (fun c9 => by first | exact absurd (rfl) c9 | exact absurd c9 (rfl)) (fun _ => ?_)
  refine aw_iconst X dL_keepsTold_485 (v := nI 1) (by decide) ?_
  refine aw_goto X dL_keepsTold_486 (tgt := 490) (by decide) ?_
  refine aw_widen (k' := 20) (n' := 140) (Nat.le_of_ble_eq_true rfl) (Nat.le_of_ble_eq_true rfl) ?_
  refine aw_ireturn X (ty := .boolean) hr (by first | rfl | decide | assumption) dL_keepsTold_490 (⟨rfl, hs, F, hT, hL⟩)
