/-! the law's entry, its hundred choices -/
def nwT (G : AG) (x : Nat) (M0 M : AM) (j : Nat) : Prop := (∀ i, i < j → M.1 (x + 271 + i) = some (am_ai G (szL i) (fun _ => 0))) ∧ M.2 = some (x + 271 + j) ∧ KE M0 M (fun _ => False)
theorem aw_newT {Z : AZ} {own : String} {cc : ByteArray} {Q : State → Prop} {M0 M : AM} {k n pc x : Nat} {L : List (Option Value)} {st : List Value} {y : Int32} (X : am_X own cc Z) (j N : Nat) (d : decode cc pc = .ok (.newarray .int, 2)) (h : nwT (zG Z) x M0 M j) (hx : y = nI N) (hz : szL j = N) (hN : N < 65536) (h1 : k + 1 ≤ (zR Z).cells) (h2 : n + N ≤ (zR Z).slots) (kk : ∀ M', nwT (zG Z) x M0 M' (j + 1) → AW Z Q M' (k + 1) (n + N) (pc + 2) L (.ref (x + 271 + j) :: st)) : AW Z Q M k n pc L (.int y :: st) := by
  refine aw_newI X N d hx hN h1 h2 ac_int (fun q heA hlt he => ?_)
  obtain ⟨a1, a2, a3⟩ := h
  cases he _ a2
  refine kk _ ⟨fun i hi => ?_, rfl, a3.tr (ke_nw hlt)⟩
  by_cases e : i = j
  · subst e
    rw [am_ns, hz]
  · rw [am_nn (by omega)]
    exact a1 i (by omega)
def lwC (Z : AZ) (b L : Nat) (xs : Nat → Int32) : Prop := am_X RL cL_law Z ∧ ncs (zs Z) ∧ scK (zG Z) b L xs (zs Z) ∧ (zl Z).stackTraces = false ∧ zn Z = 28 ∧ zR Z = room_1 ∧ L < 2 ^ 31
/-- one choice -/
theorem law_one {Z : AZ} {Q : State → Prop} {M : AM} {c s b L x i kd : Nat} {xs : Nat → Int32} {τ : TS} {v y : Int32} (C : lwC Z b L xs) (hi : i < 2 ^ 31) (hkd : kd < 20) (hc : c + 482 ≤ 600104) (hs9 : s + 9712 ≤ 7301314) (S : lS (zG Z) M x τ) (K : ∀ M' τ', lS (zG Z) M' x τ' → AW Z Q M' (c + 482) (s + 9712) 400 [some (.ref b), some (.ref x), some (.ref (x + 271)), some (.ref (x + 272)), some (.ref (x + 273)), some (.ref (x + 274)), some (.ref (x + 275)), some (.ref (x + 276)), some (.ref (x + 277)), some (.ref (x + 278)), some (.ref (x + 279)), some (.ref (x + 280)), some (.ref (x + 281)), some (.ref (x + 282)), some (.ref (x + 283)), some (.ref (x + 284)), some (.ref (x + 285)), some (.ref (x + 286)), some (.ref (x + 287)), some (.ref (x + 288)), some (.ref (x + 289)), some (.ref (x + 290)), some (.ref (x + 291)), some (.int (nI i)), some (.int v), some (.int y), some (.int (nI kd)), none] [.int (nI 1)]) : AW Z Q M c s 211 [some (.ref b), some (.ref x), some (.ref (x + 271)), some (.ref (x + 272)), some (.ref (x + 273)), some (.ref (x + 274)), some (.ref (x + 275)), some (.ref (x + 276)), some (.ref (x + 277)), some (.ref (x + 278)), some (.ref (x + 279)), some (.ref (x + 280)), some (.ref (x + 281)), some (.ref (x + 282)), some (.ref (x + 283)), some (.ref (x + 284)), some (.ref (x + 285)), some (.ref (x + 286)), some (.ref (x + 287)), some (.ref (x + 288)), some (.ref (x + 289)), some (.ref (x + 290)), some (.ref (x + 291)), some (.int (nI i)), some (.int v), some (.int y), some (.int (nI kd)), none] [] := by
  obtain ⟨X, hN, hsc, hfl, hn, hR, hL31⟩ := C
  refine aw_iload23 X dL_law_211 ?_
  refine aw_bipush X dL_law_213 (v := nI 6) (by decide) ?_
  refine aw_icmpge X dL_law_215 (tgt := 230) (by decide) (fun c1 => ?_) (fun c1 => ?_)
  · refine aw_iload26 X dL_law_230 ?_
    refine aw_bipush X dL_law_232 (v := nI 6) (by decide) ?_
    refine aw_icmpge X dL_law_234 (tgt := 260) (by decide) (fun c2 => ?_) (fun c2 => ?_)
    · refine aw_iload26 X dL_law_260 ?_
      refine aw_bipush X dL_law_262 (v := nI 11) (by decide) ?_
      refine aw_icmpge X dL_law_264 (tgt := 319) (by decide) (fun c3 => ?_) (fun c3 => ?_)
      · refine aw_iload26 X dL_law_319 ?_
        refine aw_bipush X dL_law_321 (v := nI 16) (by decide) ?_
        refine aw_icmpge X dL_law_323 (tgt := 358) (by decide) (fun c4 => ?_) (fun c4 => ?_)
        · refine aw_aload1 X dL_law_358 ?_
          refine aw_spl (pm := 385) (P := fun _ => True) (fun K1 => ?_) (fun kk _ => ?_)
          · refine aw_iload26 X dL_law_359 ?_
            refine aw_bipush X dL_law_361 (v := nI 19) (by decide) ?_
            refine aw_icmpne X dL_law_363 (tgt := 380) (by decide) (fun c5 => ?_) (fun c5 => ?_)
            · refine aw_iload26 X dL_law_380 ?_
              refine aw_bipush X dL_law_382 (v := nI 16) (by decide) ?_
              refine aw_isub X dL_law_384 ?_
              exact K1 _ trivial
            · refine aw_iconst X dL_law_366 (v := nI 3) (by decide) ?_
              refine aw_iload25 X dL_law_367 ?_
              refine aw_bipush X dL_law_369 (v := nI 7) (by decide) ?_
              refine aw_ishr X dL_law_371 ?_
              refine aw_iconst X dL_law_372 (v := nI 2) (by decide) ?_
              refine aw_callS X (c_L_some (N := 2) (by decide) (by decide)) kL_136 dL_law_373 rfl rfl (by first | decide | exact Nat.le_of_ble_eq_true rfl) (by rw [hR]; exact ⟨by first | decide | exact Nat.le_of_ble_eq_true rfl | (dsimp only; omega), by first | decide | exact Nat.le_of_ble_eq_true rfl | (dsimp only; omega)⟩) (by rw [hR]; exact ⟨show c + 0 ≤ 600104 by omega, show s + 0 ≤ 7301314 by omega⟩) (fun v M hv => ?_)
              obtain ⟨rfl, t, ht, rfl⟩ := hv
              refine aw_iadd X dL_law_376 ?_
              first | with_reducible refine aw_int (nI_add _ _) ?_ | skip
              refine aw_goto X dL_law_377 (tgt := 385) (by decide) ?_
              exact K1 _ trivial
          refine aw_iload25 X dL_law_385 ?_
          refine aw_aload2 X dL_law_387 ?_
          refine aw_aload3 X dL_law_388 ?_
          refine aw_aload19 X dL_law_389 ?_
          refine aw_aload20 X dL_law_391 ?_
          refine aw_aload21 X dL_law_393 ?_
          refine aw_aload22 X dL_law_395 ?_
          refine aw_callSq X (fun U g mk a h => ncs.cl h) (fun H locs hS U hU hW => hN.mv hW) (c_L_stores hfl S) kL_238 dL_law_397 rfl rfl (by first | decide | exact Nat.le_of_ble_eq_true rfl) (by rw [hR]; exact ⟨by first | decide | exact Nat.le_of_ble_eq_true rfl | (dsimp only; omega), by first | decide | exact Nat.le_of_ble_eq_true rfl | (dsimp only; omega)⟩) (by rw [hR]; exact ⟨show c + 482 ≤ 600104 by omega, show s + 9712 ≤ 7301314 by omega⟩) (fun v M1 hv => ?_)
          obtain ⟨rfl, τ1, S1⟩ := hv
          exact K M1 τ1 S1
        · have h16 : kd < 16 := by
            rcases Nat.lt_or_ge kd 16 with e | e
            · exact e
            · exact absurd (nI_le e (by omega)) c4
          have h11 : 11 ≤ kd := (nI_leI (by decide) (by omega)).mp c3
          refine aw_aload1 X dL_law_326 ?_
          refine aw_iload26 X dL_law_327 ?_
          refine aw_bipush X dL_law_329 (v := nI 11) (by decide) ?_
          refine aw_isub X dL_law_331 ?_
          refine aw_int (pk_sub h11) ?_
          refine aw_iload25 X dL_law_332 ?_
          refine aw_aload2 X dL_law_334 ?_
          refine aw_aload3 X dL_law_335 ?_
          refine aw_aload11 X dL_law_336 ?_
          refine aw_aload12 X dL_law_338 ?_
          refine aw_aload13 X dL_law_340 ?_
          refine aw_aload14 X dL_law_342 ?_
          refine aw_aload15 X dL_law_344 ?_
          refine aw_aload16 X dL_law_346 ?_
          refine aw_aload17 X dL_law_348 ?_
          refine aw_aload18 X dL_law_350 ?_
          refine aw_callSq X (fun U g mk a h => ncs.cl h) (fun H locs hS U hU hW => hN.mv hW) (c_L_versions hfl S (show kd - 11 < 5 by omega)) kL_235 dL_law_352 rfl rfl (by first | decide | exact Nat.le_of_ble_eq_true rfl) (by rw [hR]; exact ⟨by first | decide | exact Nat.le_of_ble_eq_true rfl | (dsimp only; omega), by first | decide | exact Nat.le_of_ble_eq_true rfl | (dsimp only; omega)⟩) (by rw [hR]; exact ⟨show c + 10 ≤ 600104 by omega, show s + 90 ≤ 7301314 by omega⟩) (fun v M1 hv => ?_)
          obtain ⟨rfl, τ1, S1⟩ := hv
          refine aw_goto X dL_law_355 (tgt := 400) (by decide) ?_
          refine aw_widen (k' := c + 482) (n' := s + 9712) (by show _ ≤ c + 482; first | omega | (dsimp only; omega)) (by show _ ≤ s + 9712; first | omega | (dsimp only; omega)) ?_
          exact K M1 τ1 S1
      · refine aw_aload1 X dL_law_267 ?_
        refine aw_spl (pm := 295) (P := fun _ => True) (fun K1 => ?_) (fun kk _ => ?_)
        · refine aw_iload26 X dL_law_268 ?_
          refine aw_bipush X dL_law_270 (v := nI 8) (by decide) ?_
          refine aw_icmpge X dL_law_272 (tgt := 283) (by decide) (fun c5 => ?_) (fun c5 => ?_)
          · refine aw_iload26 X dL_law_283 ?_
            refine aw_bipush X dL_law_285 (v := nI 10) (by decide) ?_
            refine aw_icmpge X dL_law_287 (tgt := 294) (by decide) (fun c6 => ?_) (fun c6 => ?_)
            · refine aw_iconst X dL_law_294 (v := nI 2) (by decide) ?_
              exact K1 _ trivial
            · refine aw_iconst X dL_law_290 (v := nI 1) (by decide) ?_
              refine aw_goto X dL_law_291 (tgt := 295) (by decide) ?_
              exact K1 _ trivial
          · refine aw_iload26 X dL_law_275 ?_
            refine aw_bipush X dL_law_277 (v := nI 6) (by decide) ?_
            refine aw_isub X dL_law_279 ?_
            refine aw_goto X dL_law_280 (tgt := 295) (by decide) ?_
            exact K1 _ trivial
        refine aw_iload25 X dL_law_295 ?_
        refine aw_aload2 X dL_law_297 ?_
        refine aw_aload3 X dL_law_298 ?_
        refine aw_aload4 X dL_law_299 ?_
        refine aw_aload5 X dL_law_301 ?_
        refine aw_aload6 X dL_law_303 ?_
        refine aw_aload7 X dL_law_305 ?_
        refine aw_aload8 X dL_law_307 ?_
        refine aw_aload9 X dL_law_309 ?_
        refine aw_aload10 X dL_law_311 ?_
        refine aw_callSq X (fun U g mk a h => ncs.cl h) (fun H locs hS U hU hW => hN.mv hW) (c_L_sends hfl S) kL_231 dL_law_313 rfl rfl (by first | decide | exact Nat.le_of_ble_eq_true rfl) (by rw [hR]; exact ⟨by first | decide | exact Nat.le_of_ble_eq_true rfl | (dsimp only; omega), by first | decide | exact Nat.le_of_ble_eq_true rfl | (dsimp only; omega)⟩) (by rw [hR]; exact ⟨show c + 5 ≤ 600104 by omega, show s + 40 ≤ 7301314 by omega⟩) (fun v M1 hv => ?_)
        obtain ⟨rfl, τ1, S1⟩ := hv
        refine aw_goto X dL_law_316 (tgt := 400) (by decide) ?_
        refine aw_widen (k' := c + 482) (n' := s + 9712) (by show _ ≤ c + 482; first | omega | (dsimp only; omega)) (by show _ ≤ s + 9712; first | omega | (dsimp only; omega)) ?_
        exact K M1 τ1 S1
    · refine aw_aload1 X dL_law_237 ?_
      refine aw_spl (pm := 250) (P := fun _ => True) (fun K1 => ?_) (fun kk _ => ?_)
      · refine aw_iload26 X dL_law_238 ?_
        refine aw_iconst X dL_law_240 (v := nI 5) (by decide) ?_
        refine aw_icmpge X dL_law_241 (tgt := 249) (by decide) (fun c5 => ?_) (fun c5 => ?_)
        · refine aw_iconst X dL_law_249 (v := nI 0) (by decide) ?_
          exact K1 _ trivial
        · refine aw_iload26 X dL_law_244 ?_
          refine aw_goto X dL_law_246 (tgt := 250) (by decide) ?_
          exact K1 _ trivial
      refine aw_iload25 X dL_law_250 ?_
      refine aw_aload2 X dL_law_252 ?_
      refine aw_aload3 X dL_law_253 ?_
      refine aw_callSq X (fun U g mk a h => ncs.cl h) (fun H locs hS U hU hW => hN.mv hW) (c_L_files hfl S) kL_227 dL_law_254 rfl rfl (by first | decide | exact Nat.le_of_ble_eq_true rfl) (by rw [hR]; exact ⟨by first | decide | exact Nat.le_of_ble_eq_true rfl | (dsimp only; omega), by first | decide | exact Nat.le_of_ble_eq_true rfl | (dsimp only; omega)⟩) (by rw [hR]; exact ⟨show c + 5 ≤ 600104 by omega, show s + 30 ≤ 7301314 by omega⟩) (fun v M1 hv => ?_)
      obtain ⟨rfl, τ1, S1⟩ := hv
      refine aw_goto X dL_law_257 (tgt := 400) (by decide) ?_
      refine aw_widen (k' := c + 482) (n' := s + 9712) (by show _ ≤ c + 482; first | omega | (dsimp only; omega)) (by show _ ≤ s + 9712; first | omega | (dsimp only; omega)) ?_
      exact K M1 τ1 S1
  · refine aw_aload1 X dL_law_218 ?_
    refine aw_iconst X dL_law_219 (v := nI 0) (by decide) ?_
    refine aw_iload25 X dL_law_220 ?_
    refine aw_aload2 X dL_law_222 ?_
    refine aw_aload3 X dL_law_223 ?_
    refine aw_callSq X (fun U g mk a h => ncs.cl h) (fun H locs hS U hU hW => hN.mv hW) (c_L_files hfl S) kL_227 dL_law_224 rfl rfl (by first | decide | exact Nat.le_of_ble_eq_true rfl) (by rw [hR]; exact ⟨by first | decide | exact Nat.le_of_ble_eq_true rfl | (dsimp only; omega), by first | decide | exact Nat.le_of_ble_eq_true rfl | (dsimp only; omega)⟩) (by rw [hR]; exact ⟨show c + 5 ≤ 600104 by omega, show s + 30 ≤ 7301314 by omega⟩) (fun v M1 hv => ?_)
    obtain ⟨rfl, τ1, S1⟩ := hv
    refine aw_goto X dL_law_227 (tgt := 400) (by decide) ?_
    refine aw_widen (k' := c + 482) (n' := s + 9712) (by show _ ≤ c + 482; first | omega | (dsimp only; omega)) (by show _ ≤ s + 9712; first | omega | (dsimp only; omega)) ?_
    exact K M1 τ1 S1
theorem whole_start {p : Program} {e : Env} {s : State} {m : MethodId} {below : List Frame} {meth : Method} {c : Code} (l : Launch) (hflags : l.flags = flags0) {b L : Nat} {xs : Nat → Int32} (hL : L ≤ 260) (C0 : lw_At p s m meth c b L xs) : W p l e room_1 s m #[Value.ref b] below meth c s.heap [] 0 0 (lw_Z below #[Value.ref b] s) (entryFrame m ([Value.ref b] : List Value).toArray 28) := by
  obtain ⟨hx, hb, hr, hml, hown, hts, hX, hbl, hlocks, hgv⟩ := id C0
  obtain ⟨G, hG, hE⟩ := law_E hts hgv
  have hN := law_ncs hgv
  have hfl : l.stackTraces = false := by unfold Launch.stackTraces; rw [hflags]; decide +kernel
  obtain ⟨Z, hZ⟩ : ∃ Z : AZ, Z = (G, 28, p, l, e, room_1, s, m, #[Value.ref b], below, meth, c) := ⟨_, rfl⟩
  have X : am_X RL cL_law Z := by
    rw [hZ]
    exact ⟨hx, hb, hml, hown, hlocks, fun w hw _ => hts w hw, hE⟩
  have hL31 : L < 2 ^ 31 := by omega
  have C : lwC Z b L xs := ⟨X, by rw [hZ]; exact hN, by rw [hZ]; exact ⟨hX, hbl, by show ¬ G.2.2.1 ≤ b; omega⟩, by rw [hZ]; exact hfl, by rw [hZ], by rw [hZ], hL31⟩
  have hn : zn Z = 28 := by rw [hZ]
  have hR : zR Z = room_1 := by rw [hZ]
  obtain ⟨-, hNz, hsc, hflz, -⟩ := id C
  rw [lg_entry_eq]
  suffices main : AW Z (lw_Z below #[Value.ref b] s) (fun _ => none, some s.heap.size) 0 0 0 [some (.ref b), none, none, none, none, none, none, none, none, none, none, none, none, none, none, none, none, none, none, none, none, none, none, none, none, none, none, none] [] by
    rw [hZ] at main
    exact main s.heap [] _ ⟨fun q e h => (by cases h), fun z h => (by cases h; rfl)⟩ va_S.rf (am_args_has (av := [.ref b]) (nL := 28) (Nat.le_of_ble_eq_true rfl))
  generalize s.heap.size = x
  refine aw_new X cl_9 tyX8 tyX8_ok nwX8 cnL_18 inX8 iiX8 dL_law_0 (by rw [hR]; exact Nat.le_of_ble_eq_true rfl) (by rw [hR]; exact Nat.le_of_ble_eq_true rfl) (fun q heA hlt he => ?_)
  cases he x rfl
  refine aw_dup X dL_law_3 rfl ?_
  refine aw_callI X (c_X8_init am_ns rfl) kL_219 dL_law_4 rfl rfl (by first | decide | exact Nat.le_of_ble_eq_true rfl) (by rw [hR]; exact ⟨by first | decide | exact Nat.le_of_ble_eq_true rfl | (dsimp only; omega), by first | decide | exact Nat.le_of_ble_eq_true rfl | (dsimp only; omega)⟩) (by rw [hR]; exact ⟨by first | decide | exact Nat.le_of_ble_eq_true rfl | (dsimp only; omega), by first | decide | exact Nat.le_of_ble_eq_true rfl | (dsimp only; omega)⟩) (fun v M0 hv => ?_)
  obtain ⟨rfl, hrs, h2, hk1⟩ := hv
  have hrs0 := hrs (x + 292) (by omega)
  clear hrs hk1
  have hT0 : nwT (zG Z) x M0 M0 0 := ⟨fun i hi => absurd hi (Nat.not_lt_zero _), h2, KE.rf⟩
  refine aw_astore1 X dL_law_7 (by rw [hn]; decide) rfl ?_
  refine aw_bipush X dL_law_8 (v := nI 64) (by decide) ?_
  refine aw_newT X 0 64 dL_law_10 hT0 rfl rfl (by decide) (by rw [hR]; exact Nat.le_of_ble_eq_true rfl) (by rw [hR]; exact Nat.le_of_ble_eq_true rfl) (fun M1 hT1 => ?_)
  refine aw_astore2 X dL_law_12 (by rw [hn]; decide) rfl ?_
  refine aw_iconst X dL_law_13 (v := nI 4) (by decide) ?_
  refine aw_newT X 1 4 dL_law_14 hT1 rfl rfl (by decide) (by rw [hR]; exact Nat.le_of_ble_eq_true rfl) (by rw [hR]; exact Nat.le_of_ble_eq_true rfl) (fun M2 hT2 => ?_)
  refine aw_astore3 X dL_law_16 (by rw [hn]; decide) rfl ?_
  refine aw_bipush X dL_law_17 (v := nI 64) (by decide) ?_
  refine aw_newT X 2 64 dL_law_19 hT2 rfl rfl (by decide) (by rw [hR]; exact Nat.le_of_ble_eq_true rfl) (by rw [hR]; exact Nat.le_of_ble_eq_true rfl) (fun M3 hT3 => ?_)
  refine aw_astore4 X dL_law_21 (by rw [hn]; decide) rfl ?_
  refine aw_bipush X dL_law_23 (v := nI 12) (by decide) ?_
  refine aw_newT X 3 12 dL_law_25 hT3 rfl rfl (by decide) (by rw [hR]; exact Nat.le_of_ble_eq_true rfl) (by rw [hR]; exact Nat.le_of_ble_eq_true rfl) (fun M4 hT4 => ?_)
  refine aw_astore5 X dL_law_27 (by rw [hn]; decide) rfl ?_
  refine aw_bipush X dL_law_29 (v := nI 64) (by decide) ?_
  refine aw_newT X 4 64 dL_law_31 hT4 rfl rfl (by decide) (by rw [hR]; exact Nat.le_of_ble_eq_true rfl) (by rw [hR]; exact Nat.le_of_ble_eq_true rfl) (fun M5 hT5 => ?_)
  refine aw_astore6 X dL_law_33 (by rw [hn]; decide) rfl ?_
  refine aw_bipush X dL_law_35 (v := nI 64) (by decide) ?_
  refine aw_newT X 5 64 dL_law_37 hT5 rfl rfl (by decide) (by rw [hR]; exact Nat.le_of_ble_eq_true rfl) (by rw [hR]; exact Nat.le_of_ble_eq_true rfl) (fun M6 hT6 => ?_)
  refine aw_astore7 X dL_law_39 (by rw [hn]; decide) rfl ?_
  refine aw_bipush X dL_law_41 (v := nI 64) (by decide) ?_
  refine aw_newT X 6 64 dL_law_43 hT6 rfl rfl (by decide) (by rw [hR]; exact Nat.le_of_ble_eq_true rfl) (by rw [hR]; exact Nat.le_of_ble_eq_true rfl) (fun M7 hT7 => ?_)
  refine aw_astore8 X dL_law_45 (by rw [hn]; decide) rfl ?_
  refine aw_bipush X dL_law_47 (v := nI 64) (by decide) ?_
  refine aw_newT X 7 64 dL_law_49 hT7 rfl rfl (by decide) (by rw [hR]; exact Nat.le_of_ble_eq_true rfl) (by rw [hR]; exact Nat.le_of_ble_eq_true rfl) (fun M8 hT8 => ?_)
  refine aw_astore9 X dL_law_51 (by rw [hn]; decide) rfl ?_
  refine aw_bipush X dL_law_53 (v := nI 8) (by decide) ?_
  refine aw_newT X 8 8 dL_law_55 hT8 rfl rfl (by decide) (by rw [hR]; exact Nat.le_of_ble_eq_true rfl) (by rw [hR]; exact Nat.le_of_ble_eq_true rfl) (fun M9 hT9 => ?_)
  refine aw_astore10 X dL_law_57 (by rw [hn]; decide) rfl ?_
  refine aw_bipush X dL_law_59 (v := nI 64) (by decide) ?_
  refine aw_newT X 9 64 dL_law_61 hT9 rfl rfl (by decide) (by rw [hR]; exact Nat.le_of_ble_eq_true rfl) (by rw [hR]; exact Nat.le_of_ble_eq_true rfl) (fun M10 hT10 => ?_)
  refine aw_astore11 X dL_law_63 (by rw [hn]; decide) rfl ?_
  refine aw_bipush X dL_law_65 (v := nI 12) (by decide) ?_
  refine aw_newT X 10 12 dL_law_67 hT10 rfl rfl (by decide) (by rw [hR]; exact Nat.le_of_ble_eq_true rfl) (by rw [hR]; exact Nat.le_of_ble_eq_true rfl) (fun M11 hT11 => ?_)
  refine aw_astore12 X dL_law_69 (by rw [hn]; decide) rfl ?_
  refine aw_bipush X dL_law_71 (v := nI 64) (by decide) ?_
  refine aw_newT X 11 64 dL_law_73 hT11 rfl rfl (by decide) (by rw [hR]; exact Nat.le_of_ble_eq_true rfl) (by rw [hR]; exact Nat.le_of_ble_eq_true rfl) (fun M12 hT12 => ?_)
  refine aw_astore13 X dL_law_75 (by rw [hn]; decide) rfl ?_
  refine aw_bipush X dL_law_77 (v := nI 64) (by decide) ?_
  refine aw_newT X 12 64 dL_law_79 hT12 rfl rfl (by decide) (by rw [hR]; exact Nat.le_of_ble_eq_true rfl) (by rw [hR]; exact Nat.le_of_ble_eq_true rfl) (fun M13 hT13 => ?_)
  refine aw_astore14 X dL_law_81 (by rw [hn]; decide) rfl ?_
  refine aw_bipush X dL_law_83 (v := nI 64) (by decide) ?_
  refine aw_newT X 13 64 dL_law_85 hT13 rfl rfl (by decide) (by rw [hR]; exact Nat.le_of_ble_eq_true rfl) (by rw [hR]; exact Nat.le_of_ble_eq_true rfl) (fun M14 hT14 => ?_)
  refine aw_astore15 X dL_law_87 (by rw [hn]; decide) rfl ?_
  refine aw_bipush X dL_law_89 (v := nI 64) (by decide) ?_
  refine aw_newT X 14 64 dL_law_91 hT14 rfl rfl (by decide) (by rw [hR]; exact Nat.le_of_ble_eq_true rfl) (by rw [hR]; exact Nat.le_of_ble_eq_true rfl) (fun M15 hT15 => ?_)
  refine aw_astore16 X dL_law_93 (by rw [hn]; decide) rfl ?_
  refine aw_bipush X dL_law_95 (v := nI 8) (by decide) ?_
  refine aw_newT X 15 8 dL_law_97 hT15 rfl rfl (by decide) (by rw [hR]; exact Nat.le_of_ble_eq_true rfl) (by rw [hR]; exact Nat.le_of_ble_eq_true rfl) (fun M16 hT16 => ?_)
  refine aw_astore17 X dL_law_99 (by rw [hn]; decide) rfl ?_
  refine aw_iconst X dL_law_101 (v := nI 1) (by decide) ?_
  refine aw_newT X 16 1 dL_law_102 hT16 rfl rfl (by decide) (by rw [hR]; exact Nat.le_of_ble_eq_true rfl) (by rw [hR]; exact Nat.le_of_ble_eq_true rfl) (fun M17 hT17 => ?_)
  refine aw_astore18 X dL_law_104 (by rw [hn]; decide) rfl ?_
  refine aw_bipush X dL_law_106 (v := nI 64) (by decide) ?_
  refine aw_newT X 17 64 dL_law_108 hT17 rfl rfl (by decide) (by rw [hR]; exact Nat.le_of_ble_eq_true rfl) (by rw [hR]; exact Nat.le_of_ble_eq_true rfl) (fun M18 hT18 => ?_)
  refine aw_astore19 X dL_law_110 (by rw [hn]; decide) rfl ?_
  refine aw_bipush X dL_law_112 (v := nI 64) (by decide) ?_
  refine aw_newT X 18 64 dL_law_114 hT18 rfl rfl (by decide) (by rw [hR]; exact Nat.le_of_ble_eq_true rfl) (by rw [hR]; exact Nat.le_of_ble_eq_true rfl) (fun M19 hT19 => ?_)
  refine aw_astore20 X dL_law_116 (by rw [hn]; decide) rfl ?_
  refine aw_bipush X dL_law_118 (v := nI 8) (by decide) ?_
  refine aw_newT X 19 8 dL_law_120 hT19 rfl rfl (by decide) (by rw [hR]; exact Nat.le_of_ble_eq_true rfl) (by rw [hR]; exact Nat.le_of_ble_eq_true rfl) (fun M20 hT20 => ?_)
  refine aw_astore21 X dL_law_122 (by rw [hn]; decide) rfl ?_
  refine aw_iconst X dL_law_124 (v := nI 3) (by decide) ?_
  refine aw_newT X 20 3 dL_law_125 hT20 rfl rfl (by decide) (by rw [hR]; exact Nat.le_of_ble_eq_true rfl) (by rw [hR]; exact Nat.le_of_ble_eq_true rfl) (fun M21 hT21 => ?_)
  have hb0 : tbL (zG Z) x M21 M21 (fun _ _ => 0) := ⟨fun j hj => hT21.1 j hj, KE.rf⟩
  have hs0 := hrs0.kk hT21.2.2
  refine aw_astore22 X dL_law_127 (by rw [hn]; decide) rfl ?_
  refine aw_aload22 X dL_law_129 ?_
  refine aw_iconst X dL_law_131 (v := nI 0) (by decide) ?_
  refine aw_iconst X dL_law_132 (v := nI 4) (by decide) ?_
  refine aw_tst X 20 dL_law_133 hb0 (by decide) (rfl : nI 0 = nI 0) (show 0 < 3 by decide) (by decide) (fun N1 g1 => ?_)
  refine aw_aload22 X dL_law_134 ?_
  refine aw_iconst X dL_law_136 (v := nI 1) (by decide) ?_
  refine aw_bipush X dL_law_137 (v := nI 16) (by decide) ?_
  refine aw_tst X 20 dL_law_139 g1 (by decide) (rfl : nI 1 = nI 1) (show 1 < 3 by decide) (by decide) (fun N2 g2 => ?_)
  refine aw_aload22 X dL_law_140 ?_
  refine aw_iconst X dL_law_142 (v := nI 2) (by decide) ?_
  refine aw_bipush X dL_law_143 (v := nI 8) (by decide) ?_
  refine aw_tst X 20 dL_law_145 g2 (by decide) (rfl : nI 2 = nI 2) (show 2 < 3 by decide) (by decide) (fun N3 g3 => ?_)
  rw [va_up_self, va_up2, va_up_self, va_up2] at g3
  obtain ⟨F0, hF0⟩ : ∃ F0 : Nat → Nat → Int32, F0 = va_up (fun _ _ => 0) 20 (upd (upd (upd (fun _ => 0) 0 (nI 4)) 1 (nI 16)) 2 (nI 8)) := ⟨_, rfl⟩
  rw [← hF0] at g3
  have z0 : ∀ j, j ≠ 20 → F0 j = fun _ => 0 := fun j hj => by rw [hF0, va_up_ne _ _ hj]
  have z20 : cutsR (F0 20) (4, 16, 8) := by
    rw [hF0, va_up_self]
    exact ⟨rfl, rfl, rfl, by decide, by decide, by decide, by decide, by decide, by decide⟩
  have hs3 := hs0.tb g3
  have g3 := g3.base
  clear g1 g2 hb0 hs0
  refine aw_iconst X dL_law_146 (v := nI 0) (by decide) ?_
  refine aw_istore23 X dL_law_147 (by rw [hn]; decide) rfl ?_
  refine aw_widen (k' := 292 + 0) (n' := 17651 + 6 * 0) (Nat.le_of_ble_eq_true rfl) (Nat.le_of_ble_eq_true rfl) ?_
  refine aw_loopK (σ := Nat × AM) (fun t => t.1 ≤ 4 ∧ isRS (zG Z) t.2 x (x + 292) ((t.1, fun _ => []), ts0.2) ∧ ∃ F, tbL (zG Z) x t.2 t.2 F ∧ (∀ j, j ≠ 8 → F j = F0 j) ∧ ∀ j, j < t.1 → F 8 j = -1) (fun t => 4 - t.1) (fun t => t.2) (fun t => 292 + t.1) (fun t => 17651 + 6 * t.1) (fun t => [some (.ref b), some (.ref x), some (.ref (x + 271)), some (.ref (x + 272)), some (.ref (x + 273)), some (.ref (x + 274)), some (.ref (x + 275)), some (.ref (x + 276)), some (.ref (x + 277)), some (.ref (x + 278)), some (.ref (x + 279)), some (.ref (x + 280)), some (.ref (x + 281)), some (.ref (x + 282)), some (.ref (x + 283)), some (.ref (x + 284)), some (.ref (x + 285)), some (.ref (x + 286)), some (.ref (x + 287)), some (.ref (x + 288)), some (.ref (x + 289)), some (.ref (x + 290)), some (.ref (x + 291)), some (.int (nI t.1)), none, none, none, none]) ?_ (0, N3) ⟨Nat.zero_le _, hs3, F0, g3, fun _ _ => rfl, fun j hj => absurd hj (Nat.not_lt_zero _)⟩
  clear g3 hs3
  rintro ⟨k, M⟩ ⟨hk, hs, F, hT, o1, o2⟩ ih
  try dsimp only at hk hs o2 ih ⊢
  refine aw_iload23 X dL_law_149 ?_
  refine aw_iconst X dL_law_151 (v := nI 4) (by decide) ?_
  refine aw_icmpge X dL_law_152 (tgt := 178) (by decide) (fun c1 => ?_) (fun c1 => ?_)
  · have e : k = 4 := by have := (nI_leI (by decide) (by omega)).mp c1; omega
    subst e
    clear ih
    have hsv0 : sgV (false, 1, 1, []) := ⟨by decide, by decide, by decide, by decide, Nat.zero_le _⟩
    have hsn0 : sgN (false, 1, 1, []) = 0 := by decide
    have hL : lR F ((4, fun _ => []), ts0.2) := by
      refine ⟨rfl, fun i hi => ⟨Nat.zero_le _, fun v hv => (nomatch hv), by rw [o1 1 (by decide), z0 1 (by decide)]; rfl, fun k hk => absurd hk (Nat.not_lt_zero _)⟩, fun i hi => ⟨hsv0, Nat.zero_le _, fun v hv => (nomatch hv), Or.inr ⟨rfl, by rw [o1 3 (by decide), z0 3 (by decide)]; rfl, hsn0⟩⟩, fun i hi => Or.inr ⟨rfl, rfl, rfl, o2 i hi⟩, ⟨by rw [o1 16 (by decide), z0 16 (by decide)]; rfl, ⟨Nat.zero_le _, fun i b D hi => absurd hi (Nat.not_lt_zero _), fun i hi => absurd hi (Nat.not_lt_zero _)⟩⟩, ?_, ⟨fun i hi => rfl, fun i hi => ⟨fun l e => (nomatch e), ?_⟩⟩⟩
      · rw [o1 20 (by decide)]
        exact z20
      · show F 19 i = nI 0
        rw [o1 19 (by decide), z0 19 (by decide)]
        rfl
    refine aw_iconst X dL_law_178 (v := nI 0) (by decide) ?_
    refine aw_istore23 X dL_law_179 (by rw [hn]; decide) rfl ?_
    refine aw_widen (k' := 296 + 622 * 0) (n' := 17675 + 10572 * 0) (Nat.le_of_ble_eq_true rfl) (Nat.le_of_ble_eq_true rfl) ?_
    refine aw_loopK (σ := Nat × AM × TS) (fun t => t.1 ≤ 100 ∧ lS (zG Z) t.2.1 x t.2.2) (fun t => 100 - t.1) (fun t => t.2.1) (fun t => 296 + 622 * t.1) (fun t => 17675 + 10572 * t.1) (fun t => [some (.ref b), some (.ref x), some (.ref (x + 271)), some (.ref (x + 272)), some (.ref (x + 273)), some (.ref (x + 274)), some (.ref (x + 275)), some (.ref (x + 276)), some (.ref (x + 277)), some (.ref (x + 278)), some (.ref (x + 279)), some (.ref (x + 280)), some (.ref (x + 281)), some (.ref (x + 282)), some (.ref (x + 283)), some (.ref (x + 284)), some (.ref (x + 285)), some (.ref (x + 286)), some (.ref (x + 287)), some (.ref (x + 288)), some (.ref (x + 289)), some (.ref (x + 290)), some (.ref (x + 291)), some (.int (nI t.1)), none, none, none, none]) ?_ (0, M, ((4, fun _ => []), ts0.2)) ⟨Nat.zero_le _, hs, F, hT, hL⟩
    clear hs hT hL o1 o2
    rintro ⟨i, M, τ⟩ ⟨hi, S⟩ ih
    try dsimp only at hi S ih ⊢
    refine aw_iload23 X dL_law_181 ?_
    refine aw_bipush X dL_law_183 (v := nI 100) (by decide) ?_
    refine aw_icmpge X dL_law_185 (tgt := 469) (by decide) (fun c2 => ?_) (fun c2 => ?_)
    · refine aw_iconst X dL_law_469 (v := nI 1) (by decide) ?_
      intro H locs ls hH hS hl
      rw [hZ] at hS ⊢
      exact va_forget (fun q hq => by have h9 : G.2.2.1 ≤ q.base := hS.2.2 q hq; rw [hG] at h9; exact h9) (W.widen (show 296 + 622 * i ≤ 600104 by omega) (show 17675 + 10572 * i ≤ 7301314 by omega) (lw_ret hx hb hr hlocks dL_law_470))
    · have hlt : i < 100 := by
        rcases Nat.lt_or_ge i 100 with q | q
        · exact q
        · exact absurd (nI_le q (by omega)) c2
      refine aw_aload0 X dL_law_188 ?_
      refine aw_iload23 X dL_law_189 ?_
      refine aw_callSq X scK.cl (fun H locs hS U hU hW => hsc.mv hS U hU hW) (c_L_cell hL31 (show i < 2 ^ 31 by omega)) kL_223 dL_law_191 rfl rfl (by first | decide | exact Nat.le_of_ble_eq_true rfl) (by rw [hR]; exact ⟨by decide, by decide⟩) (by rw [hR]; exact ⟨show 296 + 622 * i + 0 ≤ 600104 by omega, show 17675 + 10572 * i + 0 ≤ 7301314 by omega⟩) (fun v M hv => ?_)
      obtain ⟨rfl, v, rfl⟩ := hv
      refine aw_istore24 X dL_law_194 (by rw [hn]; decide) rfl ?_
      refine aw_iload24 X dL_law_196 ?_
      refine aw_iconst X dL_law_198 (v := nI 4) (by decide) ?_
      refine aw_ishr X dL_law_199 ?_
      refine aw_any (fun y => ?_)
      refine aw_istore25 X dL_law_200 (by rw [hn]; decide) rfl ?_
      refine aw_iload24 X dL_law_202 ?_
      refine aw_bipush X dL_law_204 (v := nI 20) (by decide) ?_
      refine aw_callS X (c_L_some (N := 20) (by decide) (by decide)) kL_136 dL_law_206 rfl rfl (by first | decide | exact Nat.le_of_ble_eq_true rfl) (by rw [hR]; exact ⟨by first | decide | exact Nat.le_of_ble_eq_true rfl | (dsimp only; omega), by first | decide | exact Nat.le_of_ble_eq_true rfl | (dsimp only; omega)⟩) (by rw [hR]; exact ⟨show 296 + 622 * i + 0 ≤ 600104 by omega, show 17675 + 10572 * i + 0 ≤ 7301314 by omega⟩) (fun v9 M hv => ?_)
      obtain ⟨rfl, kd, hkd, rfl⟩ := hv
      refine aw_istore26 X dL_law_209 (by rw [hn]; decide) rfl ?_
      refine law_one (c := 296 + 622 * i) (s := 17675 + 10572 * i) C (by omega) hkd (by omega) (by omega) S (fun M1 τ1 S1 => ?_)
      have hN := hNz
      refine aw_istore27 X dL_law_400 (by rw [hn]; decide) rfl ?_
      refine aw_iload27 X dL_law_402 ?_
      refine aw_ifeq X dL_law_404 (tgt := 461) (by decide) (fun c9 => by first | exact absurd ((by decide : ¬ nI 1 = 0)) c9 | exact absurd c9 ((by decide : ¬ nI 1 = 0))) (fun _ => ?_)
      refine aw_aload1 X dL_law_407 ?_
      refine aw_iload25 X dL_law_408 ?_
      refine aw_aload2 X dL_law_410 ?_
      refine aw_aload3 X dL_law_411 ?_
      refine aw_aload4 X dL_law_412 ?_
      refine aw_aload5 X dL_law_414 ?_
      refine aw_aload7 X dL_law_416 ?_
      refine aw_aload8 X dL_law_418 ?_
      refine aw_aload9 X dL_law_420 ?_
      refine aw_aload10 X dL_law_422 ?_
      refine aw_callSq X (fun U g mk a h => ncs.cl h) (fun H locs hS U hU hW => hN.mv hW) (c_L_asks hflz S1) kL_242 dL_law_424 rfl rfl (by first | decide | exact Nat.le_of_ble_eq_true rfl) (by rw [hR]; exact ⟨by first | decide | exact Nat.le_of_ble_eq_true rfl | (dsimp only; omega), by first | decide | exact Nat.le_of_ble_eq_true rfl | (dsimp only; omega)⟩) (by rw [hR]; exact ⟨show 296 + 622 * i + 482 + 120 ≤ 600104 by omega, show 17675 + 10572 * i + 9712 + 720 ≤ 7301314 by omega⟩) (fun v9 M2 hv => ?_)
      obtain ⟨rfl, S2⟩ := hv
      refine aw_ifeq X dL_law_427 (tgt := 461) (by decide) (fun c9 => by first | exact absurd ((by decide : ¬ nI 1 = 0)) c9 | exact absurd c9 ((by decide : ¬ nI 1 = 0))) (fun _ => ?_)
      refine aw_aload1 X dL_law_430 ?_
      refine aw_iload25 X dL_law_431 ?_
      refine aw_aload11 X dL_law_433 ?_
      refine aw_aload12 X dL_law_435 ?_
      refine aw_aload13 X dL_law_437 ?_
      refine aw_aload14 X dL_law_439 ?_
      refine aw_aload15 X dL_law_441 ?_
      refine aw_aload16 X dL_law_443 ?_
      refine aw_aload17 X dL_law_445 ?_
      refine aw_aload18 X dL_law_447 ?_
      refine aw_aload19 X dL_law_449 ?_
      refine aw_aload20 X dL_law_451 ?_
      refine aw_aload21 X dL_law_453 ?_
      refine aw_callSq X (fun U g mk a h => ncs.cl h) (fun H locs hS U hU hW => hN.mv hW) (c_L_keepsTold hflz S2) kL_246 dL_law_455 rfl rfl (by first | decide | exact Nat.le_of_ble_eq_true rfl) (by rw [hR]; exact ⟨by first | decide | exact Nat.le_of_ble_eq_true rfl | (dsimp only; omega), by first | decide | exact Nat.le_of_ble_eq_true rfl | (dsimp only; omega)⟩) (by rw [hR]; exact ⟨show 296 + 622 * i + 482 + 120 + 20 ≤ 600104 by omega, show 17675 + 10572 * i + 9712 + 720 + 140 ≤ 7301314 by omega⟩) (fun v9 M3 hv => ?_)
      obtain ⟨rfl, S3⟩ := hv
      refine aw_ifne X dL_law_458 (tgt := 463) (by decide) (fun _ => ?_) (fun c9 => by first | exact absurd ((by decide : ¬ nI 1 = 0)) c9 | exact absurd c9 ((by decide : ¬ nI 1 = 0)))
      refine aw_iinc23 X dL_law_463 (by rw [hn]; decide) (am_inc _ 1) rfl ?_
      refine aw_goto X dL_law_466 (tgt := 181) (by decide) ?_
      refine aw_widen (k' := 296 + 622 * (i + 1)) (n' := 17675 + 10572 * (i + 1)) (show 296 + 622 * i + 482 + 120 + 20 ≤ _ by omega) (show 17675 + 10572 * i + 9712 + 720 + 140 ≤ _ by omega) ?_
      exact aw_drop24 (aw_drop25 (aw_drop26 (aw_drop27 (ih (i + 1, M3, τ1) ⟨by omega, S3⟩ (by dsimp only; omega)))))
  · have hlt : k < 4 := by
      rcases Nat.lt_or_ge k 4 with q | q
      · exact q
      · exact absurd (nI_le q (by omega)) c1
    refine aw_aload10 X dL_law_155 ?_
    refine aw_iload23 X dL_law_157 ?_
    refine aw_iconst X dL_law_159 (v := -1) (by decide) ?_
    refine aw_tst X 8 dL_law_160 hT (by decide) rfl (show k < 8 by omega) (by decide) (fun M4 h4 => ?_)
    have hs4 := hs.tb h4
    have h4 := h4.base
    have e0 : spFile ((k, fun _ => []), ts0.2) = (0, nI k, ((k + 1, fun _ => []), ts0.2)) := if_pos (show k < 6 by omega)
    refine aw_aload1 X dL_law_161 ?_
    refine aw_callVX X (c_X8_file hflz hs4) kL_220 (ci := 9) rfl (hs4.at) dL_law_162 rfl rfl (by first | decide | exact Nat.le_of_ble_eq_true rfl) (by rw [hR]; exact ⟨by first | decide | exact Nat.le_of_ble_eq_true rfl | (dsimp only; omega), by first | decide | exact Nat.le_of_ble_eq_true rfl | (dsimp only; omega)⟩) (by rw [hR]; exact ⟨show 292 + k + 1 ≤ 600104 by omega, show 17651 + 6 * k + 6 ≤ 7301314 by omega⟩) (fun v M5 hv => ?_) (fun E M1 h1 => ?_)
    · obtain ⟨-, rfl, hs5, hk5⟩ := hv
      rw [e0] at hs5 ⊢
      refine aw_iload23 X dL_law_165 ?_
      refine aw_icmpeq X dL_law_167 (tgt := 172) (by decide) (fun _ => ?_) (fun c9 => by first | exact absurd ((rfl : nI k = nI k)) c9 | exact absurd c9 ((rfl : nI k = nI k)))
      refine aw_iinc23 X dL_law_172 (by rw [hn]; decide) (am_inc _ 1) rfl ?_
      refine aw_goto X dL_law_175 (tgt := 149) (by decide) ?_
      refine aw_widen (k' := 292 + (k + 1)) (n' := 17651 + 6 * (k + 1)) (show 292 + k + 1 ≤ _ by omega) (show 17651 + 6 * k + 6 ≤ _ by omega) ?_
      refine ih (k + 1, M5) ⟨by omega, hs5, _, tbM.ke h4 hk5 (fun q e => by have := eD_ok q e; omega), fun j hj => ?_, fun j hj => ?_⟩ (by dsimp only; omega)
      · rw [va_up_ne _ _ hj]
        exact o1 j hj
      · try dsimp only at hj
        rw [va_up_self]
        by_cases e : j = k
        · rw [e, pk_us]
        · rw [pk_un e]
          exact o2 j (by omega)
    · obtain ⟨h9, -⟩ := h1
      rw [e0] at h9
      exact absurd h9 (Nat.lt_irrefl 0)
