theorem vs_kdx {Z : AZ} {M : AM} {x e1 e2 v : Nat} {τ : TS} {F : Nat → Nat → Int32} {y w a b d f ln v9 : Int32} {sp : OUT} (X : am_X RL cL_versions Z) (hn : zn Z = 24) (hR : zR Z = rmV) (hr : (zM Z).sig.returnType = some .boolean) (hN : ncs (zs Z)) (hfl : (zl Z).stackTraces = false) (hs : isRS (zG Z) M x (x + 292) τ) (hT : tbL (zG Z) x M M F) (hL : lR F τ) (h1 : v9 < 0) (h2 : ¬ v9 = nI 4) (e0 : spKeepDelta τ w (nI v) d = sp) (e1' : sp.2.2 = τ) (e2' : wr sp = v9) : AW Z (am_Q Z (lP (zG Z) x) (fun _ _ => False) 10 90) M 3 35 237 (vL x (nI 1) y w e1 e2 v a b [some (.int d), some (.int f), some (.int ln), none, none]) [.int v9] := by
  refine aw_istore22 X dL_versions_237 (by rw [hn]; decide) rfl ?_
  refine aw_iload22 X dL_versions_239 ?_
  refine aw_iconst X dL_versions_241 (v := nI 4) (by decide) ?_
  refine aw_icmpne X dL_versions_242 (tgt := 247) (by decide) (fun _ => ?_) (fun c9 => by first | exact absurd (h2) c9 | exact absurd c9 (h2))
  refine aw_iload22 X dL_versions_247 ?_
  refine aw_iflt X dL_versions_249 (tgt := 330) (by decide) (fun _ => ?_) (fun c9 => by first | exact absurd (h1) c9 | exact absurd c9 (h1))
  refine aw_iload22 X dL_versions_330 ?_
  refine aw_iflt X dL_versions_332 (tgt := 397) (by decide) (fun _ => ?_) (fun c9 => by first | exact absurd (h1) c9 | exact absurd c9 (h1))
  refine aw_iload1 X dL_versions_397 ?_
  refine aw_ifne X dL_versions_398 (tgt := 413) (by decide) (fun _ => ?_) (fun c9 => by first | exact absurd ((by decide : ¬ nI 1 = 0)) c9 | exact absurd c9 ((by decide : ¬ nI 1 = 0)))
  refine aw_aload0 X dL_versions_413 ?_
  refine aw_iload15 X dL_versions_414 ?_
  refine aw_iload16 X dL_versions_416 ?_
  refine aw_iload19 X dL_versions_418 ?_
  refine aw_callSH X hN (w_keepDelta hfl hs) kL_173 dL_versions_420 rfl rfl (by first | decide | exact Nat.le_of_ble_eq_true rfl) (by rw [hR]; exact ⟨by first | decide | exact Nat.le_of_ble_eq_true rfl | (dsimp only; omega), by first | decide | exact Nat.le_of_ble_eq_true rfl | (dsimp only; omega)⟩) (by rw [hR]; exact ⟨by first | decide | exact Nat.le_of_ble_eq_true rfl | (dsimp only; omega), by first | decide | exact Nat.le_of_ble_eq_true rfl | (dsimp only; omega)⟩) (fun v M1 hv => ?_)
  obtain ⟨rfl, hs1, hk1⟩ := hv
  rw [e0, e1'] at hs1
  rw [e0]
  refine aw_iload22 X dL_versions_423 ?_
  refine aw_icmpne X dL_versions_425 (tgt := 432) (by decide) (fun c9 => by first | exact absurd (e2') c9 | exact absurd c9 (e2')) (fun _ => ?_)
  refine aw_iconst X dL_versions_428 (v := nI 1) (by decide) ?_
  refine aw_goto X dL_versions_429 (tgt := 433) (by decide) ?_
  refine aw_widen (k' := 10) (n' := 90) (Nat.le_of_ble_eq_true rfl) (Nat.le_of_ble_eq_true rfl) ?_
  refine aw_ireturn X (ty := .boolean) hr (by first | rfl | decide | assumption) dL_versions_433 (⟨rfl, τ, lS.of hT hL hs1 hk1 eD_ok⟩)
theorem vs_kd0 {Z : AZ} {M0 M : AM} {x e1 e2 v : Nat} {τ : TS} {F : Nat → Nat → Int32} {y w a : Int32} (C : vC Z M0 M x e1 e2 τ F) (hv5 : v < 5) (hw : ¬ (inI w 4 ∧ v < τ.2.2.2.1.1)) : AW Z (am_Q Z (lP (zG Z) x) (fun _ _ => False) 10 90) M 2 19 89 (vL x (nI 1) y w e1 e2 v a (nI 0) [none, none, none, none, none]) [] := by
  obtain ⟨hs, hT⟩ := C.T KE.rf
  obtain ⟨X, hn, hR, hr, hN, hfl, -, -, hL, -⟩ := C
  have vn := hL.2.2.2.2.1.2.1
  refine vs_par X hn hR rfl rfl (fun d => ?_)
  refine aw_iload1 X dL_versions_143 ?_
  refine aw_iconst X dL_versions_144 (v := nI 1) (by decide) ?_
  refine aw_icmpne X dL_versions_145 (tgt := 179) (by decide) (fun c9 => by first | exact absurd ((rfl : nI 1 = nI 1)) c9 | exact absurd c9 ((rfl : nI 1 = nI 1))) (fun _ => ?_)
  refine aw_iload18 X dL_versions_148 ?_
  refine aw_ifeq X dL_versions_150 (tgt := 179) (by decide) (fun _ => ?_) (fun c9 => by first | exact absurd ((rfl : nI 0 = 0)) c9 | exact absurd c9 ((rfl : nI 0 = 0)))
  refine aw_iconst X dL_versions_179 (v := nI 0) (by decide) ?_
  refine aw_istore21 X dL_versions_180 (by rw [hn]; decide) rfl ?_
  refine aw_iload1 X dL_versions_182 ?_
  refine aw_ifne X dL_versions_183 (tgt := 203) (by decide) (fun _ => ?_) (fun c9 => by first | exact absurd ((by decide : ¬ nI 1 = 0)) c9 | exact absurd c9 ((by decide : ¬ nI 1 = 0)))
  refine aw_iload18 X dL_versions_203 ?_
  refine aw_ifne X dL_versions_205 (tgt := 213) (by decide) (fun c9 => by first | exact absurd ((rfl : nI 0 = 0)) c9 | exact absurd c9 ((rfl : nI 0 = 0))) (fun _ => ?_)
  refine aw_bipush X dL_versions_208 (v := -101) (by decide) ?_
  refine aw_goto X dL_versions_210 (tgt := 237) (by decide) ?_
  refine aw_widen (k' := 3) (n' := 35) (Nat.le_of_ble_eq_true rfl) (Nat.le_of_ble_eq_true rfl) ?_
  refine vs_kdx X hn hR hr hN hfl hs hT hL (by decide) (by decide) (sp := (1, 0, τ)) ?_ rfl rfl
  rw [spKeepDelta, if_neg]
  intro q
  obtain ⟨q1, q2⟩ := q
  rw [isF, hL.1] at q1
  exact hw ⟨q1, (nI_ltI (by omega) (by omega)).mp q2.2⟩
theorem vs_kd1 {Z : AZ} {M0 M : AM} {x e1 e2 v i : Nat} {τ : TS} {F : Nat → Nat → Int32} {y a : Int32} (C : vC Z M0 M x e1 e2 τ F) (hi : i < 4) (hv : v < τ.2.2.2.1.1) : AW Z (am_Q Z (lP (zG Z) x) (fun _ _ => False) 10 90) M 2 19 89 (vL x (nI 1) y (nI i) e1 e2 v a (nI 1) [none, none, none, none, none]) [] := by
  obtain ⟨hs, hT⟩ := C.T KE.rf
  have C0 := C
  obtain ⟨X, hn, hR, hr, hN, hfl, -, -, hL, hlt, h12, kM, ⟨g1, o1⟩, ⟨g2, o2⟩, hx⟩ := C
  obtain ⟨vc, vn, vd, va⟩ := hL.2.2.2.2.1
  obtain ⟨l1, l2, l3, l4⟩ := hL.2.1 i hi
  have hF4 : isF τ (nI i) := by rw [isF, hL.1]; exact inI_n hi (by decide)
  have hv4 : inI (nI v) (tN τ) := inI_n hv (show τ.2.2.2.1.1 < 2 ^ 31 by omega)
  refine vs_par X hn hR rfl rfl (fun d => ?_)
  refine aw_iload1 X dL_versions_143 ?_
  refine aw_iconst X dL_versions_144 (v := nI 1) (by decide) ?_
  refine aw_icmpne X dL_versions_145 (tgt := 179) (by decide) (fun c9 => by first | exact absurd ((rfl : nI 1 = nI 1)) c9 | exact absurd c9 ((rfl : nI 1 = nI 1))) (fun _ => ?_)
  refine aw_iload18 X dL_versions_148 ?_
  refine aw_ifeq X dL_versions_150 (tgt := 179) (by decide) (fun c9 => by first | exact absurd ((by decide : ¬ nI 1 = 0)) c9 | exact absurd c9 ((by decide : ¬ nI 1 = 0))) (fun _ => ?_)
  refine aw_iload16 X dL_versions_153 ?_
  refine aw_aload5 X dL_versions_155 ?_
  refine aw_aload6 X dL_versions_157 ?_
  refine aw_aload7 X dL_versions_159 ?_
  refine aw_aload8 X dL_versions_161 ?_
  refine aw_aload9 X dL_versions_163 ?_
  refine aw_aload10 X dL_versions_165 ?_
  refine aw_aload11 X dL_versions_167 ?_
  refine aw_aload13 X dL_versions_169 ?_
  refine aw_aload14 X dL_versions_171 ?_
  refine aw_callS X (c_L_rebuild (V := τ.2.2.2.1.2) (n := τ.2.2.2.1.1) ⟨hT.at 9 (by decide), hT.at 10 (by decide), hT.at 11 (by decide), hT.at 12 (by decide), hT.at 13 (by decide), hT.at 14 (by decide), hT.at 15 (by decide)⟩ o1 o2 ⟨by omega, by omega, by omega, by omega, by omega, by omega, by omega⟩ ⟨by omega, by omega, by omega, by omega, by omega, by omega, by omega, by omega⟩ ⟨vn, vd, va⟩ hv) kL_170 dL_versions_173 rfl rfl (by first | decide | exact Nat.le_of_ble_eq_true rfl) (by rw [hR]; exact ⟨by first | decide | exact Nat.le_of_ble_eq_true rfl | (dsimp only; omega), by first | decide | exact Nat.le_of_ble_eq_true rfl | (dsimp only; omega)⟩) (by rw [hR]; exact ⟨by first | decide | exact Nat.le_of_ble_eq_true rfl | (dsimp only; omega), by first | decide | exact Nat.le_of_ble_eq_true rfl | (dsimp only; omega)⟩) (fun o M1 hv1 => ?_)
  obtain ⟨kb, g, h, u1, u2, hrp⟩ := hv1
  obtain ⟨hs1, hT1⟩ := C0.T (kb.mono (fun q e => by rcases e with e | e <;> omega))
  cases hrb : rbv τ.2.2.2.1.2 v with
  | inr p =>
    rw [hrb] at hrp
    obtain ⟨hrp, -⟩ := hrp
    have hrp : o = some (.int (-1)) := hrp
    subst hrp
    refine aw_goto X dL_versions_176 (tgt := 180) (by decide) ?_
    refine aw_istore21 X dL_versions_180 (by rw [hn]; decide) rfl ?_
    refine aw_iload1 X dL_versions_182 ?_
    refine aw_ifne X dL_versions_183 (tgt := 203) (by decide) (fun _ => ?_) (fun c9 => by first | exact absurd ((by decide : ¬ nI 1 = 0)) c9 | exact absurd c9 ((by decide : ¬ nI 1 = 0)))
    refine aw_iload18 X dL_versions_203 ?_
    refine aw_ifne X dL_versions_205 (tgt := 213) (by decide) (fun _ => ?_) (fun c9 => by first | exact absurd ((by decide : ¬ nI 1 = 0)) c9 | exact absurd c9 ((by decide : ¬ nI 1 = 0)))
    refine aw_iload20 X dL_versions_213 ?_
    by_cases hf : rgI d (nI 1) (nI 7)
    · rw [am_b1 hf]
      refine aw_ifne X dL_versions_215 (tgt := 223) (by decide) (fun _ => ?_) (fun c9 => by first | exact absurd ((by decide : ¬ nI 1 = 0)) c9 | exact absurd c9 ((by decide : ¬ nI 1 = 0)))
      refine aw_iload21 X dL_versions_223 ?_
      refine aw_ifge X dL_versions_225 (tgt := 233) (by decide) (fun c9 => by first | exact absurd ((by decide : ¬ (0 : Int32) ≤ -1)) c9 | exact absurd c9 ((by decide : ¬ (0 : Int32) ≤ -1))) (fun _ => ?_)
      refine aw_bipush X dL_versions_228 (v := -103) (by decide) ?_
      refine aw_goto X dL_versions_230 (tgt := 237) (by decide) ?_
      refine vs_kdx X hn hR hr hN hfl hs1 hT1 hL (by decide) (by decide) (sp := (3, 0, τ)) ?_ rfl rfl
      rw [spKeepDelta, if_pos ⟨hF4, hv4⟩, if_pos hf, if_pos (by show τ.2.2.2.1.1 < 20; omega)]
      simp only [ix_n (show v < 2 ^ 31 by omega)]
      rw [hrb]
    · rw [am_b0 hf]
      refine aw_ifne X dL_versions_215 (tgt := 223) (by decide) (fun c9 => by first | exact absurd ((rfl : nI 0 = 0)) c9 | exact absurd c9 ((rfl : nI 0 = 0))) (fun _ => ?_)
      refine aw_bipush X dL_versions_218 (v := -102) (by decide) ?_
      refine aw_goto X dL_versions_220 (tgt := 237) (by decide) ?_
      refine vs_kdx X hn hR hr hN hfl hs1 hT1 hL (by decide) (by decide) (sp := (2, 0, τ)) ?_ rfl rfl
      rw [spKeepDelta, if_pos ⟨hF4, hv4⟩, if_neg hf]
  | inl rb =>
    rw [hrb] at hrp
    obtain ⟨⟨hrp, rb1, rb2, rb3⟩, -⟩ := hrp
    subst hrp
    refine aw_goto X dL_versions_176 (tgt := 180) (by decide) ?_
    refine aw_istore21 X dL_versions_180 (by rw [hn]; decide) rfl ?_
    refine aw_iload1 X dL_versions_182 ?_
    refine aw_ifne X dL_versions_183 (tgt := 203) (by decide) (fun _ => ?_) (fun c9 => by first | exact absurd ((by decide : ¬ nI 1 = 0)) c9 | exact absurd c9 ((by decide : ¬ nI 1 = 0)))
    refine aw_iload18 X dL_versions_203 ?_
    refine aw_ifne X dL_versions_205 (tgt := 213) (by decide) (fun _ => ?_) (fun c9 => by first | exact absurd ((by decide : ¬ nI 1 = 0)) c9 | exact absurd c9 ((by decide : ¬ nI 1 = 0)))
    refine aw_iload20 X dL_versions_213 ?_
    by_cases hf : rgI d (nI 1) (nI 7)
    · rw [am_b1 hf]
      obtain ⟨b1, b2, b3⟩ := rgI_j hf (by decide) (by decide)
      generalize ix d = B at b1 b2 b3
      subst b3
      refine aw_ifne X dL_versions_215 (tgt := 223) (by decide) (fun _ => ?_) (fun c9 => by first | exact absurd ((by decide : ¬ nI 1 = 0)) c9 | exact absurd c9 ((by decide : ¬ nI 1 = 0)))
      refine aw_iload21 X dL_versions_223 ?_
      refine aw_ifge X dL_versions_225 (tgt := 233) (by decide) (fun _ => ?_) (fun c9 => by first | exact absurd (nI_pos' (by omega)) c9 | exact absurd c9 (nI_pos' (by omega)))
      refine aw_aload12 X dL_versions_233 ?_
      refine aw_iconst X dL_versions_235 (v := nI 0) (by decide) ?_
      refine aw_iald X dL_versions_236 (hT1.at 16 (by decide)) (rfl : nI 0 = nI 0) (show 0 < 1 by decide) (by decide) ?_
      refine aw_int vc ?_
      refine aw_istore22 X dL_versions_237 (by rw [hn]; decide) rfl ?_
      refine aw_iload22 X dL_versions_239 ?_
      refine aw_iconst X dL_versions_241 (v := nI 4) (by decide) ?_
      by_cases h4 : τ.2.2.2.1.1 = 4
      · rw [h4]
        refine aw_icmpne X dL_versions_242 (tgt := 247) (by decide) (fun c9 => by first | exact absurd ((rfl : nI 4 = nI 4)) c9 | exact absurd c9 ((rfl : nI 4 = nI 4))) (fun _ => ?_)
        refine aw_iconst X dL_versions_245 (v := nI 1) (by decide) ?_
        refine aw_widen (k' := 10) (n' := 90) (Nat.le_of_ble_eq_true rfl) (Nat.le_of_ble_eq_true rfl) ?_
        refine aw_ireturn X (ty := .boolean) hr (by first | rfl | decide | assumption) dL_versions_246 (⟨rfl, τ, hs1, F, hT1, hL⟩)
      · have hn4 : τ.2.2.2.1.1 < 4 := by omega
        refine aw_icmpne X dL_versions_242 (tgt := 247) (by decide) (fun _ => ?_) (fun c9 => by first | exact absurd ((fun e => h4 ((nI_eq (by omega) (by decide)).mp e))) c9 | exact absurd c9 ((fun e => h4 ((nI_eq (by omega) (by decide)).mp e))))
        refine aw_iload22 X dL_versions_247 ?_
        refine aw_iflt X dL_versions_249 (tgt := 330) (by decide) (fun c9 => by first | exact absurd (nI_pos (by omega)) c9 | exact absurd c9 (nI_pos (by omega))) (fun _ => ?_)
        refine vs_new X hn hT1 hL hi hn4 vc (fun M2 F1 h2 hN1 => ?_)
        have hs2 := hs1.tb h2
        obtain ⟨w1, w2, w3, w4, w5, w6, w7, w8⟩ := hN1
        have p1 := h2.2 _ _ u1 (by omega)
        refine aw_iload22 X dL_versions_330 ?_
        refine aw_iflt X dL_versions_332 (tgt := 397) (by decide) (fun c9 => by first | exact absurd (nI_pos (by omega)) c9 | exact absurd c9 (nI_pos (by omega))) (fun _ => ?_)
        refine aw_iload1 X dL_versions_335 ?_
        refine aw_iconst X dL_versions_336 (v := nI 1) (by decide) ?_
        refine aw_icmpne X dL_versions_337 (tgt := 397) (by decide) (fun c9 => by first | exact absurd ((rfl : nI 1 = nI 1)) c9 | exact absurd c9 ((rfl : nI 1 = nI 1))) (fun _ => ?_)
        refine aw_bipush X dL_versions_340 (v := nI 12) (by decide) ?_
        refine aw_newI X 12 dL_versions_342 rfl (by decide) (by rw [hR]; exact Nat.le_of_ble_eq_true rfl) (by rw [hR]; exact Nat.le_of_ble_eq_true rfl) ac_int (fun e3 heA3 hlt3 he3 => ?_)
        refine aw_astore23 X dL_versions_344 (by rw [hn]; decide) rfl ?_
        refine aw_aload23 X dL_versions_346 ?_
        refine aw_iconst X dL_versions_348 (v := nI 0) (by decide) ?_
        refine aw_iload19 X dL_versions_349 ?_
        refine aw_iast X dL_versions_351 am_ns rfl (by decide) (by decide) ?_
        refine aw_aload23 X dL_versions_352 ?_
        refine aw_iconst X dL_versions_354 (v := nI 4) (by decide) ?_
        refine aw_sipush X dL_versions_355 (v := nI 256) (by decide) ?_
        refine aw_iast X dL_versions_358 am_us rfl (by decide) (by decide) ?_
        refine aw_aload23 X dL_versions_359 ?_
        refine aw_bipush X dL_versions_361 (v := nI 8) (by decide) ?_
        refine aw_iload21 X dL_versions_363 ?_
        refine aw_iast X dL_versions_365 am_us rfl (by decide) (by decide) ?_
        rw [am_uu, am_uu]
        have k24 : KE M2 (am_up (am_nw M2 e3 (am_ai (zG Z) 12 (fun _ => 0))) e3 (am_ai (zG Z) 12 (upd (upd (upd (fun _ => 0) 0 (nI B)) 4 (nI 256)) 8 (nI rb.length)))) (fun _ => False) := fun q y hq _ => (am_un (Nat.ne_of_lt (hlt3 q y hq))).trans ((am_nn (Nat.ne_of_lt (hlt3 q y hq))).trans hq)
        have m3 := am_us (M := am_nw M2 e3 (am_ai (zG Z) 12 (fun _ => 0))) (q := e3) (e := am_ai (zG Z) 12 (upd (upd (upd (fun _ => 0) 0 (nI B)) 4 (nI 256)) 8 (nI rb.length)))
        have hx3 := hlt3 _ _ (h2.at 20 (by decide))
        generalize am_up (am_nw M2 e3 (am_ai (zG Z) 12 (fun _ => 0))) e3 (am_ai (zG Z) 12 (upd (upd (upd (fun _ => 0) 0 (nI B)) 4 (nI 256)) 8 (nI rb.length))) = M4 at k24 m3
        have hs4 := hs2.kk k24
        have hT4 := tbL_nw h2.base k24
        have p4 := k24 _ _ p1 id
        refine aw_aload13 X dL_versions_366 ?_
        refine aw_aload23 X dL_versions_368 ?_
        refine aw_iconst X dL_versions_370 (v := nI 0) (by decide) ?_
        refine aw_aload3 X dL_versions_371 ?_
        refine aw_bipush X dL_versions_372 (v := nI 16) (by decide) ?_
        refine aw_iload15 X dL_versions_374 ?_
        refine aw_imul X dL_versions_376 ?_
        first | with_reducible refine aw_int (pk_mul _ _) ?_ | skip
        refine aw_aload4 X dL_versions_377 ?_
        refine aw_iload15 X dL_versions_379 ?_
        refine aw_iald X dL_versions_381 (hT4.at 1 (by decide)) rfl (show i < 4 from hi) (by decide) ?_
        refine aw_int (y := nI (τ.1.2 i).length) (by rw [w8 1 (by decide) (by decide) (by decide)]; exact l3) ?_
        refine aw_aload7 X dL_versions_382 ?_
        refine aw_aload8 X dL_versions_384 ?_
        refine aw_aload9 X dL_versions_386 ?_
        refine aw_aload10 X dL_versions_388 ?_
        refine aw_aload11 X dL_versions_390 ?_
        refine aw_iload22 X dL_versions_392 ?_
        have h5 := tb5 (a := 11) hT4 (by decide) (fun t ht => by rcases t with _ | _ | _ | _ | _ | t <;> first | rfl | omega)
        have hsv : sgV (true, B, 256, rb) := ⟨by show 0 < B; omega, b2, by show (0 : Nat) < 256; decide, by show (256 : Nat) ≤ 4096; decide, by show rb.length ≤ 120; omega⟩
        refine aw_callS X (c_L_compare (d := τ.2.2.2.1.1) (sg0 := 0) (s := (true, B, 256, rb)) (bs := τ.1.2 i) (a := 16 * i) (b0 := x + 282) p4 m3 (hT4.at 0 (by decide)) (by decide) (by decide) (by omega) (by omega) (by omega) h5 hn4 (by decide) rfl rfl rfl hsv rb3 l2 l1 rb2 (show 0 + rb.length ≤ 16 by omega) (show 16 * i + (τ.1.2 i).length ≤ 64 by omega) rb1 (fun k hk => by rw [w8 0 (by decide) (by decide) (by decide)]; exact l4 k hk)) kL_158 dL_versions_394 rfl rfl (by first | decide | exact Nat.le_of_ble_eq_true rfl) (by rw [hR]; exact ⟨by first | decide | exact Nat.le_of_ble_eq_true rfl | (dsimp only; omega), by first | decide | exact Nat.le_of_ble_eq_true rfl | (dsimp only; omega)⟩) (by rw [hR]; exact ⟨by first | decide | exact Nat.le_of_ble_eq_true rfl | (dsimp only; omega), by first | decide | exact Nat.le_of_ble_eq_true rfl | (dsimp only; omega)⟩) (fun v M5 hv5 => ?_)
        obtain ⟨rfl, F', h6, c1, c2, c3⟩ := hv5
        have hb5 := tb5_back (a := 11) hT4 (by decide) (fun t ht => by rcases t with _ | _ | _ | _ | _ | t <;> first | rfl | omega) h6
        have hV := cmpD_dV (s := (true, B, 256, rb)) hsv l1 l2
        refine aw_iload1 X dL_versions_397 ?_
        refine aw_ifne X dL_versions_398 (tgt := 413) (by decide) (fun _ => ?_) (fun c9 => by first | exact absurd ((by decide : ¬ nI 1 = 0)) c9 | exact absurd c9 ((by decide : ¬ nI 1 = 0)))
        refine aw_aload0 X dL_versions_413 ?_
        refine aw_iload15 X dL_versions_414 ?_
        refine aw_iload16 X dL_versions_416 ?_
        refine aw_iload19 X dL_versions_418 ?_
        refine aw_callSH X hN (w_keepDelta hfl (hs4.tb hb5)) kL_173 dL_versions_420 rfl rfl (by first | decide | exact Nat.le_of_ble_eq_true rfl) (by rw [hR]; exact ⟨by first | decide | exact Nat.le_of_ble_eq_true rfl | (dsimp only; omega), by first | decide | exact Nat.le_of_ble_eq_true rfl | (dsimp only; omega)⟩) (by rw [hR]; exact ⟨by first | decide | exact Nat.le_of_ble_eq_true rfl | (dsimp only; omega), by first | decide | exact Nat.le_of_ble_eq_true rfl | (dsimp only; omega)⟩) (fun v M6 hv6 => ?_)
        obtain ⟨rfl, hs6, hk6⟩ := hv6
        have e0 : spKeepDelta τ (nI i) (nI v) (nI B) = (0, nI τ.2.2.2.1.1, setV τ (τ.2.2.2.1.1 + 1) τ.2.2.2.1.1 (some (.inr (v, cmpD (true, B, 256, rb) (τ.1.2 i))))) := by
          rw [spKeepDelta, if_pos ⟨hF4, hv4⟩, if_pos hf, if_pos (by show τ.2.2.2.1.1 < 20; omega)]
          simp only [tF, ix_n (show v < 2 ^ 31 by omega), ix_n (show i < 2 ^ 31 by omega), ix_n (show B < 2 ^ 31 by omega)]
          rw [hrb]
        rw [e0] at hs6 ⊢
        refine aw_iload22 X dL_versions_423 ?_
        refine aw_icmpne X dL_versions_425 (tgt := 432) (by decide) (fun c9 => by first | exact absurd ((rfl : wr (0, nI τ.2.2.2.1.1, setV τ (τ.2.2.2.1.1 + 1) τ.2.2.2.1.1 (some (.inr (v, cmpD (true, B, 256, rb) (τ.1.2 i))))) = nI τ.2.2.2.1.1)) c9 | exact absurd c9 ((rfl : wr (0, nI τ.2.2.2.1.1, setV τ (τ.2.2.2.1.1 + 1) τ.2.2.2.1.1 (some (.inr (v, cmpD (true, B, 256, rb) (τ.1.2 i))))) = nI τ.2.2.2.1.1))) (fun _ => ?_)
        refine aw_iconst X dL_versions_428 (v := nI 1) (by decide) ?_
        refine aw_goto X dL_versions_429 (tgt := 433) (by decide) ?_
        refine aw_widen (k' := 10) (n' := 90) (Nat.le_of_ble_eq_true rfl) (Nat.le_of_ble_eq_true rfl) ?_
        have hfin : versR (mix 11 F1 F' 9) (mix 11 F1 F' 10) (mix 11 F1 F' 11) (mix 11 F1 F' 12) (mix 11 F1 F' 13) (mix 11 F1 F' 14) (mix 11 F1 F' 15) (mix 11 F1 F' 16) (τ.2.2.2.1.1 + 1, va_up τ.2.2.2.1.2 τ.2.2.2.1.1 (some (.inr (v, cmpD (true, B, 256, rb) (τ.1.2 i))))) := by
          show versR (F1 9) (F1 10) (F' 0) (F' 1) (F' 2) (F' 3) (F' 4) (F1 16) _
          refine ⟨w1, vsR.set (show vsR (F 9) (F 10) (F 11) (F 12) (F 13) (F 14) (F 15) τ.2.2.2.1.1 τ.2.2.2.1.2 from ⟨vn, vd, va⟩) (by omega) (fun t ht => by omega) hV ⟨w2, w3, c1.1, c1.2.1, c1.2.2, c2⟩ (fun b D e => by cases e; exact hv) hn4 w7 w5 (fun k hk => ?_) (fun k hk1 hk2 => ?_)⟩
          · have q : ∀ a, a < 4 → F' a k = F1 (11 + a) k := fun a ha => c3.1 a k ha hk
            rw [q 0 (by decide), q 1 (by decide), q 2 (by decide), q 3 (by decide), w8 11 (by decide) (by decide) (by decide), w8 12 (by decide) (by decide) (by decide), w8 13 (by decide) (by decide) (by decide), w8 14 (by decide) (by decide) (by decide)]
            exact ⟨rfl, rfl, rfl, rfl⟩
          · have q : F' 4 k = F1 15 k := c3.2 k hk1 hk2
            rw [q, w8 15 (by decide) (by decide) (by decide)]
        refine aw_ireturn X (ty := .boolean) hr (by first | rfl | decide | assumption) dL_versions_433 (⟨rfl, _, lS.of hb5 (hL.vers hfin (fun j hj => by rw [mix_out (by omega)]; exact w8 j (by omega) (by omega) (by omega))) hs6 hk6 eD_ok⟩)
    · rw [am_b0 hf]
      refine aw_ifne X dL_versions_215 (tgt := 223) (by decide) (fun c9 => by first | exact absurd ((rfl : nI 0 = 0)) c9 | exact absurd c9 ((rfl : nI 0 = 0))) (fun _ => ?_)
      refine aw_bipush X dL_versions_218 (v := -102) (by decide) ?_
      refine aw_goto X dL_versions_220 (tgt := 237) (by decide) ?_
      refine vs_kdx X hn hR hr hN hfl hs1 hT1 hL (by decide) (by decide) (sp := (2, 0, τ)) ?_ rfl rfl
      rw [spKeepDelta, if_pos ⟨hF4, hv4⟩, if_neg hf]
