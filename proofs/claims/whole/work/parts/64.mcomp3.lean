/-! the model's comparison: a literal, a copy -/
theorem st_lit {Z : AZ} {Q : State → Prop} {M0 M : AM} {y d p Lb al : Nat} {A : MA} {S : Nat → Int64} {c : Nat → Int32} {ins : List IN} {beh : Option Nat} {an : Bool} {a2 a3 a4 a5 a9 a10 a11 a12 a14 : Option Value} (X : am_X RX9 cX9_compares Z) (hn : zn Z = 18) (hR : zR Z = rX9_compares) (h : md (zG Z) M0 M y A S c) (hd : d < 24) (w5 : dwRel A d ins al) (hlen : ins.length < 120)
    (K : ∀ B' M', md (zG Z) M0 M' y B' S c → dwRel B' d (litI ins p) (al + if an = true then 1 else 0) → dwOut A B' d → B' 9 = A 9 → B' 15 = A 15 → AW Z Q M' 0 0 87 [some (.ref y), some (.int (nI d)), a2, a3, a4, a5, some (.int (nI Lb)), some (.int (-1)), some (.int (nI (p + 1))), none, none, none, none, none, none, none, none, none] []) :
    AW Z Q M 0 0 343 [some (.ref y), some (.int (nI d)), a2, a3, a4, a5, some (.int (nI Lb)), some (.int (behI beh)), some (.int (nI p)), a9, a10, a11, a12, none, a14, some (.int (b2i an)), some (.int (nI (120 * d + ins.length) - nI 1)), none] [] := by
  refine aw_aload0 X dX9_compares_343 ?_
  refine aw_get X fX9_42 dX9_compares_344 (h.at) rfl ?_
  refine aw_iload1 X dX9_compares_347 ?_
  refine aw_dup2 X dX9_compares_348 rfl rfl ?_
  refine aw_iald X dX9_compares_349 (h.ai 11 rfl) rfl (by omega) (by decide) ?_
  refine aw_int w5.2.1 ?_
  refine aw_iload15 X dX9_compares_350 ?_
  refine aw_join 360 [some (.ref y), some (.int (nI d)), a2, a3, a4, a5, some (.int (nI Lb)), some (.int (behI beh)), some (.int (nI p)), a9, a10, a11, a12, none, a14, some (.int (b2i an)), some (.int (nI (120 * d + ins.length) - nI 1)), none] [.int (nI (if an = true then 1 else 0)), .int (nI al), .int (nI d), .ref (y + 11)] ?_ (fun K2 => ?_)
  · refine aw_iadd X dX9_compares_360 ?_
    first | with_reducible refine aw_int (nI_add _ _) ?_ | skip
    refine aw_mst X 11 dX9_compares_361 h rfl rfl (by omega) (by decide) (fun M1 h1 => ?_)
    have w1 : dwRel (va_up A 11 (upd (A 11) d (nI (al + if an = true then 1 else 0)))) d ins (al + if an = true then 1 else 0) := w5.al
    have o1 : dwOut A (va_up A 11 (upd (A 11) d (nI (al + if an = true then 1 else 0)))) d := dwOut.m11
    refine aw_aload0 X dX9_compares_362 ?_
    refine aw_get X fX9_39 dX9_compares_363 (h1.at) rfl ?_
    refine aw_iload1 X dX9_compares_366 ?_
    refine aw_iald X dX9_compares_367 (h1.ai 10 rfl) rfl (by omega) (by decide) ?_
    refine aw_int w1.1 ?_
    refine aw_joinA (ι := MA × AM) (fun i => md (zG Z) M0 i.2 y i.1 S c ∧ dwRel i.1 d (litI ins p) (al + if an = true then 1 else 0) ∧ dwOut A i.1 d ∧ i.1 9 = A 9 ∧ i.1 15 = A 15) (fun i => i.2) 404 [some (.ref y), some (.int (nI d)), a2, a3, a4, a5, some (.int (nI Lb)), some (.int (behI beh)), some (.int (nI p)), a9, a10, a11, a12, none, a14, some (.int (b2i an)), some (.int (nI (120 * d + ins.length) - nI 1)), none] ?_ (fun K3 => ?_)
    · rintro ⟨B', M'⟩ ⟨z1, z2, z3, z4, z5⟩
      try dsimp only at z1 z2 z3 z4 z5 ⊢
      refine aw_iconst X dX9_compares_404 (v := -1) (by decide) ?_
      refine aw_istore7 X dX9_compares_405 (by rw [hn]; decide) rfl ?_
      refine aw_iinc8 X dX9_compares_407 (by rw [hn]; decide) (am_inc _ 1) rfl ?_
      refine aw_goto X dX9_compares_410 (tgt := 87) (by decide) ?_
      exact aw_drop9 (aw_drop10 (aw_drop11 (aw_drop12 (aw_drop14 (aw_drop15 (aw_drop16 (K B' M' z1 z2 z3 z4 z5)))))))
    · have H395 : ¬ (0 < ins.length ∧ (lastI ins).1 = false) → AW Z Q M1 0 0 395 [some (.ref y), some (.int (nI d)), a2, a3, a4, a5, some (.int (nI Lb)), some (.int (behI beh)), some (.int (nI p)), a9, a10, a11, a12, none, a14, some (.int (b2i an)), some (.int (nI (120 * d + ins.length) - nI 1)), none] [] := by
        intro hc
        refine aw_aload0 X dX9_compares_395 ?_
        refine aw_iload1 X dX9_compares_396 ?_
        refine aw_iconst X dX9_compares_397 (v := nI 0) (by decide) ?_
        refine aw_iload8 X dX9_compares_398 ?_
        refine aw_iconst X dX9_compares_400 (v := nI 1) (by decide) ?_
        refine aw_callV X (c_X9_begins (q := false) h1 hd w1 hlen) kX9_157 (ci := 10) rfl (h1.at) dX9_compares_401 rfl rfl (by first | decide | exact Nat.le_of_ble_eq_true rfl) (by rw [hR]; exact ⟨by first | decide | exact Nat.le_of_ble_eq_true rfl | (dsimp only; omega), by first | decide | exact Nat.le_of_ble_eq_true rfl | (dsimp only; omega)⟩) (by rw [hR]; exact ⟨by first | decide | exact Nat.le_of_ble_eq_true rfl | (dsimp only; omega), by first | decide | exact Nat.le_of_ble_eq_true rfl | (dsimp only; omega)⟩) (fun v M2 hv => ?_)
        obtain ⟨rfl, B2, y1, y2, y3, y4, y5⟩ := hv
        exact K3 (B2, M2) ⟨y1, by rw [litI, if_neg hc]; exact y2, o1.tr y3, y4, y5⟩
      refine aw_ifle X dX9_compares_368 (tgt := 395) (by decide) (fun c1 => ?_) (fun c1 => ?_)
      · exact H395 (fun e => by have := (nI_leI (by omega) (by omega)).mp (show nI ins.length ≤ nI 0 from c1); omega)
      · have h0 : 0 < ins.length := by
          rcases Nat.eq_zero_or_pos ins.length with e | e
          · rw [e] at c1
            exact absurd (by decide : nI 0 ≤ 0) c1
          · exact e
        have ei : 120 * d + ins.length - 1 = 120 * d + (ins.length - 1) := by omega
        refine aw_aload0 X dX9_compares_371 ?_
        refine aw_get X fX9_45 dX9_compares_372 (h1.at) rfl ?_
        refine aw_iload16 X dX9_compares_375 ?_
        refine aw_int (pk_sub (by omega)) ?_
        rw [ei]
        refine aw_zald X dX9_compares_377 (h1.az 12 rfl) rfl (by omega) (by decide) ?_
        refine aw_int (y := b2i (lastI ins).1) (w1.2.2 _ (by omega)).1 ?_
        refine aw_ifne X dX9_compares_378 (tgt := 395) (by decide) (fun c2 => ?_) (fun c2 => ?_)
        · exact H395 (fun e => c2 (by rw [e.2]; rfl))
        · have e2 := b2i_0.mp c2
          refine aw_aload0 X dX9_compares_381 ?_
          refine aw_get X fX9_51 dX9_compares_382 (h1.at) rfl ?_
          refine aw_iload16 X dX9_compares_385 ?_
          refine aw_int (pk_sub (by omega)) ?_
          rw [ei]
          refine aw_dup2 X dX9_compares_387 rfl rfl ?_
          refine aw_iald X dX9_compares_388 (h1.ai 14 rfl) rfl (by omega) (by decide) ?_
          refine aw_int (y := nI (lastI ins).2.2) (w1.2.2 _ (by omega)).2.2 ?_
          refine aw_iconst X dX9_compares_389 (v := nI 1) (by decide) ?_
          refine aw_iadd X dX9_compares_390 ?_
          first | with_reducible refine aw_int (nI_add _ _) ?_ | skip
          refine aw_mst X 14 dX9_compares_391 h1 rfl rfl (by omega) (by decide) (fun M2 h2 => ?_)
          refine aw_goto X dX9_compares_392 (tgt := 404) (by decide) ?_
          have el : litI ins p = bump ins 1 := by rw [litI, if_pos ⟨h0, e2⟩]
          rw [el] at K3
          exact K3 (va_up (va_up A 11 (upd (A 11) d (nI (al + if an = true then 1 else 0)))) 14 (upd ((va_up A 11 (upd (A 11) d (nI (al + if an = true then 1 else 0)))) 14) (120 * d + (ins.length - 1)) (nI ((lastI ins).2.2 + 1))), M2) ⟨h2, w1.bump h0, o1.tr (dwOut.m14 (by omega)), rfl, rfl⟩
  · cases an with
    | false =>
      refine aw_ifeq X dX9_compares_352 (tgt := 359) (by decide) (fun _ => ?_) (fun c9 => by first | exact absurd ((rfl : nI 0 = 0)) c9 | exact absurd c9 ((rfl : nI 0 = 0)))
      refine aw_iconst X dX9_compares_359 (v := nI 0) (by decide) ?_
      exact K2
    | true =>
      refine aw_ifeq X dX9_compares_352 (tgt := 359) (by decide) (fun c9 => by first | exact absurd ((by decide : ¬ nI 1 = 0)) c9 | exact absurd c9 ((by decide : ¬ nI 1 = 0))) (fun _ => ?_)
      refine aw_iconst X dX9_compares_355 (v := nI 1) (by decide) ?_
      refine aw_goto X dX9_compares_356 (tgt := 360) (by decide) ?_
      exact K2
theorem st_cp {Z : AZ} {Q : State → Prop} {M0 M : AM} {y d p w b Lb al : Nat} {A : MA} {S : Nat → Int64} {c : Nat → Int32} {ins : List IN} {beh : Option Nat} {a2 a3 a4 a5 a9 a11 a12 a15 : Option Value} (X : am_X RX9 cX9_compares Z) (hn : zn Z = 18) (hR : zR Z = rX9_compares) (h : md (zG Z) M0 M y A S c) (hd : d < 24) (w5 : dwRel A d ins al) (hlen : ins.length < 120) (hbe : ∀ b, beh = some b → b < 2 ^ 31 ∧ 0 < ins.length) (hb : b < 2 ^ 31)
    (K : ∀ B' M', md (zG Z) M0 M' y B' S c → dwRel B' d (cpI ins beh b (b * Lb) w) al → dwOut A B' d → B' 9 = A 9 → B' 15 = A 15 → AW Z Q M' 0 0 87 [some (.ref y), some (.int (nI d)), a2, a3, a4, a5, some (.int (nI Lb)), some (.int (nI (b + 1))), some (.int (nI (p + w))), none, none, none, none, none, none, none, none, none] []) :
    AW Z Q M 0 0 292 [some (.ref y), some (.int (nI d)), a2, a3, a4, a5, some (.int (nI Lb)), some (.int (behI beh)), some (.int (nI p)), a9, some (.int (nI w)), a11, a12, none, some (.int (nI b)), a15, some (.int (nI (120 * d + ins.length) - nI 1)), none] [] := by
  refine aw_joinA (ι := MA × AM) (fun i => md (zG Z) M0 i.2 y i.1 S c ∧ dwRel i.1 d (cpI ins beh b (b * Lb) w) al ∧ dwOut A i.1 d ∧ i.1 9 = A 9 ∧ i.1 15 = A 15) (fun i => i.2) 327 [some (.ref y), some (.int (nI d)), a2, a3, a4, a5, some (.int (nI Lb)), some (.int (behI beh)), some (.int (nI p)), a9, some (.int (nI w)), a11, a12, none, some (.int (nI b)), a15, some (.int (nI (120 * d + ins.length) - nI 1)), none] ?_ (fun K3 => ?_)
  · rintro ⟨B', M'⟩ ⟨z1, z2, z3, z4, z5⟩
    try dsimp only at z1 z2 z3 z4 z5 ⊢
    refine aw_iload14 X dX9_compares_327 ?_
    refine aw_iconst X dX9_compares_329 (v := nI 1) (by decide) ?_
    refine aw_iadd X dX9_compares_330 ?_
    first | with_reducible refine aw_int (nI_add _ _) ?_ | skip
    refine aw_istore7 X dX9_compares_331 (by rw [hn]; decide) rfl ?_
    refine aw_iload8 X dX9_compares_333 ?_
    refine aw_iload10 X dX9_compares_335 ?_
    refine aw_iadd X dX9_compares_337 ?_
    first | with_reducible refine aw_int (nI_add _ _) ?_ | skip
    refine aw_istore8 X dX9_compares_338 (by rw [hn]; decide) rfl ?_
    refine aw_goto X dX9_compares_340 (tgt := 410) (by decide) ?_
    refine aw_goto X dX9_compares_410 (tgt := 87) (by decide) ?_
    exact aw_drop9 (aw_drop10 (aw_drop11 (aw_drop12 (aw_drop14 (aw_drop15 (aw_drop16 (K B' M' z1 z2 z3 z4 z5)))))))
  · refine aw_iload14 X dX9_compares_292 ?_
    refine aw_iload7 X dX9_compares_294 ?_
    refine aw_icmpne X dX9_compares_296 (tgt := 314) (by decide) (fun c1 => ?_) (fun c1 => ?_)
    · have hc : ¬ (beh = some b ∧ 0 < ins.length) := fun e => c1 ((behI_eq (fun j e => (hbe j e).1) hb).mpr e.1)
      refine aw_aload0 X dX9_compares_314 ?_
      refine aw_iload1 X dX9_compares_315 ?_
      refine aw_iconst X dX9_compares_316 (v := nI 1) (by decide) ?_
      refine aw_iload14 X dX9_compares_317 ?_
      refine aw_iload6 X dX9_compares_319 ?_
      refine aw_imul X dX9_compares_321 ?_
      first | with_reducible refine aw_int (pk_mul _ _) ?_ | skip
      refine aw_iload10 X dX9_compares_322 ?_
      refine aw_callV X (c_X9_begins (q := true) h hd w5 hlen) kX9_157 (ci := 10) rfl (h.at) dX9_compares_324 rfl rfl (by first | decide | exact Nat.le_of_ble_eq_true rfl) (by rw [hR]; exact ⟨by first | decide | exact Nat.le_of_ble_eq_true rfl | (dsimp only; omega), by first | decide | exact Nat.le_of_ble_eq_true rfl | (dsimp only; omega)⟩) (by rw [hR]; exact ⟨by first | decide | exact Nat.le_of_ble_eq_true rfl | (dsimp only; omega), by first | decide | exact Nat.le_of_ble_eq_true rfl | (dsimp only; omega)⟩) (fun v M2 hv => ?_)
      obtain ⟨rfl, B2, y1, y2, y3, y4, y5⟩ := hv
      exact K3 (B2, M2) ⟨y1, by rw [cpI, if_neg hc]; exact y2, y3, y4, y5⟩
    · have e1 := (behI_eq (fun j e => (hbe j e).1) hb).mp c1
      have h0 := (hbe b e1).2
      have ei : 120 * d + ins.length - 1 = 120 * d + (ins.length - 1) := by omega
      refine aw_aload0 X dX9_compares_299 ?_
      refine aw_get X fX9_51 dX9_compares_300 (h.at) rfl ?_
      refine aw_iload16 X dX9_compares_303 ?_
      refine aw_int (pk_sub (by omega)) ?_
      rw [ei]
      refine aw_dup2 X dX9_compares_305 rfl rfl ?_
      refine aw_iald X dX9_compares_306 (h.ai 14 rfl) rfl (by omega) (by decide) ?_
      refine aw_int (y := nI (lastI ins).2.2) (w5.2.2 _ (by omega)).2.2 ?_
      refine aw_iload10 X dX9_compares_307 ?_
      refine aw_iadd X dX9_compares_309 ?_
      first | with_reducible refine aw_int (nI_add _ _) ?_ | skip
      refine aw_mst X 14 dX9_compares_310 h rfl rfl (by omega) (by decide) (fun M2 h2 => ?_)
      refine aw_goto X dX9_compares_311 (tgt := 327) (by decide) ?_
      have el : cpI ins beh b (b * Lb) w = bump ins w := by rw [cpI, if_pos ⟨e1, h0⟩]
      rw [el] at K3
      exact K3 (va_up A 14 (upd (A 14) (120 * d + (ins.length - 1)) (nI ((lastI ins).2.2 + w))), M2) ⟨h2, w5.bump h0, dwOut.m14 (by omega), rfl, rfl⟩
