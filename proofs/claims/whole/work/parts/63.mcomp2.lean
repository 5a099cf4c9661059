/-! the model's comparison: the loop that asks the blocks -/
theorem up9 (A : MA) (f9 f10 f11 : Nat → Int32) : ∃ B : MA, B = va_up (va_up (va_up A 9 f9) 10 f10) 11 f11 ∧ (∀ a, a < 9 ∨ 11 < a → B a = A a) ∧ B 9 = f9 ∧ B 10 = f10 ∧ B 11 = f11 := by
  refine ⟨_, rfl, fun a ha => ?_, rfl, rfl, rfl⟩
  rw [va_up_ne _ _ (by omega), va_up_ne _ _ (by omega), va_up_ne _ _ (by omega)]
theorem aw_join {Z : AZ} {Q : State → Prop} {M : AM} {k n pc : Nat} {L : List (Option Value)} {st : List Value} (pm : Nat) (Lm : List (Option Value)) (sm : List Value) (K : AW Z Q M k n pm Lm sm) (H : AW Z Q M k n pm Lm sm → AW Z Q M k n pc L st) : AW Z Q M k n pc L st := H K
theorem aw_joinA {Z : AZ} {Q : State → Prop} {M : AM} {k n pc : Nat} {L : List (Option Value)} {st : List Value} {ι : Type} (P : ι → Prop) (FM : ι → AM) (pm : Nat) (Lm : List (Option Value)) (K : ∀ i, P i → AW Z Q (FM i) k n pm Lm []) (H : (∀ i, P i → AW Z Q (FM i) k n pm Lm []) → AW Z Q M k n pc L st) : AW Z Q M k n pc L st := H K
theorem dwRel.bump {A : MA} {d al n : Nat} {ins : List IN} (h : dwRel A d ins al) (h0 : 0 < ins.length) : dwRel (va_up A 14 (upd (A 14) (120 * d + (ins.length - 1)) (nI ((lastI ins).2.2 + n)))) d (bump ins n) al := by
  obtain ⟨w1, w2, w3⟩ := h
  refine ⟨by rw [bump_len]; exact w1, w2, fun k hk => ?_⟩
  rw [bump_len] at hk
  rw [bump_get hk]
  show A 12 (120 * d + k) = _ ∧ A 13 (120 * d + k) = _ ∧ upd (A 14) (120 * d + (ins.length - 1)) (nI ((lastI ins).2.2 + n)) (120 * d + k) = _
  obtain ⟨x1, x2, x3⟩ := w3 k hk
  by_cases e : k = ins.length - 1
  · rw [if_pos e, x1, x2, e, pk_us]
    exact ⟨rfl, rfl, rfl⟩
  · rw [if_neg e, pk_un (by omega)]
    exact ⟨x1, x2, x3⟩
theorem dwOut.m14 {A : MA} {d i : Nat} {v : Int32} (hi : i < 120) : dwOut A (va_up A 14 (upd (A 14) (120 * d + i) v)) d := by
  refine ⟨fun a ha => va_up_ne _ _ (by omega), fun j hj => ⟨rfl, rfl, rfl⟩, fun k hk => ⟨rfl, rfl, ?_, rfl⟩⟩
  show upd (A 14) (120 * d + i) v k = _
  exact pk_un (by omega)
theorem dwRel.al {A : MA} {d al al' : Nat} {ins : List IN} (h : dwRel A d ins al) : dwRel (va_up A 11 (upd (A 11) d (nI al'))) d ins al' := ⟨h.1, pk_us, h.2.2⟩
theorem dwOut.m11 {A : MA} {d : Nat} {v : Int32} : dwOut A (va_up A 11 (upd (A 11) d v)) d := by
  refine ⟨fun a ha => va_up_ne _ _ (by omega), fun j hj => ⟨rfl, rfl, ?_⟩, fun k hk => ⟨rfl, rfl, rfl, rfl⟩⟩
  show upd (A 11) d v j = _
  exact pk_un hj
theorem lp_cmp {Z : AZ} {Q : State → Prop} {M0 M : AM} {y g p w : Nat} {A : MA} {S : Nat → Int64} {c : Nat → Int32} {s : SG} {bs : List Int32} {beh : Option Nat} {a1 a3 a4 a5 a6 a8 a9 : Option Value} (X : am_X RX9 cX9_compares Z) (hn : zn Z = 18) (hR : zR Z = rX9_compares) (h : md (zG Z) M0 M y A S c) (hg : g < 5) (hs : sgRel A S g s) (hm : s.1 = true) (hb : ∀ b, beh = some b → b < 2 ^ 31) (hw : w ≤ 120)
    (K : AW Z Q M 0 0 273 [some (.ref y), a1, some (.int (nI g)), a3, a4, a5, a6, some (.int (behI beh)), a8, a9, some (.int (nI w)), some (.int (wk bs p w s.2.2.1)), some (.long (sg bs p w)), none, some (.int (behI (fnd (qP s bs p w) (sgN s) beh))), some (.int (b2i (anyB (qW s bs p w) (sgN s)))), some (.int (nI (sgN s))), none] []) :
    AW Z Q M 0 0 172 [some (.ref y), a1, some (.int (nI g)), a3, a4, a5, a6, some (.int (behI beh)), a8, a9, some (.int (nI w)), some (.int (wk bs p w s.2.2.1)), some (.long (sg bs p w)), none, some (.int (-1)), some (.int (nI 0)), some (.int (nI 0)), none] [] := by
  obtain ⟨⟨v1, v2, v3, v4, v5⟩, u3, u4, u6, u7⟩ := id hs
  obtain ⟨-, x5⟩ := u4 hm
  rw [if_pos hm] at u3
  have hN : sgN s ≤ 120 := Nat.le_trans (nb_leN v1) v5
  have e0 : fnd (qP s bs p w) 0 beh = none := fnd_off (fun j hj => absurd hj (Nat.not_lt_zero _))
  suffices q : AW Z Q M 0 0 172 [some (.ref y), a1, some (.int (nI g)), a3, a4, a5, a6, some (.int (behI beh)), a8, a9, some (.int (nI w)), some (.int (wk bs p w s.2.2.1)), some (.long (sg bs p w)), none, some (.int (behI (fnd (qP s bs p w) 0 beh))), some (.int (b2i (anyB (qW s bs p w) 0))), some (.int (nI 0)), none] [] by
    rw [e0] at q
    exact q
  refine aw_loop (σ := Nat) (fun i => i ≤ sgN s) (fun i => sgN s - i) (fun _ => M) (fun i => [some (.ref y), a1, some (.int (nI g)), a3, a4, a5, a6, some (.int (behI beh)), a8, a9, some (.int (nI w)), some (.int (wk bs p w s.2.2.1)), some (.long (sg bs p w)), none, some (.int (behI (fnd (qP s bs p w) i beh))), some (.int (b2i (anyB (qW s bs p w) i))), some (.int (nI i)), none]) ?_ 0 (Nat.zero_le _)
  intro i hi ih
  try dsimp only at hi ih ⊢
  have hfb : ∀ j, fnd (qP s bs p w) i beh = some j → j < 2 ^ 31 := fun j hj => by have := (fnd_some hj).1; omega
  refine aw_iload16 X dX9_compares_172 ?_
  refine aw_aload0 X dX9_compares_174 ?_
  refine aw_get X fX9_25 dX9_compares_175 (h.at) rfl ?_
  refine aw_iload2 X dX9_compares_178 ?_
  refine aw_iald X dX9_compares_179 (h.ai 6 rfl) rfl (by omega) (by decide) ?_
  refine aw_int u6 ?_
  refine aw_icmpge X dX9_compares_180 (tgt := 273) (by decide) (fun c1 => ?_) (fun c1 => ?_)
  · have e : i = sgN s := by have := (nI_leI (by omega) (by omega)).mp c1; omega
    subst e
    exact K
  · have hlt : i < sgN s := by
      rcases Nat.lt_or_ge i (sgN s) with q | q
      · exact q
      · exact absurd (nI_le q (by omega)) c1
    have q := ih (i + 1) hlt (by omega)
    have hsl : sgL s i ≤ 7 := Nat.le_trans (Nat.min_le_left _ _) v2
    have hiL := (nb_lt v1).mp hlt
    have e7 : anyB (qW s bs p w) (i + 1) = (anyB (qW s bs p w) i || qW s bs p w i) := by rw [anyB]
    rw [fnd_step, e7] at q
    refine aw_aload0 X dX9_compares_183 ?_
    refine aw_iload2 X dX9_compares_184 ?_
    refine aw_iload16 X dX9_compares_185 ?_
    refine aw_callV X (c_X9_lengthOf h hg u3 x5 v2 v5 (by omega)) kX9_130 (ci := 10) rfl (h.at) dX9_compares_187 rfl rfl (by first | decide | exact Nat.le_of_ble_eq_true rfl) (by rw [hR]; exact ⟨by first | decide | exact Nat.le_of_ble_eq_true rfl | (dsimp only; omega), by first | decide | exact Nat.le_of_ble_eq_true rfl | (dsimp only; omega)⟩) (by rw [hR]; exact ⟨by first | decide | exact Nat.le_of_ble_eq_true rfl | (dsimp only; omega), by first | decide | exact Nat.le_of_ble_eq_true rfl | (dsimp only; omega)⟩) (fun v M6 hv => ?_)
    obtain ⟨rfl, rfl⟩ := hv
    refine aw_iload10 X dX9_compares_190 ?_
    have off : qW s bs p w i = false → AW Z Q M6 0 0 267 [some (.ref y), a1, some (.int (nI g)), a3, a4, a5, a6, some (.int (behI beh)), a8, a9, some (.int (nI w)), some (.int (wk bs p w s.2.2.1)), some (.long (sg bs p w)), none, some (.int (behI (fnd (qP s bs p w) i beh))), some (.int (b2i (anyB (qW s bs p w) i))), some (.int (nI i)), none] [] := by
      intro e4
      rw [if_neg (by simp [qP, e4]), e4, Bool.or_false] at q
      refine aw_iinc16 X dX9_compares_267 (by rw [hn]; decide) (am_inc _ 1) rfl ?_
      refine aw_goto X dX9_compares_270 (tgt := 172) (by decide) ?_
      exact q
    refine aw_icmpne X dX9_compares_192 (tgt := 267) (by decide) (fun c2 => ?_) (fun c2 => ?_)
    · have e3 : sgL s i ≠ w := fun q => c2 (by rw [← q]; rfl)
      exact off (by simp [qW, e3])
    · have e3 : sgL s i = w := (nI_eq (show min s.2.1 (s.2.2.2.length - i * s.2.1) < _ by omega) (by omega)).mp c2
      refine aw_aload0 X dX9_compares_195 ?_
      refine aw_get X fX9_28 dX9_compares_196 (h.at) rfl ?_
      refine aw_bipush X dX9_compares_199 (v := nI 120) (by decide) ?_
      refine aw_iload2 X dX9_compares_201 ?_
      refine aw_imul X dX9_compares_202 ?_
      first | with_reducible refine aw_int (pk_mul _ _) ?_ | skip
      refine aw_iload16 X dX9_compares_203 ?_
      refine aw_iadd X dX9_compares_205 ?_
      first | with_reducible refine aw_int (nI_add _ _) ?_ | skip
      refine aw_iald X dX9_compares_206 (h.ai 7 rfl) rfl (by omega) (by decide) ?_
      refine aw_int (u7 i hlt).1 ?_
      refine aw_iload11 X dX9_compares_207 ?_
      refine aw_icmpne X dX9_compares_209 (tgt := 267) (by decide) (fun c3 => ?_) (fun c3 => ?_)
      · refine off ?_
        simp only [qW, e3, decide_true, Bool.true_and, decide_eq_false_iff_not]
        exact c3
      · have e4 : qW s bs p w i = true := by
          simp only [qW, e3, decide_true, Bool.true_and, decide_eq_true_eq]
          exact c3
        rw [e4, Bool.or_true] at q
        refine aw_aload0 X dX9_compares_212 ?_
        refine aw_get X fX9_31 dX9_compares_213 (h.at) rfl ?_
        refine aw_bipush X dX9_compares_216 (v := nI 120) (by decide) ?_
        refine aw_iload2 X dX9_compares_218 ?_
        refine aw_imul X dX9_compares_219 ?_
        first | with_reducible refine aw_int (pk_mul _ _) ?_ | skip
        refine aw_iload16 X dX9_compares_220 ?_
        refine aw_iadd X dX9_compares_222 ?_
        first | with_reducible refine aw_int (nI_add _ _) ?_ | skip
        refine aw_lald X dX9_compares_223 h.al rfl (by omega) (by decide) ?_
        refine aw_long (u7 i hlt).2 ?_
        refine aw_lload12 X dX9_compares_224 ?_
        refine aw_lcmp X dX9_compares_226 ?_
        refine aw_ifne X dX9_compares_227 (tgt := 234) (by decide) (fun c4 => ?_) (fun c4 => ?_)
        · have e6 : qP s bs p w i = false := by
            simp only [qP, e4, Bool.true_and, decide_eq_false_iff_not]
            exact fun q => c4 ((lg_cmp_eq _ _).mpr q)
          rw [if_neg (by rw [e6]; decide)] at q
          refine aw_iconst X dX9_compares_234 (v := nI 0) (by decide) ?_
          refine aw_istore17 X dX9_compares_235 (by rw [hn]; decide) rfl ?_
          refine aw_iconst X dX9_compares_237 (v := nI 1) (by decide) ?_
          refine aw_istore15 X dX9_compares_238 (by rw [hn]; decide) rfl ?_
          refine aw_iload17 X dX9_compares_240 ?_
          refine aw_ifeq X dX9_compares_242 (tgt := 263) (by decide) (fun _ => ?_) (fun c9 => by first | exact absurd ((rfl : nI 0 = 0)) c9 | exact absurd c9 ((rfl : nI 0 = 0)))
          refine aw_iload14 X dX9_compares_263 ?_
          refine aw_istore14 X dX9_compares_265 (by rw [hn]; decide) rfl ?_
          refine aw_iinc16 X dX9_compares_267 (by rw [hn]; decide) (am_inc _ 1) rfl ?_
          refine aw_goto X dX9_compares_270 (tgt := 172) (by decide) ?_
          refine aw_drop17 ?_
          exact q
        · have e6 : qP s bs p w i = true := by
            simp only [qP, e4, Bool.true_and, decide_eq_true_eq]
            exact (lg_cmp_eq _ _).mp c4
          rw [if_pos e6] at q
          refine aw_iconst X dX9_compares_230 (v := nI 1) (by decide) ?_
          refine aw_goto X dX9_compares_231 (tgt := 235) (by decide) ?_
          refine aw_istore17 X dX9_compares_235 (by rw [hn]; decide) rfl ?_
          refine aw_iconst X dX9_compares_237 (v := nI 1) (by decide) ?_
          refine aw_istore15 X dX9_compares_238 (by rw [hn]; decide) rfl ?_
          refine aw_iload17 X dX9_compares_240 ?_
          refine aw_ifeq X dX9_compares_242 (tgt := 263) (by decide) (fun c9 => by first | exact absurd ((by decide : ¬ nI 1 = 0)) c9 | exact absurd c9 ((by decide : ¬ nI 1 = 0))) (fun _ => ?_)
          refine aw_iload14 X dX9_compares_245 ?_
          refine aw_iconst X dX9_compares_247 (v := -1) (by decide) ?_
          refine aw_icmpeq X dX9_compares_248 (tgt := 258) (by decide) (fun c5 => ?_) (fun c5 => ?_)
          · rw [if_pos (Or.inl ((behI_none hfb).mp c5))] at q
            refine aw_iload16 X dX9_compares_258 ?_
            refine aw_goto X dX9_compares_260 (tgt := 265) (by decide) ?_
            refine aw_istore14 X dX9_compares_265 (by rw [hn]; decide) rfl ?_
            refine aw_iinc16 X dX9_compares_267 (by rw [hn]; decide) (am_inc _ 1) rfl ?_
            refine aw_goto X dX9_compares_270 (tgt := 172) (by decide) ?_
            refine aw_drop17 ?_
            exact q
          · have c5' : fnd (qP s bs p w) i beh ≠ none := fun e => c5 ((behI_none hfb).mpr e)
            refine aw_iload16 X dX9_compares_251 ?_
            refine aw_iload7 X dX9_compares_253 ?_
            refine aw_icmpne X dX9_compares_255 (tgt := 263) (by decide) (fun c6 => ?_) (fun c6 => ?_)
            · rw [if_neg (by rintro (e | e); exact c5' e; exact c6 ((behI_eq hb (by omega)).mpr e))] at q
              refine aw_iload14 X dX9_compares_263 ?_
              refine aw_istore14 X dX9_compares_265 (by rw [hn]; decide) rfl ?_
              refine aw_iinc16 X dX9_compares_267 (by rw [hn]; decide) (am_inc _ 1) rfl ?_
              refine aw_goto X dX9_compares_270 (tgt := 172) (by decide) ?_
              refine aw_drop17 ?_
              exact q
            · rw [if_pos (Or.inr ((behI_eq hb (by omega)).mp c6))] at q
              refine aw_iload16 X dX9_compares_258 ?_
              refine aw_goto X dX9_compares_260 (tgt := 265) (by decide) ?_
              refine aw_istore14 X dX9_compares_265 (by rw [hn]; decide) rfl ?_
              refine aw_iinc16 X dX9_compares_267 (by rw [hn]; decide) (am_inc _ 1) rfl ?_
              refine aw_goto X dX9_compares_270 (tgt := 172) (by decide) ?_
              refine aw_drop17 ?_
              exact q
