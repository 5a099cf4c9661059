theorem fsum_le {f : List Int32 → Nat} {c : Nat} {l : List (List Int32)} (h : ∀ b ∈ l, f b ≤ c) : ∀ k, k ≤ l.length → fsum f l k ≤ c * k
  | 0, _ => Nat.zero_le _
  | k + 1, hk => by
    have h1 := fsum_le h k (by omega)
    rw [fsum, Nat.mul_succ]
    have h2 : f (l.getD k []) ≤ c := h _ (by
      rw [List.getD_eq_getElem?_getD, List.getElem?_eq_getElem (by omega)]
      exact List.getElem_mem _)
    split <;> omega
theorem kt_cnt {Z : AZ} {M : AM} {x e1 e2 : Nat} {τ : TS} {F : Nat → Nat → Int32} {y w a : Int32} {t17 : Option Value} (C : ktC Z) (hs : isRS (zG Z) M x (x + 292) τ) (hT : tbL (zG Z) x M M F) (hL : lR F τ) : AW Z (ktQ Z x τ) M 7 59 163 (ktL x y e1 e2 w a [t17, none, none, none, none, none, none]) [] := by
  obtain ⟨X, hn, hR, hr, hN, hfl⟩ := id C
  have hP := hL.2.2.2.2.2.2
  have q17 := hT.at 17 (by decide)
  have q18 := hT.at 18 (by decide)
  have q19 := hT.at 19 (by decide)
  refine aw_iconst X dL_keepsTold_163 (v := nI 0) (by decide) ?_
  refine aw_istore17 X dL_keepsTold_164 (by rw [hn]; decide) rfl ?_
  refine aw_iconst X dL_keepsTold_166 (v := nI 0) (by decide) ?_
  refine aw_istore18 X dL_keepsTold_167 (by rw [hn]; decide) rfl ?_
  refine aw_iconst X dL_keepsTold_169 (v := nI 0) (by decide) ?_
  refine aw_istore19 X dL_keepsTold_170 (by rw [hn]; decide) rfl ?_
  refine aw_iconst X dL_keepsTold_172 (v := nI 0) (by decide) ?_
  refine aw_istore20 X dL_keepsTold_173 (by rw [hn]; decide) rfl ?_
  refine aw_loop (σ := Nat) (fun q => q ≤ 4) (fun q => 4 - q) (fun _ => M) (fun q => ktL x y e1 e2 w a [some (.int (nI (fsum (fun _ => 1) (allB τ.2.2.2.2.2 4) (allB τ.2.2.2.2.2 q).length))), some (.int (nI (fsum List.length (allB τ.2.2.2.2.2 4) (allB τ.2.2.2.2.2 q).length))), some (.int (nI (papN τ.2.2.2.2.2 q))), some (.int (nI q)), none, none, none]) ?_ 0 (by decide)
  rintro q hq ih
  try dsimp only at ih ⊢
  refine aw_iload20 X dL_keepsTold_175 ?_
  refine aw_iconst X dL_keepsTold_177 (v := nI 4) (by decide) ?_
  refine aw_icmpge X dL_keepsTold_178 (tgt := 267) (by decide) (fun c1 => ?_) (fun c1 => ?_)
  · have e : q = 4 := by have := (nI_leI (by decide) (by omega)).mp c1; omega
    subst e
    clear ih
    have e1' : tA τ = allB τ.2.2.2.2.2 4 := allB_4 hP.1
    have e2' : papN τ.2.2.2.2.2 12 = papN τ.2.2.2.2.2 4 := papN_none (n := 4) hP.1 8
    have K := kt_pap (y := y) (w := w) (a := a) (e1 := e1) (e2 := e2) C hs hT hL
    rw [e1', e2'] at K
    exact aw_drop20 K
  · have hlt : q < 4 := by
      rcases Nat.lt_or_ge q 4 with e | e
      · exact e
      · exact absurd (nI_le e (by omega)) c1
    have nx := ih (q + 1) (by omega) (by omega)
    have eA : allB τ.2.2.2.2.2 (q + 1) = allB τ.2.2.2.2.2 q ++ (τ.2.2.2.2.2 q).getD [] := rfl
    have eP : papN τ.2.2.2.2.2 (q + 1) = papN τ.2.2.2.2.2 q + if (τ.2.2.2.2.2 q).isSome then 1 else 0 := rfl
    rw [eA, List.length_append, eP] at nx
    refine aw_iload19 X dL_keepsTold_181 ?_
    refine aw_aload12 X dL_keepsTold_183 ?_
    refine aw_iload20 X dL_keepsTold_185 ?_
    refine aw_iald X dL_keepsTold_187 q19 rfl (show q < 8 by omega) (by decide) ?_
    cases hm : τ.2.2.2.2.2 q with
    | none =>
      rw [hm] at nx
      have hno := hP.no hlt hm
      refine aw_int hno ?_
      refine aw_iadd X dL_keepsTold_188 ?_
      first | with_reducible refine aw_int (nI_add _ _) ?_ | skip
      refine aw_istore19 X dL_keepsTold_189 (by rw [hn]; decide) rfl ?_
      refine aw_iconst X dL_keepsTold_191 (v := nI 0) (by decide) ?_
      refine aw_istore21 X dL_keepsTold_192 (by rw [hn]; decide) rfl ?_
      refine aw_aload12 X dL_keepsTold_194 ?_
      refine aw_iload20 X dL_keepsTold_196 ?_
      refine aw_iald X dL_keepsTold_198 q19 rfl (show q < 8 by omega) (by decide) ?_
      refine aw_int hno ?_
      refine aw_iconst X dL_keepsTold_199 (v := nI 1) (by decide) ?_
      refine aw_icmpne X dL_keepsTold_200 (tgt := 261) (by decide) (fun _ => ?_) (fun c9 => by first | exact absurd ((by decide : ¬ nI 0 = nI 1)) c9 | exact absurd c9 ((by decide : ¬ nI 0 = nI 1)))
      refine aw_iinc20 X dL_keepsTold_261 (by rw [hn]; decide) (am_inc _ 1) rfl ?_
      refine aw_goto X dL_keepsTold_264 (tgt := 175) (by decide) ?_
      exact aw_drop21 nx
    | some m =>
      rw [hm] at nx
      obtain ⟨m1, m2, m3, m4, m5⟩ := hP.at hlt hm
      have hm16 := m1.2.1
      obtain ⟨R, hA⟩ := allB_at hlt hm
      refine aw_int m2 ?_
      refine aw_iadd X dL_keepsTold_188 ?_
      first | with_reducible refine aw_int (nI_add _ _) ?_ | skip
      refine aw_istore19 X dL_keepsTold_189 (by rw [hn]; decide) rfl ?_
      refine aw_iconst X dL_keepsTold_191 (v := nI 0) (by decide) ?_
      refine aw_istore21 X dL_keepsTold_192 (by rw [hn]; decide) rfl ?_
      refine aw_loop (σ := Nat) (fun k => k ≤ m.length) (fun k => m.length - k) (fun _ => M) (fun k => ktL x y e1 e2 w a [some (.int (nI (fsum (fun _ => 1) (allB τ.2.2.2.2.2 4) ((allB τ.2.2.2.2.2 q).length + k)))), some (.int (nI (fsum List.length (allB τ.2.2.2.2.2 4) ((allB τ.2.2.2.2.2 q).length + k)))), some (.int (nI (papN τ.2.2.2.2.2 q + 1))), some (.int (nI q)), some (.int (nI k)), none, none]) ?_ 0 (Nat.zero_le _)
      rintro k hk ih2
      try dsimp only at ih2 ⊢
      refine aw_aload12 X dL_keepsTold_194 ?_
      refine aw_iload20 X dL_keepsTold_196 ?_
      refine aw_iald X dL_keepsTold_198 q19 rfl (show q < 8 by omega) (by decide) ?_
      refine aw_int m2 ?_
      refine aw_iconst X dL_keepsTold_199 (v := nI 1) (by decide) ?_
      refine aw_icmpne X dL_keepsTold_200 (tgt := 261) (by decide) (fun c9 => by first | exact absurd ((rfl : nI 1 = nI 1)) c9 | exact absurd c9 ((rfl : nI 1 = nI 1))) (fun _ => ?_)
      refine aw_iload21 X dL_keepsTold_203 ?_
      refine aw_aload12 X dL_keepsTold_205 ?_
      refine aw_iconst X dL_keepsTold_207 (v := nI 4) (by decide) ?_
      refine aw_iload20 X dL_keepsTold_208 ?_
      refine aw_iadd X dL_keepsTold_210 ?_
      first | with_reducible refine aw_int (nI_add _ _) ?_ | skip
      refine aw_iald X dL_keepsTold_211 q19 rfl (show 4 + q < 8 by omega) (by decide) ?_
      refine aw_int m3 ?_
      refine aw_icmpge X dL_keepsTold_212 (tgt := 261) (by decide) (fun c2 => ?_) (fun c2 => ?_)
      · have e : k = m.length := by have := (nI_leI (by omega) (by omega)).mp c2; omega
        subst e
        refine aw_iinc20 X dL_keepsTold_261 (by rw [hn]; decide) (am_inc _ 1) rfl ?_
        refine aw_goto X dL_keepsTold_264 (tgt := 175) (by decide) ?_
        exact aw_drop21 nx
      · have hkl : k < m.length := by
          rcases Nat.lt_or_ge k m.length with e | e
          · exact e
          · exact absurd (nI_le e (by omega)) c2
        have K2 := ih2 (k + 1) hkl (by omega)
        have hst : ∀ f : List Int32 → Nat, fsum f (allB τ.2.2.2.2.2 4) ((allB τ.2.2.2.2.2 q).length + (k + 1)) = fsum f (allB τ.2.2.2.2.2 4) ((allB τ.2.2.2.2.2 q).length + k) + (if m.getD k [] ∈ allB τ.2.2.2.2.2 q ++ m.take k then 0 else f (m.getD k [])) := fun f => by
          rw [← Nat.add_assoc, fsum, hA, get_mid hkl, take_mid (by omega)]
        rw [hst, hst] at K2
        have hcl : List.count (m.getD k []) (allB τ.2.2.2.2.2 q ++ m.take k) ≤ 100 := by
          refine Nat.le_trans List.count_le_length ?_
          have hal : ∀ n, n ≤ 4 → (allB τ.2.2.2.2.2 n).length ≤ 16 * n := fun n => by
            induction n with
            | zero => exact fun _ => Nat.le_refl _
            | succ n ih =>
              intro hn
              rw [allB, List.length_append]
              have := ih (by omega)
              cases hq9 : τ.2.2.2.2.2 n with
              | none => simp only [Option.getD_none, List.length_nil]; omega
              | some l =>
                have := ((hP.2 n (by omega)).1 l hq9).2.1
                simp only [Option.getD_some]
                omega
          have := hal q (by omega)
          rw [List.length_append, List.length_take]
          omega
        refine aw_aload10 X dL_keepsTold_215 ?_
        refine aw_aload11 X dL_keepsTold_217 ?_
        refine aw_aload12 X dL_keepsTold_219 ?_
        refine aw_iload20 X dL_keepsTold_221 ?_
        refine aw_iload21 X dL_keepsTold_223 ?_
        refine aw_iload20 X dL_keepsTold_225 ?_
        refine aw_iload21 X dL_keepsTold_227 ?_
        refine aw_iconst X dL_keepsTold_229 (v := -1) (by decide) ?_
        refine aw_callS X (c_L_named (p := q) (kp := k) (lp := q) (kk := k) (w := none) q17 q18 q19 hP hlt hm hkl hlt (fun l e => by rw [hm] at e; cases e; exact ⟨by omega, rfl⟩) (fun k h => nomatch h)) kL_190 dL_keepsTold_230 rfl rfl (by first | decide | exact Nat.le_of_ble_eq_true rfl) (by rw [hR]; exact ⟨by first | decide | exact Nat.le_of_ble_eq_true rfl | (dsimp only; omega), by first | decide | exact Nat.le_of_ble_eq_true rfl | (dsimp only; omega)⟩) (by rw [hR]; exact ⟨by first | decide | exact Nat.le_of_ble_eq_true rfl | (dsimp only; omega), by first | decide | exact Nat.le_of_ble_eq_true rfl | (dsimp only; omega)⟩) (fun v M hv => ?_)
        obtain ⟨rfl, rfl⟩ := hv
        have e4 : allB (Pw τ.2.2.2.2.2 none) q ++ ((Pw τ.2.2.2.2.2 none q).getD []).take k = allB τ.2.2.2.2.2 q ++ m.take k := by
          show allB τ.2.2.2.2.2 q ++ ((τ.2.2.2.2.2 q).getD []).take k = _
          rw [hm]
          rfl
        rw [e4]
        refine aw_ifne X dL_keepsTold_233 (tgt := 255) (by decide) (fun c3 => ?_) (fun c3 => ?_)
        · have hin : m.getD k [] ∈ allB τ.2.2.2.2.2 q ++ m.take k := Decidable.byContradiction (fun e => c3 (by rw [List.count_eq_zero.mpr e]; rfl))
          rw [if_pos hin, if_pos hin] at K2
          refine aw_iinc21 X dL_keepsTold_255 (by rw [hn]; decide) (am_inc _ 1) rfl ?_
          refine aw_goto X dL_keepsTold_258 (tgt := 194) (by decide) ?_
          exact K2
        · have hnin : ¬ m.getD k [] ∈ allB τ.2.2.2.2.2 q ++ m.take k := List.count_eq_zero.mp ((nI_eq (b := 0) (by omega) (by decide)).mp c3)
          rw [if_neg hnin, if_neg hnin] at K2
          refine aw_iinc17 X dL_keepsTold_236 (by rw [hn]; decide) (am_inc _ 1) rfl ?_
          refine aw_iload18 X dL_keepsTold_239 ?_
          refine aw_aload11 X dL_keepsTold_241 ?_
          refine aw_bipush X dL_keepsTold_243 (v := nI 16) (by decide) ?_
          refine aw_iload20 X dL_keepsTold_245 ?_
          refine aw_imul X dL_keepsTold_247 ?_
          first | with_reducible refine aw_int (pk_mul _ _) ?_ | skip
          refine aw_iload21 X dL_keepsTold_248 ?_
          refine aw_iadd X dL_keepsTold_250 ?_
          first | with_reducible refine aw_int (nI_add _ _) ?_ | skip
          refine aw_iald X dL_keepsTold_251 q18 rfl (show 16 * q + k < 64 by omega) (by decide) ?_
          refine aw_int (m4 k hkl) ?_
          refine aw_iadd X dL_keepsTold_252 ?_
          first | with_reducible refine aw_int (nI_add _ _) ?_ | skip
          refine aw_istore18 X dL_keepsTold_253 (by rw [hn]; decide) rfl ?_
          refine aw_iinc21 X dL_keepsTold_255 (by rw [hn]; decide) (am_inc _ 1) rfl ?_
          refine aw_goto X dL_keepsTold_258 (tgt := 194) (by decide) ?_
          exact K2
theorem kt_held {Z : AZ} {M : AM} {x e1 e2 : Nat} {τ : TS} {F : Nat → Nat → Int32} {y w : Int32} {t17 : Option Value} (C : ktC Z) (hs : isRS (zG Z) M x (x + 292) τ) (hT : tbL (zG Z) x M M F) (hL : lR F τ) : AW Z (ktQ Z x τ) M 6 53 116 (ktL x y e1 e2 w (am_b (inI w (tN τ))) [t17, none, none, none, none, none, none]) [] := by
  obtain ⟨X, hn, hR, hr, hN, hfl⟩ := id C
  obtain ⟨vc, vn, vd, va⟩ := hL.2.2.2.2.1
  refine aw_aload0 X dL_keepsTold_116 ?_
  refine aw_bipush X dL_keepsTold_117 (v := nI 13) (by decide) ?_
  refine aw_iload15 X dL_keepsTold_119 ?_
  refine aw_iconst X dL_keepsTold_121 (v := nI 0) (by decide) ?_
  refine aw_callSH X hN (w_heldBy hfl hs) kL_181 dL_keepsTold_122 rfl rfl (by first | decide | exact Nat.le_of_ble_eq_true rfl) (by rw [hR]; exact ⟨by first | decide | exact Nat.le_of_ble_eq_true rfl | (dsimp only; omega), by first | decide | exact Nat.le_of_ble_eq_true rfl | (dsimp only; omega)⟩) (by rw [hR]; exact ⟨by first | decide | exact Nat.le_of_ble_eq_true rfl | (dsimp only; omega), by first | decide | exact Nat.le_of_ble_eq_true rfl | (dsimp only; omega)⟩) (fun v M hv => ?_)
  obtain ⟨rfl, hs1, hk1⟩ := hv
  obtain ⟨hs, hT⟩ := st_told hT hs1 hk1 st_spHeldBy
  refine aw_splV (pm := 147) (v := wr (spHeldBy τ w)) (fun K => ?_) ?_
  · refine aw_iload16 X dL_keepsTold_125 ?_
    refine aw_ifeq X dL_keepsTold_127 (tgt := 145) (by decide) (fun c => ?_) (fun c => ?_)
    · refine aw_bipush X dL_keepsTold_145 (v := -101) (by decide) ?_
      refine aw_int (y := wr (spHeldBy τ w)) (by rw [spHeldBy, if_neg (am_bz.mp c)]; rfl) ?_
      exact K
    · have hin := am_bn.mp c
      obtain ⟨u1, u2, u3⟩ := inI_j hin (show τ.2.2.2.1.1 < 2 ^ 31 by omega)
      have u1 : ix w < τ.2.2.2.1.1 := u1
      refine aw_iload15 X dL_keepsTold_130 ?_
      refine aw_int u2 ?_
      refine aw_aload3 X dL_keepsTold_132 ?_
      refine aw_aload5 X dL_keepsTold_133 ?_
      refine aw_aload7 X dL_keepsTold_135 ?_
      refine aw_aload8 X dL_keepsTold_137 ?_
      refine aw_callS X (c_L_held (V := τ.2.2.2.1.2 (ix w)) (hT.at 10 (by decide)) (hT.at 12 (by decide)) (hT.at 14 (by decide)) (hT.at 15 (by decide)) (by omega) (va _ u1).1 (va _ u1).2) kL_177 dL_keepsTold_139 rfl rfl (by first | decide | exact Nat.le_of_ble_eq_true rfl) (by rw [hR]; exact ⟨by first | decide | exact Nat.le_of_ble_eq_true rfl | (dsimp only; omega), by first | decide | exact Nat.le_of_ble_eq_true rfl | (dsimp only; omega)⟩) (by rw [hR]; exact ⟨by first | decide | exact Nat.le_of_ble_eq_true rfl | (dsimp only; omega), by first | decide | exact Nat.le_of_ble_eq_true rfl | (dsimp only; omega)⟩) (fun v M hv => ?_)
      obtain ⟨rfl, rfl⟩ := hv
      refine aw_goto X dL_keepsTold_142 (tgt := 147) (by decide) ?_
      refine aw_int (y := wr (spHeldBy τ w)) (by rw [spHeldBy, if_pos hin]; rfl) ?_
      exact K
  refine aw_icmpne X dL_keepsTold_147 (tgt := 161) (by decide) (fun c9 => by first | exact absurd (rfl) c9 | exact absurd c9 (rfl)) (fun _ => ?_)
  refine aw_aload0 X dL_keepsTold_150 ?_
  refine aw_callV X (c_X8_versions hs) kL_207 (ci := 9) rfl (hs.at) dL_keepsTold_151 rfl rfl (by first | decide | exact Nat.le_of_ble_eq_true rfl) (by rw [hR]; exact ⟨by first | decide | exact Nat.le_of_ble_eq_true rfl | (dsimp only; omega), by first | decide | exact Nat.le_of_ble_eq_true rfl | (dsimp only; omega)⟩) (by rw [hR]; exact ⟨by first | decide | exact Nat.le_of_ble_eq_true rfl | (dsimp only; omega), by first | decide | exact Nat.le_of_ble_eq_true rfl | (dsimp only; omega)⟩) (fun v M1 hv => ?_)
  obtain ⟨-, rfl, hs1, hk1⟩ := hv
  obtain ⟨hs, hT⟩ := st_told hT hs1 hk1 (τ := τ) rfl
  refine aw_aload9 X dL_keepsTold_154 ?_
  refine aw_iconst X dL_keepsTold_156 (v := nI 0) (by decide) ?_
  refine aw_iald X dL_keepsTold_157 (hT.at 16 (by decide)) (rfl : nI 0 = nI 0) (show 0 < 1 by decide) (by decide) ?_
  refine aw_int vc ?_
  refine aw_icmpeq X dL_keepsTold_158 (tgt := 163) (by decide) (fun _ => ?_) (fun c9 => by first | exact absurd (rfl) c9 | exact absurd c9 (rfl))
  exact kt_cnt C hs hT hL
theorem kt_brk {Z : AZ} {M : AM} {x e1 e2 : Nat} {τ : TS} {F : Nat → Nat → Int32} {y w : Int32} {h : Nat → Int32} (C : ktC Z) (hx : x + 292 ≤ e2) (hs : isRS (zG Z) M x (x + 292) τ) (hT : tbL (zG Z) x M M F) (hL : lR F τ) (he : M.1 e2 = some (am_ai (zG Z) 3 h)) (hb : inI w (tN τ) → h 0 = (rbN (rbv τ.2.2.2.1.2 (ix w))).1 ∧ h 1 = (rbN (rbv τ.2.2.2.1.2 (ix w))).2.1 ∧ h 2 = (rbN (rbv τ.2.2.2.1.2 (ix w))).2.2) : AW Z (ktQ Z x τ) M 3 35 69 (ktL x y e1 e2 w (am_b (inI w (tN τ))) [none, none, none, none, none, none, none]) [] := by
  obtain ⟨X, hn, hR, hr, hN, hfl⟩ := id C
  refine aw_iconst X dL_keepsTold_69 (v := nI 0) (by decide) ?_
  refine aw_istore17 X dL_keepsTold_70 (by rw [hn]; decide) rfl ?_
  refine aw_iload17 X dL_keepsTold_72 ?_
  refine aw_iconst X dL_keepsTold_74 (v := nI 3) (by decide) ?_
  refine aw_icmpge X dL_keepsTold_75 (tgt := 116) (by decide) (fun c9 => by first | exact absurd (nI_ge (show 0 < 3 by decide) (by decide)) c9 | exact absurd c9 (nI_ge (show 0 < 3 by decide) (by decide))) (fun _ => ?_)
  refine aw_aload0 X dL_keepsTold_78 ?_
  refine aw_bipush X dL_keepsTold_79 (v := nI 10) (by decide) ?_
  refine aw_iload17 X dL_keepsTold_81 ?_
  refine aw_iadd X dL_keepsTold_83 ?_
  first | with_reducible refine aw_int (nI_add _ _) ?_ | skip
  refine aw_iload15 X dL_keepsTold_84 ?_
  refine aw_iconst X dL_keepsTold_86 (v := nI 0) (by decide) ?_
  refine aw_callSH X hN (w_brokenAt hfl hs) kL_181 dL_keepsTold_87 rfl rfl (by first | decide | exact Nat.le_of_ble_eq_true rfl) (by rw [hR]; exact ⟨by first | decide | exact Nat.le_of_ble_eq_true rfl | (dsimp only; omega), by first | decide | exact Nat.le_of_ble_eq_true rfl | (dsimp only; omega)⟩) (by rw [hR]; exact ⟨by first | decide | exact Nat.le_of_ble_eq_true rfl | (dsimp only; omega), by first | decide | exact Nat.le_of_ble_eq_true rfl | (dsimp only; omega)⟩) (fun v M hv => ?_)
  obtain ⟨rfl, hs1, hk1⟩ := hv
  have he := hk1 _ _ he (fun e => by have := e.2; omega)
  obtain ⟨hs, hT⟩ := st_toldX hT hs1 hk1 st_spBrAt
  refine aw_splV (pm := 105) (v := wr (spBrAt τ w)) (fun K => ?_) ?_
  · refine aw_iload16 X dL_keepsTold_90 ?_
    refine aw_ifeq X dL_keepsTold_92 (tgt := 103) (by decide) (fun c => ?_) (fun c => ?_)
    · refine aw_bipush X dL_keepsTold_103 (v := -101) (by decide) ?_
      refine aw_int (y := wr (spBrAt τ w)) (by rw [spBrAt, if_neg (am_bz.mp c)]; rfl) ?_
      exact K
    · have hin := am_bn.mp c
      refine aw_aload14 X dL_keepsTold_95 ?_
      refine aw_iload17 X dL_keepsTold_97 ?_
      refine aw_iald X dL_keepsTold_99 he (rfl : nI 0 = nI 0) (show 0 < 3 by decide) (by decide) ?_
      refine aw_goto X dL_keepsTold_100 (tgt := 105) (by decide) ?_
      refine aw_int (y := wr (spBrAt τ w)) (by rw [spBrAt, if_pos hin]; exact (hb hin).1) ?_
      exact K
  refine aw_icmpeq X dL_keepsTold_105 (tgt := 110) (by decide) (fun _ => ?_) (fun c9 => by first | exact absurd (rfl) c9 | exact absurd c9 (rfl))
  refine aw_iinc17 X dL_keepsTold_110 (by rw [hn]; decide) (am_inc _ 1) rfl ?_
  refine aw_goto X dL_keepsTold_113 (tgt := 72) (by decide) ?_
  refine aw_iload17 X dL_keepsTold_72 ?_
  refine aw_iconst X dL_keepsTold_74 (v := nI 3) (by decide) ?_
  refine aw_icmpge X dL_keepsTold_75 (tgt := 116) (by decide) (fun c9 => by first | exact absurd (nI_ge (show 0 + 1 < 3 by decide) (by decide)) c9 | exact absurd c9 (nI_ge (show 0 + 1 < 3 by decide) (by decide))) (fun _ => ?_)
  refine aw_aload0 X dL_keepsTold_78 ?_
  refine aw_bipush X dL_keepsTold_79 (v := nI 10) (by decide) ?_
  refine aw_iload17 X dL_keepsTold_81 ?_
  refine aw_iadd X dL_keepsTold_83 ?_
  first | with_reducible refine aw_int (nI_add _ _) ?_ | skip
  refine aw_iload15 X dL_keepsTold_84 ?_
  refine aw_iconst X dL_keepsTold_86 (v := nI 0) (by decide) ?_
  refine aw_callSH X hN (w_brokenAfter hfl hs) kL_181 dL_keepsTold_87 rfl rfl (by first | decide | exact Nat.le_of_ble_eq_true rfl) (by rw [hR]; exact ⟨by first | decide | exact Nat.le_of_ble_eq_true rfl | (dsimp only; omega), by first | decide | exact Nat.le_of_ble_eq_true rfl | (dsimp only; omega)⟩) (by rw [hR]; exact ⟨by first | decide | exact Nat.le_of_ble_eq_true rfl | (dsimp only; omega), by first | decide | exact Nat.le_of_ble_eq_true rfl | (dsimp only; omega)⟩) (fun v M hv => ?_)
  obtain ⟨rfl, hs1, hk1⟩ := hv
  have he := hk1 _ _ he (fun e => by have := e.2; omega)
  obtain ⟨hs, hT⟩ := st_toldX hT hs1 hk1 st_spBrAfter
  refine aw_splV (pm := 105) (v := wr (spBrAfter τ w)) (fun K => ?_) ?_
  · refine aw_iload16 X dL_keepsTold_90 ?_
    refine aw_ifeq X dL_keepsTold_92 (tgt := 103) (by decide) (fun c => ?_) (fun c => ?_)
    · refine aw_bipush X dL_keepsTold_103 (v := -101) (by decide) ?_
      refine aw_int (y := wr (spBrAfter τ w)) (by rw [spBrAfter, if_neg (am_bz.mp c)]; rfl) ?_
      exact K
    · have hin := am_bn.mp c
      refine aw_aload14 X dL_keepsTold_95 ?_
      refine aw_iload17 X dL_keepsTold_97 ?_
      refine aw_iald X dL_keepsTold_99 he (rfl : nI (0 + 1) = nI 1) (show 1 < 3 by decide) (by decide) ?_
      refine aw_goto X dL_keepsTold_100 (tgt := 105) (by decide) ?_
      refine aw_int (y := wr (spBrAfter τ w)) (by rw [spBrAfter, if_pos hin]; exact (hb hin).2.1) ?_
      exact K
  refine aw_icmpeq X dL_keepsTold_105 (tgt := 110) (by decide) (fun _ => ?_) (fun c9 => by first | exact absurd (rfl) c9 | exact absurd c9 (rfl))
  refine aw_iinc17 X dL_keepsTold_110 (by rw [hn]; decide) (am_inc _ 1) rfl ?_
  refine aw_goto X dL_keepsTold_113 (tgt := 72) (by decide) ?_
  refine aw_iload17 X dL_keepsTold_72 ?_
  refine aw_iconst X dL_keepsTold_74 (v := nI 3) (by decide) ?_
  refine aw_icmpge X dL_keepsTold_75 (tgt := 116) (by decide) (fun c9 => by first | exact absurd (nI_ge (show 0 + 1 + 1 < 3 by decide) (by decide)) c9 | exact absurd c9 (nI_ge (show 0 + 1 + 1 < 3 by decide) (by decide))) (fun _ => ?_)
  refine aw_aload0 X dL_keepsTold_78 ?_
  refine aw_bipush X dL_keepsTold_79 (v := nI 10) (by decide) ?_
  refine aw_iload17 X dL_keepsTold_81 ?_
  refine aw_iadd X dL_keepsTold_83 ?_
  first | with_reducible refine aw_int (nI_add _ _) ?_ | skip
  refine aw_iload15 X dL_keepsTold_84 ?_
  refine aw_iconst X dL_keepsTold_86 (v := nI 0) (by decide) ?_
  refine aw_callSH X hN (w_reason hfl hs) kL_181 dL_keepsTold_87 rfl rfl (by first | decide | exact Nat.le_of_ble_eq_true rfl) (by rw [hR]; exact ⟨by first | decide | exact Nat.le_of_ble_eq_true rfl | (dsimp only; omega), by first | decide | exact Nat.le_of_ble_eq_true rfl | (dsimp only; omega)⟩) (by rw [hR]; exact ⟨by first | decide | exact Nat.le_of_ble_eq_true rfl | (dsimp only; omega), by first | decide | exact Nat.le_of_ble_eq_true rfl | (dsimp only; omega)⟩) (fun v M hv => ?_)
  obtain ⟨rfl, hs1, hk1⟩ := hv
  have he := hk1 _ _ he (fun e => by have := e.2; omega)
  obtain ⟨hs, hT⟩ := st_toldX hT hs1 hk1 st_spReason
  refine aw_splV (pm := 105) (v := wr (spReason τ w)) (fun K => ?_) ?_
  · refine aw_iload16 X dL_keepsTold_90 ?_
    refine aw_ifeq X dL_keepsTold_92 (tgt := 103) (by decide) (fun c => ?_) (fun c => ?_)
    · refine aw_bipush X dL_keepsTold_103 (v := -101) (by decide) ?_
      refine aw_int (y := wr (spReason τ w)) (by rw [spReason, if_neg (am_bz.mp c)]; rfl) ?_
      exact K
    · have hin := am_bn.mp c
      refine aw_aload14 X dL_keepsTold_95 ?_
      refine aw_iload17 X dL_keepsTold_97 ?_
      refine aw_iald X dL_keepsTold_99 he (rfl : nI (0 + 1 + 1) = nI 2) (show 2 < 3 by decide) (by decide) ?_
      refine aw_goto X dL_keepsTold_100 (tgt := 105) (by decide) ?_
      refine aw_int (y := wr (spReason τ w)) (by rw [spReason, if_pos hin]; exact (hb hin).2.2) ?_
      exact K
  refine aw_icmpeq X dL_keepsTold_105 (tgt := 110) (by decide) (fun _ => ?_) (fun c9 => by first | exact absurd (rfl) c9 | exact absurd c9 (rfl))
  refine aw_iinc17 X dL_keepsTold_110 (by rw [hn]; decide) (am_inc _ 1) rfl ?_
  refine aw_goto X dL_keepsTold_113 (tgt := 72) (by decide) ?_
  refine aw_iload17 X dL_keepsTold_72 ?_
  refine aw_iconst X dL_keepsTold_74 (v := nI 3) (by decide) ?_
  refine aw_icmpge X dL_keepsTold_75 (tgt := 116) (by decide) (fun _ => ?_) (fun c9 => by first | exact absurd (nI_le (show 3 ≤ 0 + 1 + 1 + 1 by decide) (by decide)) c9 | exact absurd c9 (nI_le (show 3 ≤ 0 + 1 + 1 + 1 by decide) (by decide)))
  exact kt_held C hs hT hL
theorem c_L_keepsTold {l : Launch} {G : AG} {M : AM} {x : Nat} {τ : TS} {y : Int32} (hfl : l.stackTraces = false) (S : lS G M x τ) : Cq l G yL_keepsTold cL_keepsTold 24 (some .boolean) rmK M [.ref x, .int y, .ref (x + 280), .ref (x + 281), .ref (x + 282), .ref (x + 283), .ref (x + 284), .ref (x + 285), .ref (x + 286), .ref (x + 287), .ref (x + 288), .ref (x + 289), .ref (x + 290)] ncs (fun v M' => v = some (.int (nI 1)) ∧ lS G M' x τ) := by
  obtain ⟨hs, F, hT, hL⟩ := S
  refine Cq.of (by decide) [some (.ref x), some (.int y), some (.ref (x + 280)), some (.ref (x + 281)), some (.ref (x + 282)), some (.ref (x + 283)), some (.ref (x + 284)), some (.ref (x + 285)), some (.ref (x + 286)), some (.ref (x + 287)), some (.ref (x + 288)), some (.ref (x + 289)), some (.ref (x + 290)), none, none, none, none, none, none, none, none, none, none, none] rfl (Nat.le_of_ble_eq_true rfl) ?_
  intro Z hZ hN
  obtain ⟨rfl, hn, rfl, hR, X, hr, hnm⟩ := hZ
  obtain ⟨vc, vn, vd, va⟩ := hL.2.2.2.2.1
  have C : ktC Z := ⟨X, hn, hR, hr, hN, hfl⟩
  refine aw_bipush X dL_keepsTold_0 (v := nI 16) (by decide) ?_
  refine aw_newI X 16 dL_keepsTold_2 rfl (by decide) (by rw [hR]; exact Nat.le_of_ble_eq_true rfl) (by rw [hR]; exact Nat.le_of_ble_eq_true rfl) ac_int (fun e1 heA1 hlt1 he1 => ?_)
  refine aw_astore13 X dL_keepsTold_4 (by rw [hn]; decide) rfl ?_
  refine aw_iconst X dL_keepsTold_6 (v := nI 3) (by decide) ?_
  refine aw_newI X 3 dL_keepsTold_7 rfl (by decide) (by rw [hR]; exact Nat.le_of_ble_eq_true rfl) (by rw [hR]; exact Nat.le_of_ble_eq_true rfl) ac_int (fun e2 heA2 hlt2 he2 => ?_)
  have h12 := hlt2 _ _ am_ns
  have k1 := ke_nw (e := am_ai (zG Z) 16 (fun _ => 0)) hlt1
  have k2 := ke_nw (e := am_ai (zG Z) 3 (fun _ => 0)) hlt2
  have n2 := am_ns (M := am_nw M e1 (am_ai (zG Z) 16 (fun _ => 0))) (q := e2) (e := am_ai (zG Z) 3 (fun _ => 0))
  have n1 := k2 _ _ am_ns id
  have hx := hlt1 _ _ (hT.at 20 (by decide))
  have k12 := k1.tr k2
  generalize am_nw (am_nw M e1 (am_ai (zG Z) 16 (fun _ => 0))) e2 (am_ai (zG Z) 3 (fun _ => 0)) = M2 at n1 n2 k12
  have hs2 := hs.kk k12
  have hT2 := tbL_nw hT k12
  refine aw_astore14 X dL_keepsTold_9 (by rw [hn]; decide) rfl ?_
  refine aw_iload1 X dL_keepsTold_11 ?_
  refine aw_bipush X dL_keepsTold_12 (v := nI 6) (by decide) ?_
  refine aw_callS X (c_L_some (N := 6) (by decide) (by decide)) kL_136 dL_keepsTold_14 rfl rfl (by first | decide | exact Nat.le_of_ble_eq_true rfl) (by rw [hR]; exact ⟨by first | decide | exact Nat.le_of_ble_eq_true rfl | (dsimp only; omega), by first | decide | exact Nat.le_of_ble_eq_true rfl | (dsimp only; omega)⟩) (by rw [hR]; exact ⟨by first | decide | exact Nat.le_of_ble_eq_true rfl | (dsimp only; omega), by first | decide | exact Nat.le_of_ble_eq_true rfl | (dsimp only; omega)⟩) (fun v M2 hv => ?_)
  obtain ⟨rfl, j0, hj0, rfl⟩ := hv
  refine aw_iconst X dL_keepsTold_17 (v := nI 1) (by decide) ?_
  refine aw_isub X dL_keepsTold_18 ?_
  refine aw_any (fun w => ?_)
  refine aw_istore15 X dL_keepsTold_19 (by rw [hn]; decide) rfl ?_
  refine aw_splB (pm := 40) (P := inI w (tN τ)) (fun K => ?_) ?_
  · refine aw_iload15 X dL_keepsTold_21 ?_
    refine aw_iflt X dL_keepsTold_23 (tgt := 39) (by decide) (fun c => ?_) (fun c => ?_)
    · refine aw_iconst X dL_keepsTold_39 (v := nI 0) (by decide) ?_
      exact aw_b0 (fun e => e.1 c) K
    · refine aw_iload15 X dL_keepsTold_26 ?_
      refine aw_aload9 X dL_keepsTold_28 ?_
      refine aw_iconst X dL_keepsTold_30 (v := nI 0) (by decide) ?_
      refine aw_iald X dL_keepsTold_31 (hT2.at 16 (by decide)) (rfl : nI 0 = nI 0) (show 0 < 1 by decide) (by decide) ?_
      refine aw_int vc ?_
      refine aw_icmpge X dL_keepsTold_32 (tgt := 39) (by decide) (fun c2 => ?_) (fun c2 => ?_)
      · refine aw_iconst X dL_keepsTold_39 (v := nI 0) (by decide) ?_
        exact aw_b0 (fun e => absurd c2 (Int32.not_le.mpr e.2)) K
      · refine aw_iconst X dL_keepsTold_35 (v := nI 1) (by decide) ?_
        refine aw_goto X dL_keepsTold_36 (tgt := 40) (by decide) ?_
        exact aw_b1 (inI_of c c2) K
  refine aw_istore16 X dL_keepsTold_40 (by rw [hn]; decide) rfl ?_
  refine aw_iload16 X dL_keepsTold_42 ?_
  refine aw_ifeq X dL_keepsTold_44 (tgt := 69) (by decide) (fun c => ?_) (fun c => ?_)
  · refine aw_widen (k' := 3) (n' := 35) (Nat.le_of_ble_eq_true rfl) (Nat.le_of_ble_eq_true rfl) ?_
    exact kt_brk C (by omega) hs2 hT2 hL n2 (fun e => absurd e (am_bz.mp c))
  · have hin := am_bn.mp c
    obtain ⟨u1, u2, u3⟩ := inI_j hin (show τ.2.2.2.1.1 < 2 ^ 31 by omega)
    have u1 : ix w < τ.2.2.2.1.1 := u1
    refine aw_iload15 X dL_keepsTold_47 ?_
    refine aw_int u2 ?_
    refine aw_aload2 X dL_keepsTold_49 ?_
    refine aw_aload3 X dL_keepsTold_50 ?_
    refine aw_aload4 X dL_keepsTold_51 ?_
    refine aw_aload5 X dL_keepsTold_53 ?_
    refine aw_aload6 X dL_keepsTold_55 ?_
    refine aw_aload7 X dL_keepsTold_57 ?_
    refine aw_aload8 X dL_keepsTold_59 ?_
    refine aw_aload13 X dL_keepsTold_61 ?_
    refine aw_aload14 X dL_keepsTold_63 ?_
    refine aw_callS X (c_L_rebuild (V := τ.2.2.2.1.2) (n := τ.2.2.2.1.1) ⟨hT2.at 9 (by decide), hT2.at 10 (by decide), hT2.at 11 (by decide), hT2.at 12 (by decide), hT2.at 13 (by decide), hT2.at 14 (by decide), hT2.at 15 (by decide)⟩ n1 n2 ⟨by omega, by omega, by omega, by omega, by omega, by omega, by omega⟩ ⟨by omega, by omega, by omega, by omega, by omega, by omega, by omega, by omega⟩ ⟨vn, vd, va⟩ u1) kL_170 dL_keepsTold_65 rfl rfl (by first | decide | exact Nat.le_of_ble_eq_true rfl) (by rw [hR]; exact ⟨by first | decide | exact Nat.le_of_ble_eq_true rfl | (dsimp only; omega), by first | decide | exact Nat.le_of_ble_eq_true rfl | (dsimp only; omega)⟩) (by rw [hR]; exact ⟨by first | decide | exact Nat.le_of_ble_eq_true rfl | (dsimp only; omega), by first | decide | exact Nat.le_of_ble_eq_true rfl | (dsimp only; omega)⟩) (fun o M3 hv3 => ?_)
    obtain ⟨kb, g, h, u4, u5, hrp⟩ := hv3
    have k13 : KE M M3 (fun _ => False) := fun q y hq _ => kb _ _ (k12 q y hq id) (fun e => by have := hlt1 q y hq; rcases e with e | e <;> omega)
    have hw : ∃ v9, o = some (.int v9) := by
      obtain ⟨r1, -⟩ := hrp
      cases hrb : rbv τ.2.2.2.1.2 (ix w) with
      | inl rb => rw [hrb] at r1; exact ⟨_, r1.1⟩
      | inr p => rw [hrb] at r1; exact ⟨_, r1⟩
    obtain ⟨v9, rfl⟩ := hw
    refine aw_pop X dL_keepsTold_68 rfl ?_
    exact kt_brk C (by omega) (hs.kk k13) (tbL_nw hT k13) hL u5 (fun _ => hrp.2)
