theorem aw_joinB {Z : AZ} {Q : State → Prop} {k n pc : Nat} {M : AM} {L : List (Option Value)} {st : List Value} {ι : Type} (P : ι → Prop) (FM : ι → AM) (pm : Nat) (FL : ι → List (Option Value)) (K : ∀ i, P i → AW Z Q (FM i) k n pm (FL i) []) (H : (∀ i, P i → AW Z Q (FM i) k n pm (FL i) []) → AW Z Q M k n pc L st) : AW Z Q M k n pc L st := H K
theorem lowest_at {P : Nat → Bool} {q : Nat} (h : ∀ i, i < q → P i = false) (hq : P q = true) : ∀ {n : Nat}, q < n → lowest P n = some q
  | 0, hn => absurd hn (Nat.not_lt_zero _)
  | n + 1, hn => by
    rw [lowest]
    by_cases e : q = n
    · subst e
      rw [lowest_off h]
      dsimp only
      rw [hq]
      rfl
    · rw [lowest_at h hq (by omega)]
abbrev frP (τ : TS) : Nat → Bool := fun i => (τ.2.2.2.2.2 i).isNone
abbrev frQ (τ : TS) (q : Nat) : Prop := (q = 12 ∧ lowest (frP τ) 12 = none) ∨ (q < 12 ∧ lowest (frP τ) 12 = some q)
theorem spStore_yes {τ : TS} {f : Int32} {q : Nat} (h : isF τ f) (e : lowest (frP τ) 12 = some q) : spStore τ f = (0, nI q, setP τ q (some (cs τ.2.2.2.2.1 (tF τ f) (tF τ f).length).1)) := by
  rw [spStore, if_pos h, show lowest (fun i => (τ.2.2.2.2.2 i).isNone) 12 = some q from e]
theorem spStore_no {τ : TS} {f : Int32} {q : Nat} (hq : frQ τ q) (h : ¬ (isF τ f ∧ q < 12)) : spStore τ f = (thB (isF τ f) (q < 12), 0, τ) := by
  by_cases h1 : isF τ f
  · rcases hq with ⟨e, e2⟩ | ⟨e, e2⟩
    · rw [thB, if_pos h1, if_neg (by omega), spStore, if_pos h1, show lowest (fun i => (τ.2.2.2.2.2 i).isNone) 12 = none from e2]
    · exact absurd ⟨h1, e⟩ h
  · rw [spStore, thB, if_neg h1, if_neg h1]
theorem cs_okP {g : Nat × Nat × Nat} {bs : List Int32} (h0 : 0 < g.2.1) (h40 : g.2.1 ≤ 40) (hb : bs.length ≤ 120) : okP (cs g bs bs.length).1 := by
  obtain ⟨-, -, a3, -, a5, -⟩ := cs_inv (bs := bs) h0 h40 bs.length (Nat.le_refl _)
  exact ⟨by rw [cs_flat h0 h40]; exact hb, by omega, a5⟩
theorem getD_sn {l : List (List Int32)} {x : List Int32} {j : Nat} (h : j < l.length + 1) : (l ++ [x]).getD j [] = if j = l.length then x else l.getD j [] := getD_app l x [] j h
/-- the arrays of a paper on its way -/
def stRel (A B : MA) (q k : Nat) (g : Nat × Nat × Nat) (bs : List Int32) : Prop := (∀ a, a < 23 ∨ 26 < a → B a = A a) ∧ B 23 = upd (A 23) q (nI 1) ∧ (∀ j, j ≠ q → B 24 j = A 24 j) ∧ B 24 q = nI (cs g bs k).1.length ∧ (∀ j, j < 120 * q ∨ 120 * q + 120 ≤ j → B 25 j = A 25 j ∧ B 26 j = A 26 j) ∧ (∀ j, j < (cs g bs k).1.length → B 25 (120 * q + j) = nI ((cs g bs k).1.getD j []).length) ∧ ∀ j, j < k → B 26 (120 * q + j) = bs.getD j 0
theorem c_X9_store {l : Launch} {G : AG} {M0 M : AM} {y t : Nat} {τ : TS} {f : Int32} (hm : isMD G M0 M y τ t) : Cn l G yX9_store cX9_store 5 (some .int) rX9_store M [.ref y, .int f] (MP Value.int G M y (spStore τ f)) := by
  obtain ⟨A, S, c, h0, hr0, -⟩ := hm
  have h := h0.base
  have q8 := hr0.2.2.2.2.2.2.2
  have q2 := hr0.2.1
  obtain ⟨g1, g2, g3, g4, g5, g6, g7, g8, g9⟩ := hr0.2.2.2.2.2.2.1
  have q0 := hr0.1.1
  have q1 := hr0.1.2
  refine Cn.of (by decide) [some (.ref y), some (.int f), none, none, none] rfl (Nat.le_of_ble_eq_true rfl) ?_
  intro Z hZ
  obtain ⟨rfl, hn, rfl, hR, X, hr, hnm⟩ := hZ
  refine aw_iconst X dX9_store_0 (v := nI 0) (by decide) ?_
  refine aw_istore2 X dX9_store_1 (by rw [hn]; decide) rfl ?_
  refine aw_joinB (ι := Nat) (frQ τ) (fun _ => M) 23 (fun q => [some (.ref y), some (.int f), some (.int (nI q)), none, none]) (fun q hq => ?_) (fun K => ?_)
  · refine aw_aload0 X dX9_store_23 ?_
    refine aw_aload0 X dX9_store_24 ?_
    refine aw_iload1 X dX9_store_25 ?_
    refine aw_callV X (c_X9_isFile h q0) kX9_114 (ci := 10) rfl (h.at) dX9_store_26 rfl rfl (by first | decide | exact Nat.le_of_ble_eq_true rfl) (by rw [hR]; exact ⟨by first | decide | exact Nat.le_of_ble_eq_true rfl | (dsimp only; omega), by first | decide | exact Nat.le_of_ble_eq_true rfl | (dsimp only; omega)⟩) (by rw [hR]; exact ⟨by first | decide | exact Nat.le_of_ble_eq_true rfl | (dsimp only; omega), by first | decide | exact Nat.le_of_ble_eq_true rfl | (dsimp only; omega)⟩) (fun o M1 hv => ?_)
    obtain ⟨rfl, rfl⟩ := hv
    have hq12 : q ≤ 12 := by rcases hq with ⟨e, -⟩ | ⟨e, -⟩ <;> omega
    refine aw_merge (q < 12) 40 [some (.ref y), some (.int f), some (.int (nI q)), none, none] [.int (am_b (isF τ f)), .ref y] ?_ (fun K => ?_)
    · refine aw_callV X (c_X9_mayBoth h) kX9_121 (ci := 10) rfl (h.at) dX9_store_40 rfl rfl (by first | decide | exact Nat.le_of_ble_eq_true rfl) (by rw [hR]; exact ⟨by first | decide | exact Nat.le_of_ble_eq_true rfl | (dsimp only; omega), by first | decide | exact Nat.le_of_ble_eq_true rfl | (dsimp only; omega)⟩) (by rw [hR]; exact ⟨by first | decide | exact Nat.le_of_ble_eq_true rfl | (dsimp only; omega), by first | decide | exact Nat.le_of_ble_eq_true rfl | (dsimp only; omega)⟩) (fun o M2 hv => ?_)
      obtain ⟨rfl, h1⟩ := hv
      refine aw_ifne X dX9_store_43 (tgt := 48) (by decide) (fun c1 => ?_) (fun c1 => ?_)
      · have hp : isF τ f ∧ q < 12 := Decidable.byContradiction (fun e => c1 (am_bz.mpr e))
        have hlow : lowest (frP τ) 12 = some q := by
          rcases hq with ⟨e, -⟩ | ⟨-, e⟩
          · have := hp.2; omega
          · exact e
        obtain ⟨j1, j2, j3⟩ := inI_j hp.1 (by omega)
        have hq' := hp.2
        have fl := q2 (ix f) (by omega)
        have hbl := fl.1
        obtain ⟨bs, hbs⟩ : ∃ bs, bs = tF τ f := ⟨_, rfl⟩
        rw [show τ.1.2 (ix f) = bs from hbs.symm] at fl hbl
        obtain ⟨g, hg⟩ : ∃ g, g = τ.2.2.2.2.1 := ⟨_, rfl⟩
        rw [← hg] at g1 g2 g3 g4 g5 g6 g7 g8 g9
        refine aw_aload0 X dX9_store_48 ?_
        refine aw_get X fX9_88 dX9_store_49 (h1.at) rfl ?_
        refine aw_iload2 X dX9_store_52 ?_
        refine aw_iconst X dX9_store_53 (v := nI 1) (by decide) ?_
        refine aw_msz X 23 dX9_store_54 h1 rfl rfl (by omega) (by decide) rfl (fun M3 h3 => ?_)
        refine aw_aload0 X dX9_store_55 ?_
        refine aw_get X fX9_91 dX9_store_56 (h3.at) rfl ?_
        refine aw_iload2 X dX9_store_59 ?_
        refine aw_iconst X dX9_store_60 (v := nI 0) (by decide) ?_
        refine aw_mst X 24 dX9_store_61 h3 rfl rfl (by omega) (by decide) (fun M4 h4 => ?_)
        have s0 : stRel A (va_up (va_up A 23 (upd (A 23) q (nI 1))) 24 (upd (A 24) q (nI 0))) q 0 g bs := ⟨fun a ha => (va_up_ne _ _ (by omega)).trans (va_up_ne _ _ (by omega)), rfl, fun j hj => pk_un hj, pk_us, fun j hj => ⟨rfl, rfl⟩, fun j hj => absurd hj (Nat.not_lt_zero _), fun j hj => absurd hj (Nat.not_lt_zero _)⟩
        obtain ⟨B0, hB0⟩ : ∃ B0, B0 = va_up (va_up A 23 (upd (A 23) q (nI 1))) 24 (upd (A 24) q (nI 0)) := ⟨_, rfl⟩
        have h4 : md (zG Z) M1 M4 y B0 S (va_up c 35 (nI (thB (isF τ f) (q < 12)))) := by rw [hB0]; exact h4
        rw [← hB0] at s0
        clear h1 h3
        refine aw_iconst X dX9_store_62 (v := nI 0) (by decide) ?_
        refine aw_istore3 X dX9_store_63 (by rw [hn]; decide) rfl ?_
        refine aw_iconst X dX9_store_64 (v := nI 0) (by decide) ?_
        refine aw_istore4 X dX9_store_65 (by rw [hn]; decide) rfl ?_
        refine aw_loop (σ := Nat × MA × AM) (fun i => i.1 ≤ bs.length ∧ md (zG Z) M1 i.2.2 y i.2.1 S (va_up c 35 (nI (thB (isF τ f) (q < 12)))) ∧ stRel A i.2.1 q i.1 g bs) (fun i => bs.length - i.1) (fun i => i.2.2) (fun i => [some (.ref y), some (.int f), some (.int (nI q)), some (.int (nI (i.1 - (cs g bs i.1).2))), some (.int (nI i.1))]) ?_ (0, B0, M4) ⟨Nat.zero_le _, h4, s0⟩
        rintro ⟨k, B, M5⟩ ⟨hk, h5, s5⟩ ih
        try dsimp only at hk h5 s5 ih ⊢
        obtain ⟨b0, b23, b24, b24q, b25, bl, bb⟩ := id s5
        obtain ⟨a1, a2, a3, -, -, -⟩ := cs_inv (bs := bs) (g := g) (by omega) g7 k hk
        have fl5 : flRel B (ix f) bs := fl.cg (b0 1 (by omega)) (b0 2 (by omega))
        refine aw_iload4 X dX9_store_67 ?_
        refine aw_aload0 X dX9_store_69 ?_
        refine aw_get X fX9_7 dX9_store_70 (h5.at) rfl ?_
        refine aw_iload1 X dX9_store_73 ?_
        refine aw_iald X dX9_store_74 (h5.ai 1 rfl) j2 (by omega) (by decide) ?_
        refine aw_int (y := nI bs.length) fl5.2.1 ?_
        refine aw_icmpge X dX9_store_75 (tgt := 190) (by decide) (fun c2 => ?_) (fun c2 => ?_)
        · have e : k = bs.length := by have := (nI_leI (by omega) (by omega)).mp c2; omega
          subst e
          have hpr : pRel B q (some (cs g bs bs.length).1) := ⟨by rw [b23]; exact pk_us, cs_okP (by omega) g7 hbl, b24q, bl, fun j hj => by rw [cs_flat (by omega) g7] at hj ⊢; exact bb j hj⟩
          refine aw_iload2 X dX9_store_190 ?_
          refine aw_ireturn X (ty := .int) hr (by first | rfl | decide | assumption) dX9_store_191 (MP.of (k := 0) (by rw [spStore_yes hp.1 hlow, ← hbs, ← hg]) h5 (mRel.pap hr0 (fun a ha => b0 a (by omega)) (fun j hj => ⟨by rw [b23]; exact pk_un hj, b24 j hj⟩) b25 hpr rfl rfl rfl rfl rfl) (by show nI (thB (isF τ f) (q < 12)) = nI 0; rw [thB, if_pos hp.1, if_pos hp.2]))
        · have hlt : k < bs.length := by
            rcases Nat.lt_or_ge k bs.length with q | q
            · exact q
            · exact absurd (nI_le q (by omega)) c2
          refine aw_aload0 X dX9_store_78 ?_
          refine aw_get X fX9_97 dX9_store_79 (h5.at) rfl ?_
          refine aw_bipush X dX9_store_82 (v := nI 120) (by decide) ?_
          refine aw_iload2 X dX9_store_84 ?_
          refine aw_imul X dX9_store_85 ?_
          first | with_reducible refine aw_int (pk_mul _ _) ?_ | skip
          refine aw_iload4 X dX9_store_86 ?_
          refine aw_iadd X dX9_store_88 ?_
          first | with_reducible refine aw_int (nI_add _ _) ?_ | skip
          refine aw_aload0 X dX9_store_89 ?_
          refine aw_get X fX9_13 dX9_store_90 (h5.at) rfl ?_
          refine aw_bipush X dX9_store_93 (v := nI 120) (by decide) ?_
          refine aw_iload1 X dX9_store_95 ?_
          refine aw_imul X dX9_store_96 ?_
          refine aw_iload4 X dX9_store_97 ?_
          refine aw_iadd X dX9_store_99 ?_
          refine aw_int (ix_add j2) ?_
          refine aw_iald X dX9_store_100 (h5.ai 2 rfl) rfl (by omega) (by decide) ?_
          refine aw_int (y := bs.getD k 0) (fl5.2.2 k hlt) ?_
          refine aw_mst X 26 dX9_store_101 h5 rfl rfl (by omega) (by decide) (fun M6 h6 => ?_)
          obtain ⟨B6, hB6⟩ : ∃ B6, B6 = va_up B 26 (upd (B 26) (120 * q + k) (bs.getD k 0)) := ⟨_, rfl⟩
          have h6 : md (zG Z) M1 M6 y B6 S (va_up c 35 (nI (thB (isF τ f) (q < 12)))) := by rw [hB6]; exact h6
          have e25 : B6 25 = B 25 := by rw [hB6]; rfl
          have e24 : B6 24 = B 24 := by rw [hB6]; rfl
          have e23 : B6 23 = B 23 := by rw [hB6]; rfl
          have e0 : ∀ a, a < 23 ∨ 26 < a → B6 a = A a := fun a ha => by rw [hB6]; exact (va_up_ne _ _ (by omega)).trans (b0 a ha)
          have e26 : ∀ j, j < 120 * q ∨ 120 * q + 120 ≤ j → B6 26 j = A 26 j := fun j hj => by rw [hB6]; exact (pk_un (by omega)).trans (b25 j hj).2
          have e26b : ∀ j, j < k + 1 → B6 26 (120 * q + j) = bs.getD j 0 := fun j hj => by
            rw [hB6]
            show upd (B 26) (120 * q + k) (bs.getD k 0) (120 * q + j) = _
            by_cases e : j = k
            · rw [e, pk_us]
            · rw [pk_un (by omega)]
              exact bb j (by omega)
          have fl6 : flRel B6 (ix f) bs := fl.cg (e0 1 (by omega)) (e0 2 (by omega))
          have x28 : (va_up c 35 (nI (thB (isF τ f) (q < 12)))) 28 = nI g.1 := g1
          have x29 : (va_up c 35 (nI (thB (isF τ f) (q < 12)))) 29 = nI g.2.1 := g2
          have x30 : (va_up c 35 (nI (thB (isF τ f) (q < 12)))) 30 = nI g.2.2 := g3
          clear h5 hB6
          refine aw_iinc3 X dX9_store_102 (by rw [hn]; decide) (am_inc _ 1) rfl ?_
          rw [show k - (cs g bs k).2 + 1 = k + 1 - (cs g bs k).2 by omega]
          refine aw_joinA (ι := Unit) (fun _ => endB g bs k (k + 1 - (cs g bs k).2)) (fun _ => M6) 155 [some (.ref y), some (.int f), some (.int (nI q)), some (.int (nI (k + 1 - (cs g bs k).2))), some (.int (nI k))] (fun _ hc => ?_) (fun Kc => ?_)
          · have es : cs g bs (k + 1) = ((cs g bs k).1 ++ [(bs.drop (cs g bs k).2).take (k + 1 - (cs g bs k).2)], k + 1) := by rw [cs, if_pos hc]
            refine aw_aload0 X dX9_store_155 ?_
            refine aw_get X fX9_94 dX9_store_156 (h6.at) rfl ?_
            refine aw_bipush X dX9_store_159 (v := nI 120) (by decide) ?_
            refine aw_iload2 X dX9_store_161 ?_
            refine aw_imul X dX9_store_162 ?_
            first | with_reducible refine aw_int (pk_mul _ _) ?_ | skip
            refine aw_aload0 X dX9_store_163 ?_
            refine aw_get X fX9_91 dX9_store_164 (h6.at) rfl ?_
            refine aw_iload2 X dX9_store_167 ?_
            refine aw_iald X dX9_store_168 (h6.ai 24 rfl) rfl (by omega) (by decide) ?_
            refine aw_int (y := nI (cs g bs k).1.length) (by rw [e24]; exact b24q) ?_
            refine aw_iadd X dX9_store_169 ?_
            first | with_reducible refine aw_int (nI_add _ _) ?_ | skip
            refine aw_iload3 X dX9_store_170 ?_
            refine aw_mst X 25 dX9_store_171 h6 rfl rfl (by omega) (by decide) (fun M7 h7 => ?_)
            refine aw_aload0 X dX9_store_172 ?_
            refine aw_get X fX9_91 dX9_store_173 (h7.at) rfl ?_
            refine aw_iload2 X dX9_store_176 ?_
            refine aw_dup2 X dX9_store_177 rfl rfl ?_
            refine aw_iald X dX9_store_178 (h7.ai 24 rfl) rfl (by omega) (by decide) ?_
            refine aw_int (y := nI (cs g bs k).1.length) (by show B6 24 q = _; rw [e24]; exact b24q) ?_
            refine aw_iconst X dX9_store_179 (v := nI 1) (by decide) ?_
            refine aw_iadd X dX9_store_180 ?_
            first | with_reducible refine aw_int (nI_add _ _) ?_ | skip
            refine aw_mst X 24 dX9_store_181 h7 rfl rfl (by omega) (by decide) (fun M8 h8 => ?_)
            refine aw_iconst X dX9_store_182 (v := nI 0) (by decide) ?_
            refine aw_istore3 X dX9_store_183 (by rw [hn]; decide) rfl ?_
            refine aw_iinc4 X dX9_store_184 (by rw [hn]; decide) (am_inc _ 1) rfl ?_
            refine aw_goto X dX9_store_187 (tgt := 67) (by decide) ?_
            have q := ih (k + 1, va_up (va_up B6 25 (upd (B6 25) (120 * q + (cs g bs k).1.length) (nI (k + 1 - (cs g bs k).2)))) 24 (upd ((va_up B6 25 (upd (B6 25) (120 * q + (cs g bs k).1.length) (nI (k + 1 - (cs g bs k).2)))) 24) q (nI ((cs g bs k).1.length + 1))), M8) ⟨hlt, h8, fun a ha => (va_up_ne _ _ (by omega)).trans ((va_up_ne _ _ (by omega)).trans (e0 a ha)), e23.trans b23, fun j hj => ?_, ?_, fun j hj => ⟨?_, e26 j hj⟩, ?_, e26b⟩ (by dsimp only; omega)
            · dsimp only at q
              rw [es] at q
              dsimp only at q
              rw [Nat.sub_self] at q
              exact q
            · show upd (B6 24) _ _ j = _
              rw [pk_un hj, e24]
              exact b24 j hj
            · show upd (B6 24) _ _ _ = _
              rw [pk_us]
              dsimp only
              rw [es, List.length_append]
              rfl
            · show upd (B6 25) _ _ j = _
              rw [pk_un (by omega), e25]
              exact (b25 j hj).1
            · dsimp only
              rw [es]
              dsimp only
              intro j hj
              rw [List.length_append] at hj
              have hj : j < (cs g bs k).1.length + 1 := hj
              rw [getD_sn hj]
              show upd (B6 25) _ _ _ = _
              by_cases e : j = (cs g bs k).1.length
              · rw [if_pos e, e, pk_us, sl_len (by omega)]
              · rw [if_neg e, pk_un (by omega), e25]
                exact bl j (by omega)
          · refine aw_joinA (ι := Unit) (fun _ => ¬ endB g bs k (k + 1 - (cs g bs k).2)) (fun _ => M6) 184 [some (.ref y), some (.int f), some (.int (nI q)), some (.int (nI (k + 1 - (cs g bs k).2))), some (.int (nI k))] (fun _ hc => ?_) (fun Kn => ?_)
            · have es : cs g bs (k + 1) = cs g bs k := by rw [cs, if_neg hc]
              refine aw_iinc4 X dX9_store_184 (by rw [hn]; decide) (am_inc _ 1) rfl ?_
              refine aw_goto X dX9_store_187 (tgt := 67) (by decide) ?_
              have q := ih (k + 1, B6, M6) ⟨hlt, h6, e0, e23.trans b23, fun j hj => (congrFun e24 j).trans (b24 j hj), by dsimp only; rw [es, e24]; exact b24q, fun j hj => ⟨(congrFun e25 j).trans (b25 j hj).1, e26 j hj⟩, by dsimp only; rw [es, e25]; exact bl, e26b⟩ (by dsimp only; omega)
              dsimp only at q
              rw [es] at q
              exact q
            · clear ih
              refine aw_iload3 X dX9_store_105 ?_
              refine aw_aload0 X dX9_store_106 ?_
              refine aw_get X fX9_82 dX9_store_107 (h6.at) rfl ?_
              refine aw_int x29 ?_
              refine aw_icmpeq X dX9_store_110 (tgt := 155) (by decide) (fun c3 => ?_) (fun c3 => ?_)
              · exact Kc () (Or.inl (by have := (nI_eq (by omega) (by omega)).mp c3; omega))
              · have n1 : ¬ g.2.1 ≤ k + 1 - (cs g bs k).2 := fun e => c3 (by congr 1; omega)
                refine aw_joinA (ι := Unit) (fun _ => ¬ (g.1 ≤ k + 1 - (cs g bs k).2 ∧ hI bs k - hI bs k / nI g.2.2 * nI g.2.2 = nI (g.2.2 - 1))) (fun _ => M6) 142 [some (.ref y), some (.int f), some (.int (nI q)), some (.int (nI (k + 1 - (cs g bs k).2))), some (.int (nI k))] (fun _ hc => ?_) (fun K3 => ?_)
                · refine aw_iload4 X dX9_store_142 ?_
                  refine aw_aload0 X dX9_store_144 ?_
                  refine aw_get X fX9_7 dX9_store_145 (h6.at) rfl ?_
                  refine aw_iload1 X dX9_store_148 ?_
                  refine aw_iald X dX9_store_149 (h6.ai 1 rfl) j2 (by omega) (by decide) ?_
                  refine aw_int (y := nI bs.length) fl6.2.1 ?_
                  refine aw_iconst X dX9_store_150 (v := nI 1) (by decide) ?_
                  refine aw_isub X dX9_store_151 ?_
                  first | with_reducible refine aw_int (pk_sub (by omega)) ?_ | skip
                  refine aw_icmpne X dX9_store_152 (tgt := 184) (by decide) (fun c4 => ?_) (fun c4 => ?_)
                  · refine Kn () ?_
                    rintro (e | e | e)
                    · exact n1 e
                    · exact c4 (by congr 1; omega)
                    · exact hc e
                  · exact Kc () (Or.inr (Or.inl (by have := (nI_eq (by omega) (by omega)).mp c4; omega)))
                · refine aw_iload3 X dX9_store_113 ?_
                  refine aw_aload0 X dX9_store_114 ?_
                  refine aw_get X fX9_78 dX9_store_115 (h6.at) rfl ?_
                  refine aw_int x28 ?_
                  refine aw_icmplt X dX9_store_118 (tgt := 142) (by decide) (fun c4 => ?_) (fun c4 => ?_)
                  · exact K3 () (fun e => by have := (nI_ltI (by omega) (by omega)).mp c4; omega)
                  · have hge : g.1 ≤ k + 1 - (cs g bs k).2 := by
                      rcases Nat.lt_or_ge (k + 1 - (cs g bs k).2) g.1 with q | q
                      · exact absurd (nI_lt q (by omega)) c4
                      · exact q
                    refine aw_aload0 X dX9_store_121 ?_
                    refine aw_iload1 X dX9_store_122 ?_
                    refine aw_iload4 X dX9_store_123 ?_
                    refine aw_callV X (c_X9_hash h6 j2 (by omega) fl6 hlt) kX9_205 (ci := 10) rfl (h6.at) dX9_store_125 rfl rfl (by first | decide | exact Nat.le_of_ble_eq_true rfl) (by rw [hR]; exact ⟨by first | decide | exact Nat.le_of_ble_eq_true rfl | (dsimp only; omega), by first | decide | exact Nat.le_of_ble_eq_true rfl | (dsimp only; omega)⟩) (by rw [hR]; exact ⟨by first | decide | exact Nat.le_of_ble_eq_true rfl | (dsimp only; omega), by first | decide | exact Nat.le_of_ble_eq_true rfl | (dsimp only; omega)⟩) (fun o M7 hv => ?_)
                    obtain ⟨rfl, rfl⟩ := hv
                    refine aw_aload0 X dX9_store_128 ?_
                    refine aw_get X fX9_85 dX9_store_129 (h6.at) rfl ?_
                    refine aw_int x30 ?_
                    refine aw_irem X dX9_store_132 (nI_ne0 g8 (by omega)) ?_
                    refine aw_aload0 X dX9_store_133 ?_
                    refine aw_get X fX9_85 dX9_store_134 (h6.at) rfl ?_
                    refine aw_int x30 ?_
                    refine aw_iconst X dX9_store_137 (v := nI 1) (by decide) ?_
                    refine aw_isub X dX9_store_138 ?_
                    first | with_reducible refine aw_int (pk_sub (by omega)) ?_ | skip
                    refine aw_icmpeq X dX9_store_139 (tgt := 155) (by decide) (fun c5 => ?_) (fun c5 => ?_)
                    · exact Kc () (Or.inr (Or.inr ⟨hge, c5⟩))
                    · exact K3 () (fun e => c5 e.2)
      · have hno := am_bz.mp c1
        refine aw_iconst X dX9_store_46 (v := nI 0) (by decide) ?_
        refine aw_ireturn X (ty := .int) hr (by first | rfl | decide | assumption) dX9_store_47 (MP.of (spStore_no hq hno) h1 hr0.t (va_up_self _ _ _))
    · refine aw_iload2 X dX9_store_29 ?_
      refine aw_bipush X dX9_store_30 (v := nI 12) (by decide) ?_
      refine aw_icmpge X dX9_store_32 (tgt := 39) (by decide) (fun c1 => ?_) (fun c1 => ?_)
      · refine aw_iconst X dX9_store_39 (v := nI 0) (by decide) ?_
        exact aw_b0 (fun e => by have := (nI_leI (by omega) (by omega)).mp c1; omega) K
      · have hlt : q < 12 := by
          rcases Nat.lt_or_ge q 12 with q | q
          · exact q
          · exact absurd (nI_le q (by omega)) c1
        refine aw_iconst X dX9_store_35 (v := nI 1) (by decide) ?_
        refine aw_goto X dX9_store_36 (tgt := 40) (by decide) ?_
        exact aw_b1 (hlt) K
  · refine aw_loop (σ := Nat) (fun i => i ≤ 12 ∧ ∀ j, j < i → frP τ j = false) (fun i => 12 - i) (fun _ => M) (fun i => [some (.ref y), some (.int f), some (.int (nI i)), none, none]) ?_ 0 ⟨Nat.zero_le _, fun j hj => absurd hj (Nat.not_lt_zero _)⟩
    rintro i ⟨hi, hl⟩ ih
    try dsimp only at hi hl ih ⊢
    refine aw_iload2 X dX9_store_2 ?_
    refine aw_bipush X dX9_store_3 (v := nI 12) (by decide) ?_
    refine aw_icmpge X dX9_store_5 (tgt := 23) (by decide) (fun c1 => ?_) (fun c1 => ?_)
    · have e : i = 12 := by have := (nI_leI (by omega) (by omega)).mp c1; omega
      subst e
      exact K 12 (Or.inl ⟨rfl, lowest_off hl⟩)
    · have hlt : i < 12 := by
        rcases Nat.lt_or_ge i 12 with q | q
        · exact q
        · exact absurd (nI_le q (by omega)) c1
      refine aw_aload0 X dX9_store_8 ?_
      refine aw_get X fX9_88 dX9_store_9 (h.at) rfl ?_
      refine aw_iload2 X dX9_store_12 ?_
      refine aw_zald X dX9_store_13 (h.az 23 rfl) rfl (by omega) (by decide) ?_
      refine aw_int ((q8 i hlt).st) ?_
      by_cases hs : (τ.2.2.2.2.2 i).isSome = true
      · rw [if_pos hs]
        have hnn : frP τ i = false := by
          show (τ.2.2.2.2.2 i).isNone = false
          cases hx : τ.2.2.2.2.2 i with
          | none => rw [hx] at hs; cases hs
          | some _ => rfl
        refine aw_ifeq X dX9_store_14 (tgt := 23) (by decide) (fun c9 => by first | exact absurd ((by decide : ¬ nI 1 = 0)) c9 | exact absurd c9 ((by decide : ¬ nI 1 = 0))) (fun _ => ?_)
        refine aw_iinc2 X dX9_store_17 (by rw [hn]; decide) (am_inc _ 1) rfl ?_
        refine aw_goto X dX9_store_20 (tgt := 2) (by decide) ?_
        refine ih (i + 1) ⟨hlt, fun j hj => ?_⟩ (by omega)
        by_cases e : j = i
        · rw [e]
          exact hnn
        · exact hl j (by omega)
      · rw [if_neg hs]
        have hnn : frP τ i = true := by
          show (τ.2.2.2.2.2 i).isNone = true
          cases hx : τ.2.2.2.2.2 i with
          | none => rfl
          | some _ => rw [hx] at hs; exact absurd rfl hs
        refine aw_ifeq X dX9_store_14 (tgt := 23) (by decide) (fun _ => ?_) (fun c9 => by first | exact absurd ((rfl : nI 0 = 0)) c9 | exact absurd c9 ((rfl : nI 0 = 0)))
        exact K i (Or.inr ⟨hlt, lowest_at hl hnn hlt⟩)
