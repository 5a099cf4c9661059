/-! the law: signatures, comparisons, deltas that are applied -/
theorem le0_lt1 (x : Int32) : x ≤ 0 ↔ x < nI 1 := by
  rw [Int32.le_iff_toInt_le, Int32.lt_iff_toInt_lt, show (0 : Int32).toInt = 0 from by decide, show (nI 1).toInt = 1 from by decide]
  omega
theorem le_succ {n : Nat} (hn : n + 1 < 2 ^ 31) (x : Int32) : nI (n + 1) ≤ x ↔ ¬ x ≤ nI n := by
  rw [Int32.le_iff_toInt_le, Int32.le_iff_toInt_le, nI_toInt hn, nI_toInt (show n < 2 ^ 31 by omega)]
  omega
theorem lR.sigs {F F' : Nat → Nat → Int32} {τ : TS} {sg : Nat → SG} (h : lR F τ) (hf : sigsR (F' 2) (F' 3) sg) (ho : ∀ j, j ≠ 2 → j ≠ 3 → F' j = F j) : lR F' (τ.1, sg, τ.2.2) := by
  obtain ⟨h1, h2, -, h4, h5, h6, h7⟩ := h
  refine ⟨h1, ?_, hf, ?_, ?_, ?_, ?_⟩
  · rw [ho 0 (by decide) (by decide), ho 1 (by decide) (by decide)]
    exact h2
  · rw [ho 4 (by decide) (by decide), ho 5 (by decide) (by decide), ho 6 (by decide) (by decide), ho 7 (by decide) (by decide), ho 8 (by decide) (by decide)]
    exact h4
  · rw [ho 9 (by decide) (by decide), ho 10 (by decide) (by decide), ho 11 (by decide) (by decide), ho 12 (by decide) (by decide), ho 13 (by decide) (by decide), ho 14 (by decide) (by decide), ho 15 (by decide) (by decide), ho 16 (by decide) (by decide)]
    exact h5
  · rw [ho 20 (by decide) (by decide)]
    exact h6
  · rw [ho 17 (by decide) (by decide), ho 18 (by decide) (by decide), ho 19 (by decide) (by decide)]
    exact h7
theorem lR.dels {F F' : Nat → Nat → Int32} {τ : TS} {dl : Nat → DL} (h : lR F τ) (hf : delsR (F' 4) (F' 5) (F' 6) (F' 7) (F' 8) dl) (ho : ∀ j, j < 4 ∨ 8 < j → F' j = F j) : lR F' (τ.1, τ.2.1, dl, τ.2.2.2) := by
  obtain ⟨h1, h2, h3, -, h5, h6, h7⟩ := h
  refine ⟨h1, ?_, ?_, hf, ?_, ?_, ?_⟩
  · rw [ho 0 (by decide), ho 1 (by decide)]
    exact h2
  · rw [ho 2 (by decide), ho 3 (by decide)]
    exact h3
  · rw [ho 9 (by decide), ho 10 (by decide), ho 11 (by decide), ho 12 (by decide), ho 13 (by decide), ho 14 (by decide), ho 15 (by decide), ho 16 (by decide)]
    exact h5
  · rw [ho 20 (by decide)]
    exact h6
  · rw [ho 17 (by decide), ho 18 (by decide), ho 19 (by decide)]
    exact h7
/-- the tables with five of them from elsewhere -/
def mix (a : Nat) (F G : Nat → Nat → Int32) : Nat → Nat → Int32 := fun j => if a ≤ j ∧ j < a + 5 then G (j - a) else F j
theorem mix_in {a j : Nat} {F G : Nat → Nat → Int32} (h : j < 5) : mix a F G (a + j) = G j := by
  unfold mix
  rw [if_pos (by omega), Nat.add_sub_cancel_left]
theorem mix_out {a j : Nat} {F G : Nat → Nat → Int32} (h : j < a ∨ a + 5 ≤ j) : mix a F G j = F j := by
  unfold mix
  rw [if_neg (by omega)]
theorem tb5 {G : AG} {x a : Nat} {M0 M : AM} {F : Nat → Nat → Int32} (h : tbL G x M0 M F) (ha : a + 5 ≤ 21) (hz : ∀ j, j < 5 → szL (a + j) = sz5 j) : tbM G sz5 5 (x + 271 + a) M M (fun j => F (a + j)) := by
  refine ⟨fun j hj => ?_, KE.rf⟩
  have q := h.1 (a + j) (by omega)
  rw [hz j hj, ← Nat.add_assoc] at q
  exact q
theorem tb5_back {G : AG} {x a : Nat} {M0 M M' : AM} {F F' : Nat → Nat → Int32} (h : tbL G x M0 M F) (ha : a + 5 ≤ 21) (hz : ∀ j, j < 5 → szL (a + j) = sz5 j) (h' : tbM G sz5 5 (x + 271 + a) M M' F') : tbL G x M0 M' (mix a F F') := by
  refine ⟨fun j hj => ?_, h.2.tr (h'.2.mono (fun q e => by omega))⟩
  by_cases e : a ≤ j ∧ j < a + 5
  · obtain ⟨t, rfl⟩ : ∃ t, j = a + t := ⟨j - a, by omega⟩
    rw [mix_in (by omega), hz t (by omega), ← Nat.add_assoc]
    exact h'.1 t (by omega)
  · rw [mix_out (by omega)]
    exact h'.2 _ _ (h.1 j hj) (by omega)
theorem cmps_len {s : SG} {bs : List Int32} (hs : sgV s) : (cmps s bs).1.length ≤ bs.length := (crun_V (bs := bs) hs bs.length 0 ([], none, 0) (by omega) (by omega) (cinv_0 s)).1
theorem cmpD_dV {s : SG} {bs : List Int32} (hs : sgV s) (hl : bs.length ≤ 16) (hb : byB bs) : dV (cmpD s bs) := ⟨cmpD_V hs (by omega), Nat.le_trans (cmps_len hs) hl, hl, hb⟩
theorem sigsR.set {sb sp sb' sp' : Nat → Int32} {sg : Nat → SG} {i : Nat} {s : SG} (h : sigsR sb sp sg) (hi : i < 4) (hs : sigR sb' sp' i s) (h1 : ∀ k, k < 16 * i ∨ 16 * i + 16 ≤ k → sb' k = sb k) (h2 : ∀ k, k ≠ i → k ≠ 4 + i → k ≠ 8 + i → sp' k = sp k) : sigsR sb' sp' (va_up sg i s) := by
  intro j hj
  by_cases e : j = i
  · subst e
    rw [va_up_self]
    exact hs
  · rw [va_up_ne _ _ e]
    obtain ⟨a1, a2, a3, a4⟩ := h j hj
    refine ⟨a1, a2, a3, ?_⟩
    rcases a4 with ⟨b1, b2, b3, b4, b5⟩ | ⟨b1, b2, b3⟩
    · exact Or.inl ⟨b1, by rw [h2 _ (by omega) (by omega) (by omega)]; exact b2, by rw [h2 _ (by omega) (by omega) (by omega)]; exact b3, by rw [h2 _ (by omega) (by omega) (by omega)]; exact b4, fun k hk => by rw [h1 _ (by omega)]; exact b5 k hk⟩
    · exact Or.inr ⟨b1, by rw [h2 _ (by omega) (by omega) (by omega)]; exact b2, b3⟩
theorem delsR.set {F F' : Nat → Nat → Int32} {dl : Nat → DL} {d : Nat} {D : DL} (h : delsR (F 0) (F 1) (F 2) (F 3) (F 4) dl) (hd : d < 4) (hD : D.1 = true) (hV : dV D) (hw : dwR F' d D.2.1 D.2.2.1) (hb : bR (F' 0) (16 * d) D.2.2.2) (ho : dwO F F' d) : delsR (F' 0) (F' 1) (F' 2) (F' 3) (F' 4) (va_up dl d D) := by
  intro j hj
  by_cases e : j = d
  · subst e
    rw [va_up_self]
    exact Or.inl ⟨hD, hV, hw.1, hw.2.1, hw.2.2, hb⟩
  · rw [va_up_ne _ _ e]
    rcases h j hj with ⟨a1, a2, b1, b2, b3, b4⟩ | ⟨a1, a2, a3, a4⟩
    · have hl1 := a2.2.1
      have hl2 := a2.2.2.1
      refine Or.inl ⟨a1, a2, by rw [ho.2 _ e (by omega)]; exact b1, by rw [ho.2 _ (by omega) (by omega)]; exact b2, fun k hk => ?_, fun k hk => by rw [ho.1 0 _ (by decide) (by omega)]; exact b4 k hk⟩
      rw [ho.1 1 _ (by decide) (by omega), ho.1 2 _ (by decide) (by omega), ho.1 3 _ (by decide) (by omega)]
      exact b3 k hk
    · exact Or.inr ⟨a1, a2, a3, by rw [ho.2 _ e (by omega)]; exact a4⟩
def sdC (Z : AZ) (M : AM) (x : Nat) (τ : TS) (F : Nat → Nat → Int32) : Prop := am_X RL cL_sends Z ∧ zn Z = 20 ∧ zR Z = { rL_sends with cells := 5, slots := 40 } ∧ (zM Z).sig.returnType = some .boolean ∧ ncs (zs Z) ∧ (zl Z).stackTraces = false ∧ isRS (zG Z) M x (x + 292) τ ∧ tbL (zG Z) x M M F ∧ lR F τ
abbrev sdL (x : Nat) (kd y w : Int32) (j : Nat) (v : Int32) (t : List (Option Value)) : List (Option Value) := some (.ref x) :: some (.int kd) :: some (.int y) :: some (.ref (x + 271)) :: some (.ref (x + 272)) :: some (.ref (x + 273)) :: some (.ref (x + 274)) :: some (.ref (x + 275)) :: some (.ref (x + 276)) :: some (.ref (x + 277)) :: some (.ref (x + 278)) :: some (.ref (x + 279)) :: some (.int w) :: some (.int (nI j)) :: some (.int v) :: t
theorem sd_par {Z : AZ} {Q : State → Prop} {M : AM} {k n x j : Nat} {kd y w v : Int32} (X : am_X RL cL_sends Z) (hn : zn Z = 20) (hR : zR Z = { rL_sends with cells := 5, slots := 40 }) (hk : k = 0) (hk2 : n = 0) (K : ∀ b m : Int32, AW Z Q M k n 149 (sdL x kd y w j v [some (.int b), some (.int m), none, none, none]) []) : AW Z Q M k n 62 (sdL x kd y w j v [none, none, none, none, none]) [] := by
  subst hk
  subst hk2
  refine aw_spl (pm := 93) (P := fun _ => True) (fun K1 => ?_) (fun b _ => ?_)
  · refine aw_iload2 X dL_sends_62 ?_
    refine aw_iconst X dL_sends_63 (v := nI 5) (by decide) ?_
    refine aw_ishr X dL_sends_64 ?_
    refine aw_bipush X dL_sends_65 (v := nI 12) (by decide) ?_
    refine aw_callS X (c_L_some (N := 12) (by decide) (by decide)) kL_136 dL_sends_67 rfl rfl (by first | decide | exact Nat.le_of_ble_eq_true rfl) (by rw [hR]; exact ⟨by first | decide | exact Nat.le_of_ble_eq_true rfl | (dsimp only; omega), by first | decide | exact Nat.le_of_ble_eq_true rfl | (dsimp only; omega)⟩) (by rw [hR]; exact ⟨by first | decide | exact Nat.le_of_ble_eq_true rfl | (dsimp only; omega), by first | decide | exact Nat.le_of_ble_eq_true rfl | (dsimp only; omega)⟩) (fun v M hv => ?_)
    obtain ⟨rfl, t, ht, rfl⟩ := hv
    refine aw_ifne X dL_sends_70 (tgt := 84) (by decide) (fun c => ?_) (fun c => ?_)
    · refine aw_iconst X dL_sends_84 (v := nI 1) (by decide) ?_
      refine aw_iload2 X dL_sends_85 ?_
      refine aw_iconst X dL_sends_86 (v := nI 5) (by decide) ?_
      refine aw_ishr X dL_sends_87 ?_
      refine aw_iconst X dL_sends_88 (v := nI 5) (by decide) ?_
      refine aw_callS X (c_L_some (N := 5) (by decide) (by decide)) kL_136 dL_sends_89 rfl rfl (by first | decide | exact Nat.le_of_ble_eq_true rfl) (by rw [hR]; exact ⟨by first | decide | exact Nat.le_of_ble_eq_true rfl | (dsimp only; omega), by first | decide | exact Nat.le_of_ble_eq_true rfl | (dsimp only; omega)⟩) (by rw [hR]; exact ⟨by first | decide | exact Nat.le_of_ble_eq_true rfl | (dsimp only; omega), by first | decide | exact Nat.le_of_ble_eq_true rfl | (dsimp only; omega)⟩) (fun v M hv => ?_)
      obtain ⟨rfl, t, ht, rfl⟩ := hv
      refine aw_iadd X dL_sends_92 ?_
      first | with_reducible refine aw_int (nI_add _ _) ?_ | skip
      exact K1 _ trivial
    · refine aw_iload2 X dL_sends_73 ?_
      refine aw_iconst X dL_sends_74 (v := nI 2) (by decide) ?_
      refine aw_callS X (c_L_some (N := 2) (by decide) (by decide)) kL_136 dL_sends_75 rfl rfl (by first | decide | exact Nat.le_of_ble_eq_true rfl) (by rw [hR]; exact ⟨by first | decide | exact Nat.le_of_ble_eq_true rfl | (dsimp only; omega), by first | decide | exact Nat.le_of_ble_eq_true rfl | (dsimp only; omega)⟩) (by rw [hR]; exact ⟨by first | decide | exact Nat.le_of_ble_eq_true rfl | (dsimp only; omega), by first | decide | exact Nat.le_of_ble_eq_true rfl | (dsimp only; omega)⟩) (fun v M hv => ?_)
      obtain ⟨rfl, t, ht, rfl⟩ := hv
      refine aw_bipush X dL_sends_78 (v := nI 8) (by decide) ?_
      refine aw_imul X dL_sends_80 ?_
      first | with_reducible refine aw_int (pk_mul _ _) ?_ | skip
      refine aw_goto X dL_sends_81 (tgt := 93) (by decide) ?_
      exact K1 _ trivial
  refine aw_istore15 X dL_sends_93 (by rw [hn]; decide) rfl ?_
  refine aw_spl (pm := 147) (P := fun _ => True) (fun K1 => ?_) (fun m _ => ?_)
  · refine aw_iload2 X dL_sends_95 ?_
    refine aw_bipush X dL_sends_96 (v := nI 8) (by decide) ?_
    refine aw_ishr X dL_sends_98 ?_
    refine aw_bipush X dL_sends_99 (v := nI 20) (by decide) ?_
    refine aw_callS X (c_L_some (N := 20) (by decide) (by decide)) kL_136 dL_sends_101 rfl rfl (by first | decide | exact Nat.le_of_ble_eq_true rfl) (by rw [hR]; exact ⟨by first | decide | exact Nat.le_of_ble_eq_true rfl | (dsimp only; omega), by first | decide | exact Nat.le_of_ble_eq_true rfl | (dsimp only; omega)⟩) (by rw [hR]; exact ⟨by first | decide | exact Nat.le_of_ble_eq_true rfl | (dsimp only; omega), by first | decide | exact Nat.le_of_ble_eq_true rfl | (dsimp only; omega)⟩) (fun v M hv => ?_)
    obtain ⟨rfl, t, ht, rfl⟩ := hv
    refine aw_ifne X dL_sends_104 (tgt := 119) (by decide) (fun c => ?_) (fun c => ?_)
    · refine aw_iload2 X dL_sends_119 ?_
      refine aw_bipush X dL_sends_120 (v := nI 8) (by decide) ?_
      refine aw_ishr X dL_sends_122 ?_
      refine aw_iconst X dL_sends_123 (v := nI 3) (by decide) ?_
      refine aw_callS X (c_L_some (N := 3) (by decide) (by decide)) kL_136 dL_sends_124 rfl rfl (by first | decide | exact Nat.le_of_ble_eq_true rfl) (by rw [hR]; exact ⟨by first | decide | exact Nat.le_of_ble_eq_true rfl | (dsimp only; omega), by first | decide | exact Nat.le_of_ble_eq_true rfl | (dsimp only; omega)⟩) (by rw [hR]; exact ⟨by first | decide | exact Nat.le_of_ble_eq_true rfl | (dsimp only; omega), by first | decide | exact Nat.le_of_ble_eq_true rfl | (dsimp only; omega)⟩) (fun v M hv => ?_)
      obtain ⟨rfl, t, ht, rfl⟩ := hv
      refine aw_ifne X dL_sends_127 (tgt := 136) (by decide) (fun c2 => ?_) (fun c2 => ?_)
      · refine aw_iconst X dL_sends_136 (v := nI 1) (by decide) ?_
        refine aw_iload2 X dL_sends_137 ?_
        refine aw_bipush X dL_sends_138 (v := nI 8) (by decide) ?_
        refine aw_ishr X dL_sends_140 ?_
        refine aw_bipush X dL_sends_141 (v := nI 6) (by decide) ?_
        refine aw_callS X (c_L_some (N := 6) (by decide) (by decide)) kL_136 dL_sends_143 rfl rfl (by first | decide | exact Nat.le_of_ble_eq_true rfl) (by rw [hR]; exact ⟨by first | decide | exact Nat.le_of_ble_eq_true rfl | (dsimp only; omega), by first | decide | exact Nat.le_of_ble_eq_true rfl | (dsimp only; omega)⟩) (by rw [hR]; exact ⟨by first | decide | exact Nat.le_of_ble_eq_true rfl | (dsimp only; omega), by first | decide | exact Nat.le_of_ble_eq_true rfl | (dsimp only; omega)⟩) (fun v M hv => ?_)
        obtain ⟨rfl, t, ht, rfl⟩ := hv
        refine aw_iadd X dL_sends_146 ?_
        first | with_reducible refine aw_int (nI_add _ _) ?_ | skip
        exact K1 _ trivial
      · refine aw_sipush X dL_sends_130 (v := nI 4096) (by decide) ?_
        refine aw_goto X dL_sends_133 (tgt := 147) (by decide) ?_
        exact K1 _ trivial
    · refine aw_iload2 X dL_sends_107 ?_
      refine aw_iconst X dL_sends_108 (v := nI 2) (by decide) ?_
      refine aw_callS X (c_L_some (N := 2) (by decide) (by decide)) kL_136 dL_sends_109 rfl rfl (by first | decide | exact Nat.le_of_ble_eq_true rfl) (by rw [hR]; exact ⟨by first | decide | exact Nat.le_of_ble_eq_true rfl | (dsimp only; omega), by first | decide | exact Nat.le_of_ble_eq_true rfl | (dsimp only; omega)⟩) (by rw [hR]; exact ⟨by first | decide | exact Nat.le_of_ble_eq_true rfl | (dsimp only; omega), by first | decide | exact Nat.le_of_ble_eq_true rfl | (dsimp only; omega)⟩) (fun v M hv => ?_)
      obtain ⟨rfl, t, ht, rfl⟩ := hv
      refine aw_sipush X dL_sends_112 (v := nI 4097) (by decide) ?_
      refine aw_imul X dL_sends_115 ?_
      first | with_reducible refine aw_int (pk_mul _ _) ?_ | skip
      refine aw_goto X dL_sends_116 (tgt := 147) (by decide) ?_
      exact K1 _ trivial
  refine aw_istore16 X dL_sends_147 (by rw [hn]; decide) rfl ?_
  exact K b m
theorem sd_sign0 {Z : AZ} {M : AM} {x j : Nat} {τ : TS} {F : Nat → Nat → Int32} {kd y w : Int32} (C : sdC Z M x τ F) (hj : j < 5) (hw : ¬ (inI w 4 ∧ j < 4)) : AW Z (am_Q Z (lP (zG Z) x) (fun _ _ => False) 5 40) M 0 0 62 (sdL x kd y w j (nI 0) [none, none, none, none, none]) [] := by
  obtain ⟨X, hn, hR, hr, hN, hfl, hs, hT, hL⟩ := C
  refine sd_par X hn hR rfl rfl (fun b m => ?_)
  refine aw_spl (pm := 179) (P := fun _ => True) (fun K => ?_) (fun fi _ => ?_)
  · refine aw_iload15 X dL_sends_149 ?_
    refine aw_ifle X dL_sends_151 (tgt := 178) (by decide) (fun c1 => ?_) (fun c1 => ?_)
    · refine aw_iconst X dL_sends_178 (v := nI 0) (by decide) ?_
      exact K _ trivial
    · refine aw_iload15 X dL_sends_154 ?_
      refine aw_bipush X dL_sends_156 (v := nI 8) (by decide) ?_
      refine aw_icmpge X dL_sends_158 (tgt := 178) (by decide) (fun c2 => ?_) (fun c2 => ?_)
      · refine aw_iconst X dL_sends_178 (v := nI 0) (by decide) ?_
        exact K _ trivial
      · refine aw_iload16 X dL_sends_161 ?_
        refine aw_ifle X dL_sends_163 (tgt := 178) (by decide) (fun c3 => ?_) (fun c3 => ?_)
        · refine aw_iconst X dL_sends_178 (v := nI 0) (by decide) ?_
          exact K _ trivial
        · refine aw_iload16 X dL_sends_166 ?_
          refine aw_sipush X dL_sends_168 (v := nI 4097) (by decide) ?_
          refine aw_icmpge X dL_sends_171 (tgt := 178) (by decide) (fun c4 => ?_) (fun c4 => ?_)
          · refine aw_iconst X dL_sends_178 (v := nI 0) (by decide) ?_
            exact K _ trivial
          · refine aw_iconst X dL_sends_174 (v := nI 1) (by decide) ?_
            refine aw_goto X dL_sends_175 (tgt := 179) (by decide) ?_
            exact K _ trivial
  refine aw_istore17 X dL_sends_179 (by rw [hn]; decide) rfl ?_
  refine aw_iload14 X dL_sends_181 ?_
  refine aw_ifne X dL_sends_183 (tgt := 191) (by decide) (fun c9 => by first | exact absurd ((rfl : nI 0 = 0)) c9 | exact absurd c9 ((rfl : nI 0 = 0))) (fun _ => ?_)
  refine aw_bipush X dL_sends_186 (v := -101) (by decide) ?_
  refine aw_goto X dL_sends_188 (tgt := 214) (by decide) ?_
  refine aw_istore18 X dL_sends_214 (by rw [hn]; decide) rfl ?_
  refine aw_iload18 X dL_sends_216 ?_
  refine aw_iflt X dL_sends_218 (tgt := 290) (by decide) (fun _ => ?_) (fun c9 => by first | exact absurd ((by decide : (-101 : Int32) < 0)) c9 | exact absurd c9 ((by decide : (-101 : Int32) < 0)))
  refine aw_aload0 X dL_sends_290 ?_
  refine aw_iload12 X dL_sends_291 ?_
  refine aw_iload13 X dL_sends_293 ?_
  refine aw_iload15 X dL_sends_295 ?_
  refine aw_iload16 X dL_sends_297 ?_
  refine aw_callSH X hN (w_sign hfl hs) kL_154 dL_sends_299 rfl rfl (by first | decide | exact Nat.le_of_ble_eq_true rfl) (by rw [hR]; exact ⟨by first | decide | exact Nat.le_of_ble_eq_true rfl | (dsimp only; omega), by first | decide | exact Nat.le_of_ble_eq_true rfl | (dsimp only; omega)⟩) (by rw [hR]; exact ⟨by first | decide | exact Nat.le_of_ble_eq_true rfl | (dsimp only; omega), by first | decide | exact Nat.le_of_ble_eq_true rfl | (dsimp only; omega)⟩) (fun v M1 hv => ?_)
  obtain ⟨rfl, hs1, hk1⟩ := hv
  have e0 : spSign τ w (nI j) b m = (1, 0, τ) := by
    rw [spSign, if_neg]
    intro q
    have q2 := q.2
    rw [isF, hL.1] at q2
    exact hw ⟨q.1, (nI_ltI (by omega) (by omega)).mp q2.2⟩
  rw [e0] at hs1 ⊢
  refine aw_iload18 X dL_sends_302 ?_
  refine aw_icmpne X dL_sends_304 (tgt := 311) (by decide) (fun c9 => by first | exact absurd ((rfl : wr (1, 0, τ) = -101)) c9 | exact absurd c9 ((rfl : wr (1, 0, τ) = -101))) (fun _ => ?_)
  refine aw_iconst X dL_sends_307 (v := nI 1) (by decide) ?_
  refine aw_goto X dL_sends_308 (tgt := 312) (by decide) ?_
  refine aw_widen (k' := 5) (n' := 40) (Nat.le_of_ble_eq_true rfl) (Nat.le_of_ble_eq_true rfl) ?_
  refine aw_ireturn X (ty := .boolean) hr (by first | rfl | decide | assumption) dL_sends_312 (⟨rfl, τ, lS.of hT hL hs1 hk1 eD_ok⟩)
theorem sd_sign1 {Z : AZ} {M : AM} {x i j : Nat} {τ : TS} {F : Nat → Nat → Int32} {kd y : Int32} (C : sdC Z M x τ F) (hi : i < 4) (hj : j < 4) : AW Z (am_Q Z (lP (zG Z) x) (fun _ _ => False) 5 40) M 0 0 62 (sdL x kd y (nI i) j (nI 1) [none, none, none, none, none]) [] := by
  obtain ⟨X, hn, hR, hr, hN, hfl, hs, hT, hL⟩ := C
  obtain ⟨l1, l2, l3, l4⟩ := hL.2.1 j hj
  have hn1 := hT.at 1 (by decide)
  have hF4 : isF τ (nI j) := by rw [isF, hL.1]; exact inI_n hj (by decide)
  have hi4 : inI (nI i) 4 := inI_n hi (by decide)
  refine sd_par X hn hR rfl rfl (fun b m => ?_)
  refine aw_splB (pm := 179) (P := rgI b (nI 1) (nI 7) ∧ rgI m (nI 1) (nI 4096)) (fun K => ?_) ?_
  · refine aw_iload15 X dL_sends_149 ?_
    refine aw_ifle X dL_sends_151 (tgt := 178) (by decide) (fun c1 => ?_) (fun c1 => ?_)
    · refine aw_iconst X dL_sends_178 (v := nI 0) (by decide) ?_
      exact aw_b0 (fun e => e.1.1 ((le0_lt1 b).mp c1)) K
    · refine aw_iload15 X dL_sends_154 ?_
      refine aw_bipush X dL_sends_156 (v := nI 8) (by decide) ?_
      refine aw_icmpge X dL_sends_158 (tgt := 178) (by decide) (fun c2 => ?_) (fun c2 => ?_)
      · refine aw_iconst X dL_sends_178 (v := nI 0) (by decide) ?_
        exact aw_b0 (fun e => (le_succ (by decide) b).mp c2 e.1.2) K
      · have hb2 : b ≤ nI 7 := Decidable.byContradiction (fun q => c2 ((le_succ (by decide) b).mpr q))
        refine aw_iload16 X dL_sends_161 ?_
        refine aw_ifle X dL_sends_163 (tgt := 178) (by decide) (fun c3 => ?_) (fun c3 => ?_)
        · refine aw_iconst X dL_sends_178 (v := nI 0) (by decide) ?_
          exact aw_b0 (fun e => e.2.1 ((le0_lt1 m).mp c3)) K
        · refine aw_iload16 X dL_sends_166 ?_
          refine aw_sipush X dL_sends_168 (v := nI 4097) (by decide) ?_
          refine aw_icmpge X dL_sends_171 (tgt := 178) (by decide) (fun c4 => ?_) (fun c4 => ?_)
          · refine aw_iconst X dL_sends_178 (v := nI 0) (by decide) ?_
            exact aw_b0 (fun e => (le_succ (by decide) m).mp c4 e.2.2) K
          · have hm2 : m ≤ nI 4096 := Decidable.byContradiction (fun q => c4 ((le_succ (by decide) m).mpr q))
            refine aw_iconst X dL_sends_174 (v := nI 1) (by decide) ?_
            refine aw_goto X dL_sends_175 (tgt := 179) (by decide) ?_
            exact aw_b1 ⟨⟨fun q => c1 ((le0_lt1 b).mpr q), hb2⟩, fun q => c3 ((le0_lt1 m).mpr q), hm2⟩ K
  refine aw_istore17 X dL_sends_179 (by rw [hn]; decide) rfl ?_
  by_cases hf : rgI b (nI 1) (nI 7) ∧ rgI m (nI 1) (nI 4096)
  · rw [am_b1 hf]
    obtain ⟨b1, b2, b3⟩ := rgI_j hf.1 (by decide) (by decide)
    obtain ⟨m1, m2, m3⟩ := rgI_j hf.2 (by decide) (by decide)
    generalize ix b = B at b1 b2 b3
    generalize ix m = D at m1 m2 m3
    subst b3
    subst m3
    have hdiv : ((τ.1.2 j).length + B - 1) / B ≤ 16 := by
      have q : nb B (τ.1.2 j).length ≤ (τ.1.2 j).length := nb_leN (by omega)
      unfold nb at q
      omega
    refine aw_iload14 X dL_sends_181 ?_
    refine aw_ifne X dL_sends_183 (tgt := 191) (by decide) (fun _ => ?_) (fun c9 => by first | exact absurd ((by decide : ¬ nI 1 = 0)) c9 | exact absurd c9 ((by decide : ¬ nI 1 = 0)))
    refine aw_iload17 X dL_sends_191 ?_
    refine aw_ifne X dL_sends_193 (tgt := 201) (by decide) (fun _ => ?_) (fun c9 => by first | exact absurd ((by decide : ¬ nI 1 = 0)) c9 | exact absurd c9 ((by decide : ¬ nI 1 = 0)))
    refine aw_aload4 X dL_sends_201 ?_
    refine aw_iload13 X dL_sends_203 ?_
    refine aw_iald X dL_sends_205 hn1 rfl (show j < 4 from hj) (by decide) ?_
    refine aw_int l3 ?_
    refine aw_iload15 X dL_sends_206 ?_
    refine aw_iadd X dL_sends_208 ?_
    first | with_reducible refine aw_int (nI_add _ _) ?_ | skip
    refine aw_iconst X dL_sends_209 (v := nI 1) (by decide) ?_
    refine aw_isub X dL_sends_210 ?_
    refine aw_int (pk_sub (by omega)) ?_
    refine aw_iload15 X dL_sends_211 ?_
    refine aw_idiv X dL_sends_213 (nI_ne0 (by omega) (by omega)) ?_
    refine aw_int (pk_div (by omega) (by omega) (by omega)) ?_
    refine aw_istore18 X dL_sends_214 (by rw [hn]; decide) rfl ?_
    refine aw_iload18 X dL_sends_216 ?_
    refine aw_iflt X dL_sends_218 (tgt := 290) (by decide) (fun c9 => by first | exact absurd (nI_pos (by omega)) c9 | exact absurd c9 (nI_pos (by omega))) (fun _ => ?_)
    refine aw_aload6 X dL_sends_221 ?_
    refine aw_iload12 X dL_sends_223 ?_
    refine aw_iload15 X dL_sends_225 ?_
    refine aw_tst X 3 dL_sends_227 hT (by decide) rfl (show i < 12 by omega) (by decide) (fun M1 h1 => ?_)
    refine aw_aload6 X dL_sends_228 ?_
    refine aw_iconst X dL_sends_230 (v := nI 4) (by decide) ?_
    refine aw_iload12 X dL_sends_231 ?_
    refine aw_iadd X dL_sends_233 ?_
    first | with_reducible refine aw_int (nI_add _ _) ?_ | skip
    refine aw_iload16 X dL_sends_234 ?_
    refine aw_tst X 3 dL_sends_236 h1 (by decide) rfl (show 4 + i < 12 by omega) (by decide) (fun M2 h2 => ?_)
    refine aw_aload6 X dL_sends_237 ?_
    refine aw_bipush X dL_sends_239 (v := nI 8) (by decide) ?_
    refine aw_iload12 X dL_sends_241 ?_
    refine aw_iadd X dL_sends_243 ?_
    first | with_reducible refine aw_int (nI_add _ _) ?_ | skip
    refine aw_aload4 X dL_sends_244 ?_
    refine aw_iload13 X dL_sends_246 ?_
    refine aw_iald X dL_sends_248 (h2.at 1 (by decide)) rfl (show j < 4 from hj) (by decide) ?_
    refine aw_int (y := nI (τ.1.2 j).length) l3 ?_
    refine aw_tst X 3 dL_sends_249 h2 (by decide) rfl (show 8 + i < 12 by omega) (by decide) (fun M3 h3 => ?_)
    rw [va_up_self, va_up2, va_up_self, va_up2] at h3
    obtain ⟨sp', hsp⟩ : ∃ sp', sp' = upd (upd (upd (F 3) i (nI B)) (4 + i) (nI D)) (8 + i) (nI (τ.1.2 j).length) := ⟨_, rfl⟩
    rw [← hsp] at h3
    have p1 : sp' i = nI B := by rw [hsp, pk_un (by omega), pk_un (by omega), pk_us]
    have p2 : sp' (4 + i) = nI D := by rw [hsp, pk_un (by omega), pk_us]
    have p3 : sp' (8 + i) = nI (τ.1.2 j).length := by rw [hsp, pk_us]
    have p4 : ∀ k, k ≠ i → k ≠ 4 + i → k ≠ 8 + i → sp' k = F 3 k := fun k h1 h2 h3 => by rw [hsp, pk_un h3, pk_un h2, pk_un h1]
    refine aw_iconst X dL_sends_250 (v := nI 0) (by decide) ?_
    refine aw_istore19 X dL_sends_251 (by rw [hn]; decide) rfl ?_
    refine aw_loopM (fun (k : Nat) M4 => k ≤ (τ.1.2 j).length ∧ ∃ F1, tbL (zG Z) x M M4 F1 ∧ F1 3 = sp' ∧ (∀ t, t ≠ 2 → t ≠ 3 → F1 t = F t) ∧ (∀ t, t < 16 * i ∨ 16 * i + 16 ≤ t → F1 2 t = F 2 t) ∧ ∀ t, t < k → F1 2 (16 * i + t) = (τ.1.2 j).getD t 0) (fun k => (τ.1.2 j).length - k) (fun k => sdL x kd y (nI i) j (nI 1) [some (.int (nI B)), some (.int (nI D)), some (.int (nI 1)), some (.int (nI (((τ.1.2 j).length + B - 1) / B))), some (.int (nI k))]) ?_ 0 ⟨Nat.zero_le _, _, h3, va_up_self _ _ _, fun t _ ht => va_up_ne _ _ ht, fun t _ => by rw [va_up_ne _ _ (by decide)], fun t ht => absurd ht (Nat.not_lt_zero _)⟩
    rintro k M4 ⟨hk, F1, h4, n1, o1, f1, f2⟩ ih
    try dsimp only at ih ⊢
    refine aw_iload19 X dL_sends_253 ?_
    refine aw_aload4 X dL_sends_255 ?_
    refine aw_iload13 X dL_sends_257 ?_
    refine aw_iald X dL_sends_259 (h4.at 1 (by decide)) rfl (show j < 4 from hj) (by decide) ?_
    refine aw_int (y := nI (τ.1.2 j).length) (by rw [o1 1 (by decide) (by decide)]; exact l3) ?_
    refine aw_icmpge X dL_sends_260 (tgt := 290) (by decide) (fun c3 => ?_) (fun c3 => ?_)
    · have e : k = (τ.1.2 j).length := by have := (nI_leI (by omega) (by omega)).mp c3; omega
      subst e
      refine aw_aload0 X dL_sends_290 ?_
      refine aw_iload12 X dL_sends_291 ?_
      refine aw_iload13 X dL_sends_293 ?_
      refine aw_iload15 X dL_sends_295 ?_
      refine aw_iload16 X dL_sends_297 ?_
      refine aw_callSH X hN (w_sign hfl (hs.tb h4)) kL_154 dL_sends_299 rfl rfl (by first | decide | exact Nat.le_of_ble_eq_true rfl) (by rw [hR]; exact ⟨by first | decide | exact Nat.le_of_ble_eq_true rfl | (dsimp only; omega), by first | decide | exact Nat.le_of_ble_eq_true rfl | (dsimp only; omega)⟩) (by rw [hR]; exact ⟨by first | decide | exact Nat.le_of_ble_eq_true rfl | (dsimp only; omega), by first | decide | exact Nat.le_of_ble_eq_true rfl | (dsimp only; omega)⟩) (fun v M5 hv => ?_)
      obtain ⟨rfl, hs1, hk1⟩ := hv
      have e0 : spSign τ (nI i) (nI j) (nI B) (nI D) = (0, nI (((τ.1.2 j).length + B - 1) / B), (τ.1, va_up τ.2.1 i (true, B, D, τ.1.2 j), τ.2.2)) := by
        rw [spSign, if_pos ⟨hi4, hF4⟩, if_pos hf]
        simp only [tF, ix_n (show i < 2 ^ 31 by omega), ix_n (show j < 2 ^ 31 by omega), ix_n (show B < 2 ^ 31 by omega), ix_n (show D < 2 ^ 31 by omega)]
        rfl
      rw [e0] at hs1 ⊢
      refine aw_iload18 X dL_sends_302 ?_
      refine aw_icmpne X dL_sends_304 (tgt := 311) (by decide) (fun c9 => by first | exact absurd ((rfl : wr (0, nI (((τ.1.2 j).length + B - 1) / B), (τ.1, va_up τ.2.1 i (true, B, D, τ.1.2 j), τ.2.2)) = nI (((τ.1.2 j).length + B - 1) / B))) c9 | exact absurd c9 ((rfl : wr (0, nI (((τ.1.2 j).length + B - 1) / B), (τ.1, va_up τ.2.1 i (true, B, D, τ.1.2 j), τ.2.2)) = nI (((τ.1.2 j).length + B - 1) / B)))) (fun _ => ?_)
      refine aw_iconst X dL_sends_307 (v := nI 1) (by decide) ?_
      refine aw_goto X dL_sends_308 (tgt := 312) (by decide) ?_
      refine aw_widen (k' := 5) (n' := 40) (Nat.le_of_ble_eq_true rfl) (Nat.le_of_ble_eq_true rfl) ?_
      have hsg : sigR (F1 2) (F1 3) i (true, B, D, τ.1.2 j) := ⟨⟨by show 0 < B; omega, b2, by show 0 < D; omega, m2, by show (τ.1.2 j).length ≤ 120; omega⟩, l1, l2, Or.inl ⟨rfl, by rw [n1]; exact p1, by rw [n1]; exact p2, by rw [n1]; exact p3, f2⟩⟩
      have hfin := hL.2.2.1.set hi hsg f1 (fun k h1 h2 h3 => by rw [n1]; exact p4 k h1 h2 h3)
      refine aw_ireturn X (ty := .boolean) hr (by first | rfl | decide | assumption) dL_sends_312 (⟨rfl, _, lS.of h4 (hL.sigs hfin o1) hs1 hk1 eD_ok⟩)
    · have hlt : k < (τ.1.2 j).length := by
        rcases Nat.lt_or_ge k (τ.1.2 j).length with q | q
        · exact q
        · exact absurd (nI_le q (by omega)) c3
      refine aw_aload5 X dL_sends_263 ?_
      refine aw_bipush X dL_sends_265 (v := nI 16) (by decide) ?_
      refine aw_iload12 X dL_sends_267 ?_
      refine aw_imul X dL_sends_269 ?_
      first | with_reducible refine aw_int (pk_mul _ _) ?_ | skip
      refine aw_iload19 X dL_sends_270 ?_
      refine aw_iadd X dL_sends_272 ?_
      first | with_reducible refine aw_int (nI_add _ _) ?_ | skip
      refine aw_aload3 X dL_sends_273 ?_
      refine aw_bipush X dL_sends_274 (v := nI 16) (by decide) ?_
      refine aw_iload13 X dL_sends_276 ?_
      refine aw_imul X dL_sends_278 ?_
      first | with_reducible refine aw_int (pk_mul _ _) ?_ | skip
      refine aw_iload19 X dL_sends_279 ?_
      refine aw_iadd X dL_sends_281 ?_
      first | with_reducible refine aw_int (nI_add _ _) ?_ | skip
      refine aw_iald X dL_sends_282 (h4.at 0 (by decide)) rfl (show 16 * j + k < 64 by omega) (by decide) ?_
      refine aw_int (y := (τ.1.2 j).getD k 0) (by rw [o1 0 (by decide) (by decide)]; exact l4 k hlt) ?_
      refine aw_tst X 2 dL_sends_283 h4 (by decide) rfl (show 16 * i + k < 64 by omega) (by decide) (fun M6 h6 => ?_)
      refine aw_iinc19 X dL_sends_284 (by rw [hn]; decide) (am_inc _ 1) rfl ?_
      refine aw_goto X dL_sends_287 (tgt := 253) (by decide) ?_
      refine ih (k + 1) M6 ⟨hlt, _, h6, ?_, fun t h1 h2 => ?_, fun t ht => ?_, fun t ht => ?_⟩ (by omega)
      · rw [va_up_ne _ _ (by decide)]
        exact n1
      · rw [va_up_ne _ _ h1]
        exact o1 t h1 h2
      · rw [va_up_self, pk_un (by omega)]
        exact f1 t ht
      · rw [va_up_self]
        by_cases e : t = k
        · rw [e, pk_us]
        · rw [pk_un (by omega)]
          exact f2 t (by omega)
  · rw [am_b0 hf]
    refine aw_iload14 X dL_sends_181 ?_
    refine aw_ifne X dL_sends_183 (tgt := 191) (by decide) (fun _ => ?_) (fun c9 => by first | exact absurd ((by decide : ¬ nI 1 = 0)) c9 | exact absurd c9 ((by decide : ¬ nI 1 = 0)))
    refine aw_iload17 X dL_sends_191 ?_
    refine aw_ifne X dL_sends_193 (tgt := 201) (by decide) (fun c9 => by first | exact absurd ((rfl : nI 0 = 0)) c9 | exact absurd c9 ((rfl : nI 0 = 0))) (fun _ => ?_)
    refine aw_bipush X dL_sends_196 (v := -102) (by decide) ?_
    refine aw_goto X dL_sends_198 (tgt := 214) (by decide) ?_
    refine aw_istore18 X dL_sends_214 (by rw [hn]; decide) rfl ?_
    refine aw_iload18 X dL_sends_216 ?_
    refine aw_iflt X dL_sends_218 (tgt := 290) (by decide) (fun _ => ?_) (fun c9 => by first | exact absurd ((by decide : (-102 : Int32) < 0)) c9 | exact absurd c9 ((by decide : (-102 : Int32) < 0)))
    refine aw_aload0 X dL_sends_290 ?_
    refine aw_iload12 X dL_sends_291 ?_
    refine aw_iload13 X dL_sends_293 ?_
    refine aw_iload15 X dL_sends_295 ?_
    refine aw_iload16 X dL_sends_297 ?_
    refine aw_callSH X hN (w_sign hfl hs) kL_154 dL_sends_299 rfl rfl (by first | decide | exact Nat.le_of_ble_eq_true rfl) (by rw [hR]; exact ⟨by first | decide | exact Nat.le_of_ble_eq_true rfl | (dsimp only; omega), by first | decide | exact Nat.le_of_ble_eq_true rfl | (dsimp only; omega)⟩) (by rw [hR]; exact ⟨by first | decide | exact Nat.le_of_ble_eq_true rfl | (dsimp only; omega), by first | decide | exact Nat.le_of_ble_eq_true rfl | (dsimp only; omega)⟩) (fun v M1 hv => ?_)
    obtain ⟨rfl, hs1, hk1⟩ := hv
    have e0 : spSign τ (nI i) (nI j) b m = (2, 0, τ) := by rw [spSign, if_pos ⟨hi4, hF4⟩, if_neg hf]
    rw [e0] at hs1 ⊢
    refine aw_iload18 X dL_sends_302 ?_
    refine aw_icmpne X dL_sends_304 (tgt := 311) (by decide) (fun c9 => by first | exact absurd ((rfl : wr (2, 0, τ) = -102)) c9 | exact absurd c9 ((rfl : wr (2, 0, τ) = -102))) (fun _ => ?_)
    refine aw_iconst X dL_sends_307 (v := nI 1) (by decide) ?_
    refine aw_goto X dL_sends_308 (tgt := 312) (by decide) ?_
    refine aw_widen (k' := 5) (n' := 40) (Nat.le_of_ble_eq_true rfl) (Nat.le_of_ble_eq_true rfl) ?_
    refine aw_ireturn X (ty := .boolean) hr (by first | rfl | decide | assumption) dL_sends_312 (⟨rfl, τ, lS.of hT hL hs1 hk1 eD_ok⟩)
