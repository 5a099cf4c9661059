/-! the law: papers are cut and stored -/
theorem lR.cuts {F F' : Nat → Nat → Int32} {τ : TS} {g : Nat × Nat × Nat} (h : lR F τ) (hf : cutsR (F' 20) g) (ho : ∀ j, j ≠ 20 → F' j = F j) : lR F' (τ.1, τ.2.1, τ.2.2.1, τ.2.2.2.1, g, τ.2.2.2.2.2) := by
  obtain ⟨h1, h2, h3, h4, h5, -, h7⟩ := h
  refine ⟨h1, ?_, ?_, ?_, ?_, hf, ?_⟩
  · rw [ho 0 (by decide), ho 1 (by decide)]
    exact h2
  · rw [ho 2 (by decide), ho 3 (by decide)]
    exact h3
  · rw [ho 4 (by decide), ho 5 (by decide), ho 6 (by decide), ho 7 (by decide), ho 8 (by decide)]
    exact h4
  · rw [ho 9 (by decide), ho 10 (by decide), ho 11 (by decide), ho 12 (by decide), ho 13 (by decide), ho 14 (by decide), ho 15 (by decide), ho 16 (by decide)]
    exact h5
  · rw [ho 17 (by decide), ho 18 (by decide), ho 19 (by decide)]
    exact h7
theorem lR.paps {F F' : Nat → Nat → Int32} {τ : TS} {P : PS} (h : lR F τ) (hf : psR (F' 17) (F' 18) (F' 19) P) (ho : ∀ j, j < 17 ∨ 19 < j → F' j = F j) : lR F' (τ.1, τ.2.1, τ.2.2.1, τ.2.2.2.1, τ.2.2.2.2.1, P) := by
  obtain ⟨h1, h2, h3, h4, h5, h6, -⟩ := h
  refine ⟨h1, ?_, ?_, ?_, ?_, ?_, hf⟩
  · rw [ho 0 (by decide), ho 1 (by decide)]
    exact h2
  · rw [ho 2 (by decide), ho 3 (by decide)]
    exact h3
  · rw [ho 4 (by decide), ho 5 (by decide), ho 6 (by decide), ho 7 (by decide), ho 8 (by decide)]
    exact h4
  · rw [ho 9 (by decide), ho 10 (by decide), ho 11 (by decide), ho 12 (by decide), ho 13 (by decide), ho 14 (by decide), ho 15 (by decide), ho 16 (by decide)]
    exact h5
  · rw [ho 20 (by decide)]
    exact h6
theorem psR.set {pb pl pp pb' pl' pp' : Nat → Int32} {P : PS} {t : Nat} {W : Option (List (List Int32))} (h : psR pb pl pp P) (ht : t < 4) (hW : ∀ l, W = some l → pV l) (hW2 : pR pb' pl' pp' t W) (v1 : ∀ k, k < 16 * t ∨ 16 * t + 16 ≤ k → pb' k = pb k ∧ pl' k = pl k) (v2 : ∀ k, k ≠ t → k ≠ 4 + t → pp' k = pp k) : psR pb' pl' pp' (va_up P t W) := by
  obtain ⟨h1, h2⟩ := h
  refine ⟨fun i hi => by rw [va_up_ne _ _ (by omega)]; exact h1 i hi, fun i hi => ?_⟩
  by_cases e : i = t
  · subst e
    rw [va_up_self]
    exact ⟨hW, hW2⟩
  · rw [va_up_ne _ _ e]
    obtain ⟨a1, a2⟩ := h2 i hi
    refine ⟨a1, ?_⟩
    cases hP : P i with
    | none =>
      rw [hP] at a2
      exact (v2 i e (by omega)).trans a2
    | some l =>
      rw [hP] at a2
      obtain ⟨r1, r2, r3, r4⟩ := a2
      obtain ⟨w1, w2, w3, w4⟩ := a1 l hP
      exact ⟨(v2 i e (by omega)).trans r1, (v2 _ (by omega) (by omega)).trans r2, fun k hk => ((v1 _ (by omega)).2).trans (r3 k hk), fun k hk => ((v1 _ (by omega)).1).trans (r4 k hk)⟩
theorem lowest_is {P : Nat → Bool} {j : Nat} : ∀ {n : Nat}, j < n → P j = true → (∀ i, i < j → P i = false) → lowest P n = some j
  | 0, h, _, _ => by omega
  | n + 1, h, h1, h2 => by
    rw [lowest_step]
    by_cases e : j = n
    · subst e
      rw [if_pos ⟨h1, lowest_off h2⟩]
    · have q := lowest_is (n := n) (by omega) h1 h2
      rw [q, if_neg (fun x => by cases x.2)]
theorem am_at_sub {bs : List Int32} {p j : Nat} (hp : p < 2 ^ 31) (h : j ≤ p) : am_at bs (nI p - nI j) = bs.getD (p - j) 0 := by
  rw [pk_sub h, am_at_n (by omega)]
theorem am_at_neg {bs : List Int32} {x : Int32} (h : x < 0) : am_at bs x = 0 := if_pos h
/-- the law's hash: from lo on -/
def hsN (bs : List Int32) (k lo : Nat) : Nat → Nat
  | 0 => 0
  | t + 1 => hsN bs k lo t + (k - (lo + t) + 1) * bn bs (lo + t)
theorem hsN_hI {bs : List Int32} (hb : byB bs) {k : Nat} (hk : k < 16) : nI (hsN bs k (k - 3) (k - (k - 3) + 1)) = hI bs k := by
  have z : (0 : Int32) = nI 0 := rfl
  unfold hI
  rw [am_at_n (by omega)]
  by_cases h3 : 3 ≤ k
  · obtain ⟨r, rfl⟩ : ∃ r, k = r + 3 := ⟨k - 3, by omega⟩
    rw [am_at_sub (by omega) (by omega), am_at_sub (by omega) (by omega), am_at_sub (by omega) h3, show r + 3 - 3 = r by omega, show r + 3 - r + 1 = 4 by omega, show r + 3 - 1 = r + 2 by omega, show r + 3 - 2 = r + 1 by omega, (hb.at (r + 3)).1, (hb.at (r + 2)).1, (hb.at (r + 1)).1, (hb.at r).1, pk_mul, pk_mul, pk_mul, nI_add, nI_add, nI_add]
    simp only [hsN, Nat.add_zero, show r + 3 - r + 1 = 4 by omega, show r + 3 - (r + 1) + 1 = 3 by omega, show r + 3 - (r + 2) + 1 = 2 by omega, show r + 3 - (r + 3) + 1 = 1 by omega]
    exact congrArg nI (by omega)
  · rcases (by omega : k = 0 ∨ k = 1 ∨ k = 2) with rfl | rfl | rfl
    · rw [am_at_neg (by decide : nI 0 - nI 1 < 0), am_at_neg (by decide : nI 0 - nI 2 < 0), am_at_neg (by decide : nI 0 - nI 3 < 0), (hb.at 0).1, z, pk_mul, pk_mul, pk_mul, nI_add, nI_add, nI_add]
      show nI (0 + 1 * bn bs 0) = nI (bn bs 0 + 2 * 0 + 3 * 0 + 4 * 0)
      exact congrArg nI (by omega)
    · rw [am_at_sub (by omega) (by omega), am_at_neg (by decide : nI 1 - nI 2 < 0), am_at_neg (by decide : nI 1 - nI 3 < 0), (hb.at 1).1, (hb.at (1 - 1)).1, z, pk_mul, pk_mul, pk_mul, nI_add, nI_add, nI_add]
      show nI (0 + 2 * bn bs 0 + 1 * bn bs 1) = nI (bn bs 1 + 2 * bn bs 0 + 3 * 0 + 4 * 0)
      exact congrArg nI (by omega)
    · rw [am_at_sub (by omega) (by omega), am_at_sub (by omega) (by omega), am_at_neg (by decide : nI 2 - nI 3 < 0), (hb.at 2).1, (hb.at (2 - 1)).1, (hb.at (2 - 2)).1, z, pk_mul, pk_mul, pk_mul, nI_add, nI_add, nI_add]
      show nI (0 + 3 * bn bs 0 + 2 * bn bs 1 + 1 * bn bs 2) = nI (bn bs 2 + 2 * bn bs 1 + 3 * bn bs 0 + 4 * 0)
      exact congrArg nI (by omega)
abbrev rmS : Room := { rL_stores with cells := 482, slots := 9712 }
def stC (Z : AZ) (M : AM) (x : Nat) (τ : TS) (F : Nat → Nat → Int32) : Prop := am_X RL cL_stores Z ∧ zn Z = 18 ∧ zR Z = rmS ∧ (zM Z).sig.returnType = some .boolean ∧ ncs (zs Z) ∧ (zl Z).stackTraces = false ∧ isRS (zG Z) M x (x + 292) τ ∧ tbL (zG Z) x M M F ∧ lR F τ
abbrev stL (x : Nat) (kd y w : Int32) (p : Nat) (a b : Int32) (t : List (Option Value)) : List (Option Value) := some (.ref x) :: some (.int kd) :: some (.int y) :: some (.ref (x + 271)) :: some (.ref (x + 272)) :: some (.ref (x + 288)) :: some (.ref (x + 289)) :: some (.ref (x + 290)) :: some (.ref (x + 291)) :: some (.int w) :: some (.int (nI p)) :: some (.int a) :: some (.int b) :: t
theorem st_cut {Z : AZ} {M : AM} {x p : Nat} {τ : TS} {F : Nat → Nat → Int32} {kd y w a b : Int32} (C : stC Z M x τ F) : AW Z (am_Q Z (lP (zG Z) x) (fun _ _ => False) 482 9712) M 0 0 78 (stL x kd y w p a b [none, none, none, none, none]) [] := by
  obtain ⟨X, hn, hR, hr, hN, hfl, hs, hT, hL⟩ := C
  refine aw_spl (pm := 107) (P := fun _ => True) (fun K => ?_) (fun l _ => ?_)
  · refine aw_iload2 X dL_stores_78 ?_
    refine aw_bipush X dL_stores_79 (v := nI 14) (by decide) ?_
    refine aw_callS X (c_L_some (N := 14) (by decide) (by decide)) kL_136 dL_stores_81 rfl rfl (by first | decide | exact Nat.le_of_ble_eq_true rfl) (by rw [hR]; exact ⟨by first | decide | exact Nat.le_of_ble_eq_true rfl | (dsimp only; omega), by first | decide | exact Nat.le_of_ble_eq_true rfl | (dsimp only; omega)⟩) (by rw [hR]; exact ⟨by first | decide | exact Nat.le_of_ble_eq_true rfl | (dsimp only; omega), by first | decide | exact Nat.le_of_ble_eq_true rfl | (dsimp only; omega)⟩) (fun v M hv => ?_)
    obtain ⟨rfl, t, ht, rfl⟩ := hv
    refine aw_ifne X dL_stores_84 (tgt := 100) (by decide) (fun c => ?_) (fun c => ?_)
    · refine aw_iconst X dL_stores_100 (v := nI 1) (by decide) ?_
      refine aw_iload2 X dL_stores_101 ?_
      refine aw_iconst X dL_stores_102 (v := nI 4) (by decide) ?_
      refine aw_callS X (c_L_some (N := 4) (by decide) (by decide)) kL_136 dL_stores_103 rfl rfl (by first | decide | exact Nat.le_of_ble_eq_true rfl) (by rw [hR]; exact ⟨by first | decide | exact Nat.le_of_ble_eq_true rfl | (dsimp only; omega), by first | decide | exact Nat.le_of_ble_eq_true rfl | (dsimp only; omega)⟩) (by rw [hR]; exact ⟨by first | decide | exact Nat.le_of_ble_eq_true rfl | (dsimp only; omega), by first | decide | exact Nat.le_of_ble_eq_true rfl | (dsimp only; omega)⟩) (fun v M hv => ?_)
      obtain ⟨rfl, t, ht, rfl⟩ := hv
      refine aw_iadd X dL_stores_106 ?_
      first | with_reducible refine aw_int (nI_add _ _) ?_ | skip
      exact K _ trivial
    · refine aw_iload2 X dL_stores_87 ?_
      refine aw_iconst X dL_stores_88 (v := nI 3) (by decide) ?_
      refine aw_ishr X dL_stores_89 ?_
      refine aw_iconst X dL_stores_90 (v := nI 2) (by decide) ?_
      refine aw_callS X (c_L_some (N := 2) (by decide) (by decide)) kL_136 dL_stores_91 rfl rfl (by first | decide | exact Nat.le_of_ble_eq_true rfl) (by rw [hR]; exact ⟨by first | decide | exact Nat.le_of_ble_eq_true rfl | (dsimp only; omega), by first | decide | exact Nat.le_of_ble_eq_true rfl | (dsimp only; omega)⟩) (by rw [hR]; exact ⟨by first | decide | exact Nat.le_of_ble_eq_true rfl | (dsimp only; omega), by first | decide | exact Nat.le_of_ble_eq_true rfl | (dsimp only; omega)⟩) (fun v M hv => ?_)
      obtain ⟨rfl, t, ht, rfl⟩ := hv
      refine aw_bipush X dL_stores_94 (v := nI 17) (by decide) ?_
      refine aw_imul X dL_stores_96 ?_
      first | with_reducible refine aw_int (pk_mul _ _) ?_ | skip
      refine aw_goto X dL_stores_97 (tgt := 107) (by decide) ?_
      exact K _ trivial
  refine aw_istore13 X dL_stores_107 (by rw [hn]; decide) rfl ?_
  refine aw_iload13 X dL_stores_109 ?_
  refine aw_iload2 X dL_stores_111 ?_
  refine aw_iconst X dL_stores_112 (v := nI 2) (by decide) ?_
  refine aw_ishr X dL_stores_113 ?_
  refine aw_bipush X dL_stores_114 (v := nI 6) (by decide) ?_
  refine aw_callS X (c_L_some (N := 6) (by decide) (by decide)) kL_136 dL_stores_116 rfl rfl (by first | decide | exact Nat.le_of_ble_eq_true rfl) (by rw [hR]; exact ⟨by first | decide | exact Nat.le_of_ble_eq_true rfl | (dsimp only; omega), by first | decide | exact Nat.le_of_ble_eq_true rfl | (dsimp only; omega)⟩) (by rw [hR]; exact ⟨by first | decide | exact Nat.le_of_ble_eq_true rfl | (dsimp only; omega), by first | decide | exact Nat.le_of_ble_eq_true rfl | (dsimp only; omega)⟩) (fun v M hv => ?_)
  obtain ⟨rfl, gg, hgg, rfl⟩ := hv
  refine aw_iadd X dL_stores_119 ?_
  refine aw_spl (pm := 136) (P := fun v => ∃ t, t ≤ 1 ∧ v = nI t) (fun K => ?_) ?_
  · refine aw_iload2 X dL_stores_120 ?_
    refine aw_iconst X dL_stores_121 (v := nI 5) (by decide) ?_
    refine aw_ishr X dL_stores_122 ?_
    refine aw_bipush X dL_stores_123 (v := nI 9) (by decide) ?_
    refine aw_callS X (c_L_some (N := 9) (by decide) (by decide)) kL_136 dL_stores_125 rfl rfl (by first | decide | exact Nat.le_of_ble_eq_true rfl) (by rw [hR]; exact ⟨by first | decide | exact Nat.le_of_ble_eq_true rfl | (dsimp only; omega), by first | decide | exact Nat.le_of_ble_eq_true rfl | (dsimp only; omega)⟩) (by rw [hR]; exact ⟨by first | decide | exact Nat.le_of_ble_eq_true rfl | (dsimp only; omega), by first | decide | exact Nat.le_of_ble_eq_true rfl | (dsimp only; omega)⟩) (fun v M hv => ?_)
    obtain ⟨rfl, t, ht, rfl⟩ := hv
    refine aw_ifne X dL_stores_128 (tgt := 135) (by decide) (fun c => ?_) (fun c => ?_)
    · refine aw_iconst X dL_stores_135 (v := nI 0) (by decide) ?_
      exact K _ ⟨0, by decide, rfl⟩
    · refine aw_iconst X dL_stores_131 (v := nI 1) (by decide) ?_
      refine aw_goto X dL_stores_132 (tgt := 136) (by decide) ?_
      exact K _ ⟨1, by decide, rfl⟩
  rintro _ ⟨t, ht, rfl⟩
  refine aw_isub X dL_stores_136 ?_
  refine aw_topi (fun G hG => ?_)
  refine aw_istore14 X dL_stores_137 (by rw [hn]; decide) rfl ?_
  refine aw_spl (pm := 172) (P := fun _ => True) (fun K => ?_) (fun d _ => ?_)
  · refine aw_iload2 X dL_stores_139 ?_
    refine aw_iconst X dL_stores_140 (v := nI 4) (by decide) ?_
    refine aw_ishr X dL_stores_141 ?_
    refine aw_bipush X dL_stores_142 (v := nI 20) (by decide) ?_
    refine aw_callS X (c_L_some (N := 20) (by decide) (by decide)) kL_136 dL_stores_144 rfl rfl (by first | decide | exact Nat.le_of_ble_eq_true rfl) (by rw [hR]; exact ⟨by first | decide | exact Nat.le_of_ble_eq_true rfl | (dsimp only; omega), by first | decide | exact Nat.le_of_ble_eq_true rfl | (dsimp only; omega)⟩) (by rw [hR]; exact ⟨by first | decide | exact Nat.le_of_ble_eq_true rfl | (dsimp only; omega), by first | decide | exact Nat.le_of_ble_eq_true rfl | (dsimp only; omega)⟩) (fun v M hv => ?_)
    obtain ⟨rfl, t, ht, rfl⟩ := hv
    refine aw_ifne X dL_stores_147 (tgt := 163) (by decide) (fun c => ?_) (fun c => ?_)
    · refine aw_iconst X dL_stores_163 (v := nI 1) (by decide) ?_
      refine aw_iload2 X dL_stores_164 ?_
      refine aw_iconst X dL_stores_165 (v := nI 4) (by decide) ?_
      refine aw_ishr X dL_stores_166 ?_
      refine aw_iconst X dL_stores_167 (v := nI 3) (by decide) ?_
      refine aw_callS X (c_L_some (N := 3) (by decide) (by decide)) kL_136 dL_stores_168 rfl rfl (by first | decide | exact Nat.le_of_ble_eq_true rfl) (by rw [hR]; exact ⟨by first | decide | exact Nat.le_of_ble_eq_true rfl | (dsimp only; omega), by first | decide | exact Nat.le_of_ble_eq_true rfl | (dsimp only; omega)⟩) (by rw [hR]; exact ⟨by first | decide | exact Nat.le_of_ble_eq_true rfl | (dsimp only; omega), by first | decide | exact Nat.le_of_ble_eq_true rfl | (dsimp only; omega)⟩) (fun v M hv => ?_)
      obtain ⟨rfl, t, ht, rfl⟩ := hv
      refine aw_iadd X dL_stores_171 ?_
      first | with_reducible refine aw_int (nI_add _ _) ?_ | skip
      exact K _ trivial
    · refine aw_iload2 X dL_stores_150 ?_
      refine aw_iconst X dL_stores_151 (v := nI 3) (by decide) ?_
      refine aw_ishr X dL_stores_152 ?_
      refine aw_iconst X dL_stores_153 (v := nI 2) (by decide) ?_
      refine aw_callS X (c_L_some (N := 2) (by decide) (by decide)) kL_136 dL_stores_154 rfl rfl (by first | decide | exact Nat.le_of_ble_eq_true rfl) (by rw [hR]; exact ⟨by first | decide | exact Nat.le_of_ble_eq_true rfl | (dsimp only; omega), by first | decide | exact Nat.le_of_ble_eq_true rfl | (dsimp only; omega)⟩) (by rw [hR]; exact ⟨by first | decide | exact Nat.le_of_ble_eq_true rfl | (dsimp only; omega), by first | decide | exact Nat.le_of_ble_eq_true rfl | (dsimp only; omega)⟩) (fun v M hv => ?_)
      obtain ⟨rfl, t, ht, rfl⟩ := hv
      refine aw_bipush X dL_stores_157 (v := nI 65) (by decide) ?_
      refine aw_imul X dL_stores_159 ?_
      first | with_reducible refine aw_int (pk_mul _ _) ?_ | skip
      refine aw_goto X dL_stores_160 (tgt := 172) (by decide) ?_
      exact K _ trivial
  refine aw_istore15 X dL_stores_172 (by rw [hn]; decide) rfl ?_
  refine aw_splB (pm := 210) (P := rgI l (nI 1) (nI 16) ∧ ¬ G < l ∧ rgI d (nI 1) (nI 64)) (fun K => ?_) ?_
  · refine aw_iload13 X dL_stores_174 ?_
    refine aw_ifle X dL_stores_176 (tgt := 209) (by decide) (fun c1 => ?_) (fun c1 => ?_)
    · refine aw_iconst X dL_stores_209 (v := nI 0) (by decide) ?_
      exact aw_b0 (fun e => e.1.1 ((le0_lt1 l).mp c1)) K
    · refine aw_iload13 X dL_stores_179 ?_
      refine aw_bipush X dL_stores_181 (v := nI 17) (by decide) ?_
      refine aw_icmpge X dL_stores_183 (tgt := 209) (by decide) (fun c2 => ?_) (fun c2 => ?_)
      · refine aw_iconst X dL_stores_209 (v := nI 0) (by decide) ?_
        exact aw_b0 (fun e => (le_succ (by decide) l).mp c2 e.1.2) K
      · have hb2 : l ≤ nI 16 := Decidable.byContradiction (fun q => c2 ((le_succ (by decide) l).mpr q))
        refine aw_iload14 X dL_stores_186 ?_
        refine aw_iload13 X dL_stores_188 ?_
        refine aw_icmplt X dL_stores_190 (tgt := 209) (by decide) (fun c5 => ?_) (fun c5 => ?_)
        · refine aw_iconst X dL_stores_209 (v := nI 0) (by decide) ?_
          exact aw_b0 (fun e => e.2.1 c5) K
        · refine aw_iload15 X dL_stores_193 ?_
          refine aw_ifle X dL_stores_195 (tgt := 209) (by decide) (fun c3 => ?_) (fun c3 => ?_)
          · refine aw_iconst X dL_stores_209 (v := nI 0) (by decide) ?_
            exact aw_b0 (fun e => e.2.2.1 ((le0_lt1 d).mp c3)) K
          · refine aw_iload15 X dL_stores_198 ?_
            refine aw_bipush X dL_stores_200 (v := nI 65) (by decide) ?_
            refine aw_icmpge X dL_stores_202 (tgt := 209) (by decide) (fun c4 => ?_) (fun c4 => ?_)
            · refine aw_iconst X dL_stores_209 (v := nI 0) (by decide) ?_
              exact aw_b0 (fun e => (le_succ (by decide) d).mp c4 e.2.2.2) K
            · have hm2 : d ≤ nI 64 := Decidable.byContradiction (fun q => c4 ((le_succ (by decide) d).mpr q))
              refine aw_iconst X dL_stores_205 (v := nI 1) (by decide) ?_
              refine aw_goto X dL_stores_206 (tgt := 210) (by decide) ?_
              exact aw_b1 ⟨⟨fun q => c1 ((le0_lt1 l).mpr q), hb2⟩, c5, fun q => c3 ((le0_lt1 d).mpr q), hm2⟩ K
  refine aw_istore16 X dL_stores_210 (by rw [hn]; decide) rfl ?_
  by_cases hf : rgI l (nI 1) (nI 16) ∧ ¬ G < l ∧ rgI d (nI 1) (nI 64)
  · rw [am_b1 hf]
    obtain ⟨b1, b2, b3⟩ := rgI_j hf.1 (by decide) (by decide)
    obtain ⟨m1, m2, m3⟩ := rgI_j hf.2.2 (by decide) (by decide)
    have hgl := hf.2.1
    generalize ix l = B at b1 b2 b3
    generalize ix d = D at m1 m2 m3
    subst b3
    subst m3
    rw [nI_add, pk_sub (by omega)] at hG
    subst hG
    have hge : B ≤ B + gg - t := by
      rcases Nat.lt_or_ge (B + gg - t) B with q | q
      · exact absurd (nI_lt q (by omega)) hgl
      · exact q
    refine aw_iload16 X dL_stores_212 ?_
    refine aw_ifeq X dL_stores_214 (tgt := 235) (by decide) (fun c9 => by first | exact absurd ((by decide : ¬ nI 1 = 0)) c9 | exact absurd c9 ((by decide : ¬ nI 1 = 0))) (fun _ => ?_)
    refine aw_aload8 X dL_stores_217 ?_
    refine aw_iconst X dL_stores_219 (v := nI 0) (by decide) ?_
    refine aw_iload13 X dL_stores_220 ?_
    refine aw_tst X 20 dL_stores_222 hT (by decide) (rfl : nI 0 = nI 0) (show 0 < 3 by decide) (by decide) (fun M1 h1 => ?_)
    refine aw_aload8 X dL_stores_223 ?_
    refine aw_iconst X dL_stores_225 (v := nI 1) (by decide) ?_
    refine aw_iload14 X dL_stores_226 ?_
    refine aw_tst X 20 dL_stores_228 h1 (by decide) (rfl : nI 1 = nI 1) (show 1 < 3 by decide) (by decide) (fun M2 h2 => ?_)
    refine aw_aload8 X dL_stores_229 ?_
    refine aw_iconst X dL_stores_231 (v := nI 2) (by decide) ?_
    refine aw_iload15 X dL_stores_232 ?_
    refine aw_tst X 20 dL_stores_234 h2 (by decide) (rfl : nI 2 = nI 2) (show 2 < 3 by decide) (by decide) (fun M3 h3 => ?_)
    rw [va_up_self, va_up2, va_up_self, va_up2] at h3
    refine aw_aload0 X dL_stores_235 ?_
    refine aw_iload13 X dL_stores_236 ?_
    refine aw_iload14 X dL_stores_238 ?_
    refine aw_iload15 X dL_stores_240 ?_
    refine aw_callSH X hN (w_cuts hfl (hs.tb h3)) kL_187 dL_stores_242 rfl rfl (by first | decide | exact Nat.le_of_ble_eq_true rfl) (by rw [hR]; exact ⟨by first | decide | exact Nat.le_of_ble_eq_true rfl | (dsimp only; omega), by first | decide | exact Nat.le_of_ble_eq_true rfl | (dsimp only; omega)⟩) (by rw [hR]; exact ⟨by first | decide | exact Nat.le_of_ble_eq_true rfl | (dsimp only; omega), by first | decide | exact Nat.le_of_ble_eq_true rfl | (dsimp only; omega)⟩) (fun v M4 hv => ?_)
    obtain ⟨rfl, hs1, hk1⟩ := hv
    have e0 : spCuts τ (nI B) (nI (B + gg - t)) (nI D) = (0, 0, (τ.1, τ.2.1, τ.2.2.1, τ.2.2.2.1, (B, B + gg - t, D), τ.2.2.2.2.2)) := by
      rw [spCuts, if_pos ⟨hf.1, ⟨hgl, nI_le (by omega) (by decide)⟩, hf.2.2⟩]
      simp only [ix_n (show B < 2 ^ 31 by omega), ix_n (show D < 2 ^ 31 by omega), ix_n (show B + gg - t < 2 ^ 31 by omega)]
    rw [e0] at hs1 ⊢
    refine aw_iload16 X dL_stores_245 ?_
    refine aw_ifeq X dL_stores_247 (tgt := 254) (by decide) (fun c9 => by first | exact absurd ((by decide : ¬ nI 1 = 0)) c9 | exact absurd c9 ((by decide : ¬ nI 1 = 0))) (fun _ => ?_)
    refine aw_iconst X dL_stores_250 (v := nI 0) (by decide) ?_
    refine aw_goto X dL_stores_251 (tgt := 256) (by decide) ?_
    refine aw_icmpne X dL_stores_256 (tgt := 263) (by decide) (fun c9 => by first | exact absurd ((rfl : wr (0, 0, (τ.1, τ.2.1, τ.2.2.1, τ.2.2.2.1, (B, B + gg - t, D), τ.2.2.2.2.2)) = nI 0)) c9 | exact absurd c9 ((rfl : wr (0, 0, (τ.1, τ.2.1, τ.2.2.1, τ.2.2.2.1, (B, B + gg - t, D), τ.2.2.2.2.2)) = nI 0))) (fun _ => ?_)
    refine aw_iconst X dL_stores_259 (v := nI 1) (by decide) ?_
    refine aw_goto X dL_stores_260 (tgt := 264) (by decide) ?_
    refine aw_widen (k' := 482) (n' := 9712) (Nat.le_of_ble_eq_true rfl) (Nat.le_of_ble_eq_true rfl) ?_
    have hfin : cutsR (va_up F 20 (upd (upd (upd (F 20) 0 (nI B)) 1 (nI (B + gg - t))) 2 (nI D)) 20) (B, B + gg - t, D) := by
      rw [va_up_self]
      exact ⟨rfl, rfl, rfl, b1, b2, hge, by show B + gg - t ≤ 40; omega, m1, m2⟩
    refine aw_ireturn X (ty := .boolean) hr (by first | rfl | decide | assumption) dL_stores_264 (⟨rfl, _, lS.of h3 (hL.cuts hfin (fun j hj => va_up_ne _ _ hj)) hs1 hk1 eD_ok⟩)
  · rw [am_b0 hf]
    refine aw_iload16 X dL_stores_212 ?_
    refine aw_ifeq X dL_stores_214 (tgt := 235) (by decide) (fun _ => ?_) (fun c9 => by first | exact absurd ((rfl : nI 0 = 0)) c9 | exact absurd c9 ((rfl : nI 0 = 0)))
    refine aw_aload0 X dL_stores_235 ?_
    refine aw_iload13 X dL_stores_236 ?_
    refine aw_iload14 X dL_stores_238 ?_
    refine aw_iload15 X dL_stores_240 ?_
    refine aw_callSH X hN (w_cuts hfl hs) kL_187 dL_stores_242 rfl rfl (by first | decide | exact Nat.le_of_ble_eq_true rfl) (by rw [hR]; exact ⟨by first | decide | exact Nat.le_of_ble_eq_true rfl | (dsimp only; omega), by first | decide | exact Nat.le_of_ble_eq_true rfl | (dsimp only; omega)⟩) (by rw [hR]; exact ⟨by first | decide | exact Nat.le_of_ble_eq_true rfl | (dsimp only; omega), by first | decide | exact Nat.le_of_ble_eq_true rfl | (dsimp only; omega)⟩) (fun v M4 hv => ?_)
    obtain ⟨rfl, hs1, hk1⟩ := hv
    have e0 : spCuts τ l G d = (1, 0, τ) := by
      rw [spCuts, if_neg]
      exact fun q => hf ⟨q.1, q.2.1.1, q.2.2⟩
    rw [e0] at hs1 ⊢
    refine aw_iload16 X dL_stores_245 ?_
    refine aw_ifeq X dL_stores_247 (tgt := 254) (by decide) (fun _ => ?_) (fun c9 => by first | exact absurd ((rfl : nI 0 = 0)) c9 | exact absurd c9 ((rfl : nI 0 = 0)))
    refine aw_bipush X dL_stores_254 (v := -101) (by decide) ?_
    refine aw_icmpne X dL_stores_256 (tgt := 263) (by decide) (fun c9 => by first | exact absurd ((rfl : wr (1, 0, τ) = -101)) c9 | exact absurd c9 ((rfl : wr (1, 0, τ) = -101))) (fun _ => ?_)
    refine aw_iconst X dL_stores_259 (v := nI 1) (by decide) ?_
    refine aw_goto X dL_stores_260 (tgt := 264) (by decide) ?_
    refine aw_widen (k' := 482) (n' := 9712) (Nat.le_of_ble_eq_true rfl) (Nat.le_of_ble_eq_true rfl) ?_
    refine aw_ireturn X (ty := .boolean) hr (by first | rfl | decide | assumption) dL_stores_264 (⟨rfl, τ, lS.of hT hL hs1 hk1 eD_ok⟩)
theorem gdL_app {l : List (List Int32)} {x : List Int32} {k : Nat} (hk : k < l.length + 1) : (l ++ [x]).getD k [] = if k = l.length then x else l.getD k [] := getD_app l x [] k hk
theorem st_put {Z : AZ} {M : AM} {x p i fr : Nat} {τ : TS} {F : Nat → Nat → Int32} {kd y b : Int32} (C : stC Z M x τ F) (hi : i < 4) (hfr : fr < 4) (hno : τ.2.2.2.2.2 fr = none) (hall : ∀ t, t < fr → (τ.2.2.2.2.2 t).isSome = true) : AW Z (am_Q Z (lP (zG Z) x) (fun _ _ => False) 482 9712) M 0 0 312 (stL x kd y (nI i) p (nI 1) b [some (.int (nI fr)), none, none, none, none]) [] := by
  obtain ⟨X, hn, hR, hr, hN, hfl, hs, hT, hL⟩ := C
  obtain ⟨l1, l2, l3, l4⟩ := hL.2.1 i hi
  obtain ⟨c0, c1, c2, c3, c4, c5, c6, c7, c8⟩ := hL.2.2.2.2.2.1
  have hP := hL.2.2.2.2.2.2
  obtain ⟨g, hg⟩ : ∃ g, g = τ.2.2.2.2.1 := ⟨_, rfl⟩
  rw [← hg] at c0 c1 c2 c3 c4 c5 c6 c7 c8
  obtain ⟨bs, hbs⟩ : ∃ bs, bs = τ.1.2 i := ⟨_, rfl⟩
  rw [← hbs] at l1 l2 l3 l4
  have inv := fun k => cs_inv (g := g) (bs := bs) (show 0 < g.2.1 by omega) c6 k
  refine aw_aload7 X dL_stores_312 ?_
  refine aw_iload13 X dL_stores_314 ?_
  refine aw_iconst X dL_stores_316 (v := nI 1) (by decide) ?_
  refine aw_tst X 19 dL_stores_317 hT (by decide) rfl (show fr < 8 by omega) (by decide) (fun M1 h1 => ?_)
  refine aw_aload7 X dL_stores_318 ?_
  refine aw_iconst X dL_stores_320 (v := nI 4) (by decide) ?_
  refine aw_iload13 X dL_stores_321 ?_
  refine aw_iadd X dL_stores_323 ?_
  first | with_reducible refine aw_int (nI_add _ _) ?_ | skip
  refine aw_iconst X dL_stores_324 (v := nI 0) (by decide) ?_
  refine aw_tst X 19 dL_stores_325 h1 (by decide) rfl (show 4 + fr < 8 by omega) (by decide) (fun M2 h2 => ?_)
  rw [va_up_self, va_up2] at h2
  refine aw_iconst X dL_stores_326 (v := nI 0) (by decide) ?_
  refine aw_istore14 X dL_stores_327 (by rw [hn]; decide) rfl ?_
  refine aw_iconst X dL_stores_329 (v := nI 0) (by decide) ?_
  refine aw_istore15 X dL_stores_330 (by rw [hn]; decide) rfl ?_
  refine aw_loopM (fun (k : Nat) M3 => k ≤ bs.length ∧ ∃ F1, tbL (zG Z) x M M3 F1 ∧ F1 19 fr = nI 1 ∧ F1 19 (4 + fr) = nI (cs g bs k).1.length ∧ (∀ t, t ≠ fr → t ≠ 4 + fr → F1 19 t = F 19 t) ∧ (∀ t, t < (cs g bs k).1.length → F1 18 (16 * fr + t) = nI ((cs g bs k).1.getD t []).length) ∧ (∀ t, t < 16 * fr ∨ 16 * fr + 16 ≤ t → F1 17 t = F 17 t ∧ F1 18 t = F 18 t) ∧ (∀ t, t < k → F1 17 (16 * fr + t) = bs.getD t 0) ∧ ∀ j, j < 17 ∨ 19 < j → F1 j = F j) (fun k => bs.length - k) (fun k => stL x kd y (nI i) p (nI 1) b [some (.int (nI fr)), some (.int (nI (cs g bs k).2)), some (.int (nI k)), none, none]) ?_ 0 ⟨Nat.zero_le _, _, h2, by rw [va_up_self, pk_un (by omega), pk_us], by rw [va_up_self, pk_us]; rfl, fun t t1 t2 => by rw [va_up_self, pk_un t2, pk_un t1], fun t ht => absurd ht (Nat.not_lt_zero _), fun t _ => ⟨by rw [va_up_ne _ _ (by decide)], by rw [va_up_ne _ _ (by decide)]⟩, fun t ht => absurd ht (Nat.not_lt_zero _), fun j hj => va_up_ne _ _ (by omega)⟩
  rintro k M3 ⟨hk, F1, h3, n1, n2, n3, n4, n5, n6, n7⟩ ih
  try dsimp only at ih ⊢
  obtain ⟨i1, i2, i3, i4, i5, i6⟩ := inv k hk
  have hF1n : F1 1 i = nI bs.length := by rw [n7 1 (by decide)]; exact l3
  have hcu : F1 20 = F 20 := n7 20 (by decide)
  refine aw_iload15 X dL_stores_332 ?_
  refine aw_aload4 X dL_stores_334 ?_
  refine aw_iload9 X dL_stores_336 ?_
  refine aw_iald X dL_stores_338 (h3.at 1 (by decide)) rfl (show i < 4 from hi) (by decide) ?_
  refine aw_int hF1n ?_
  refine aw_icmpge X dL_stores_339 (tgt := 514) (by decide) (fun d1 => ?_) (fun d1 => ?_)
  · have e : k = bs.length := by have := (nI_leI (by omega) (by omega)).mp d1; omega
    subst e
    clear ih
    refine aw_aload0 X dL_stores_514 ?_
    refine aw_iconst X dL_stores_515 (v := nI 4) (by decide) ?_
    refine aw_iload9 X dL_stores_516 ?_
    refine aw_iconst X dL_stores_518 (v := nI 0) (by decide) ?_
    refine aw_iconst X dL_stores_519 (v := nI 0) (by decide) ?_
    refine aw_callSH X hN (w_store hfl (hs.tb h3) ⟨_, h3.at 20 (by decide)⟩) kL_161 dL_stores_520 rfl rfl (by first | decide | exact Nat.le_of_ble_eq_true rfl) (by rw [hR]; exact ⟨by first | decide | exact Nat.le_of_ble_eq_true rfl | (dsimp only; omega), by first | decide | exact Nat.le_of_ble_eq_true rfl | (dsimp only; omega)⟩) (by rw [hR]; exact ⟨by first | decide | exact Nat.le_of_ble_eq_true rfl | (dsimp only; omega), by first | decide | exact Nat.le_of_ble_eq_true rfl | (dsimp only; omega)⟩) (fun v M4 hv => ?_)
    obtain ⟨rfl, hs1, hk1⟩ := hv
    have hlow : lowest (fun t => (τ.2.2.2.2.2 t).isNone) 12 = some fr := lowest_is (by omega) (by rw [hno]; rfl) (fun t ht => by
      have := hall t ht
      cases hq : τ.2.2.2.2.2 t with
      | none => rw [hq] at this; cases this
      | some _ => rfl)
    have e0 : spStore τ (nI i) = (0, nI fr, setP τ fr (some (cs g bs bs.length).1)) := by
      rw [spStore, if_pos (by rw [isF, hL.1]; exact inI_n hi (by decide))]
      rw [hlow]
      simp only [tF, ix_n (show i < 2 ^ 31 by omega), hg, hbs]
    rw [e0] at hs1 ⊢
    refine aw_iload11 X dL_stores_523 ?_
    refine aw_ifeq X dL_stores_525 (tgt := 533) (by decide) (fun c9 => by first | exact absurd ((by decide : ¬ nI 1 = 0)) c9 | exact absurd c9 ((by decide : ¬ nI 1 = 0))) (fun _ => ?_)
    refine aw_iload13 X dL_stores_528 ?_
    refine aw_goto X dL_stores_530 (tgt := 535) (by decide) ?_
    refine aw_icmpne X dL_stores_535 (tgt := 542) (by decide) (fun c9 => by first | exact absurd ((rfl : wr (0, nI fr, setP τ fr (some (cs g bs bs.length).1)) = nI fr)) c9 | exact absurd c9 ((rfl : wr (0, nI fr, setP τ fr (some (cs g bs bs.length).1)) = nI fr))) (fun _ => ?_)
    refine aw_iconst X dL_stores_538 (v := nI 1) (by decide) ?_
    refine aw_goto X dL_stores_539 (tgt := 543) (by decide) ?_
    refine aw_widen (k' := 482) (n' := 9712) (Nat.le_of_ble_eq_true rfl) (Nat.le_of_ble_eq_true rfl) ?_
    have hfl' := cs_flat (g := g) (bs := bs) (by omega) c6
    have hfin : psR (F1 17) (F1 18) (F1 19) (va_up τ.2.2.2.2.2 fr (some (cs g bs bs.length).1)) := hP.set hfr (fun l e => by
      cases e
      exact ⟨by rw [hfl']; exact l1, Nat.le_trans i3 l1, fun b hb => (i5 b hb).1, by rw [hfl']; exact l2⟩) ⟨n1, n2, n4, by rw [hfl']; exact n6⟩ n5 n3
    refine aw_ireturn X (ty := .boolean) hr (by first | rfl | decide | assumption) dL_stores_543 (⟨rfl, _, lS.of h3 (hL.paps hfin n7) hs1 hk1 eD_ok⟩)
  · have hlt : k < bs.length := by
      rcases Nat.lt_or_ge k bs.length with q | q
      · exact q
      · exact absurd (nI_le q (by omega)) d1
    have hk16 : k < 16 := by omega
    refine aw_aload5 X dL_stores_342 ?_
    refine aw_bipush X dL_stores_344 (v := nI 16) (by decide) ?_
    refine aw_iload13 X dL_stores_346 ?_
    refine aw_imul X dL_stores_348 ?_
    first | with_reducible refine aw_int (pk_mul _ _) ?_ | skip
    refine aw_iload15 X dL_stores_349 ?_
    refine aw_iadd X dL_stores_351 ?_
    first | with_reducible refine aw_int (nI_add _ _) ?_ | skip
    refine aw_aload3 X dL_stores_352 ?_
    refine aw_bipush X dL_stores_353 (v := nI 16) (by decide) ?_
    refine aw_iload9 X dL_stores_355 ?_
    refine aw_imul X dL_stores_357 ?_
    first | with_reducible refine aw_int (pk_mul _ _) ?_ | skip
    refine aw_iload15 X dL_stores_358 ?_
    refine aw_iadd X dL_stores_360 ?_
    first | with_reducible refine aw_int (nI_add _ _) ?_ | skip
    refine aw_iald X dL_stores_361 (h3.at 0 (by decide)) rfl (show 16 * i + k < 64 by omega) (by decide) ?_
    refine aw_int (y := bs.getD k 0) (by rw [n7 0 (by decide)]; exact l4 k hlt) ?_
    refine aw_tst X 17 dL_stores_362 h3 (by decide) rfl (show 16 * fr + k < 64 by omega) (by decide) (fun M4 h4 => ?_)
    refine aw_iconst X dL_stores_363 (v := nI 0) (by decide) ?_
    refine aw_istore16 X dL_stores_364 (by rw [hn]; decide) rfl ?_
    refine aw_spl (pm := 380) (P := fun v => v = nI (k - 3)) (fun K => ?_) ?_
    · refine aw_iload15 X dL_stores_366 ?_
      refine aw_iconst X dL_stores_368 (v := nI 2) (by decide) ?_
      refine aw_icmple X dL_stores_369 (tgt := 379) (by decide) (fun c => ?_) (fun c => ?_)
      · refine aw_iconst X dL_stores_379 (v := nI 0) (by decide) ?_
        have := (nI_leI (by omega) (by decide)).mp c
        exact K _ (by rw [show k - 3 = 0 by omega])
      · have : 2 < k := by
          rcases Nat.lt_or_ge 2 k with q | q
          · exact q
          · exact absurd (nI_le q (by decide)) c
        refine aw_iload15 X dL_stores_372 ?_
        refine aw_iconst X dL_stores_374 (v := nI 3) (by decide) ?_
        refine aw_isub X dL_stores_375 ?_
        refine aw_int (pk_sub (by omega)) ?_
        refine aw_goto X dL_stores_376 (tgt := 380) (by decide) ?_
        exact K _ rfl
    rintro _ rfl
    refine aw_istore17 X dL_stores_380 (by rw [hn]; decide) rfl ?_
    have hread : ∀ t, t ≤ k → (va_up F1 17 (upd (F1 17) (16 * fr + k) (bs.getD k 0))) 0 (16 * i + t) = nI (bn bs t) := fun t ht => by
      rw [va_up_ne _ _ (by decide), n7 0 (by decide), l4 t (by omega)]
      exact (l2.at t).1
    refine aw_loop (σ := Nat) (fun t => k - 3 + t ≤ k + 1) (fun t => 5 - t) (fun _ => M4) (fun t => stL x kd y (nI i) p (nI 1) b [some (.int (nI fr)), some (.int (nI (cs g bs k).2)), some (.int (nI k)), some (.int (nI (hsN bs k (k - 3) t))), some (.int (nI (k - 3 + t)))]) ?_ 0 (by omega)
    rintro t ht ih2
    try dsimp only at ht ih2 ⊢
    refine aw_iload17 X dL_stores_382 ?_
    refine aw_iload15 X dL_stores_384 ?_
    refine aw_icmpgt X dL_stores_386 (tgt := 418) (by decide) (fun c => ?_) (fun c => ?_)
    · have e : t = k - (k - 3) + 1 := by have := (nI_ltI (by omega) (by omega)).mp c; omega
      subst e
      clear ih2
      rw [hsN_hI l2 hk16]
      refine aw_drop17 ?_
      -- behind the hash
      have w1 : va_up F1 17 (upd (F1 17) (16 * fr + k) (bs.getD k 0)) 19 = F1 19 := va_up_ne _ _ (by decide)
      have w2 : va_up F1 17 (upd (F1 17) (16 * fr + k) (bs.getD k 0)) 18 = F1 18 := va_up_ne _ _ (by decide)
      have w3 : va_up F1 17 (upd (F1 17) (16 * fr + k) (bs.getD k 0)) 20 = F 20 := (va_up_ne _ _ (by decide)).trans hcu
      have w4 : ∀ j, j < 17 ∨ 19 < j → va_up F1 17 (upd (F1 17) (16 * fr + k) (bs.getD k 0)) j = F j := fun j hj => (va_up_ne _ _ (by omega)).trans (n7 j hj)
      have w5 : ∀ t, t < k + 1 → va_up F1 17 (upd (F1 17) (16 * fr + k) (bs.getD k 0)) 17 (16 * fr + t) = bs.getD t 0 := fun t ht => by
        rw [va_up_self]
        by_cases e : t = k
        · rw [e, pk_us]
        · rw [pk_un (by omega)]
          exact n6 t (by omega)
      have w6 : ∀ t, t < 16 * fr ∨ 16 * fr + 16 ≤ t → va_up F1 17 (upd (F1 17) (16 * fr + k) (bs.getD k 0)) 17 t = F 17 t := fun t ht => by
        rw [va_up_self, pk_un (by omega)]
        exact (n5 t ht).1
      generalize va_up F1 17 (upd (F1 17) (16 * fr + k) (bs.getD k 0)) = F4 at h4 w1 w2 w3 w4 w5 w6
      clear hread
      refine aw_iload15 X dL_stores_418 ?_
      refine aw_iconst X dL_stores_420 (v := nI 1) (by decide) ?_
      refine aw_iadd X dL_stores_421 ?_
      first | with_reducible refine aw_int (nI_add _ _) ?_ | skip
      refine aw_iload14 X dL_stores_422 ?_
      refine aw_isub X dL_stores_424 ?_
      refine aw_int (pk_sub (by omega)) ?_
      refine aw_istore17 X dL_stores_425 (by rw [hn]; decide) rfl ?_
      -- no cut here
      have off : ¬ endB g bs k (k + 1 - (cs g bs k).2) → AW Z (am_Q Z (lP (zG Z) x) (fun _ _ => False) 482 9712) M4 0 0 508 (stL x kd y (nI i) p (nI 1) b [some (.int (nI fr)), some (.int (nI (cs g bs k).2)), some (.int (nI k)), some (.int (hI bs k)), some (.int (nI (k + 1 - (cs g bs k).2)))]) [] := fun he => by
        have ec : cs g bs (k + 1) = cs g bs k := by rw [cs, if_neg he]
        refine aw_iinc15 X dL_stores_508 (by rw [hn]; decide) (am_inc _ 1) rfl ?_
        refine aw_goto X dL_stores_511 (tgt := 332) (by decide) ?_
        have q := ih (k + 1) M4 ⟨hlt, F4, h4, by rw [w1]; exact n1, by rw [w1, ec]; exact n2, fun t t1 t2 => by rw [w1]; exact n3 t t1 t2, fun t ht => by rw [ec] at ht ⊢; rw [w2]; exact n4 t ht, fun t ht => ⟨w6 t ht, by rw [w2]; exact (n5 t ht).2⟩, w5, w4⟩ (by omega)
        rw [ec] at q
        exact aw_drop16 (aw_drop17 q)
      have on : endB g bs k (k + 1 - (cs g bs k).2) → AW Z (am_Q Z (lP (zG Z) x) (fun _ _ => False) 482 9712) M4 0 0 473 (stL x kd y (nI i) p (nI 1) b [some (.int (nI fr)), some (.int (nI (cs g bs k).2)), some (.int (nI k)), some (.int (hI bs k)), some (.int (nI (k + 1 - (cs g bs k).2)))]) [] := fun he => by
        have ec : cs g bs (k + 1) = ((cs g bs k).1 ++ [(bs.drop (cs g bs k).2).take (k + 1 - (cs g bs k).2)], k + 1) := by rw [cs, if_pos he]
        have hpl : ((bs.drop (cs g bs k).2).take (k + 1 - (cs g bs k).2)).length = k + 1 - (cs g bs k).2 := by
          rw [List.length_take, List.length_drop]
          omega
        refine aw_aload6 X dL_stores_473 ?_
        refine aw_bipush X dL_stores_475 (v := nI 16) (by decide) ?_
        refine aw_iload13 X dL_stores_477 ?_
        refine aw_imul X dL_stores_479 ?_
        first | with_reducible refine aw_int (pk_mul _ _) ?_ | skip
        refine aw_aload7 X dL_stores_480 ?_
        refine aw_iconst X dL_stores_482 (v := nI 4) (by decide) ?_
        refine aw_iload13 X dL_stores_483 ?_
        refine aw_iadd X dL_stores_485 ?_
        first | with_reducible refine aw_int (nI_add _ _) ?_ | skip
        refine aw_iald X dL_stores_486 (h4.at 19 (by decide)) rfl (show 4 + fr < 8 by omega) (by decide) ?_
        refine aw_int (y := nI (cs g bs k).1.length) (by rw [w1]; exact n2) ?_
        refine aw_iadd X dL_stores_487 ?_
        first | with_reducible refine aw_int (nI_add _ _) ?_ | skip
        refine aw_iload17 X dL_stores_488 ?_
        refine aw_tst X 18 dL_stores_490 h4 (by decide) rfl (show 16 * fr + (cs g bs k).1.length < 64 by omega) (by decide) (fun M5 h5 => ?_)
        refine aw_aload7 X dL_stores_491 ?_
        refine aw_iconst X dL_stores_493 (v := nI 4) (by decide) ?_
        refine aw_iload13 X dL_stores_494 ?_
        refine aw_iadd X dL_stores_496 ?_
        first | with_reducible refine aw_int (nI_add _ _) ?_ | skip
        refine aw_dup2 X dL_stores_497 rfl rfl ?_
        refine aw_iald X dL_stores_498 (h5.at 19 (by decide)) rfl (show 4 + fr < 8 by omega) (by decide) ?_
        refine aw_int (y := nI (cs g bs k).1.length) (by rw [va_up_ne _ _ (by decide), w1]; exact n2) ?_
        refine aw_iconst X dL_stores_499 (v := nI 1) (by decide) ?_
        refine aw_iadd X dL_stores_500 ?_
        first | with_reducible refine aw_int (nI_add _ _) ?_ | skip
        refine aw_tst X 19 dL_stores_501 h5 (by decide) rfl (show 4 + fr < 8 by omega) (by decide) (fun M6 h6 => ?_)
        refine aw_iload15 X dL_stores_502 ?_
        refine aw_iconst X dL_stores_504 (v := nI 1) (by decide) ?_
        refine aw_iadd X dL_stores_505 ?_
        first | with_reducible refine aw_int (nI_add _ _) ?_ | skip
        refine aw_istore14 X dL_stores_506 (by rw [hn]; decide) rfl ?_
        refine aw_iinc15 X dL_stores_508 (by rw [hn]; decide) (am_inc _ 1) rfl ?_
        refine aw_goto X dL_stores_511 (tgt := 332) (by decide) ?_
        have q := ih (k + 1) M6 ⟨hlt, _, h6, ?_, ?_, fun t t1 t2 => ?_, fun t ht => ?_, fun t ht => ⟨?_, ?_⟩, fun t ht => ?_, fun j hj => ?_⟩ (by omega)
        · rw [ec] at q
          exact aw_drop16 (aw_drop17 q)
        · rw [va_up_self, pk_un (by omega), va_up_ne _ _ (by decide), w1]
          exact n1
        · rw [va_up_self, pk_us, ec, List.length_append]
          rfl
        · rw [va_up_self, pk_un t2, va_up_ne _ _ (by decide), w1]
          exact n3 t t1 t2
        · rw [ec] at ht ⊢
          have ht : t < (cs g bs k).1.length + 1 := by rwa [List.length_append] at ht
          dsimp only
          rw [gdL_app ht, va_up_ne _ _ (by decide), va_up_self]
          by_cases e : t = (cs g bs k).1.length
          · rw [if_pos e, e, pk_us, hpl]
          · rw [if_neg e, pk_un (by omega), w2]
            exact n4 t (by omega)
        · rw [va_up_ne _ _ (by decide), va_up_ne _ _ (by decide)]
          exact w6 t ht
        · rw [va_up_ne _ _ (by decide), va_up_self, pk_un (by omega), w2]
          exact (n5 t ht).2
        · rw [va_up_ne _ _ (by decide), va_up_ne _ _ (by decide)]
          exact w5 t ht
        · rw [va_up_ne _ _ (by omega), va_up_ne _ _ (by omega)]
          exact w4 j hj
      refine aw_iload15 X dL_stores_427 ?_
      refine aw_aload4 X dL_stores_429 ?_
      refine aw_iload9 X dL_stores_431 ?_
      refine aw_iald X dL_stores_433 (h4.at 1 (by decide)) rfl (show i < 4 from hi) (by decide) ?_
      refine aw_int (y := nI bs.length) (by rw [w4 1 (by decide)]; exact l3) ?_
      refine aw_iconst X dL_stores_434 (v := nI 1) (by decide) ?_
      refine aw_isub X dL_stores_435 ?_
      refine aw_int (pk_sub (by omega)) ?_
      refine aw_icmpeq X dL_stores_436 (tgt := 473) (by decide) (fun q1 => ?_) (fun q1 => ?_)
      · have := (nI_eq (by omega) (by omega)).mp q1
        exact on (Or.inr (Or.inl (by omega)))
      · have q1' : ¬ k + 1 = bs.length := fun e => q1 (by rw [← e, Nat.add_sub_cancel])
        refine aw_iload17 X dL_stores_439 ?_
        refine aw_aload8 X dL_stores_441 ?_
        refine aw_iconst X dL_stores_443 (v := nI 1) (by decide) ?_
        refine aw_iald X dL_stores_444 (h4.at 20 (by decide)) (rfl : nI 1 = nI 1) (show 1 < 3 by decide) (by decide) ?_
        refine aw_int (y := nI g.2.1) (by rw [w3]; exact c1) ?_
        refine aw_icmpeq X dL_stores_445 (tgt := 473) (by decide) (fun q2 => ?_) (fun q2 => ?_)
        · have := (nI_eq (by omega) (by omega)).mp q2
          exact on (Or.inl (by omega))
        · have q2' : ¬ g.2.1 ≤ k + 1 - (cs g bs k).2 := fun e => q2 (by rw [show k + 1 - (cs g bs k).2 = g.2.1 by omega])
          refine aw_iload17 X dL_stores_448 ?_
          refine aw_aload8 X dL_stores_450 ?_
          refine aw_iconst X dL_stores_452 (v := nI 0) (by decide) ?_
          refine aw_iald X dL_stores_453 (h4.at 20 (by decide)) (rfl : nI 0 = nI 0) (show 0 < 3 by decide) (by decide) ?_
          refine aw_int (y := nI g.1) (by rw [w3]; exact c0) ?_
          refine aw_icmplt X dL_stores_454 (tgt := 508) (by decide) (fun q3 => ?_) (fun q3 => ?_)
          · have q3' := (nI_ltI (by omega) (by omega)).mp q3
            exact off (fun e => by rcases e with e | e | e <;> omega)
          · have q3' : g.1 ≤ k + 1 - (cs g bs k).2 := by
              rcases Nat.lt_or_ge (k + 1 - (cs g bs k).2) g.1 with q | q
              · exact absurd (nI_lt q (by omega)) q3
              · exact q
            refine aw_iload16 X dL_stores_457 ?_
            refine aw_aload8 X dL_stores_459 ?_
            refine aw_iconst X dL_stores_461 (v := nI 2) (by decide) ?_
            refine aw_iald X dL_stores_462 (h4.at 20 (by decide)) (rfl : nI 2 = nI 2) (show 2 < 3 by decide) (by decide) ?_
            refine aw_int (y := nI g.2.2) (by rw [w3]; exact c2) ?_
            refine aw_irem X dL_stores_463 (nI_ne0 c7 (by omega)) ?_
            refine aw_aload8 X dL_stores_464 ?_
            refine aw_iconst X dL_stores_466 (v := nI 2) (by decide) ?_
            refine aw_iald X dL_stores_467 (h4.at 20 (by decide)) (rfl : nI 2 = nI 2) (show 2 < 3 by decide) (by decide) ?_
            refine aw_int (y := nI g.2.2) (by rw [w3]; exact c2) ?_
            refine aw_iconst X dL_stores_468 (v := nI 1) (by decide) ?_
            refine aw_isub X dL_stores_469 ?_
            refine aw_int (pk_sub (by omega)) ?_
            refine aw_icmpne X dL_stores_470 (tgt := 508) (by decide) (fun q4 => ?_) (fun q4 => ?_)
            · exact off (fun e => by
                rcases e with e | e | e
                · exact q2' e
                · exact q1' e
                · exact q4 e.2)
            · exact on (Or.inr (Or.inr ⟨q3', q4⟩))
    · have hltt : k - 3 + t ≤ k := by
        rcases Nat.lt_or_ge k (k - 3 + t) with q | q
        · exact absurd (nI_lt q (by omega)) c
        · exact q
      have hhN : hsN bs k (k - 3) (t + 1) = hsN bs k (k - 3) t + (k - (k - 3 + t) + 1) * bn bs (k - 3 + t) := rfl
      refine aw_iload16 X dL_stores_389 ?_
      refine aw_iload15 X dL_stores_391 ?_
      refine aw_iload17 X dL_stores_393 ?_
      refine aw_isub X dL_stores_395 ?_
      refine aw_int (pk_sub hltt) ?_
      refine aw_iconst X dL_stores_396 (v := nI 1) (by decide) ?_
      refine aw_iadd X dL_stores_397 ?_
      first | with_reducible refine aw_int (nI_add _ _) ?_ | skip
      refine aw_aload3 X dL_stores_398 ?_
      refine aw_bipush X dL_stores_399 (v := nI 16) (by decide) ?_
      refine aw_iload9 X dL_stores_401 ?_
      refine aw_imul X dL_stores_403 ?_
      first | with_reducible refine aw_int (pk_mul _ _) ?_ | skip
      refine aw_iload17 X dL_stores_404 ?_
      refine aw_iadd X dL_stores_406 ?_
      first | with_reducible refine aw_int (nI_add _ _) ?_ | skip
      refine aw_iald X dL_stores_407 (h4.at 0 (by decide)) rfl (show 16 * i + (k - 3 + t) < 64 by omega) (by decide) ?_
      refine aw_int (hread _ hltt) ?_
      refine aw_imul X dL_stores_408 ?_
      first | with_reducible refine aw_int (pk_mul _ _) ?_ | skip
      refine aw_iadd X dL_stores_409 ?_
      first | with_reducible refine aw_int (nI_add _ _) ?_ | skip
      refine aw_istore16 X dL_stores_410 (by rw [hn]; decide) rfl ?_
      refine aw_iinc17 X dL_stores_412 (by rw [hn]; decide) (am_inc _ 1) rfl ?_
      refine aw_goto X dL_stores_415 (tgt := 382) (by decide) ?_
      have q := ih2 (t + 1) (by omega) (by omega)
      rw [hhN] at q
      exact q
