/-! the law: a file is changed -/
theorem app_get {a b : List Int32} {k : Nat} : (a ++ b).getD k 0 = if k < a.length then a.getD k 0 else b.getD (k - a.length) 0 := by
  by_cases h : k < a.length
  · rw [if_pos h, gd_l h]
  · rw [if_neg h]
    have e : k = a.length + (k - a.length) := by omega
    conv => lhs; rw [e, gd_r]
theorem take_get {a : List Int32} {j k : Nat} (h : k < j) : (a.take j).getD k 0 = a.getD k 0 := by
  rw [List.getD_eq_getElem?_getD, List.getElem?_take, if_pos h, List.getD_eq_getElem?_getD]
theorem drop_get {a : List Int32} {j k : Nat} : (a.drop j).getD k 0 = a.getD (j + k) 0 := by
  rw [List.getD_eq_getElem?_getD, List.getElem?_drop, List.getD_eq_getElem?_getD]
/-- what stands in each piece of files -/
def fiC (Z : AZ) (M : AM) (x : Nat) (τ : TS) (F : Nat → Nat → Int32) : Prop := am_X RL cL_files Z ∧ zn Z = 13 ∧ zR Z = { rL_files with cells := 5, slots := 30 } ∧ (zM Z).sig.returnType = some .boolean ∧ ncs (zs Z) ∧ (zl Z).stackTraces = false ∧ isRS (zG Z) M x (x + 292) τ ∧ tbL (zG Z) x M M F ∧ lR F τ
theorem fi_add0 {Z : AZ} {M : AM} {x : Nat} {τ : TS} {F : Nat → Nat → Int32} {kd y w : Int32} (C : fiC Z M x τ F) (hw : ¬ inI w 4) : AW Z (am_Q Z (lP (zG Z) x) (fun _ _ => False) 5 30) M 0 0 48 [some (.ref x), some (.int kd), some (.int y), some (.ref (x + 271)), some (.ref (x + 272)), some (.int w), some (.int (nI 0)), none, none, none, none, none, none] [] := by
  obtain ⟨X, hn, hR, hr, hN, hfl, hs, hT, hL⟩ := C
  refine aw_spl (pm := 71) (P := fun _ => True) (fun K => ?_) (fun a _ => ?_)
  · refine aw_iload2 X dL_files_48 ?_
    refine aw_iconst X dL_files_49 (v := nI 4) (by decide) ?_
    refine aw_ishr X dL_files_50 ?_
    refine aw_bipush X dL_files_51 (v := nI 40) (by decide) ?_
    refine aw_callS X (c_L_some (N := 40) (by decide) (by decide)) kL_136 dL_files_53 rfl rfl (by first | decide | exact Nat.le_of_ble_eq_true rfl) (by rw [hR]; exact ⟨by first | decide | exact Nat.le_of_ble_eq_true rfl | (dsimp only; omega), by first | decide | exact Nat.le_of_ble_eq_true rfl | (dsimp only; omega)⟩) (by rw [hR]; exact ⟨by first | decide | exact Nat.le_of_ble_eq_true rfl | (dsimp only; omega), by first | decide | exact Nat.le_of_ble_eq_true rfl | (dsimp only; omega)⟩) (fun v M hv => ?_)
    obtain ⟨rfl, j, hj, rfl⟩ := hv
    refine aw_ifne X dL_files_56 (tgt := 65) (by decide) (fun c => ?_) (fun c => ?_)
    · refine aw_iload2 X dL_files_65 ?_
      refine aw_iconst X dL_files_66 (v := nI 3) (by decide) ?_
      refine aw_ishr X dL_files_67 ?_
      refine aw_callS X (c_L_value) kL_139 dL_files_68 rfl rfl (by first | decide | exact Nat.le_of_ble_eq_true rfl) (by rw [hR]; exact ⟨by first | decide | exact Nat.le_of_ble_eq_true rfl | (dsimp only; omega), by first | decide | exact Nat.le_of_ble_eq_true rfl | (dsimp only; omega)⟩) (by rw [hR]; exact ⟨by first | decide | exact Nat.le_of_ble_eq_true rfl | (dsimp only; omega), by first | decide | exact Nat.le_of_ble_eq_true rfl | (dsimp only; omega)⟩) (fun v M hv => ?_)
      obtain ⟨rfl, j, hj, rfl⟩ := hv
      exact K _ trivial
    · refine aw_sipush X dL_files_59 (v := nI 256) (by decide) ?_
      refine aw_goto X dL_files_62 (tgt := 71) (by decide) ?_
      exact K _ trivial
  · refine aw_istore7 X dL_files_71 (by rw [hn]; decide) rfl ?_
    refine aw_spl (pm := 89) (P := fun _ => True) (fun K => ?_) (fun s _ => ?_)
    · refine aw_iload2 X dL_files_73 ?_
      refine aw_bipush X dL_files_74 (v := nI 6) (by decide) ?_
      refine aw_ishr X dL_files_76 ?_
      refine aw_iconst X dL_files_77 (v := nI 3) (by decide) ?_
      refine aw_callS X (c_L_some (N := 3) (by decide) (by decide)) kL_136 dL_files_78 rfl rfl (by first | decide | exact Nat.le_of_ble_eq_true rfl) (by rw [hR]; exact ⟨by first | decide | exact Nat.le_of_ble_eq_true rfl | (dsimp only; omega), by first | decide | exact Nat.le_of_ble_eq_true rfl | (dsimp only; omega)⟩) (by rw [hR]; exact ⟨by first | decide | exact Nat.le_of_ble_eq_true rfl | (dsimp only; omega), by first | decide | exact Nat.le_of_ble_eq_true rfl | (dsimp only; omega)⟩) (fun v M hv => ?_)
      obtain ⟨rfl, j, hj, rfl⟩ := hv
      refine aw_ifne X dL_files_81 (tgt := 88) (by decide) (fun c => ?_) (fun c => ?_)
      · refine aw_iconst X dL_files_88 (v := nI 0) (by decide) ?_
        exact K _ trivial
      · refine aw_iconst X dL_files_84 (v := nI 1) (by decide) ?_
        refine aw_goto X dL_files_85 (tgt := 89) (by decide) ?_
        exact K _ trivial
    · refine aw_istore8 X dL_files_89 (by rw [hn]; decide) rfl ?_
      refine aw_iconst X dL_files_91 (v := nI 1) (by decide) ?_
      refine aw_iload2 X dL_files_92 ?_
      refine aw_bipush X dL_files_93 (v := nI 7) (by decide) ?_
      refine aw_ishr X dL_files_95 ?_
      refine aw_iconst X dL_files_96 (v := nI 5) (by decide) ?_
      refine aw_callS X (c_L_some (N := 5) (by decide) (by decide)) kL_136 dL_files_97 rfl rfl (by first | decide | exact Nat.le_of_ble_eq_true rfl) (by rw [hR]; exact ⟨by first | decide | exact Nat.le_of_ble_eq_true rfl | (dsimp only; omega), by first | decide | exact Nat.le_of_ble_eq_true rfl | (dsimp only; omega)⟩) (by rw [hR]; exact ⟨by first | decide | exact Nat.le_of_ble_eq_true rfl | (dsimp only; omega), by first | decide | exact Nat.le_of_ble_eq_true rfl | (dsimp only; omega)⟩) (fun v M hv => ?_)
      obtain ⟨rfl, t, ht, rfl⟩ := hv
      refine aw_iadd X dL_files_100 ?_
      first | with_reducible refine aw_int (nI_add _ _) ?_ | skip
      refine aw_istore9 X dL_files_101 (by rw [hn]; decide) rfl ?_
      refine aw_iload6 X dL_files_103 ?_
      refine aw_ifeq X dL_files_105 (tgt := 125) (by decide) (fun _ => ?_) (fun c9 => by first | exact absurd ((rfl : nI 0 = 0)) c9 | exact absurd c9 ((rfl : nI 0 = 0)))
      refine aw_iconst X dL_files_125 (v := nI 0) (by decide) ?_
      refine aw_istore10 X dL_files_126 (by rw [hn]; decide) rfl ?_
      refine aw_iload6 X dL_files_128 ?_
      refine aw_ifeq X dL_files_130 (tgt := 148) (by decide) (fun _ => ?_) (fun c9 => by first | exact absurd ((rfl : nI 0 = 0)) c9 | exact absurd c9 ((rfl : nI 0 = 0)))
      refine aw_iload6 X dL_files_148 ?_
      refine aw_ifne X dL_files_150 (tgt := 158) (by decide) (fun c9 => by first | exact absurd ((rfl : nI 0 = 0)) c9 | exact absurd c9 ((rfl : nI 0 = 0))) (fun _ => ?_)
      refine aw_bipush X dL_files_153 (v := -101) (by decide) ?_
      refine aw_goto X dL_files_155 (tgt := 179) (by decide) ?_
      refine aw_istore11 X dL_files_179 (by rw [hn]; decide) rfl ?_
      refine aw_iconst X dL_files_181 (v := nI 0) (by decide) ?_
      refine aw_istore12 X dL_files_182 (by rw [hn]; decide) rfl ?_
      refine aw_iload12 X dL_files_184 ?_
      refine aw_iload9 X dL_files_186 ?_
      refine aw_icmpge X dL_files_188 (tgt := 236) (by decide) (fun c9 => by first | exact absurd (nI_ge (show 0 < 1 + t by omega) (by omega)) c9 | exact absurd c9 (nI_ge (show 0 < 1 + t by omega) (by omega))) (fun _ => ?_)
      refine aw_iload11 X dL_files_191 ?_
      refine aw_iflt X dL_files_193 (tgt := 236) (by decide) (fun _ => ?_) (fun c9 => by first | exact absurd ((by decide : (-101 : Int32) < 0)) c9 | exact absurd c9 ((by decide : (-101 : Int32) < 0)))
      refine aw_aload0 X dL_files_236 ?_
      refine aw_iconst X dL_files_237 (v := nI 0) (by decide) ?_
      refine aw_iload5 X dL_files_238 ?_
      refine aw_iload7 X dL_files_240 ?_
      refine aw_iload8 X dL_files_242 ?_
      refine aw_iload9 X dL_files_244 ?_
      refine aw_callSH X hN (w_add hfl hs) kL_142 dL_files_246 rfl rfl (by first | decide | exact Nat.le_of_ble_eq_true rfl) (by rw [hR]; exact ⟨by first | decide | exact Nat.le_of_ble_eq_true rfl | (dsimp only; omega), by first | decide | exact Nat.le_of_ble_eq_true rfl | (dsimp only; omega)⟩) (by rw [hR]; exact ⟨by first | decide | exact Nat.le_of_ble_eq_true rfl | (dsimp only; omega), by first | decide | exact Nat.le_of_ble_eq_true rfl | (dsimp only; omega)⟩) (fun v M1 hv => ?_)
      obtain ⟨rfl, hs1, hk1⟩ := hv
      have e0 : spAdd τ w a s (nI (1 + t)) = (1, 0, τ) := by rw [spAdd, if_neg (by rw [isF, hL.1]; exact hw)]
      rw [e0] at hs1 ⊢
      refine aw_iload11 X dL_files_249 ?_
      refine aw_icmpne X dL_files_251 (tgt := 258) (by decide) (fun c9 => by first | exact absurd ((rfl : wr (1, 0, τ) = -101)) c9 | exact absurd c9 ((rfl : wr (1, 0, τ) = -101))) (fun _ => ?_)
      refine aw_iconst X dL_files_254 (v := nI 1) (by decide) ?_
      refine aw_goto X dL_files_255 (tgt := 259) (by decide) ?_
      refine aw_widen (k' := 5) (n' := 30) (Nat.le_of_ble_eq_true rfl) (Nat.le_of_ble_eq_true rfl) ?_
      refine aw_ireturn X (ty := .boolean) hr (by first | rfl | decide | assumption) dL_files_259 (⟨rfl, τ, lS.of hT hL hs1 hk1 eD_ok⟩)
theorem spAdd_ok {τ : TS} {i a s t : Nat} (h4 : τ.1.1 = 4) (hi : i < 4) (ha : a ≤ 255) (hs : s ≤ 1) (ht : t < 5) (hl : (τ.1.2 i).length + (1 + t) ≤ 16) : spAdd τ (nI i) (nI a) (nI s) (nI (1 + t)) = (0, nI ((τ.1.2 i).length + (1 + t)), ((τ.1.1, va_up τ.1.2 i (τ.1.2 i ++ adds a s (1 + t))), τ.2)) := by
  rw [spAdd, if_pos (by rw [isF, h4]; exact inI_n hi (by decide)), if_pos ⟨⟨nI_nlt (by omega) (by omega), nI_le ha (by decide)⟩, ⟨nI_nlt (by omega) (by omega), nI_le (by omega) (by decide)⟩, nI_nlt (by omega) (by omega), nI_le (by omega) (by decide)⟩]
  simp only [tF, setF, ix_n (show i < 2 ^ 31 by omega), ix_n (show a < 2 ^ 31 by omega), ix_n (show s < 2 ^ 31 by omega), ix_n (show 1 + t < 2 ^ 31 by omega)]
  rw [if_pos (by omega)]
theorem spAdd_big {τ : TS} {i s t : Nat} (h4 : τ.1.1 = 4) (hi : i < 4) : spAdd τ (nI i) (nI 256) (nI s) (nI (1 + t)) = (2, 0, τ) := by
  rw [spAdd, if_pos (by rw [isF, h4]; exact inI_n hi (by decide)), if_neg (fun q => absurd q.1.2 (by decide))]
theorem fi_add1 {Z : AZ} {M : AM} {x i : Nat} {τ : TS} {F : Nat → Nat → Int32} {kd y : Int32} (C : fiC Z M x τ F) (hi : i < 4) : AW Z (am_Q Z (lP (zG Z) x) (fun _ _ => False) 5 30) M 0 0 48 [some (.ref x), some (.int kd), some (.int y), some (.ref (x + 271)), some (.ref (x + 272)), some (.int (nI i)), some (.int (nI 1)), none, none, none, none, none, none] [] := by
  obtain ⟨X, hn, hR, hr, hN, hfl, hs, hT, hL⟩ := C
  obtain ⟨l1, l2, l3, l4⟩ := hL.2.1 i hi
  have hn1 := hT.at 1 (by decide)
  refine aw_spl (pm := 71) (P := fun v => ∃ a, a ≤ 256 ∧ v = nI a) (fun K => ?_) ?_
  · refine aw_iload2 X dL_files_48 ?_
    refine aw_iconst X dL_files_49 (v := nI 4) (by decide) ?_
    refine aw_ishr X dL_files_50 ?_
    refine aw_bipush X dL_files_51 (v := nI 40) (by decide) ?_
    refine aw_callS X (c_L_some (N := 40) (by decide) (by decide)) kL_136 dL_files_53 rfl rfl (by first | decide | exact Nat.le_of_ble_eq_true rfl) (by rw [hR]; exact ⟨by first | decide | exact Nat.le_of_ble_eq_true rfl | (dsimp only; omega), by first | decide | exact Nat.le_of_ble_eq_true rfl | (dsimp only; omega)⟩) (by rw [hR]; exact ⟨by first | decide | exact Nat.le_of_ble_eq_true rfl | (dsimp only; omega), by first | decide | exact Nat.le_of_ble_eq_true rfl | (dsimp only; omega)⟩) (fun v M hv => ?_)
    obtain ⟨rfl, j, hj, rfl⟩ := hv
    refine aw_ifne X dL_files_56 (tgt := 65) (by decide) (fun c => ?_) (fun c => ?_)
    · refine aw_iload2 X dL_files_65 ?_
      refine aw_iconst X dL_files_66 (v := nI 3) (by decide) ?_
      refine aw_ishr X dL_files_67 ?_
      refine aw_callS X (c_L_value) kL_139 dL_files_68 rfl rfl (by first | decide | exact Nat.le_of_ble_eq_true rfl) (by rw [hR]; exact ⟨by first | decide | exact Nat.le_of_ble_eq_true rfl | (dsimp only; omega), by first | decide | exact Nat.le_of_ble_eq_true rfl | (dsimp only; omega)⟩) (by rw [hR]; exact ⟨by first | decide | exact Nat.le_of_ble_eq_true rfl | (dsimp only; omega), by first | decide | exact Nat.le_of_ble_eq_true rfl | (dsimp only; omega)⟩) (fun v M hv => ?_)
      obtain ⟨rfl, j, hj, rfl⟩ := hv
      exact K _ ⟨j, by omega, rfl⟩
    · refine aw_sipush X dL_files_59 (v := nI 256) (by decide) ?_
      refine aw_goto X dL_files_62 (tgt := 71) (by decide) ?_
      exact K _ ⟨256, by omega, rfl⟩
  rintro _ ⟨a, ha, rfl⟩
  refine aw_istore7 X dL_files_71 (by rw [hn]; decide) rfl ?_
  refine aw_spl (pm := 89) (P := fun v => ∃ s, s ≤ 1 ∧ v = nI s) (fun K => ?_) ?_
  · refine aw_iload2 X dL_files_73 ?_
    refine aw_bipush X dL_files_74 (v := nI 6) (by decide) ?_
    refine aw_ishr X dL_files_76 ?_
    refine aw_iconst X dL_files_77 (v := nI 3) (by decide) ?_
    refine aw_callS X (c_L_some (N := 3) (by decide) (by decide)) kL_136 dL_files_78 rfl rfl (by first | decide | exact Nat.le_of_ble_eq_true rfl) (by rw [hR]; exact ⟨by first | decide | exact Nat.le_of_ble_eq_true rfl | (dsimp only; omega), by first | decide | exact Nat.le_of_ble_eq_true rfl | (dsimp only; omega)⟩) (by rw [hR]; exact ⟨by first | decide | exact Nat.le_of_ble_eq_true rfl | (dsimp only; omega), by first | decide | exact Nat.le_of_ble_eq_true rfl | (dsimp only; omega)⟩) (fun v M hv => ?_)
    obtain ⟨rfl, j, hj, rfl⟩ := hv
    refine aw_ifne X dL_files_81 (tgt := 88) (by decide) (fun c => ?_) (fun c => ?_)
    · refine aw_iconst X dL_files_88 (v := nI 0) (by decide) ?_
      exact K _ ⟨0, by omega, rfl⟩
    · refine aw_iconst X dL_files_84 (v := nI 1) (by decide) ?_
      refine aw_goto X dL_files_85 (tgt := 89) (by decide) ?_
      exact K _ ⟨1, by omega, rfl⟩
  rintro _ ⟨s, hs1, rfl⟩
  refine aw_istore8 X dL_files_89 (by rw [hn]; decide) rfl ?_
  refine aw_iconst X dL_files_91 (v := nI 1) (by decide) ?_
  refine aw_iload2 X dL_files_92 ?_
  refine aw_bipush X dL_files_93 (v := nI 7) (by decide) ?_
  refine aw_ishr X dL_files_95 ?_
  refine aw_iconst X dL_files_96 (v := nI 5) (by decide) ?_
  refine aw_callS X (c_L_some (N := 5) (by decide) (by decide)) kL_136 dL_files_97 rfl rfl (by first | decide | exact Nat.le_of_ble_eq_true rfl) (by rw [hR]; exact ⟨by first | decide | exact Nat.le_of_ble_eq_true rfl | (dsimp only; omega), by first | decide | exact Nat.le_of_ble_eq_true rfl | (dsimp only; omega)⟩) (by rw [hR]; exact ⟨by first | decide | exact Nat.le_of_ble_eq_true rfl | (dsimp only; omega), by first | decide | exact Nat.le_of_ble_eq_true rfl | (dsimp only; omega)⟩) (fun v M hv => ?_)
  obtain ⟨rfl, t, ht, rfl⟩ := hv
  refine aw_iadd X dL_files_100 ?_
  first | with_reducible refine aw_int (nI_add _ _) ?_ | skip
  refine aw_istore9 X dL_files_101 (by rw [hn]; decide) rfl ?_
  refine aw_splB (pm := 126) (P := (τ.1.2 i).length + (1 + t) ≤ 16) (fun K => ?_) ?_
  · refine aw_iload6 X dL_files_103 ?_
    refine aw_ifeq X dL_files_105 (tgt := 125) (by decide) (fun c9 => by first | exact absurd ((by decide : ¬ nI 1 = 0)) c9 | exact absurd c9 ((by decide : ¬ nI 1 = 0))) (fun _ => ?_)
    refine aw_aload4 X dL_files_108 ?_
    refine aw_iload5 X dL_files_110 ?_
    refine aw_iald X dL_files_112 hn1 rfl (show i < 4 from hi) (by decide) ?_
    refine aw_int l3 ?_
    refine aw_iload9 X dL_files_113 ?_
    refine aw_iadd X dL_files_115 ?_
    first | with_reducible refine aw_int (nI_add _ _) ?_ | skip
    refine aw_bipush X dL_files_116 (v := nI 16) (by decide) ?_
    refine aw_icmpgt X dL_files_118 (tgt := 125) (by decide) (fun c => ?_) (fun c => ?_)
    · refine aw_iconst X dL_files_125 (v := nI 0) (by decide) ?_
      refine aw_b0 ?_ K
      have := (nI_ltI (by omega) (by omega)).mp c
      omega
    · refine aw_iconst X dL_files_121 (v := nI 1) (by decide) ?_
      refine aw_goto X dL_files_122 (tgt := 126) (by decide) ?_
      exact aw_b1 (by
        rcases Nat.lt_or_ge 16 ((τ.1.2 i).length + (1 + t)) with q | q
        · exact absurd (nI_lt q (by omega)) c
        · exact q) K
  refine aw_istore10 X dL_files_126 (by rw [hn]; decide) rfl ?_
  refine aw_splQ (pm := 148) (P := 256 ≤ a ∨ (τ.1.2 i).length + (1 + t) ≤ 16) (fun K => ?_) (fun hfit => ?_)
  · refine aw_iload6 X dL_files_128 ?_
    refine aw_ifeq X dL_files_130 (tgt := 148) (by decide) (fun c9 => by first | exact absurd ((by decide : ¬ nI 1 = 0)) c9 | exact absurd c9 ((by decide : ¬ nI 1 = 0))) (fun _ => ?_)
    refine aw_iload7 X dL_files_133 ?_
    refine aw_sipush X dL_files_135 (v := nI 256) (by decide) ?_
    refine aw_icmpge X dL_files_138 (tgt := 148) (by decide) (fun c => ?_) (fun c => ?_)
    · exact K (Or.inl ((nI_leI (by omega) (by omega)).mp c))
    · refine aw_iload10 X dL_files_141 ?_
      refine aw_ifne X dL_files_143 (tgt := 148) (by decide) (fun c2 => ?_) (fun c2 => ?_)
      · exact K (Or.inr (am_bn.mp c2))
      · refine aw_iconst X dL_files_146 (v := nI 1) (by decide) ?_
        refine aw_widen (k' := 5) (n' := 30) (Nat.le_of_ble_eq_true rfl) (Nat.le_of_ble_eq_true rfl) ?_
        refine aw_ireturn X (ty := .boolean) hr (by first | rfl | decide | assumption) dL_files_147 (⟨rfl, τ, hs, F, hT, hL⟩)
  refine aw_iload6 X dL_files_148 ?_
  refine aw_ifne X dL_files_150 (tgt := 158) (by decide) (fun _ => ?_) (fun c9 => by first | exact absurd ((by decide : ¬ nI 1 = 0)) c9 | exact absurd c9 ((by decide : ¬ nI 1 = 0)))
  refine aw_iload7 X dL_files_158 ?_
  refine aw_sipush X dL_files_160 (v := nI 255) (by decide) ?_
  refine aw_icmple X dL_files_163 (tgt := 171) (by decide) (fun c => ?_) (fun c => ?_)
  · have ha2 : a ≤ 255 := (nI_leI (by omega) (by omega)).mp c
    have hfit : (τ.1.2 i).length + (1 + t) ≤ 16 := by omega
    refine aw_aload4 X dL_files_171 ?_
    refine aw_iload5 X dL_files_173 ?_
    refine aw_iald X dL_files_175 hn1 rfl (show i < 4 from hi) (by decide) ?_
    refine aw_int l3 ?_
    refine aw_iload9 X dL_files_176 ?_
    refine aw_iadd X dL_files_178 ?_
    first | with_reducible refine aw_int (nI_add _ _) ?_ | skip
    refine aw_istore11 X dL_files_179 (by rw [hn]; decide) rfl ?_
    refine aw_iconst X dL_files_181 (v := nI 0) (by decide) ?_
    refine aw_istore12 X dL_files_182 (by rw [hn]; decide) rfl ?_
    refine aw_loopM (fun (k : Nat) M1 => k ≤ 1 + t ∧ ∃ F1, tbL (zG Z) x M M1 F1 ∧ filesR (F1 0) (F1 1) (va_up τ.1.2 i (τ.1.2 i ++ adds a s k)) ∧ ∀ j, 2 ≤ j → F1 j = F j) (fun k => 1 + t - k) (fun k => [some (.ref x), some (.int kd), some (.int y), some (.ref (x + 271)), some (.ref (x + 272)), some (.int (nI i)), some (.int (nI 1)), some (.int (nI a)), some (.int (nI s)), some (.int (nI (1 + t))), some (.int (am_b ((τ.1.2 i).length + (1 + t) ≤ 16))), some (.int (nI ((τ.1.2 i).length + (1 + t)))), some (.int (nI k))]) ?_ 0 ⟨Nat.zero_le _, F, hT, by rw [adds, List.append_nil, va_up_id]; exact hL.2.1, fun _ _ => rfl⟩
    rintro k M1 ⟨hk, F1, h1, f1, o1⟩ ih
    try dsimp only at hk ih ⊢
    refine aw_iload12 X dL_files_184 ?_
    refine aw_iload9 X dL_files_186 ?_
    refine aw_icmpge X dL_files_188 (tgt := 236) (by decide) (fun c3 => ?_) (fun c3 => ?_)
    · have e : k = 1 + t := by have := (nI_leI (by omega) (by omega)).mp c3; omega
      subst e
      refine aw_aload0 X dL_files_236 ?_
      refine aw_iconst X dL_files_237 (v := nI 0) (by decide) ?_
      refine aw_iload5 X dL_files_238 ?_
      refine aw_iload7 X dL_files_240 ?_
      refine aw_iload8 X dL_files_242 ?_
      refine aw_iload9 X dL_files_244 ?_
      refine aw_callSH X hN (w_add hfl (hs.tb h1)) kL_142 dL_files_246 rfl rfl (by first | decide | exact Nat.le_of_ble_eq_true rfl) (by rw [hR]; exact ⟨by first | decide | exact Nat.le_of_ble_eq_true rfl | (dsimp only; omega), by first | decide | exact Nat.le_of_ble_eq_true rfl | (dsimp only; omega)⟩) (by rw [hR]; exact ⟨by first | decide | exact Nat.le_of_ble_eq_true rfl | (dsimp only; omega), by first | decide | exact Nat.le_of_ble_eq_true rfl | (dsimp only; omega)⟩) (fun v M2 hv => ?_)
      obtain ⟨rfl, hs2, hk2⟩ := hv
      rw [spAdd_ok hL.1 hi ha2 hs1 ht hfit] at hs2 ⊢
      refine aw_iload11 X dL_files_249 ?_
      refine aw_icmpne X dL_files_251 (tgt := 258) (by decide) (fun c9 => by first | exact absurd ((rfl : wr (0, nI ((τ.1.2 i).length + (1 + t)), ((τ.1.1, va_up τ.1.2 i (τ.1.2 i ++ adds a s (1 + t))), τ.2)) = nI ((τ.1.2 i).length + (1 + t)))) c9 | exact absurd c9 ((rfl : wr (0, nI ((τ.1.2 i).length + (1 + t)), ((τ.1.1, va_up τ.1.2 i (τ.1.2 i ++ adds a s (1 + t))), τ.2)) = nI ((τ.1.2 i).length + (1 + t))))) (fun _ => ?_)
      refine aw_iconst X dL_files_254 (v := nI 1) (by decide) ?_
      refine aw_goto X dL_files_255 (tgt := 259) (by decide) ?_
      refine aw_widen (k' := 5) (n' := 30) (Nat.le_of_ble_eq_true rfl) (Nat.le_of_ble_eq_true rfl) ?_
      refine aw_ireturn X (ty := .boolean) hr (by first | rfl | decide | assumption) dL_files_259 (⟨rfl, _, lS.of h1 (hL.files f1 o1) hs2 hk2 eD_ok⟩)
    · have hlt : k < 1 + t := by
        rcases Nat.lt_or_ge k (1 + t) with q | q
        · exact q
        · exact absurd (nI_le q (by omega)) c3
      have hf1 := f1 i hi
      rw [va_up_self, List.length_append, adds_len] at hf1
      have hks : k * s ≤ 5 := Nat.le_trans (Nat.mul_le_mul (show k ≤ 5 by omega) hs1) (by decide)
      refine aw_iload11 X dL_files_191 ?_
      refine aw_iflt X dL_files_193 (tgt := 236) (by decide) (fun c9 => by first | exact absurd (nI_pos (by omega)) c9 | exact absurd c9 (nI_pos (by omega))) (fun _ => ?_)
      refine aw_aload3 X dL_files_196 ?_
      refine aw_bipush X dL_files_197 (v := nI 16) (by decide) ?_
      refine aw_iload5 X dL_files_199 ?_
      refine aw_imul X dL_files_201 ?_
      first | with_reducible refine aw_int (pk_mul _ _) ?_ | skip
      refine aw_aload4 X dL_files_202 ?_
      refine aw_iload5 X dL_files_204 ?_
      refine aw_iald X dL_files_206 (h1.at 1 (by decide)) rfl (show i < 4 from hi) (by decide) ?_
      refine aw_int hf1.2.2.1 ?_
      refine aw_iadd X dL_files_207 ?_
      first | with_reducible refine aw_int (nI_add _ _) ?_ | skip
      refine aw_iload7 X dL_files_208 ?_
      refine aw_iload12 X dL_files_210 ?_
      refine aw_iload8 X dL_files_212 ?_
      refine aw_imul X dL_files_214 ?_
      first | with_reducible refine aw_int (pk_mul _ _) ?_ | skip
      refine aw_iadd X dL_files_215 ?_
      first | with_reducible refine aw_int (nI_add _ _) ?_ | skip
      refine aw_sipush X dL_files_216 (v := nI 256) (by decide) ?_
      refine aw_irem X dL_files_219 (nI_ne0 (by decide) (by decide)) ?_
      refine aw_int (pk_rem (by omega) (by decide) (by decide)) ?_
      refine aw_tst X 0 dL_files_220 h1 (by decide) rfl (show 16 * i + ((τ.1.2 i).length + k) < 64 by omega) (by decide) (fun M2 h2 => ?_)
      refine aw_aload4 X dL_files_221 ?_
      refine aw_iload5 X dL_files_223 ?_
      refine aw_dup2 X dL_files_225 rfl rfl ?_
      refine aw_iald X dL_files_226 (h2.at 1 (by decide)) rfl (show i < 4 from hi) (by decide) ?_
      refine aw_int (y := nI ((τ.1.2 i).length + k)) hf1.2.2.1 ?_
      refine aw_iconst X dL_files_227 (v := nI 1) (by decide) ?_
      refine aw_iadd X dL_files_228 ?_
      first | with_reducible refine aw_int (nI_add _ _) ?_ | skip
      refine aw_tst X 1 dL_files_229 h2 (by decide) rfl (show i < 4 from hi) (by decide) (fun M3 h3 => ?_)
      refine aw_iinc12 X dL_files_230 (by rw [hn]; decide) (am_inc _ 1) rfl ?_
      refine aw_goto X dL_files_233 (tgt := 184) (by decide) ?_
      refine ih (k + 1) M3 ⟨hlt, _, h3, ?_, fun j hj => ?_⟩ (by omega)
      · have q := f1.push (v := (a + k * s) % 256) hi (by rw [List.length_append, adds_len]; omega) (Nat.mod_lt _ (by decide))
        rw [List.length_append, adds_len, List.append_assoc] at q
        exact q
      · rw [va_up_ne _ _ (by omega), va_up_ne _ _ (by omega)]
        exact o1 j hj
  · have ha2 : a = 256 := by
      rcases Nat.lt_or_ge 255 a with q | q
      · omega
      · exact absurd (nI_le q (by decide)) c
    subst ha2
    refine aw_bipush X dL_files_166 (v := -102) (by decide) ?_
    refine aw_goto X dL_files_168 (tgt := 179) (by decide) ?_
    refine aw_istore11 X dL_files_179 (by rw [hn]; decide) rfl ?_
    refine aw_iconst X dL_files_181 (v := nI 0) (by decide) ?_
    refine aw_istore12 X dL_files_182 (by rw [hn]; decide) rfl ?_
    refine aw_iload12 X dL_files_184 ?_
    refine aw_iload9 X dL_files_186 ?_
    refine aw_icmpge X dL_files_188 (tgt := 236) (by decide) (fun c9 => by first | exact absurd (nI_ge (show 0 < 1 + t by omega) (by omega)) c9 | exact absurd c9 (nI_ge (show 0 < 1 + t by omega) (by omega))) (fun _ => ?_)
    refine aw_iload11 X dL_files_191 ?_
    refine aw_iflt X dL_files_193 (tgt := 236) (by decide) (fun _ => ?_) (fun c9 => by first | exact absurd ((by decide : (-102 : Int32) < 0)) c9 | exact absurd c9 ((by decide : (-102 : Int32) < 0)))
    refine aw_aload0 X dL_files_236 ?_
    refine aw_iconst X dL_files_237 (v := nI 0) (by decide) ?_
    refine aw_iload5 X dL_files_238 ?_
    refine aw_iload7 X dL_files_240 ?_
    refine aw_iload8 X dL_files_242 ?_
    refine aw_iload9 X dL_files_244 ?_
    refine aw_callSH X hN (w_add hfl hs) kL_142 dL_files_246 rfl rfl (by first | decide | exact Nat.le_of_ble_eq_true rfl) (by rw [hR]; exact ⟨by first | decide | exact Nat.le_of_ble_eq_true rfl | (dsimp only; omega), by first | decide | exact Nat.le_of_ble_eq_true rfl | (dsimp only; omega)⟩) (by rw [hR]; exact ⟨by first | decide | exact Nat.le_of_ble_eq_true rfl | (dsimp only; omega), by first | decide | exact Nat.le_of_ble_eq_true rfl | (dsimp only; omega)⟩) (fun v M2 hv => ?_)
    obtain ⟨rfl, hs2, hk2⟩ := hv
    rw [spAdd_big hL.1 hi] at hs2 ⊢
    refine aw_iload11 X dL_files_249 ?_
    refine aw_icmpne X dL_files_251 (tgt := 258) (by decide) (fun c9 => by first | exact absurd ((rfl : wr (2, 0, τ) = -102)) c9 | exact absurd c9 ((rfl : wr (2, 0, τ) = -102))) (fun _ => ?_)
    refine aw_iconst X dL_files_254 (v := nI 1) (by decide) ?_
    refine aw_goto X dL_files_255 (tgt := 259) (by decide) ?_
    refine aw_widen (k' := 5) (n' := 30) (Nat.le_of_ble_eq_true rfl) (Nat.le_of_ble_eq_true rfl) ?_
    refine aw_ireturn X (ty := .boolean) hr (by first | rfl | decide | assumption) dL_files_259 (⟨rfl, _, lS.of hT hL hs2 hk2 eD_ok⟩)
theorem fi_ins0 {Z : AZ} {M : AM} {x : Nat} {τ : TS} {F : Nat → Nat → Int32} {kd y w : Int32} (C : fiC Z M x τ F) (hw : ¬ inI w 4) : AW Z (am_Q Z (lP (zG Z) x) (fun _ _ => False) 5 30) M 0 0 265 [some (.ref x), some (.int kd), some (.int y), some (.ref (x + 271)), some (.ref (x + 272)), some (.int w), some (.int (nI 0)), none, none, none, none, none, none] [] := by
  obtain ⟨X, hn, hR, hr, hN, hfl, hs, hT, hL⟩ := C
  refine aw_iload2 X dL_files_265 ?_
  refine aw_iconst X dL_files_266 (v := nI 4) (by decide) ?_
  refine aw_ishr X dL_files_267 ?_
  refine aw_bipush X dL_files_268 (v := nI 18) (by decide) ?_
  refine aw_callS X (c_L_some (N := 18) (by decide) (by decide)) kL_136 dL_files_270 rfl rfl (by first | decide | exact Nat.le_of_ble_eq_true rfl) (by rw [hR]; exact ⟨by first | decide | exact Nat.le_of_ble_eq_true rfl | (dsimp only; omega), by first | decide | exact Nat.le_of_ble_eq_true rfl | (dsimp only; omega)⟩) (by rw [hR]; exact ⟨by first | decide | exact Nat.le_of_ble_eq_true rfl | (dsimp only; omega), by first | decide | exact Nat.le_of_ble_eq_true rfl | (dsimp only; omega)⟩) (fun v M hv => ?_)
  obtain ⟨rfl, j, hj, rfl⟩ := hv
  refine aw_iconst X dL_files_273 (v := nI 1) (by decide) ?_
  refine aw_isub X dL_files_274 ?_
  refine aw_any (fun p => ?_)
  refine aw_istore7 X dL_files_275 (by rw [hn]; decide) rfl ?_
  refine aw_spl (pm := 299) (P := fun _ => True) (fun K => ?_) (fun v _ => ?_)
  · refine aw_iload2 X dL_files_277 ?_
    refine aw_iconst X dL_files_278 (v := nI 5) (by decide) ?_
    refine aw_ishr X dL_files_279 ?_
    refine aw_bipush X dL_files_280 (v := nI 40) (by decide) ?_
    refine aw_callS X (c_L_some (N := 40) (by decide) (by decide)) kL_136 dL_files_282 rfl rfl (by first | decide | exact Nat.le_of_ble_eq_true rfl) (by rw [hR]; exact ⟨by first | decide | exact Nat.le_of_ble_eq_true rfl | (dsimp only; omega), by first | decide | exact Nat.le_of_ble_eq_true rfl | (dsimp only; omega)⟩) (by rw [hR]; exact ⟨by first | decide | exact Nat.le_of_ble_eq_true rfl | (dsimp only; omega), by first | decide | exact Nat.le_of_ble_eq_true rfl | (dsimp only; omega)⟩) (fun v M hv => ?_)
    obtain ⟨rfl, j, hj, rfl⟩ := hv
    refine aw_ifne X dL_files_285 (tgt := 292) (by decide) (fun c => ?_) (fun c => ?_)
    · refine aw_iload2 X dL_files_292 ?_
      refine aw_bipush X dL_files_293 (v := nI 6) (by decide) ?_
      refine aw_ishr X dL_files_295 ?_
      refine aw_callS X (c_L_value) kL_139 dL_files_296 rfl rfl (by first | decide | exact Nat.le_of_ble_eq_true rfl) (by rw [hR]; exact ⟨by first | decide | exact Nat.le_of_ble_eq_true rfl | (dsimp only; omega), by first | decide | exact Nat.le_of_ble_eq_true rfl | (dsimp only; omega)⟩) (by rw [hR]; exact ⟨by first | decide | exact Nat.le_of_ble_eq_true rfl | (dsimp only; omega), by first | decide | exact Nat.le_of_ble_eq_true rfl | (dsimp only; omega)⟩) (fun v M hv => ?_)
      obtain ⟨rfl, j, hj, rfl⟩ := hv
      exact K _ trivial
    · refine aw_iconst X dL_files_288 (v := -1) (by decide) ?_
      refine aw_goto X dL_files_289 (tgt := 299) (by decide) ?_
      exact K _ trivial
  refine aw_istore8 X dL_files_299 (by rw [hn]; decide) rfl ?_
  refine aw_iload6 X dL_files_301 ?_
  refine aw_ifeq X dL_files_303 (tgt := 325) (by decide) (fun _ => ?_) (fun c9 => by first | exact absurd ((rfl : nI 0 = 0)) c9 | exact absurd c9 ((rfl : nI 0 = 0)))
  refine aw_iconst X dL_files_325 (v := nI 0) (by decide) ?_
  refine aw_istore9 X dL_files_326 (by rw [hn]; decide) rfl ?_
  refine aw_iload9 X dL_files_328 ?_
  refine aw_ifeq X dL_files_330 (tgt := 350) (by decide) (fun _ => ?_) (fun c9 => by first | exact absurd ((rfl : nI 0 = 0)) c9 | exact absurd c9 ((rfl : nI 0 = 0)))
  refine aw_iload9 X dL_files_350 ?_
  refine aw_ifne X dL_files_352 (tgt := 360) (by decide) (fun c9 => by first | exact absurd ((rfl : nI 0 = 0)) c9 | exact absurd c9 ((rfl : nI 0 = 0))) (fun _ => ?_)
  refine aw_bipush X dL_files_355 (v := -101) (by decide) ?_
  refine aw_goto X dL_files_357 (tgt := 377) (by decide) ?_
  refine aw_istore10 X dL_files_377 (by rw [hn]; decide) rfl ?_
  refine aw_iload10 X dL_files_379 ?_
  refine aw_iflt X dL_files_381 (tgt := 447) (by decide) (fun _ => ?_) (fun c9 => by first | exact absurd ((by decide : (-101 : Int32) < 0)) c9 | exact absurd c9 ((by decide : (-101 : Int32) < 0)))
  refine aw_aload0 X dL_files_447 ?_
  refine aw_iconst X dL_files_448 (v := nI 1) (by decide) ?_
  refine aw_iload5 X dL_files_449 ?_
  refine aw_iload7 X dL_files_451 ?_
  refine aw_iload8 X dL_files_453 ?_
  refine aw_iconst X dL_files_455 (v := nI 0) (by decide) ?_
  refine aw_callSH X hN (w_insert hfl hs) kL_142 dL_files_456 rfl rfl (by first | decide | exact Nat.le_of_ble_eq_true rfl) (by rw [hR]; exact ⟨by first | decide | exact Nat.le_of_ble_eq_true rfl | (dsimp only; omega), by first | decide | exact Nat.le_of_ble_eq_true rfl | (dsimp only; omega)⟩) (by rw [hR]; exact ⟨by first | decide | exact Nat.le_of_ble_eq_true rfl | (dsimp only; omega), by first | decide | exact Nat.le_of_ble_eq_true rfl | (dsimp only; omega)⟩) (fun v M1 hv => ?_)
  obtain ⟨rfl, hs1, hk1⟩ := hv
  have e0 : spInsert τ w p v = (1, 0, τ) := by rw [spInsert, if_neg (fun q => hw (by have := q.1; rwa [isF, hL.1] at this))]
  rw [e0] at hs1 ⊢
  refine aw_iload10 X dL_files_459 ?_
  refine aw_icmpne X dL_files_461 (tgt := 468) (by decide) (fun c9 => by first | exact absurd ((rfl : wr (1, 0, τ) = -101)) c9 | exact absurd c9 ((rfl : wr (1, 0, τ) = -101))) (fun _ => ?_)
  refine aw_iconst X dL_files_464 (v := nI 1) (by decide) ?_
  refine aw_goto X dL_files_465 (tgt := 469) (by decide) ?_
  refine aw_widen (k' := 5) (n' := 30) (Nat.le_of_ble_eq_true rfl) (Nat.le_of_ble_eq_true rfl) ?_
  refine aw_ireturn X (ty := .boolean) hr (by first | rfl | decide | assumption) dL_files_469 (⟨rfl, τ, lS.of hT hL hs1 hk1 eD_ok⟩)
theorem spIns_ok {τ : TS} {i j b : Nat} (h4 : τ.1.1 = 4) (hi : i < 4) (hj : j ≤ (τ.1.2 i).length) (hl : (τ.1.2 i).length < 16) (hb : b < 256) : spInsert τ (nI i) (nI j) (nI b) = (0, nI ((τ.1.2 i).length + 1), ((τ.1.1, va_up τ.1.2 i ((τ.1.2 i).take j ++ nI b :: (τ.1.2 i).drop j)), τ.2)) := by
  rw [spInsert]
  simp only [tF, setF, isF, h4, ix_n (show i < 2 ^ 31 by omega), ix_n (show j < 2 ^ 31 by omega)]
  rw [if_pos ⟨inI_n hi (by decide), inI_n (by omega) (by omega)⟩, if_pos ⟨nI_nlt (by omega) (by omega), nI_le (by omega) (by decide)⟩, if_pos (by omega)]
theorem fi_ins1 {Z : AZ} {M : AM} {x i : Nat} {τ : TS} {F : Nat → Nat → Int32} {kd y : Int32} (C : fiC Z M x τ F) (hi : i < 4) : AW Z (am_Q Z (lP (zG Z) x) (fun _ _ => False) 5 30) M 0 0 265 [some (.ref x), some (.int kd), some (.int y), some (.ref (x + 271)), some (.ref (x + 272)), some (.int (nI i)), some (.int (nI 1)), none, none, none, none, none, none] [] := by
  obtain ⟨X, hn, hR, hr, hN, hfl, hs, hT, hL⟩ := C
  obtain ⟨l1, l2, l3, l4⟩ := hL.2.1 i hi
  have hn1 := hT.at 1 (by decide)
  refine aw_iload2 X dL_files_265 ?_
  refine aw_iconst X dL_files_266 (v := nI 4) (by decide) ?_
  refine aw_ishr X dL_files_267 ?_
  refine aw_bipush X dL_files_268 (v := nI 18) (by decide) ?_
  refine aw_callS X (c_L_some (N := 18) (by decide) (by decide)) kL_136 dL_files_270 rfl rfl (by first | decide | exact Nat.le_of_ble_eq_true rfl) (by rw [hR]; exact ⟨by first | decide | exact Nat.le_of_ble_eq_true rfl | (dsimp only; omega), by first | decide | exact Nat.le_of_ble_eq_true rfl | (dsimp only; omega)⟩) (by rw [hR]; exact ⟨by first | decide | exact Nat.le_of_ble_eq_true rfl | (dsimp only; omega), by first | decide | exact Nat.le_of_ble_eq_true rfl | (dsimp only; omega)⟩) (fun v M hv => ?_)
  obtain ⟨rfl, j, hj, rfl⟩ := hv
  refine aw_iconst X dL_files_273 (v := nI 1) (by decide) ?_
  refine aw_isub X dL_files_274 ?_
  refine aw_any (fun p => ?_)
  refine aw_istore7 X dL_files_275 (by rw [hn]; decide) rfl ?_
  refine aw_spl (pm := 299) (P := fun v => v = -1 ∨ ∃ b, b < 256 ∧ v = nI b) (fun K => ?_) (fun v hv9 => ?_)
  · refine aw_iload2 X dL_files_277 ?_
    refine aw_iconst X dL_files_278 (v := nI 5) (by decide) ?_
    refine aw_ishr X dL_files_279 ?_
    refine aw_bipush X dL_files_280 (v := nI 40) (by decide) ?_
    refine aw_callS X (c_L_some (N := 40) (by decide) (by decide)) kL_136 dL_files_282 rfl rfl (by first | decide | exact Nat.le_of_ble_eq_true rfl) (by rw [hR]; exact ⟨by first | decide | exact Nat.le_of_ble_eq_true rfl | (dsimp only; omega), by first | decide | exact Nat.le_of_ble_eq_true rfl | (dsimp only; omega)⟩) (by rw [hR]; exact ⟨by first | decide | exact Nat.le_of_ble_eq_true rfl | (dsimp only; omega), by first | decide | exact Nat.le_of_ble_eq_true rfl | (dsimp only; omega)⟩) (fun v M hv => ?_)
    obtain ⟨rfl, j, hj, rfl⟩ := hv
    refine aw_ifne X dL_files_285 (tgt := 292) (by decide) (fun c => ?_) (fun c => ?_)
    · refine aw_iload2 X dL_files_292 ?_
      refine aw_bipush X dL_files_293 (v := nI 6) (by decide) ?_
      refine aw_ishr X dL_files_295 ?_
      refine aw_callS X (c_L_value) kL_139 dL_files_296 rfl rfl (by first | decide | exact Nat.le_of_ble_eq_true rfl) (by rw [hR]; exact ⟨by first | decide | exact Nat.le_of_ble_eq_true rfl | (dsimp only; omega), by first | decide | exact Nat.le_of_ble_eq_true rfl | (dsimp only; omega)⟩) (by rw [hR]; exact ⟨by first | decide | exact Nat.le_of_ble_eq_true rfl | (dsimp only; omega), by first | decide | exact Nat.le_of_ble_eq_true rfl | (dsimp only; omega)⟩) (fun v M hv => ?_)
      obtain ⟨rfl, j, hj, rfl⟩ := hv
      exact K _ (Or.inr ⟨j, hj, rfl⟩)
    · refine aw_iconst X dL_files_288 (v := -1) (by decide) ?_
      refine aw_goto X dL_files_289 (tgt := 299) (by decide) ?_
      exact K _ (Or.inl rfl)
  refine aw_istore8 X dL_files_299 (by rw [hn]; decide) rfl ?_
  refine aw_splB (pm := 326) (P := inI p ((τ.1.2 i).length + 1)) (fun K => ?_) ?_
  · refine aw_iload6 X dL_files_301 ?_
    refine aw_ifeq X dL_files_303 (tgt := 325) (by decide) (fun c9 => by first | exact absurd ((by decide : ¬ nI 1 = 0)) c9 | exact absurd c9 ((by decide : ¬ nI 1 = 0))) (fun _ => ?_)
    refine aw_iload7 X dL_files_306 ?_
    refine aw_iflt X dL_files_308 (tgt := 325) (by decide) (fun c => ?_) (fun c => ?_)
    · refine aw_iconst X dL_files_325 (v := nI 0) (by decide) ?_
      exact aw_b0 (fun e => e.1 c) K
    · refine aw_iload7 X dL_files_311 ?_
      refine aw_aload4 X dL_files_313 ?_
      refine aw_iload5 X dL_files_315 ?_
      refine aw_iald X dL_files_317 hn1 rfl (show i < 4 from hi) (by decide) ?_
      refine aw_int l3 ?_
      refine aw_icmpgt X dL_files_318 (tgt := 325) (by decide) (fun c2 => ?_) (fun c2 => ?_)
      · refine aw_iconst X dL_files_325 (v := nI 0) (by decide) ?_
        exact aw_b0 (fun e => by
          obtain ⟨u1, u2, u3⟩ := inI_j e (by omega)
          rw [u2] at c2
          have := (nI_ltI (by omega) (by omega)).mp c2
          omega) K
      · refine aw_iconst X dL_files_321 (v := nI 1) (by decide) ?_
        refine aw_goto X dL_files_322 (tgt := 326) (by decide) ?_
        exact aw_b1 ⟨c, by
          obtain ⟨u, hu, e⟩ := nI_of c
          rw [e] at c2 ⊢
          exact nI_lt (by
            rcases Nat.lt_or_ge (τ.1.2 i).length u with q | q
            · exact absurd (nI_lt q hu) c2
            · omega) (by omega)⟩ K
  refine aw_istore9 X dL_files_326 (by rw [hn]; decide) rfl ?_
  by_cases hp : inI p ((τ.1.2 i).length + 1)
  · rw [am_b1 hp]
    obtain ⟨j1, j2, j3⟩ := inI_j hp (by omega)
    generalize hj9 : ix p = q at j1 j2 j3
    subst j2
    refine aw_splQ (pm := 350) (P := v = -1 ∨ (τ.1.2 i).length < 16) (fun K => ?_) (fun hfit => ?_)
    · refine aw_iload9 X dL_files_328 ?_
      refine aw_ifeq X dL_files_330 (tgt := 350) (by decide) (fun c9 => by first | exact absurd ((by decide : ¬ nI 1 = 0)) c9 | exact absurd c9 ((by decide : ¬ nI 1 = 0))) (fun _ => ?_)
      refine aw_iload8 X dL_files_333 ?_
      refine aw_iflt X dL_files_335 (tgt := 350) (by decide) (fun c => ?_) (fun c => ?_)
      · refine K (Or.inl ?_)
        rcases hv9 with e | ⟨b, hb, e⟩
        · exact e
        · rw [e] at c
          exact absurd c (nI_pos (by omega))
      · refine aw_aload4 X dL_files_338 ?_
        refine aw_iload5 X dL_files_340 ?_
        refine aw_iald X dL_files_342 hn1 rfl (show i < 4 from hi) (by decide) ?_
        refine aw_int l3 ?_
        refine aw_bipush X dL_files_343 (v := nI 16) (by decide) ?_
        refine aw_icmpne X dL_files_345 (tgt := 350) (by decide) (fun c2 => ?_) (fun c2 => ?_)
        · exact K (Or.inr (by
            rcases Nat.lt_or_ge (τ.1.2 i).length 16 with q | q
            · exact q
            · exact absurd (by rw [show (τ.1.2 i).length = 16 by omega]) c2))
        · refine aw_iconst X dL_files_348 (v := nI 1) (by decide) ?_
          refine aw_widen (k' := 5) (n' := 30) (Nat.le_of_ble_eq_true rfl) (Nat.le_of_ble_eq_true rfl) ?_
          refine aw_ireturn X (ty := .boolean) hr (by first | rfl | decide | assumption) dL_files_349 (⟨rfl, τ, hs, F, hT, hL⟩)
    refine aw_iload9 X dL_files_350 ?_
    refine aw_ifne X dL_files_352 (tgt := 360) (by decide) (fun _ => ?_) (fun c9 => by first | exact absurd ((by decide : ¬ nI 1 = 0)) c9 | exact absurd c9 ((by decide : ¬ nI 1 = 0)))
    refine aw_iload8 X dL_files_360 ?_
    rcases hv9 with rfl | ⟨b, hb, rfl⟩
    · refine aw_ifge X dL_files_362 (tgt := 370) (by decide) (fun c9 => by first | exact absurd ((by decide : ¬ (0 : Int32) ≤ -1)) c9 | exact absurd c9 ((by decide : ¬ (0 : Int32) ≤ -1))) (fun _ => ?_)
      refine aw_bipush X dL_files_365 (v := -102) (by decide) ?_
      refine aw_goto X dL_files_367 (tgt := 377) (by decide) ?_
      refine aw_istore10 X dL_files_377 (by rw [hn]; decide) rfl ?_
      refine aw_iload10 X dL_files_379 ?_
      refine aw_iflt X dL_files_381 (tgt := 447) (by decide) (fun _ => ?_) (fun c9 => by first | exact absurd ((by decide : (-102 : Int32) < 0)) c9 | exact absurd c9 ((by decide : (-102 : Int32) < 0)))
      refine aw_aload0 X dL_files_447 ?_
      refine aw_iconst X dL_files_448 (v := nI 1) (by decide) ?_
      refine aw_iload5 X dL_files_449 ?_
      refine aw_iload7 X dL_files_451 ?_
      refine aw_iload8 X dL_files_453 ?_
      refine aw_iconst X dL_files_455 (v := nI 0) (by decide) ?_
      refine aw_callSH X hN (w_insert hfl hs) kL_142 dL_files_456 rfl rfl (by first | decide | exact Nat.le_of_ble_eq_true rfl) (by rw [hR]; exact ⟨by first | decide | exact Nat.le_of_ble_eq_true rfl | (dsimp only; omega), by first | decide | exact Nat.le_of_ble_eq_true rfl | (dsimp only; omega)⟩) (by rw [hR]; exact ⟨by first | decide | exact Nat.le_of_ble_eq_true rfl | (dsimp only; omega), by first | decide | exact Nat.le_of_ble_eq_true rfl | (dsimp only; omega)⟩) (fun v M1 hv => ?_)
      obtain ⟨rfl, hs1, hk1⟩ := hv
      have e0 : spInsert τ (nI i) (nI q) (-1) = (2, 0, τ) := by
        rw [spInsert]
        simp only [tF, isF, hL.1, ix_n (show i < 2 ^ 31 by omega)]
        rw [if_pos ⟨inI_n hi (by decide), hp⟩, if_neg (fun q => q.1 (by decide))]
      rw [e0] at hs1 ⊢
      refine aw_iload10 X dL_files_459 ?_
      refine aw_icmpne X dL_files_461 (tgt := 468) (by decide) (fun c9 => by first | exact absurd ((rfl : wr (2, 0, τ) = -102)) c9 | exact absurd c9 ((rfl : wr (2, 0, τ) = -102))) (fun _ => ?_)
      refine aw_iconst X dL_files_464 (v := nI 1) (by decide) ?_
      refine aw_goto X dL_files_465 (tgt := 469) (by decide) ?_
      refine aw_widen (k' := 5) (n' := 30) (Nat.le_of_ble_eq_true rfl) (Nat.le_of_ble_eq_true rfl) ?_
      refine aw_ireturn X (ty := .boolean) hr (by first | rfl | decide | assumption) dL_files_469 (⟨rfl, τ, lS.of hT hL hs1 hk1 eD_ok⟩)
    · have hl16 : (τ.1.2 i).length < 16 := by
        rcases hfit with e | e
        · have := nI_pos' (n := b) (by omega)
          rw [e] at this
          exact absurd this (by decide)
        · exact e
      refine aw_ifge X dL_files_362 (tgt := 370) (by decide) (fun _ => ?_) (fun c9 => by first | exact absurd (nI_pos' (by omega)) c9 | exact absurd c9 (nI_pos' (by omega)))
      refine aw_aload4 X dL_files_370 ?_
      refine aw_iload5 X dL_files_372 ?_
      refine aw_iald X dL_files_374 hn1 rfl (show i < 4 from hi) (by decide) ?_
      refine aw_int l3 ?_
      refine aw_iconst X dL_files_375 (v := nI 1) (by decide) ?_
      refine aw_iadd X dL_files_376 ?_
      first | with_reducible refine aw_int (nI_add _ _) ?_ | skip
      refine aw_istore10 X dL_files_377 (by rw [hn]; decide) rfl ?_
      refine aw_iload10 X dL_files_379 ?_
      refine aw_iflt X dL_files_381 (tgt := 447) (by decide) (fun c9 => by first | exact absurd (nI_pos (by omega)) c9 | exact absurd c9 (nI_pos (by omega))) (fun _ => ?_)
      refine aw_aload4 X dL_files_384 ?_
      refine aw_iload5 X dL_files_386 ?_
      refine aw_iald X dL_files_388 hn1 rfl (show i < 4 from hi) (by decide) ?_
      refine aw_int l3 ?_
      refine aw_istore11 X dL_files_389 (by rw [hn]; decide) rfl ?_
      refine aw_loopM (fun (k : Nat) M1 => q ≤ k ∧ k ≤ (τ.1.2 i).length ∧ ∃ F1, tbL (zG Z) x M M1 F1 ∧ (∀ j, 1 ≤ j → F1 j = F j) ∧ (∀ j, j ≤ 16 * i + k ∨ 16 * i + (τ.1.2 i).length < j → F1 0 j = F 0 j) ∧ ∀ j, k ≤ j → j < (τ.1.2 i).length → F1 0 (16 * i + j + 1) = F 0 (16 * i + j)) (fun k => k) (fun k => [some (.ref x), some (.int kd), some (.int y), some (.ref (x + 271)), some (.ref (x + 272)), some (.int (nI i)), some (.int (nI 1)), some (.int (nI q)), some (.int (nI b)), some (.int (nI 1)), some (.int (nI ((τ.1.2 i).length + 1))), some (.int (nI k)), none]) ?_ (τ.1.2 i).length ⟨by omega, Nat.le_refl _, F, hT, fun _ _ => rfl, fun _ _ => rfl, fun j h1 h2 => by omega⟩
      rintro k M1 ⟨hk1, hk2, F1, h1, o1, f1, f2⟩ ih
      try dsimp only at ih ⊢
      refine aw_iload11 X dL_files_391 ?_
      refine aw_iload7 X dL_files_393 ?_
      refine aw_icmple X dL_files_395 (tgt := 426) (by decide) (fun c3 => ?_) (fun c3 => ?_)
      · have e : k = q := by have := (nI_leI (by omega) (by omega)).mp c3; omega
        subst e
        clear ih
        refine aw_aload3 X dL_files_426 ?_
        refine aw_bipush X dL_files_427 (v := nI 16) (by decide) ?_
        refine aw_iload5 X dL_files_429 ?_
        refine aw_imul X dL_files_431 ?_
        first | with_reducible refine aw_int (pk_mul _ _) ?_ | skip
        refine aw_iload7 X dL_files_432 ?_
        refine aw_iadd X dL_files_434 ?_
        first | with_reducible refine aw_int (nI_add _ _) ?_ | skip
        refine aw_iload8 X dL_files_435 ?_
        refine aw_tst X 0 dL_files_437 h1 (by decide) rfl (show 16 * i + k < 64 by omega) (by decide) (fun M2 h2 => ?_)
        refine aw_aload4 X dL_files_438 ?_
        refine aw_iload5 X dL_files_440 ?_
        refine aw_dup2 X dL_files_442 rfl rfl ?_
        refine aw_iald X dL_files_443 (h2.at 1 (by decide)) rfl (show i < 4 from hi) (by decide) ?_
        refine aw_int (y := nI (τ.1.2 i).length) (by show F1 1 i = _; rw [o1 1 (by decide)]; exact l3) ?_
        refine aw_iconst X dL_files_444 (v := nI 1) (by decide) ?_
        refine aw_iadd X dL_files_445 ?_
        first | with_reducible refine aw_int (nI_add _ _) ?_ | skip
        refine aw_tst X 1 dL_files_446 h2 (by decide) rfl (show i < 4 from hi) (by decide) (fun M3 h3 => ?_)
        refine aw_aload0 X dL_files_447 ?_
        refine aw_iconst X dL_files_448 (v := nI 1) (by decide) ?_
        refine aw_iload5 X dL_files_449 ?_
        refine aw_iload7 X dL_files_451 ?_
        refine aw_iload8 X dL_files_453 ?_
        refine aw_iconst X dL_files_455 (v := nI 0) (by decide) ?_
        refine aw_callSH X hN (w_insert hfl (hs.tb h3)) kL_142 dL_files_456 rfl rfl (by first | decide | exact Nat.le_of_ble_eq_true rfl) (by rw [hR]; exact ⟨by first | decide | exact Nat.le_of_ble_eq_true rfl | (dsimp only; omega), by first | decide | exact Nat.le_of_ble_eq_true rfl | (dsimp only; omega)⟩) (by rw [hR]; exact ⟨by first | decide | exact Nat.le_of_ble_eq_true rfl | (dsimp only; omega), by first | decide | exact Nat.le_of_ble_eq_true rfl | (dsimp only; omega)⟩) (fun v M4 hv => ?_)
        obtain ⟨rfl, hs1, hk9⟩ := hv
        rw [spIns_ok hL.1 hi (by omega) hl16 hb] at hs1 ⊢
        refine aw_iload10 X dL_files_459 ?_
        refine aw_icmpne X dL_files_461 (tgt := 468) (by decide) (fun c9 => by first | exact absurd ((rfl : wr (0, nI ((τ.1.2 i).length + 1), ((τ.1.1, va_up τ.1.2 i ((τ.1.2 i).take k ++ nI b :: (τ.1.2 i).drop k)), τ.2)) = nI ((τ.1.2 i).length + 1))) c9 | exact absurd c9 ((rfl : wr (0, nI ((τ.1.2 i).length + 1), ((τ.1.1, va_up τ.1.2 i ((τ.1.2 i).take k ++ nI b :: (τ.1.2 i).drop k)), τ.2)) = nI ((τ.1.2 i).length + 1)))) (fun _ => ?_)
        refine aw_iconst X dL_files_464 (v := nI 1) (by decide) ?_
        refine aw_goto X dL_files_465 (tgt := 469) (by decide) ?_
        refine aw_widen (k' := 5) (n' := 30) (Nat.le_of_ble_eq_true rfl) (Nat.le_of_ble_eq_true rfl) ?_
        have hlen : ((τ.1.2 i).take k ++ nI b :: (τ.1.2 i).drop k).length = (τ.1.2 i).length + 1 := by
          rw [List.length_append, List.length_cons, List.length_take, List.length_drop]
          omega
        have htl : ((τ.1.2 i).take k).length = k := by rw [List.length_take]; omega
        have hfin := hL.2.1.set (i := i) (bs := (τ.1.2 i).take k ++ nI b :: (τ.1.2 i).drop k) (g := upd (F1 0) (16 * i + k) (nI b)) (m := upd (F1 1) i (nI ((τ.1.2 i).length + 1))) (by omega) ((l2.take k).app (((byB.one hb).app (l2.drop k) : byB ([nI b] ++ (τ.1.2 i).drop k)))) (by rw [pk_us, hlen]) (fun j _ hj => by rw [pk_un hj, o1 1 (by decide)]) (fun j hj => ?_) (fun j hj => by rw [pk_un (by omega)]; exact f1 j (by omega))
        · refine aw_ireturn X (ty := .boolean) hr (by first | rfl | decide | assumption) dL_files_469 (⟨rfl, _, lS.of h3 (hL.files hfin (fun j hj => by rw [va_up_ne _ _ (by omega), va_up_ne _ _ (by omega)]; exact o1 j (by omega))) hs1 hk9 eD_ok⟩)
        · rw [hlen] at hj
          rw [app_get, htl]
          rcases Nat.lt_trichotomy j k with q | q | q
          · rw [if_pos q, take_get q, pk_un (by omega), f1 _ (by omega)]
            exact l4 j (by omega)
          · rw [if_neg (by omega), q, Nat.sub_self, pk_us]
            rfl
          · obtain ⟨j', rfl⟩ : ∃ j', j = j' + 1 := ⟨j - 1, by omega⟩
            rw [if_neg (by omega), pk_un (by omega), show j' + 1 - k = (j' - k) + 1 by omega, ← Nat.add_assoc, f2 j' (by omega) (by omega), l4 j' (by omega)]
            show _ = ((τ.1.2 i).drop k).getD (j' - k) 0
            rw [drop_get, show k + (j' - k) = j' by omega]
      · have hlt : q < k := by
          rcases Nat.lt_or_ge q k with e | e
          · exact e
          · exact absurd (nI_le e (by omega)) c3
        obtain ⟨k', rfl⟩ : ∃ k', k = k' + 1 := ⟨k - 1, by omega⟩
        refine aw_aload3 X dL_files_398 ?_
        refine aw_bipush X dL_files_399 (v := nI 16) (by decide) ?_
        refine aw_iload5 X dL_files_401 ?_
        refine aw_imul X dL_files_403 ?_
        first | with_reducible refine aw_int (pk_mul _ _) ?_ | skip
        refine aw_iload11 X dL_files_404 ?_
        refine aw_iadd X dL_files_406 ?_
        first | with_reducible refine aw_int (nI_add _ _) ?_ | skip
        refine aw_aload3 X dL_files_407 ?_
        refine aw_bipush X dL_files_408 (v := nI 16) (by decide) ?_
        refine aw_iload5 X dL_files_410 ?_
        refine aw_imul X dL_files_412 ?_
        first | with_reducible refine aw_int (pk_mul _ _) ?_ | skip
        refine aw_iload11 X dL_files_413 ?_
        refine aw_iadd X dL_files_415 ?_
        first | with_reducible refine aw_int (nI_add _ _) ?_ | skip
        refine aw_iconst X dL_files_416 (v := nI 1) (by decide) ?_
        refine aw_isub X dL_files_417 ?_
        first | with_reducible refine aw_int (pk_sub (by omega)) ?_ | skip
        refine aw_iald X dL_files_418 (h1.at 0 (by decide)) rfl (show 16 * i + k' < 64 by omega) (by decide) ?_
        refine aw_tst X 0 dL_files_419 h1 (by decide) rfl (show 16 * i + (k' + 1) < 64 by omega) (by decide) (fun M2 h2 => ?_)
        refine aw_iinc11 X dL_files_420 (by rw [hn]; decide) (am_dec _) rfl ?_
        refine aw_goto X dL_files_423 (tgt := 391) (by decide) ?_
        refine ih k' M2 ⟨by omega, by omega, _, h2, fun j hj => ?_, fun j hj => ?_, fun j hj1 hj2 => ?_⟩ (by omega)
        · rw [va_up_ne _ _ (by omega)]
          exact o1 j hj
        · rw [va_up_self, pk_un (by omega)]
          exact f1 j (by omega)
        · rw [va_up_self]
          by_cases e : j = k'
          · rw [e, Nat.add_assoc, pk_us]
            exact f1 _ (by omega)
          · rw [pk_un (by omega)]
            exact f2 j (by omega) hj2
  · rw [am_b0 hp]
    refine aw_iload9 X dL_files_328 ?_
    refine aw_ifeq X dL_files_330 (tgt := 350) (by decide) (fun _ => ?_) (fun c9 => by first | exact absurd ((rfl : nI 0 = 0)) c9 | exact absurd c9 ((rfl : nI 0 = 0)))
    refine aw_iload9 X dL_files_350 ?_
    refine aw_ifne X dL_files_352 (tgt := 360) (by decide) (fun c9 => by first | exact absurd ((rfl : nI 0 = 0)) c9 | exact absurd c9 ((rfl : nI 0 = 0))) (fun _ => ?_)
    refine aw_bipush X dL_files_355 (v := -101) (by decide) ?_
    refine aw_goto X dL_files_357 (tgt := 377) (by decide) ?_
    refine aw_istore10 X dL_files_377 (by rw [hn]; decide) rfl ?_
    refine aw_iload10 X dL_files_379 ?_
    refine aw_iflt X dL_files_381 (tgt := 447) (by decide) (fun _ => ?_) (fun c9 => by first | exact absurd ((by decide : (-101 : Int32) < 0)) c9 | exact absurd c9 ((by decide : (-101 : Int32) < 0)))
    refine aw_aload0 X dL_files_447 ?_
    refine aw_iconst X dL_files_448 (v := nI 1) (by decide) ?_
    refine aw_iload5 X dL_files_449 ?_
    refine aw_iload7 X dL_files_451 ?_
    refine aw_iload8 X dL_files_453 ?_
    refine aw_iconst X dL_files_455 (v := nI 0) (by decide) ?_
    refine aw_callSH X hN (w_insert hfl hs) kL_142 dL_files_456 rfl rfl (by first | decide | exact Nat.le_of_ble_eq_true rfl) (by rw [hR]; exact ⟨by first | decide | exact Nat.le_of_ble_eq_true rfl | (dsimp only; omega), by first | decide | exact Nat.le_of_ble_eq_true rfl | (dsimp only; omega)⟩) (by rw [hR]; exact ⟨by first | decide | exact Nat.le_of_ble_eq_true rfl | (dsimp only; omega), by first | decide | exact Nat.le_of_ble_eq_true rfl | (dsimp only; omega)⟩) (fun v M1 hv => ?_)
    obtain ⟨rfl, hs1, hk1⟩ := hv
    have e0 : spInsert τ (nI i) p v = (1, 0, τ) := by
      rw [spInsert]
      simp only [tF, isF, hL.1, ix_n (show i < 2 ^ 31 by omega)]
      rw [if_neg (fun q => hp q.2)]
    rw [e0] at hs1 ⊢
    refine aw_iload10 X dL_files_459 ?_
    refine aw_icmpne X dL_files_461 (tgt := 468) (by decide) (fun c9 => by first | exact absurd ((rfl : wr (1, 0, τ) = -101)) c9 | exact absurd c9 ((rfl : wr (1, 0, τ) = -101))) (fun _ => ?_)
    refine aw_iconst X dL_files_464 (v := nI 1) (by decide) ?_
    refine aw_goto X dL_files_465 (tgt := 469) (by decide) ?_
    refine aw_widen (k' := 5) (n' := 30) (Nat.le_of_ble_eq_true rfl) (Nat.le_of_ble_eq_true rfl) ?_
    refine aw_ireturn X (ty := .boolean) hr (by first | rfl | decide | assumption) dL_files_469 (⟨rfl, τ, lS.of hT hL hs1 hk1 eD_ok⟩)
