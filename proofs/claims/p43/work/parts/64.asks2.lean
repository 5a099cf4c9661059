theorem lg_cmp_self (x : Int64) : lg_cmp x x = 0 := by
  unfold lg_cmp
  rw [if_neg (by rw [gt_iff_lt, Int64.lt_iff_toInt_lt]; omega), if_pos rfl]
theorem aw_splL {Z : AZ} {Q : State → Prop} {M : AM} {k n pc : Nat} {L : List (Option Value)} {st : List Value} (pm : Nat) {v : Int64} (H : AW Z Q M k n pm L (.long v :: st) → AW Z Q M k n pc L st) (K : AW Z Q M k n pm L (.long v :: st)) : AW Z Q M k n pc L st := H K
def cntB (τ : TS) (q : Nat) (b : Int32) : Int32 := if inI b (nbk τ q) then nI (sgL (τ.2.1 q) (ix b)) else nI 0
theorem c_L_asks {l : Launch} {G : AG} {M : AM} {x : Nat} {τ : TS} {y : Int32} (hfl : l.stackTraces = false) (S : lS G M x τ) : Cq l G yL_asks cL_asks 21 (some .boolean) rmA M [.ref x, .int y, .ref (x + 271), .ref (x + 272), .ref (x + 273), .ref (x + 274), .ref (x + 276), .ref (x + 277), .ref (x + 278), .ref (x + 279)] ncs (fun v M' => v = some (.int (nI 1)) ∧ lS G M' x τ) := by
  obtain ⟨hs, F, hT, hL⟩ := S
  refine Cq.of (by decide) [some (.ref x), some (.int y), some (.ref (x + 271)), some (.ref (x + 272)), some (.ref (x + 273)), some (.ref (x + 274)), some (.ref (x + 276)), some (.ref (x + 277)), some (.ref (x + 278)), some (.ref (x + 279)), none, none, none, none, none, none, none, none, none, none, none] rfl (Nat.le_of_ble_eq_true rfl) ?_
  intro Z hZ hN
  obtain ⟨rfl, hn, rfl, hR, X, hr, hnm⟩ := hZ
  refine aw_iload1 X dL_asks_0 ?_
  refine aw_iconst X dL_asks_1 (v := nI 5) (by decide) ?_
  refine aw_callS X (c_L_some (N := 5) (by decide) (by decide)) kL_136 dL_asks_2 rfl rfl (by first | decide | exact Nat.le_of_ble_eq_true rfl) (by rw [hR]; exact ⟨by first | decide | exact Nat.le_of_ble_eq_true rfl | (dsimp only; omega), by first | decide | exact Nat.le_of_ble_eq_true rfl | (dsimp only; omega)⟩) (by rw [hR]; exact ⟨by first | decide | exact Nat.le_of_ble_eq_true rfl | (dsimp only; omega), by first | decide | exact Nat.le_of_ble_eq_true rfl | (dsimp only; omega)⟩) (fun v M hv => ?_)
  obtain ⟨rfl, q, hq, rfl⟩ := hv
  have hq4 : inI (nI q) 4 ↔ q < 4 := inI_lt (by omega) (by decide)
  have hqF : isF τ (nI q) ↔ q < 4 := by rw [isF, hL.1]; exact hq4
  have hix : ix (nI q) = q := ix_n (by omega)
  have hnb : nbk τ q ≤ 16 ∧ (q < 4 → nbk τ q = sgN (τ.2.1 q)) ∧ (¬ q < 4 → nbk τ q = 0) := by
    unfold nbk
    split
    · rename_i h4
      obtain ⟨s1, s2, s3, s4⟩ := hL.2.2.1 q h4
      exact ⟨Nat.le_trans (nb_leN s1.1) s2, fun _ => rfl, fun e => absurd h4 e⟩
    · rename_i h4
      exact ⟨by decide, fun e => absurd e h4, fun _ => rfl⟩
  have hbl : ∀ b, inI b (nbk τ q) → ∃ B, b = nI B ∧ ix b = B ∧ B < sgN (τ.2.1 q) ∧ B ≤ 16 ∧ q < 4 ∧ sgV (τ.2.1 q) ∧ (τ.2.1 q).2.2.2.length ≤ 16 ∧ byB (τ.2.1 q).2.2.2 ∧ F 3 q = nI (τ.2.1 q).2.1 ∧ F 3 (4 + q) = nI (τ.2.1 q).2.2.1 ∧ F 3 (8 + q) = nI (τ.2.1 q).2.2.2.length ∧ bR (F 2) (16 * q) (τ.2.1 q).2.2.2 := fun b hb => by
    have h4 : q < 4 := by
      rcases Nat.lt_or_ge q 4 with e | e
      · exact e
      · rw [hnb.2.2 (by omega)] at hb
        exact absurd hb.2 hb.1
    obtain ⟨u1, u2, u3⟩ := inI_j hb (by have := hnb.1; omega)
    rw [hnb.2.1 h4] at u1
    obtain ⟨s1, s2, s3, s4⟩ := hL.2.2.1 q h4
    rcases s4 with ⟨t1, t2, t3, t4, t5⟩ | ⟨t1, t2, t3⟩
    · exact ⟨ix b, u2, rfl, u1, by have := nb_leN (n := (τ.2.1 q).2.2.2.length) s1.1; unfold sgN at u1; omega, h4, s1, s2, s3, t2, t3, t4, t5⟩
    · rw [t3] at u1
      exact absurd u1 (Nat.not_lt_zero _)
  refine aw_istore10 X dL_asks_5 (by rw [hn]; decide) rfl ?_
  refine aw_splB (pm := 18) (P := q < 4) (fun K => ?_) ?_
  · refine aw_iload10 X dL_asks_7 ?_
    refine aw_iconst X dL_asks_9 (v := nI 4) (by decide) ?_
    refine aw_icmpge X dL_asks_10 (tgt := 17) (by decide) (fun c => ?_) (fun c => ?_)
    · refine aw_iconst X dL_asks_17 (v := nI 0) (by decide) ?_
      exact aw_b0 (fun e => absurd ((nI_leI (by decide) (by omega)).mp c) (by omega)) K
    · refine aw_iconst X dL_asks_13 (v := nI 1) (by decide) ?_
      refine aw_goto X dL_asks_14 (tgt := 18) (by decide) ?_
      exact aw_b1 (by
        rcases Nat.lt_or_ge q 4 with e | e
        · exact e
        · exact absurd (nI_le e (by omega)) c) K
  refine aw_istore11 X dL_asks_18 (by rw [hn]; decide) rfl ?_
  refine aw_iload1 X dL_asks_20 ?_
  refine aw_iconst X dL_asks_21 (v := nI 3) (by decide) ?_
  refine aw_ishr X dL_asks_22 ?_
  refine aw_bipush X dL_asks_23 (v := nI 18) (by decide) ?_
  refine aw_callS X (c_L_some (N := 18) (by decide) (by decide)) kL_136 dL_asks_25 rfl rfl (by first | decide | exact Nat.le_of_ble_eq_true rfl) (by rw [hR]; exact ⟨by first | decide | exact Nat.le_of_ble_eq_true rfl | (dsimp only; omega), by first | decide | exact Nat.le_of_ble_eq_true rfl | (dsimp only; omega)⟩) (by rw [hR]; exact ⟨by first | decide | exact Nat.le_of_ble_eq_true rfl | (dsimp only; omega), by first | decide | exact Nat.le_of_ble_eq_true rfl | (dsimp only; omega)⟩) (fun v M hv => ?_)
  obtain ⟨rfl, j0, hj0, rfl⟩ := hv
  refine aw_iconst X dL_asks_28 (v := nI 1) (by decide) ?_
  refine aw_isub X dL_asks_29 ?_
  refine aw_any (fun w => ?_)
  refine aw_istore12 X dL_asks_30 (by rw [hn]; decide) rfl ?_
  -- due
  refine aw_splV (pm := 66) (v := wr (spByteAt τ (nI q) w)) (fun K => ?_) ?_
  · have bad : ¬ (q < 4 ∧ inI w (tF τ (nI q)).length) → AW Z (am_Q Z (fun v M' => v = some (.int (nI 1)) ∧ lS (zG Z) M' x τ) (fun _ _ => False) 120 720) M 0 0 64 (asL x y q (am_b (q < 4)) [some (.int w), none, none, none, none, none, none, none, none]) [] := fun e => by
      refine aw_bipush X dL_asks_64 (v := -101) (by decide) ?_
      refine aw_int (y := wr (spByteAt τ (nI q) w)) (by rw [spByteAt, if_neg (fun h => e ⟨hqF.mp h.1, h.2⟩)]; rfl) ?_
      exact K
    refine aw_iload11 X dL_asks_32 ?_
    refine aw_ifeq X dL_asks_34 (tgt := 64) (by decide) (fun c => ?_) (fun c => ?_)
    · exact bad (fun e => am_bz.mp c e.1)
    · have h4 := am_bn.mp c
      obtain ⟨l1, l2, l3, l4⟩ := hL.2.1 q h4
      have htF : tF τ (nI q) = τ.1.2 q := by unfold tF; rw [hix]
      rw [htF] at bad
      refine aw_iload12 X dL_asks_37 ?_
      refine aw_iflt X dL_asks_39 (tgt := 64) (by decide) (fun c2 => ?_) (fun c2 => ?_)
      · exact bad (fun e => e.2.1 c2)
      · refine aw_iload12 X dL_asks_42 ?_
        refine aw_aload3 X dL_asks_44 ?_
        refine aw_iload10 X dL_asks_45 ?_
        refine aw_iald X dL_asks_47 (hT.at 1 (by decide)) rfl (show q < 4 from h4) (by decide) ?_
        refine aw_int l3 ?_
        refine aw_icmpge X dL_asks_48 (tgt := 64) (by decide) (fun c3 => ?_) (fun c3 => ?_)
        · exact bad (fun e => absurd c3 (Int32.not_le.mpr e.2.2))
        · have hin : inI w (τ.1.2 q).length := inI_of c2 c3
          obtain ⟨u1, u2, u3⟩ := inI_j hin (by omega)
          refine aw_aload2 X dL_asks_51 ?_
          refine aw_bipush X dL_asks_52 (v := nI 16) (by decide) ?_
          refine aw_iload10 X dL_asks_54 ?_
          refine aw_imul X dL_asks_56 ?_
          first | with_reducible refine aw_int (pk_mul _ _) ?_ | skip
          refine aw_iload12 X dL_asks_57 ?_
          refine aw_int u2 ?_
          refine aw_iadd X dL_asks_59 ?_
          first | with_reducible refine aw_int (nI_add _ _) ?_ | skip
          refine aw_iald X dL_asks_60 (hT.at 0 (by decide)) rfl (show 16 * q + ix w < 64 by omega) (by decide) ?_
          refine aw_goto X dL_asks_61 (tgt := 66) (by decide) ?_
          refine aw_int (y := wr (spByteAt τ (nI q) w)) (by
            rw [spByteAt, if_pos ⟨hqF.mpr h4, by rw [htF]; exact hin⟩, htF]
            exact l4 _ u1) ?_
          exact K
  refine aw_istore13 X dL_asks_66 (by rw [hn]; decide) rfl ?_
  refine aw_aload0 X dL_asks_68 ?_
  refine aw_iconst X dL_asks_69 (v := nI 0) (by decide) ?_
  refine aw_iload10 X dL_asks_70 ?_
  refine aw_iconst X dL_asks_72 (v := nI 0) (by decide) ?_
  -- length
  refine aw_callSH X hN (w_length hfl hs) kL_181 dL_asks_73 rfl rfl (by first | decide | exact Nat.le_of_ble_eq_true rfl) (by rw [hR]; exact ⟨by first | decide | exact Nat.le_of_ble_eq_true rfl | (dsimp only; omega), by first | decide | exact Nat.le_of_ble_eq_true rfl | (dsimp only; omega)⟩) (by rw [hR]; exact ⟨by first | decide | exact Nat.le_of_ble_eq_true rfl | (dsimp only; omega), by first | decide | exact Nat.le_of_ble_eq_true rfl | (dsimp only; omega)⟩) (fun v M hv => ?_)
  obtain ⟨rfl, hs1, hk1⟩ := hv
  obtain ⟨hs, hT⟩ := st_told hT hs1 hk1 st_spLength
  refine aw_splV (pm := 90) (v := wr (spLength τ (nI q))) (fun K => ?_) ?_
  · refine aw_iload11 X dL_asks_76 ?_
    refine aw_ifeq X dL_asks_78 (tgt := 88) (by decide) (fun c => ?_) (fun c => ?_)
    · refine aw_bipush X dL_asks_88 (v := -101) (by decide) ?_
      refine aw_int (y := wr (spLength τ (nI q))) (by rw [spLength, if_neg (fun h => am_bz.mp c (hqF.mp h))]; rfl) ?_
      exact K
    · have h4 := am_bn.mp c
      refine aw_aload3 X dL_asks_81 ?_
      refine aw_iload10 X dL_asks_82 ?_
      refine aw_iald X dL_asks_84 (hT.at 1 (by decide)) rfl (show q < 4 from h4) (by decide) ?_
      refine aw_goto X dL_asks_85 (tgt := 90) (by decide) ?_
      refine aw_int (y := wr (spLength τ (nI q))) (by
        rw [spLength, if_pos (hqF.mpr h4)]
        simp only [tF, hix]
        exact (hL.2.1 q h4).2.2.1) ?_
      exact K
  refine aw_icmpne X dL_asks_90 (tgt := 107) (by decide) (fun c9 => by first | exact absurd (rfl) c9 | exact absurd c9 (rfl)) (fun _ => ?_)
  refine aw_aload0 X dL_asks_93 ?_
  refine aw_iconst X dL_asks_94 (v := nI 1) (by decide) ?_
  refine aw_iload10 X dL_asks_95 ?_
  refine aw_iload12 X dL_asks_97 ?_
  refine aw_callSH X hN (w_byteAt hfl hs) kL_181 dL_asks_99 rfl rfl (by first | decide | exact Nat.le_of_ble_eq_true rfl) (by rw [hR]; exact ⟨by first | decide | exact Nat.le_of_ble_eq_true rfl | (dsimp only; omega), by first | decide | exact Nat.le_of_ble_eq_true rfl | (dsimp only; omega)⟩) (by rw [hR]; exact ⟨by first | decide | exact Nat.le_of_ble_eq_true rfl | (dsimp only; omega), by first | decide | exact Nat.le_of_ble_eq_true rfl | (dsimp only; omega)⟩) (fun v M hv => ?_)
  obtain ⟨rfl, hs1, hk1⟩ := hv
  obtain ⟨hs, hT⟩ := st_told hT hs1 hk1 st_spByteAt
  refine aw_iload13 X dL_asks_102 ?_
  refine aw_icmpeq X dL_asks_104 (tgt := 109) (by decide) (fun _ => ?_) (fun c9 => by first | exact absurd (rfl) c9 | exact absurd c9 (rfl))
  -- blocks
  refine aw_splV (pm := 148) (v := nI (nbk τ q)) (fun K => ?_) ?_
  · refine aw_iload11 X dL_asks_109 ?_
    refine aw_ifeq X dL_asks_111 (tgt := 147) (by decide) (fun c => ?_) (fun c => ?_)
    · refine aw_iconst X dL_asks_147 (v := nI 0) (by decide) ?_
      refine aw_int (y := nI (nbk τ q)) (by rw [hnb.2.2 (am_bz.mp c)]) ?_
      exact K
    · have h4 := am_bn.mp c
      obtain ⟨s1, s2, s3, s4⟩ := hL.2.2.1 q h4
      have hL7 := s1.2.1
      have hL0 := s1.1
      refine aw_aload5 X dL_asks_114 ?_
      refine aw_iload10 X dL_asks_116 ?_
      refine aw_iald X dL_asks_118 (hT.at 3 (by decide)) rfl (show q < 12 by omega) (by decide) ?_
      rcases s4 with ⟨t1, t2, t3, t4, t5⟩ | ⟨t1, t2, t3⟩
      · refine aw_int t2 ?_
        refine aw_ifle X dL_asks_119 (tgt := 147) (by decide) (fun c9 => by first | exact absurd (nI_nle hL0 (by omega)) c9 | exact absurd c9 (nI_nle hL0 (by omega))) (fun _ => ?_)
        refine aw_aload5 X dL_asks_122 ?_
        refine aw_bipush X dL_asks_124 (v := nI 8) (by decide) ?_
        refine aw_iload10 X dL_asks_126 ?_
        refine aw_iadd X dL_asks_128 ?_
        first | with_reducible refine aw_int (nI_add _ _) ?_ | skip
        refine aw_iald X dL_asks_129 (hT.at 3 (by decide)) rfl (show 8 + q < 12 by omega) (by decide) ?_
        refine aw_int t4 ?_
        refine aw_aload5 X dL_asks_130 ?_
        refine aw_iload10 X dL_asks_132 ?_
        refine aw_iald X dL_asks_134 (hT.at 3 (by decide)) rfl (show q < 12 by omega) (by decide) ?_
        refine aw_int t2 ?_
        refine aw_iadd X dL_asks_135 ?_
        first | with_reducible refine aw_int (nI_add _ _) ?_ | skip
        refine aw_iconst X dL_asks_136 (v := nI 1) (by decide) ?_
        refine aw_isub X dL_asks_137 ?_
        refine aw_int (pk_sub (by omega)) ?_
        refine aw_aload5 X dL_asks_138 ?_
        refine aw_iload10 X dL_asks_140 ?_
        refine aw_iald X dL_asks_142 (hT.at 3 (by decide)) rfl (show q < 12 by omega) (by decide) ?_
        refine aw_int t2 ?_
        refine aw_idiv X dL_asks_143 (nI_ne0 hL0 (by omega)) ?_
        refine aw_int (pk_div (by omega) (by omega) (by omega)) ?_
        refine aw_goto X dL_asks_144 (tgt := 148) (by decide) ?_
        refine aw_int (y := nI (nbk τ q)) (by rw [hnb.2.1 h4]; rfl) ?_
        exact K
      · refine aw_int t2 ?_
        refine aw_ifle X dL_asks_119 (tgt := 147) (by decide) (fun _ => ?_) (fun c9 => by first | exact absurd ((by decide : nI 0 ≤ 0)) c9 | exact absurd c9 ((by decide : nI 0 ≤ 0)))
        refine aw_iconst X dL_asks_147 (v := nI 0) (by decide) ?_
        refine aw_int (y := nI (nbk τ q)) (by rw [hnb.2.1 h4, t3]) ?_
        exact K
  have hnb16 := hnb.1
  refine aw_istore14 X dL_asks_148 (by rw [hn]; decide) rfl ?_
  refine aw_iload1 X dL_asks_150 ?_
  refine aw_iconst X dL_asks_151 (v := nI 4) (by decide) ?_
  refine aw_ishr X dL_asks_152 ?_
  refine aw_iload14 X dL_asks_153 ?_
  refine aw_iconst X dL_asks_155 (v := nI 1) (by decide) ?_
  refine aw_iadd X dL_asks_156 ?_
  first | with_reducible refine aw_int (nI_add _ _) ?_ | skip
  refine aw_callS X (c_L_some (N := nbk τ q + 1) (by omega) (by omega)) kL_136 dL_asks_157 rfl rfl (by first | decide | exact Nat.le_of_ble_eq_true rfl) (by rw [hR]; exact ⟨by first | decide | exact Nat.le_of_ble_eq_true rfl | (dsimp only; omega), by first | decide | exact Nat.le_of_ble_eq_true rfl | (dsimp only; omega)⟩) (by rw [hR]; exact ⟨by first | decide | exact Nat.le_of_ble_eq_true rfl | (dsimp only; omega), by first | decide | exact Nat.le_of_ble_eq_true rfl | (dsimp only; omega)⟩) (fun v M hv => ?_)
  obtain ⟨rfl, j1, hj1, rfl⟩ := hv
  refine aw_spl (pm := 177) (P := fun _ => True) (fun K => ?_) (fun v _ => ?_)
  · refine aw_iload1 X dL_asks_160 ?_
    refine aw_bipush X dL_asks_161 (v := nI 9) (by decide) ?_
    refine aw_ishr X dL_asks_163 ?_
    refine aw_bipush X dL_asks_164 (v := nI 11) (by decide) ?_
    refine aw_callS X (c_L_some (N := 11) (by decide) (by decide)) kL_136 dL_asks_166 rfl rfl (by first | decide | exact Nat.le_of_ble_eq_true rfl) (by rw [hR]; exact ⟨by first | decide | exact Nat.le_of_ble_eq_true rfl | (dsimp only; omega), by first | decide | exact Nat.le_of_ble_eq_true rfl | (dsimp only; omega)⟩) (by rw [hR]; exact ⟨by first | decide | exact Nat.le_of_ble_eq_true rfl | (dsimp only; omega), by first | decide | exact Nat.le_of_ble_eq_true rfl | (dsimp only; omega)⟩) (fun v M hv => ?_)
    obtain ⟨rfl, j, hj, rfl⟩ := hv
    refine aw_ifne X dL_asks_169 (tgt := 176) (by decide) (fun c => ?_) (fun c => ?_)
    · refine aw_iconst X dL_asks_176 (v := nI 0) (by decide) ?_
      exact K _ trivial
    · refine aw_iconst X dL_asks_172 (v := nI 1) (by decide) ?_
      refine aw_goto X dL_asks_173 (tgt := 177) (by decide) ?_
      exact K _ trivial
  refine aw_isub X dL_asks_177 ?_
  refine aw_any (fun b => ?_)
  refine aw_istore15 X dL_asks_178 (by rw [hn]; decide) rfl ?_
  refine aw_splB (pm := 197) (P := inI b (nbk τ q)) (fun K => ?_) ?_
  · refine aw_iload15 X dL_asks_180 ?_
    refine aw_iflt X dL_asks_182 (tgt := 196) (by decide) (fun c => ?_) (fun c => ?_)
    · refine aw_iconst X dL_asks_196 (v := nI 0) (by decide) ?_
      exact aw_b0 (fun e => e.1 c) K
    · refine aw_iload15 X dL_asks_185 ?_
      refine aw_iload14 X dL_asks_187 ?_
      refine aw_icmpge X dL_asks_189 (tgt := 196) (by decide) (fun c2 => ?_) (fun c2 => ?_)
      · refine aw_iconst X dL_asks_196 (v := nI 0) (by decide) ?_
        exact aw_b0 (fun e => absurd c2 (Int32.not_le.mpr e.2)) K
      · refine aw_iconst X dL_asks_192 (v := nI 1) (by decide) ?_
        refine aw_goto X dL_asks_193 (tgt := 197) (by decide) ?_
        exact aw_b1 (inI_of c c2) K
  refine aw_istore16 X dL_asks_197 (by rw [hn]; decide) rfl ?_
  refine aw_splV (pm := 242) (v := cntB τ q b) (fun K => ?_) ?_
  · refine aw_iload16 X dL_asks_199 ?_
    refine aw_ifeq X dL_asks_201 (tgt := 241) (by decide) (fun c => ?_) (fun c => ?_)
    · refine aw_iconst X dL_asks_241 (v := nI 0) (by decide) ?_
      refine aw_int (y := cntB τ q b) (by unfold cntB; rw [if_neg (am_bz.mp c)]) ?_
      exact K
    · have hin := am_bn.mp c
      obtain ⟨B, rfl, hB, hBN, hB16, h4, s1, s2, s3, t2, t3, t4, t5⟩ := hbl b hin
      have hcb : cntB τ q (nI B) = nI (sgL (τ.2.1 q) B) := by unfold cntB; rw [if_pos hin, hB]
      have hlt := (nb_lt s1.1).mp hBN
      have hN0 : 0 < nbk τ q := by rw [hnb.2.1 h4]; omega
      have hNs := hnb.2.1 h4
      have hL7 := s1.2.1
      have hsl : sgL (τ.2.1 q) B = min (τ.2.1 q).2.1 ((τ.2.1 q).2.2.2.length - B * (τ.2.1 q).2.1) := rfl
      have hB1 : (B + 1) * (τ.2.1 q).2.1 = B * (τ.2.1 q).2.1 + (τ.2.1 q).2.1 := Nat.succ_mul _ _
      refine aw_iload15 X dL_asks_204 ?_
      refine aw_iload14 X dL_asks_206 ?_
      refine aw_iconst X dL_asks_208 (v := nI 1) (by decide) ?_
      refine aw_isub X dL_asks_209 ?_
      refine aw_int (pk_sub (by omega)) ?_
      refine aw_icmpne X dL_asks_210 (tgt := 233) (by decide) (fun c2 => ?_) (fun c2 => ?_)
      · have hne : ¬ B = nbk τ q - 1 := fun e => c2 (by rw [e])
        have h2 : B + 1 < sgN (τ.2.1 q) := by omega
        have hlt2 := (nb_lt s1.1).mp h2
        refine aw_aload5 X dL_asks_233 ?_
        refine aw_iload10 X dL_asks_235 ?_
        refine aw_iald X dL_asks_237 (hT.at 3 (by decide)) rfl (show q < 12 by omega) (by decide) ?_
        refine aw_goto X dL_asks_238 (tgt := 242) (by decide) ?_
        refine aw_int (y := cntB τ q (nI B)) (by rw [hcb, hsl, Nat.min_eq_left (by omega)]; exact t2) ?_
        exact K
      · have he := (nI_eq (by omega) (by omega)).mp c2
        have hge : ¬ (B + 1) * (τ.2.1 q).2.1 < (τ.2.1 q).2.2.2.length := fun e => by have := (nb_lt s1.1).mpr e; unfold sgN at hBN hNs; omega
        refine aw_aload5 X dL_asks_213 ?_
        refine aw_bipush X dL_asks_215 (v := nI 8) (by decide) ?_
        refine aw_iload10 X dL_asks_217 ?_
        refine aw_iadd X dL_asks_219 ?_
        first | with_reducible refine aw_int (nI_add _ _) ?_ | skip
        refine aw_iald X dL_asks_220 (hT.at 3 (by decide)) rfl (show 8 + q < 12 by omega) (by decide) ?_
        refine aw_int t4 ?_
        refine aw_iload15 X dL_asks_221 ?_
        refine aw_aload5 X dL_asks_223 ?_
        refine aw_iload10 X dL_asks_225 ?_
        refine aw_iald X dL_asks_227 (hT.at 3 (by decide)) rfl (show q < 12 by omega) (by decide) ?_
        refine aw_int t2 ?_
        refine aw_imul X dL_asks_228 ?_
        first | with_reducible refine aw_int (pk_mul _ _) ?_ | skip
        refine aw_isub X dL_asks_229 ?_
        refine aw_int (pk_sub (by omega)) ?_
        refine aw_goto X dL_asks_230 (tgt := 242) (by decide) ?_
        refine aw_int (y := cntB τ q (nI B)) (by rw [hcb, hsl, Nat.min_eq_right (by omega)]) ?_
        exact K
  refine aw_istore17 X dL_asks_242 (by rw [hn]; decide) rfl ?_
  refine aw_aload0 X dL_asks_244 ?_
  refine aw_iconst X dL_asks_245 (v := nI 2) (by decide) ?_
  refine aw_iload10 X dL_asks_246 ?_
  refine aw_iconst X dL_asks_248 (v := nI 0) (by decide) ?_
  refine aw_callSH X hN (w_blocks hfl hs) kL_181 dL_asks_249 rfl rfl (by first | decide | exact Nat.le_of_ble_eq_true rfl) (by rw [hR]; exact ⟨by first | decide | exact Nat.le_of_ble_eq_true rfl | (dsimp only; omega), by first | decide | exact Nat.le_of_ble_eq_true rfl | (dsimp only; omega)⟩) (by rw [hR]; exact ⟨by first | decide | exact Nat.le_of_ble_eq_true rfl | (dsimp only; omega), by first | decide | exact Nat.le_of_ble_eq_true rfl | (dsimp only; omega)⟩) (fun v M hv => ?_)
  obtain ⟨rfl, hs1, hk1⟩ := hv
  obtain ⟨hs, hT⟩ := st_told hT hs1 hk1 st_spBlocks
  refine aw_splV (pm := 264) (v := wr (spBlocks τ (nI q))) (fun K => ?_) ?_
  · refine aw_iload11 X dL_asks_252 ?_
    refine aw_ifeq X dL_asks_254 (tgt := 262) (by decide) (fun c => ?_) (fun c => ?_)
    · refine aw_bipush X dL_asks_262 (v := -101) (by decide) ?_
      refine aw_int (y := wr (spBlocks τ (nI q))) (by rw [spBlocks, if_neg (fun h => am_bz.mp c (hq4.mp h))]; rfl) ?_
      exact K
    · have h4 := am_bn.mp c
      refine aw_iload14 X dL_asks_257 ?_
      refine aw_goto X dL_asks_259 (tgt := 264) (by decide) ?_
      refine aw_int (y := wr (spBlocks τ (nI q))) (by
        rw [spBlocks, if_pos (hq4.mpr h4), hnb.2.1 h4]
        simp only [tS, hix]
        rfl) ?_
      exact K
  refine aw_icmpne X dL_asks_264 (tgt := 361) (by decide) (fun c9 => by first | exact absurd (rfl) c9 | exact absurd c9 (rfl)) (fun _ => ?_)
  refine aw_aload0 X dL_asks_267 ?_
  refine aw_iconst X dL_asks_268 (v := nI 3) (by decide) ?_
  refine aw_iload10 X dL_asks_269 ?_
  refine aw_iload15 X dL_asks_271 ?_
  refine aw_callSH X hN (w_weak hfl hs) kL_181 dL_asks_273 rfl rfl (by first | decide | exact Nat.le_of_ble_eq_true rfl) (by rw [hR]; exact ⟨by first | decide | exact Nat.le_of_ble_eq_true rfl | (dsimp only; omega), by first | decide | exact Nat.le_of_ble_eq_true rfl | (dsimp only; omega)⟩) (by rw [hR]; exact ⟨by first | decide | exact Nat.le_of_ble_eq_true rfl | (dsimp only; omega), by first | decide | exact Nat.le_of_ble_eq_true rfl | (dsimp only; omega)⟩) (fun v M hv => ?_)
  obtain ⟨rfl, hs1, hk1⟩ := hv
  obtain ⟨hs, hT⟩ := st_told hT hs1 hk1 st_spWeak
  have hwk : (inI (nI q) 4 ∧ inI b (sgN (tS τ (nI q)))) ↔ inI b (nbk τ q) := by
    simp only [tS, hix]
    rw [hq4]
    by_cases h4 : q < 4
    · rw [hnb.2.1 h4]
      exact ⟨fun h => h.2, fun h => ⟨h4, h⟩⟩
    · rw [hnb.2.2 h4]
      exact ⟨fun h => absurd h.1 h4, fun h => absurd h.2 h.1⟩
  refine aw_splV (pm := 314) (v := wr (spWeak τ (nI q) b)) (fun K => ?_) ?_
  · refine aw_iload16 X dL_asks_276 ?_
    refine aw_ifeq X dL_asks_278 (tgt := 312) (by decide) (fun c => ?_) (fun c => ?_)
    · refine aw_bipush X dL_asks_312 (v := -101) (by decide) ?_
      refine aw_int (y := wr (spWeak τ (nI q) b)) (by rw [spWeak, if_neg (fun h => am_bz.mp c (hwk.mp h))]; rfl) ?_
      exact K
    · have hin := am_bn.mp c
      obtain ⟨B, rfl, hB, hBN, hB16, h4, s1, s2, s3, t2, t3, t4, t5⟩ := hbl b hin
      have hcb : cntB τ q (nI B) = nI (sgL (τ.2.1 q) B) := by unfold cntB; rw [if_pos hin, hB]
      have hlt := (nb_lt s1.1).mp hBN
      have hL7 := s1.2.1
      have hsl : sgL (τ.2.1 q) B = min (τ.2.1 q).2.1 ((τ.2.1 q).2.2.2.length - B * (τ.2.1 q).2.1) := rfl
      refine aw_aload4 X dL_asks_281 ?_
      refine aw_bipush X dL_asks_283 (v := nI 16) (by decide) ?_
      refine aw_iload10 X dL_asks_285 ?_
      refine aw_imul X dL_asks_287 ?_
      first | with_reducible refine aw_int (pk_mul _ _) ?_ | skip
      refine aw_iload15 X dL_asks_288 ?_
      refine aw_aload5 X dL_asks_290 ?_
      refine aw_iload10 X dL_asks_292 ?_
      refine aw_iald X dL_asks_294 (hT.at 3 (by decide)) rfl (show q < 12 by omega) (by decide) ?_
      refine aw_int t2 ?_
      refine aw_imul X dL_asks_295 ?_
      first | with_reducible refine aw_int (pk_mul _ _) ?_ | skip
      refine aw_iadd X dL_asks_296 ?_
      first | with_reducible refine aw_int (nI_add _ _) ?_ | skip
      refine aw_iload17 X dL_asks_297 ?_
      refine aw_int hcb ?_
      refine aw_aload5 X dL_asks_299 ?_
      refine aw_iconst X dL_asks_301 (v := nI 4) (by decide) ?_
      refine aw_iload10 X dL_asks_302 ?_
      refine aw_iadd X dL_asks_304 ?_
      first | with_reducible refine aw_int (nI_add _ _) ?_ | skip
      refine aw_iald X dL_asks_305 (hT.at 3 (by decide)) rfl (show 4 + q < 12 by omega) (by decide) ?_
      refine aw_int t3 ?_
      refine aw_callS X (c_L_weak (a := 16 * q + B * (τ.2.1 q).2.1) (a' := B * (τ.2.1 q).2.1) (bs := (τ.2.1 q).2.2.2) (hT.at 2 (by decide)) (show _ ≤ 64 by omega) (by decide) (fun k hk => by rw [Nat.add_assoc]; exact t5 _ (by omega)) s3 (by omega) s1.2.2.1 s1.2.2.2.1) kL_9 dL_asks_306 rfl rfl (by first | decide | exact Nat.le_of_ble_eq_true rfl) (by rw [hR]; exact ⟨by first | decide | exact Nat.le_of_ble_eq_true rfl | (dsimp only; omega), by first | decide | exact Nat.le_of_ble_eq_true rfl | (dsimp only; omega)⟩) (by rw [hR]; exact ⟨by first | decide | exact Nat.le_of_ble_eq_true rfl | (dsimp only; omega), by first | decide | exact Nat.le_of_ble_eq_true rfl | (dsimp only; omega)⟩) (fun v M hv => ?_)
      obtain ⟨rfl, rfl⟩ := hv
      refine aw_goto X dL_asks_309 (tgt := 314) (by decide) ?_
      refine aw_int (y := wr (spWeak τ (nI q) (nI B))) (by
        rw [spWeak, if_pos (hwk.mpr hin), hB]
        simp only [tS, hix]
        rfl) ?_
      exact K
  refine aw_icmpne X dL_asks_314 (tgt := 361) (by decide) (fun c9 => by first | exact absurd (rfl) c9 | exact absurd c9 (rfl)) (fun _ => ?_)
  refine aw_aload0 X dL_asks_317 ?_
  refine aw_iload10 X dL_asks_318 ?_
  refine aw_iload15 X dL_asks_320 ?_
  refine aw_callSH X hN (w_strong hfl hs) kL_197 dL_asks_322 rfl rfl (by first | decide | exact Nat.le_of_ble_eq_true rfl) (by rw [hR]; exact ⟨by first | decide | exact Nat.le_of_ble_eq_true rfl | (dsimp only; omega), by first | decide | exact Nat.le_of_ble_eq_true rfl | (dsimp only; omega)⟩) (by rw [hR]; exact ⟨by first | decide | exact Nat.le_of_ble_eq_true rfl | (dsimp only; omega), by first | decide | exact Nat.le_of_ble_eq_true rfl | (dsimp only; omega)⟩) (fun v M hv => ?_)
  obtain ⟨rfl, hs1, hk1⟩ := hv
  obtain ⟨hs, hT⟩ := st_told hT hs1 hk1 st_spStrong
  refine aw_splL (pm := 357) (v := wrL (spStrong τ (nI q) b)) (fun K => ?_) ?_
  · refine aw_iload16 X dL_asks_325 ?_
    refine aw_ifeq X dL_asks_327 (tgt := 354) (by decide) (fun c => ?_) (fun c => ?_)
    · refine aw_ldc2 X kcL_87 dL_asks_354 ?_
      refine aw_long (y := wrL (spStrong τ (nI q) b)) (by rw [spStrong, if_neg (fun h => am_bz.mp c (hwk.mp h))]; rfl) ?_
      exact K
    · have hin := am_bn.mp c
      obtain ⟨B, rfl, hB, hBN, hB16, h4, s1, s2, s3, t2, t3, t4, t5⟩ := hbl b hin
      have hcb : cntB τ q (nI B) = nI (sgL (τ.2.1 q) B) := by unfold cntB; rw [if_pos hin, hB]
      have hlt := (nb_lt s1.1).mp hBN
      have hL7 := s1.2.1
      have hsl : sgL (τ.2.1 q) B = min (τ.2.1 q).2.1 ((τ.2.1 q).2.2.2.length - B * (τ.2.1 q).2.1) := rfl
      refine aw_aload4 X dL_asks_330 ?_
      refine aw_bipush X dL_asks_332 (v := nI 16) (by decide) ?_
      refine aw_iload10 X dL_asks_334 ?_
      refine aw_imul X dL_asks_336 ?_
      first | with_reducible refine aw_int (pk_mul _ _) ?_ | skip
      refine aw_iload15 X dL_asks_337 ?_
      refine aw_aload5 X dL_asks_339 ?_
      refine aw_iload10 X dL_asks_341 ?_
      refine aw_iald X dL_asks_343 (hT.at 3 (by decide)) rfl (show q < 12 by omega) (by decide) ?_
      refine aw_int t2 ?_
      refine aw_imul X dL_asks_344 ?_
      first | with_reducible refine aw_int (pk_mul _ _) ?_ | skip
      refine aw_iadd X dL_asks_345 ?_
      first | with_reducible refine aw_int (nI_add _ _) ?_ | skip
      refine aw_iload17 X dL_asks_346 ?_
      refine aw_int hcb ?_
      refine aw_callS X (c_L_strong (a := 16 * q + B * (τ.2.1 q).2.1) (a' := B * (τ.2.1 q).2.1) (bs := (τ.2.1 q).2.2.2) (hT.at 2 (by decide)) (show _ ≤ 64 by omega) (by decide) (fun k hk => by rw [Nat.add_assoc]; exact t5 _ (by omega)) s3) kL_201 dL_asks_348 rfl rfl (by first | decide | exact Nat.le_of_ble_eq_true rfl) (by rw [hR]; exact ⟨by first | decide | exact Nat.le_of_ble_eq_true rfl | (dsimp only; omega), by first | decide | exact Nat.le_of_ble_eq_true rfl | (dsimp only; omega)⟩) (by rw [hR]; exact ⟨by first | decide | exact Nat.le_of_ble_eq_true rfl | (dsimp only; omega), by first | decide | exact Nat.le_of_ble_eq_true rfl | (dsimp only; omega)⟩) (fun v M hv => ?_)
      obtain ⟨rfl, rfl⟩ := hv
      refine aw_goto X dL_asks_351 (tgt := 357) (by decide) ?_
      refine aw_long (y := wrL (spStrong τ (nI q) (nI B))) (by
        rw [spStrong, if_pos (hwk.mpr hin), hB]
        simp only [tS, hix]
        rfl) ?_
      exact K
  refine aw_lcmp X dL_asks_357 ?_
  refine aw_int (lg_cmp_self _) ?_
  refine aw_ifeq X dL_asks_358 (tgt := 363) (by decide) (fun _ => ?_) (fun c9 => by first | exact absurd (rfl) c9 | exact absurd c9 (rfl))
  -- instructions
  have hdl : ∀ h4 : q < 4, (τ.2.2.1 q).1 = true ∧ dV (τ.2.2.1 q) ∧ dlR (F 4) (F 5) (F 6) (F 7) (F 8) q (τ.2.2.1 q) ∨ (τ.2.2.1 q).1 = false ∧ (τ.2.2.1 q).2.1 = [] ∧ (τ.2.2.1 q).2.2.1 = 0 ∧ F 8 q = -1 := fun h4 => hL.2.2.2.1 q h4
  have hni : (q < 4 → nin τ q = (τ.2.2.1 q).2.1.length) ∧ (¬ q < 4 → nin τ q = 0) := by
    unfold nin
    exact ⟨fun h => if_pos h, fun h => if_neg h⟩
  refine aw_splV (pm := 385) (v := nI (nin τ q)) (fun K => ?_) ?_
  · refine aw_iload11 X dL_asks_363 ?_
    refine aw_ifeq X dL_asks_365 (tgt := 384) (by decide) (fun c => ?_) (fun c => ?_)
    · refine aw_iconst X dL_asks_384 (v := nI 0) (by decide) ?_
      refine aw_int (y := nI (nin τ q)) (by rw [hni.2 (am_bz.mp c)]) ?_
      exact K
    · have h4 := am_bn.mp c
      refine aw_aload9 X dL_asks_368 ?_
      refine aw_iload10 X dL_asks_370 ?_
      refine aw_iald X dL_asks_372 (hT.at 8 (by decide)) rfl (show q < 8 by omega) (by decide) ?_
      rcases hdl h4 with ⟨d1, d2, d3⟩ | ⟨d1, d2, d3, d4⟩
      · have hl16 := d2.2.1
        refine aw_int d3.1 ?_
        refine aw_ifle X dL_asks_373 (tgt := 384) (by decide) (fun c2 => ?_) (fun c2 => ?_)
        · refine aw_iconst X dL_asks_384 (v := nI 0) (by decide) ?_
          have := (nI_leI (b := 0) (by omega) (by decide)).mp c2
          refine aw_int (y := nI (nin τ q)) (by rw [hni.1 h4, show (τ.2.2.1 q).2.1.length = 0 by omega]) ?_
          exact K
        · refine aw_aload9 X dL_asks_376 ?_
          refine aw_iload10 X dL_asks_378 ?_
          refine aw_iald X dL_asks_380 (hT.at 8 (by decide)) rfl (show q < 8 by omega) (by decide) ?_
          refine aw_int (y := nI (nin τ q)) (by rw [hni.1 h4]; exact d3.1) ?_
          refine aw_goto X dL_asks_381 (tgt := 385) (by decide) ?_
          exact K
      · refine aw_int d4 ?_
        refine aw_ifle X dL_asks_373 (tgt := 384) (by decide) (fun _ => ?_) (fun c9 => by first | exact absurd ((by decide : (-1 : Int32) ≤ 0)) c9 | exact absurd c9 ((by decide : (-1 : Int32) ≤ 0)))
        refine aw_iconst X dL_asks_384 (v := nI 0) (by decide) ?_
        refine aw_int (y := nI (nin τ q)) (by rw [hni.1 h4, d2]; rfl) ?_
        exact K
  refine aw_istore18 X dL_asks_385 (by rw [hn]; decide) rfl ?_
  refine aw_aload0 X dL_asks_387 ?_
  refine aw_iconst X dL_asks_388 (v := nI 4) (by decide) ?_
  refine aw_iload10 X dL_asks_389 ?_
  refine aw_iconst X dL_asks_391 (v := nI 0) (by decide) ?_
  refine aw_callSH X hN (w_instructions hfl hs) kL_181 dL_asks_392 rfl rfl (by first | decide | exact Nat.le_of_ble_eq_true rfl) (by rw [hR]; exact ⟨by first | decide | exact Nat.le_of_ble_eq_true rfl | (dsimp only; omega), by first | decide | exact Nat.le_of_ble_eq_true rfl | (dsimp only; omega)⟩) (by rw [hR]; exact ⟨by first | decide | exact Nat.le_of_ble_eq_true rfl | (dsimp only; omega), by first | decide | exact Nat.le_of_ble_eq_true rfl | (dsimp only; omega)⟩) (fun v M hv => ?_)
  obtain ⟨rfl, hs1, hk1⟩ := hv
  obtain ⟨hs, hT⟩ := st_told hT hs1 hk1 st_spInstr
  refine aw_splV (pm := 407) (v := wr (spInstr τ (nI q))) (fun K => ?_) ?_
  · refine aw_iload11 X dL_asks_395 ?_
    refine aw_ifeq X dL_asks_397 (tgt := 405) (by decide) (fun c => ?_) (fun c => ?_)
    · refine aw_bipush X dL_asks_405 (v := -101) (by decide) ?_
      refine aw_int (y := wr (spInstr τ (nI q))) (by rw [spInstr, if_neg (fun h => am_bz.mp c (hq4.mp h))]; rfl) ?_
      exact K
    · have h4 := am_bn.mp c
      refine aw_iload18 X dL_asks_400 ?_
      refine aw_goto X dL_asks_402 (tgt := 407) (by decide) ?_
      refine aw_int (y := wr (spInstr τ (nI q))) (by
        rw [spInstr, if_pos (hq4.mpr h4), hni.1 h4]
        simp only [tD, hix]
        rfl) ?_
      exact K
  refine aw_icmpne X dL_asks_407 (tgt := 493) (by decide) (fun c9 => by first | exact absurd (rfl) c9 | exact absurd c9 (rfl)) (fun _ => ?_)
  refine aw_aload0 X dL_asks_410 ?_
  refine aw_bipush X dL_asks_411 (v := nI 7) (by decide) ?_
  refine aw_iload10 X dL_asks_413 ?_
  refine aw_iconst X dL_asks_415 (v := nI 0) (by decide) ?_
  refine aw_callSH X hN (w_cost hfl hs) kL_181 dL_asks_416 rfl rfl (by first | decide | exact Nat.le_of_ble_eq_true rfl) (by rw [hR]; exact ⟨by first | decide | exact Nat.le_of_ble_eq_true rfl | (dsimp only; omega), by first | decide | exact Nat.le_of_ble_eq_true rfl | (dsimp only; omega)⟩) (by rw [hR]; exact ⟨by first | decide | exact Nat.le_of_ble_eq_true rfl | (dsimp only; omega), by first | decide | exact Nat.le_of_ble_eq_true rfl | (dsimp only; omega)⟩) (fun v M hv => ?_)
  obtain ⟨rfl, hs1, hk1⟩ := hv
  obtain ⟨hs, hT⟩ := st_told hT hs1 hk1 st_spCost
  refine aw_splV (pm := 449) (v := wr (spCost τ (nI q))) (fun K => ?_) ?_
  · refine aw_iload11 X dL_asks_419 ?_
    refine aw_ifeq X dL_asks_421 (tgt := 447) (by decide) (fun c => ?_) (fun c => ?_)
    · refine aw_bipush X dL_asks_447 (v := -101) (by decide) ?_
      refine aw_int (y := wr (spCost τ (nI q))) (by rw [spCost, if_neg (fun h => am_bz.mp c (hq4.mp h))]; rfl) ?_
      exact K
    · have h4 := am_bn.mp c
      have hn16 : nin τ q ≤ 16 := by
        rw [hni.1 h4]
        rcases hdl h4 with ⟨d1, d2, d3⟩ | ⟨d1, d2, d3, d4⟩
        · exact d2.2.1
        · rw [d2]; exact Nat.zero_le _
      refine aw_iload18 X dL_asks_424 ?_
      refine aw_ifle X dL_asks_426 (tgt := 443) (by decide) (fun c2 => ?_) (fun c2 => ?_)
      · have := (nI_leI (b := 0) (by omega) (by decide)).mp c2
        have he : (τ.2.2.1 q).2.1 = [] := List.eq_nil_of_length_eq_zero (by have := hni.1 h4; omega)
        refine aw_iconst X dL_asks_443 (v := nI 0) (by decide) ?_
        refine aw_goto X dL_asks_444 (tgt := 449) (by decide) ?_
        refine aw_int (y := wr (spCost τ (nI q))) (by
          rw [spCost, if_pos (hq4.mpr h4)]
          simp only [tD, hix, he]
          rfl) ?_
        exact K
      · rcases hdl h4 with ⟨d1, d2, d3⟩ | ⟨d1, d2, d3, d4⟩
        · refine aw_aload6 X dL_asks_429 ?_
          refine aw_aload8 X dL_asks_431 ?_
          refine aw_aload9 X dL_asks_433 ?_
          refine aw_iload10 X dL_asks_435 ?_
          refine aw_callS X (c_L_cost (ins := (τ.2.2.1 q).2.1) (hT.at 5 (by decide)) (hT.at 7 (by decide)) (hT.at 8 (by decide)) h4 d2.2.1 d3.1 d3.2.2.1) kL_167 dL_asks_437 rfl rfl (by first | decide | exact Nat.le_of_ble_eq_true rfl) (by rw [hR]; exact ⟨by first | decide | exact Nat.le_of_ble_eq_true rfl | (dsimp only; omega), by first | decide | exact Nat.le_of_ble_eq_true rfl | (dsimp only; omega)⟩) (by rw [hR]; exact ⟨by first | decide | exact Nat.le_of_ble_eq_true rfl | (dsimp only; omega), by first | decide | exact Nat.le_of_ble_eq_true rfl | (dsimp only; omega)⟩) (fun v M hv => ?_)
          obtain ⟨rfl, rfl⟩ := hv
          refine aw_goto X dL_asks_440 (tgt := 449) (by decide) ?_
          refine aw_int (y := wr (spCost τ (nI q))) (by
            rw [spCost, if_pos (hq4.mpr h4)]
            simp only [tD, hix]
            rfl) ?_
          exact K
        · exact absurd (by rw [hni.1 h4, d2]; decide) c2
  refine aw_icmpne X dL_asks_449 (tgt := 493) (by decide) (fun c9 => by first | exact absurd (rfl) c9 | exact absurd c9 (rfl)) (fun _ => ?_)
  refine aw_aload0 X dL_asks_452 ?_
  refine aw_bipush X dL_asks_453 (v := nI 8) (by decide) ?_
  refine aw_iload10 X dL_asks_455 ?_
  refine aw_iconst X dL_asks_457 (v := nI 0) (by decide) ?_
  refine aw_callSH X hN (w_alarms hfl hs) kL_181 dL_asks_458 rfl rfl (by first | decide | exact Nat.le_of_ble_eq_true rfl) (by rw [hR]; exact ⟨by first | decide | exact Nat.le_of_ble_eq_true rfl | (dsimp only; omega), by first | decide | exact Nat.le_of_ble_eq_true rfl | (dsimp only; omega)⟩) (by rw [hR]; exact ⟨by first | decide | exact Nat.le_of_ble_eq_true rfl | (dsimp only; omega), by first | decide | exact Nat.le_of_ble_eq_true rfl | (dsimp only; omega)⟩) (fun v M hv => ?_)
  obtain ⟨rfl, hs1, hk1⟩ := hv
  obtain ⟨hs, hT⟩ := st_told hT hs1 hk1 st_spAlarms
  refine aw_splV (pm := 490) (v := wr (spAlarms τ (nI q))) (fun K => ?_) ?_
  · refine aw_iload11 X dL_asks_461 ?_
    refine aw_ifeq X dL_asks_463 (tgt := 488) (by decide) (fun c => ?_) (fun c => ?_)
    · refine aw_bipush X dL_asks_488 (v := -101) (by decide) ?_
      refine aw_int (y := wr (spAlarms τ (nI q))) (by rw [spAlarms, if_neg (fun h => am_bz.mp c (hq4.mp h))]; rfl) ?_
      exact K
    · have h4 := am_bn.mp c
      refine aw_aload9 X dL_asks_466 ?_
      refine aw_iload10 X dL_asks_468 ?_
      refine aw_iald X dL_asks_470 (hT.at 8 (by decide)) rfl (show q < 8 by omega) (by decide) ?_
      rcases hdl h4 with ⟨d1, d2, d3⟩ | ⟨d1, d2, d3, d4⟩
      · have hl16 := d2.2.1
        refine aw_int d3.1 ?_
        refine aw_ifge X dL_asks_471 (tgt := 478) (by decide) (fun _ => ?_) (fun c9 => by first | exact absurd (nI_pos' (by omega)) c9 | exact absurd c9 (nI_pos' (by omega)))
        refine aw_aload9 X dL_asks_478 ?_
        refine aw_iconst X dL_asks_480 (v := nI 4) (by decide) ?_
        refine aw_iload10 X dL_asks_481 ?_
        refine aw_iadd X dL_asks_483 ?_
        first | with_reducible refine aw_int (nI_add _ _) ?_ | skip
        refine aw_iald X dL_asks_484 (hT.at 8 (by decide)) rfl (show 4 + q < 8 by omega) (by decide) ?_
        refine aw_goto X dL_asks_485 (tgt := 490) (by decide) ?_
        refine aw_int (y := wr (spAlarms τ (nI q))) (by
          rw [spAlarms, if_pos (hq4.mpr h4)]
          simp only [tD, hix]
          exact d3.2.1) ?_
        exact K
      · refine aw_int d4 ?_
        refine aw_ifge X dL_asks_471 (tgt := 478) (by decide) (fun c9 => by first | exact absurd ((by decide : ¬ (0 : Int32) ≤ -1)) c9 | exact absurd c9 ((by decide : ¬ (0 : Int32) ≤ -1))) (fun _ => ?_)
        refine aw_iconst X dL_asks_474 (v := nI 0) (by decide) ?_
        refine aw_goto X dL_asks_475 (tgt := 490) (by decide) ?_
        refine aw_int (y := wr (spAlarms τ (nI q))) (by
          rw [spAlarms, if_pos (hq4.mpr h4)]
          simp only [tD, hix, d3]
          rfl) ?_
        exact K
  refine aw_icmpeq X dL_asks_490 (tgt := 495) (by decide) (fun _ => ?_) (fun c9 => by first | exact absurd (rfl) c9 | exact absurd c9 (rfl))
  refine aw_widen (k' := 11) (n' := 66) (Nat.le_of_ble_eq_true rfl) (Nat.le_of_ble_eq_true rfl) ?_
  exact as_loop X hn hR hr hN hfl hq hL hs hT
