theorem behI_some (o : Option Nat) (k : Nat) (h : o = some k) : behI o = nI k := by rw [h]; rfl
theorem b2i_0 {b : Bool} : b2i b = 0 ↔ b = false := by
  cases b
  · exact ⟨fun _ => rfl, fun _ => rfl⟩
  · exact ⟨fun h => absurd h (by decide), fun h => by cases h⟩
/-- how many alarms a step adds -/
def alW (s : SG) (bs : List Int32) (p w : Nat) (beh : Option Nat) : Nat := if fnd (qP s bs p w) (sgN s) beh = none ∧ anyB (qW s bs p w) (sgN s) = true then 1 else 0
theorem c_X2_matchingBlock {l : Launch} {G : AG} {M : AM} {d g p w : Nat} {s : SG} {mk : Bool} {ins : List IN} {al : Nat} {cm : List Int32} {beh : Option Nat} (h : isDW G M d mk ins al cm (behI beh)) (hs : isSig G M g s) (hd : g + 3 ≤ d ∨ d + 6 ≤ g) (hp : p + w ≤ cm.length) (hw : 0 < w) (hb : ∀ k, beh = some k → k < 2 ^ 31) : Cn l G yX2_matchingBlock cX2_matchingBlock 10 (some .int) rX2_matchingBlock M [.ref d, .ref g, .int (nI p), .int (nI w)] (fun v M' => isDW G M' d mk ins (al + alW s cm p w beh) cm (behI beh) ∧ am_out M M' d (d + 4) ∧ v = some (.int (behI (fnd (qP s cm p w) (sgN s) beh)))) := by
  obtain ⟨fc, fa, fz, h1, h2, h3, h4, h5, h6, h7⟩ := id h
  obtain ⟨⟨v1, v2, v3, v4, v5⟩, fw, fs, s1, s2, s3, s4⟩ := id hs
  have hcm := h5.le
  obtain ⟨f5, r1, -⟩ := id h5
  have hN : sgN s ≤ 120 := Nat.le_trans (nb_leN v1) v5
  refine Cn.of (by decide) [some (.ref d), some (.ref g), some (.int (nI p)), some (.int (nI w)), none, none, none, none, none, none] rfl (Nat.le_of_ble_eq_true rfl) ?_
  intro Z hZ
  obtain ⟨rfl, hn, rfl, hR, X, hr, hnm⟩ := hZ
  refine aw_aload0 X dX2_matchingBlock_0 ?_
  refine aw_get X fX2_25 dX2_matchingBlock_1 (h1) rfl ?_
  refine aw_iload2 X dX2_matchingBlock_4 ?_
  refine aw_iload3 X dX2_matchingBlock_5 ?_
  refine aw_aload1 X dX2_matchingBlock_6 ?_
  refine aw_get X fX2_81 dX2_matchingBlock_7 (s1) rfl ?_
  refine aw_callV X (c_X4_weakSum h5 hp v3 (by omega)) kX2_84 (ci := 5) rfl (r1) dX2_matchingBlock_10 rfl rfl (by first | decide | exact Nat.le_of_ble_eq_true rfl) (by rw [hR]; exact ⟨by first | decide | exact Nat.le_of_ble_eq_true rfl | (dsimp only; omega), by first | decide | exact Nat.le_of_ble_eq_true rfl | (dsimp only; omega)⟩) (by rw [hR]; exact ⟨by first | decide | exact Nat.le_of_ble_eq_true rfl | (dsimp only; omega), by first | decide | exact Nat.le_of_ble_eq_true rfl | (dsimp only; omega)⟩) (fun v M2 hv => ?_)
  obtain ⟨rfl, rfl⟩ := hv
  refine aw_istore4 X dX2_matchingBlock_13 (by rw [hn]; decide) rfl ?_
  refine aw_aload0 X dX2_matchingBlock_15 ?_
  refine aw_get X fX2_25 dX2_matchingBlock_16 (h1) rfl ?_
  refine aw_iload2 X dX2_matchingBlock_19 ?_
  refine aw_iload3 X dX2_matchingBlock_20 ?_
  refine aw_callV X (c_X4_strongSum h5 hp hw) kX2_88 (ci := 5) rfl (r1) dX2_matchingBlock_21 rfl rfl (by first | decide | exact Nat.le_of_ble_eq_true rfl) (by rw [hR]; exact ⟨by first | decide | exact Nat.le_of_ble_eq_true rfl | (dsimp only; omega), by first | decide | exact Nat.le_of_ble_eq_true rfl | (dsimp only; omega)⟩) (by rw [hR]; exact ⟨by first | decide | exact Nat.le_of_ble_eq_true rfl | (dsimp only; omega), by first | decide | exact Nat.le_of_ble_eq_true rfl | (dsimp only; omega)⟩) (fun v M3 hv => ?_)
  obtain ⟨rfl, rfl⟩ := hv
  refine aw_lstore5 X dX2_matchingBlock_24 (by rw [hn]; decide) rfl ?_
  refine aw_iconst X dX2_matchingBlock_26 (v := -1) (by decide) ?_
  refine aw_int (show (-1 : Int32) = behI (lowest (qP s cm p w) 0) by rw [lowest]; rfl) ?_
  refine aw_istore7 X dX2_matchingBlock_27 (by rw [hn]; decide) rfl ?_
  refine aw_iconst X dX2_matchingBlock_29 (v := nI 0) (by decide) ?_
  refine aw_int (show nI 0 = b2i (anyB (qW s cm p w) 0) by rw [anyB]; rfl) ?_
  refine aw_istore8 X dX2_matchingBlock_30 (by rw [hn]; decide) rfl ?_
  refine aw_iconst X dX2_matchingBlock_32 (v := nI 0) (by decide) ?_
  refine aw_istore9 X dX2_matchingBlock_33 (by rw [hn]; decide) rfl ?_
  refine aw_loopM (fun (k : Nat) M1 => k ≤ sgN s ∧ M1 = M3 ∧ ∀ b, beh = some b → b < k → qP s cm p w b = false) (fun k => sgN s - k) (fun k => [some (.ref d), some (.ref g), some (.int (nI p)), some (.int (nI w)), some (.int (wk cm p w s.2.2.1)), some (.long (sg cm p w)), none, some (.int (behI (lowest (qP s cm p w) k))), some (.int (b2i (anyB (qW s cm p w) k))), some (.int (nI k))]) ?_ 0 ⟨Nat.zero_le _, rfl, fun b _ hk => absurd hk (Nat.not_lt_zero _)⟩
  rintro k M1 ⟨hk, rfl, hnb⟩ ih
  have hlow : ∀ j, lowest (qP s cm p w) k = some j → j < 2 ^ 31 := fun j hj => by have := (lowest_some hj).1; omega
  refine aw_iload9 X dX2_matchingBlock_35 ?_
  refine aw_aload1 X dX2_matchingBlock_37 ?_
  refine aw_get X fX2_92 dX2_matchingBlock_38 (s1) rfl ?_
  refine aw_icmpge X dX2_matchingBlock_41 (tgt := 115) (by decide) (fun c => ?_) (fun c => ?_)
  · have e : k = sgN s := by have := (nI_leI (by omega) (by omega)).mp c; omega
    subst e
    have hf : fnd (qP s cm p w) (sgN s) beh = lowest (qP s cm p w) (sgN s) := fnd_low hnb
    have keep : alW s cm p w beh = 0 → AW Z (am_Q Z (fun v M' => isDW (zG Z) M' d mk ins (al + alW s cm p w beh) cm (behI beh) ∧ am_out M1 M' d (d + 4) ∧ v = some (.int (behI (fnd (qP s cm p w) (sgN s) beh)))) (fun _ _ => False) rX2_matchingBlock.cells rX2_matchingBlock.slots) M1 0 0 136 [some (.ref d), some (.ref g), some (.int (nI p)), some (.int (nI w)), some (.int (wk cm p w s.2.2.1)), some (.long (sg cm p w)), none, some (.int (behI (lowest (qP s cm p w) (sgN s)))), some (.int (b2i (anyB (qW s cm p w) (sgN s)))), some (.int (nI (sgN s)))] [] := by
      intro e0
      refine aw_iload7 X dX2_matchingBlock_136 ?_
      refine aw_ireturn X (ty := .int) hr (by first | rfl | decide | assumption) dX2_matchingBlock_138 (?_)
      rw [e0, hf]
      exact ⟨h, am_out.rf, rfl⟩
    refine aw_iload8 X dX2_matchingBlock_115 ?_
    refine aw_ifeq X dX2_matchingBlock_117 (tgt := 136) (by decide) (fun c2 => ?_) (fun c2 => ?_)
    · refine keep ?_
      rw [alW, if_neg]
      rintro ⟨-, q⟩
      rw [q] at c2
      exact absurd c2 (by decide)
    · have hany : anyB (qW s cm p w) (sgN s) = true := by
        cases hx : anyB (qW s cm p w) (sgN s) with
        | true => rfl
        | false => rw [hx] at c2; exact absurd rfl c2
      refine aw_iload7 X dX2_matchingBlock_120 ?_
      refine aw_iconst X dX2_matchingBlock_122 (v := -1) (by decide) ?_
      refine aw_icmpne X dX2_matchingBlock_123 (tgt := 136) (by decide) (fun c3 => ?_) (fun c3 => ?_)
      · refine keep ?_
        rw [alW, if_neg]
        rintro ⟨q, -⟩
        rw [hf] at q
        exact c3 (by rw [q]; rfl)
      · have hno : lowest (qP s cm p w) (sgN s) = none := (behI_none hlow).mp c3
        refine aw_aload0 X dX2_matchingBlock_126 ?_
        refine aw_dup X dX2_matchingBlock_127 rfl ?_
        refine aw_get X fX2_40 dX2_matchingBlock_128 (h1) rfl ?_
        refine aw_iconst X dX2_matchingBlock_131 (v := nI 1) (by decide) ?_
        refine aw_iadd X dX2_matchingBlock_132 ?_
        first | with_reducible refine aw_int (nI_add _ _) ?_ | skip
        refine aw_put6 X pX2_40 dX2_matchingBlock_133 (h1) rfl rfl ?_
        refine aw_iload7 X dX2_matchingBlock_136 ?_
        refine aw_ireturn X (ty := .int) hr (by first | rfl | decide | assumption) dX2_matchingBlock_138 (?_)
        have e1 : alW s cm p w beh = 1 := by rw [alW, if_pos ⟨by rw [hf]; exact hno, hany⟩]
        rw [e1, hf]
        refine ⟨⟨fc, fa, fz, am_us, am_k h2 (by omega), am_k h3 (by omega), am_k h4 (by omega), ?_, h6, h7⟩, am_out.up (by omega) (by omega), rfl⟩
        obtain ⟨f, q1, q2, q3⟩ := h5
        exact ⟨f, am_k q1 (by omega), am_k q2 (by omega), q3⟩
  · have hlt : k < sgN s := by
      rcases Nat.lt_or_ge k (sgN s) with q | q
      · exact q
      · exact absurd (nI_le q (by omega)) c
    obtain ⟨e1, e2⟩ := s4 k hlt
    have hsl : sgL s k ≤ 7 := Nat.le_trans (Nat.min_le_left _ _) v2
    have next : qP s cm p w k = false → AW Z (am_Q Z (fun v M' => isDW (zG Z) M' d mk ins (al + alW s cm p w beh) cm (behI beh) ∧ am_out M1 M' d (d + 4) ∧ v = some (.int (behI (fnd (qP s cm p w) (sgN s) beh)))) (fun _ _ => False) rX2_matchingBlock.cells rX2_matchingBlock.slots) M1 0 0 109 [some (.ref d), some (.ref g), some (.int (nI p)), some (.int (nI w)), some (.int (wk cm p w s.2.2.1)), some (.long (sg cm p w)), none, some (.int (behI (lowest (qP s cm p w) k))), some (.int (b2i (anyB (qW s cm p w) (k + 1)))), some (.int (nI k))] [] := by
      intro hP
      refine aw_iinc9 X dX2_matchingBlock_109 (by rw [hn]; decide) (am_inc _ 1) rfl ?_
      refine aw_goto X dX2_matchingBlock_112 (tgt := 35) (by decide) ?_
      have el : lowest (qP s cm p w) (k + 1) = lowest (qP s cm p w) k := by
        rw [lowest, hP]
        cases lowest (qP s cm p w) k <;> rfl
      have q := ih (k + 1) M1 ⟨by omega, rfl, fun b hb1 hb2 => by
        by_cases e : b = k
        · rw [e]; exact hP
        · exact hnb b hb1 (by omega)⟩ (by omega)
      rw [el] at q
      exact q
    have nextW : qW s cm p w k = false → anyB (qW s cm p w) (k + 1) = anyB (qW s cm p w) k := fun q => by rw [anyB, q, Bool.or_false]
    refine aw_aload1 X dX2_matchingBlock_44 ?_
    refine aw_iload9 X dX2_matchingBlock_45 ?_
    refine aw_callV X (c_X6_sizeOfBlock hs hlt) kX2_93 (ci := 7) rfl (s1) dX2_matchingBlock_47 rfl rfl (by first | decide | exact Nat.le_of_ble_eq_true rfl) (by rw [hR]; exact ⟨by first | decide | exact Nat.le_of_ble_eq_true rfl | (dsimp only; omega), by first | decide | exact Nat.le_of_ble_eq_true rfl | (dsimp only; omega)⟩) (by rw [hR]; exact ⟨by first | decide | exact Nat.le_of_ble_eq_true rfl | (dsimp only; omega), by first | decide | exact Nat.le_of_ble_eq_true rfl | (dsimp only; omega)⟩) (fun v M2 hv => ?_)
    obtain ⟨rfl, rfl⟩ := hv
    refine aw_iload3 X dX2_matchingBlock_50 ?_
    refine aw_icmpne X dX2_matchingBlock_51 (tgt := 109) (by decide) (fun c2 => ?_) (fun c2 => ?_)
    · have e3 : sgL s k ≠ w := fun q => c2 (by rw [q])
      have e4 : qW s cm p w k = false := by simp [qW, e3]
      have q := next (by simp [qP, e4])
      rw [nextW e4] at q
      exact q
    · have e3 : sgL s k = w := (nI_eq (by omega) (by omega)).mp c2
      refine aw_aload1 X dX2_matchingBlock_54 ?_
      refine aw_get X fX2_96 dX2_matchingBlock_55 (s1) rfl ?_
      refine aw_iload9 X dX2_matchingBlock_58 ?_
      refine aw_iald X dX2_matchingBlock_60 s2 rfl (by omega) (by decide) ?_
      refine aw_iload4 X dX2_matchingBlock_61 ?_
      refine aw_icmpne X dX2_matchingBlock_63 (tgt := 109) (by decide) (fun c3 => ?_) (fun c3 => ?_)
      · have e4 : qW s cm p w k = false := by
          simp only [qW, e3, decide_true, Bool.true_and, decide_eq_false_iff_not]
          intro q
          exact c3 (by rw [e1, q])
        have q := next (by simp [qP, e4])
        rw [nextW e4] at q
        exact q
      · have e4 : qW s cm p w k = true := by
          simp only [qW, e3, decide_true, Bool.true_and, decide_eq_true_eq]
          rw [← e1]
          exact c3
        have e5 : anyB (qW s cm p w) (k + 1) = true := by rw [anyB, e4, Bool.or_true]
        refine aw_iconst X dX2_matchingBlock_66 (v := nI 1) (by decide) ?_
        refine aw_istore8 X dX2_matchingBlock_67 (by rw [hn]; decide) rfl ?_
        refine aw_aload1 X dX2_matchingBlock_69 ?_
        refine aw_get X fX2_99 dX2_matchingBlock_70 (s1) rfl ?_
        refine aw_iload9 X dX2_matchingBlock_73 ?_
        refine aw_lald X dX2_matchingBlock_75 s3 rfl (by omega) (by decide) ?_
        refine aw_lload5 X dX2_matchingBlock_76 ?_
        refine aw_lcmp X dX2_matchingBlock_78 ?_
        refine aw_ifne X dX2_matchingBlock_79 (tgt := 109) (by decide) (fun c4 => ?_) (fun c4 => ?_)
        · have e6 : qP s cm p w k = false := by
            simp only [qP, e4, Bool.true_and, decide_eq_false_iff_not]
            intro q
            exact c4 ((lg_cmp_eq _ _).mpr (by rw [e2, q]))
          have q := next e6
          rw [e5] at q
          exact q
        · have e6 : qP s cm p w k = true := by
            simp only [qP, e4, Bool.true_and, decide_eq_true_eq]
            rw [← e2]
            exact (lg_cmp_eq _ _).mp c4
          refine aw_iload9 X dX2_matchingBlock_82 ?_
          refine aw_aload0 X dX2_matchingBlock_84 ?_
          refine aw_get X fX2_29 dX2_matchingBlock_85 (h1) rfl ?_
          refine aw_icmpne X dX2_matchingBlock_88 (tgt := 94) (by decide) (fun c5 => ?_) (fun c5 => ?_)
          · have hbk : beh ≠ some k := fun q => c5 ((behI_eq hb (by omega)).mpr q)
            refine aw_iload7 X dX2_matchingBlock_94 ?_
            refine aw_iconst X dX2_matchingBlock_96 (v := -1) (by decide) ?_
            have q := ih (k + 1) M2 ⟨by omega, rfl, fun b hb1 hb2 => hnb b hb1 (by
              have : b ≠ k := fun q => hbk (by rw [← q]; exact hb1)
              omega)⟩ (by omega)
            rw [e5] at q
            refine aw_icmpne X dX2_matchingBlock_97 (tgt := 105) (by decide) (fun c6 => ?_) (fun c6 => ?_)
            · refine aw_iload7 X dX2_matchingBlock_105 ?_
              refine aw_istore7 X dX2_matchingBlock_107 (by rw [hn]; decide) rfl ?_
              refine aw_iinc9 X dX2_matchingBlock_109 (by rw [hn]; decide) (am_inc _ 1) rfl ?_
              refine aw_goto X dX2_matchingBlock_112 (tgt := 35) (by decide) ?_
              have el : lowest (qP s cm p w) (k + 1) = lowest (qP s cm p w) k := by
                rw [lowest]
                cases hx : lowest (qP s cm p w) k with
                | none => rw [hx] at c6; exact absurd rfl c6
                | some j => rfl
              rw [el] at q
              exact q
            · have hno : lowest (qP s cm p w) k = none := (behI_none hlow).mp c6
              refine aw_iload9 X dX2_matchingBlock_100 ?_
              refine aw_goto X dX2_matchingBlock_102 (tgt := 107) (by decide) ?_
              refine aw_istore7 X dX2_matchingBlock_107 (by rw [hn]; decide) rfl ?_
              refine aw_iinc9 X dX2_matchingBlock_109 (by rw [hn]; decide) (am_inc _ 1) rfl ?_
              refine aw_goto X dX2_matchingBlock_112 (tgt := 35) (by decide) ?_
              have el : lowest (qP s cm p w) (k + 1) = some k := by
                rw [lowest, hno, e6]
                rfl
              rw [el] at q
              exact q
          · have hbk : beh = some k := (behI_eq hb (by omega)).mp c5
            refine aw_iload9 X dX2_matchingBlock_91 ?_
            refine aw_ireturn X (ty := .int) hr (by first | rfl | decide | assumption) dX2_matchingBlock_93 (?_)
            have ef : fnd (qP s cm p w) (sgN s) beh = some k := by
              rw [hbk]
              exact fnd_beh hlt e6
            rw [ef]
            refine ⟨?_, am_out.rf, rfl⟩
            have e7 : alW s cm p w beh = 0 := by
              rw [alW, if_neg]
              rintro ⟨q, -⟩
              rw [ef] at q
              cases q
            rw [e7]
            exact h
