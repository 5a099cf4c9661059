abbrev apP (τ : TS) (d a b : Int32) : Prop := inI d 4 ∧ isF τ a ∧ isF τ b
abbrev apT (τ : TS) (d a : Int32) : Prop := (tD τ d).1 = true ∧ fitB (tD τ d).2.1 (tF τ a).length = true
theorem spApply_no {τ : TS} {d a b : Int32} (h : ¬ (apP τ d a b ∧ (apP τ d a b ∧ apT τ d a))) : spApply τ d a b = (thB (apP τ d a b) (apP τ d a b ∧ apT τ d a), 0, τ) := by
  by_cases h1 : apP τ d a b
  · have h2 : ¬ apT τ d a := fun e => h ⟨h1, h1, e⟩
    rw [spApply, thB, if_pos h1, if_neg h2, if_pos h1, if_neg (fun e => h2 e.2)]
  · rw [spApply, thB, if_neg h1, if_neg h1]
theorem c_X9_apply {l : Launch} {G : AG} {M0 M : AM} {y t : Nat} {τ : TS} {d a b : Int32} (hm : isMD G M0 M y τ t) : Cn l G yX9_apply cX9_apply 5 (some .int) rX9_apply M [.ref y, .int d, .int a, .int b] (MP Value.int G M y (spApply τ d a b)) := by
  obtain ⟨A, S, c, h0, hr0, -⟩ := hm
  have h := h0.base
  obtain ⟨⟨q0, q1⟩, q2, q3, q4, -⟩ := id hr0
  refine Cn.of (by decide) [some (.ref y), some (.int d), some (.int a), some (.int b), none] rfl (Nat.le_of_ble_eq_true rfl) ?_
  intro Z hZ
  obtain ⟨rfl, hn, rfl, hR, X, hr, hnm⟩ := hZ
  refine aw_merge (apP τ d a b) 28 [some (.ref y), some (.int d), some (.int a), some (.int b), none] [] ?_ (fun K => ?_)
  · refine aw_istore4 X dX9_apply_28 (by rw [hn]; decide) rfl ?_
    refine aw_iload4 X dX9_apply_30 ?_
    refine aw_ifeq X dX9_apply_32 (tgt := 40) (by decide) (fun c1 => ?_) (fun c1 => ?_)
    · have hp := am_bz.mp c1
      have hno : ¬ (apP τ d a b ∧ (apP τ d a b ∧ apT τ d a)) := fun e => hp e.1
      refine aw_aload0 X dX9_apply_40 ?_
      refine aw_iload4 X dX9_apply_41 ?_
      refine aw_iload4 X dX9_apply_43 ?_
      refine aw_ifeq X dX9_apply_45 (tgt := 69) (by decide) (fun _ => ?_) (fun c9 => by first | exact absurd (c1) c9 | exact absurd c9 (c1))
      refine aw_iconst X dX9_apply_69 (v := nI 0) (by decide) ?_
      refine aw_int (x := nI 0) (y := am_b (apP τ d a b ∧ apT τ d a)) (am_b0 (fun e => hp e.1)).symm ?_
      refine aw_callV X (c_X9_mayBoth h) kX9_121 (ci := 10) rfl (h.at) dX9_apply_70 rfl rfl (by first | decide | exact Nat.le_of_ble_eq_true rfl) (by rw [hR]; exact ⟨by first | decide | exact Nat.le_of_ble_eq_true rfl | (dsimp only; omega), by first | decide | exact Nat.le_of_ble_eq_true rfl | (dsimp only; omega)⟩) (by rw [hR]; exact ⟨by first | decide | exact Nat.le_of_ble_eq_true rfl | (dsimp only; omega), by first | decide | exact Nat.le_of_ble_eq_true rfl | (dsimp only; omega)⟩) (fun o M2 hv => ?_)
      obtain ⟨rfl, h1⟩ := hv
      refine aw_ifne X dX9_apply_73 (tgt := 78) (by decide) (fun c9 => by first | exact absurd ((am_bz.mpr hno)) c9 | exact absurd c9 ((am_bz.mpr hno))) (fun _ => ?_)
      refine aw_iconst X dX9_apply_76 (v := nI 0) (by decide) ?_
      refine aw_ireturn X (ty := .int) hr (by first | rfl | decide | assumption) dX9_apply_77 (MP.of (spApply_no hno) h1 hr0.t (va_up_self _ _ _))
    · have hp : apP τ d a b := Decidable.byContradiction (fun e => c1 (am_bz.mpr e))
      obtain ⟨j1, j2, j3⟩ := inI_j hp.1 (by omega)
      obtain ⟨k1, k2, k3⟩ := inI_j hp.2.1 (by omega)
      obtain ⟨m1, m2, m3⟩ := inI_j hp.2.2 (by omega)
      have hw : (tF τ a).length ≤ 120 := (q2 (ix a) (by omega)).1
      have hD := q4 (ix d) j1
      refine aw_aload0 X dX9_apply_35 ?_
      refine aw_iload2 X dX9_apply_36 ?_
      refine aw_callV X (c_X9_bring h k2 (by omega) (q2 (ix a) (by omega))) kX9_145 (ci := 10) rfl (h.at) dX9_apply_37 rfl rfl (by first | decide | exact Nat.le_of_ble_eq_true rfl) (by rw [hR]; exact ⟨by first | decide | exact Nat.le_of_ble_eq_true rfl | (dsimp only; omega), by first | decide | exact Nat.le_of_ble_eq_true rfl | (dsimp only; omega)⟩) (by rw [hR]; exact ⟨by first | decide | exact Nat.le_of_ble_eq_true rfl | (dsimp only; omega), by first | decide | exact Nat.le_of_ble_eq_true rfl | (dsimp only; omega)⟩) (fun o M2 hv => ?_)
      obtain ⟨rfl, gg, h1, hgg⟩ := hv
      have hD1 : dlRel (va_up A 21 gg) (ix d) (tD τ d) := hD.cg (fun a x1 x2 => va_up_ne _ _ (by omega))
      refine aw_aload0 X dX9_apply_40 ?_
      refine aw_iload4 X dX9_apply_41 ?_
      refine aw_iload4 X dX9_apply_43 ?_
      refine aw_ifeq X dX9_apply_45 (tgt := 69) (by decide) (fun c9 => by first | exact absurd (c1) c9 | exact absurd c9 (c1)) (fun _ => ?_)
      refine aw_merge (apP τ d a b ∧ apT τ d a) 70 [some (.ref y), some (.int d), some (.int a), some (.int b), some (.int (am_b (apP τ d a b)))] [.int (am_b (apP τ d a b)), .ref y] ?_ (fun K2 => ?_)
      · refine aw_callV X (c_X9_mayBoth h1) kX9_121 (ci := 10) rfl (h1.at) dX9_apply_70 rfl rfl (by first | decide | exact Nat.le_of_ble_eq_true rfl) (by rw [hR]; exact ⟨by first | decide | exact Nat.le_of_ble_eq_true rfl | (dsimp only; omega), by first | decide | exact Nat.le_of_ble_eq_true rfl | (dsimp only; omega)⟩) (by rw [hR]; exact ⟨by first | decide | exact Nat.le_of_ble_eq_true rfl | (dsimp only; omega), by first | decide | exact Nat.le_of_ble_eq_true rfl | (dsimp only; omega)⟩) (fun o M3 hv => ?_)
        obtain ⟨rfl, h2⟩ := hv
        refine aw_ifne X dX9_apply_73 (tgt := 78) (by decide) (fun c2 => ?_) (fun c2 => ?_)
        · have hp2 : apP τ d a b ∧ (apP τ d a b ∧ apT τ d a) := Decidable.byContradiction (fun e => c2 (am_bz.mpr e))
          obtain ⟨-, -, t1, t2⟩ := id hp2
          refine aw_aload0 X dX9_apply_78 ?_
          refine aw_iload1 X dX9_apply_79 ?_
          refine aw_int j2 ?_
          refine aw_callV X (c_X9_applies (bb := tF τ a) h2 (by omega) hD1 hw hgg t2) kX9_174 (ci := 10) rfl (h2.at) dX9_apply_80 rfl rfl (by first | decide | exact Nat.le_of_ble_eq_true rfl) (by rw [hR]; exact ⟨by first | decide | exact Nat.le_of_ble_eq_true rfl | (dsimp only; omega), by first | decide | exact Nat.le_of_ble_eq_true rfl | (dsimp only; omega)⟩) (by rw [hR]; exact ⟨by first | decide | exact Nat.le_of_ble_eq_true rfl | (dsimp only; omega), by first | decide | exact Nat.le_of_ble_eq_true rfl | (dsimp only; omega)⟩) (fun o M4 hv => ?_)
          obtain ⟨rfl, B, h3, z1, z2⟩ := hv
          refine aw_aload0 X dX9_apply_83 ?_
          refine aw_iload3 X dX9_apply_84 ?_
          refine aw_callV X (c_X9_give (bs := app (tD τ d).2.1 (tD τ d).2.2.2 (tF τ a)) h3 m2 (by omega) (va_up_self _ _ _) (app_le hD.1 t2) z2) kX9_177 (ci := 10) rfl (h3.at) dX9_apply_85 rfl rfl (by first | decide | exact Nat.le_of_ble_eq_true rfl) (by rw [hR]; exact ⟨by first | decide | exact Nat.le_of_ble_eq_true rfl | (dsimp only; omega), by first | decide | exact Nat.le_of_ble_eq_true rfl | (dsimp only; omega)⟩) (by rw [hR]; exact ⟨by first | decide | exact Nat.le_of_ble_eq_true rfl | (dsimp only; omega), by first | decide | exact Nat.le_of_ble_eq_true rfl | (dsimp only; omega)⟩) (fun o M5 hv => ?_)
          obtain ⟨rfl, B2, h4, y1, y2, y3, y4⟩ := hv
          refine aw_ireturn X (ty := .int) hr (by first | rfl | decide | assumption) dX9_apply_88 (MP.of (k := 0) (by rw [spApply, if_pos hp, if_pos ⟨t1, t2⟩]) h4 (mRel.file (mRel.scr hr0 (fun a x => (z1 a (by omega)).trans (va_up_ne _ _ (by omega))) rfl rfl rfl rfl rfl) y1 y2 y3 y4) (by show nI (thB (apP τ d a b) (apP τ d a b ∧ apT τ d a)) = nI 0; rw [thB, if_pos hp2.1, if_pos hp2.2]))
        · have hno := am_bz.mp c2
          refine aw_iconst X dX9_apply_76 (v := nI 0) (by decide) ?_
          refine aw_ireturn X (ty := .int) hr (by first | rfl | decide | assumption) dX9_apply_77 (MP.of (spApply_no hno) h2 (mRel.scr hr0 (fun a x => va_up_ne _ _ (by omega)) rfl rfl rfl rfl rfl) (va_up_self _ _ _))
      · refine aw_aload0 X dX9_apply_48 ?_
        refine aw_get X fX9_35 dX9_apply_49 (h1.at) rfl ?_
        refine aw_iload1 X dX9_apply_52 ?_
        refine aw_zald X dX9_apply_53 (h1.az 9 rfl) j2 (by omega) (by decide) ?_
        refine aw_int (y := b2i (tD τ d).1) hD.2.1 ?_
        refine aw_ifeq X dX9_apply_54 (tgt := 69) (by decide) (fun c2 => ?_) (fun c2 => ?_)
        · refine aw_iconst X dX9_apply_69 (v := nI 0) (by decide) ?_
          have e2 := b2i_0.mp c2
          exact aw_b0 (fun e => by rw [e.2.1] at e2; cases e2) K2
        · have t1 : (tD τ d).1 = true := by
            cases hx : (tD τ d).1 with
            | true => rfl
            | false => exact absurd (b2i_0.mpr hx) c2
          refine aw_aload0 X dX9_apply_57 ?_
          refine aw_iload1 X dX9_apply_58 ?_
          refine aw_int j2 ?_
          refine aw_callV X (c_X9_goesBeyond h1 (by omega) hD1 (va_up_self _ _ _) hw) kX9_171 (ci := 10) rfl (h1.at) dX9_apply_59 rfl rfl (by first | decide | exact Nat.le_of_ble_eq_true rfl) (by rw [hR]; exact ⟨by first | decide | exact Nat.le_of_ble_eq_true rfl | (dsimp only; omega), by first | decide | exact Nat.le_of_ble_eq_true rfl | (dsimp only; omega)⟩) (by rw [hR]; exact ⟨by first | decide | exact Nat.le_of_ble_eq_true rfl | (dsimp only; omega), by first | decide | exact Nat.le_of_ble_eq_true rfl | (dsimp only; omega)⟩) (fun o M3 hv => ?_)
          obtain ⟨rfl, rfl⟩ := hv
          refine aw_ifne X dX9_apply_62 (tgt := 69) (by decide) (fun c3 => ?_) (fun c3 => ?_)
          · refine aw_iconst X dX9_apply_69 (v := nI 0) (by decide) ?_
            exact aw_b0 (fun e => c3 (am_bz.mpr (fun q => q e.2.2))) K2
          · refine aw_iconst X dX9_apply_65 (v := nI 1) (by decide) ?_
            refine aw_goto X dX9_apply_66 (tgt := 70) (by decide) ?_
            exact aw_b1 ⟨hp, t1, Decidable.not_not.mp (am_bz.mp c3)⟩ K2
  · refine aw_iload1 X dX9_apply_0 ?_
    refine aw_callS X (c_X9_isPlace) kX9_142 dX9_apply_1 rfl rfl (by first | decide | exact Nat.le_of_ble_eq_true rfl) (by rw [hR]; exact ⟨by first | decide | exact Nat.le_of_ble_eq_true rfl | (dsimp only; omega), by first | decide | exact Nat.le_of_ble_eq_true rfl | (dsimp only; omega)⟩) (by rw [hR]; exact ⟨by first | decide | exact Nat.le_of_ble_eq_true rfl | (dsimp only; omega), by first | decide | exact Nat.le_of_ble_eq_true rfl | (dsimp only; omega)⟩) (fun o M1 hv => ?_)
    obtain ⟨rfl, rfl⟩ := hv
    refine aw_ifeq X dX9_apply_4 (tgt := 27) (by decide) (fun c1 => ?_) (fun c1 => ?_)
    · have hp := am_bz.mp c1
      refine aw_iconst X dX9_apply_27 (v := nI 0) (by decide) ?_
      exact aw_b0 (fun e => hp e.1) K
    · have hp : inI d 4 := Decidable.byContradiction (fun e => c1 (am_bz.mpr e))
      refine aw_aload0 X dX9_apply_7 ?_
      refine aw_iload2 X dX9_apply_8 ?_
      refine aw_callV X (c_X9_isFile h q0) kX9_114 (ci := 10) rfl (h.at) dX9_apply_9 rfl rfl (by first | decide | exact Nat.le_of_ble_eq_true rfl) (by rw [hR]; exact ⟨by first | decide | exact Nat.le_of_ble_eq_true rfl | (dsimp only; omega), by first | decide | exact Nat.le_of_ble_eq_true rfl | (dsimp only; omega)⟩) (by rw [hR]; exact ⟨by first | decide | exact Nat.le_of_ble_eq_true rfl | (dsimp only; omega), by first | decide | exact Nat.le_of_ble_eq_true rfl | (dsimp only; omega)⟩) (fun o M1 hv => ?_)
      obtain ⟨rfl, rfl⟩ := hv
      refine aw_ifeq X dX9_apply_12 (tgt := 27) (by decide) (fun c2 => ?_) (fun c2 => ?_)
      · have hp2 := am_bz.mp c2
        refine aw_iconst X dX9_apply_27 (v := nI 0) (by decide) ?_
        exact aw_b0 (fun e => hp2 e.2.1) K
      · have hp2 : isF τ a := Decidable.byContradiction (fun e => c2 (am_bz.mpr e))
        refine aw_aload0 X dX9_apply_15 ?_
        refine aw_iload3 X dX9_apply_16 ?_
        refine aw_callV X (c_X9_isFile h q0) kX9_114 (ci := 10) rfl (h.at) dX9_apply_17 rfl rfl (by first | decide | exact Nat.le_of_ble_eq_true rfl) (by rw [hR]; exact ⟨by first | decide | exact Nat.le_of_ble_eq_true rfl | (dsimp only; omega), by first | decide | exact Nat.le_of_ble_eq_true rfl | (dsimp only; omega)⟩) (by rw [hR]; exact ⟨by first | decide | exact Nat.le_of_ble_eq_true rfl | (dsimp only; omega), by first | decide | exact Nat.le_of_ble_eq_true rfl | (dsimp only; omega)⟩) (fun o M1 hv => ?_)
        obtain ⟨rfl, rfl⟩ := hv
        refine aw_ifeq X dX9_apply_20 (tgt := 27) (by decide) (fun c3 => ?_) (fun c3 => ?_)
        · have hp3 := am_bz.mp c3
          refine aw_iconst X dX9_apply_27 (v := nI 0) (by decide) ?_
          exact aw_b0 (fun e => hp3 e.2.2) K
        · have hp3 : isF τ b := Decidable.byContradiction (fun e => c3 (am_bz.mpr e))
          refine aw_iconst X dX9_apply_23 (v := nI 1) (by decide) ?_
          refine aw_goto X dX9_apply_24 (tgt := 28) (by decide) ?_
          exact aw_b1 (⟨hp, hp2, hp3⟩) K
