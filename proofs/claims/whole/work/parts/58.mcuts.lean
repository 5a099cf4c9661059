abbrev cutP (a b d : Int32) : Prop := rgI a (nI 1) (nI 16) ∧ rgI b a (nI 40) ∧ rgI d (nI 1) (nI 64)
theorem c_X9_cuts {l : Launch} {G : AG} {M0 M : AM} {y t : Nat} {τ : TS} {a b d : Int32} (hm : isMD G M0 M y τ t) : Cn l G yX9_cuts cX9_cuts 4 none rX9_cuts M [.ref y, .int a, .int b, .int d] (MPv G M y (spCuts τ a b d)) := by
  obtain ⟨A, S, c, h0, hr0, -⟩ := hm
  have h := h0.base
  refine Cn.of (by decide) [some (.ref y), some (.int a), some (.int b), some (.int d)] rfl (Nat.le_of_ble_eq_true rfl) ?_
  intro Z hZ
  obtain ⟨rfl, hn, rfl, hR, X, hr, hnm⟩ := hZ
  refine aw_aload0 X dX9_cuts_0 ?_
  refine aw_merge (cutP a b d) 39 [some (.ref y), some (.int a), some (.int b), some (.int d)] [.ref y] ?_ (fun K => ?_)
  · refine aw_callV X (c_X9_may h) kX9_106 (ci := 10) rfl (h.at) dX9_cuts_39 rfl rfl (by first | decide | exact Nat.le_of_ble_eq_true rfl) (by rw [hR]; exact ⟨by first | decide | exact Nat.le_of_ble_eq_true rfl | (dsimp only; omega), by first | decide | exact Nat.le_of_ble_eq_true rfl | (dsimp only; omega)⟩) (by rw [hR]; exact ⟨by first | decide | exact Nat.le_of_ble_eq_true rfl | (dsimp only; omega), by first | decide | exact Nat.le_of_ble_eq_true rfl | (dsimp only; omega)⟩) (fun v M2 hv => ?_)
    obtain ⟨rfl, h1⟩ := hv
    refine aw_ifeq X dX9_cuts_42 (tgt := 60) (by decide) (fun c1 => ?_) (fun c1 => ?_)
    · have hp := am_bz.mp c1
      refine aw_vreturn X hr dX9_cuts_60 (MPv.of (by rw [spCuts, if_neg hp]) h1 hr0.t (by rw [va_up_self, if_neg hp]))
    · have hp : cutP a b d := Decidable.byContradiction (fun e => c1 (am_bz.mpr e))
      obtain ⟨a1, a2, a3⟩ := rgI_j hp.1 (by omega) (by omega)
      have h2' := hp.2.1
      rw [a3] at h2'
      obtain ⟨b1, b2, b3⟩ := rgI_j h2' (by omega) (by omega)
      obtain ⟨d1, d2, d3⟩ := rgI_j hp.2.2 (by omega) (by omega)
      refine aw_aload0 X dX9_cuts_45 ?_
      refine aw_iload1 X dX9_cuts_46 ?_
      refine aw_mput28 X pX9_78 dX9_cuts_47 h1 (fun M3 h3 => ?_)
      refine aw_aload0 X dX9_cuts_50 ?_
      refine aw_iload2 X dX9_cuts_51 ?_
      refine aw_mput29 X pX9_82 dX9_cuts_52 h3 (fun M4 h4 => ?_)
      refine aw_aload0 X dX9_cuts_55 ?_
      refine aw_iload3 X dX9_cuts_56 ?_
      refine aw_mput30 X pX9_85 dX9_cuts_57 h4 (fun M5 h5 => ?_)
      obtain ⟨r1, r2, r3, r4, r5, r6, r7, r8⟩ := hr0
      refine aw_vreturn X hr dX9_cuts_60 (MPv.of (k := 0) (τ' := (τ.1, τ.2.1, τ.2.2.1, τ.2.2.2.1, (ix a, ix b, ix d), τ.2.2.2.2.2)) (by rw [spCuts, if_pos hp]) h5 ⟨r1, r2, r3, r4, r5, r6, ⟨a3, b3, d3, a1, a2, b1, b2, d1, d2⟩, r8⟩ (by show nI (if cutP a b d then 0 else 1) = nI 0; rw [if_pos hp]))
  · refine aw_iload1 X dX9_cuts_1 ?_
    refine aw_iconst X dX9_cuts_2 (v := nI 1) (by decide) ?_
    refine aw_icmplt X dX9_cuts_3 (tgt := 38) (by decide) (fun c1 => ?_) (fun c1 => ?_)
    · refine aw_iconst X dX9_cuts_38 (v := nI 0) (by decide) ?_
      exact aw_b0 (fun e => e.1.1 c1) K
    · refine aw_iload1 X dX9_cuts_6 ?_
      refine aw_bipush X dX9_cuts_7 (v := nI 16) (by decide) ?_
      refine aw_icmpgt X dX9_cuts_9 (tgt := 38) (by decide) (fun c2 => ?_) (fun c2 => ?_)
      · refine aw_iconst X dX9_cuts_38 (v := nI 0) (by decide) ?_
        exact aw_b0 (fun e => Int32.lt_irrefl (Int32.lt_of_lt_of_le c2 e.1.2)) K
      · refine aw_iload2 X dX9_cuts_12 ?_
        refine aw_iload1 X dX9_cuts_13 ?_
        refine aw_icmplt X dX9_cuts_14 (tgt := 38) (by decide) (fun c3 => ?_) (fun c3 => ?_)
        · refine aw_iconst X dX9_cuts_38 (v := nI 0) (by decide) ?_
          exact aw_b0 (fun e => e.2.1.1 c3) K
        · refine aw_iload2 X dX9_cuts_17 ?_
          refine aw_bipush X dX9_cuts_18 (v := nI 40) (by decide) ?_
          refine aw_icmpgt X dX9_cuts_20 (tgt := 38) (by decide) (fun c4 => ?_) (fun c4 => ?_)
          · refine aw_iconst X dX9_cuts_38 (v := nI 0) (by decide) ?_
            exact aw_b0 (fun e => Int32.lt_irrefl (Int32.lt_of_lt_of_le c4 e.2.1.2)) K
          · refine aw_iload3 X dX9_cuts_23 ?_
            refine aw_iconst X dX9_cuts_24 (v := nI 1) (by decide) ?_
            refine aw_icmplt X dX9_cuts_25 (tgt := 38) (by decide) (fun c5 => ?_) (fun c5 => ?_)
            · refine aw_iconst X dX9_cuts_38 (v := nI 0) (by decide) ?_
              exact aw_b0 (fun e => e.2.2.1 c5) K
            · refine aw_iload3 X dX9_cuts_28 ?_
              refine aw_bipush X dX9_cuts_29 (v := nI 64) (by decide) ?_
              refine aw_icmpgt X dX9_cuts_31 (tgt := 38) (by decide) (fun c6 => ?_) (fun c6 => ?_)
              · refine aw_iconst X dX9_cuts_38 (v := nI 0) (by decide) ?_
                exact aw_b0 (fun e => Int32.lt_irrefl (Int32.lt_of_lt_of_le c6 e.2.2.2)) K
              · refine aw_iconst X dX9_cuts_34 (v := nI 1) (by decide) ?_
                refine aw_goto X dX9_cuts_35 (tgt := 39) (by decide) ?_
                exact aw_b1 (⟨⟨c1, Int32.not_lt.mp c2⟩, ⟨c3, Int32.not_lt.mp c4⟩, c5, Int32.not_lt.mp c6⟩) K
