theorem c_X9_isVersion {l : Launch} {G : AG} {M0 M : AM} {y nf : Nat} {A : MA} {S : Nat → Int64} {c : Nat → Int32} {f : Int32} (h : md G M0 M y A S c) (h0 : c 16 = nI nf) : Cn l G yX9_isVersion cX9_isVersion 2 (some .boolean) rX9_isVersion M [.ref y, .int f] (fun v M' => M' = M ∧ v = some (.int (am_b (inI f nf)))) := by
  refine Cn.of (by decide) [some (.ref y), some (.int f)] rfl (Nat.le_of_ble_eq_true rfl) ?_
  intro Z hZ
  obtain ⟨rfl, hn, rfl, hR, X, hr, hnm⟩ := hZ
  refine aw_iload1 X dX9_isVersion_0 ?_
  refine aw_iflt X dX9_isVersion_1 (tgt := 16) (by decide) (fun c1 => ?_) (fun c1 => ?_)
  · refine aw_iconst X dX9_isVersion_16 (v := nI 0) (by decide) ?_
    refine aw_ireturn X (ty := .boolean) hr (by first | rfl | decide | assumption) dX9_isVersion_17 (⟨rfl, by rw [am_b0 (fun e => e.1 c1)]⟩)
  · refine aw_iload1 X dX9_isVersion_4 ?_
    refine aw_aload0 X dX9_isVersion_5 ?_
    refine aw_get X fX9_180 dX9_isVersion_6 (h.at) rfl ?_
    refine aw_int h0 ?_
    refine aw_icmpge X dX9_isVersion_9 (tgt := 16) (by decide) (fun c2 => ?_) (fun c2 => ?_)
    · refine aw_iconst X dX9_isVersion_16 (v := nI 0) (by decide) ?_
      refine aw_ireturn X (ty := .boolean) hr (by first | rfl | decide | assumption) dX9_isVersion_17 (⟨rfl, by rw [am_b0 (fun e => Int32.lt_irrefl (Int32.lt_of_lt_of_le e.2 c2))]⟩)
    · refine aw_iconst X dX9_isVersion_12 (v := nI 1) (by decide) ?_
      refine aw_goto X dX9_isVersion_13 (tgt := 17) (by decide) ?_
      refine aw_ireturn X (ty := .boolean) hr (by first | rfl | decide | assumption) dX9_isVersion_17 (⟨rfl, by rw [am_b1 ⟨c1, Int32.not_le.mp c2⟩]⟩)
theorem c_X9_goesBeyond {l : Launch} {G : AG} {M0 M : AM} {y d n : Nat} {A : MA} {S : Nat → Int64} {c : Nat → Int32} {D : DL} (h : md G M0 M y A S c) (hd : d < 24) (hD : dlRel A d D) (hc : c 26 = nI n) (hn : n ≤ 120) : Cn l G yX9_goesBeyond cX9_goesBeyond 3 (some .boolean) rX9_goesBeyond M [.ref y, .int (nI d)] (fun v M' => M' = M ∧ v = some (.int (am_b (¬ fitB D.2.1 n = true)))) := by
  obtain ⟨v0, v1, v2, v3, v4, v5⟩ := hD
  have hl := v0.1
  refine Cn.of (by decide) [some (.ref y), some (.int (nI d)), none] rfl (Nat.le_of_ble_eq_true rfl) ?_
  intro Z hZ
  obtain ⟨rfl, hn, rfl, hR, X, hr, hnm⟩ := hZ
  refine aw_bipush X dX9_goesBeyond_0 (v := nI 120) (by decide) ?_
  refine aw_iload1 X dX9_goesBeyond_2 ?_
  refine aw_imul X dX9_goesBeyond_3 ?_
  first | with_reducible refine aw_int (pk_mul _ _) ?_ | skip
  refine aw_istore2 X dX9_goesBeyond_4 (by rw [hn]; decide) rfl ?_
  refine aw_loop (σ := Nat) (fun i => i ≤ D.2.1.length ∧ ∀ k, k < i → (D.2.1.getD k dI).1 = true → (D.2.1.getD k dI).2.1 + (D.2.1.getD k dI).2.2 ≤ n) (fun i => D.2.1.length - i) (fun _ => M) (fun i => [some (.ref y), some (.int (nI d)), some (.int (nI (120 * d + i)))]) ?_ 0 ⟨Nat.zero_le _, fun k hk => absurd hk (Nat.not_lt_zero _)⟩
  rintro i ⟨hi, hlo⟩ ih
  dsimp only at hi hlo ih ⊢
  refine aw_iload2 X dX9_goesBeyond_5 ?_
  refine aw_bipush X dX9_goesBeyond_6 (v := nI 120) (by decide) ?_
  refine aw_iload1 X dX9_goesBeyond_8 ?_
  refine aw_imul X dX9_goesBeyond_9 ?_
  first | with_reducible refine aw_int (pk_mul _ _) ?_ | skip
  refine aw_aload0 X dX9_goesBeyond_10 ?_
  refine aw_get X fX9_39 dX9_goesBeyond_11 (h.at) rfl ?_
  refine aw_iload1 X dX9_goesBeyond_14 ?_
  refine aw_iald X dX9_goesBeyond_15 (h.ai 10 rfl) rfl (by omega) (by decide) ?_
  refine aw_int v2 ?_
  refine aw_iadd X dX9_goesBeyond_16 ?_
  first | with_reducible refine aw_int (nI_add _ _) ?_ | skip
  refine aw_icmpge X dX9_goesBeyond_17 (tgt := 57) (by decide) (fun c3 => ?_) (fun c3 => ?_)
  · have e : i = D.2.1.length := by have := (nI_leI (by omega) (by omega)).mp c3; omega
    subst e
    refine aw_iconst X dX9_goesBeyond_57 (v := nI 0) (by decide) ?_
    refine aw_ireturn X (ty := .boolean) hr (by first | rfl | decide | assumption) dX9_goesBeyond_58 (⟨rfl, by rw [am_b0 (fun e => e (fitB_all hlo))]⟩)
  · have hlt : i < D.2.1.length := by
      rcases Nat.lt_or_ge i D.2.1.length with q | q
      · exact q
      · exact absurd (nI_le (by omega) (by omega)) c3
    obtain ⟨u1, u2, u3⟩ := v4 i hlt
    have hmem := getD_mem hlt
    have hb1 : (D.2.1.getD i dI).1 = true → (D.2.1.getD i dI).2.1 + (D.2.1.getD i dI).2.2 ≤ 120 := v0.2.2.2.2.1 _ hmem
    have ihn : ((D.2.1.getD i dI).1 = true → (D.2.1.getD i dI).2.1 + (D.2.1.getD i dI).2.2 ≤ n) → ∀ k, k < i + 1 → (D.2.1.getD k dI).1 = true → (D.2.1.getD k dI).2.1 + (D.2.1.getD k dI).2.2 ≤ n := fun hh k hk => by
      by_cases e : k = i
      · subst e
        exact hh
      · exact hlo k (by omega)
    refine aw_aload0 X dX9_goesBeyond_20 ?_
    refine aw_get X fX9_45 dX9_goesBeyond_21 (h.at) rfl ?_
    refine aw_iload2 X dX9_goesBeyond_24 ?_
    refine aw_zald X dX9_goesBeyond_25 (h.az 12 rfl) rfl (by omega) (by decide) ?_
    refine aw_int u1 ?_
    refine aw_ifeq X dX9_goesBeyond_26 (tgt := 51) (by decide) (fun c2 => ?_) (fun c2 => ?_)
    · have e4 := b2i_0.mp c2
      refine aw_iinc2 X dX9_goesBeyond_51 (by rw [hn]; decide) (am_inc _ 1) rfl ?_
      refine aw_goto X dX9_goesBeyond_54 (tgt := 5) (by decide) ?_
      exact ih (i + 1) ⟨hlt, ihn (fun e => by rw [e4] at e; cases e)⟩ (by omega)
    · have e4 : (D.2.1.getD i dI).1 = true := by
        cases hx : (D.2.1.getD i dI).1 with
        | true => rfl
        | false => exact absurd (b2i_0.mpr hx) c2
      have hb2 := hb1 e4
      refine aw_aload0 X dX9_goesBeyond_29 ?_
      refine aw_get X fX9_48 dX9_goesBeyond_30 (h.at) rfl ?_
      refine aw_iload2 X dX9_goesBeyond_33 ?_
      refine aw_iald X dX9_goesBeyond_34 (h.ai 13 rfl) rfl (by omega) (by decide) ?_
      refine aw_int u2 ?_
      refine aw_aload0 X dX9_goesBeyond_35 ?_
      refine aw_get X fX9_51 dX9_goesBeyond_36 (h.at) rfl ?_
      refine aw_iload2 X dX9_goesBeyond_39 ?_
      refine aw_iald X dX9_goesBeyond_40 (h.ai 14 rfl) rfl (by omega) (by decide) ?_
      refine aw_int u3 ?_
      refine aw_iadd X dX9_goesBeyond_41 ?_
      first | with_reducible refine aw_int (nI_add _ _) ?_ | skip
      refine aw_aload0 X dX9_goesBeyond_42 ?_
      refine aw_get X fX9_125 dX9_goesBeyond_43 (h.at) rfl ?_
      refine aw_int hc ?_
      refine aw_icmple X dX9_goesBeyond_46 (tgt := 51) (by decide) (fun c4 => ?_) (fun c4 => ?_)
      · refine aw_iinc2 X dX9_goesBeyond_51 (by rw [hn]; decide) (am_inc _ 1) rfl ?_
        refine aw_goto X dX9_goesBeyond_54 (tgt := 5) (by decide) ?_
        exact ih (i + 1) ⟨hlt, ihn (fun _ => (nI_leI (by omega) (by omega)).mp c4)⟩ (by omega)
      · have hbey : ¬ fitB D.2.1 n = true := fun e => c4 (nI_le (fitB_at e hmem e4) (by omega))
        refine aw_iconst X dX9_goesBeyond_49 (v := nI 1) (by decide) ?_
        refine aw_ireturn X (ty := .boolean) hr (by first | rfl | decide | assumption) dX9_goesBeyond_50 (⟨rfl, by rw [am_b1 hbey]⟩)
