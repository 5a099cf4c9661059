/-! a version is rebuilt -/
theorem byB_app {ins : List IN} {cm bb : List Int32} (h1 : byB cm) (h2 : byB bb) : byB (app ins cm bb) := by
  intro x hx
  obtain ⟨i, -, hi⟩ := List.mem_flatMap.mp hx
  unfold piece at hi
  have h3 := List.mem_of_mem_drop (List.mem_of_mem_take hi)
  split at h3
  · exact h2 x h3
  · exact h1 x h3
/-- the versions' seven rows, as they stand in a map -/
def vM (G : AG) (M : AM) (q1 q2 q3 q4 q5 q6 q7 : Nat) (vb vp eb ec es em ep : Nat → Int32) : Prop := M.1 q1 = some (am_ai G 64 vb) ∧ M.1 q2 = some (am_ai G 12 vp) ∧ M.1 q3 = some (am_ai G 64 eb) ∧ M.1 q4 = some (am_ai G 64 ec) ∧ M.1 q5 = some (am_ai G 64 es) ∧ M.1 q6 = some (am_ai G 64 em) ∧ M.1 q7 = some (am_ai G 8 ep)
def vsR (vb vp eb ec es em ep : Nat → Int32) (n : Nat) (V : Nat → VK) : Prop := n ≤ 4 ∧ (∀ i b D, i < n → V i = some (.inr (b, D)) → b < i) ∧ ∀ i, i < n → vV (V i) ∧ vR vb vp eb ec es em ep i (V i)
def rbP (r : RB) (g h : Nat → Int32) (o : Option Value) : Prop := (match r with
  | .inl rb => o = some (.int (nI rb.length)) ∧ bR g 0 rb ∧ rb.length ≤ 16 ∧ byB rb
  | .inr _ => o = some (.int (-1))) ∧ h 0 = (rbN r).1 ∧ h 1 = (rbN r).2.1 ∧ h 2 = (rbN r).2.2
theorem vR_kind {vb vp eb ec es em ep : Nat → Int32} {v : Nat} {V : VK} (h : vR vb vp eb ec es em ep v V) : (vp v = nI 2 ∧ isRest V) ∨ (vp v = nI 0 ∧ V = none) ∨ (vp v = nI 1 ∧ ∃ bs, V = some (.inl bs)) := by
  match V, h with
  | none, r0 => exact Or.inr (Or.inl ⟨r0, rfl⟩)
  | some (.inl bs), r => exact Or.inr (Or.inr ⟨r.1, bs, rfl⟩)
  | some (.inr (b, D)), r => exact Or.inl ⟨r.1, b, D, rfl⟩
theorem c_L_rebuild {l : Launch} {G : AG} {M : AM} {q1 q2 q3 q4 q5 q6 q7 q8 q9 v n : Nat} {vb vp eb ec es em ep fo fr : Nat → Int32} {V : Nat → VK} (hM : vM G M q1 q2 q3 q4 q5 q6 q7 vb vp eb ec es em ep) (h8 : M.1 q8 = some (am_ai G 16 fo)) (h9 : M.1 q9 = some (am_ai G 3 fr)) (d8 : q8 ≠ q1 ∧ q8 ≠ q2 ∧ q8 ≠ q3 ∧ q8 ≠ q4 ∧ q8 ≠ q5 ∧ q8 ≠ q6 ∧ q8 ≠ q7) (d9 : q9 ≠ q1 ∧ q9 ≠ q2 ∧ q9 ≠ q3 ∧ q9 ≠ q4 ∧ q9 ≠ q5 ∧ q9 ≠ q6 ∧ q9 ≠ q7 ∧ q9 ≠ q8) (hR0 : vsR vb vp eb ec es em ep n V) (hv : v < n) :
    Cn l G yL_rebuild cL_rebuild 18 (some .int) { rL_rebuild with cells := 1, slots := 16 } M [.int (nI v), .ref q1, .ref q2, .ref q3, .ref q4, .ref q5, .ref q6, .ref q7, .ref q8, .ref q9] (fun o M' => KE M M' (fun q => q = q8 ∨ q = q9) ∧ ∃ g h, M'.1 q8 = some (am_ai G 16 g) ∧ M'.1 q9 = some (am_ai G 3 h) ∧ rbP (rbv V v) g h o) := by
  obtain ⟨m1, m2, m3, m4, m5, m6, m7⟩ := hM
  obtain ⟨hn4, hV, hall⟩ := hR0
  obtain ⟨e1, e2, e3, e4, e5, e6, e7⟩ := d8
  obtain ⟨g1, g2, g3, g4, g5, g6, g7, g8⟩ := d9
  refine Cn.of (by decide) [some (.int (nI v)), some (.ref q1), some (.ref q2), some (.ref q3), some (.ref q4), some (.ref q5), some (.ref q6), some (.ref q7), some (.ref q8), some (.ref q9), none, none, none, none, none, none, none, none] rfl (Nat.le_of_ble_eq_true rfl) ?_
  intro Z hZ
  obtain ⟨rfl, hn, rfl, hR, X, hr, hnm⟩ := hZ
  refine aw_iload0 X dL_rebuild_0 ?_
  refine aw_istore10 X dL_rebuild_1 (by rw [hn]; decide) rfl ?_
  refine aw_iconst X dL_rebuild_3 (v := nI 0) (by decide) ?_
  refine aw_istore11 X dL_rebuild_4 (by rw [hn]; decide) rfl ?_
  refine aw_loop (σ := Nat) (fun j => ∀ i, i < j → isRest (V (pth V v i))) (fun j => v - j) (fun _ => M) (fun j => [some (.int (nI v)), some (.ref q1), some (.ref q2), some (.ref q3), some (.ref q4), some (.ref q5), some (.ref q6), some (.ref q7), some (.ref q8), some (.ref q9), some (.int (nI (pth V v j))), some (.int (nI j)), none, none, none, none, none, none]) ?_ 0 (fun i hi => absurd hi (Nat.not_lt_zero _))
  rintro J hJ ih
  try dsimp only at hJ ih ⊢
  have hle := pth_le hV hv J hJ
  obtain ⟨hw, hr0⟩ := hall (pth V v J) (by omega)
  refine aw_aload2 X dL_rebuild_6 ?_
  refine aw_iload10 X dL_rebuild_7 ?_
  refine aw_iald X dL_rebuild_9 m2 rfl (by omega) (by decide) ?_
  rcases vR_kind hr0 with ⟨k0, k1⟩ | hnot
  · refine aw_int k0 ?_
    refine aw_iconst X dL_rebuild_10 (v := nI 2) (by decide) ?_
    refine aw_icmpne X dL_rebuild_11 (tgt := 28) (by decide) (fun c9 => by first | exact absurd (((rfl : nI 2 = nI 2))) c9 | exact absurd c9 (((rfl : nI 2 = nI 2)))) (fun _ => ?_)
    obtain ⟨b, D, hb⟩ := k1
    have hp : pth V v (J + 1) = b := by rw [pth, hb]
    rw [hb] at hr0
    have hb9 := hV _ b D (by omega) hb
    refine aw_aload2 X dL_rebuild_14 ?_
    refine aw_iconst X dL_rebuild_15 (v := nI 4) (by decide) ?_
    refine aw_iload10 X dL_rebuild_16 ?_
    refine aw_iadd X dL_rebuild_18 ?_
    first | with_reducible refine aw_int (nI_add _ _) ?_ | skip
    refine aw_iald X dL_rebuild_19 m2 rfl (by omega) (by decide) ?_
    refine aw_int (y := nI (pth V v (J + 1))) (by rw [hp]; exact hr0.2.1) ?_
    refine aw_istore10 X dL_rebuild_20 (by rw [hn]; decide) rfl ?_
    refine aw_iinc11 X dL_rebuild_22 (by rw [hn]; decide) (am_inc _ 1) rfl ?_
    refine aw_goto X dL_rebuild_25 (tgt := 6) (by decide) ?_
    exact ih (J + 1) (fun i hi => by
      by_cases e : i = J
      · rw [e]; exact ⟨b, D, hb⟩
      · exact hJ i (by omega)) (by omega)
  · clear ih
    have hne : ¬ vp (pth V v J) = nI 2 := by
      rcases hnot with ⟨q, -⟩ | ⟨q, -⟩
      · rw [q]; decide
      · rw [q]; decide
    refine aw_iconst X dL_rebuild_10 (v := nI 2) (by decide) ?_
    refine aw_icmpne X dL_rebuild_11 (tgt := 28) (by decide) (fun _ => ?_) (fun c9 => by first | exact absurd (hne) c9 | exact absurd c9 (hne))
    refine aw_aload9 X dL_rebuild_28 ?_
    refine aw_iconst X dL_rebuild_30 (v := nI 0) (by decide) ?_
    refine aw_iconst X dL_rebuild_31 (v := -1) (by decide) ?_
    refine aw_iast X dL_rebuild_32 h9 rfl (by decide) (by decide) ?_
    refine aw_aload9 X dL_rebuild_33 ?_
    refine aw_iconst X dL_rebuild_35 (v := nI 1) (by decide) ?_
    refine aw_iconst X dL_rebuild_36 (v := -1) (by decide) ?_
    refine aw_iast X dL_rebuild_37 am_us rfl (by decide) (by decide) ?_
    refine aw_aload9 X dL_rebuild_38 ?_
    refine aw_iconst X dL_rebuild_40 (v := nI 2) (by decide) ?_
    refine aw_iconst X dL_rebuild_41 (v := -1) (by decide) ?_
    refine aw_iast X dL_rebuild_42 am_us rfl (by decide) (by decide) ?_
    rw [am_uu, am_uu]
    obtain ⟨fb, hfb⟩ : ∃ fb, fb = upd (upd (upd fr 0 (-1)) 1 (-1)) 2 (-1) := ⟨_, rfl⟩
    have fb0 : fb 0 = -1 ∧ fb 1 = -1 ∧ fb 2 = -1 := by rw [hfb]; exact ⟨rfl, rfl, rfl⟩
    rw [show (upd (upd (upd fr 0 (-1)) 1 (-1)) 2 (-1)) = fb from hfb.symm]
    have k9 : KE M (am_up M q9 (am_ai (zG Z) 3 fb)) (fun q => q = q9) := KE.up
    have m29 := k9 _ _ m2 g2.symm
    refine aw_aload2 X dL_rebuild_43 ?_
    refine aw_iload10 X dL_rebuild_44 ?_
    refine aw_iald X dL_rebuild_46 m29 rfl (by omega) (by decide) ?_
    rcases hnot with ⟨k0, k1⟩ | ⟨k0, bs0, k1⟩
    · refine aw_int k0 ?_
      refine aw_ifne X dL_rebuild_47 (tgt := 69) (by decide) (fun c9 => by first | exact absurd (((rfl : nI 0 = 0))) c9 | exact absurd c9 (((rfl : nI 0 = 0)))) (fun _ => ?_)
      refine aw_aload9 X dL_rebuild_50 ?_
      refine aw_iconst X dL_rebuild_52 (v := nI 0) (by decide) ?_
      refine aw_iload10 X dL_rebuild_53 ?_
      refine aw_iast X dL_rebuild_55 am_us rfl (by decide) (by decide) ?_
      refine aw_aload9 X dL_rebuild_56 ?_
      refine aw_iconst X dL_rebuild_58 (v := nI 1) (by decide) ?_
      refine aw_iload11 X dL_rebuild_59 ?_
      refine aw_iast X dL_rebuild_61 am_us rfl (by decide) (by decide) ?_
      refine aw_aload9 X dL_rebuild_62 ?_
      refine aw_iconst X dL_rebuild_64 (v := nI 2) (by decide) ?_
      refine aw_iconst X dL_rebuild_65 (v := nI 1) (by decide) ?_
      refine aw_iast X dL_rebuild_66 am_us rfl (by decide) (by decide) ?_
      rw [am_uu, am_uu, am_uu]
      refine aw_iconst X dL_rebuild_67 (v := -1) (by decide) ?_
      refine aw_widen (k' := 1) (n' := 16) (Nat.le_of_ble_eq_true rfl) (Nat.le_of_ble_eq_true rfl) ?_
      have er := rb_lift hV hv J hJ (rbv_none k1)
      refine aw_ireturn X (ty := .int) hr (by first | rfl | decide | assumption) dL_rebuild_68 (⟨KE.up.mono (fun q e => Or.inr e), fo, _, (am_un g8.symm).trans h8, am_us, by rw [er]; exact ⟨rfl, rfl, by rw [Nat.zero_add]; rfl, rfl⟩⟩)
    · refine aw_int k0 ?_
      refine aw_ifne X dL_rebuild_47 (tgt := 69) (by decide) (fun _ => ?_) (fun c9 => by first | exact absurd ((by decide : ¬ nI 1 = 0)) c9 | exact absurd c9 ((by decide : ¬ nI 1 = 0)))
      rw [k1] at hr0 hw
      refine aw_aload2 X dL_rebuild_69 ?_
      refine aw_bipush X dL_rebuild_70 (v := nI 8) (by decide) ?_
      refine aw_iload10 X dL_rebuild_72 ?_
      refine aw_iadd X dL_rebuild_74 ?_
      first | with_reducible refine aw_int (nI_add _ _) ?_ | skip
      refine aw_iald X dL_rebuild_75 m29 rfl (by omega) (by decide) ?_
      refine aw_int hr0.2.1 ?_
      refine aw_istore12 X dL_rebuild_76 (by rw [hn]; decide) rfl ?_
      refine aw_bipush X dL_rebuild_78 (v := nI 16) (by decide) ?_
      refine aw_newI X 16 dL_rebuild_80 rfl (by decide) (by rw [hR]; exact Nat.le_of_ble_eq_true rfl) (by rw [hR]; exact Nat.le_of_ble_eq_true rfl) ac_int (fun e heA hlt he => ?_)
      have kn := k9.tr ((ke_nw (e := am_ai (zG Z) 16 (fun _ => 0)) hlt).mono (fun q (x : False) => x.elim))
      have hex : ∀ q y, M.1 q = some y → q < e := fun q y hq => by
        by_cases e9 : q = q9
        · rw [e9]; exact hlt _ _ am_us
        · exact hlt _ _ ((am_un e9).trans hq)
      obtain ⟨Mn, hMn⟩ : ∃ Mn, Mn = am_nw (am_up M q9 (am_ai (zG Z) 3 fb)) e (am_ai (zG Z) 16 (fun _ => 0)) := ⟨_, rfl⟩
      rw [← hMn] at kn ⊢
      have n9 : Mn.1 q9 = some (am_ai (zG Z) 3 fb) := by rw [hMn, am_nn (Nat.ne_of_lt (hlt q9 _ am_us))]; exact am_us
      have n8 : Mn.1 q8 = some (am_ai (zG Z) 16 fo) := kn _ _ h8 g8.symm
      have ne : Mn.1 e = some (am_ai (zG Z) 16 (fun _ => 0)) := by rw [hMn]; exact am_ns
      have x1 := hex _ _ m1
      have x2 := hex _ _ m2
      have x3 := hex _ _ m3
      have x4 := hex _ _ m4
      have x5 := hex _ _ m5
      have x6 := hex _ _ m6
      have x7 := hex _ _ m7
      have x8 := hex _ _ h8
      have x9 := hex _ _ h9
      refine aw_astore13 X dL_rebuild_82 (by rw [hn]; decide) rfl ?_
      refine aw_iconst X dL_rebuild_84 (v := nI 0) (by decide) ?_
      refine aw_istore14 X dL_rebuild_85 (by rw [hn]; decide) rfl ?_
      refine aw_loopM (fun (i : Nat) M1 => i ≤ bs0.length ∧ ∃ g, KE Mn M1 (fun q => q = e) ∧ M1.1 e = some (am_ai (zG Z) 16 g) ∧ ∀ k, k < i → g k = bs0.getD k 0) (fun i => bs0.length - i) (fun i => [some (.int (nI v)), some (.ref q1), some (.ref q2), some (.ref q3), some (.ref q4), some (.ref q5), some (.ref q6), some (.ref q7), some (.ref q8), some (.ref q9), some (.int (nI (pth V v J))), some (.int (nI J)), some (.int (nI bs0.length)), some (.ref e), some (.int (nI i)), none, none, none]) ?_ 0 ⟨Nat.zero_le _, _, KE.rf, ne, fun k hk => absurd hk (Nat.not_lt_zero _)⟩
      rintro i M1 ⟨hi, g, kk1, n1, hg⟩ ih
      try dsimp only at hi hg ih ⊢
      have y1 := kk1 _ _ (kn _ _ m1 g1.symm) (by omega)
      refine aw_iload14 X dL_rebuild_87 ?_
      refine aw_iload12 X dL_rebuild_89 ?_
      refine aw_icmpge X dL_rebuild_91 (tgt := 115) (by decide) (fun c1 => ?_) (fun c1 => ?_)
      · have e0 : i = bs0.length := by have := (nI_leI (by have := hw.1; omega) (by have := hw.1; omega)).mp c1; omega
        subst e0
        clear ih
        refine aw_iload11 X dL_rebuild_115 ?_
        refine aw_iconst X dL_rebuild_117 (v := nI 1) (by decide) ?_
        refine aw_isub X dL_rebuild_118 ?_
        refine aw_int (am_dn_sub0 J) ?_
        refine aw_istore14 X dL_rebuild_119 (by rw [hn]; decide) rfl ?_
        have hrb0 := rbv_whole k1
        refine aw_loopM (fun (t : Nat × List Int32) M2 => t.1 ≤ J ∧ rbv V (pth V v t.1) = .inl t.2 ∧ t.2.length ≤ 16 ∧ byB t.2 ∧ KE Mn M2 (fun q => q = e ∨ q = q8) ∧ (∃ g, M2.1 e = some (am_ai (zG Z) 16 g) ∧ bR g 0 t.2) ∧ ∃ g, M2.1 q8 = some (am_ai (zG Z) 16 g)) (fun t => t.1) (fun t => [some (.int (nI v)), some (.ref q1), some (.ref q2), some (.ref q3), some (.ref q4), some (.ref q5), some (.ref q6), some (.ref q7), some (.ref q8), some (.ref q9), some (.int (nI (pth V v J))), some (.int (nI J)), some (.int (nI t.2.length)), some (.ref e), some (.int (am_dn t.1)), none, none, none]) ?_ (J, bs0) ⟨Nat.le_refl _, hrb0, hw.1, hw.2, kk1.mono (fun q => Or.inl), ⟨g, n1, fun k hk => by rw [Nat.zero_add]; exact hg k hk⟩, fo, kk1 _ _ n8 (by omega)⟩
        rintro ⟨t, rb⟩ M2 ⟨ht, hrb, hl16, hby, kk2, ⟨ge, z1, z2⟩, ⟨go, z3⟩⟩ ih
        try dsimp only at ht hrb hl16 hby z2 ih ⊢
        have w9 := kk2 _ _ n9 (by omega)
        have w1 := kk2 _ _ (kn _ _ m1 g1.symm) (by omega)
        have w2 := kk2 _ _ (kn _ _ m2 g2.symm) (by omega)
        have w3 := kk2 _ _ (kn _ _ m3 g3.symm) (by omega)
        have w4 := kk2 _ _ (kn _ _ m4 g4.symm) (by omega)
        have w5 := kk2 _ _ (kn _ _ m5 g5.symm) (by omega)
        have w6 := kk2 _ _ (kn _ _ m6 g6.symm) (by omega)
        have w7 := kk2 _ _ (kn _ _ m7 g7.symm) (by omega)
        have kall : KE M M2 (fun q => q = q8 ∨ q = q9) := fun q y hq h => kk2 _ _ (kn q y hq (fun h2 => h (Or.inr h2))) (fun h2 => h2.elim (fun h3 => by have := hex _ _ hq; omega) (fun h3 => h (Or.inl h3)))
        refine aw_iload14 X dL_rebuild_121 ?_
        cases t with
        | zero =>
          clear ih
          refine aw_iflt X dL_rebuild_123 (tgt := 236) (by decide) (fun _ => ?_) (fun c9 => by first | exact absurd (am_dn_neg) c9 | exact absurd c9 (am_dn_neg))
          refine aw_iconst X dL_rebuild_236 (v := nI 0) (by decide) ?_
          refine aw_istore14 X dL_rebuild_237 (by rw [hn]; decide) rfl ?_
          refine aw_loopM (fun (i : Nat) M3 => i ≤ rb.length ∧ ∃ g, KE M2 M3 (fun q => q = q8) ∧ M3.1 q8 = some (am_ai (zG Z) 16 g) ∧ ∀ k, k < i → g k = rb.getD k 0) (fun i => rb.length - i) (fun i => [some (.int (nI v)), some (.ref q1), some (.ref q2), some (.ref q3), some (.ref q4), some (.ref q5), some (.ref q6), some (.ref q7), some (.ref q8), some (.ref q9), some (.int (nI (pth V v J))), some (.int (nI J)), some (.int (nI rb.length)), some (.ref e), some (.int (nI i)), none, none, none]) ?_ 0 ⟨Nat.zero_le _, go, KE.rf, z3, fun k hk => absurd hk (Nat.not_lt_zero _)⟩
          rintro i M3 ⟨hi2, g2', kk3, n3, hg3⟩ ih
          try dsimp only at hi2 hg3 ih ⊢
          refine aw_iload14 X dL_rebuild_239 ?_
          refine aw_iload12 X dL_rebuild_241 ?_
          refine aw_icmpge X dL_rebuild_243 (tgt := 262) (by decide) (fun c2 => ?_) (fun c2 => ?_)
          · have e0 : i = rb.length := by have := (nI_leI (by omega) (by omega)).mp c2; omega
            subst e0
            refine aw_iload12 X dL_rebuild_262 ?_
            have hrb' : rbv V v = .inl rb := hrb
            refine aw_ireturn X (ty := .int) hr (by first | rfl | decide | assumption) dL_rebuild_264 (⟨kall.tr (kk3.mono (fun q => Or.inl)), g2', fb, n3, kk3 _ _ w9 g8, by rw [hrb']; exact ⟨⟨rfl, fun k hk => by rw [Nat.zero_add]; exact hg3 k hk, hl16, hby⟩, fb0⟩⟩)
          · have hlt2 : i < rb.length := by
              rcases Nat.lt_or_ge i rb.length with q | q
              · exact q
              · exact absurd (nI_le q (by omega)) c2
            refine aw_aload8 X dL_rebuild_246 ?_
            refine aw_iload14 X dL_rebuild_248 ?_
            refine aw_aload13 X dL_rebuild_250 ?_
            refine aw_iload14 X dL_rebuild_252 ?_
            refine aw_iald X dL_rebuild_254 (kk3 _ _ z1 (by omega)) rfl (show i < 16 by omega) (by decide) ?_
            refine aw_int (y := rb.getD i 0) (by have := z2 i hlt2; rwa [Nat.zero_add] at this) ?_
            refine aw_iast X dL_rebuild_255 n3 rfl (show i < 16 by omega) (by decide) ?_
            refine aw_iinc14 X dL_rebuild_256 (by rw [hn]; decide) (am_inc _ 1) rfl ?_
            refine aw_goto X dL_rebuild_259 (tgt := 239) (by decide) ?_
            refine ih (i + 1) _ ⟨hlt2, _, kk3.tr KE.up, am_us, fun k hk => ?_⟩ (by omega)
            by_cases e0 : k = i
            · rw [e0, pk_us]
            · rw [pk_un e0]
              exact hg3 k (by omega)
        | succ t =>
          refine aw_iflt X dL_rebuild_123 (tgt := 236) (by decide) (fun c9 => by first | exact absurd (nI_pos (by omega)) c9 | exact absurd c9 (nI_pos (by omega))) (fun _ => ?_)
          refine aw_iload0 X dL_rebuild_126 ?_
          refine aw_istore15 X dL_rebuild_127 (by rw [hn]; decide) rfl ?_
          refine aw_iconst X dL_rebuild_129 (v := nI 0) (by decide) ?_
          refine aw_istore16 X dL_rebuild_130 (by rw [hn]; decide) rfl ?_
          have hJt : ∀ i, i < t → isRest (V (pth V v i)) := fun i hi => hJ i (by omega)
          refine aw_loop (σ := Nat) (fun i => i ≤ t) (fun i => t - i) (fun _ => M2) (fun i => [some (.int (nI v)), some (.ref q1), some (.ref q2), some (.ref q3), some (.ref q4), some (.ref q5), some (.ref q6), some (.ref q7), some (.ref q8), some (.ref q9), some (.int (nI (pth V v J))), some (.int (nI J)), some (.int (nI rb.length)), some (.ref e), some (.int (nI t)), some (.int (nI (pth V v i))), some (.int (nI i)), none]) ?_ 0 (Nat.zero_le _)
          rintro i hi2 ih2
          try dsimp only at hi2 ih2 ⊢
          have hpi := pth_le hV hv i (fun i' hi' => hJ i' (by omega))
          obtain ⟨b, D, hb⟩ := hJ i (by omega)
          have hp : pth V v (i + 1) = b := by rw [pth, hb]
          obtain ⟨hwi, hri⟩ := hall (pth V v i) (by omega)
          rw [hb] at hri hwi
          have hb9 := hV _ b D (by omega) hb
          refine aw_iload16 X dL_rebuild_132 ?_
          refine aw_iload14 X dL_rebuild_134 ?_
          refine aw_icmpge X dL_rebuild_136 (tgt := 153) (by decide) (fun c2 => ?_) (fun c2 => ?_)
          · have e0 : i = t := by have := (nI_leI (by omega) (by omega)).mp c2; omega
            subst e0
            clear ih2
            rw [hp] at hrb
            have hrr := rbv_rest hV (by omega) hb
            rw [hrb] at hrr
            try dsimp only at hrr
            refine aw_aload13 X dL_rebuild_153 ?_
            refine aw_iconst X dL_rebuild_155 (v := nI 0) (by decide) ?_
            refine aw_iload12 X dL_rebuild_156 ?_
            refine aw_aload3 X dL_rebuild_158 ?_
            refine aw_aload4 X dL_rebuild_159 ?_
            refine aw_aload5 X dL_rebuild_161 ?_
            refine aw_aload6 X dL_rebuild_163 ?_
            refine aw_aload7 X dL_rebuild_165 ?_
            refine aw_iload15 X dL_rebuild_167 ?_
            refine aw_aload8 X dL_rebuild_169 ?_
            refine aw_callS X (c_L_apply (D := D) (bb := rb) (a := 0) z1 w3 w4 w5 w6 w7 z3 ⟨by omega, by omega, by omega, by omega, by omega, by omega⟩ (by omega) hwi hri.2.2 z2 (by omega) (by decide)) kL_164 dL_rebuild_171 rfl rfl (by first | decide | exact Nat.le_of_ble_eq_true rfl) (by rw [hR]; exact ⟨by first | decide | exact Nat.le_of_ble_eq_true rfl | (dsimp only; omega), by first | decide | exact Nat.le_of_ble_eq_true rfl | (dsimp only; omega)⟩) (by rw [hR]; exact ⟨by first | decide | exact Nat.le_of_ble_eq_true rfl | (dsimp only; omega), by first | decide | exact Nat.le_of_ble_eq_true rfl | (dsimp only; omega)⟩) (fun o M3 hv3 => ?_)
            have hsz := hwi.1.2.1
            obtain ⟨g', rfl, hap⟩ := hv3
            have k3 : KE M2 (am_up M2 q8 (am_ai (zG Z) 16 g')) (fun q => q = q8) := KE.up
            have z1' := k3 _ _ z1 (by omega)
            have w9' := k3 _ _ w9 g8
            rcases hap with ⟨f1, rfl, f3⟩ | ⟨f1, rfl⟩
            · have hal : (app D.2.1 D.2.2.2 rb).length ≤ 16 := by rw [app_len hwi.1 f1 _ (fun _ h => h), hwi.1.2.1]; exact hwi.2.2.1
              have hrr2 : rbv V (pth V v i) = .inl (app D.2.1 D.2.2.2 rb) := by rw [hrr, if_pos f1]
              refine aw_istore16 X dL_rebuild_174 (by rw [hn]; decide) rfl ?_
              refine aw_iload16 X dL_rebuild_176 ?_
              refine aw_ifge X dL_rebuild_178 (tgt := 200) (by decide) (fun _ => ?_) (fun c9 => by first | exact absurd (nI_pos' (by omega)) c9 | exact absurd c9 (nI_pos' (by omega)))
              refine aw_iload16 X dL_rebuild_200 ?_
              refine aw_istore12 X dL_rebuild_202 (by rw [hn]; decide) rfl ?_
              refine aw_iconst X dL_rebuild_204 (v := nI 0) (by decide) ?_
              refine aw_istore17 X dL_rebuild_205 (by rw [hn]; decide) rfl ?_
              refine aw_loopM (fun (t : Nat) M3 => t ≤ (app D.2.1 D.2.2.2 rb).length ∧ ∃ g, KE (am_up M2 q8 (am_ai (zG Z) 16 g')) M3 (fun q => q = e) ∧ M3.1 e = some (am_ai (zG Z) 16 g) ∧ ∀ k, k < t → g k = (app D.2.1 D.2.2.2 rb).getD k 0) (fun t => (app D.2.1 D.2.2.2 rb).length - t) (fun t => [some (.int (nI v)), some (.ref q1), some (.ref q2), some (.ref q3), some (.ref q4), some (.ref q5), some (.ref q6), some (.ref q7), some (.ref q8), some (.ref q9), some (.int (nI (pth V v J))), some (.int (nI J)), some (.int (nI (app D.2.1 D.2.2.2 rb).length)), some (.ref e), some (.int (nI i)), some (.int (nI (pth V v i))), some (.int (nI (app D.2.1 D.2.2.2 rb).length)), some (.int (nI t))]) ?_ 0 ⟨Nat.zero_le _, ge, KE.rf, z1', fun k hk => absurd hk (Nat.not_lt_zero _)⟩
              rintro t M3 ⟨ht3, g3', kk3, n3, hg3⟩ ih3
              try dsimp only at ht3 hg3 ih3 ⊢
              have u8 := kk3 _ _ (am_us (M := M2) (q := q8) (e := am_ai (zG Z) 16 g')) (by omega)
              refine aw_iload17 X dL_rebuild_207 ?_
              refine aw_iload12 X dL_rebuild_209 ?_
              refine aw_icmpge X dL_rebuild_211 (tgt := 230) (by decide) (fun c3 => ?_) (fun c3 => ?_)
              · have e0 : t = (app D.2.1 D.2.2.2 rb).length := by have := (nI_leI (by omega) (by omega)).mp c3; omega
                refine aw_iinc14 X dL_rebuild_230 (by rw [hn]; decide) (am_dn_dec i) rfl ?_
                refine aw_goto X dL_rebuild_233 (tgt := 121) (by decide) ?_
                refine aw_drop15 (aw_drop16 (aw_drop17 ?_))
                refine ih (i, app D.2.1 D.2.2.2 rb) M3 ⟨by omega, hrr2, hal, byB_app hwi.2.2.2 hby, kk2.tr (fun q y hq h => kk3 _ _ (k3 q y hq (fun h2 => h (Or.inr h2))) (fun h2 => h (Or.inl h2))), ⟨g3', n3, fun k hk => by rw [Nat.zero_add]; exact hg3 k (by rw [e0]; exact hk)⟩, g', u8⟩ (by dsimp only; omega)
              · have hlt3 : t < (app D.2.1 D.2.2.2 rb).length := by
                  rcases Nat.lt_or_ge t (app D.2.1 D.2.2.2 rb).length with q | q
                  · exact q
                  · exact absurd (nI_le q (by omega)) c3
                refine aw_aload13 X dL_rebuild_214 ?_
                refine aw_iload17 X dL_rebuild_216 ?_
                refine aw_aload8 X dL_rebuild_218 ?_
                refine aw_iload17 X dL_rebuild_220 ?_
                refine aw_iald X dL_rebuild_222 u8 rfl (show t < 16 by omega) (by decide) ?_
                refine aw_int (y := (app D.2.1 D.2.2.2 rb).getD t 0) (by have := f3 t hlt3; rwa [Nat.zero_add] at this) ?_
                refine aw_iast X dL_rebuild_223 n3 rfl (show t < 16 by omega) (by decide) ?_
                refine aw_iinc17 X dL_rebuild_224 (by rw [hn]; decide) (am_inc _ 1) rfl ?_
                refine aw_goto X dL_rebuild_227 (tgt := 207) (by decide) ?_
                refine ih3 (t + 1) _ ⟨hlt3, _, kk3.tr KE.up, am_us, fun k hk => ?_⟩ (by omega)
                by_cases e0 : k = t
                · rw [e0, pk_us]
                · rw [pk_un e0]
                  exact hg3 k (by omega)
            · have hrr2 : rbv V (pth V v i) = .inr (pth V v i, 0, 2) := by rw [hrr, if_neg (by rw [f1]; decide)]
              have er := rb_lift hV hv i (fun i' hi' => hJ i' (by omega)) hrr2
              refine aw_istore16 X dL_rebuild_174 (by rw [hn]; decide) rfl ?_
              refine aw_iload16 X dL_rebuild_176 ?_
              refine aw_ifge X dL_rebuild_178 (tgt := 200) (by decide) (fun c9 => by first | exact absurd ((by decide : ¬ (0 : Int32) ≤ -1)) c9 | exact absurd c9 ((by decide : ¬ (0 : Int32) ≤ -1))) (fun _ => ?_)
              refine aw_aload9 X dL_rebuild_181 ?_
              refine aw_iconst X dL_rebuild_183 (v := nI 0) (by decide) ?_
              refine aw_iload15 X dL_rebuild_184 ?_
              refine aw_iast X dL_rebuild_186 w9' rfl (by decide) (by decide) ?_
              refine aw_aload9 X dL_rebuild_187 ?_
              refine aw_iconst X dL_rebuild_189 (v := nI 1) (by decide) ?_
              refine aw_iload14 X dL_rebuild_190 ?_
              refine aw_iast X dL_rebuild_192 am_us rfl (by decide) (by decide) ?_
              refine aw_aload9 X dL_rebuild_193 ?_
              refine aw_iconst X dL_rebuild_195 (v := nI 2) (by decide) ?_
              refine aw_iconst X dL_rebuild_196 (v := nI 2) (by decide) ?_
              refine aw_iast X dL_rebuild_197 am_us rfl (by decide) (by decide) ?_
              rw [am_uu, am_uu]
              refine aw_iconst X dL_rebuild_198 (v := -1) (by decide) ?_
              refine aw_ireturn X (ty := .int) hr (by first | rfl | decide | assumption) dL_rebuild_199 (⟨(kall.tr (k3.mono (fun q => Or.inl))).tr (KE.up.mono (fun q h => Or.inr h)), g', _, (am_un g8.symm).trans am_us, am_us, by rw [er]; exact ⟨rfl, rfl, by rw [Nat.zero_add]; rfl, rfl⟩⟩)
          · have hlt2 : i < t := by
              rcases Nat.lt_or_ge i t with q | q
              · exact q
              · exact absurd (nI_le q (by omega)) c2
            refine aw_aload2 X dL_rebuild_139 ?_
            refine aw_iconst X dL_rebuild_140 (v := nI 4) (by decide) ?_
            refine aw_iload15 X dL_rebuild_141 ?_
            refine aw_iadd X dL_rebuild_143 ?_
            first | with_reducible refine aw_int (nI_add _ _) ?_ | skip
            refine aw_iald X dL_rebuild_144 w2 rfl (by omega) (by decide) ?_
            refine aw_int (y := nI (pth V v (i + 1))) (by rw [hp]; exact hri.2.1) ?_
            refine aw_istore15 X dL_rebuild_145 (by rw [hn]; decide) rfl ?_
            refine aw_iinc16 X dL_rebuild_147 (by rw [hn]; decide) (am_inc _ 1) rfl ?_
            refine aw_goto X dL_rebuild_150 (tgt := 132) (by decide) ?_
            exact ih2 (i + 1) hlt2 (by omega)
      · have hlt2 : i < bs0.length := by
          rcases Nat.lt_or_ge i bs0.length with q | q
          · exact q
          · exact absurd (nI_le q (by have := hw.1; omega)) c1
        have hb16 := hw.1
        refine aw_aload13 X dL_rebuild_94 ?_
        refine aw_iload14 X dL_rebuild_96 ?_
        refine aw_aload1 X dL_rebuild_98 ?_
        refine aw_bipush X dL_rebuild_99 (v := nI 16) (by decide) ?_
        refine aw_iload10 X dL_rebuild_101 ?_
        refine aw_imul X dL_rebuild_103 ?_
        first | with_reducible refine aw_int (pk_mul _ _) ?_ | skip
        refine aw_iload14 X dL_rebuild_104 ?_
        refine aw_iadd X dL_rebuild_106 ?_
        first | with_reducible refine aw_int (nI_add _ _) ?_ | skip
        refine aw_iald X dL_rebuild_107 y1 rfl (show 16 * pth V v J + i < 64 by omega) (by decide) ?_
        refine aw_int (hr0.2.2 i hlt2) ?_
        refine aw_iast X dL_rebuild_108 n1 rfl (show i < 16 by omega) (by decide) ?_
        refine aw_iinc14 X dL_rebuild_109 (by rw [hn]; decide) (am_inc _ 1) rfl ?_
        refine aw_goto X dL_rebuild_112 (tgt := 87) (by decide) ?_
        refine ih (i + 1) _ ⟨hlt2, _, kk1.tr KE.up, am_us, fun k hk => ?_⟩ (by omega)
        by_cases e0 : k = i
        · rw [e0, pk_us]
        · rw [pk_un e0]
          exact hg k (by omega)
