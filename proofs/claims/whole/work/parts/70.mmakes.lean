/-! the model makes the bytes of a version -/
abbrev tVs (τ : TS) : Nat → VK := τ.2.2.2.1.2
def cSame (c c' : Nat → Int32) : Prop := c' 0 = c 0 ∧ c' 16 = c 16 ∧ c' 28 = c 28 ∧ c' 29 = c 29 ∧ c' 30 = c 30 ∧ c' 35 = c 35
def mkP (G : AG) (M0 : AM) (y v : Nat) (A : MA) (S : Nat → Int64) (c : Nat → Int32) (τ : TS) (o : Option Value) (M' : AM) : Prop := ∃ A' c', md G M0 M' y A' S c' ∧ (∀ a, a < 20 ∨ 22 < a → A' a = A a) ∧ cSame c c' ∧ (c' 22 = (rbN (rbv (tVs τ) v)).1 ∧ c' 23 = (rbN (rbv (tVs τ) v)).2.1 ∧ c' 24 = (rbN (rbv (tVs τ) v)).2.2) ∧ ((∃ bs, rbv (tVs τ) v = .inl bs ∧ o = some (.int (nI 1)) ∧ bs.length ≤ 120 ∧ c' 26 = nI bs.length ∧ ∀ k, k < bs.length → A' 21 k = bs.getD k 0) ∨ ∃ q, rbv (tVs τ) v = .inr q ∧ o = some (.int (nI 0)))
theorem mkP.bad {G : AG} {M0 M' : AM} {y v w d r : Nat} {A A' : MA} {S : Nat → Int64} {c c' : Nat → Int32} {τ : TS} (h : md G M0 M' y A' S c') (hA : ∀ a, a < 20 ∨ 22 < a → A' a = A a) (hc : cSame c c') (e : rbv (tVs τ) v = .inr (w, d, r)) (e1 : c' 22 = nI w) (e2 : c' 23 = nI d) (e3 : c' 24 = nI r) : mkP G M0 y v A S c τ (some (.int (nI 0))) M' :=
  ⟨A', c', h, hA, hc, by rw [e]; exact ⟨e1, e2, e3⟩, Or.inr ⟨_, e, rfl⟩⟩
theorem mkP.good {G : AG} {M0 M' : AM} {y v : Nat} {A A' : MA} {S : Nat → Int64} {c c' : Nat → Int32} {τ : TS} {bs : List Int32} (h : md G M0 M' y A' S c') (hA : ∀ a, a < 20 ∨ 22 < a → A' a = A a) (hc : cSame c c') (e : rbv (tVs τ) v = .inl bs) (e1 : c' 22 = -1) (e2 : c' 23 = -1) (e3 : c' 24 = -1) (hl : bs.length ≤ 120) (e4 : c' 26 = nI bs.length) (hb : ∀ k, k < bs.length → A' 21 k = bs.getD k 0) : mkP G M0 y v A S c τ (some (.int (nI 1))) M' :=
  ⟨A', c', h, hA, hc, by rw [e]; exact ⟨e1, e2, e3⟩, Or.inl ⟨bs, e, rfl, hl, e4, hb⟩⟩
theorem c_X9_makes {l : Launch} {G : AG} {M0 M : AM} {y v : Nat} {A : MA} {S : Nat → Int64} {c : Nat → Int32} {τ : TS} (h : md G M0 M y A S c) (hr : mRel A S c τ) (hv : v < tN τ) : Cn l G yX9_makes cX9_makes 5 (some .boolean) rX9_makes M [.ref y, .int (nI v)] (mkP G M0 y v A S c τ) := by
  obtain ⟨-, -, -, -, ⟨r5, r5'⟩, r6, -⟩ := hr
  have hV : ∀ i b D, i < tN τ → tVs τ i = some (.inr (b, D)) → b < i := fun i b D hi e => by
    have := r6 i (by omega)
    rw [show τ.2.2.2.1.2 i = some (.inr (b, D)) from e] at this
    exact this.2.2.1
  refine Cn.of (by decide) [some (.ref y), some (.int (nI v)), none, none, none] rfl (Nat.le_of_ble_eq_true rfl) ?_
  intro Z hZ
  obtain ⟨rfl, hn, rfl, hR, X, hr, hnm⟩ := hZ
  refine aw_iconst X dX9_makes_0 (v := nI 0) (by decide) ?_
  refine aw_istore2 X dX9_makes_1 (by rw [hn]; decide) rfl ?_
  refine aw_iload1 X dX9_makes_2 ?_
  refine aw_istore3 X dX9_makes_3 (by rw [hn]; decide) rfl ?_
  refine aw_loop (σ := Nat × MA × AM) (fun j => md (zG Z) M0 j.2.2 y j.2.1 S c ∧ (∀ a, a ≠ 20 → j.2.1 a = A a) ∧ ∀ i, i < j.1 → isRest (tVs τ (pth (tVs τ) v i)) ∧ j.2.1 20 i = nI (pth (tVs τ) v i)) (fun j => v - j.1) (fun j => j.2.2) (fun j => [some (.ref y), some (.int (nI v)), some (.int (nI j.1)), some (.int (nI (pth (tVs τ) v j.1))), none]) ?_ (0, A, M) ⟨h, fun _ _ => rfl, fun i hi => absurd hi (Nat.not_lt_zero _)⟩
  rintro ⟨j, B, M1⟩ ⟨h1, b1, hj⟩ ih
  try dsimp only at h1 b1 hj ih ⊢
  have hpj := pth_le hV hv j (fun i hi => (hj i hi).1)
  have hver := r6 (pth (tVs τ) v j) (by omega)
  refine aw_joinA (ι := Unit) (fun _ => ¬ isRest (tVs τ (pth (tVs τ) v j))) (fun _ => M1) 34 [some (.ref y), some (.int (nI v)), some (.int (nI j)), some (.int (nI (pth (tVs τ) v j))), none] (fun _ hnr => ?_) (fun K => ?_)
  · clear ih
    refine aw_aload0 X dX9_makes_34 ?_
    refine aw_iconst X dX9_makes_35 (v := -1) (by decide) ?_
    refine aw_mput22 X pX9_183 dX9_makes_36 h1 (fun M2 h2 => ?_)
    refine aw_aload0 X dX9_makes_39 ?_
    refine aw_iconst X dX9_makes_40 (v := -1) (by decide) ?_
    refine aw_mput23 X pX9_186 dX9_makes_41 h2 (fun M3 h3 => ?_)
    refine aw_aload0 X dX9_makes_44 ?_
    refine aw_iconst X dX9_makes_45 (v := -1) (by decide) ?_
    refine aw_mput24 X pX9_189 dX9_makes_46 h3 (fun M4 h4 => ?_)
    clear h1 h2 h3
    refine aw_aload0 X dX9_makes_49 ?_
    refine aw_get X fX9_57 dX9_makes_50 (h4.at) rfl ?_
    refine aw_iload3 X dX9_makes_53 ?_
    refine aw_iald X dX9_makes_54 (h4.ai 16 rfl) rfl (by omega) (by decide) ?_
    cases hx : tVs τ (pth (tVs τ) v j) with
    | none =>
      rw [show τ.2.2.2.1.2 (pth (tVs τ) v j) = none from hx] at hver
      refine aw_int (y := nI 0) (by rw [b1 16 (by decide)]; exact hver) ?_
      refine aw_ifne X dX9_makes_55 (tgt := 75) (by decide) (fun c9 => by first | exact absurd ((rfl : nI 0 = 0)) c9 | exact absurd c9 ((rfl : nI 0 = 0))) (fun _ => ?_)
      refine aw_aload0 X dX9_makes_58 ?_
      refine aw_iload3 X dX9_makes_59 ?_
      refine aw_mput22 X pX9_183 dX9_makes_60 h4 (fun M5 h5 => ?_)
      refine aw_aload0 X dX9_makes_63 ?_
      refine aw_iload2 X dX9_makes_64 ?_
      refine aw_mput23 X pX9_186 dX9_makes_65 h5 (fun M6 h6 => ?_)
      refine aw_aload0 X dX9_makes_68 ?_
      refine aw_iconst X dX9_makes_69 (v := nI 1) (by decide) ?_
      refine aw_mput24 X pX9_189 dX9_makes_70 h6 (fun M7 h7 => ?_)
      refine aw_iconst X dX9_makes_73 (v := nI 0) (by decide) ?_
      have hD := rb_lift hV hv j (fun i hi => (hj i hi).1) (rbv_none hx)
      rw [Nat.zero_add] at hD
      refine aw_ireturn X (ty := .boolean) hr (by first | rfl | decide | assumption) dX9_makes_74 (mkP.bad h7 (fun a ha => b1 a (by omega)) ⟨rfl, rfl, rfl, rfl, rfl, rfl⟩ hD rfl rfl rfl)
    | some x =>
      cases x with
      | inr q =>
        obtain ⟨b, D⟩ := q
        exact absurd ⟨b, D, hx⟩ hnr
      | inl bs =>
        rw [show τ.2.2.2.1.2 (pth (tVs τ) v j) = some (.inl bs) from hx] at hver
        obtain ⟨w1, w2, w3, w4⟩ := hver
        refine aw_int (y := nI 1) (by rw [b1 16 (by decide)]; exact w1) ?_
        refine aw_ifne X dX9_makes_55 (tgt := 75) (by decide) (fun _ => ?_) (fun c9 => by first | exact absurd ((by decide : ¬ nI 1 = 0)) c9 | exact absurd c9 ((by decide : ¬ nI 1 = 0)))
        refine aw_aload0 X dX9_makes_75 ?_
        refine aw_aload0 X dX9_makes_76 ?_
        refine aw_get X fX9_63 dX9_makes_77 (h4.at) rfl ?_
        refine aw_iload3 X dX9_makes_80 ?_
        refine aw_iald X dX9_makes_81 (h4.ai 18 rfl) rfl (by omega) (by decide) ?_
        refine aw_int (y := nI bs.length) (by rw [b1 18 (by decide)]; exact w3) ?_
        refine aw_mput26 X pX9_125 dX9_makes_82 h4 (fun M5 h5 => ?_)
        clear h4
        obtain ⟨c5, hc5, e0, e22, e23, e24, e26⟩ : ∃ c5, c5 = va_up (va_up (va_up (va_up c 22 (-1)) 23 (-1)) 24 (-1)) 26 (nI bs.length) ∧ cSame c c5 ∧ c5 22 = -1 ∧ c5 23 = -1 ∧ c5 24 = -1 ∧ c5 26 = nI bs.length := ⟨_, rfl, ⟨rfl, rfl, rfl, rfl, rfl, rfl⟩, rfl, rfl, rfl, rfl⟩
        have h5 : md (zG Z) M0 M5 y B S c5 := by rw [hc5]; exact h5
        refine aw_iconst X dX9_makes_85 (v := nI 0) (by decide) ?_
        refine aw_istore4 X dX9_makes_86 (by rw [hn]; decide) rfl ?_
        refine aw_loop (σ := Nat × MA × AM) (fun i => i.1 ≤ bs.length ∧ md (zG Z) M0 i.2.2 y i.2.1 S c5 ∧ (∀ a, a ≠ 21 → i.2.1 a = B a) ∧ ∀ k, k < i.1 → i.2.1 21 k = bs.getD k 0) (fun i => bs.length - i.1) (fun i => i.2.2) (fun i => [some (.ref y), some (.int (nI v)), some (.int (nI j)), some (.int (nI (pth (tVs τ) v j))), some (.int (nI i.1))]) ?_ (0, B, M5) ⟨Nat.zero_le _, h5, fun _ _ => rfl, fun k hk => absurd hk (Nat.not_lt_zero _)⟩
        rintro ⟨i, B2, M6⟩ ⟨hi, h6, b2, bm⟩ ih
        try dsimp only at hi h6 b2 bm ih ⊢
        refine aw_iload4 X dX9_makes_88 ?_
        refine aw_aload0 X dX9_makes_90 ?_
        refine aw_get X fX9_125 dX9_makes_91 (h6.at) rfl ?_
        refine aw_int (y := nI bs.length) e26 ?_
        refine aw_icmpge X dX9_makes_94 (tgt := 122) (by decide) (fun c2 => ?_) (fun c2 => ?_)
        · have e : i = bs.length := by have := (nI_leI (by omega) (by omega)).mp c2; omega
          subst e
          clear ih
          refine aw_iload2 X dX9_makes_122 ?_
          refine aw_iconst X dX9_makes_123 (v := nI 1) (by decide) ?_
          refine aw_isub X dX9_makes_124 ?_
          refine aw_int (am_dn_sub0 j) ?_
          refine aw_istore4 X dX9_makes_125 (by rw [hn]; decide) rfl ?_
          refine aw_loop (σ := Nat × MA × (Nat → Int32) × List Int32 × AM) (fun i => i.1 ≤ j ∧ md (zG Z) M0 i.2.2.2.2 y i.2.1 S i.2.2.1 ∧ (∀ a, a < 20 ∨ 22 < a → i.2.1 a = A a) ∧ i.2.1 20 = B 20 ∧ cSame c i.2.2.1 ∧ (i.2.2.1 22 = -1 ∧ i.2.2.1 23 = -1 ∧ i.2.2.1 24 = -1) ∧ rbv (tVs τ) (pth (tVs τ) v i.1) = .inl i.2.2.2.1 ∧ i.2.2.2.1.length ≤ 120 ∧ i.2.2.1 26 = nI i.2.2.2.1.length ∧ ∀ k, k < i.2.2.2.1.length → i.2.1 21 k = i.2.2.2.1.getD k 0) (fun i => i.1) (fun i => i.2.2.2.2) (fun i => [some (.ref y), some (.int (nI v)), some (.int (nI j)), some (.int (nI (pth (tVs τ) v j))), some (.int (am_dn i.1))]) ?_ (j, B2, c5, bs, M6) ⟨Nat.le_refl _, h6, fun a ha => (b2 a (by omega)).trans (b1 a (by omega)), b2 20 (by decide), e0, ⟨e22, e23, e24⟩, rbv_whole hx, w2, e26, bm⟩
          rintro ⟨m, B3, c3, rb, M7⟩ ⟨hm, h7, b3, b20, hcs, ⟨x22, x23, x24⟩, hrb, hrl, x26, hbm⟩ ih
          try dsimp only at hm h7 b3 b20 hcs x22 x23 x24 hrb hrl x26 hbm ih ⊢
          refine aw_iload4 X dX9_makes_127 ?_
          cases m with
          | zero =>
            refine aw_iflt X dX9_makes_129 (tgt := 191) (by decide) (fun _ => ?_) (fun c9 => by first | exact absurd (am_dn_neg) c9 | exact absurd c9 (am_dn_neg))
            refine aw_iconst X dX9_makes_191 (v := nI 1) (by decide) ?_
            refine aw_ireturn X (ty := .boolean) hr (by first | rfl | decide | assumption) dX9_makes_192 (mkP.good h7 b3 hcs hrb x22 x23 x24 hrl x26 hbm)
          | succ m =>
            have hpm := pth_le hV hv m (fun i hi => (hj i (by omega)).1)
            obtain ⟨⟨b, D, hb⟩, hch⟩ := hj m (by omega)
            have eb : pth (tVs τ) v (m + 1) = b := by rw [pth, hb]
            rw [eb] at hrb
            have hver := r6 (pth (tVs τ) v m) (by omega)
            rw [show τ.2.2.2.1.2 (pth (tVs τ) v m) = some (.inr (b, D)) from hb] at hver
            obtain ⟨-, -, -, hD0⟩ := hver
            have hD3 : dlRel B3 (4 + pth (tVs τ) v m) D := hD0.cg (fun a x1 x2 => b3 a (by omega))
            have hch3 : B3 20 m = nI (pth (tVs τ) v m) := by rw [b20]; exact hch
            have hD := rbv_rest hV (by omega) hb
            rw [hrb] at hD
            try dsimp only at hD
            refine aw_iflt X dX9_makes_129 (tgt := 191) (by decide) (fun c9 => by first | exact absurd (nI_pos (by omega)) c9 | exact absurd c9 (nI_pos (by omega))) (fun _ => ?_)
            refine aw_aload0 X dX9_makes_132 ?_
            refine aw_iconst X dX9_makes_133 (v := nI 4) (by decide) ?_
            refine aw_aload0 X dX9_makes_134 ?_
            refine aw_get X fX9_69 dX9_makes_135 (h7.at) rfl ?_
            refine aw_iload4 X dX9_makes_138 ?_
            refine aw_iald X dX9_makes_140 (h7.ai 20 rfl) rfl (by omega) (by decide) ?_
            refine aw_int hch3 ?_
            refine aw_iadd X dX9_makes_141 ?_
            first | with_reducible refine aw_int (nI_add _ _) ?_ | skip
            refine aw_callV X (c_X9_goesBeyond h7 (by omega) hD3 x26 hrl) kX9_171 (ci := 10) rfl (h7.at) dX9_makes_142 rfl rfl (by first | decide | exact Nat.le_of_ble_eq_true rfl) (by rw [hR]; exact ⟨by first | decide | exact Nat.le_of_ble_eq_true rfl | (dsimp only; omega), by first | decide | exact Nat.le_of_ble_eq_true rfl | (dsimp only; omega)⟩) (by rw [hR]; exact ⟨by first | decide | exact Nat.le_of_ble_eq_true rfl | (dsimp only; omega), by first | decide | exact Nat.le_of_ble_eq_true rfl | (dsimp only; omega)⟩) (fun o M8 hv => ?_)
            obtain ⟨rfl, rfl⟩ := hv
            refine aw_ifeq X dX9_makes_145 (tgt := 172) (by decide) (fun c4 => ?_) (fun c4 => ?_)
            · have hfit : fitB D.2.1 rb.length = true := Decidable.not_not.mp (am_bz.mp c4)
              rw [if_pos hfit] at hD
              refine aw_aload0 X dX9_makes_172 ?_
              refine aw_iconst X dX9_makes_173 (v := nI 4) (by decide) ?_
              refine aw_aload0 X dX9_makes_174 ?_
              refine aw_get X fX9_69 dX9_makes_175 (h7.at) rfl ?_
              refine aw_iload4 X dX9_makes_178 ?_
              refine aw_iald X dX9_makes_180 (h7.ai 20 rfl) rfl (by omega) (by decide) ?_
              refine aw_int hch3 ?_
              refine aw_iadd X dX9_makes_181 ?_
              first | with_reducible refine aw_int (nI_add _ _) ?_ | skip
              refine aw_callV X (c_X9_applies h7 (by omega) hD3 hrl hbm hfit) kX9_174 (ci := 10) rfl (h7.at) dX9_makes_182 rfl rfl (by first | decide | exact Nat.le_of_ble_eq_true rfl) (by rw [hR]; exact ⟨by first | decide | exact Nat.le_of_ble_eq_true rfl | (dsimp only; omega), by first | decide | exact Nat.le_of_ble_eq_true rfl | (dsimp only; omega)⟩) (by rw [hR]; exact ⟨by first | decide | exact Nat.le_of_ble_eq_true rfl | (dsimp only; omega), by first | decide | exact Nat.le_of_ble_eq_true rfl | (dsimp only; omega)⟩) (fun o M9 hv => ?_)
              obtain ⟨rfl, B4, h8, z1, z2⟩ := hv
              refine aw_iinc4 X dX9_makes_185 (by rw [hn]; decide) (am_dn_dec m) rfl ?_
              refine aw_goto X dX9_makes_188 (tgt := 127) (by decide) ?_
              exact ih (m, B4, va_up c3 26 (nI (app D.2.1 D.2.2.2 rb).length), app D.2.1 D.2.2.2 rb, M9) ⟨by omega, h8, fun a ha => (z1 a (by omega)).trans (b3 a ha), (z1 20 (by omega)).trans b20, hcs, ⟨x22, x23, x24⟩, hD, app_le hD3.1 hfit, va_up_self c3 26 _, z2⟩ (by dsimp only; omega)
            · have hfit : ¬ fitB D.2.1 rb.length = true := fun e => c4 (am_bz.mpr (fun q => q e))
              rw [if_neg hfit] at hD
              have hD2 := rb_lift hV hv m (fun i hi => (hj i (by omega)).1) hD
              rw [Nat.zero_add] at hD2
              refine aw_aload0 X dX9_makes_148 ?_
              refine aw_aload0 X dX9_makes_149 ?_
              refine aw_get X fX9_69 dX9_makes_150 (h7.at) rfl ?_
              refine aw_iload4 X dX9_makes_153 ?_
              refine aw_iald X dX9_makes_155 (h7.ai 20 rfl) rfl (by omega) (by decide) ?_
              refine aw_int hch3 ?_
              refine aw_mput22 X pX9_183 dX9_makes_156 h7 (fun M8 h8 => ?_)
              refine aw_aload0 X dX9_makes_159 ?_
              refine aw_iload4 X dX9_makes_160 ?_
              refine aw_mput23 X pX9_186 dX9_makes_162 h8 (fun M9 h9 => ?_)
              refine aw_aload0 X dX9_makes_165 ?_
              refine aw_iconst X dX9_makes_166 (v := nI 2) (by decide) ?_
              refine aw_mput24 X pX9_189 dX9_makes_167 h9 (fun M10 h10 => ?_)
              refine aw_iconst X dX9_makes_170 (v := nI 0) (by decide) ?_
              refine aw_ireturn X (ty := .boolean) hr (by first | rfl | decide | assumption) dX9_makes_171 (mkP.bad h10 b3 hcs hD2 rfl rfl rfl)
        · have hlt : i < bs.length := by
            rcases Nat.lt_or_ge i bs.length with q | q
            · exact q
            · exact absurd (nI_le q (by omega)) c2
          refine aw_aload0 X dX9_makes_97 ?_
          refine aw_get X fX9_72 dX9_makes_98 (h6.at) rfl ?_
          refine aw_iload4 X dX9_makes_101 ?_
          refine aw_aload0 X dX9_makes_103 ?_
          refine aw_get X fX9_66 dX9_makes_104 (h6.at) rfl ?_
          refine aw_bipush X dX9_makes_107 (v := nI 120) (by decide) ?_
          refine aw_iload3 X dX9_makes_109 ?_
          refine aw_imul X dX9_makes_110 ?_
          first | with_reducible refine aw_int (pk_mul _ _) ?_ | skip
          refine aw_iload4 X dX9_makes_111 ?_
          refine aw_iadd X dX9_makes_113 ?_
          first | with_reducible refine aw_int (nI_add _ _) ?_ | skip
          refine aw_iald X dX9_makes_114 (h6.ai 19 rfl) rfl (by omega) (by decide) ?_
          refine aw_int (y := bs.getD i 0) (by rw [b2 19 (by decide), b1 19 (by decide)]; exact w4 i hlt) ?_
          refine aw_mst X 21 dX9_makes_115 h6 rfl rfl (by omega) (by decide) (fun M7 h7 => ?_)
          refine aw_iinc4 X dX9_makes_116 (by rw [hn]; decide) (am_inc _ 1) rfl ?_
          refine aw_goto X dX9_makes_119 (tgt := 88) (by decide) ?_
          refine ih (i + 1, va_up B2 21 (upd (B2 21) i (bs.getD i 0)), M7) ⟨hlt, h7, fun a ha => (va_up_ne _ _ ha).trans (b2 a ha), fun k hk => ?_⟩ (by dsimp only; omega)
          try dsimp only at hk
          show upd (B2 21) i (bs.getD i 0) k = _
          by_cases e : k = i
          · rw [e, pk_us]
          · rw [pk_un e]
            exact bm k (by omega)
  · refine aw_aload0 X dX9_makes_4 ?_
    refine aw_get X fX9_57 dX9_makes_5 (h1.at) rfl ?_
    refine aw_iload3 X dX9_makes_8 ?_
    refine aw_iald X dX9_makes_9 (h1.ai 16 rfl) rfl (by omega) (by decide) ?_
    cases hx : tVs τ (pth (tVs τ) v j) with
    | none =>
      rw [show τ.2.2.2.1.2 (pth (tVs τ) v j) = none from hx] at hver
      refine aw_int (y := nI 0) (by rw [b1 16 (by decide)]; exact hver) ?_
      refine aw_iconst X dX9_makes_10 (v := nI 2) (by decide) ?_
      refine aw_icmpne X dX9_makes_11 (tgt := 34) (by decide) (fun _ => ?_) (fun c9 => by first | exact absurd ((by decide : ¬ nI 0 = nI 2)) c9 | exact absurd c9 ((by decide : ¬ nI 0 = nI 2)))
      exact K () (by rw [hx]; rintro ⟨b, D, e⟩; cases e)
    | some x =>
      cases x with
      | inl bs =>
        rw [show τ.2.2.2.1.2 (pth (tVs τ) v j) = some (.inl bs) from hx] at hver
        refine aw_int (y := nI 1) (by rw [b1 16 (by decide)]; exact hver.1) ?_
        refine aw_iconst X dX9_makes_10 (v := nI 2) (by decide) ?_
        refine aw_icmpne X dX9_makes_11 (tgt := 34) (by decide) (fun _ => ?_) (fun c9 => by first | exact absurd ((by decide : ¬ nI 1 = nI 2)) c9 | exact absurd c9 ((by decide : ¬ nI 1 = nI 2)))
        exact K () (by rw [hx]; rintro ⟨b, D, e⟩; cases e)
      | inr q =>
        obtain ⟨b, D⟩ := q
        rw [show τ.2.2.2.1.2 (pth (tVs τ) v j) = some (.inr (b, D)) from hx] at hver
        obtain ⟨w1, w2, w3, w4⟩ := hver
        refine aw_int (y := nI 2) (by rw [b1 16 (by decide)]; exact w1) ?_
        refine aw_iconst X dX9_makes_10 (v := nI 2) (by decide) ?_
        refine aw_icmpne X dX9_makes_11 (tgt := 34) (by decide) (fun c9 => by first | exact absurd ((rfl : nI 2 = nI 2)) c9 | exact absurd c9 ((rfl : nI 2 = nI 2))) (fun _ => ?_)
        refine aw_aload0 X dX9_makes_14 ?_
        refine aw_get X fX9_69 dX9_makes_15 (h1.at) rfl ?_
        refine aw_iload2 X dX9_makes_18 ?_
        refine aw_iload3 X dX9_makes_19 ?_
        refine aw_mst X 20 dX9_makes_20 h1 rfl rfl (by omega) (by decide) (fun M2 h2 => ?_)
        refine aw_iinc2 X dX9_makes_21 (by rw [hn]; decide) (am_inc _ 1) rfl ?_
        refine aw_aload0 X dX9_makes_24 ?_
        refine aw_get X fX9_60 dX9_makes_25 (h2.at) rfl ?_
        refine aw_iload3 X dX9_makes_28 ?_
        refine aw_iald X dX9_makes_29 (h2.ai 17 rfl) rfl (by omega) (by decide) ?_
        refine aw_int (y := nI b) (by show B 17 _ = _; rw [b1 17 (by decide)]; exact w2) ?_
        refine aw_istore3 X dX9_makes_30 (by rw [hn]; decide) rfl ?_
        refine aw_goto X dX9_makes_31 (tgt := 4) (by decide) ?_
        have eb : pth (tVs τ) v (j + 1) = b := by rw [pth, hx]
        rw [← eb]
        refine ih (j + 1, va_up B 20 (upd (B 20) j (nI (pth (tVs τ) v j))), M2) ⟨h2, fun a ha => (va_up_ne _ _ ha).trans (b1 a ha), fun i hi => ?_⟩ (by dsimp only; omega)
        show isRest (tVs τ (pth (tVs τ) v i)) ∧ upd (B 20) j (nI (pth (tVs τ) v j)) i = _
        by_cases e : i = j
        · subst e
          rw [pk_us]
          exact ⟨⟨b, D, hx⟩, rfl⟩
        · rw [pk_un e]
          exact hj i (by omega)
