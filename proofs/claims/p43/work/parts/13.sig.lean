theorem aw_loopM {Z : AZ} {Q : State → Prop} {k n pc : Nat} {σ : Type} (I : σ → AM → Prop) (μ : σ → Nat) (FL : σ → List (Option Value)) (hs : ∀ s M, I s M → (∀ s' M', I s' M' → μ s' < μ s → AW Z Q M' k n pc (FL s') []) → AW Z Q M k n pc (FL s) []) (s0 : σ) {M : AM} (h0 : I s0 M) : AW Z Q M k n pc (FL s0) [] := by
  have key : ∀ (d : Nat) (s : σ) (M : AM), μ s < d → I s M → AW Z Q M k n pc (FL s) [] := by
    intro d
    induction d with
    | zero => exact fun s M h _ => absurd h (Nat.not_lt_zero _)
    | succ d ih => exact fun s M h hI => hs s M hI (fun s' M' hI' hl => ih s' M' (by omega) hI')
  exact key (μ s0 + 1) s0 M (Nat.lt_succ_self _) h0
theorem aw_min {Z : AZ} {own : String} {cc : ByteArray} {Q : State → Prop} {M : AM} {k n pc : Nat} {L : List (Option Value)} {st : List Value} (X : am_X own cc Z) {idx a b : Nat} (hw : am_cs own idx yJ9_min_7cf53 cJ9_min_7cf53 2 (some .int) 2) (d : decode cc pc = .ok (.invokestatic idx, 3)) (ha : a < 2 ^ 31) (hb : b < 2 ^ 31) (h1 : 1 ≤ (zR Z).frames) (h2 : (st.map fun v => v.category).sum + 13 ≤ (zR Z).locals) (h3 : k ≤ (zR Z).cells ∧ n ≤ (zR Z).slots) (kk : AW Z Q M k n (pc + 3) L (.int (nI (min a b)) :: st)) : AW Z Q M k n pc L (.int (nI b) :: .int (nI a) :: st) := by
  intro H locs ls hH hS hL
  refine va_mmin X.1 X.2.1 (by rw [X.2.2.1]; exact hL.1.symm) X.2.2.2.1 (X.w hw.1.2.2.2.2 rfl) (X.w hw.2 rfl) (X.w hw.1.2.1 rfl) (X.w hw.1.1 rfl) h1 h2 h3.1 h3.2 d ?_
  have e : (if nI b < nI a then nI b else nI a) = nI (min a b) := by
    by_cases h : b < a
    · rw [if_pos (nI_lt h ha), Nat.min_eq_right (by omega)]
    · rw [if_neg (nI_nlt (by omega) hb), Nat.min_eq_left (by omega)]
  rw [e]
  exact kk H locs ls hH hS hL
theorem aw_max {Z : AZ} {own : String} {cc : ByteArray} {Q : State → Prop} {M : AM} {k n pc : Nat} {L : List (Option Value)} {st : List Value} (X : am_X own cc Z) {idx a b : Nat} (hw : am_cs own idx yJ9_max_7cf53 cJ9_max_7cf53 2 (some .int) 2) (d : decode cc pc = .ok (.invokestatic idx, 3)) (ha : a < 2 ^ 31) (hb : b < 2 ^ 31) (h1 : 1 ≤ (zR Z).frames) (h2 : (st.map fun v => v.category).sum + 13 ≤ (zR Z).locals) (h3 : k ≤ (zR Z).cells ∧ n ≤ (zR Z).slots) (kk : AW Z Q M k n (pc + 3) L (.int (nI (max a b)) :: st)) : AW Z Q M k n pc L (.int (nI b) :: .int (nI a) :: st) := by
  intro H locs ls hH hS hL
  refine va_mmax X.1 X.2.1 (by rw [X.2.2.1]; exact hL.1.symm) X.2.2.2.1 (X.w hw.1.2.2.2.2 rfl) (X.w hw.2 rfl) (X.w hw.1.2.1 rfl) (X.w hw.1.1 rfl) h1 h2 h3.1 h3.2 d ?_
  have e : (if nI a < nI b then nI b else nI a) = nI (max a b) := by
    by_cases h : a < b
    · rw [if_pos (nI_lt h hb), Nat.max_eq_right (by omega)]
    · rw [if_neg (nI_nlt (by omega) ha), Nat.max_eq_left (by omega)]
  rw [e]
  exact kk H locs ls hH hS hL
/-! signatures: made, the blocks' length, the modulus, the signed bytes -/
abbrev SG : Type := Bool × Nat × Nat × List Int32
def b2i (b : Bool) : Int32 := if b then nI 1 else nI 0
theorem b2i_z (b : Bool) : narrow .boolean (.int (b2i b)) = .int (b2i b) := by cases b <;> rfl
def nb (L n : Nat) : Nat := (n + L - 1) / L
def bl (L n k : Nat) : Nat := min L (n - k * L)
theorem nb_lt {L n k : Nat} (hL : 0 < L) : k < nb L n ↔ k * L < n := by
  rw [nb, Nat.lt_iff_add_one_le, Nat.le_div_iff_mul_le hL, Nat.add_mul, Nat.one_mul]
  omega
theorem nb_le {L n k : Nat} (hL : 0 < L) : nb L n ≤ k ↔ n ≤ k * L := by
  have := nb_lt (k := k) (n := n) hL
  omega
theorem nb_leN {L n : Nat} (hL : 0 < L) : nb L n ≤ n := (nb_le hL).mpr (Nat.le_mul_of_pos_right n hL)
def sgV (s : SG) : Prop := 0 < s.2.1 ∧ s.2.1 ≤ 7 ∧ 0 < s.2.2.1 ∧ s.2.2.1 ≤ 4096 ∧ s.2.2.2.length ≤ 120
def sgN (s : SG) : Nat := nb s.2.1 s.2.2.2.length
def sgL (s : SG) (k : Nat) : Nat := bl s.2.1 s.2.2.2.length k
def sgW (s : SG) (k : Nat) : Int32 := wk s.2.2.2 (k * s.2.1) (sgL s k) s.2.2.1
def sgG (s : SG) (k : Nat) : Int64 := sg s.2.2.2 (k * s.2.1) (sgL s k)
abbrev sgO (g : Nat) (s : SG) : va_E := am_o 7 [.ref (g + 1), .ref (g + 2), .int (b2i s.1), .int (nI s.2.1), .int (nI s.2.2.1), .int (nI s.2.2.2.length), .int (nI (sgN s))]
def isSig (G : AG) (M : AM) (g : Nat) (s : SG) : Prop := sgV s ∧ ∃ (fw : Nat → Int32) (fs : Nat → Int64), M.1 g = some (sgO g s) ∧ M.1 (g + 1) = some (am_ai G 120 fw) ∧ M.1 (g + 2) = some (am_al G 120 fs) ∧ ∀ k, k < sgN s → fw k = sgW s k ∧ fs k = sgG s k
theorem isSig.out {G : AG} {M M' : AM} {g a b : Nat} {s : SG} (h : isSig G M g s) (ho : am_out M M' a b) (hd : g + 3 ≤ a ∨ b ≤ g) : isSig G M' g s := by
  obtain ⟨hv, fw, fs, h1, h2, h3, h4⟩ := h
  exact ⟨hv, fw, fs, (ho g (by omega)).trans h1, (ho (g + 1) (by omega)).trans h2, (ho (g + 2) (by omega)).trans h3, h4⟩
theorem c_X6_make {l : Launch} {G : AG} {M : AM} {g r L d : Nat} {s : SG} {bs : List Int32} (h : isSig G M g s) (ho : isRow G M r bs) (hd : r + 2 ≤ g ∨ g + 3 ≤ r) (hL : 0 < L ∧ L ≤ 7) (hm : 0 < d ∧ d ≤ 4096) : Cn l G yX6_make cX6_make 6 none rX6_make M [.ref g, .ref r, .int (nI L), .int (nI d)] (fun v M' => isSig G M' g (true, L, d, bs) ∧ am_out M M' g (g + 3) ∧ v = none) := by
  have hbo := ho.le
  obtain ⟨hv, fw, fs, h1, h2, h3, -⟩ := h
  obtain ⟨f, o1, -⟩ := id ho
  refine Cn.of (by decide) [some (.ref g), some (.ref r), some (.int (nI L)), some (.int (nI d)), none, none] rfl (Nat.le_of_ble_eq_true rfl) ?_
  intro Z hZ
  obtain ⟨rfl, hn, rfl, hR, X, hr, hnm⟩ := hZ
  refine aw_aload0 X dX6_make_0 ?_
  refine aw_iconst X dX6_make_1 (v := nI 1) (by decide) ?_
  refine aw_put2 X pX6_26 dX6_make_2 (h1) (by first | rfl | decide | assumption) rfl ?_
  refine aw_aload0 X dX6_make_5 ?_
  refine aw_iload2 X dX6_make_6 ?_
  refine aw_put3 X pX6_19 dX6_make_7 (am_us) rfl rfl ?_
  rw [am_uu]
  refine aw_aload0 X dX6_make_10 ?_
  refine aw_iload3 X dX6_make_11 ?_
  refine aw_put4 X pX6_23 dX6_make_12 (am_us) rfl rfl ?_
  rw [am_uu]
  refine aw_aload0 X dX6_make_15 ?_
  refine aw_aload1 X dX6_make_16 ?_
  refine aw_get X fX6_30 dX6_make_17 ((am_un (by omega)).trans o1) rfl ?_
  refine aw_put5 X pX6_35 dX6_make_20 (am_us) rfl rfl ?_
  rw [am_uu]
  refine aw_aload0 X dX6_make_23 ?_
  refine aw_iconst X dX6_make_24 (v := nI 0) (by decide) ?_
  refine aw_put6 X pX6_38 dX6_make_25 (am_us) rfl rfl ?_
  rw [am_uu]
  refine aw_iconst X dX6_make_28 (v := nI 0) (by decide) ?_
  refine aw_int (show nI 0 = nI (0 * L) by rw [Nat.zero_mul]) ?_
  refine aw_istore4 X dX6_make_29 (by rw [hn]; decide) rfl ?_
  refine aw_loopM (fun (i : Nat) M1 => i ≤ nb L bs.length ∧ am_out M M1 g (g + 3) ∧ ∃ (fw' : Nat → Int32) (fs' : Nat → Int64), M1.1 g = some (am_o 7 [.ref (g + 1), .ref (g + 2), .int (nI 1), .int (nI L), .int (nI d), .int (nI bs.length), .int (nI i)]) ∧ M1.1 (g + 1) = some (am_ai (zG Z) 120 fw') ∧ M1.1 (g + 2) = some (am_al (zG Z) 120 fs') ∧ ∀ k, k < i → fw' k = sgW (true, L, d, bs) k ∧ fs' k = sgG (true, L, d, bs) k) (fun i => bs.length - i) (fun i => [some (.ref g), some (.ref r), some (.int (nI L)), some (.int (nI d)), some (.int (nI (i * L))), none]) ?_ 0 ⟨Nat.zero_le _, am_out.up (by omega) (by omega), fw, fs, am_us, (am_un (by omega)).trans h2, (am_un (by omega)).trans h3, fun k hk => absurd hk (Nat.not_lt_zero _)⟩
  rintro i M1 ⟨hi, hout, fw', fs', q1, q2, q3, q4⟩ ih
  have ho1 := ho.out hout (by omega)
  have o2 := (hout r (by omega)).trans o1
  have hnb : nb L bs.length ≤ bs.length := nb_leN hL.1
  have hil : i * L ≤ i * 7 := Nat.mul_le_mul_left i hL.2
  refine aw_iload4 X dX6_make_31 ?_
  refine aw_aload1 X dX6_make_33 ?_
  refine aw_get X fX6_30 dX6_make_34 (o2) rfl ?_
  refine aw_icmpge X dX6_make_37 (tgt := 128) (by decide) (fun c => ?_) (fun c => ?_)
  · have e : bs.length ≤ i * L := (nI_leI (by omega) (by omega)).mp c
    have e2 : i = nb L bs.length := Nat.le_antisymm hi ((nb_le hL.1).mpr e)
    subst e2
    refine aw_vreturn X hr dX6_make_128 (⟨⟨⟨hL.1, hL.2, hm.1, hm.2, hbo⟩, fw', fs', q1, q2, q3, q4⟩, hout, rfl⟩)
  · have hlt : i * L < bs.length := by
      rcases Nat.lt_or_ge (i * L) bs.length with q | q
      · exact q
      · exact absurd (nI_le q (by omega)) c
    have hi2 : i < nb L bs.length := (nb_lt hL.1).mpr hlt
    refine aw_aload0 X dX6_make_40 ?_
    refine aw_get X fX6_38 dX6_make_41 (q1) rfl ?_
    refine aw_aload0 X dX6_make_44 ?_
    refine aw_get X fX6_9 dX6_make_45 (q1) rfl ?_
    refine aw_alen X dX6_make_48 (q2) (t := 0) rfl rfl ?_
    refine aw_icmpge X dX6_make_49 (tgt := 128) (by decide) (fun c9 => by first | exact absurd (nI_ge (a := i) (b := 120) (by omega) (by omega)) c9 | exact absurd c9 (nI_ge (a := i) (b := 120) (by omega) (by omega))) (fun _ => ?_)
    refine aw_aload0 X dX6_make_52 ?_
    refine aw_get X fX6_19 dX6_make_53 (q1) rfl ?_
    refine aw_aload1 X dX6_make_56 ?_
    refine aw_get X fX6_30 dX6_make_57 (o2) rfl ?_
    refine aw_iload4 X dX6_make_60 ?_
    refine aw_isub X dX6_make_62 ?_
    first | with_reducible refine aw_int (pk_sub (by omega)) ?_ | skip
    refine aw_min X kX6_41 dX6_make_63 (by omega) (by omega) (by rw [hR]; first | decide | exact Nat.le_of_ble_eq_true rfl | (dsimp only; omega)) (by rw [hR]; exact Nat.le_of_ble_eq_true rfl) (by rw [hR]; exact ⟨by first | decide | exact Nat.le_of_ble_eq_true rfl | (dsimp only; omega), by first | decide | exact Nat.le_of_ble_eq_true rfl | (dsimp only; omega)⟩) ?_
    have hw0 : 0 < min L (bs.length - i * L) := by omega
    refine aw_istore5 X dX6_make_66 (by rw [hn]; decide) rfl ?_
    refine aw_aload0 X dX6_make_68 ?_
    refine aw_get X fX6_9 dX6_make_69 (q1) rfl ?_
    refine aw_aload0 X dX6_make_72 ?_
    refine aw_get X fX6_38 dX6_make_73 (q1) rfl ?_
    refine aw_aload1 X dX6_make_76 ?_
    refine aw_iload4 X dX6_make_77 ?_
    refine aw_iload5 X dX6_make_79 ?_
    refine aw_aload0 X dX6_make_81 ?_
    refine aw_get X fX6_23 dX6_make_82 (q1) rfl ?_
    refine aw_callV X (c_X4_weakSum ho1 (by omega) hm.1 (by omega)) kX6_47 (ci := 5) rfl (o2) dX6_make_85 rfl rfl (by first | decide | exact Nat.le_of_ble_eq_true rfl) (by rw [hR]; exact ⟨by first | decide | exact Nat.le_of_ble_eq_true rfl | (dsimp only; omega), by first | decide | exact Nat.le_of_ble_eq_true rfl | (dsimp only; omega)⟩) (by rw [hR]; exact ⟨by first | decide | exact Nat.le_of_ble_eq_true rfl | (dsimp only; omega), by first | decide | exact Nat.le_of_ble_eq_true rfl | (dsimp only; omega)⟩) (fun v M2 hv => ?_)
    obtain ⟨rfl, rfl⟩ := hv
    refine aw_iast X dX6_make_88 q2 rfl (by omega) (by decide) ?_
    refine aw_aload0 X dX6_make_89 ?_
    refine aw_get X fX6_15 dX6_make_90 ((am_un (by omega)).trans q1) rfl ?_
    refine aw_aload0 X dX6_make_93 ?_
    refine aw_get X fX6_38 dX6_make_94 ((am_un (by omega)).trans q1) rfl ?_
    refine aw_aload1 X dX6_make_97 ?_
    refine aw_iload4 X dX6_make_98 ?_
    refine aw_iload5 X dX6_make_100 ?_
    have ho2 := ho1.out (am_out.up (M := M2) (q := g + 1) (a := g) (b := g + 3) (e := am_ai (zG Z) 120 (upd fw' i (wk bs (i * L) (min L (bs.length - i * L)) d))) (by omega) (by omega)) (by omega)
    obtain ⟨f9, o3, -⟩ := id ho2
    refine aw_callV X (c_X4_strongSum ho2 (by omega) hw0) kX6_51 (ci := 5) rfl (o3) dX6_make_102 rfl rfl (by first | decide | exact Nat.le_of_ble_eq_true rfl) (by rw [hR]; exact ⟨by first | decide | exact Nat.le_of_ble_eq_true rfl | (dsimp only; omega), by first | decide | exact Nat.le_of_ble_eq_true rfl | (dsimp only; omega)⟩) (by rw [hR]; exact ⟨by first | decide | exact Nat.le_of_ble_eq_true rfl | (dsimp only; omega), by first | decide | exact Nat.le_of_ble_eq_true rfl | (dsimp only; omega)⟩) (fun v M3 hv => ?_)
    obtain ⟨rfl, rfl⟩ := hv
    refine aw_last X dX6_make_105 (am_k q3 (by omega)) rfl (by omega) (by decide) ?_
    refine aw_aload0 X dX6_make_106 ?_
    refine aw_dup X dX6_make_107 rfl ?_
    refine aw_get X fX6_38 dX6_make_108 ((am_un (by omega)).trans ((am_un (by omega)).trans q1)) rfl ?_
    refine aw_iconst X dX6_make_111 (v := nI 1) (by decide) ?_
    refine aw_iadd X dX6_make_112 ?_
    first | with_reducible refine aw_int (nI_add _ _) ?_ | skip
    refine aw_put6 X pX6_38 dX6_make_113 ((am_un (by omega)).trans ((am_un (by omega)).trans q1)) rfl rfl ?_
    refine aw_iload4 X dX6_make_116 ?_
    refine aw_aload0 X dX6_make_118 ?_
    refine aw_get X fX6_19 dX6_make_119 (am_us) rfl ?_
    refine aw_iadd X dX6_make_122 ?_
    first | with_reducible refine aw_int (nI_add _ _) ?_ | skip
    refine aw_istore4 X dX6_make_123 (by rw [hn]; decide) rfl ?_
    refine aw_goto X dX6_make_125 (tgt := 31) (by decide) ?_
    refine aw_drop5 ?_
    have e5 : i * L + L = (i + 1) * L := (Nat.succ_mul i L).symm
    rw [e5]
    refine ih (i + 1) _ ⟨by omega, hout.tr ((am_out.up (by omega) (by omega)).tr ((am_out.up (by omega) (by omega)).tr (am_out.up (by omega) (by omega)))), _, _, am_us, am_k (am_k am_us (by omega)) (by omega), am_k am_us (by omega), fun k hk => ?_⟩ (by omega)
    by_cases e : k = i
    · subst e
      rw [pk_us, pk_uLs]
      exact ⟨rfl, rfl⟩
    · rw [pk_un e, pk_uLn e]
      exact q4 k (by omega)
theorem c_X6_sizeOfBlock {l : Launch} {G : AG} {M : AM} {g k : Nat} {s : SG} (h : isSig G M g s) (hk : k < sgN s) : Cn l G yX6_sizeOfBlock cX6_sizeOfBlock 2 (some .int) rX6_sizeOfBlock M [.ref g, .int (nI k)] (fun v M' => M' = M ∧ v = some (.int (nI (sgL s k)))) := by
  obtain ⟨⟨v1, v2, v3, v4, v5⟩, fw, fs, h1, h2, h3, -⟩ := h
  have hlt : k * s.2.1 < s.2.2.2.length := (nb_lt v1).mp hk
  refine Cn.of (by decide) [some (.ref g), some (.int (nI k))] rfl (Nat.le_of_ble_eq_true rfl) ?_
  intro Z hZ
  obtain ⟨rfl, hn, rfl, hR, X, hr, hnm⟩ := hZ
  refine aw_aload0 X dX6_sizeOfBlock_0 ?_
  refine aw_get X fX6_19 dX6_sizeOfBlock_1 (h1) rfl ?_
  refine aw_aload0 X dX6_sizeOfBlock_4 ?_
  refine aw_get X fX6_35 dX6_sizeOfBlock_5 (h1) rfl ?_
  refine aw_iload1 X dX6_sizeOfBlock_8 ?_
  refine aw_aload0 X dX6_sizeOfBlock_9 ?_
  refine aw_get X fX6_19 dX6_sizeOfBlock_10 (h1) rfl ?_
  refine aw_imul X dX6_sizeOfBlock_13 ?_
  first | with_reducible refine aw_int (pk_mul _ _) ?_ | skip
  refine aw_isub X dX6_sizeOfBlock_14 ?_
  first | with_reducible refine aw_int (pk_sub (by omega)) ?_ | skip
  refine aw_min X kX6_41 dX6_sizeOfBlock_15 (by omega) (by omega) (by rw [hR]; first | decide | exact Nat.le_of_ble_eq_true rfl | (dsimp only; omega)) (by rw [hR]; exact Nat.le_of_ble_eq_true rfl) (by rw [hR]; exact ⟨by first | decide | exact Nat.le_of_ble_eq_true rfl | (dsimp only; omega), by first | decide | exact Nat.le_of_ble_eq_true rfl | (dsimp only; omega)⟩) ?_
  refine aw_ireturn X (ty := .int) hr (by first | rfl | decide | assumption) dX6_sizeOfBlock_18 (⟨rfl, rfl⟩)
/-- the window with q bytes left; 0: none -/
def sgQ (s : SG) (q : Nat) : Nat := if s.2.1 ≤ q then s.2.1 else if 0 < sgN s ∧ sgL s (sgN s - 1) = q then q else 0
theorem c_X6_windowFor {l : Launch} {G : AG} {M : AM} {g q : Nat} {s : SG} (h : isSig G M g s) (hq : q ≤ 120) : Cn l G yX6_windowFor cX6_windowFor 2 (some .int) rX6_windowFor M [.ref g, .int (nI q)] (fun v M' => M' = M ∧ v = some (.int (nI (sgQ s q)))) := by
  obtain ⟨⟨v1, v2, v3, v4, v5⟩, fw, fs, h1, h2, h3, -⟩ := id h
  have hnb : sgN s ≤ 120 := Nat.le_trans (nb_leN v1) v5
  refine Cn.of (by decide) [some (.ref g), some (.int (nI q))] rfl (Nat.le_of_ble_eq_true rfl) ?_
  intro Z hZ
  obtain ⟨rfl, hn, rfl, hR, X, hr, hnm⟩ := hZ
  refine aw_iload1 X dX6_windowFor_0 ?_
  refine aw_aload0 X dX6_windowFor_1 ?_
  refine aw_get X fX6_19 dX6_windowFor_2 (h1) rfl ?_
  refine aw_icmplt X dX6_windowFor_5 (tgt := 13) (by decide) (fun c => ?_) (fun c => ?_)
  · have hlt : q < s.2.1 := (nI_ltI (by omega) (by omega)).mp c
    refine aw_aload0 X dX6_windowFor_13 ?_
    refine aw_get X fX6_38 dX6_windowFor_14 (h1) rfl ?_
    refine aw_ifle X dX6_windowFor_17 (tgt := 38) (by decide) (fun c2 => ?_) (fun c2 => ?_)
    · have e : sgN s = 0 := by
        rcases Nat.eq_zero_or_pos (sgN s) with e | e
        · exact e
        · exact absurd c2 (nI_nle e (by omega))
      refine aw_iconst X dX6_windowFor_38 (v := nI 0) (by decide) ?_
      refine aw_ireturn X (ty := .int) hr (by first | rfl | decide | assumption) dX6_windowFor_39 (⟨rfl, by rw [sgQ, if_neg (by omega), if_neg (by omega)]⟩)
    · have hp : 0 < sgN s := by
        rcases Nat.eq_zero_or_pos (sgN s) with e | e
        · exact absurd (by rw [e]; decide) c2
        · exact e
      refine aw_aload0 X dX6_windowFor_20 ?_
      refine aw_aload0 X dX6_windowFor_21 ?_
      refine aw_get X fX6_38 dX6_windowFor_22 (h1) rfl ?_
      refine aw_iconst X dX6_windowFor_25 (v := nI 1) (by decide) ?_
      refine aw_isub X dX6_windowFor_26 ?_
      first | with_reducible refine aw_int (pk_sub (by omega)) ?_ | skip
      refine aw_callV X (c_X6_sizeOfBlock h (by omega)) kX6_55 (ci := 7) rfl (h1) dX6_windowFor_27 rfl rfl (by first | decide | exact Nat.le_of_ble_eq_true rfl) (by rw [hR]; exact ⟨by first | decide | exact Nat.le_of_ble_eq_true rfl | (dsimp only; omega), by first | decide | exact Nat.le_of_ble_eq_true rfl | (dsimp only; omega)⟩) (by rw [hR]; exact ⟨by first | decide | exact Nat.le_of_ble_eq_true rfl | (dsimp only; omega), by first | decide | exact Nat.le_of_ble_eq_true rfl | (dsimp only; omega)⟩) (fun v M2 hv => ?_)
      obtain ⟨rfl, rfl⟩ := hv
      have hsl : sgL s (sgN s - 1) ≤ 7 := Nat.le_trans (Nat.min_le_left _ _) v2
      refine aw_iload1 X dX6_windowFor_30 ?_
      refine aw_icmpne X dX6_windowFor_31 (tgt := 38) (by decide) (fun c3 => ?_) (fun c3 => ?_)
      · have e : sgL s (sgN s - 1) ≠ q := fun e => c3 (by rw [e])
        refine aw_iconst X dX6_windowFor_38 (v := nI 0) (by decide) ?_
        refine aw_ireturn X (ty := .int) hr (by first | rfl | decide | assumption) dX6_windowFor_39 (⟨rfl, by rw [sgQ, if_neg (by omega), if_neg (by omega)]⟩)
      · have e : sgL s (sgN s - 1) = q := (nI_eq (by omega) (by omega)).mp c3
        refine aw_iload1 X dX6_windowFor_34 ?_
        refine aw_goto X dX6_windowFor_35 (tgt := 39) (by decide) ?_
        refine aw_ireturn X (ty := .int) hr (by first | rfl | decide | assumption) dX6_windowFor_39 (⟨rfl, by rw [sgQ, if_neg (by omega), if_pos ⟨hp, e⟩]⟩)
  · have hge : s.2.1 ≤ q := by
      rcases Nat.lt_or_ge q s.2.1 with e | e
      · exact absurd (nI_lt e (by omega)) c
      · exact e
    refine aw_aload0 X dX6_windowFor_8 ?_
    refine aw_get X fX6_19 dX6_windowFor_9 (h1) rfl ?_
    refine aw_ireturn X (ty := .int) hr (by first | rfl | decide | assumption) dX6_windowFor_12 (⟨rfl, by rw [sgQ, if_pos hge]⟩)
