/-! arrays side by side -/
def tbM (G : AG) (sz : Nat → Nat) (N b : Nat) (M0 M : AM) (F : Nat → Nat → Int32) : Prop := (∀ j, j < N → M.1 (b + j) = some (am_ai G (sz j) (F j))) ∧ KE M0 M (fun q => b ≤ q ∧ q < b + N)
theorem tbM.at {G : AG} {sz : Nat → Nat} {N b : Nat} {M0 M : AM} {F : Nat → Nat → Int32} (h : tbM G sz N b M0 M F) (j : Nat) (hj : j < N) : M.1 (b + j) = some (am_ai G (sz j) (F j)) := h.1 j hj
theorem tbM.st {G : AG} {sz : Nat → Nat} {N b : Nat} {M0 M : AM} {F : Nat → Nat → Int32} (h : tbM G sz N b M0 M F) {j : Nat} (hj : j < N) (f : Nat → Int32) : tbM G sz N b M0 (am_up M (b + j) (am_ai G (sz j) f)) (va_up F j f) := by
  refine ⟨fun i hi => ?_, h.2.tr (KE.up.mono (fun q e => by omega))⟩
  by_cases e : i = j
  · subst e
    rw [am_us, va_up_self]
  · rw [am_un (by omega), va_up_ne _ _ e]
    exact h.1 i hi
theorem tbM.base {G : AG} {sz : Nat → Nat} {N b : Nat} {M0 M : AM} {F : Nat → Nat → Int32} (h : tbM G sz N b M0 M F) : tbM G sz N b M M F := ⟨h.1, KE.rf⟩
theorem tbM.out {G : AG} {sz : Nat → Nat} {N b : Nat} {M0 M : AM} {F : Nat → Nat → Int32} (h : tbM G sz N b M0 M F) {q : Nat} {e : va_E} (hq : M0.1 q = some e) (h2 : q < b ∨ b + N ≤ q) : M.1 q = some e := h.2 q e hq (by omega)
theorem aw_tst {Z : AZ} {own : String} {cc : ByteArray} {Q : State → Prop} {M0 M : AM} {k n pc : Nat} {L : List (Option Value)} {st : List Value} {sz : Nat → Nat} {N b j : Nat} {x v : Int32} {F : Nat → Nat → Int32} (X : am_X own cc Z) (a : Nat) (d : decode cc pc = .ok (.iastore, 1)) (h : tbM (zG Z) sz N b M0 M F) (ha : a < N) (hx : x = nI j) (hj : j < sz a) (hN : sz a < 2 ^ 31) (kk : ∀ M', tbM (zG Z) sz N b M0 M' (va_up F a (upd (F a) j v)) → AW Z Q M' k n (pc + 1) L st) : AW Z Q M k n pc L (.int v :: .int x :: .ref (b + a) :: st) :=
  aw_iast X d (h.at a ha) hx hj hN (kk _ (h.st ha _))
abbrev sz5 : Nat → Nat := fun j => if j = 4 then 8 else 64
/-- the five rows of a comparison on its way -/
def dwR (F : Nat → Nat → Int32) (d : Nat) (ins : List IN) (al : Nat) : Prop := F 4 d = nI ins.length ∧ F 4 (4 + d) = nI al ∧ inR (F 1) (F 2) (F 3) (16 * d) ins
/-- what a comparison leaves as it was -/
def dwO (F F' : Nat → Nat → Int32) (d : Nat) : Prop := (∀ a k, a < 4 → (k < 16 * d ∨ 16 * d + 16 ≤ k) → F' a k = F a k) ∧ ∀ j, j ≠ d → j ≠ 4 + d → F' 4 j = F 4 j
theorem dwO.rf {F : Nat → Nat → Int32} {d : Nat} : dwO F F d := ⟨fun _ _ _ _ => rfl, fun _ _ _ => rfl⟩
theorem dwO.up {F F' : Nat → Nat → Int32} {d a k : Nat} {v : Int32} (h : dwO F F' d) (ha : a < 4) (hk : 16 * d ≤ k) (hk2 : k < 16 * d + 16) : dwO F (va_up F' a (upd (F' a) k v)) d := by
  refine ⟨fun a' k' h1 h2 => ?_, fun j h1 h2 => ?_⟩
  · by_cases e : a' = a
    · subst e
      rw [va_up_self, pk_un (by omega)]
      exact h.1 _ _ h1 h2
    · rw [va_up_ne _ _ e]
      exact h.1 _ _ h1 h2
  · rw [va_up_ne _ _ (by omega)]
    exact h.2 j h1 h2
theorem dwO.up4 {F F' : Nat → Nat → Int32} {d k : Nat} {v : Int32} (h : dwO F F' d) (hk : k = d ∨ k = 4 + d) : dwO F (va_up F' 4 (upd (F' 4) k v)) d := by
  refine ⟨fun a' k' h1 h2 => ?_, fun j h1 h2 => ?_⟩
  · rw [va_up_ne _ _ (by omega)]
    exact h.1 _ _ h1 h2
  · rw [va_up_self, pk_un (by omega)]
    exact h.2 j h1 h2
theorem dwR.al {F : Nat → Nat → Int32} {d al al' : Nat} {ins : List IN} (h : dwR F d ins al) : dwR (va_up F 4 (upd (F 4) (4 + d) (nI al'))) d ins al' := by
  refine ⟨?_, ?_, h.2.2⟩
  · rw [va_up_self, pk_un (by omega)]
    exact h.1
  · rw [va_up_self, pk_us]
theorem dwR.bump {F : Nat → Nat → Int32} {d al n : Nat} {ins : List IN} (h : dwR F d ins al) (h0 : 0 < ins.length) : dwR (va_up F 3 (upd (F 3) (16 * d + ins.length - 1) (nI ((lastI ins).2.2 + n)))) d (bump ins n) al := by
  obtain ⟨w1, w2, w3⟩ := h
  refine ⟨by rw [bump_len]; exact w1, w2, fun k hk => ?_⟩
  rw [bump_len] at hk
  rw [bump_get hk]
  show F 1 (16 * d + k) = _ ∧ F 2 (16 * d + k) = _ ∧ upd (F 3) (16 * d + ins.length - 1) (nI ((lastI ins).2.2 + n)) (16 * d + k) = _
  obtain ⟨x1, x2, x3⟩ := w3 k hk
  by_cases e : k = ins.length - 1
  · rw [if_pos e, x1, x2, e, show 16 * d + (ins.length - 1) = 16 * d + ins.length - 1 by omega, pk_us]
    exact ⟨rfl, rfl, rfl⟩
  · rw [if_neg e, pk_un (by omega)]
    exact ⟨x1, x2, x3⟩
theorem dwR.push {F : Nat → Nat → Int32} {d al a n : Nat} {c : Bool} {ins : List IN} (h : dwR F d ins al) : dwR (va_up (va_up (va_up (va_up F 4 (upd (F 4) d (nI (ins.length + 1)))) 1 (upd (F 1) (16 * d + ins.length) (b2i c))) 2 (upd (F 2) (16 * d + ins.length) (nI a))) 3 (upd (F 3) (16 * d + ins.length) (nI n))) d (ins ++ [(c, a, n)]) al := by
  obtain ⟨w1, w2, w3⟩ := h
  refine ⟨?_, ?_, fun k hk => ?_⟩
  · show upd (F 4) d _ d = _
    rw [pk_us, List.length_append]
    rfl
  · show upd (F 4) d _ (4 + d) = _
    rw [pk_un (by omega)]
    exact w2
  · rw [List.length_append] at hk
    have hk2 : k < ins.length + 1 := hk
    rw [getD_app _ _ _ _ hk2]
    show upd (F 1) (16 * d + ins.length) (b2i c) (16 * d + k) = _ ∧ upd (F 2) (16 * d + ins.length) (nI a) (16 * d + k) = _ ∧ upd (F 3) (16 * d + ins.length) (nI n) (16 * d + k) = _
    by_cases e : k = ins.length
    · rw [if_pos e, e, pk_us, pk_us, pk_us]
      exact ⟨rfl, rfl, rfl⟩
    · rw [if_neg e, pk_un (by omega), pk_un (by omega), pk_un (by omega)]
      exact w3 k (by omega)
theorem dec_inc (a : Nat) : (nI a - nI 1) + Int32.ofInt 1 = nI a := Int32.sub_add_cancel (nI a) (nI 1)
theorem lt9_0 : (-9 : Int32) = lt9 none := rfl
theorem c_L_compare {l : Launch} {G : AG} {M : AM} {q0 q1 q3 b0 sg0 a d N0 N3 : Nat} {f0 f1 f3 : Nat → Int32} {F : Nat → Nat → Int32} {s : SG} {bs : List Int32} (m0 : M.1 q0 = some (am_ai G N0 f0)) (m1 : M.1 q1 = some (am_ai G 12 f1)) (m3 : M.1 q3 = some (am_ai G N3 f3)) (n0 : N0 < 2 ^ 31) (n3 : N3 < 2 ^ 31) (o0 : q0 < b0 ∨ b0 + 5 ≤ q0) (o1 : q1 < b0 ∨ b0 + 5 ≤ q1) (o3 : q3 < b0 ∨ b0 + 5 ≤ q3) (hT : tbM G sz5 5 b0 M M F) (hd : d < 4) (hg : sg0 < 4) (s1 : f1 sg0 = nI s.2.1) (s2 : f1 (4 + sg0) = nI s.2.2.1) (s3 : f1 (8 + sg0) = nI s.2.2.2.length) (hv : sgV s) (hb1 : byB s.2.2.2) (hb2 : byB bs) (hbs : bs.length ≤ 16) (hss : s.2.2.2.length ≤ 16) (l0 : 16 * sg0 + s.2.2.2.length ≤ N0) (l3 : a + bs.length ≤ N3) (r0 : bR f0 (16 * sg0) s.2.2.2) (r3 : bR f3 a bs) :
    Cn l G yL_compare cL_compare 26 none rL_compare M [.ref q0, .ref q1, .int (nI sg0), .ref q3, .int (nI a), .int (nI bs.length), .ref b0, .ref (b0 + 1), .ref (b0 + 2), .ref (b0 + 3), .ref (b0 + 4), .int (nI d)] (fun v M' => v = none ∧ ∃ F', tbM G sz5 5 b0 M M' F' ∧ dwR F' d (cmpD s bs).2.1 (cmpD s bs).2.2.1 ∧ bR (F' 0) (16 * d) bs ∧ dwO F F' d) := by
  obtain ⟨v1, v2, v3, v4, v5⟩ := id hv
  refine Cn.of (by decide) [some (.ref q0), some (.ref q1), some (.int (nI sg0)), some (.ref q3), some (.int (nI a)), some (.int (nI bs.length)), some (.ref b0), some (.ref (b0 + 1)), some (.ref (b0 + 2)), some (.ref (b0 + 3)), some (.ref (b0 + 4)), some (.int (nI d)), none, none, none, none, none, none, none, none, none, none, none, none, none, none] rfl (Nat.le_of_ble_eq_true rfl) ?_
  intro Z hZ
  obtain ⟨rfl, hn, rfl, hR, X, hr, hnm⟩ := hZ
  refine aw_aload1 X dL_compare_0 ?_
  refine aw_iload2 X dL_compare_1 ?_
  refine aw_iald X dL_compare_2 m1 rfl (by omega) (by decide) ?_
  refine aw_int s1 ?_
  refine aw_istore12 X dL_compare_3 (by rw [hn]; decide) rfl ?_
  refine aw_aload1 X dL_compare_5 ?_
  refine aw_iconst X dL_compare_6 (v := nI 4) (by decide) ?_
  refine aw_iload2 X dL_compare_7 ?_
  refine aw_iadd X dL_compare_8 ?_
  first | with_reducible refine aw_int (nI_add _ _) ?_ | skip
  refine aw_iald X dL_compare_9 m1 rfl (by omega) (by decide) ?_
  refine aw_int s2 ?_
  refine aw_istore13 X dL_compare_10 (by rw [hn]; decide) rfl ?_
  refine aw_aload1 X dL_compare_12 ?_
  refine aw_bipush X dL_compare_13 (v := nI 8) (by decide) ?_
  refine aw_iload2 X dL_compare_15 ?_
  refine aw_iadd X dL_compare_16 ?_
  first | with_reducible refine aw_int (nI_add _ _) ?_ | skip
  refine aw_iald X dL_compare_17 m1 rfl (by omega) (by decide) ?_
  refine aw_int s3 ?_
  refine aw_istore14 X dL_compare_18 (by rw [hn]; decide) rfl ?_
  refine aw_bipush X dL_compare_20 (v := nI 16) (by decide) ?_
  refine aw_iload11 X dL_compare_22 ?_
  refine aw_imul X dL_compare_24 ?_
  first | with_reducible refine aw_int (pk_mul _ _) ?_ | skip
  refine aw_istore15 X dL_compare_25 (by rw [hn]; decide) rfl ?_
  refine aw_iconst X dL_compare_27 (v := nI 0) (by decide) ?_
  refine aw_istore16 X dL_compare_28 (by rw [hn]; decide) rfl ?_
  refine aw_loopM (fun (i : Nat × Nat) M1 => i.1 ≤ bs.length ∧ ∃ F1, tbM (zG Z) sz5 5 b0 M M1 F1 ∧ dwO F F1 d ∧ ∀ k, k < i.1 → F1 0 (16 * d + k) = bs.getD k 0) (fun i => bs.length - i.1) (fun i => [some (.ref q0), some (.ref q1), some (.int (nI sg0)), some (.ref q3), some (.int (nI a)), some (.int (nI bs.length)), some (.ref b0), some (.ref (b0 + 1)), some (.ref (b0 + 2)), some (.ref (b0 + 3)), some (.ref (b0 + 4)), some (.int (nI d)), some (.int (nI s.2.1)), some (.int (nI s.2.2.1)), some (.int (nI s.2.2.2.length)), some (.int (nI (16 * d))), some (.int (nI i.1)), none, none, none, none, none, none, none, none, none]) ?_ (0, 0) ⟨Nat.zero_le _, F, hT, dwO.rf, fun k hk => absurd hk (Nat.not_lt_zero _)⟩
  rintro ⟨i, u⟩ M1 ⟨hi, F1, h1, ho1, hc1⟩ ih
  try dsimp only at hi hc1 ih ⊢
  refine aw_iload16 X dL_compare_30 ?_
  refine aw_iload5 X dL_compare_32 ?_
  refine aw_icmpge X dL_compare_34 (tgt := 58) (by decide) (fun c1 => ?_) (fun c1 => ?_)
  · have e : i = bs.length := by have := (nI_leI (by omega) (by omega)).mp c1; omega
    subst e
    clear ih
    refine aw_aload10 X dL_compare_58 ?_
    refine aw_iload11 X dL_compare_60 ?_
    refine aw_iconst X dL_compare_62 (v := nI 0) (by decide) ?_
    refine aw_tst X 4 dL_compare_63 h1 (by decide) rfl (show d < 8 by omega) (by decide) (fun M2 h2 => ?_)
    refine aw_aload10 X dL_compare_64 ?_
    refine aw_iconst X dL_compare_66 (v := nI 4) (by decide) ?_
    refine aw_iload11 X dL_compare_67 ?_
    refine aw_iadd X dL_compare_69 ?_
    first | with_reducible refine aw_int (nI_add _ _) ?_ | skip
    refine aw_iconst X dL_compare_70 (v := nI 0) (by decide) ?_
    refine aw_tst X 4 dL_compare_71 h2 (by decide) rfl (show 4 + d < 8 by omega) (by decide) (fun M3 h3 => ?_)
    rw [va_up_self, va_up2] at h3
    have ho3 := (ho1.up4 (k := d) (v := nI 0) (Or.inl rfl)).up4 (k := 4 + d) (v := nI 0) (Or.inr rfl)
    rw [va_up_self, va_up2] at ho3
    generalize hF3 : va_up F1 4 (upd (upd (F1 4) d (nI 0)) (4 + d) (nI 0)) = F3 at h3 ho3
    have w3 : dwR F3 d [] 0 := by
      rw [← hF3]
      refine ⟨?_, ?_, fun k hk => absurd hk (Nat.not_lt_zero _)⟩
      · rw [va_up_self, pk_un (by omega), pk_us]
        rfl
      · rw [va_up_self, pk_us]
    have c3 : ∀ k, k < bs.length → F3 0 (16 * d + k) = bs.getD k 0 := fun k hk => by rw [← hF3]; exact hc1 k hk
    refine aw_iconst X dL_compare_72 (v := nI 0) (by decide) ?_
    refine aw_istore16 X dL_compare_73 (by rw [hn]; decide) rfl ?_
    refine aw_bipush X dL_compare_75 (v := -9) (by decide) ?_
    refine aw_istore17 X dL_compare_77 (by rw [hn]; decide) rfl ?_
    refine aw_loopM (fun (i : Nat × CS) M4 => i.1 ≤ bs.length ∧ cinv s i.1 i.2 ∧ (∃ F4, tbM (zG Z) sz5 5 b0 M M4 F4 ∧ dwR F4 d i.2.1 i.2.2.2 ∧ dwO F F4 d ∧ F4 0 = F3 0) ∧ ∃ fu, bs.length - i.1 ≤ fu ∧ crun s bs fu i.1 i.2 = cmps s bs) (fun i => bs.length - i.1) (fun i => [some (.ref q0), some (.ref q1), some (.int (nI sg0)), some (.ref q3), some (.int (nI a)), some (.int (nI bs.length)), some (.ref b0), some (.ref (b0 + 1)), some (.ref (b0 + 2)), some (.ref (b0 + 3)), some (.ref (b0 + 4)), some (.int (nI d)), some (.int (nI s.2.1)), some (.int (nI s.2.2.1)), some (.int (nI s.2.2.2.length)), some (.int (nI (16 * d))), some (.int (nI i.1)), some (.int (lt9 i.2.2.1)), none, none, none, none, none, none, none, none]) ?_ (0, ([], none, 0)) ⟨Nat.zero_le _, cinv_0 s, ⟨F3, h3, w3, ho3, rfl⟩, bs.length, Nat.le_refl _, rfl⟩
    rintro ⟨p, ⟨ins, beh, al⟩⟩ M4 ⟨hp, hci, ⟨F4, h4, w4, ho4, hF4⟩, fu, hfu, hrun⟩ ih
    try dsimp only at hp hci w4 hfu hrun ih ⊢
    refine aw_iload16 X dL_compare_79 ?_
    refine aw_iload5 X dL_compare_81 ?_
    refine aw_icmpge X dL_compare_83 (tgt := 465) (by decide) (fun c2 => ?_) (fun c2 => ?_)
    · have e : p = bs.length := by have := (nI_leI (by omega) (by omega)).mp c2; omega
      rw [crun_stop (by omega)] at hrun
      have e2 : cmpD s bs = (true, ins, al, bs) := by rw [cmpD, ← hrun]
      refine aw_vreturn X hr dL_compare_465 (⟨rfl, F4, h4, by rw [e2]; exact w4, fun k hk => by rw [hF4]; exact c3 k hk, ho4⟩)
    · have hlt : p < bs.length := by
        rcases Nat.lt_or_ge p bs.length with q | q
        · exact q
        · exact absurd (nI_le q (by omega)) c2
      obtain ⟨i1, i2, i3⟩ := cinv_step hv hlt hci
      obtain ⟨j1, -, -, -, j5, j6, -⟩ := id hci
      try dsimp only at j1 j5 j6
      obtain ⟨w41, w42, w43⟩ := id w4
      have hbh : ∀ j, beh = some j → j < 2 ^ 31 := fun b e => by have := (j6 b e).2.2.1; have := nb_leN (n := s.2.2.2.length) v1; unfold sgN at *; omega
      have m04 := h4.out m0 o0
      have m34 := h4.out m3 o3
      refine aw_iload5 X dL_compare_86 ?_
      refine aw_iload16 X dL_compare_88 ?_
      refine aw_isub X dL_compare_90 ?_
      first | with_reducible refine aw_int (pk_sub (by omega)) ?_ | skip
      refine aw_istore18 X dL_compare_91 (by rw [hn]; decide) rfl ?_
      refine aw_spl (pm := 107) (P := fun v => v = nI (min s.2.1 (bs.length - p))) (fun K => ?_) ?_
      · refine aw_iload18 X dL_compare_93 ?_
        refine aw_iload12 X dL_compare_95 ?_
        refine aw_icmpge X dL_compare_97 (tgt := 105) (by decide) (fun c3 => ?_) (fun c3 => ?_)
        · refine aw_iload12 X dL_compare_105 ?_
          exact K _ (by rw [Nat.min_eq_left ((nI_leI (by omega) (by omega)).mp c3)])
        · refine aw_iload18 X dL_compare_100 ?_
          refine aw_goto X dL_compare_102 (tgt := 107) (by decide) ?_
          exact K _ (by
            rw [Nat.min_eq_right]
            rcases Nat.lt_or_ge (bs.length - p) s.2.1 with q | q
            · omega
            · exact absurd (nI_le q (by omega)) c3)
      · rintro _ rfl
        refine aw_istore19 X dL_compare_107 (by rw [hn]; decide) rfl ?_
        refine aw_iconst X dL_compare_109 (v := -1) (by decide) ?_
        refine aw_istore20 X dL_compare_110 (by rw [hn]; decide) rfl ?_
        refine aw_iconst X dL_compare_112 (v := nI 0) (by decide) ?_
        refine aw_istore21 X dL_compare_113 (by rw [hn]; decide) rfl ?_
        refine aw_iconst X dL_compare_115 (v := nI 0) (by decide) ?_
        refine aw_istore22 X dL_compare_116 (by rw [hn]; decide) rfl ?_
        refine cp_blk X hn hR rfl rfl m04 m34 n0 n3 l0 l3 r0 r3 hv hb1 hb2 hbs hss hlt hbh (fun c hc hc16 => ?_)
        have hwle : (min s.2.1 (bs.length - p)) ≤ 7 := by omega
        refine aw_iload15 X dL_compare_288 ?_
        refine aw_aload10 X dL_compare_290 ?_
        refine aw_iload11 X dL_compare_292 ?_
        refine aw_iald X dL_compare_294 (h4.at 4 (by decide)) rfl (show d < 8 by omega) (by decide) ?_
        refine aw_int w41 ?_
        refine aw_iadd X dL_compare_295 ?_
        first | with_reducible refine aw_int (nI_add _ _) ?_ | skip
        refine aw_iconst X dL_compare_296 (v := nI 1) (by decide) ?_
        refine aw_isub X dL_compare_297 ?_
        refine aw_istore22 X dL_compare_298 (by rw [hn]; decide) rfl ?_
        refine aw_iload20 X dL_compare_300 ?_
        -- the two ends
        cases hf : fnd (qP s bs p (min s.2.1 (bs.length - p))) (sgN s) beh with
        | some b =>
          obtain ⟨fb1, fb2⟩ := fnd_some hf
          have hbN : b ≤ 16 := by have := nb_leN (n := s.2.2.2.length) v1; unfold sgN at *; omega
          have hbL : b * s.2.1 ≤ 112 := Nat.le_trans (Nat.mul_le_mul hbN v2) (by omega)
          have ec : cstep s bs p (ins, beh, al) = ((cpI ins beh b (b * s.2.1) (min s.2.1 (bs.length - p)), some (b + 1), al), (min s.2.1 (bs.length - p))) := by simp only [cstep, hf]
          rw [ec] at i1 i2 i3
          try dsimp only at i1 i2 i3
          have fin : ∀ M5 F5, tbM (zG Z) sz5 5 b0 M M5 F5 → dwR F5 d (cpI ins beh b (b * s.2.1) (min s.2.1 (bs.length - p))) al → dwO F F5 d → F5 0 = F3 0 → ∀ (x22 : Int32), AW Z (am_Q Z (fun v M' => v = none ∧ ∃ F', tbM (zG Z) sz5 5 b0 M M' F' ∧ dwR F' d (cmpD s bs).2.1 (cmpD s bs).2.2.1 ∧ bR (F' 0) (16 * d) bs ∧ dwO F F' d) (fun _ _ => False) rL_compare.cells rL_compare.slots) M5 0 0 362 [some (.ref q0), some (.ref q1), some (.int (nI sg0)), some (.ref q3), some (.int (nI a)), some (.int (nI bs.length)), some (.ref b0), some (.ref (b0 + 1)), some (.ref (b0 + 2)), some (.ref (b0 + 3)), some (.ref (b0 + 4)), some (.int (nI d)), some (.int (nI s.2.1)), some (.int (nI s.2.2.1)), some (.int (nI s.2.2.2.length)), some (.int (nI (16 * d))), some (.int (nI p)), some (.int (lt9 beh)), some (.int (nI (bs.length - p))), some (.int (nI (min s.2.1 (bs.length - p)))), some (.int (nI b)), some (.int (nI c)), some (.int (x22)), none, none, none] [] := fun M5 F5 h5 w5 o5 e5 x22 => by
            refine aw_iload20 X dL_compare_362 ?_
            refine aw_istore17 X dL_compare_364 (by rw [hn]; decide) rfl ?_
            have el9 : nI b = lt9 (some (b + 1)) := (Int32.add_sub_cancel (nI b) (nI 1)).symm.trans (by rw [nI_add]; rfl)
            rw [el9]
            refine aw_iload16 X dL_compare_366 ?_
            refine aw_iload19 X dL_compare_368 ?_
            refine aw_iadd X dL_compare_370 ?_
            first | with_reducible refine aw_int (nI_add _ _) ?_ | skip
            refine aw_istore16 X dL_compare_371 (by rw [hn]; decide) rfl ?_
            refine aw_goto X dL_compare_373 (tgt := 462) (by decide) ?_
            have q := ih (p + (min s.2.1 (bs.length - p)), (cpI ins beh b (b * s.2.1) (min s.2.1 (bs.length - p)), some (b + 1), al)) M5 ⟨i3, i1, ⟨F5, h5, w5, o5, e5⟩, fu - 1, by dsimp only; omega, by
              obtain ⟨fu', rfl⟩ : ∃ fu', fu = fu' + 1 := ⟨fu - 1, by omega⟩
              rw [crun_go hlt, ec] at hrun
              exact hrun⟩ (by dsimp only; omega)
            refine aw_goto X dL_compare_462 (tgt := 79) (by decide) ?_
            exact aw_drop18 (aw_drop19 (aw_drop20 (aw_drop21 (aw_drop22 q))))
          refine aw_iflt X dL_compare_302 (tgt := 376) (by decide) (fun c9 => by first | exact absurd (nI_pos (by omega)) c9 | exact absurd c9 (nI_pos (by omega))) (fun _ => ?_)
          refine aw_iload20 X dL_compare_305 ?_
          refine aw_iload17 X dL_compare_307 ?_
          refine aw_iconst X dL_compare_309 (v := nI 1) (by decide) ?_
          refine aw_iadd X dL_compare_310 ?_
          refine aw_icmpne X dL_compare_311 (tgt := 327) (by decide) (fun c4 => ?_) (fun c4 => ?_)
          · have hnb : ¬ (beh = some b ∧ 0 < ins.length) := fun q => c4 ((lt9_eq (by omega) hbh).mpr q.1)
            have ecp : cpI ins beh b (b * s.2.1) (min s.2.1 (bs.length - p)) = ins ++ [(true, b * s.2.1, (min s.2.1 (bs.length - p)))] := if_neg hnb
            rw [ecp] at fin
            refine aw_iinc22 X dL_compare_327 (by rw [hn]; decide) (dec_inc _) rfl ?_
            refine aw_aload10 X dL_compare_330 ?_
            refine aw_iload11 X dL_compare_332 ?_
            refine aw_dup2 X dL_compare_334 rfl rfl ?_
            refine aw_iald X dL_compare_335 (h4.at 4 (by decide)) rfl (show d < 8 by omega) (by decide) ?_
            refine aw_int w41 ?_
            refine aw_iconst X dL_compare_336 (v := nI 1) (by decide) ?_
            refine aw_iadd X dL_compare_337 ?_
            first | with_reducible refine aw_int (nI_add _ _) ?_ | skip
            refine aw_tst X 4 dL_compare_338 h4 (by decide) rfl (show d < 8 by omega) (by decide) (fun M5 h5 => ?_)
            refine aw_aload7 X dL_compare_339 ?_
            refine aw_iload22 X dL_compare_341 ?_
            refine aw_iconst X dL_compare_343 (v := nI 1) (by decide) ?_
            refine aw_tst X 1 dL_compare_344 h5 (by decide) rfl (show 16 * d + ins.length < 64 by omega) (by decide) (fun M6 h6 => ?_)
            refine aw_aload8 X dL_compare_345 ?_
            refine aw_iload22 X dL_compare_347 ?_
            refine aw_iload20 X dL_compare_349 ?_
            refine aw_iload12 X dL_compare_351 ?_
            refine aw_imul X dL_compare_353 ?_
            first | with_reducible refine aw_int (pk_mul _ _) ?_ | skip
            refine aw_int (y := nI (b * s.2.1)) (pk_mul b s.2.1) ?_
            refine aw_tst X 2 dL_compare_354 h6 (by decide) rfl (show 16 * d + ins.length < 64 by omega) (by decide) (fun M7 h7 => ?_)
            refine aw_aload9 X dL_compare_355 ?_
            refine aw_iload22 X dL_compare_357 ?_
            refine aw_iload19 X dL_compare_359 ?_
            refine aw_tst X 3 dL_compare_361 h7 (by decide) rfl (show 16 * d + ins.length < 64 by omega) (by decide) (fun M8 h8 => ?_)
            exact fin M8 _ h8 (w4.push (a := b * s.2.1) (n := (min s.2.1 (bs.length - p))) (c := true)) ((((ho4.up4 (Or.inl rfl)).up (a := 1) (by decide) (by omega) (by omega)).up (a := 2) (by decide) (by omega) (by omega)).up (a := 3) (by decide) (by omega) (by omega)) hF4 _
          · have hb9 := (lt9_eq (by omega) hbh).mp c4
            have hl0 := (j6 b hb9).1
            have ecp : cpI ins beh b (b * s.2.1) (min s.2.1 (bs.length - p)) = bump ins (min s.2.1 (bs.length - p)) := if_pos ⟨hb9, hl0⟩
            rw [ecp] at fin
            have w3l := (w43 (ins.length - 1) (by omega)).2.2
            rw [show 16 * d + (ins.length - 1) = 16 * d + ins.length - 1 by omega] at w3l
            have hl7 : (lastI ins).2.2 ≤ 16 := by
              have := hci.2.1
              try dsimp only at this
              have hs := sumsz_app ins.dropLast [lastI ins]
              rw [← split_last hl0] at hs
              simp only [sumsz] at hs
              omega
            refine aw_aload9 X dL_compare_314 ?_
            refine aw_iload22 X dL_compare_316 ?_
            refine aw_dup2 X dL_compare_318 rfl rfl ?_
            refine aw_iald X dL_compare_319 (h4.at 3 (by decide)) (pk_sub (by omega)) (show 16 * d + ins.length - 1 < 64 by omega) (by decide) ?_
            refine aw_int (y := nI (lastI ins).2.2) w3l ?_
            refine aw_iload19 X dL_compare_320 ?_
            refine aw_iadd X dL_compare_322 ?_
            first | with_reducible refine aw_int (nI_add _ _) ?_ | skip
            refine aw_tst X 3 dL_compare_323 h4 (by decide) (pk_sub (by omega)) (show 16 * d + ins.length - 1 < 64 by omega) (by decide) (fun M5 h5 => ?_)
            refine aw_goto X dL_compare_324 (tgt := 362) (by decide) ?_
            exact fin M5 _ h5 (w4.bump hl0) (ho4.up (a := 3) (by decide) (by omega) (by omega)) hF4 _
        | none =>
          have hal : (if anyB (qW s bs p (min s.2.1 (bs.length - p))) (sgN s) = true then 1 else 0) ≤ 1 := by split <;> omega
          have ec : cstep s bs p (ins, beh, al) = ((litI ins p, none, al + if anyB (qW s bs p (min s.2.1 (bs.length - p))) (sgN s) = true then 1 else 0), 1) := by simp only [cstep, hf]
          rw [ec] at i1 i2 i3
          try dsimp only at i1 i2 i3
          obtain ⟨t, ht⟩ : ∃ t, t = (if anyB (qW s bs p (min s.2.1 (bs.length - p))) (sgN s) = true then 1 else 0) := ⟨_, rfl⟩
          rw [← ht] at i1 hal ec
          have fin : ∀ M5 F5, tbM (zG Z) sz5 5 b0 M M5 F5 → dwR F5 d (litI ins p) (al + t) → dwO F F5 d → F5 0 = F3 0 → ∀ (x22 : Int32), AW Z (am_Q Z (fun v M' => v = none ∧ ∃ F', tbM (zG Z) sz5 5 b0 M M' F' ∧ dwR F' d (cmpD s bs).2.1 (cmpD s bs).2.2.1 ∧ bR (F' 0) (16 * d) bs ∧ dwO F F' d) (fun _ _ => False) rL_compare.cells rL_compare.slots) M5 0 0 455 [some (.ref q0), some (.ref q1), some (.int (nI sg0)), some (.ref q3), some (.int (nI a)), some (.int (nI bs.length)), some (.ref b0), some (.ref (b0 + 1)), some (.ref (b0 + 2)), some (.ref (b0 + 3)), some (.ref (b0 + 4)), some (.int (nI d)), some (.int (nI s.2.1)), some (.int (nI s.2.2.1)), some (.int (nI s.2.2.2.length)), some (.int (nI (16 * d))), some (.int (nI p)), some (.int (lt9 beh)), some (.int (nI (bs.length - p))), some (.int (nI (min s.2.1 (bs.length - p)))), some (.int (behI none)), some (.int (nI c)), some (.int (x22)), none, none, none] [] := fun M5 F5 h5 w5 o5 e5 x22 => by
            refine aw_bipush X dL_compare_455 (v := -9) (by decide) ?_
            refine aw_istore17 X dL_compare_457 (by rw [hn]; decide) rfl ?_
            refine aw_iinc16 X dL_compare_459 (by rw [hn]; decide) (am_inc _ 1) rfl ?_
            have q := ih (p + 1, (litI ins p, none, al + t)) M5 ⟨i3, i1, ⟨F5, h5, w5, o5, e5⟩, fu - 1, by dsimp only; omega, by
              obtain ⟨fu', rfl⟩ : ∃ fu', fu = fu' + 1 := ⟨fu - 1, by omega⟩
              rw [crun_go hlt, ec] at hrun
              exact hrun⟩ (by dsimp only; omega)
            refine aw_goto X dL_compare_462 (tgt := 79) (by decide) ?_
            exact aw_drop18 (aw_drop19 (aw_drop20 (aw_drop21 (aw_drop22 q))))
          refine aw_iflt X dL_compare_302 (tgt := 376) (by decide) (fun _ => ?_) (fun c9 => by first | exact absurd ((by decide : (-1 : Int32) < 0)) c9 | exact absurd c9 ((by decide : (-1 : Int32) < 0)))
          refine aw_aload10 X dL_compare_376 ?_
          refine aw_iconst X dL_compare_378 (v := nI 4) (by decide) ?_
          refine aw_iload11 X dL_compare_379 ?_
          refine aw_iadd X dL_compare_381 ?_
          first | with_reducible refine aw_int (nI_add _ _) ?_ | skip
          refine aw_dup2 X dL_compare_382 rfl rfl ?_
          refine aw_iald X dL_compare_383 (h4.at 4 (by decide)) rfl (show 4 + d < 8 by omega) (by decide) ?_
          refine aw_int w42 ?_
          refine aw_spl (pm := 394) (P := fun v => v = nI t) (fun K => ?_) ?_
          · refine aw_iload21 X dL_compare_384 ?_
            refine aw_ifle X dL_compare_386 (tgt := 393) (by decide) (fun c4 => ?_) (fun c4 => ?_)
            · refine aw_iconst X dL_compare_393 (v := nI 0) (by decide) ?_
              refine K _ ?_
              have : c = 0 := by have := (nI_leI (b := 0) (by omega) (by omega)).mp c4; omega
              rw [ht, if_neg (fun q => absurd (hc.mpr q) (by omega))]
            · refine aw_iconst X dL_compare_389 (v := nI 1) (by decide) ?_
              refine aw_goto X dL_compare_390 (tgt := 394) (by decide) ?_
              refine K _ ?_
              have : 0 < c := by
                rcases Nat.eq_zero_or_pos c with q | q
                · rw [q] at c4; exact absurd (by decide) c4
                · exact q
              rw [ht, if_pos (hc.mp this)]
          · rintro _ rfl
            refine aw_iadd X dL_compare_394 ?_
            first | with_reducible refine aw_int (nI_add _ _) ?_ | skip
            refine aw_tst X 4 dL_compare_395 h4 (by decide) rfl (show 4 + d < 8 by omega) (by decide) (fun M5 h5 => ?_)
            have w5 := w4.al (al' := al + t)
            have o5 := ho4.up4 (k := 4 + d) (v := nI (al + t)) (Or.inr rfl)
            generalize hF5 : va_up F4 4 (upd (F4 4) (4 + d) (nI (al + t))) = F5 at h5 w5 o5
            have hF50 : F5 0 = F3 0 := by rw [← hF5]; exact hF4
            obtain ⟨w51, w52, w53⟩ := id w5
            have push : AW Z (am_Q Z (fun v M' => v = none ∧ ∃ F', tbM (zG Z) sz5 5 b0 M M' F' ∧ dwR F' d (cmpD s bs).2.1 (cmpD s bs).2.2.1 ∧ bR (F' 0) (16 * d) bs ∧ dwO F F' d) (fun _ _ => False) rL_compare.cells rL_compare.slots) M5 0 0 424 [some (.ref q0), some (.ref q1), some (.int (nI sg0)), some (.ref q3), some (.int (nI a)), some (.int (nI bs.length)), some (.ref b0), some (.ref (b0 + 1)), some (.ref (b0 + 2)), some (.ref (b0 + 3)), some (.ref (b0 + 4)), some (.int (nI d)), some (.int (nI s.2.1)), some (.int (nI s.2.2.1)), some (.int (nI s.2.2.2.length)), some (.int (nI (16 * d))), some (.int (nI p)), some (.int (lt9 beh)), some (.int (nI (bs.length - p))), some (.int (nI (min s.2.1 (bs.length - p)))), some (.int (behI none)), some (.int (nI c)), some (.int (nI (16 * d + ins.length) - nI 1)), none, none, none] [] ∨ (0 < ins.length ∧ (lastI ins).1 = false) := by
              by_cases hl9 : 0 < ins.length ∧ (lastI ins).1 = false
              · exact Or.inr hl9
              · refine Or.inl ?_
                have elt : litI ins p = ins ++ [(false, p, 1)] := if_neg hl9
                rw [elt] at fin
                refine aw_iinc22 X dL_compare_424 (by rw [hn]; decide) (dec_inc _) rfl ?_
                refine aw_aload10 X dL_compare_427 ?_
                refine aw_iload11 X dL_compare_429 ?_
                refine aw_dup2 X dL_compare_431 rfl rfl ?_
                refine aw_iald X dL_compare_432 (h5.at 4 (by decide)) rfl (show d < 8 by omega) (by decide) ?_
                refine aw_int w51 ?_
                refine aw_iconst X dL_compare_433 (v := nI 1) (by decide) ?_
                refine aw_iadd X dL_compare_434 ?_
                first | with_reducible refine aw_int (nI_add _ _) ?_ | skip
                refine aw_tst X 4 dL_compare_435 h5 (by decide) rfl (show d < 8 by omega) (by decide) (fun M6 h6 => ?_)
                refine aw_aload7 X dL_compare_436 ?_
                refine aw_iload22 X dL_compare_438 ?_
                refine aw_iconst X dL_compare_440 (v := nI 0) (by decide) ?_
                refine aw_tst X 1 dL_compare_441 h6 (by decide) rfl (show 16 * d + ins.length < 64 by omega) (by decide) (fun M7 h7 => ?_)
                refine aw_aload8 X dL_compare_442 ?_
                refine aw_iload22 X dL_compare_444 ?_
                refine aw_iload16 X dL_compare_446 ?_
                refine aw_tst X 2 dL_compare_448 h7 (by decide) rfl (show 16 * d + ins.length < 64 by omega) (by decide) (fun M8 h8 => ?_)
                refine aw_aload9 X dL_compare_449 ?_
                refine aw_iload22 X dL_compare_451 ?_
                refine aw_iconst X dL_compare_453 (v := nI 1) (by decide) ?_
                refine aw_tst X 3 dL_compare_454 h8 (by decide) rfl (show 16 * d + ins.length < 64 by omega) (by decide) (fun M9 h9 => ?_)
                exact fin M9 _ h9 (w5.push (a := p) (n := 1) (c := false)) ((((o5.up4 (Or.inl rfl)).up (a := 1) (by decide) (by omega) (by omega)).up (a := 2) (by decide) (by omega) (by omega)).up (a := 3) (by decide) (by omega) (by omega)) hF50 _
            refine aw_aload10 X dL_compare_396 ?_
            refine aw_iload11 X dL_compare_398 ?_
            refine aw_iald X dL_compare_400 (h5.at 4 (by decide)) rfl (show d < 8 by omega) (by decide) ?_
            refine aw_int w51 ?_
            refine aw_ifle X dL_compare_401 (tgt := 424) (by decide) (fun c5 => ?_) (fun c5 => ?_)
            · have hl9 : ins.length = 0 := by have := (nI_leI (b := 0) (by omega) (by omega)).mp c5; omega
              rcases push with q | q
              · exact q
              · omega
            · have hl0 : 0 < ins.length := by
                rcases Nat.eq_zero_or_pos ins.length with q | q
                · rw [q] at c5; exact absurd (by decide) c5
                · exact q
              have w3l := w53 (ins.length - 1) (by omega)
              rw [show 16 * d + (ins.length - 1) = 16 * d + ins.length - 1 by omega] at w3l
              refine aw_aload7 X dL_compare_404 ?_
              refine aw_iload22 X dL_compare_406 ?_
              refine aw_iald X dL_compare_408 (h5.at 1 (by decide)) (pk_sub (by omega)) (show 16 * d + ins.length - 1 < 64 by omega) (by decide) ?_
              refine aw_int (y := b2i (lastI ins).1) w3l.1 ?_
              refine aw_ifne X dL_compare_409 (tgt := 424) (by decide) (fun c6 => ?_) (fun c6 => ?_)
              · rcases push with q | q
                · exact q
                · exact absurd (b2i_0.mpr q.2) c6
              · have hl9 := b2i_0.mp c6
                have elt : litI ins p = bump ins 1 := if_pos ⟨hl0, hl9⟩
                rw [elt] at fin
                have hl7 : (lastI ins).2.2 ≤ 16 := by
                  have := hci.2.1
                  try dsimp only at this
                  have hs := sumsz_app ins.dropLast [lastI ins]
                  rw [← split_last hl0] at hs
                  simp only [sumsz] at hs
                  omega
                refine aw_aload9 X dL_compare_412 ?_
                refine aw_iload22 X dL_compare_414 ?_
                refine aw_dup2 X dL_compare_416 rfl rfl ?_
                refine aw_iald X dL_compare_417 (h5.at 3 (by decide)) (pk_sub (by omega)) (show 16 * d + ins.length - 1 < 64 by omega) (by decide) ?_
                refine aw_int (y := nI (lastI ins).2.2) w3l.2.2 ?_
                refine aw_iconst X dL_compare_418 (v := nI 1) (by decide) ?_
                refine aw_iadd X dL_compare_419 ?_
                first | with_reducible refine aw_int (nI_add _ _) ?_ | skip
                refine aw_tst X 3 dL_compare_420 h5 (by decide) (pk_sub (by omega)) (show 16 * d + ins.length - 1 < 64 by omega) (by decide) (fun M6 h6 => ?_)
                refine aw_goto X dL_compare_421 (tgt := 455) (by decide) ?_
                exact fin M6 _ h6 (w5.bump hl0) (o5.up (a := 3) (by decide) (by omega) (by omega)) hF50 _
  · have hlt : i < bs.length := by
      rcases Nat.lt_or_ge i bs.length with q | q
      · exact q
      · exact absurd (nI_le q (by omega)) c1
    have m31 := h1.out m3 o3
    refine aw_aload6 X dL_compare_37 ?_
    refine aw_iload15 X dL_compare_39 ?_
    refine aw_iload16 X dL_compare_41 ?_
    refine aw_iadd X dL_compare_43 ?_
    first | with_reducible refine aw_int (nI_add _ _) ?_ | skip
    refine aw_aload3 X dL_compare_44 ?_
    refine aw_iload4 X dL_compare_45 ?_
    refine aw_iload16 X dL_compare_47 ?_
    refine aw_iadd X dL_compare_49 ?_
    first | with_reducible refine aw_int (nI_add _ _) ?_ | skip
    refine aw_iald X dL_compare_50 m31 rfl (by omega) n3 ?_
    refine aw_int (y := bs.getD i 0) (r3 i hlt) ?_
    refine aw_tst X 0 dL_compare_51 h1 (by decide) rfl (show 16 * d + i < 64 by omega) (by decide) (fun M2 h2 => ?_)
    refine aw_iinc16 X dL_compare_52 (by rw [hn]; decide) (am_inc _ 1) rfl ?_
    refine aw_goto X dL_compare_55 (tgt := 30) (by decide) ?_
    refine ih (i + 1, u) M2 ⟨hlt, _, h2, ho1.up (a := 0) (by decide) (by omega) (by omega), fun k hk => ?_⟩ (by dsimp only; omega)
    try dsimp only at hk
    rw [va_up_self]
    by_cases e : k = i
    · rw [e, pk_us]
    · rw [pk_un (by omega)]
      exact hc1 k (by omega)
