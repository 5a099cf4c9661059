theorem aw_loopK {Z : AZ} {Q : State → Prop} {pc : Nat} {σ : Type} (I : σ → Prop) (μ : σ → Nat) (FM : σ → AM) (FK FN : σ → Nat) (FL : σ → List (Option Value)) (hs : ∀ s, I s → (∀ s', I s' → μ s' < μ s → AW Z Q (FM s') (FK s') (FN s') pc (FL s') []) → AW Z Q (FM s) (FK s) (FN s) pc (FL s) []) (s0 : σ) (h0 : I s0) : AW Z Q (FM s0) (FK s0) (FN s0) pc (FL s0) [] := by
  have key : ∀ (d : Nat) (s : σ), μ s < d → I s → AW Z Q (FM s) (FK s) (FN s) pc (FL s) [] := by
    intro d
    induction d with
    | zero => exact fun s h _ => absurd h (Nat.not_lt_zero _)
    | succ d ih => exact fun s h hI => hs s hI (fun s' hI' hl => ih s' (by omega) hI')
  exact key (μ s0 + 1) s0 (Nat.lt_succ_self _) h0
theorem aw_cast {Z : AZ} {own : String} {cc : ByteArray} {Q : State → Prop} {M : AM} {k n pc : Nat} {L : List (Option Value)} {st : List Value} (X : am_X own cc Z) {a idx : Nat} {vs : List Value} (hcl : Cond.classLink own idx RX1 ∈ lw_tbl) (d : decode cc pc = .ok (.checkcast idx, 3)) (hM : M.1 a = some (.inr (2, vs))) (kk : AW Z Q M k n (pc + 3) L (.ref a :: st)) : AW Z Q M k n pc L (.ref a :: st) := by
  intro H locs ls hH hS hL
  have hr : ∃ cell : Cell, H[a]? = some cell ∧ cell.vm.isStatics = false ∧ (zs Z).vm.findClass RX1 = some cell.cls := by
    obtain ⟨r', hr', cellV, g1, g3, g2, -⟩ := (hH.1 a _ hM).1
    cases hr'
    have hcls := (X.K.1 2 _ rfl).2.1
    exact ⟨cellV, g1, by rw [g2]; rfl, by rw [g3]; exact hcls⟩
  exact va_castE X.1 X.2.1 X.2.2.2.1 (X.w hcl rfl) hr d (kk H locs ls hH hS hL)
theorem nI_half {c : Nat} (h : c < 4096) : nI c >>> (nI 1 &&& 31) = nI (c / 2) := by
  have key : ∀ i j : Fin 64, nI (64 * i.1 + j.1) >>> (nI 1 &&& 31) = nI ((64 * i.1 + j.1) / 2) := by decide +kernel
  have := key ⟨c / 64, by omega⟩ ⟨c % 64, by omega⟩
  dsimp only at this
  rw [show 64 * (c / 64) + c % 64 = c by omega] at this
  exact this
def gcap (cap : Nat) : Nat := if cap = 0 then 10 else cap + max 1 (cap / 2)
theorem gcap_b (cap : Nat) : cap < gcap cap ∧ gcap cap ≤ 10 + cap + cap / 2 ∧ gcap cap ≤ 4 * (gcap cap - cap) := by
  unfold gcap
  split <;> omega
def lsC (len cap : Nat) : Nat := if len = cap then 1 else 0
def lsS (len cap : Nat) : Nat := if len = cap then gcap cap else 0
def lsN (len cap : Nat) : Nat := if len = cap then gcap cap else cap
theorem cpy00 {f g : Nat → Option Nat} {n i : Nat} : va_cpy f g 0 0 n i = if i < n then f i else g i := by
  simp [va_cpy]
theorem aw_lsalen {Z : AZ} {own : String} {cc : ByteArray} {Q : State → Prop} {M : AM} {k n pc : Nat} {L : List (Option Value)} {st : List Value} (X : am_X own cc Z) {O e cap : Nat} {xs : List Nat} (h : isLs (zG Z) M O e cap xs) (d : decode cc pc = .ok (.arraylength, 1)) (kk : AW Z Q M k n (pc + 1) L (.int (nI cap) :: st)) : AW Z Q M k n pc L (.ref e :: st) := by
  obtain ⟨mc, h1, h2, h3⟩ := h
  rcases h3 with ⟨h3, h4⟩ | ⟨h3, f, h4, h5, h6⟩
  · subst h3
    subst h4
    exact aw_alenD X d kk
  · exact aw_alen X d h4 (t := 8) rfl rfl kk
theorem c_ls_grow1 {l : Launch} {G : AG} {M : AM} {L e cap : Nat} {xs : List Nat} (h : isLs G M L e cap xs) (hl : xs.length = cap) (hcs : isCs M xs) (hcap : cap ≤ 2500) : Cn l G yJx4a65c_grow_92f84 cJx4a65c_grow_92f84 4 (some (.array (.object "java/lang/Object"))) { rJx4a65c_grow_92f84 with cells := 1, slots := gcap cap } M [.ref L, .int (nI (cap + 1))] (fun v M' => ∃ e', v = some (.ref e') ∧ (∀ q x, M.1 q = some x → q < e') ∧ isLs G M' L e' (gcap cap) xs ∧ ∀ q, q ≠ L → q ≠ e' → M'.1 q = M.1 q) := by
  obtain ⟨mc, h1, h2, h3⟩ := id h
  have hg := gcap_b cap
  rcases h3 with ⟨h3, h4⟩ | ⟨h3, f, h4, h5, h6⟩
  · subst h3
    subst h4
    refine Cn.ofF (by decide +kernel) [some (.ref L), some (.int (nI (0 + 1))), none, none] rfl (Nat.le_of_ble_eq_true rfl) ?_
    intro Z hZ
    obtain ⟨rfl, hn, rfl, hR, X, hr, hnm⟩ := hZ
    refine aw_aload0 X dJx4a65c_grow_92f84_0 ?_
    refine aw_get X fJx4a65c_9 dJx4a65c_grow_92f84_1 (h1) rfl ?_
    refine aw_alenD X dJx4a65c_grow_92f84_4 ?_
    refine aw_istore2 X dJx4a65c_grow_92f84_5 (by rw [hn]; decide) rfl ?_
    refine aw_iload2 X dJx4a65c_grow_92f84_6 ?_
    refine aw_ifgt X dJx4a65c_grow_92f84_7 (tgt := 20) (by decide) (fun c9 => by first | exact absurd (nI_nlt (a := 0) (b := 0) (by omega) (by omega)) c9 | exact absurd c9 (nI_nlt (a := 0) (b := 0) (by omega) (by omega))) (fun _ => ?_)
    refine aw_aload0 X dJx4a65c_grow_92f84_10 ?_
    refine aw_get X fJx4a65c_9 dJx4a65c_grow_92f84_11 (h1) rfl ?_
    refine aw_getsD X dJx4a65c_grow_92f84_14 ?_
    refine aw_acmpeqR X dJx4a65c_grow_92f84_17 (tgt := 45) (by decide) (fun _ => ?_) (fun c => absurd rfl c)
    refine aw_aload0 X dJx4a65c_grow_92f84_45 ?_
    refine aw_bipush X dJx4a65c_grow_92f84_46 (v := nI 10) (by decide) ?_
    refine aw_iload1 X dJx4a65c_grow_92f84_48 ?_
    refine aw_max X kJx4a65c_79 dJx4a65c_grow_92f84_49 (by omega) (by omega) (by rw [hR]; first | decide | exact Nat.le_of_ble_eq_true rfl | (dsimp only; omega)) (by rw [hR]; exact Nat.le_of_ble_eq_true rfl) (by rw [hR]; exact ⟨by first | decide | exact Nat.le_of_ble_eq_true rfl | (dsimp only; omega), by first | decide | exact Nat.le_of_ble_eq_true rfl | (dsimp only; omega)⟩) ?_
    refine aw_newq X at_8 cnJx4a65c_7 ao_Object dJx4a65c_grow_92f84_52 (N := 10) rfl (by decide) (by rw [hR]; exact Nat.le_refl 1) (by rw [hR]; show 0 + 10 ≤ gcap 0; decide) (fun q hqA hlt hz => ?_)
    have hq : L ≠ q := fun e0 => by have := hlt L _ h1; omega
    refine aw_dup_x1 X dJx4a65c_grow_92f84_55 rfl rfl ?_
    refine aw_put1 X pJx4a65c_9 dJx4a65c_grow_92f84_56 ((am_nn hq).trans h1) rfl rfl ?_
    refine aw_widen (k' := 1) (n' := gcap 0) (by omega) (by show 0 + 10 ≤ gcap 0; decide) ?_
    refine aw_areturn X hr (Or.inr ⟨_, rfl⟩) (Or.inr ⟨_, rfl⟩) dJx4a65c_grow_92f84_59 ?_
    refine ⟨q, rfl, hlt, ⟨mc, am_us, by omega, Or.inr ⟨by omega, fun _ => none, (am_un (Ne.symm hq)).trans am_ns, fun i hi => absurd hi (by omega), fun _ _ => rfl⟩⟩, fun j j1 j2 => (am_un j1).trans (am_nn j2)⟩
  · have hel : ∀ i y, i < cap → f i = some y → ∃ vs, M.1 y = some (.inr (2, vs)) := fun i y hi hy => by
      rw [h5 i (by omega)] at hy
      cases hy
      refine hcs _ ?_
      rw [List.getD_eq_getElem?_getD, List.getElem?_eq_getElem (by omega)]
      exact List.getElem_mem _
    refine Cn.ofF (by decide +kernel) [some (.ref L), some (.int (nI (cap + 1))), none, none] rfl (Nat.le_of_ble_eq_true rfl) ?_
    intro Z hZ
    obtain ⟨rfl, hn, rfl, hR, X, hr, hnm⟩ := hZ
    refine aw_aload0 X dJx4a65c_grow_92f84_0 ?_
    refine aw_get X fJx4a65c_9 dJx4a65c_grow_92f84_1 (h1) rfl ?_
    refine aw_alen X dJx4a65c_grow_92f84_4 (h4) (t := 8) rfl rfl ?_
    refine aw_istore2 X dJx4a65c_grow_92f84_5 (by rw [hn]; decide) rfl ?_
    refine aw_iload2 X dJx4a65c_grow_92f84_6 ?_
    refine aw_ifgt X dJx4a65c_grow_92f84_7 (tgt := 20) (by decide) (fun _ => ?_) (fun c9 => by first | exact absurd (nI_lt (a := 0) h3 (by omega)) c9 | exact absurd c9 (nI_lt (a := 0) h3 (by omega)))
    refine aw_iload2 X dJx4a65c_grow_92f84_20 ?_
    refine aw_iload1 X dJx4a65c_grow_92f84_21 ?_
    refine aw_iload2 X dJx4a65c_grow_92f84_22 ?_
    refine aw_isub X dJx4a65c_grow_92f84_23 ?_
    first | with_reducible refine aw_int (pk_sub (by omega)) ?_ | skip
    refine aw_iload2 X dJx4a65c_grow_92f84_24 ?_
    refine aw_iconst X dJx4a65c_grow_92f84_25 (v := nI 1) (by decide) ?_
    refine aw_ishr X dJx4a65c_grow_92f84_26 ?_
    refine aw_int (nI_half (by omega)) ?_
    refine aw_callS X (c_newLen (a := cap) (b := cap + 1 - cap) (c0 := cap / 2) ⟨h3, by omega⟩ (by omega) (by omega)) kJx4a65c_73 dJx4a65c_grow_92f84_27 rfl rfl (by first | decide | exact Nat.le_of_ble_eq_true rfl) (by rw [hR]; exact ⟨by first | decide | exact Nat.le_of_ble_eq_true rfl | (dsimp only; omega), by first | decide | exact Nat.le_of_ble_eq_true rfl | (dsimp only; omega)⟩) (by rw [hR]; exact ⟨by first | decide | exact Nat.le_of_ble_eq_true rfl | (dsimp only; omega), by first | decide | exact Nat.le_of_ble_eq_true rfl | (dsimp only; omega)⟩) (fun v M1 hv => ?_)
    obtain ⟨rfl, rfl⟩ := hv
    refine aw_int (y := nI (gcap cap)) (by congr 1; unfold gcap; rw [if_neg (by omega)]; omega) ?_
    refine aw_istore3 X dJx4a65c_grow_92f84_30 (by rw [hn]; decide) rfl ?_
    refine aw_aload0 X dJx4a65c_grow_92f84_31 ?_
    refine aw_aload0 X dJx4a65c_grow_92f84_32 ?_
    refine aw_get X fJx4a65c_9 dJx4a65c_grow_92f84_33 (h1) rfl ?_
    refine aw_iload3 X dJx4a65c_grow_92f84_36 ?_
    refine aw_callS X (c_copyOf2 (N := gcap cap) h4 (by omega) (by omega) hel) kJx4a65c_66 dJx4a65c_grow_92f84_37 rfl rfl (by first | decide | exact Nat.le_of_ble_eq_true rfl) (by rw [hR]; exact ⟨by first | decide | exact Nat.le_of_ble_eq_true rfl | (dsimp only; omega), by first | decide | exact Nat.le_of_ble_eq_true rfl | (dsimp only; omega)⟩) (by rw [hR]; exact ⟨Nat.le_refl 1, by show 0 + gcap cap ≤ gcap cap; omega⟩) (fun v M1 hv => ?_)
    obtain ⟨e', rfl, hfr, hM1, hout⟩ := hv
    have hq : L ≠ e' := fun e0 => by have := hfr L _ h1; omega
    refine aw_dup_x1 X dJx4a65c_grow_92f84_40 rfl rfl ?_
    refine aw_put1 X pJx4a65c_9 dJx4a65c_grow_92f84_41 ((hout _ hq).trans h1) rfl rfl ?_
    refine aw_widen (k' := 1) (n' := gcap cap) (Nat.le_refl 1) (by show 0 + gcap cap ≤ gcap cap; omega) ?_
    refine aw_areturn X hr (Or.inr ⟨_, rfl⟩) (Or.inr ⟨_, rfl⟩) dJx4a65c_grow_92f84_44 ?_
    refine ⟨e', rfl, hfr, ⟨mc, am_us, by omega, Or.inr ⟨by omega, _, (am_un (Ne.symm hq)).trans hM1, fun i hi => ?_, fun i hi => ?_⟩⟩, fun j j1 j2 => (am_un j1).trans (hout j j2)⟩
    · rw [cpy00, if_pos (by omega)]
      exact h5 i hi
    · rw [cpy00, if_neg (by omega)]
theorem c_ls_grow0 {l : Launch} {G : AG} {M : AM} {L e cap : Nat} {xs : List Nat} (h : isLs G M L e cap xs) (hl : xs.length = cap) (hcs : isCs M xs) (hcap : cap ≤ 2500) : Cn l G yJx4a65c_grow_d5877 cJx4a65c_grow_d5877 1 (some (.array (.object "java/lang/Object"))) { rJx4a65c_grow_d5877 with cells := 1, slots := gcap cap } M [.ref L] (fun v M' => ∃ e', v = some (.ref e') ∧ (∀ q x, M.1 q = some x → q < e') ∧ isLs G M' L e' (gcap cap) xs ∧ ∀ q, q ≠ L → q ≠ e' → M'.1 q = M.1 q) := by
  obtain ⟨mc, h1, -⟩ := id h
  refine Cn.ofF (by decide +kernel) [some (.ref L)] rfl (Nat.le_of_ble_eq_true rfl) ?_
  intro Z hZ
  obtain ⟨rfl, hn, rfl, hR, X, hr, hnm⟩ := hZ
  refine aw_aload0 X dJx4a65c_grow_d5877_0 ?_
  refine aw_aload0 X dJx4a65c_grow_d5877_1 ?_
  refine aw_get X fJx4a65c_48 dJx4a65c_grow_d5877_2 (h1) rfl ?_
  refine aw_iconst X dJx4a65c_grow_d5877_5 (v := nI 1) (by decide) ?_
  refine aw_iadd X dJx4a65c_grow_d5877_6 ?_
  first | with_reducible refine aw_int (nI_add _ _) ?_ | skip
  refine aw_int (y := nI (cap + 1)) (by rw [hl]) ?_
  refine aw_callV X (c_ls_grow1 h hl hcs hcap) kJx4a65c_69 (ci := 0) rfl (h1) dJx4a65c_grow_d5877_7 rfl rfl (by first | decide | exact Nat.le_of_ble_eq_true rfl) (by rw [hR]; exact ⟨by first | decide | exact Nat.le_of_ble_eq_true rfl | (dsimp only; omega), by first | decide | exact Nat.le_of_ble_eq_true rfl | (dsimp only; omega)⟩) (by rw [hR]; exact ⟨Nat.le_refl 1, by show 0 + gcap cap ≤ gcap cap; omega⟩) (fun v M1 hv => ?_)
  obtain ⟨e', rfl, hv⟩ := hv
  refine aw_widen (k' := 1) (n' := gcap cap) (Nat.le_refl 1) (by show 0 + gcap cap ≤ gcap cap; omega) ?_
  refine aw_areturn X hr (Or.inr ⟨_, rfl⟩) (Or.inr ⟨_, rfl⟩) dJx4a65c_grow_d5877_10 ?_
  exact ⟨e', rfl, hv⟩
theorem isLs.mc {G : AG} {M : AM} {L e cap : Nat} {xs : List Nat} (h : isLs G M L e cap xs) (mc : Int32) : isLs G (am_up M L (am_o 0 [.int mc, .ref e, .int (nI xs.length)])) L e cap xs := by
  obtain ⟨m0, h1, h2, h3⟩ := h
  refine ⟨mc, am_us, h2, ?_⟩
  rcases h3 with h3 | ⟨h3, f, h4, h5⟩
  · exact Or.inl h3
  · exact Or.inr ⟨h3, f, (am_un (fun e0 => by rw [e0, h1] at h4; cases h4)).trans h4, h5⟩
theorem isLs.push {G : AG} {M : AM} {L e cap c : Nat} {xs : List Nat} (h : isLs G M L e cap xs) (hlt : xs.length < cap) (mc : Int32) : ∃ f : Nat → Option Nat, L ≠ e ∧ M.1 e = some (am_aq G 8 cap f) ∧ isLs G (am_up (am_up M e (am_aq G 8 cap (va_up f xs.length (some c)))) L (am_o 0 [.int mc, .ref e, .int (nI (xs.length + 1))])) L e cap (xs ++ [c]) := by
  obtain ⟨m0, h1, h2, h3⟩ := h
  rcases h3 with ⟨h3, -⟩ | ⟨h3, f, h4, h5, h6⟩
  · omega
  · have hne : L ≠ e := fun e0 => by rw [← e0, h1] at h4; cases h4
    refine ⟨f, hne, h4, mc, ?_, by simp; omega, Or.inr ⟨h3, _, (am_un (Ne.symm hne)).trans am_us, fun i hi => ?_, fun i hi => ?_⟩⟩
    · rw [List.length_append]
      exact am_us
    · by_cases e1 : i = xs.length
      · subst e1
        rw [va_up_self]
        simp
      · rw [va_up_ne _ _ e1, h5 i (by simp at hi; omega)]
        simp at hi
        rw [List.getD_eq_getElem?_getD, List.getD_eq_getElem?_getD, List.getElem?_append_left (by omega)]
    · simp at hi
      rw [va_up_ne _ _ (by omega)]
      exact h6 i (by omega)
theorem c_ls_add3 {l : Launch} {G : AG} {M : AM} {L e cap c : Nat} {xs : List Nat} {vs : List Value} (h : isLs G M L e cap xs) (hcs : isCs M xs) (hc : M.1 c = some (.inr (2, vs))) (hcap : cap ≤ 2500) : Cn l G yJx4a65c_add_72be8 cJx4a65c_add_72be8 4 none { rJx4a65c_add_72be8 with cells := lsC xs.length cap, slots := lsS xs.length cap } M [.ref L, .ref c, .ref e, .int (nI xs.length)] (fun v M' => v = none ∧ ∃ e', ((0 < cap ∧ e' = e) ∨ ∀ q x, M.1 q = some x → q < e') ∧ isLs G M' L e' (lsN xs.length cap) (xs ++ [c]) ∧ ∀ q x, M.1 q = some x → q ≠ L → (0 < cap → q ≠ e) → M'.1 q = some x) := by
  obtain ⟨mc, h1, h2, h3⟩ := id h
  have hg := gcap_b cap
  have hcL : c ≠ L := fun e0 => by rw [e0, h1] at hc; cases hc
  by_cases hl : xs.length = cap
  · have eC : lsC xs.length cap = 1 := if_pos hl
    have eS : lsS xs.length cap = gcap cap := if_pos hl
    have eN : lsN xs.length cap = gcap cap := if_pos hl
    rw [eC, eS, eN]
    refine Cn.ofF (by decide +kernel) [some (.ref L), some (.ref c), some (.ref e), some (.int (nI xs.length))] rfl (Nat.le_of_ble_eq_true rfl) ?_
    intro Z hZ
    obtain ⟨rfl, hn, rfl, hR, X, hr, hnm⟩ := hZ
    refine aw_iload3 X dJx4a65c_add_72be8_0 ?_
    refine aw_aload2 X dJx4a65c_add_72be8_1 ?_
    refine aw_lsalen X h dJx4a65c_add_72be8_2 ?_
    refine aw_icmpne X dJx4a65c_add_72be8_3 (tgt := 11) (by decide) (fun c9 => by first | exact absurd (congrArg nI hl) c9 | exact absurd c9 (congrArg nI hl)) (fun _ => ?_)
    refine aw_aload0 X dJx4a65c_add_72be8_6 ?_
    refine aw_callV X (c_ls_grow0 h hl hcs hcap) kJx4a65c_129 (ci := 0) rfl (h1) dJx4a65c_add_72be8_7 rfl rfl (by first | decide | exact Nat.le_of_ble_eq_true rfl) (by rw [hR]; exact ⟨by first | decide | exact Nat.le_of_ble_eq_true rfl | (dsimp only; omega), by first | decide | exact Nat.le_of_ble_eq_true rfl | (dsimp only; omega)⟩) (by rw [hR]; exact ⟨Nat.le_refl 1, by show 0 + gcap cap ≤ gcap cap; omega⟩) (fun v M1 hv => ?_)
    obtain ⟨e', rfl, hfr, hls, hout⟩ := hv
    obtain ⟨mc1, hL1, -⟩ := id hls
    obtain ⟨f, hne, hf, hpush⟩ := hls.push (c := c) (by omega) mc1
    have hc1 : M1.1 c = some (.inr (2, vs)) := (hout c hcL (by have := hfr c _ hc; omega)).trans hc
    refine aw_astore2 X dJx4a65c_add_72be8_10 (by rw [hn]; decide) rfl ?_
    refine aw_aload2 X dJx4a65c_add_72be8_11 ?_
    refine aw_iload3 X dJx4a65c_add_72be8_12 ?_
    refine aw_aload1 X dJx4a65c_add_72be8_13 ?_
    refine aw_aast X as_2_8 dJx4a65c_add_72be8_14 hf hc1 rfl (by omega) (by omega) ?_
    refine aw_aload0 X dJx4a65c_add_72be8_15 ?_
    refine aw_iload3 X dJx4a65c_add_72be8_16 ?_
    refine aw_iconst X dJx4a65c_add_72be8_17 (v := nI 1) (by decide) ?_
    refine aw_iadd X dJx4a65c_add_72be8_18 ?_
    first | with_reducible refine aw_int (nI_add _ _) ?_ | skip
    refine aw_put2 X pJx4a65c_48 dJx4a65c_add_72be8_19 ((am_un hne).trans hL1) rfl rfl ?_
    refine aw_widen (k' := 1) (n' := gcap cap) (Nat.le_refl 1) (by show 0 + gcap cap ≤ gcap cap; omega) ?_
    refine aw_vreturn X hr dJx4a65c_add_72be8_22 (⟨rfl, e', Or.inr hfr, hpush, fun q x hq q1 q2 => (am_un q1).trans ((am_un (by have := hfr q x hq; omega)).trans ((hout q q1 (by have := hfr q x hq; omega)).trans hq))⟩)
  · have eC : lsC xs.length cap = 0 := if_neg hl
    have eS : lsS xs.length cap = 0 := if_neg hl
    have eN : lsN xs.length cap = cap := if_neg hl
    rw [eC, eS, eN]
    obtain ⟨f, hne, hf, hpush⟩ := h.push (c := c) (by omega) mc
    refine Cn.ofF (by decide +kernel) [some (.ref L), some (.ref c), some (.ref e), some (.int (nI xs.length))] rfl (Nat.le_of_ble_eq_true rfl) ?_
    intro Z hZ
    obtain ⟨rfl, hn, rfl, hR, X, hr, hnm⟩ := hZ
    refine aw_iload3 X dJx4a65c_add_72be8_0 ?_
    refine aw_aload2 X dJx4a65c_add_72be8_1 ?_
    refine aw_lsalen X h dJx4a65c_add_72be8_2 ?_
    refine aw_icmpne X dJx4a65c_add_72be8_3 (tgt := 11) (by decide) (fun _ => ?_) (fun c9 => by first | exact absurd (fun e0 => hl ((nI_eq (by omega) (by omega)).mp e0)) c9 | exact absurd c9 (fun e0 => hl ((nI_eq (by omega) (by omega)).mp e0)))
    refine aw_aload2 X dJx4a65c_add_72be8_11 ?_
    refine aw_iload3 X dJx4a65c_add_72be8_12 ?_
    refine aw_aload1 X dJx4a65c_add_72be8_13 ?_
    refine aw_aast X as_2_8 dJx4a65c_add_72be8_14 hf hc rfl (by omega) (by omega) ?_
    refine aw_aload0 X dJx4a65c_add_72be8_15 ?_
    refine aw_iload3 X dJx4a65c_add_72be8_16 ?_
    refine aw_iconst X dJx4a65c_add_72be8_17 (v := nI 1) (by decide) ?_
    refine aw_iadd X dJx4a65c_add_72be8_18 ?_
    first | with_reducible refine aw_int (nI_add _ _) ?_ | skip
    refine aw_put2 X pJx4a65c_48 dJx4a65c_add_72be8_19 ((am_un hne).trans h1) rfl rfl ?_
    refine aw_vreturn X hr dJx4a65c_add_72be8_22 (⟨rfl, e, Or.inl ⟨by omega, rfl⟩, hpush, fun q x hq q1 q2 => (am_un q1).trans ((am_un (q2 (by omega))).trans hq)⟩)
theorem c_ls_add {l : Launch} {G : AG} {M : AM} {L e cap c : Nat} {xs : List Nat} {vs : List Value} (h : isLs G M L e cap xs) (hcs : isCs M xs) (hc : M.1 c = some (.inr (2, vs))) (hcap : cap ≤ 2500) : Cn l G yJx4a65c_add_9ea2d cJx4a65c_add_9ea2d 2 (some .boolean) { rJx4a65c_add_9ea2d with cells := lsC xs.length cap, slots := lsS xs.length cap } M [.ref L, .ref c] (fun v M' => v = some (.int (nI 1)) ∧ ∃ e', ((0 < cap ∧ e' = e) ∨ ∀ q x, M.1 q = some x → q < e') ∧ isLs G M' L e' (lsN xs.length cap) (xs ++ [c]) ∧ ∀ q x, M.1 q = some x → q ≠ L → (0 < cap → q ≠ e) → M'.1 q = some x) := by
  obtain ⟨mc, h1, h2, h3⟩ := id h
  refine Cn.ofF (by decide +kernel) [some (.ref L), some (.ref c)] rfl (Nat.le_of_ble_eq_true rfl) ?_
  intro Z hZ
  obtain ⟨rfl, hn, rfl, hR, X, hr, hnm⟩ := hZ
  refine aw_aload0 X dJx4a65c_add_9ea2d_0 ?_
  refine aw_dup X dJx4a65c_add_9ea2d_1 rfl ?_
  refine aw_get X fJx4a65c_63 dJx4a65c_add_9ea2d_2 (h1) rfl ?_
  refine aw_iconst X dJx4a65c_add_9ea2d_5 (v := nI 1) (by decide) ?_
  refine aw_iadd X dJx4a65c_add_9ea2d_6 ?_
  first | with_reducible refine aw_int (nI_add _ _) ?_ | skip
  refine aw_put0 X pJx4a65c_63 dJx4a65c_add_9ea2d_7 (h1) rfl rfl ?_
  have h' := h.mc (mc + nI 1)
  have hcL : c ≠ L := fun e0 => by rw [e0, h1] at hc; cases hc
  have hcs' : isCs (am_up M L (am_o 0 [.int (mc + nI 1), .ref e, .int (nI xs.length)])) xs := fun y hy => by
    obtain ⟨vs1, hv1⟩ := hcs y hy
    exact ⟨vs1, (am_un (fun e0 => by rw [e0, h1] at hv1; cases hv1)).trans hv1⟩
  refine aw_aload0 X dJx4a65c_add_9ea2d_10 ?_
  refine aw_aload1 X dJx4a65c_add_9ea2d_11 ?_
  refine aw_aload0 X dJx4a65c_add_9ea2d_12 ?_
  refine aw_get X fJx4a65c_9 dJx4a65c_add_9ea2d_13 (am_us) rfl ?_
  refine aw_aload0 X dJx4a65c_add_9ea2d_16 ?_
  refine aw_get X fJx4a65c_48 dJx4a65c_add_9ea2d_17 (am_us) rfl ?_
  refine aw_callV X (c_ls_add3 h' hcs' ((am_un hcL).trans hc) hcap) kJx4a65c_131 (ci := 0) rfl (am_us) dJx4a65c_add_9ea2d_20 rfl rfl (by first | decide | exact Nat.le_of_ble_eq_true rfl) (by rw [hR]; exact ⟨by first | decide | exact Nat.le_of_ble_eq_true rfl | (dsimp only; omega), by first | decide | exact Nat.le_of_ble_eq_true rfl | (dsimp only; omega)⟩) (by rw [hR]; exact ⟨by show 0 + lsC _ _ ≤ lsC _ _; omega, by show 0 + lsS _ _ ≤ lsS _ _; omega⟩) (fun v M1 hv => ?_)
  obtain ⟨rfl, e', q1, q2, q3⟩ := hv
  refine aw_widen (k' := lsC xs.length cap) (n' := lsS xs.length cap) (by show 0 + lsC _ _ ≤ lsC _ _; omega) (by show 0 + lsS _ _ ≤ lsS _ _; omega) ?_
  refine aw_iconst X dJx4a65c_add_9ea2d_23 (v := nI 1) (by decide) ?_
  have kn : ∀ q x, M.1 q = some x → q ≠ L → (am_up M L (am_o 0 [.int (mc + nI 1), .ref e, .int (nI xs.length)])).1 q = some x := fun q x hq hL => (am_un hL).trans hq
  refine aw_ireturn X (ty := .boolean) hr (by first | rfl | decide | assumption) dJx4a65c_add_9ea2d_24 (⟨rfl, e', ?_, q2, fun q x hq a1 a2 => q3 q x (kn q x hq a1) a1 a2⟩)
  rcases q1 with q1 | q1
  · exact Or.inl q1
  · refine Or.inr (fun q x hq => ?_)
    by_cases e0 : q = L
    · subst e0
      exact q1 _ _ am_us
    · exact q1 q x (kn q x hq e0)
theorem c_ls_clear {l : Launch} {G : AG} {M : AM} {L e cap : Nat} {xs : List Nat} (h : isLs G M L e cap xs) (hcap : cap ≤ 2500) : Cn l G yJx4a65c_clear_da8c8 cJx4a65c_clear_da8c8 4 none rJx4a65c_clear_da8c8 M [.ref L] (fun v M' => v = none ∧ isLs G M' L e cap [] ∧ ∀ q, q ≠ L → (0 < cap → q ≠ e) → M'.1 q = M.1 q) := by
  obtain ⟨mc, h1, h2, h3⟩ := id h
  refine Cn.ofF (by decide +kernel) [some (.ref L), none, none, none] rfl (Nat.le_of_ble_eq_true rfl) ?_
  intro Z hZ
  obtain ⟨rfl, hn, rfl, hR, X, hr, hnm⟩ := hZ
  refine aw_aload0 X dJx4a65c_clear_da8c8_0 ?_
  refine aw_dup X dJx4a65c_clear_da8c8_1 rfl ?_
  refine aw_get X fJx4a65c_63 dJx4a65c_clear_da8c8_2 (h1) rfl ?_
  refine aw_iconst X dJx4a65c_clear_da8c8_5 (v := nI 1) (by decide) ?_
  refine aw_iadd X dJx4a65c_clear_da8c8_6 ?_
  first | with_reducible refine aw_int (nI_add _ _) ?_ | skip
  refine aw_put0 X pJx4a65c_63 dJx4a65c_clear_da8c8_7 (h1) rfl rfl ?_
  refine aw_aload0 X dJx4a65c_clear_da8c8_10 ?_
  refine aw_get X fJx4a65c_9 dJx4a65c_clear_da8c8_11 (am_us) rfl ?_
  refine aw_astore1 X dJx4a65c_clear_da8c8_14 (by rw [hn]; decide) rfl ?_
  refine aw_aload0 X dJx4a65c_clear_da8c8_15 ?_
  refine aw_get X fJx4a65c_48 dJx4a65c_clear_da8c8_16 (am_us) rfl ?_
  refine aw_istore2 X dJx4a65c_clear_da8c8_19 (by rw [hn]; decide) rfl ?_
  refine aw_aload0 X dJx4a65c_clear_da8c8_20 ?_
  refine aw_iconst X dJx4a65c_clear_da8c8_21 (v := nI 0) (by decide) ?_
  refine aw_dup_x1 X dJx4a65c_clear_da8c8_22 rfl rfl ?_
  refine aw_put2 X pJx4a65c_48 dJx4a65c_clear_da8c8_23 (am_us) rfl rfl ?_
  refine aw_istore3 X dJx4a65c_clear_da8c8_26 (by rw [hn]; decide) rfl ?_
  rw [am_uu]
  have hM0 : ∀ q, q ≠ L → (am_up M L (am_o 0 [.int (mc + nI 1), .ref e, .int (nI 0)])).1 q = M.1 q := fun q hq => am_un hq
  have hL0 : (am_up M L (am_o 0 [.int (mc + nI 1), .ref e, .int (nI 0)])).1 L = some (am_o 0 [.int (mc + nI 1), .ref e, .int (nI 0)]) := am_us
  generalize am_up M L (am_o 0 [.int (mc + nI 1), .ref e, .int (nI 0)]) = M0 at hM0 hL0 ⊢
  refine aw_loop (σ := Nat × AM) (fun s => s.1 ≤ xs.length ∧ (∀ q, (0 < cap → q ≠ e) → s.2.1 q = M0.1 q) ∧ (0 < cap → ∃ f' : Nat → Option Nat, s.2.1 e = some (am_aq (zG Z) 8 cap f') ∧ (∀ k, k < s.1 → f' k = none) ∧ ∀ k, xs.length ≤ k → f' k = none)) (fun s => xs.length - s.1) (fun s => s.2) (fun s => [some (.ref L), some (.ref e), some (.int (nI xs.length)), some (.int (nI s.1))]) ?_ (0, M0) ⟨Nat.zero_le _, fun _ _ => rfl, fun hc => ?_⟩
  · rintro ⟨i, M1⟩ ⟨hi, hout, harr⟩ ih
    dsimp only at hi hout harr ih ⊢
    have hne : 0 < cap → L ≠ e := fun hc e0 => by
      rcases h3 with ⟨h3, -⟩ | ⟨h3, f, h4, -⟩
      · omega
      · rw [← e0, h1] at h4
        cases h4
    refine aw_iload3 X dJx4a65c_clear_da8c8_27 ?_
    refine aw_iload2 X dJx4a65c_clear_da8c8_28 ?_
    refine aw_icmpge X dJx4a65c_clear_da8c8_29 (tgt := 42) (by decide) (fun c => ?_) (fun c => ?_)
    · have e0 : i = xs.length := by have := (nI_leI (by omega) (by omega)).mp c; omega
      subst e0
      refine aw_vreturn X hr dJx4a65c_clear_da8c8_42 (⟨rfl, ⟨_, (hout L hne).trans hL0, Nat.zero_le _, ?_⟩, fun q q1 q2 => (hout q q2).trans (hM0 q q1)⟩)
      rcases h3 with h3 | ⟨h3, f, h4, -⟩
      · exact Or.inl h3
      · obtain ⟨f', g1, g2, g3⟩ := harr h3
        refine Or.inr ⟨h3, f', g1, fun i hi => absurd hi (Nat.not_lt_zero _), fun i _ => ?_⟩
        rcases Nat.lt_or_ge i xs.length with q | q
        · exact g2 i q
        · exact g3 i q
    · have hlt : i < xs.length := by
        rcases Nat.lt_or_ge i xs.length with q | q
        · exact q
        · exact absurd (nI_le q (by omega)) c
      obtain ⟨f', g1, g2, g3⟩ := harr (by omega)
      refine aw_aload1 X dJx4a65c_clear_da8c8_32 ?_
      refine aw_iload3 X dJx4a65c_clear_da8c8_33 ?_
      refine aw_null X dJx4a65c_clear_da8c8_34 ?_
      refine aw_aastN X at_8 dJx4a65c_clear_da8c8_35 g1 rfl (by omega) (by omega) ?_
      refine aw_iinc3 X dJx4a65c_clear_da8c8_36 (by rw [hn]; decide) (am_inc _ 1) rfl ?_
      refine aw_goto X dJx4a65c_clear_da8c8_39 (tgt := 27) (by decide) ?_
      refine ih (i + 1, _) ⟨by omega, fun q hq => (am_un (hq (by omega))).trans (hout q hq), fun _ => ⟨_, am_us, fun k hk => ?_, fun k hk => ?_⟩⟩ (by dsimp only; omega)
      · by_cases e0 : k = i
        · subst e0
          exact va_up_self _ _ _
        · rw [va_up_ne _ _ e0]
          exact g2 k (by dsimp only at hk; omega)
      · rw [va_up_ne _ _ (by omega)]
        exact g3 k hk
  · rcases h3 with ⟨h3, -⟩ | ⟨h3, f, h4, h5, h6⟩
    · omega
    · exact ⟨f, (hM0 e (fun e0 => by rw [e0, h1] at h4; cases h4)).trans h4, fun k hk => absurd hk (Nat.not_lt_zero _), h6⟩
theorem c_ac_init {l : Launch} {G : AG} {M : AM} {q : Nat} : Cn l G yJxa1e45_init_da8c8 cJxa1e45_init_da8c8 1 none rJxa1e45_init_da8c8 M [.ref q] (fun v M' => v = none ∧ M' = M) := by
  refine Cn.ofF (by decide +kernel) [some (.ref q)] rfl (Nat.le_of_ble_eq_true rfl) ?_
  intro Z hZ
  obtain ⟨rfl, hn, rfl, hR, X, hr, hnm⟩ := hZ
  refine aw_aload0 X dJxa1e45_init_da8c8_0 ?_
  refine aw_obj X olJxa1e45_1 oi_i oi_c dJxa1e45_init_da8c8_1 (by rw [hR]; exact Nat.le_refl 1) (by rw [hR]; exact Nat.le_of_ble_eq_true rfl) ?_
  refine aw_vreturn X hr dJxa1e45_init_da8c8_4 (⟨rfl, rfl⟩)
theorem c_al_init {l : Launch} {G : AG} {M : AM} {q : Nat} {x y z : Value} (h : M.1 q = some (am_o 0 [x, y, z])) : Cn l G yJxc12de_init_da8c8 cJxc12de_init_da8c8 1 none rJxc12de_init_da8c8 M [.ref q] (fun v M' => v = none ∧ M' = am_up M q (am_o 0 [.int (nI 0), y, z])) := by
  refine Cn.ofF (by decide +kernel) [some (.ref q)] rfl (Nat.le_of_ble_eq_true rfl) ?_
  intro Z hZ
  obtain ⟨rfl, hn, rfl, hR, X, hr, hnm⟩ := hZ
  refine aw_aload0 X dJxc12de_init_da8c8_0 ?_
  refine aw_callI X (c_ac_init) kJxc12de_1 dJxc12de_init_da8c8_1 rfl rfl (by first | decide | exact Nat.le_of_ble_eq_true rfl) (by rw [hR]; exact ⟨by first | decide | exact Nat.le_of_ble_eq_true rfl | (dsimp only; omega), by first | decide | exact Nat.le_of_ble_eq_true rfl | (dsimp only; omega)⟩) (by rw [hR]; exact ⟨by first | decide | exact Nat.le_of_ble_eq_true rfl | (dsimp only; omega), by first | decide | exact Nat.le_of_ble_eq_true rfl | (dsimp only; omega)⟩) (fun v M1 hv => ?_)
  obtain ⟨rfl, rfl⟩ := hv
  refine aw_aload0 X dJxc12de_init_da8c8_4 ?_
  refine aw_iconst X dJxc12de_init_da8c8_5 (v := nI 0) (by decide) ?_
  refine aw_put0 X pJxc12de_7 dJxc12de_init_da8c8_6 h rfl rfl ?_
  refine aw_vreturn X hr dJxc12de_init_da8c8_9 (⟨rfl, rfl⟩)
theorem c_ls_init {l : Launch} {G : AG} {M : AM} {q : Nat} {x y z : Value} (h : M.1 q = some (am_o 0 [x, y, z])) : Cn l G yJx4a65c_init_da8c8 cJx4a65c_init_da8c8 1 none rJx4a65c_init_da8c8 M [.ref q] (fun v M' => v = none ∧ M' = am_up M q (am_o 0 [.int (nI 0), .ref G.2.2.2.1, z])) := by
  refine Cn.ofF (by decide +kernel) [some (.ref q)] rfl (Nat.le_of_ble_eq_true rfl) ?_
  intro Z hZ
  obtain ⟨rfl, hn, rfl, hR, X, hr, hnm⟩ := hZ
  refine aw_aload0 X dJx4a65c_init_da8c8_0 ?_
  refine aw_callI X (c_al_init h) kJx4a65c_1 dJx4a65c_init_da8c8_1 rfl rfl (by first | decide | exact Nat.le_of_ble_eq_true rfl) (by rw [hR]; exact ⟨by first | decide | exact Nat.le_of_ble_eq_true rfl | (dsimp only; omega), by first | decide | exact Nat.le_of_ble_eq_true rfl | (dsimp only; omega)⟩) (by rw [hR]; exact ⟨by first | decide | exact Nat.le_of_ble_eq_true rfl | (dsimp only; omega), by first | decide | exact Nat.le_of_ble_eq_true rfl | (dsimp only; omega)⟩) (fun v M1 hv => ?_)
  obtain ⟨rfl, rfl⟩ := hv
  refine aw_aload0 X dJx4a65c_init_da8c8_4 ?_
  refine aw_getsD X dJx4a65c_init_da8c8_5 ?_
  refine aw_put1 X pJx4a65c_9 dJx4a65c_init_da8c8_8 am_us rfl rfl ?_
  rw [am_uu]
  refine aw_vreturn X hr dJx4a65c_init_da8c8_11 (⟨rfl, rfl⟩)
