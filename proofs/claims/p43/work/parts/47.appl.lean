/-! a row's bytes, a delta's rows; cost, held, give, apply -/
def bR (f : Nat → Int32) (a : Nat) (bs : List Int32) : Prop := ∀ k, k < bs.length → f (a + k) = bs.getD k 0
def inR (fc fs fm : Nat → Int32) (o : Nat) (ins : List IN) : Prop := ∀ j, j < ins.length → fc (o + j) = b2i (ins.getD j dI).1 ∧ fs (o + j) = nI (ins.getD j dI).2.1 ∧ fm (o + j) = nI (ins.getD j dI).2.2
/-- a delta of the law's -/
def dV (D : DL) : Prop := dlV D ∧ D.2.1.length ≤ 16 ∧ D.2.2.2.length ≤ 16 ∧ byB D.2.2.2
def dlR (fb fc fs fm fp : Nat → Int32) (d : Nat) (D : DL) : Prop := fp d = nI D.2.1.length ∧ fp (4 + d) = nI D.2.2.1 ∧ inR fc fs fm (16 * d) D.2.1 ∧ bR fb (16 * d) D.2.2.2
def vV (V : VK) : Prop := match V with
  | none => True
  | some (.inl bs) => bs.length ≤ 16 ∧ byB bs
  | some (.inr (_, D)) => dV D
def vR (vb vp eb ec es em ep : Nat → Int32) (v : Nat) (V : VK) : Prop := match V with
  | none => vp v = nI 0
  | some (.inl bs) => vp v = nI 1 ∧ vp (8 + v) = nI bs.length ∧ bR vb (16 * v) bs
  | some (.inr (b, D)) => vp v = nI 2 ∧ vp (4 + v) = nI b ∧ dlR eb ec es em ep v D
theorem b2i_1 {b : Bool} : b2i b = nI 1 ↔ b = true := by
  cases b
  · exact ⟨fun h => absurd h (by decide), fun h => nomatch h⟩
  · exact ⟨fun _ => rfl, fun _ => rfl⟩
theorem am_up_id {M : AM} {q : Nat} {e : va_E} (h : M.1 q = some e) : am_up M q e = M := by
  obtain ⟨f, o⟩ := M
  unfold am_up
  congr 1
  funext j
  split
  · rename_i hj
    rw [hj]
    exact h.symm
  · rfl
theorem aw_mapE {Z : AZ} {Q : State → Prop} {M M' : AM} {k n pc : Nat} {L : List (Option Value)} {st : List Value} (e : M' = M) (kk : AW Z Q M' k n pc L st) : AW Z Q M k n pc L st := e ▸ kk
theorem c_L_cost {l : Launch} {G : AG} {M : AM} {q4 q6 q7 d : Nat} {fc fs fm fp : Nat → Int32} {ins : List IN} (h4 : M.1 q4 = some (am_ai G 64 fc)) (h6 : M.1 q6 = some (am_ai G 64 fm)) (h7 : M.1 q7 = some (am_ai G 8 fp)) (hd : d < 4) (hl : ins.length ≤ 16) (hp : fp d = nI ins.length) (hi : inR fc fs fm (16 * d) ins) : Cn l G yL_cost cL_cost 6 (some .int) rL_cost M [.ref q4, .ref q6, .ref q7, .int (nI d)] (fun v M' => M' = M ∧ v = some (.int (nI (price ins)))) := by
  refine Cn.of (by decide) [some (.ref q4), some (.ref q6), some (.ref q7), some (.int (nI d)), none, none] rfl (Nat.le_of_ble_eq_true rfl) ?_
  intro Z hZ
  obtain ⟨rfl, hn, rfl, hR, X, hr, hnm⟩ := hZ
  refine aw_iconst X dL_cost_0 (v := nI 0) (by decide) ?_
  refine aw_istore4 X dL_cost_1 (by rw [hn]; decide) rfl ?_
  refine aw_bipush X dL_cost_3 (v := nI 16) (by decide) ?_
  refine aw_iload3 X dL_cost_5 ?_
  refine aw_imul X dL_cost_6 ?_
  first | with_reducible refine aw_int (pk_mul _ _) ?_ | skip
  refine aw_istore5 X dL_cost_7 (by rw [hn]; decide) rfl ?_
  refine aw_loop (σ := Nat) (fun i => i ≤ ins.length) (fun i => ins.length - i) (fun _ => M) (fun i => [some (.ref q4), some (.ref q6), some (.ref q7), some (.int (nI d)), some (.int (nI (pr ins i))), some (.int (nI (16 * d + i)))]) ?_ 0 (Nat.zero_le _)
  rintro i hi9 ih
  dsimp only at hi9 ih ⊢
  refine aw_iload5 X dL_cost_9 ?_
  refine aw_bipush X dL_cost_11 (v := nI 16) (by decide) ?_
  refine aw_iload3 X dL_cost_13 ?_
  refine aw_imul X dL_cost_14 ?_
  first | with_reducible refine aw_int (pk_mul _ _) ?_ | skip
  refine aw_aload2 X dL_cost_15 ?_
  refine aw_iload3 X dL_cost_16 ?_
  refine aw_iald X dL_cost_17 h7 rfl (by omega) (by decide) ?_
  refine aw_int hp ?_
  refine aw_iadd X dL_cost_18 ?_
  first | with_reducible refine aw_int (nI_add _ _) ?_ | skip
  refine aw_icmpge X dL_cost_19 (tgt := 51) (by decide) (fun c3 => ?_) (fun c3 => ?_)
  · have e : i = ins.length := by have := (nI_leI (by omega) (by omega)).mp c3; omega
    subst e
    refine aw_iload4 X dL_cost_51 ?_
    refine aw_ireturn X (ty := .int) hr (by first | rfl | decide | assumption) dL_cost_53 (⟨rfl, rfl⟩)
  · have hlt : i < ins.length := by
      rcases Nat.lt_or_ge i ins.length with q | q
      · exact q
      · exact absurd (nI_le (by omega) (by omega)) c3
    obtain ⟨u1, u2, u3⟩ := hi i hlt
    refine aw_iload4 X dL_cost_22 ?_
    refine aw_aload0 X dL_cost_24 ?_
    refine aw_iload5 X dL_cost_25 ?_
    refine aw_iald X dL_cost_27 h4 rfl (by omega) (by decide) ?_
    refine aw_int u1 ?_
    refine aw_iconst X dL_cost_28 (v := nI 1) (by decide) ?_
    have q := ih (i + 1) hlt (by omega)
    refine aw_icmpne X dL_cost_29 (tgt := 36) (by decide) (fun c2 => ?_) (fun c2 => ?_)
    · have e4 : (ins.getD i dI).1 = false := by
        cases hx : (ins.getD i dI).1 with
        | true => exact absurd (b2i_1.mpr hx) c2
        | false => rfl
      refine aw_iconst X dL_cost_36 (v := nI 1) (by decide) ?_
      refine aw_aload1 X dL_cost_37 ?_
      refine aw_iload5 X dL_cost_38 ?_
      refine aw_iald X dL_cost_40 h6 rfl (by omega) (by decide) ?_
      refine aw_int u3 ?_
      refine aw_iadd X dL_cost_41 ?_
      first | with_reducible refine aw_int (nI_add _ _) ?_ | skip
      refine aw_iadd X dL_cost_42 ?_
      first | with_reducible refine aw_int (nI_add _ _) ?_ | skip
      refine aw_istore4 X dL_cost_43 (by rw [hn]; decide) rfl ?_
      refine aw_iinc5 X dL_cost_45 (by rw [hn]; decide) (am_inc _ 1) rfl ?_
      refine aw_goto X dL_cost_48 (tgt := 9) (by decide) ?_
      have e5 : pr ins (i + 1) = pr ins i + (1 + (ins.getD i dI).2.2) := by rw [pr, e4]; rfl
      rw [e5] at q
      exact q
    · have e4 := b2i_1.mp c2
      refine aw_iconst X dL_cost_32 (v := nI 3) (by decide) ?_
      refine aw_goto X dL_cost_33 (tgt := 42) (by decide) ?_
      refine aw_iadd X dL_cost_42 ?_
      first | with_reducible refine aw_int (nI_add _ _) ?_ | skip
      refine aw_istore4 X dL_cost_43 (by rw [hn]; decide) rfl ?_
      refine aw_iinc5 X dL_cost_45 (by rw [hn]; decide) (am_inc _ 1) rfl ?_
      refine aw_goto X dL_cost_48 (tgt := 9) (by decide) ?_
      have e5 : pr ins (i + 1) = pr ins i + 3 := by rw [pr, e4]; rfl
      rw [e5] at q
      exact q
theorem c_L_held {l : Launch} {G : AG} {M : AM} {q1 q2 q3 q4 v : Nat} {vb vp eb ec es em ep : Nat → Int32} {V : VK} (h1 : M.1 q1 = some (am_ai G 12 vp)) (h2 : M.1 q2 = some (am_ai G 64 ec)) (h3 : M.1 q3 = some (am_ai G 64 em)) (h4 : M.1 q4 = some (am_ai G 8 ep)) (hv : v < 4) (hV : vV V) (hR0 : vR vb vp eb ec es em ep v V) : Cn l G yL_held cL_held 5 (some .int) rL_held M [.int (nI v), .ref q1, .ref q2, .ref q3, .ref q4] (fun o M' => M' = M ∧ o = some (.int (nI (held V)))) := by
  refine Cn.of (by decide) [some (.int (nI v)), some (.ref q1), some (.ref q2), some (.ref q3), some (.ref q4)] rfl (Nat.le_of_ble_eq_true rfl) ?_
  intro Z hZ
  obtain ⟨rfl, hn, rfl, hR, X, hr, hnm⟩ := hZ
  refine aw_aload1 X dL_held_0 ?_
  refine aw_iload0 X dL_held_1 ?_
  refine aw_iald X dL_held_2 h1 rfl (by omega) (by decide) ?_
  match V, hV, hR0 with
  | none, _, r0 =>
    refine aw_int r0 ?_
    refine aw_ifne X dL_held_3 (tgt := 10) (by decide) (fun c9 => by first | exact absurd (((rfl : nI 0 = 0))) c9 | exact absurd c9 (((rfl : nI 0 = 0)))) (fun _ => ?_)
    refine aw_iconst X dL_held_6 (v := nI 0) (by decide) ?_
    refine aw_goto X dL_held_7 (tgt := 34) (by decide) ?_
    refine aw_ireturn X (ty := .int) hr (by first | rfl | decide | assumption) dL_held_34 (⟨rfl, rfl⟩)
  | some (.inl bs), w, ⟨r0, r1, r2⟩ =>
    refine aw_int r0 ?_
    refine aw_ifne X dL_held_3 (tgt := 10) (by decide) (fun _ => ?_) (fun c9 => by first | exact absurd ((by decide : ¬ nI 1 = 0)) c9 | exact absurd c9 ((by decide : ¬ nI 1 = 0)))
    refine aw_aload1 X dL_held_10 ?_
    refine aw_iload0 X dL_held_11 ?_
    refine aw_iald X dL_held_12 h1 rfl (by omega) (by decide) ?_
    refine aw_int r0 ?_
    refine aw_iconst X dL_held_13 (v := nI 1) (by decide) ?_
    refine aw_icmpne X dL_held_14 (tgt := 26) (by decide) (fun c9 => by first | exact absurd (((rfl : nI 1 = nI 1))) c9 | exact absurd c9 (((rfl : nI 1 = nI 1)))) (fun _ => ?_)
    refine aw_aload1 X dL_held_17 ?_
    refine aw_bipush X dL_held_18 (v := nI 8) (by decide) ?_
    refine aw_iload0 X dL_held_20 ?_
    refine aw_iadd X dL_held_21 ?_
    first | with_reducible refine aw_int (nI_add _ _) ?_ | skip
    refine aw_iald X dL_held_22 h1 rfl (by omega) (by decide) ?_
    refine aw_int r1 ?_
    refine aw_goto X dL_held_23 (tgt := 34) (by decide) ?_
    refine aw_ireturn X (ty := .int) hr (by first | rfl | decide | assumption) dL_held_34 (⟨rfl, rfl⟩)
  | some (.inr (b, D)), w, ⟨r0, r1, r2, r3, r4, r5⟩ =>
    refine aw_int r0 ?_
    refine aw_ifne X dL_held_3 (tgt := 10) (by decide) (fun _ => ?_) (fun c9 => by first | exact absurd ((by decide : ¬ nI 2 = 0)) c9 | exact absurd c9 ((by decide : ¬ nI 2 = 0)))
    refine aw_aload1 X dL_held_10 ?_
    refine aw_iload0 X dL_held_11 ?_
    refine aw_iald X dL_held_12 h1 rfl (by omega) (by decide) ?_
    refine aw_int r0 ?_
    refine aw_iconst X dL_held_13 (v := nI 1) (by decide) ?_
    refine aw_icmpne X dL_held_14 (tgt := 26) (by decide) (fun _ => ?_) (fun c9 => by first | exact absurd ((by decide : ¬ nI 2 = nI 1)) c9 | exact absurd c9 ((by decide : ¬ nI 2 = nI 1)))
    refine aw_aload2 X dL_held_26 ?_
    refine aw_aload3 X dL_held_27 ?_
    refine aw_aload4 X dL_held_28 ?_
    refine aw_iload0 X dL_held_30 ?_
    refine aw_callS X (c_L_cost h2 h3 h4 hv w.2.1 r2 r4) kL_167 dL_held_31 rfl rfl (by first | decide | exact Nat.le_of_ble_eq_true rfl) (by rw [hR]; exact ⟨by first | decide | exact Nat.le_of_ble_eq_true rfl | (dsimp only; omega), by first | decide | exact Nat.le_of_ble_eq_true rfl | (dsimp only; omega)⟩) (by rw [hR]; exact ⟨by first | decide | exact Nat.le_of_ble_eq_true rfl | (dsimp only; omega), by first | decide | exact Nat.le_of_ble_eq_true rfl | (dsimp only; omega)⟩) (fun o M1 ho => ?_)
    obtain ⟨rfl, rfl⟩ := ho
    refine aw_ireturn X (ty := .int) hr (by first | rfl | decide | assumption) dL_held_34 (⟨rfl, rfl⟩)
theorem c_L_give {l : Launch} {G : AG} {M : AM} {q0 q1 q3 Nb i from0 m : Nat} {ff fn fb : Nat → Int32} (h0 : M.1 q0 = some (am_ai G 64 ff)) (h1 : M.1 q1 = some (am_ai G 4 fn)) (h3 : M.1 q3 = some (am_ai G Nb fb)) (hi : i < 4) (hm : m ≤ 16) (hN : from0 + m ≤ Nb) (hN2 : Nb < 2 ^ 31) (d1 : q0 ≠ q1) (d2 : q3 ≠ q1) (d3 : q3 = q0 → from0 = 16 * i ∨ from0 + m ≤ 16 * i ∨ 16 * i + 16 ≤ from0) : Cn l G yL_give cL_give 7 none rL_give M [.ref q0, .ref q1, .int (nI i), .ref q3, .int (nI from0), .int (nI m)] (fun v M' => v = none ∧ ∃ g : Nat → Int32, M' = am_up (am_up M q1 (am_ai G 4 (upd fn i (nI m)))) q0 (am_ai G 64 g) ∧ (∀ k, k < m → g (16 * i + k) = fb (from0 + k)) ∧ ∀ k, k < 16 * i ∨ 16 * i + 16 ≤ k → g k = ff k) := by
  refine Cn.of (by decide) [some (.ref q0), some (.ref q1), some (.int (nI i)), some (.ref q3), some (.int (nI from0)), some (.int (nI m)), none] rfl (Nat.le_of_ble_eq_true rfl) ?_
  intro Z hZ
  obtain ⟨rfl, hn, rfl, hR, X, hr, hnm⟩ := hZ
  refine aw_aload1 X dL_give_0 ?_
  refine aw_iload2 X dL_give_1 ?_
  refine aw_iload5 X dL_give_2 ?_
  refine aw_iast X dL_give_4 h1 rfl (by omega) (by decide) ?_
  refine aw_iconst X dL_give_5 (v := nI 0) (by decide) ?_
  refine aw_istore6 X dL_give_6 (by rw [hn]; decide) rfl ?_
  obtain ⟨M1, e1⟩ : ∃ M1, M1 = am_up M q1 (am_ai (zG Z) 4 (upd fn i (nI m))) := ⟨_, rfl⟩
  rw [← e1]
  have m0 : M1.1 q0 = some (am_ai (zG Z) 64 ff) := by rw [e1, am_un d1]; exact h0
  have m3 : M1.1 q3 = some (am_ai (zG Z) Nb fb) := by rw [e1, am_un d2]; exact h3
  refine aw_mapE (am_up_id m0) ?_
  refine aw_loop (σ := Nat × (Nat → Int32)) (fun s => s.1 ≤ m ∧ (∀ k, k < s.1 → s.2 (16 * i + k) = fb (from0 + k)) ∧ (∀ k, k < 16 * i ∨ 16 * i + s.1 ≤ k → s.2 k = ff k)) (fun s => m - s.1) (fun s => am_up M1 q0 (am_ai (zG Z) 64 s.2)) (fun s => [some (.ref q0), some (.ref q1), some (.int (nI i)), some (.ref q3), some (.int (nI from0)), some (.int (nI m)), some (.int (nI s.1))]) ?_ (0, ff) ⟨Nat.zero_le _, fun k hk => absurd hk (Nat.not_lt_zero _), fun _ _ => rfl⟩
  rintro ⟨k, g⟩ ⟨hk, hg, hg2⟩ ih
  dsimp only at hk hg hg2 ih ⊢
  refine aw_iload6 X dL_give_8 ?_
  refine aw_iload5 X dL_give_10 ?_
  refine aw_icmpge X dL_give_12 (tgt := 37) (by decide) (fun c => ?_) (fun c => ?_)
  · have e : k = m := by have := (nI_leI (by omega) (by omega)).mp c; omega
    subst e
    refine aw_vreturn X hr dL_give_37 (⟨rfl, g, by rw [e1], hg, fun j hj => hg2 j (by omega)⟩)
  · have hlt : k < m := by
      rcases Nat.lt_or_ge k m with q | q
      · exact q
      · exact absurd (nI_le q (by omega)) c
    have hrd : ∃ f' : Nat → Int32, (am_up M1 q0 (am_ai (zG Z) 64 g)).1 q3 = some (am_ai (zG Z) Nb f') ∧ f' (from0 + k) = fb (from0 + k) := by
      by_cases e : q3 = q0
      · have hh := m0.symm.trans (e ▸ m3)
        injection hh with hh
        injection hh with hh
        injection hh with _ hh
        injection hh with hN9 hh
        injection hh with hf9
        refine ⟨g, by rw [e, am_us, ← hN9], ?_⟩
        rw [hg2 (from0 + k) (by have := d3 e; omega), hf9]
      · exact ⟨fb, (am_un e).trans m3, rfl⟩
    obtain ⟨f', hf1, hf2⟩ := hrd
    refine aw_aload0 X dL_give_15 ?_
    refine aw_bipush X dL_give_16 (v := nI 16) (by decide) ?_
    refine aw_iload2 X dL_give_18 ?_
    refine aw_imul X dL_give_19 ?_
    first | with_reducible refine aw_int (pk_mul _ _) ?_ | skip
    refine aw_iload6 X dL_give_20 ?_
    refine aw_iadd X dL_give_22 ?_
    first | with_reducible refine aw_int (nI_add _ _) ?_ | skip
    refine aw_aload3 X dL_give_23 ?_
    refine aw_iload4 X dL_give_24 ?_
    refine aw_iload6 X dL_give_26 ?_
    refine aw_iadd X dL_give_28 ?_
    first | with_reducible refine aw_int (nI_add _ _) ?_ | skip
    refine aw_iald X dL_give_29 hf1 rfl (by omega) hN2 ?_
    refine aw_int hf2 ?_
    refine aw_iast X dL_give_30 am_us rfl (by omega) (by decide) ?_
    rw [am_uu]
    refine aw_iinc6 X dL_give_31 (by rw [hn]; decide) (am_inc _ 1) rfl ?_
    refine aw_goto X dL_give_34 (tgt := 8) (by decide) ?_
    refine ih (k + 1, upd g (16 * i + k) (fb (from0 + k))) ⟨hlt, fun j hj => ?_, fun j hj => ?_⟩ (by dsimp only; omega)
    · dsimp only at hj ⊢
      by_cases e : j = k
      · rw [e, pk_us]
      · rw [pk_un (by omega)]
        exact hg j (by omega)
    · dsimp only at hj ⊢
      rw [pk_un (by omega)]
      exact hg2 j (by omega)
theorem gd_l {l m : List Int32} {k : Nat} (h : k < l.length) : (l ++ m).getD k 0 = l.getD k 0 := by
  rw [List.getD_eq_getElem?_getD, List.getElem?_append_left h, List.getD_eq_getElem?_getD]
theorem gd_r {l m : List Int32} {k : Nat} : (l ++ m).getD (l.length + k) 0 = m.getD k 0 := by
  rw [List.getD_eq_getElem?_getD, List.getElem?_append_right (by omega), Nat.add_sub_cancel_left, List.getD_eq_getElem?_getD]
theorem piece_get {cm bb : List Int32} {i : IN} {j : Nat} (hj : j < i.2.2) : (piece cm bb i).getD j 0 = (if i.1 = true then bb else cm).getD (i.2.1 + j) 0 := by
  unfold piece
  rw [List.getD_eq_getElem?_getD, List.getElem?_take, if_pos hj, List.getElem?_drop, List.getD_eq_getElem?_getD]
theorem piece_len1 {cm bb : List Int32} {i : IN} (h1 : i.1 = true → i.2.1 + i.2.2 ≤ bb.length) (h2 : i.1 = false → i.2.1 + i.2.2 ≤ cm.length) : (piece cm bb i).length = i.2.2 := by
  unfold piece
  cases hc : i.1 with
  | true =>
    have := h1 hc
    simp
    omega
  | false =>
    have := h2 hc
    simp
    omega
theorem fitB_off {ins : List IN} {n k : Nat} (hk : k < ins.length) (h1 : (ins.getD k dI).1 = true) (h2 : ¬ (ins.getD k dI).2.1 + (ins.getD k dI).2.2 ≤ n) : fitB ins n = false := by
  cases h : fitB ins n with
  | false => rfl
  | true => exact absurd (fitB_at h (getD_mem hk) h1) h2
theorem sumsz_take_succ {ins : List IN} {k : Nat} (h : k < ins.length) : sumsz (ins.take (k + 1)) = sumsz (ins.take k) + (ins.getD k dI).2.2 := by
  rw [List.take_succ, sumsz_app, List.getD, List.getElem?_eq_getElem h]
  simp [sumsz]
/-- what apply gives -/
def apV (D : DL) (bb : List Int32) (g : Nat → Int32) (v : Option Value) : Prop := (fitB D.2.1 bb.length = true ∧ v = some (.int (nI (app D.2.1 D.2.2.2 bb).length)) ∧ bR g 0 (app D.2.1 D.2.2.2 bb)) ∨ (fitB D.2.1 bb.length = false ∧ v = some (.int (-1)))
theorem c_L_apply {l : Launch} {G : AG} {M : AM} {q0 q3 q4 q5 q6 q7 q9 NB a d : Nat} {fB fb fc fs fm fp fo : Nat → Int32} {D : DL} {bb : List Int32} (h0 : M.1 q0 = some (am_ai G NB fB)) (h3 : M.1 q3 = some (am_ai G 64 fb)) (h4 : M.1 q4 = some (am_ai G 64 fc)) (h5 : M.1 q5 = some (am_ai G 64 fs)) (h6 : M.1 q6 = some (am_ai G 64 fm)) (h7 : M.1 q7 = some (am_ai G 8 fp)) (h9 : M.1 q9 = some (am_ai G 16 fo)) (hq : q9 ≠ q0 ∧ q9 ≠ q3 ∧ q9 ≠ q4 ∧ q9 ≠ q5 ∧ q9 ≠ q6 ∧ q9 ≠ q7) (hd : d < 4) (hV : dV D) (hD : dlR fb fc fs fm fp d D) (hB : ∀ k, k < bb.length → fB (a + k) = bb.getD k 0) (hN : a + bb.length ≤ NB) (hN2 : NB < 2 ^ 31) :
    Cn l G yL_apply cL_apply 13 (some .int) rL_apply M [.ref q0, .int (nI a), .int (nI bb.length), .ref q3, .ref q4, .ref q5, .ref q6, .ref q7, .int (nI d), .ref q9] (fun v M' => ∃ g, M' = am_up M q9 (am_ai G 16 g) ∧ apV D bb g v) := by
  obtain ⟨v0, v1, v2, v3⟩ := hV
  obtain ⟨r1, r2, r3, r4⟩ := hD
  obtain ⟨q90, q93, q94, q95, q96, q97⟩ := hq
  have hs1 := v0.2.1
  refine Cn.of (by decide) [some (.ref q0), some (.int (nI a)), some (.int (nI bb.length)), some (.ref q3), some (.ref q4), some (.ref q5), some (.ref q6), some (.ref q7), some (.int (nI d)), some (.ref q9), none, none, none] rfl (Nat.le_of_ble_eq_true rfl) ?_
  intro Z hZ
  obtain ⟨rfl, hn, rfl, hR, X, hr, hnm⟩ := hZ
  refine aw_iconst X dL_apply_0 (v := nI 0) (by decide) ?_
  refine aw_istore10 X dL_apply_1 (by rw [hn]; decide) rfl ?_
  refine aw_bipush X dL_apply_3 (v := nI 16) (by decide) ?_
  refine aw_iload8 X dL_apply_5 ?_
  refine aw_imul X dL_apply_7 ?_
  first | with_reducible refine aw_int (pk_mul _ _) ?_ | skip
  refine aw_istore11 X dL_apply_8 (by rw [hn]; decide) rfl ?_
  refine aw_mapE (am_up_id h9) ?_
  refine aw_loop (σ := Nat × (Nat → Int32)) (fun s => s.1 ≤ D.2.1.length ∧ (∀ k, k < s.1 → (D.2.1.getD k dI).1 = true → (D.2.1.getD k dI).2.1 + (D.2.1.getD k dI).2.2 ≤ bb.length) ∧ (app (D.2.1.take s.1) D.2.2.2 bb).length = sumsz (D.2.1.take s.1) ∧ bR s.2 0 (app (D.2.1.take s.1) D.2.2.2 bb)) (fun s => D.2.1.length - s.1) (fun s => am_up M q9 (am_ai (zG Z) 16 s.2)) (fun s => [some (.ref q0), some (.int (nI a)), some (.int (nI bb.length)), some (.ref q3), some (.ref q4), some (.ref q5), some (.ref q6), some (.ref q7), some (.int (nI d)), some (.ref q9), some (.int (nI (app (D.2.1.take s.1) D.2.2.2 bb).length)), some (.int (nI (16 * d + s.1))), none]) ?_ (0, fo) ⟨Nat.zero_le _, fun k hk => absurd hk (Nat.not_lt_zero _), rfl, fun k hk => absurd hk (by simp [app])⟩
  rintro ⟨i, g⟩ ⟨hi, hall, hlen, hg⟩ ih
  dsimp only at hi hall hlen hg ih ⊢
  refine aw_iload11 X dL_apply_10 ?_
  refine aw_bipush X dL_apply_12 (v := nI 16) (by decide) ?_
  refine aw_iload8 X dL_apply_14 ?_
  refine aw_imul X dL_apply_16 ?_
  first | with_reducible refine aw_int (pk_mul _ _) ?_ | skip
  refine aw_aload7 X dL_apply_17 ?_
  refine aw_iload8 X dL_apply_19 ?_
  refine aw_iald X dL_apply_21 ((am_un q97.symm).trans h7) rfl (by omega) (by decide) ?_
  refine aw_int r1 ?_
  refine aw_iadd X dL_apply_22 ?_
  first | with_reducible refine aw_int (nI_add _ _) ?_ | skip
  refine aw_icmpge X dL_apply_23 (tgt := 125) (by decide) (fun c1 => ?_) (fun c1 => ?_)
  · have e : i = D.2.1.length := by have := (nI_leI (by omega) (by omega)).mp c1; omega
    subst e
    rw [List.take_length] at hg ⊢
    refine aw_iload10 X dL_apply_125 ?_
    refine aw_ireturn X (ty := .int) hr (by first | rfl | decide | assumption) dL_apply_127 (⟨g, rfl, Or.inl ⟨fitB_all hall, rfl, hg⟩⟩)
  · have hlt : i < D.2.1.length := by
      rcases Nat.lt_or_ge i D.2.1.length with q | q
      · exact q
      · exact absurd (nI_le (by omega) (by omega)) c1
    obtain ⟨u1, u2, u3⟩ := r3 i hlt
    have hmem := getD_mem hlt
    have hst := sumsz_take_succ hlt
    have hsle := sumsz_take_le D.2.1 (i + 1)
    have hm16 : (D.2.1.getD i dI).2.2 ≤ 16 := by omega
    have hcap : (D.2.1.getD i dI).1 = true → (D.2.1.getD i dI).2.1 + (D.2.1.getD i dI).2.2 ≤ 120 := v0.2.2.2.2.1 _ hmem
    have hlap : (D.2.1.getD i dI).1 = false → (D.2.1.getD i dI).2.1 + (D.2.1.getD i dI).2.2 ≤ D.2.2.2.length := v0.2.2.2.1 _ hmem
    have m4 := (am_un (M := M) (e := am_ai (zG Z) 16 g) q94.symm).trans h4
    have m5 := (am_un (M := M) (e := am_ai (zG Z) 16 g) q95.symm).trans h5
    have m6 := (am_un (M := M) (e := am_ai (zG Z) 16 g) q96.symm).trans h6
    by_cases hfit : (D.2.1.getD i dI).1 = true → (D.2.1.getD i dI).2.1 + (D.2.1.getD i dI).2.2 ≤ bb.length
    · have hpl := piece_len1 (cm := D.2.2.2) (bb := bb) hfit hlap
      have es := app_succ (cm := D.2.2.2) (bb := bb) hlt
      have el : (app (D.2.1.take (i + 1)) D.2.2.2 bb).length = (app (D.2.1.take i) D.2.2.2 bb).length + (D.2.1.getD i dI).2.2 := by rw [es, List.length_append, hpl]
      refine aw_spl0 (pm := 52) (fun K => ?_) ?_
      · refine aw_aload4 X dL_apply_26 ?_
        refine aw_iload11 X dL_apply_28 ?_
        refine aw_iald X dL_apply_30 m4 rfl (by omega) (by decide) ?_
        refine aw_int u1 ?_
        refine aw_iconst X dL_apply_31 (v := nI 1) (by decide) ?_
        refine aw_icmpne X dL_apply_32 (tgt := 52) (by decide) (fun c2 => ?_) (fun c2 => ?_)
        · exact K
        · have e4 := b2i_1.mp c2
          refine aw_aload5 X dL_apply_35 ?_
          refine aw_iload11 X dL_apply_37 ?_
          refine aw_iald X dL_apply_39 m5 rfl (by omega) (by decide) ?_
          refine aw_int u2 ?_
          refine aw_aload6 X dL_apply_40 ?_
          refine aw_iload11 X dL_apply_42 ?_
          refine aw_iald X dL_apply_44 m6 rfl (by omega) (by decide) ?_
          refine aw_int u3 ?_
          refine aw_iadd X dL_apply_45 ?_
          first | with_reducible refine aw_int (nI_add _ _) ?_ | skip
          refine aw_iload2 X dL_apply_46 ?_
          refine aw_icmple X dL_apply_47 (tgt := 52) (by decide) (fun _ => ?_) (fun c9 => by first | exact absurd (nI_le (hfit e4) (by omega)) c9 | exact absurd c9 (nI_le (hfit e4) (by omega)))
          exact K
      · refine aw_iconst X dL_apply_52 (v := nI 0) (by decide) ?_
        refine aw_istore12 X dL_apply_53 (by rw [hn]; decide) rfl ?_
        refine aw_loop (σ := Nat × (Nat → Int32)) (fun s => s.1 ≤ (D.2.1.getD i dI).2.2 ∧ ∀ k, k < (app (D.2.1.take i) D.2.2.2 bb).length + s.1 → s.2 k = (app (D.2.1.take (i + 1)) D.2.2.2 bb).getD k 0) (fun s => (D.2.1.getD i dI).2.2 - s.1) (fun s => am_up M q9 (am_ai (zG Z) 16 s.2)) (fun s => [some (.ref q0), some (.int (nI a)), some (.int (nI bb.length)), some (.ref q3), some (.ref q4), some (.ref q5), some (.ref q6), some (.ref q7), some (.int (nI d)), some (.ref q9), some (.int (nI ((app (D.2.1.take i) D.2.2.2 bb).length + s.1))), some (.int (nI (16 * d + i))), some (.int (nI s.1))]) ?_ (0, g) ⟨Nat.zero_le _, fun k hk => by rw [es, gd_l hk, ← hg k hk, Nat.zero_add]⟩
        rintro ⟨j, g2⟩ ⟨hj, hg2⟩ ih2
        dsimp only at hj hg2 ih2 ⊢
        have p0 := (am_un (M := M) (e := am_ai (zG Z) 16 g2) q90.symm).trans h0
        have p3 := (am_un (M := M) (e := am_ai (zG Z) 16 g2) q93.symm).trans h3
        have p4 := (am_un (M := M) (e := am_ai (zG Z) 16 g2) q94.symm).trans h4
        have p5 := (am_un (M := M) (e := am_ai (zG Z) 16 g2) q95.symm).trans h5
        have p6 := (am_un (M := M) (e := am_ai (zG Z) 16 g2) q96.symm).trans h6
        refine aw_iload12 X dL_apply_55 ?_
        refine aw_aload6 X dL_apply_57 ?_
        refine aw_iload11 X dL_apply_59 ?_
        refine aw_iald X dL_apply_61 p6 rfl (by omega) (by decide) ?_
        refine aw_int u3 ?_
        refine aw_icmpge X dL_apply_62 (tgt := 119) (by decide) (fun c3 => ?_) (fun c3 => ?_)
        · have e : j = (D.2.1.getD i dI).2.2 := by have := (nI_leI (by omega) (by omega)).mp c3; omega
          subst e
          rw [← el] at hg2 ⊢
          refine aw_iinc11 X dL_apply_119 (by rw [hn]; decide) (am_inc _ 1) rfl ?_
          refine aw_goto X dL_apply_122 (tgt := 10) (by decide) ?_
          refine aw_drop12 ?_
          exact ih (i + 1, g2) ⟨hlt, fun k hk => by
            dsimp only at hk
            by_cases e : k = i
            · rw [e]; exact hfit
            · exact hall k (by omega), by dsimp only; rw [el, hst, hlen], fun k hk => by rw [Nat.zero_add]; exact hg2 k hk⟩ (by dsimp only; omega)
        · have hlj : j < (D.2.1.getD i dI).2.2 := by
            rcases Nat.lt_or_ge j (D.2.1.getD i dI).2.2 with q | q
            · exact q
            · exact absurd (nI_le q (by omega)) c3
          have hpg := piece_get (cm := D.2.2.2) (bb := bb) hlj
          refine aw_aload9 X dL_apply_65 ?_
          refine aw_iload10 X dL_apply_67 ?_
          refine aw_splV (pm := 109) (v := (piece D.2.2.2 bb (D.2.1.getD i dI)).getD j 0) (fun K => ?_) ?_
          · refine aw_aload4 X dL_apply_69 ?_
            refine aw_iload11 X dL_apply_71 ?_
            refine aw_iald X dL_apply_73 p4 rfl (by omega) (by decide) ?_
            refine aw_int u1 ?_
            refine aw_iconst X dL_apply_74 (v := nI 1) (by decide) ?_
            refine aw_icmpne X dL_apply_75 (tgt := 93) (by decide) (fun c2 => ?_) (fun c2 => ?_)
            · have e4 : (D.2.1.getD i dI).1 = false := by
                cases hx : (D.2.1.getD i dI).1 with
                | true => exact absurd (b2i_1.mpr hx) c2
                | false => rfl
              have hs := hlap e4
              refine aw_aload3 X dL_apply_93 ?_
              refine aw_bipush X dL_apply_94 (v := nI 16) (by decide) ?_
              refine aw_iload8 X dL_apply_96 ?_
              refine aw_imul X dL_apply_98 ?_
              first | with_reducible refine aw_int (pk_mul _ _) ?_ | skip
              refine aw_aload5 X dL_apply_99 ?_
              refine aw_iload11 X dL_apply_101 ?_
              refine aw_iald X dL_apply_103 p5 rfl (by omega) (by decide) ?_
              refine aw_int u2 ?_
              refine aw_iadd X dL_apply_104 ?_
              first | with_reducible refine aw_int (nI_add _ _) ?_ | skip
              refine aw_iload12 X dL_apply_105 ?_
              refine aw_iadd X dL_apply_107 ?_
              first | with_reducible refine aw_int (nI_add _ _) ?_ | skip
              refine aw_iald X dL_apply_108 p3 rfl (by omega) (by decide) ?_
              refine aw_int (y := (piece D.2.2.2 bb (D.2.1.getD i dI)).getD j 0) (by rw [hpg, if_neg (by rw [e4]; decide), Nat.add_assoc]; exact r4 _ (by omega)) ?_
              exact K
            · have e4 := b2i_1.mp c2
              have hs := hfit e4
              refine aw_aload0 X dL_apply_78 ?_
              refine aw_iload1 X dL_apply_79 ?_
              refine aw_aload5 X dL_apply_80 ?_
              refine aw_iload11 X dL_apply_82 ?_
              refine aw_iald X dL_apply_84 p5 rfl (by omega) (by decide) ?_
              refine aw_int u2 ?_
              refine aw_iadd X dL_apply_85 ?_
              first | with_reducible refine aw_int (nI_add _ _) ?_ | skip
              refine aw_iload12 X dL_apply_86 ?_
              refine aw_iadd X dL_apply_88 ?_
              first | with_reducible refine aw_int (nI_add _ _) ?_ | skip
              refine aw_iald X dL_apply_89 p0 rfl (by omega) hN2 ?_
              refine aw_int (y := (piece D.2.2.2 bb (D.2.1.getD i dI)).getD j 0) (by rw [hpg, if_pos e4, Nat.add_assoc]; exact hB _ (by omega)) ?_
              refine aw_goto X dL_apply_90 (tgt := 109) (by decide) ?_
              exact K
          · refine aw_iast X dL_apply_109 am_us rfl (by omega) (by decide) ?_
            rw [am_uu]
            refine aw_iinc10 X dL_apply_110 (by rw [hn]; decide) (am_inc _ 1) rfl ?_
            refine aw_iinc12 X dL_apply_113 (by rw [hn]; decide) (am_inc _ 1) rfl ?_
            refine aw_goto X dL_apply_116 (tgt := 55) (by decide) ?_
            refine ih2 (j + 1, upd g2 ((app (D.2.1.take i) D.2.2.2 bb).length + j) ((piece D.2.2.2 bb (D.2.1.getD i dI)).getD j 0)) ⟨hlj, fun k hk => ?_⟩ (by dsimp only; omega)
            dsimp only at hk ⊢
            by_cases e : k = (app (D.2.1.take i) D.2.2.2 bb).length + j
            · rw [e, pk_us, es, gd_r]
            · rw [pk_un e]
              exact hg2 k (by omega)
    · have e4 : (D.2.1.getD i dI).1 = true := by
        cases hx : (D.2.1.getD i dI).1 with
        | true => rfl
        | false => exact absurd (fun e => by rw [hx] at e; cases e) hfit
      have hbig : ¬ (D.2.1.getD i dI).2.1 + (D.2.1.getD i dI).2.2 ≤ bb.length := fun e => hfit (fun _ => e)
      have hc120 := hcap e4
      refine aw_aload4 X dL_apply_26 ?_
      refine aw_iload11 X dL_apply_28 ?_
      refine aw_iald X dL_apply_30 m4 rfl (by omega) (by decide) ?_
      refine aw_int u1 ?_
      refine aw_iconst X dL_apply_31 (v := nI 1) (by decide) ?_
      refine aw_icmpne X dL_apply_32 (tgt := 52) (by decide) (fun c9 => by first | exact absurd (b2i_1.mpr e4) c9 | exact absurd c9 (b2i_1.mpr e4)) (fun _ => ?_)
      refine aw_aload5 X dL_apply_35 ?_
      refine aw_iload11 X dL_apply_37 ?_
      refine aw_iald X dL_apply_39 m5 rfl (by omega) (by decide) ?_
      refine aw_int u2 ?_
      refine aw_aload6 X dL_apply_40 ?_
      refine aw_iload11 X dL_apply_42 ?_
      refine aw_iald X dL_apply_44 m6 rfl (by omega) (by decide) ?_
      refine aw_int u3 ?_
      refine aw_iadd X dL_apply_45 ?_
      first | with_reducible refine aw_int (nI_add _ _) ?_ | skip
      refine aw_iload2 X dL_apply_46 ?_
      refine aw_icmple X dL_apply_47 (tgt := 52) (by decide) (fun c5 => ?_) (fun c5 => ?_)
      · exact absurd ((nI_leI (by omega) (by omega)).mp c5) hbig
      · refine aw_iconst X dL_apply_50 (v := -1) (by decide) ?_
        refine aw_ireturn X (ty := .int) hr (by first | rfl | decide | assumption) dL_apply_51 (⟨g, rfl, Or.inr ⟨fitB_off hlt e4 hbig, rfl⟩⟩)
