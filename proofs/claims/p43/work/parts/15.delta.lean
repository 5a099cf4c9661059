/-! deltas -/
def isDW (G : AG) (M : AM) (d : Nat) (mk : Bool) (ins : List IN) (al : Nat) (cm : List Int32) (bb : Int32) : Prop := ∃ (fc fa fz : Nat → Int32), M.1 d = some (am_o 3 [.ref (d + 1), .ref (d + 2), .ref (d + 3), .ref (d + 4), .int (b2i mk), .int (nI ins.length), .int (nI al), .int bb]) ∧ M.1 (d + 1) = some (am_az G 120 fc) ∧ M.1 (d + 2) = some (am_ai G 120 fa) ∧ M.1 (d + 3) = some (am_ai G 120 fz) ∧ isRow G M (d + 4) cm ∧ ins.length ≤ 120 ∧ ∀ k, k < ins.length → fc k = b2i (ins.getD k dI).1 ∧ fa k = nI (ins.getD k dI).2.1 ∧ fz k = nI (ins.getD k dI).2.2
theorem isDW.out {G : AG} {M M' : AM} {d a b : Nat} {mk : Bool} {ins : List IN} {al : Nat} {cm : List Int32} {bb : Int32} (h : isDW G M d mk ins al cm bb) (ho : am_out M M' a b) (hd : d + 6 ≤ a ∨ b ≤ d) : isDW G M' d mk ins al cm bb := by
  obtain ⟨fc, fa, fz, h1, h2, h3, h4, h5, h6⟩ := h
  exact ⟨fc, fa, fz, (ho _ (by omega)).trans h1, (ho _ (by omega)).trans h2, (ho _ (by omega)).trans h3, (ho _ (by omega)).trans h4, h5.out ho (by omega), h6⟩
def isDelta (G : AG) (M : AM) (d : Nat) (D : DL) : Prop := dlV D ∧ ∃ bb, isDW G M d D.1 D.2.1 D.2.2.1 D.2.2.2 bb
theorem isDelta.out {G : AG} {M M' : AM} {d a b : Nat} {D : DL} (h : isDelta G M d D) (ho : am_out M M' a b) (hd : d + 6 ≤ a ∨ b ≤ d) : isDelta G M' d D := by
  obtain ⟨h1, bb, h2⟩ := h
  exact ⟨h1, bb, h2.out ho hd⟩
theorem getD_app {α : Type} (l : List α) (x d : α) (k : Nat) (hk : k < l.length + 1) : (l ++ [x]).getD k d = if k = l.length then x else l.getD k d := by
  by_cases e : k = l.length
  · subst e
    simp [List.getD]
  · rw [if_neg e]
    simp [List.getD, List.getElem?_append_left (show k < l.length by omega)]
theorem c_X2_begin {l : Launch} {G : AG} {M : AM} {d : Nat} {mk : Bool} {ins : List IN} {al : Nat} {cm : List Int32} {bb : Int32} {c0 : Bool} {a n : Nat} (h : isDW G M d mk ins al cm bb) (hl : ins.length < 120) : Cn l G yX2_begin cX2_begin 4 none rX2_begin M [.ref d, .int (b2i c0), .int (nI a), .int (nI n)] (fun v M' => isDW G M' d mk (ins ++ [(c0, a, n)]) al cm bb ∧ am_out M M' d (d + 4) ∧ v = none) := by
  obtain ⟨fc, fa, fz, h1, h2, h3, h4, h5, h6, h7⟩ := h
  have hz := b2i_z c0
  refine Cn.of (by decide) [some (.ref d), some (.int (b2i c0)), some (.int (nI a)), some (.int (nI n))] rfl (Nat.le_of_ble_eq_true rfl) ?_
  intro Z hZ
  obtain ⟨rfl, hn, rfl, hR, X, hr, hnm⟩ := hZ
  refine aw_aload0 X dX2_begin_0 ?_
  refine aw_get X fX2_37 dX2_begin_1 (h1) rfl ?_
  refine aw_aload0 X dX2_begin_4 ?_
  refine aw_get X fX2_9 dX2_begin_5 (h1) rfl ?_
  refine aw_alen X dX2_begin_8 (h2) (t := 2) rfl rfl ?_
  refine aw_icmpge X dX2_begin_9 (tgt := 52) (by decide) (fun c9 => by first | exact absurd (nI_ge (a := ins.length) (b := 120) (by omega) (by omega)) c9 | exact absurd c9 (nI_ge (a := ins.length) (b := 120) (by omega) (by omega))) (fun _ => ?_)
  refine aw_aload0 X dX2_begin_12 ?_
  refine aw_get X fX2_9 dX2_begin_13 (h1) rfl ?_
  refine aw_aload0 X dX2_begin_16 ?_
  refine aw_get X fX2_37 dX2_begin_17 (h1) rfl ?_
  refine aw_iload1 X dX2_begin_20 ?_
  refine aw_zast X dX2_begin_21 h2 rfl (by omega) (by decide) (by first | rfl | decide | assumption) ?_
  refine aw_aload0 X dX2_begin_22 ?_
  refine aw_get X fX2_15 dX2_begin_23 (am_k h1 (by omega)) rfl ?_
  refine aw_aload0 X dX2_begin_26 ?_
  refine aw_get X fX2_37 dX2_begin_27 (am_k h1 (by omega)) rfl ?_
  refine aw_iload2 X dX2_begin_30 ?_
  refine aw_iast X dX2_begin_31 (am_k h3 (by omega)) rfl (by omega) (by decide) ?_
  refine aw_aload0 X dX2_begin_32 ?_
  refine aw_get X fX2_19 dX2_begin_33 (am_k (am_k h1 (by omega)) (by omega)) rfl ?_
  refine aw_aload0 X dX2_begin_36 ?_
  refine aw_get X fX2_37 dX2_begin_37 (am_k (am_k h1 (by omega)) (by omega)) rfl ?_
  refine aw_iload3 X dX2_begin_40 ?_
  refine aw_iast X dX2_begin_41 (am_k (am_k h4 (by omega)) (by omega)) rfl (by omega) (by decide) ?_
  refine aw_aload0 X dX2_begin_42 ?_
  refine aw_dup X dX2_begin_43 rfl ?_
  refine aw_get X fX2_37 dX2_begin_44 (am_k (am_k (am_k h1 (by omega)) (by omega)) (by omega)) rfl ?_
  refine aw_iconst X dX2_begin_47 (v := nI 1) (by decide) ?_
  refine aw_iadd X dX2_begin_48 ?_
  first | with_reducible refine aw_int (nI_add _ _) ?_ | skip
  refine aw_put5 X pX2_37 dX2_begin_49 (am_k (am_k (am_k h1 (by omega)) (by omega)) (by omega)) rfl rfl ?_
  refine aw_vreturn X hr dX2_begin_52 (?_)
  refine ⟨⟨_, _, _, am_us.trans (by simp), am_k (am_k (am_k am_us (by omega)) (by omega)) (by omega), am_k (am_k am_us (by omega)) (by omega), am_k am_us (by omega), ?_, by simp; omega, fun k hk => ?_⟩, ?_, rfl⟩
  · obtain ⟨f, q1, q2, q3⟩ := h5
    exact ⟨f, am_k (am_k (am_k (am_k q1 (by omega)) (by omega)) (by omega)) (by omega), am_k (am_k (am_k (am_k q2 (by omega)) (by omega)) (by omega)) (by omega), q3⟩
  · have hk' : k < ins.length + 1 := by simpa using hk
    rw [getD_app _ _ _ _ hk']
    by_cases e : k = ins.length
    · subst e
      rw [pk_us, pk_us, pk_us, if_pos rfl]
      exact ⟨rfl, rfl, rfl⟩
    · rw [pk_un e, pk_un e, pk_un e, if_neg e]
      exact h7 k (by omega)
  · exact (am_out.up (by omega) (by omega)).tr ((am_out.up (by omega) (by omega)).tr ((am_out.up (by omega) (by omega)).tr (am_out.up (by omega) (by omega))))
theorem isDW.bump {G : AG} {M : AM} {d : Nat} {mk : Bool} {ins : List IN} {al : Nat} {cm : List Int32} {bb bb' : Int32} {n : Nat} {fc fa fz : Nat → Int32} (hl : 0 < ins.length) (h1 : M.1 d = some (am_o 3 [.ref (d + 1), .ref (d + 2), .ref (d + 3), .ref (d + 4), .int (b2i mk), .int (nI ins.length), .int (nI al), .int bb])) (h2 : M.1 (d + 1) = some (am_az G 120 fc)) (h3 : M.1 (d + 2) = some (am_ai G 120 fa)) (h5 : isRow G M (d + 4) cm) (h6 : ins.length ≤ 120)
    (h7 : ∀ k, k < ins.length → fc k = b2i (ins.getD k dI).1 ∧ fa k = nI (ins.getD k dI).2.1 ∧ fz k = nI (ins.getD k dI).2.2) : isDW G (am_up (am_up M (d + 3) (am_ai G 120 (upd fz (ins.length - 1) (nI ((lastI ins).2.2 + n))))) d (am_o 3 [.ref (d + 1), .ref (d + 2), .ref (d + 3), .ref (d + 4), .int (b2i mk), .int (nI ins.length), .int (nI al), .int bb'])) d mk (bump ins n) al cm bb' := by
  refine ⟨fc, fa, _, ?_, am_k (am_k h2 (by omega)) (by omega), am_k (am_k h3 (by omega)) (by omega), am_k am_us (by omega), ?_, by rw [bump_len]; exact h6, fun k hk => ?_⟩
  · rw [bump_len]
    exact am_us
  · obtain ⟨f, q1, q2, q3⟩ := h5
    exact ⟨f, am_k (am_k q1 (by omega)) (by omega), am_k (am_k q2 (by omega)) (by omega), q3⟩
  · rw [bump_len] at hk
    rw [bump_get hk]
    by_cases e : k = ins.length - 1
    · rw [if_pos e]
      obtain ⟨a, b, -⟩ := h7 k hk
      rw [e] at a b ⊢
      rw [pk_us]
      exact ⟨a, b, rfl⟩
    · rw [if_neg e, pk_un e]
      exact h7 k hk
theorem isDW.bb {G : AG} {M : AM} {d : Nat} {mk : Bool} {ins : List IN} {al : Nat} {cm : List Int32} {bb bb' : Int32} (h : isDW G M d mk ins al cm bb) : isDW G (am_up M d (am_o 3 [.ref (d + 1), .ref (d + 2), .ref (d + 3), .ref (d + 4), .int (b2i mk), .int (nI ins.length), .int (nI al), .int bb'])) d mk ins al cm bb' := by
  obtain ⟨fc, fa, fz, h1, h2, h3, h4, h5, h6⟩ := h
  refine ⟨fc, fa, fz, am_us, am_k h2 (by omega), am_k h3 (by omega), am_k h4 (by omega), ?_, h6⟩
  obtain ⟨f, q1, q2, q3⟩ := h5
  exact ⟨f, am_k q1 (by omega), am_k q2 (by omega), q3⟩
theorem c_X2_addLiteral {l : Launch} {G : AG} {M : AM} {d : Nat} {mk : Bool} {ins : List IN} {al : Nat} {cm : List Int32} {bb : Int32} {p : Nat} (h : isDW G M d mk ins al cm bb) (hl : ins.length < 120) : Cn l G yX2_addLiteral cX2_addLiteral 2 none rX2_addLiteral M [.ref d, .int (nI p)] (fun v M' => isDW G M' d mk (litI ins p) al cm (-1) ∧ am_out M M' d (d + 4) ∧ v = none) := by
  obtain ⟨fc, fa, fz, h1, h2, h3, h4, h5, h6, h7⟩ := id h
  refine Cn.of (by decide) [some (.ref d), some (.int (nI p))] rfl (Nat.le_of_ble_eq_true rfl) ?_
  intro Z hZ
  obtain ⟨rfl, hn, rfl, hR, X, hr, hnm⟩ := hZ
  have push : ¬ (0 < ins.length ∧ (lastI ins).1 = false) → AW Z (am_Q Z (fun v M' => isDW (zG Z) M' d mk (litI ins p) al cm (-1) ∧ am_out M M' d (d + 4) ∧ v = none) (fun _ _ => False) rX2_addLiteral.cells rX2_addLiteral.slots) M 0 0 39 [some (.ref d), some (.int (nI p))] [] := by
    intro hc
    refine aw_aload0 X dX2_addLiteral_39 ?_
    refine aw_iconst X dX2_addLiteral_40 (v := nI 0) (by decide) ?_
    refine aw_iload1 X dX2_addLiteral_41 ?_
    refine aw_iconst X dX2_addLiteral_42 (v := nI 1) (by decide) ?_
    refine aw_callV X (c_X2_begin (c0 := false) h hl) kX2_103 (ci := 3) rfl (h1) dX2_addLiteral_43 rfl rfl (by first | decide | exact Nat.le_of_ble_eq_true rfl) (by rw [hR]; exact ⟨by first | decide | exact Nat.le_of_ble_eq_true rfl | (dsimp only; omega), by first | decide | exact Nat.le_of_ble_eq_true rfl | (dsimp only; omega)⟩) (by rw [hR]; exact ⟨by first | decide | exact Nat.le_of_ble_eq_true rfl | (dsimp only; omega), by first | decide | exact Nat.le_of_ble_eq_true rfl | (dsimp only; omega)⟩) (fun v M1 hv => ?_)
    obtain ⟨b1, hout, rfl⟩ := hv
    obtain ⟨fc', fa', fz', q1, -⟩ := id b1
    refine aw_aload0 X dX2_addLiteral_46 ?_
    refine aw_iconst X dX2_addLiteral_47 (v := -1) (by decide) ?_
    refine aw_put7 X pX2_29 dX2_addLiteral_48 (q1) rfl rfl ?_
    refine aw_vreturn X hr dX2_addLiteral_51 (?_)
    refine ⟨?_, hout.tr (am_out.up (by omega) (by omega)), rfl⟩
    rw [litI, if_neg hc]
    exact b1.bb
  refine aw_aload0 X dX2_addLiteral_0 ?_
  refine aw_get X fX2_37 dX2_addLiteral_1 (h1) rfl ?_
  refine aw_ifle X dX2_addLiteral_4 (tgt := 39) (by decide) (fun c => ?_) (fun c => ?_)
  · refine push (fun q => ?_)
    exact absurd c (nI_nle q.1 (by omega))
  · have hp : 0 < ins.length := by
      rcases Nat.eq_zero_or_pos ins.length with e | e
      · exact absurd (by rw [e]; decide) c
      · exact e
    refine aw_aload0 X dX2_addLiteral_7 ?_
    refine aw_get X fX2_9 dX2_addLiteral_8 (h1) rfl ?_
    refine aw_aload0 X dX2_addLiteral_11 ?_
    refine aw_get X fX2_37 dX2_addLiteral_12 (h1) rfl ?_
    refine aw_iconst X dX2_addLiteral_15 (v := nI 1) (by decide) ?_
    refine aw_isub X dX2_addLiteral_16 ?_
    first | with_reducible refine aw_int (pk_sub (by omega)) ?_ | skip
    refine aw_zald X dX2_addLiteral_17 h2 rfl (by omega) (by decide) ?_
    obtain ⟨e1, -, e3⟩ := h7 (ins.length - 1) (by omega)
    refine aw_ifne X dX2_addLiteral_18 (tgt := 39) (by decide) (fun c2 => ?_) (fun c2 => ?_)
    · refine push (fun q => c2 ?_)
      rw [e1]
      show b2i (lastI ins).1 = 0
      rw [q.2]
      rfl
    · have hf : (lastI ins).1 = false := by
        rw [e1] at c2
        cases hx : (ins.getD (ins.length - 1) dI).1 with
        | false => exact hx
        | true => rw [hx] at c2; exact absurd c2 (by decide)
      refine aw_aload0 X dX2_addLiteral_21 ?_
      refine aw_get X fX2_19 dX2_addLiteral_22 (h1) rfl ?_
      refine aw_aload0 X dX2_addLiteral_25 ?_
      refine aw_get X fX2_37 dX2_addLiteral_26 (h1) rfl ?_
      refine aw_iconst X dX2_addLiteral_29 (v := nI 1) (by decide) ?_
      refine aw_isub X dX2_addLiteral_30 ?_
      first | with_reducible refine aw_int (pk_sub (by omega)) ?_ | skip
      refine aw_dup2 X dX2_addLiteral_31 rfl rfl ?_
      refine aw_iald X dX2_addLiteral_32 h4 rfl (by omega) (by decide) ?_
      refine aw_int (show fz (ins.length - 1) = nI (lastI ins).2.2 from e3) ?_
      refine aw_iconst X dX2_addLiteral_33 (v := nI 1) (by decide) ?_
      refine aw_iadd X dX2_addLiteral_34 ?_
      first | with_reducible refine aw_int (nI_add _ _) ?_ | skip
      refine aw_iast X dX2_addLiteral_35 h4 rfl (by omega) (by decide) ?_
      refine aw_goto X dX2_addLiteral_36 (tgt := 46) (by decide) ?_
      refine aw_aload0 X dX2_addLiteral_46 ?_
      refine aw_iconst X dX2_addLiteral_47 (v := -1) (by decide) ?_
      refine aw_put7 X pX2_29 dX2_addLiteral_48 (am_k h1 (by omega)) rfl rfl ?_
      refine aw_vreturn X hr dX2_addLiteral_51 (?_)
      refine ⟨?_, (am_out.up (by omega) (by omega)).tr (am_out.up (by omega) (by omega)), rfl⟩
      rw [litI, if_pos ⟨hp, hf⟩]
      exact isDW.bump hp h1 h2 h3 h5 h6 h7
theorem c_X2_addCopy {l : Launch} {G : AG} {M : AM} {d : Nat} {mk : Bool} {ins : List IN} {al : Nat} {cm : List Int32} {beh : Option Nat} {b a w : Nat} (h : isDW G M d mk ins al cm (behI beh)) (hl : ins.length < 120) (hb : ∀ k, beh = some k → k < 2 ^ 31) (hb2 : b < 2 ^ 31) : Cn l G yX2_addCopy cX2_addCopy 4 none rX2_addCopy M [.ref d, .int (nI b), .int (nI a), .int (nI w)] (fun v M' => isDW G M' d mk (cpI ins beh b a w) al cm (behI (some (b + 1))) ∧ am_out M M' d (d + 4) ∧ v = none) := by
  obtain ⟨fc, fa, fz, h1, h2, h3, h4, h5, h6, h7⟩ := id h
  refine Cn.of (by decide) [some (.ref d), some (.int (nI b)), some (.int (nI a)), some (.int (nI w))] rfl (Nat.le_of_ble_eq_true rfl) ?_
  intro Z hZ
  obtain ⟨rfl, hn, rfl, hR, X, hr, hnm⟩ := hZ
  have push : ¬ (beh = some b ∧ 0 < ins.length) → AW Z (am_Q Z (fun v M' => isDW (zG Z) M' d mk (cpI ins beh b a w) al cm (behI (some (b + 1))) ∧ am_out M M' d (d + 4) ∧ v = none) (fun _ _ => False) rX2_addCopy.cells rX2_addCopy.slots) M 0 0 33 [some (.ref d), some (.int (nI b)), some (.int (nI a)), some (.int (nI w))] [] := by
    intro hc
    refine aw_aload0 X dX2_addCopy_33 ?_
    refine aw_iconst X dX2_addCopy_34 (v := nI 1) (by decide) ?_
    refine aw_iload2 X dX2_addCopy_35 ?_
    refine aw_iload3 X dX2_addCopy_36 ?_
    refine aw_callV X (c_X2_begin (c0 := true) h hl) kX2_103 (ci := 3) rfl (h1) dX2_addCopy_37 rfl rfl (by first | decide | exact Nat.le_of_ble_eq_true rfl) (by rw [hR]; exact ⟨by first | decide | exact Nat.le_of_ble_eq_true rfl | (dsimp only; omega), by first | decide | exact Nat.le_of_ble_eq_true rfl | (dsimp only; omega)⟩) (by rw [hR]; exact ⟨by first | decide | exact Nat.le_of_ble_eq_true rfl | (dsimp only; omega), by first | decide | exact Nat.le_of_ble_eq_true rfl | (dsimp only; omega)⟩) (fun v M1 hv => ?_)
    obtain ⟨b1, hout, rfl⟩ := hv
    obtain ⟨fc', fa', fz', q1, -⟩ := id b1
    refine aw_aload0 X dX2_addCopy_40 ?_
    refine aw_iload1 X dX2_addCopy_41 ?_
    refine aw_iconst X dX2_addCopy_42 (v := nI 1) (by decide) ?_
    refine aw_iadd X dX2_addCopy_43 ?_
    first | with_reducible refine aw_int (nI_add _ _) ?_ | skip
    refine aw_put7 X pX2_29 dX2_addCopy_44 (q1) rfl rfl ?_
    refine aw_vreturn X hr dX2_addCopy_47 (?_)
    refine ⟨?_, hout.tr (am_out.up (by omega) (by omega)), rfl⟩
    rw [cpI, if_neg hc]
    exact b1.bb
  refine aw_iload1 X dX2_addCopy_0 ?_
  refine aw_aload0 X dX2_addCopy_1 ?_
  refine aw_get X fX2_29 dX2_addCopy_2 (h1) rfl ?_
  refine aw_icmpne X dX2_addCopy_5 (tgt := 33) (by decide) (fun c => ?_) (fun c => ?_)
  · exact push (fun q => c ((behI_eq hb hb2).mpr q.1))
  · have hbe : beh = some b := (behI_eq hb hb2).mp c
    refine aw_aload0 X dX2_addCopy_8 ?_
    refine aw_get X fX2_37 dX2_addCopy_9 (h1) rfl ?_
    refine aw_ifle X dX2_addCopy_12 (tgt := 33) (by decide) (fun c2 => ?_) (fun c2 => ?_)
    · refine push (fun q => ?_)
      exact absurd c2 (nI_nle q.2 (by omega))
    · have hp : 0 < ins.length := by
        rcases Nat.eq_zero_or_pos ins.length with e | e
        · exact absurd (by rw [e]; decide) c2
        · exact e
      obtain ⟨-, -, e3⟩ := h7 (ins.length - 1) (by omega)
      refine aw_aload0 X dX2_addCopy_15 ?_
      refine aw_get X fX2_19 dX2_addCopy_16 (h1) rfl ?_
      refine aw_aload0 X dX2_addCopy_19 ?_
      refine aw_get X fX2_37 dX2_addCopy_20 (h1) rfl ?_
      refine aw_iconst X dX2_addCopy_23 (v := nI 1) (by decide) ?_
      refine aw_isub X dX2_addCopy_24 ?_
      first | with_reducible refine aw_int (pk_sub (by omega)) ?_ | skip
      refine aw_dup2 X dX2_addCopy_25 rfl rfl ?_
      refine aw_iald X dX2_addCopy_26 h4 rfl (by omega) (by decide) ?_
      refine aw_int (show fz (ins.length - 1) = nI (lastI ins).2.2 from e3) ?_
      refine aw_iload3 X dX2_addCopy_27 ?_
      refine aw_iadd X dX2_addCopy_28 ?_
      first | with_reducible refine aw_int (nI_add _ _) ?_ | skip
      refine aw_iast X dX2_addCopy_29 h4 rfl (by omega) (by decide) ?_
      refine aw_goto X dX2_addCopy_30 (tgt := 40) (by decide) ?_
      refine aw_aload0 X dX2_addCopy_40 ?_
      refine aw_iload1 X dX2_addCopy_41 ?_
      refine aw_iconst X dX2_addCopy_42 (v := nI 1) (by decide) ?_
      refine aw_iadd X dX2_addCopy_43 ?_
      first | with_reducible refine aw_int (nI_add _ _) ?_ | skip
      refine aw_put7 X pX2_29 dX2_addCopy_44 (am_k h1 (by omega)) rfl rfl ?_
      refine aw_vreturn X hr dX2_addCopy_47 (?_)
      refine ⟨?_, (am_out.up (by omega) (by omega)).tr (am_out.up (by omega) (by omega)), rfl⟩
      rw [cpI, if_pos ⟨hbe, hp⟩]
      exact isDW.bump hp h1 h2 h3 h5 h6 h7
