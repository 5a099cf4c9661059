theorem fnd_step {P : Nat → Bool} {k : Nat} {beh : Option Nat} : fnd P (k + 1) beh = if P k = true then (if fnd P k beh = none ∨ beh = some k then some k else fnd P k beh) else fnd P k beh := by
  cases beh with
  | none =>
    show lowest P (k + 1) = if P k = true then (if lowest P k = none ∨ (none : Option Nat) = some k then some k else lowest P k) else lowest P k
    rw [lowest]
    cases hl : lowest P k with
    | some j => simp
    | none =>
      by_cases hp : P k = true
      · simp [hp]
      · simp [hp]
  | some b =>
    by_cases hb : b < k ∧ P b = true
    · have e1 : fnd P (k + 1) (some b) = some b := if_pos ⟨by omega, hb.2⟩
      have e2 : fnd P k (some b) = some b := if_pos hb
      rw [e1, e2]
      by_cases hp : P k = true
      · rw [if_pos hp, if_neg]
        rintro (q | q)
        · cases q
        · cases q
          omega
      · rw [if_neg hp]
    · have e2 : fnd P k (some b) = lowest P k := if_neg hb
      rw [e2]
      by_cases hk : b = k
      · subst hk
        by_cases hp : P b = true
        · rw [if_pos hp, if_pos (Or.inr rfl)]
          exact if_pos ⟨by omega, hp⟩
        · rw [if_neg hp]
          have e1 : fnd P (b + 1) (some b) = lowest P (b + 1) := if_neg (fun q => hp q.2)
          rw [e1, lowest]
          cases hl : lowest P b with
          | some j => rfl
          | none => simp [hp]
      · have e1 : fnd P (k + 1) (some b) = lowest P (k + 1) := if_neg (fun q => hb ⟨by omega, q.2⟩)
        rw [e1, lowest]
        cases hl : lowest P k with
        | some j =>
          have hne : ¬ ((some j : Option Nat) = none ∨ some b = some k) := by
            rintro (q | q)
            · cases q
            · cases q
              exact hk rfl
          by_cases hp : P k = true
          · simp [hp, hk]
          · simp [hp]
        | none =>
          by_cases hp : P k = true
          · simp [hp]
          · simp [hp]
/-- the arrays of a delta on its way: its instructions and false alarms -/
def dwRel (A : MA) (d : Nat) (ins : List IN) (al : Nat) : Prop := A 10 d = nI ins.length ∧ A 11 d = nI al ∧ ∀ k, k < ins.length → A 12 (120 * d + k) = b2i (ins.getD k dI).1 ∧ A 13 (120 * d + k) = nI (ins.getD k dI).2.1 ∧ A 14 (120 * d + k) = nI (ins.getD k dI).2.2
/-- nothing but the delta d has changed -/
def dwOut (A B : MA) (d : Nat) : Prop := (∀ a, a < 9 ∨ 15 < a → B a = A a) ∧ (∀ j, j ≠ d → B 9 j = A 9 j ∧ B 10 j = A 10 j ∧ B 11 j = A 11 j) ∧ ∀ k, k < 120 * d ∨ 120 * d + 120 ≤ k → B 12 k = A 12 k ∧ B 13 k = A 13 k ∧ B 14 k = A 14 k ∧ B 15 k = A 15 k
theorem dwOut.rf {A : MA} {d : Nat} : dwOut A A d := ⟨fun _ _ => rfl, fun _ _ => ⟨rfl, rfl, rfl⟩, fun _ _ => ⟨rfl, rfl, rfl, rfl⟩⟩
theorem dwOut.tr {A B C : MA} {d : Nat} (h : dwOut A B d) (h' : dwOut B C d) : dwOut A C d :=
  ⟨fun a ha => (h'.1 a ha).trans (h.1 a ha), fun j hj => ⟨(h'.2.1 j hj).1.trans (h.2.1 j hj).1, (h'.2.1 j hj).2.1.trans (h.2.1 j hj).2.1, (h'.2.1 j hj).2.2.trans (h.2.1 j hj).2.2⟩, fun k hk => ⟨(h'.2.2 k hk).1.trans (h.2.2 k hk).1, (h'.2.2 k hk).2.1.trans (h.2.2 k hk).2.1, (h'.2.2 k hk).2.2.1.trans (h.2.2 k hk).2.2.1, (h'.2.2 k hk).2.2.2.trans (h.2.2 k hk).2.2.2⟩⟩
theorem c_X9_begins {l : Launch} {G : AG} {M0 M : AM} {y d a m al : Nat} {q : Bool} {A : MA} {S : Nat → Int64} {c : Nat → Int32} {ins : List IN} (h : md G M0 M y A S c) (hd : d < 24) (hw : dwRel A d ins al) (hlen : ins.length < 120) : Cn l G yX9_begins cX9_begins 6 none rX9_begins M [.ref y, .int (nI d), .int (b2i q), .int (nI a), .int (nI m)] (fun v M' => v = none ∧ ∃ B : MA, md G M0 M' y B S c ∧ dwRel B d (ins ++ [(q, a, m)]) al ∧ dwOut A B d ∧ B 9 = A 9 ∧ B 15 = A 15) := by
  obtain ⟨w1, w2, w3⟩ := hw
  refine Cn.of (by decide) [some (.ref y), some (.int (nI d)), some (.int (b2i q)), some (.int (nI a)), some (.int (nI m)), none] rfl (Nat.le_of_ble_eq_true rfl) ?_
  intro Z hZ
  obtain ⟨rfl, hn, rfl, hR, X, hr, hnm⟩ := hZ
  refine aw_bipush X dX9_begins_0 (v := nI 120) (by decide) ?_
  refine aw_iload1 X dX9_begins_2 ?_
  refine aw_imul X dX9_begins_3 ?_
  first | with_reducible refine aw_int (pk_mul _ _) ?_ | skip
  refine aw_aload0 X dX9_begins_4 ?_
  refine aw_get X fX9_39 dX9_begins_5 (h.at) rfl ?_
  refine aw_iload1 X dX9_begins_8 ?_
  refine aw_iald X dX9_begins_9 (h.ai 10 rfl) rfl (by omega) (by decide) ?_
  refine aw_int w1 ?_
  refine aw_iadd X dX9_begins_10 ?_
  first | with_reducible refine aw_int (nI_add _ _) ?_ | skip
  refine aw_istore5 X dX9_begins_11 (by rw [hn]; decide) rfl ?_
  refine aw_aload0 X dX9_begins_13 ?_
  refine aw_get X fX9_45 dX9_begins_14 (h.at) rfl ?_
  refine aw_iload5 X dX9_begins_17 ?_
  refine aw_iload2 X dX9_begins_19 ?_
  refine aw_msz X 12 dX9_begins_20 h rfl rfl (by omega) (by decide) (b2i_z q) (fun M1 h1 => ?_)
  refine aw_aload0 X dX9_begins_21 ?_
  refine aw_get X fX9_48 dX9_begins_22 (h1.at) rfl ?_
  refine aw_iload5 X dX9_begins_25 ?_
  refine aw_iload3 X dX9_begins_27 ?_
  refine aw_mst X 13 dX9_begins_28 h1 rfl rfl (by omega) (by decide) (fun M2 h2 => ?_)
  refine aw_aload0 X dX9_begins_29 ?_
  refine aw_get X fX9_51 dX9_begins_30 (h2.at) rfl ?_
  refine aw_iload5 X dX9_begins_33 ?_
  refine aw_iload4 X dX9_begins_35 ?_
  refine aw_mst X 14 dX9_begins_37 h2 rfl rfl (by omega) (by decide) (fun M3 h3 => ?_)
  refine aw_aload0 X dX9_begins_38 ?_
  refine aw_get X fX9_39 dX9_begins_39 (h3.at) rfl ?_
  refine aw_iload1 X dX9_begins_42 ?_
  refine aw_dup2 X dX9_begins_43 rfl rfl ?_
  refine aw_iald X dX9_begins_44 (h3.ai 10 rfl) rfl (by omega) (by decide) ?_
  refine aw_int (y := nI ins.length) w1 ?_
  refine aw_iconst X dX9_begins_45 (v := nI 1) (by decide) ?_
  refine aw_iadd X dX9_begins_46 ?_
  first | with_reducible refine aw_int (nI_add _ _) ?_ | skip
  refine aw_mst X 10 dX9_begins_47 h3 rfl rfl (by omega) (by decide) (fun M4 h4 => ?_)
  have hout : dwOut A (va_up (va_up (va_up (va_up A 12 (upd (A 12) (120 * d + ins.length) (b2i q))) 13 (upd (A 13) (120 * d + ins.length) (nI a))) 14 (upd (A 14) (120 * d + ins.length) (nI m))) 10 (upd (A 10) d (nI (ins.length + 1)))) d := by
    refine ⟨fun b hb => ?_, fun j hj => ⟨rfl, pk_un hj, rfl⟩, fun k hk => ⟨pk_un (by omega), pk_un (by omega), pk_un (by omega), rfl⟩⟩
    rw [va_up_ne _ _ (by omega), va_up_ne _ _ (by omega), va_up_ne _ _ (by omega), va_up_ne _ _ (by omega)]
  have hrel : dwRel (va_up (va_up (va_up (va_up A 12 (upd (A 12) (120 * d + ins.length) (b2i q))) 13 (upd (A 13) (120 * d + ins.length) (nI a))) 14 (upd (A 14) (120 * d + ins.length) (nI m))) 10 (upd (A 10) d (nI (ins.length + 1)))) d (ins ++ [(q, a, m)]) al := by
    refine ⟨?_, w2, fun k hk => ?_⟩
    · rw [List.length_append]
      exact pk_us
    · rw [List.length_append] at hk
      have hk : k < ins.length + 1 := hk
      rw [getD_app _ _ _ _ hk]
      show upd (A 12) (120 * d + ins.length) (b2i q) (120 * d + k) = _ ∧ upd (A 13) (120 * d + ins.length) (nI a) (120 * d + k) = _ ∧ upd (A 14) (120 * d + ins.length) (nI m) (120 * d + k) = _
      by_cases e : k = ins.length
      · subst e
        rw [if_pos rfl, pk_us, pk_us, pk_us]
        exact ⟨rfl, rfl, rfl⟩
      · rw [if_neg e, pk_un (by omega), pk_un (by omega), pk_un (by omega)]
        exact w3 k (by omega)
  refine aw_vreturn X hr dX9_begins_48 (⟨rfl, _, h4, hrel, hout, rfl, rfl⟩)
