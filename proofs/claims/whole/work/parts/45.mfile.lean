/-! the model's conditions -/
theorem am_b1 {p : Prop} [Decidable p] (h : p) : am_b p = nI 1 := if_pos h
theorem am_b0 {p : Prop} [Decidable p] (h : ¬ p) : am_b p = nI 0 := if_neg h
theorem am_bz {p : Prop} [Decidable p] : am_b p = 0 ↔ ¬ p := by
  by_cases h : p
  · rw [am_b1 h]
    exact ⟨fun e => absurd e (by decide), fun e => absurd h e⟩
  · rw [am_b0 h]
    exact ⟨fun _ => h, fun _ => rfl⟩
theorem aw_merge {Z : AZ} {Q : State → Prop} {M : AM} {k n pc : Nat} {L : List (Option Value)} {st : List Value} (P : Prop) [Decidable P] (pm : Nat) (Lm : List (Option Value)) (sm : List Value) (K : AW Z Q M k n pm Lm (.int (am_b P) :: sm)) (H : AW Z Q M k n pm Lm (.int (am_b P) :: sm) → AW Z Q M k n pc L st) : AW Z Q M k n pc L st := H K
theorem aw_b1 {Z : AZ} {Q : State → Prop} {M : AM} {k n pc : Nat} {L : List (Option Value)} {st : List Value} {P : Prop} [Decidable P] (h : P) (K : AW Z Q M k n pc L (.int (am_b P) :: st)) : AW Z Q M k n pc L (.int (nI 1) :: st) := by
  rw [am_b1 h] at K
  exact K
theorem aw_b0 {Z : AZ} {Q : State → Prop} {M : AM} {k n pc : Nat} {L : List (Option Value)} {st : List Value} {P : Prop} [Decidable P] (h : ¬ P) (K : AW Z Q M k n pc L (.int (am_b P) :: st)) : AW Z Q M k n pc L (.int (nI 0) :: st) := by
  rw [am_b0 h] at K
  exact K
def thB (p q : Prop) [Decidable p] [Decidable q] : Nat := if p then if q then 0 else 2 else 1
def thA (p q r : Prop) [Decidable p] [Decidable q] [Decidable r] : Nat := if p then if q then if r then 0 else 3 else 2 else 1
theorem c_X9_mayBoth {l : Launch} {G : AG} {M0 M : AM} {y : Nat} {A : MA} {S : Nat → Int64} {c : Nat → Int32} {p q : Prop} [Decidable p] [Decidable q] (h : md G M0 M y A S c) : Cn l G yX9_mayBoth cX9_mayBoth 3 (some .boolean) rX9_mayBoth M [.ref y, .int (am_b p), .int (am_b q)] (fun v M' => v = some (.int (am_b (p ∧ q))) ∧ md G M0 M' y A S (va_up c 35 (nI (thB p q)))) := by
  refine Cn.of (by decide) [some (.ref y), some (.int (am_b p)), some (.int (am_b q))] rfl (Nat.le_of_ble_eq_true rfl) ?_
  intro Z hZ
  obtain ⟨rfl, hn, rfl, hR, X, hr, hnm⟩ := hZ
  refine aw_aload0 X dX9_mayBoth_0 ?_
  refine aw_iload1 X dX9_mayBoth_1 ?_
  by_cases hp : p
  · rw [am_b1 hp]
    refine aw_ifne X dX9_mayBoth_2 (tgt := 9) (by decide) (fun _ => ?_) (fun c9 => by first | exact absurd ((by decide : ¬ nI 1 = 0)) c9 | exact absurd c9 ((by decide : ¬ nI 1 = 0)))
    refine aw_iload2 X dX9_mayBoth_9 ?_
    by_cases hq : q
    · rw [am_b1 hq]
      refine aw_ifne X dX9_mayBoth_10 (tgt := 17) (by decide) (fun _ => ?_) (fun c9 => by first | exact absurd ((by decide : ¬ nI 1 = 0)) c9 | exact absurd c9 ((by decide : ¬ nI 1 = 0)))
      refine aw_iconst X dX9_mayBoth_17 (v := nI 0) (by decide) ?_
      refine aw_mput35 X pX9_100 dX9_mayBoth_18 h (fun M h => ?_)
      refine aw_aload0 X dX9_mayBoth_21 ?_
      refine aw_get X fX9_100 dX9_mayBoth_22 (h.at) rfl ?_
      refine aw_int (show va_up c 35 (nI 0) 35 = nI 0 from rfl) ?_
      refine aw_ifne X dX9_mayBoth_25 (tgt := 32) (by decide) (fun c9 => by first | exact absurd ((rfl : nI 0 = 0)) c9 | exact absurd c9 ((rfl : nI 0 = 0))) (fun _ => ?_)
      refine aw_iconst X dX9_mayBoth_28 (v := nI 1) (by decide) ?_
      refine aw_goto X dX9_mayBoth_29 (tgt := 33) (by decide) ?_
      refine aw_ireturn X (ty := .boolean) hr (by first | rfl | decide | assumption) dX9_mayBoth_33 (⟨by rw [am_b1 ⟨hp, hq⟩], by rw [thB, if_pos hp, if_pos hq]; exact h⟩)
    · rw [am_b0 hq]
      refine aw_ifne X dX9_mayBoth_10 (tgt := 17) (by decide) (fun c9 => by first | exact absurd ((rfl : nI 0 = 0)) c9 | exact absurd c9 ((rfl : nI 0 = 0))) (fun _ => ?_)
      refine aw_iconst X dX9_mayBoth_13 (v := nI 2) (by decide) ?_
      refine aw_goto X dX9_mayBoth_14 (tgt := 18) (by decide) ?_
      refine aw_mput35 X pX9_100 dX9_mayBoth_18 h (fun M h => ?_)
      refine aw_aload0 X dX9_mayBoth_21 ?_
      refine aw_get X fX9_100 dX9_mayBoth_22 (h.at) rfl ?_
      refine aw_int (show va_up c 35 (nI 2) 35 = nI 2 from rfl) ?_
      refine aw_ifne X dX9_mayBoth_25 (tgt := 32) (by decide) (fun _ => ?_) (fun c9 => by first | exact absurd ((by decide : ¬ nI 2 = 0)) c9 | exact absurd c9 ((by decide : ¬ nI 2 = 0)))
      refine aw_iconst X dX9_mayBoth_32 (v := nI 0) (by decide) ?_
      refine aw_ireturn X (ty := .boolean) hr (by first | rfl | decide | assumption) dX9_mayBoth_33 (⟨by rw [am_b0 (fun e => hq e.2)], by rw [thB, if_pos hp, if_neg hq]; exact h⟩)
  · rw [am_b0 hp]
    refine aw_ifne X dX9_mayBoth_2 (tgt := 9) (by decide) (fun c9 => by first | exact absurd ((rfl : nI 0 = 0)) c9 | exact absurd c9 ((rfl : nI 0 = 0))) (fun _ => ?_)
    refine aw_iconst X dX9_mayBoth_5 (v := nI 1) (by decide) ?_
    refine aw_goto X dX9_mayBoth_6 (tgt := 18) (by decide) ?_
    refine aw_mput35 X pX9_100 dX9_mayBoth_18 h (fun M h => ?_)
    refine aw_aload0 X dX9_mayBoth_21 ?_
    refine aw_get X fX9_100 dX9_mayBoth_22 (h.at) rfl ?_
    refine aw_int (show va_up c 35 (nI 1) 35 = nI 1 from rfl) ?_
    refine aw_ifne X dX9_mayBoth_25 (tgt := 32) (by decide) (fun _ => ?_) (fun c9 => by first | exact absurd ((by decide : ¬ nI 1 = 0)) c9 | exact absurd c9 ((by decide : ¬ nI 1 = 0)))
    refine aw_iconst X dX9_mayBoth_32 (v := nI 0) (by decide) ?_
    refine aw_ireturn X (ty := .boolean) hr (by first | rfl | decide | assumption) dX9_mayBoth_33 (⟨by rw [am_b0 (fun e => hp e.1)], by rw [thB, if_neg hp]; exact h⟩)
theorem c_X9_mayAll {l : Launch} {G : AG} {M0 M : AM} {y : Nat} {A : MA} {S : Nat → Int64} {c : Nat → Int32} {p q r : Prop} [Decidable p] [Decidable q] [Decidable r] (h : md G M0 M y A S c) : Cn l G yX9_mayAll cX9_mayAll 4 (some .boolean) rX9_mayAll M [.ref y, .int (am_b p), .int (am_b q), .int (am_b r)] (fun v M' => v = some (.int (am_b (p ∧ q ∧ r))) ∧ md G M0 M' y A S (va_up c 35 (nI (thA p q r)))) := by
  refine Cn.of (by decide) [some (.ref y), some (.int (am_b p)), some (.int (am_b q)), some (.int (am_b r))] rfl (Nat.le_of_ble_eq_true rfl) ?_
  intro Z hZ
  obtain ⟨rfl, hn, rfl, hR, X, hr, hnm⟩ := hZ
  refine aw_aload0 X dX9_mayAll_0 ?_
  refine aw_iload1 X dX9_mayAll_1 ?_
  by_cases hp : p
  · rw [am_b1 hp]
    refine aw_ifne X dX9_mayAll_2 (tgt := 9) (by decide) (fun _ => ?_) (fun c9 => by first | exact absurd ((by decide : ¬ nI 1 = 0)) c9 | exact absurd c9 ((by decide : ¬ nI 1 = 0)))
    refine aw_iload2 X dX9_mayAll_9 ?_
    by_cases hq : q
    · rw [am_b1 hq]
      refine aw_ifne X dX9_mayAll_10 (tgt := 17) (by decide) (fun _ => ?_) (fun c9 => by first | exact absurd ((by decide : ¬ nI 1 = 0)) c9 | exact absurd c9 ((by decide : ¬ nI 1 = 0)))
      refine aw_iload3 X dX9_mayAll_17 ?_
      by_cases hr2 : r
      · rw [am_b1 hr2]
        refine aw_ifne X dX9_mayAll_18 (tgt := 25) (by decide) (fun _ => ?_) (fun c9 => by first | exact absurd ((by decide : ¬ nI 1 = 0)) c9 | exact absurd c9 ((by decide : ¬ nI 1 = 0)))
        refine aw_iconst X dX9_mayAll_25 (v := nI 0) (by decide) ?_
        refine aw_mput35 X pX9_100 dX9_mayAll_26 h (fun M h => ?_)
        refine aw_aload0 X dX9_mayAll_29 ?_
        refine aw_get X fX9_100 dX9_mayAll_30 (h.at) rfl ?_
        refine aw_int (show va_up c 35 (nI 0) 35 = nI 0 from rfl) ?_
        refine aw_ifne X dX9_mayAll_33 (tgt := 40) (by decide) (fun c9 => by first | exact absurd ((rfl : nI 0 = 0)) c9 | exact absurd c9 ((rfl : nI 0 = 0))) (fun _ => ?_)
        refine aw_iconst X dX9_mayAll_36 (v := nI 1) (by decide) ?_
        refine aw_goto X dX9_mayAll_37 (tgt := 41) (by decide) ?_
        refine aw_ireturn X (ty := .boolean) hr (by first | rfl | decide | assumption) dX9_mayAll_41 (⟨by rw [am_b1 ⟨hp, hq, hr2⟩], by rw [thA, if_pos hp, if_pos hq, if_pos hr2]; exact h⟩)
      · rw [am_b0 hr2]
        refine aw_ifne X dX9_mayAll_18 (tgt := 25) (by decide) (fun c9 => by first | exact absurd ((rfl : nI 0 = 0)) c9 | exact absurd c9 ((rfl : nI 0 = 0))) (fun _ => ?_)
        refine aw_iconst X dX9_mayAll_21 (v := nI 3) (by decide) ?_
        refine aw_goto X dX9_mayAll_22 (tgt := 26) (by decide) ?_
        refine aw_mput35 X pX9_100 dX9_mayAll_26 h (fun M h => ?_)
        refine aw_aload0 X dX9_mayAll_29 ?_
        refine aw_get X fX9_100 dX9_mayAll_30 (h.at) rfl ?_
        refine aw_int (show va_up c 35 (nI 3) 35 = nI 3 from rfl) ?_
        refine aw_ifne X dX9_mayAll_33 (tgt := 40) (by decide) (fun _ => ?_) (fun c9 => by first | exact absurd ((by decide : ¬ nI 3 = 0)) c9 | exact absurd c9 ((by decide : ¬ nI 3 = 0)))
        refine aw_iconst X dX9_mayAll_40 (v := nI 0) (by decide) ?_
        refine aw_ireturn X (ty := .boolean) hr (by first | rfl | decide | assumption) dX9_mayAll_41 (⟨by rw [am_b0 (fun e => hr2 e.2.2)], by rw [thA, if_pos hp, if_pos hq, if_neg hr2]; exact h⟩)
    · rw [am_b0 hq]
      refine aw_ifne X dX9_mayAll_10 (tgt := 17) (by decide) (fun c9 => by first | exact absurd ((rfl : nI 0 = 0)) c9 | exact absurd c9 ((rfl : nI 0 = 0))) (fun _ => ?_)
      refine aw_iconst X dX9_mayAll_13 (v := nI 2) (by decide) ?_
      refine aw_goto X dX9_mayAll_14 (tgt := 26) (by decide) ?_
      refine aw_mput35 X pX9_100 dX9_mayAll_26 h (fun M h => ?_)
      refine aw_aload0 X dX9_mayAll_29 ?_
      refine aw_get X fX9_100 dX9_mayAll_30 (h.at) rfl ?_
      refine aw_int (show va_up c 35 (nI 2) 35 = nI 2 from rfl) ?_
      refine aw_ifne X dX9_mayAll_33 (tgt := 40) (by decide) (fun _ => ?_) (fun c9 => by first | exact absurd ((by decide : ¬ nI 2 = 0)) c9 | exact absurd c9 ((by decide : ¬ nI 2 = 0)))
      refine aw_iconst X dX9_mayAll_40 (v := nI 0) (by decide) ?_
      refine aw_ireturn X (ty := .boolean) hr (by first | rfl | decide | assumption) dX9_mayAll_41 (⟨by rw [am_b0 (fun e => hq e.2.1)], by rw [thA, if_pos hp, if_neg hq]; exact h⟩)
  · rw [am_b0 hp]
    refine aw_ifne X dX9_mayAll_2 (tgt := 9) (by decide) (fun c9 => by first | exact absurd ((rfl : nI 0 = 0)) c9 | exact absurd c9 ((rfl : nI 0 = 0))) (fun _ => ?_)
    refine aw_iconst X dX9_mayAll_5 (v := nI 1) (by decide) ?_
    refine aw_goto X dX9_mayAll_6 (tgt := 26) (by decide) ?_
    refine aw_mput35 X pX9_100 dX9_mayAll_26 h (fun M h => ?_)
    refine aw_aload0 X dX9_mayAll_29 ?_
    refine aw_get X fX9_100 dX9_mayAll_30 (h.at) rfl ?_
    refine aw_int (show va_up c 35 (nI 1) 35 = nI 1 from rfl) ?_
    refine aw_ifne X dX9_mayAll_33 (tgt := 40) (by decide) (fun _ => ?_) (fun c9 => by first | exact absurd ((by decide : ¬ nI 1 = 0)) c9 | exact absurd c9 ((by decide : ¬ nI 1 = 0)))
    refine aw_iconst X dX9_mayAll_40 (v := nI 0) (by decide) ?_
    refine aw_ireturn X (ty := .boolean) hr (by first | rfl | decide | assumption) dX9_mayAll_41 (⟨by rw [am_b0 (fun e => hp e.1)], by rw [thA, if_neg hp]; exact h⟩)
theorem c_X9_isFile {l : Launch} {G : AG} {M0 M : AM} {y nf : Nat} {A : MA} {S : Nat → Int64} {c : Nat → Int32} {f : Int32} (h : md G M0 M y A S c) (h0 : c 0 = nI nf) : Cn l G yX9_isFile cX9_isFile 2 (some .boolean) rX9_isFile M [.ref y, .int f] (fun v M' => M' = M ∧ v = some (.int (am_b (inI f nf)))) := by
  refine Cn.of (by decide) [some (.ref y), some (.int f)] rfl (Nat.le_of_ble_eq_true rfl) ?_
  intro Z hZ
  obtain ⟨rfl, hn, rfl, hR, X, hr, hnm⟩ := hZ
  refine aw_iload1 X dX9_isFile_0 ?_
  refine aw_iflt X dX9_isFile_1 (tgt := 16) (by decide) (fun c1 => ?_) (fun c1 => ?_)
  · refine aw_iconst X dX9_isFile_16 (v := nI 0) (by decide) ?_
    refine aw_ireturn X (ty := .boolean) hr (by first | rfl | decide | assumption) dX9_isFile_17 (⟨rfl, by rw [am_b0 (fun e => e.1 c1)]⟩)
  · refine aw_iload1 X dX9_isFile_4 ?_
    refine aw_aload0 X dX9_isFile_5 ?_
    refine aw_get X fX9_103 dX9_isFile_6 (h.at) rfl ?_
    refine aw_int h0 ?_
    refine aw_icmpge X dX9_isFile_9 (tgt := 16) (by decide) (fun c2 => ?_) (fun c2 => ?_)
    · refine aw_iconst X dX9_isFile_16 (v := nI 0) (by decide) ?_
      refine aw_ireturn X (ty := .boolean) hr (by first | rfl | decide | assumption) dX9_isFile_17 (⟨rfl, by rw [am_b0 (fun e => Int32.lt_irrefl (Int32.lt_of_lt_of_le e.2 c2))]⟩)
    · refine aw_iconst X dX9_isFile_12 (v := nI 1) (by decide) ?_
      refine aw_goto X dX9_isFile_13 (tgt := 17) (by decide) ?_
      refine aw_ireturn X (ty := .boolean) hr (by first | rfl | decide | assumption) dX9_isFile_17 (⟨rfl, by rw [am_b1 ⟨c1, Int32.not_le.mp c2⟩]⟩)
theorem c_X9_isPlace {l : Launch} {G : AG} {M : AM} {f : Int32} : Cn l G yX9_isPlace cX9_isPlace 1 (some .boolean) rX9_isPlace M [.int f] (fun v M' => M' = M ∧ v = some (.int (am_b (inI f 4)))) := by
  refine Cn.of (by decide) [some (.int f)] rfl (Nat.le_of_ble_eq_true rfl) ?_
  intro Z hZ
  obtain ⟨rfl, hn, rfl, hR, X, hr, hnm⟩ := hZ
  refine aw_iload0 X dX9_isPlace_0 ?_
  refine aw_iflt X dX9_isPlace_1 (tgt := 13) (by decide) (fun c1 => ?_) (fun c1 => ?_)
  · refine aw_iconst X dX9_isPlace_13 (v := nI 0) (by decide) ?_
    refine aw_ireturn X (ty := .boolean) hr (by first | rfl | decide | assumption) dX9_isPlace_14 (⟨rfl, by rw [am_b0 (fun e => e.1 c1)]⟩)
  · refine aw_iload0 X dX9_isPlace_4 ?_
    refine aw_iconst X dX9_isPlace_5 (v := nI 4) (by decide) ?_
    refine aw_icmpge X dX9_isPlace_6 (tgt := 13) (by decide) (fun c2 => ?_) (fun c2 => ?_)
    · refine aw_iconst X dX9_isPlace_13 (v := nI 0) (by decide) ?_
      refine aw_ireturn X (ty := .boolean) hr (by first | rfl | decide | assumption) dX9_isPlace_14 (⟨rfl, by rw [am_b0 (fun e => Int32.lt_irrefl (Int32.lt_of_lt_of_le e.2 c2))]⟩)
    · refine aw_iconst X dX9_isPlace_9 (v := nI 1) (by decide) ?_
      refine aw_goto X dX9_isPlace_10 (tgt := 14) (by decide) ?_
      refine aw_ireturn X (ty := .boolean) hr (by first | rfl | decide | assumption) dX9_isPlace_14 (⟨rfl, by rw [am_b1 ⟨c1, Int32.not_le.mp c2⟩]⟩)
theorem c_X9_isByte {l : Launch} {G : AG} {M : AM} {f : Int32} : Cn l G yX9_isByte cX9_isByte 1 (some .boolean) rX9_isByte M [.int f] (fun v M' => M' = M ∧ v = some (.int (am_b (inI f 256)))) := by
  refine Cn.of (by decide) [some (.int f)] rfl (Nat.le_of_ble_eq_true rfl) ?_
  intro Z hZ
  obtain ⟨rfl, hn, rfl, hR, X, hr, hnm⟩ := hZ
  refine aw_iload0 X dX9_isByte_0 ?_
  refine aw_iflt X dX9_isByte_1 (tgt := 15) (by decide) (fun c1 => ?_) (fun c1 => ?_)
  · refine aw_iconst X dX9_isByte_15 (v := nI 0) (by decide) ?_
    refine aw_ireturn X (ty := .boolean) hr (by first | rfl | decide | assumption) dX9_isByte_16 (⟨rfl, by rw [am_b0 (fun e => e.1 c1)]⟩)
  · refine aw_iload0 X dX9_isByte_4 ?_
    refine aw_sipush X dX9_isByte_5 (v := nI 256) (by decide) ?_
    refine aw_icmpge X dX9_isByte_8 (tgt := 15) (by decide) (fun c2 => ?_) (fun c2 => ?_)
    · refine aw_iconst X dX9_isByte_15 (v := nI 0) (by decide) ?_
      refine aw_ireturn X (ty := .boolean) hr (by first | rfl | decide | assumption) dX9_isByte_16 (⟨rfl, by rw [am_b0 (fun e => Int32.lt_irrefl (Int32.lt_of_lt_of_le e.2 c2))]⟩)
    · refine aw_iconst X dX9_isByte_11 (v := nI 1) (by decide) ?_
      refine aw_goto X dX9_isByte_12 (tgt := 16) (by decide) ?_
      refine aw_ireturn X (ty := .boolean) hr (by first | rfl | decide | assumption) dX9_isByte_16 (⟨rfl, by rw [am_b1 ⟨c1, Int32.not_le.mp c2⟩]⟩)
