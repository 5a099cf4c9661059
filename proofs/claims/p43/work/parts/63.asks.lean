/-! the law: files, signatures and deltas are told anew -/
theorem st_spLength {τ : TS} {f : Int32} : (spLength τ f).2.2 = τ := by unfold spLength; split <;> rfl
theorem st_spByteAt {τ : TS} {f p : Int32} : (spByteAt τ f p).2.2 = τ := by unfold spByteAt; split <;> rfl
theorem st_spBlocks {τ : TS} {f : Int32} : (spBlocks τ f).2.2 = τ := by unfold spBlocks; split <;> rfl
theorem st_spWeak {τ : TS} {f p : Int32} : (spWeak τ f p).2.2 = τ := by unfold spWeak; split <;> rfl
theorem st_spStrong {τ : TS} {f p : Int32} : (spStrong τ f p).2.2 = τ := by unfold spStrong; split <;> rfl
theorem st_spInstr {τ : TS} {f : Int32} : (spInstr τ f).2.2 = τ := by unfold spInstr; split <;> rfl
theorem st_spCost {τ : TS} {f : Int32} : (spCost τ f).2.2 = τ := by unfold spCost; split <;> rfl
theorem st_spAlarms {τ : TS} {f : Int32} : (spAlarms τ f).2.2 = τ := by unfold spAlarms; split <;> rfl
theorem st_spIsCopy {τ : TS} {f p : Int32} : (spIsCopy τ f p).2.2 = τ := by unfold spIsCopy; split <;> rfl
theorem st_spStart {τ : TS} {f p : Int32} : (spStart τ f p).2.2 = τ := by unfold spStart; split <;> rfl
theorem st_spBytes {τ : TS} {f p : Int32} : (spBytes τ f p).2.2 = τ := by unfold spBytes; split <;> rfl
/-- behind a call that tells -/
theorem st_told {G : AG} {M M' : AM} {x : Nat} {τ τ' : TS} {F : Nat → Nat → Int32} (hT : tbL G x M M F) (hs : isRS G M' x (x + 292) τ') (hk : KE M M' (eD x (x + 292))) (e : τ' = τ) : isRS G M' x (x + 292) τ ∧ tbL G x M' M' F := ⟨e ▸ hs, tbM.ke hT hk (fun q e => by have := eD_ok q e; omega)⟩
theorem inI_lt {i n : Nat} (hi : i < 2 ^ 31) (hn : n < 2 ^ 31) : inI (nI i) n ↔ i < n := ⟨fun h => (nI_ltI hi hn).mp h.2, fun h => inI_n h hn⟩
def nbk (τ : TS) (q : Nat) : Nat := if q < 4 then sgN (τ.2.1 q) else 0
def nin (τ : TS) (q : Nat) : Nat := if q < 4 then (τ.2.2.1 q).2.1.length else 0
abbrev asL (x : Nat) (y : Int32) (q : Nat) (a : Int32) (t : List (Option Value)) : List (Option Value) := some (.ref x) :: some (.int y) :: some (.ref (x + 271)) :: some (.ref (x + 272)) :: some (.ref (x + 273)) :: some (.ref (x + 274)) :: some (.ref (x + 276)) :: some (.ref (x + 277)) :: some (.ref (x + 278)) :: some (.ref (x + 279)) :: some (.int (nI q)) :: some (.int a) :: t
abbrev rmA : Room := { rL_asks with cells := 120, slots := 720 }
/-- the instructions of a delta, one by one -/
theorem as_loop {Z : AZ} {M : AM} {x q : Nat} {τ : TS} {F : Nat → Nat → Int32} {y : Int32} {t12 t13 t14 t15 t16 t17 : Option Value} (X : am_X RL cL_asks Z) (hn : zn Z = 21) (hR : zR Z = rmA) (hr : (zM Z).sig.returnType = some .boolean) (hN : ncs (zs Z)) (hfl : (zl Z).stackTraces = false) (hq : q < 5) (hL : lR F τ) (hs : isRS (zG Z) M x (x + 292) τ) (hT : tbL (zG Z) x M M F) : AW Z (am_Q Z (fun v M' => v = some (.int (nI 1)) ∧ lS (zG Z) M' x τ) (fun _ _ => False) 120 720) M 11 66 495 (asL x y q (am_b (q < 4)) [t12, t13, t14, t15, t16, t17, some (.int (nI (nin τ q))), none, none]) [] := by
  have hmn : nin τ q ≤ 16 := by
    unfold nin
    split
    · rename_i h4
      rcases hL.2.2.2.1 q h4 with ⟨d1, d2, d3⟩ | ⟨d1, d2, d3, d4⟩
      · exact d2.2.1
      · rw [d2]; exact Nat.zero_le _
    · exact Nat.zero_le _
  have hrow : ∀ i, i < nin τ q → q < 4 ∧ F 5 (16 * q + i) = b2i ((τ.2.2.1 q).2.1.getD i dI).1 ∧ F 6 (16 * q + i) = nI ((τ.2.2.1 q).2.1.getD i dI).2.1 ∧ F 7 (16 * q + i) = nI ((τ.2.2.1 q).2.1.getD i dI).2.2 := fun i hi => by
    unfold nin at hi
    split at hi
    · rename_i h4
      refine ⟨h4, ?_⟩
      rcases hL.2.2.2.1 q h4 with ⟨d1, d2, d3⟩ | ⟨d1, d2, d3, d4⟩
      · exact d3.2.2.1 i hi
      · rw [d2] at hi
        exact absurd hi (Nat.not_lt_zero _)
    · omega
  have hin : ∀ i, i < 2 ^ 31 → (isIn τ (nI q) (nI i) ↔ i < nin τ q) := fun i hi => by
    unfold isIn nin
    rw [inI_lt (by omega) (by decide)]
    simp only [tD, ix_n (show q < 2 ^ 31 by omega)]
    by_cases h4 : q < 4
    · rw [if_pos h4, inI_lt hi (by
        have := hmn
        unfold nin at this
        rw [if_pos h4] at this
        omega)]
      exact ⟨fun h => h.2, fun h => ⟨h4, h⟩⟩
    · rw [if_neg h4]
      exact ⟨fun h => absurd h.1 h4, fun h => absurd h (Nat.not_lt_zero _)⟩
  refine aw_iconst X dL_asks_495 (v := nI 0) (by decide) ?_
  refine aw_istore19 X dL_asks_496 (by rw [hn]; decide) rfl ?_
  refine aw_loopK (σ := Nat × AM) (fun t => t.1 ≤ nin τ q + 1 ∧ isRS (zG Z) t.2 x (x + 292) τ ∧ tbL (zG Z) x t.2 t.2 F) (fun t => nin τ q + 1 - t.1) (fun t => t.2) (fun t => 11 + 6 * t.1) (fun t => 66 + 36 * t.1) (fun t => asL x y q (am_b (q < 4)) [t12, t13, t14, t15, t16, t17, some (.int (nI (nin τ q))), some (.int (nI t.1)), none]) ?_ (0, M) ⟨Nat.zero_le _, hs, hT⟩
  rintro ⟨i, M⟩ ⟨hi, hs, hT⟩ ih
  try dsimp only at hi hs hT ih ⊢
  refine aw_iload19 X dL_asks_498 ?_
  refine aw_iload18 X dL_asks_500 ?_
  refine aw_icmpgt X dL_asks_502 (tgt := 626) (by decide) (fun c1 => ?_) (fun c1 => ?_)
  · refine aw_iconst X dL_asks_626 (v := nI 1) (by decide) ?_
    refine aw_widen (k' := 120) (n' := 720) (by omega) (by omega) ?_
    refine aw_ireturn X (ty := .boolean) hr (by first | rfl | decide | assumption) dL_asks_627 (⟨rfl, hs, F, hT, hL⟩)
  · have hle : i ≤ nin τ q := by
      rcases Nat.lt_or_ge (nin τ q) i with e | e
      · exact absurd (nI_lt e (by omega)) c1
      · exact e
    refine aw_splB (pm := 517) (P := i < nin τ q) (fun K => ?_) ?_
    · refine aw_iload19 X dL_asks_505 ?_
      refine aw_iload18 X dL_asks_507 ?_
      refine aw_icmpge X dL_asks_509 (tgt := 516) (by decide) (fun c2 => ?_) (fun c2 => ?_)
      · refine aw_iconst X dL_asks_516 (v := nI 0) (by decide) ?_
        exact aw_b0 (fun e => absurd ((nI_leI (by omega) (by omega)).mp c2) (by omega)) K
      · refine aw_iconst X dL_asks_512 (v := nI 1) (by decide) ?_
        refine aw_goto X dL_asks_513 (tgt := 517) (by decide) ?_
        exact aw_b1 (by
          rcases Nat.lt_or_ge i (nin τ q) with e | e
          · exact e
          · exact absurd (nI_le e (by omega)) c2) K
    refine aw_istore20 X dL_asks_517 (by rw [hn]; decide) rfl ?_
    refine aw_aload0 X dL_asks_519 ?_
    refine aw_iload10 X dL_asks_520 ?_
    refine aw_iload19 X dL_asks_522 ?_
    refine aw_callSH X hN (w_isCopy hfl hs) kL_204 dL_asks_524 rfl rfl (by first | decide | exact Nat.le_of_ble_eq_true rfl) (by rw [hR]; exact ⟨by first | decide | exact Nat.le_of_ble_eq_true rfl | (dsimp only; omega), by first | decide | exact Nat.le_of_ble_eq_true rfl | (dsimp only; omega)⟩) (by rw [hR]; exact ⟨by dsimp only; omega, by dsimp only; omega⟩) (fun v M hv => ?_)
    obtain ⟨rfl, hs1, hk1⟩ := hv
    obtain ⟨hs, hT⟩ := st_told hT hs1 hk1 st_spIsCopy
    refine aw_splV (pm := 548) (v := wr (spIsCopy τ (nI q) (nI i))) (fun K => ?_) ?_
    · refine aw_iload20 X dL_asks_527 ?_
      refine aw_ifeq X dL_asks_529 (tgt := 546) (by decide) (fun c2 => ?_) (fun c2 => ?_)
      · have e0 : spIsCopy τ (nI q) (nI i) = (1, 0, τ) := by rw [spIsCopy, if_neg (fun e => am_bz.mp c2 ((hin i (by omega)).mp e))]
        refine aw_bipush X dL_asks_546 (v := -101) (by decide) ?_
        refine aw_int (y := wr (spIsCopy τ (nI q) (nI i))) (by rw [e0]; rfl) ?_
        exact K
      · have hlt := am_bn.mp c2
        obtain ⟨h4, r1, r2, r3⟩ := hrow i hlt
        have e0 : spIsCopy τ (nI q) (nI i) = (0, b2i ((τ.2.2.1 q).2.1.getD i dI).1, τ) := by
          rw [spIsCopy, if_pos ((hin i (by omega)).mpr hlt)]
          simp only [tI, tD, ix_n (show q < 2 ^ 31 by omega), ix_n (show i < 2 ^ 31 by omega)]
        refine aw_aload6 X dL_asks_532 ?_
        refine aw_bipush X dL_asks_534 (v := nI 16) (by decide) ?_
        refine aw_iload10 X dL_asks_536 ?_
        refine aw_imul X dL_asks_538 ?_
        first | with_reducible refine aw_int (pk_mul _ _) ?_ | skip
        refine aw_iload19 X dL_asks_539 ?_
        refine aw_iadd X dL_asks_541 ?_
        first | with_reducible refine aw_int (nI_add _ _) ?_ | skip
        refine aw_iald X dL_asks_542 (hT.at 5 (by decide)) rfl (show 16 * q + i < 64 by omega) (by decide) ?_
        refine aw_int r1 ?_
        refine aw_goto X dL_asks_543 (tgt := 548) (by decide) ?_
        refine aw_int (y := wr (spIsCopy τ (nI q) (nI i))) (by rw [e0]; rfl) ?_
        exact K
    refine aw_icmpne X dL_asks_548 (tgt := 618) (by decide) (fun c9 => by first | exact absurd (rfl) c9 | exact absurd c9 (rfl)) (fun _ => ?_)
    refine aw_aload0 X dL_asks_551 ?_
    refine aw_iconst X dL_asks_552 (v := nI 5) (by decide) ?_
    refine aw_iload10 X dL_asks_553 ?_
    refine aw_iload19 X dL_asks_555 ?_
    refine aw_callSH X hN (w_startOf hfl hs) kL_181 dL_asks_557 rfl rfl (by first | decide | exact Nat.le_of_ble_eq_true rfl) (by rw [hR]; exact ⟨by first | decide | exact Nat.le_of_ble_eq_true rfl | (dsimp only; omega), by first | decide | exact Nat.le_of_ble_eq_true rfl | (dsimp only; omega)⟩) (by rw [hR]; exact ⟨by dsimp only; omega, by dsimp only; omega⟩) (fun v M hv => ?_)
    obtain ⟨rfl, hs1, hk1⟩ := hv
    obtain ⟨hs, hT⟩ := st_told hT hs1 hk1 st_spStart
    refine aw_splV (pm := 581) (v := wr (spStart τ (nI q) (nI i))) (fun K => ?_) ?_
    · refine aw_iload20 X dL_asks_560 ?_
      refine aw_ifeq X dL_asks_562 (tgt := 579) (by decide) (fun c2 => ?_) (fun c2 => ?_)
      · have e0 : spStart τ (nI q) (nI i) = (1, 0, τ) := by rw [spStart, if_neg (fun e => am_bz.mp c2 ((hin i (by omega)).mp e))]
        refine aw_bipush X dL_asks_579 (v := -101) (by decide) ?_
        refine aw_int (y := wr (spStart τ (nI q) (nI i))) (by rw [e0]; rfl) ?_
        exact K
      · have hlt := am_bn.mp c2
        obtain ⟨h4, r1, r2, r3⟩ := hrow i hlt
        have e0 : spStart τ (nI q) (nI i) = (0, nI ((τ.2.2.1 q).2.1.getD i dI).2.1, τ) := by
          rw [spStart, if_pos ((hin i (by omega)).mpr hlt)]
          simp only [tI, tD, ix_n (show q < 2 ^ 31 by omega), ix_n (show i < 2 ^ 31 by omega)]
        refine aw_aload7 X dL_asks_565 ?_
        refine aw_bipush X dL_asks_567 (v := nI 16) (by decide) ?_
        refine aw_iload10 X dL_asks_569 ?_
        refine aw_imul X dL_asks_571 ?_
        first | with_reducible refine aw_int (pk_mul _ _) ?_ | skip
        refine aw_iload19 X dL_asks_572 ?_
        refine aw_iadd X dL_asks_574 ?_
        first | with_reducible refine aw_int (nI_add _ _) ?_ | skip
        refine aw_iald X dL_asks_575 (hT.at 6 (by decide)) rfl (show 16 * q + i < 64 by omega) (by decide) ?_
        refine aw_int r2 ?_
        refine aw_goto X dL_asks_576 (tgt := 581) (by decide) ?_
        refine aw_int (y := wr (spStart τ (nI q) (nI i))) (by rw [e0]; rfl) ?_
        exact K
    refine aw_icmpne X dL_asks_581 (tgt := 618) (by decide) (fun c9 => by first | exact absurd (rfl) c9 | exact absurd c9 (rfl)) (fun _ => ?_)
    refine aw_aload0 X dL_asks_584 ?_
    refine aw_bipush X dL_asks_585 (v := nI 6) (by decide) ?_
    refine aw_iload10 X dL_asks_587 ?_
    refine aw_iload19 X dL_asks_589 ?_
    refine aw_callSH X hN (w_bytesOf hfl hs) kL_181 dL_asks_591 rfl rfl (by first | decide | exact Nat.le_of_ble_eq_true rfl) (by rw [hR]; exact ⟨by first | decide | exact Nat.le_of_ble_eq_true rfl | (dsimp only; omega), by first | decide | exact Nat.le_of_ble_eq_true rfl | (dsimp only; omega)⟩) (by rw [hR]; exact ⟨by dsimp only; omega, by dsimp only; omega⟩) (fun v M hv => ?_)
    obtain ⟨rfl, hs1, hk1⟩ := hv
    obtain ⟨hs, hT⟩ := st_told hT hs1 hk1 st_spBytes
    refine aw_splV (pm := 615) (v := wr (spBytes τ (nI q) (nI i))) (fun K => ?_) ?_
    · refine aw_iload20 X dL_asks_594 ?_
      refine aw_ifeq X dL_asks_596 (tgt := 613) (by decide) (fun c2 => ?_) (fun c2 => ?_)
      · have e0 : spBytes τ (nI q) (nI i) = (1, 0, τ) := by rw [spBytes, if_neg (fun e => am_bz.mp c2 ((hin i (by omega)).mp e))]
        refine aw_bipush X dL_asks_613 (v := -101) (by decide) ?_
        refine aw_int (y := wr (spBytes τ (nI q) (nI i))) (by rw [e0]; rfl) ?_
        exact K
      · have hlt := am_bn.mp c2
        obtain ⟨h4, r1, r2, r3⟩ := hrow i hlt
        have e0 : spBytes τ (nI q) (nI i) = (0, nI ((τ.2.2.1 q).2.1.getD i dI).2.2, τ) := by
          rw [spBytes, if_pos ((hin i (by omega)).mpr hlt)]
          simp only [tI, tD, ix_n (show q < 2 ^ 31 by omega), ix_n (show i < 2 ^ 31 by omega)]
        refine aw_aload8 X dL_asks_599 ?_
        refine aw_bipush X dL_asks_601 (v := nI 16) (by decide) ?_
        refine aw_iload10 X dL_asks_603 ?_
        refine aw_imul X dL_asks_605 ?_
        first | with_reducible refine aw_int (pk_mul _ _) ?_ | skip
        refine aw_iload19 X dL_asks_606 ?_
        refine aw_iadd X dL_asks_608 ?_
        first | with_reducible refine aw_int (nI_add _ _) ?_ | skip
        refine aw_iald X dL_asks_609 (hT.at 7 (by decide)) rfl (show 16 * q + i < 64 by omega) (by decide) ?_
        refine aw_int r3 ?_
        refine aw_goto X dL_asks_610 (tgt := 615) (by decide) ?_
        refine aw_int (y := wr (spBytes τ (nI q) (nI i))) (by rw [e0]; rfl) ?_
        exact K
    refine aw_icmpeq X dL_asks_615 (tgt := 620) (by decide) (fun _ => ?_) (fun c9 => by first | exact absurd (rfl) c9 | exact absurd c9 (rfl))
    refine aw_iinc19 X dL_asks_620 (by rw [hn]; decide) (am_inc _ 1) rfl ?_
    refine aw_goto X dL_asks_623 (tgt := 498) (by decide) ?_
    exact aw_drop20 (ih (i + 1, M) ⟨by omega, hs, hT⟩ (by dsimp only; omega))
