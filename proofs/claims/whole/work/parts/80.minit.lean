/-! the model's constructor -/
def mi (G : AG) (M0 M : AM) (y k : Nat) (fs : List Value) : Prop := M.1 y = some (am_o 10 fs) ∧ (∀ a n, 0 < a → a ≤ k → mT a = (1, n) → M.1 (y + a) = some (am_ai G n (fun _ => 0))) ∧ (∀ a n, 0 < a → a ≤ k → mT a = (2, n) → M.1 (y + a) = some (am_az G n (fun _ => 0))) ∧ (8 ≤ k → M.1 (y + 8) = some (am_al G 600 (fun _ => 0))) ∧ M.2 = some (y + k + 1) ∧ ∀ j, j < y ∨ y + 27 ≤ j → M.1 j = M0.1 j
theorem mi.put {G : AG} {M0 M : AM} {y k : Nat} {fs : List Value} (h : mi G M0 M y k fs) (fs' : List Value) : mi G M0 (am_up M y (am_o 10 fs')) y k fs' :=
  ⟨am_us, fun a n h1 h2 h3 => (am_un (by omega)).trans (h.2.1 a n h1 h2 h3), fun a n h1 h2 h3 => (am_un (by omega)).trans (h.2.2.1 a n h1 h2 h3), fun h8 => (am_un (by omega)).trans (h.2.2.2.1 h8), h.2.2.2.2.1, fun j hj => (am_un (by omega)).trans (h.2.2.2.2.2 j hj)⟩
theorem mi.nI {G : AG} {M0 M : AM} {y k N : Nat} {fs : List Value} (h : mi G M0 M y k fs) (hk : k < 26) (hT : mT (k + 1) = (1, N)) : mi G M0 (am_nw M (y + k + 1) (am_ai G N (fun _ => 0))) y (k + 1) fs := by
  refine ⟨(am_nn (by omega)).trans h.1, fun a n h1 h2 h3 => ?_, fun a n h1 h2 h3 => ?_, fun h8 => ?_, rfl, fun j hj => (am_nn (by omega)).trans (h.2.2.2.2.2 j hj)⟩
  · by_cases e : a = k + 1
    · subst e
      rw [hT] at h3
      cases h3
      exact am_ns
    · exact (am_nn (by omega)).trans (h.2.1 a n h1 (by omega) h3)
  · by_cases e : a = k + 1
    · subst e
      rw [hT] at h3
      cases h3
    · exact (am_nn (by omega)).trans (h.2.2.1 a n h1 (by omega) h3)
  · have e : k + 1 ≠ 8 := fun e => by
      rw [e] at hT
      cases hT
    exact (am_nn (by omega)).trans (h.2.2.2.1 (by omega))
theorem mi.nZ {G : AG} {M0 M : AM} {y k N : Nat} {fs : List Value} (h : mi G M0 M y k fs) (hk : k < 26) (hT : mT (k + 1) = (2, N)) : mi G M0 (am_nw M (y + k + 1) (am_az G N (fun _ => 0))) y (k + 1) fs := by
  refine ⟨(am_nn (by omega)).trans h.1, fun a n h1 h2 h3 => ?_, fun a n h1 h2 h3 => ?_, fun h8 => ?_, rfl, fun j hj => (am_nn (by omega)).trans (h.2.2.2.2.2 j hj)⟩
  · by_cases e : a = k + 1
    · subst e
      rw [hT] at h3
      cases h3
    · exact (am_nn (by omega)).trans (h.2.1 a n h1 (by omega) h3)
  · by_cases e : a = k + 1
    · subst e
      rw [hT] at h3
      cases h3
      exact am_ns
    · exact (am_nn (by omega)).trans (h.2.2.1 a n h1 (by omega) h3)
  · have e : k + 1 ≠ 8 := fun e => by
      rw [e] at hT
      cases hT
    exact (am_nn (by omega)).trans (h.2.2.2.1 (by omega))
theorem mi.nL {G : AG} {M0 M : AM} {y : Nat} {fs : List Value} (h : mi G M0 M y 7 fs) : mi G M0 (am_nw M (y + 7 + 1) (am_al G 600 (fun _ => 0))) y 8 fs := by
  refine ⟨(am_nn (by omega)).trans h.1, fun a n h1 h2 h3 => ?_, fun a n h1 h2 h3 => ?_, fun h8 => am_ns, rfl, fun j hj => (am_nn (by omega)).trans (h.2.2.2.2.2 j hj)⟩
  · have e : a ≠ 8 := fun e => by
      rw [e] at h3
      cases h3
    exact (am_nn (by omega)).trans (h.2.1 a n h1 (by omega) h3)
  · have e : a ≠ 8 := fun e => by
      rw [e] at h3
      cases h3
    exact (am_nn (by omega)).trans (h.2.2.1 a n h1 (by omega) h3)
section MIrows
variable {Z : AZ} {cc : ByteArray} {Q : State → Prop} {M M0 : AM} {kc ns pc y : Nat} {L : List (Option Value)} {st : List Value} {fs : List Value}
theorem aw_miI (X : am_X RX9 cc Z) (k N j : Nat) {idx : Nat} {x : Int32} (h : mi (zG Z) M0 M y k fs) (hk : k < 26) (hT : mT (k + 1) = (1, N)) (hx : x = nI N) (hN : N < 65536) (d1 : decode cc pc = .ok (.newarray .int, 2)) (hF : am_Ff RX9 idx 10 j (.array .int)) (hinit : (zM Z).name = "<init>") (d2 : decode cc (pc + 2) = .ok (.putfield idx, 3)) (hj : j < fs.length) (fs' : List Value) (hfs : fs.set j (.ref (y + k + 1)) = fs') (hc : kc + 1 ≤ (zR Z).cells) (hs : ns + N ≤ (zR Z).slots)
    (kk : ∀ M', mi (zG Z) M0 M' y (k + 1) fs' → AW Z Q M' (kc + 1) (ns + N) (pc + 2 + 3) L st) : AW Z Q M kc ns pc L (.int x :: .ref y :: st) :=
  aw_newI X N d1 hx hN hc hs ac_int (fun e _ _ he => by
    cases he _ h.2.2.2.2.1
    have h2 := h.nI hk hT
    exact aw_putF X hF hinit d2 h2.1 hfs hj rfl rfl (kk _ (h2.put _)))
theorem aw_miZ (X : am_X RX9 cc Z) (k N j : Nat) {idx : Nat} {x : Int32} (h : mi (zG Z) M0 M y k fs) (hk : k < 26) (hT : mT (k + 1) = (2, N)) (hx : x = nI N) (hN : N < 65536) (d1 : decode cc pc = .ok (.newarray .boolean, 2)) (hF : am_Ff RX9 idx 10 j (.array .boolean)) (hinit : (zM Z).name = "<init>") (d2 : decode cc (pc + 2) = .ok (.putfield idx, 3)) (hj : j < fs.length) (fs' : List Value) (hfs : fs.set j (.ref (y + k + 1)) = fs') (hc : kc + 1 ≤ (zR Z).cells) (hs : ns + N ≤ (zR Z).slots)
    (kk : ∀ M', mi (zG Z) M0 M' y (k + 1) fs' → AW Z Q M' (kc + 1) (ns + N) (pc + 2 + 3) L st) : AW Z Q M kc ns pc L (.int x :: .ref y :: st) :=
  aw_newZ X N d1 hx hN hc hs ac_boolean (fun e _ _ he => by
    cases he _ h.2.2.2.2.1
    have h2 := h.nZ hk hT
    exact aw_putF X hF hinit d2 h2.1 hfs hj rfl rfl (kk _ (h2.put _)))
theorem aw_miL (X : am_X RX9 cc Z) {idx : Nat} {x : Int32} (h : mi (zG Z) M0 M y 7 fs) (hx : x = nI 600) (d1 : decode cc pc = .ok (.newarray .long, 2)) (hF : am_Ff RX9 idx 10 8 (.array .long)) (hinit : (zM Z).name = "<init>") (d2 : decode cc (pc + 2) = .ok (.putfield idx, 3)) (hj : 8 < fs.length) (fs' : List Value) (hfs : fs.set 8 (.ref (y + 7 + 1)) = fs') (hc : kc + 1 ≤ (zR Z).cells) (hs : ns + 600 ≤ (zR Z).slots)
    (kk : ∀ M', mi (zG Z) M0 M' y 8 fs' → AW Z Q M' (kc + 1) (ns + 600) (pc + 2 + 3) L st) : AW Z Q M kc ns pc L (.int x :: .ref y :: st) :=
  aw_newL X 600 d1 hx (by decide) hc hs ac_long (fun e _ _ he => by
    cases he _ h.2.2.2.2.1
    have h2 := h.nL
    exact aw_putF X hF hinit d2 h2.1 hfs hj rfl rfl (kk _ (h2.put _)))
theorem aw_miP (X : am_X RX9 cc Z) (k j : Nat) {idx : Nat} {v : Int32} (h : mi (zG Z) M0 M y k fs) (hF : am_Fp RX9 idx 10 j .int) (d : decode cc pc = .ok (.putfield idx, 3)) (hj : j < fs.length) (fs' : List Value) (hfs : fs.set j (.int v) = fs') (kk : ∀ M', mi (zG Z) M0 M' y k fs' → AW Z Q M' kc ns (pc + 3) L st) : AW Z Q M kc ns pc L (.int v :: .ref y :: st) :=
  aw_put X hF d h.1 hfs hj rfl rfl (kk _ (h.put _))
end MIrows
def c0 : Nat → Int32
  | 28 => nI 4
  | 29 => nI 16
  | 30 => nI 8
  | _ => nI 0
theorem mi.rel {A : MA} {S : Nat → Int64} (hA : ∀ a k, A a k = 0) (hS : ∀ k, S k = 0) : mRel A S c0 ts0 := by
  have nb0 : sgN (false, 1, 1, []) = 0 := by decide
  refine ⟨⟨rfl, Nat.zero_le _⟩, fun i hi => ⟨Nat.zero_le _, hA 1 i, fun k hk => absurd hk (Nat.not_lt_zero _)⟩, fun i hi => ⟨⟨(by decide : 0 < 1), (by decide : 1 ≤ 7), (by decide : 0 < 1), (by decide : 1 ≤ 4096), Nat.zero_le _⟩, hA 3 i, fun e => (by cases e), ?_, fun k hk => ?_⟩, fun i hi => ⟨⟨Nat.zero_le _, rfl, Nat.zero_le _, fun i hi => (nomatch hi), fun i hi => (nomatch hi), Nat.zero_le _⟩, hA 9 i, hA 10 i, hA 11 i, fun k hk => absurd hk (Nat.not_lt_zero _), fun k hk => absurd hk (Nat.not_lt_zero _)⟩, ⟨rfl, Nat.zero_le _⟩, fun v hv => hA 16 v, ⟨rfl, rfl, rfl, (by decide : 0 < 4), (by decide : 4 ≤ 16), (by decide : 4 ≤ 16), (by decide : 16 ≤ 40), (by decide : 0 < 8), (by decide : 8 ≤ 64)⟩, fun p hp => hA 23 p⟩
  · rw [show sgN (ts0.2.1 i) = 0 from nb0]
    exact hA 6 i
  · rw [show sgN (ts0.2.1 i) = 0 from nb0] at hk
    exact absurd hk (Nat.not_lt_zero _)
theorem mi.md {G : AG} {M0 M : AM} {y : Nat} (h : mi G M0 M y 26 (mobj y c0)) : isMD G M0 M y ts0 0 :=
  ⟨fun _ _ => 0, fun _ => 0, c0, ⟨h.1, fun a n hT => by have := mT_le hT (by omega); exact h.2.1 a n this.1 (by omega) hT, fun a n hT => by have := mT_le hT (by omega); exact h.2.2.1 a n this.1 (by omega) hT, h.2.2.2.1 (by omega), fun q x hq he => (h.2.2.2.2.2 q (by omega)).trans hq⟩, mi.rel (fun _ _ => rfl) (fun _ => rfl), rfl⟩
theorem c_X9_init {l : Launch} {G : AG} {M : AM} {y : Nat} (h0 : M.1 y = some (am_o 10 [.int (nI 0), .null, .null, .null, .null, .null, .null, .null, .null, .null, .null, .null, .null, .null, .null, .null, .int (nI 0), .null, .null, .null, .null, .null, .int (nI 0), .int (nI 0), .int (nI 0), .null, .int (nI 0), .null, .int (nI 0), .int (nI 0), .int (nI 0), .null, .null, .null, .null, .int (nI 0)])) (hz : M.2 = some (y + 1)) : Cn l G yX9_init cX9_init 1 none { rX9_init with cells := 26, slots := 19162 } M [.ref y] (fun v M' => v = none ∧ isMD G M M' y ts0 0 ∧ M'.2 = some (y + 27)) := by
  refine Cn.of (by decide) [some (.ref y)] rfl (Nat.le_of_ble_eq_true rfl) ?_
  intro Z hZ
  obtain ⟨rfl, hn, rfl, hR, X, hr, hnm⟩ := hZ
  have h : mi (zG Z) M M y 0 [.int (nI 0), .null, .null, .null, .null, .null, .null, .null, .null, .null, .null, .null, .null, .null, .null, .null, .int (nI 0), .null, .null, .null, .null, .null, .int (nI 0), .int (nI 0), .int (nI 0), .null, .int (nI 0), .null, .int (nI 0), .int (nI 0), .int (nI 0), .null, .null, .null, .null, .int (nI 0)] := ⟨h0, fun a n x1 x2 => absurd x1 (by omega), fun a n x1 x2 => absurd x1 (by omega), fun h8 => absurd h8 (by omega), hz, fun _ _ => rfl⟩
  refine aw_aload0 X dX9_init_0 ?_
  refine aw_obj X olX9_1 oi_i oi_c dX9_init_1 (by rw [hR]; exact Nat.le_of_ble_eq_true rfl) (by rw [hR]; exact Nat.le_of_ble_eq_true rfl) ?_
  refine aw_aload0 X dX9_init_4 ?_
  refine aw_bipush X dX9_init_5 (v := nI 6) (by decide) ?_
  refine aw_miI X 0 6 1 h (by decide) rfl rfl (by decide) dX9_init_7 pX9_7 hnm dX9_init_9 (Nat.le_of_ble_eq_true rfl) [.int (nI 0), .ref (y + 1), .null, .null, .null, .null, .null, .null, .null, .null, .null, .null, .null, .null, .null, .null, .int (nI 0), .null, .null, .null, .null, .null, .int (nI 0), .int (nI 0), .int (nI 0), .null, .int (nI 0), .null, .int (nI 0), .int (nI 0), .int (nI 0), .null, .null, .null, .null, .int (nI 0)] rfl (by rw [hR]; exact Nat.le_of_ble_eq_true rfl) (by rw [hR]; exact Nat.le_of_ble_eq_true rfl) (fun M1 h => ?_)
  refine aw_aload0 X dX9_init_12 ?_
  refine aw_sipush X dX9_init_13 (v := nI 720) (by decide) ?_
  refine aw_miI X 1 720 2 h (by decide) rfl rfl (by decide) dX9_init_16 pX9_13 hnm dX9_init_18 (Nat.le_of_ble_eq_true rfl) [.int (nI 0), .ref (y + 1), .ref (y + 2), .null, .null, .null, .null, .null, .null, .null, .null, .null, .null, .null, .null, .null, .int (nI 0), .null, .null, .null, .null, .null, .int (nI 0), .int (nI 0), .int (nI 0), .null, .int (nI 0), .null, .int (nI 0), .int (nI 0), .int (nI 0), .null, .null, .null, .null, .int (nI 0)] rfl (by rw [hR]; exact Nat.le_of_ble_eq_true rfl) (by rw [hR]; exact Nat.le_of_ble_eq_true rfl) (fun M2 h => ?_)
  refine aw_aload0 X dX9_init_21 ?_
  refine aw_iconst X dX9_init_22 (v := nI 5) (by decide) ?_
  refine aw_miI X 2 5 3 h (by decide) rfl rfl (by decide) dX9_init_23 pX9_16 hnm dX9_init_25 (Nat.le_of_ble_eq_true rfl) [.int (nI 0), .ref (y + 1), .ref (y + 2), .ref (y + 3), .null, .null, .null, .null, .null, .null, .null, .null, .null, .null, .null, .null, .int (nI 0), .null, .null, .null, .null, .null, .int (nI 0), .int (nI 0), .int (nI 0), .null, .int (nI 0), .null, .int (nI 0), .int (nI 0), .int (nI 0), .null, .null, .null, .null, .int (nI 0)] rfl (by rw [hR]; exact Nat.le_of_ble_eq_true rfl) (by rw [hR]; exact Nat.le_of_ble_eq_true rfl) (fun M3 h => ?_)
  refine aw_aload0 X dX9_init_28 ?_
  refine aw_iconst X dX9_init_29 (v := nI 5) (by decide) ?_
  refine aw_miI X 3 5 4 h (by decide) rfl rfl (by decide) dX9_init_30 pX9_19 hnm dX9_init_32 (Nat.le_of_ble_eq_true rfl) [.int (nI 0), .ref (y + 1), .ref (y + 2), .ref (y + 3), .ref (y + 4), .null, .null, .null, .null, .null, .null, .null, .null, .null, .null, .null, .int (nI 0), .null, .null, .null, .null, .null, .int (nI 0), .int (nI 0), .int (nI 0), .null, .int (nI 0), .null, .int (nI 0), .int (nI 0), .int (nI 0), .null, .null, .null, .null, .int (nI 0)] rfl (by rw [hR]; exact Nat.le_of_ble_eq_true rfl) (by rw [hR]; exact Nat.le_of_ble_eq_true rfl) (fun M4 h => ?_)
  refine aw_aload0 X dX9_init_35 ?_
  refine aw_iconst X dX9_init_36 (v := nI 5) (by decide) ?_
  refine aw_miI X 4 5 5 h (by decide) rfl rfl (by decide) dX9_init_37 pX9_22 hnm dX9_init_39 (Nat.le_of_ble_eq_true rfl) [.int (nI 0), .ref (y + 1), .ref (y + 2), .ref (y + 3), .ref (y + 4), .ref (y + 5), .null, .null, .null, .null, .null, .null, .null, .null, .null, .null, .int (nI 0), .null, .null, .null, .null, .null, .int (nI 0), .int (nI 0), .int (nI 0), .null, .int (nI 0), .null, .int (nI 0), .int (nI 0), .int (nI 0), .null, .null, .null, .null, .int (nI 0)] rfl (by rw [hR]; exact Nat.le_of_ble_eq_true rfl) (by rw [hR]; exact Nat.le_of_ble_eq_true rfl) (fun M5 h => ?_)
  refine aw_aload0 X dX9_init_42 ?_
  refine aw_iconst X dX9_init_43 (v := nI 5) (by decide) ?_
  refine aw_miI X 5 5 6 h (by decide) rfl rfl (by decide) dX9_init_44 pX9_25 hnm dX9_init_46 (Nat.le_of_ble_eq_true rfl) [.int (nI 0), .ref (y + 1), .ref (y + 2), .ref (y + 3), .ref (y + 4), .ref (y + 5), .ref (y + 6), .null, .null, .null, .null, .null, .null, .null, .null, .null, .int (nI 0), .null, .null, .null, .null, .null, .int (nI 0), .int (nI 0), .int (nI 0), .null, .int (nI 0), .null, .int (nI 0), .int (nI 0), .int (nI 0), .null, .null, .null, .null, .int (nI 0)] rfl (by rw [hR]; exact Nat.le_of_ble_eq_true rfl) (by rw [hR]; exact Nat.le_of_ble_eq_true rfl) (fun M6 h => ?_)
  refine aw_aload0 X dX9_init_49 ?_
  refine aw_sipush X dX9_init_50 (v := nI 600) (by decide) ?_
  refine aw_miI X 6 600 7 h (by decide) rfl rfl (by decide) dX9_init_53 pX9_28 hnm dX9_init_55 (Nat.le_of_ble_eq_true rfl) [.int (nI 0), .ref (y + 1), .ref (y + 2), .ref (y + 3), .ref (y + 4), .ref (y + 5), .ref (y + 6), .ref (y + 7), .null, .null, .null, .null, .null, .null, .null, .null, .int (nI 0), .null, .null, .null, .null, .null, .int (nI 0), .int (nI 0), .int (nI 0), .null, .int (nI 0), .null, .int (nI 0), .int (nI 0), .int (nI 0), .null, .null, .null, .null, .int (nI 0)] rfl (by rw [hR]; exact Nat.le_of_ble_eq_true rfl) (by rw [hR]; exact Nat.le_of_ble_eq_true rfl) (fun M7 h => ?_)
  refine aw_aload0 X dX9_init_58 ?_
  refine aw_sipush X dX9_init_59 (v := nI 600) (by decide) ?_
  refine aw_miL X h rfl dX9_init_62 pX9_31 hnm dX9_init_64 (Nat.le_of_ble_eq_true rfl) [.int (nI 0), .ref (y + 1), .ref (y + 2), .ref (y + 3), .ref (y + 4), .ref (y + 5), .ref (y + 6), .ref (y + 7), .ref (y + 8), .null, .null, .null, .null, .null, .null, .null, .int (nI 0), .null, .null, .null, .null, .null, .int (nI 0), .int (nI 0), .int (nI 0), .null, .int (nI 0), .null, .int (nI 0), .int (nI 0), .int (nI 0), .null, .null, .null, .null, .int (nI 0)] rfl (by rw [hR]; exact Nat.le_of_ble_eq_true rfl) (by rw [hR]; exact Nat.le_of_ble_eq_true rfl) (fun M8 h => ?_)
  refine aw_aload0 X dX9_init_67 ?_
  refine aw_bipush X dX9_init_68 (v := nI 24) (by decide) ?_
  refine aw_miZ X 8 24 9 h (by decide) rfl rfl (by decide) dX9_init_70 pX9_35 hnm dX9_init_72 (Nat.le_of_ble_eq_true rfl) [.int (nI 0), .ref (y + 1), .ref (y + 2), .ref (y + 3), .ref (y + 4), .ref (y + 5), .ref (y + 6), .ref (y + 7), .ref (y + 8), .ref (y + 9), .null, .null, .null, .null, .null, .null, .int (nI 0), .null, .null, .null, .null, .null, .int (nI 0), .int (nI 0), .int (nI 0), .null, .int (nI 0), .null, .int (nI 0), .int (nI 0), .int (nI 0), .null, .null, .null, .null, .int (nI 0)] rfl (by rw [hR]; exact Nat.le_of_ble_eq_true rfl) (by rw [hR]; exact Nat.le_of_ble_eq_true rfl) (fun M9 h => ?_)
  refine aw_aload0 X dX9_init_75 ?_
  refine aw_bipush X dX9_init_76 (v := nI 24) (by decide) ?_
  refine aw_miI X 9 24 10 h (by decide) rfl rfl (by decide) dX9_init_78 pX9_39 hnm dX9_init_80 (Nat.le_of_ble_eq_true rfl) [.int (nI 0), .ref (y + 1), .ref (y + 2), .ref (y + 3), .ref (y + 4), .ref (y + 5), .ref (y + 6), .ref (y + 7), .ref (y + 8), .ref (y + 9), .ref (y + 10), .null, .null, .null, .null, .null, .int (nI 0), .null, .null, .null, .null, .null, .int (nI 0), .int (nI 0), .int (nI 0), .null, .int (nI 0), .null, .int (nI 0), .int (nI 0), .int (nI 0), .null, .null, .null, .null, .int (nI 0)] rfl (by rw [hR]; exact Nat.le_of_ble_eq_true rfl) (by rw [hR]; exact Nat.le_of_ble_eq_true rfl) (fun M10 h => ?_)
  refine aw_aload0 X dX9_init_83 ?_
  refine aw_bipush X dX9_init_84 (v := nI 24) (by decide) ?_
  refine aw_miI X 10 24 11 h (by decide) rfl rfl (by decide) dX9_init_86 pX9_42 hnm dX9_init_88 (Nat.le_of_ble_eq_true rfl) [.int (nI 0), .ref (y + 1), .ref (y + 2), .ref (y + 3), .ref (y + 4), .ref (y + 5), .ref (y + 6), .ref (y + 7), .ref (y + 8), .ref (y + 9), .ref (y + 10), .ref (y + 11), .null, .null, .null, .null, .int (nI 0), .null, .null, .null, .null, .null, .int (nI 0), .int (nI 0), .int (nI 0), .null, .int (nI 0), .null, .int (nI 0), .int (nI 0), .int (nI 0), .null, .null, .null, .null, .int (nI 0)] rfl (by rw [hR]; exact Nat.le_of_ble_eq_true rfl) (by rw [hR]; exact Nat.le_of_ble_eq_true rfl) (fun M11 h => ?_)
  refine aw_aload0 X dX9_init_91 ?_
  refine aw_sipush X dX9_init_92 (v := nI 2880) (by decide) ?_
  refine aw_miZ X 11 2880 12 h (by decide) rfl rfl (by decide) dX9_init_95 pX9_45 hnm dX9_init_97 (Nat.le_of_ble_eq_true rfl) [.int (nI 0), .ref (y + 1), .ref (y + 2), .ref (y + 3), .ref (y + 4), .ref (y + 5), .ref (y + 6), .ref (y + 7), .ref (y + 8), .ref (y + 9), .ref (y + 10), .ref (y + 11), .ref (y + 12), .null, .null, .null, .int (nI 0), .null, .null, .null, .null, .null, .int (nI 0), .int (nI 0), .int (nI 0), .null, .int (nI 0), .null, .int (nI 0), .int (nI 0), .int (nI 0), .null, .null, .null, .null, .int (nI 0)] rfl (by rw [hR]; exact Nat.le_of_ble_eq_true rfl) (by rw [hR]; exact Nat.le_of_ble_eq_true rfl) (fun M12 h => ?_)
  refine aw_aload0 X dX9_init_100 ?_
  refine aw_sipush X dX9_init_101 (v := nI 2880) (by decide) ?_
  refine aw_miI X 12 2880 13 h (by decide) rfl rfl (by decide) dX9_init_104 pX9_48 hnm dX9_init_106 (Nat.le_of_ble_eq_true rfl) [.int (nI 0), .ref (y + 1), .ref (y + 2), .ref (y + 3), .ref (y + 4), .ref (y + 5), .ref (y + 6), .ref (y + 7), .ref (y + 8), .ref (y + 9), .ref (y + 10), .ref (y + 11), .ref (y + 12), .ref (y + 13), .null, .null, .int (nI 0), .null, .null, .null, .null, .null, .int (nI 0), .int (nI 0), .int (nI 0), .null, .int (nI 0), .null, .int (nI 0), .int (nI 0), .int (nI 0), .null, .null, .null, .null, .int (nI 0)] rfl (by rw [hR]; exact Nat.le_of_ble_eq_true rfl) (by rw [hR]; exact Nat.le_of_ble_eq_true rfl) (fun M13 h => ?_)
  refine aw_aload0 X dX9_init_109 ?_
  refine aw_sipush X dX9_init_110 (v := nI 2880) (by decide) ?_
  refine aw_miI X 13 2880 14 h (by decide) rfl rfl (by decide) dX9_init_113 pX9_51 hnm dX9_init_115 (Nat.le_of_ble_eq_true rfl) [.int (nI 0), .ref (y + 1), .ref (y + 2), .ref (y + 3), .ref (y + 4), .ref (y + 5), .ref (y + 6), .ref (y + 7), .ref (y + 8), .ref (y + 9), .ref (y + 10), .ref (y + 11), .ref (y + 12), .ref (y + 13), .ref (y + 14), .null, .int (nI 0), .null, .null, .null, .null, .null, .int (nI 0), .int (nI 0), .int (nI 0), .null, .int (nI 0), .null, .int (nI 0), .int (nI 0), .int (nI 0), .null, .null, .null, .null, .int (nI 0)] rfl (by rw [hR]; exact Nat.le_of_ble_eq_true rfl) (by rw [hR]; exact Nat.le_of_ble_eq_true rfl) (fun M14 h => ?_)
  refine aw_aload0 X dX9_init_118 ?_
  refine aw_sipush X dX9_init_119 (v := nI 2880) (by decide) ?_
  refine aw_miI X 14 2880 15 h (by decide) rfl rfl (by decide) dX9_init_122 pX9_54 hnm dX9_init_124 (Nat.le_of_ble_eq_true rfl) [.int (nI 0), .ref (y + 1), .ref (y + 2), .ref (y + 3), .ref (y + 4), .ref (y + 5), .ref (y + 6), .ref (y + 7), .ref (y + 8), .ref (y + 9), .ref (y + 10), .ref (y + 11), .ref (y + 12), .ref (y + 13), .ref (y + 14), .ref (y + 15), .int (nI 0), .null, .null, .null, .null, .null, .int (nI 0), .int (nI 0), .int (nI 0), .null, .int (nI 0), .null, .int (nI 0), .int (nI 0), .int (nI 0), .null, .null, .null, .null, .int (nI 0)] rfl (by rw [hR]; exact Nat.le_of_ble_eq_true rfl) (by rw [hR]; exact Nat.le_of_ble_eq_true rfl) (fun M15 h => ?_)
  refine aw_aload0 X dX9_init_127 ?_
  refine aw_bipush X dX9_init_128 (v := nI 20) (by decide) ?_
  refine aw_miI X 15 20 17 h (by decide) rfl rfl (by decide) dX9_init_130 pX9_57 hnm dX9_init_132 (Nat.le_of_ble_eq_true rfl) [.int (nI 0), .ref (y + 1), .ref (y + 2), .ref (y + 3), .ref (y + 4), .ref (y + 5), .ref (y + 6), .ref (y + 7), .ref (y + 8), .ref (y + 9), .ref (y + 10), .ref (y + 11), .ref (y + 12), .ref (y + 13), .ref (y + 14), .ref (y + 15), .int (nI 0), .ref (y + 16), .null, .null, .null, .null, .int (nI 0), .int (nI 0), .int (nI 0), .null, .int (nI 0), .null, .int (nI 0), .int (nI 0), .int (nI 0), .null, .null, .null, .null, .int (nI 0)] rfl (by rw [hR]; exact Nat.le_of_ble_eq_true rfl) (by rw [hR]; exact Nat.le_of_ble_eq_true rfl) (fun M16 h => ?_)
  refine aw_aload0 X dX9_init_135 ?_
  refine aw_bipush X dX9_init_136 (v := nI 20) (by decide) ?_
  refine aw_miI X 16 20 18 h (by decide) rfl rfl (by decide) dX9_init_138 pX9_60 hnm dX9_init_140 (Nat.le_of_ble_eq_true rfl) [.int (nI 0), .ref (y + 1), .ref (y + 2), .ref (y + 3), .ref (y + 4), .ref (y + 5), .ref (y + 6), .ref (y + 7), .ref (y + 8), .ref (y + 9), .ref (y + 10), .ref (y + 11), .ref (y + 12), .ref (y + 13), .ref (y + 14), .ref (y + 15), .int (nI 0), .ref (y + 16), .ref (y + 17), .null, .null, .null, .int (nI 0), .int (nI 0), .int (nI 0), .null, .int (nI 0), .null, .int (nI 0), .int (nI 0), .int (nI 0), .null, .null, .null, .null, .int (nI 0)] rfl (by rw [hR]; exact Nat.le_of_ble_eq_true rfl) (by rw [hR]; exact Nat.le_of_ble_eq_true rfl) (fun M17 h => ?_)
  refine aw_aload0 X dX9_init_143 ?_
  refine aw_bipush X dX9_init_144 (v := nI 20) (by decide) ?_
  refine aw_miI X 17 20 19 h (by decide) rfl rfl (by decide) dX9_init_146 pX9_63 hnm dX9_init_148 (Nat.le_of_ble_eq_true rfl) [.int (nI 0), .ref (y + 1), .ref (y + 2), .ref (y + 3), .ref (y + 4), .ref (y + 5), .ref (y + 6), .ref (y + 7), .ref (y + 8), .ref (y + 9), .ref (y + 10), .ref (y + 11), .ref (y + 12), .ref (y + 13), .ref (y + 14), .ref (y + 15), .int (nI 0), .ref (y + 16), .ref (y + 17), .ref (y + 18), .null, .null, .int (nI 0), .int (nI 0), .int (nI 0), .null, .int (nI 0), .null, .int (nI 0), .int (nI 0), .int (nI 0), .null, .null, .null, .null, .int (nI 0)] rfl (by rw [hR]; exact Nat.le_of_ble_eq_true rfl) (by rw [hR]; exact Nat.le_of_ble_eq_true rfl) (fun M18 h => ?_)
  refine aw_aload0 X dX9_init_151 ?_
  refine aw_sipush X dX9_init_152 (v := nI 2400) (by decide) ?_
  refine aw_miI X 18 2400 20 h (by decide) rfl rfl (by decide) dX9_init_155 pX9_66 hnm dX9_init_157 (Nat.le_of_ble_eq_true rfl) [.int (nI 0), .ref (y + 1), .ref (y + 2), .ref (y + 3), .ref (y + 4), .ref (y + 5), .ref (y + 6), .ref (y + 7), .ref (y + 8), .ref (y + 9), .ref (y + 10), .ref (y + 11), .ref (y + 12), .ref (y + 13), .ref (y + 14), .ref (y + 15), .int (nI 0), .ref (y + 16), .ref (y + 17), .ref (y + 18), .ref (y + 19), .null, .int (nI 0), .int (nI 0), .int (nI 0), .null, .int (nI 0), .null, .int (nI 0), .int (nI 0), .int (nI 0), .null, .null, .null, .null, .int (nI 0)] rfl (by rw [hR]; exact Nat.le_of_ble_eq_true rfl) (by rw [hR]; exact Nat.le_of_ble_eq_true rfl) (fun M19 h => ?_)
  refine aw_aload0 X dX9_init_160 ?_
  refine aw_bipush X dX9_init_161 (v := nI 20) (by decide) ?_
  refine aw_miI X 19 20 21 h (by decide) rfl rfl (by decide) dX9_init_163 pX9_69 hnm dX9_init_165 (Nat.le_of_ble_eq_true rfl) [.int (nI 0), .ref (y + 1), .ref (y + 2), .ref (y + 3), .ref (y + 4), .ref (y + 5), .ref (y + 6), .ref (y + 7), .ref (y + 8), .ref (y + 9), .ref (y + 10), .ref (y + 11), .ref (y + 12), .ref (y + 13), .ref (y + 14), .ref (y + 15), .int (nI 0), .ref (y + 16), .ref (y + 17), .ref (y + 18), .ref (y + 19), .ref (y + 20), .int (nI 0), .int (nI 0), .int (nI 0), .null, .int (nI 0), .null, .int (nI 0), .int (nI 0), .int (nI 0), .null, .null, .null, .null, .int (nI 0)] rfl (by rw [hR]; exact Nat.le_of_ble_eq_true rfl) (by rw [hR]; exact Nat.le_of_ble_eq_true rfl) (fun M20 h => ?_)
  refine aw_aload0 X dX9_init_168 ?_
  refine aw_bipush X dX9_init_169 (v := nI 120) (by decide) ?_
  refine aw_miI X 20 120 25 h (by decide) rfl rfl (by decide) dX9_init_171 pX9_72 hnm dX9_init_173 (Nat.le_of_ble_eq_true rfl) [.int (nI 0), .ref (y + 1), .ref (y + 2), .ref (y + 3), .ref (y + 4), .ref (y + 5), .ref (y + 6), .ref (y + 7), .ref (y + 8), .ref (y + 9), .ref (y + 10), .ref (y + 11), .ref (y + 12), .ref (y + 13), .ref (y + 14), .ref (y + 15), .int (nI 0), .ref (y + 16), .ref (y + 17), .ref (y + 18), .ref (y + 19), .ref (y + 20), .int (nI 0), .int (nI 0), .int (nI 0), .ref (y + 21), .int (nI 0), .null, .int (nI 0), .int (nI 0), .int (nI 0), .null, .null, .null, .null, .int (nI 0)] rfl (by rw [hR]; exact Nat.le_of_ble_eq_true rfl) (by rw [hR]; exact Nat.le_of_ble_eq_true rfl) (fun M21 h => ?_)
  refine aw_aload0 X dX9_init_176 ?_
  refine aw_bipush X dX9_init_177 (v := nI 120) (by decide) ?_
  refine aw_miI X 21 120 27 h (by decide) rfl rfl (by decide) dX9_init_179 pX9_75 hnm dX9_init_181 (Nat.le_of_ble_eq_true rfl) [.int (nI 0), .ref (y + 1), .ref (y + 2), .ref (y + 3), .ref (y + 4), .ref (y + 5), .ref (y + 6), .ref (y + 7), .ref (y + 8), .ref (y + 9), .ref (y + 10), .ref (y + 11), .ref (y + 12), .ref (y + 13), .ref (y + 14), .ref (y + 15), .int (nI 0), .ref (y + 16), .ref (y + 17), .ref (y + 18), .ref (y + 19), .ref (y + 20), .int (nI 0), .int (nI 0), .int (nI 0), .ref (y + 21), .int (nI 0), .ref (y + 22), .int (nI 0), .int (nI 0), .int (nI 0), .null, .null, .null, .null, .int (nI 0)] rfl (by rw [hR]; exact Nat.le_of_ble_eq_true rfl) (by rw [hR]; exact Nat.le_of_ble_eq_true rfl) (fun M22 h => ?_)
  refine aw_aload0 X dX9_init_184 ?_
  refine aw_iconst X dX9_init_185 (v := nI 4) (by decide) ?_
  refine aw_miP X 22 28 h pX9_78 dX9_init_186 (Nat.le_of_ble_eq_true rfl) [.int (nI 0), .ref (y + 1), .ref (y + 2), .ref (y + 3), .ref (y + 4), .ref (y + 5), .ref (y + 6), .ref (y + 7), .ref (y + 8), .ref (y + 9), .ref (y + 10), .ref (y + 11), .ref (y + 12), .ref (y + 13), .ref (y + 14), .ref (y + 15), .int (nI 0), .ref (y + 16), .ref (y + 17), .ref (y + 18), .ref (y + 19), .ref (y + 20), .int (nI 0), .int (nI 0), .int (nI 0), .ref (y + 21), .int (nI 0), .ref (y + 22), .int (nI 4), .int (nI 0), .int (nI 0), .null, .null, .null, .null, .int (nI 0)] rfl (fun M23 h => ?_)
  refine aw_aload0 X dX9_init_189 ?_
  refine aw_bipush X dX9_init_190 (v := nI 16) (by decide) ?_
  refine aw_miP X 22 29 h pX9_82 dX9_init_192 (Nat.le_of_ble_eq_true rfl) [.int (nI 0), .ref (y + 1), .ref (y + 2), .ref (y + 3), .ref (y + 4), .ref (y + 5), .ref (y + 6), .ref (y + 7), .ref (y + 8), .ref (y + 9), .ref (y + 10), .ref (y + 11), .ref (y + 12), .ref (y + 13), .ref (y + 14), .ref (y + 15), .int (nI 0), .ref (y + 16), .ref (y + 17), .ref (y + 18), .ref (y + 19), .ref (y + 20), .int (nI 0), .int (nI 0), .int (nI 0), .ref (y + 21), .int (nI 0), .ref (y + 22), .int (nI 4), .int (nI 16), .int (nI 0), .null, .null, .null, .null, .int (nI 0)] rfl (fun M24 h => ?_)
  refine aw_aload0 X dX9_init_195 ?_
  refine aw_bipush X dX9_init_196 (v := nI 8) (by decide) ?_
  refine aw_miP X 22 30 h pX9_85 dX9_init_198 (Nat.le_of_ble_eq_true rfl) [.int (nI 0), .ref (y + 1), .ref (y + 2), .ref (y + 3), .ref (y + 4), .ref (y + 5), .ref (y + 6), .ref (y + 7), .ref (y + 8), .ref (y + 9), .ref (y + 10), .ref (y + 11), .ref (y + 12), .ref (y + 13), .ref (y + 14), .ref (y + 15), .int (nI 0), .ref (y + 16), .ref (y + 17), .ref (y + 18), .ref (y + 19), .ref (y + 20), .int (nI 0), .int (nI 0), .int (nI 0), .ref (y + 21), .int (nI 0), .ref (y + 22), .int (nI 4), .int (nI 16), .int (nI 8), .null, .null, .null, .null, .int (nI 0)] rfl (fun M25 h => ?_)
  refine aw_aload0 X dX9_init_201 ?_
  refine aw_bipush X dX9_init_202 (v := nI 12) (by decide) ?_
  refine aw_miZ X 22 12 31 h (by decide) rfl rfl (by decide) dX9_init_204 pX9_88 hnm dX9_init_206 (Nat.le_of_ble_eq_true rfl) [.int (nI 0), .ref (y + 1), .ref (y + 2), .ref (y + 3), .ref (y + 4), .ref (y + 5), .ref (y + 6), .ref (y + 7), .ref (y + 8), .ref (y + 9), .ref (y + 10), .ref (y + 11), .ref (y + 12), .ref (y + 13), .ref (y + 14), .ref (y + 15), .int (nI 0), .ref (y + 16), .ref (y + 17), .ref (y + 18), .ref (y + 19), .ref (y + 20), .int (nI 0), .int (nI 0), .int (nI 0), .ref (y + 21), .int (nI 0), .ref (y + 22), .int (nI 4), .int (nI 16), .int (nI 8), .ref (y + 23), .null, .null, .null, .int (nI 0)] rfl (by rw [hR]; exact Nat.le_of_ble_eq_true rfl) (by rw [hR]; exact Nat.le_of_ble_eq_true rfl) (fun M26 h => ?_)
  refine aw_aload0 X dX9_init_209 ?_
  refine aw_bipush X dX9_init_210 (v := nI 12) (by decide) ?_
  refine aw_miI X 23 12 32 h (by decide) rfl rfl (by decide) dX9_init_212 pX9_91 hnm dX9_init_214 (Nat.le_of_ble_eq_true rfl) [.int (nI 0), .ref (y + 1), .ref (y + 2), .ref (y + 3), .ref (y + 4), .ref (y + 5), .ref (y + 6), .ref (y + 7), .ref (y + 8), .ref (y + 9), .ref (y + 10), .ref (y + 11), .ref (y + 12), .ref (y + 13), .ref (y + 14), .ref (y + 15), .int (nI 0), .ref (y + 16), .ref (y + 17), .ref (y + 18), .ref (y + 19), .ref (y + 20), .int (nI 0), .int (nI 0), .int (nI 0), .ref (y + 21), .int (nI 0), .ref (y + 22), .int (nI 4), .int (nI 16), .int (nI 8), .ref (y + 23), .ref (y + 24), .null, .null, .int (nI 0)] rfl (by rw [hR]; exact Nat.le_of_ble_eq_true rfl) (by rw [hR]; exact Nat.le_of_ble_eq_true rfl) (fun M27 h => ?_)
  refine aw_aload0 X dX9_init_217 ?_
  refine aw_sipush X dX9_init_218 (v := nI 1440) (by decide) ?_
  refine aw_miI X 24 1440 33 h (by decide) rfl rfl (by decide) dX9_init_221 pX9_94 hnm dX9_init_223 (Nat.le_of_ble_eq_true rfl) [.int (nI 0), .ref (y + 1), .ref (y + 2), .ref (y + 3), .ref (y + 4), .ref (y + 5), .ref (y + 6), .ref (y + 7), .ref (y + 8), .ref (y + 9), .ref (y + 10), .ref (y + 11), .ref (y + 12), .ref (y + 13), .ref (y + 14), .ref (y + 15), .int (nI 0), .ref (y + 16), .ref (y + 17), .ref (y + 18), .ref (y + 19), .ref (y + 20), .int (nI 0), .int (nI 0), .int (nI 0), .ref (y + 21), .int (nI 0), .ref (y + 22), .int (nI 4), .int (nI 16), .int (nI 8), .ref (y + 23), .ref (y + 24), .ref (y + 25), .null, .int (nI 0)] rfl (by rw [hR]; exact Nat.le_of_ble_eq_true rfl) (by rw [hR]; exact Nat.le_of_ble_eq_true rfl) (fun M28 h => ?_)
  refine aw_aload0 X dX9_init_226 ?_
  refine aw_sipush X dX9_init_227 (v := nI 1440) (by decide) ?_
  refine aw_miI X 25 1440 34 h (by decide) rfl rfl (by decide) dX9_init_230 pX9_97 hnm dX9_init_232 (Nat.le_of_ble_eq_true rfl) [.int (nI 0), .ref (y + 1), .ref (y + 2), .ref (y + 3), .ref (y + 4), .ref (y + 5), .ref (y + 6), .ref (y + 7), .ref (y + 8), .ref (y + 9), .ref (y + 10), .ref (y + 11), .ref (y + 12), .ref (y + 13), .ref (y + 14), .ref (y + 15), .int (nI 0), .ref (y + 16), .ref (y + 17), .ref (y + 18), .ref (y + 19), .ref (y + 20), .int (nI 0), .int (nI 0), .int (nI 0), .ref (y + 21), .int (nI 0), .ref (y + 22), .int (nI 4), .int (nI 16), .int (nI 8), .ref (y + 23), .ref (y + 24), .ref (y + 25), .ref (y + 26), .int (nI 0)] rfl (by rw [hR]; exact Nat.le_of_ble_eq_true rfl) (by rw [hR]; exact Nat.le_of_ble_eq_true rfl) (fun M29 h => ?_)
  refine aw_widen (k' := 26) (n' := 19162) (Nat.le_of_ble_eq_true rfl) (Nat.le_of_ble_eq_true rfl) ?_
  refine aw_vreturn X hr dX9_init_235 (⟨rfl, mi.md h, h.2.2.2.2.1⟩)
