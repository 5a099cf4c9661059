/-! contracts that are told more of the state; the law's small methods -/
theorem am_b1 {p : Prop} [Decidable p] (h : p) : am_b p = nI 1 := if_pos h
theorem am_b0 {p : Prop} [Decidable p] (h : ¬ p) : am_b p = nI 0 := if_neg h
theorem am_bz {p : Prop} [Decidable p] : am_b p = 0 ↔ ¬ p := by
  by_cases h : p
  · rw [am_b1 h]
    exact ⟨fun e => absurd e (by decide), fun e => absurd h e⟩
  · rw [am_b0 h]
    exact ⟨fun _ => h, fun _ => rfl⟩
theorem am_bn {p : Prop} [Decidable p] : ¬ am_b p = 0 ↔ p := by
  rw [am_bz]
  exact Decidable.not_not
def kq_Pc (K : State → Prop) (G : AG) (M : AM) (av : List Value) : Array Value → State → Prop := va_Pc av (fun U => (am_E G U ∧ am_H G M U.heap) ∧ K U)
def Cq (l : Launch) (G : AG) (y : MethodName) (cc : ByteArray) (maxL : Nat) (ret : Option FieldType) (rm : Room) (M : AM) (av : List Value) (K : State → Prop) (post : Option Value → AM → Prop) : Prop :=
  Met l y [Cond.code y cc maxL ret] rm (kq_Pc K G M av) (am_Qc G post) rm.cells rm.slots (am_A G)
theorem Cq.of {l : Launch} {G : AG} {y : MethodName} {cc : ByteArray} {maxL : Nat} {ret : Option FieldType} {rm : Room} {M : AM} {av : List Value} {K : State → Prop} {post : Option Value → AM → Prop} (hy : plainName y.cls = true) (L : List (Option Value)) (hL : am_args av maxL = L) (hlen : (lg_sl av).length ≤ maxL)
    (body : ∀ Z : AZ, am_B Z l G y cc maxL ret rm → K (zs Z) → AW Z (am_Q Z post (fun _ _ => False) rm.cells rm.slots) M 0 0 0 L []) : Cq l G y cc maxL ret rm M av K post := by
  subst hL
  refine Met.ofW (cc := cc) (maxL := maxL) (ret := ret) hy rfl ?_
  intro p e s m args below meth c s₁ B hml hv
  obtain ⟨rfl, ⟨hE, hM⟩, hK⟩ := hv
  rw [lg_entry_eq]
  intro T hT hX
  obtain ⟨t, h1, h2⟩ := body (G, maxL, p, l, e, rm, s, m, av.toArray, below, meth, c) ⟨rfl, rfl, rfl, rfl, ⟨B.exec, B.bytes, hml, findClass_of_methodNamed B.named, B.notSynchronized, fun w hw hk => am_ok_any hk (hE.1 w hw hk), hE⟩, B.returns, (name_of_methodNamed B.named B.method).1⟩ hK s.heap [] _ hM va_S.rf (am_args_has hlen) T hT hX
  exact ⟨t, h1, am_noX h2⟩
theorem aw_callSq {Z : AZ} {own : String} {cc : ByteArray} {Q : State → Prop} {M : AM} {k n pc : Nat} {L : List (Option Value)} {st st0 : List Value} {K : State → Prop} {post : Option Value → AM → Prop} (X : am_X own cc Z) (hKb : ∀ (U : State) (g : JFrame) (mk : MethodId) (a : Array Value), K U → K (U.calling g mk a)) (hK : ∀ (H : Heap) (locs : List Loc), va_S (am_A (zG Z)) (zs Z).heap H locs → ∀ U : State, U.heap = H → (zs Z).WarmedH U.vm → K U) {idx nA : Nat} {As : List Value} {y : MethodName} {bytes : ByteArray} {maxL : Nat} {ret : Option FieldType} {rm : Room} (hc : Cq (zl Z) (zG Z) y bytes maxL ret rm M As K post) (hw : am_cs own idx y bytes maxL ret nA)
    (d : decode cc pc = .ok (.invokestatic idx, 3)) (hn : As.length = nA) (hst : st0 = As.reverse ++ st) (hW : (st.map fun v => v.category).sum ≤ 8) (hR : am_rm rm (zR Z) maxL) (hf : k + rm.cells ≤ (zR Z).cells ∧ n + rm.slots ≤ (zR Z).slots)
    (kk : ∀ (v : Option Value) (M' : AM), post v M' → AW Z Q M' (k + rm.cells) (n + rm.slots) (pc + 3) L (v.toList ++ st)) : AW Z Q M k n pc L st0 :=
  aw_after rfl (fun H locs ls hH hS hL => va_runS (Ts := []) ⟨X.1, X.2.1, X.2.2.1, X.2.2.2.1, fun w h => nomatch h⟩ hc ⟨am_callB X hw.1 hR, X.w hw.2 rfl⟩ ⟨fun a U g mk h => ⟨h.1, ⟨h.2.1.1.cl, h.2.1.2⟩, hKb U g mk a h.2.2⟩, fun U hU hW => ⟨rfl, ⟨X.2.2.2.2.2.2.mv hW (by rw [hU]; exact hS), by rw [hU]; exact hH⟩, hK H locs hS U hU hW⟩⟩ rfl hn hL.1 hst (lv_room hW) d hf) kk
/-- the script: an int array that is no cell of ours -/
def scK (G : AG) (b L : Nat) (xs : Nat → Int32) (U : State) : Prop := va_X b L xs U U.heap ∧ b < U.heap.size ∧ ¬ am_A G b
theorem scK.cl {G : AG} {b L : Nat} {xs : Nat → Int32} (U : State) (g : JFrame) (mk : MethodId) (a : Array Value) (h : scK G b L xs U) : scK G b L xs (U.calling g mk a) := ⟨va_X.moved (U := U.calling g mk a) (State.WarmedH.refl U).alike h.1, h.2⟩
theorem scK.mv {G : AG} {b L : Nat} {xs : Nat → Int32} {s : State} (h : scK G b L xs s) {H : Heap} {locs : List Loc} (hS : va_S (am_A G) s.heap H locs) (U : State) (hU : U.heap = H) (hW : s.WarmedH U.vm) : scK G b L xs U := by
  subst hU
  exact ⟨(va_X.moved hW.alike h.1).kept (hS.2.1 b h.2.1 h.2.2), Nat.lt_of_lt_of_le h.2.1 hS.1, h.2.2⟩
theorem aw_sld {Z : AZ} {own : String} {cc : ByteArray} {Q : State → Prop} {M : AM} {k n pc b L : Nat} {xs : Nat → Int32} {Lo : List (Option Value)} {st : List Value} (X : am_X own cc Z) (C : scK (zG Z) b L xs (zs Z)) {j : Nat} {x : Int32} (d : decode cc pc = .ok (.iaload, 1)) (hx : x = nI j) (hj : j < L) (hL : L < 2 ^ 31) (kk : AW Z Q M k n (pc + 1) Lo (.int (xs j) :: st)) : AW Z Q M k n pc Lo (.int x :: .ref b :: st) := by
  intro H locs ls hH hS hl
  obtain ⟨hX, hbl, hbA⟩ := C
  exact va_sld X.1 X.2.1 hX hbl hbA hS (am_in hx hj hL) d (by rw [am_cl hx hj hL]; exact kk H locs ls hH hS hl)
theorem aw_slen {Z : AZ} {own : String} {cc : ByteArray} {Q : State → Prop} {M : AM} {k n pc b L : Nat} {xs : Nat → Int32} {Lo : List (Option Value)} {st : List Value} (X : am_X own cc Z) (C : scK (zG Z) b L xs (zs Z)) (d : decode cc pc = .ok (.arraylength, 1)) (kk : AW Z Q M k n (pc + 1) Lo (.int (nI L) :: st)) : AW Z Q M k n pc Lo (.ref b :: st) := by
  intro H locs ls hH hS hl
  obtain ⟨hX, hbl, hbA⟩ := C
  exact va_slen X.1 X.2.1 hX hbl hbA hS d (kk H locs ls hH hS hl)
/-- a number, whichever -/
def anyI (M : AM) (v : Option Value) (M' : AM) : Prop := M' = M ∧ ∃ j : Int32, v = some (.int j)
/-- a number below N -/
def ltI (N : Nat) (M : AM) (v : Option Value) (M' : AM) : Prop := M' = M ∧ ∃ j : Nat, j < N ∧ v = some (.int (nI j))
theorem c_L_cell {l : Launch} {G : AG} {M : AM} {b L i : Nat} {xs : Nat → Int32} (hL : L < 2 ^ 31) (hi : i < 2 ^ 31) : Cq l G yL_cell cL_cell 2 (some .int) rL_cell M [.ref b, .int (nI i)] (scK G b L xs) (anyI M) := by
  refine Cq.of (by decide) [some (.ref b), some (.int (nI i))] rfl (Nat.le_of_ble_eq_true rfl) ?_
  intro Z hZ hN
  obtain ⟨rfl, hn, rfl, hR, X, hr, hnm⟩ := hZ
  refine aw_iload1 X dL_cell_0 ?_
  refine aw_aload0 X dL_cell_1 ?_
  refine aw_slen X hN dL_cell_2 ?_
  refine aw_icmpge X dL_cell_3 (tgt := 12) (by decide) (fun c => ?_) (fun c => ?_)
  · refine aw_ldc2 X kcL_7 dL_cell_12 ?_
    refine aw_iload1 X dL_cell_15 ?_
    refine aw_bipush X dL_cell_16 (v := nI 9) (by decide) ?_
    refine aw_iadd X dL_cell_18 ?_
    refine aw_i2l X dL_cell_19 ?_
    refine aw_lmul X dL_cell_20 ?_
    refine aw_bipush X dL_cell_21 (v := nI 6) (by decide) ?_
    refine aw_lushr X dL_cell_23 ?_
    refine aw_l2i X dL_cell_24 ?_
    refine aw_ireturn X (ty := .int) hr (by first | rfl | decide | assumption) dL_cell_25 (⟨rfl, _, rfl⟩)
  · have hlt : i < L := by
      rcases Nat.lt_or_ge i L with q | q
      · exact q
      · exact absurd (nI_le q hi) c
    refine aw_aload0 X dL_cell_6 ?_
    refine aw_iload1 X dL_cell_7 ?_
    refine aw_sld X hN dL_cell_8 rfl hlt hL ?_
    refine aw_goto X dL_cell_9 (tgt := 25) (by decide) ?_
    refine aw_ireturn X (ty := .int) hr (by first | rfl | decide | assumption) dL_cell_25 (⟨rfl, _, rfl⟩)
theorem ush3 (x : Int32) : ∃ m, m < 2 ^ 29 ∧ (x.toUInt32 >>> ((nI 3).toUInt32 &&& Int32.toUInt32 31)).toInt32 = nI m := by
  have hx := x.toBitVec.isLt
  refine ⟨x.toBitVec.toNat / 2 ^ 3, by omega, ?_⟩
  apply Int32.toBitVec_inj.mp
  apply BitVec.eq_of_toNat_eq
  rw [pk_ushr x (nI 3) 3 (by decide), pk_tn (by omega)]
theorem c_L_some {l : Launch} {G : AG} {M : AM} {v : Int32} {N : Nat} (hN0 : 0 < N) (hN : N < 2 ^ 31) : Cn l G yL_some cL_some 2 (some .int) rL_some M [.int v, .int (nI N)] (ltI N M) := by
  refine Cn.of (by decide) [some (.int v), some (.int (nI N))] rfl (Nat.le_of_ble_eq_true rfl) ?_
  intro Z hZ
  obtain ⟨rfl, hn, rfl, hR, X, hr, hnm⟩ := hZ
  refine aw_iload0 X dL_some_0 ?_
  refine aw_iconst X dL_some_1 (v := nI 3) (by decide) ?_
  refine aw_iushr X dL_some_2 ?_
  obtain ⟨m, hm, e⟩ := ush3 v
  refine aw_int e ?_
  refine aw_iload1 X dL_some_3 ?_
  refine aw_irem X dL_some_4 (nI_ne0 hN0 hN) ?_
  refine aw_int (pk_rem (by omega) hN0 hN) ?_
  refine aw_ireturn X (ty := .int) hr (by first | rfl | decide | assumption) dL_some_5 (⟨rfl, _, Nat.mod_lt _ hN0, rfl⟩)
theorem c_L_value {l : Launch} {G : AG} {M : AM} {v : Int32} : Cn l G yL_value cL_value 1 (some .int) rL_value M [.int v] (ltI 256 M) := by
  refine Cn.of (by decide) [some (.int v)] rfl (Nat.le_of_ble_eq_true rfl) ?_
  intro Z hZ
  obtain ⟨rfl, hn, rfl, hR, X, hr, hnm⟩ := hZ
  refine aw_iload0 X dL_value_0 ?_
  refine aw_bipush X dL_value_1 (v := nI 9) (by decide) ?_
  refine aw_callS X (c_L_some (N := 9) (by decide) (by decide)) kL_136 dL_value_3 rfl rfl (by first | decide | exact Nat.le_of_ble_eq_true rfl) (by rw [hR]; exact ⟨by first | decide | exact Nat.le_of_ble_eq_true rfl | (dsimp only; omega), by first | decide | exact Nat.le_of_ble_eq_true rfl | (dsimp only; omega)⟩) (by rw [hR]; exact ⟨by first | decide | exact Nat.le_of_ble_eq_true rfl | (dsimp only; omega), by first | decide | exact Nat.le_of_ble_eq_true rfl | (dsimp only; omega)⟩) (fun v M1 hv => ?_)
  obtain ⟨rfl, j, hj, rfl⟩ := hv
  refine aw_ifne X dL_value_6 (tgt := 15) (by decide) (fun c => ?_) (fun c => ?_)
  · refine aw_iload0 X dL_value_15 ?_
    refine aw_iconst X dL_value_16 (v := nI 2) (by decide) ?_
    refine aw_ishr X dL_value_17 ?_
    refine aw_iconst X dL_value_18 (v := nI 3) (by decide) ?_
    refine aw_callS X (c_L_some (N := 3) (by decide) (by decide)) kL_136 dL_value_19 rfl rfl (by first | decide | exact Nat.le_of_ble_eq_true rfl) (by rw [hR]; exact ⟨by first | decide | exact Nat.le_of_ble_eq_true rfl | (dsimp only; omega), by first | decide | exact Nat.le_of_ble_eq_true rfl | (dsimp only; omega)⟩) (by rw [hR]; exact ⟨by first | decide | exact Nat.le_of_ble_eq_true rfl | (dsimp only; omega), by first | decide | exact Nat.le_of_ble_eq_true rfl | (dsimp only; omega)⟩) (fun v M1 hv => ?_)
    obtain ⟨rfl, j, hj, rfl⟩ := hv
    refine aw_ireturn X (ty := .int) hr (by first | rfl | decide | assumption) dL_value_22 (⟨rfl, _, Nat.lt_of_lt_of_le hj (by decide), rfl⟩)
  · refine aw_sipush X dL_value_9 (v := nI 255) (by decide) ?_
    refine aw_goto X dL_value_12 (tgt := 22) (by decide) ?_
    refine aw_ireturn X (ty := .int) hr (by first | rfl | decide | assumption) dL_value_22 (⟨rfl, 255, by decide, rfl⟩)
/-- new cells harm nobody -/
theorem ke_nw {M : AM} {q : Nat} {e : va_E} (h : ∀ j x, M.1 j = some x → j < q) : KE M (am_nw M q e) (fun _ => False) := fun j x hj _ => (am_nn (by have := h j x hj; omega)).trans hj
theorem isRS.kk {G : AG} {M M' : AM} {x D : Nat} {τ : TS} (h : isRS G M x D τ) (hk : KE M M' (fun _ => False)) : isRS G M' x D τ := h.kr hk (fun q e => e.elim)
