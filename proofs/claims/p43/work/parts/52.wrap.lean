/-! the law's wrappers -/
abbrev eD (x D : Nat) : Nat → Prop := fun q => (x ≤ q ∧ q < x + 271) ∨ D ≤ q
abbrev eX (x : Nat) : Nat → Prop := fun q => x ≤ q ∧ q < x + 271
theorem ct_I : Cond.castable exI exI ∈ lw_tbl := List.mem_append_right _ (List.mem_of_getElem? (i := 404) (by decide +kernel))
theorem ct_A : Cond.castable exA exA ∈ lw_tbl := List.mem_append_right _ (List.mem_of_getElem? (i := 423) (by decide +kernel))
theorem ct_S : Cond.castable exS exS ∈ lw_tbl := List.mem_append_right _ (List.mem_of_getElem? (i := 306) (by decide +kernel))
/-- which of the three exceptions is no other one -/
def ncs (U : State) : Prop := va_Nc exA exI U ∧ va_Nc exS exI U ∧ va_Nc exS exA U
theorem ncs.mv {s U : State} (h : ncs s) (hW : s.WarmedH U.vm) : ncs U := ⟨va_Nc.moved hW.alike h.1, va_Nc.moved hW.alike h.2.1, va_Nc.moved hW.alike h.2.2⟩
theorem ncs.cl {U : State} {g : JFrame} {mk : MethodId} {a : Array Value} (h : ncs U) : ncs (U.calling g mk a) := h.mv (U := U.calling g mk a) (State.WarmedH.refl U)
def wr_Pc (G : AG) (M : AM) (av : List Value) : Array Value → State → Prop := va_Pc av (fun U => (am_E G U ∧ am_H G M U.heap) ∧ ncs U)
theorem wr_Pc.blind (G : AG) (M : AM) (av : List Value) : FrameBlind (wr_Pc G M av) := fun a U g mk h => ⟨h.1, ⟨h.2.1.1.cl, h.2.1.2⟩, h.2.2.cl⟩
/-- a contract of a method with handlers, where it is told which exception is no other one -/
def Ch (l : Launch) (G : AG) (y : MethodName) (cc : ByteArray) (maxL : Nat) (ret : Option FieldType) (hh : List (Nat × Nat × Nat × Nat)) (rm : Room) (M : AM) (av : List Value) (post : Option Value → AM → Prop) : Prop :=
  Met l y [Cond.codeWith y cc maxL ret hh] rm (wr_Pc G M av) (am_Qc G post) rm.cells rm.slots (am_A G)
theorem Ch.of {l : Launch} {G : AG} {y : MethodName} {cc : ByteArray} {maxL : Nat} {ret : Option FieldType} {hh : List (Nat × Nat × Nat × Nat)} {rm : Room} {M : AM} {av : List Value} {post : Option Value → AM → Prop} (hy : plainName y.cls = true) (L : List (Option Value)) (hL : am_args av maxL = L) (hlen : (lg_sl av).length ≤ maxL)
    (body : ∀ Z : AZ, am_B Z l G y cc maxL ret rm → ncs (zs Z) → (zc Z).exceptionTable.toList = tableOf hh → AW Z (am_Q Z post (fun _ _ => False) rm.cells rm.slots) M 0 0 0 L []) : Ch l G y cc maxL ret hh rm M av post := by
  subst hL
  refine va_MetW (cc := cc) (maxL := maxL) (ret := ret) (hh := hh) hy rfl ?_
  intro p e s m args below meth c s₁ B hml hv
  have htab := vx_table (x := y) B (atoms_spec (ws := [Cond.codeWith y cc maxL ret hh]) B.pre _ List.mem_cons_self)
  obtain ⟨rfl, ⟨hE, hM⟩, hN⟩ := hv
  rw [lg_entry_eq]
  intro T hT hX
  obtain ⟨t, h1, h2⟩ := body (G, maxL, p, l, e, rm, s, m, av.toArray, below, meth, c) ⟨rfl, rfl, rfl, rfl, ⟨B.exec, B.bytes, hml, findClass_of_methodNamed B.named, B.notSynchronized, fun w hw hk => am_ok_any hk (hE.1 w hw hk), hE⟩, B.returns, (name_of_methodNamed B.named B.method).1⟩ hN htab s.heap [] _ hM va_S.rf (am_args_has hlen) T hT hX
  exact ⟨t, h1, am_noX h2⟩
theorem wr_preS {Z : AZ} {own : String} {cc : ByteArray} {M : AM} (X : am_X own cc Z) (hN : ncs (zs Z)) {av : List Value} {H : Heap} {locs : List Loc} (hH : am_H (zG Z) M H) (hS : va_S (am_A (zG Z)) (zs Z).heap H locs) : PreS (zs Z) H (wr_Pc (zG Z) M av) av :=
  ⟨wr_Pc.blind _ _ _, fun U hU hW => ⟨rfl, ⟨X.2.2.2.2.2.2.mv hW (by rw [hU]; exact hS), by rw [hU]; exact hH⟩, hN.mv hW⟩⟩
theorem aw_callSH {Z : AZ} {own : String} {cc : ByteArray} {Q : State → Prop} {M : AM} {k n pc : Nat} {L : List (Option Value)} {st st0 : List Value} {post : Option Value → AM → Prop} (X : am_X own cc Z) (hN : ncs (zs Z)) {idx nA : Nat} {As : List Value} {y : MethodName} {bytes : ByteArray} {maxL : Nat} {ret : Option FieldType} {hh : List (Nat × Nat × Nat × Nat)} {rm : Room} (hc : Ch (zl Z) (zG Z) y bytes maxL ret hh rm M As post) (hw : am_csw own idx y bytes maxL ret hh nA)
    (d : decode cc pc = .ok (.invokestatic idx, 3)) (hn : As.length = nA) (hst : st0 = As.reverse ++ st) (hW : (st.map fun v => v.category).sum ≤ 8) (hR : am_rm rm (zR Z) maxL) (hf : k + rm.cells ≤ (zR Z).cells ∧ n + rm.slots ≤ (zR Z).slots)
    (kk : ∀ (v : Option Value) (M' : AM), post v M' → AW Z Q M' (k + rm.cells) (n + rm.slots) (pc + 3) L (v.toList ++ st)) : AW Z Q M k n pc L st0 := by
  obtain ⟨⟨h1, h2, h3, h4, h5⟩, h6⟩ := hw
  refine aw_after rfl (fun H locs ls hH hS hL => vx_runSW (hh := hh) (Ts := []) ⟨X.1, X.2.1, X.2.2.1, X.2.2.2.1, fun w h => nomatch h⟩ hc ⟨⟨rfl, rfl, hR.1, hR.2, fun w hw a' U hW => ?_, List.mem_cons_self⟩, X.w h1 rfl, X.w h2 rfl, h3, fun sig hs => ?_, X.w h5 rfl, X.w h6 rfl⟩ (wr_preS X hN hH hS) rfl hn hL.1 hst (lv_room hW) d hf) kk
  · rw [List.mem_singleton.mp hw]
    exact am_ok_any (w := Cond.codeWith y bytes maxL ret hh) rfl (am_ok_mv (w := Cond.codeWith y bytes maxL ret hh) rfl hW (am_ok_any rfl (X.w h1 rfl)))
  · rw [hs] at h4
    exact (Option.some.inj h4).symm
/-- what a wrapper answers: the value, or -100 and the exception's place -/
def wr (sp : OUT) : Int32 := match sp.1 with
  | 0 => sp.2.1
  | 1 => -101
  | 2 => -102
  | _ => -103
def wrL (sp : Nat × Int64 × TS) : Int64 := match sp.1 with
  | 0 => sp.2.1
  | _ => -101
theorem wr_0 {sp : OUT} (h : sp.1 = 0) : wr sp = sp.2.1 := by
  obtain ⟨a, b, c⟩ := sp
  have h : a = 0 := h
  subst h
  rfl
theorem wr_1 {sp : OUT} (h : sp.1 = 1) : wr sp = -101 := by
  obtain ⟨a, b, c⟩ := sp
  have h : a = 1 := h
  subst h
  rfl
theorem wr_2 {sp : OUT} (h : sp.1 = 2) : wr sp = -102 := by
  obtain ⟨a, b, c⟩ := sp
  have h : a = 2 := h
  subst h
  rfl
theorem wr_3 {sp : OUT} (h : sp.1 = 3) : wr sp = -103 := by
  obtain ⟨a, b, c⟩ := sp
  have h : a = 3 := h
  subst h
  rfl
theorem wrL_0 {sp : Nat × Int64 × TS} (h : sp.1 = 0) : wrL sp = sp.2.1 := by
  obtain ⟨a, b, c⟩ := sp
  have h : a = 0 := h
  subst h
  rfl
theorem wrL_1 {sp : Nat × Int64 × TS} (h : sp.1 = 1) : wrL sp = -101 := by
  obtain ⟨a, b, c⟩ := sp
  have h : a = 1 := h
  subst h
  rfl
def wP (G : AG) (M : AM) (x D : Nat) (E : Nat → Prop) (sp : OUT) (v : Option Value) (M' : AM) : Prop := v = some (.int (wr sp)) ∧ isRS G M' x D sp.2.2 ∧ KE M M' E
def wPL (G : AG) (M : AM) (x D : Nat) (E : Nat → Prop) (sp : Nat × Int64 × TS) (v : Option Value) (M' : AM) : Prop := v = some (.long (wrL sp)) ∧ isRS G M' x D sp.2.2 ∧ KE M M' E
/-- contracts of the calls that tell why, with nothing else changed -/
def RN (G : AG) (M : AM) (x D : Nat) (sp : OUT) (v : Option Value) (M' : AM) : Prop := sp.1 = 0 ∧ v = some (.int sp.2.1) ∧ isRS G M' x D sp.2.2 ∧ KE M M' (eX x)
def RXN (G : AG) (M : AM) (x D : Nat) (sp : OUT) (c : Nat → String) (E : String) (M' : AM) : Prop := 0 < sp.1 ∧ E = c sp.1 ∧ isRS G M' x D sp.2.2 ∧ KE M M' (eX x)
theorem RN.of {G : AG} {M M' : AM} {x D : Nat} {sp : OUT} {r : Int32} {τ' : TS} (e : sp = (0, r, τ')) (h : isRS G M' x D τ') (hk : KE M M' (eX x)) : RN G M x D sp (some (.int r)) M' := by
  subst e
  exact ⟨rfl, rfl, h, hk⟩
theorem RXN.of {G : AG} {M M' : AM} {x D k : Nat} {sp : OUT} {r : Int32} {τ : TS} {c : Nat → String} {E : String} (e : sp = (k, r, τ)) (h0 : 0 < k) (hE : E = c k) (h : isRS G M x D τ) (hM : M' = (M.1, none)) : RXN G M x D sp c E M' := by
  subst e
  subst hM
  exact ⟨h0, hE, h.fg, fun q y hq _ => hq⟩
theorem c_X8_brokenAtN {l : Launch} {G : AG} {M : AM} {x D : Nat} {τ : TS} {v : Int32} (hfl : l.stackTraces = false) (hs : isRS G M x D τ) : Cx l G yX8_brokenAt cX8_brokenAt 2 (some .int) { rX8_brokenAt with cells := 1, slots := 6 } M [.ref x, .int v] (RN G M x D (spBrAt τ v)) (RXN G M x D (spBrAt τ v) ecI) := by
  have hn6 := hs.1
  obtain ⟨fa, fa1, fa2⟩ := hs.2.2.2.1
  obtain ⟨sa, sa1, sa2⟩ := hs.2.2.2.2.1
  obtain ⟨da, da1, da2⟩ := hs.2.2.2.2.2.1
  obtain ⟨w, aw, y, rb, ch, har⟩ := hs.2.2.2.2.2.2.2.1
  obtain ⟨hn20, hV, kp, sg9, nx, a1, a2, a3, a4, a5, a6, a7, a8⟩ := id har
  refine Cx.of (by decide) [some (.ref x), some (.int v)] rfl (Nat.le_of_ble_eq_true rfl) ?_
  intro Z hZ hT
  obtain ⟨rfl, hn, rfl, hR, X, hr, hnm⟩ := hZ
  refine aw_iload1 X dX8_brokenAt_0 ?_
  refine aw_aload0 X dX8_brokenAt_1 ?_
  refine aw_get X fX8_35 dX8_brokenAt_2 (hs.at) rfl ?_
  refine aw_get X fX8_164 dX8_brokenAt_5 (har.at) rfl ?_
  refine aw_callSX X (c_X8_checkIndex hfl) kX8_75 dX8_brokenAt_8 rfl rfl (by first | decide | exact Nat.le_of_ble_eq_true rfl) (by rw [hR]; exact ⟨by first | decide | exact Nat.le_of_ble_eq_true rfl | (dsimp only; omega), by first | decide | exact Nat.le_of_ble_eq_true rfl | (dsimp only; omega)⟩) (by rw [hR]; exact ⟨by first | decide | exact Nat.le_of_ble_eq_true rfl | (dsimp only; omega), by first | decide | exact Nat.le_of_ble_eq_true rfl | (dsimp only; omega)⟩) (fun o M1 hv => ?_) (fun E M1 h1 => ?_)
  · obtain ⟨rfl, rfl, h1⟩ := hv
    have h1 : inI v (tN τ) := h1
    have hn20 : tN τ ≤ 20 := hn20
    obtain ⟨j1, j2, j3⟩ := inI_j h1 (by omega)
    have e2 : (Value.int v) = .int (nI (ix v)) := congrArg Value.int j2
    refine aw_aload0 X dX8_brokenAt_11 ?_
    refine aw_get X fX8_35 dX8_brokenAt_12 (hs.at) rfl ?_
    refine aw_iload1 X dX8_brokenAt_15 ?_
    rw [e2]
    refine aw_callV X (c_X0_putTogether har j1) kX8_190 (ci := 1) rfl (har.at) dX8_brokenAt_16 rfl rfl (by first | decide | exact Nat.le_of_ble_eq_true rfl) (by rw [hR]; exact ⟨by first | decide | exact Nat.le_of_ble_eq_true rfl | (dsimp only; omega), by first | decide | exact Nat.le_of_ble_eq_true rfl | (dsimp only; omega)⟩) (by rw [hR]; exact ⟨by first | decide | exact Nat.le_of_ble_eq_true rfl | (dsimp only; omega), by first | decide | exact Nat.le_of_ble_eq_true rfl | (dsimp only; omega)⟩) (fun o M2 hv => ?_)
    obtain ⟨⟨rb1, ch1, har1, hrb⟩, hout, rfl⟩ := hv
    have hs1 : isRS (zG Z) M2 x D τ := hs.arch har1 ((KE.out hout).mono (fun q e => by omega))
    refine aw_aload0 X dX8_brokenAt_19 ?_
    refine aw_get X fX8_35 dX8_brokenAt_20 (hs1.at) rfl ?_
    refine aw_get X fX8_193 dX8_brokenAt_23 (har1.at) rfl ?_
    refine aw_ireturn X (ty := .int) hr (by first | rfl | decide | assumption) dX8_brokenAt_26 (RN.of (by rw [spBrAt, if_pos h1]) hs1 ((KE.out hout).mono (fun q e => by omega)))
  · obtain ⟨e1, e2, e3⟩ := h1
    refine ax_out X hT (Nat.le_of_ble_eq_true rfl) (Nat.le_of_ble_eq_true rfl) (RXN.of (k := 1) (by rw [spBrAt, if_neg e3]) (by decide) e1 hs e2)
theorem c_X8_brokenAfterN {l : Launch} {G : AG} {M : AM} {x D : Nat} {τ : TS} {v : Int32} (hfl : l.stackTraces = false) (hs : isRS G M x D τ) : Cx l G yX8_brokenAfter cX8_brokenAfter 2 (some .int) { rX8_brokenAfter with cells := 1, slots := 6 } M [.ref x, .int v] (RN G M x D (spBrAfter τ v)) (RXN G M x D (spBrAfter τ v) ecI) := by
  have hn6 := hs.1
  obtain ⟨fa, fa1, fa2⟩ := hs.2.2.2.1
  obtain ⟨sa, sa1, sa2⟩ := hs.2.2.2.2.1
  obtain ⟨da, da1, da2⟩ := hs.2.2.2.2.2.1
  obtain ⟨w, aw, y, rb, ch, har⟩ := hs.2.2.2.2.2.2.2.1
  obtain ⟨hn20, hV, kp, sg9, nx, a1, a2, a3, a4, a5, a6, a7, a8⟩ := id har
  refine Cx.of (by decide) [some (.ref x), some (.int v)] rfl (Nat.le_of_ble_eq_true rfl) ?_
  intro Z hZ hT
  obtain ⟨rfl, hn, rfl, hR, X, hr, hnm⟩ := hZ
  refine aw_iload1 X dX8_brokenAfter_0 ?_
  refine aw_aload0 X dX8_brokenAfter_1 ?_
  refine aw_get X fX8_35 dX8_brokenAfter_2 (hs.at) rfl ?_
  refine aw_get X fX8_164 dX8_brokenAfter_5 (har.at) rfl ?_
  refine aw_callSX X (c_X8_checkIndex hfl) kX8_75 dX8_brokenAfter_8 rfl rfl (by first | decide | exact Nat.le_of_ble_eq_true rfl) (by rw [hR]; exact ⟨by first | decide | exact Nat.le_of_ble_eq_true rfl | (dsimp only; omega), by first | decide | exact Nat.le_of_ble_eq_true rfl | (dsimp only; omega)⟩) (by rw [hR]; exact ⟨by first | decide | exact Nat.le_of_ble_eq_true rfl | (dsimp only; omega), by first | decide | exact Nat.le_of_ble_eq_true rfl | (dsimp only; omega)⟩) (fun o M1 hv => ?_) (fun E M1 h1 => ?_)
  · obtain ⟨rfl, rfl, h1⟩ := hv
    have h1 : inI v (tN τ) := h1
    have hn20 : tN τ ≤ 20 := hn20
    obtain ⟨j1, j2, j3⟩ := inI_j h1 (by omega)
    have e2 : (Value.int v) = .int (nI (ix v)) := congrArg Value.int j2
    refine aw_aload0 X dX8_brokenAfter_11 ?_
    refine aw_get X fX8_35 dX8_brokenAfter_12 (hs.at) rfl ?_
    refine aw_iload1 X dX8_brokenAfter_15 ?_
    rw [e2]
    refine aw_callV X (c_X0_putTogether har j1) kX8_190 (ci := 1) rfl (har.at) dX8_brokenAfter_16 rfl rfl (by first | decide | exact Nat.le_of_ble_eq_true rfl) (by rw [hR]; exact ⟨by first | decide | exact Nat.le_of_ble_eq_true rfl | (dsimp only; omega), by first | decide | exact Nat.le_of_ble_eq_true rfl | (dsimp only; omega)⟩) (by rw [hR]; exact ⟨by first | decide | exact Nat.le_of_ble_eq_true rfl | (dsimp only; omega), by first | decide | exact Nat.le_of_ble_eq_true rfl | (dsimp only; omega)⟩) (fun o M2 hv => ?_)
    obtain ⟨⟨rb1, ch1, har1, hrb⟩, hout, rfl⟩ := hv
    have hs1 : isRS (zG Z) M2 x D τ := hs.arch har1 ((KE.out hout).mono (fun q e => by omega))
    refine aw_aload0 X dX8_brokenAfter_19 ?_
    refine aw_get X fX8_35 dX8_brokenAfter_20 (hs1.at) rfl ?_
    refine aw_get X fX8_196 dX8_brokenAfter_23 (har1.at) rfl ?_
    refine aw_ireturn X (ty := .int) hr (by first | rfl | decide | assumption) dX8_brokenAfter_26 (RN.of (by rw [spBrAfter, if_pos h1]) hs1 ((KE.out hout).mono (fun q e => by omega)))
  · obtain ⟨e1, e2, e3⟩ := h1
    refine ax_out X hT (Nat.le_of_ble_eq_true rfl) (Nat.le_of_ble_eq_true rfl) (RXN.of (k := 1) (by rw [spBrAfter, if_neg e3]) (by decide) e1 hs e2)
theorem c_X8_reasonN {l : Launch} {G : AG} {M : AM} {x D : Nat} {τ : TS} {v : Int32} (hfl : l.stackTraces = false) (hs : isRS G M x D τ) : Cx l G yX8_reason cX8_reason 2 (some .int) { rX8_reason with cells := 1, slots := 6 } M [.ref x, .int v] (RN G M x D (spReason τ v)) (RXN G M x D (spReason τ v) ecI) := by
  have hn6 := hs.1
  obtain ⟨fa, fa1, fa2⟩ := hs.2.2.2.1
  obtain ⟨sa, sa1, sa2⟩ := hs.2.2.2.2.1
  obtain ⟨da, da1, da2⟩ := hs.2.2.2.2.2.1
  obtain ⟨w, aw, y, rb, ch, har⟩ := hs.2.2.2.2.2.2.2.1
  obtain ⟨hn20, hV, kp, sg9, nx, a1, a2, a3, a4, a5, a6, a7, a8⟩ := id har
  refine Cx.of (by decide) [some (.ref x), some (.int v)] rfl (Nat.le_of_ble_eq_true rfl) ?_
  intro Z hZ hT
  obtain ⟨rfl, hn, rfl, hR, X, hr, hnm⟩ := hZ
  refine aw_iload1 X dX8_reason_0 ?_
  refine aw_aload0 X dX8_reason_1 ?_
  refine aw_get X fX8_35 dX8_reason_2 (hs.at) rfl ?_
  refine aw_get X fX8_164 dX8_reason_5 (har.at) rfl ?_
  refine aw_callSX X (c_X8_checkIndex hfl) kX8_75 dX8_reason_8 rfl rfl (by first | decide | exact Nat.le_of_ble_eq_true rfl) (by rw [hR]; exact ⟨by first | decide | exact Nat.le_of_ble_eq_true rfl | (dsimp only; omega), by first | decide | exact Nat.le_of_ble_eq_true rfl | (dsimp only; omega)⟩) (by rw [hR]; exact ⟨by first | decide | exact Nat.le_of_ble_eq_true rfl | (dsimp only; omega), by first | decide | exact Nat.le_of_ble_eq_true rfl | (dsimp only; omega)⟩) (fun o M1 hv => ?_) (fun E M1 h1 => ?_)
  · obtain ⟨rfl, rfl, h1⟩ := hv
    have h1 : inI v (tN τ) := h1
    have hn20 : tN τ ≤ 20 := hn20
    obtain ⟨j1, j2, j3⟩ := inI_j h1 (by omega)
    have e2 : (Value.int v) = .int (nI (ix v)) := congrArg Value.int j2
    refine aw_aload0 X dX8_reason_11 ?_
    refine aw_get X fX8_35 dX8_reason_12 (hs.at) rfl ?_
    refine aw_iload1 X dX8_reason_15 ?_
    rw [e2]
    refine aw_callV X (c_X0_putTogether har j1) kX8_190 (ci := 1) rfl (har.at) dX8_reason_16 rfl rfl (by first | decide | exact Nat.le_of_ble_eq_true rfl) (by rw [hR]; exact ⟨by first | decide | exact Nat.le_of_ble_eq_true rfl | (dsimp only; omega), by first | decide | exact Nat.le_of_ble_eq_true rfl | (dsimp only; omega)⟩) (by rw [hR]; exact ⟨by first | decide | exact Nat.le_of_ble_eq_true rfl | (dsimp only; omega), by first | decide | exact Nat.le_of_ble_eq_true rfl | (dsimp only; omega)⟩) (fun o M2 hv => ?_)
    obtain ⟨⟨rb1, ch1, har1, hrb⟩, hout, rfl⟩ := hv
    have hs1 : isRS (zG Z) M2 x D τ := hs.arch har1 ((KE.out hout).mono (fun q e => by omega))
    refine aw_aload0 X dX8_reason_19 ?_
    refine aw_get X fX8_35 dX8_reason_20 (hs1.at) rfl ?_
    refine aw_get X fX8_199 dX8_reason_23 (har1.at) rfl ?_
    refine aw_ireturn X (ty := .int) hr (by first | rfl | decide | assumption) dX8_reason_26 (RN.of (by rw [spReason, if_pos h1]) hs1 ((KE.out hout).mono (fun q e => by omega)))
  · obtain ⟨e1, e2, e3⟩ := h1
    refine ax_out X hT (Nat.le_of_ble_eq_true rfl) (Nat.le_of_ble_eq_true rfl) (RXN.of (k := 1) (by rw [spReason, if_neg e3]) (by decide) e1 hs e2)
theorem le_spAdd {τ : TS} {f p y m : Int32} : (spAdd τ f p y m).1 ≤ 3 := by
  unfold spAdd
  repeat' split
  all_goals first | (dsimp only; omega) | decide
theorem w_add {l : Launch} {G : AG} {M : AM} {x D : Nat} {τ : TS} {f p y m : Int32} (hfl : l.stackTraces = false) (hs : isRS G M x D τ) : Ch l G yL_edits cL_edits 7 (some .int) [(0, 41, 42, 30), (0, 41, 47, 32), (0, 41, 52, 34)] { rL_edits with cells := 5, slots := 30 } M [.ref x, .int (nI 0), .int f, .int p, .int y, .int m] (wP G M x D (eD x D) (spAdd τ f p y m)) := by
  refine Ch.of (by decide) [some (.ref x), some (.int (nI 0)), some (.int f), some (.int p), some (.int y), some (.int m), none] rfl (Nat.le_of_ble_eq_true rfl) ?_
  intro Z hZ hN htab
  obtain ⟨rfl, hn, rfl, hR, X, hr, hnm⟩ := hZ
  refine aw_iload1 X dL_edits_0 ?_
  refine aw_ifne X dL_edits_1 (tgt := 17) (by decide) (fun c9 => by first | exact absurd ((rfl : nI 0 = 0)) c9 | exact absurd c9 ((rfl : nI 0 = 0))) (fun _ => ?_)
  refine aw_aload0 X dL_edits_4 ?_
  refine aw_iload2 X dL_edits_5 ?_
  refine aw_iload3 X dL_edits_6 ?_
  refine aw_iload4 X dL_edits_7 ?_
  refine aw_iload5 X dL_edits_9 ?_
  refine aw_callVX X (st := []) (c_X8_add hfl hs) kL_17 (ci := 9) rfl (hs.2.2.1) dL_edits_11 rfl rfl (by first | decide | exact Nat.le_of_ble_eq_true rfl) (by rw [hR]; exact ⟨by first | decide | exact Nat.le_of_ble_eq_true rfl | (dsimp only; omega), by first | decide | exact Nat.le_of_ble_eq_true rfl | (dsimp only; omega)⟩) (by rw [hR]; exact ⟨by first | decide | exact Nat.le_of_ble_eq_true rfl | (dsimp only; omega), by first | decide | exact Nat.le_of_ble_eq_true rfl | (dsimp only; omega)⟩) (fun v M1 hv => ?_) (fun E M1 h1 => ?_)
  · obtain ⟨e0, rfl, hs1, hk1⟩ := hv
    refine aw_goto X dL_edits_14 (tgt := 41) (by decide) ?_
    refine aw_ireturn X (ty := .int) hr (by first | rfl | decide | assumption) dL_edits_41 (⟨by rw [wr_0 e0], hs1, hk1⟩)
  · obtain ⟨hpos, hE, hs1, hk1⟩ := h1
    have hle : (spAdd τ f p y m).1 ≤ 3 := le_spAdd
    by_cases ej : (spAdd τ f p y m).1 = 1
    · have hE2 : E = exI := hE.trans (congrArg ecIAS ej)
      subst hE2
      refine ax_catch X [] ⟨0, 41, 42, 30⟩ [⟨0, 41, 47, 32⟩, ⟨0, 41, 52, 34⟩] (by rw [htab]; rfl) (fun z hz => nomatch hz) (by decide) (by decide) cnL_30 ct_I (fun q => ?_)
      refine aw_astore6 X dL_edits_42 (by rw [hn]; decide) rfl ?_
      refine aw_bipush X dL_edits_44 (v := -101) (by decide) ?_
      refine aw_ireturn X (ty := .int) hr (by first | rfl | decide | assumption) dL_edits_46 (⟨by rw [wr_1 ej], hs1, hk1⟩)
    by_cases ej : (spAdd τ f p y m).1 = 2
    · have hE2 : E = exA := hE.trans (congrArg ecIAS ej)
      subst hE2
      refine ax_catch X [⟨0, 41, 42, 30⟩] ⟨0, 41, 47, 32⟩ [⟨0, 41, 52, 34⟩] (by rw [htab]; rfl) (List.forall_mem_cons.mpr ⟨Or.inr ⟨by decide, exI, cnL_30, hN.1⟩, List.forall_mem_nil _⟩) (by decide) (by decide) cnL_32 ct_A (fun q => ?_)
      refine aw_astore6 X dL_edits_47 (by rw [hn]; decide) rfl ?_
      refine aw_bipush X dL_edits_49 (v := -102) (by decide) ?_
      refine aw_ireturn X (ty := .int) hr (by first | rfl | decide | assumption) dL_edits_51 (⟨by rw [wr_2 ej], hs1, hk1⟩)
    have ej2 : (spAdd τ f p y m).1 = 3 := by omega
    have hE2 : E = exS := hE.trans (congrArg ecIAS ej2)
    subst hE2
    refine ax_catch X [⟨0, 41, 42, 30⟩, ⟨0, 41, 47, 32⟩] ⟨0, 41, 52, 34⟩ [] (by rw [htab]; rfl) (List.forall_mem_cons.mpr ⟨Or.inr ⟨by decide, exI, cnL_30, hN.2.1⟩, List.forall_mem_cons.mpr ⟨Or.inr ⟨by decide, exA, cnL_32, hN.2.2⟩, List.forall_mem_nil _⟩⟩) (by decide) (by decide) cnL_34 ct_S (fun q => ?_)
    refine aw_astore6 X dL_edits_52 (by rw [hn]; decide) rfl ?_
    refine aw_bipush X dL_edits_54 (v := -103) (by decide) ?_
    refine aw_ireturn X (ty := .int) hr (by first | rfl | decide | assumption) dL_edits_56 (⟨by rw [wr_3 ej2], hs1, hk1⟩)
theorem le_spInsert {τ : TS} {f p y : Int32} : (spInsert τ f p y).1 ≤ 3 := by
  unfold spInsert
  repeat' split
  all_goals first | (dsimp only; omega) | decide
theorem w_insert {l : Launch} {G : AG} {M : AM} {x D : Nat} {τ : TS} {f p y u0 : Int32} (hfl : l.stackTraces = false) (hs : isRS G M x D τ) : Ch l G yL_edits cL_edits 7 (some .int) [(0, 41, 42, 30), (0, 41, 47, 32), (0, 41, 52, 34)] { rL_edits with cells := 4, slots := 24 } M [.ref x, .int (nI 1), .int f, .int p, .int y, .int u0] (wP G M x D (eD x D) (spInsert τ f p y)) := by
  refine Ch.of (by decide) [some (.ref x), some (.int (nI 1)), some (.int f), some (.int p), some (.int y), some (.int u0), none] rfl (Nat.le_of_ble_eq_true rfl) ?_
  intro Z hZ hN htab
  obtain ⟨rfl, hn, rfl, hR, X, hr, hnm⟩ := hZ
  refine aw_iload1 X dL_edits_0 ?_
  refine aw_ifne X dL_edits_1 (tgt := 17) (by decide) (fun _ => ?_) (fun c9 => by first | exact absurd ((by decide : ¬ nI 1 = 0)) c9 | exact absurd c9 ((by decide : ¬ nI 1 = 0)))
  refine aw_iload1 X dL_edits_17 ?_
  refine aw_iconst X dL_edits_18 (v := nI 1) (by decide) ?_
  refine aw_icmpne X dL_edits_19 (tgt := 33) (by decide) (fun c9 => by first | exact absurd ((rfl : nI 1 = nI 1)) c9 | exact absurd c9 ((rfl : nI 1 = nI 1))) (fun _ => ?_)
  refine aw_aload0 X dL_edits_22 ?_
  refine aw_iload2 X dL_edits_23 ?_
  refine aw_iload3 X dL_edits_24 ?_
  refine aw_iload4 X dL_edits_25 ?_
  refine aw_callVX X (st := []) (c_X8_insert hfl hs) kL_23 (ci := 9) rfl (hs.2.2.1) dL_edits_27 rfl rfl (by first | decide | exact Nat.le_of_ble_eq_true rfl) (by rw [hR]; exact ⟨by first | decide | exact Nat.le_of_ble_eq_true rfl | (dsimp only; omega), by first | decide | exact Nat.le_of_ble_eq_true rfl | (dsimp only; omega)⟩) (by rw [hR]; exact ⟨by first | decide | exact Nat.le_of_ble_eq_true rfl | (dsimp only; omega), by first | decide | exact Nat.le_of_ble_eq_true rfl | (dsimp only; omega)⟩) (fun v M1 hv => ?_) (fun E M1 h1 => ?_)
  · obtain ⟨e0, rfl, hs1, hk1⟩ := hv
    refine aw_goto X dL_edits_30 (tgt := 41) (by decide) ?_
    refine aw_ireturn X (ty := .int) hr (by first | rfl | decide | assumption) dL_edits_41 (⟨by rw [wr_0 e0], hs1, hk1⟩)
  · obtain ⟨hpos, hE, hs1, hk1⟩ := h1
    have hle : (spInsert τ f p y).1 ≤ 3 := le_spInsert
    by_cases ej : (spInsert τ f p y).1 = 1
    · have hE2 : E = exI := hE.trans (congrArg ecIAS ej)
      subst hE2
      refine ax_catch X [] ⟨0, 41, 42, 30⟩ [⟨0, 41, 47, 32⟩, ⟨0, 41, 52, 34⟩] (by rw [htab]; rfl) (fun z hz => nomatch hz) (by decide) (by decide) cnL_30 ct_I (fun q => ?_)
      refine aw_astore6 X dL_edits_42 (by rw [hn]; decide) rfl ?_
      refine aw_bipush X dL_edits_44 (v := -101) (by decide) ?_
      refine aw_ireturn X (ty := .int) hr (by first | rfl | decide | assumption) dL_edits_46 (⟨by rw [wr_1 ej], hs1, hk1⟩)
    by_cases ej : (spInsert τ f p y).1 = 2
    · have hE2 : E = exA := hE.trans (congrArg ecIAS ej)
      subst hE2
      refine ax_catch X [⟨0, 41, 42, 30⟩] ⟨0, 41, 47, 32⟩ [⟨0, 41, 52, 34⟩] (by rw [htab]; rfl) (List.forall_mem_cons.mpr ⟨Or.inr ⟨by decide, exI, cnL_30, hN.1⟩, List.forall_mem_nil _⟩) (by decide) (by decide) cnL_32 ct_A (fun q => ?_)
      refine aw_astore6 X dL_edits_47 (by rw [hn]; decide) rfl ?_
      refine aw_bipush X dL_edits_49 (v := -102) (by decide) ?_
      refine aw_ireturn X (ty := .int) hr (by first | rfl | decide | assumption) dL_edits_51 (⟨by rw [wr_2 ej], hs1, hk1⟩)
    have ej2 : (spInsert τ f p y).1 = 3 := by omega
    have hE2 : E = exS := hE.trans (congrArg ecIAS ej2)
    subst hE2
    refine ax_catch X [⟨0, 41, 42, 30⟩, ⟨0, 41, 47, 32⟩] ⟨0, 41, 52, 34⟩ [] (by rw [htab]; rfl) (List.forall_mem_cons.mpr ⟨Or.inr ⟨by decide, exI, cnL_30, hN.2.1⟩, List.forall_mem_cons.mpr ⟨Or.inr ⟨by decide, exA, cnL_32, hN.2.2⟩, List.forall_mem_nil _⟩⟩) (by decide) (by decide) cnL_34 ct_S (fun q => ?_)
    refine aw_astore6 X dL_edits_52 (by rw [hn]; decide) rfl ?_
    refine aw_bipush X dL_edits_54 (v := -103) (by decide) ?_
    refine aw_ireturn X (ty := .int) hr (by first | rfl | decide | assumption) dL_edits_56 (⟨by rw [wr_3 ej2], hs1, hk1⟩)
theorem le_spRemove {τ : TS} {f p y : Int32} : (spRemove τ f p y).1 ≤ 2 := by
  unfold spRemove
  repeat' split
  all_goals first | (dsimp only; omega) | decide
theorem w_remove {l : Launch} {G : AG} {M : AM} {x D : Nat} {τ : TS} {f p y u0 : Int32} (hfl : l.stackTraces = false) (hs : isRS G M x D τ) : Ch l G yL_edits cL_edits 7 (some .int) [(0, 41, 42, 30), (0, 41, 47, 32), (0, 41, 52, 34)] { rL_edits with cells := 3, slots := 18 } M [.ref x, .int (nI 2), .int f, .int p, .int y, .int u0] (wP G M x D (eD x D) (spRemove τ f p y)) := by
  refine Ch.of (by decide) [some (.ref x), some (.int (nI 2)), some (.int f), some (.int p), some (.int y), some (.int u0), none] rfl (Nat.le_of_ble_eq_true rfl) ?_
  intro Z hZ hN htab
  obtain ⟨rfl, hn, rfl, hR, X, hr, hnm⟩ := hZ
  refine aw_iload1 X dL_edits_0 ?_
  refine aw_ifne X dL_edits_1 (tgt := 17) (by decide) (fun _ => ?_) (fun c9 => by first | exact absurd ((by decide : ¬ nI 2 = 0)) c9 | exact absurd c9 ((by decide : ¬ nI 2 = 0)))
  refine aw_iload1 X dL_edits_17 ?_
  refine aw_iconst X dL_edits_18 (v := nI 1) (by decide) ?_
  refine aw_icmpne X dL_edits_19 (tgt := 33) (by decide) (fun _ => ?_) (fun c9 => by first | exact absurd ((by decide : ¬ nI 2 = nI 1)) c9 | exact absurd c9 ((by decide : ¬ nI 2 = nI 1)))
  refine aw_aload0 X dL_edits_33 ?_
  refine aw_iload2 X dL_edits_34 ?_
  refine aw_iload3 X dL_edits_35 ?_
  refine aw_iload4 X dL_edits_36 ?_
  refine aw_callVX X (st := []) (c_X8_remove hfl hs) kL_27 (ci := 9) rfl (hs.2.2.1) dL_edits_38 rfl rfl (by first | decide | exact Nat.le_of_ble_eq_true rfl) (by rw [hR]; exact ⟨by first | decide | exact Nat.le_of_ble_eq_true rfl | (dsimp only; omega), by first | decide | exact Nat.le_of_ble_eq_true rfl | (dsimp only; omega)⟩) (by rw [hR]; exact ⟨by first | decide | exact Nat.le_of_ble_eq_true rfl | (dsimp only; omega), by first | decide | exact Nat.le_of_ble_eq_true rfl | (dsimp only; omega)⟩) (fun v M1 hv => ?_) (fun E M1 h1 => ?_)
  · obtain ⟨e0, rfl, hs1, hk1⟩ := hv
    refine aw_ireturn X (ty := .int) hr (by first | rfl | decide | assumption) dL_edits_41 (⟨by rw [wr_0 e0], hs1, hk1⟩)
  · obtain ⟨hpos, hE, hs1, hk1⟩ := h1
    have hle : (spRemove τ f p y).1 ≤ 2 := le_spRemove
    by_cases ej : (spRemove τ f p y).1 = 1
    · have hE2 : E = exI := hE.trans (congrArg ecIA ej)
      subst hE2
      refine ax_catch X [] ⟨0, 41, 42, 30⟩ [⟨0, 41, 47, 32⟩, ⟨0, 41, 52, 34⟩] (by rw [htab]; rfl) (fun z hz => nomatch hz) (by decide) (by decide) cnL_30 ct_I (fun q => ?_)
      refine aw_astore6 X dL_edits_42 (by rw [hn]; decide) rfl ?_
      refine aw_bipush X dL_edits_44 (v := -101) (by decide) ?_
      refine aw_ireturn X (ty := .int) hr (by first | rfl | decide | assumption) dL_edits_46 (⟨by rw [wr_1 ej], hs1, hk1⟩)
    have ej2 : (spRemove τ f p y).1 = 2 := by omega
    have hE2 : E = exA := hE.trans (congrArg ecIA ej2)
    subst hE2
    refine ax_catch X [⟨0, 41, 42, 30⟩] ⟨0, 41, 47, 32⟩ [⟨0, 41, 52, 34⟩] (by rw [htab]; rfl) (List.forall_mem_cons.mpr ⟨Or.inr ⟨by decide, exI, cnL_30, hN.1⟩, List.forall_mem_nil _⟩) (by decide) (by decide) cnL_32 ct_A (fun q => ?_)
    refine aw_astore6 X dL_edits_47 (by rw [hn]; decide) rfl ?_
    refine aw_bipush X dL_edits_49 (v := -102) (by decide) ?_
    refine aw_ireturn X (ty := .int) hr (by first | rfl | decide | assumption) dL_edits_51 (⟨by rw [wr_2 ej2], hs1, hk1⟩)
theorem le_spCopy {τ : TS} {f p : Int32} : (spCopy τ f p).1 ≤ 1 := by
  unfold spCopy
  repeat' split
  all_goals first | (dsimp only; omega) | decide
theorem vz_spCopy {τ : TS} {f p : Int32} : (spCopy τ f p).2.1 = nI 0 := by
  unfold spCopy
  repeat' split
  all_goals rfl
theorem w_copy {l : Launch} {G : AG} {M : AM} {x D : Nat} {τ : TS} {f p : Int32} (hfl : l.stackTraces = false) (hs : isRS G M x D τ) : Ch l G yL_copied cL_copied 4 (some .int) [(0, 7, 8, 30)] { rL_copied with cells := 2, slots := 12 } M [.ref x, .int f, .int p] (wP G M x D (eD x D) (spCopy τ f p)) := by
  refine Ch.of (by decide) [some (.ref x), some (.int f), some (.int p), none] rfl (Nat.le_of_ble_eq_true rfl) ?_
  intro Z hZ hN htab
  obtain ⟨rfl, hn, rfl, hR, X, hr, hnm⟩ := hZ
  refine aw_aload0 X dL_copied_0 ?_
  refine aw_iload1 X dL_copied_1 ?_
  refine aw_iload2 X dL_copied_2 ?_
  refine aw_callVX X (st := []) (c_X8_copy hfl hs) kL_36 (ci := 9) rfl (hs.2.2.1) dL_copied_3 rfl rfl (by first | decide | exact Nat.le_of_ble_eq_true rfl) (by rw [hR]; exact ⟨by first | decide | exact Nat.le_of_ble_eq_true rfl | (dsimp only; omega), by first | decide | exact Nat.le_of_ble_eq_true rfl | (dsimp only; omega)⟩) (by rw [hR]; exact ⟨by first | decide | exact Nat.le_of_ble_eq_true rfl | (dsimp only; omega), by first | decide | exact Nat.le_of_ble_eq_true rfl | (dsimp only; omega)⟩) (fun v M1 hv => ?_) (fun E M1 h1 => ?_)
  · obtain ⟨e0, rfl, hs1, hk1⟩ := hv
    refine aw_iconst X dL_copied_6 (v := nI 0) (by decide) ?_
    refine aw_ireturn X (ty := .int) hr (by first | rfl | decide | assumption) dL_copied_7 (⟨by rw [wr_0 e0, vz_spCopy], hs1, hk1⟩)
  · obtain ⟨hpos, hE, hs1, hk1⟩ := h1
    have hle : (spCopy τ f p).1 ≤ 1 := le_spCopy
    have ej : (spCopy τ f p).1 = 1 := by omega
    have hE2 : E = exI := hE.trans (congrArg ecI ej)
    subst hE2
    refine ax_catch X [] ⟨0, 7, 8, 30⟩ [] (by rw [htab]; rfl) (fun z hz => nomatch hz) (by decide) (by decide) cnL_30 ct_I (fun q => ?_)
    refine aw_astore3 X dL_copied_8 (by rw [hn]; decide) rfl ?_
    refine aw_bipush X dL_copied_9 (v := -101) (by decide) ?_
    refine aw_ireturn X (ty := .int) hr (by first | rfl | decide | assumption) dL_copied_11 (⟨by rw [wr_1 ej], hs1, hk1⟩)
theorem le_spLength {τ : TS} {f : Int32} : (spLength τ f).1 ≤ 1 := by
  unfold spLength
  repeat' split
  all_goals first | (dsimp only; omega) | decide
theorem w_length {l : Launch} {G : AG} {M : AM} {x D : Nat} {τ : TS} {f u0 : Int32} (hfl : l.stackTraces = false) (hs : isRS G M x D τ) : Ch l G yL_tells cL_tells 5 (some .int) [(0, 184, 185, 30)] { rL_tells with cells := 1, slots := 6 } M [.ref x, .int (nI 0), .int f, .int u0] (wP G M x D (eD x D) (spLength τ f)) := by
  refine Ch.of (by decide) [some (.ref x), some (.int (nI 0)), some (.int f), some (.int u0), none] rfl (Nat.le_of_ble_eq_true rfl) ?_
  intro Z hZ hN htab
  obtain ⟨rfl, hn, rfl, hR, X, hr, hnm⟩ := hZ
  refine aw_iload1 X dL_tells_0 ?_
  refine aw_ifne X dL_tells_1 (tgt := 12) (by decide) (fun c9 => by first | exact absurd ((rfl : nI 0 = 0)) c9 | exact absurd c9 ((rfl : nI 0 = 0))) (fun _ => ?_)
  refine aw_aload0 X dL_tells_4 ?_
  refine aw_iload2 X dL_tells_5 ?_
  refine aw_callVX X (st := []) (c_X8_length hfl hs) kL_40 (ci := 9) rfl (hs.2.2.1) dL_tells_6 rfl rfl (by first | decide | exact Nat.le_of_ble_eq_true rfl) (by rw [hR]; exact ⟨by first | decide | exact Nat.le_of_ble_eq_true rfl | (dsimp only; omega), by first | decide | exact Nat.le_of_ble_eq_true rfl | (dsimp only; omega)⟩) (by rw [hR]; exact ⟨by first | decide | exact Nat.le_of_ble_eq_true rfl | (dsimp only; omega), by first | decide | exact Nat.le_of_ble_eq_true rfl | (dsimp only; omega)⟩) (fun v M1 hv => ?_) (fun E M1 h1 => ?_)
  · obtain ⟨e0, rfl, hs1, hk1⟩ := hv
    refine aw_goto X dL_tells_9 (tgt := 184) (by decide) ?_
    refine aw_ireturn X (ty := .int) hr (by first | rfl | decide | assumption) dL_tells_184 (⟨by rw [wr_0 e0], hs1, hk1⟩)
  · obtain ⟨hpos, hE, hs1, hk1⟩ := h1
    have hle : (spLength τ f).1 ≤ 1 := le_spLength
    have ej : (spLength τ f).1 = 1 := by omega
    have hE2 : E = exI := hE.trans (congrArg ecI ej)
    subst hE2
    refine ax_catch X [] ⟨0, 184, 185, 30⟩ [] (by rw [htab]; rfl) (fun z hz => nomatch hz) (by decide) (by decide) cnL_30 ct_I (fun q => ?_)
    refine aw_astore4 X dL_tells_185 (by rw [hn]; decide) rfl ?_
    refine aw_bipush X dL_tells_187 (v := -101) (by decide) ?_
    refine aw_ireturn X (ty := .int) hr (by first | rfl | decide | assumption) dL_tells_189 (⟨by rw [wr_1 ej], hs1, hk1⟩)
theorem le_spByteAt {τ : TS} {f p : Int32} : (spByteAt τ f p).1 ≤ 1 := by
  unfold spByteAt
  repeat' split
  all_goals first | (dsimp only; omega) | decide
theorem w_byteAt {l : Launch} {G : AG} {M : AM} {x D : Nat} {τ : TS} {f p : Int32} (hfl : l.stackTraces = false) (hs : isRS G M x D τ) : Ch l G yL_tells cL_tells 5 (some .int) [(0, 184, 185, 30)] { rL_tells with cells := 2, slots := 12 } M [.ref x, .int (nI 1), .int f, .int p] (wP G M x D (eD x D) (spByteAt τ f p)) := by
  refine Ch.of (by decide) [some (.ref x), some (.int (nI 1)), some (.int f), some (.int p), none] rfl (Nat.le_of_ble_eq_true rfl) ?_
  intro Z hZ hN htab
  obtain ⟨rfl, hn, rfl, hR, X, hr, hnm⟩ := hZ
  refine aw_iload1 X dL_tells_0 ?_
  refine aw_ifne X dL_tells_1 (tgt := 12) (by decide) (fun _ => ?_) (fun c9 => by first | exact absurd ((by decide : ¬ nI 1 = 0)) c9 | exact absurd c9 ((by decide : ¬ nI 1 = 0)))
  refine aw_iload1 X dL_tells_12 ?_
  refine aw_iconst X dL_tells_13 (v := nI 1) (by decide) ?_
  refine aw_icmpne X dL_tells_14 (tgt := 26) (by decide) (fun c9 => by first | exact absurd ((rfl : nI 1 = nI 1)) c9 | exact absurd c9 ((rfl : nI 1 = nI 1))) (fun _ => ?_)
  refine aw_aload0 X dL_tells_17 ?_
  refine aw_iload2 X dL_tells_18 ?_
  refine aw_iload3 X dL_tells_19 ?_
  refine aw_callVX X (st := []) (c_X8_byteAt hfl hs) kL_44 (ci := 9) rfl (hs.2.2.1) dL_tells_20 rfl rfl (by first | decide | exact Nat.le_of_ble_eq_true rfl) (by rw [hR]; exact ⟨by first | decide | exact Nat.le_of_ble_eq_true rfl | (dsimp only; omega), by first | decide | exact Nat.le_of_ble_eq_true rfl | (dsimp only; omega)⟩) (by rw [hR]; exact ⟨by first | decide | exact Nat.le_of_ble_eq_true rfl | (dsimp only; omega), by first | decide | exact Nat.le_of_ble_eq_true rfl | (dsimp only; omega)⟩) (fun v M1 hv => ?_) (fun E M1 h1 => ?_)
  · obtain ⟨e0, rfl, hs1, hk1⟩ := hv
    refine aw_goto X dL_tells_23 (tgt := 184) (by decide) ?_
    refine aw_ireturn X (ty := .int) hr (by first | rfl | decide | assumption) dL_tells_184 (⟨by rw [wr_0 e0], hs1, hk1⟩)
  · obtain ⟨hpos, hE, hs1, hk1⟩ := h1
    have hle : (spByteAt τ f p).1 ≤ 1 := le_spByteAt
    have ej : (spByteAt τ f p).1 = 1 := by omega
    have hE2 : E = exI := hE.trans (congrArg ecI ej)
    subst hE2
    refine ax_catch X [] ⟨0, 184, 185, 30⟩ [] (by rw [htab]; rfl) (fun z hz => nomatch hz) (by decide) (by decide) cnL_30 ct_I (fun q => ?_)
    refine aw_astore4 X dL_tells_185 (by rw [hn]; decide) rfl ?_
    refine aw_bipush X dL_tells_187 (v := -101) (by decide) ?_
    refine aw_ireturn X (ty := .int) hr (by first | rfl | decide | assumption) dL_tells_189 (⟨by rw [wr_1 ej], hs1, hk1⟩)
theorem le_spBlocks {τ : TS} {g : Int32} : (spBlocks τ g).1 ≤ 1 := by
  unfold spBlocks
  repeat' split
  all_goals first | (dsimp only; omega) | decide
theorem w_blocks {l : Launch} {G : AG} {M : AM} {x D : Nat} {τ : TS} {g u0 : Int32} (hfl : l.stackTraces = false) (hs : isRS G M x D τ) : Ch l G yL_tells cL_tells 5 (some .int) [(0, 184, 185, 30)] { rL_tells with cells := 1, slots := 6 } M [.ref x, .int (nI 2), .int g, .int u0] (wP G M x D (eD x D) (spBlocks τ g)) := by
  refine Ch.of (by decide) [some (.ref x), some (.int (nI 2)), some (.int g), some (.int u0), none] rfl (Nat.le_of_ble_eq_true rfl) ?_
  intro Z hZ hN htab
  obtain ⟨rfl, hn, rfl, hR, X, hr, hnm⟩ := hZ
  refine aw_iload1 X dL_tells_0 ?_
  refine aw_ifne X dL_tells_1 (tgt := 12) (by decide) (fun _ => ?_) (fun c9 => by first | exact absurd ((by decide : ¬ nI 2 = 0)) c9 | exact absurd c9 ((by decide : ¬ nI 2 = 0)))
  refine aw_iload1 X dL_tells_12 ?_
  refine aw_iconst X dL_tells_13 (v := nI 1) (by decide) ?_
  refine aw_icmpne X dL_tells_14 (tgt := 26) (by decide) (fun _ => ?_) (fun c9 => by first | exact absurd ((by decide : ¬ nI 2 = nI 1)) c9 | exact absurd c9 ((by decide : ¬ nI 2 = nI 1)))
  refine aw_iload1 X dL_tells_26 ?_
  refine aw_iconst X dL_tells_27 (v := nI 2) (by decide) ?_
  refine aw_icmpne X dL_tells_28 (tgt := 39) (by decide) (fun c9 => by first | exact absurd ((rfl : nI 2 = nI 2)) c9 | exact absurd c9 ((rfl : nI 2 = nI 2))) (fun _ => ?_)
  refine aw_aload0 X dL_tells_31 ?_
  refine aw_iload2 X dL_tells_32 ?_
  refine aw_callVX X (st := []) (c_X8_blocks hfl hs) kL_48 (ci := 9) rfl (hs.2.2.1) dL_tells_33 rfl rfl (by first | decide | exact Nat.le_of_ble_eq_true rfl) (by rw [hR]; exact ⟨by first | decide | exact Nat.le_of_ble_eq_true rfl | (dsimp only; omega), by first | decide | exact Nat.le_of_ble_eq_true rfl | (dsimp only; omega)⟩) (by rw [hR]; exact ⟨by first | decide | exact Nat.le_of_ble_eq_true rfl | (dsimp only; omega), by first | decide | exact Nat.le_of_ble_eq_true rfl | (dsimp only; omega)⟩) (fun v M1 hv => ?_) (fun E M1 h1 => ?_)
  · obtain ⟨e0, rfl, hs1, hk1⟩ := hv
    refine aw_goto X dL_tells_36 (tgt := 184) (by decide) ?_
    refine aw_ireturn X (ty := .int) hr (by first | rfl | decide | assumption) dL_tells_184 (⟨by rw [wr_0 e0], hs1, hk1⟩)
  · obtain ⟨hpos, hE, hs1, hk1⟩ := h1
    have hle : (spBlocks τ g).1 ≤ 1 := le_spBlocks
    have ej : (spBlocks τ g).1 = 1 := by omega
    have hE2 : E = exI := hE.trans (congrArg ecI ej)
    subst hE2
    refine ax_catch X [] ⟨0, 184, 185, 30⟩ [] (by rw [htab]; rfl) (fun z hz => nomatch hz) (by decide) (by decide) cnL_30 ct_I (fun q => ?_)
    refine aw_astore4 X dL_tells_185 (by rw [hn]; decide) rfl ?_
    refine aw_bipush X dL_tells_187 (v := -101) (by decide) ?_
    refine aw_ireturn X (ty := .int) hr (by first | rfl | decide | assumption) dL_tells_189 (⟨by rw [wr_1 ej], hs1, hk1⟩)
theorem le_spWeak {τ : TS} {g b : Int32} : (spWeak τ g b).1 ≤ 1 := by
  unfold spWeak
  repeat' split
  all_goals first | (dsimp only; omega) | decide
theorem w_weak {l : Launch} {G : AG} {M : AM} {x D : Nat} {τ : TS} {g b : Int32} (hfl : l.stackTraces = false) (hs : isRS G M x D τ) : Ch l G yL_tells cL_tells 5 (some .int) [(0, 184, 185, 30)] { rL_tells with cells := 2, slots := 12 } M [.ref x, .int (nI 3), .int g, .int b] (wP G M x D (eD x D) (spWeak τ g b)) := by
  refine Ch.of (by decide) [some (.ref x), some (.int (nI 3)), some (.int g), some (.int b), none] rfl (Nat.le_of_ble_eq_true rfl) ?_
  intro Z hZ hN htab
  obtain ⟨rfl, hn, rfl, hR, X, hr, hnm⟩ := hZ
  refine aw_iload1 X dL_tells_0 ?_
  refine aw_ifne X dL_tells_1 (tgt := 12) (by decide) (fun _ => ?_) (fun c9 => by first | exact absurd ((by decide : ¬ nI 3 = 0)) c9 | exact absurd c9 ((by decide : ¬ nI 3 = 0)))
  refine aw_iload1 X dL_tells_12 ?_
  refine aw_iconst X dL_tells_13 (v := nI 1) (by decide) ?_
  refine aw_icmpne X dL_tells_14 (tgt := 26) (by decide) (fun _ => ?_) (fun c9 => by first | exact absurd ((by decide : ¬ nI 3 = nI 1)) c9 | exact absurd c9 ((by decide : ¬ nI 3 = nI 1)))
  refine aw_iload1 X dL_tells_26 ?_
  refine aw_iconst X dL_tells_27 (v := nI 2) (by decide) ?_
  refine aw_icmpne X dL_tells_28 (tgt := 39) (by decide) (fun _ => ?_) (fun c9 => by first | exact absurd ((by decide : ¬ nI 3 = nI 2)) c9 | exact absurd c9 ((by decide : ¬ nI 3 = nI 2)))
  refine aw_iload1 X dL_tells_39 ?_
  refine aw_iconst X dL_tells_40 (v := nI 3) (by decide) ?_
  refine aw_icmpne X dL_tells_41 (tgt := 53) (by decide) (fun c9 => by first | exact absurd ((rfl : nI 3 = nI 3)) c9 | exact absurd c9 ((rfl : nI 3 = nI 3))) (fun _ => ?_)
  refine aw_aload0 X dL_tells_44 ?_
  refine aw_iload2 X dL_tells_45 ?_
  refine aw_iload3 X dL_tells_46 ?_
  refine aw_callVX X (st := []) (c_X8_weak hfl hs) kL_51 (ci := 9) rfl (hs.2.2.1) dL_tells_47 rfl rfl (by first | decide | exact Nat.le_of_ble_eq_true rfl) (by rw [hR]; exact ⟨by first | decide | exact Nat.le_of_ble_eq_true rfl | (dsimp only; omega), by first | decide | exact Nat.le_of_ble_eq_true rfl | (dsimp only; omega)⟩) (by rw [hR]; exact ⟨by first | decide | exact Nat.le_of_ble_eq_true rfl | (dsimp only; omega), by first | decide | exact Nat.le_of_ble_eq_true rfl | (dsimp only; omega)⟩) (fun v M1 hv => ?_) (fun E M1 h1 => ?_)
  · obtain ⟨e0, rfl, hs1, hk1⟩ := hv
    refine aw_goto X dL_tells_50 (tgt := 184) (by decide) ?_
    refine aw_ireturn X (ty := .int) hr (by first | rfl | decide | assumption) dL_tells_184 (⟨by rw [wr_0 e0], hs1, hk1⟩)
  · obtain ⟨hpos, hE, hs1, hk1⟩ := h1
    have hle : (spWeak τ g b).1 ≤ 1 := le_spWeak
    have ej : (spWeak τ g b).1 = 1 := by omega
    have hE2 : E = exI := hE.trans (congrArg ecI ej)
    subst hE2
    refine ax_catch X [] ⟨0, 184, 185, 30⟩ [] (by rw [htab]; rfl) (fun z hz => nomatch hz) (by decide) (by decide) cnL_30 ct_I (fun q => ?_)
    refine aw_astore4 X dL_tells_185 (by rw [hn]; decide) rfl ?_
    refine aw_bipush X dL_tells_187 (v := -101) (by decide) ?_
    refine aw_ireturn X (ty := .int) hr (by first | rfl | decide | assumption) dL_tells_189 (⟨by rw [wr_1 ej], hs1, hk1⟩)
theorem le_spInstr {τ : TS} {g : Int32} : (spInstr τ g).1 ≤ 1 := by
  unfold spInstr
  repeat' split
  all_goals first | (dsimp only; omega) | decide
theorem w_instructions {l : Launch} {G : AG} {M : AM} {x D : Nat} {τ : TS} {g u0 : Int32} (hfl : l.stackTraces = false) (hs : isRS G M x D τ) : Ch l G yL_tells cL_tells 5 (some .int) [(0, 184, 185, 30)] { rL_tells with cells := 1, slots := 6 } M [.ref x, .int (nI 4), .int g, .int u0] (wP G M x D (eD x D) (spInstr τ g)) := by
  refine Ch.of (by decide) [some (.ref x), some (.int (nI 4)), some (.int g), some (.int u0), none] rfl (Nat.le_of_ble_eq_true rfl) ?_
  intro Z hZ hN htab
  obtain ⟨rfl, hn, rfl, hR, X, hr, hnm⟩ := hZ
  refine aw_iload1 X dL_tells_0 ?_
  refine aw_ifne X dL_tells_1 (tgt := 12) (by decide) (fun _ => ?_) (fun c9 => by first | exact absurd ((by decide : ¬ nI 4 = 0)) c9 | exact absurd c9 ((by decide : ¬ nI 4 = 0)))
  refine aw_iload1 X dL_tells_12 ?_
  refine aw_iconst X dL_tells_13 (v := nI 1) (by decide) ?_
  refine aw_icmpne X dL_tells_14 (tgt := 26) (by decide) (fun _ => ?_) (fun c9 => by first | exact absurd ((by decide : ¬ nI 4 = nI 1)) c9 | exact absurd c9 ((by decide : ¬ nI 4 = nI 1)))
  refine aw_iload1 X dL_tells_26 ?_
  refine aw_iconst X dL_tells_27 (v := nI 2) (by decide) ?_
  refine aw_icmpne X dL_tells_28 (tgt := 39) (by decide) (fun _ => ?_) (fun c9 => by first | exact absurd ((by decide : ¬ nI 4 = nI 2)) c9 | exact absurd c9 ((by decide : ¬ nI 4 = nI 2)))
  refine aw_iload1 X dL_tells_39 ?_
  refine aw_iconst X dL_tells_40 (v := nI 3) (by decide) ?_
  refine aw_icmpne X dL_tells_41 (tgt := 53) (by decide) (fun _ => ?_) (fun c9 => by first | exact absurd ((by decide : ¬ nI 4 = nI 3)) c9 | exact absurd c9 ((by decide : ¬ nI 4 = nI 3)))
  refine aw_iload1 X dL_tells_53 ?_
  refine aw_iconst X dL_tells_54 (v := nI 4) (by decide) ?_
  refine aw_icmpne X dL_tells_55 (tgt := 66) (by decide) (fun c9 => by first | exact absurd ((rfl : nI 4 = nI 4)) c9 | exact absurd c9 ((rfl : nI 4 = nI 4))) (fun _ => ?_)
  refine aw_aload0 X dL_tells_58 ?_
  refine aw_iload2 X dL_tells_59 ?_
  refine aw_callVX X (st := []) (c_X8_instructions hfl hs) kL_53 (ci := 9) rfl (hs.2.2.1) dL_tells_60 rfl rfl (by first | decide | exact Nat.le_of_ble_eq_true rfl) (by rw [hR]; exact ⟨by first | decide | exact Nat.le_of_ble_eq_true rfl | (dsimp only; omega), by first | decide | exact Nat.le_of_ble_eq_true rfl | (dsimp only; omega)⟩) (by rw [hR]; exact ⟨by first | decide | exact Nat.le_of_ble_eq_true rfl | (dsimp only; omega), by first | decide | exact Nat.le_of_ble_eq_true rfl | (dsimp only; omega)⟩) (fun v M1 hv => ?_) (fun E M1 h1 => ?_)
  · obtain ⟨e0, rfl, hs1, hk1⟩ := hv
    refine aw_goto X dL_tells_63 (tgt := 184) (by decide) ?_
    refine aw_ireturn X (ty := .int) hr (by first | rfl | decide | assumption) dL_tells_184 (⟨by rw [wr_0 e0], hs1, hk1⟩)
  · obtain ⟨hpos, hE, hs1, hk1⟩ := h1
    have hle : (spInstr τ g).1 ≤ 1 := le_spInstr
    have ej : (spInstr τ g).1 = 1 := by omega
    have hE2 : E = exI := hE.trans (congrArg ecI ej)
    subst hE2
    refine ax_catch X [] ⟨0, 184, 185, 30⟩ [] (by rw [htab]; rfl) (fun z hz => nomatch hz) (by decide) (by decide) cnL_30 ct_I (fun q => ?_)
    refine aw_astore4 X dL_tells_185 (by rw [hn]; decide) rfl ?_
    refine aw_bipush X dL_tells_187 (v := -101) (by decide) ?_
    refine aw_ireturn X (ty := .int) hr (by first | rfl | decide | assumption) dL_tells_189 (⟨by rw [wr_1 ej], hs1, hk1⟩)
theorem le_spStart {τ : TS} {g b : Int32} : (spStart τ g b).1 ≤ 1 := by
  unfold spStart
  repeat' split
  all_goals first | (dsimp only; omega) | decide
theorem w_startOf {l : Launch} {G : AG} {M : AM} {x D : Nat} {τ : TS} {g b : Int32} (hfl : l.stackTraces = false) (hs : isRS G M x D τ) : Ch l G yL_tells cL_tells 5 (some .int) [(0, 184, 185, 30)] { rL_tells with cells := 2, slots := 12 } M [.ref x, .int (nI 5), .int g, .int b] (wP G M x D (eD x D) (spStart τ g b)) := by
  refine Ch.of (by decide) [some (.ref x), some (.int (nI 5)), some (.int g), some (.int b), none] rfl (Nat.le_of_ble_eq_true rfl) ?_
  intro Z hZ hN htab
  obtain ⟨rfl, hn, rfl, hR, X, hr, hnm⟩ := hZ
  refine aw_iload1 X dL_tells_0 ?_
  refine aw_ifne X dL_tells_1 (tgt := 12) (by decide) (fun _ => ?_) (fun c9 => by first | exact absurd ((by decide : ¬ nI 5 = 0)) c9 | exact absurd c9 ((by decide : ¬ nI 5 = 0)))
  refine aw_iload1 X dL_tells_12 ?_
  refine aw_iconst X dL_tells_13 (v := nI 1) (by decide) ?_
  refine aw_icmpne X dL_tells_14 (tgt := 26) (by decide) (fun _ => ?_) (fun c9 => by first | exact absurd ((by decide : ¬ nI 5 = nI 1)) c9 | exact absurd c9 ((by decide : ¬ nI 5 = nI 1)))
  refine aw_iload1 X dL_tells_26 ?_
  refine aw_iconst X dL_tells_27 (v := nI 2) (by decide) ?_
  refine aw_icmpne X dL_tells_28 (tgt := 39) (by decide) (fun _ => ?_) (fun c9 => by first | exact absurd ((by decide : ¬ nI 5 = nI 2)) c9 | exact absurd c9 ((by decide : ¬ nI 5 = nI 2)))
  refine aw_iload1 X dL_tells_39 ?_
  refine aw_iconst X dL_tells_40 (v := nI 3) (by decide) ?_
  refine aw_icmpne X dL_tells_41 (tgt := 53) (by decide) (fun _ => ?_) (fun c9 => by first | exact absurd ((by decide : ¬ nI 5 = nI 3)) c9 | exact absurd c9 ((by decide : ¬ nI 5 = nI 3)))
  refine aw_iload1 X dL_tells_53 ?_
  refine aw_iconst X dL_tells_54 (v := nI 4) (by decide) ?_
  refine aw_icmpne X dL_tells_55 (tgt := 66) (by decide) (fun _ => ?_) (fun c9 => by first | exact absurd ((by decide : ¬ nI 5 = nI 4)) c9 | exact absurd c9 ((by decide : ¬ nI 5 = nI 4)))
  refine aw_iload1 X dL_tells_66 ?_
  refine aw_iconst X dL_tells_67 (v := nI 5) (by decide) ?_
  refine aw_icmpne X dL_tells_68 (tgt := 80) (by decide) (fun c9 => by first | exact absurd ((rfl : nI 5 = nI 5)) c9 | exact absurd c9 ((rfl : nI 5 = nI 5))) (fun _ => ?_)
  refine aw_aload0 X dL_tells_71 ?_
  refine aw_iload2 X dL_tells_72 ?_
  refine aw_iload3 X dL_tells_73 ?_
  refine aw_callVX X (st := []) (c_X8_startOf hfl hs) kL_56 (ci := 9) rfl (hs.2.2.1) dL_tells_74 rfl rfl (by first | decide | exact Nat.le_of_ble_eq_true rfl) (by rw [hR]; exact ⟨by first | decide | exact Nat.le_of_ble_eq_true rfl | (dsimp only; omega), by first | decide | exact Nat.le_of_ble_eq_true rfl | (dsimp only; omega)⟩) (by rw [hR]; exact ⟨by first | decide | exact Nat.le_of_ble_eq_true rfl | (dsimp only; omega), by first | decide | exact Nat.le_of_ble_eq_true rfl | (dsimp only; omega)⟩) (fun v M1 hv => ?_) (fun E M1 h1 => ?_)
  · obtain ⟨e0, rfl, hs1, hk1⟩ := hv
    refine aw_goto X dL_tells_77 (tgt := 184) (by decide) ?_
    refine aw_ireturn X (ty := .int) hr (by first | rfl | decide | assumption) dL_tells_184 (⟨by rw [wr_0 e0], hs1, hk1⟩)
  · obtain ⟨hpos, hE, hs1, hk1⟩ := h1
    have hle : (spStart τ g b).1 ≤ 1 := le_spStart
    have ej : (spStart τ g b).1 = 1 := by omega
    have hE2 : E = exI := hE.trans (congrArg ecI ej)
    subst hE2
    refine ax_catch X [] ⟨0, 184, 185, 30⟩ [] (by rw [htab]; rfl) (fun z hz => nomatch hz) (by decide) (by decide) cnL_30 ct_I (fun q => ?_)
    refine aw_astore4 X dL_tells_185 (by rw [hn]; decide) rfl ?_
    refine aw_bipush X dL_tells_187 (v := -101) (by decide) ?_
    refine aw_ireturn X (ty := .int) hr (by first | rfl | decide | assumption) dL_tells_189 (⟨by rw [wr_1 ej], hs1, hk1⟩)
theorem le_spBytes {τ : TS} {g b : Int32} : (spBytes τ g b).1 ≤ 1 := by
  unfold spBytes
  repeat' split
  all_goals first | (dsimp only; omega) | decide
theorem w_bytesOf {l : Launch} {G : AG} {M : AM} {x D : Nat} {τ : TS} {g b : Int32} (hfl : l.stackTraces = false) (hs : isRS G M x D τ) : Ch l G yL_tells cL_tells 5 (some .int) [(0, 184, 185, 30)] { rL_tells with cells := 2, slots := 12 } M [.ref x, .int (nI 6), .int g, .int b] (wP G M x D (eD x D) (spBytes τ g b)) := by
  refine Ch.of (by decide) [some (.ref x), some (.int (nI 6)), some (.int g), some (.int b), none] rfl (Nat.le_of_ble_eq_true rfl) ?_
  intro Z hZ hN htab
  obtain ⟨rfl, hn, rfl, hR, X, hr, hnm⟩ := hZ
  refine aw_iload1 X dL_tells_0 ?_
  refine aw_ifne X dL_tells_1 (tgt := 12) (by decide) (fun _ => ?_) (fun c9 => by first | exact absurd ((by decide : ¬ nI 6 = 0)) c9 | exact absurd c9 ((by decide : ¬ nI 6 = 0)))
  refine aw_iload1 X dL_tells_12 ?_
  refine aw_iconst X dL_tells_13 (v := nI 1) (by decide) ?_
  refine aw_icmpne X dL_tells_14 (tgt := 26) (by decide) (fun _ => ?_) (fun c9 => by first | exact absurd ((by decide : ¬ nI 6 = nI 1)) c9 | exact absurd c9 ((by decide : ¬ nI 6 = nI 1)))
  refine aw_iload1 X dL_tells_26 ?_
  refine aw_iconst X dL_tells_27 (v := nI 2) (by decide) ?_
  refine aw_icmpne X dL_tells_28 (tgt := 39) (by decide) (fun _ => ?_) (fun c9 => by first | exact absurd ((by decide : ¬ nI 6 = nI 2)) c9 | exact absurd c9 ((by decide : ¬ nI 6 = nI 2)))
  refine aw_iload1 X dL_tells_39 ?_
  refine aw_iconst X dL_tells_40 (v := nI 3) (by decide) ?_
  refine aw_icmpne X dL_tells_41 (tgt := 53) (by decide) (fun _ => ?_) (fun c9 => by first | exact absurd ((by decide : ¬ nI 6 = nI 3)) c9 | exact absurd c9 ((by decide : ¬ nI 6 = nI 3)))
  refine aw_iload1 X dL_tells_53 ?_
  refine aw_iconst X dL_tells_54 (v := nI 4) (by decide) ?_
  refine aw_icmpne X dL_tells_55 (tgt := 66) (by decide) (fun _ => ?_) (fun c9 => by first | exact absurd ((by decide : ¬ nI 6 = nI 4)) c9 | exact absurd c9 ((by decide : ¬ nI 6 = nI 4)))
  refine aw_iload1 X dL_tells_66 ?_
  refine aw_iconst X dL_tells_67 (v := nI 5) (by decide) ?_
  refine aw_icmpne X dL_tells_68 (tgt := 80) (by decide) (fun _ => ?_) (fun c9 => by first | exact absurd ((by decide : ¬ nI 6 = nI 5)) c9 | exact absurd c9 ((by decide : ¬ nI 6 = nI 5)))
  refine aw_iload1 X dL_tells_80 ?_
  refine aw_bipush X dL_tells_81 (v := nI 6) (by decide) ?_
  refine aw_icmpne X dL_tells_83 (tgt := 95) (by decide) (fun c9 => by first | exact absurd ((rfl : nI 6 = nI 6)) c9 | exact absurd c9 ((rfl : nI 6 = nI 6))) (fun _ => ?_)
  refine aw_aload0 X dL_tells_86 ?_
  refine aw_iload2 X dL_tells_87 ?_
  refine aw_iload3 X dL_tells_88 ?_
  refine aw_callVX X (st := []) (c_X8_bytesOf hfl hs) kL_59 (ci := 9) rfl (hs.2.2.1) dL_tells_89 rfl rfl (by first | decide | exact Nat.le_of_ble_eq_true rfl) (by rw [hR]; exact ⟨by first | decide | exact Nat.le_of_ble_eq_true rfl | (dsimp only; omega), by first | decide | exact Nat.le_of_ble_eq_true rfl | (dsimp only; omega)⟩) (by rw [hR]; exact ⟨by first | decide | exact Nat.le_of_ble_eq_true rfl | (dsimp only; omega), by first | decide | exact Nat.le_of_ble_eq_true rfl | (dsimp only; omega)⟩) (fun v M1 hv => ?_) (fun E M1 h1 => ?_)
  · obtain ⟨e0, rfl, hs1, hk1⟩ := hv
    refine aw_goto X dL_tells_92 (tgt := 184) (by decide) ?_
    refine aw_ireturn X (ty := .int) hr (by first | rfl | decide | assumption) dL_tells_184 (⟨by rw [wr_0 e0], hs1, hk1⟩)
  · obtain ⟨hpos, hE, hs1, hk1⟩ := h1
    have hle : (spBytes τ g b).1 ≤ 1 := le_spBytes
    have ej : (spBytes τ g b).1 = 1 := by omega
    have hE2 : E = exI := hE.trans (congrArg ecI ej)
    subst hE2
    refine ax_catch X [] ⟨0, 184, 185, 30⟩ [] (by rw [htab]; rfl) (fun z hz => nomatch hz) (by decide) (by decide) cnL_30 ct_I (fun q => ?_)
    refine aw_astore4 X dL_tells_185 (by rw [hn]; decide) rfl ?_
    refine aw_bipush X dL_tells_187 (v := -101) (by decide) ?_
    refine aw_ireturn X (ty := .int) hr (by first | rfl | decide | assumption) dL_tells_189 (⟨by rw [wr_1 ej], hs1, hk1⟩)
theorem le_spCost {τ : TS} {g : Int32} : (spCost τ g).1 ≤ 1 := by
  unfold spCost
  repeat' split
  all_goals first | (dsimp only; omega) | decide
theorem w_cost {l : Launch} {G : AG} {M : AM} {x D : Nat} {τ : TS} {g u0 : Int32} (hfl : l.stackTraces = false) (hs : isRS G M x D τ) : Ch l G yL_tells cL_tells 5 (some .int) [(0, 184, 185, 30)] { rL_tells with cells := 1, slots := 6 } M [.ref x, .int (nI 7), .int g, .int u0] (wP G M x D (eD x D) (spCost τ g)) := by
  refine Ch.of (by decide) [some (.ref x), some (.int (nI 7)), some (.int g), some (.int u0), none] rfl (Nat.le_of_ble_eq_true rfl) ?_
  intro Z hZ hN htab
  obtain ⟨rfl, hn, rfl, hR, X, hr, hnm⟩ := hZ
  refine aw_iload1 X dL_tells_0 ?_
  refine aw_ifne X dL_tells_1 (tgt := 12) (by decide) (fun _ => ?_) (fun c9 => by first | exact absurd ((by decide : ¬ nI 7 = 0)) c9 | exact absurd c9 ((by decide : ¬ nI 7 = 0)))
  refine aw_iload1 X dL_tells_12 ?_
  refine aw_iconst X dL_tells_13 (v := nI 1) (by decide) ?_
  refine aw_icmpne X dL_tells_14 (tgt := 26) (by decide) (fun _ => ?_) (fun c9 => by first | exact absurd ((by decide : ¬ nI 7 = nI 1)) c9 | exact absurd c9 ((by decide : ¬ nI 7 = nI 1)))
  refine aw_iload1 X dL_tells_26 ?_
  refine aw_iconst X dL_tells_27 (v := nI 2) (by decide) ?_
  refine aw_icmpne X dL_tells_28 (tgt := 39) (by decide) (fun _ => ?_) (fun c9 => by first | exact absurd ((by decide : ¬ nI 7 = nI 2)) c9 | exact absurd c9 ((by decide : ¬ nI 7 = nI 2)))
  refine aw_iload1 X dL_tells_39 ?_
  refine aw_iconst X dL_tells_40 (v := nI 3) (by decide) ?_
  refine aw_icmpne X dL_tells_41 (tgt := 53) (by decide) (fun _ => ?_) (fun c9 => by first | exact absurd ((by decide : ¬ nI 7 = nI 3)) c9 | exact absurd c9 ((by decide : ¬ nI 7 = nI 3)))
  refine aw_iload1 X dL_tells_53 ?_
  refine aw_iconst X dL_tells_54 (v := nI 4) (by decide) ?_
  refine aw_icmpne X dL_tells_55 (tgt := 66) (by decide) (fun _ => ?_) (fun c9 => by first | exact absurd ((by decide : ¬ nI 7 = nI 4)) c9 | exact absurd c9 ((by decide : ¬ nI 7 = nI 4)))
  refine aw_iload1 X dL_tells_66 ?_
  refine aw_iconst X dL_tells_67 (v := nI 5) (by decide) ?_
  refine aw_icmpne X dL_tells_68 (tgt := 80) (by decide) (fun _ => ?_) (fun c9 => by first | exact absurd ((by decide : ¬ nI 7 = nI 5)) c9 | exact absurd c9 ((by decide : ¬ nI 7 = nI 5)))
  refine aw_iload1 X dL_tells_80 ?_
  refine aw_bipush X dL_tells_81 (v := nI 6) (by decide) ?_
  refine aw_icmpne X dL_tells_83 (tgt := 95) (by decide) (fun _ => ?_) (fun c9 => by first | exact absurd ((by decide : ¬ nI 7 = nI 6)) c9 | exact absurd c9 ((by decide : ¬ nI 7 = nI 6)))
  refine aw_iload1 X dL_tells_95 ?_
  refine aw_bipush X dL_tells_96 (v := nI 7) (by decide) ?_
  refine aw_icmpne X dL_tells_98 (tgt := 109) (by decide) (fun c9 => by first | exact absurd ((rfl : nI 7 = nI 7)) c9 | exact absurd c9 ((rfl : nI 7 = nI 7))) (fun _ => ?_)
  refine aw_aload0 X dL_tells_101 ?_
  refine aw_iload2 X dL_tells_102 ?_
  refine aw_callVX X (st := []) (c_X8_cost hfl hs) kL_62 (ci := 9) rfl (hs.2.2.1) dL_tells_103 rfl rfl (by first | decide | exact Nat.le_of_ble_eq_true rfl) (by rw [hR]; exact ⟨by first | decide | exact Nat.le_of_ble_eq_true rfl | (dsimp only; omega), by first | decide | exact Nat.le_of_ble_eq_true rfl | (dsimp only; omega)⟩) (by rw [hR]; exact ⟨by first | decide | exact Nat.le_of_ble_eq_true rfl | (dsimp only; omega), by first | decide | exact Nat.le_of_ble_eq_true rfl | (dsimp only; omega)⟩) (fun v M1 hv => ?_) (fun E M1 h1 => ?_)
  · obtain ⟨e0, rfl, hs1, hk1⟩ := hv
    refine aw_goto X dL_tells_106 (tgt := 184) (by decide) ?_
    refine aw_ireturn X (ty := .int) hr (by first | rfl | decide | assumption) dL_tells_184 (⟨by rw [wr_0 e0], hs1, hk1⟩)
  · obtain ⟨hpos, hE, hs1, hk1⟩ := h1
    have hle : (spCost τ g).1 ≤ 1 := le_spCost
    have ej : (spCost τ g).1 = 1 := by omega
    have hE2 : E = exI := hE.trans (congrArg ecI ej)
    subst hE2
    refine ax_catch X [] ⟨0, 184, 185, 30⟩ [] (by rw [htab]; rfl) (fun z hz => nomatch hz) (by decide) (by decide) cnL_30 ct_I (fun q => ?_)
    refine aw_astore4 X dL_tells_185 (by rw [hn]; decide) rfl ?_
    refine aw_bipush X dL_tells_187 (v := -101) (by decide) ?_
    refine aw_ireturn X (ty := .int) hr (by first | rfl | decide | assumption) dL_tells_189 (⟨by rw [wr_1 ej], hs1, hk1⟩)
theorem le_spAlarms {τ : TS} {g : Int32} : (spAlarms τ g).1 ≤ 1 := by
  unfold spAlarms
  repeat' split
  all_goals first | (dsimp only; omega) | decide
theorem w_alarms {l : Launch} {G : AG} {M : AM} {x D : Nat} {τ : TS} {g u0 : Int32} (hfl : l.stackTraces = false) (hs : isRS G M x D τ) : Ch l G yL_tells cL_tells 5 (some .int) [(0, 184, 185, 30)] { rL_tells with cells := 1, slots := 6 } M [.ref x, .int (nI 8), .int g, .int u0] (wP G M x D (eD x D) (spAlarms τ g)) := by
  refine Ch.of (by decide) [some (.ref x), some (.int (nI 8)), some (.int g), some (.int u0), none] rfl (Nat.le_of_ble_eq_true rfl) ?_
  intro Z hZ hN htab
  obtain ⟨rfl, hn, rfl, hR, X, hr, hnm⟩ := hZ
  refine aw_iload1 X dL_tells_0 ?_
  refine aw_ifne X dL_tells_1 (tgt := 12) (by decide) (fun _ => ?_) (fun c9 => by first | exact absurd ((by decide : ¬ nI 8 = 0)) c9 | exact absurd c9 ((by decide : ¬ nI 8 = 0)))
  refine aw_iload1 X dL_tells_12 ?_
  refine aw_iconst X dL_tells_13 (v := nI 1) (by decide) ?_
  refine aw_icmpne X dL_tells_14 (tgt := 26) (by decide) (fun _ => ?_) (fun c9 => by first | exact absurd ((by decide : ¬ nI 8 = nI 1)) c9 | exact absurd c9 ((by decide : ¬ nI 8 = nI 1)))
  refine aw_iload1 X dL_tells_26 ?_
  refine aw_iconst X dL_tells_27 (v := nI 2) (by decide) ?_
  refine aw_icmpne X dL_tells_28 (tgt := 39) (by decide) (fun _ => ?_) (fun c9 => by first | exact absurd ((by decide : ¬ nI 8 = nI 2)) c9 | exact absurd c9 ((by decide : ¬ nI 8 = nI 2)))
  refine aw_iload1 X dL_tells_39 ?_
  refine aw_iconst X dL_tells_40 (v := nI 3) (by decide) ?_
  refine aw_icmpne X dL_tells_41 (tgt := 53) (by decide) (fun _ => ?_) (fun c9 => by first | exact absurd ((by decide : ¬ nI 8 = nI 3)) c9 | exact absurd c9 ((by decide : ¬ nI 8 = nI 3)))
  refine aw_iload1 X dL_tells_53 ?_
  refine aw_iconst X dL_tells_54 (v := nI 4) (by decide) ?_
  refine aw_icmpne X dL_tells_55 (tgt := 66) (by decide) (fun _ => ?_) (fun c9 => by first | exact absurd ((by decide : ¬ nI 8 = nI 4)) c9 | exact absurd c9 ((by decide : ¬ nI 8 = nI 4)))
  refine aw_iload1 X dL_tells_66 ?_
  refine aw_iconst X dL_tells_67 (v := nI 5) (by decide) ?_
  refine aw_icmpne X dL_tells_68 (tgt := 80) (by decide) (fun _ => ?_) (fun c9 => by first | exact absurd ((by decide : ¬ nI 8 = nI 5)) c9 | exact absurd c9 ((by decide : ¬ nI 8 = nI 5)))
  refine aw_iload1 X dL_tells_80 ?_
  refine aw_bipush X dL_tells_81 (v := nI 6) (by decide) ?_
  refine aw_icmpne X dL_tells_83 (tgt := 95) (by decide) (fun _ => ?_) (fun c9 => by first | exact absurd ((by decide : ¬ nI 8 = nI 6)) c9 | exact absurd c9 ((by decide : ¬ nI 8 = nI 6)))
  refine aw_iload1 X dL_tells_95 ?_
  refine aw_bipush X dL_tells_96 (v := nI 7) (by decide) ?_
  refine aw_icmpne X dL_tells_98 (tgt := 109) (by decide) (fun _ => ?_) (fun c9 => by first | exact absurd ((by decide : ¬ nI 8 = nI 7)) c9 | exact absurd c9 ((by decide : ¬ nI 8 = nI 7)))
  refine aw_iload1 X dL_tells_109 ?_
  refine aw_bipush X dL_tells_110 (v := nI 8) (by decide) ?_
  refine aw_icmpne X dL_tells_112 (tgt := 123) (by decide) (fun c9 => by first | exact absurd ((rfl : nI 8 = nI 8)) c9 | exact absurd c9 ((rfl : nI 8 = nI 8))) (fun _ => ?_)
  refine aw_aload0 X dL_tells_115 ?_
  refine aw_iload2 X dL_tells_116 ?_
  refine aw_callVX X (st := []) (c_X8_alarms hfl hs) kL_65 (ci := 9) rfl (hs.2.2.1) dL_tells_117 rfl rfl (by first | decide | exact Nat.le_of_ble_eq_true rfl) (by rw [hR]; exact ⟨by first | decide | exact Nat.le_of_ble_eq_true rfl | (dsimp only; omega), by first | decide | exact Nat.le_of_ble_eq_true rfl | (dsimp only; omega)⟩) (by rw [hR]; exact ⟨by first | decide | exact Nat.le_of_ble_eq_true rfl | (dsimp only; omega), by first | decide | exact Nat.le_of_ble_eq_true rfl | (dsimp only; omega)⟩) (fun v M1 hv => ?_) (fun E M1 h1 => ?_)
  · obtain ⟨e0, rfl, hs1, hk1⟩ := hv
    refine aw_goto X dL_tells_120 (tgt := 184) (by decide) ?_
    refine aw_ireturn X (ty := .int) hr (by first | rfl | decide | assumption) dL_tells_184 (⟨by rw [wr_0 e0], hs1, hk1⟩)
  · obtain ⟨hpos, hE, hs1, hk1⟩ := h1
    have hle : (spAlarms τ g).1 ≤ 1 := le_spAlarms
    have ej : (spAlarms τ g).1 = 1 := by omega
    have hE2 : E = exI := hE.trans (congrArg ecI ej)
    subst hE2
    refine ax_catch X [] ⟨0, 184, 185, 30⟩ [] (by rw [htab]; rfl) (fun z hz => nomatch hz) (by decide) (by decide) cnL_30 ct_I (fun q => ?_)
    refine aw_astore4 X dL_tells_185 (by rw [hn]; decide) rfl ?_
    refine aw_bipush X dL_tells_187 (v := -101) (by decide) ?_
    refine aw_ireturn X (ty := .int) hr (by first | rfl | decide | assumption) dL_tells_189 (⟨by rw [wr_1 ej], hs1, hk1⟩)
theorem le_spLose {τ : TS} {v : Int32} : (spLose τ v).1 ≤ 1 := by
  unfold spLose
  repeat' split
  all_goals first | (dsimp only; omega) | decide
theorem w_lose {l : Launch} {G : AG} {M : AM} {x D : Nat} {τ : TS} {v u0 : Int32} (hfl : l.stackTraces = false) (hs : isRS G M x D τ) : Ch l G yL_tells cL_tells 5 (some .int) [(0, 184, 185, 30)] { rL_tells with cells := 1, slots := 6 } M [.ref x, .int (nI 9), .int v, .int u0] (wP G M x D (eD x D) (spLose τ v)) := by
  refine Ch.of (by decide) [some (.ref x), some (.int (nI 9)), some (.int v), some (.int u0), none] rfl (Nat.le_of_ble_eq_true rfl) ?_
  intro Z hZ hN htab
  obtain ⟨rfl, hn, rfl, hR, X, hr, hnm⟩ := hZ
  refine aw_iload1 X dL_tells_0 ?_
  refine aw_ifne X dL_tells_1 (tgt := 12) (by decide) (fun _ => ?_) (fun c9 => by first | exact absurd ((by decide : ¬ nI 9 = 0)) c9 | exact absurd c9 ((by decide : ¬ nI 9 = 0)))
  refine aw_iload1 X dL_tells_12 ?_
  refine aw_iconst X dL_tells_13 (v := nI 1) (by decide) ?_
  refine aw_icmpne X dL_tells_14 (tgt := 26) (by decide) (fun _ => ?_) (fun c9 => by first | exact absurd ((by decide : ¬ nI 9 = nI 1)) c9 | exact absurd c9 ((by decide : ¬ nI 9 = nI 1)))
  refine aw_iload1 X dL_tells_26 ?_
  refine aw_iconst X dL_tells_27 (v := nI 2) (by decide) ?_
  refine aw_icmpne X dL_tells_28 (tgt := 39) (by decide) (fun _ => ?_) (fun c9 => by first | exact absurd ((by decide : ¬ nI 9 = nI 2)) c9 | exact absurd c9 ((by decide : ¬ nI 9 = nI 2)))
  refine aw_iload1 X dL_tells_39 ?_
  refine aw_iconst X dL_tells_40 (v := nI 3) (by decide) ?_
  refine aw_icmpne X dL_tells_41 (tgt := 53) (by decide) (fun _ => ?_) (fun c9 => by first | exact absurd ((by decide : ¬ nI 9 = nI 3)) c9 | exact absurd c9 ((by decide : ¬ nI 9 = nI 3)))
  refine aw_iload1 X dL_tells_53 ?_
  refine aw_iconst X dL_tells_54 (v := nI 4) (by decide) ?_
  refine aw_icmpne X dL_tells_55 (tgt := 66) (by decide) (fun _ => ?_) (fun c9 => by first | exact absurd ((by decide : ¬ nI 9 = nI 4)) c9 | exact absurd c9 ((by decide : ¬ nI 9 = nI 4)))
  refine aw_iload1 X dL_tells_66 ?_
  refine aw_iconst X dL_tells_67 (v := nI 5) (by decide) ?_
  refine aw_icmpne X dL_tells_68 (tgt := 80) (by decide) (fun _ => ?_) (fun c9 => by first | exact absurd ((by decide : ¬ nI 9 = nI 5)) c9 | exact absurd c9 ((by decide : ¬ nI 9 = nI 5)))
  refine aw_iload1 X dL_tells_80 ?_
  refine aw_bipush X dL_tells_81 (v := nI 6) (by decide) ?_
  refine aw_icmpne X dL_tells_83 (tgt := 95) (by decide) (fun _ => ?_) (fun c9 => by first | exact absurd ((by decide : ¬ nI 9 = nI 6)) c9 | exact absurd c9 ((by decide : ¬ nI 9 = nI 6)))
  refine aw_iload1 X dL_tells_95 ?_
  refine aw_bipush X dL_tells_96 (v := nI 7) (by decide) ?_
  refine aw_icmpne X dL_tells_98 (tgt := 109) (by decide) (fun _ => ?_) (fun c9 => by first | exact absurd ((by decide : ¬ nI 9 = nI 7)) c9 | exact absurd c9 ((by decide : ¬ nI 9 = nI 7)))
  refine aw_iload1 X dL_tells_109 ?_
  refine aw_bipush X dL_tells_110 (v := nI 8) (by decide) ?_
  refine aw_icmpne X dL_tells_112 (tgt := 123) (by decide) (fun _ => ?_) (fun c9 => by first | exact absurd ((by decide : ¬ nI 9 = nI 8)) c9 | exact absurd c9 ((by decide : ¬ nI 9 = nI 8)))
  refine aw_iload1 X dL_tells_123 ?_
  refine aw_bipush X dL_tells_124 (v := nI 9) (by decide) ?_
  refine aw_icmpne X dL_tells_126 (tgt := 137) (by decide) (fun c9 => by first | exact absurd ((rfl : nI 9 = nI 9)) c9 | exact absurd c9 ((rfl : nI 9 = nI 9))) (fun _ => ?_)
  refine aw_aload0 X dL_tells_129 ?_
  refine aw_iload2 X dL_tells_130 ?_
  refine aw_callVX X (st := []) (c_X8_lose hfl hs) kL_68 (ci := 9) rfl (hs.2.2.1) dL_tells_131 rfl rfl (by first | decide | exact Nat.le_of_ble_eq_true rfl) (by rw [hR]; exact ⟨by first | decide | exact Nat.le_of_ble_eq_true rfl | (dsimp only; omega), by first | decide | exact Nat.le_of_ble_eq_true rfl | (dsimp only; omega)⟩) (by rw [hR]; exact ⟨by first | decide | exact Nat.le_of_ble_eq_true rfl | (dsimp only; omega), by first | decide | exact Nat.le_of_ble_eq_true rfl | (dsimp only; omega)⟩) (fun v M1 hv => ?_) (fun E M1 h1 => ?_)
  · obtain ⟨e0, rfl, hs1, hk1⟩ := hv
    refine aw_goto X dL_tells_134 (tgt := 184) (by decide) ?_
    refine aw_ireturn X (ty := .int) hr (by first | rfl | decide | assumption) dL_tells_184 (⟨by rw [wr_0 e0], hs1, hk1⟩)
  · obtain ⟨hpos, hE, hs1, hk1⟩ := h1
    have hle : (spLose τ v).1 ≤ 1 := le_spLose
    have ej : (spLose τ v).1 = 1 := by omega
    have hE2 : E = exI := hE.trans (congrArg ecI ej)
    subst hE2
    refine ax_catch X [] ⟨0, 184, 185, 30⟩ [] (by rw [htab]; rfl) (fun z hz => nomatch hz) (by decide) (by decide) cnL_30 ct_I (fun q => ?_)
    refine aw_astore4 X dL_tells_185 (by rw [hn]; decide) rfl ?_
    refine aw_bipush X dL_tells_187 (v := -101) (by decide) ?_
    refine aw_ireturn X (ty := .int) hr (by first | rfl | decide | assumption) dL_tells_189 (⟨by rw [wr_1 ej], hs1, hk1⟩)
theorem le_spBrAt {τ : TS} {v : Int32} : (spBrAt τ v).1 ≤ 1 := by
  unfold spBrAt
  repeat' split
  all_goals first | (dsimp only; omega) | decide
theorem w_brokenAt {l : Launch} {G : AG} {M : AM} {x D : Nat} {τ : TS} {v u0 : Int32} (hfl : l.stackTraces = false) (hs : isRS G M x D τ) : Ch l G yL_tells cL_tells 5 (some .int) [(0, 184, 185, 30)] { rL_tells with cells := 1, slots := 6 } M [.ref x, .int (nI 10), .int v, .int u0] (wP G M x D (eX x) (spBrAt τ v)) := by
  refine Ch.of (by decide) [some (.ref x), some (.int (nI 10)), some (.int v), some (.int u0), none] rfl (Nat.le_of_ble_eq_true rfl) ?_
  intro Z hZ hN htab
  obtain ⟨rfl, hn, rfl, hR, X, hr, hnm⟩ := hZ
  refine aw_iload1 X dL_tells_0 ?_
  refine aw_ifne X dL_tells_1 (tgt := 12) (by decide) (fun _ => ?_) (fun c9 => by first | exact absurd ((by decide : ¬ nI 10 = 0)) c9 | exact absurd c9 ((by decide : ¬ nI 10 = 0)))
  refine aw_iload1 X dL_tells_12 ?_
  refine aw_iconst X dL_tells_13 (v := nI 1) (by decide) ?_
  refine aw_icmpne X dL_tells_14 (tgt := 26) (by decide) (fun _ => ?_) (fun c9 => by first | exact absurd ((by decide : ¬ nI 10 = nI 1)) c9 | exact absurd c9 ((by decide : ¬ nI 10 = nI 1)))
  refine aw_iload1 X dL_tells_26 ?_
  refine aw_iconst X dL_tells_27 (v := nI 2) (by decide) ?_
  refine aw_icmpne X dL_tells_28 (tgt := 39) (by decide) (fun _ => ?_) (fun c9 => by first | exact absurd ((by decide : ¬ nI 10 = nI 2)) c9 | exact absurd c9 ((by decide : ¬ nI 10 = nI 2)))
  refine aw_iload1 X dL_tells_39 ?_
  refine aw_iconst X dL_tells_40 (v := nI 3) (by decide) ?_
  refine aw_icmpne X dL_tells_41 (tgt := 53) (by decide) (fun _ => ?_) (fun c9 => by first | exact absurd ((by decide : ¬ nI 10 = nI 3)) c9 | exact absurd c9 ((by decide : ¬ nI 10 = nI 3)))
  refine aw_iload1 X dL_tells_53 ?_
  refine aw_iconst X dL_tells_54 (v := nI 4) (by decide) ?_
  refine aw_icmpne X dL_tells_55 (tgt := 66) (by decide) (fun _ => ?_) (fun c9 => by first | exact absurd ((by decide : ¬ nI 10 = nI 4)) c9 | exact absurd c9 ((by decide : ¬ nI 10 = nI 4)))
  refine aw_iload1 X dL_tells_66 ?_
  refine aw_iconst X dL_tells_67 (v := nI 5) (by decide) ?_
  refine aw_icmpne X dL_tells_68 (tgt := 80) (by decide) (fun _ => ?_) (fun c9 => by first | exact absurd ((by decide : ¬ nI 10 = nI 5)) c9 | exact absurd c9 ((by decide : ¬ nI 10 = nI 5)))
  refine aw_iload1 X dL_tells_80 ?_
  refine aw_bipush X dL_tells_81 (v := nI 6) (by decide) ?_
  refine aw_icmpne X dL_tells_83 (tgt := 95) (by decide) (fun _ => ?_) (fun c9 => by first | exact absurd ((by decide : ¬ nI 10 = nI 6)) c9 | exact absurd c9 ((by decide : ¬ nI 10 = nI 6)))
  refine aw_iload1 X dL_tells_95 ?_
  refine aw_bipush X dL_tells_96 (v := nI 7) (by decide) ?_
  refine aw_icmpne X dL_tells_98 (tgt := 109) (by decide) (fun _ => ?_) (fun c9 => by first | exact absurd ((by decide : ¬ nI 10 = nI 7)) c9 | exact absurd c9 ((by decide : ¬ nI 10 = nI 7)))
  refine aw_iload1 X dL_tells_109 ?_
  refine aw_bipush X dL_tells_110 (v := nI 8) (by decide) ?_
  refine aw_icmpne X dL_tells_112 (tgt := 123) (by decide) (fun _ => ?_) (fun c9 => by first | exact absurd ((by decide : ¬ nI 10 = nI 8)) c9 | exact absurd c9 ((by decide : ¬ nI 10 = nI 8)))
  refine aw_iload1 X dL_tells_123 ?_
  refine aw_bipush X dL_tells_124 (v := nI 9) (by decide) ?_
  refine aw_icmpne X dL_tells_126 (tgt := 137) (by decide) (fun _ => ?_) (fun c9 => by first | exact absurd ((by decide : ¬ nI 10 = nI 9)) c9 | exact absurd c9 ((by decide : ¬ nI 10 = nI 9)))
  refine aw_iload1 X dL_tells_137 ?_
  refine aw_bipush X dL_tells_138 (v := nI 10) (by decide) ?_
  refine aw_icmpne X dL_tells_140 (tgt := 151) (by decide) (fun c9 => by first | exact absurd ((rfl : nI 10 = nI 10)) c9 | exact absurd c9 ((rfl : nI 10 = nI 10))) (fun _ => ?_)
  refine aw_aload0 X dL_tells_143 ?_
  refine aw_iload2 X dL_tells_144 ?_
  refine aw_callVX X (st := []) (c_X8_brokenAtN hfl hs) kL_71 (ci := 9) rfl (hs.2.2.1) dL_tells_145 rfl rfl (by first | decide | exact Nat.le_of_ble_eq_true rfl) (by rw [hR]; exact ⟨by first | decide | exact Nat.le_of_ble_eq_true rfl | (dsimp only; omega), by first | decide | exact Nat.le_of_ble_eq_true rfl | (dsimp only; omega)⟩) (by rw [hR]; exact ⟨by first | decide | exact Nat.le_of_ble_eq_true rfl | (dsimp only; omega), by first | decide | exact Nat.le_of_ble_eq_true rfl | (dsimp only; omega)⟩) (fun v M1 hv => ?_) (fun E M1 h1 => ?_)
  · obtain ⟨e0, rfl, hs1, hk1⟩ := hv
    refine aw_goto X dL_tells_148 (tgt := 184) (by decide) ?_
    refine aw_ireturn X (ty := .int) hr (by first | rfl | decide | assumption) dL_tells_184 (⟨by rw [wr_0 e0], hs1, hk1⟩)
  · obtain ⟨hpos, hE, hs1, hk1⟩ := h1
    have hle : (spBrAt τ v).1 ≤ 1 := le_spBrAt
    have ej : (spBrAt τ v).1 = 1 := by omega
    have hE2 : E = exI := hE.trans (congrArg ecI ej)
    subst hE2
    refine ax_catch X [] ⟨0, 184, 185, 30⟩ [] (by rw [htab]; rfl) (fun z hz => nomatch hz) (by decide) (by decide) cnL_30 ct_I (fun q => ?_)
    refine aw_astore4 X dL_tells_185 (by rw [hn]; decide) rfl ?_
    refine aw_bipush X dL_tells_187 (v := -101) (by decide) ?_
    refine aw_ireturn X (ty := .int) hr (by first | rfl | decide | assumption) dL_tells_189 (⟨by rw [wr_1 ej], hs1, hk1⟩)
theorem le_spBrAfter {τ : TS} {v : Int32} : (spBrAfter τ v).1 ≤ 1 := by
  unfold spBrAfter
  repeat' split
  all_goals first | (dsimp only; omega) | decide
theorem w_brokenAfter {l : Launch} {G : AG} {M : AM} {x D : Nat} {τ : TS} {v u0 : Int32} (hfl : l.stackTraces = false) (hs : isRS G M x D τ) : Ch l G yL_tells cL_tells 5 (some .int) [(0, 184, 185, 30)] { rL_tells with cells := 1, slots := 6 } M [.ref x, .int (nI 11), .int v, .int u0] (wP G M x D (eX x) (spBrAfter τ v)) := by
  refine Ch.of (by decide) [some (.ref x), some (.int (nI 11)), some (.int v), some (.int u0), none] rfl (Nat.le_of_ble_eq_true rfl) ?_
  intro Z hZ hN htab
  obtain ⟨rfl, hn, rfl, hR, X, hr, hnm⟩ := hZ
  refine aw_iload1 X dL_tells_0 ?_
  refine aw_ifne X dL_tells_1 (tgt := 12) (by decide) (fun _ => ?_) (fun c9 => by first | exact absurd ((by decide : ¬ nI 11 = 0)) c9 | exact absurd c9 ((by decide : ¬ nI 11 = 0)))
  refine aw_iload1 X dL_tells_12 ?_
  refine aw_iconst X dL_tells_13 (v := nI 1) (by decide) ?_
  refine aw_icmpne X dL_tells_14 (tgt := 26) (by decide) (fun _ => ?_) (fun c9 => by first | exact absurd ((by decide : ¬ nI 11 = nI 1)) c9 | exact absurd c9 ((by decide : ¬ nI 11 = nI 1)))
  refine aw_iload1 X dL_tells_26 ?_
  refine aw_iconst X dL_tells_27 (v := nI 2) (by decide) ?_
  refine aw_icmpne X dL_tells_28 (tgt := 39) (by decide) (fun _ => ?_) (fun c9 => by first | exact absurd ((by decide : ¬ nI 11 = nI 2)) c9 | exact absurd c9 ((by decide : ¬ nI 11 = nI 2)))
  refine aw_iload1 X dL_tells_39 ?_
  refine aw_iconst X dL_tells_40 (v := nI 3) (by decide) ?_
  refine aw_icmpne X dL_tells_41 (tgt := 53) (by decide) (fun _ => ?_) (fun c9 => by first | exact absurd ((by decide : ¬ nI 11 = nI 3)) c9 | exact absurd c9 ((by decide : ¬ nI 11 = nI 3)))
  refine aw_iload1 X dL_tells_53 ?_
  refine aw_iconst X dL_tells_54 (v := nI 4) (by decide) ?_
  refine aw_icmpne X dL_tells_55 (tgt := 66) (by decide) (fun _ => ?_) (fun c9 => by first | exact absurd ((by decide : ¬ nI 11 = nI 4)) c9 | exact absurd c9 ((by decide : ¬ nI 11 = nI 4)))
  refine aw_iload1 X dL_tells_66 ?_
  refine aw_iconst X dL_tells_67 (v := nI 5) (by decide) ?_
  refine aw_icmpne X dL_tells_68 (tgt := 80) (by decide) (fun _ => ?_) (fun c9 => by first | exact absurd ((by decide : ¬ nI 11 = nI 5)) c9 | exact absurd c9 ((by decide : ¬ nI 11 = nI 5)))
  refine aw_iload1 X dL_tells_80 ?_
  refine aw_bipush X dL_tells_81 (v := nI 6) (by decide) ?_
  refine aw_icmpne X dL_tells_83 (tgt := 95) (by decide) (fun _ => ?_) (fun c9 => by first | exact absurd ((by decide : ¬ nI 11 = nI 6)) c9 | exact absurd c9 ((by decide : ¬ nI 11 = nI 6)))
  refine aw_iload1 X dL_tells_95 ?_
  refine aw_bipush X dL_tells_96 (v := nI 7) (by decide) ?_
  refine aw_icmpne X dL_tells_98 (tgt := 109) (by decide) (fun _ => ?_) (fun c9 => by first | exact absurd ((by decide : ¬ nI 11 = nI 7)) c9 | exact absurd c9 ((by decide : ¬ nI 11 = nI 7)))
  refine aw_iload1 X dL_tells_109 ?_
  refine aw_bipush X dL_tells_110 (v := nI 8) (by decide) ?_
  refine aw_icmpne X dL_tells_112 (tgt := 123) (by decide) (fun _ => ?_) (fun c9 => by first | exact absurd ((by decide : ¬ nI 11 = nI 8)) c9 | exact absurd c9 ((by decide : ¬ nI 11 = nI 8)))
  refine aw_iload1 X dL_tells_123 ?_
  refine aw_bipush X dL_tells_124 (v := nI 9) (by decide) ?_
  refine aw_icmpne X dL_tells_126 (tgt := 137) (by decide) (fun _ => ?_) (fun c9 => by first | exact absurd ((by decide : ¬ nI 11 = nI 9)) c9 | exact absurd c9 ((by decide : ¬ nI 11 = nI 9)))
  refine aw_iload1 X dL_tells_137 ?_
  refine aw_bipush X dL_tells_138 (v := nI 10) (by decide) ?_
  refine aw_icmpne X dL_tells_140 (tgt := 151) (by decide) (fun _ => ?_) (fun c9 => by first | exact absurd ((by decide : ¬ nI 11 = nI 10)) c9 | exact absurd c9 ((by decide : ¬ nI 11 = nI 10)))
  refine aw_iload1 X dL_tells_151 ?_
  refine aw_bipush X dL_tells_152 (v := nI 11) (by decide) ?_
  refine aw_icmpne X dL_tells_154 (tgt := 165) (by decide) (fun c9 => by first | exact absurd ((rfl : nI 11 = nI 11)) c9 | exact absurd c9 ((rfl : nI 11 = nI 11))) (fun _ => ?_)
  refine aw_aload0 X dL_tells_157 ?_
  refine aw_iload2 X dL_tells_158 ?_
  refine aw_callVX X (st := []) (c_X8_brokenAfterN hfl hs) kL_74 (ci := 9) rfl (hs.2.2.1) dL_tells_159 rfl rfl (by first | decide | exact Nat.le_of_ble_eq_true rfl) (by rw [hR]; exact ⟨by first | decide | exact Nat.le_of_ble_eq_true rfl | (dsimp only; omega), by first | decide | exact Nat.le_of_ble_eq_true rfl | (dsimp only; omega)⟩) (by rw [hR]; exact ⟨by first | decide | exact Nat.le_of_ble_eq_true rfl | (dsimp only; omega), by first | decide | exact Nat.le_of_ble_eq_true rfl | (dsimp only; omega)⟩) (fun v M1 hv => ?_) (fun E M1 h1 => ?_)
  · obtain ⟨e0, rfl, hs1, hk1⟩ := hv
    refine aw_goto X dL_tells_162 (tgt := 184) (by decide) ?_
    refine aw_ireturn X (ty := .int) hr (by first | rfl | decide | assumption) dL_tells_184 (⟨by rw [wr_0 e0], hs1, hk1⟩)
  · obtain ⟨hpos, hE, hs1, hk1⟩ := h1
    have hle : (spBrAfter τ v).1 ≤ 1 := le_spBrAfter
    have ej : (spBrAfter τ v).1 = 1 := by omega
    have hE2 : E = exI := hE.trans (congrArg ecI ej)
    subst hE2
    refine ax_catch X [] ⟨0, 184, 185, 30⟩ [] (by rw [htab]; rfl) (fun z hz => nomatch hz) (by decide) (by decide) cnL_30 ct_I (fun q => ?_)
    refine aw_astore4 X dL_tells_185 (by rw [hn]; decide) rfl ?_
    refine aw_bipush X dL_tells_187 (v := -101) (by decide) ?_
    refine aw_ireturn X (ty := .int) hr (by first | rfl | decide | assumption) dL_tells_189 (⟨by rw [wr_1 ej], hs1, hk1⟩)
theorem le_spReason {τ : TS} {v : Int32} : (spReason τ v).1 ≤ 1 := by
  unfold spReason
  repeat' split
  all_goals first | (dsimp only; omega) | decide
theorem w_reason {l : Launch} {G : AG} {M : AM} {x D : Nat} {τ : TS} {v u0 : Int32} (hfl : l.stackTraces = false) (hs : isRS G M x D τ) : Ch l G yL_tells cL_tells 5 (some .int) [(0, 184, 185, 30)] { rL_tells with cells := 1, slots := 6 } M [.ref x, .int (nI 12), .int v, .int u0] (wP G M x D (eX x) (spReason τ v)) := by
  refine Ch.of (by decide) [some (.ref x), some (.int (nI 12)), some (.int v), some (.int u0), none] rfl (Nat.le_of_ble_eq_true rfl) ?_
  intro Z hZ hN htab
  obtain ⟨rfl, hn, rfl, hR, X, hr, hnm⟩ := hZ
  refine aw_iload1 X dL_tells_0 ?_
  refine aw_ifne X dL_tells_1 (tgt := 12) (by decide) (fun _ => ?_) (fun c9 => by first | exact absurd ((by decide : ¬ nI 12 = 0)) c9 | exact absurd c9 ((by decide : ¬ nI 12 = 0)))
  refine aw_iload1 X dL_tells_12 ?_
  refine aw_iconst X dL_tells_13 (v := nI 1) (by decide) ?_
  refine aw_icmpne X dL_tells_14 (tgt := 26) (by decide) (fun _ => ?_) (fun c9 => by first | exact absurd ((by decide : ¬ nI 12 = nI 1)) c9 | exact absurd c9 ((by decide : ¬ nI 12 = nI 1)))
  refine aw_iload1 X dL_tells_26 ?_
  refine aw_iconst X dL_tells_27 (v := nI 2) (by decide) ?_
  refine aw_icmpne X dL_tells_28 (tgt := 39) (by decide) (fun _ => ?_) (fun c9 => by first | exact absurd ((by decide : ¬ nI 12 = nI 2)) c9 | exact absurd c9 ((by decide : ¬ nI 12 = nI 2)))
  refine aw_iload1 X dL_tells_39 ?_
  refine aw_iconst X dL_tells_40 (v := nI 3) (by decide) ?_
  refine aw_icmpne X dL_tells_41 (tgt := 53) (by decide) (fun _ => ?_) (fun c9 => by first | exact absurd ((by decide : ¬ nI 12 = nI 3)) c9 | exact absurd c9 ((by decide : ¬ nI 12 = nI 3)))
  refine aw_iload1 X dL_tells_53 ?_
  refine aw_iconst X dL_tells_54 (v := nI 4) (by decide) ?_
  refine aw_icmpne X dL_tells_55 (tgt := 66) (by decide) (fun _ => ?_) (fun c9 => by first | exact absurd ((by decide : ¬ nI 12 = nI 4)) c9 | exact absurd c9 ((by decide : ¬ nI 12 = nI 4)))
  refine aw_iload1 X dL_tells_66 ?_
  refine aw_iconst X dL_tells_67 (v := nI 5) (by decide) ?_
  refine aw_icmpne X dL_tells_68 (tgt := 80) (by decide) (fun _ => ?_) (fun c9 => by first | exact absurd ((by decide : ¬ nI 12 = nI 5)) c9 | exact absurd c9 ((by decide : ¬ nI 12 = nI 5)))
  refine aw_iload1 X dL_tells_80 ?_
  refine aw_bipush X dL_tells_81 (v := nI 6) (by decide) ?_
  refine aw_icmpne X dL_tells_83 (tgt := 95) (by decide) (fun _ => ?_) (fun c9 => by first | exact absurd ((by decide : ¬ nI 12 = nI 6)) c9 | exact absurd c9 ((by decide : ¬ nI 12 = nI 6)))
  refine aw_iload1 X dL_tells_95 ?_
  refine aw_bipush X dL_tells_96 (v := nI 7) (by decide) ?_
  refine aw_icmpne X dL_tells_98 (tgt := 109) (by decide) (fun _ => ?_) (fun c9 => by first | exact absurd ((by decide : ¬ nI 12 = nI 7)) c9 | exact absurd c9 ((by decide : ¬ nI 12 = nI 7)))
  refine aw_iload1 X dL_tells_109 ?_
  refine aw_bipush X dL_tells_110 (v := nI 8) (by decide) ?_
  refine aw_icmpne X dL_tells_112 (tgt := 123) (by decide) (fun _ => ?_) (fun c9 => by first | exact absurd ((by decide : ¬ nI 12 = nI 8)) c9 | exact absurd c9 ((by decide : ¬ nI 12 = nI 8)))
  refine aw_iload1 X dL_tells_123 ?_
  refine aw_bipush X dL_tells_124 (v := nI 9) (by decide) ?_
  refine aw_icmpne X dL_tells_126 (tgt := 137) (by decide) (fun _ => ?_) (fun c9 => by first | exact absurd ((by decide : ¬ nI 12 = nI 9)) c9 | exact absurd c9 ((by decide : ¬ nI 12 = nI 9)))
  refine aw_iload1 X dL_tells_137 ?_
  refine aw_bipush X dL_tells_138 (v := nI 10) (by decide) ?_
  refine aw_icmpne X dL_tells_140 (tgt := 151) (by decide) (fun _ => ?_) (fun c9 => by first | exact absurd ((by decide : ¬ nI 12 = nI 10)) c9 | exact absurd c9 ((by decide : ¬ nI 12 = nI 10)))
  refine aw_iload1 X dL_tells_151 ?_
  refine aw_bipush X dL_tells_152 (v := nI 11) (by decide) ?_
  refine aw_icmpne X dL_tells_154 (tgt := 165) (by decide) (fun _ => ?_) (fun c9 => by first | exact absurd ((by decide : ¬ nI 12 = nI 11)) c9 | exact absurd c9 ((by decide : ¬ nI 12 = nI 11)))
  refine aw_iload1 X dL_tells_165 ?_
  refine aw_bipush X dL_tells_166 (v := nI 12) (by decide) ?_
  refine aw_icmpne X dL_tells_168 (tgt := 179) (by decide) (fun c9 => by first | exact absurd ((rfl : nI 12 = nI 12)) c9 | exact absurd c9 ((rfl : nI 12 = nI 12))) (fun _ => ?_)
  refine aw_aload0 X dL_tells_171 ?_
  refine aw_iload2 X dL_tells_172 ?_
  refine aw_callVX X (st := []) (c_X8_reasonN hfl hs) kL_77 (ci := 9) rfl (hs.2.2.1) dL_tells_173 rfl rfl (by first | decide | exact Nat.le_of_ble_eq_true rfl) (by rw [hR]; exact ⟨by first | decide | exact Nat.le_of_ble_eq_true rfl | (dsimp only; omega), by first | decide | exact Nat.le_of_ble_eq_true rfl | (dsimp only; omega)⟩) (by rw [hR]; exact ⟨by first | decide | exact Nat.le_of_ble_eq_true rfl | (dsimp only; omega), by first | decide | exact Nat.le_of_ble_eq_true rfl | (dsimp only; omega)⟩) (fun v M1 hv => ?_) (fun E M1 h1 => ?_)
  · obtain ⟨e0, rfl, hs1, hk1⟩ := hv
    refine aw_goto X dL_tells_176 (tgt := 184) (by decide) ?_
    refine aw_ireturn X (ty := .int) hr (by first | rfl | decide | assumption) dL_tells_184 (⟨by rw [wr_0 e0], hs1, hk1⟩)
  · obtain ⟨hpos, hE, hs1, hk1⟩ := h1
    have hle : (spReason τ v).1 ≤ 1 := le_spReason
    have ej : (spReason τ v).1 = 1 := by omega
    have hE2 : E = exI := hE.trans (congrArg ecI ej)
    subst hE2
    refine ax_catch X [] ⟨0, 184, 185, 30⟩ [] (by rw [htab]; rfl) (fun z hz => nomatch hz) (by decide) (by decide) cnL_30 ct_I (fun q => ?_)
    refine aw_astore4 X dL_tells_185 (by rw [hn]; decide) rfl ?_
    refine aw_bipush X dL_tells_187 (v := -101) (by decide) ?_
    refine aw_ireturn X (ty := .int) hr (by first | rfl | decide | assumption) dL_tells_189 (⟨by rw [wr_1 ej], hs1, hk1⟩)
theorem le_spHeldBy {τ : TS} {v : Int32} : (spHeldBy τ v).1 ≤ 1 := by
  unfold spHeldBy
  repeat' split
  all_goals first | (dsimp only; omega) | decide
theorem w_heldBy {l : Launch} {G : AG} {M : AM} {x D : Nat} {τ : TS} {v u0 : Int32} (hfl : l.stackTraces = false) (hs : isRS G M x D τ) : Ch l G yL_tells cL_tells 5 (some .int) [(0, 184, 185, 30)] { rL_tells with cells := 1, slots := 6 } M [.ref x, .int (nI 13), .int v, .int u0] (wP G M x D (eD x D) (spHeldBy τ v)) := by
  refine Ch.of (by decide) [some (.ref x), some (.int (nI 13)), some (.int v), some (.int u0), none] rfl (Nat.le_of_ble_eq_true rfl) ?_
  intro Z hZ hN htab
  obtain ⟨rfl, hn, rfl, hR, X, hr, hnm⟩ := hZ
  refine aw_iload1 X dL_tells_0 ?_
  refine aw_ifne X dL_tells_1 (tgt := 12) (by decide) (fun _ => ?_) (fun c9 => by first | exact absurd ((by decide : ¬ nI 13 = 0)) c9 | exact absurd c9 ((by decide : ¬ nI 13 = 0)))
  refine aw_iload1 X dL_tells_12 ?_
  refine aw_iconst X dL_tells_13 (v := nI 1) (by decide) ?_
  refine aw_icmpne X dL_tells_14 (tgt := 26) (by decide) (fun _ => ?_) (fun c9 => by first | exact absurd ((by decide : ¬ nI 13 = nI 1)) c9 | exact absurd c9 ((by decide : ¬ nI 13 = nI 1)))
  refine aw_iload1 X dL_tells_26 ?_
  refine aw_iconst X dL_tells_27 (v := nI 2) (by decide) ?_
  refine aw_icmpne X dL_tells_28 (tgt := 39) (by decide) (fun _ => ?_) (fun c9 => by first | exact absurd ((by decide : ¬ nI 13 = nI 2)) c9 | exact absurd c9 ((by decide : ¬ nI 13 = nI 2)))
  refine aw_iload1 X dL_tells_39 ?_
  refine aw_iconst X dL_tells_40 (v := nI 3) (by decide) ?_
  refine aw_icmpne X dL_tells_41 (tgt := 53) (by decide) (fun _ => ?_) (fun c9 => by first | exact absurd ((by decide : ¬ nI 13 = nI 3)) c9 | exact absurd c9 ((by decide : ¬ nI 13 = nI 3)))
  refine aw_iload1 X dL_tells_53 ?_
  refine aw_iconst X dL_tells_54 (v := nI 4) (by decide) ?_
  refine aw_icmpne X dL_tells_55 (tgt := 66) (by decide) (fun _ => ?_) (fun c9 => by first | exact absurd ((by decide : ¬ nI 13 = nI 4)) c9 | exact absurd c9 ((by decide : ¬ nI 13 = nI 4)))
  refine aw_iload1 X dL_tells_66 ?_
  refine aw_iconst X dL_tells_67 (v := nI 5) (by decide) ?_
  refine aw_icmpne X dL_tells_68 (tgt := 80) (by decide) (fun _ => ?_) (fun c9 => by first | exact absurd ((by decide : ¬ nI 13 = nI 5)) c9 | exact absurd c9 ((by decide : ¬ nI 13 = nI 5)))
  refine aw_iload1 X dL_tells_80 ?_
  refine aw_bipush X dL_tells_81 (v := nI 6) (by decide) ?_
  refine aw_icmpne X dL_tells_83 (tgt := 95) (by decide) (fun _ => ?_) (fun c9 => by first | exact absurd ((by decide : ¬ nI 13 = nI 6)) c9 | exact absurd c9 ((by decide : ¬ nI 13 = nI 6)))
  refine aw_iload1 X dL_tells_95 ?_
  refine aw_bipush X dL_tells_96 (v := nI 7) (by decide) ?_
  refine aw_icmpne X dL_tells_98 (tgt := 109) (by decide) (fun _ => ?_) (fun c9 => by first | exact absurd ((by decide : ¬ nI 13 = nI 7)) c9 | exact absurd c9 ((by decide : ¬ nI 13 = nI 7)))
  refine aw_iload1 X dL_tells_109 ?_
  refine aw_bipush X dL_tells_110 (v := nI 8) (by decide) ?_
  refine aw_icmpne X dL_tells_112 (tgt := 123) (by decide) (fun _ => ?_) (fun c9 => by first | exact absurd ((by decide : ¬ nI 13 = nI 8)) c9 | exact absurd c9 ((by decide : ¬ nI 13 = nI 8)))
  refine aw_iload1 X dL_tells_123 ?_
  refine aw_bipush X dL_tells_124 (v := nI 9) (by decide) ?_
  refine aw_icmpne X dL_tells_126 (tgt := 137) (by decide) (fun _ => ?_) (fun c9 => by first | exact absurd ((by decide : ¬ nI 13 = nI 9)) c9 | exact absurd c9 ((by decide : ¬ nI 13 = nI 9)))
  refine aw_iload1 X dL_tells_137 ?_
  refine aw_bipush X dL_tells_138 (v := nI 10) (by decide) ?_
  refine aw_icmpne X dL_tells_140 (tgt := 151) (by decide) (fun _ => ?_) (fun c9 => by first | exact absurd ((by decide : ¬ nI 13 = nI 10)) c9 | exact absurd c9 ((by decide : ¬ nI 13 = nI 10)))
  refine aw_iload1 X dL_tells_151 ?_
  refine aw_bipush X dL_tells_152 (v := nI 11) (by decide) ?_
  refine aw_icmpne X dL_tells_154 (tgt := 165) (by decide) (fun _ => ?_) (fun c9 => by first | exact absurd ((by decide : ¬ nI 13 = nI 11)) c9 | exact absurd c9 ((by decide : ¬ nI 13 = nI 11)))
  refine aw_iload1 X dL_tells_165 ?_
  refine aw_bipush X dL_tells_166 (v := nI 12) (by decide) ?_
  refine aw_icmpne X dL_tells_168 (tgt := 179) (by decide) (fun _ => ?_) (fun c9 => by first | exact absurd ((by decide : ¬ nI 13 = nI 12)) c9 | exact absurd c9 ((by decide : ¬ nI 13 = nI 12)))
  refine aw_aload0 X dL_tells_179 ?_
  refine aw_iload2 X dL_tells_180 ?_
  refine aw_callVX X (st := []) (c_X8_heldBy hfl hs) kL_80 (ci := 9) rfl (hs.2.2.1) dL_tells_181 rfl rfl (by first | decide | exact Nat.le_of_ble_eq_true rfl) (by rw [hR]; exact ⟨by first | decide | exact Nat.le_of_ble_eq_true rfl | (dsimp only; omega), by first | decide | exact Nat.le_of_ble_eq_true rfl | (dsimp only; omega)⟩) (by rw [hR]; exact ⟨by first | decide | exact Nat.le_of_ble_eq_true rfl | (dsimp only; omega), by first | decide | exact Nat.le_of_ble_eq_true rfl | (dsimp only; omega)⟩) (fun v M1 hv => ?_) (fun E M1 h1 => ?_)
  · obtain ⟨e0, rfl, hs1, hk1⟩ := hv
    refine aw_ireturn X (ty := .int) hr (by first | rfl | decide | assumption) dL_tells_184 (⟨by rw [wr_0 e0], hs1, hk1⟩)
  · obtain ⟨hpos, hE, hs1, hk1⟩ := h1
    have hle : (spHeldBy τ v).1 ≤ 1 := le_spHeldBy
    have ej : (spHeldBy τ v).1 = 1 := by omega
    have hE2 : E = exI := hE.trans (congrArg ecI ej)
    subst hE2
    refine ax_catch X [] ⟨0, 184, 185, 30⟩ [] (by rw [htab]; rfl) (fun z hz => nomatch hz) (by decide) (by decide) cnL_30 ct_I (fun q => ?_)
    refine aw_astore4 X dL_tells_185 (by rw [hn]; decide) rfl ?_
    refine aw_bipush X dL_tells_187 (v := -101) (by decide) ?_
    refine aw_ireturn X (ty := .int) hr (by first | rfl | decide | assumption) dL_tells_189 (⟨by rw [wr_1 ej], hs1, hk1⟩)
theorem le_spStrong {τ : TS} {g b : Int32} : (spStrong τ g b).1 ≤ 1 := by
  unfold spStrong
  repeat' split
  all_goals first | (dsimp only; omega) | decide
theorem w_strong {l : Launch} {G : AG} {M : AM} {x D : Nat} {τ : TS} {g b : Int32} (hfl : l.stackTraces = false) (hs : isRS G M x D τ) : Ch l G yL_strongOf cL_strongOf 4 (some .long) [(0, 6, 7, 30)] { rL_strongOf with cells := 2, slots := 12 } M [.ref x, .int g, .int b] (wPL G M x D (eD x D) (spStrong τ g b)) := by
  refine Ch.of (by decide) [some (.ref x), some (.int g), some (.int b), none] rfl (Nat.le_of_ble_eq_true rfl) ?_
  intro Z hZ hN htab
  obtain ⟨rfl, hn, rfl, hR, X, hr, hnm⟩ := hZ
  refine aw_aload0 X dL_strongOf_0 ?_
  refine aw_iload1 X dL_strongOf_1 ?_
  refine aw_iload2 X dL_strongOf_2 ?_
  refine aw_callVX X (st := []) (c_X8_strong hfl hs) kL_83 (ci := 9) rfl (hs.2.2.1) dL_strongOf_3 rfl rfl (by first | decide | exact Nat.le_of_ble_eq_true rfl) (by rw [hR]; exact ⟨by first | decide | exact Nat.le_of_ble_eq_true rfl | (dsimp only; omega), by first | decide | exact Nat.le_of_ble_eq_true rfl | (dsimp only; omega)⟩) (by rw [hR]; exact ⟨by first | decide | exact Nat.le_of_ble_eq_true rfl | (dsimp only; omega), by first | decide | exact Nat.le_of_ble_eq_true rfl | (dsimp only; omega)⟩) (fun v M1 hv => ?_) (fun E M1 h1 => ?_)
  · obtain ⟨e0, rfl, hs1, hk1⟩ := hv
    refine aw_lreturn X hr dL_strongOf_6 (⟨by rw [wrL_0 e0], hs1, hk1⟩)
  · obtain ⟨hpos, hE, hs1, hk1⟩ := h1
    have hle : (spStrong τ g b).1 ≤ 1 := le_spStrong
    have ej : (spStrong τ g b).1 = 1 := by omega
    have hE2 : E = exI := hE.trans (congrArg ecI ej)
    subst hE2
    refine ax_catch X [] ⟨0, 6, 7, 30⟩ [] (by rw [htab]; rfl) (fun z hz => nomatch hz) (by decide) (by decide) cnL_30 ct_I (fun q => ?_)
    refine aw_astore3 X dL_strongOf_7 (by rw [hn]; decide) rfl ?_
    refine aw_ldc2 X kcL_87 dL_strongOf_8 ?_
    refine aw_lreturn X hr dL_strongOf_11 (⟨by rw [wrL_1 ej], hs1, hk1⟩)
theorem le_spIsCopy {τ : TS} {g b : Int32} : (spIsCopy τ g b).1 ≤ 1 := by
  unfold spIsCopy
  repeat' split
  all_goals first | (dsimp only; omega) | decide
theorem w_isCopy {l : Launch} {G : AG} {M : AM} {x D : Nat} {τ : TS} {g b : Int32} (hfl : l.stackTraces = false) (hs : isRS G M x D τ) : Ch l G yL_copies cL_copies 4 (some .int) [(0, 14, 15, 30)] { rL_copies with cells := 2, slots := 12 } M [.ref x, .int g, .int b] (wP G M x D (eD x D) (spIsCopy τ g b)) := by
  refine Ch.of (by decide) [some (.ref x), some (.int g), some (.int b), none] rfl (Nat.le_of_ble_eq_true rfl) ?_
  intro Z hZ hN htab
  obtain ⟨rfl, hn, rfl, hR, X, hr, hnm⟩ := hZ
  refine aw_aload0 X dL_copies_0 ?_
  refine aw_iload1 X dL_copies_1 ?_
  refine aw_iload2 X dL_copies_2 ?_
  refine aw_callVX X (st := []) (c_X8_isCopy hfl hs) kL_89 (ci := 9) rfl (hs.2.2.1) dL_copies_3 rfl rfl (by first | decide | exact Nat.le_of_ble_eq_true rfl) (by rw [hR]; exact ⟨by first | decide | exact Nat.le_of_ble_eq_true rfl | (dsimp only; omega), by first | decide | exact Nat.le_of_ble_eq_true rfl | (dsimp only; omega)⟩) (by rw [hR]; exact ⟨by first | decide | exact Nat.le_of_ble_eq_true rfl | (dsimp only; omega), by first | decide | exact Nat.le_of_ble_eq_true rfl | (dsimp only; omega)⟩) (fun v M1 hv => ?_) (fun E M1 h1 => ?_)
  · obtain ⟨e0, rfl, hs1, hk1⟩ := hv
    have hb : (spIsCopy τ g b).2.1 = nI 0 ∨ (spIsCopy τ g b).2.1 = nI 1 := by
      unfold spIsCopy
      split
      · unfold b2i
        split
        · exact Or.inr rfl
        · exact Or.inl rfl
      · exact Or.inl rfl
    refine aw_ifeq X dL_copies_6 (tgt := 13) (by decide) (fun c1 => ?_) (fun c1 => ?_)
    · refine aw_iconst X dL_copies_13 (v := nI 0) (by decide) ?_
      refine aw_ireturn X (ty := .int) hr (by first | rfl | decide | assumption) dL_copies_14 (⟨by rw [wr_0 e0]; exact congrArg (fun w => some (Value.int w)) c1.symm, hs1, hk1⟩)
    · refine aw_iconst X dL_copies_9 (v := nI 1) (by decide) ?_
      refine aw_goto X dL_copies_10 (tgt := 14) (by decide) ?_
      refine aw_ireturn X (ty := .int) hr (by first | rfl | decide | assumption) dL_copies_14 (⟨by rw [wr_0 e0]; exact congrArg (fun w => some (Value.int w)) (hb.elim (fun q => absurd q c1) (fun q => q.symm)), hs1, hk1⟩)
  · obtain ⟨hpos, hE, hs1, hk1⟩ := h1
    have hle : (spIsCopy τ g b).1 ≤ 1 := le_spIsCopy
    have ej : (spIsCopy τ g b).1 = 1 := by omega
    have hE2 : E = exI := hE.trans (congrArg ecI ej)
    subst hE2
    refine ax_catch X [] ⟨0, 14, 15, 30⟩ [] (by rw [htab]; rfl) (fun z hz => nomatch hz) (by decide) (by decide) cnL_30 ct_I (fun q => ?_)
    refine aw_astore3 X dL_copies_15 (by rw [hn]; decide) rfl ?_
    refine aw_bipush X dL_copies_16 (v := -101) (by decide) ?_
    refine aw_ireturn X (ty := .int) hr (by first | rfl | decide | assumption) dL_copies_18 (⟨by rw [wr_1 ej], hs1, hk1⟩)
theorem le_spSign {τ : TS} {g f b d : Int32} : (spSign τ g f b d).1 ≤ 2 := by
  unfold spSign
  repeat' split
  all_goals first | (dsimp only; omega) | decide
theorem w_sign {l : Launch} {G : AG} {M : AM} {x D : Nat} {τ : TS} {g f b d : Int32} (hfl : l.stackTraces = false) (hs : isRS G M x D τ) : Ch l G yL_signs cL_signs 6 (some .int) [(0, 9, 10, 30), (0, 9, 15, 32)] { rL_signs with cells := 4, slots := 24 } M [.ref x, .int g, .int f, .int b, .int d] (wP G M x D (eD x D) (spSign τ g f b d)) := by
  refine Ch.of (by decide) [some (.ref x), some (.int g), some (.int f), some (.int b), some (.int d), none] rfl (Nat.le_of_ble_eq_true rfl) ?_
  intro Z hZ hN htab
  obtain ⟨rfl, hn, rfl, hR, X, hr, hnm⟩ := hZ
  refine aw_aload0 X dL_signs_0 ?_
  refine aw_iload1 X dL_signs_1 ?_
  refine aw_iload2 X dL_signs_2 ?_
  refine aw_iload3 X dL_signs_3 ?_
  refine aw_iload4 X dL_signs_4 ?_
  refine aw_callVX X (st := []) (c_X8_sign hfl hs) kL_93 (ci := 9) rfl (hs.2.2.1) dL_signs_6 rfl rfl (by first | decide | exact Nat.le_of_ble_eq_true rfl) (by rw [hR]; exact ⟨by first | decide | exact Nat.le_of_ble_eq_true rfl | (dsimp only; omega), by first | decide | exact Nat.le_of_ble_eq_true rfl | (dsimp only; omega)⟩) (by rw [hR]; exact ⟨by first | decide | exact Nat.le_of_ble_eq_true rfl | (dsimp only; omega), by first | decide | exact Nat.le_of_ble_eq_true rfl | (dsimp only; omega)⟩) (fun v M1 hv => ?_) (fun E M1 h1 => ?_)
  · obtain ⟨e0, rfl, hs1, hk1⟩ := hv
    refine aw_ireturn X (ty := .int) hr (by first | rfl | decide | assumption) dL_signs_9 (⟨by rw [wr_0 e0], hs1, hk1⟩)
  · obtain ⟨hpos, hE, hs1, hk1⟩ := h1
    have hle : (spSign τ g f b d).1 ≤ 2 := le_spSign
    by_cases ej : (spSign τ g f b d).1 = 1
    · have hE2 : E = exI := hE.trans (congrArg ecIA ej)
      subst hE2
      refine ax_catch X [] ⟨0, 9, 10, 30⟩ [⟨0, 9, 15, 32⟩] (by rw [htab]; rfl) (fun z hz => nomatch hz) (by decide) (by decide) cnL_30 ct_I (fun q => ?_)
      refine aw_astore5 X dL_signs_10 (by rw [hn]; decide) rfl ?_
      refine aw_bipush X dL_signs_12 (v := -101) (by decide) ?_
      refine aw_ireturn X (ty := .int) hr (by first | rfl | decide | assumption) dL_signs_14 (⟨by rw [wr_1 ej], hs1, hk1⟩)
    have ej2 : (spSign τ g f b d).1 = 2 := by omega
    have hE2 : E = exA := hE.trans (congrArg ecIA ej2)
    subst hE2
    refine ax_catch X [⟨0, 9, 10, 30⟩] ⟨0, 9, 15, 32⟩ [] (by rw [htab]; rfl) (List.forall_mem_cons.mpr ⟨Or.inr ⟨by decide, exI, cnL_30, hN.1⟩, List.forall_mem_nil _⟩) (by decide) (by decide) cnL_32 ct_A (fun q => ?_)
    refine aw_astore5 X dL_signs_15 (by rw [hn]; decide) rfl ?_
    refine aw_bipush X dL_signs_17 (v := -102) (by decide) ?_
    refine aw_ireturn X (ty := .int) hr (by first | rfl | decide | assumption) dL_signs_19 (⟨by rw [wr_2 ej2], hs1, hk1⟩)
theorem le_spCompare {τ : TS} {d g f : Int32} : (spCompare τ d g f).1 ≤ 2 := by
  unfold spCompare
  repeat' split
  all_goals first | (dsimp only; omega) | decide
theorem w_compare {l : Launch} {G : AG} {M : AM} {x D : Nat} {τ : TS} {d g f : Int32} (hfl : l.stackTraces = false) (hs : isRS G M x D τ) : Ch l G yL_works cL_works 6 (some .int) [(0, 63, 64, 30), (0, 63, 69, 34)] { rL_works with cells := 4, slots := 24 } M [.ref x, .int (nI 0), .int d, .int g, .int f] (wP G M x D (eD x D) (spCompare τ d g f)) := by
  refine Ch.of (by decide) [some (.ref x), some (.int (nI 0)), some (.int d), some (.int g), some (.int f), none] rfl (Nat.le_of_ble_eq_true rfl) ?_
  intro Z hZ hN htab
  obtain ⟨rfl, hn, rfl, hR, X, hr, hnm⟩ := hZ
  refine aw_iload1 X dL_works_0 ?_
  refine aw_ifne X dL_works_1 (tgt := 15) (by decide) (fun c9 => by first | exact absurd ((rfl : nI 0 = 0)) c9 | exact absurd c9 ((rfl : nI 0 = 0))) (fun _ => ?_)
  refine aw_aload0 X dL_works_4 ?_
  refine aw_iload2 X dL_works_5 ?_
  refine aw_iload3 X dL_works_6 ?_
  refine aw_iload4 X dL_works_7 ?_
  refine aw_callVX X (st := []) (c_X8_compare hfl hs) kL_96 (ci := 9) rfl (hs.2.2.1) dL_works_9 rfl rfl (by first | decide | exact Nat.le_of_ble_eq_true rfl) (by rw [hR]; exact ⟨by first | decide | exact Nat.le_of_ble_eq_true rfl | (dsimp only; omega), by first | decide | exact Nat.le_of_ble_eq_true rfl | (dsimp only; omega)⟩) (by rw [hR]; exact ⟨by first | decide | exact Nat.le_of_ble_eq_true rfl | (dsimp only; omega), by first | decide | exact Nat.le_of_ble_eq_true rfl | (dsimp only; omega)⟩) (fun v M1 hv => ?_) (fun E M1 h1 => ?_)
  · obtain ⟨e0, rfl, hs1, hk1⟩ := hv
    refine aw_goto X dL_works_12 (tgt := 63) (by decide) ?_
    refine aw_ireturn X (ty := .int) hr (by first | rfl | decide | assumption) dL_works_63 (⟨by rw [wr_0 e0], hs1, hk1⟩)
  · obtain ⟨hpos, hE, hs1, hk1⟩ := h1
    have hle : (spCompare τ d g f).1 ≤ 2 := le_spCompare
    by_cases ej : (spCompare τ d g f).1 = 1
    · have hE2 : E = exI := hE.trans (congrArg ecIS ej)
      subst hE2
      refine ax_catch X [] ⟨0, 63, 64, 30⟩ [⟨0, 63, 69, 34⟩] (by rw [htab]; rfl) (fun z hz => nomatch hz) (by decide) (by decide) cnL_30 ct_I (fun q => ?_)
      refine aw_astore5 X dL_works_64 (by rw [hn]; decide) rfl ?_
      refine aw_bipush X dL_works_66 (v := -101) (by decide) ?_
      refine aw_ireturn X (ty := .int) hr (by first | rfl | decide | assumption) dL_works_68 (⟨by rw [wr_1 ej], hs1, hk1⟩)
    have ej2 : (spCompare τ d g f).1 = 2 := by omega
    have hE2 : E = exS := hE.trans (congrArg ecIS ej2)
    subst hE2
    refine ax_catch X [⟨0, 63, 64, 30⟩] ⟨0, 63, 69, 34⟩ [] (by rw [htab]; rfl) (List.forall_mem_cons.mpr ⟨Or.inr ⟨by decide, exI, cnL_30, hN.2.1⟩, List.forall_mem_nil _⟩) (by decide) (by decide) cnL_34 ct_S (fun q => ?_)
    refine aw_astore5 X dL_works_69 (by rw [hn]; decide) rfl ?_
    refine aw_bipush X dL_works_71 (v := -102) (by decide) ?_
    refine aw_ireturn X (ty := .int) hr (by first | rfl | decide | assumption) dL_works_73 (⟨by rw [wr_2 ej2], hs1, hk1⟩)
theorem le_spApply {τ : TS} {d g f : Int32} : (spApply τ d g f).1 ≤ 2 := by
  unfold spApply
  repeat' split
  all_goals first | (dsimp only; omega) | decide
theorem w_apply {l : Launch} {G : AG} {M : AM} {x D : Nat} {τ : TS} {d g f : Int32} (hfl : l.stackTraces = false) (hs : isRS G M x D τ) : Ch l G yL_works cL_works 6 (some .int) [(0, 63, 64, 30), (0, 63, 69, 34)] { rL_works with cells := 4, slots := 24 } M [.ref x, .int (nI 1), .int d, .int g, .int f] (wP G M x D (eD x D) (spApply τ d g f)) := by
  refine Ch.of (by decide) [some (.ref x), some (.int (nI 1)), some (.int d), some (.int g), some (.int f), none] rfl (Nat.le_of_ble_eq_true rfl) ?_
  intro Z hZ hN htab
  obtain ⟨rfl, hn, rfl, hR, X, hr, hnm⟩ := hZ
  refine aw_iload1 X dL_works_0 ?_
  refine aw_ifne X dL_works_1 (tgt := 15) (by decide) (fun _ => ?_) (fun c9 => by first | exact absurd ((by decide : ¬ nI 1 = 0)) c9 | exact absurd c9 ((by decide : ¬ nI 1 = 0)))
  refine aw_iload1 X dL_works_15 ?_
  refine aw_iconst X dL_works_16 (v := nI 1) (by decide) ?_
  refine aw_icmpne X dL_works_17 (tgt := 31) (by decide) (fun c9 => by first | exact absurd ((rfl : nI 1 = nI 1)) c9 | exact absurd c9 ((rfl : nI 1 = nI 1))) (fun _ => ?_)
  refine aw_aload0 X dL_works_20 ?_
  refine aw_iload2 X dL_works_21 ?_
  refine aw_iload3 X dL_works_22 ?_
  refine aw_iload4 X dL_works_23 ?_
  refine aw_callVX X (st := []) (c_X8_apply hfl hs) kL_99 (ci := 9) rfl (hs.2.2.1) dL_works_25 rfl rfl (by first | decide | exact Nat.le_of_ble_eq_true rfl) (by rw [hR]; exact ⟨by first | decide | exact Nat.le_of_ble_eq_true rfl | (dsimp only; omega), by first | decide | exact Nat.le_of_ble_eq_true rfl | (dsimp only; omega)⟩) (by rw [hR]; exact ⟨by first | decide | exact Nat.le_of_ble_eq_true rfl | (dsimp only; omega), by first | decide | exact Nat.le_of_ble_eq_true rfl | (dsimp only; omega)⟩) (fun v M1 hv => ?_) (fun E M1 h1 => ?_)
  · obtain ⟨e0, rfl, hs1, hk1⟩ := hv
    refine aw_goto X dL_works_28 (tgt := 63) (by decide) ?_
    refine aw_ireturn X (ty := .int) hr (by first | rfl | decide | assumption) dL_works_63 (⟨by rw [wr_0 e0], hs1, hk1⟩)
  · obtain ⟨hpos, hE, hs1, hk1⟩ := h1
    have hle : (spApply τ d g f).1 ≤ 2 := le_spApply
    by_cases ej : (spApply τ d g f).1 = 1
    · have hE2 : E = exI := hE.trans (congrArg ecIS ej)
      subst hE2
      refine ax_catch X [] ⟨0, 63, 64, 30⟩ [⟨0, 63, 69, 34⟩] (by rw [htab]; rfl) (fun z hz => nomatch hz) (by decide) (by decide) cnL_30 ct_I (fun q => ?_)
      refine aw_astore5 X dL_works_64 (by rw [hn]; decide) rfl ?_
      refine aw_bipush X dL_works_66 (v := -101) (by decide) ?_
      refine aw_ireturn X (ty := .int) hr (by first | rfl | decide | assumption) dL_works_68 (⟨by rw [wr_1 ej], hs1, hk1⟩)
    have ej2 : (spApply τ d g f).1 = 2 := by omega
    have hE2 : E = exS := hE.trans (congrArg ecIS ej2)
    subst hE2
    refine ax_catch X [⟨0, 63, 64, 30⟩] ⟨0, 63, 69, 34⟩ [] (by rw [htab]; rfl) (List.forall_mem_cons.mpr ⟨Or.inr ⟨by decide, exI, cnL_30, hN.2.1⟩, List.forall_mem_nil _⟩) (by decide) (by decide) cnL_34 ct_S (fun q => ?_)
    refine aw_astore5 X dL_works_69 (by rw [hn]; decide) rfl ?_
    refine aw_bipush X dL_works_71 (v := -102) (by decide) ?_
    refine aw_ireturn X (ty := .int) hr (by first | rfl | decide | assumption) dL_works_73 (⟨by rw [wr_2 ej2], hs1, hk1⟩)
theorem le_spKeep {τ : TS} {f : Int32} : (spKeep τ f).1 ≤ 2 := by
  unfold spKeep
  repeat' split
  all_goals first | (dsimp only; omega) | decide
theorem w_keep {l : Launch} {G : AG} {M : AM} {x D : Nat} {τ : TS} {f u0 u1 : Int32} (hfl : l.stackTraces = false) (hs : isRS G M x D τ) : Ch l G yL_works cL_works 6 (some .int) [(0, 63, 64, 30), (0, 63, 69, 34)] { rL_works with cells := 2, slots := 12 } M [.ref x, .int (nI 2), .int f, .int u0, .int u1] (wP G M x D (eD x D) (spKeep τ f)) := by
  refine Ch.of (by decide) [some (.ref x), some (.int (nI 2)), some (.int f), some (.int u0), some (.int u1), none] rfl (Nat.le_of_ble_eq_true rfl) ?_
  intro Z hZ hN htab
  obtain ⟨rfl, hn, rfl, hR, X, hr, hnm⟩ := hZ
  refine aw_iload1 X dL_works_0 ?_
  refine aw_ifne X dL_works_1 (tgt := 15) (by decide) (fun _ => ?_) (fun c9 => by first | exact absurd ((by decide : ¬ nI 2 = 0)) c9 | exact absurd c9 ((by decide : ¬ nI 2 = 0)))
  refine aw_iload1 X dL_works_15 ?_
  refine aw_iconst X dL_works_16 (v := nI 1) (by decide) ?_
  refine aw_icmpne X dL_works_17 (tgt := 31) (by decide) (fun _ => ?_) (fun c9 => by first | exact absurd ((by decide : ¬ nI 2 = nI 1)) c9 | exact absurd c9 ((by decide : ¬ nI 2 = nI 1)))
  refine aw_iload1 X dL_works_31 ?_
  refine aw_iconst X dL_works_32 (v := nI 2) (by decide) ?_
  refine aw_icmpne X dL_works_33 (tgt := 44) (by decide) (fun c9 => by first | exact absurd ((rfl : nI 2 = nI 2)) c9 | exact absurd c9 ((rfl : nI 2 = nI 2))) (fun _ => ?_)
  refine aw_aload0 X dL_works_36 ?_
  refine aw_iload2 X dL_works_37 ?_
  refine aw_callVX X (st := []) (c_X8_keep hfl hs) kL_102 (ci := 9) rfl (hs.2.2.1) dL_works_38 rfl rfl (by first | decide | exact Nat.le_of_ble_eq_true rfl) (by rw [hR]; exact ⟨by first | decide | exact Nat.le_of_ble_eq_true rfl | (dsimp only; omega), by first | decide | exact Nat.le_of_ble_eq_true rfl | (dsimp only; omega)⟩) (by rw [hR]; exact ⟨by first | decide | exact Nat.le_of_ble_eq_true rfl | (dsimp only; omega), by first | decide | exact Nat.le_of_ble_eq_true rfl | (dsimp only; omega)⟩) (fun v M1 hv => ?_) (fun E M1 h1 => ?_)
  · obtain ⟨e0, rfl, hs1, hk1⟩ := hv
    refine aw_goto X dL_works_41 (tgt := 63) (by decide) ?_
    refine aw_ireturn X (ty := .int) hr (by first | rfl | decide | assumption) dL_works_63 (⟨by rw [wr_0 e0], hs1, hk1⟩)
  · obtain ⟨hpos, hE, hs1, hk1⟩ := h1
    have hle : (spKeep τ f).1 ≤ 2 := le_spKeep
    by_cases ej : (spKeep τ f).1 = 1
    · have hE2 : E = exI := hE.trans (congrArg ecIS ej)
      subst hE2
      refine ax_catch X [] ⟨0, 63, 64, 30⟩ [⟨0, 63, 69, 34⟩] (by rw [htab]; rfl) (fun z hz => nomatch hz) (by decide) (by decide) cnL_30 ct_I (fun q => ?_)
      refine aw_astore5 X dL_works_64 (by rw [hn]; decide) rfl ?_
      refine aw_bipush X dL_works_66 (v := -101) (by decide) ?_
      refine aw_ireturn X (ty := .int) hr (by first | rfl | decide | assumption) dL_works_68 (⟨by rw [wr_1 ej], hs1, hk1⟩)
    have ej2 : (spKeep τ f).1 = 2 := by omega
    have hE2 : E = exS := hE.trans (congrArg ecIS ej2)
    subst hE2
    refine ax_catch X [⟨0, 63, 64, 30⟩] ⟨0, 63, 69, 34⟩ [] (by rw [htab]; rfl) (List.forall_mem_cons.mpr ⟨Or.inr ⟨by decide, exI, cnL_30, hN.2.1⟩, List.forall_mem_nil _⟩) (by decide) (by decide) cnL_34 ct_S (fun q => ?_)
    refine aw_astore5 X dL_works_69 (by rw [hn]; decide) rfl ?_
    refine aw_bipush X dL_works_71 (v := -102) (by decide) ?_
    refine aw_ireturn X (ty := .int) hr (by first | rfl | decide | assumption) dL_works_73 (⟨by rw [wr_2 ej2], hs1, hk1⟩)
theorem le_spRebuild {τ : TS} {v f : Int32} : (spRebuild τ v f).1 ≤ 2 := by
  unfold spRebuild
  repeat' split
  all_goals first | (dsimp only; omega) | decide
theorem w_rebuild {l : Launch} {G : AG} {M : AM} {x D : Nat} {τ : TS} {v f u0 : Int32} (hfl : l.stackTraces = false) (hs : isRS G M x D τ) : Ch l G yL_works cL_works 6 (some .int) [(0, 63, 64, 30), (0, 63, 69, 34)] { rL_works with cells := 3, slots := 18 } M [.ref x, .int (nI 3), .int v, .int f, .int u0] (wP G M x D (eD x D) (spRebuild τ v f)) := by
  refine Ch.of (by decide) [some (.ref x), some (.int (nI 3)), some (.int v), some (.int f), some (.int u0), none] rfl (Nat.le_of_ble_eq_true rfl) ?_
  intro Z hZ hN htab
  obtain ⟨rfl, hn, rfl, hR, X, hr, hnm⟩ := hZ
  refine aw_iload1 X dL_works_0 ?_
  refine aw_ifne X dL_works_1 (tgt := 15) (by decide) (fun _ => ?_) (fun c9 => by first | exact absurd ((by decide : ¬ nI 3 = 0)) c9 | exact absurd c9 ((by decide : ¬ nI 3 = 0)))
  refine aw_iload1 X dL_works_15 ?_
  refine aw_iconst X dL_works_16 (v := nI 1) (by decide) ?_
  refine aw_icmpne X dL_works_17 (tgt := 31) (by decide) (fun _ => ?_) (fun c9 => by first | exact absurd ((by decide : ¬ nI 3 = nI 1)) c9 | exact absurd c9 ((by decide : ¬ nI 3 = nI 1)))
  refine aw_iload1 X dL_works_31 ?_
  refine aw_iconst X dL_works_32 (v := nI 2) (by decide) ?_
  refine aw_icmpne X dL_works_33 (tgt := 44) (by decide) (fun _ => ?_) (fun c9 => by first | exact absurd ((by decide : ¬ nI 3 = nI 2)) c9 | exact absurd c9 ((by decide : ¬ nI 3 = nI 2)))
  refine aw_iload1 X dL_works_44 ?_
  refine aw_iconst X dL_works_45 (v := nI 3) (by decide) ?_
  refine aw_icmpne X dL_works_46 (tgt := 58) (by decide) (fun c9 => by first | exact absurd ((rfl : nI 3 = nI 3)) c9 | exact absurd c9 ((rfl : nI 3 = nI 3))) (fun _ => ?_)
  refine aw_aload0 X dL_works_49 ?_
  refine aw_iload2 X dL_works_50 ?_
  refine aw_iload3 X dL_works_51 ?_
  refine aw_callVX X (st := []) (c_X8_rebuild hfl hs) kL_105 (ci := 9) rfl (hs.2.2.1) dL_works_52 rfl rfl (by first | decide | exact Nat.le_of_ble_eq_true rfl) (by rw [hR]; exact ⟨by first | decide | exact Nat.le_of_ble_eq_true rfl | (dsimp only; omega), by first | decide | exact Nat.le_of_ble_eq_true rfl | (dsimp only; omega)⟩) (by rw [hR]; exact ⟨by first | decide | exact Nat.le_of_ble_eq_true rfl | (dsimp only; omega), by first | decide | exact Nat.le_of_ble_eq_true rfl | (dsimp only; omega)⟩) (fun v M1 hv => ?_) (fun E M1 h1 => ?_)
  · obtain ⟨e0, rfl, hs1, hk1⟩ := hv
    refine aw_goto X dL_works_55 (tgt := 63) (by decide) ?_
    refine aw_ireturn X (ty := .int) hr (by first | rfl | decide | assumption) dL_works_63 (⟨by rw [wr_0 e0], hs1, hk1⟩)
  · obtain ⟨hpos, hE, hs1, hk1⟩ := h1
    have hle : (spRebuild τ v f).1 ≤ 2 := le_spRebuild
    by_cases ej : (spRebuild τ v f).1 = 1
    · have hE2 : E = exI := hE.trans (congrArg ecIS ej)
      subst hE2
      refine ax_catch X [] ⟨0, 63, 64, 30⟩ [⟨0, 63, 69, 34⟩] (by rw [htab]; rfl) (fun z hz => nomatch hz) (by decide) (by decide) cnL_30 ct_I (fun q => ?_)
      refine aw_astore5 X dL_works_64 (by rw [hn]; decide) rfl ?_
      refine aw_bipush X dL_works_66 (v := -101) (by decide) ?_
      refine aw_ireturn X (ty := .int) hr (by first | rfl | decide | assumption) dL_works_68 (⟨by rw [wr_1 ej], hs1, hk1⟩)
    have ej2 : (spRebuild τ v f).1 = 2 := by omega
    have hE2 : E = exS := hE.trans (congrArg ecIS ej2)
    subst hE2
    refine ax_catch X [⟨0, 63, 64, 30⟩] ⟨0, 63, 69, 34⟩ [] (by rw [htab]; rfl) (List.forall_mem_cons.mpr ⟨Or.inr ⟨by decide, exI, cnL_30, hN.2.1⟩, List.forall_mem_nil _⟩) (by decide) (by decide) cnL_34 ct_S (fun q => ?_)
    refine aw_astore5 X dL_works_69 (by rw [hn]; decide) rfl ?_
    refine aw_bipush X dL_works_71 (v := -102) (by decide) ?_
    refine aw_ireturn X (ty := .int) hr (by first | rfl | decide | assumption) dL_works_73 (⟨by rw [wr_2 ej2], hs1, hk1⟩)
theorem le_spStore {τ : TS} {f : Int32} : (spStore τ f).1 ≤ 2 := by
  unfold spStore
  repeat' split
  all_goals first | (dsimp only; omega) | decide
theorem w_store {l : Launch} {G : AG} {M : AM} {x D : Nat} {τ : TS} {f u0 u1 : Int32} (hfl : l.stackTraces = false) (hs : isRS G M x D τ) (hD : ∃ y, M.1 (D - 1) = some y) : Ch l G yL_works cL_works 6 (some .int) [(0, 63, 64, 30), (0, 63, 69, 34)] { rL_works with cells := 482, slots := 9712 } M [.ref x, .int (nI 4), .int f, .int u0, .int u1] (wP G M x D (eD x D) (spStore τ f)) := by
  refine Ch.of (by decide) [some (.ref x), some (.int (nI 4)), some (.int f), some (.int u0), some (.int u1), none] rfl (Nat.le_of_ble_eq_true rfl) ?_
  intro Z hZ hN htab
  obtain ⟨rfl, hn, rfl, hR, X, hr, hnm⟩ := hZ
  refine aw_iload1 X dL_works_0 ?_
  refine aw_ifne X dL_works_1 (tgt := 15) (by decide) (fun _ => ?_) (fun c9 => by first | exact absurd ((by decide : ¬ nI 4 = 0)) c9 | exact absurd c9 ((by decide : ¬ nI 4 = 0)))
  refine aw_iload1 X dL_works_15 ?_
  refine aw_iconst X dL_works_16 (v := nI 1) (by decide) ?_
  refine aw_icmpne X dL_works_17 (tgt := 31) (by decide) (fun _ => ?_) (fun c9 => by first | exact absurd ((by decide : ¬ nI 4 = nI 1)) c9 | exact absurd c9 ((by decide : ¬ nI 4 = nI 1)))
  refine aw_iload1 X dL_works_31 ?_
  refine aw_iconst X dL_works_32 (v := nI 2) (by decide) ?_
  refine aw_icmpne X dL_works_33 (tgt := 44) (by decide) (fun _ => ?_) (fun c9 => by first | exact absurd ((by decide : ¬ nI 4 = nI 2)) c9 | exact absurd c9 ((by decide : ¬ nI 4 = nI 2)))
  refine aw_iload1 X dL_works_44 ?_
  refine aw_iconst X dL_works_45 (v := nI 3) (by decide) ?_
  refine aw_icmpne X dL_works_46 (tgt := 58) (by decide) (fun _ => ?_) (fun c9 => by first | exact absurd ((by decide : ¬ nI 4 = nI 3)) c9 | exact absurd c9 ((by decide : ¬ nI 4 = nI 3)))
  refine aw_aload0 X dL_works_58 ?_
  refine aw_iload2 X dL_works_59 ?_
  refine aw_callVX X (st := []) (c_X8_store hfl hs hD) kL_108 (ci := 9) rfl (hs.2.2.1) dL_works_60 rfl rfl (by first | decide | exact Nat.le_of_ble_eq_true rfl) (by rw [hR]; exact ⟨by first | decide | exact Nat.le_of_ble_eq_true rfl | (dsimp only; omega), by first | decide | exact Nat.le_of_ble_eq_true rfl | (dsimp only; omega)⟩) (by rw [hR]; exact ⟨by first | decide | exact Nat.le_of_ble_eq_true rfl | (dsimp only; omega), by first | decide | exact Nat.le_of_ble_eq_true rfl | (dsimp only; omega)⟩) (fun v M1 hv => ?_) (fun E M1 h1 => ?_)
  · obtain ⟨e0, rfl, hs1, hk1⟩ := hv
    refine aw_ireturn X (ty := .int) hr (by first | rfl | decide | assumption) dL_works_63 (⟨by rw [wr_0 e0], hs1, hk1⟩)
  · obtain ⟨hpos, hE, hs1, hk1⟩ := h1
    have hle : (spStore τ f).1 ≤ 2 := le_spStore
    by_cases ej : (spStore τ f).1 = 1
    · have hE2 : E = exI := hE.trans (congrArg ecIS ej)
      subst hE2
      refine ax_catch X [] ⟨0, 63, 64, 30⟩ [⟨0, 63, 69, 34⟩] (by rw [htab]; rfl) (fun z hz => nomatch hz) (by decide) (by decide) cnL_30 ct_I (fun q => ?_)
      refine aw_astore5 X dL_works_64 (by rw [hn]; decide) rfl ?_
      refine aw_bipush X dL_works_66 (v := -101) (by decide) ?_
      refine aw_ireturn X (ty := .int) hr (by first | rfl | decide | assumption) dL_works_68 (⟨by rw [wr_1 ej], hs1, hk1⟩)
    have ej2 : (spStore τ f).1 = 2 := by omega
    have hE2 : E = exS := hE.trans (congrArg ecIS ej2)
    subst hE2
    refine ax_catch X [⟨0, 63, 64, 30⟩] ⟨0, 63, 69, 34⟩ [] (by rw [htab]; rfl) (List.forall_mem_cons.mpr ⟨Or.inr ⟨by decide, exI, cnL_30, hN.2.1⟩, List.forall_mem_nil _⟩) (by decide) (by decide) cnL_34 ct_S (fun q => ?_)
    refine aw_astore5 X dL_works_69 (by rw [hn]; decide) rfl ?_
    refine aw_bipush X dL_works_71 (v := -102) (by decide) ?_
    refine aw_ireturn X (ty := .int) hr (by first | rfl | decide | assumption) dL_works_73 (⟨by rw [wr_2 ej2], hs1, hk1⟩)
theorem le_spKeepDelta {τ : TS} {f v b : Int32} : (spKeepDelta τ f v b).1 ≤ 3 := by
  unfold spKeepDelta
  repeat' split
  all_goals first | (dsimp only; omega) | decide
theorem w_keepDelta {l : Launch} {G : AG} {M : AM} {x D : Nat} {τ : TS} {f v b : Int32} (hfl : l.stackTraces = false) (hs : isRS G M x D τ) : Ch l G yL_keeps cL_keeps 5 (some .int) [(0, 7, 8, 30), (0, 7, 13, 32), (0, 7, 18, 34)] { rL_keeps with cells := 5, slots := 30 } M [.ref x, .int f, .int v, .int b] (wP G M x D (eD x D) (spKeepDelta τ f v b)) := by
  refine Ch.of (by decide) [some (.ref x), some (.int f), some (.int v), some (.int b), none] rfl (Nat.le_of_ble_eq_true rfl) ?_
  intro Z hZ hN htab
  obtain ⟨rfl, hn, rfl, hR, X, hr, hnm⟩ := hZ
  refine aw_aload0 X dL_keeps_0 ?_
  refine aw_iload1 X dL_keeps_1 ?_
  refine aw_iload2 X dL_keeps_2 ?_
  refine aw_iload3 X dL_keeps_3 ?_
  refine aw_callVX X (st := []) (c_X8_keepDelta hfl hs) kL_111 (ci := 9) rfl (hs.2.2.1) dL_keeps_4 rfl rfl (by first | decide | exact Nat.le_of_ble_eq_true rfl) (by rw [hR]; exact ⟨by first | decide | exact Nat.le_of_ble_eq_true rfl | (dsimp only; omega), by first | decide | exact Nat.le_of_ble_eq_true rfl | (dsimp only; omega)⟩) (by rw [hR]; exact ⟨by first | decide | exact Nat.le_of_ble_eq_true rfl | (dsimp only; omega), by first | decide | exact Nat.le_of_ble_eq_true rfl | (dsimp only; omega)⟩) (fun v M1 hv => ?_) (fun E M1 h1 => ?_)
  · obtain ⟨e0, rfl, hs1, hk1⟩ := hv
    refine aw_ireturn X (ty := .int) hr (by first | rfl | decide | assumption) dL_keeps_7 (⟨by rw [wr_0 e0], hs1, hk1⟩)
  · obtain ⟨hpos, hE, hs1, hk1⟩ := h1
    have hle : (spKeepDelta τ f v b).1 ≤ 3 := le_spKeepDelta
    by_cases ej : (spKeepDelta τ f v b).1 = 1
    · have hE2 : E = exI := hE.trans (congrArg ecIAS ej)
      subst hE2
      refine ax_catch X [] ⟨0, 7, 8, 30⟩ [⟨0, 7, 13, 32⟩, ⟨0, 7, 18, 34⟩] (by rw [htab]; rfl) (fun z hz => nomatch hz) (by decide) (by decide) cnL_30 ct_I (fun q => ?_)
      refine aw_astore4 X dL_keeps_8 (by rw [hn]; decide) rfl ?_
      refine aw_bipush X dL_keeps_10 (v := -101) (by decide) ?_
      refine aw_ireturn X (ty := .int) hr (by first | rfl | decide | assumption) dL_keeps_12 (⟨by rw [wr_1 ej], hs1, hk1⟩)
    by_cases ej : (spKeepDelta τ f v b).1 = 2
    · have hE2 : E = exA := hE.trans (congrArg ecIAS ej)
      subst hE2
      refine ax_catch X [⟨0, 7, 8, 30⟩] ⟨0, 7, 13, 32⟩ [⟨0, 7, 18, 34⟩] (by rw [htab]; rfl) (List.forall_mem_cons.mpr ⟨Or.inr ⟨by decide, exI, cnL_30, hN.1⟩, List.forall_mem_nil _⟩) (by decide) (by decide) cnL_32 ct_A (fun q => ?_)
      refine aw_astore4 X dL_keeps_13 (by rw [hn]; decide) rfl ?_
      refine aw_bipush X dL_keeps_15 (v := -102) (by decide) ?_
      refine aw_ireturn X (ty := .int) hr (by first | rfl | decide | assumption) dL_keeps_17 (⟨by rw [wr_2 ej], hs1, hk1⟩)
    have ej2 : (spKeepDelta τ f v b).1 = 3 := by omega
    have hE2 : E = exS := hE.trans (congrArg ecIAS ej2)
    subst hE2
    refine ax_catch X [⟨0, 7, 8, 30⟩, ⟨0, 7, 13, 32⟩] ⟨0, 7, 18, 34⟩ [] (by rw [htab]; rfl) (List.forall_mem_cons.mpr ⟨Or.inr ⟨by decide, exI, cnL_30, hN.2.1⟩, List.forall_mem_cons.mpr ⟨Or.inr ⟨by decide, exA, cnL_32, hN.2.2⟩, List.forall_mem_nil _⟩⟩) (by decide) (by decide) cnL_34 ct_S (fun q => ?_)
    refine aw_astore4 X dL_keeps_18 (by rw [hn]; decide) rfl ?_
    refine aw_bipush X dL_keeps_20 (v := -103) (by decide) ?_
    refine aw_ireturn X (ty := .int) hr (by first | rfl | decide | assumption) dL_keeps_22 (⟨by rw [wr_3 ej2], hs1, hk1⟩)
theorem le_spReplace {τ : TS} {v f : Int32} : (spReplace τ v f).1 ≤ 1 := by
  unfold spReplace
  repeat' split
  all_goals first | (dsimp only; omega) | decide
theorem vz_spReplace {τ : TS} {v f : Int32} : (spReplace τ v f).2.1 = nI 0 := by
  unfold spReplace
  repeat' split
  all_goals rfl
theorem w_replace {l : Launch} {G : AG} {M : AM} {x D : Nat} {τ : TS} {v f : Int32} (hfl : l.stackTraces = false) (hs : isRS G M x D τ) : Ch l G yL_replaced cL_replaced 4 (some .int) [(0, 7, 8, 30)] { rL_replaced with cells := 2, slots := 12 } M [.ref x, .int v, .int f] (wP G M x D (eD x D) (spReplace τ v f)) := by
  refine Ch.of (by decide) [some (.ref x), some (.int v), some (.int f), none] rfl (Nat.le_of_ble_eq_true rfl) ?_
  intro Z hZ hN htab
  obtain ⟨rfl, hn, rfl, hR, X, hr, hnm⟩ := hZ
  refine aw_aload0 X dL_replaced_0 ?_
  refine aw_iload1 X dL_replaced_1 ?_
  refine aw_iload2 X dL_replaced_2 ?_
  refine aw_callVX X (st := []) (c_X8_replace hfl hs) kL_114 (ci := 9) rfl (hs.2.2.1) dL_replaced_3 rfl rfl (by first | decide | exact Nat.le_of_ble_eq_true rfl) (by rw [hR]; exact ⟨by first | decide | exact Nat.le_of_ble_eq_true rfl | (dsimp only; omega), by first | decide | exact Nat.le_of_ble_eq_true rfl | (dsimp only; omega)⟩) (by rw [hR]; exact ⟨by first | decide | exact Nat.le_of_ble_eq_true rfl | (dsimp only; omega), by first | decide | exact Nat.le_of_ble_eq_true rfl | (dsimp only; omega)⟩) (fun v M1 hv => ?_) (fun E M1 h1 => ?_)
  · obtain ⟨e0, rfl, hs1, hk1⟩ := hv
    refine aw_iconst X dL_replaced_6 (v := nI 0) (by decide) ?_
    refine aw_ireturn X (ty := .int) hr (by first | rfl | decide | assumption) dL_replaced_7 (⟨by rw [wr_0 e0, vz_spReplace], hs1, hk1⟩)
  · obtain ⟨hpos, hE, hs1, hk1⟩ := h1
    have hle : (spReplace τ v f).1 ≤ 1 := le_spReplace
    have ej : (spReplace τ v f).1 = 1 := by omega
    have hE2 : E = exI := hE.trans (congrArg ecI ej)
    subst hE2
    refine ax_catch X [] ⟨0, 7, 8, 30⟩ [] (by rw [htab]; rfl) (fun z hz => nomatch hz) (by decide) (by decide) cnL_30 ct_I (fun q => ?_)
    refine aw_astore3 X dL_replaced_8 (by rw [hn]; decide) rfl ?_
    refine aw_bipush X dL_replaced_9 (v := -101) (by decide) ?_
    refine aw_ireturn X (ty := .int) hr (by first | rfl | decide | assumption) dL_replaced_11 (⟨by rw [wr_1 ej], hs1, hk1⟩)
theorem le_spCuts {τ : TS} {a b c : Int32} : (spCuts τ a b c).1 ≤ 1 := by
  unfold spCuts
  repeat' split
  all_goals first | (dsimp only; omega) | decide
theorem vz_spCuts {τ : TS} {a b c : Int32} : (spCuts τ a b c).2.1 = nI 0 := by
  unfold spCuts
  repeat' split
  all_goals rfl
theorem w_cuts {l : Launch} {G : AG} {M : AM} {x D : Nat} {τ : TS} {a b c : Int32} (hfl : l.stackTraces = false) (hs : isRS G M x D τ) : Ch l G yL_cut cL_cut 5 (some .int) [(0, 8, 9, 32)] { rL_cut with cells := 3, slots := 18 } M [.ref x, .int a, .int b, .int c] (wP G M x D (eD x D) (spCuts τ a b c)) := by
  refine Ch.of (by decide) [some (.ref x), some (.int a), some (.int b), some (.int c), none] rfl (Nat.le_of_ble_eq_true rfl) ?_
  intro Z hZ hN htab
  obtain ⟨rfl, hn, rfl, hR, X, hr, hnm⟩ := hZ
  refine aw_aload0 X dL_cut_0 ?_
  refine aw_iload1 X dL_cut_1 ?_
  refine aw_iload2 X dL_cut_2 ?_
  refine aw_iload3 X dL_cut_3 ?_
  refine aw_callVX X (st := []) (c_X8_cuts hfl hs) kL_117 (ci := 9) rfl (hs.2.2.1) dL_cut_4 rfl rfl (by first | decide | exact Nat.le_of_ble_eq_true rfl) (by rw [hR]; exact ⟨by first | decide | exact Nat.le_of_ble_eq_true rfl | (dsimp only; omega), by first | decide | exact Nat.le_of_ble_eq_true rfl | (dsimp only; omega)⟩) (by rw [hR]; exact ⟨by first | decide | exact Nat.le_of_ble_eq_true rfl | (dsimp only; omega), by first | decide | exact Nat.le_of_ble_eq_true rfl | (dsimp only; omega)⟩) (fun v M1 hv => ?_) (fun E M1 h1 => ?_)
  · obtain ⟨e0, rfl, hs1, hk1⟩ := hv
    refine aw_iconst X dL_cut_7 (v := nI 0) (by decide) ?_
    refine aw_ireturn X (ty := .int) hr (by first | rfl | decide | assumption) dL_cut_8 (⟨by rw [wr_0 e0, vz_spCuts], hs1, hk1⟩)
  · obtain ⟨hpos, hE, hs1, hk1⟩ := h1
    have hle : (spCuts τ a b c).1 ≤ 1 := le_spCuts
    have ej : (spCuts τ a b c).1 = 1 := by omega
    have hE2 : E = exA := hE.trans (congrArg (fun _ : Nat => exA) ej)
    subst hE2
    refine ax_catch X [] ⟨0, 8, 9, 32⟩ [] (by rw [htab]; rfl) (fun z hz => nomatch hz) (by decide) (by decide) cnL_32 ct_A (fun q => ?_)
    refine aw_astore4 X dL_cut_9 (by rw [hn]; decide) rfl ?_
    refine aw_bipush X dL_cut_11 (v := -101) (by decide) ?_
    refine aw_ireturn X (ty := .int) hr (by first | rfl | decide | assumption) dL_cut_13 (⟨by rw [wr_1 ej], hs1, hk1⟩)
theorem le_spRelease {τ : TS} {p : Int32} : (spRelease τ p).1 ≤ 1 := by
  unfold spRelease
  repeat' split
  all_goals first | (dsimp only; omega) | decide
theorem w_release {l : Launch} {G : AG} {M : AM} {x D : Nat} {τ : TS} {p u0 : Int32} (hfl : l.stackTraces = false) (hs : isRS G M x D τ) : Ch l G yL_papers cL_papers 5 (some .int) [(0, 59, 60, 30)] { rL_papers with cells := 2, slots := 12 } M [.ref x, .int (nI 0), .int p, .int u0] (wP G M x D (eD x D) (spRelease τ p)) := by
  refine Ch.of (by decide) [some (.ref x), some (.int (nI 0)), some (.int p), some (.int u0), none] rfl (Nat.le_of_ble_eq_true rfl) ?_
  intro Z hZ hN htab
  obtain ⟨rfl, hn, rfl, hR, X, hr, hnm⟩ := hZ
  refine aw_iload1 X dL_papers_0 ?_
  refine aw_ifne X dL_papers_1 (tgt := 12) (by decide) (fun c9 => by first | exact absurd ((rfl : nI 0 = 0)) c9 | exact absurd c9 ((rfl : nI 0 = 0))) (fun _ => ?_)
  refine aw_aload0 X dL_papers_4 ?_
  refine aw_iload2 X dL_papers_5 ?_
  refine aw_callVX X (st := []) (c_X8_release hfl hs) kL_121 (ci := 9) rfl (hs.2.2.1) dL_papers_6 rfl rfl (by first | decide | exact Nat.le_of_ble_eq_true rfl) (by rw [hR]; exact ⟨by first | decide | exact Nat.le_of_ble_eq_true rfl | (dsimp only; omega), by first | decide | exact Nat.le_of_ble_eq_true rfl | (dsimp only; omega)⟩) (by rw [hR]; exact ⟨by first | decide | exact Nat.le_of_ble_eq_true rfl | (dsimp only; omega), by first | decide | exact Nat.le_of_ble_eq_true rfl | (dsimp only; omega)⟩) (fun v M1 hv => ?_) (fun E M1 h1 => ?_)
  · obtain ⟨e0, rfl, hs1, hk1⟩ := hv
    refine aw_goto X dL_papers_9 (tgt := 59) (by decide) ?_
    refine aw_ireturn X (ty := .int) hr (by first | rfl | decide | assumption) dL_papers_59 (⟨by rw [wr_0 e0], hs1, hk1⟩)
  · obtain ⟨hpos, hE, hs1, hk1⟩ := h1
    have hle : (spRelease τ p).1 ≤ 1 := le_spRelease
    have ej : (spRelease τ p).1 = 1 := by omega
    have hE2 : E = exI := hE.trans (congrArg ecI ej)
    subst hE2
    refine ax_catch X [] ⟨0, 59, 60, 30⟩ [] (by rw [htab]; rfl) (fun z hz => nomatch hz) (by decide) (by decide) cnL_30 ct_I (fun q => ?_)
    refine aw_astore4 X dL_papers_60 (by rw [hn]; decide) rfl ?_
    refine aw_bipush X dL_papers_62 (v := -101) (by decide) ?_
    refine aw_ireturn X (ty := .int) hr (by first | rfl | decide | assumption) dL_papers_64 (⟨by rw [wr_1 ej], hs1, hk1⟩)
theorem le_spFetch {τ : TS} {p f : Int32} : (spFetch τ p f).1 ≤ 1 := by
  unfold spFetch
  repeat' split
  all_goals first | (dsimp only; omega) | decide
theorem w_fetch {l : Launch} {G : AG} {M : AM} {x D : Nat} {τ : TS} {p f : Int32} (hfl : l.stackTraces = false) (hs : isRS G M x D τ) : Ch l G yL_papers cL_papers 5 (some .int) [(0, 59, 60, 30)] { rL_papers with cells := 3, slots := 18 } M [.ref x, .int (nI 1), .int p, .int f] (wP G M x D (eD x D) (spFetch τ p f)) := by
  refine Ch.of (by decide) [some (.ref x), some (.int (nI 1)), some (.int p), some (.int f), none] rfl (Nat.le_of_ble_eq_true rfl) ?_
  intro Z hZ hN htab
  obtain ⟨rfl, hn, rfl, hR, X, hr, hnm⟩ := hZ
  refine aw_iload1 X dL_papers_0 ?_
  refine aw_ifne X dL_papers_1 (tgt := 12) (by decide) (fun _ => ?_) (fun c9 => by first | exact absurd ((by decide : ¬ nI 1 = 0)) c9 | exact absurd c9 ((by decide : ¬ nI 1 = 0)))
  refine aw_iload1 X dL_papers_12 ?_
  refine aw_iconst X dL_papers_13 (v := nI 1) (by decide) ?_
  refine aw_icmpne X dL_papers_14 (tgt := 26) (by decide) (fun c9 => by first | exact absurd ((rfl : nI 1 = nI 1)) c9 | exact absurd c9 ((rfl : nI 1 = nI 1))) (fun _ => ?_)
  refine aw_aload0 X dL_papers_17 ?_
  refine aw_iload2 X dL_papers_18 ?_
  refine aw_iload3 X dL_papers_19 ?_
  refine aw_callVX X (st := []) (c_X8_fetch hfl hs) kL_124 (ci := 9) rfl (hs.2.2.1) dL_papers_20 rfl rfl (by first | decide | exact Nat.le_of_ble_eq_true rfl) (by rw [hR]; exact ⟨by first | decide | exact Nat.le_of_ble_eq_true rfl | (dsimp only; omega), by first | decide | exact Nat.le_of_ble_eq_true rfl | (dsimp only; omega)⟩) (by rw [hR]; exact ⟨by first | decide | exact Nat.le_of_ble_eq_true rfl | (dsimp only; omega), by first | decide | exact Nat.le_of_ble_eq_true rfl | (dsimp only; omega)⟩) (fun v M1 hv => ?_) (fun E M1 h1 => ?_)
  · obtain ⟨e0, rfl, hs1, hk1⟩ := hv
    refine aw_goto X dL_papers_23 (tgt := 59) (by decide) ?_
    refine aw_ireturn X (ty := .int) hr (by first | rfl | decide | assumption) dL_papers_59 (⟨by rw [wr_0 e0], hs1, hk1⟩)
  · obtain ⟨hpos, hE, hs1, hk1⟩ := h1
    have hle : (spFetch τ p f).1 ≤ 1 := le_spFetch
    have ej : (spFetch τ p f).1 = 1 := by omega
    have hE2 : E = exI := hE.trans (congrArg ecI ej)
    subst hE2
    refine ax_catch X [] ⟨0, 59, 60, 30⟩ [] (by rw [htab]; rfl) (fun z hz => nomatch hz) (by decide) (by decide) cnL_30 ct_I (fun q => ?_)
    refine aw_astore4 X dL_papers_60 (by rw [hn]; decide) rfl ?_
    refine aw_bipush X dL_papers_62 (v := -101) (by decide) ?_
    refine aw_ireturn X (ty := .int) hr (by first | rfl | decide | assumption) dL_papers_64 (⟨by rw [wr_1 ej], hs1, hk1⟩)
theorem le_spParts {τ : TS} {p : Int32} : (spParts τ p).1 ≤ 1 := by
  unfold spParts
  repeat' split
  all_goals first | (dsimp only; omega) | decide
theorem w_parts {l : Launch} {G : AG} {M : AM} {x D : Nat} {τ : TS} {p u0 : Int32} (hfl : l.stackTraces = false) (hs : isRS G M x D τ) : Ch l G yL_papers cL_papers 5 (some .int) [(0, 59, 60, 30)] { rL_papers with cells := 2, slots := 12 } M [.ref x, .int (nI 2), .int p, .int u0] (wP G M x D (eD x D) (spParts τ p)) := by
  refine Ch.of (by decide) [some (.ref x), some (.int (nI 2)), some (.int p), some (.int u0), none] rfl (Nat.le_of_ble_eq_true rfl) ?_
  intro Z hZ hN htab
  obtain ⟨rfl, hn, rfl, hR, X, hr, hnm⟩ := hZ
  refine aw_iload1 X dL_papers_0 ?_
  refine aw_ifne X dL_papers_1 (tgt := 12) (by decide) (fun _ => ?_) (fun c9 => by first | exact absurd ((by decide : ¬ nI 2 = 0)) c9 | exact absurd c9 ((by decide : ¬ nI 2 = 0)))
  refine aw_iload1 X dL_papers_12 ?_
  refine aw_iconst X dL_papers_13 (v := nI 1) (by decide) ?_
  refine aw_icmpne X dL_papers_14 (tgt := 26) (by decide) (fun _ => ?_) (fun c9 => by first | exact absurd ((by decide : ¬ nI 2 = nI 1)) c9 | exact absurd c9 ((by decide : ¬ nI 2 = nI 1)))
  refine aw_iload1 X dL_papers_26 ?_
  refine aw_iconst X dL_papers_27 (v := nI 2) (by decide) ?_
  refine aw_icmpne X dL_papers_28 (tgt := 39) (by decide) (fun c9 => by first | exact absurd ((rfl : nI 2 = nI 2)) c9 | exact absurd c9 ((rfl : nI 2 = nI 2))) (fun _ => ?_)
  refine aw_aload0 X dL_papers_31 ?_
  refine aw_iload2 X dL_papers_32 ?_
  refine aw_callVX X (st := []) (c_X8_parts hfl hs) kL_127 (ci := 9) rfl (hs.2.2.1) dL_papers_33 rfl rfl (by first | decide | exact Nat.le_of_ble_eq_true rfl) (by rw [hR]; exact ⟨by first | decide | exact Nat.le_of_ble_eq_true rfl | (dsimp only; omega), by first | decide | exact Nat.le_of_ble_eq_true rfl | (dsimp only; omega)⟩) (by rw [hR]; exact ⟨by first | decide | exact Nat.le_of_ble_eq_true rfl | (dsimp only; omega), by first | decide | exact Nat.le_of_ble_eq_true rfl | (dsimp only; omega)⟩) (fun v M1 hv => ?_) (fun E M1 h1 => ?_)
  · obtain ⟨e0, rfl, hs1, hk1⟩ := hv
    refine aw_goto X dL_papers_36 (tgt := 59) (by decide) ?_
    refine aw_ireturn X (ty := .int) hr (by first | rfl | decide | assumption) dL_papers_59 (⟨by rw [wr_0 e0], hs1, hk1⟩)
  · obtain ⟨hpos, hE, hs1, hk1⟩ := h1
    have hle : (spParts τ p).1 ≤ 1 := le_spParts
    have ej : (spParts τ p).1 = 1 := by omega
    have hE2 : E = exI := hE.trans (congrArg ecI ej)
    subst hE2
    refine ax_catch X [] ⟨0, 59, 60, 30⟩ [] (by rw [htab]; rfl) (fun z hz => nomatch hz) (by decide) (by decide) cnL_30 ct_I (fun q => ?_)
    refine aw_astore4 X dL_papers_60 (by rw [hn]; decide) rfl ?_
    refine aw_bipush X dL_papers_62 (v := -101) (by decide) ?_
    refine aw_ireturn X (ty := .int) hr (by first | rfl | decide | assumption) dL_papers_64 (⟨by rw [wr_1 ej], hs1, hk1⟩)
theorem le_spPartLen {τ : TS} {p k : Int32} : (spPartLen τ p k).1 ≤ 1 := by
  unfold spPartLen
  repeat' split
  all_goals first | (dsimp only; omega) | decide
theorem w_partLength {l : Launch} {G : AG} {M : AM} {x D : Nat} {τ : TS} {p k : Int32} (hfl : l.stackTraces = false) (hs : isRS G M x D τ) : Ch l G yL_papers cL_papers 5 (some .int) [(0, 59, 60, 30)] { rL_papers with cells := 3, slots := 18 } M [.ref x, .int (nI 3), .int p, .int k] (wP G M x D (eD x D) (spPartLen τ p k)) := by
  refine Ch.of (by decide) [some (.ref x), some (.int (nI 3)), some (.int p), some (.int k), none] rfl (Nat.le_of_ble_eq_true rfl) ?_
  intro Z hZ hN htab
  obtain ⟨rfl, hn, rfl, hR, X, hr, hnm⟩ := hZ
  refine aw_iload1 X dL_papers_0 ?_
  refine aw_ifne X dL_papers_1 (tgt := 12) (by decide) (fun _ => ?_) (fun c9 => by first | exact absurd ((by decide : ¬ nI 3 = 0)) c9 | exact absurd c9 ((by decide : ¬ nI 3 = 0)))
  refine aw_iload1 X dL_papers_12 ?_
  refine aw_iconst X dL_papers_13 (v := nI 1) (by decide) ?_
  refine aw_icmpne X dL_papers_14 (tgt := 26) (by decide) (fun _ => ?_) (fun c9 => by first | exact absurd ((by decide : ¬ nI 3 = nI 1)) c9 | exact absurd c9 ((by decide : ¬ nI 3 = nI 1)))
  refine aw_iload1 X dL_papers_26 ?_
  refine aw_iconst X dL_papers_27 (v := nI 2) (by decide) ?_
  refine aw_icmpne X dL_papers_28 (tgt := 39) (by decide) (fun _ => ?_) (fun c9 => by first | exact absurd ((by decide : ¬ nI 3 = nI 2)) c9 | exact absurd c9 ((by decide : ¬ nI 3 = nI 2)))
  refine aw_iload1 X dL_papers_39 ?_
  refine aw_iconst X dL_papers_40 (v := nI 3) (by decide) ?_
  refine aw_icmpne X dL_papers_41 (tgt := 53) (by decide) (fun c9 => by first | exact absurd ((rfl : nI 3 = nI 3)) c9 | exact absurd c9 ((rfl : nI 3 = nI 3))) (fun _ => ?_)
  refine aw_aload0 X dL_papers_44 ?_
  refine aw_iload2 X dL_papers_45 ?_
  refine aw_iload3 X dL_papers_46 ?_
  refine aw_callVX X (st := []) (c_X8_partLength hfl hs) kL_130 (ci := 9) rfl (hs.2.2.1) dL_papers_47 rfl rfl (by first | decide | exact Nat.le_of_ble_eq_true rfl) (by rw [hR]; exact ⟨by first | decide | exact Nat.le_of_ble_eq_true rfl | (dsimp only; omega), by first | decide | exact Nat.le_of_ble_eq_true rfl | (dsimp only; omega)⟩) (by rw [hR]; exact ⟨by first | decide | exact Nat.le_of_ble_eq_true rfl | (dsimp only; omega), by first | decide | exact Nat.le_of_ble_eq_true rfl | (dsimp only; omega)⟩) (fun v M1 hv => ?_) (fun E M1 h1 => ?_)
  · obtain ⟨e0, rfl, hs1, hk1⟩ := hv
    refine aw_goto X dL_papers_50 (tgt := 59) (by decide) ?_
    refine aw_ireturn X (ty := .int) hr (by first | rfl | decide | assumption) dL_papers_59 (⟨by rw [wr_0 e0], hs1, hk1⟩)
  · obtain ⟨hpos, hE, hs1, hk1⟩ := h1
    have hle : (spPartLen τ p k).1 ≤ 1 := le_spPartLen
    have ej : (spPartLen τ p k).1 = 1 := by omega
    have hE2 : E = exI := hE.trans (congrArg ecI ej)
    subst hE2
    refine ax_catch X [] ⟨0, 59, 60, 30⟩ [] (by rw [htab]; rfl) (fun z hz => nomatch hz) (by decide) (by decide) cnL_30 ct_I (fun q => ?_)
    refine aw_astore4 X dL_papers_60 (by rw [hn]; decide) rfl ?_
    refine aw_bipush X dL_papers_62 (v := -101) (by decide) ?_
    refine aw_ireturn X (ty := .int) hr (by first | rfl | decide | assumption) dL_papers_64 (⟨by rw [wr_1 ej], hs1, hk1⟩)
theorem le_spShared {τ : TS} {p k : Int32} : (spShared τ p k).1 ≤ 1 := by
  unfold spShared
  repeat' split
  all_goals first | (dsimp only; omega) | decide
theorem w_shared {l : Launch} {G : AG} {M : AM} {x D : Nat} {τ : TS} {p k : Int32} (hfl : l.stackTraces = false) (hs : isRS G M x D τ) : Ch l G yL_papers cL_papers 5 (some .int) [(0, 59, 60, 30)] { rL_papers with cells := 3, slots := 18 } M [.ref x, .int (nI 4), .int p, .int k] (wP G M x D (eD x D) (spShared τ p k)) := by
  refine Ch.of (by decide) [some (.ref x), some (.int (nI 4)), some (.int p), some (.int k), none] rfl (Nat.le_of_ble_eq_true rfl) ?_
  intro Z hZ hN htab
  obtain ⟨rfl, hn, rfl, hR, X, hr, hnm⟩ := hZ
  refine aw_iload1 X dL_papers_0 ?_
  refine aw_ifne X dL_papers_1 (tgt := 12) (by decide) (fun _ => ?_) (fun c9 => by first | exact absurd ((by decide : ¬ nI 4 = 0)) c9 | exact absurd c9 ((by decide : ¬ nI 4 = 0)))
  refine aw_iload1 X dL_papers_12 ?_
  refine aw_iconst X dL_papers_13 (v := nI 1) (by decide) ?_
  refine aw_icmpne X dL_papers_14 (tgt := 26) (by decide) (fun _ => ?_) (fun c9 => by first | exact absurd ((by decide : ¬ nI 4 = nI 1)) c9 | exact absurd c9 ((by decide : ¬ nI 4 = nI 1)))
  refine aw_iload1 X dL_papers_26 ?_
  refine aw_iconst X dL_papers_27 (v := nI 2) (by decide) ?_
  refine aw_icmpne X dL_papers_28 (tgt := 39) (by decide) (fun _ => ?_) (fun c9 => by first | exact absurd ((by decide : ¬ nI 4 = nI 2)) c9 | exact absurd c9 ((by decide : ¬ nI 4 = nI 2)))
  refine aw_iload1 X dL_papers_39 ?_
  refine aw_iconst X dL_papers_40 (v := nI 3) (by decide) ?_
  refine aw_icmpne X dL_papers_41 (tgt := 53) (by decide) (fun _ => ?_) (fun c9 => by first | exact absurd ((by decide : ¬ nI 4 = nI 3)) c9 | exact absurd c9 ((by decide : ¬ nI 4 = nI 3)))
  refine aw_aload0 X dL_papers_53 ?_
  refine aw_iload2 X dL_papers_54 ?_
  refine aw_iload3 X dL_papers_55 ?_
  refine aw_callVX X (st := []) (c_X8_shared hfl hs) kL_133 (ci := 9) rfl (hs.2.2.1) dL_papers_56 rfl rfl (by first | decide | exact Nat.le_of_ble_eq_true rfl) (by rw [hR]; exact ⟨by first | decide | exact Nat.le_of_ble_eq_true rfl | (dsimp only; omega), by first | decide | exact Nat.le_of_ble_eq_true rfl | (dsimp only; omega)⟩) (by rw [hR]; exact ⟨by first | decide | exact Nat.le_of_ble_eq_true rfl | (dsimp only; omega), by first | decide | exact Nat.le_of_ble_eq_true rfl | (dsimp only; omega)⟩) (fun v M1 hv => ?_) (fun E M1 h1 => ?_)
  · obtain ⟨e0, rfl, hs1, hk1⟩ := hv
    refine aw_ireturn X (ty := .int) hr (by first | rfl | decide | assumption) dL_papers_59 (⟨by rw [wr_0 e0], hs1, hk1⟩)
  · obtain ⟨hpos, hE, hs1, hk1⟩ := h1
    have hle : (spShared τ p k).1 ≤ 1 := le_spShared
    have ej : (spShared τ p k).1 = 1 := by omega
    have hE2 : E = exI := hE.trans (congrArg ecI ej)
    subst hE2
    refine ax_catch X [] ⟨0, 59, 60, 30⟩ [] (by rw [htab]; rfl) (fun z hz => nomatch hz) (by decide) (by decide) cnL_30 ct_I (fun q => ?_)
    refine aw_astore4 X dL_papers_60 (by rw [hn]; decide) rfl ?_
    refine aw_bipush X dL_papers_62 (v := -101) (by decide) ?_
    refine aw_ireturn X (ty := .int) hr (by first | rfl | decide | assumption) dL_papers_64 (⟨by rw [wr_1 ej], hs1, hk1⟩)
