/-! the law's wrappers -/
theorem ct_I : Cond.castable exI exI ∈ lw_tbl := List.mem_append_right _ (List.mem_of_getElem? (i := 442) (by decide +kernel))
theorem ct_A : Cond.castable exA exA ∈ lw_tbl := List.mem_append_right _ (List.mem_of_getElem? (i := 461) (by decide +kernel))
theorem ct_S : Cond.castable exS exS ∈ lw_tbl := List.mem_append_right _ (List.mem_of_getElem? (i := 358) (by decide +kernel))
/-- which of the three exceptions is no other one -/
def ncs (U : State) : Prop := va_Nc exA exI U ∧ va_Nc exS exI U ∧ va_Nc exS exA U
theorem ncs.mv {s U : State} (h : ncs s) (hW : s.WarmedH U.vm) : ncs U := ⟨va_Nc.moved hW.alike h.1, va_Nc.moved hW.alike h.2.1, va_Nc.moved hW.alike h.2.2⟩
theorem ncs.cl {U : State} {g : JFrame} {mk : MethodId} {a : Array Value} (h : ncs U) : ncs (U.calling g mk a) := h.mv (U := U.calling g mk a) (State.WarmedH.refl U)
def wr_Pc (G : AG) (M : AM) (av : List Value) : Array Value → State → Prop := va_Pc av (fun U => (am_E G U ∧ am_H G M U.heap) ∧ ncs U)
theorem wr_Pc.blind (G : AG) (M : AM) (av : List Value) : FrameBlind (wr_Pc G M av) := fun a U g mk h => ⟨h.1, ⟨h.2.1.1.cl, h.2.1.2⟩, h.2.2.cl⟩
/-- a contract of a method with handlers, where it is told which exception is no other one -/
def Ch (l : Launch) (G : AG) (y : MethodName) (cc : ByteArray) (maxL : Nat) (ret : Option FieldType) (hh : List (Nat × Nat × Nat × Nat)) (rm : Room) (M : AM) (av : List Value) (post : Option Value → AM → Prop) : Prop :=
  Met l y [Cond.codeWith y cc maxL ret hh] rm (wr_Pc G M av) (am_Qc G post) rm.cells rm.slots (am_A G)
theorem Ch.of {l : Launch} {G : AG} {y : MethodName} {cc : ByteArray} {maxL : Nat} {ret : Option FieldType} {hh : List (Nat × Nat × Nat × Nat)} {rm : Room} {M : AM} {av : List Value} {post : Option Value → AM → Prop} (hy : plainName y.cls = true) (L : List (Option Value)) (hL : am_args av maxL = L) (hlen : (lg_sl av).length ≤ maxL)
    (body : ∀ Z : AZ, am_B Z l G y cc maxL ret rm → ncs (zs Z) → (zc Z).exceptionTable.toList = tableOf hh → AW Z (am_Q Z post (fun _ _ => False) rm.cells rm.slots) M 0 0 0 L []) : Ch l G y cc maxL ret hh rm M av post := by
  subst hL
  refine va_MetW (cc := cc) (maxL := maxL) (ret := ret) (hh := hh) hy rfl ?_
  intro p e s m args below meth c s₁ B hml hv
  have htab := vx_table (x := y) B (atoms_spec (ws := [Cond.codeWith y cc maxL ret hh]) B.pre _ List.mem_cons_self)
  obtain ⟨rfl, ⟨hE, hM⟩, hN⟩ := hv
  rw [lg_entry_eq]
  intro T hT hX
  obtain ⟨t, h1, h2⟩ := body (G, maxL, p, l, e, rm, s, m, av.toArray, below, meth, c) ⟨rfl, rfl, rfl, rfl, ⟨B.exec, B.bytes, hml, findClass_of_methodNamed B.named, B.notSynchronized, fun w hw hk => am_ok_any hk (hE.1 w hw hk), hE⟩, B.returns, (name_of_methodNamed B.named B.method).1⟩ hN htab s.heap [] _ hM va_S.rf (am_args_has hlen) T hT hX
  exact ⟨t, h1, am_noX h2⟩
theorem wr_preS {Z : AZ} {own : String} {cc : ByteArray} {M : AM} (X : am_X own cc Z) (hN : ncs (zs Z)) {av : List Value} {H : Heap} {locs : List Loc} (hH : am_H (zG Z) M H) (hS : va_S (am_A (zG Z)) (zs Z).heap H locs) : PreS (zs Z) H (wr_Pc (zG Z) M av) av :=
  ⟨wr_Pc.blind _ _ _, fun U hU hW => ⟨rfl, ⟨X.2.2.2.2.2.2.mv hW (by rw [hU]; exact hS), by rw [hU]; exact hH⟩, hN.mv hW⟩⟩
theorem aw_callSH {Z : AZ} {own : String} {cc : ByteArray} {Q : State → Prop} {M : AM} {k n pc : Nat} {L : List (Option Value)} {st st0 : List Value} {post : Option Value → AM → Prop} (X : am_X own cc Z) (hN : ncs (zs Z)) {idx nA : Nat} {As : List Value} {y : MethodName} {bytes : ByteArray} {maxL : Nat} {ret : Option FieldType} {hh : List (Nat × Nat × Nat × Nat)} {rm : Room} (hc : Ch (zl Z) (zG Z) y bytes maxL ret hh rm M As post) (hw : am_csw own idx y bytes maxL ret hh nA)
    (d : decode cc pc = .ok (.invokestatic idx, 3)) (hn : As.length = nA) (hst : st0 = As.reverse ++ st) (hW : (st.map fun v => v.category).sum ≤ 8) (hR : am_rm rm (zR Z) maxL) (hf : k + rm.cells ≤ (zR Z).cells ∧ n + rm.slots ≤ (zR Z).slots)
    (kk : ∀ (v : Option Value) (M' : AM), post v M' → AW Z Q M' (k + rm.cells) (n + rm.slots) (pc + 3) L (v.toList ++ st)) : AW Z Q M k n pc L st0 := by
  obtain ⟨⟨h1, h2, h3, h4, h5⟩, h6⟩ := hw
  refine aw_after rfl (fun H locs ls hH hS hL => vx_runSW (hh := hh) (Ts := []) ⟨X.1, X.2.1, X.2.2.1, X.2.2.2.1, fun w h => nomatch h⟩ hc ⟨⟨rfl, rfl, hR.1, hR.2, fun w hw a' U hW => ?_, List.mem_cons_self⟩, X.w h1 rfl, X.w h2 rfl, h3, fun sig hs => ?_, X.w h5 rfl, X.w h6 rfl⟩ (wr_preS X hN hH hS) rfl hn hL.1 hst (lv_room hW) d hf) kk
  · rw [List.mem_singleton.mp hw]
    exact am_ok_any (w := Cond.codeWith y bytes maxL ret hh) rfl (am_ok_mv (w := Cond.codeWith y bytes maxL ret hh) rfl hW (am_ok_any rfl (X.w h1 rfl)))
  · rw [hs] at h4
    exact (Option.some.inj h4).symm
/-- what a wrapper gives -/
def lwP {α : Type} (cv : α → Int64) (G : AG) (M : AM) (x D o : Nat) (sp : Nat × α × TS) (v : Option Value) (M' : AM) : Prop := v = some (.int (nI sp.1)) ∧ isRS G M' x D sp.2.2 ∧ KE M M' (fun q => (x ≤ q ∧ q < x + 271) ∨ D ≤ q ∨ q = o) ∧ ∃ S, M'.1 o = some (am_al G 1 S) ∧ (sp.1 = 0 → S 0 = cv sp.2.1)
def lwPv (G : AG) (M : AM) (x D : Nat) (sp : OUT) (v : Option Value) (M' : AM) : Prop := v = some (.int (nI sp.1)) ∧ isRS G M' x D sp.2.2 ∧ KE M M' (fun q => (x ≤ q ∧ q < x + 271) ∨ D ≤ q)
theorem lwP.ok {α : Type} {cv : α → Int64} {G : AG} {M M1 : AM} {x D o : Nat} {sp : Nat × α × TS} {S : Nat → Int64} {w : Int64} (e : sp.1 = 0) (h : isRS G M1 x D sp.2.2) (hk : KE M M1 (fun q => (x ≤ q ∧ q < x + 271) ∨ D ≤ q)) (ho : x + 271 ≤ o ∧ o < D) (ew : w = cv sp.2.1) : lwP cv G M x D o sp (some (.int (nI 0))) (am_up M1 o (am_al G 1 (vp_updL S 0 w))) :=
  ⟨by rw [e], h.kr KE.up (fun q e => by omega), (hk.mono (fun q e => by omega)).tr (KE.up.mono (fun q e => by omega)), _, am_us, fun _ => by rw [ew]; exact if_pos rfl⟩
theorem lwP.ex {α : Type} {cv : α → Int64} {G : AG} {M M1 : AM} {x D o j : Nat} {sp : Nat × α × TS} {S : Nat → Int64} (e : sp.1 = j) (hj : 0 < j) (h : isRS G M1 x D sp.2.2) (hk : KE M M1 (fun q => (x ≤ q ∧ q < x + 271) ∨ D ≤ q)) (ho : M1.1 o = some (am_al G 1 S)) : lwP cv G M x D o sp (some (.int (nI j))) M1 :=
  ⟨by rw [e], h, hk.mono (fun q e => by omega), _, ho, fun e0 => by omega⟩
abbrev cvI : Int32 → Int64 := fun v => v.toInt64
abbrev cvB : Int32 → Int64 := fun v => if v = 0 then 0 else 1
abbrev cvL : Int64 → Int64 := fun v => v
theorem le_spFile {τ : TS} : (spFile τ).1 ≤ 1 := by
  unfold spFile
  repeat' split
  all_goals first | (dsimp only; omega) | decide
theorem c_L_file {l : Launch} {G : AG} {M : AM} {x D o : Nat} {τ : TS} (hfl : l.stackTraces = false) (hs : isRS G M x D τ) {S : Nat → Int64} (ho : M.1 o = some (am_al G 1 S)) (ho2 : x + 271 ≤ o ∧ o < D) : Ch l G yL_file cL_file 3 (some .int) [(0, 8, 11, 13)] { rL_file with cells := 1, slots := 6 } M [.ref x, .ref o] (lwP cvI G M x D o (spFile τ)) := by
  refine Ch.of (by decide) [some (.ref x), some (.ref o), none] rfl (Nat.le_of_ble_eq_true rfl) ?_
  intro Z hZ hN htab
  obtain ⟨rfl, hn, rfl, hR, X, hr, hnm⟩ := hZ
  refine aw_aload1 X dL_file_0 ?_
  refine aw_iconst X dL_file_1 (v := nI 0) (by decide) ?_
  refine aw_aload0 X dL_file_2 ?_
  refine aw_callVX X (st := [.int (nI 0), .ref o]) (c_X8_file hfl hs) kL_7 (ci := 9) rfl (hs.2.2.1) dL_file_3 rfl rfl (by first | decide | exact Nat.le_of_ble_eq_true rfl) (by rw [hR]; exact ⟨by first | decide | exact Nat.le_of_ble_eq_true rfl | (dsimp only; omega), by first | decide | exact Nat.le_of_ble_eq_true rfl | (dsimp only; omega)⟩) (by rw [hR]; exact ⟨by first | decide | exact Nat.le_of_ble_eq_true rfl | (dsimp only; omega), by first | decide | exact Nat.le_of_ble_eq_true rfl | (dsimp only; omega)⟩) (fun v M1 hv => ?_) (fun E M1 h1 => ?_)
  · obtain ⟨e0, rfl, hs1, hk1⟩ := hv
    have ho1 := hk1 _ _ ho (by omega)
    refine aw_i2l X dL_file_6 ?_
    refine aw_last X dL_file_7 ho1 rfl (by omega) (by decide) ?_
    refine aw_goto X dL_file_8 (tgt := 14) (by decide) ?_
    refine aw_iconst X dL_file_14 (v := nI 0) (by decide) ?_
    refine aw_ireturn X (ty := .int) hr (by first | rfl | decide | assumption) dL_file_15 (lwP.ok e0 hs1 hk1 ho2 rfl)
  · obtain ⟨hpos, hE, hs1, hk1⟩ := h1
    have ho1 := hk1 _ _ ho (by omega)
    have hle : (spFile τ).1 ≤ 1 := le_spFile
    have ej : (spFile τ).1 = 1 := by omega
    have hE2 : E = exS := hE.trans (congrArg (fun _ : Nat => exS) ej)
    subst hE2
    refine ax_catch X [] ⟨0, 8, 11, 13⟩ [] (by rw [htab]; rfl) (fun z hz => nomatch hz) (by decide) (by decide) cnL_13 ct_S (fun q => ?_)
    refine aw_astore2 X dL_file_11 (by rw [hn]; decide) rfl ?_
    refine aw_iconst X dL_file_12 (v := nI 1) (by decide) ?_
    refine aw_ireturn X (ty := .int) hr (by first | rfl | decide | assumption) dL_file_13 (lwP.ex ej (by decide) hs1 hk1 ho1)
theorem le_spAdd {τ : TS} {f p y m : Int32} : (spAdd τ f p y m).1 ≤ 3 := by
  unfold spAdd
  repeat' split
  all_goals first | (dsimp only; omega) | decide
theorem c_L_add {l : Launch} {G : AG} {M : AM} {x D o : Nat} {τ : TS} {f p y m : Int32} (hfl : l.stackTraces = false) (hs : isRS G M x D τ) {S : Nat → Int64} (ho : M.1 o = some (am_al G 1 S)) (ho2 : x + 271 ≤ o ∧ o < D) : Ch l G yL_add cL_add 7 (some .int) [(0, 14, 17, 19), (0, 14, 21, 21), (0, 14, 25, 13)] { rL_add with cells := 5, slots := 30 } M [.ref x, .int f, .int p, .int y, .int m, .ref o] (lwP cvI G M x D o (spAdd τ f p y m)) := by
  refine Ch.of (by decide) [some (.ref x), some (.int f), some (.int p), some (.int y), some (.int m), some (.ref o), none] rfl (Nat.le_of_ble_eq_true rfl) ?_
  intro Z hZ hN htab
  obtain ⟨rfl, hn, rfl, hR, X, hr, hnm⟩ := hZ
  refine aw_aload5 X dL_add_0 ?_
  refine aw_iconst X dL_add_2 (v := nI 0) (by decide) ?_
  refine aw_aload0 X dL_add_3 ?_
  refine aw_iload1 X dL_add_4 ?_
  refine aw_iload2 X dL_add_5 ?_
  refine aw_iload3 X dL_add_6 ?_
  refine aw_iload4 X dL_add_7 ?_
  refine aw_callVX X (st := [.int (nI 0), .ref o]) (c_X8_add hfl hs) kL_15 (ci := 9) rfl (hs.2.2.1) dL_add_9 rfl rfl (by first | decide | exact Nat.le_of_ble_eq_true rfl) (by rw [hR]; exact ⟨by first | decide | exact Nat.le_of_ble_eq_true rfl | (dsimp only; omega), by first | decide | exact Nat.le_of_ble_eq_true rfl | (dsimp only; omega)⟩) (by rw [hR]; exact ⟨by first | decide | exact Nat.le_of_ble_eq_true rfl | (dsimp only; omega), by first | decide | exact Nat.le_of_ble_eq_true rfl | (dsimp only; omega)⟩) (fun v M1 hv => ?_) (fun E M1 h1 => ?_)
  · obtain ⟨e0, rfl, hs1, hk1⟩ := hv
    have ho1 := hk1 _ _ ho (by omega)
    refine aw_i2l X dL_add_12 ?_
    refine aw_last X dL_add_13 ho1 rfl (by omega) (by decide) ?_
    refine aw_goto X dL_add_14 (tgt := 29) (by decide) ?_
    refine aw_iconst X dL_add_29 (v := nI 0) (by decide) ?_
    refine aw_ireturn X (ty := .int) hr (by first | rfl | decide | assumption) dL_add_30 (lwP.ok e0 hs1 hk1 ho2 rfl)
  · obtain ⟨hpos, hE, hs1, hk1⟩ := h1
    have ho1 := hk1 _ _ ho (by omega)
    have hle : (spAdd τ f p y m).1 ≤ 3 := le_spAdd
    by_cases ej : (spAdd τ f p y m).1 = 1
    · have hE2 : E = exI := hE.trans (congrArg ecIAS ej)
      subst hE2
      refine ax_catch X [] ⟨0, 14, 17, 19⟩ [⟨0, 14, 21, 21⟩, ⟨0, 14, 25, 13⟩] (by rw [htab]; rfl) (fun z hz => nomatch hz) (by decide) (by decide) cnL_19 ct_I (fun q => ?_)
      refine aw_astore6 X dL_add_17 (by rw [hn]; decide) rfl ?_
      refine aw_iconst X dL_add_19 (v := nI 1) (by decide) ?_
      refine aw_ireturn X (ty := .int) hr (by first | rfl | decide | assumption) dL_add_20 (lwP.ex ej (by decide) hs1 hk1 ho1)
    by_cases ej : (spAdd τ f p y m).1 = 2
    · have hE2 : E = exA := hE.trans (congrArg ecIAS ej)
      subst hE2
      refine ax_catch X [⟨0, 14, 17, 19⟩] ⟨0, 14, 21, 21⟩ [⟨0, 14, 25, 13⟩] (by rw [htab]; rfl) (List.forall_mem_cons.mpr ⟨Or.inr ⟨by decide, exI, cnL_19, hN.1⟩, List.forall_mem_nil _⟩) (by decide) (by decide) cnL_21 ct_A (fun q => ?_)
      refine aw_astore6 X dL_add_21 (by rw [hn]; decide) rfl ?_
      refine aw_iconst X dL_add_23 (v := nI 2) (by decide) ?_
      refine aw_ireturn X (ty := .int) hr (by first | rfl | decide | assumption) dL_add_24 (lwP.ex ej (by decide) hs1 hk1 ho1)
    have ej2 : (spAdd τ f p y m).1 = 3 := by omega
    have hE2 : E = exS := hE.trans (congrArg ecIAS ej2)
    subst hE2
    refine ax_catch X [⟨0, 14, 17, 19⟩, ⟨0, 14, 21, 21⟩] ⟨0, 14, 25, 13⟩ [] (by rw [htab]; rfl) (List.forall_mem_cons.mpr ⟨Or.inr ⟨by decide, exI, cnL_19, hN.2.1⟩, List.forall_mem_cons.mpr ⟨Or.inr ⟨by decide, exA, cnL_21, hN.2.2⟩, List.forall_mem_nil _⟩⟩) (by decide) (by decide) cnL_13 ct_S (fun q => ?_)
    refine aw_astore6 X dL_add_25 (by rw [hn]; decide) rfl ?_
    refine aw_iconst X dL_add_27 (v := nI 3) (by decide) ?_
    refine aw_ireturn X (ty := .int) hr (by first | rfl | decide | assumption) dL_add_28 (lwP.ex ej2 (by decide) hs1 hk1 ho1)
theorem le_spInsert {τ : TS} {f p y : Int32} : (spInsert τ f p y).1 ≤ 3 := by
  unfold spInsert
  repeat' split
  all_goals first | (dsimp only; omega) | decide
theorem c_L_insert {l : Launch} {G : AG} {M : AM} {x D o : Nat} {τ : TS} {f p y : Int32} (hfl : l.stackTraces = false) (hs : isRS G M x D τ) {S : Nat → Int64} (ho : M.1 o = some (am_al G 1 S)) (ho2 : x + 271 ≤ o ∧ o < D) : Ch l G yL_insert cL_insert 6 (some .int) [(0, 12, 15, 19), (0, 12, 19, 21), (0, 12, 23, 13)] { rL_insert with cells := 4, slots := 24 } M [.ref x, .int f, .int p, .int y, .ref o] (lwP cvI G M x D o (spInsert τ f p y)) := by
  refine Ch.of (by decide) [some (.ref x), some (.int f), some (.int p), some (.int y), some (.ref o), none] rfl (Nat.le_of_ble_eq_true rfl) ?_
  intro Z hZ hN htab
  obtain ⟨rfl, hn, rfl, hR, X, hr, hnm⟩ := hZ
  refine aw_aload4 X dL_insert_0 ?_
  refine aw_iconst X dL_insert_2 (v := nI 0) (by decide) ?_
  refine aw_aload0 X dL_insert_3 ?_
  refine aw_iload1 X dL_insert_4 ?_
  refine aw_iload2 X dL_insert_5 ?_
  refine aw_iload3 X dL_insert_6 ?_
  refine aw_callVX X (st := [.int (nI 0), .ref o]) (c_X8_insert hfl hs) kL_23 (ci := 9) rfl (hs.2.2.1) dL_insert_7 rfl rfl (by first | decide | exact Nat.le_of_ble_eq_true rfl) (by rw [hR]; exact ⟨by first | decide | exact Nat.le_of_ble_eq_true rfl | (dsimp only; omega), by first | decide | exact Nat.le_of_ble_eq_true rfl | (dsimp only; omega)⟩) (by rw [hR]; exact ⟨by first | decide | exact Nat.le_of_ble_eq_true rfl | (dsimp only; omega), by first | decide | exact Nat.le_of_ble_eq_true rfl | (dsimp only; omega)⟩) (fun v M1 hv => ?_) (fun E M1 h1 => ?_)
  · obtain ⟨e0, rfl, hs1, hk1⟩ := hv
    have ho1 := hk1 _ _ ho (by omega)
    refine aw_i2l X dL_insert_10 ?_
    refine aw_last X dL_insert_11 ho1 rfl (by omega) (by decide) ?_
    refine aw_goto X dL_insert_12 (tgt := 27) (by decide) ?_
    refine aw_iconst X dL_insert_27 (v := nI 0) (by decide) ?_
    refine aw_ireturn X (ty := .int) hr (by first | rfl | decide | assumption) dL_insert_28 (lwP.ok e0 hs1 hk1 ho2 rfl)
  · obtain ⟨hpos, hE, hs1, hk1⟩ := h1
    have ho1 := hk1 _ _ ho (by omega)
    have hle : (spInsert τ f p y).1 ≤ 3 := le_spInsert
    by_cases ej : (spInsert τ f p y).1 = 1
    · have hE2 : E = exI := hE.trans (congrArg ecIAS ej)
      subst hE2
      refine ax_catch X [] ⟨0, 12, 15, 19⟩ [⟨0, 12, 19, 21⟩, ⟨0, 12, 23, 13⟩] (by rw [htab]; rfl) (fun z hz => nomatch hz) (by decide) (by decide) cnL_19 ct_I (fun q => ?_)
      refine aw_astore5 X dL_insert_15 (by rw [hn]; decide) rfl ?_
      refine aw_iconst X dL_insert_17 (v := nI 1) (by decide) ?_
      refine aw_ireturn X (ty := .int) hr (by first | rfl | decide | assumption) dL_insert_18 (lwP.ex ej (by decide) hs1 hk1 ho1)
    by_cases ej : (spInsert τ f p y).1 = 2
    · have hE2 : E = exA := hE.trans (congrArg ecIAS ej)
      subst hE2
      refine ax_catch X [⟨0, 12, 15, 19⟩] ⟨0, 12, 19, 21⟩ [⟨0, 12, 23, 13⟩] (by rw [htab]; rfl) (List.forall_mem_cons.mpr ⟨Or.inr ⟨by decide, exI, cnL_19, hN.1⟩, List.forall_mem_nil _⟩) (by decide) (by decide) cnL_21 ct_A (fun q => ?_)
      refine aw_astore5 X dL_insert_19 (by rw [hn]; decide) rfl ?_
      refine aw_iconst X dL_insert_21 (v := nI 2) (by decide) ?_
      refine aw_ireturn X (ty := .int) hr (by first | rfl | decide | assumption) dL_insert_22 (lwP.ex ej (by decide) hs1 hk1 ho1)
    have ej2 : (spInsert τ f p y).1 = 3 := by omega
    have hE2 : E = exS := hE.trans (congrArg ecIAS ej2)
    subst hE2
    refine ax_catch X [⟨0, 12, 15, 19⟩, ⟨0, 12, 19, 21⟩] ⟨0, 12, 23, 13⟩ [] (by rw [htab]; rfl) (List.forall_mem_cons.mpr ⟨Or.inr ⟨by decide, exI, cnL_19, hN.2.1⟩, List.forall_mem_cons.mpr ⟨Or.inr ⟨by decide, exA, cnL_21, hN.2.2⟩, List.forall_mem_nil _⟩⟩) (by decide) (by decide) cnL_13 ct_S (fun q => ?_)
    refine aw_astore5 X dL_insert_23 (by rw [hn]; decide) rfl ?_
    refine aw_iconst X dL_insert_25 (v := nI 3) (by decide) ?_
    refine aw_ireturn X (ty := .int) hr (by first | rfl | decide | assumption) dL_insert_26 (lwP.ex ej2 (by decide) hs1 hk1 ho1)
theorem le_spRemove {τ : TS} {f p y : Int32} : (spRemove τ f p y).1 ≤ 2 := by
  unfold spRemove
  repeat' split
  all_goals first | (dsimp only; omega) | decide
theorem c_L_remove {l : Launch} {G : AG} {M : AM} {x D o : Nat} {τ : TS} {f p y : Int32} (hfl : l.stackTraces = false) (hs : isRS G M x D τ) {S : Nat → Int64} (ho : M.1 o = some (am_al G 1 S)) (ho2 : x + 271 ≤ o ∧ o < D) : Ch l G yL_remove cL_remove 6 (some .int) [(0, 12, 15, 19), (0, 12, 19, 21)] { rL_remove with cells := 3, slots := 18 } M [.ref x, .int f, .int p, .int y, .ref o] (lwP cvI G M x D o (spRemove τ f p y)) := by
  refine Ch.of (by decide) [some (.ref x), some (.int f), some (.int p), some (.int y), some (.ref o), none] rfl (Nat.le_of_ble_eq_true rfl) ?_
  intro Z hZ hN htab
  obtain ⟨rfl, hn, rfl, hR, X, hr, hnm⟩ := hZ
  refine aw_aload4 X dL_remove_0 ?_
  refine aw_iconst X dL_remove_2 (v := nI 0) (by decide) ?_
  refine aw_aload0 X dL_remove_3 ?_
  refine aw_iload1 X dL_remove_4 ?_
  refine aw_iload2 X dL_remove_5 ?_
  refine aw_iload3 X dL_remove_6 ?_
  refine aw_callVX X (st := [.int (nI 0), .ref o]) (c_X8_remove hfl hs) kL_27 (ci := 9) rfl (hs.2.2.1) dL_remove_7 rfl rfl (by first | decide | exact Nat.le_of_ble_eq_true rfl) (by rw [hR]; exact ⟨by first | decide | exact Nat.le_of_ble_eq_true rfl | (dsimp only; omega), by first | decide | exact Nat.le_of_ble_eq_true rfl | (dsimp only; omega)⟩) (by rw [hR]; exact ⟨by first | decide | exact Nat.le_of_ble_eq_true rfl | (dsimp only; omega), by first | decide | exact Nat.le_of_ble_eq_true rfl | (dsimp only; omega)⟩) (fun v M1 hv => ?_) (fun E M1 h1 => ?_)
  · obtain ⟨e0, rfl, hs1, hk1⟩ := hv
    have ho1 := hk1 _ _ ho (by omega)
    refine aw_i2l X dL_remove_10 ?_
    refine aw_last X dL_remove_11 ho1 rfl (by omega) (by decide) ?_
    refine aw_goto X dL_remove_12 (tgt := 23) (by decide) ?_
    refine aw_iconst X dL_remove_23 (v := nI 0) (by decide) ?_
    refine aw_ireturn X (ty := .int) hr (by first | rfl | decide | assumption) dL_remove_24 (lwP.ok e0 hs1 hk1 ho2 rfl)
  · obtain ⟨hpos, hE, hs1, hk1⟩ := h1
    have ho1 := hk1 _ _ ho (by omega)
    have hle : (spRemove τ f p y).1 ≤ 2 := le_spRemove
    by_cases ej : (spRemove τ f p y).1 = 1
    · have hE2 : E = exI := hE.trans (congrArg ecIA ej)
      subst hE2
      refine ax_catch X [] ⟨0, 12, 15, 19⟩ [⟨0, 12, 19, 21⟩] (by rw [htab]; rfl) (fun z hz => nomatch hz) (by decide) (by decide) cnL_19 ct_I (fun q => ?_)
      refine aw_astore5 X dL_remove_15 (by rw [hn]; decide) rfl ?_
      refine aw_iconst X dL_remove_17 (v := nI 1) (by decide) ?_
      refine aw_ireturn X (ty := .int) hr (by first | rfl | decide | assumption) dL_remove_18 (lwP.ex ej (by decide) hs1 hk1 ho1)
    have ej2 : (spRemove τ f p y).1 = 2 := by omega
    have hE2 : E = exA := hE.trans (congrArg ecIA ej2)
    subst hE2
    refine ax_catch X [⟨0, 12, 15, 19⟩] ⟨0, 12, 19, 21⟩ [] (by rw [htab]; rfl) (List.forall_mem_cons.mpr ⟨Or.inr ⟨by decide, exI, cnL_19, hN.1⟩, List.forall_mem_nil _⟩) (by decide) (by decide) cnL_21 ct_A (fun q => ?_)
    refine aw_astore5 X dL_remove_19 (by rw [hn]; decide) rfl ?_
    refine aw_iconst X dL_remove_21 (v := nI 2) (by decide) ?_
    refine aw_ireturn X (ty := .int) hr (by first | rfl | decide | assumption) dL_remove_22 (lwP.ex ej2 (by decide) hs1 hk1 ho1)
theorem le_spCopy {τ : TS} {f p : Int32} : (spCopy τ f p).1 ≤ 1 := by
  unfold spCopy
  repeat' split
  all_goals first | (dsimp only; omega) | decide
theorem c_L_copy {l : Launch} {G : AG} {M : AM} {x D : Nat} {τ : TS} {f p : Int32} (hfl : l.stackTraces = false) (hs : isRS G M x D τ) : Ch l G yL_copy cL_copy 4 (some .int) [(0, 6, 9, 19)] { rL_copy with cells := 2, slots := 12 } M [.ref x, .int f, .int p] (lwPv G M x D (spCopy τ f p)) := by
  refine Ch.of (by decide) [some (.ref x), some (.int f), some (.int p), none] rfl (Nat.le_of_ble_eq_true rfl) ?_
  intro Z hZ hN htab
  obtain ⟨rfl, hn, rfl, hR, X, hr, hnm⟩ := hZ
  refine aw_aload0 X dL_copy_0 ?_
  refine aw_iload1 X dL_copy_1 ?_
  refine aw_iload2 X dL_copy_2 ?_
  refine aw_callVX X (st := []) (c_X8_copy hfl hs) kL_30 (ci := 9) rfl (hs.2.2.1) dL_copy_3 rfl rfl (by first | decide | exact Nat.le_of_ble_eq_true rfl) (by rw [hR]; exact ⟨by first | decide | exact Nat.le_of_ble_eq_true rfl | (dsimp only; omega), by first | decide | exact Nat.le_of_ble_eq_true rfl | (dsimp only; omega)⟩) (by rw [hR]; exact ⟨by first | decide | exact Nat.le_of_ble_eq_true rfl | (dsimp only; omega), by first | decide | exact Nat.le_of_ble_eq_true rfl | (dsimp only; omega)⟩) (fun v M1 hv => ?_) (fun E M1 h1 => ?_)
  · obtain ⟨e0, rfl, hs1, hk1⟩ := hv
    refine aw_goto X dL_copy_6 (tgt := 12) (by decide) ?_
    refine aw_iconst X dL_copy_12 (v := nI 0) (by decide) ?_
    refine aw_ireturn X (ty := .int) hr (by first | rfl | decide | assumption) dL_copy_13 (⟨by rw [e0], hs1, hk1⟩)
  · obtain ⟨hpos, hE, hs1, hk1⟩ := h1
    have hle : (spCopy τ f p).1 ≤ 1 := le_spCopy
    have ej : (spCopy τ f p).1 = 1 := by omega
    have hE2 : E = exI := hE.trans (congrArg ecI ej)
    subst hE2
    refine ax_catch X [] ⟨0, 6, 9, 19⟩ [] (by rw [htab]; rfl) (fun z hz => nomatch hz) (by decide) (by decide) cnL_19 ct_I (fun q => ?_)
    refine aw_astore3 X dL_copy_9 (by rw [hn]; decide) rfl ?_
    refine aw_iconst X dL_copy_10 (v := nI 1) (by decide) ?_
    refine aw_ireturn X (ty := .int) hr (by first | rfl | decide | assumption) dL_copy_11 (⟨by rw [ej], hs1, hk1⟩)
theorem le_spLength {τ : TS} {f : Int32} : (spLength τ f).1 ≤ 1 := by
  unfold spLength
  repeat' split
  all_goals first | (dsimp only; omega) | decide
theorem c_L_length {l : Launch} {G : AG} {M : AM} {x D o : Nat} {τ : TS} {f : Int32} (hfl : l.stackTraces = false) (hs : isRS G M x D τ) {S : Nat → Int64} (ho : M.1 o = some (am_al G 1 S)) (ho2 : x + 271 ≤ o ∧ o < D) : Ch l G yL_length cL_length 4 (some .int) [(0, 9, 12, 19)] { rL_length with cells := 1, slots := 6 } M [.ref x, .int f, .ref o] (lwP cvI G M x D o (spLength τ f)) := by
  refine Ch.of (by decide) [some (.ref x), some (.int f), some (.ref o), none] rfl (Nat.le_of_ble_eq_true rfl) ?_
  intro Z hZ hN htab
  obtain ⟨rfl, hn, rfl, hR, X, hr, hnm⟩ := hZ
  refine aw_aload2 X dL_length_0 ?_
  refine aw_iconst X dL_length_1 (v := nI 0) (by decide) ?_
  refine aw_aload0 X dL_length_2 ?_
  refine aw_iload1 X dL_length_3 ?_
  refine aw_callVX X (st := [.int (nI 0), .ref o]) (c_X8_length hfl hs) kL_34 (ci := 9) rfl (hs.2.2.1) dL_length_4 rfl rfl (by first | decide | exact Nat.le_of_ble_eq_true rfl) (by rw [hR]; exact ⟨by first | decide | exact Nat.le_of_ble_eq_true rfl | (dsimp only; omega), by first | decide | exact Nat.le_of_ble_eq_true rfl | (dsimp only; omega)⟩) (by rw [hR]; exact ⟨by first | decide | exact Nat.le_of_ble_eq_true rfl | (dsimp only; omega), by first | decide | exact Nat.le_of_ble_eq_true rfl | (dsimp only; omega)⟩) (fun v M1 hv => ?_) (fun E M1 h1 => ?_)
  · obtain ⟨e0, rfl, hs1, hk1⟩ := hv
    have ho1 := hk1 _ _ ho (by omega)
    refine aw_i2l X dL_length_7 ?_
    refine aw_last X dL_length_8 ho1 rfl (by omega) (by decide) ?_
    refine aw_goto X dL_length_9 (tgt := 15) (by decide) ?_
    refine aw_iconst X dL_length_15 (v := nI 0) (by decide) ?_
    refine aw_ireturn X (ty := .int) hr (by first | rfl | decide | assumption) dL_length_16 (lwP.ok e0 hs1 hk1 ho2 rfl)
  · obtain ⟨hpos, hE, hs1, hk1⟩ := h1
    have ho1 := hk1 _ _ ho (by omega)
    have hle : (spLength τ f).1 ≤ 1 := le_spLength
    have ej : (spLength τ f).1 = 1 := by omega
    have hE2 : E = exI := hE.trans (congrArg ecI ej)
    subst hE2
    refine ax_catch X [] ⟨0, 9, 12, 19⟩ [] (by rw [htab]; rfl) (fun z hz => nomatch hz) (by decide) (by decide) cnL_19 ct_I (fun q => ?_)
    refine aw_astore3 X dL_length_12 (by rw [hn]; decide) rfl ?_
    refine aw_iconst X dL_length_13 (v := nI 1) (by decide) ?_
    refine aw_ireturn X (ty := .int) hr (by first | rfl | decide | assumption) dL_length_14 (lwP.ex ej (by decide) hs1 hk1 ho1)
theorem le_spByteAt {τ : TS} {f p : Int32} : (spByteAt τ f p).1 ≤ 1 := by
  unfold spByteAt
  repeat' split
  all_goals first | (dsimp only; omega) | decide
theorem c_L_byteAt {l : Launch} {G : AG} {M : AM} {x D o : Nat} {τ : TS} {f p : Int32} (hfl : l.stackTraces = false) (hs : isRS G M x D τ) {S : Nat → Int64} (ho : M.1 o = some (am_al G 1 S)) (ho2 : x + 271 ≤ o ∧ o < D) : Ch l G yL_byteAt cL_byteAt 5 (some .int) [(0, 10, 13, 19)] { rL_byteAt with cells := 2, slots := 12 } M [.ref x, .int f, .int p, .ref o] (lwP cvI G M x D o (spByteAt τ f p)) := by
  refine Ch.of (by decide) [some (.ref x), some (.int f), some (.int p), some (.ref o), none] rfl (Nat.le_of_ble_eq_true rfl) ?_
  intro Z hZ hN htab
  obtain ⟨rfl, hn, rfl, hR, X, hr, hnm⟩ := hZ
  refine aw_aload3 X dL_byteAt_0 ?_
  refine aw_iconst X dL_byteAt_1 (v := nI 0) (by decide) ?_
  refine aw_aload0 X dL_byteAt_2 ?_
  refine aw_iload1 X dL_byteAt_3 ?_
  refine aw_iload2 X dL_byteAt_4 ?_
  refine aw_callVX X (st := [.int (nI 0), .ref o]) (c_X8_byteAt hfl hs) kL_38 (ci := 9) rfl (hs.2.2.1) dL_byteAt_5 rfl rfl (by first | decide | exact Nat.le_of_ble_eq_true rfl) (by rw [hR]; exact ⟨by first | decide | exact Nat.le_of_ble_eq_true rfl | (dsimp only; omega), by first | decide | exact Nat.le_of_ble_eq_true rfl | (dsimp only; omega)⟩) (by rw [hR]; exact ⟨by first | decide | exact Nat.le_of_ble_eq_true rfl | (dsimp only; omega), by first | decide | exact Nat.le_of_ble_eq_true rfl | (dsimp only; omega)⟩) (fun v M1 hv => ?_) (fun E M1 h1 => ?_)
  · obtain ⟨e0, rfl, hs1, hk1⟩ := hv
    have ho1 := hk1 _ _ ho (by omega)
    refine aw_i2l X dL_byteAt_8 ?_
    refine aw_last X dL_byteAt_9 ho1 rfl (by omega) (by decide) ?_
    refine aw_goto X dL_byteAt_10 (tgt := 17) (by decide) ?_
    refine aw_iconst X dL_byteAt_17 (v := nI 0) (by decide) ?_
    refine aw_ireturn X (ty := .int) hr (by first | rfl | decide | assumption) dL_byteAt_18 (lwP.ok e0 hs1 hk1 ho2 rfl)
  · obtain ⟨hpos, hE, hs1, hk1⟩ := h1
    have ho1 := hk1 _ _ ho (by omega)
    have hle : (spByteAt τ f p).1 ≤ 1 := le_spByteAt
    have ej : (spByteAt τ f p).1 = 1 := by omega
    have hE2 : E = exI := hE.trans (congrArg ecI ej)
    subst hE2
    refine ax_catch X [] ⟨0, 10, 13, 19⟩ [] (by rw [htab]; rfl) (fun z hz => nomatch hz) (by decide) (by decide) cnL_19 ct_I (fun q => ?_)
    refine aw_astore4 X dL_byteAt_13 (by rw [hn]; decide) rfl ?_
    refine aw_iconst X dL_byteAt_15 (v := nI 1) (by decide) ?_
    refine aw_ireturn X (ty := .int) hr (by first | rfl | decide | assumption) dL_byteAt_16 (lwP.ex ej (by decide) hs1 hk1 ho1)
theorem le_spSame {τ : TS} {f p : Int32} : (spSame τ f p).1 ≤ 1 := by
  unfold spSame
  repeat' split
  all_goals first | (dsimp only; omega) | decide
theorem c_L_same {l : Launch} {G : AG} {M : AM} {x D o : Nat} {τ : TS} {f p : Int32} (hfl : l.stackTraces = false) (hs : isRS G M x D τ) {S : Nat → Int64} (ho : M.1 o = some (am_al G 1 S)) (ho2 : x + 271 ≤ o ∧ o < D) : Ch l G yL_same cL_same 5 (some .int) [(0, 17, 20, 19)] { rL_same with cells := 2, slots := 12 } M [.ref x, .int f, .int p, .ref o] (lwP cvB G M x D o (spSame τ f p)) := by
  refine Ch.of (by decide) [some (.ref x), some (.int f), some (.int p), some (.ref o), none] rfl (Nat.le_of_ble_eq_true rfl) ?_
  intro Z hZ hN htab
  obtain ⟨rfl, hn, rfl, hR, X, hr, hnm⟩ := hZ
  refine aw_aload3 X dL_same_0 ?_
  refine aw_iconst X dL_same_1 (v := nI 0) (by decide) ?_
  refine aw_aload0 X dL_same_2 ?_
  refine aw_iload1 X dL_same_3 ?_
  refine aw_iload2 X dL_same_4 ?_
  refine aw_callVX X (st := [.int (nI 0), .ref o]) (c_X8_same hfl hs) kL_42 (ci := 9) rfl (hs.2.2.1) dL_same_5 rfl rfl (by first | decide | exact Nat.le_of_ble_eq_true rfl) (by rw [hR]; exact ⟨by first | decide | exact Nat.le_of_ble_eq_true rfl | (dsimp only; omega), by first | decide | exact Nat.le_of_ble_eq_true rfl | (dsimp only; omega)⟩) (by rw [hR]; exact ⟨by first | decide | exact Nat.le_of_ble_eq_true rfl | (dsimp only; omega), by first | decide | exact Nat.le_of_ble_eq_true rfl | (dsimp only; omega)⟩) (fun v M1 hv => ?_) (fun E M1 h1 => ?_)
  · obtain ⟨e0, rfl, hs1, hk1⟩ := hv
    have ho1 := hk1 _ _ ho (by omega)
    refine aw_ifeq X dL_same_8 (tgt := 15) (by decide) (fun c1 => ?_) (fun c1 => ?_)
    · refine aw_lconst X dL_same_15 (v := 0) (by decide) ?_
      refine aw_last X dL_same_16 ho1 rfl (by omega) (by decide) ?_
      refine aw_goto X dL_same_17 (tgt := 24) (by decide) ?_
      refine aw_iconst X dL_same_24 (v := nI 0) (by decide) ?_
      refine aw_ireturn X (ty := .int) hr (by first | rfl | decide | assumption) dL_same_25 (lwP.ok e0 hs1 hk1 ho2 (by rw [cvB, if_pos c1]))
    · refine aw_lconst X dL_same_11 (v := 1) (by decide) ?_
      refine aw_goto X dL_same_12 (tgt := 16) (by decide) ?_
      refine aw_last X dL_same_16 ho1 rfl (by omega) (by decide) ?_
      refine aw_goto X dL_same_17 (tgt := 24) (by decide) ?_
      refine aw_iconst X dL_same_24 (v := nI 0) (by decide) ?_
      refine aw_ireturn X (ty := .int) hr (by first | rfl | decide | assumption) dL_same_25 (lwP.ok e0 hs1 hk1 ho2 (by rw [cvB, if_neg c1]))
  · obtain ⟨hpos, hE, hs1, hk1⟩ := h1
    have ho1 := hk1 _ _ ho (by omega)
    have hle : (spSame τ f p).1 ≤ 1 := le_spSame
    have ej : (spSame τ f p).1 = 1 := by omega
    have hE2 : E = exI := hE.trans (congrArg ecI ej)
    subst hE2
    refine ax_catch X [] ⟨0, 17, 20, 19⟩ [] (by rw [htab]; rfl) (fun z hz => nomatch hz) (by decide) (by decide) cnL_19 ct_I (fun q => ?_)
    refine aw_astore4 X dL_same_20 (by rw [hn]; decide) rfl ?_
    refine aw_iconst X dL_same_22 (v := nI 1) (by decide) ?_
    refine aw_ireturn X (ty := .int) hr (by first | rfl | decide | assumption) dL_same_23 (lwP.ex ej (by decide) hs1 hk1 ho1)
theorem le_spSign {τ : TS} {g f b d : Int32} : (spSign τ g f b d).1 ≤ 2 := by
  unfold spSign
  repeat' split
  all_goals first | (dsimp only; omega) | decide
theorem c_L_sign {l : Launch} {G : AG} {M : AM} {x D o : Nat} {τ : TS} {g f b d : Int32} (hfl : l.stackTraces = false) (hs : isRS G M x D τ) {S : Nat → Int64} (ho : M.1 o = some (am_al G 1 S)) (ho2 : x + 271 ≤ o ∧ o < D) : Ch l G yL_sign cL_sign 7 (some .int) [(0, 14, 17, 19), (0, 14, 21, 21)] { rL_sign with cells := 4, slots := 24 } M [.ref x, .int g, .int f, .int b, .int d, .ref o] (lwP cvI G M x D o (spSign τ g f b d)) := by
  refine Ch.of (by decide) [some (.ref x), some (.int g), some (.int f), some (.int b), some (.int d), some (.ref o), none] rfl (Nat.le_of_ble_eq_true rfl) ?_
  intro Z hZ hN htab
  obtain ⟨rfl, hn, rfl, hR, X, hr, hnm⟩ := hZ
  refine aw_aload5 X dL_sign_0 ?_
  refine aw_iconst X dL_sign_2 (v := nI 0) (by decide) ?_
  refine aw_aload0 X dL_sign_3 ?_
  refine aw_iload1 X dL_sign_4 ?_
  refine aw_iload2 X dL_sign_5 ?_
  refine aw_iload3 X dL_sign_6 ?_
  refine aw_iload4 X dL_sign_7 ?_
  refine aw_callVX X (st := [.int (nI 0), .ref o]) (c_X8_sign hfl hs) kL_46 (ci := 9) rfl (hs.2.2.1) dL_sign_9 rfl rfl (by first | decide | exact Nat.le_of_ble_eq_true rfl) (by rw [hR]; exact ⟨by first | decide | exact Nat.le_of_ble_eq_true rfl | (dsimp only; omega), by first | decide | exact Nat.le_of_ble_eq_true rfl | (dsimp only; omega)⟩) (by rw [hR]; exact ⟨by first | decide | exact Nat.le_of_ble_eq_true rfl | (dsimp only; omega), by first | decide | exact Nat.le_of_ble_eq_true rfl | (dsimp only; omega)⟩) (fun v M1 hv => ?_) (fun E M1 h1 => ?_)
  · obtain ⟨e0, rfl, hs1, hk1⟩ := hv
    have ho1 := hk1 _ _ ho (by omega)
    refine aw_i2l X dL_sign_12 ?_
    refine aw_last X dL_sign_13 ho1 rfl (by omega) (by decide) ?_
    refine aw_goto X dL_sign_14 (tgt := 25) (by decide) ?_
    refine aw_iconst X dL_sign_25 (v := nI 0) (by decide) ?_
    refine aw_ireturn X (ty := .int) hr (by first | rfl | decide | assumption) dL_sign_26 (lwP.ok e0 hs1 hk1 ho2 rfl)
  · obtain ⟨hpos, hE, hs1, hk1⟩ := h1
    have ho1 := hk1 _ _ ho (by omega)
    have hle : (spSign τ g f b d).1 ≤ 2 := le_spSign
    by_cases ej : (spSign τ g f b d).1 = 1
    · have hE2 : E = exI := hE.trans (congrArg ecIA ej)
      subst hE2
      refine ax_catch X [] ⟨0, 14, 17, 19⟩ [⟨0, 14, 21, 21⟩] (by rw [htab]; rfl) (fun z hz => nomatch hz) (by decide) (by decide) cnL_19 ct_I (fun q => ?_)
      refine aw_astore6 X dL_sign_17 (by rw [hn]; decide) rfl ?_
      refine aw_iconst X dL_sign_19 (v := nI 1) (by decide) ?_
      refine aw_ireturn X (ty := .int) hr (by first | rfl | decide | assumption) dL_sign_20 (lwP.ex ej (by decide) hs1 hk1 ho1)
    have ej2 : (spSign τ g f b d).1 = 2 := by omega
    have hE2 : E = exA := hE.trans (congrArg ecIA ej2)
    subst hE2
    refine ax_catch X [⟨0, 14, 17, 19⟩] ⟨0, 14, 21, 21⟩ [] (by rw [htab]; rfl) (List.forall_mem_cons.mpr ⟨Or.inr ⟨by decide, exI, cnL_19, hN.1⟩, List.forall_mem_nil _⟩) (by decide) (by decide) cnL_21 ct_A (fun q => ?_)
    refine aw_astore6 X dL_sign_21 (by rw [hn]; decide) rfl ?_
    refine aw_iconst X dL_sign_23 (v := nI 2) (by decide) ?_
    refine aw_ireturn X (ty := .int) hr (by first | rfl | decide | assumption) dL_sign_24 (lwP.ex ej2 (by decide) hs1 hk1 ho1)
theorem le_spBlocks {τ : TS} {g : Int32} : (spBlocks τ g).1 ≤ 1 := by
  unfold spBlocks
  repeat' split
  all_goals first | (dsimp only; omega) | decide
theorem c_L_blocks {l : Launch} {G : AG} {M : AM} {x D o : Nat} {τ : TS} {g : Int32} (hfl : l.stackTraces = false) (hs : isRS G M x D τ) {S : Nat → Int64} (ho : M.1 o = some (am_al G 1 S)) (ho2 : x + 271 ≤ o ∧ o < D) : Ch l G yL_blocks cL_blocks 4 (some .int) [(0, 9, 12, 19)] { rL_blocks with cells := 1, slots := 6 } M [.ref x, .int g, .ref o] (lwP cvI G M x D o (spBlocks τ g)) := by
  refine Ch.of (by decide) [some (.ref x), some (.int g), some (.ref o), none] rfl (Nat.le_of_ble_eq_true rfl) ?_
  intro Z hZ hN htab
  obtain ⟨rfl, hn, rfl, hR, X, hr, hnm⟩ := hZ
  refine aw_aload2 X dL_blocks_0 ?_
  refine aw_iconst X dL_blocks_1 (v := nI 0) (by decide) ?_
  refine aw_aload0 X dL_blocks_2 ?_
  refine aw_iload1 X dL_blocks_3 ?_
  refine aw_callVX X (st := [.int (nI 0), .ref o]) (c_X8_blocks hfl hs) kL_49 (ci := 9) rfl (hs.2.2.1) dL_blocks_4 rfl rfl (by first | decide | exact Nat.le_of_ble_eq_true rfl) (by rw [hR]; exact ⟨by first | decide | exact Nat.le_of_ble_eq_true rfl | (dsimp only; omega), by first | decide | exact Nat.le_of_ble_eq_true rfl | (dsimp only; omega)⟩) (by rw [hR]; exact ⟨by first | decide | exact Nat.le_of_ble_eq_true rfl | (dsimp only; omega), by first | decide | exact Nat.le_of_ble_eq_true rfl | (dsimp only; omega)⟩) (fun v M1 hv => ?_) (fun E M1 h1 => ?_)
  · obtain ⟨e0, rfl, hs1, hk1⟩ := hv
    have ho1 := hk1 _ _ ho (by omega)
    refine aw_i2l X dL_blocks_7 ?_
    refine aw_last X dL_blocks_8 ho1 rfl (by omega) (by decide) ?_
    refine aw_goto X dL_blocks_9 (tgt := 15) (by decide) ?_
    refine aw_iconst X dL_blocks_15 (v := nI 0) (by decide) ?_
    refine aw_ireturn X (ty := .int) hr (by first | rfl | decide | assumption) dL_blocks_16 (lwP.ok e0 hs1 hk1 ho2 rfl)
  · obtain ⟨hpos, hE, hs1, hk1⟩ := h1
    have ho1 := hk1 _ _ ho (by omega)
    have hle : (spBlocks τ g).1 ≤ 1 := le_spBlocks
    have ej : (spBlocks τ g).1 = 1 := by omega
    have hE2 : E = exI := hE.trans (congrArg ecI ej)
    subst hE2
    refine ax_catch X [] ⟨0, 9, 12, 19⟩ [] (by rw [htab]; rfl) (fun z hz => nomatch hz) (by decide) (by decide) cnL_19 ct_I (fun q => ?_)
    refine aw_astore3 X dL_blocks_12 (by rw [hn]; decide) rfl ?_
    refine aw_iconst X dL_blocks_13 (v := nI 1) (by decide) ?_
    refine aw_ireturn X (ty := .int) hr (by first | rfl | decide | assumption) dL_blocks_14 (lwP.ex ej (by decide) hs1 hk1 ho1)
theorem le_spWeak {τ : TS} {g b : Int32} : (spWeak τ g b).1 ≤ 1 := by
  unfold spWeak
  repeat' split
  all_goals first | (dsimp only; omega) | decide
theorem c_L_weak {l : Launch} {G : AG} {M : AM} {x D o : Nat} {τ : TS} {g b : Int32} (hfl : l.stackTraces = false) (hs : isRS G M x D τ) {S : Nat → Int64} (ho : M.1 o = some (am_al G 1 S)) (ho2 : x + 271 ≤ o ∧ o < D) : Ch l G yL_weak cL_weak 5 (some .int) [(0, 10, 13, 19)] { rL_weak with cells := 2, slots := 12 } M [.ref x, .int g, .int b, .ref o] (lwP cvI G M x D o (spWeak τ g b)) := by
  refine Ch.of (by decide) [some (.ref x), some (.int g), some (.int b), some (.ref o), none] rfl (Nat.le_of_ble_eq_true rfl) ?_
  intro Z hZ hN htab
  obtain ⟨rfl, hn, rfl, hR, X, hr, hnm⟩ := hZ
  refine aw_aload3 X dL_weak_0 ?_
  refine aw_iconst X dL_weak_1 (v := nI 0) (by decide) ?_
  refine aw_aload0 X dL_weak_2 ?_
  refine aw_iload1 X dL_weak_3 ?_
  refine aw_iload2 X dL_weak_4 ?_
  refine aw_callVX X (st := [.int (nI 0), .ref o]) (c_X8_weak hfl hs) kL_52 (ci := 9) rfl (hs.2.2.1) dL_weak_5 rfl rfl (by first | decide | exact Nat.le_of_ble_eq_true rfl) (by rw [hR]; exact ⟨by first | decide | exact Nat.le_of_ble_eq_true rfl | (dsimp only; omega), by first | decide | exact Nat.le_of_ble_eq_true rfl | (dsimp only; omega)⟩) (by rw [hR]; exact ⟨by first | decide | exact Nat.le_of_ble_eq_true rfl | (dsimp only; omega), by first | decide | exact Nat.le_of_ble_eq_true rfl | (dsimp only; omega)⟩) (fun v M1 hv => ?_) (fun E M1 h1 => ?_)
  · obtain ⟨e0, rfl, hs1, hk1⟩ := hv
    have ho1 := hk1 _ _ ho (by omega)
    refine aw_i2l X dL_weak_8 ?_
    refine aw_last X dL_weak_9 ho1 rfl (by omega) (by decide) ?_
    refine aw_goto X dL_weak_10 (tgt := 17) (by decide) ?_
    refine aw_iconst X dL_weak_17 (v := nI 0) (by decide) ?_
    refine aw_ireturn X (ty := .int) hr (by first | rfl | decide | assumption) dL_weak_18 (lwP.ok e0 hs1 hk1 ho2 rfl)
  · obtain ⟨hpos, hE, hs1, hk1⟩ := h1
    have ho1 := hk1 _ _ ho (by omega)
    have hle : (spWeak τ g b).1 ≤ 1 := le_spWeak
    have ej : (spWeak τ g b).1 = 1 := by omega
    have hE2 : E = exI := hE.trans (congrArg ecI ej)
    subst hE2
    refine ax_catch X [] ⟨0, 10, 13, 19⟩ [] (by rw [htab]; rfl) (fun z hz => nomatch hz) (by decide) (by decide) cnL_19 ct_I (fun q => ?_)
    refine aw_astore4 X dL_weak_13 (by rw [hn]; decide) rfl ?_
    refine aw_iconst X dL_weak_15 (v := nI 1) (by decide) ?_
    refine aw_ireturn X (ty := .int) hr (by first | rfl | decide | assumption) dL_weak_16 (lwP.ex ej (by decide) hs1 hk1 ho1)
theorem le_spStrong {τ : TS} {g b : Int32} : (spStrong τ g b).1 ≤ 1 := by
  unfold spStrong
  repeat' split
  all_goals first | (dsimp only; omega) | decide
theorem c_L_strong {l : Launch} {G : AG} {M : AM} {x D o : Nat} {τ : TS} {g b : Int32} (hfl : l.stackTraces = false) (hs : isRS G M x D τ) {S : Nat → Int64} (ho : M.1 o = some (am_al G 1 S)) (ho2 : x + 271 ≤ o ∧ o < D) : Ch l G yL_strong cL_strong 5 (some .int) [(0, 9, 12, 19)] { rL_strong with cells := 2, slots := 12 } M [.ref x, .int g, .int b, .ref o] (lwP cvL G M x D o (spStrong τ g b)) := by
  refine Ch.of (by decide) [some (.ref x), some (.int g), some (.int b), some (.ref o), none] rfl (Nat.le_of_ble_eq_true rfl) ?_
  intro Z hZ hN htab
  obtain ⟨rfl, hn, rfl, hR, X, hr, hnm⟩ := hZ
  refine aw_aload3 X dL_strong_0 ?_
  refine aw_iconst X dL_strong_1 (v := nI 0) (by decide) ?_
  refine aw_aload0 X dL_strong_2 ?_
  refine aw_iload1 X dL_strong_3 ?_
  refine aw_iload2 X dL_strong_4 ?_
  refine aw_callVX X (st := [.int (nI 0), .ref o]) (c_X8_strong hfl hs) kL_55 (ci := 9) rfl (hs.2.2.1) dL_strong_5 rfl rfl (by first | decide | exact Nat.le_of_ble_eq_true rfl) (by rw [hR]; exact ⟨by first | decide | exact Nat.le_of_ble_eq_true rfl | (dsimp only; omega), by first | decide | exact Nat.le_of_ble_eq_true rfl | (dsimp only; omega)⟩) (by rw [hR]; exact ⟨by first | decide | exact Nat.le_of_ble_eq_true rfl | (dsimp only; omega), by first | decide | exact Nat.le_of_ble_eq_true rfl | (dsimp only; omega)⟩) (fun v M1 hv => ?_) (fun E M1 h1 => ?_)
  · obtain ⟨e0, rfl, hs1, hk1⟩ := hv
    have ho1 := hk1 _ _ ho (by omega)
    refine aw_last X dL_strong_8 ho1 rfl (by omega) (by decide) ?_
    refine aw_goto X dL_strong_9 (tgt := 16) (by decide) ?_
    refine aw_iconst X dL_strong_16 (v := nI 0) (by decide) ?_
    refine aw_ireturn X (ty := .int) hr (by first | rfl | decide | assumption) dL_strong_17 (lwP.ok e0 hs1 hk1 ho2 rfl)
  · obtain ⟨hpos, hE, hs1, hk1⟩ := h1
    have ho1 := hk1 _ _ ho (by omega)
    have hle : (spStrong τ g b).1 ≤ 1 := le_spStrong
    have ej : (spStrong τ g b).1 = 1 := by omega
    have hE2 : E = exI := hE.trans (congrArg ecI ej)
    subst hE2
    refine ax_catch X [] ⟨0, 9, 12, 19⟩ [] (by rw [htab]; rfl) (fun z hz => nomatch hz) (by decide) (by decide) cnL_19 ct_I (fun q => ?_)
    refine aw_astore4 X dL_strong_12 (by rw [hn]; decide) rfl ?_
    refine aw_iconst X dL_strong_14 (v := nI 1) (by decide) ?_
    refine aw_ireturn X (ty := .int) hr (by first | rfl | decide | assumption) dL_strong_15 (lwP.ex ej (by decide) hs1 hk1 ho1)
theorem le_spCompare {τ : TS} {d g f : Int32} : (spCompare τ d g f).1 ≤ 2 := by
  unfold spCompare
  repeat' split
  all_goals first | (dsimp only; omega) | decide
theorem c_L_compare {l : Launch} {G : AG} {M : AM} {x D o : Nat} {τ : TS} {d g f : Int32} (hfl : l.stackTraces = false) (hs : isRS G M x D τ) {S : Nat → Int64} (ho : M.1 o = some (am_al G 1 S)) (ho2 : x + 271 ≤ o ∧ o < D) : Ch l G yL_compare cL_compare 6 (some .int) [(0, 12, 15, 19), (0, 12, 19, 13)] { rL_compare with cells := 4, slots := 24 } M [.ref x, .int d, .int g, .int f, .ref o] (lwP cvI G M x D o (spCompare τ d g f)) := by
  refine Ch.of (by decide) [some (.ref x), some (.int d), some (.int g), some (.int f), some (.ref o), none] rfl (Nat.le_of_ble_eq_true rfl) ?_
  intro Z hZ hN htab
  obtain ⟨rfl, hn, rfl, hR, X, hr, hnm⟩ := hZ
  refine aw_aload4 X dL_compare_0 ?_
  refine aw_iconst X dL_compare_2 (v := nI 0) (by decide) ?_
  refine aw_aload0 X dL_compare_3 ?_
  refine aw_iload1 X dL_compare_4 ?_
  refine aw_iload2 X dL_compare_5 ?_
  refine aw_iload3 X dL_compare_6 ?_
  refine aw_callVX X (st := [.int (nI 0), .ref o]) (c_X8_compare hfl hs) kL_59 (ci := 9) rfl (hs.2.2.1) dL_compare_7 rfl rfl (by first | decide | exact Nat.le_of_ble_eq_true rfl) (by rw [hR]; exact ⟨by first | decide | exact Nat.le_of_ble_eq_true rfl | (dsimp only; omega), by first | decide | exact Nat.le_of_ble_eq_true rfl | (dsimp only; omega)⟩) (by rw [hR]; exact ⟨by first | decide | exact Nat.le_of_ble_eq_true rfl | (dsimp only; omega), by first | decide | exact Nat.le_of_ble_eq_true rfl | (dsimp only; omega)⟩) (fun v M1 hv => ?_) (fun E M1 h1 => ?_)
  · obtain ⟨e0, rfl, hs1, hk1⟩ := hv
    have ho1 := hk1 _ _ ho (by omega)
    refine aw_i2l X dL_compare_10 ?_
    refine aw_last X dL_compare_11 ho1 rfl (by omega) (by decide) ?_
    refine aw_goto X dL_compare_12 (tgt := 23) (by decide) ?_
    refine aw_iconst X dL_compare_23 (v := nI 0) (by decide) ?_
    refine aw_ireturn X (ty := .int) hr (by first | rfl | decide | assumption) dL_compare_24 (lwP.ok e0 hs1 hk1 ho2 rfl)
  · obtain ⟨hpos, hE, hs1, hk1⟩ := h1
    have ho1 := hk1 _ _ ho (by omega)
    have hle : (spCompare τ d g f).1 ≤ 2 := le_spCompare
    by_cases ej : (spCompare τ d g f).1 = 1
    · have hE2 : E = exI := hE.trans (congrArg ecIS ej)
      subst hE2
      refine ax_catch X [] ⟨0, 12, 15, 19⟩ [⟨0, 12, 19, 13⟩] (by rw [htab]; rfl) (fun z hz => nomatch hz) (by decide) (by decide) cnL_19 ct_I (fun q => ?_)
      refine aw_astore5 X dL_compare_15 (by rw [hn]; decide) rfl ?_
      refine aw_iconst X dL_compare_17 (v := nI 1) (by decide) ?_
      refine aw_ireturn X (ty := .int) hr (by first | rfl | decide | assumption) dL_compare_18 (lwP.ex ej (by decide) hs1 hk1 ho1)
    have ej2 : (spCompare τ d g f).1 = 2 := by omega
    have hE2 : E = exS := hE.trans (congrArg ecIS ej2)
    subst hE2
    refine ax_catch X [⟨0, 12, 15, 19⟩] ⟨0, 12, 19, 13⟩ [] (by rw [htab]; rfl) (List.forall_mem_cons.mpr ⟨Or.inr ⟨by decide, exI, cnL_19, hN.2.1⟩, List.forall_mem_nil _⟩) (by decide) (by decide) cnL_13 ct_S (fun q => ?_)
    refine aw_astore5 X dL_compare_19 (by rw [hn]; decide) rfl ?_
    refine aw_iconst X dL_compare_21 (v := nI 2) (by decide) ?_
    refine aw_ireturn X (ty := .int) hr (by first | rfl | decide | assumption) dL_compare_22 (lwP.ex ej2 (by decide) hs1 hk1 ho1)
theorem le_spInstr {τ : TS} {g : Int32} : (spInstr τ g).1 ≤ 1 := by
  unfold spInstr
  repeat' split
  all_goals first | (dsimp only; omega) | decide
theorem c_L_instructions {l : Launch} {G : AG} {M : AM} {x D o : Nat} {τ : TS} {g : Int32} (hfl : l.stackTraces = false) (hs : isRS G M x D τ) {S : Nat → Int64} (ho : M.1 o = some (am_al G 1 S)) (ho2 : x + 271 ≤ o ∧ o < D) : Ch l G yL_instructions cL_instructions 4 (some .int) [(0, 9, 12, 19)] { rL_instructions with cells := 1, slots := 6 } M [.ref x, .int g, .ref o] (lwP cvI G M x D o (spInstr τ g)) := by
  refine Ch.of (by decide) [some (.ref x), some (.int g), some (.ref o), none] rfl (Nat.le_of_ble_eq_true rfl) ?_
  intro Z hZ hN htab
  obtain ⟨rfl, hn, rfl, hR, X, hr, hnm⟩ := hZ
  refine aw_aload2 X dL_instructions_0 ?_
  refine aw_iconst X dL_instructions_1 (v := nI 0) (by decide) ?_
  refine aw_aload0 X dL_instructions_2 ?_
  refine aw_iload1 X dL_instructions_3 ?_
  refine aw_callVX X (st := [.int (nI 0), .ref o]) (c_X8_instructions hfl hs) kL_62 (ci := 9) rfl (hs.2.2.1) dL_instructions_4 rfl rfl (by first | decide | exact Nat.le_of_ble_eq_true rfl) (by rw [hR]; exact ⟨by first | decide | exact Nat.le_of_ble_eq_true rfl | (dsimp only; omega), by first | decide | exact Nat.le_of_ble_eq_true rfl | (dsimp only; omega)⟩) (by rw [hR]; exact ⟨by first | decide | exact Nat.le_of_ble_eq_true rfl | (dsimp only; omega), by first | decide | exact Nat.le_of_ble_eq_true rfl | (dsimp only; omega)⟩) (fun v M1 hv => ?_) (fun E M1 h1 => ?_)
  · obtain ⟨e0, rfl, hs1, hk1⟩ := hv
    have ho1 := hk1 _ _ ho (by omega)
    refine aw_i2l X dL_instructions_7 ?_
    refine aw_last X dL_instructions_8 ho1 rfl (by omega) (by decide) ?_
    refine aw_goto X dL_instructions_9 (tgt := 15) (by decide) ?_
    refine aw_iconst X dL_instructions_15 (v := nI 0) (by decide) ?_
    refine aw_ireturn X (ty := .int) hr (by first | rfl | decide | assumption) dL_instructions_16 (lwP.ok e0 hs1 hk1 ho2 rfl)
  · obtain ⟨hpos, hE, hs1, hk1⟩ := h1
    have ho1 := hk1 _ _ ho (by omega)
    have hle : (spInstr τ g).1 ≤ 1 := le_spInstr
    have ej : (spInstr τ g).1 = 1 := by omega
    have hE2 : E = exI := hE.trans (congrArg ecI ej)
    subst hE2
    refine ax_catch X [] ⟨0, 9, 12, 19⟩ [] (by rw [htab]; rfl) (fun z hz => nomatch hz) (by decide) (by decide) cnL_19 ct_I (fun q => ?_)
    refine aw_astore3 X dL_instructions_12 (by rw [hn]; decide) rfl ?_
    refine aw_iconst X dL_instructions_13 (v := nI 1) (by decide) ?_
    refine aw_ireturn X (ty := .int) hr (by first | rfl | decide | assumption) dL_instructions_14 (lwP.ex ej (by decide) hs1 hk1 ho1)
theorem le_spIsCopy {τ : TS} {g b : Int32} : (spIsCopy τ g b).1 ≤ 1 := by
  unfold spIsCopy
  repeat' split
  all_goals first | (dsimp only; omega) | decide
theorem c_L_isCopy {l : Launch} {G : AG} {M : AM} {x D o : Nat} {τ : TS} {g b : Int32} (hfl : l.stackTraces = false) (hs : isRS G M x D τ) {S : Nat → Int64} (ho : M.1 o = some (am_al G 1 S)) (ho2 : x + 271 ≤ o ∧ o < D) : Ch l G yL_isCopy cL_isCopy 5 (some .int) [(0, 17, 20, 19)] { rL_isCopy with cells := 2, slots := 12 } M [.ref x, .int g, .int b, .ref o] (lwP cvB G M x D o (spIsCopy τ g b)) := by
  refine Ch.of (by decide) [some (.ref x), some (.int g), some (.int b), some (.ref o), none] rfl (Nat.le_of_ble_eq_true rfl) ?_
  intro Z hZ hN htab
  obtain ⟨rfl, hn, rfl, hR, X, hr, hnm⟩ := hZ
  refine aw_aload3 X dL_isCopy_0 ?_
  refine aw_iconst X dL_isCopy_1 (v := nI 0) (by decide) ?_
  refine aw_aload0 X dL_isCopy_2 ?_
  refine aw_iload1 X dL_isCopy_3 ?_
  refine aw_iload2 X dL_isCopy_4 ?_
  refine aw_callVX X (st := [.int (nI 0), .ref o]) (c_X8_isCopy hfl hs) kL_65 (ci := 9) rfl (hs.2.2.1) dL_isCopy_5 rfl rfl (by first | decide | exact Nat.le_of_ble_eq_true rfl) (by rw [hR]; exact ⟨by first | decide | exact Nat.le_of_ble_eq_true rfl | (dsimp only; omega), by first | decide | exact Nat.le_of_ble_eq_true rfl | (dsimp only; omega)⟩) (by rw [hR]; exact ⟨by first | decide | exact Nat.le_of_ble_eq_true rfl | (dsimp only; omega), by first | decide | exact Nat.le_of_ble_eq_true rfl | (dsimp only; omega)⟩) (fun v M1 hv => ?_) (fun E M1 h1 => ?_)
  · obtain ⟨e0, rfl, hs1, hk1⟩ := hv
    have ho1 := hk1 _ _ ho (by omega)
    refine aw_ifeq X dL_isCopy_8 (tgt := 15) (by decide) (fun c1 => ?_) (fun c1 => ?_)
    · refine aw_lconst X dL_isCopy_15 (v := 0) (by decide) ?_
      refine aw_last X dL_isCopy_16 ho1 rfl (by omega) (by decide) ?_
      refine aw_goto X dL_isCopy_17 (tgt := 24) (by decide) ?_
      refine aw_iconst X dL_isCopy_24 (v := nI 0) (by decide) ?_
      refine aw_ireturn X (ty := .int) hr (by first | rfl | decide | assumption) dL_isCopy_25 (lwP.ok e0 hs1 hk1 ho2 (by rw [cvB, if_pos c1]))
    · refine aw_lconst X dL_isCopy_11 (v := 1) (by decide) ?_
      refine aw_goto X dL_isCopy_12 (tgt := 16) (by decide) ?_
      refine aw_last X dL_isCopy_16 ho1 rfl (by omega) (by decide) ?_
      refine aw_goto X dL_isCopy_17 (tgt := 24) (by decide) ?_
      refine aw_iconst X dL_isCopy_24 (v := nI 0) (by decide) ?_
      refine aw_ireturn X (ty := .int) hr (by first | rfl | decide | assumption) dL_isCopy_25 (lwP.ok e0 hs1 hk1 ho2 (by rw [cvB, if_neg c1]))
  · obtain ⟨hpos, hE, hs1, hk1⟩ := h1
    have ho1 := hk1 _ _ ho (by omega)
    have hle : (spIsCopy τ g b).1 ≤ 1 := le_spIsCopy
    have ej : (spIsCopy τ g b).1 = 1 := by omega
    have hE2 : E = exI := hE.trans (congrArg ecI ej)
    subst hE2
    refine ax_catch X [] ⟨0, 17, 20, 19⟩ [] (by rw [htab]; rfl) (fun z hz => nomatch hz) (by decide) (by decide) cnL_19 ct_I (fun q => ?_)
    refine aw_astore4 X dL_isCopy_20 (by rw [hn]; decide) rfl ?_
    refine aw_iconst X dL_isCopy_22 (v := nI 1) (by decide) ?_
    refine aw_ireturn X (ty := .int) hr (by first | rfl | decide | assumption) dL_isCopy_23 (lwP.ex ej (by decide) hs1 hk1 ho1)
theorem le_spStart {τ : TS} {g b : Int32} : (spStart τ g b).1 ≤ 1 := by
  unfold spStart
  repeat' split
  all_goals first | (dsimp only; omega) | decide
theorem c_L_startOf {l : Launch} {G : AG} {M : AM} {x D o : Nat} {τ : TS} {g b : Int32} (hfl : l.stackTraces = false) (hs : isRS G M x D τ) {S : Nat → Int64} (ho : M.1 o = some (am_al G 1 S)) (ho2 : x + 271 ≤ o ∧ o < D) : Ch l G yL_startOf cL_startOf 5 (some .int) [(0, 10, 13, 19)] { rL_startOf with cells := 2, slots := 12 } M [.ref x, .int g, .int b, .ref o] (lwP cvI G M x D o (spStart τ g b)) := by
  refine Ch.of (by decide) [some (.ref x), some (.int g), some (.int b), some (.ref o), none] rfl (Nat.le_of_ble_eq_true rfl) ?_
  intro Z hZ hN htab
  obtain ⟨rfl, hn, rfl, hR, X, hr, hnm⟩ := hZ
  refine aw_aload3 X dL_startOf_0 ?_
  refine aw_iconst X dL_startOf_1 (v := nI 0) (by decide) ?_
  refine aw_aload0 X dL_startOf_2 ?_
  refine aw_iload1 X dL_startOf_3 ?_
  refine aw_iload2 X dL_startOf_4 ?_
  refine aw_callVX X (st := [.int (nI 0), .ref o]) (c_X8_startOf hfl hs) kL_68 (ci := 9) rfl (hs.2.2.1) dL_startOf_5 rfl rfl (by first | decide | exact Nat.le_of_ble_eq_true rfl) (by rw [hR]; exact ⟨by first | decide | exact Nat.le_of_ble_eq_true rfl | (dsimp only; omega), by first | decide | exact Nat.le_of_ble_eq_true rfl | (dsimp only; omega)⟩) (by rw [hR]; exact ⟨by first | decide | exact Nat.le_of_ble_eq_true rfl | (dsimp only; omega), by first | decide | exact Nat.le_of_ble_eq_true rfl | (dsimp only; omega)⟩) (fun v M1 hv => ?_) (fun E M1 h1 => ?_)
  · obtain ⟨e0, rfl, hs1, hk1⟩ := hv
    have ho1 := hk1 _ _ ho (by omega)
    refine aw_i2l X dL_startOf_8 ?_
    refine aw_last X dL_startOf_9 ho1 rfl (by omega) (by decide) ?_
    refine aw_goto X dL_startOf_10 (tgt := 17) (by decide) ?_
    refine aw_iconst X dL_startOf_17 (v := nI 0) (by decide) ?_
    refine aw_ireturn X (ty := .int) hr (by first | rfl | decide | assumption) dL_startOf_18 (lwP.ok e0 hs1 hk1 ho2 rfl)
  · obtain ⟨hpos, hE, hs1, hk1⟩ := h1
    have ho1 := hk1 _ _ ho (by omega)
    have hle : (spStart τ g b).1 ≤ 1 := le_spStart
    have ej : (spStart τ g b).1 = 1 := by omega
    have hE2 : E = exI := hE.trans (congrArg ecI ej)
    subst hE2
    refine ax_catch X [] ⟨0, 10, 13, 19⟩ [] (by rw [htab]; rfl) (fun z hz => nomatch hz) (by decide) (by decide) cnL_19 ct_I (fun q => ?_)
    refine aw_astore4 X dL_startOf_13 (by rw [hn]; decide) rfl ?_
    refine aw_iconst X dL_startOf_15 (v := nI 1) (by decide) ?_
    refine aw_ireturn X (ty := .int) hr (by first | rfl | decide | assumption) dL_startOf_16 (lwP.ex ej (by decide) hs1 hk1 ho1)
theorem le_spBytes {τ : TS} {g b : Int32} : (spBytes τ g b).1 ≤ 1 := by
  unfold spBytes
  repeat' split
  all_goals first | (dsimp only; omega) | decide
theorem c_L_bytesOf {l : Launch} {G : AG} {M : AM} {x D o : Nat} {τ : TS} {g b : Int32} (hfl : l.stackTraces = false) (hs : isRS G M x D τ) {S : Nat → Int64} (ho : M.1 o = some (am_al G 1 S)) (ho2 : x + 271 ≤ o ∧ o < D) : Ch l G yL_bytesOf cL_bytesOf 5 (some .int) [(0, 10, 13, 19)] { rL_bytesOf with cells := 2, slots := 12 } M [.ref x, .int g, .int b, .ref o] (lwP cvI G M x D o (spBytes τ g b)) := by
  refine Ch.of (by decide) [some (.ref x), some (.int g), some (.int b), some (.ref o), none] rfl (Nat.le_of_ble_eq_true rfl) ?_
  intro Z hZ hN htab
  obtain ⟨rfl, hn, rfl, hR, X, hr, hnm⟩ := hZ
  refine aw_aload3 X dL_bytesOf_0 ?_
  refine aw_iconst X dL_bytesOf_1 (v := nI 0) (by decide) ?_
  refine aw_aload0 X dL_bytesOf_2 ?_
  refine aw_iload1 X dL_bytesOf_3 ?_
  refine aw_iload2 X dL_bytesOf_4 ?_
  refine aw_callVX X (st := [.int (nI 0), .ref o]) (c_X8_bytesOf hfl hs) kL_71 (ci := 9) rfl (hs.2.2.1) dL_bytesOf_5 rfl rfl (by first | decide | exact Nat.le_of_ble_eq_true rfl) (by rw [hR]; exact ⟨by first | decide | exact Nat.le_of_ble_eq_true rfl | (dsimp only; omega), by first | decide | exact Nat.le_of_ble_eq_true rfl | (dsimp only; omega)⟩) (by rw [hR]; exact ⟨by first | decide | exact Nat.le_of_ble_eq_true rfl | (dsimp only; omega), by first | decide | exact Nat.le_of_ble_eq_true rfl | (dsimp only; omega)⟩) (fun v M1 hv => ?_) (fun E M1 h1 => ?_)
  · obtain ⟨e0, rfl, hs1, hk1⟩ := hv
    have ho1 := hk1 _ _ ho (by omega)
    refine aw_i2l X dL_bytesOf_8 ?_
    refine aw_last X dL_bytesOf_9 ho1 rfl (by omega) (by decide) ?_
    refine aw_goto X dL_bytesOf_10 (tgt := 17) (by decide) ?_
    refine aw_iconst X dL_bytesOf_17 (v := nI 0) (by decide) ?_
    refine aw_ireturn X (ty := .int) hr (by first | rfl | decide | assumption) dL_bytesOf_18 (lwP.ok e0 hs1 hk1 ho2 rfl)
  · obtain ⟨hpos, hE, hs1, hk1⟩ := h1
    have ho1 := hk1 _ _ ho (by omega)
    have hle : (spBytes τ g b).1 ≤ 1 := le_spBytes
    have ej : (spBytes τ g b).1 = 1 := by omega
    have hE2 : E = exI := hE.trans (congrArg ecI ej)
    subst hE2
    refine ax_catch X [] ⟨0, 10, 13, 19⟩ [] (by rw [htab]; rfl) (fun z hz => nomatch hz) (by decide) (by decide) cnL_19 ct_I (fun q => ?_)
    refine aw_astore4 X dL_bytesOf_13 (by rw [hn]; decide) rfl ?_
    refine aw_iconst X dL_bytesOf_15 (v := nI 1) (by decide) ?_
    refine aw_ireturn X (ty := .int) hr (by first | rfl | decide | assumption) dL_bytesOf_16 (lwP.ex ej (by decide) hs1 hk1 ho1)
theorem le_spCost {τ : TS} {g : Int32} : (spCost τ g).1 ≤ 1 := by
  unfold spCost
  repeat' split
  all_goals first | (dsimp only; omega) | decide
theorem c_L_cost {l : Launch} {G : AG} {M : AM} {x D o : Nat} {τ : TS} {g : Int32} (hfl : l.stackTraces = false) (hs : isRS G M x D τ) {S : Nat → Int64} (ho : M.1 o = some (am_al G 1 S)) (ho2 : x + 271 ≤ o ∧ o < D) : Ch l G yL_cost cL_cost 4 (some .int) [(0, 9, 12, 19)] { rL_cost with cells := 1, slots := 6 } M [.ref x, .int g, .ref o] (lwP cvI G M x D o (spCost τ g)) := by
  refine Ch.of (by decide) [some (.ref x), some (.int g), some (.ref o), none] rfl (Nat.le_of_ble_eq_true rfl) ?_
  intro Z hZ hN htab
  obtain ⟨rfl, hn, rfl, hR, X, hr, hnm⟩ := hZ
  refine aw_aload2 X dL_cost_0 ?_
  refine aw_iconst X dL_cost_1 (v := nI 0) (by decide) ?_
  refine aw_aload0 X dL_cost_2 ?_
  refine aw_iload1 X dL_cost_3 ?_
  refine aw_callVX X (st := [.int (nI 0), .ref o]) (c_X8_cost hfl hs) kL_74 (ci := 9) rfl (hs.2.2.1) dL_cost_4 rfl rfl (by first | decide | exact Nat.le_of_ble_eq_true rfl) (by rw [hR]; exact ⟨by first | decide | exact Nat.le_of_ble_eq_true rfl | (dsimp only; omega), by first | decide | exact Nat.le_of_ble_eq_true rfl | (dsimp only; omega)⟩) (by rw [hR]; exact ⟨by first | decide | exact Nat.le_of_ble_eq_true rfl | (dsimp only; omega), by first | decide | exact Nat.le_of_ble_eq_true rfl | (dsimp only; omega)⟩) (fun v M1 hv => ?_) (fun E M1 h1 => ?_)
  · obtain ⟨e0, rfl, hs1, hk1⟩ := hv
    have ho1 := hk1 _ _ ho (by omega)
    refine aw_i2l X dL_cost_7 ?_
    refine aw_last X dL_cost_8 ho1 rfl (by omega) (by decide) ?_
    refine aw_goto X dL_cost_9 (tgt := 15) (by decide) ?_
    refine aw_iconst X dL_cost_15 (v := nI 0) (by decide) ?_
    refine aw_ireturn X (ty := .int) hr (by first | rfl | decide | assumption) dL_cost_16 (lwP.ok e0 hs1 hk1 ho2 rfl)
  · obtain ⟨hpos, hE, hs1, hk1⟩ := h1
    have ho1 := hk1 _ _ ho (by omega)
    have hle : (spCost τ g).1 ≤ 1 := le_spCost
    have ej : (spCost τ g).1 = 1 := by omega
    have hE2 : E = exI := hE.trans (congrArg ecI ej)
    subst hE2
    refine ax_catch X [] ⟨0, 9, 12, 19⟩ [] (by rw [htab]; rfl) (fun z hz => nomatch hz) (by decide) (by decide) cnL_19 ct_I (fun q => ?_)
    refine aw_astore3 X dL_cost_12 (by rw [hn]; decide) rfl ?_
    refine aw_iconst X dL_cost_13 (v := nI 1) (by decide) ?_
    refine aw_ireturn X (ty := .int) hr (by first | rfl | decide | assumption) dL_cost_14 (lwP.ex ej (by decide) hs1 hk1 ho1)
theorem le_spAlarms {τ : TS} {g : Int32} : (spAlarms τ g).1 ≤ 1 := by
  unfold spAlarms
  repeat' split
  all_goals first | (dsimp only; omega) | decide
theorem c_L_alarms {l : Launch} {G : AG} {M : AM} {x D o : Nat} {τ : TS} {g : Int32} (hfl : l.stackTraces = false) (hs : isRS G M x D τ) {S : Nat → Int64} (ho : M.1 o = some (am_al G 1 S)) (ho2 : x + 271 ≤ o ∧ o < D) : Ch l G yL_alarms cL_alarms 4 (some .int) [(0, 9, 12, 19)] { rL_alarms with cells := 1, slots := 6 } M [.ref x, .int g, .ref o] (lwP cvI G M x D o (spAlarms τ g)) := by
  refine Ch.of (by decide) [some (.ref x), some (.int g), some (.ref o), none] rfl (Nat.le_of_ble_eq_true rfl) ?_
  intro Z hZ hN htab
  obtain ⟨rfl, hn, rfl, hR, X, hr, hnm⟩ := hZ
  refine aw_aload2 X dL_alarms_0 ?_
  refine aw_iconst X dL_alarms_1 (v := nI 0) (by decide) ?_
  refine aw_aload0 X dL_alarms_2 ?_
  refine aw_iload1 X dL_alarms_3 ?_
  refine aw_callVX X (st := [.int (nI 0), .ref o]) (c_X8_alarms hfl hs) kL_77 (ci := 9) rfl (hs.2.2.1) dL_alarms_4 rfl rfl (by first | decide | exact Nat.le_of_ble_eq_true rfl) (by rw [hR]; exact ⟨by first | decide | exact Nat.le_of_ble_eq_true rfl | (dsimp only; omega), by first | decide | exact Nat.le_of_ble_eq_true rfl | (dsimp only; omega)⟩) (by rw [hR]; exact ⟨by first | decide | exact Nat.le_of_ble_eq_true rfl | (dsimp only; omega), by first | decide | exact Nat.le_of_ble_eq_true rfl | (dsimp only; omega)⟩) (fun v M1 hv => ?_) (fun E M1 h1 => ?_)
  · obtain ⟨e0, rfl, hs1, hk1⟩ := hv
    have ho1 := hk1 _ _ ho (by omega)
    refine aw_i2l X dL_alarms_7 ?_
    refine aw_last X dL_alarms_8 ho1 rfl (by omega) (by decide) ?_
    refine aw_goto X dL_alarms_9 (tgt := 15) (by decide) ?_
    refine aw_iconst X dL_alarms_15 (v := nI 0) (by decide) ?_
    refine aw_ireturn X (ty := .int) hr (by first | rfl | decide | assumption) dL_alarms_16 (lwP.ok e0 hs1 hk1 ho2 rfl)
  · obtain ⟨hpos, hE, hs1, hk1⟩ := h1
    have ho1 := hk1 _ _ ho (by omega)
    have hle : (spAlarms τ g).1 ≤ 1 := le_spAlarms
    have ej : (spAlarms τ g).1 = 1 := by omega
    have hE2 : E = exI := hE.trans (congrArg ecI ej)
    subst hE2
    refine ax_catch X [] ⟨0, 9, 12, 19⟩ [] (by rw [htab]; rfl) (fun z hz => nomatch hz) (by decide) (by decide) cnL_19 ct_I (fun q => ?_)
    refine aw_astore3 X dL_alarms_12 (by rw [hn]; decide) rfl ?_
    refine aw_iconst X dL_alarms_13 (v := nI 1) (by decide) ?_
    refine aw_ireturn X (ty := .int) hr (by first | rfl | decide | assumption) dL_alarms_14 (lwP.ex ej (by decide) hs1 hk1 ho1)
theorem le_spApply {τ : TS} {d g f : Int32} : (spApply τ d g f).1 ≤ 2 := by
  unfold spApply
  repeat' split
  all_goals first | (dsimp only; omega) | decide
theorem c_L_apply {l : Launch} {G : AG} {M : AM} {x D o : Nat} {τ : TS} {d g f : Int32} (hfl : l.stackTraces = false) (hs : isRS G M x D τ) {S : Nat → Int64} (ho : M.1 o = some (am_al G 1 S)) (ho2 : x + 271 ≤ o ∧ o < D) : Ch l G yL_apply cL_apply 6 (some .int) [(0, 12, 15, 19), (0, 12, 19, 13)] { rL_apply with cells := 4, slots := 24 } M [.ref x, .int d, .int g, .int f, .ref o] (lwP cvI G M x D o (spApply τ d g f)) := by
  refine Ch.of (by decide) [some (.ref x), some (.int d), some (.int g), some (.int f), some (.ref o), none] rfl (Nat.le_of_ble_eq_true rfl) ?_
  intro Z hZ hN htab
  obtain ⟨rfl, hn, rfl, hR, X, hr, hnm⟩ := hZ
  refine aw_aload4 X dL_apply_0 ?_
  refine aw_iconst X dL_apply_2 (v := nI 0) (by decide) ?_
  refine aw_aload0 X dL_apply_3 ?_
  refine aw_iload1 X dL_apply_4 ?_
  refine aw_iload2 X dL_apply_5 ?_
  refine aw_iload3 X dL_apply_6 ?_
  refine aw_callVX X (st := [.int (nI 0), .ref o]) (c_X8_apply hfl hs) kL_80 (ci := 9) rfl (hs.2.2.1) dL_apply_7 rfl rfl (by first | decide | exact Nat.le_of_ble_eq_true rfl) (by rw [hR]; exact ⟨by first | decide | exact Nat.le_of_ble_eq_true rfl | (dsimp only; omega), by first | decide | exact Nat.le_of_ble_eq_true rfl | (dsimp only; omega)⟩) (by rw [hR]; exact ⟨by first | decide | exact Nat.le_of_ble_eq_true rfl | (dsimp only; omega), by first | decide | exact Nat.le_of_ble_eq_true rfl | (dsimp only; omega)⟩) (fun v M1 hv => ?_) (fun E M1 h1 => ?_)
  · obtain ⟨e0, rfl, hs1, hk1⟩ := hv
    have ho1 := hk1 _ _ ho (by omega)
    refine aw_i2l X dL_apply_10 ?_
    refine aw_last X dL_apply_11 ho1 rfl (by omega) (by decide) ?_
    refine aw_goto X dL_apply_12 (tgt := 23) (by decide) ?_
    refine aw_iconst X dL_apply_23 (v := nI 0) (by decide) ?_
    refine aw_ireturn X (ty := .int) hr (by first | rfl | decide | assumption) dL_apply_24 (lwP.ok e0 hs1 hk1 ho2 rfl)
  · obtain ⟨hpos, hE, hs1, hk1⟩ := h1
    have ho1 := hk1 _ _ ho (by omega)
    have hle : (spApply τ d g f).1 ≤ 2 := le_spApply
    by_cases ej : (spApply τ d g f).1 = 1
    · have hE2 : E = exI := hE.trans (congrArg ecIS ej)
      subst hE2
      refine ax_catch X [] ⟨0, 12, 15, 19⟩ [⟨0, 12, 19, 13⟩] (by rw [htab]; rfl) (fun z hz => nomatch hz) (by decide) (by decide) cnL_19 ct_I (fun q => ?_)
      refine aw_astore5 X dL_apply_15 (by rw [hn]; decide) rfl ?_
      refine aw_iconst X dL_apply_17 (v := nI 1) (by decide) ?_
      refine aw_ireturn X (ty := .int) hr (by first | rfl | decide | assumption) dL_apply_18 (lwP.ex ej (by decide) hs1 hk1 ho1)
    have ej2 : (spApply τ d g f).1 = 2 := by omega
    have hE2 : E = exS := hE.trans (congrArg ecIS ej2)
    subst hE2
    refine ax_catch X [⟨0, 12, 15, 19⟩] ⟨0, 12, 19, 13⟩ [] (by rw [htab]; rfl) (List.forall_mem_cons.mpr ⟨Or.inr ⟨by decide, exI, cnL_19, hN.2.1⟩, List.forall_mem_nil _⟩) (by decide) (by decide) cnL_13 ct_S (fun q => ?_)
    refine aw_astore5 X dL_apply_19 (by rw [hn]; decide) rfl ?_
    refine aw_iconst X dL_apply_21 (v := nI 2) (by decide) ?_
    refine aw_ireturn X (ty := .int) hr (by first | rfl | decide | assumption) dL_apply_22 (lwP.ex ej2 (by decide) hs1 hk1 ho1)
theorem le_spKeep {τ : TS} {f : Int32} : (spKeep τ f).1 ≤ 2 := by
  unfold spKeep
  repeat' split
  all_goals first | (dsimp only; omega) | decide
theorem c_L_keep {l : Launch} {G : AG} {M : AM} {x D o : Nat} {τ : TS} {f : Int32} (hfl : l.stackTraces = false) (hs : isRS G M x D τ) {S : Nat → Int64} (ho : M.1 o = some (am_al G 1 S)) (ho2 : x + 271 ≤ o ∧ o < D) : Ch l G yL_keep cL_keep 4 (some .int) [(0, 9, 12, 19), (0, 9, 15, 13)] { rL_keep with cells := 2, slots := 12 } M [.ref x, .int f, .ref o] (lwP cvI G M x D o (spKeep τ f)) := by
  refine Ch.of (by decide) [some (.ref x), some (.int f), some (.ref o), none] rfl (Nat.le_of_ble_eq_true rfl) ?_
  intro Z hZ hN htab
  obtain ⟨rfl, hn, rfl, hR, X, hr, hnm⟩ := hZ
  refine aw_aload2 X dL_keep_0 ?_
  refine aw_iconst X dL_keep_1 (v := nI 0) (by decide) ?_
  refine aw_aload0 X dL_keep_2 ?_
  refine aw_iload1 X dL_keep_3 ?_
  refine aw_callVX X (st := [.int (nI 0), .ref o]) (c_X8_keep hfl hs) kL_83 (ci := 9) rfl (hs.2.2.1) dL_keep_4 rfl rfl (by first | decide | exact Nat.le_of_ble_eq_true rfl) (by rw [hR]; exact ⟨by first | decide | exact Nat.le_of_ble_eq_true rfl | (dsimp only; omega), by first | decide | exact Nat.le_of_ble_eq_true rfl | (dsimp only; omega)⟩) (by rw [hR]; exact ⟨by first | decide | exact Nat.le_of_ble_eq_true rfl | (dsimp only; omega), by first | decide | exact Nat.le_of_ble_eq_true rfl | (dsimp only; omega)⟩) (fun v M1 hv => ?_) (fun E M1 h1 => ?_)
  · obtain ⟨e0, rfl, hs1, hk1⟩ := hv
    have ho1 := hk1 _ _ ho (by omega)
    refine aw_i2l X dL_keep_7 ?_
    refine aw_last X dL_keep_8 ho1 rfl (by omega) (by decide) ?_
    refine aw_goto X dL_keep_9 (tgt := 18) (by decide) ?_
    refine aw_iconst X dL_keep_18 (v := nI 0) (by decide) ?_
    refine aw_ireturn X (ty := .int) hr (by first | rfl | decide | assumption) dL_keep_19 (lwP.ok e0 hs1 hk1 ho2 rfl)
  · obtain ⟨hpos, hE, hs1, hk1⟩ := h1
    have ho1 := hk1 _ _ ho (by omega)
    have hle : (spKeep τ f).1 ≤ 2 := le_spKeep
    by_cases ej : (spKeep τ f).1 = 1
    · have hE2 : E = exI := hE.trans (congrArg ecIS ej)
      subst hE2
      refine ax_catch X [] ⟨0, 9, 12, 19⟩ [⟨0, 9, 15, 13⟩] (by rw [htab]; rfl) (fun z hz => nomatch hz) (by decide) (by decide) cnL_19 ct_I (fun q => ?_)
      refine aw_astore3 X dL_keep_12 (by rw [hn]; decide) rfl ?_
      refine aw_iconst X dL_keep_13 (v := nI 1) (by decide) ?_
      refine aw_ireturn X (ty := .int) hr (by first | rfl | decide | assumption) dL_keep_14 (lwP.ex ej (by decide) hs1 hk1 ho1)
    have ej2 : (spKeep τ f).1 = 2 := by omega
    have hE2 : E = exS := hE.trans (congrArg ecIS ej2)
    subst hE2
    refine ax_catch X [⟨0, 9, 12, 19⟩] ⟨0, 9, 15, 13⟩ [] (by rw [htab]; rfl) (List.forall_mem_cons.mpr ⟨Or.inr ⟨by decide, exI, cnL_19, hN.2.1⟩, List.forall_mem_nil _⟩) (by decide) (by decide) cnL_13 ct_S (fun q => ?_)
    refine aw_astore3 X dL_keep_15 (by rw [hn]; decide) rfl ?_
    refine aw_iconst X dL_keep_16 (v := nI 2) (by decide) ?_
    refine aw_ireturn X (ty := .int) hr (by first | rfl | decide | assumption) dL_keep_17 (lwP.ex ej2 (by decide) hs1 hk1 ho1)
theorem le_spKeepDelta {τ : TS} {f v b : Int32} : (spKeepDelta τ f v b).1 ≤ 3 := by
  unfold spKeepDelta
  repeat' split
  all_goals first | (dsimp only; omega) | decide
theorem c_L_keepDelta {l : Launch} {G : AG} {M : AM} {x D o : Nat} {τ : TS} {f v b : Int32} (hfl : l.stackTraces = false) (hs : isRS G M x D τ) {S : Nat → Int64} (ho : M.1 o = some (am_al G 1 S)) (ho2 : x + 271 ≤ o ∧ o < D) : Ch l G yL_keepDelta cL_keepDelta 6 (some .int) [(0, 12, 15, 19), (0, 12, 19, 21), (0, 12, 23, 13)] { rL_keepDelta with cells := 5, slots := 30 } M [.ref x, .int f, .int v, .int b, .ref o] (lwP cvI G M x D o (spKeepDelta τ f v b)) := by
  refine Ch.of (by decide) [some (.ref x), some (.int f), some (.int v), some (.int b), some (.ref o), none] rfl (Nat.le_of_ble_eq_true rfl) ?_
  intro Z hZ hN htab
  obtain ⟨rfl, hn, rfl, hR, X, hr, hnm⟩ := hZ
  refine aw_aload4 X dL_keepDelta_0 ?_
  refine aw_iconst X dL_keepDelta_2 (v := nI 0) (by decide) ?_
  refine aw_aload0 X dL_keepDelta_3 ?_
  refine aw_iload1 X dL_keepDelta_4 ?_
  refine aw_iload2 X dL_keepDelta_5 ?_
  refine aw_iload3 X dL_keepDelta_6 ?_
  refine aw_callVX X (st := [.int (nI 0), .ref o]) (c_X8_keepDelta hfl hs) kL_86 (ci := 9) rfl (hs.2.2.1) dL_keepDelta_7 rfl rfl (by first | decide | exact Nat.le_of_ble_eq_true rfl) (by rw [hR]; exact ⟨by first | decide | exact Nat.le_of_ble_eq_true rfl | (dsimp only; omega), by first | decide | exact Nat.le_of_ble_eq_true rfl | (dsimp only; omega)⟩) (by rw [hR]; exact ⟨by first | decide | exact Nat.le_of_ble_eq_true rfl | (dsimp only; omega), by first | decide | exact Nat.le_of_ble_eq_true rfl | (dsimp only; omega)⟩) (fun v M1 hv => ?_) (fun E M1 h1 => ?_)
  · obtain ⟨e0, rfl, hs1, hk1⟩ := hv
    have ho1 := hk1 _ _ ho (by omega)
    refine aw_i2l X dL_keepDelta_10 ?_
    refine aw_last X dL_keepDelta_11 ho1 rfl (by omega) (by decide) ?_
    refine aw_goto X dL_keepDelta_12 (tgt := 27) (by decide) ?_
    refine aw_iconst X dL_keepDelta_27 (v := nI 0) (by decide) ?_
    refine aw_ireturn X (ty := .int) hr (by first | rfl | decide | assumption) dL_keepDelta_28 (lwP.ok e0 hs1 hk1 ho2 rfl)
  · obtain ⟨hpos, hE, hs1, hk1⟩ := h1
    have ho1 := hk1 _ _ ho (by omega)
    have hle : (spKeepDelta τ f v b).1 ≤ 3 := le_spKeepDelta
    by_cases ej : (spKeepDelta τ f v b).1 = 1
    · have hE2 : E = exI := hE.trans (congrArg ecIAS ej)
      subst hE2
      refine ax_catch X [] ⟨0, 12, 15, 19⟩ [⟨0, 12, 19, 21⟩, ⟨0, 12, 23, 13⟩] (by rw [htab]; rfl) (fun z hz => nomatch hz) (by decide) (by decide) cnL_19 ct_I (fun q => ?_)
      refine aw_astore5 X dL_keepDelta_15 (by rw [hn]; decide) rfl ?_
      refine aw_iconst X dL_keepDelta_17 (v := nI 1) (by decide) ?_
      refine aw_ireturn X (ty := .int) hr (by first | rfl | decide | assumption) dL_keepDelta_18 (lwP.ex ej (by decide) hs1 hk1 ho1)
    by_cases ej : (spKeepDelta τ f v b).1 = 2
    · have hE2 : E = exA := hE.trans (congrArg ecIAS ej)
      subst hE2
      refine ax_catch X [⟨0, 12, 15, 19⟩] ⟨0, 12, 19, 21⟩ [⟨0, 12, 23, 13⟩] (by rw [htab]; rfl) (List.forall_mem_cons.mpr ⟨Or.inr ⟨by decide, exI, cnL_19, hN.1⟩, List.forall_mem_nil _⟩) (by decide) (by decide) cnL_21 ct_A (fun q => ?_)
      refine aw_astore5 X dL_keepDelta_19 (by rw [hn]; decide) rfl ?_
      refine aw_iconst X dL_keepDelta_21 (v := nI 2) (by decide) ?_
      refine aw_ireturn X (ty := .int) hr (by first | rfl | decide | assumption) dL_keepDelta_22 (lwP.ex ej (by decide) hs1 hk1 ho1)
    have ej2 : (spKeepDelta τ f v b).1 = 3 := by omega
    have hE2 : E = exS := hE.trans (congrArg ecIAS ej2)
    subst hE2
    refine ax_catch X [⟨0, 12, 15, 19⟩, ⟨0, 12, 19, 21⟩] ⟨0, 12, 23, 13⟩ [] (by rw [htab]; rfl) (List.forall_mem_cons.mpr ⟨Or.inr ⟨by decide, exI, cnL_19, hN.2.1⟩, List.forall_mem_cons.mpr ⟨Or.inr ⟨by decide, exA, cnL_21, hN.2.2⟩, List.forall_mem_nil _⟩⟩) (by decide) (by decide) cnL_13 ct_S (fun q => ?_)
    refine aw_astore5 X dL_keepDelta_23 (by rw [hn]; decide) rfl ?_
    refine aw_iconst X dL_keepDelta_25 (v := nI 3) (by decide) ?_
    refine aw_ireturn X (ty := .int) hr (by first | rfl | decide | assumption) dL_keepDelta_26 (lwP.ex ej2 (by decide) hs1 hk1 ho1)
theorem le_spLose {τ : TS} {v : Int32} : (spLose τ v).1 ≤ 1 := by
  unfold spLose
  repeat' split
  all_goals first | (dsimp only; omega) | decide
theorem c_L_lose {l : Launch} {G : AG} {M : AM} {x D o : Nat} {τ : TS} {v : Int32} (hfl : l.stackTraces = false) (hs : isRS G M x D τ) {S : Nat → Int64} (ho : M.1 o = some (am_al G 1 S)) (ho2 : x + 271 ≤ o ∧ o < D) : Ch l G yL_lose cL_lose 4 (some .int) [(0, 9, 12, 19)] { rL_lose with cells := 1, slots := 6 } M [.ref x, .int v, .ref o] (lwP cvI G M x D o (spLose τ v)) := by
  refine Ch.of (by decide) [some (.ref x), some (.int v), some (.ref o), none] rfl (Nat.le_of_ble_eq_true rfl) ?_
  intro Z hZ hN htab
  obtain ⟨rfl, hn, rfl, hR, X, hr, hnm⟩ := hZ
  refine aw_aload2 X dL_lose_0 ?_
  refine aw_iconst X dL_lose_1 (v := nI 0) (by decide) ?_
  refine aw_aload0 X dL_lose_2 ?_
  refine aw_iload1 X dL_lose_3 ?_
  refine aw_callVX X (st := [.int (nI 0), .ref o]) (c_X8_lose hfl hs) kL_89 (ci := 9) rfl (hs.2.2.1) dL_lose_4 rfl rfl (by first | decide | exact Nat.le_of_ble_eq_true rfl) (by rw [hR]; exact ⟨by first | decide | exact Nat.le_of_ble_eq_true rfl | (dsimp only; omega), by first | decide | exact Nat.le_of_ble_eq_true rfl | (dsimp only; omega)⟩) (by rw [hR]; exact ⟨by first | decide | exact Nat.le_of_ble_eq_true rfl | (dsimp only; omega), by first | decide | exact Nat.le_of_ble_eq_true rfl | (dsimp only; omega)⟩) (fun v M1 hv => ?_) (fun E M1 h1 => ?_)
  · obtain ⟨e0, rfl, hs1, hk1⟩ := hv
    have ho1 := hk1 _ _ ho (by omega)
    refine aw_i2l X dL_lose_7 ?_
    refine aw_last X dL_lose_8 ho1 rfl (by omega) (by decide) ?_
    refine aw_goto X dL_lose_9 (tgt := 15) (by decide) ?_
    refine aw_iconst X dL_lose_15 (v := nI 0) (by decide) ?_
    refine aw_ireturn X (ty := .int) hr (by first | rfl | decide | assumption) dL_lose_16 (lwP.ok e0 hs1 hk1 ho2 rfl)
  · obtain ⟨hpos, hE, hs1, hk1⟩ := h1
    have ho1 := hk1 _ _ ho (by omega)
    have hle : (spLose τ v).1 ≤ 1 := le_spLose
    have ej : (spLose τ v).1 = 1 := by omega
    have hE2 : E = exI := hE.trans (congrArg ecI ej)
    subst hE2
    refine ax_catch X [] ⟨0, 9, 12, 19⟩ [] (by rw [htab]; rfl) (fun z hz => nomatch hz) (by decide) (by decide) cnL_19 ct_I (fun q => ?_)
    refine aw_astore3 X dL_lose_12 (by rw [hn]; decide) rfl ?_
    refine aw_iconst X dL_lose_13 (v := nI 1) (by decide) ?_
    refine aw_ireturn X (ty := .int) hr (by first | rfl | decide | assumption) dL_lose_14 (lwP.ex ej (by decide) hs1 hk1 ho1)
theorem le_spReplace {τ : TS} {v f : Int32} : (spReplace τ v f).1 ≤ 1 := by
  unfold spReplace
  repeat' split
  all_goals first | (dsimp only; omega) | decide
theorem c_L_replace {l : Launch} {G : AG} {M : AM} {x D : Nat} {τ : TS} {v f : Int32} (hfl : l.stackTraces = false) (hs : isRS G M x D τ) : Ch l G yL_replace cL_replace 4 (some .int) [(0, 6, 9, 19)] { rL_replace with cells := 2, slots := 12 } M [.ref x, .int v, .int f] (lwPv G M x D (spReplace τ v f)) := by
  refine Ch.of (by decide) [some (.ref x), some (.int v), some (.int f), none] rfl (Nat.le_of_ble_eq_true rfl) ?_
  intro Z hZ hN htab
  obtain ⟨rfl, hn, rfl, hR, X, hr, hnm⟩ := hZ
  refine aw_aload0 X dL_replace_0 ?_
  refine aw_iload1 X dL_replace_1 ?_
  refine aw_iload2 X dL_replace_2 ?_
  refine aw_callVX X (st := []) (c_X8_replace hfl hs) kL_92 (ci := 9) rfl (hs.2.2.1) dL_replace_3 rfl rfl (by first | decide | exact Nat.le_of_ble_eq_true rfl) (by rw [hR]; exact ⟨by first | decide | exact Nat.le_of_ble_eq_true rfl | (dsimp only; omega), by first | decide | exact Nat.le_of_ble_eq_true rfl | (dsimp only; omega)⟩) (by rw [hR]; exact ⟨by first | decide | exact Nat.le_of_ble_eq_true rfl | (dsimp only; omega), by first | decide | exact Nat.le_of_ble_eq_true rfl | (dsimp only; omega)⟩) (fun v M1 hv => ?_) (fun E M1 h1 => ?_)
  · obtain ⟨e0, rfl, hs1, hk1⟩ := hv
    refine aw_goto X dL_replace_6 (tgt := 12) (by decide) ?_
    refine aw_iconst X dL_replace_12 (v := nI 0) (by decide) ?_
    refine aw_ireturn X (ty := .int) hr (by first | rfl | decide | assumption) dL_replace_13 (⟨by rw [e0], hs1, hk1⟩)
  · obtain ⟨hpos, hE, hs1, hk1⟩ := h1
    have hle : (spReplace τ v f).1 ≤ 1 := le_spReplace
    have ej : (spReplace τ v f).1 = 1 := by omega
    have hE2 : E = exI := hE.trans (congrArg ecI ej)
    subst hE2
    refine ax_catch X [] ⟨0, 6, 9, 19⟩ [] (by rw [htab]; rfl) (fun z hz => nomatch hz) (by decide) (by decide) cnL_19 ct_I (fun q => ?_)
    refine aw_astore3 X dL_replace_9 (by rw [hn]; decide) rfl ?_
    refine aw_iconst X dL_replace_10 (v := nI 1) (by decide) ?_
    refine aw_ireturn X (ty := .int) hr (by first | rfl | decide | assumption) dL_replace_11 (⟨by rw [ej], hs1, hk1⟩)
theorem le_spRebuild {τ : TS} {v f : Int32} : (spRebuild τ v f).1 ≤ 2 := by
  unfold spRebuild
  repeat' split
  all_goals first | (dsimp only; omega) | decide
theorem c_L_rebuild {l : Launch} {G : AG} {M : AM} {x D o : Nat} {τ : TS} {v f : Int32} (hfl : l.stackTraces = false) (hs : isRS G M x D τ) {S : Nat → Int64} (ho : M.1 o = some (am_al G 1 S)) (ho2 : x + 271 ≤ o ∧ o < D) : Ch l G yL_rebuild cL_rebuild 5 (some .int) [(0, 10, 13, 19), (0, 10, 17, 13)] { rL_rebuild with cells := 3, slots := 18 } M [.ref x, .int v, .int f, .ref o] (lwP cvI G M x D o (spRebuild τ v f)) := by
  refine Ch.of (by decide) [some (.ref x), some (.int v), some (.int f), some (.ref o), none] rfl (Nat.le_of_ble_eq_true rfl) ?_
  intro Z hZ hN htab
  obtain ⟨rfl, hn, rfl, hR, X, hr, hnm⟩ := hZ
  refine aw_aload3 X dL_rebuild_0 ?_
  refine aw_iconst X dL_rebuild_1 (v := nI 0) (by decide) ?_
  refine aw_aload0 X dL_rebuild_2 ?_
  refine aw_iload1 X dL_rebuild_3 ?_
  refine aw_iload2 X dL_rebuild_4 ?_
  refine aw_callVX X (st := [.int (nI 0), .ref o]) (c_X8_rebuild hfl hs) kL_95 (ci := 9) rfl (hs.2.2.1) dL_rebuild_5 rfl rfl (by first | decide | exact Nat.le_of_ble_eq_true rfl) (by rw [hR]; exact ⟨by first | decide | exact Nat.le_of_ble_eq_true rfl | (dsimp only; omega), by first | decide | exact Nat.le_of_ble_eq_true rfl | (dsimp only; omega)⟩) (by rw [hR]; exact ⟨by first | decide | exact Nat.le_of_ble_eq_true rfl | (dsimp only; omega), by first | decide | exact Nat.le_of_ble_eq_true rfl | (dsimp only; omega)⟩) (fun v M1 hv => ?_) (fun E M1 h1 => ?_)
  · obtain ⟨e0, rfl, hs1, hk1⟩ := hv
    have ho1 := hk1 _ _ ho (by omega)
    refine aw_i2l X dL_rebuild_8 ?_
    refine aw_last X dL_rebuild_9 ho1 rfl (by omega) (by decide) ?_
    refine aw_goto X dL_rebuild_10 (tgt := 21) (by decide) ?_
    refine aw_iconst X dL_rebuild_21 (v := nI 0) (by decide) ?_
    refine aw_ireturn X (ty := .int) hr (by first | rfl | decide | assumption) dL_rebuild_22 (lwP.ok e0 hs1 hk1 ho2 rfl)
  · obtain ⟨hpos, hE, hs1, hk1⟩ := h1
    have ho1 := hk1 _ _ ho (by omega)
    have hle : (spRebuild τ v f).1 ≤ 2 := le_spRebuild
    by_cases ej : (spRebuild τ v f).1 = 1
    · have hE2 : E = exI := hE.trans (congrArg ecIS ej)
      subst hE2
      refine ax_catch X [] ⟨0, 10, 13, 19⟩ [⟨0, 10, 17, 13⟩] (by rw [htab]; rfl) (fun z hz => nomatch hz) (by decide) (by decide) cnL_19 ct_I (fun q => ?_)
      refine aw_astore4 X dL_rebuild_13 (by rw [hn]; decide) rfl ?_
      refine aw_iconst X dL_rebuild_15 (v := nI 1) (by decide) ?_
      refine aw_ireturn X (ty := .int) hr (by first | rfl | decide | assumption) dL_rebuild_16 (lwP.ex ej (by decide) hs1 hk1 ho1)
    have ej2 : (spRebuild τ v f).1 = 2 := by omega
    have hE2 : E = exS := hE.trans (congrArg ecIS ej2)
    subst hE2
    refine ax_catch X [⟨0, 10, 13, 19⟩] ⟨0, 10, 17, 13⟩ [] (by rw [htab]; rfl) (List.forall_mem_cons.mpr ⟨Or.inr ⟨by decide, exI, cnL_19, hN.2.1⟩, List.forall_mem_nil _⟩) (by decide) (by decide) cnL_13 ct_S (fun q => ?_)
    refine aw_astore4 X dL_rebuild_17 (by rw [hn]; decide) rfl ?_
    refine aw_iconst X dL_rebuild_19 (v := nI 2) (by decide) ?_
    refine aw_ireturn X (ty := .int) hr (by first | rfl | decide | assumption) dL_rebuild_20 (lwP.ex ej2 (by decide) hs1 hk1 ho1)
theorem le_spBrAt {τ : TS} {v : Int32} : (spBrAt τ v).1 ≤ 1 := by
  unfold spBrAt
  repeat' split
  all_goals first | (dsimp only; omega) | decide
theorem c_L_brokenAt {l : Launch} {G : AG} {M : AM} {x D o : Nat} {τ : TS} {v : Int32} (hfl : l.stackTraces = false) (hs : isRS G M x D τ) {S : Nat → Int64} (ho : M.1 o = some (am_al G 1 S)) (ho2 : x + 271 ≤ o ∧ o < D) : Ch l G yL_brokenAt cL_brokenAt 4 (some .int) [(0, 9, 12, 19)] { rL_brokenAt with cells := 1, slots := 6 } M [.ref x, .int v, .ref o] (lwP cvI G M x D o (spBrAt τ v)) := by
  refine Ch.of (by decide) [some (.ref x), some (.int v), some (.ref o), none] rfl (Nat.le_of_ble_eq_true rfl) ?_
  intro Z hZ hN htab
  obtain ⟨rfl, hn, rfl, hR, X, hr, hnm⟩ := hZ
  refine aw_aload2 X dL_brokenAt_0 ?_
  refine aw_iconst X dL_brokenAt_1 (v := nI 0) (by decide) ?_
  refine aw_aload0 X dL_brokenAt_2 ?_
  refine aw_iload1 X dL_brokenAt_3 ?_
  refine aw_callVX X (st := [.int (nI 0), .ref o]) (c_X8_brokenAt hfl hs) kL_98 (ci := 9) rfl (hs.2.2.1) dL_brokenAt_4 rfl rfl (by first | decide | exact Nat.le_of_ble_eq_true rfl) (by rw [hR]; exact ⟨by first | decide | exact Nat.le_of_ble_eq_true rfl | (dsimp only; omega), by first | decide | exact Nat.le_of_ble_eq_true rfl | (dsimp only; omega)⟩) (by rw [hR]; exact ⟨by first | decide | exact Nat.le_of_ble_eq_true rfl | (dsimp only; omega), by first | decide | exact Nat.le_of_ble_eq_true rfl | (dsimp only; omega)⟩) (fun v M1 hv => ?_) (fun E M1 h1 => ?_)
  · obtain ⟨e0, rfl, hs1, hk1⟩ := hv
    have ho1 := hk1 _ _ ho (by omega)
    refine aw_i2l X dL_brokenAt_7 ?_
    refine aw_last X dL_brokenAt_8 ho1 rfl (by omega) (by decide) ?_
    refine aw_goto X dL_brokenAt_9 (tgt := 15) (by decide) ?_
    refine aw_iconst X dL_brokenAt_15 (v := nI 0) (by decide) ?_
    refine aw_ireturn X (ty := .int) hr (by first | rfl | decide | assumption) dL_brokenAt_16 (lwP.ok e0 hs1 hk1 ho2 rfl)
  · obtain ⟨hpos, hE, hs1, hk1⟩ := h1
    have ho1 := hk1 _ _ ho (by omega)
    have hle : (spBrAt τ v).1 ≤ 1 := le_spBrAt
    have ej : (spBrAt τ v).1 = 1 := by omega
    have hE2 : E = exI := hE.trans (congrArg ecI ej)
    subst hE2
    refine ax_catch X [] ⟨0, 9, 12, 19⟩ [] (by rw [htab]; rfl) (fun z hz => nomatch hz) (by decide) (by decide) cnL_19 ct_I (fun q => ?_)
    refine aw_astore3 X dL_brokenAt_12 (by rw [hn]; decide) rfl ?_
    refine aw_iconst X dL_brokenAt_13 (v := nI 1) (by decide) ?_
    refine aw_ireturn X (ty := .int) hr (by first | rfl | decide | assumption) dL_brokenAt_14 (lwP.ex ej (by decide) hs1 hk1 ho1)
theorem le_spBrAfter {τ : TS} {v : Int32} : (spBrAfter τ v).1 ≤ 1 := by
  unfold spBrAfter
  repeat' split
  all_goals first | (dsimp only; omega) | decide
theorem c_L_brokenAfter {l : Launch} {G : AG} {M : AM} {x D o : Nat} {τ : TS} {v : Int32} (hfl : l.stackTraces = false) (hs : isRS G M x D τ) {S : Nat → Int64} (ho : M.1 o = some (am_al G 1 S)) (ho2 : x + 271 ≤ o ∧ o < D) : Ch l G yL_brokenAfter cL_brokenAfter 4 (some .int) [(0, 9, 12, 19)] { rL_brokenAfter with cells := 1, slots := 6 } M [.ref x, .int v, .ref o] (lwP cvI G M x D o (spBrAfter τ v)) := by
  refine Ch.of (by decide) [some (.ref x), some (.int v), some (.ref o), none] rfl (Nat.le_of_ble_eq_true rfl) ?_
  intro Z hZ hN htab
  obtain ⟨rfl, hn, rfl, hR, X, hr, hnm⟩ := hZ
  refine aw_aload2 X dL_brokenAfter_0 ?_
  refine aw_iconst X dL_brokenAfter_1 (v := nI 0) (by decide) ?_
  refine aw_aload0 X dL_brokenAfter_2 ?_
  refine aw_iload1 X dL_brokenAfter_3 ?_
  refine aw_callVX X (st := [.int (nI 0), .ref o]) (c_X8_brokenAfter hfl hs) kL_101 (ci := 9) rfl (hs.2.2.1) dL_brokenAfter_4 rfl rfl (by first | decide | exact Nat.le_of_ble_eq_true rfl) (by rw [hR]; exact ⟨by first | decide | exact Nat.le_of_ble_eq_true rfl | (dsimp only; omega), by first | decide | exact Nat.le_of_ble_eq_true rfl | (dsimp only; omega)⟩) (by rw [hR]; exact ⟨by first | decide | exact Nat.le_of_ble_eq_true rfl | (dsimp only; omega), by first | decide | exact Nat.le_of_ble_eq_true rfl | (dsimp only; omega)⟩) (fun v M1 hv => ?_) (fun E M1 h1 => ?_)
  · obtain ⟨e0, rfl, hs1, hk1⟩ := hv
    have ho1 := hk1 _ _ ho (by omega)
    refine aw_i2l X dL_brokenAfter_7 ?_
    refine aw_last X dL_brokenAfter_8 ho1 rfl (by omega) (by decide) ?_
    refine aw_goto X dL_brokenAfter_9 (tgt := 15) (by decide) ?_
    refine aw_iconst X dL_brokenAfter_15 (v := nI 0) (by decide) ?_
    refine aw_ireturn X (ty := .int) hr (by first | rfl | decide | assumption) dL_brokenAfter_16 (lwP.ok e0 hs1 hk1 ho2 rfl)
  · obtain ⟨hpos, hE, hs1, hk1⟩ := h1
    have ho1 := hk1 _ _ ho (by omega)
    have hle : (spBrAfter τ v).1 ≤ 1 := le_spBrAfter
    have ej : (spBrAfter τ v).1 = 1 := by omega
    have hE2 : E = exI := hE.trans (congrArg ecI ej)
    subst hE2
    refine ax_catch X [] ⟨0, 9, 12, 19⟩ [] (by rw [htab]; rfl) (fun z hz => nomatch hz) (by decide) (by decide) cnL_19 ct_I (fun q => ?_)
    refine aw_astore3 X dL_brokenAfter_12 (by rw [hn]; decide) rfl ?_
    refine aw_iconst X dL_brokenAfter_13 (v := nI 1) (by decide) ?_
    refine aw_ireturn X (ty := .int) hr (by first | rfl | decide | assumption) dL_brokenAfter_14 (lwP.ex ej (by decide) hs1 hk1 ho1)
theorem le_spReason {τ : TS} {v : Int32} : (spReason τ v).1 ≤ 1 := by
  unfold spReason
  repeat' split
  all_goals first | (dsimp only; omega) | decide
theorem c_L_reason {l : Launch} {G : AG} {M : AM} {x D o : Nat} {τ : TS} {v : Int32} (hfl : l.stackTraces = false) (hs : isRS G M x D τ) {S : Nat → Int64} (ho : M.1 o = some (am_al G 1 S)) (ho2 : x + 271 ≤ o ∧ o < D) : Ch l G yL_reason cL_reason 4 (some .int) [(0, 9, 12, 19)] { rL_reason with cells := 1, slots := 6 } M [.ref x, .int v, .ref o] (lwP cvI G M x D o (spReason τ v)) := by
  refine Ch.of (by decide) [some (.ref x), some (.int v), some (.ref o), none] rfl (Nat.le_of_ble_eq_true rfl) ?_
  intro Z hZ hN htab
  obtain ⟨rfl, hn, rfl, hR, X, hr, hnm⟩ := hZ
  refine aw_aload2 X dL_reason_0 ?_
  refine aw_iconst X dL_reason_1 (v := nI 0) (by decide) ?_
  refine aw_aload0 X dL_reason_2 ?_
  refine aw_iload1 X dL_reason_3 ?_
  refine aw_callVX X (st := [.int (nI 0), .ref o]) (c_X8_reason hfl hs) kL_104 (ci := 9) rfl (hs.2.2.1) dL_reason_4 rfl rfl (by first | decide | exact Nat.le_of_ble_eq_true rfl) (by rw [hR]; exact ⟨by first | decide | exact Nat.le_of_ble_eq_true rfl | (dsimp only; omega), by first | decide | exact Nat.le_of_ble_eq_true rfl | (dsimp only; omega)⟩) (by rw [hR]; exact ⟨by first | decide | exact Nat.le_of_ble_eq_true rfl | (dsimp only; omega), by first | decide | exact Nat.le_of_ble_eq_true rfl | (dsimp only; omega)⟩) (fun v M1 hv => ?_) (fun E M1 h1 => ?_)
  · obtain ⟨e0, rfl, hs1, hk1⟩ := hv
    have ho1 := hk1 _ _ ho (by omega)
    refine aw_i2l X dL_reason_7 ?_
    refine aw_last X dL_reason_8 ho1 rfl (by omega) (by decide) ?_
    refine aw_goto X dL_reason_9 (tgt := 15) (by decide) ?_
    refine aw_iconst X dL_reason_15 (v := nI 0) (by decide) ?_
    refine aw_ireturn X (ty := .int) hr (by first | rfl | decide | assumption) dL_reason_16 (lwP.ok e0 hs1 hk1 ho2 rfl)
  · obtain ⟨hpos, hE, hs1, hk1⟩ := h1
    have ho1 := hk1 _ _ ho (by omega)
    have hle : (spReason τ v).1 ≤ 1 := le_spReason
    have ej : (spReason τ v).1 = 1 := by omega
    have hE2 : E = exI := hE.trans (congrArg ecI ej)
    subst hE2
    refine ax_catch X [] ⟨0, 9, 12, 19⟩ [] (by rw [htab]; rfl) (fun z hz => nomatch hz) (by decide) (by decide) cnL_19 ct_I (fun q => ?_)
    refine aw_astore3 X dL_reason_12 (by rw [hn]; decide) rfl ?_
    refine aw_iconst X dL_reason_13 (v := nI 1) (by decide) ?_
    refine aw_ireturn X (ty := .int) hr (by first | rfl | decide | assumption) dL_reason_14 (lwP.ex ej (by decide) hs1 hk1 ho1)
theorem le_spHeldBy {τ : TS} {v : Int32} : (spHeldBy τ v).1 ≤ 1 := by
  unfold spHeldBy
  repeat' split
  all_goals first | (dsimp only; omega) | decide
theorem c_L_heldBy {l : Launch} {G : AG} {M : AM} {x D o : Nat} {τ : TS} {v : Int32} (hfl : l.stackTraces = false) (hs : isRS G M x D τ) {S : Nat → Int64} (ho : M.1 o = some (am_al G 1 S)) (ho2 : x + 271 ≤ o ∧ o < D) : Ch l G yL_heldBy cL_heldBy 4 (some .int) [(0, 9, 12, 19)] { rL_heldBy with cells := 1, slots := 6 } M [.ref x, .int v, .ref o] (lwP cvI G M x D o (spHeldBy τ v)) := by
  refine Ch.of (by decide) [some (.ref x), some (.int v), some (.ref o), none] rfl (Nat.le_of_ble_eq_true rfl) ?_
  intro Z hZ hN htab
  obtain ⟨rfl, hn, rfl, hR, X, hr, hnm⟩ := hZ
  refine aw_aload2 X dL_heldBy_0 ?_
  refine aw_iconst X dL_heldBy_1 (v := nI 0) (by decide) ?_
  refine aw_aload0 X dL_heldBy_2 ?_
  refine aw_iload1 X dL_heldBy_3 ?_
  refine aw_callVX X (st := [.int (nI 0), .ref o]) (c_X8_heldBy hfl hs) kL_107 (ci := 9) rfl (hs.2.2.1) dL_heldBy_4 rfl rfl (by first | decide | exact Nat.le_of_ble_eq_true rfl) (by rw [hR]; exact ⟨by first | decide | exact Nat.le_of_ble_eq_true rfl | (dsimp only; omega), by first | decide | exact Nat.le_of_ble_eq_true rfl | (dsimp only; omega)⟩) (by rw [hR]; exact ⟨by first | decide | exact Nat.le_of_ble_eq_true rfl | (dsimp only; omega), by first | decide | exact Nat.le_of_ble_eq_true rfl | (dsimp only; omega)⟩) (fun v M1 hv => ?_) (fun E M1 h1 => ?_)
  · obtain ⟨e0, rfl, hs1, hk1⟩ := hv
    have ho1 := hk1 _ _ ho (by omega)
    refine aw_i2l X dL_heldBy_7 ?_
    refine aw_last X dL_heldBy_8 ho1 rfl (by omega) (by decide) ?_
    refine aw_goto X dL_heldBy_9 (tgt := 15) (by decide) ?_
    refine aw_iconst X dL_heldBy_15 (v := nI 0) (by decide) ?_
    refine aw_ireturn X (ty := .int) hr (by first | rfl | decide | assumption) dL_heldBy_16 (lwP.ok e0 hs1 hk1 ho2 rfl)
  · obtain ⟨hpos, hE, hs1, hk1⟩ := h1
    have ho1 := hk1 _ _ ho (by omega)
    have hle : (spHeldBy τ v).1 ≤ 1 := le_spHeldBy
    have ej : (spHeldBy τ v).1 = 1 := by omega
    have hE2 : E = exI := hE.trans (congrArg ecI ej)
    subst hE2
    refine ax_catch X [] ⟨0, 9, 12, 19⟩ [] (by rw [htab]; rfl) (fun z hz => nomatch hz) (by decide) (by decide) cnL_19 ct_I (fun q => ?_)
    refine aw_astore3 X dL_heldBy_12 (by rw [hn]; decide) rfl ?_
    refine aw_iconst X dL_heldBy_13 (v := nI 1) (by decide) ?_
    refine aw_ireturn X (ty := .int) hr (by first | rfl | decide | assumption) dL_heldBy_14 (lwP.ex ej (by decide) hs1 hk1 ho1)
theorem le_spCuts {τ : TS} {a b c : Int32} : (spCuts τ a b c).1 ≤ 1 := by
  unfold spCuts
  repeat' split
  all_goals first | (dsimp only; omega) | decide
theorem c_L_cuts {l : Launch} {G : AG} {M : AM} {x D : Nat} {τ : TS} {a b c : Int32} (hfl : l.stackTraces = false) (hs : isRS G M x D τ) : Ch l G yL_cuts cL_cuts 5 (some .int) [(0, 7, 10, 21)] { rL_cuts with cells := 3, slots := 18 } M [.ref x, .int a, .int b, .int c] (lwPv G M x D (spCuts τ a b c)) := by
  refine Ch.of (by decide) [some (.ref x), some (.int a), some (.int b), some (.int c), none] rfl (Nat.le_of_ble_eq_true rfl) ?_
  intro Z hZ hN htab
  obtain ⟨rfl, hn, rfl, hR, X, hr, hnm⟩ := hZ
  refine aw_aload0 X dL_cuts_0 ?_
  refine aw_iload1 X dL_cuts_1 ?_
  refine aw_iload2 X dL_cuts_2 ?_
  refine aw_iload3 X dL_cuts_3 ?_
  refine aw_callVX X (st := []) (c_X8_cuts hfl hs) kL_110 (ci := 9) rfl (hs.2.2.1) dL_cuts_4 rfl rfl (by first | decide | exact Nat.le_of_ble_eq_true rfl) (by rw [hR]; exact ⟨by first | decide | exact Nat.le_of_ble_eq_true rfl | (dsimp only; omega), by first | decide | exact Nat.le_of_ble_eq_true rfl | (dsimp only; omega)⟩) (by rw [hR]; exact ⟨by first | decide | exact Nat.le_of_ble_eq_true rfl | (dsimp only; omega), by first | decide | exact Nat.le_of_ble_eq_true rfl | (dsimp only; omega)⟩) (fun v M1 hv => ?_) (fun E M1 h1 => ?_)
  · obtain ⟨e0, rfl, hs1, hk1⟩ := hv
    refine aw_goto X dL_cuts_7 (tgt := 14) (by decide) ?_
    refine aw_iconst X dL_cuts_14 (v := nI 0) (by decide) ?_
    refine aw_ireturn X (ty := .int) hr (by first | rfl | decide | assumption) dL_cuts_15 (⟨by rw [e0], hs1, hk1⟩)
  · obtain ⟨hpos, hE, hs1, hk1⟩ := h1
    have hle : (spCuts τ a b c).1 ≤ 1 := le_spCuts
    have ej : (spCuts τ a b c).1 = 1 := by omega
    have hE2 : E = exA := hE.trans (congrArg (fun _ : Nat => exA) ej)
    subst hE2
    refine ax_catch X [] ⟨0, 7, 10, 21⟩ [] (by rw [htab]; rfl) (fun z hz => nomatch hz) (by decide) (by decide) cnL_21 ct_A (fun q => ?_)
    refine aw_astore4 X dL_cuts_10 (by rw [hn]; decide) rfl ?_
    refine aw_iconst X dL_cuts_12 (v := nI 1) (by decide) ?_
    refine aw_ireturn X (ty := .int) hr (by first | rfl | decide | assumption) dL_cuts_13 (⟨by rw [ej], hs1, hk1⟩)
theorem le_spStore {τ : TS} {f : Int32} : (spStore τ f).1 ≤ 2 := by
  unfold spStore
  repeat' split
  all_goals first | (dsimp only; omega) | decide
theorem c_L_store {l : Launch} {G : AG} {M : AM} {x D o : Nat} {τ : TS} {f : Int32} (hfl : l.stackTraces = false) (hs : isRS G M x D τ) (hD : ∃ y, M.1 (D - 1) = some y) {S : Nat → Int64} (ho : M.1 o = some (am_al G 1 S)) (ho2 : x + 271 ≤ o ∧ o < D) : Ch l G yL_store cL_store 4 (some .int) [(0, 9, 12, 19), (0, 9, 15, 13)] { rL_store with cells := 482, slots := 9712 } M [.ref x, .int f, .ref o] (lwP cvI G M x D o (spStore τ f)) := by
  refine Ch.of (by decide) [some (.ref x), some (.int f), some (.ref o), none] rfl (Nat.le_of_ble_eq_true rfl) ?_
  intro Z hZ hN htab
  obtain ⟨rfl, hn, rfl, hR, X, hr, hnm⟩ := hZ
  refine aw_aload2 X dL_store_0 ?_
  refine aw_iconst X dL_store_1 (v := nI 0) (by decide) ?_
  refine aw_aload0 X dL_store_2 ?_
  refine aw_iload1 X dL_store_3 ?_
  refine aw_callVX X (st := [.int (nI 0), .ref o]) (c_X8_store hfl hs hD) kL_114 (ci := 9) rfl (hs.2.2.1) dL_store_4 rfl rfl (by first | decide | exact Nat.le_of_ble_eq_true rfl) (by rw [hR]; exact ⟨by first | decide | exact Nat.le_of_ble_eq_true rfl | (dsimp only; omega), by first | decide | exact Nat.le_of_ble_eq_true rfl | (dsimp only; omega)⟩) (by rw [hR]; exact ⟨by first | decide | exact Nat.le_of_ble_eq_true rfl | (dsimp only; omega), by first | decide | exact Nat.le_of_ble_eq_true rfl | (dsimp only; omega)⟩) (fun v M1 hv => ?_) (fun E M1 h1 => ?_)
  · obtain ⟨e0, rfl, hs1, hk1⟩ := hv
    have ho1 := hk1 _ _ ho (by omega)
    refine aw_i2l X dL_store_7 ?_
    refine aw_last X dL_store_8 ho1 rfl (by omega) (by decide) ?_
    refine aw_goto X dL_store_9 (tgt := 18) (by decide) ?_
    refine aw_iconst X dL_store_18 (v := nI 0) (by decide) ?_
    refine aw_ireturn X (ty := .int) hr (by first | rfl | decide | assumption) dL_store_19 (lwP.ok e0 hs1 hk1 ho2 rfl)
  · obtain ⟨hpos, hE, hs1, hk1⟩ := h1
    have ho1 := hk1 _ _ ho (by omega)
    have hle : (spStore τ f).1 ≤ 2 := le_spStore
    by_cases ej : (spStore τ f).1 = 1
    · have hE2 : E = exI := hE.trans (congrArg ecIS ej)
      subst hE2
      refine ax_catch X [] ⟨0, 9, 12, 19⟩ [⟨0, 9, 15, 13⟩] (by rw [htab]; rfl) (fun z hz => nomatch hz) (by decide) (by decide) cnL_19 ct_I (fun q => ?_)
      refine aw_astore3 X dL_store_12 (by rw [hn]; decide) rfl ?_
      refine aw_iconst X dL_store_13 (v := nI 1) (by decide) ?_
      refine aw_ireturn X (ty := .int) hr (by first | rfl | decide | assumption) dL_store_14 (lwP.ex ej (by decide) hs1 hk1 ho1)
    have ej2 : (spStore τ f).1 = 2 := by omega
    have hE2 : E = exS := hE.trans (congrArg ecIS ej2)
    subst hE2
    refine ax_catch X [⟨0, 9, 12, 19⟩] ⟨0, 9, 15, 13⟩ [] (by rw [htab]; rfl) (List.forall_mem_cons.mpr ⟨Or.inr ⟨by decide, exI, cnL_19, hN.2.1⟩, List.forall_mem_nil _⟩) (by decide) (by decide) cnL_13 ct_S (fun q => ?_)
    refine aw_astore3 X dL_store_15 (by rw [hn]; decide) rfl ?_
    refine aw_iconst X dL_store_16 (v := nI 2) (by decide) ?_
    refine aw_ireturn X (ty := .int) hr (by first | rfl | decide | assumption) dL_store_17 (lwP.ex ej2 (by decide) hs1 hk1 ho1)
theorem le_spRelease {τ : TS} {p : Int32} : (spRelease τ p).1 ≤ 1 := by
  unfold spRelease
  repeat' split
  all_goals first | (dsimp only; omega) | decide
theorem c_L_release {l : Launch} {G : AG} {M : AM} {x D o : Nat} {τ : TS} {p : Int32} (hfl : l.stackTraces = false) (hs : isRS G M x D τ) {S : Nat → Int64} (ho : M.1 o = some (am_al G 1 S)) (ho2 : x + 271 ≤ o ∧ o < D) : Ch l G yL_release cL_release 4 (some .int) [(0, 9, 12, 19)] { rL_release with cells := 2, slots := 12 } M [.ref x, .int p, .ref o] (lwP cvI G M x D o (spRelease τ p)) := by
  refine Ch.of (by decide) [some (.ref x), some (.int p), some (.ref o), none] rfl (Nat.le_of_ble_eq_true rfl) ?_
  intro Z hZ hN htab
  obtain ⟨rfl, hn, rfl, hR, X, hr, hnm⟩ := hZ
  refine aw_aload2 X dL_release_0 ?_
  refine aw_iconst X dL_release_1 (v := nI 0) (by decide) ?_
  refine aw_aload0 X dL_release_2 ?_
  refine aw_iload1 X dL_release_3 ?_
  refine aw_callVX X (st := [.int (nI 0), .ref o]) (c_X8_release hfl hs) kL_117 (ci := 9) rfl (hs.2.2.1) dL_release_4 rfl rfl (by first | decide | exact Nat.le_of_ble_eq_true rfl) (by rw [hR]; exact ⟨by first | decide | exact Nat.le_of_ble_eq_true rfl | (dsimp only; omega), by first | decide | exact Nat.le_of_ble_eq_true rfl | (dsimp only; omega)⟩) (by rw [hR]; exact ⟨by first | decide | exact Nat.le_of_ble_eq_true rfl | (dsimp only; omega), by first | decide | exact Nat.le_of_ble_eq_true rfl | (dsimp only; omega)⟩) (fun v M1 hv => ?_) (fun E M1 h1 => ?_)
  · obtain ⟨e0, rfl, hs1, hk1⟩ := hv
    have ho1 := hk1 _ _ ho (by omega)
    refine aw_i2l X dL_release_7 ?_
    refine aw_last X dL_release_8 ho1 rfl (by omega) (by decide) ?_
    refine aw_goto X dL_release_9 (tgt := 15) (by decide) ?_
    refine aw_iconst X dL_release_15 (v := nI 0) (by decide) ?_
    refine aw_ireturn X (ty := .int) hr (by first | rfl | decide | assumption) dL_release_16 (lwP.ok e0 hs1 hk1 ho2 rfl)
  · obtain ⟨hpos, hE, hs1, hk1⟩ := h1
    have ho1 := hk1 _ _ ho (by omega)
    have hle : (spRelease τ p).1 ≤ 1 := le_spRelease
    have ej : (spRelease τ p).1 = 1 := by omega
    have hE2 : E = exI := hE.trans (congrArg ecI ej)
    subst hE2
    refine ax_catch X [] ⟨0, 9, 12, 19⟩ [] (by rw [htab]; rfl) (fun z hz => nomatch hz) (by decide) (by decide) cnL_19 ct_I (fun q => ?_)
    refine aw_astore3 X dL_release_12 (by rw [hn]; decide) rfl ?_
    refine aw_iconst X dL_release_13 (v := nI 1) (by decide) ?_
    refine aw_ireturn X (ty := .int) hr (by first | rfl | decide | assumption) dL_release_14 (lwP.ex ej (by decide) hs1 hk1 ho1)
theorem le_spFetch {τ : TS} {p f : Int32} : (spFetch τ p f).1 ≤ 1 := by
  unfold spFetch
  repeat' split
  all_goals first | (dsimp only; omega) | decide
theorem c_L_fetch {l : Launch} {G : AG} {M : AM} {x D o : Nat} {τ : TS} {p f : Int32} (hfl : l.stackTraces = false) (hs : isRS G M x D τ) {S : Nat → Int64} (ho : M.1 o = some (am_al G 1 S)) (ho2 : x + 271 ≤ o ∧ o < D) : Ch l G yL_fetch cL_fetch 5 (some .int) [(0, 10, 13, 19)] { rL_fetch with cells := 3, slots := 18 } M [.ref x, .int p, .int f, .ref o] (lwP cvI G M x D o (spFetch τ p f)) := by
  refine Ch.of (by decide) [some (.ref x), some (.int p), some (.int f), some (.ref o), none] rfl (Nat.le_of_ble_eq_true rfl) ?_
  intro Z hZ hN htab
  obtain ⟨rfl, hn, rfl, hR, X, hr, hnm⟩ := hZ
  refine aw_aload3 X dL_fetch_0 ?_
  refine aw_iconst X dL_fetch_1 (v := nI 0) (by decide) ?_
  refine aw_aload0 X dL_fetch_2 ?_
  refine aw_iload1 X dL_fetch_3 ?_
  refine aw_iload2 X dL_fetch_4 ?_
  refine aw_callVX X (st := [.int (nI 0), .ref o]) (c_X8_fetch hfl hs) kL_120 (ci := 9) rfl (hs.2.2.1) dL_fetch_5 rfl rfl (by first | decide | exact Nat.le_of_ble_eq_true rfl) (by rw [hR]; exact ⟨by first | decide | exact Nat.le_of_ble_eq_true rfl | (dsimp only; omega), by first | decide | exact Nat.le_of_ble_eq_true rfl | (dsimp only; omega)⟩) (by rw [hR]; exact ⟨by first | decide | exact Nat.le_of_ble_eq_true rfl | (dsimp only; omega), by first | decide | exact Nat.le_of_ble_eq_true rfl | (dsimp only; omega)⟩) (fun v M1 hv => ?_) (fun E M1 h1 => ?_)
  · obtain ⟨e0, rfl, hs1, hk1⟩ := hv
    have ho1 := hk1 _ _ ho (by omega)
    refine aw_i2l X dL_fetch_8 ?_
    refine aw_last X dL_fetch_9 ho1 rfl (by omega) (by decide) ?_
    refine aw_goto X dL_fetch_10 (tgt := 17) (by decide) ?_
    refine aw_iconst X dL_fetch_17 (v := nI 0) (by decide) ?_
    refine aw_ireturn X (ty := .int) hr (by first | rfl | decide | assumption) dL_fetch_18 (lwP.ok e0 hs1 hk1 ho2 rfl)
  · obtain ⟨hpos, hE, hs1, hk1⟩ := h1
    have ho1 := hk1 _ _ ho (by omega)
    have hle : (spFetch τ p f).1 ≤ 1 := le_spFetch
    have ej : (spFetch τ p f).1 = 1 := by omega
    have hE2 : E = exI := hE.trans (congrArg ecI ej)
    subst hE2
    refine ax_catch X [] ⟨0, 10, 13, 19⟩ [] (by rw [htab]; rfl) (fun z hz => nomatch hz) (by decide) (by decide) cnL_19 ct_I (fun q => ?_)
    refine aw_astore4 X dL_fetch_13 (by rw [hn]; decide) rfl ?_
    refine aw_iconst X dL_fetch_15 (v := nI 1) (by decide) ?_
    refine aw_ireturn X (ty := .int) hr (by first | rfl | decide | assumption) dL_fetch_16 (lwP.ex ej (by decide) hs1 hk1 ho1)
theorem le_spParts {τ : TS} {p : Int32} : (spParts τ p).1 ≤ 1 := by
  unfold spParts
  repeat' split
  all_goals first | (dsimp only; omega) | decide
theorem c_L_parts {l : Launch} {G : AG} {M : AM} {x D o : Nat} {τ : TS} {p : Int32} (hfl : l.stackTraces = false) (hs : isRS G M x D τ) {S : Nat → Int64} (ho : M.1 o = some (am_al G 1 S)) (ho2 : x + 271 ≤ o ∧ o < D) : Ch l G yL_parts cL_parts 4 (some .int) [(0, 9, 12, 19)] { rL_parts with cells := 2, slots := 12 } M [.ref x, .int p, .ref o] (lwP cvI G M x D o (spParts τ p)) := by
  refine Ch.of (by decide) [some (.ref x), some (.int p), some (.ref o), none] rfl (Nat.le_of_ble_eq_true rfl) ?_
  intro Z hZ hN htab
  obtain ⟨rfl, hn, rfl, hR, X, hr, hnm⟩ := hZ
  refine aw_aload2 X dL_parts_0 ?_
  refine aw_iconst X dL_parts_1 (v := nI 0) (by decide) ?_
  refine aw_aload0 X dL_parts_2 ?_
  refine aw_iload1 X dL_parts_3 ?_
  refine aw_callVX X (st := [.int (nI 0), .ref o]) (c_X8_parts hfl hs) kL_123 (ci := 9) rfl (hs.2.2.1) dL_parts_4 rfl rfl (by first | decide | exact Nat.le_of_ble_eq_true rfl) (by rw [hR]; exact ⟨by first | decide | exact Nat.le_of_ble_eq_true rfl | (dsimp only; omega), by first | decide | exact Nat.le_of_ble_eq_true rfl | (dsimp only; omega)⟩) (by rw [hR]; exact ⟨by first | decide | exact Nat.le_of_ble_eq_true rfl | (dsimp only; omega), by first | decide | exact Nat.le_of_ble_eq_true rfl | (dsimp only; omega)⟩) (fun v M1 hv => ?_) (fun E M1 h1 => ?_)
  · obtain ⟨e0, rfl, hs1, hk1⟩ := hv
    have ho1 := hk1 _ _ ho (by omega)
    refine aw_i2l X dL_parts_7 ?_
    refine aw_last X dL_parts_8 ho1 rfl (by omega) (by decide) ?_
    refine aw_goto X dL_parts_9 (tgt := 15) (by decide) ?_
    refine aw_iconst X dL_parts_15 (v := nI 0) (by decide) ?_
    refine aw_ireturn X (ty := .int) hr (by first | rfl | decide | assumption) dL_parts_16 (lwP.ok e0 hs1 hk1 ho2 rfl)
  · obtain ⟨hpos, hE, hs1, hk1⟩ := h1
    have ho1 := hk1 _ _ ho (by omega)
    have hle : (spParts τ p).1 ≤ 1 := le_spParts
    have ej : (spParts τ p).1 = 1 := by omega
    have hE2 : E = exI := hE.trans (congrArg ecI ej)
    subst hE2
    refine ax_catch X [] ⟨0, 9, 12, 19⟩ [] (by rw [htab]; rfl) (fun z hz => nomatch hz) (by decide) (by decide) cnL_19 ct_I (fun q => ?_)
    refine aw_astore3 X dL_parts_12 (by rw [hn]; decide) rfl ?_
    refine aw_iconst X dL_parts_13 (v := nI 1) (by decide) ?_
    refine aw_ireturn X (ty := .int) hr (by first | rfl | decide | assumption) dL_parts_14 (lwP.ex ej (by decide) hs1 hk1 ho1)
theorem le_spPartLen {τ : TS} {p k : Int32} : (spPartLen τ p k).1 ≤ 1 := by
  unfold spPartLen
  repeat' split
  all_goals first | (dsimp only; omega) | decide
theorem c_L_partLength {l : Launch} {G : AG} {M : AM} {x D o : Nat} {τ : TS} {p k : Int32} (hfl : l.stackTraces = false) (hs : isRS G M x D τ) {S : Nat → Int64} (ho : M.1 o = some (am_al G 1 S)) (ho2 : x + 271 ≤ o ∧ o < D) : Ch l G yL_partLength cL_partLength 5 (some .int) [(0, 10, 13, 19)] { rL_partLength with cells := 3, slots := 18 } M [.ref x, .int p, .int k, .ref o] (lwP cvI G M x D o (spPartLen τ p k)) := by
  refine Ch.of (by decide) [some (.ref x), some (.int p), some (.int k), some (.ref o), none] rfl (Nat.le_of_ble_eq_true rfl) ?_
  intro Z hZ hN htab
  obtain ⟨rfl, hn, rfl, hR, X, hr, hnm⟩ := hZ
  refine aw_aload3 X dL_partLength_0 ?_
  refine aw_iconst X dL_partLength_1 (v := nI 0) (by decide) ?_
  refine aw_aload0 X dL_partLength_2 ?_
  refine aw_iload1 X dL_partLength_3 ?_
  refine aw_iload2 X dL_partLength_4 ?_
  refine aw_callVX X (st := [.int (nI 0), .ref o]) (c_X8_partLength hfl hs) kL_126 (ci := 9) rfl (hs.2.2.1) dL_partLength_5 rfl rfl (by first | decide | exact Nat.le_of_ble_eq_true rfl) (by rw [hR]; exact ⟨by first | decide | exact Nat.le_of_ble_eq_true rfl | (dsimp only; omega), by first | decide | exact Nat.le_of_ble_eq_true rfl | (dsimp only; omega)⟩) (by rw [hR]; exact ⟨by first | decide | exact Nat.le_of_ble_eq_true rfl | (dsimp only; omega), by first | decide | exact Nat.le_of_ble_eq_true rfl | (dsimp only; omega)⟩) (fun v M1 hv => ?_) (fun E M1 h1 => ?_)
  · obtain ⟨e0, rfl, hs1, hk1⟩ := hv
    have ho1 := hk1 _ _ ho (by omega)
    refine aw_i2l X dL_partLength_8 ?_
    refine aw_last X dL_partLength_9 ho1 rfl (by omega) (by decide) ?_
    refine aw_goto X dL_partLength_10 (tgt := 17) (by decide) ?_
    refine aw_iconst X dL_partLength_17 (v := nI 0) (by decide) ?_
    refine aw_ireturn X (ty := .int) hr (by first | rfl | decide | assumption) dL_partLength_18 (lwP.ok e0 hs1 hk1 ho2 rfl)
  · obtain ⟨hpos, hE, hs1, hk1⟩ := h1
    have ho1 := hk1 _ _ ho (by omega)
    have hle : (spPartLen τ p k).1 ≤ 1 := le_spPartLen
    have ej : (spPartLen τ p k).1 = 1 := by omega
    have hE2 : E = exI := hE.trans (congrArg ecI ej)
    subst hE2
    refine ax_catch X [] ⟨0, 10, 13, 19⟩ [] (by rw [htab]; rfl) (fun z hz => nomatch hz) (by decide) (by decide) cnL_19 ct_I (fun q => ?_)
    refine aw_astore4 X dL_partLength_13 (by rw [hn]; decide) rfl ?_
    refine aw_iconst X dL_partLength_15 (v := nI 1) (by decide) ?_
    refine aw_ireturn X (ty := .int) hr (by first | rfl | decide | assumption) dL_partLength_16 (lwP.ex ej (by decide) hs1 hk1 ho1)
theorem le_spShared {τ : TS} {p k : Int32} : (spShared τ p k).1 ≤ 1 := by
  unfold spShared
  repeat' split
  all_goals first | (dsimp only; omega) | decide
theorem c_L_shared {l : Launch} {G : AG} {M : AM} {x D o : Nat} {τ : TS} {p k : Int32} (hfl : l.stackTraces = false) (hs : isRS G M x D τ) {S : Nat → Int64} (ho : M.1 o = some (am_al G 1 S)) (ho2 : x + 271 ≤ o ∧ o < D) : Ch l G yL_shared cL_shared 5 (some .int) [(0, 10, 13, 19)] { rL_shared with cells := 3, slots := 18 } M [.ref x, .int p, .int k, .ref o] (lwP cvI G M x D o (spShared τ p k)) := by
  refine Ch.of (by decide) [some (.ref x), some (.int p), some (.int k), some (.ref o), none] rfl (Nat.le_of_ble_eq_true rfl) ?_
  intro Z hZ hN htab
  obtain ⟨rfl, hn, rfl, hR, X, hr, hnm⟩ := hZ
  refine aw_aload3 X dL_shared_0 ?_
  refine aw_iconst X dL_shared_1 (v := nI 0) (by decide) ?_
  refine aw_aload0 X dL_shared_2 ?_
  refine aw_iload1 X dL_shared_3 ?_
  refine aw_iload2 X dL_shared_4 ?_
  refine aw_callVX X (st := [.int (nI 0), .ref o]) (c_X8_shared hfl hs) kL_129 (ci := 9) rfl (hs.2.2.1) dL_shared_5 rfl rfl (by first | decide | exact Nat.le_of_ble_eq_true rfl) (by rw [hR]; exact ⟨by first | decide | exact Nat.le_of_ble_eq_true rfl | (dsimp only; omega), by first | decide | exact Nat.le_of_ble_eq_true rfl | (dsimp only; omega)⟩) (by rw [hR]; exact ⟨by first | decide | exact Nat.le_of_ble_eq_true rfl | (dsimp only; omega), by first | decide | exact Nat.le_of_ble_eq_true rfl | (dsimp only; omega)⟩) (fun v M1 hv => ?_) (fun E M1 h1 => ?_)
  · obtain ⟨e0, rfl, hs1, hk1⟩ := hv
    have ho1 := hk1 _ _ ho (by omega)
    refine aw_i2l X dL_shared_8 ?_
    refine aw_last X dL_shared_9 ho1 rfl (by omega) (by decide) ?_
    refine aw_goto X dL_shared_10 (tgt := 17) (by decide) ?_
    refine aw_iconst X dL_shared_17 (v := nI 0) (by decide) ?_
    refine aw_ireturn X (ty := .int) hr (by first | rfl | decide | assumption) dL_shared_18 (lwP.ok e0 hs1 hk1 ho2 rfl)
  · obtain ⟨hpos, hE, hs1, hk1⟩ := h1
    have ho1 := hk1 _ _ ho (by omega)
    have hle : (spShared τ p k).1 ≤ 1 := le_spShared
    have ej : (spShared τ p k).1 = 1 := by omega
    have hE2 : E = exI := hE.trans (congrArg ecI ej)
    subst hE2
    refine ax_catch X [] ⟨0, 10, 13, 19⟩ [] (by rw [htab]; rfl) (fun z hz => nomatch hz) (by decide) (by decide) cnL_19 ct_I (fun q => ?_)
    refine aw_astore4 X dL_shared_13 (by rw [hn]; decide) rfl ?_
    refine aw_iconst X dL_shared_15 (v := nI 1) (by decide) ?_
    refine aw_ireturn X (ty := .int) hr (by first | rfl | decide | assumption) dL_shared_16 (lwP.ex ej (by decide) hs1 hk1 ho1)
