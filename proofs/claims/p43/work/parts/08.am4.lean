section AMcalls
def am_Pc (G : AG) (M : AM) (av : List Value) : Array Value → State → Prop := va_Pc av (fun U => am_E G U ∧ am_H G M U.heap)
def am_Qc (G : AG) (post : Option Value → AM → Prop) : Array Value → State → Outcome → State → Prop := fun _ s0 oc t => (∃ (v : Option Value) (M' : AM), oc = .returned v ∧ post v M' ∧ am_H G M' t.heap) ∧ va_F (am_A G) s0 t
def am_XC (G : AG) (px : String → AM → Prop) : String → State → State → Prop := fun E s0 t => (∃ M' : AM, px E M' ∧ am_H G M' t.heap) ∧ va_F (am_A G) s0 t
theorem am_Pc.blind (G : AG) (M : AM) (av : List Value) : FrameBlind (am_Pc G M av) := fun a U g mk h => ⟨h.1, h.2.1.cl, h.2.2⟩
/-- a contract: from the map M, with these arguments, it returns with post -/
def Cn (l : Launch) (G : AG) (y : MethodName) (cc : ByteArray) (maxL : Nat) (ret : Option FieldType) (rm : Room) (M : AM) (av : List Value) (post : Option Value → AM → Prop) : Prop :=
  Met l y [Cond.code y cc maxL ret] rm (am_Pc G M av) (am_Qc G post) rm.cells rm.slots (am_A G)
/-- .. or throws with px -/
def Cx (l : Launch) (G : AG) (y : MethodName) (cc : ByteArray) (maxL : Nat) (ret : Option FieldType) (rm : Room) (M : AM) (av : List Value) (post : Option Value → AM → Prop) (px : String → AM → Prop) : Prop :=
  vx_Met l y [Cond.code y cc maxL ret] rm (am_Pc G M av) (am_Qc G post) (am_XC G px) rm.cells rm.slots (am_A G)
/-- of a method with handlers -/
def Cw (l : Launch) (G : AG) (y : MethodName) (cc : ByteArray) (maxL : Nat) (ret : Option FieldType) (hh : List (Nat × Nat × Nat × Nat)) (rm : Room) (M : AM) (av : List Value) (post : Option Value → AM → Prop) : Prop :=
  Met l y [Cond.codeWith y cc maxL ret hh] rm (am_Pc G M av) (am_Qc G post) rm.cells rm.slots (am_A G)
def am_Q (Z : AZ) (post : Option Value → AM → Prop) (px : String → AM → Prop) (mc ms : Nat) : State → Prop := vx_MQ (zb Z) (am_Qc (zG Z) post) (am_XC (zG Z) px) (za Z) (zs Z) mc ms (am_A (zG Z))
def am_args (av : List Value) (nL : Nat) : List (Option Value) := (av.flatMap fun v => if v.category = 2 then [some v, none] else [some v]) ++ List.replicate (nL - (lg_sl av).length) none
theorem am_args_in : ∀ (av : List Value) (i : Nat) (N : Nat) (k : Nat) (v : Value), ((av.flatMap fun v => if v.category = 2 then [some v, none] else [some v]) ++ List.replicate N none)[k]? = some (some v) → (i + k, v) ∈ lv_args i av
  | [], i, N, k, v, h => by
    simp only [List.flatMap_nil, List.nil_append] at h
    have := List.mem_of_getElem? h
    simp at this
  | u :: t, i, N, k, v, h => by
    by_cases hc : u.category = 2
    · simp only [List.flatMap_cons, hc, if_true, lv_args] at h ⊢
      match k, h with
      | 0, h =>
        simp at h
        rw [h]
        exact List.mem_cons_self
      | 1, h => simp at h
      | k + 2, h =>
        have h1 := am_args_in t (i + 2) N k v (by simpa using h)
        rw [show i + (k + 2) = i + 2 + k by omega]
        exact List.mem_cons_of_mem _ h1
    · simp only [List.flatMap_cons, hc, if_false, lv_args] at h ⊢
      match k, h with
      | 0, h =>
        simp at h
        rw [h]
        exact List.mem_cons_self
      | k + 1, h =>
        have h1 := am_args_in t (i + 1) N k v (by simpa using h)
        rw [show i + (k + 1) = i + 1 + k by omega]
        exact List.mem_cons_of_mem _ h1
theorem am_args_has {av : List Value} {nL : Nat} (h : (lg_sl av).length ≤ nL) : am_L ((lg_sl av ++ List.replicate (nL - (lg_sl av).length) Slot.unset).toArray) nL (am_args av nL) := by
  refine am_L.of (lv_entry av h) fun k v hk => ?_
  have h1 := am_args_in av 0 _ k v hk
  rwa [Nat.zero_add] at h1
/-- what a body may take for granted -/
def am_B (Z : AZ) (l : Launch) (G : AG) (y : MethodName) (cc : ByteArray) (maxL : Nat) (ret : Option FieldType) (rm : Room) : Prop :=
  zG Z = G ∧ zn Z = maxL ∧ zl Z = l ∧ zR Z = rm ∧ am_X y.cls cc Z ∧ (zM Z).sig.returnType = ret ∧ (zM Z).name = y.name
theorem Cx.of {l : Launch} {G : AG} {y : MethodName} {cc : ByteArray} {maxL : Nat} {ret : Option FieldType} {rm : Room} {M : AM} {av : List Value} {post : Option Value → AM → Prop} {px : String → AM → Prop} (hy : plainName y.cls = true) (L : List (Option Value)) (hL : am_args av maxL = L) (hlen : (lg_sl av).length ≤ maxL)
    (body : ∀ Z : AZ, am_B Z l G y cc maxL ret rm → (∀ x ∈ (zc Z).exceptionTable.toList, False) → AW Z (am_Q Z post px rm.cells rm.slots) M 0 0 0 L []) : Cx l G y cc maxL ret rm M av post px := by
  subst hL
  refine vx_ofW (cc := cc) (maxL := maxL) (ret := ret) hy rfl ?_
  intro p e s m args below meth c s₁ B hml htab hv
  obtain ⟨rfl, hE, hM⟩ := hv
  rw [lg_entry_eq]
  exact body (G, maxL, p, l, e, rm, s, m, av.toArray, below, meth, c) ⟨rfl, rfl, rfl, rfl, ⟨B.exec, B.bytes, hml, findClass_of_methodNamed B.named, B.notSynchronized, fun w hw hk => am_ok_any hk (hE.1 w hw hk), hE⟩, B.returns, (name_of_methodNamed B.named B.method).1⟩ htab s.heap [] _ hM va_S.rf (am_args_has hlen)
theorem am_noX {below : List Frame} {Qc : Array Value → State → Outcome → State → Prop} {a : Array Value} {s : State} {mc ms : Nat} {G : AG} {t : State} (h : vx_MQ below Qc (am_XC G (fun _ _ => False)) a s mc ms (am_A G) t) : MQ below Qc a s mc ms (am_A G) t := by
  obtain ⟨o, h1, h2, h3⟩ := h
  rcases h3 with ⟨h4, h5⟩ | ⟨q, -, E, ce, L, hx, -⟩
  · exact ⟨o, h1, h2, h4, h5⟩
  · obtain ⟨⟨M', h, -⟩, -⟩ := hx
    exact h.elim
theorem Cn.of {l : Launch} {G : AG} {y : MethodName} {cc : ByteArray} {maxL : Nat} {ret : Option FieldType} {rm : Room} {M : AM} {av : List Value} {post : Option Value → AM → Prop} (hy : plainName y.cls = true) (L : List (Option Value)) (hL : am_args av maxL = L) (hlen : (lg_sl av).length ≤ maxL)
    (body : ∀ Z : AZ, am_B Z l G y cc maxL ret rm → AW Z (am_Q Z post (fun _ _ => False) rm.cells rm.slots) M 0 0 0 L []) : Cn l G y cc maxL ret rm M av post := by
  subst hL
  refine Met.ofW (cc := cc) (maxL := maxL) (ret := ret) hy rfl ?_
  intro p e s m args below meth c s₁ B hml hv
  obtain ⟨rfl, hE, hM⟩ := hv
  rw [lg_entry_eq]
  intro T hT hX
  obtain ⟨t, h1, h2⟩ := body (G, maxL, p, l, e, rm, s, m, av.toArray, below, meth, c) ⟨rfl, rfl, rfl, rfl, ⟨B.exec, B.bytes, hml, findClass_of_methodNamed B.named, B.notSynchronized, fun w hw hk => am_ok_any hk (hE.1 w hw hk), hE⟩, B.returns, (name_of_methodNamed B.named B.method).1⟩ s.heap [] _ hM va_S.rf (am_args_has hlen) T hT hX
  exact ⟨t, h1, am_noX h2⟩
theorem Cn.ofF {l : Launch} {G : AG} {y : MethodName} {cc : ByteArray} {maxL : Nat} {ret : Option FieldType} {rm : Room} {M : AM} {av : List Value} {post : Option Value → AM → Prop} (hy : plainFor y = true) (L : List (Option Value)) (hL : am_args av maxL = L) (hlen : (lg_sl av).length ≤ maxL)
    (body : ∀ Z : AZ, am_B Z l G y cc maxL ret rm → AW Z (am_Q Z post (fun _ _ => False) rm.cells rm.slots) M 0 0 0 L []) : Cn l G y cc maxL ret rm M av post := by
  subst hL
  refine va_MetF (cc := cc) (maxL := maxL) (ret := ret) hy rfl ?_
  intro p e s m args below meth c s₁ B hml hv
  obtain ⟨rfl, hE, hM⟩ := hv
  rw [lg_entry_eq]
  intro T hT hX
  obtain ⟨t, h1, h2⟩ := body (G, maxL, p, l, e, rm, s, m, av.toArray, below, meth, c) ⟨rfl, rfl, rfl, rfl, ⟨B.exec, B.bytes, hml, findClass_of_methodNamed B.named, B.notSynchronized, fun w hw hk => am_ok_any hk (hE.1 w hw hk), hE⟩, B.returns, (name_of_methodNamed B.named B.method).1⟩ s.heap [] _ hM va_S.rf (am_args_has hlen) T hT hX
  exact ⟨t, h1, am_noX h2⟩
theorem Cw.of {l : Launch} {G : AG} {y : MethodName} {cc : ByteArray} {maxL : Nat} {ret : Option FieldType} {hh : List (Nat × Nat × Nat × Nat)} {rm : Room} {M : AM} {av : List Value} {post : Option Value → AM → Prop} (hy : plainName y.cls = true) (L : List (Option Value)) (hL : am_args av maxL = L) (hlen : (lg_sl av).length ≤ maxL)
    (body : ∀ Z : AZ, am_B Z l G y cc maxL ret rm → (zc Z).exceptionTable.toList = tableOf hh → AW Z (am_Q Z post (fun _ _ => False) rm.cells rm.slots) M 0 0 0 L []) : Cw l G y cc maxL ret hh rm M av post := by
  subst hL
  refine va_MetW (cc := cc) (maxL := maxL) (ret := ret) (hh := hh) hy rfl ?_
  intro p e s m args below meth c s₁ B hml hv
  have htab := vx_table (x := y) B (atoms_spec (ws := [Cond.codeWith y cc maxL ret hh]) B.pre _ List.mem_cons_self)
  obtain ⟨rfl, hE, hM⟩ := hv
  rw [lg_entry_eq]
  intro T hT hX
  obtain ⟨t, h1, h2⟩ := body (G, maxL, p, l, e, rm, s, m, av.toArray, below, meth, c) ⟨rfl, rfl, rfl, rfl, ⟨B.exec, B.bytes, hml, findClass_of_methodNamed B.named, B.notSynchronized, fun w hw hk => am_ok_any hk (hE.1 w hw hk), hE⟩, B.returns, (name_of_methodNamed B.named B.method).1⟩ htab s.heap [] _ hM va_S.rf (am_args_has hlen) T hT hX
  exact ⟨t, h1, am_noX h2⟩
theorem Cn.le {l : Launch} {G : AG} {y : MethodName} {cc : ByteArray} {maxL : Nat} {ret : Option FieldType} {rm : Room} {M : AM} {av : List Value} {post post' : Option Value → AM → Prop} (h : Cn l G y cc maxL ret rm M av post) (hp : ∀ v M', post v M' → post' v M') : Cn l G y cc maxL ret rm M av post' := by
  intro p e ha hc hk s m args below hf happ hP hK
  obtain ⟨n, o, h1, h2, h3, ⟨⟨v, M', h4, h5, h6⟩, h7⟩, h8⟩ := h p e ha hc hk s m args below hf happ hP hK
  exact ⟨n, o, h1, h2, h3, ⟨⟨v, M', h4, hp v M' h5, h6⟩, h7⟩, h8⟩
variable {Z : AZ} {own : String} {cc : ByteArray} {Q : State → Prop} {M : AM} {k n pc : Nat} {L : List (Option Value)} {st st0 : List Value}
variable {post : Option Value → AM → Prop} {px : String → AM → Prop}
/-! ends -/
theorem aw_ireturn (X : am_X own cc Z) {ty : FieldType} {v : Int32} (hr : (zM Z).sig.returnType = some ty) (hn : narrow ty (.int v) = .int v) (d : decode cc pc = .ok (.ireturn, 1)) (hp : post (some (.int v)) M) : AW Z (am_Q Z post px k n) M k n pc L [.int v] :=
  fun H locs ls hH hS hL => vx_ret (W.zret X.1 X.2.1 hr hn (fun t ht hW => ⟨⟨some (.int v), M, rfl, hp, by rw [ht]; exact hH⟩, hS.F ht⟩) hS.2.2 d X.2.2.2.2.1)
theorem aw_lreturn (X : am_X own cc Z) {v : Int64} (hr : (zM Z).sig.returnType = some .long) (d : decode cc pc = .ok (.lreturn, 1)) (hp : post (some (.long v)) M) : AW Z (am_Q Z post px k n) M k n pc L [.long v] :=
  fun H locs ls hH hS hL => vx_ret (W.lret X.1 X.2.1 hr (fun t ht hW => ⟨⟨some (.long v), M, rfl, hp, by rw [ht]; exact hH⟩, hS.F ht⟩) hS.2.2 d X.2.2.2.2.1)
theorem aw_vreturn (X : am_X own cc Z) (hr : (zM Z).sig.returnType = none) (d : decode cc pc = .ok (.return_, 1)) (hp : post none M) : AW Z (am_Q Z post px k n) M k n pc L [] :=
  fun H locs ls hH hS hL => vx_ret (W.vret X.1 X.2.1 hr (fun t ht hW => ⟨⟨none, M, rfl, hp, by rw [ht]; exact hH⟩, hS.F ht⟩) hS.2.2 d X.2.2.2.2.1)
theorem aw_areturn (X : am_X own cc Z) {rt : FieldType} {v : Value} (hr : (zM Z).sig.returnType = some rt) (hrt : (∃ n, rt = .object n) ∨ ∃ t, rt = .array t) (hv : v = .null ∨ ∃ a, v = .ref a) (d : decode cc pc = .ok (.areturn, 1)) (hp : post (some v) M) : AW Z (am_Q Z post px k n) M k n pc L [v] :=
  fun H locs ls hH hS hL => vx_ret (W.aret X.1 X.2.1 hr hrt hv (fun t ht hW => ⟨⟨some v, M, rfl, hp, by rw [ht]; exact hH⟩, hS.F ht⟩) hS.2.2 d X.2.2.2.2.1)
/-! calls -/
theorem aw_after {free : Addr → Prop} {mc ms : Nat} {a : Array Value} (hfr : free = am_A (zG Z)) (hr : ∀ (H : Heap) (locs : List Loc) (ls : Array Slot), am_H (zG Z) M H → va_S (am_A (zG Z)) (zs Z).heap H locs → am_L ls (zn Z) L → va_Run (zp Z) (zl Z) (ze Z) (zR Z) (zs Z) (zm Z) (za Z) (zb Z) (zM Z) (zc Z) H locs k n mc ms (F0 (zm Z) pc ls st0) st (am_Qc (zG Z) post a) free)
    (kk : ∀ (v : Option Value) (M' : AM), post v M' → AW Z Q M' (k + mc) (n + ms) (pc + 3) L (v.toList ++ st)) : AW Z Q M k n pc L st0 := by
  subst hfr
  intro H locs ls hH hS hL T hT X
  obtain ⟨v, st₀, t, T', Lo, h0, X', hLo, e1, e2, ⟨⟨v', M', hv, hp, hH'⟩, hz, hk⟩, hst⟩ := hr H locs ls hH hS hL T hT X
  cases hv
  rw [h0] at hz hk
  obtain ⟨t2, a1, b1⟩ := kk v M' hp T'.heap (locs ++ Lo) ls (by rw [e1]; exact hH') ⟨Nat.le_trans hS.1 (by rw [e1]; exact hz), fun q h1 h2 => by rw [e1, hk q (Nat.lt_of_lt_of_le h1 hS.1) h2]; exact hS.2.1 q h1 h2, fun q hq => (List.mem_append.mp hq).elim (hS.2.2 q) (hLo q)⟩ hL T' rfl X'
  exact ⟨t2, hst t2 a1, b1⟩
/-- what holds where an exception is under way -/
def AX (Z : AZ) (Q : State → Prop) (M : AM) (k n pc : Nat) (L : List (Option Value)) (st : List Value) (E : String) : Prop :=
  ∀ (H : Heap) (locs : List Loc) (ls : Array Slot) (ce : Cell) (q : Addr), am_H (zG Z) M H → va_S (am_A (zG Z)) (zs Z).heap H locs → am_L ls (zn Z) L → H[q]? = some ce → ce.vm = .none → (zs Z).vm.findClass E = some ce.cls →
    vx_W (zp Z) (zl Z) (ze Z) (zR Z) (zs Z) (zm Z) (za Z) (zb Z) (zM Z) (zc Z) H locs k n Q (F0 (zm Z) pc ls st) q
theorem aw_afterX {free : Addr → Prop} {mc ms : Nat} {a : Array Value} (hfr : free = am_A (zG Z)) (hr : ∀ (H : Heap) (locs : List Loc) (ls : Array Slot), am_H (zG Z) M H → va_S (am_A (zG Z)) (zs Z).heap H locs → am_L ls (zn Z) L → vx_Run (zp Z) (zl Z) (ze Z) (zR Z) (zs Z) (zm Z) (za Z) (zb Z) (zM Z) (zc Z) H locs k n mc ms (F0 (zm Z) pc ls st0) st (am_Qc (zG Z) post a) (am_XC (zG Z) px) free)
    (kk : ∀ (v : Option Value) (M' : AM), post v M' → AW Z Q M' (k + mc) (n + ms) (pc + 3) L (v.toList ++ st)) (kx : ∀ (E : String) (M' : AM), px E M' → AX Z Q M' (k + mc) (n + ms) pc L st E) : AW Z Q M k n pc L st0 := by
  subst hfr
  intro H locs ls hH hS hL T hT X
  rcases hr H locs ls hH hS hL T hT X with ⟨v, st₀, t, T', Lo, h0, X', hLo, e1, e2, ⟨⟨v', M', hv, hp, hH'⟩, hz, hk⟩, hst⟩ | ⟨q, st₀, t, T', Lo, E, ce, h0, X', hLo, e1, e2, ⟨⟨M', hp, hH'⟩, hz, hk⟩, hce, hcv, hcl, hst⟩
  · cases hv
    rw [h0] at hz hk
    obtain ⟨t2, a1, b1⟩ := kk v M' hp T'.heap (locs ++ Lo) ls (by rw [e1]; exact hH') ⟨Nat.le_trans hS.1 (by rw [e1]; exact hz), fun q h1 h2 => by rw [e1, hk q (Nat.lt_of_lt_of_le h1 hS.1) h2]; exact hS.2.1 q h1 h2, fun q hq => (List.mem_append.mp hq).elim (hS.2.2 q) (hLo q)⟩ hL T' rfl X'
    exact ⟨t2, hst t2 a1, b1⟩
  · rw [h0] at hz hk
    obtain ⟨t2, a1, b1⟩ := kx E M' hp T'.heap (locs ++ Lo) ls ce q (by rw [e1]; exact hH') ⟨Nat.le_trans hS.1 (by rw [e1]; exact hz), fun q h1 h2 => by rw [e1, hk q (Nat.lt_of_lt_of_le h1 hS.1) h2]; exact hS.2.1 q h1 h2, fun q hq => (List.mem_append.mp hq).elim (hS.2.2 q) (hLo q)⟩ hL (by rw [e1]; exact hce) hcv hcl T' rfl X'
    exact ⟨t2, hst.trans a1, b1⟩
/-- the words of a call -/
def am_cw (own : String) (idx : Nat) (y : MethodName) (bytes : ByteArray) (maxL : Nat) (ret : Option FieldType) (nA : Nat) : Prop :=
  Cond.code y bytes maxL ret ∈ lw_tbl ∧ Cond.initialized y.cls ∈ lw_tbl ∧ (y.cls ≠ "java/lang/invoke/MethodHandle" ∧ y.cls ≠ "java/lang/invoke/VarHandle") ∧ (parseMethodDescriptor y.desc).map (fun d => d.parameters.length) = some nA ∧ Cond.methodLink own idx y ∈ lw_tbl
def am_cv (own : String) (idx : Nat) (C : String) (y : MethodName) (bytes : ByteArray) (maxL : Nat) (ret : Option FieldType) (nA : Nat) : Prop :=
  am_cw own idx y bytes maxL ret nA ∧ Cond.instanceMethod y ∈ lw_tbl ∧ Cond.selects C y y ∈ lw_tbl
def am_cs (own : String) (idx : Nat) (y : MethodName) (bytes : ByteArray) (maxL : Nat) (ret : Option FieldType) (nA : Nat) : Prop :=
  am_cw own idx y bytes maxL ret nA ∧ Cond.static y ∈ lw_tbl
/-- the room of a call -/
def am_rm (rm R : Room) (maxL : Nat) : Prop := rm.frames + 1 ≤ R.frames ∧ 8 + (maxL + 11) + rm.locals ≤ R.locals
theorem am_code_mv {y : MethodName} {bytes : ByteArray} {maxL : Nat} {ret : Option FieldType} {a : Array Value} {s : State} (h : (Cond.code y bytes maxL ret).before a s = true) : ∀ w ∈ [Cond.code y bytes maxL ret], ∀ (a' : Array Value) (U : State), s.WarmedH U.vm → w.before a' U = true := by
  intro w hw a' U hW
  rw [List.mem_singleton.mp hw]
  exact am_ok_any (w := Cond.code y bytes maxL ret) rfl (am_ok_mv (w := Cond.code y bytes maxL ret) rfl hW (am_ok_any rfl h))
theorem am_callB (X : am_X own cc Z) {idx : Nat} {y : MethodName} {bytes : ByteArray} {maxL : Nat} {ret : Option FieldType} {nA : Nat} {rm : Room} (h : am_cw own idx y bytes maxL ret nA) (hR : am_rm rm (zR Z) maxL) : CallB (zR Z) (zs Z) (za Z) own idx y bytes maxL ret [Cond.code y bytes maxL ret] rm rm.cells rm.slots nA := by
  obtain ⟨h1, h2, h3, h4, h5⟩ := h
  refine ⟨rfl, rfl, hR.1, hR.2, am_code_mv (X.w h1 rfl), List.mem_cons_self, X.w h1 rfl, X.w h2 rfl, h3, fun sig hs => ?_, X.w h5 rfl⟩
  rw [hs] at h4
  exact (Option.some.inj h4).symm
theorem am_preS (X : am_X own cc Z) {av : List Value} {H : Heap} {locs : List Loc} (hH : am_H (zG Z) M H) (hS : va_S (am_A (zG Z)) (zs Z).heap H locs) : PreS (zs Z) H (am_Pc (zG Z) M av) av :=
  ⟨am_Pc.blind _ _ _, fun U hU hW => ⟨rfl, X.2.2.2.2.2.2.mv hW (by rw [hU]; exact hS), by rw [hU]; exact hH⟩⟩
theorem am_preV (X : am_X own cc Z) {ci b : Nat} {C : String} {T : u_T} {N : Nat} {fs : List Value} {As : List Value} {H : Heap} {locs : List Loc} (hci : vwCl[ci]? = some (C, T, N)) (hM : M.1 b = some (.inr (ci, fs))) (hH : am_H (zG Z) M H) (hS : va_S (am_A (zG Z)) (zs Z).heap H locs) : PreV (zs Z) H C b (am_Pc (zG Z) M (.ref b :: As)) As :=
  ⟨am_Pc.blind _ _ _, va_recv X.K (hH.P hM) (ci := ci) (q0 := 0) hci rfl, (am_preS X hH hS).2⟩
theorem aw_callV (X : am_X own cc Z) {idx ci b nA : Nat} {C : String} {T : u_T} {N : Nat} {fs : List Value} {As : List Value} {y : MethodName} {bytes : ByteArray} {maxL : Nat} {ret : Option FieldType} {rm : Room} (hc : Cn (zl Z) (zG Z) y bytes maxL ret rm M (.ref b :: As) post) (hw : am_cv own idx C y bytes maxL ret nA) (hci : vwCl[ci]? = some (C, T, N)) (hM : M.1 b = some (.inr (ci, fs)))
    (d : decode cc pc = .ok (.invokevirtual idx, 3)) (hn : As.length = nA) (hst : st0 = As.reverse ++ .ref b :: st) (hW : (st.map fun v => v.category).sum ≤ 8) (hR : am_rm rm (zR Z) maxL) (hf : k + rm.cells ≤ (zR Z).cells ∧ n + rm.slots ≤ (zR Z).slots)
    (kk : ∀ (v : Option Value) (M' : AM), post v M' → AW Z Q M' (k + rm.cells) (n + rm.slots) (pc + 3) L (v.toList ++ st)) : AW Z Q M k n pc L st0 :=
  aw_after rfl (fun H locs ls hH hS hL => va_runV (Ts := []) ⟨X.1, X.2.1, X.2.2.1, X.2.2.2.1, fun w h => nomatch h⟩ hc ⟨am_callB X hw.1 hR, X.w hw.2.1 rfl, X.w hw.2.2 rfl⟩ (am_preV X hci hM hH hS) rfl hn hL.1 hst (lv_room hW) d hf) kk
theorem aw_callVX (X : am_X own cc Z) {idx ci b nA : Nat} {C : String} {T : u_T} {N : Nat} {fs : List Value} {As : List Value} {y : MethodName} {bytes : ByteArray} {maxL : Nat} {ret : Option FieldType} {rm : Room} (hc : Cx (zl Z) (zG Z) y bytes maxL ret rm M (.ref b :: As) post px) (hw : am_cv own idx C y bytes maxL ret nA) (hci : vwCl[ci]? = some (C, T, N)) (hM : M.1 b = some (.inr (ci, fs)))
    (d : decode cc pc = .ok (.invokevirtual idx, 3)) (hn : As.length = nA) (hst : st0 = As.reverse ++ .ref b :: st) (hW : (st.map fun v => v.category).sum ≤ 8) (hR : am_rm rm (zR Z) maxL) (hf : k + rm.cells ≤ (zR Z).cells ∧ n + rm.slots ≤ (zR Z).slots)
    (kk : ∀ (v : Option Value) (M' : AM), post v M' → AW Z Q M' (k + rm.cells) (n + rm.slots) (pc + 3) L (v.toList ++ st)) (kx : ∀ (E : String) (M' : AM), px E M' → AX Z Q M' (k + rm.cells) (n + rm.slots) pc L st E) : AW Z Q M k n pc L st0 :=
  aw_afterX rfl (fun H locs ls hH hS hL => vx_runV (Ts := []) ⟨X.1, X.2.1, X.2.2.1, X.2.2.2.1, fun w h => nomatch h⟩ hc ⟨am_callB X hw.1 hR, X.w hw.2.1 rfl, X.w hw.2.2 rfl⟩ (am_preV X hci hM hH hS) rfl hn hL.1 hst (lv_room hW) d hf) kk kx
theorem aw_callS (X : am_X own cc Z) {idx nA : Nat} {As : List Value} {y : MethodName} {bytes : ByteArray} {maxL : Nat} {ret : Option FieldType} {rm : Room} (hc : Cn (zl Z) (zG Z) y bytes maxL ret rm M As post) (hw : am_cs own idx y bytes maxL ret nA)
    (d : decode cc pc = .ok (.invokestatic idx, 3)) (hn : As.length = nA) (hst : st0 = As.reverse ++ st) (hW : (st.map fun v => v.category).sum ≤ 8) (hR : am_rm rm (zR Z) maxL) (hf : k + rm.cells ≤ (zR Z).cells ∧ n + rm.slots ≤ (zR Z).slots)
    (kk : ∀ (v : Option Value) (M' : AM), post v M' → AW Z Q M' (k + rm.cells) (n + rm.slots) (pc + 3) L (v.toList ++ st)) : AW Z Q M k n pc L st0 :=
  aw_after rfl (fun H locs ls hH hS hL => va_runS (Ts := []) ⟨X.1, X.2.1, X.2.2.1, X.2.2.2.1, fun w h => nomatch h⟩ hc ⟨am_callB X hw.1 hR, X.w hw.2 rfl⟩ (am_preS X hH hS) rfl hn hL.1 hst (lv_room hW) d hf) kk
theorem aw_callSX (X : am_X own cc Z) {idx nA : Nat} {As : List Value} {y : MethodName} {bytes : ByteArray} {maxL : Nat} {ret : Option FieldType} {rm : Room} (hc : Cx (zl Z) (zG Z) y bytes maxL ret rm M As post px) (hw : am_cs own idx y bytes maxL ret nA)
    (d : decode cc pc = .ok (.invokestatic idx, 3)) (hn : As.length = nA) (hst : st0 = As.reverse ++ st) (hW : (st.map fun v => v.category).sum ≤ 8) (hR : am_rm rm (zR Z) maxL) (hf : k + rm.cells ≤ (zR Z).cells ∧ n + rm.slots ≤ (zR Z).slots)
    (kk : ∀ (v : Option Value) (M' : AM), post v M' → AW Z Q M' (k + rm.cells) (n + rm.slots) (pc + 3) L (v.toList ++ st)) (kx : ∀ (E : String) (M' : AM), px E M' → AX Z Q M' (k + rm.cells) (n + rm.slots) pc L st E) : AW Z Q M k n pc L st0 :=
  aw_afterX rfl (fun H locs ls hH hS hL => vx_runS (Ts := []) ⟨X.1, X.2.1, X.2.2.1, X.2.2.2.1, fun w h => nomatch h⟩ hc ⟨am_callB X hw.1 hR, X.w hw.2 rfl⟩ (am_preS X hH hS) rfl hn hL.1 hst (lv_room hW) d hf) kk kx
/-- a constructor -/
def am_ci (own : String) (idx : Nat) (y : MethodName) (bytes : ByteArray) (maxL : Nat) (nA : Nat) : Prop :=
  (Cond.code y bytes maxL none ∈ lw_tbl ∧ Cond.initialized y.cls ∈ lw_tbl ∧ (y.cls ≠ "java/lang/invoke/MethodHandle" ∧ y.cls ≠ "java/lang/invoke/VarHandle") ∧ (parseMethodDescriptor y.desc).map (fun d => d.parameters.length) = some nA) ∧ (Cond.methodLink own idx y ∈ lw_tbl ∨ ∃ host, Cond.methodLinkNest own idx y host ∈ lw_tbl) ∧ y.name = "<init>" ∧ Cond.instanceMethod y ∈ lw_tbl
theorem aw_callI (X : am_X own cc Z) {idx b nA : Nat} {As : List Value} {y : MethodName} {bytes : ByteArray} {maxL : Nat} {rm : Room} (hc : Cn (zl Z) (zG Z) y bytes maxL none rm M (.ref b :: As) post) (hw : am_ci own idx y bytes maxL nA)
    (d : decode cc pc = .ok (.invokespecial idx, 3)) (hn : As.length = nA) (hst : st0 = As.reverse ++ .ref b :: st) (hW : (st.map fun v => v.category).sum ≤ 8) (hR : am_rm rm (zR Z) maxL) (hf : k + rm.cells ≤ (zR Z).cells ∧ n + rm.slots ≤ (zR Z).slots)
    (kk : ∀ (v : Option Value) (M' : AM), post v M' → AW Z Q M' (k + rm.cells) (n + rm.slots) (pc + 3) L (v.toList ++ st)) : AW Z Q M k n pc L st0 := by
  obtain ⟨⟨h1, h2, h3, h4⟩, hl, hnm, hin⟩ := hw
  rcases hl with hl | ⟨host, hl⟩
  · exact aw_after rfl (fun H locs ls hH hS hL => va_runI (Ts := []) ⟨X.1, X.2.1, X.2.2.1, X.2.2.2.1, fun w h => nomatch h⟩ hc ⟨am_callB X ⟨h1, h2, h3, h4, hl⟩ hR, hnm, X.w hin rfl⟩ (am_preS X hH hS) rfl hn hL.1 hst (lv_room hW) d hf) kk
  · refine aw_after rfl (fun H locs ls hH hS hL => va_runIN (host := host) (Ts := []) ⟨X.1, X.2.1, X.2.2.1, X.2.2.2.1, fun w h => nomatch h⟩ hc ⟨⟨⟨rfl, rfl, hR.1, hR.2, am_code_mv (X.w h1 rfl), List.mem_cons_self⟩, X.w h1 rfl, X.w h2 rfl, h3, fun sig hs => ?_, X.w hl rfl⟩, hnm, X.w hin rfl⟩ (am_preS X hH hS) rfl hn hL.1 hst (lv_room hW) d hf) kk
    rw [hs] at h4
    exact (Option.some.inj h4).symm
/-- a static method with handlers -/
def am_csw (own : String) (idx : Nat) (y : MethodName) (bytes : ByteArray) (maxL : Nat) (ret : Option FieldType) (hh : List (Nat × Nat × Nat × Nat)) (nA : Nat) : Prop :=
  (Cond.codeWith y bytes maxL ret hh ∈ lw_tbl ∧ Cond.initialized y.cls ∈ lw_tbl ∧ (y.cls ≠ "java/lang/invoke/MethodHandle" ∧ y.cls ≠ "java/lang/invoke/VarHandle") ∧ (parseMethodDescriptor y.desc).map (fun d => d.parameters.length) = some nA ∧ Cond.methodLink own idx y ∈ lw_tbl) ∧ Cond.static y ∈ lw_tbl
theorem aw_callSW (X : am_X own cc Z) {idx nA : Nat} {As : List Value} {y : MethodName} {bytes : ByteArray} {maxL : Nat} {ret : Option FieldType} {hh : List (Nat × Nat × Nat × Nat)} {rm : Room} (hc : Cw (zl Z) (zG Z) y bytes maxL ret hh rm M As post) (hw : am_csw own idx y bytes maxL ret hh nA)
    (d : decode cc pc = .ok (.invokestatic idx, 3)) (hn : As.length = nA) (hst : st0 = As.reverse ++ st) (hW : (st.map fun v => v.category).sum ≤ 8) (hR : am_rm rm (zR Z) maxL) (hf : k + rm.cells ≤ (zR Z).cells ∧ n + rm.slots ≤ (zR Z).slots)
    (kk : ∀ (v : Option Value) (M' : AM), post v M' → AW Z Q M' (k + rm.cells) (n + rm.slots) (pc + 3) L (v.toList ++ st)) : AW Z Q M k n pc L st0 := by
  obtain ⟨⟨h1, h2, h3, h4, h5⟩, h6⟩ := hw
  refine aw_after rfl (fun H locs ls hH hS hL => vx_runSW (hh := hh) (Ts := []) ⟨X.1, X.2.1, X.2.2.1, X.2.2.2.1, fun w h => nomatch h⟩ hc ⟨⟨rfl, rfl, hR.1, hR.2, fun w hw a' U hW => ?_, List.mem_cons_self⟩, X.w h1 rfl, X.w h2 rfl, h3, fun sig hs => ?_, X.w h5 rfl, X.w h6 rfl⟩ (am_preS X hH hS) rfl hn hL.1 hst (lv_room hW) d hf) kk
  · rw [List.mem_singleton.mp hw]
    exact am_ok_any (w := Cond.codeWith y bytes maxL ret hh) rfl (am_ok_mv (w := Cond.codeWith y bytes maxL ret hh) rfl hW (am_ok_any rfl (X.w h1 rfl)))
  · rw [hs] at h4
    exact (Option.some.inj h4).symm
/-! exceptions -/
theorem ax_out (X : am_X own cc Z) (hout : ∀ x ∈ (zc Z).exceptionTable.toList, False) {E : String} {mc ms : Nat} (h1 : k ≤ mc) (h2 : n ≤ ms) (hp : px E M) : AX Z (am_Q Z post px mc ms) M k n pc L st E :=
  fun H locs ls ce q hH hS hL hce hcv hcl => vx_out (fun x hx => (hout x hx).elim) X.2.2.2.2.1 hce hcv hcl (fun t ht hA => ⟨⟨M, hp, by rw [ht]; exact hH⟩, hS.F ht⟩) hS.2.2 h1 h2
theorem ax_catch (X : am_X own cc Z) {E name : String} (pre : List ExceptionTableEntry) (x : ExceptionTableEntry) (suf : List ExceptionTableEntry) (hsplit : (zc Z).exceptionTable.toList = pre ++ x :: suf)
    (hpass : ∀ z ∈ pre, covers z pc = false ∨ (z.catchType ≠ 0 ∧ ∃ nm : String, Cond.classLink own z.catchType nm ∈ lw_tbl ∧ va_Nc E nm (zs Z))) (hx : covers x pc = true) (h0 : x.catchType ≠ 0) (hlink : Cond.classLink own x.catchType name ∈ lw_tbl) (hcast : Cond.castable E name ∈ lw_tbl)
    (kk : ∀ q : Nat, AW Z Q M k n x.handlerPc L [.ref q]) : AX Z Q M k n pc L st E :=
  fun H locs ls ce q hH hS hL hce hcv hcl => vx_catch X.2.2.2.1 pre x suf hsplit (fun z hz => (hpass z hz).imp id (fun ⟨a, nm, b, c⟩ => ⟨a, nm, X.w b rfl, c⟩)) hx h0 (X.w hlink rfl) (X.w hcast rfl) hce hcv hcl (kk q H locs ls hH hS hL)
/-! throws of RollSync -/
abbrev am_nm : List String := ["java/lang/RuntimeException", "java/lang/Exception"]
/-- the words of 'throw new cls(..)' -/
def am_th (ik ic : Nat) (cls : String) : Prop := Bundle.fit cls = true ∧ Cond.classLink "RollSync" ik cls ∈ lw_tbl ∧ Cond.initialized cls ∈ lw_tbl ∧ (∀ w ∈ vx_atS "RollSync" ic cls am_nm, w ∈ lw_tbl ∧ am_ok w = true) ∧ (∀ w ∈ Cond.classLink "RollSync" ik cls :: Cond.initialized cls :: vx_atS "RollSync" ic cls am_nm, vx_ot w = true)
theorem am_nm_fit : ∀ n ∈ am_nm, Bundle.fit n = true := by decide +kernel
theorem am_XC.of {px : String → AM → Prop} {E : String} {s t : State} {H : Heap} {locs : List Loc} {G : AG} (hH : am_H G M H) (hS : va_S (am_A G) s.heap H locs) (hp : px E (M.1, none)) (h1 : H.size ≤ t.heap.size) (h2 : ∀ q : Nat, q < H.size → t.heap[q]? = H[q]?) : am_XC G px E s t :=
  ⟨⟨(M.1, none), hp, fun q e hq => ⟨(hH.1 q e hq).1.kept (h2 q (hH.lt hq)), (hH.1 q e hq).2⟩, fun z hz => nomatch hz⟩, ⟨Nat.le_trans hS.1 h1, fun q a b => (h2 q (Nat.lt_of_lt_of_le a hS.1)).trans (hS.2.1 q a b)⟩⟩
theorem aw_throw (X : am_X "RollSync" cc Z) (hfl : (zl Z).stackTraces = false) {ik is ic mc ms : Nat} {cls text : String} (hth : am_th ik ic cls) (hin : (is, text) ∈ am_strs) (d0 : decode cc pc = .ok (.new ik, 3)) (d3 : decode cc (pc + 3) = .ok (.dup, 1)) (d4 : decode cc (pc + 4) = .ok (.ldc is, 2)) (d6 : decode cc (pc + 6) = .ok (.invokespecial ic, 3)) (d9 : decode cc (pc + 9) = .ok (.athrow, 1))
    (hout : ∀ x ∈ (zc Z).exceptionTable.toList, False) (hf : 5 < (zR Z).frames) (hlo : (st.map fun v => v.category).sum + 82 ≤ (zR Z).locals) (h1 : k + 1 ≤ (zR Z).cells) (h2 : n + 6 ≤ (zR Z).slots) (h3 : k + 1 ≤ mc) (h4 : n + 6 ≤ ms) (hp : px cls (M.1, none)) : AW Z (am_Q Z post px mc ms) M k n pc L st := by
  intro H locs ls hH hS hL
  obtain ⟨t1, t2, t3, t4, t5⟩ := hth
  obtain ⟨-, -, hU, hN, -, -, hst, -⟩ := X.2.2.2.2.2.2
  obtain ⟨sa, hsa⟩ := hst _ hin
  exact vx_throwS X.1 X.2.1 hfl X.2.2.2.1 t1 am_nm_fit (X.w t2 rfl) (X.w t3 rfl) hsa (fun w hw => X.w (t4 w hw).1 (t4 w hw).2) t5 hU hN hS (hL.1.trans X.2.2.1.symm) d0 d3 d4 d6 d9 (fun x hx => (hout x hx).elim) hf hlo h1 h2 X.2.2.2.2.1 (fun t ht a b => am_XC.of hH hS hp a b) hS.2.2 h3 h4
theorem aw_throwW (X : am_X "RollSync" cc Z) (hfl : (zl Z).stackTraces = false) {ik is ic mc ms : Nat} {cls text : String} (hth : am_th ik ic cls) (hin : (is, text) ∈ am_strs) (d0 : decode cc pc = .ok (.new ik, 3)) (d3 : decode cc (pc + 3) = .ok (.dup, 1)) (d4 : decode cc (pc + 4) = .ok (.ldc_w is, 3)) (d7 : decode cc (pc + 7) = .ok (.invokespecial ic, 3)) (d10 : decode cc (pc + 10) = .ok (.athrow, 1))
    (hout : ∀ x ∈ (zc Z).exceptionTable.toList, False) (hf : 5 < (zR Z).frames) (hlo : (st.map fun v => v.category).sum + 82 ≤ (zR Z).locals) (h1 : k + 1 ≤ (zR Z).cells) (h2 : n + 6 ≤ (zR Z).slots) (h3 : k + 1 ≤ mc) (h4 : n + 6 ≤ ms) (hp : px cls (M.1, none)) : AW Z (am_Q Z post px mc ms) M k n pc L st := by
  intro H locs ls hH hS hL
  obtain ⟨t1, t2, t3, t4, t5⟩ := hth
  obtain ⟨-, -, hU, hN, -, -, hst, -⟩ := X.2.2.2.2.2.2
  obtain ⟨sa, hsa⟩ := hst _ hin
  exact vx_throwSW X.1 X.2.1 hfl X.2.2.2.1 t1 am_nm_fit (X.w t2 rfl) (X.w t3 rfl) hsa (fun w hw => X.w (t4 w hw).1 (t4 w hw).2) t5 hU hN hS (hL.1.trans X.2.2.1.symm) d0 d3 d4 d7 d10 (fun x hx => (hout x hx).elim) hf hlo h1 h2 X.2.2.2.2.1 (fun t ht a b => am_XC.of hH hS hp a b) hS.2.2 h3 h4
end AMcalls
