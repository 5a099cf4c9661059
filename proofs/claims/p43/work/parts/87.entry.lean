/-! what holds at the law's entry -/
theorem law_aI {args : Array Value} {s : State} (h : (Cond.arrayClass .int).before args s = true) : ∃ cA : ClassId, ArrOfT s cA .int ∧ va_RA s cA .int := by
  obtain ⟨cA, kA, comp, h1, h2, h3⟩ := Cond.arrayClass_spec h
  exact ⟨cA, fun n z => ⟨fun k h => (by cases h), kA, h2, comp, h3⟩, h1⟩
theorem law_aL {args : Array Value} {s : State} (h : (Cond.arrayClass .long).before args s = true) : ∃ cA : ClassId, ArrOfT s cA .long ∧ va_RA s cA .long := by
  obtain ⟨cA, kA, comp, h1, h2, h3⟩ := Cond.arrayClass_spec h
  exact ⟨cA, fun n z => ⟨fun k h => (by cases h), kA, h2, comp, h3⟩, h1⟩
theorem law_aZ {args : Array Value} {s : State} (h : (Cond.arrayClass .boolean).before args s = true) : ∃ cA : ClassId, ArrOfT s cA .boolean ∧ va_RA s cA .boolean := by
  obtain ⟨cA, kA, comp, h1, h2, h3⟩ := Cond.arrayClass_spec h
  exact ⟨cA, fun n z => ⟨fun k h => (by cases h), kA, h2, comp, h3⟩, h1⟩
theorem law_aQ {args : Array Value} {s : State} {C : String} (h : (Cond.arrayOver (.object C)).before args s = true) : ∃ cA : ClassId, ArrOfT s cA (.object C) ∧ va_RA s cA (.object C) := by
  obtain ⟨comp, cA, kA, h1, -, h2, h3, h4⟩ := Cond.arrayOver_spec h
  exact ⟨cA, fun n z => ⟨fun k h => (by cases h), kA, h2, comp, h3⟩, kA, comp, h2, h3, h1, h4⟩
theorem law_str {args : Array Value} {s : State} {k : Nat} {tx : String} (h1 : (Cond.stringRef "RollSync" k tx).before args s = true) (h2 : (Cond.exactly (.string "RollSync" k) "java/lang/String").before args s = true) : ∃ sa, vk_R "RollSync" k tx sa s := by
  obtain ⟨a, c, cell, kk, e, -⟩ := Cond.exactly_spec h2
  exact ⟨a, vk_R.of (A := args) h1 e⟩
theorem law_len0 {args : Array Value} {s : State} {t : Term} {a : Nat} {cell : Cell} (h : (Cond.eq (.length t) (.int 0)).before args s = true) (e : t.eval args s none [] s = some (.ref a)) (hc : s.heap[a]? = some cell) : cell.slots.size.toInt32 = nI 0 := by
  cases hx : s.arrayAt? a with
  | none =>
    have e2 : (Term.length t).eval args s none [] s = none := by
      simp [Term.eval, e, hx]
    simp [Cond.before, Cond.holds, Cond.value, e2] at h
  | some c2 =>
    have hc2 := (State.arrayAt?_spec hx).1
    cases Option.some.inj (hc2.symm.trans hc)
    by_cases hl : cell.slots.size < 2 ^ 31
    · have e2 : (Term.length t).eval args s none [] s = some (.int cell.slots.size.toInt32) := by
        simp [Term.eval, e, hx, hl]
      have e3 : (Term.int 0).eval args s none [] s = some (.int 0) := rfl
      have e4 := Cond.eq_ints (args := args) (first := s) (o := none) (idx := []) (s := s) e2 e3
      have h5 : cell.slots.size.toInt32 = 0 := by
        simpa [Cond.before, Cond.holds, e4] using h
      exact h5
    · have e2 : (Term.length t).eval args s none [] s = none := by
        simp [Term.eval, e, hx, hl]
      simp [Cond.before, Cond.holds, Cond.value, e2] at h
theorem la_10 : Cond.initialized "java/util/ArrayList" ∈ lw_tbl := List.mem_append_right _ (List.mem_of_getElem? (i := 10) (by decide +kernel))
theorem la_13 : Cond.initialized "java/lang/Throwable" ∈ lw_tbl := List.mem_append_right _ (List.mem_of_getElem? (i := 12) (by decide +kernel))
theorem la_227 : Cond.laysStatic "java/util/ArrayList" "DEFAULTCAPACITY_EMPTY_ELEMENTDATA" "[Ljava/lang/Object;" ∈ lw_tbl := List.mem_append_right _ (List.mem_of_getElem? (i := 226) (by decide +kernel))
theorem la_383 : Cond.laysStatic "java/lang/Throwable" "UNASSIGNED_STACK" "[Ljava/lang/StackTraceElement;" ∈ lw_tbl := List.mem_append_right _ (List.mem_of_getElem? (i := 331) (by decide +kernel))
theorem la_385 : Cond.laysStatic "java/lang/Throwable" "SUPPRESSED_SENTINEL" "Ljava/util/List;" ∈ lw_tbl := List.mem_append_right _ (List.mem_of_getElem? (i := 333) (by decide +kernel))
theorem la_345 : Cond.stringRef "RollSync" 54 "there are 6 files" ∈ lw_tbl := List.mem_append_right _ (List.mem_of_getElem? (i := 345) (by decide +kernel))
theorem la_411 : Cond.stringRef "RollSync" 264 "no such number" ∈ lw_tbl := List.mem_append_right _ (List.mem_of_getElem? (i := 411) (by decide +kernel))
theorem la_430 : Cond.stringRef "RollSync" 269 "out of its range" ∈ lw_tbl := List.mem_append_right _ (List.mem_of_getElem? (i := 430) (by decide +kernel))
theorem la_437 : Cond.stringRef "RollSync" 70 "the file would have more than 120 bytes" ∈ lw_tbl := List.mem_append_right _ (List.mem_of_getElem? (i := 437) (by decide +kernel))
theorem la_446 : Cond.stringRef "RollSync" 79 "the file has 120 bytes" ∈ lw_tbl := List.mem_append_right _ (List.mem_of_getElem? (i := 446) (by decide +kernel))
theorem la_517 : Cond.stringRef "RollSync" 121 "no signature in its place" ∈ lw_tbl := List.mem_append_right _ (List.mem_of_getElem? (i := 517) (by decide +kernel))
theorem la_565 : Cond.stringRef "RollSync" 151 "no delta, or a copy goes beyond the basis" ∈ lw_tbl := List.mem_append_right _ (List.mem_of_getElem? (i := 565) (by decide +kernel))
theorem la_582 : Cond.stringRef "RollSync" 277 "there are 20 versions" ∈ lw_tbl := List.mem_append_right _ (List.mem_of_getElem? (i := 582) (by decide +kernel))
theorem la_615 : Cond.stringRef "RollSync" 279 "the version is broken" ∈ lw_tbl := List.mem_append_right _ (List.mem_of_getElem? (i := 615) (by decide +kernel))
theorem la_624 : Cond.stringRef "RollSync" 214 "there are 12 papers" ∈ lw_tbl := List.mem_append_right _ (List.mem_of_getElem? (i := 624) (by decide +kernel))
theorem la_880 : Cond.stringRef "RollSync" 275 "no such paper" ∈ lw_tbl := List.mem_append_right _ (List.mem_of_getElem? (i := 880) (by decide +kernel))
theorem na_ao : Cond.arrayOf (.static "java/util/ArrayList" "DEFAULTCAPACITY_EMPTY_ELEMENTDATA" "[Ljava/lang/Object;") (.object "java/lang/Object") ∈ flatC (Jvm.Cond.and given_1 narrow_1) := List.mem_of_getElem? (i := 5) (by decide +kernel)
theorem na_ex : Cond.exactly (.static "java/util/ArrayList" "DEFAULTCAPACITY_EMPTY_ELEMENTDATA" "[Ljava/lang/Object;") "[Ljava/lang/Object;" ∈ flatC (Jvm.Cond.and given_1 narrow_1) := List.mem_of_getElem? (i := 6) (by decide +kernel)
theorem na_ln : Cond.eq (.length (.static "java/util/ArrayList" "DEFAULTCAPACITY_EMPTY_ELEMENTDATA" "[Ljava/lang/Object;")) (.int 0) ∈ flatC (Jvm.Cond.and given_1 narrow_1) := List.mem_of_getElem? (i := 7) (by decide +kernel)
theorem na_us : Cond.isRef (.static "java/lang/Throwable" "UNASSIGNED_STACK" "[Ljava/lang/StackTraceElement;") ∈ flatC (Jvm.Cond.and given_1 narrow_1) := List.mem_of_getElem? (i := 8) (by decide +kernel)
theorem na_ss : Cond.isRef (.static "java/lang/Throwable" "SUPPRESSED_SENTINEL" "Ljava/util/List;") ∈ flatC (Jvm.Cond.and given_1 narrow_1) := List.mem_of_getElem? (i := 9) (by decide +kernel)
theorem na_mi : Cond.isRef (.mirror "[Ljava/lang/Object;") ∈ flatC (Jvm.Cond.and given_1 narrow_1) := List.mem_of_getElem? (i := 116) (by decide +kernel)
theorem na_s54 : Cond.exactly (.string "RollSync" 54) "java/lang/String" ∈ flatC (Jvm.Cond.and given_1 narrow_1) := List.mem_of_getElem? (i := 117) (by decide +kernel)
theorem na_s264 : Cond.exactly (.string "RollSync" 264) "java/lang/String" ∈ flatC (Jvm.Cond.and given_1 narrow_1) := List.mem_of_getElem? (i := 138) (by decide +kernel)
theorem na_s269 : Cond.exactly (.string "RollSync" 269) "java/lang/String" ∈ flatC (Jvm.Cond.and given_1 narrow_1) := List.mem_of_getElem? (i := 157) (by decide +kernel)
theorem na_s70 : Cond.exactly (.string "RollSync" 70) "java/lang/String" ∈ flatC (Jvm.Cond.and given_1 narrow_1) := List.mem_of_getElem? (i := 179) (by decide +kernel)
theorem na_s79 : Cond.exactly (.string "RollSync" 79) "java/lang/String" ∈ flatC (Jvm.Cond.and given_1 narrow_1) := List.mem_of_getElem? (i := 225) (by decide +kernel)
theorem na_s121 : Cond.exactly (.string "RollSync" 121) "java/lang/String" ∈ flatC (Jvm.Cond.and given_1 narrow_1) := List.mem_of_getElem? (i := 255) (by decide +kernel)
theorem na_s151 : Cond.exactly (.string "RollSync" 151) "java/lang/String" ∈ flatC (Jvm.Cond.and given_1 narrow_1) := List.mem_of_getElem? (i := 289) (by decide +kernel)
theorem na_s277 : Cond.exactly (.string "RollSync" 277) "java/lang/String" ∈ flatC (Jvm.Cond.and given_1 narrow_1) := List.mem_of_getElem? (i := 340) (by decide +kernel)
theorem na_s279 : Cond.exactly (.string "RollSync" 279) "java/lang/String" ∈ flatC (Jvm.Cond.and given_1 narrow_1) := List.mem_of_getElem? (i := 372) (by decide +kernel)
theorem na_s214 : Cond.exactly (.string "RollSync" 214) "java/lang/String" ∈ flatC (Jvm.Cond.and given_1 narrow_1) := List.mem_of_getElem? (i := 405) (by decide +kernel)
theorem na_s275 : Cond.exactly (.string "RollSync" 275) "java/lang/String" ∈ flatC (Jvm.Cond.and given_1 narrow_1) := List.mem_of_getElem? (i := 437) (by decide +kernel)
theorem na_AI : Cond.not (.castable "java/lang/IllegalArgumentException" "java/lang/IndexOutOfBoundsException") ∈ flatC (Jvm.Cond.and given_1 narrow_1) := List.mem_of_getElem? (i := 20) (by decide +kernel)
theorem na_SI : Cond.not (.castable "java/lang/IllegalStateException" "java/lang/IndexOutOfBoundsException") ∈ flatC (Jvm.Cond.and given_1 narrow_1) := List.mem_of_getElem? (i := 19) (by decide +kernel)
theorem na_SA : Cond.not (.castable "java/lang/IllegalStateException" "java/lang/IllegalArgumentException") ∈ flatC (Jvm.Cond.and given_1 narrow_1) := List.mem_of_getElem? (i := 31) (by decide +kernel)
theorem law_ncs {args : Array Value} {s : State} (hgv : (Jvm.Cond.and given_1 narrow_1).before args s = true) : ncs s :=
  ⟨va_Nc.of (flat_of_before _ hgv _ na_AI), va_Nc.of (flat_of_before _ hgv _ na_SI), va_Nc.of (flat_of_before _ hgv _ na_SA)⟩
theorem law_E {args : Array Value} {s : State} (hts : ∀ w ∈ lw_tbl, w.before args s = true) (hgv : (Jvm.Cond.and given_1 narrow_1).before args s = true) : ∃ G : AG, G.2.2.1 = s.heap.size ∧ am_E G s := by
  have hs := flat_of_before _ hgv
  obtain ⟨c0, i0, k0⟩ := u_known (C := RJx4a65c) (T := TJx4a65c) (N := 3) (n := 3) hts cl_0.2.1 (hts _ inJx4a65c)
  obtain ⟨c1, i1, k1⟩ := u_known (C := RX0) (T := TX0) (N := 9) (n := 9) hts cl_1.2.1 (hts _ inX0)
  obtain ⟨c2, i2, k2⟩ := u_known (C := RX1) (T := TX1) (N := 3) (n := 3) hts cl_2.2.1 (hts _ inX1)
  obtain ⟨c3, i3, k3⟩ := u_known (C := RX2) (T := TX2) (N := 8) (n := 8) hts cl_3.2.1 (hts _ inX2)
  obtain ⟨c4, i4, k4⟩ := u_known (C := RX3) (T := TX3) (N := 2) (n := 2) hts cl_4.2.1 (hts _ inX3)
  obtain ⟨c5, i5, k5⟩ := u_known (C := RX4) (T := TX4) (N := 2) (n := 2) hts cl_5.2.1 (hts _ inX4)
  obtain ⟨c6, i6, k6⟩ := u_known (C := RX5) (T := TX5) (N := 5) (n := 5) hts cl_6.2.1 (hts _ inX5)
  obtain ⟨c7, i7, k7⟩ := u_known (C := RX6) (T := TX6) (N := 7) (n := 7) hts cl_7.2.1 (hts _ inX6)
  obtain ⟨c8, i8, k8⟩ := u_known (C := RX7) (T := TX7) (N := 4) (n := 4) hts cl_8.2.1 (hts _ inX7)
  obtain ⟨c9, i9, k9⟩ := u_known (C := RX8) (T := TX8) (N := 7) (n := 7) hts cl_9.2.1 (hts _ inX8)
  obtain ⟨dC, dI, hKc⟩ : ∃ (dC : Nat → ClassId) (dI : Nat → Nat → Nat), ∀ (k : Nat) (q : vw_C), vwCl[k]? = some q → u_Kn s q.1 q.2.1 q.2.2 (dC k) (dI k) := by
    refine ⟨(fun k => if k = 0 then c0 else if k = 1 then c1 else if k = 2 then c2 else if k = 3 then c3 else if k = 4 then c4 else if k = 5 then c5 else if k = 6 then c6 else if k = 7 then c7 else if k = 8 then c8 else c9), (fun k => if k = 0 then i0 else if k = 1 then i1 else if k = 2 then i2 else if k = 3 then i3 else if k = 4 then i4 else if k = 5 then i5 else if k = 6 then i6 else if k = 7 then i7 else if k = 8 then i8 else i9), ?_⟩
    intro k q hq
    match k, hq with
    | 0, hq => cases hq; exact k0
    | 1, hq => cases hq; exact k1
    | 2, hq => cases hq; exact k2
    | 3, hq => cases hq; exact k3
    | 4, hq => cases hq; exact k4
    | 5, hq => cases hq; exact k5
    | 6, hq => cases hq; exact k6
    | 7, hq => cases hq; exact k7
    | 8, hq => cases hq; exact k8
    | 9, hq => cases hq; exact k9
    | k + 10, hq => simp [vwCl] at hq
  obtain ⟨a0, p0, r0⟩ := law_aI (hts _ ac_int)
  obtain ⟨a1, p1, r1⟩ := law_aL (hts _ ac_long)
  obtain ⟨a2, p2, r2⟩ := law_aZ (hts _ ac_boolean)
  obtain ⟨a3, p3, r3⟩ := law_aQ (hts _ ao_Row)
  obtain ⟨a4, p4, r4⟩ := law_aQ (hts _ ao_Signature)
  obtain ⟨a5, p5, r5⟩ := law_aQ (hts _ ao_Delta)
  obtain ⟨a6, p6, r6⟩ := law_aQ (hts _ ao_Version)
  obtain ⟨a7, p7, r7⟩ := law_aQ (hts _ ao_Paper)
  obtain ⟨a8, p8, r8⟩ := law_aQ (hts _ ao_Object)
  have hA : ∀ a : Nat, a < s.heap.size → ¬ s.heap.size ≤ a := fun a h => Nat.not_le.mpr h
  obtain ⟨aD, cD, cell, kD, e1, e2, e3, e4, e5, e6, -⟩ := Cond.exactly_spec (hs _ na_ex)
  have hal := (Cond.arrayOf_spec (hs _ na_ao) e1 e3).1
  have hln := law_len0 (hs _ na_ln) e1 e3
  obtain ⟨mi, hmi⟩ := va_Mi.of (hs _ na_mi)
  refine ⟨((dC, dI), (fun k => if k = 0 then a0 else if k = 1 then a1 else if k = 2 then a2 else if k = 3 then a3 else if k = 4 then a4 else if k = 5 then a5 else if k = 6 then a6 else if k = 7 then a7 else a8), s.heap.size, aD, mi), rfl, fun w hw hk => am_ok_any hk (hts w hw), ⟨hKc, ?_⟩, vx_Zqof (hts _ la_383) (hts _ la_13) (hs _ na_us) hA, vx_Zqof (hts _ la_385) (hts _ la_13) (hs _ na_ss) hA, va_Zof (hts _ la_227) (hts _ la_10) e1 hA, ⟨⟨cell, e3, hal, hln⟩, hA _ (Array.getElem?_eq_some_iff.mp e3).1⟩, ?_, hmi, Nat.le_refl _⟩
  · intro k q hq
    match k, hq with
    | 0, hq => cases hq; exact ⟨p0, r0⟩
    | 1, hq => cases hq; exact ⟨p1, r1⟩
    | 2, hq => cases hq; exact ⟨p2, r2⟩
    | 3, hq => cases hq; exact ⟨p3, r3⟩
    | 4, hq => cases hq; exact ⟨p4, r4⟩
    | 5, hq => cases hq; exact ⟨p5, r5⟩
    | 6, hq => cases hq; exact ⟨p6, r6⟩
    | 7, hq => cases hq; exact ⟨p7, r7⟩
    | 8, hq => cases hq; exact ⟨p8, r8⟩
    | k + 9, hq => simp [am_tys] at hq
  · exact List.forall_mem_cons.mpr ⟨law_str (hts _ la_345) (hs _ na_s54), List.forall_mem_cons.mpr ⟨law_str (hts _ la_411) (hs _ na_s264), List.forall_mem_cons.mpr ⟨law_str (hts _ la_430) (hs _ na_s269), List.forall_mem_cons.mpr ⟨law_str (hts _ la_437) (hs _ na_s70), List.forall_mem_cons.mpr ⟨law_str (hts _ la_446) (hs _ na_s79), List.forall_mem_cons.mpr ⟨law_str (hts _ la_517) (hs _ na_s121), List.forall_mem_cons.mpr ⟨law_str (hts _ la_565) (hs _ na_s151), List.forall_mem_cons.mpr ⟨law_str (hts _ la_582) (hs _ na_s277), List.forall_mem_cons.mpr ⟨law_str (hts _ la_615) (hs _ na_s279), List.forall_mem_cons.mpr ⟨law_str (hts _ la_624) (hs _ na_s214), List.forall_mem_cons.mpr ⟨law_str (hts _ la_880) (hs _ na_s275), List.forall_mem_nil _⟩⟩⟩⟩⟩⟩⟩⟩⟩⟩⟩
