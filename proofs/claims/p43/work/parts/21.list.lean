/-! lists -/
theorem pJxc12de_7 : am_Fp RJxc12de 7 0 0 .int := ⟨_, _, _, "java/util/AbstractList", cl_0, by decide, Or.inl (List.mem_append_right _ (List.mem_of_getElem? (i := 229) (by decide +kernel))), Or.inl rfl, rfl, by decide +kernel⟩
theorem ls_39 : Cond.fieldLink RJx4a65c 39 "java/util/ArrayList" am_dN am_dD ∈ lw_tbl := List.mem_append_right _ (List.mem_of_getElem? (i := 225) (by decide +kernel))
theorem ls_ac1 : Cond.methodLink RJ7 150 arraycopyName ∈ lw_tbl := List.mem_append_right _ (List.mem_of_getElem? (i := 733) (by decide +kernel))
theorem ls_ac2 : Cond.static arraycopyName ∈ lw_tbl := List.mem_append_right _ (List.mem_of_getElem? (i := 734) (by decide +kernel))
theorem ls_ac3 : Cond.native arraycopyName ∈ lw_tbl := List.mem_append_right _ (List.mem_of_getElem? (i := 735) (by decide +kernel))
theorem ls_ac4 : Cond.initialized "java/lang/System" ∈ lw_tbl := List.mem_append_right _ (List.mem_of_getElem? (i := 24) (by decide +kernel))
abbrev gcN : MethodName := ⟨"java/lang/Object", "getClass", "()Ljava/lang/Class;"⟩
theorem ls_gc1 : Cond.methodLink RJ7 86 gcN ∈ lw_tbl := List.mem_append_right _ (List.mem_of_getElem? (i := 709) (by decide +kernel))
theorem ls_gc2 : Cond.instanceMethod gcN ∈ lw_tbl := List.mem_append_right _ (List.mem_of_getElem? (i := 710) (by decide +kernel))
theorem ls_gc3 : Cond.native gcN ∈ lw_tbl := List.mem_append_right _ (List.mem_of_getElem? (i := 725) (by decide +kernel))
theorem ls_gc4 : Cond.selects "[Ljava/lang/Object;" gcN gcN ∈ lw_tbl := List.mem_append_right _ (List.mem_of_getElem? (i := 986) (by decide +kernel))
theorem ls_gc5 : Cond.declares gcN ∈ lw_tbl := List.mem_append_right _ (List.mem_of_getElem? (i := 987) (by decide +kernel))
section LSrows
variable {Z : AZ} {own : String} {cc : ByteArray} {Q : State → Prop} {M : AM} {k n pc : Nat} {L : List (Option Value)} {st : List Value}
theorem aw_getsD (X : am_X RJx4a65c cc Z) (d : decode cc pc = .ok (.getstatic 39, 3)) (kk : AW Z Q M k n (pc + 3) L (.ref (zG Z).2.2.2.1 :: st)) : AW Z Q M k n pc L st := by
  intro H locs ls hH hS hL
  exact va_gets X.1 X.2.1 X.2.2.2.2.2.2.2.2.2.2.1 hS X.2.2.2.1 (X.w ls_39 rfl) (fun _ h => h) d (kk H locs ls hH hS hL)
theorem aw_alenD (X : am_X own cc Z) (d : decode cc pc = .ok (.arraylength, 1)) (kk : AW Z Q M k n (pc + 1) L (.int (nI 0) :: st)) : AW Z Q M k n pc L (.ref (zG Z).2.2.2.1 :: st) := by
  intro H locs ls hH hS hL
  obtain ⟨⟨cell, z1, z2, z3⟩, z4⟩ := X.2.2.2.2.2.2.2.2.2.2.2.1
  have hq : H[(zG Z).2.2.2.1]? = some cell := by
    rw [hS.2.1 _ (Array.getElem?_eq_some_iff.mp z1).1 z4]
    exact z1
  exact W.alen (n := nI 0) X.1 X.2.1 hq z2 z3 rfl rfl d (kk H locs ls hH hS hL)
theorem aw_acmpeqR (X : am_X own cc Z) {a b : Nat} {off : Int} {tgt : Nat} (d : decode cc pc = .ok (.if_acmp .eq off, 3)) (h : (pc : Int) + off = (tgt : Int)) (kt : a = b → AW Z Q M k n tgt L st) (kf : ¬ a = b → AW Z Q M k n (pc + 3) L st) : AW Z Q M k n pc L (.ref b :: .ref a :: st) :=
  aw_acmpeq (rx := some a) (ry := some b) X d h (fun c => kt (Option.some.inj c)) (fun c => kf (fun e => c (congrArg some e)))
theorem aw_acmpneR (X : am_X own cc Z) {a b : Nat} {off : Int} {tgt : Nat} (d : decode cc pc = .ok (.if_acmp .ne off, 3)) (h : (pc : Int) + off = (tgt : Int)) (kt : ¬ a = b → AW Z Q M k n tgt L st) (kf : a = b → AW Z Q M k n (pc + 3) L st) : AW Z Q M k n pc L (.ref b :: .ref a :: st) :=
  aw_acmpne (rx := some a) (ry := some b) X d h (fun c => kt (fun e => c (congrArg some e))) (fun c => kf (Option.some.inj c))
theorem am_X.mi (X : am_X own cc Z) : va_Mi "[Ljava/lang/Object;" (zG Z).2.2.2.2 (zs Z) := X.2.2.2.2.2.2.2.2.2.2.2.2.2.1
theorem aw_ldcM (X : am_X RJ7 cc Z) {mi : Nat} (hm : va_Mi "[Ljava/lang/Object;" mi (zs Z)) (d : decode cc pc = .ok (.ldc 110, 2)) (kk : AW Z Q M k n (pc + 2) L (.ref mi :: st)) : AW Z Q M k n pc L st :=
  fun H locs ls hH hS hL => va_ldcM X.1 X.2.1 X.2.2.2.1 (X.w cnJ7_110 rfl) hm d (kk H locs ls hH hS hL)
theorem aw_getC (X : am_X RJ7 cc Z) {mi a N : Nat} {f : Nat → Option Nat} (hm : va_Mi "[Ljava/lang/Object;" mi (zs Z)) (hM : M.1 a = some (am_aq (zG Z) 8 N f)) (d : decode cc pc = .ok (.invokevirtual 86, 3)) (h1 : 1 ≤ (zR Z).frames) (h2 : (st.map fun v => v.category).sum + 14 ≤ (zR Z).locals) (kk : AW Z Q M k n (pc + 3) L (.ref mi :: st)) : AW Z Q M k n pc L (.ref a :: st) := by
  intro H locs ls hH hS hL
  obtain ⟨kA, comp, g1, g2, g3, g4⟩ := (X.K.2 8 _ rfl).2
  have hr : ∃ cell : Cell, H[a]? = some cell ∧ cell.vm.isStatics = false ∧ (zs Z).vm.findClass "[Ljava/lang/Object;" = some cell.cls := ⟨_, (hH.1 a _ hM).1, rfl, g4⟩
  exact va_getC X.1 X.2.1 (by rw [X.2.2.1]; exact hL.1.symm) X.2.2.2.1 (X.w ls_gc1 rfl) (X.w ls_gc5 rfl) (X.w ls_gc4 rfl) (X.w ls_gc2 rfl) (X.w ls_gc3 rfl) hm hr h1 h2 d (kk H locs ls hH hS hL)
theorem aw_copyq (X : am_X RJ7 cc Z) {a0 a n0 n1 N : Nat} {f g : Nat → Option Nat} (hM0 : M.1 a0 = some (am_aq (zG Z) 8 n0 f)) (hM1 : M.1 a = some (am_aq (zG Z) 8 n1 g)) (h0 : N ≤ n0) (h1 : N ≤ n1) (hN : N < 2 ^ 31) (hel : ∀ i y, i < N → f i = some y → ∃ vs, M.1 y = some (.inr (2, vs)))
    (d : decode cc pc = .ok (.invokestatic 150, 3)) (hf : 1 ≤ (zR Z).frames) (hlo : (st.map fun v => v.category).sum + (nativeFrameWords "java/lang/System" "arraycopy" 5 + 11) ≤ (zR Z).locals)
    (kk : AW Z Q (am_up M a (am_aq (zG Z) 8 n1 (va_cpy f g 0 0 N))) k n (pc + 3) L st) : AW Z Q M k n pc L (.int (nI N) :: .int (nI 0) :: .ref a :: .int (nI 0) :: .ref a0 :: st) := by
  intro H locs ls hH hS hL T hT hX
  have e0 : (nI 0).toNatClampNeg = 0 := nI_clamp (by decide)
  have eN : (nI N).toNatClampNeg = N := nI_clamp hN
  have i0 : (nI 0).toInt = 0 := by decide
  have iN : (nI N).toInt = (N : Int) := nI_toInt hN
  have hc0 : H[a0]? = some (vp_cell ((zG Z).2.1 8) (n0, .inr (.inr (.inr (.inr f))))) := (hH.1 a0 _ hM0).1
  have hc1 : H[a]? = some (vp_cell ((zG Z).2.1 8) (n1, .inr (.inr (.inr (.inr g))))) := (hH.1 a _ hM1).1
  obtain ⟨-, k0, hk0, cm0, hkk0⟩ := (X.K.2 8 _ rfl).1 n0 (fun j => va_rf (f j))
  have hasg : ∀ comp c0 : ClassId, (zs Z).vm.findClass "java/lang/Object" = some comp → (zs Z).vm.findClass RX1 = some c0 → (zs Z).vm.assignable c0 comp = true := by
    obtain ⟨C, E, T0, N0, hc, hT0, hCE⟩ := as_2_8
    intro comp c0 q1 q2
    exact vb_asgC (va_Nw.of rfl (X.w (show Cond.castable RX1 "java/lang/Object" ∈ lw_tbl by
      rcases hCE with e | e
      · cases hc
        have := hT0 ((fun _ => 0, fun _ _ => 0), fun _ => 0, 0, 0, 0)
        cases this
        exact absurd e (by decide)
      · cases hc
        have := hT0 ((fun _ => 0, fun _ _ => 0), fun _ => 0, 0, 0, 0)
        cases this
        exact e) rfl)) comp c0 q1 q2
  obtain ⟨vm', X', step⟩ := hX.arraycopy X.1 X.2.2.2.1 (X.w ls_ac1 rfl) (X.w ls_ac3 rfl) (X.w ls_ac2 rfl) (X.w ls_ac4 rfl) (src := a0) (dst := a) (cs := vp_cell ((zG Z).2.1 8) (n0, .inr (.inr (.inr (.inr f))))) (cd := vp_cell ((zG Z).2.1 8) (n1, .inr (.inr (.inr (.inr g))))) (srcPos := nI 0) (destPos := nI 0) (n := nI N) (by rw [hT]; exact hc0) (by rw [hT]; exact hc1)
    (fun _ h => by cases h) (fun _ h => by cases h) (fun h => by cases h) (fun h => by cases h) hk0 hk0 hkk0 hkk0 rfl (by decide) (by decide) (nI_pos hN)
    (by rw [i0, iN]; show ¬ _ > ((arrV ((zG Z).2.1 8) n0 (fun j => va_rf (f j))).slots.size : Int); rw [arrV_size]; omega)
    (by rw [i0, iN]; show ¬ _ > ((arrV ((zG Z).2.1 8) n1 (fun j => va_rf (g j))).slots.size : Int); rw [arrV_size]; omega)
    (fun vm₁ hal i hi => by
      rw [eN] at hi
      rw [e0]
      have e : (vp_cell ((zG Z).2.1 8) (n0, .inr (.inr (.inr (.inr f))))).slots.getD (0 + i) .null = va_rf (f (0 + i)) := by
        show (arrV ((zG Z).2.1 8) n0 (fun j => va_rf (f j))).slots.getD _ _ = _
        rw [Array.getD_eq_getD_getElem?, arrV_read _ _ (by omega)]
        rfl
      rw [e]
      cases hy : f (0 + i) with
      | none => exact ⟨rfl, trivial⟩
      | some y =>
        obtain ⟨vs, hvs⟩ := hel (0 + i) y (by omega) hy
        obtain ⟨r', hr', cellV, g1, g3, g2, -⟩ := (hH.1 y _ hvs).1
        cases hr'
        have hcls := (X.K.1 2 _ rfl).2.1
        obtain ⟨kA, comp, r1, r2, r3, -⟩ := (X.K.2 8 _ rfl).2
        cases hk0.symm.trans r1
        cases hkk0.symm.trans r2
        obtain ⟨kC, hkC, -⟩ := Vm.findClass_spec hcls
        obtain ⟨kE, hkE, -⟩ := Vm.findClass_spec r3
        obtain ⟨kC', hkC', -⟩ := hal.2.2 _ _ hkC
        obtain ⟨kE', hkE', -⟩ := hal.2.2 _ _ hkE
        refine ⟨rfl, cellV, (show T.heap[y]? = some cellV by rw [hT]; exact g1), (fun q h => by rw [h] at g2; cases g2), ⟨kC', by rw [g3]; exact hkC'⟩, ?_, ?_⟩
        · exact ⟨kE', hkE'⟩
        · show vm₁.assignable _ _ = true
          rw [hal.assignable, g3]
          exact hasg _ _ r3 hcls)
    (g := F0 (zm Z) pc ls (.int (nI N) :: .int (nI 0) :: .ref a :: .int (nI 0) :: .ref a0 :: st)) rfl (by rw [X.2.2.1]; exact hL.1) (rest := st) rfl (by rw [X.2.1]; exact d) hf (by show 2 * 0 + _ + _ ≤ _; omega)
  have e1 : copied (vp_cell ((zG Z).2.1 8) (n0, .inr (.inr (.inr (.inr f))))) (vp_cell ((zG Z).2.1 8) (n1, .inr (.inr (.inr (.inr g))))) (nI 0) (nI 0) (nI N) = vp_cell ((zG Z).2.1 8) (n1, .inr (.inr (.inr (.inr (va_cpy f g 0 0 N))))) := by
    rw [vp_cell_q, vp_cell_q, vp_cell_q]
    have := va_copied (fun z => va_rf z) ((zG Z).2.1 8) ((zG Z).2.1 8) (n0 := n0) (n1 := n1) (sp := (nI 0).toNatClampNeg) (dp := (nI 0).toNatClampNeg) (n := (nI N).toNatClampNeg) f g (by rw [e0, eN]; omega)
    rw [e0, eN] at this
    show (arrV _ _ _).storeRun (nI 0).toNatClampNeg ((arrV _ _ _).stretch (nI 0).toNatClampNeg (nI N).toNatClampNeg) = _
    rw [e0, eN]
    exact this
  rw [e1] at X' step
  have hl : a < H.size := (Array.getElem?_eq_some_iff.mp hc1).1
  have hheap : ((T.setVm vm').setCell a (vp_cell ((zG Z).2.1 8) (n1, .inr (.inr (.inr (.inr (va_cpy f g 0 0 N))))))).heap = H.setIfInBounds a (vp_cell ((zG Z).2.1 8) (n1, .inr (.inr (.inr (.inr (va_cpy f g 0 0 N)))))) := by rw [← hT]; rfl
  have oq : ∀ q : Nat, q ≠ a → (H.setIfInBounds a (vp_cell ((zG Z).2.1 8) (n1, .inr (.inr (.inr (.inr (va_cpy f g 0 0 N)))))))[q]? = H[q]? := fun q hq => by simp [Array.getElem?_setIfInBounds, Ne.symm hq]
  obtain ⟨t, a1, b1⟩ := kk _ _ ls (hH.put hM1 (show (H.setIfInBounds a _)[a]? = some _ by simp [Array.getElem?_setIfInBounds, hl]) (by simp) oq) ⟨by simp; exact hS.1, fun q g1 g2 => by
      rw [oq q (fun e => g2 (by rw [e]; exact (hH.1 a _ hM1).2))]
      exact hS.2.1 q g1 g2, fun q hq => by
      rcases List.mem_append.mp hq with h | h
      · exact hS.2.2 q h
      · obtain ⟨z, -, hz⟩ := List.mem_map.mp h
        rw [← hz]
        exact (hH.1 a _ hM1).2⟩ hL _ hheap X'
  exact ⟨t, step t a1, b1⟩
end LSrows
