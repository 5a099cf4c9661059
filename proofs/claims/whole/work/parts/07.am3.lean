section AMheap
variable {Z : AZ} {own : String} {cc : ByteArray} {Q : State → Prop} {M : AM} {k n pc : Nat} {L : List (Option Value)} {st : List Value}
/-- class ci: its name, its fields, their number -/
def am_C (ci : Nat) (C : String) (T : u_T) (N : Nat) : Prop := vwCl[ci]? = some (C, T, N) ∧ (∀ w ∈ u_ws C T N, w ∈ lw_tbl) ∧ (∃ ty : Nat → FieldType, ∀ k, k < N → parseFieldDescriptor (T k).2.2.1 = some (ty k)) ∧ (∀ a, a < N → ∀ b, b < N → a ≠ b → (T a).2.1 ≠ (T b).2.1)
theorem am_ok_lay {C : String} {T : u_T} {j : Nat} : am_ok (u_lay C T j) = true := by
  unfold u_lay
  split <;> rfl
theorem am_C.ts {ci : Nat} {C : String} {T : u_T} {N : Nat} (h : am_C ci C T N) (X : am_X own cc Z) : ∀ w ∈ u_ws C T N, w.before (za Z) (zs Z) = true := by
  intro w hw
  have h1 := h.2.1 w hw
  obtain ⟨j, -, rfl⟩ := List.mem_map.mp hw
  exact X.w h1 am_ok_lay
def am_lk (own : String) (idx : Nat) (ref name desc : String) : Prop := Cond.fieldLink own idx ref name desc ∈ lw_tbl ∨ ∃ host, Cond.fieldLinkNest own idx ref name desc host ∈ lw_tbl
def am_sf (ref owner name desc : String) : Prop := ref = owner ∨ Cond.sameField ref owner name desc ∈ lw_tbl
theorem am_sf.use {ref owner name desc : String} (h : am_sf ref owner name desc) (X : am_X own cc Z) : ∀ x, (zs Z).fieldFound? owner name desc = some x → (zs Z).fieldFound? ref name desc = some x := by
  rcases h with rfl | h
  · exact fun x h => h
  · exact u_same (X.w h rfl)
/-- the entry idx of own's pool names the field j of the class ci -/
def am_F (own : String) (idx ci j : Nat) : Prop := ∃ (C : String) (T : u_T) (N : Nat) (ref : String), am_C ci C T N ∧ j < N ∧ am_lk own idx ref (T j).2.1 (T j).2.2.1 ∧ am_sf ref (T j).1 (T j).2.1 (T j).2.2.1
theorem aw_get (X : am_X own cc Z) {idx ci j a : Nat} {fs : List Value} {v : Value} (hF : am_F own idx ci j) (d : decode cc pc = .ok (.getfield idx, 3)) (hM : M a = some (.inr (ci, fs))) (hv : fs[j]? = some v)
    (kk : AW Z Q M k n (pc + 3) L (v :: st)) : AW Z Q M k n pc L (.ref a :: st) := by
  intro H locs ls hH hS hL
  obtain ⟨C, T, N, ref, hC, hj, hlk, hsf⟩ := hF
  rcases hlk with h | ⟨host, h⟩
  · exact va_get X.1 X.2.1 (hC.ts X) (fun _ h => h) X.2.2.2.1 X.K (hH.P hM) 0 rfl hC.1 j hj (X.w h rfl) (hsf.use X) hv d (kk H locs ls hH hS hL)
  · exact va_getN X.1 X.2.1 (hC.ts X) (fun _ h => h) X.2.2.2.1 X.K (hH.P hM) 0 rfl hC.1 j hj (X.w h rfl) (hsf.use X) hv d (kk H locs ls hH hS hL)
def am_Fp (own : String) (idx ci j : Nat) (ty : FieldType) : Prop := ∃ (C : String) (T : u_T) (N : Nat) (ref : String), am_C ci C T N ∧ j < N ∧ am_lk own idx ref (T j).2.1 (T j).2.2.1 ∧ am_sf ref (T j).1 (T j).2.1 (T j).2.2.1 ∧ (T j).2.2.2 = false ∧ parseFieldDescriptor (T j).2.2.1 = some ty
theorem aw_put (X : am_X own cc Z) {idx ci j a : Nat} {fs fs' : List Value} {v : Value} {ty : FieldType} (hF : am_Fp own idx ci j ty) (d : decode cc pc = .ok (.putfield idx, 3)) (hM : M a = some (.inr (ci, fs))) (hfs : fs.set j v = fs') (hl : j < fs.length) (hn : narrow ty v = v) (hfit : fits ty v = true)
    (kk : AW Z Q (am_up M a (.inr (ci, fs'))) k n (pc + 3) L st) : AW Z Q M k n pc L (v :: .ref a :: st) := by
  intro H locs ls hH hS hL
  subst hfs
  obtain ⟨C, T, N, ref, hC, hj, hlk, hsf, hfin, hd⟩ := hF
  obtain ⟨ty0, hty⟩ := hC.2.2.1
  have hts := hC.ts X
  have hin : ∀ w ∈ u_ws C T N, w ∈ u_ws C T N := fun _ h => h
  have hap := va_apart (own := own) hts hin ty0 hty hC.2.2.2 X.K hC.1
  obtain ⟨r, h1, cell, q1, q2, q3, q4⟩ := (hH a _ hM).1
  have hr : r = (C, T, N) := Option.some.inj (h1.symm.trans hC.1)
  subst hr
  obtain ⟨hS1, hfc, kC, hkC, hkind⟩ := X.K.1 ci _ hC.1
  obtain ⟨cf, kf, fi, f, hi, hsl⟩ := hS1 j hj
  have hlay := hts _ (hin _ (u_in_lay hj))
  unfold u_lay at hlay
  rw [if_neg (by rw [hfin]; decide)] at hlay
  have hst := (u_facts hfc hkC (u_lays hts hin hj) hi).1
  have h6 := u_store hfc hkC hkind hlay hi hd hn hfit
  have fin : ∀ H' : Heap, H'[a]? = some (cell.setSlot f.slot v) → H'.size = H.size → (∀ q, q ≠ a → H'[q]? = H[q]?) → W (zp Z) (zl Z) (ze Z) (zR Z) (zs Z) (zm Z) (za Z) (zb Z) (zM Z) (zc Z) H' (locs ++ [⟨a, f.slot⟩]) k n Q (F0 (zm Z) (pc + 3) ls st) := by
    intro H' e1 e2 e3
    rw [hsl] at e1 ⊢
    exact kk H' _ ls (hH.put hM ⟨_, hC.1, t_OB.to (V := updV (vp_V fs) j v) ⟨_, e1, q2, q3, t_set q4 hap hj v⟩ (fun i _ => vp_updV_set hl v i)⟩ e3) (hS.put e2 e3 (hH a _ hM).2) hL
  rcases hlk with h | ⟨host, h⟩
  · exact W.putK X.1 X.2.1 (f := f) ⟨X.2.2.2.1, X.w h rfl, ⟨_, _, _, hsf.use X _ hi⟩, hst⟩ (by rw [q2]; exact h6) q1 q3 (by rw [hsl]; exact k2_hasslot (q4 j hj)) rfl rfl d fin
  · exact va_WputK X.1 X.2.1 (f := f) X.2.2.2.1 (X.w h rfl) (hsf.use X _ hi) hst (by rw [q2]; exact h6) q1 q3 (by rw [hsl]; exact k2_hasslot (q4 j hj)) rfl rfl d fin
def am_Ff (own : String) (idx ci j : Nat) (ty : FieldType) : Prop := ∃ (C : String) (T : u_T) (N : Nat), am_C ci C T N ∧ j < N ∧ Cond.fieldLink own idx own (T j).2.1 (T j).2.2.1 ∈ lw_tbl ∧ (T j).1 = own ∧ (T j).2.2.2 = true ∧ parseFieldDescriptor (T j).2.2.1 = some ty
theorem aw_putF (X : am_X own cc Z) {idx ci j a : Nat} {fs fs' : List Value} {v : Value} {ty : FieldType} (hF : am_Ff own idx ci j ty) (hinit : (zM Z).name = "<init>") (d : decode cc pc = .ok (.putfield idx, 3)) (hM : M a = some (.inr (ci, fs))) (hfs : fs.set j v = fs') (hl : j < fs.length) (hn : narrow ty v = v) (hfit : fits ty v = true)
    (kk : AW Z Q (am_up M a (.inr (ci, fs'))) k n (pc + 3) L st) : AW Z Q M k n pc L (v :: .ref a :: st) := by
  intro H locs ls hH hS hL
  subst hfs
  obtain ⟨C, T, N, hC, hj, hlk, hdecl, hfin, hd⟩ := hF
  obtain ⟨ty0, hty⟩ := hC.2.2.1
  have hts := hC.ts X
  have hin : ∀ w ∈ u_ws C T N, w ∈ u_ws C T N := fun _ h => h
  have hap := va_apart (own := own) hts hin ty0 hty hC.2.2.2 X.K hC.1
  obtain ⟨r, h1, cell, q1, q2, q3, q4⟩ := (hH a _ hM).1
  have hr : r = (C, T, N) := Option.some.inj (h1.symm.trans hC.1)
  subst hr
  obtain ⟨hS1, hfc, kC, hkC, hkind⟩ := X.K.1 ci _ hC.1
  obtain ⟨cf, kf, fi, f, hi, hsl⟩ := hS1 j hj
  have hlay := hts _ (hin _ (u_in_lay hj))
  unfold u_lay at hlay
  rw [if_pos hfin] at hlay
  have hst := (u_facts hfc hkC (u_lays hts hin hj) hi).1
  have hcf : (zm Z).cls = cf := by
    obtain ⟨_, _, c', _, _, _, -, -, hf', -, -, -, hown2, -⟩ := Cond.laysFinal_spec hlay
    have e1 : c' = cf := by have := hi.symm.trans hf'; simp at this; exact this.1.symm
    rw [hdecl] at hown2
    rw [← e1]; exact Option.some.inj (X.2.2.2.1.symm.trans hown2)
  have h6 := u_fits hfc hkC hkind (Or.inr hlay) hi hd hn hfit
  rw [hdecl] at hi
  refine W.putFinK X.1 X.2.1 X.2.2.2.1 (X.w hlk rfl) hi hst hcf hinit (by rw [q2]; exact h6) q1 q3 (by rw [hsl]; exact k2_hasslot (q4 j hj)) rfl rfl d fun H' e1 e2 e3 => ?_
  rw [hsl] at e1 ⊢
  exact kk H' _ ls (hH.put hM ⟨_, hC.1, t_OB.to (V := updV (vp_V fs) j v) ⟨_, e1, q2, q3, t_set q4 hap hj v⟩ (fun i _ => vp_updV_set hl v i)⟩ e3) (hS.put e2 e3 (hH a _ hM).2) hL
/-! arrays -/
theorem am_in {x : Int32} {N j : Nat} (hx : x = nI j) (hj : j < N) (hN : N < 2 ^ 31) : vp_in x N := by rw [hx]; exact vp_in_nI hj hN
theorem am_cl {x : Int32} {N j : Nat} (hx : x = nI j) (hj : j < N) (hN : N < 2 ^ 31) : x.toNatClampNeg = j := by rw [hx]; exact nI_clamp (by omega)
theorem aw_iald (X : am_X own cc Z) {N j a : Nat} {x : Int32} {f : Nat → Int32} (d : decode cc pc = .ok (.iaload, 1)) (hM : M a = some (am_ai (zG Z) N f)) (hx : x = nI j) (hj : j < N) (hN : N < 2 ^ 31)
    (kk : AW Z Q M k n (pc + 1) L (.int (f j) :: st)) : AW Z Q M k n pc L (.int x :: .ref a :: st) := by
  intro H locs ls hH hS hL
  exact va_iald X.1 X.2.1 X.K (hH.P hM) 0 0 rfl rfl (am_in hx hj hN) d (by rw [am_cl hx hj hN]; exact kk H locs ls hH hS hL)
theorem aw_zald (X : am_X own cc Z) {N j a : Nat} {x : Int32} {f : Nat → Int32} (d : decode cc pc = .ok (.baload, 1)) (hM : M a = some (am_az (zG Z) N f)) (hx : x = nI j) (hj : j < N) (hN : N < 2 ^ 31)
    (kk : AW Z Q M k n (pc + 1) L (.int (f j) :: st)) : AW Z Q M k n pc L (.int x :: .ref a :: st) := by
  intro H locs ls hH hS hL
  exact va_zald X.1 X.2.1 X.K (hH.P hM) 0 2 rfl rfl (am_in hx hj hN) d (by rw [am_cl hx hj hN]; exact kk H locs ls hH hS hL)
theorem aw_lald (X : am_X own cc Z) {N j a : Nat} {x : Int32} {f : Nat → Int64} (d : decode cc pc = .ok (.laload, 1)) (hM : M a = some (am_al (zG Z) N f)) (hx : x = nI j) (hj : j < N) (hN : N < 2 ^ 31)
    (kk : AW Z Q M k n (pc + 1) L (.long (f j) :: st)) : AW Z Q M k n pc L (.int x :: .ref a :: st) := by
  intro H locs ls hH hS hL
  exact va_lald X.1 X.2.1 X.K (hH.P hM) 0 1 rfl rfl (am_in hx hj hN) d (by rw [am_cl hx hj hN]; exact kk H locs ls hH hS hL)
/-- the kinds of the arrays of references -/
def am_T (t : Nat) (E : String) : Prop := ∀ G : AG, (am_tys G)[t]? = some (G.2.1 t, .object E)
theorem aw_aald (X : am_X own cc Z) {t N j a : Nat} {E : String} {x : Int32} {f : Nat → Option Nat} (ht : am_T t E) (d : decode cc pc = .ok (.aaload, 1)) (hM : M a = some (am_aq (zG Z) t N f)) (hx : x = nI j) (hj : j < N) (hN : N < 2 ^ 31)
    (kk : AW Z Q M k n (pc + 1) L (va_rf (f j) :: st)) : AW Z Q M k n pc L (.int x :: .ref a :: st) := by
  intro H locs ls hH hS hL
  exact va_aldq X.1 X.2.1 X.K (hH.P hM) 0 t rfl (ht _) (am_in hx hj hN) d (by rw [am_cl hx hj hN]; exact kk H locs ls hH hS hL)
theorem aw_iast (X : am_X own cc Z) {N j a : Nat} {x y : Int32} {f : Nat → Int32} (d : decode cc pc = .ok (.iastore, 1)) (hM : M a = some (am_ai (zG Z) N f)) (hx : x = nI j) (hj : j < N) (hN : N < 2 ^ 31)
    (kk : AW Z Q (am_up M a (am_ai (zG Z) N (upd f j y))) k n (pc + 1) L st) : AW Z Q M k n pc L (.int y :: .int x :: .ref a :: st) := by
  intro H locs ls hH hS hL
  have hin := am_in hx hj hN
  refine W.iast X.1 X.2.1 (hH a _ hM).1 ((X.K.2 0 _ rfl).1 N (fun j => .int (f j))) (fun q => by cases q) (by show ¬ (x < 0 ∨ (arrV _ _ _).slots.size ≤ _); rw [arrV_size]; exact hin) rfl rfl d fun H1 e1 z oq => ?_
  rw [am_cl hx hj hN] at e1
  refine kk H1 _ ls (hH.put hM ?_ oq) (hS.put z oq (hH a _ hM).2) hL
  show H1[a]? = some (vp_cell _ _)
  rw [e1, vp_cell_i, vp_cell_i, arrV_store]
  congr 2
  funext q
  by_cases hq : q = j
  · subst hq
    simp [updV, upd]
  · simp [updV, upd, hq]
theorem aw_zast (X : am_X own cc Z) {N j a : Nat} {x y : Int32} {f : Nat → Int32} (d : decode cc pc = .ok (.bastore, 1)) (hM : M a = some (am_az (zG Z) N f)) (hx : x = nI j) (hj : j < N) (hN : N < 2 ^ 31) (hy : narrow .boolean (.int y) = .int y)
    (kk : AW Z Q (am_up M a (am_az (zG Z) N (upd f j y))) k n (pc + 1) L st) : AW Z Q M k n pc L (.int y :: .int x :: .ref a :: st) := by
  intro H locs ls hH hS hL
  have hin := am_in hx hj hN
  refine W.zast X.1 X.2.1 (hH a _ hM).1 ((X.K.2 2 _ rfl).1 N (fun j => .int (f j))) (fun q => by cases q) (by show ¬ (x < 0 ∨ (arrV _ _ _).slots.size ≤ _); rw [arrV_size]; exact hin) rfl rfl d fun H1 e1 z oq => ?_
  rw [am_cl hx hj hN, hy] at e1
  refine kk H1 _ ls (hH.put hM ?_ oq) (hS.put z oq (hH a _ hM).2) hL
  show H1[a]? = some (vp_cell _ _)
  rw [e1, vp_cell_i, vp_cell_i, arrV_store]
  congr 2
  funext q
  by_cases hq : q = j
  · subst hq
    simp [updV, upd]
  · simp [updV, upd, hq]
theorem aw_last (X : am_X own cc Z) {N j a : Nat} {x : Int32} {y : Int64} {f : Nat → Int64} (d : decode cc pc = .ok (.lastore, 1)) (hM : M a = some (am_al (zG Z) N f)) (hx : x = nI j) (hj : j < N) (hN : N < 2 ^ 31)
    (kk : AW Z Q (am_up M a (am_al (zG Z) N (vp_updL f j y))) k n (pc + 1) L st) : AW Z Q M k n pc L (.long y :: .int x :: .ref a :: st) := by
  intro H locs ls hH hS hL
  have hin := am_in hx hj hN
  refine W.last X.1 X.2.1 (hH a _ hM).1 ((X.K.2 1 _ rfl).1 N (fun j => .long (f j))) (fun q => by cases q) (by show ¬ (x < 0 ∨ (arrV _ _ _).slots.size ≤ _); rw [arrV_size]; exact hin) rfl rfl d fun H1 e1 z oq => ?_
  rw [am_cl hx hj hN] at e1
  refine kk H1 _ ls (hH.put hM ?_ oq) (hS.put z oq (hH a _ hM).2) hL
  show H1[a]? = some (vp_cell _ _)
  rw [e1, vp_cell_l, vp_cell_l, arrV_store]
  congr 2
  funext q
  by_cases hq : q = j
  · subst hq
    simp [updV, vp_updL]
  · simp [updV, vp_updL, hq]
/-- the class ci may stand in arrays over E -/
def am_as (ci t : Nat) : Prop := ∃ (C E : String) (T : u_T) (N : Nat), vwCl[ci]? = some (C, T, N) ∧ am_T t E ∧ (C = E ∨ Cond.castable C E ∈ lw_tbl)
theorem aw_aast (X : am_X own cc Z) {t N j a v ci : Nat} {vs : List Value} {x : Int32} {f : Nat → Option Nat} (has : am_as ci t) (d : decode cc pc = .ok (.aastore, 1)) (hM : M a = some (am_aq (zG Z) t N f)) (hV : M v = some (.inr (ci, vs))) (hx : x = nI j) (hj : j < N) (hN : N < 2 ^ 31)
    (kk : AW Z Q (am_up M a (am_aq (zG Z) t N (va_up f j (some v)))) k n (pc + 1) L st) : AW Z Q M k n pc L (.ref v :: .int x :: .ref a :: st) := by
  intro H locs ls hH hS hL
  obtain ⟨C, E, T, N0, hc, hT, hCE⟩ := has
  have hin := am_in hx hj hN
  have hlt : x.toNatClampNeg < N := Nat.not_le.mp fun q => hin (Or.inr q)
  have h0 : ¬ x < 0 := fun q => hin (Or.inl q)
  obtain ⟨r', hr', cellV, g1, g2, g3, -⟩ := (hH v _ hV).1
  have hcls := (X.K.1 ci _ hc).2
  obtain ⟨kA, comp, k1, k2, k3, -⟩ := (X.K.2 t _ (hT _)).2
  obtain ⟨kC, hkC, -⟩ := hcls.2
  have hasg : (zs Z).vm.assignable ((zG Z).1.1 ci) comp = true := by
    rcases hCE with rfl | h
    · have hcomp : comp = (zG Z).1.1 ci := Option.some.inj (k3.symm.trans hcls.1)
      rw [hcomp]
      exact va_assign hcls
    · exact vb_asgC (va_Nw.of rfl (X.w h rfl)) comp _ k3 hcls.1
  have hkcomp : ∃ kk, (zs Z).vm.classes[comp]? = some kk := by
    obtain ⟨k9, h9, -⟩ := Vm.findClass_spec k3
    exact ⟨k9, h9⟩
  obtain ⟨kcomp, hkcomp⟩ := hkcomp
  refine W.aast X.1 X.2.1 (hH a _ hM).1 (fun q h => by cases h) (fun h => by cases h) k1 k2 rfl hkcomp ⟨h0, by show _ < (arrV _ _ _).slots.size; rw [arrV_size]; exact hlt⟩ g1 (fun q h => by rw [g3] at h; cases h) (by rw [g2]; exact hkC) (by rw [g2]; exact hasg) rfl rfl d fun H1 e1 z oq => ?_
  rw [am_cl hx hj hN] at e1
  refine kk H1 _ ls (hH.put hM ?_ oq) (hS.put z oq (hH a _ hM).2) hL
  show H1[a]? = some (vp_cell _ _)
  rw [e1, vp_cell_q, vp_cell_q, arrV_store]
  congr 2
  funext q
  by_cases hq : q = j
  · subst hq
    simp [updV, va_up, va_rf]
  · simp [updV, va_up, hq]
theorem aw_aastN (X : am_X own cc Z) {t N j a : Nat} {E : String} {x : Int32} {f : Nat → Option Nat} (ht : am_T t E) (d : decode cc pc = .ok (.aastore, 1)) (hM : M a = some (am_aq (zG Z) t N f)) (hx : x = nI j) (hj : j < N) (hN : N < 2 ^ 31)
    (kk : AW Z Q (am_up M a (am_aq (zG Z) t N (va_up f j none))) k n (pc + 1) L st) : AW Z Q M k n pc L (.null :: .int x :: .ref a :: st) := by
  intro H locs ls hH hS hL
  have hin := am_in hx hj hN
  refine va_WaastN (C := E) X.1 X.2.1 (hH a _ hM).1 ((X.K.2 t _ (ht _)).1 N (fun j => va_rf (f j))) (fun h => by cases h) (by show ¬ (x < 0 ∨ (arrV _ _ _).slots.size ≤ _); rw [arrV_size]; exact hin) rfl rfl d fun H1 e1 z oq => ?_
  rw [am_cl hx hj hN] at e1
  refine kk H1 _ ls (hH.put hM ?_ oq) (hS.put z oq (hH a _ hM).2) hL
  show H1[a]? = some (vp_cell _ _)
  rw [e1, vp_cell_q, vp_cell_q, arrV_store]
  congr 2
  funext q
  by_cases hq : q = j
  · subst hq
    simp [updV, va_up, va_rf]
  · simp [updV, va_up, hq]
/-- an array's length -/
theorem aw_alen (X : am_X own cc Z) {a N : Nat} {x : vp_A} {cA : ClassId} (d : decode cc pc = .ok (.arraylength, 1)) (hM : M a = some (.inl (cA, x))) {t : Nat} {ty : FieldType} (ht : (am_tys (zG Z))[t]? = some (cA, ty)) (hN : x.1 = N)
    (kk : AW Z Q M k n (pc + 1) L (.int (nI N) :: st)) : AW Z Q M k n pc L (.ref a :: st) := by
  intro H locs ls hH hS hL
  subst hN
  exact va_alen X.1 X.2.1 X.K (hH.P hM) 0 t rfl ht rfl d (kk H locs ls hH hS hL)
/-! new cells: at the heap's end, an address that the map doesn't know -/
theorem aw_new (X : am_X own cc Z) {idx ci N : Nat} {C : String} {T : u_T} {fs : List Value} (hC : am_C ci C T N) (ty : Nat → FieldType) (hty : ∀ k, k < N → parseFieldDescriptor (T k).2.2.1 = some (ty k)) (hfs : ∀ j, j < N → defaultValue (ty j) = vp_V fs j)
    (hcl : Cond.classLink own idx C ∈ lw_tbl) (hin : Cond.instantiable C N ∈ lw_tbl) (hini : Cond.initialized C ∈ lw_tbl) (d : decode cc pc = .ok (.new idx, 3)) (h1 : k + 1 ≤ (zR Z).cells) (h2 : n + N ≤ (zR Z).slots)
    (kk : ∀ q : Nat, am_A (zG Z) q → (∀ j e, M j = some e → j < q) → AW Z Q (am_up M q (.inr (ci, fs))) (k + 1) (n + N) (pc + 3) L (.ref q :: st)) : AW Z Q M k n pc L st := by
  intro H locs ls hH hS hL
  have hKn := X.K.1 ci _ hC.1
  refine W.newcK X.1 X.2.1 X.2.2.2.1 (X.w hcl rfl) (X.w hin rfl) (X.w hini rfl) rfl d h1 h2 hKn.2.1 rfl fun H1 kC hkC e1 z1 o1 => ?_
  exact kk H.size (X.A hS) (fun j e hj => hH.lt hj) H1 locs ls (hH.add rfl (X.A hS) ⟨_, hC.1, (u_born ty (hC.ts X) (fun _ h => h) hKn hkC e1 hty).to hfs⟩ o1) (am_S.add hS rfl z1 o1) hL
theorem aw_newa (X : am_X own cc Z) {atype : ArrayType} {ty : FieldType} (t N : Nat) (a0 : vp_A) {x : Int32} (harr : Cond.arrayClass (newarray.typeOf atype) ∈ lw_tbl) (hty : newarray.typeOf atype = ty) (ht : ∀ G : AG, (am_tys G)[t]? = some (G.2.1 t, ty)) (hra : ∀ (U : State) (cA : ClassId), va_RA U cA ty → U.vm.findClass ("[" ++ ty.toString) = some cA)
    (ha : ∀ cA : ClassId, vp_cell cA a0 = arrV cA N (fun _ => defaultValue ty)) (d : decode cc pc = .ok (.newarray atype, 2)) (hx : x = nI N) (hN : N < 65536) (hb : N * componentBytes ty ≤ 536870912) (h1 : k + 1 ≤ (zR Z).cells) (h2 : n + N ≤ (zR Z).slots)
    (kk : ∀ q : Nat, am_A (zG Z) q → (∀ j e, M j = some e → j < q) → AW Z Q (am_up M q (.inl ((zG Z).2.1 t, a0))) (k + 1) (n + N) (pc + 2) L (.ref q :: st)) : AW Z Q M k n pc L (.int x :: st) := by
  intro H locs ls hH hS hL
  subst hty
  refine va_newaK X.1 X.2.1 (X.w harr rfl) rfl d rfl (by rw [hx]; exact nI_pos (by omega)) (by rw [hx]; exact nI_clamp (by omega)) hb h1 h2 rfl fun H1 cA e1 z1 o1 hAr hNm => ?_
  have hcA : cA = (zG Z).2.1 t := Option.some.inj (hNm.symm.trans (hra _ _ (X.K.2 t _ (ht _)).2))
  subst hcA
  exact kk H.size (X.A hS) (fun j e hj => hH.lt hj) H1 locs ls (hH.add rfl (X.A hS) (by show H1[H.size]? = some (vp_cell _ _); rw [ha]; exact e1) o1) (am_S.add hS rfl z1 o1) hL
theorem aw_newq (X : am_X own cc Z) {idx t N : Nat} {E : String} {x : Int32} (ht : am_T t E) (hcl : Cond.classLink own idx E ∈ lw_tbl) (hov : Cond.arrayOver (.object E) ∈ lw_tbl) (d : decode cc pc = .ok (.anewarray idx, 3)) (hx : x = nI N) (hN : N < 65536) (h1 : k + 1 ≤ (zR Z).cells) (h2 : n + N ≤ (zR Z).slots)
    (kk : ∀ q : Nat, am_A (zG Z) q → (∀ j e, M j = some e → j < q) → AW Z Q (am_up M q (am_aq (zG Z) t N (fun _ => none))) (k + 1) (n + N) (pc + 3) L (.ref q :: st)) : AW Z Q M k n pc L (.int x :: st) := by
  intro H locs ls hH hS hL
  have hcl0 : x.toNatClampNeg = N := by rw [hx]; exact nI_clamp (by omega)
  refine W.anew X.1 X.2.1 X.2.2.2.1 (X.w hcl rfl) (X.w hov rfl) rfl d rfl (by rw [hx]; exact nI_pos (by omega)) (by rw [hcl0]; omega) h1 (by rw [hcl0]; exact h2) fun cA kA comp f1 f2 f3 f4 => ?_
  obtain ⟨kA', comp', g1, g2, g3, g4⟩ := (X.K.2 t _ (ht _)).2
  have hcA : cA = (zG Z).2.1 t := Option.some.inj (f1.symm.trans g4)
  subst hcA
  rw [hcl0]
  generalize hH1 : H.push ({ cls := (zG Z).2.1 t, slots := Array.replicate N .null, vm := .none } : Cell) = H1
  have z1 : H1.size = H.size + 1 := by rw [← hH1, Array.size_push]
  have e1 : H1[H.size]? = some (arrV ((zG Z).2.1 t) N (fun _ => .null)) := by rw [← hH1, Array.getElem?_push_size, ← arrV_new]
  have o1 : ∀ q : Nat, q < H.size → H1[q]? = H[q]? := fun q hq => by rw [← hH1, Array.getElem?_push, if_neg (Nat.ne_of_lt hq)]
  exact kk H.size (X.A hS) (fun j e hj => hH.lt hj) H1 locs ls (hH.add rfl (X.A hS) (by show H1[H.size]? = some (vp_cell _ _); rw [vp_cell_q]; exact e1) o1) (am_S.add hS rfl z1 o1) hL
/-- Object() -/
theorem aw_obj (X : am_X own cc Z) {idx a : Nat} (hl : Cond.methodLink own idx Lib.objectInit ∈ lw_tbl) (hi : Cond.instanceMethod Lib.objectInit ∈ lw_tbl) (hcd : Cond.code Lib.objectInit ⟨#[0xb1]⟩ 1 none ∈ lw_tbl) (d : decode cc pc = .ok (.invokespecial idx, 3)) (h1 : 1 ≤ (zR Z).frames) (h2 : (st.map fun v => v.category).sum + 12 ≤ (zR Z).locals)
    (kk : AW Z Q M k n (pc + 3) L st) : AW Z Q M k n pc L (.ref a :: st) := by
  intro H locs ls hH hS hL
  refine W.objInit X.1 X.2.1 X.2.2.2.1 (X.w hl rfl) (X.w hi rfl) (X.w hcd rfl) rfl (by rw [X.2.2.1]; exact hL.1) rfl d h1 (by show 2 * JFrame.monitorRoom _ + _ + _ ≤ _; have h3 : (F0 (zm Z) pc ls (.ref a :: st)).monitorRoom = 0 := rfl; omega) ?_
  exact kk H locs ls hH hS hL
/-- constants of the pool -/
theorem aw_ldc2 (X : am_X own cc Z) {idx : Nat} {v : Int64} (hw : Cond.constantLong own idx v ∈ lw_tbl) (d : decode cc pc = .ok (.ldc2_w idx, 3)) (kk : AW Z Q M k n (pc + 3) L (.long v :: st)) : AW Z Q M k n pc L st := fun H locs ls hH hS hL => lv_ldc2 X.1 X.2.1 X.2.2.2.1 (X.w hw rfl) d (kk H locs ls hH hS hL)
theorem aw_ldc (X : am_X own cc Z) {idx : Nat} {v : Int32} (hw : Cond.constant own idx v ∈ lw_tbl) (d : decode cc pc = .ok (.ldc idx, 2)) (kk : AW Z Q M k n (pc + 2) L (.int v :: st)) : AW Z Q M k n pc L st := fun H locs ls hH hS hL => lv_ldc X.1 X.2.1 X.2.2.2.1 (X.w hw rfl) d (kk H locs ls hH hS hL)
end AMheap
