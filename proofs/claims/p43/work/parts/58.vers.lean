/-! the law: versions -/
theorem lR.vers {F F' : Nat → Nat → Int32} {τ : TS} {a : Nat × (Nat → VK)} (h : lR F τ) (hf : versR (F' 9) (F' 10) (F' 11) (F' 12) (F' 13) (F' 14) (F' 15) (F' 16) a) (ho : ∀ j, j < 9 ∨ 16 < j → F' j = F j) : lR F' (τ.1, τ.2.1, τ.2.2.1, a, τ.2.2.2.2) := by
  obtain ⟨h1, h2, h3, h4, -, h6, h7⟩ := h
  refine ⟨h1, ?_, ?_, ?_, hf, ?_, ?_⟩
  · rw [ho 0 (by decide), ho 1 (by decide)]
    exact h2
  · rw [ho 2 (by decide), ho 3 (by decide)]
    exact h3
  · rw [ho 4 (by decide), ho 5 (by decide), ho 6 (by decide), ho 7 (by decide), ho 8 (by decide)]
    exact h4
  · rw [ho 20 (by decide)]
    exact h6
  · rw [ho 17 (by decide), ho 18 (by decide), ho 19 (by decide)]
    exact h7
theorem vsR.set {vb vp eb ec es em ep vb' vp' eb' ec' es' em' ep' : Nat → Int32} {n n' t : Nat} {V : Nat → VK} {W : VK} (h : vsR vb vp eb ec es em ep n V) (hn' : n' ≤ 4) (hsub : ∀ i, i < n' → i = t ∨ i < n) (hW : vV W) (hW2 : vR vb' vp' eb' ec' es' em' ep' t W) (hb : ∀ b D, W = some (.inr (b, D)) → b < t) (ht : t < 4)
    (v1 : ∀ k, k < 16 * t ∨ 16 * t + 16 ≤ k → vb' k = vb k) (v2 : ∀ k, k ≠ t → k ≠ 4 + t → k ≠ 8 + t → vp' k = vp k) (v3 : ∀ k, k < 16 * t ∨ 16 * t + 16 ≤ k → eb' k = eb k ∧ ec' k = ec k ∧ es' k = es k ∧ em' k = em k) (v4 : ∀ k, k ≠ t → k ≠ 4 + t → ep' k = ep k) : vsR vb' vp' eb' ec' es' em' ep' n' (va_up V t W) := by
  obtain ⟨h1, h2, h3⟩ := h
  refine ⟨hn', fun i b D hi hV => ?_, fun i hi => ?_⟩
  · by_cases e : i = t
    · subst e
      rw [va_up_self] at hV
      exact hb b D hV
    · rw [va_up_ne _ _ e] at hV
      exact h2 i b D (by have := hsub i hi; omega) hV
  · by_cases e : i = t
    · subst e
      rw [va_up_self]
      exact ⟨hW, hW2⟩
    · rw [va_up_ne _ _ e]
      obtain ⟨a1, a2⟩ := h3 i (by have := hsub i hi; omega)
      refine ⟨a1, ?_⟩
      match hVi : V i, a1, a2 with
      | none, _, r => exact (v2 i e (by omega) (by omega)).trans r
      | some (.inl bs), w, ⟨r1, r2, r3⟩ =>
        have hl := w.1
        exact ⟨(v2 i e (by omega) (by omega)).trans r1, (v2 _ (by omega) (by omega) (by omega)).trans r2, fun k hk => (v1 _ (by omega)).trans (r3 k hk)⟩
      | some (.inr (b, D)), w, ⟨r1, r2, r3, r4, r5, r6⟩ =>
        have hl := w.2.1
        have hl2 := w.2.2.1
        refine ⟨(v2 i e (by omega) (by omega)).trans r1, (v2 _ (by omega) (by omega) (by omega)).trans r2, (v4 i e (by omega)).trans r3, (v4 _ (by omega) (by omega)).trans r4, fun k hk => ?_, fun k hk => ((v3 _ (by omega)).1).trans (r6 k hk)⟩
        obtain ⟨u1, u2, u3⟩ := r5 k hk
        obtain ⟨-, x1, x2, x3⟩ := v3 (16 * i + k) (by omega)
        exact ⟨x1.trans u1, x2.trans u2, x3.trans u3⟩
abbrev vL (x : Nat) (kd y w : Int32) (e1 e2 v : Nat) (a b : Int32) (t : List (Option Value)) : List (Option Value) := some (.ref x) :: some (.int kd) :: some (.int y) :: some (.ref (x + 271)) :: some (.ref (x + 272)) :: some (.ref (x + 280)) :: some (.ref (x + 281)) :: some (.ref (x + 282)) :: some (.ref (x + 283)) :: some (.ref (x + 284)) :: some (.ref (x + 285)) :: some (.ref (x + 286)) :: some (.ref (x + 287)) :: some (.ref e1) :: some (.ref e2) :: some (.int w) :: some (.int (nI v)) :: some (.int a) :: some (.int b) :: t
abbrev rmV : Room := { rL_versions with cells := 10, slots := 90 }
/-- the frame; the state; two new arrays beside it -/
def vC (Z : AZ) (M0 M : AM) (x e1 e2 : Nat) (τ : TS) (F : Nat → Nat → Int32) : Prop := am_X RL cL_versions Z ∧ zn Z = 24 ∧ zR Z = rmV ∧ (zM Z).sig.returnType = some .boolean ∧ ncs (zs Z) ∧ (zl Z).stackTraces = false ∧ isRS (zG Z) M0 x (x + 292) τ ∧ tbL (zG Z) x M0 M0 F ∧ lR F τ ∧ (∀ q y, M0.1 q = some y → q < e1) ∧ e1 < e2 ∧ KE M0 M (fun _ => False) ∧ (∃ g, M.1 e1 = some (am_ai (zG Z) 16 g)) ∧ (∃ g, M.1 e2 = some (am_ai (zG Z) 3 g)) ∧ x + 292 ≤ e1
theorem vs_par {Z : AZ} {Q : State → Prop} {M : AM} {k n x e1 e2 v : Nat} {kd y w a b : Int32} (X : am_X RL cL_versions Z) (hn : zn Z = 24) (hR : zR Z = rmV) (hk : k = 2) (hk2 : n = 19) (K : ∀ d : Int32, AW Z Q M k n 143 (vL x kd y w e1 e2 v a b [some (.int d), some (.int (am_b (rgI d (nI 1) (nI 7)))), none, none, none]) []) : AW Z Q M k n 89 (vL x kd y w e1 e2 v a b [none, none, none, none, none]) [] := by
  subst hk
  subst hk2
  refine aw_spl (pm := 122) (P := fun _ => True) (fun K1 => ?_) (fun d _ => ?_)
  · refine aw_iload2 X dL_versions_89 ?_
    refine aw_bipush X dL_versions_90 (v := nI 6) (by decide) ?_
    refine aw_ishr X dL_versions_92 ?_
    refine aw_bipush X dL_versions_93 (v := nI 13) (by decide) ?_
    refine aw_callS X (c_L_some (N := 13) (by decide) (by decide)) kL_136 dL_versions_95 rfl rfl (by first | decide | exact Nat.le_of_ble_eq_true rfl) (by rw [hR]; exact ⟨by first | decide | exact Nat.le_of_ble_eq_true rfl | (dsimp only; omega), by first | decide | exact Nat.le_of_ble_eq_true rfl | (dsimp only; omega)⟩) (by rw [hR]; exact ⟨by first | decide | exact Nat.le_of_ble_eq_true rfl | (dsimp only; omega), by first | decide | exact Nat.le_of_ble_eq_true rfl | (dsimp only; omega)⟩) (fun v M hv => ?_)
    obtain ⟨rfl, t, ht, rfl⟩ := hv
    refine aw_ifne X dL_versions_98 (tgt := 112) (by decide) (fun c => ?_) (fun c => ?_)
    · refine aw_iconst X dL_versions_112 (v := nI 1) (by decide) ?_
      refine aw_iload2 X dL_versions_113 ?_
      refine aw_bipush X dL_versions_114 (v := nI 6) (by decide) ?_
      refine aw_ishr X dL_versions_116 ?_
      refine aw_iconst X dL_versions_117 (v := nI 5) (by decide) ?_
      refine aw_callS X (c_L_some (N := 5) (by decide) (by decide)) kL_136 dL_versions_118 rfl rfl (by first | decide | exact Nat.le_of_ble_eq_true rfl) (by rw [hR]; exact ⟨by first | decide | exact Nat.le_of_ble_eq_true rfl | (dsimp only; omega), by first | decide | exact Nat.le_of_ble_eq_true rfl | (dsimp only; omega)⟩) (by rw [hR]; exact ⟨by first | decide | exact Nat.le_of_ble_eq_true rfl | (dsimp only; omega), by first | decide | exact Nat.le_of_ble_eq_true rfl | (dsimp only; omega)⟩) (fun v M hv => ?_)
      obtain ⟨rfl, t, ht, rfl⟩ := hv
      refine aw_iadd X dL_versions_121 ?_
      first | with_reducible refine aw_int (nI_add _ _) ?_ | skip
      exact K1 _ trivial
    · refine aw_iload2 X dL_versions_101 ?_
      refine aw_iconst X dL_versions_102 (v := nI 2) (by decide) ?_
      refine aw_callS X (c_L_some (N := 2) (by decide) (by decide)) kL_136 dL_versions_103 rfl rfl (by first | decide | exact Nat.le_of_ble_eq_true rfl) (by rw [hR]; exact ⟨by first | decide | exact Nat.le_of_ble_eq_true rfl | (dsimp only; omega), by first | decide | exact Nat.le_of_ble_eq_true rfl | (dsimp only; omega)⟩) (by rw [hR]; exact ⟨by first | decide | exact Nat.le_of_ble_eq_true rfl | (dsimp only; omega), by first | decide | exact Nat.le_of_ble_eq_true rfl | (dsimp only; omega)⟩) (fun v M hv => ?_)
      obtain ⟨rfl, t, ht, rfl⟩ := hv
      refine aw_bipush X dL_versions_106 (v := nI 8) (by decide) ?_
      refine aw_imul X dL_versions_108 ?_
      first | with_reducible refine aw_int (pk_mul _ _) ?_ | skip
      refine aw_goto X dL_versions_109 (tgt := 122) (by decide) ?_
      exact K1 _ trivial
  refine aw_istore19 X dL_versions_122 (by rw [hn]; decide) rfl ?_
  refine aw_splB (pm := 141) (P := rgI d (nI 1) (nI 7)) (fun K1 => ?_) ?_
  · refine aw_iload19 X dL_versions_124 ?_
    refine aw_ifle X dL_versions_126 (tgt := 140) (by decide) (fun c1 => ?_) (fun c1 => ?_)
    · refine aw_iconst X dL_versions_140 (v := nI 0) (by decide) ?_
      exact aw_b0 (fun e => e.1 ((le0_lt1 d).mp c1)) K1
    · refine aw_iload19 X dL_versions_129 ?_
      refine aw_bipush X dL_versions_131 (v := nI 8) (by decide) ?_
      refine aw_icmpge X dL_versions_133 (tgt := 140) (by decide) (fun c2 => ?_) (fun c2 => ?_)
      · refine aw_iconst X dL_versions_140 (v := nI 0) (by decide) ?_
        exact aw_b0 (fun e => (le_succ (by decide) d).mp c2 e.2) K1
      · refine aw_iconst X dL_versions_136 (v := nI 1) (by decide) ?_
        refine aw_goto X dL_versions_137 (tgt := 141) (by decide) ?_
        exact aw_b1 ⟨fun q => c1 ((le0_lt1 d).mpr q), Decidable.byContradiction (fun q => c2 ((le_succ (by decide) d).mpr q))⟩ K1
  refine aw_istore20 X dL_versions_141 (by rw [hn]; decide) rfl ?_
  exact K d
/-- a new version's first rows -/
def vNew (F F1 : Nat → Nat → Int32) (n v : Nat) (kd : Nat) (bs : List Int32) : Prop := F1 16 0 = nI (n + 1) ∧ F1 10 n = nI (1 + kd) ∧ F1 10 (4 + n) = nI v ∧ F1 10 (8 + n) = nI bs.length ∧ (∀ k, k ≠ n → k ≠ 4 + n → k ≠ 8 + n → F1 10 k = F 10 k) ∧ bR (F1 9) (16 * n) bs ∧ (∀ k, k < 16 * n ∨ 16 * n + 16 ≤ k → F1 9 k = F 9 k) ∧ ∀ j, j ≠ 9 → j ≠ 10 → j ≠ 16 → F1 j = F j
theorem vs_new {Z : AZ} {Q : State → Prop} {M : AM} {kk nn x e1 e2 v n i kd : Nat} {τ : TS} {F : Nat → Nat → Int32} {y a b d f ln : Int32} (X : am_X RL cL_versions Z) (hn : zn Z = 24) (hT : tbL (zG Z) x M M F) (hL : lR F τ) (hi : i < 4) (hn4 : n < 4) (hc : F 16 0 = nI n)
    (K : ∀ M1 F1, tbL (zG Z) x M M1 F1 → vNew F F1 n v kd (τ.1.2 i) → AW Z Q M1 kk nn 330 (vL x (nI kd) y (nI i) e1 e2 v a b [some (.int d), some (.int f), some (.int ln), some (.int (nI n)), none]) []) : AW Z Q M kk nn 252 (vL x (nI kd) y (nI i) e1 e2 v a b [some (.int d), some (.int f), some (.int ln), some (.int (nI n)), none]) [] := by
  obtain ⟨l1, l2, l3, l4⟩ := hL.2.1 i hi
  refine aw_aload12 X dL_versions_252 ?_
  refine aw_iconst X dL_versions_254 (v := nI 0) (by decide) ?_
  refine aw_dup2 X dL_versions_255 rfl rfl ?_
  refine aw_iald X dL_versions_256 (hT.at 16 (by decide)) (rfl : nI 0 = nI 0) (show 0 < 1 by decide) (by decide) ?_
  refine aw_int hc ?_
  refine aw_iconst X dL_versions_257 (v := nI 1) (by decide) ?_
  refine aw_iadd X dL_versions_258 ?_
  first | with_reducible refine aw_int (nI_add _ _) ?_ | skip
  refine aw_tst X 16 dL_versions_259 hT (by decide) (rfl : nI 0 = nI 0) (show 0 < 1 by decide) (by decide) (fun M1 h1 => ?_)
  refine aw_aload6 X dL_versions_260 ?_
  refine aw_iload22 X dL_versions_262 ?_
  refine aw_iconst X dL_versions_264 (v := nI 1) (by decide) ?_
  refine aw_iload1 X dL_versions_265 ?_
  refine aw_iadd X dL_versions_266 ?_
  first | with_reducible refine aw_int (nI_add _ _) ?_ | skip
  refine aw_tst X 10 dL_versions_267 h1 (by decide) rfl (show n < 12 by omega) (by decide) (fun M2 h2 => ?_)
  refine aw_aload6 X dL_versions_268 ?_
  refine aw_iconst X dL_versions_270 (v := nI 4) (by decide) ?_
  refine aw_iload22 X dL_versions_271 ?_
  refine aw_iadd X dL_versions_273 ?_
  first | with_reducible refine aw_int (nI_add _ _) ?_ | skip
  refine aw_iload16 X dL_versions_274 ?_
  refine aw_tst X 10 dL_versions_276 h2 (by decide) rfl (show 4 + n < 12 by omega) (by decide) (fun M3 h3 => ?_)
  refine aw_aload6 X dL_versions_277 ?_
  refine aw_bipush X dL_versions_279 (v := nI 8) (by decide) ?_
  refine aw_iload22 X dL_versions_281 ?_
  refine aw_iadd X dL_versions_283 ?_
  first | with_reducible refine aw_int (nI_add _ _) ?_ | skip
  refine aw_aload4 X dL_versions_284 ?_
  refine aw_iload15 X dL_versions_286 ?_
  refine aw_iald X dL_versions_288 (h3.at 1 (by decide)) rfl (show i < 4 from hi) (by decide) ?_
  refine aw_int (y := nI (τ.1.2 i).length) l3 ?_
  refine aw_tst X 10 dL_versions_289 h3 (by decide) rfl (show 8 + n < 12 by omega) (by decide) (fun M4 h4 => ?_)
  rw [va_up_self, va_up2, va_up_self, va_up2, va_up_ne _ _ (show (10 : Nat) ≠ 16 by decide)] at h4
  obtain ⟨vp', hvp⟩ : ∃ vp', vp' = upd (upd (upd (F 10) n (nI (1 + kd))) (4 + n) (nI v)) (8 + n) (nI (τ.1.2 i).length) := ⟨_, rfl⟩
  rw [← hvp] at h4
  have p1 : vp' n = nI (1 + kd) := by rw [hvp, pk_un (by omega), pk_un (by omega), pk_us]
  have p2 : vp' (4 + n) = nI v := by rw [hvp, pk_un (by omega), pk_us]
  have p3 : vp' (8 + n) = nI (τ.1.2 i).length := by rw [hvp, pk_us]
  have p4 : ∀ k, k ≠ n → k ≠ 4 + n → k ≠ 8 + n → vp' k = F 10 k := fun k h1 h2 h3 => by rw [hvp, pk_un h3, pk_un h2, pk_un h1]
  refine aw_iconst X dL_versions_290 (v := nI 0) (by decide) ?_
  refine aw_istore23 X dL_versions_291 (by rw [hn]; decide) rfl ?_
  refine aw_loopM (fun (k : Nat) M5 => k ≤ (τ.1.2 i).length ∧ ∃ F1, tbL (zG Z) x M M5 F1 ∧ F1 10 = vp' ∧ F1 16 0 = nI (n + 1) ∧ (∀ t, t ≠ 9 → t ≠ 10 → t ≠ 16 → F1 t = F t) ∧ (∀ t, t < 16 * n ∨ 16 * n + 16 ≤ t → F1 9 t = F 9 t) ∧ ∀ t, t < k → F1 9 (16 * n + t) = (τ.1.2 i).getD t 0) (fun k => (τ.1.2 i).length - k) (fun k => vL x (nI kd) y (nI i) e1 e2 v a b [some (.int d), some (.int f), some (.int ln), some (.int (nI n)), some (.int (nI k))]) ?_ 0 ⟨Nat.zero_le _, _, h4, va_up_self _ _ _, by rw [va_up_ne _ _ (by decide), va_up_self, pk_us], fun t _ h1 h2 => by rw [va_up_ne _ _ h1, va_up_ne _ _ h2], fun t _ => by rw [va_up_ne _ _ (by decide), va_up_ne _ _ (by decide)], fun t ht => absurd ht (Nat.not_lt_zero _)⟩
  rintro k M5 ⟨hk, F1, h5, n1, n2, o1, f1, f2⟩ ih
  try dsimp only at ih ⊢
  refine aw_iload23 X dL_versions_293 ?_
  refine aw_aload4 X dL_versions_295 ?_
  refine aw_iload15 X dL_versions_297 ?_
  refine aw_iald X dL_versions_299 (h5.at 1 (by decide)) rfl (show i < 4 from hi) (by decide) ?_
  refine aw_int (y := nI (τ.1.2 i).length) (by rw [o1 1 (by decide) (by decide) (by decide)]; exact l3) ?_
  refine aw_icmpge X dL_versions_300 (tgt := 330) (by decide) (fun c3 => ?_) (fun c3 => ?_)
  · have e : k = (τ.1.2 i).length := by have := (nI_leI (by omega) (by omega)).mp c3; omega
    subst e
    exact aw_drop23 (K M5 F1 h5 ⟨n2, by rw [n1]; exact p1, by rw [n1]; exact p2, by rw [n1]; exact p3, fun k h1 h2 h3 => by rw [n1]; exact p4 k h1 h2 h3, f2, f1, o1⟩)
  · have hlt : k < (τ.1.2 i).length := by
      rcases Nat.lt_or_ge k (τ.1.2 i).length with q | q
      · exact q
      · exact absurd (nI_le q (by omega)) c3
    refine aw_aload5 X dL_versions_303 ?_
    refine aw_bipush X dL_versions_305 (v := nI 16) (by decide) ?_
    refine aw_iload22 X dL_versions_307 ?_
    refine aw_imul X dL_versions_309 ?_
    first | with_reducible refine aw_int (pk_mul _ _) ?_ | skip
    refine aw_iload23 X dL_versions_310 ?_
    refine aw_iadd X dL_versions_312 ?_
    first | with_reducible refine aw_int (nI_add _ _) ?_ | skip
    refine aw_aload3 X dL_versions_313 ?_
    refine aw_bipush X dL_versions_314 (v := nI 16) (by decide) ?_
    refine aw_iload15 X dL_versions_316 ?_
    refine aw_imul X dL_versions_318 ?_
    first | with_reducible refine aw_int (pk_mul _ _) ?_ | skip
    refine aw_iload23 X dL_versions_319 ?_
    refine aw_iadd X dL_versions_321 ?_
    first | with_reducible refine aw_int (nI_add _ _) ?_ | skip
    refine aw_iald X dL_versions_322 (h5.at 0 (by decide)) rfl (show 16 * i + k < 64 by omega) (by decide) ?_
    refine aw_int (y := (τ.1.2 i).getD k 0) (by rw [o1 0 (by decide) (by decide) (by decide)]; exact l4 k hlt) ?_
    refine aw_tst X 9 dL_versions_323 h5 (by decide) rfl (show 16 * n + k < 64 by omega) (by decide) (fun M6 h6 => ?_)
    refine aw_iinc23 X dL_versions_324 (by rw [hn]; decide) (am_inc _ 1) rfl ?_
    refine aw_goto X dL_versions_327 (tgt := 293) (by decide) ?_
    refine ih (k + 1) M6 ⟨hlt, _, h6, ?_, ?_, fun t h1 h2 h3 => ?_, fun t ht => ?_, fun t ht => ?_⟩ (by omega)
    · rw [va_up_ne _ _ (by decide)]
      exact n1
    · rw [va_up_ne _ _ (by decide)]
      exact n2
    · rw [va_up_ne _ _ h1]
      exact o1 t h1 h2 h3
    · rw [va_up_self, pk_un (by omega)]
      exact f1 t ht
    · rw [va_up_self]
      by_cases e : t = k
      · rw [e, pk_us]
      · rw [pk_un (by omega)]
        exact f2 t (by omega)
theorem vC.T {Z : AZ} {M0 M M' : AM} {x e1 e2 : Nat} {τ : TS} {F : Nat → Nat → Int32} (C : vC Z M0 M x e1 e2 τ F) (hk : KE M M' (fun q => e1 ≤ q)) : isRS (zG Z) M' x (x + 292) τ ∧ tbL (zG Z) x M' M' F := by
  obtain ⟨X, hn, hR, hr, hN, hfl, hs, hT, hL, hlt, h12, kM, o1, o2, hx⟩ := C
  have hk2 : KE M0 M' (fun _ => False) := fun q y hq _ => hk _ _ (kM q y hq id) (by have := hlt q y hq; omega)
  exact ⟨hs.kk hk2, tbL_nw hT hk2⟩
/-- keep a file -/
theorem vs_keep0 {Z : AZ} {M0 M : AM} {x e1 e2 v : Nat} {τ : TS} {F : Nat → Nat → Int32} {y w : Int32} (C : vC Z M0 M x e1 e2 τ F) (hw : ¬ inI w 4) {b : Int32} : AW Z (am_Q Z (lP (zG Z) x) (fun _ _ => False) 10 90) M 2 19 89 (vL x (nI 0) y w e1 e2 v (nI 0) b [none, none, none, none, none]) [] := by
  obtain ⟨hs, hT⟩ := C.T KE.rf
  obtain ⟨X, hn, hR, hr, hN, hfl, -, -, hL, -⟩ := C
  refine vs_par X hn hR rfl rfl (fun d => ?_)
  refine aw_iload1 X dL_versions_143 ?_
  refine aw_iconst X dL_versions_144 (v := nI 1) (by decide) ?_
  refine aw_icmpne X dL_versions_145 (tgt := 179) (by decide) (fun _ => ?_) (fun c9 => by first | exact absurd ((by decide : ¬ nI 0 = nI 1)) c9 | exact absurd c9 ((by decide : ¬ nI 0 = nI 1)))
  refine aw_iconst X dL_versions_179 (v := nI 0) (by decide) ?_
  refine aw_istore21 X dL_versions_180 (by rw [hn]; decide) rfl ?_
  refine aw_iload1 X dL_versions_182 ?_
  refine aw_ifne X dL_versions_183 (tgt := 203) (by decide) (fun c9 => by first | exact absurd ((rfl : nI 0 = 0)) c9 | exact absurd c9 ((rfl : nI 0 = 0))) (fun _ => ?_)
  refine aw_iload17 X dL_versions_186 ?_
  refine aw_ifeq X dL_versions_188 (tgt := 198) (by decide) (fun _ => ?_) (fun c9 => by first | exact absurd ((rfl : nI 0 = 0)) c9 | exact absurd c9 ((rfl : nI 0 = 0)))
  refine aw_bipush X dL_versions_198 (v := -101) (by decide) ?_
  refine aw_goto X dL_versions_200 (tgt := 237) (by decide) ?_
  refine aw_istore22 X dL_versions_237 (by rw [hn]; decide) rfl ?_
  refine aw_iload22 X dL_versions_239 ?_
  refine aw_iconst X dL_versions_241 (v := nI 4) (by decide) ?_
  refine aw_icmpne X dL_versions_242 (tgt := 247) (by decide) (fun _ => ?_) (fun c9 => by first | exact absurd ((by decide : ¬ (-101 : Int32) = nI 4)) c9 | exact absurd c9 ((by decide : ¬ (-101 : Int32) = nI 4)))
  refine aw_iload22 X dL_versions_247 ?_
  refine aw_iflt X dL_versions_249 (tgt := 330) (by decide) (fun _ => ?_) (fun c9 => by first | exact absurd ((by decide : (-101 : Int32) < 0)) c9 | exact absurd c9 ((by decide : (-101 : Int32) < 0)))
  refine aw_iload22 X dL_versions_330 ?_
  refine aw_iflt X dL_versions_332 (tgt := 397) (by decide) (fun _ => ?_) (fun c9 => by first | exact absurd ((by decide : (-101 : Int32) < 0)) c9 | exact absurd c9 ((by decide : (-101 : Int32) < 0)))
  refine aw_iload1 X dL_versions_397 ?_
  refine aw_ifne X dL_versions_398 (tgt := 413) (by decide) (fun c9 => by first | exact absurd ((rfl : nI 0 = 0)) c9 | exact absurd c9 ((rfl : nI 0 = 0))) (fun _ => ?_)
  refine aw_aload0 X dL_versions_401 ?_
  refine aw_iconst X dL_versions_402 (v := nI 2) (by decide) ?_
  refine aw_iload15 X dL_versions_403 ?_
  refine aw_iconst X dL_versions_405 (v := nI 0) (by decide) ?_
  refine aw_iconst X dL_versions_406 (v := nI 0) (by decide) ?_
  refine aw_callSH X hN (w_keep hfl hs) kL_161 dL_versions_407 rfl rfl (by first | decide | exact Nat.le_of_ble_eq_true rfl) (by rw [hR]; exact ⟨by first | decide | exact Nat.le_of_ble_eq_true rfl | (dsimp only; omega), by first | decide | exact Nat.le_of_ble_eq_true rfl | (dsimp only; omega)⟩) (by rw [hR]; exact ⟨by first | decide | exact Nat.le_of_ble_eq_true rfl | (dsimp only; omega), by first | decide | exact Nat.le_of_ble_eq_true rfl | (dsimp only; omega)⟩) (fun v M1 hv => ?_)
  obtain ⟨rfl, hs1, hk1⟩ := hv
  have e0 : spKeep τ w = (1, 0, τ) := by rw [spKeep, if_neg (by rw [isF, hL.1]; exact hw)]
  rw [e0] at hs1 ⊢
  refine aw_goto X dL_versions_410 (tgt := 423) (by decide) ?_
  refine aw_iload22 X dL_versions_423 ?_
  refine aw_icmpne X dL_versions_425 (tgt := 432) (by decide) (fun c9 => by first | exact absurd ((rfl : wr (1, 0, τ) = -101)) c9 | exact absurd c9 ((rfl : wr (1, 0, τ) = -101))) (fun _ => ?_)
  refine aw_iconst X dL_versions_428 (v := nI 1) (by decide) ?_
  refine aw_goto X dL_versions_429 (tgt := 433) (by decide) ?_
  refine aw_widen (k' := 10) (n' := 90) (Nat.le_of_ble_eq_true rfl) (Nat.le_of_ble_eq_true rfl) ?_
  refine aw_ireturn X (ty := .boolean) hr (by first | rfl | decide | assumption) dL_versions_433 (⟨rfl, τ, lS.of hT hL hs1 hk1 eD_ok⟩)
theorem vs_keep1 {Z : AZ} {M0 M : AM} {x e1 e2 v i : Nat} {τ : TS} {F : Nat → Nat → Int32} {y : Int32} (C : vC Z M0 M x e1 e2 τ F) (hi : i < 4) {b : Int32} : AW Z (am_Q Z (lP (zG Z) x) (fun _ _ => False) 10 90) M 2 19 89 (vL x (nI 0) y (nI i) e1 e2 v (nI 1) b [none, none, none, none, none]) [] := by
  obtain ⟨hs, hT⟩ := C.T KE.rf
  obtain ⟨X, hn, hR, hr, hN, hfl, -, -, hL, -⟩ := C
  obtain ⟨vc, vn, vd, va⟩ := hL.2.2.2.2.1
  obtain ⟨l1, l2, l3, l4⟩ := hL.2.1 i hi
  refine vs_par X hn hR rfl rfl (fun d => ?_)
  refine aw_iload1 X dL_versions_143 ?_
  refine aw_iconst X dL_versions_144 (v := nI 1) (by decide) ?_
  refine aw_icmpne X dL_versions_145 (tgt := 179) (by decide) (fun _ => ?_) (fun c9 => by first | exact absurd ((by decide : ¬ nI 0 = nI 1)) c9 | exact absurd c9 ((by decide : ¬ nI 0 = nI 1)))
  refine aw_iconst X dL_versions_179 (v := nI 0) (by decide) ?_
  refine aw_istore21 X dL_versions_180 (by rw [hn]; decide) rfl ?_
  refine aw_iload1 X dL_versions_182 ?_
  refine aw_ifne X dL_versions_183 (tgt := 203) (by decide) (fun c9 => by first | exact absurd ((rfl : nI 0 = 0)) c9 | exact absurd c9 ((rfl : nI 0 = 0))) (fun _ => ?_)
  refine aw_iload17 X dL_versions_186 ?_
  refine aw_ifeq X dL_versions_188 (tgt := 198) (by decide) (fun c9 => by first | exact absurd ((by decide : ¬ nI 1 = 0)) c9 | exact absurd c9 ((by decide : ¬ nI 1 = 0))) (fun _ => ?_)
  refine aw_aload12 X dL_versions_191 ?_
  refine aw_iconst X dL_versions_193 (v := nI 0) (by decide) ?_
  refine aw_iald X dL_versions_194 (hT.at 16 (by decide)) (rfl : nI 0 = nI 0) (show 0 < 1 by decide) (by decide) ?_
  refine aw_int vc ?_
  refine aw_goto X dL_versions_195 (tgt := 237) (by decide) ?_
  refine aw_istore22 X dL_versions_237 (by rw [hn]; decide) rfl ?_
  refine aw_iload22 X dL_versions_239 ?_
  refine aw_iconst X dL_versions_241 (v := nI 4) (by decide) ?_
  by_cases h4 : τ.2.2.2.1.1 = 4
  · rw [h4]
    refine aw_icmpne X dL_versions_242 (tgt := 247) (by decide) (fun c9 => by first | exact absurd ((rfl : nI 4 = nI 4)) c9 | exact absurd c9 ((rfl : nI 4 = nI 4))) (fun _ => ?_)
    refine aw_iconst X dL_versions_245 (v := nI 1) (by decide) ?_
    refine aw_widen (k' := 10) (n' := 90) (Nat.le_of_ble_eq_true rfl) (Nat.le_of_ble_eq_true rfl) ?_
    refine aw_ireturn X (ty := .boolean) hr (by first | rfl | decide | assumption) dL_versions_246 (⟨rfl, τ, hs, F, hT, hL⟩)
  · have hn4 : τ.2.2.2.1.1 < 4 := by omega
    refine aw_icmpne X dL_versions_242 (tgt := 247) (by decide) (fun _ => ?_) (fun c9 => by first | exact absurd ((fun e => h4 ((nI_eq (by omega) (by decide)).mp e))) c9 | exact absurd c9 ((fun e => h4 ((nI_eq (by omega) (by decide)).mp e))))
    refine aw_iload22 X dL_versions_247 ?_
    refine aw_iflt X dL_versions_249 (tgt := 330) (by decide) (fun c9 => by first | exact absurd (nI_pos (by omega)) c9 | exact absurd c9 (nI_pos (by omega))) (fun _ => ?_)
    refine vs_new X hn hT hL hi hn4 vc (fun M1 F1 h1 hN1 => ?_)
    obtain ⟨u1, u2, u3, u4, u5, u6, u7, u8⟩ := hN1
    refine aw_iload22 X dL_versions_330 ?_
    refine aw_iflt X dL_versions_332 (tgt := 397) (by decide) (fun c9 => by first | exact absurd (nI_pos (by omega)) c9 | exact absurd c9 (nI_pos (by omega))) (fun _ => ?_)
    refine aw_iload1 X dL_versions_335 ?_
    refine aw_iconst X dL_versions_336 (v := nI 1) (by decide) ?_
    refine aw_icmpne X dL_versions_337 (tgt := 397) (by decide) (fun _ => ?_) (fun c9 => by first | exact absurd ((by decide : ¬ nI 0 = nI 1)) c9 | exact absurd c9 ((by decide : ¬ nI 0 = nI 1)))
    refine aw_iload1 X dL_versions_397 ?_
    refine aw_ifne X dL_versions_398 (tgt := 413) (by decide) (fun c9 => by first | exact absurd ((rfl : nI 0 = 0)) c9 | exact absurd c9 ((rfl : nI 0 = 0))) (fun _ => ?_)
    refine aw_aload0 X dL_versions_401 ?_
    refine aw_iconst X dL_versions_402 (v := nI 2) (by decide) ?_
    refine aw_iload15 X dL_versions_403 ?_
    refine aw_iconst X dL_versions_405 (v := nI 0) (by decide) ?_
    refine aw_iconst X dL_versions_406 (v := nI 0) (by decide) ?_
    refine aw_callSH X hN (w_keep hfl (hs.tb h1)) kL_161 dL_versions_407 rfl rfl (by first | decide | exact Nat.le_of_ble_eq_true rfl) (by rw [hR]; exact ⟨by first | decide | exact Nat.le_of_ble_eq_true rfl | (dsimp only; omega), by first | decide | exact Nat.le_of_ble_eq_true rfl | (dsimp only; omega)⟩) (by rw [hR]; exact ⟨by first | decide | exact Nat.le_of_ble_eq_true rfl | (dsimp only; omega), by first | decide | exact Nat.le_of_ble_eq_true rfl | (dsimp only; omega)⟩) (fun v M2 hv => ?_)
    obtain ⟨rfl, hs1, hk1⟩ := hv
    have e0 : spKeep τ (nI i) = (0, nI τ.2.2.2.1.1, setV τ (τ.2.2.2.1.1 + 1) τ.2.2.2.1.1 (some (.inl (τ.1.2 i)))) := by
      rw [spKeep, if_pos (by rw [isF, hL.1]; exact inI_n hi (by decide))]
      simp only [tN, tF, ix_n (show i < 2 ^ 31 by omega)]
      rw [if_pos (by omega)]
    rw [e0] at hs1 ⊢
    refine aw_goto X dL_versions_410 (tgt := 423) (by decide) ?_
    refine aw_iload22 X dL_versions_423 ?_
    refine aw_icmpne X dL_versions_425 (tgt := 432) (by decide) (fun c9 => by first | exact absurd ((rfl : wr (0, nI τ.2.2.2.1.1, setV τ (τ.2.2.2.1.1 + 1) τ.2.2.2.1.1 (some (.inl (τ.1.2 i)))) = nI τ.2.2.2.1.1)) c9 | exact absurd c9 ((rfl : wr (0, nI τ.2.2.2.1.1, setV τ (τ.2.2.2.1.1 + 1) τ.2.2.2.1.1 (some (.inl (τ.1.2 i)))) = nI τ.2.2.2.1.1))) (fun _ => ?_)
    refine aw_iconst X dL_versions_428 (v := nI 1) (by decide) ?_
    refine aw_goto X dL_versions_429 (tgt := 433) (by decide) ?_
    refine aw_widen (k' := 10) (n' := 90) (Nat.le_of_ble_eq_true rfl) (Nat.le_of_ble_eq_true rfl) ?_
    have hfin : versR (F1 9) (F1 10) (F1 11) (F1 12) (F1 13) (F1 14) (F1 15) (F1 16) (τ.2.2.2.1.1 + 1, va_up τ.2.2.2.1.2 τ.2.2.2.1.1 (some (.inl (τ.1.2 i)))) := by
      refine ⟨u1, vsR.set (show vsR (F 9) (F 10) (F 11) (F 12) (F 13) (F 14) (F 15) τ.2.2.2.1.1 τ.2.2.2.1.2 from ⟨vn, vd, va⟩) (by omega) (fun t ht => by omega) ⟨l1, l2⟩ ⟨u2, u4, u6⟩ (fun b D e => by cases e) hn4 u7 u5 (fun k _ => ?_) (fun k _ _ => ?_)⟩
      · rw [u8 11 (by decide) (by decide) (by decide), u8 12 (by decide) (by decide) (by decide), u8 13 (by decide) (by decide) (by decide), u8 14 (by decide) (by decide) (by decide)]
        exact ⟨rfl, rfl, rfl, rfl⟩
      · rw [u8 15 (by decide) (by decide) (by decide)]
    refine aw_ireturn X (ty := .boolean) hr (by first | rfl | decide | assumption) dL_versions_433 (⟨rfl, _, lS.of h1 (hL.vers hfin (fun j hj => u8 j (by omega) (by omega) (by omega))) hs1 hk1 eD_ok⟩)
