/-! papers: how often the bytes of a part are named -/
theorem off_succ {l : List (List Int32)} {k : Nat} (h : k < l.length) : (l.take (k + 1)).flatten.length = (l.take k).flatten.length + (l.getD k []).length := by
  rw [take_snoc h, List.flatten_append, List.length_append]
  simp
theorem off_le (l : List (List Int32)) (k : Nat) : (l.take k).flatten.length ≤ l.flatten.length := by
  conv => rhs; rw [← List.take_append_drop k l, List.flatten_append, List.length_append]
  exact Nat.le_add_right _ _
theorem flat_get {l : List (List Int32)} {k i : Nat} (h : k < l.length) (hi : i < (l.getD k []).length) : l.flatten.getD ((l.take k).flatten.length + i) 0 = (l.getD k []).getD i 0 := by
  have e : l.flatten = (l.take k).flatten ++ ((l.getD k []) ++ (l.drop (k + 1)).flatten) := by
    conv => lhs; rw [← List.take_append_drop (k + 1) l, List.flatten_append, take_snoc h, List.flatten_append]
    simp
  rw [e, gd_r, gd_l hi]
/-- the papers without one of them -/
def Pw (P : PS) : Option Nat → PS
  | none => P
  | some p => va_up P p none
/-- the chunks up to a paper, of that paper only the first ones -/
def upto (Q : PS) (lp kk : Nat) (p : Nat) : List (List Int32) := if p ≤ lp then allB Q p else allB Q lp ++ ((Q lp).getD []).take kk
def lstN (Q : PS) (lp kk p : Nat) : Nat := if p = lp then min kk ((Q lp).getD []).length else ((Q p).getD []).length
theorem upto_succ {Q : PS} {lp kk p : Nat} (h : p ≤ lp) : upto Q lp kk (p + 1) = upto Q lp kk p ++ ((Q p).getD []).take (lstN Q lp kk p) := by
  unfold upto lstN
  rw [if_pos h]
  by_cases e : p = lp
  · subst e
    rw [if_neg (by omega), if_pos rfl, ← List.take_take, List.take_length]
  · rw [if_pos (by omega), if_neg e, List.take_length, allB]
theorem upto_end {Q : PS} {lp kk : Nat} : upto Q lp kk (lp + 1) = allB Q lp ++ ((Q lp).getD []).take kk := by
  unfold upto
  rw [if_neg (by omega)]
theorem cnt_succ {l : List (List Int32)} {b : List Int32} {k : Nat} (h : k < l.length) : List.count b (l.take (k + 1)) = List.count b (l.take k) + if l.getD k [] = b then 1 else 0 := by
  rw [take_snoc h, List.count_append, List.count_singleton]
  congr 1
  by_cases e : l.getD k [] = b
  · rw [if_pos e, if_pos (by simpa using e)]
  · rw [if_neg e, if_neg (by simpa using e)]
theorem cnt_len {l : List (List Int32)} {b : List Int32} : List.count b l ≤ l.length := List.count_le_length
theorem Pw_some {P : PS} {w : Option Nat} {i : Nat} {l : List (List Int32)} (h : Pw P w i = some l) : P i = some l ∧ w ≠ some i := by
  cases w with
  | none => exact ⟨h, fun e => by cases e⟩
  | some p =>
    have e : va_up P p none i = some l := h
    by_cases q : i = p
    · subst q
      rw [va_up_self] at e
      cases e
    · rw [va_up_ne _ _ q] at e
      exact ⟨e, fun e2 => by cases e2; exact q rfl⟩
theorem Pw_none {P : PS} {w : Option Nat} {i : Nat} (h : Pw P w i = none) : P i = none ∨ w = some i := by
  cases w with
  | none => exact Or.inl h
  | some p =>
    have e : va_up P p none i = none := h
    by_cases q : i = p
    · exact Or.inr (by rw [q])
    · rw [va_up_ne _ _ q] at e
      exact Or.inl e
/-- two runs of bytes are alike up to a place -/
def eqTo (a b : List Int32) : Nat → Bool
  | 0 => true
  | i + 1 => eqTo a b i && decide (b.getD i 0 = a.getD i 0)
theorem eqTo_all {a b : List Int32} : ∀ {n}, eqTo a b n = true ↔ ∀ i, i < n → b.getD i 0 = a.getD i 0
  | 0 => ⟨fun _ i hi => absurd hi (Nat.not_lt_zero _), fun _ => rfl⟩
  | n + 1 => by
    rw [eqTo, Bool.and_eq_true, eqTo_all, decide_eq_true_eq]
    constructor
    · rintro ⟨h1, h2⟩ i hi
      by_cases e : i = n
      · rw [e]
        exact h2
      · exact h1 i (by omega)
    · exact fun h => ⟨fun i hi => h i (by omega), h n (by omega)⟩
theorem eqTo_off {a b : List Int32} {i : Nat} (h : eqTo a b i = false) : ∀ {n}, i ≤ n → eqTo a b n = false
  | 0, hn => by
    rw [show i = 0 by omega] at h
    exact h
  | n + 1, hn => by
    by_cases e : i = n + 1
    · rw [← e]
      exact h
    · rw [eqTo, eqTo_off h (by omega), Bool.false_and]
theorem eq_of_to {a b : List Int32} (hl : a.length = b.length) (h : eqTo a b b.length = true) : a = b := by
  refine List.ext_getElem hl (fun i h1 h2 => ?_)
  have := eqTo_all.mp h i h2
  rw [List.getD_eq_getElem?_getD, List.getD_eq_getElem?_getD, List.getElem?_eq_getElem h1, List.getElem?_eq_getElem h2] at this
  exact this.symm
/-- a paper as the law's rows have it -/
def pV (l : List (List Int32)) : Prop := l.flatten.length ≤ 16 ∧ l.length ≤ 16 ∧ (∀ b ∈ l, 0 < b.length) ∧ byB l.flatten
def pR (pb pl pp : Nat → Int32) (q : Nat) (P : Option (List (List Int32))) : Prop := match P with
  | none => pp q = nI 0
  | some l => pp q = nI 1 ∧ pp (4 + q) = nI l.length ∧ (∀ k, k < l.length → pl (16 * q + k) = nI (l.getD k []).length) ∧ bR pb (16 * q) l.flatten
def psR (pb pl pp : Nat → Int32) (P : PS) : Prop := (∀ i, 4 ≤ i → P i = none) ∧ ∀ i, i < 4 → (∀ l, P i = some l → pV l) ∧ pR pb pl pp i (P i)
theorem pV.off {l : List (List Int32)} (h : pV l) {k : Nat} (hk : k < l.length) : (l.take k).flatten.length + (l.getD k []).length ≤ 16 := by
  rw [← off_succ hk]
  exact Nat.le_trans (off_le _ _) h.1
theorem psR.at {pb pl pp : Nat → Int32} {P : PS} (h : psR pb pl pp P) {q : Nat} (hq : q < 4) {l : List (List Int32)} (e : P q = some l) : pV l ∧ pp q = nI 1 ∧ pp (4 + q) = nI l.length ∧ (∀ k, k < l.length → pl (16 * q + k) = nI (l.getD k []).length) ∧ bR pb (16 * q) l.flatten := by
  obtain ⟨h1, h2⟩ := h.2 q hq
  rw [e] at h2
  exact ⟨h1 l e, h2⟩
theorem psR.no {pb pl pp : Nat → Int32} {P : PS} (h : psR pb pl pp P) {q : Nat} (hq : q < 4) (e : P q = none) : pp q = nI 0 := by
  have h2 := (h.2 q hq).2
  rw [e] at h2
  exact h2
theorem nm_al {Z : AZ} {Q : State → Prop} {M : AM} {k n q0 q1 q2 p kp lp qq f j : Nat} {z cnt : Int32} {w : Option Nat} {pb pl : Nat → Int32} {b x : List Int32} {a12 : Option Value} (X : am_X RL cL_named Z) (hn : zn Z = 16) (m0 : M.1 q0 = some (am_ai (zG Z) 64 pb)) (m1 : M.1 q1 = some (am_ai (zG Z) 64 pl)) (hj : 16 * qq + j < 64) (hkp : 16 * p + kp < 64) (e1 : pl (16 * qq + j) = nI x.length) (e2 : pl (16 * p + kp) = nI b.length) {a : Nat} (hx : ∀ i, i < x.length → pb (a + i) = x.getD i 0) (ha : a + x.length ≤ 64) (hb : ∀ i, i < b.length → pb (f + i) = b.getD i 0) (hf : f + b.length ≤ 64)
    (K : AW Z Q M k n 183 [some (.ref q0), some (.ref q1), some (.ref q2), some (.int (nI p)), some (.int (nI kp)), some (.int (nI lp)), some (.int (z)), some (.int (behI w)), some (.int (nI f)), some (.int (cnt)), some (.int (nI qq)), some (.int (nI a)), a12, some (.int (nI j)), some (.int (b2i (decide (b = x)))), none] []) : AW Z Q M k n 101 [some (.ref q0), some (.ref q1), some (.ref q2), some (.int (nI p)), some (.int (nI kp)), some (.int (nI lp)), some (.int (z)), some (.int (behI w)), some (.int (nI f)), some (.int (cnt)), some (.int (nI qq)), some (.int (nI a)), a12, some (.int (nI j)), none, none] [] := by
  refine aw_splB (pm := 128) (P := x.length = b.length) (fun K1 => ?_) ?_
  · refine aw_aload1 X dL_named_101 ?_
    refine aw_bipush X dL_named_102 (v := nI 16) (by decide) ?_
    refine aw_iload10 X dL_named_104 ?_
    refine aw_imul X dL_named_106 ?_
    first | with_reducible refine aw_int (pk_mul _ _) ?_ | skip
    refine aw_iload13 X dL_named_107 ?_
    refine aw_iadd X dL_named_109 ?_
    first | with_reducible refine aw_int (nI_add _ _) ?_ | skip
    refine aw_iald X dL_named_110 m1 rfl hj (by decide) ?_
    refine aw_int e1 ?_
    refine aw_aload1 X dL_named_111 ?_
    refine aw_bipush X dL_named_112 (v := nI 16) (by decide) ?_
    refine aw_iload3 X dL_named_114 ?_
    refine aw_imul X dL_named_115 ?_
    first | with_reducible refine aw_int (pk_mul _ _) ?_ | skip
    refine aw_iload4 X dL_named_116 ?_
    refine aw_iadd X dL_named_118 ?_
    first | with_reducible refine aw_int (nI_add _ _) ?_ | skip
    refine aw_iald X dL_named_119 m1 rfl hkp (by decide) ?_
    refine aw_int e2 ?_
    refine aw_icmpne X dL_named_120 (tgt := 127) (by decide) (fun c1 => ?_) (fun c1 => ?_)
    · refine aw_iconst X dL_named_127 (v := nI 0) (by decide) ?_
      exact aw_b0 (fun e => c1 (by rw [e])) K1
    · refine aw_iconst X dL_named_123 (v := nI 1) (by decide) ?_
      refine aw_goto X dL_named_124 (tgt := 128) (by decide) ?_
      exact aw_b1 ((nI_eq (by omega) (by omega)).mp c1) K1
  · refine aw_istore14 X dL_named_128 (by rw [hn]; decide) rfl ?_
    refine aw_iconst X dL_named_130 (v := nI 0) (by decide) ?_
    refine aw_istore15 X dL_named_131 (by rw [hn]; decide) rfl ?_
    by_cases hl : x.length = b.length
    · rw [am_b1 hl]
      refine aw_loop (σ := Nat) (fun i => i ≤ x.length) (fun i => x.length - i) (fun _ => M) (fun i => [some (.ref q0), some (.ref q1), some (.ref q2), some (.int (nI p)), some (.int (nI kp)), some (.int (nI lp)), some (.int (z)), some (.int (behI w)), some (.int (nI f)), some (.int (cnt)), some (.int (nI qq)), some (.int (nI a)), a12, some (.int (nI j)), some (.int (b2i (eqTo b x i))), some (.int (nI i))]) ?_ 0 (Nat.zero_le _)
      intro i hi ih
      try dsimp only at hi ih ⊢
      refine aw_iload15 X dL_named_133 ?_
      refine aw_aload1 X dL_named_135 ?_
      refine aw_bipush X dL_named_136 (v := nI 16) (by decide) ?_
      refine aw_iload10 X dL_named_138 ?_
      refine aw_imul X dL_named_140 ?_
      first | with_reducible refine aw_int (pk_mul _ _) ?_ | skip
      refine aw_iload13 X dL_named_141 ?_
      refine aw_iadd X dL_named_143 ?_
      first | with_reducible refine aw_int (nI_add _ _) ?_ | skip
      refine aw_iald X dL_named_144 m1 rfl hj (by decide) ?_
      refine aw_int e1 ?_
      refine aw_icmpge X dL_named_145 (tgt := 183) (by decide) (fun c2 => ?_) (fun c2 => ?_)
      · have e : i = x.length := by have := (nI_leI (by omega) (by omega)).mp c2; omega
        subst e
        have e2 : eqTo b x x.length = decide (b = x) := by
          cases hq : eqTo b x x.length with
          | true => exact (decide_eq_true (eq_of_to hl.symm hq)).symm
          | false =>
            have : b ≠ x := fun e => by
              rw [e, eqTo_all.mpr (fun _ _ => rfl)] at hq
              cases hq
            exact (decide_eq_false this).symm
        rw [e2]
        exact aw_drop15 K
      · have hlt : i < x.length := by
          rcases Nat.lt_or_ge i x.length with q | q
          · exact q
          · exact absurd (nI_le q (by omega)) c2
        refine aw_iload14 X dL_named_148 ?_
        refine aw_ifeq X dL_named_150 (tgt := 183) (by decide) (fun c3 => ?_) (fun c3 => ?_)
        · have e2 : eqTo b x i = false := b2i_0.mp c3
          have : b ≠ x := fun e => by
            rw [e, eqTo_all.mpr (fun _ _ => rfl)] at e2
            cases e2
          rw [e2]
          rw [decide_eq_false this] at K
          exact aw_drop15 K
        · have e2 : eqTo b x i = true := by
            cases hq : eqTo b x i with
            | true => rfl
            | false => exact absurd (b2i_0.mpr hq) c3
          have q := ih (i + 1) hlt (by omega)
          rw [eqTo, e2, Bool.true_and] at q
          refine aw_spl0 (pm := 153) (fun K2 => K2) ?_
          refine aw_splV (pm := 175) (v := b2i (decide (x.getD i 0 = b.getD i 0))) (fun K2 => ?_) ?_
          · refine aw_aload0 X dL_named_153 ?_
            refine aw_iload11 X dL_named_154 ?_
            refine aw_iload15 X dL_named_156 ?_
            refine aw_iadd X dL_named_158 ?_
            first | with_reducible refine aw_int (nI_add _ _) ?_ | skip
            refine aw_iald X dL_named_159 m0 rfl (by omega) (by decide) ?_
            refine aw_int (hx i hlt) ?_
            refine aw_aload0 X dL_named_160 ?_
            refine aw_iload8 X dL_named_161 ?_
            refine aw_iload15 X dL_named_163 ?_
            refine aw_iadd X dL_named_165 ?_
            first | with_reducible refine aw_int (nI_add _ _) ?_ | skip
            refine aw_iald X dL_named_166 m0 rfl (by omega) (by decide) ?_
            refine aw_int (hb i (by omega)) ?_
            refine aw_icmpne X dL_named_167 (tgt := 174) (by decide) (fun c4 => ?_) (fun c4 => ?_)
            · rw [decide_eq_false c4] at K2
              refine aw_iconst X dL_named_174 (v := nI 0) (by decide) ?_
              exact K2
            · rw [decide_eq_true c4] at K2
              refine aw_iconst X dL_named_170 (v := nI 1) (by decide) ?_
              refine aw_goto X dL_named_171 (tgt := 175) (by decide) ?_
              exact K2
          · refine aw_istore14 X dL_named_175 (by rw [hn]; decide) rfl ?_
            refine aw_iinc15 X dL_named_177 (by rw [hn]; decide) (am_inc _ 1) rfl ?_
            refine aw_goto X dL_named_180 (tgt := 133) (by decide) ?_
            exact q
    · rw [am_b0 hl]
      have : b ≠ x := fun e => hl (by rw [e])
      rw [decide_eq_false this] at K
      refine aw_iload15 X dL_named_133 ?_
      refine aw_aload1 X dL_named_135 ?_
      refine aw_bipush X dL_named_136 (v := nI 16) (by decide) ?_
      refine aw_iload10 X dL_named_138 ?_
      refine aw_imul X dL_named_140 ?_
      first | with_reducible refine aw_int (pk_mul _ _) ?_ | skip
      refine aw_iload13 X dL_named_141 ?_
      refine aw_iadd X dL_named_143 ?_
      first | with_reducible refine aw_int (nI_add _ _) ?_ | skip
      refine aw_iald X dL_named_144 m1 rfl hj (by decide) ?_
      refine aw_int e1 ?_
      refine aw_icmpge X dL_named_145 (tgt := 183) (by decide) (fun c2 => ?_) (fun c2 => ?_)
      · exact aw_drop15 K
      · refine aw_iload14 X dL_named_148 ?_
        refine aw_ifeq X dL_named_150 (tgt := 183) (by decide) (fun _ => ?_) (fun c9 => by first | exact absurd ((rfl : nI 0 = 0)) c9 | exact absurd c9 ((rfl : nI 0 = 0)))
        exact aw_drop15 K
theorem behI_ne {w : Option Nat} {q : Nat} (hq : q < 2 ^ 31) (hw : ∀ k, w = some k → k < 2 ^ 31) : nI q = behI w ↔ w = some q := behI_eq hw hq
theorem c_L_named {l : Launch} {G : AG} {M : AM} {q0 q1 q2 p kp lp kk : Nat} {z : Int32} {w : Option Nat} {pb pl pp : Nat → Int32} {P : PS} {m : List (List Int32)} (m0 : M.1 q0 = some (am_ai G 64 pb)) (m1 : M.1 q1 = some (am_ai G 64 pl)) (m2 : M.1 q2 = some (am_ai G 8 pp)) (hP : psR pb pl pp P) (hp : p < 4) (hm : P p = some m) (hk : kp < m.length) (hlp : lp < 4) (hz : ∀ l, P lp = some l → kk ≤ l.length ∧ z = nI kk) (hw : ∀ k, w = some k → k < 4) :
    Cn l G yL_named cL_named 16 (some .int) rL_named M [.ref q0, .ref q1, .ref q2, .int (nI p), .int (nI kp), .int (nI lp), .int z, .int (behI w)] (fun v M' => M' = M ∧ v = some (.int (nI (List.count (m.getD kp []) (allB (Pw P w) lp ++ ((Pw P w lp).getD []).take kk))))) := by
  obtain ⟨v1, g1, g2, g3, g4⟩ := hP.at hp hm
  have hoff := v1.off hk
  have hml := v1.2.1
  refine Cn.of (by decide) [some (.ref q0), some (.ref q1), some (.ref q2), some (.int (nI p)), some (.int (nI kp)), some (.int (nI lp)), some (.int (z)), some (.int (behI w)), none, none, none, none, none, none, none, none] rfl (Nat.le_of_ble_eq_true rfl) ?_
  intro Z hZ
  obtain ⟨rfl, hn, rfl, hR, X, hr, hnm⟩ := hZ
  refine aw_bipush X dL_named_0 (v := nI 16) (by decide) ?_
  refine aw_iload3 X dL_named_2 ?_
  refine aw_imul X dL_named_3 ?_
  first | with_reducible refine aw_int (pk_mul _ _) ?_ | skip
  refine aw_istore8 X dL_named_4 (by rw [hn]; decide) rfl ?_
  refine aw_iconst X dL_named_6 (v := nI 0) (by decide) ?_
  refine aw_istore9 X dL_named_7 (by rw [hn]; decide) rfl ?_
  refine aw_loop (σ := Nat) (fun i => i ≤ kp) (fun i => kp - i) (fun _ => M) (fun i => [some (.ref q0), some (.ref q1), some (.ref q2), some (.int (nI p)), some (.int (nI kp)), some (.int (nI lp)), some (.int (z)), some (.int (behI w)), some (.int (nI (16 * p + (m.take i).flatten.length))), some (.int (nI i)), none, none, none, none, none, none]) ?_ 0 (Nat.zero_le _)
  rintro i hi ih
  try dsimp only at hi ih ⊢
  refine aw_iload9 X dL_named_9 ?_
  refine aw_iload4 X dL_named_11 ?_
  refine aw_icmpge X dL_named_13 (tgt := 36) (by decide) (fun c1 => ?_) (fun c1 => ?_)
  · have e : kp = i := by have := (nI_leI (by omega) (by omega)).mp c1; omega
    subst e
    clear ih
    have hbb : ∀ t, t < (m.getD kp []).length → pb (16 * p + (m.take kp).flatten.length + t) = (m.getD kp []).getD t 0 := fun t ht => by
      rw [Nat.add_assoc, g4 _ (by have := off_le m (kp + 1); rw [off_succ hk] at this; omega), flat_get hk ht]
    generalize hbd : (m.getD kp []) = b at hbb hoff ⊢
    generalize hFd : 16 * p + (m.take kp).flatten.length = F at hbb ⊢
    have hFb : F + b.length ≤ 64 := by omega
    have e2p : pl (16 * p + kp) = nI b.length := by rw [← hbd]; exact g3 kp hk
    have z0 : (0 : Nat) = List.count b (upto (Pw P w) lp kk 0) := by simp [upto, allB]
    refine aw_iconst X dL_named_36 (v := nI 0) (by decide) ?_
    refine aw_istore9 X dL_named_37 (by rw [hn]; decide) rfl ?_
    refine aw_iconst X dL_named_39 (v := nI 0) (by decide) ?_
    refine aw_istore10 X dL_named_40 (by rw [hn]; decide) rfl ?_
    refine aw_locals (L' := [some (.ref q0), some (.ref q1), some (.ref q2), some (.int (nI p)), some (.int (nI kp)), some (.int (nI lp)), some (.int (z)), some (.int (behI w)), some (.int (nI F)), some (.int (nI (List.count b (upto (Pw P w) lp kk 0)))), some (.int (nI 0)), none, none, none, none, none]) (fun k v hk9 => by rw [← z0] at hk9; exact hk9) ?_
    refine aw_loop (σ := Nat) (fun q => q ≤ lp + 1) (fun q => lp + 1 - q) (fun _ => M) (fun q => [some (.ref q0), some (.ref q1), some (.ref q2), some (.int (nI p)), some (.int (nI kp)), some (.int (nI lp)), some (.int (z)), some (.int (behI w)), some (.int (nI F)), some (.int (nI (List.count b (upto (Pw P w) lp kk q)))), some (.int (nI q)), none, none, none, none, none]) ?_ 0 (Nat.zero_le _)
    rintro q hq ih
    try dsimp only at hq ih ⊢
    refine aw_iload10 X dL_named_42 ?_
    refine aw_iload5 X dL_named_44 ?_
    refine aw_icmpgt X dL_named_46 (tgt := 225) (by decide) (fun c2 => ?_) (fun c2 => ?_)
    · have e : q = lp + 1 := by
        rcases Nat.lt_or_ge lp q with x | x
        · omega
        · exact absurd c2 (fun e => by have := (nI_ltI (by omega) (by omega)).mp e; omega)
      subst e
      refine aw_iload9 X dL_named_225 ?_
      refine aw_ireturn X (ty := .int) hr (by first | rfl | decide | assumption) dL_named_227 (⟨rfl, by rw [upto_end]⟩)
    · have hqlp : q ≤ lp := by
        rcases Nat.lt_or_ge lp q with x | x
        · exact absurd (nI_lt x (by omega)) c2
        · exact x
      have hus := upto_succ (Q := Pw P w) (kk := kk) hqlp
      refine aw_bipush X dL_named_49 (v := nI 16) (by decide) ?_
      refine aw_iload10 X dL_named_51 ?_
      refine aw_imul X dL_named_53 ?_
      first | with_reducible refine aw_int (pk_mul _ _) ?_ | skip
      refine aw_istore11 X dL_named_54 (by rw [hn]; decide) rfl ?_
      -- behind the paper
      have next : ∀ x11 x12 x13 : Option Value, AW Z (am_Q Z (fun v M' => M' = M ∧ v = some (.int (nI (List.count b (allB (Pw P w) lp ++ ((Pw P w lp).getD []).take kk))))) (fun _ _ => False) rL_named.cells rL_named.slots) M 0 0 219 [some (.ref q0), some (.ref q1), some (.ref q2), some (.int (nI p)), some (.int (nI kp)), some (.int (nI lp)), some (.int (z)), some (.int (behI w)), some (.int (nI F)), some (.int (nI (List.count b (upto (Pw P w) lp kk (q + 1))))), some (.int (nI q)), x11, x12, x13, none, none] [] := fun x11 x12 x13 => by
        refine aw_iinc10 X dL_named_219 (by rw [hn]; decide) (am_inc _ 1) rfl ?_
        refine aw_goto X dL_named_222 (tgt := 42) (by decide) ?_
        exact aw_drop11 (aw_drop12 (aw_drop13 (ih (q + 1) (by omega) (by omega))))
      refine aw_spl (pm := 74) (P := fun v => (q = lp ∧ v = z) ∨ (q ≠ lp ∧ v = pp (4 + q))) (fun K => ?_) ?_
      · refine aw_iload10 X dL_named_56 ?_
        refine aw_iload5 X dL_named_58 ?_
        refine aw_icmpne X dL_named_60 (tgt := 68) (by decide) (fun c3 => ?_) (fun c3 => ?_)
        · refine aw_aload2 X dL_named_68 ?_
          refine aw_iconst X dL_named_69 (v := nI 4) (by decide) ?_
          refine aw_iload10 X dL_named_70 ?_
          refine aw_iadd X dL_named_72 ?_
          first | with_reducible refine aw_int (nI_add _ _) ?_ | skip
          refine aw_iald X dL_named_73 m2 rfl (by omega) (by decide) ?_
          exact K _ (Or.inr ⟨fun e => c3 (by rw [e]), rfl⟩)
        · refine aw_iload6 X dL_named_63 ?_
          refine aw_goto X dL_named_65 (tgt := 74) (by decide) ?_
          exact K _ (Or.inl ⟨(nI_eq (by omega) (by omega)).mp c3, rfl⟩)
      · intro v hv
        refine aw_istore12 X dL_named_74 (by rw [hn]; decide) rfl ?_
        refine aw_iconst X dL_named_76 (v := nI 0) (by decide) ?_
        refine aw_istore13 X dL_named_77 (by rw [hn]; decide) rfl ?_
        cases hQ : Pw P w q with
        | none =>
          have nx := next (some (.int (nI (16 * q)))) (some (.int v)) (some (.int (nI 0)))
          rw [hus, hQ, Option.getD_none, List.take_nil, List.append_nil] at nx
          refine aw_iload13 X dL_named_79 ?_
          refine aw_iload12 X dL_named_81 ?_
          refine aw_icmpge X dL_named_83 (tgt := 219) (by decide) (fun c4 => ?_) (fun c4 => ?_)
          · exact nx
          · refine aw_aload2 X dL_named_86 ?_
            refine aw_iload10 X dL_named_87 ?_
            refine aw_iald X dL_named_89 m2 rfl (show q < 8 by omega) (by decide) ?_
            rcases Pw_none hQ with hq0 | hqw
            · refine aw_int (hP.no (by omega) hq0) ?_
              refine aw_iconst X dL_named_90 (v := nI 1) (by decide) ?_
              refine aw_icmpne X dL_named_91 (tgt := 219) (by decide) (fun _ => ?_) (fun c9 => by first | exact absurd ((by decide : ¬ nI 0 = nI 1)) c9 | exact absurd c9 ((by decide : ¬ nI 0 = nI 1)))
              exact nx
            · refine aw_iconst X dL_named_90 (v := nI 1) (by decide) ?_
              refine aw_icmpne X dL_named_91 (tgt := 219) (by decide) (fun c5 => ?_) (fun c5 => ?_)
              · exact nx
              · refine aw_iload10 X dL_named_94 ?_
                refine aw_iload7 X dL_named_96 ?_
                refine aw_icmpeq X dL_named_98 (tgt := 219) (by decide) (fun _ => ?_) (fun c9 => by first | exact absurd (((behI_ne (by omega) (fun k hk => by have := hw k hk; omega)).mpr hqw)) c9 | exact absurd c9 (((behI_ne (by omega) (fun k hk => by have := hw k hk; omega)).mpr hqw)))
                exact nx
        | some x =>
          obtain ⟨hq1, hq2⟩ := Pw_some hQ
          obtain ⟨u1, u2, u3, u4, u5⟩ := hP.at (by omega) hq1
          have hvv : v = nI (lstN (Pw P w) lp kk q) ∧ lstN (Pw P w) lp kk q ≤ x.length := by
            unfold lstN
            rcases hv with ⟨rfl, rfl⟩ | ⟨hne, rfl⟩
            · obtain ⟨y1, y2⟩ := hz x hq1
              rw [if_pos rfl, hQ, Option.getD_some, Nat.min_eq_left y1]
              exact ⟨y2, y1⟩
            · rw [if_neg hne, hQ, Option.getD_some]
              exact ⟨u3, Nat.le_refl _⟩
          rw [hQ, Option.getD_some] at hus
          obtain ⟨rfl, hN⟩ := hvv
          generalize lstN (Pw P w) lp kk q = N at hus hN ⊢
          refine aw_locals (L' := [some (.ref q0), some (.ref q1), some (.ref q2), some (.int (nI p)), some (.int (nI kp)), some (.int (nI lp)), some (.int (z)), some (.int (behI w)), some (.int (nI F)), some (.int (nI (List.count b (upto (Pw P w) lp kk q ++ x.take 0)))), some (.int (nI q)), some (.int (nI (16 * q + (x.take 0).flatten.length))), some (.int (nI N)), some (.int (nI 0)), none, none]) (fun k v hk9 => by rw [List.take_zero, List.append_nil, List.flatten_nil, List.length_nil, Nat.add_zero] at hk9; exact hk9) ?_
          refine aw_loop (σ := Nat) (fun j => j ≤ N) (fun j => N - j) (fun _ => M) (fun j => [some (.ref q0), some (.ref q1), some (.ref q2), some (.int (nI p)), some (.int (nI kp)), some (.int (nI lp)), some (.int (z)), some (.int (behI w)), some (.int (nI F)), some (.int (nI (List.count b (upto (Pw P w) lp kk q ++ x.take j)))), some (.int (nI q)), some (.int (nI (16 * q + (x.take j).flatten.length))), some (.int (nI N)), some (.int (nI j)), none, none]) ?_ 0 (Nat.zero_le _)
          rintro j hj ih2
          try dsimp only at hj ih2 ⊢
          refine aw_iload13 X dL_named_79 ?_
          refine aw_iload12 X dL_named_81 ?_
          refine aw_icmpge X dL_named_83 (tgt := 219) (by decide) (fun c4 => ?_) (fun c4 => ?_)
          · have e : j = N := by have := (nI_leI (by have := u1.2.1; omega) (by have := u1.2.1; omega)).mp c4; omega
            subst e
            have nx := next (some (.int (nI (16 * q + (x.take j).flatten.length)))) (some (.int (nI j))) (some (.int (nI j)))
            rw [hus] at nx
            exact nx
          · have hlt : j < N := by
              rcases Nat.lt_or_ge j N with y | y
              · exact y
              · exact absurd (nI_le y (by have := u1.2.1; omega)) c4
            have hjx : j < x.length := by omega
            have hx16 := u1.2.1
            have hof := u1.off hjx
            refine aw_aload2 X dL_named_86 ?_
            refine aw_iload10 X dL_named_87 ?_
            refine aw_iald X dL_named_89 m2 rfl (show q < 8 by omega) (by decide) ?_
            refine aw_int u2 ?_
            refine aw_iconst X dL_named_90 (v := nI 1) (by decide) ?_
            refine aw_icmpne X dL_named_91 (tgt := 219) (by decide) (fun c9 => by first | exact absurd (((rfl : nI 1 = nI 1))) c9 | exact absurd c9 (((rfl : nI 1 = nI 1)))) (fun _ => ?_)
            refine aw_iload10 X dL_named_94 ?_
            refine aw_iload7 X dL_named_96 ?_
            refine aw_icmpeq X dL_named_98 (tgt := 219) (by decide) (fun c9 => by first | exact absurd ((fun e => hq2 ((behI_ne (by omega) (fun k hk => by have := hw k hk; omega)).mp e))) c9 | exact absurd c9 ((fun e => hq2 ((behI_ne (by omega) (fun k hk => by have := hw k hk; omega)).mp e)))) (fun _ => ?_)
            refine nm_al (x := x.getD j []) X hn m0 m1 (by omega) (by omega) (u4 j hjx) e2p (fun t ht => ?_) (by omega) hbb hFb ?_
            · rw [Nat.add_assoc, u5 _ (by have := off_le x (j + 1); rw [off_succ hjx] at this; omega), flat_get hjx ht]
            · have hcs : List.count b (upto (Pw P w) lp kk q ++ x.take (j + 1)) = List.count b (upto (Pw P w) lp kk q ++ x.take j) + if x.getD j [] = b then 1 else 0 := by
                rw [List.count_append, List.count_append, cnt_succ hjx, Nat.add_assoc]
              have K2 := ih2 (j + 1) hlt (by omega)
              rw [hcs, off_succ hjx, ← Nat.add_assoc] at K2
              refine aw_spl0 (pm := 183) (fun K3 => K3) ?_
              refine aw_spl0 (pm := 183) (fun K3 => K3) ?_
              refine aw_iload9 X dL_named_183 ?_
              refine aw_splV (pm := 195) (v := nI (if x.getD j [] = b then 1 else 0)) (fun K3 => ?_) ?_
              · refine aw_iload14 X dL_named_185 ?_
                refine aw_ifeq X dL_named_187 (tgt := 194) (by decide) (fun c5 => ?_) (fun c5 => ?_)
                · have hne : ¬ b = x.getD j [] := of_decide_eq_false (b2i_0.mp c5)
                  rw [if_neg (fun e => hne e.symm)] at K3
                  refine aw_iconst X dL_named_194 (v := nI 0) (by decide) ?_
                  exact K3
                · have he : b = x.getD j [] := by
                    refine Decidable.byContradiction (fun e => c5 ?_)
                    rw [decide_eq_false e]
                    rfl
                  rw [if_pos he.symm] at K3
                  refine aw_iconst X dL_named_190 (v := nI 1) (by decide) ?_
                  refine aw_goto X dL_named_191 (tgt := 195) (by decide) ?_
                  exact K3
              · refine aw_iadd X dL_named_195 ?_
                first | with_reducible refine aw_int (nI_add _ _) ?_ | skip
                refine aw_istore9 X dL_named_196 (by rw [hn]; decide) rfl ?_
                refine aw_iload11 X dL_named_198 ?_
                refine aw_aload1 X dL_named_200 ?_
                refine aw_bipush X dL_named_201 (v := nI 16) (by decide) ?_
                refine aw_iload10 X dL_named_203 ?_
                refine aw_imul X dL_named_205 ?_
                first | with_reducible refine aw_int (pk_mul _ _) ?_ | skip
                refine aw_iload13 X dL_named_206 ?_
                refine aw_iadd X dL_named_208 ?_
                first | with_reducible refine aw_int (nI_add _ _) ?_ | skip
                refine aw_iald X dL_named_209 m1 rfl (by omega) (by decide) ?_
                refine aw_int (u4 j hjx) ?_
                refine aw_iadd X dL_named_210 ?_
                first | with_reducible refine aw_int (nI_add _ _) ?_ | skip
                refine aw_istore11 X dL_named_211 (by rw [hn]; decide) rfl ?_
                refine aw_iinc13 X dL_named_213 (by rw [hn]; decide) (am_inc _ 1) rfl ?_
                refine aw_goto X dL_named_216 (tgt := 79) (by decide) ?_
                exact aw_drop14 K2
  · have hlt : i < kp := by
      rcases Nat.lt_or_ge i kp with q | q
      · exact q
      · exact absurd (nI_le q (by have := v1.2.1; omega)) c1
    have h16 := v1.2.1
    have hof := v1.off (k := i) (by omega)
    refine aw_iload8 X dL_named_16 ?_
    refine aw_aload1 X dL_named_18 ?_
    refine aw_bipush X dL_named_19 (v := nI 16) (by decide) ?_
    refine aw_iload3 X dL_named_21 ?_
    refine aw_imul X dL_named_22 ?_
    first | with_reducible refine aw_int (pk_mul _ _) ?_ | skip
    refine aw_iload9 X dL_named_23 ?_
    refine aw_iadd X dL_named_25 ?_
    first | with_reducible refine aw_int (nI_add _ _) ?_ | skip
    refine aw_iald X dL_named_26 m1 rfl (by omega) (by decide) ?_
    refine aw_int (g3 i (by omega)) ?_
    refine aw_iadd X dL_named_27 ?_
    first | with_reducible refine aw_int (nI_add _ _) ?_ | skip
    refine aw_istore8 X dL_named_28 (by rw [hn]; decide) rfl ?_
    refine aw_iinc9 X dL_named_30 (by rw [hn]; decide) (am_inc _ 1) rfl ?_
    refine aw_goto X dL_named_33 (tgt := 9) (by decide) ?_
    have q := ih (i + 1) hlt (by omega)
    rw [off_succ (by omega), ← Nat.add_assoc] at q
    exact q
