/-! the law's comparison -/
def lt9 : Option Nat → Int32
  | none => -9
  | some k => nI k - nI 1
theorem lt9_add {k : Nat} : lt9 (some k) + nI 1 = nI k := Int32.sub_add_cancel _ _
theorem lt9_eq {beh : Option Nat} {b : Nat} (hb : b < 2 ^ 31) (hk : ∀ k, beh = some k → k < 2 ^ 31) : nI b = lt9 beh + nI 1 ↔ beh = some b := by
  cases beh with
  | none =>
    constructor
    · intro h
      have h1 := nI_pos' hb
      rw [h] at h1
      exact absurd h1 (by decide)
    · intro h
      cases h
  | some k =>
    rw [lt9_add, nI_eq hb (hk k rfl)]
    exact ⟨fun h => by rw [h], fun h => by cases h; rfl⟩
theorem lowest_step {P : Nat → Bool} {n : Nat} : lowest P (n + 1) = if P n = true ∧ lowest P n = none then some n else lowest P n := by
  have hl : lowest P (n + 1) = match lowest P n with
    | some j => some j
    | none => if P n then some n else none := rfl
  rw [hl]
  cases h : lowest P n with
  | some j => simp
  | none => by_cases hp : P n = true <;> simp [hp]
theorem fnd_step {P : Nat → Bool} {n : Nat} {beh : Option Nat} : fnd P (n + 1) beh = if P n = true ∧ (fnd P n beh = none ∨ beh = some n) then some n else fnd P n beh := by
  cases beh with
  | none =>
    show lowest P (n + 1) = if P n = true ∧ (lowest P n = none ∨ (none : Option Nat) = some n) then some n else lowest P n
    rw [lowest_step]
    simp
  | some b =>
    by_cases h1 : b < n ∧ P b = true
    · have e1 : fnd P n (some b) = some b := if_pos h1
      have e2 : fnd P (n + 1) (some b) = some b := if_pos ⟨by omega, h1.2⟩
      have hne : ¬ b = n := by omega
      rw [e1, e2]
      simp [hne]
    · have e1 : fnd P n (some b) = lowest P n := if_neg h1
      by_cases h2 : b = n ∧ P n = true
      · obtain ⟨rfl, h2⟩ := h2
        have e2 : fnd P (b + 1) (some b) = some b := if_pos ⟨by omega, h2⟩
        rw [e2, if_pos ⟨h2, Or.inr rfl⟩]
      · have e2 : fnd P (n + 1) (some b) = lowest P (n + 1) := if_neg (fun q => by
          by_cases e : b = n
          · subst e; exact h2 ⟨rfl, q.2⟩
          · exact h1 ⟨by omega, q.2⟩)
        rw [e1, e2, lowest_step]
        by_cases hp : P n = true
        · have hne : ¬ b = n := fun e => h2 ⟨e, hp⟩
          simp [hp, hne]
        · simp [hp]
abbrev eqI (x y : List Int32) (i j m : Nat) : Prop := ∀ t, t < m → x.getD (i + t) 0 = y.getD (j + t) 0
theorem cp_same {Z : AZ} {Q : State → Prop} {M : AM} {k n q0 q1 q3 q6 q7 q8 q9 q10 sg0 a d p N0 N3 : Nat} {f0 f3 : Nat → Int32} {s : SG} {bs : List Int32} {beh : Option Nat} {b w : Nat} {x17 x18 x20 x21 : Option Value} (X : am_X RL cL_compare Z) (hn : zn Z = 26) (m0 : M.1 q0 = some (am_ai (zG Z) N0 f0)) (m3 : M.1 q3 = some (am_ai (zG Z) N3 f3)) (n0 : N0 < 2 ^ 31) (n3 : N3 < 2 ^ 31) (b0 : 16 * sg0 + s.2.2.2.length ≤ N0) (b3 : a + bs.length ≤ N3) (r0 : bR f0 (16 * sg0) s.2.2.2) (r3 : bR f3 a bs) (h1 : b * s.2.1 + w ≤ s.2.2.2.length) (h2 : p + w ≤ bs.length)
    (K : AW Z Q M k n 259 [some (.ref q0), some (.ref q1), some (.int (nI sg0)), some (.ref q3), some (.int (nI a)), some (.int (nI bs.length)), some (.ref q6), some (.ref q7), some (.ref q8), some (.ref q9), some (.ref q10), some (.int (nI d)), some (.int (nI s.2.1)), some (.int (nI s.2.2.1)), some (.int (nI s.2.2.2.length)), some (.int (nI (16 * d))), some (.int (nI p)), x17, x18, some (.int (nI w)), x20, x21, some (.int (nI b)), some (.int (nI w)), some (.int (am_b (eqI s.2.2.2 bs (b * s.2.1) p w))), some (.int (nI w))] []) : AW Z Q M k n 200 [some (.ref q0), some (.ref q1), some (.int (nI sg0)), some (.ref q3), some (.int (nI a)), some (.int (nI bs.length)), some (.ref q6), some (.ref q7), some (.ref q8), some (.ref q9), some (.ref q10), some (.int (nI d)), some (.int (nI s.2.1)), some (.int (nI s.2.2.1)), some (.int (nI s.2.2.2.length)), some (.int (nI (16 * d))), some (.int (nI p)), x17, x18, some (.int (nI w)), x20, x21, some (.int (nI b)), some (.int (nI w)), none, none] [] := by
  refine aw_iconst X dL_compare_200 (v := nI 1) (by decide) ?_
  refine aw_istore24 X dL_compare_201 (by rw [hn]; decide) rfl ?_
  refine aw_iconst X dL_compare_203 (v := nI 0) (by decide) ?_
  refine aw_istore25 X dL_compare_204 (by rw [hn]; decide) rfl ?_
  refine aw_loop (σ := Nat) (fun j => j ≤ w) (fun j => w - j) (fun _ => M) (fun j => [some (.ref q0), some (.ref q1), some (.int (nI sg0)), some (.ref q3), some (.int (nI a)), some (.int (nI bs.length)), some (.ref q6), some (.ref q7), some (.ref q8), some (.ref q9), some (.ref q10), some (.int (nI d)), some (.int (nI s.2.1)), some (.int (nI s.2.2.1)), some (.int (nI s.2.2.2.length)), some (.int (nI (16 * d))), some (.int (nI p)), x17, x18, some (.int (nI w)), x20, x21, some (.int (nI b)), some (.int (nI w)), some (.int (am_b (eqI s.2.2.2 bs (b * s.2.1) p j))), some (.int (nI j))]) ?_ 0 (Nat.zero_le _)
  rintro j hj ih
  try dsimp only at hj ih ⊢
  refine aw_iload25 X dL_compare_206 ?_
  refine aw_iload19 X dL_compare_208 ?_
  refine aw_icmpge X dL_compare_210 (tgt := 259) (by decide) (fun c => ?_) (fun c => ?_)
  · have e : j = w := by have := (nI_leI (by omega) (by omega)).mp c; omega
    subst e
    exact K
  · have hlt : j < w := by
      rcases Nat.lt_or_ge j w with q | q
      · exact q
      · exact absurd (nI_le q (by omega)) c
    have q1 : f0 (16 * sg0 + b * s.2.1 + j) = s.2.2.2.getD (b * s.2.1 + j) 0 := by rw [Nat.add_assoc]; exact r0 _ (by omega)
    have q2 : f3 (a + p + j) = bs.getD (p + j) 0 := by rw [Nat.add_assoc]; exact r3 _ (by omega)
    refine aw_splB (pm := 251) (P := eqI s.2.2.2 bs (b * s.2.1) p (j + 1)) (fun K1 => ?_) ?_
    · refine aw_iload24 X dL_compare_213 ?_
      refine aw_ifeq X dL_compare_215 (tgt := 250) (by decide) (fun c1 => ?_) (fun c1 => ?_)
      · refine aw_iconst X dL_compare_250 (v := nI 0) (by decide) ?_
        exact aw_b0 (fun e => am_bz.mp c1 (fun t ht => e t (by omega))) K1
      · have ce := am_bn.mp c1
        refine aw_aload0 X dL_compare_218 ?_
        refine aw_bipush X dL_compare_219 (v := nI 16) (by decide) ?_
        refine aw_iload2 X dL_compare_221 ?_
        refine aw_imul X dL_compare_222 ?_
        first | with_reducible refine aw_int (pk_mul _ _) ?_ | skip
        refine aw_iload22 X dL_compare_223 ?_
        refine aw_iload12 X dL_compare_225 ?_
        refine aw_imul X dL_compare_227 ?_
        first | with_reducible refine aw_int (pk_mul _ _) ?_ | skip
        refine aw_iadd X dL_compare_228 ?_
        first | with_reducible refine aw_int (nI_add _ _) ?_ | skip
        refine aw_iload25 X dL_compare_229 ?_
        refine aw_iadd X dL_compare_231 ?_
        first | with_reducible refine aw_int (nI_add _ _) ?_ | skip
        refine aw_iald X dL_compare_232 m0 rfl (by omega) n0 ?_
        refine aw_int q1 ?_
        refine aw_aload3 X dL_compare_233 ?_
        refine aw_iload4 X dL_compare_234 ?_
        refine aw_iload16 X dL_compare_236 ?_
        refine aw_iadd X dL_compare_238 ?_
        first | with_reducible refine aw_int (nI_add _ _) ?_ | skip
        refine aw_iload25 X dL_compare_239 ?_
        refine aw_iadd X dL_compare_241 ?_
        first | with_reducible refine aw_int (nI_add _ _) ?_ | skip
        refine aw_iald X dL_compare_242 m3 rfl (by omega) n3 ?_
        refine aw_int q2 ?_
        refine aw_icmpne X dL_compare_243 (tgt := 250) (by decide) (fun c2 => ?_) (fun c2 => ?_)
        · refine aw_iconst X dL_compare_250 (v := nI 0) (by decide) ?_
          exact aw_b0 (fun e => c2 (e j (by omega))) K1
        · refine aw_iconst X dL_compare_246 (v := nI 1) (by decide) ?_
          refine aw_goto X dL_compare_247 (tgt := 251) (by decide) ?_
          exact aw_b1 (fun t ht => by
            by_cases e : t = j
            · rw [e]; exact c2
            · exact ce t (by omega)) K1
    · refine aw_istore24 X dL_compare_251 (by rw [hn]; decide) rfl ?_
      refine aw_iinc25 X dL_compare_253 (by rw [hn]; decide) (am_inc _ 1) rfl ?_
      refine aw_goto X dL_compare_256 (tgt := 206) (by decide) ?_
      exact ih (j + 1) hlt (by omega)
theorem cp_blk {Z : AZ} {Q : State → Prop} {M : AM} {k n q0 q1 q3 q6 q7 q8 q9 q10 sg0 a d p N0 N3 : Nat} {f0 f3 : Nat → Int32} {s : SG} {bs : List Int32} {beh : Option Nat} (X : am_X RL cL_compare Z) (hn : zn Z = 26) (hR : zR Z = rL_compare) (hk : k = 0) (hk2 : n = 0) (m0 : M.1 q0 = some (am_ai (zG Z) N0 f0)) (m3 : M.1 q3 = some (am_ai (zG Z) N3 f3)) (n0 : N0 < 2 ^ 31) (n3 : N3 < 2 ^ 31) (b0 : 16 * sg0 + s.2.2.2.length ≤ N0) (b3 : a + bs.length ≤ N3) (r0 : bR f0 (16 * sg0) s.2.2.2) (r3 : bR f3 a bs) (hv : sgV s) (hb1 : byB s.2.2.2) (hb2 : byB bs) (hbs : bs.length ≤ 16) (hss : s.2.2.2.length ≤ 16) (hp : p < bs.length) (hbh : ∀ j, beh = some j → j < 2 ^ 31)
    (K : ∀ c, (0 < c ↔ anyB (qW s bs p (min s.2.1 (bs.length - p))) (sgN s) = true) → c ≤ 16 → AW Z Q M k n 288 [some (.ref q0), some (.ref q1), some (.int (nI sg0)), some (.ref q3), some (.int (nI a)), some (.int (nI bs.length)), some (.ref q6), some (.ref q7), some (.ref q8), some (.ref q9), some (.ref q10), some (.int (nI d)), some (.int (nI s.2.1)), some (.int (nI s.2.2.1)), some (.int (nI s.2.2.2.length)), some (.int (nI (16 * d))), some (.int (nI p)), some (.int (lt9 beh)), some (.int (nI (bs.length - p))), some (.int (nI (min s.2.1 (bs.length - p)))), some (.int (behI (fnd (qP s bs p (min s.2.1 (bs.length - p))) (sgN s) beh))), some (.int (nI c)), some (.int (nI (sgN s))), none, none, none] []) : AW Z Q M k n 118 [some (.ref q0), some (.ref q1), some (.int (nI sg0)), some (.ref q3), some (.int (nI a)), some (.int (nI bs.length)), some (.ref q6), some (.ref q7), some (.ref q8), some (.ref q9), some (.ref q10), some (.int (nI d)), some (.int (nI s.2.1)), some (.int (nI s.2.2.1)), some (.int (nI s.2.2.2.length)), some (.int (nI (16 * d))), some (.int (nI p)), some (.int (lt9 beh)), some (.int (nI (bs.length - p))), some (.int (nI (min s.2.1 (bs.length - p)))), some (.int (-1)), some (.int (nI 0)), some (.int (nI 0)), none, none, none] [] := by
  subst hk
  subst hk2
  obtain ⟨v1, v2, v3, v4, v5⟩ := id hv
  have hN : sgN s ≤ 16 := Nat.le_trans (nb_leN v1) hss
  have hw : 0 < (min s.2.1 (bs.length - p)) ∧ (min s.2.1 (bs.length - p)) ≤ 7 ∧ p + (min s.2.1 (bs.length - p)) ≤ bs.length := ⟨by omega, by omega, by omega⟩
  have hfo : ∀ m j, m ≤ sgN s → fnd (qP s bs p (min s.2.1 (bs.length - p))) m beh = some j → j < 2 ^ 31 := fun m j hm hj => by have := (fnd_some hj).1; omega
  have e0 : fnd (qP s bs p (min s.2.1 (bs.length - p))) 0 beh = none := fnd_off (fun j hj => absurd hj (Nat.not_lt_zero _))
  suffices q : AW Z Q M 0 0 118 [some (.ref q0), some (.ref q1), some (.int (nI sg0)), some (.ref q3), some (.int (nI a)), some (.int (nI bs.length)), some (.ref q6), some (.ref q7), some (.ref q8), some (.ref q9), some (.ref q10), some (.int (nI d)), some (.int (nI s.2.1)), some (.int (nI s.2.2.1)), some (.int (nI s.2.2.2.length)), some (.int (nI (16 * d))), some (.int (nI p)), some (.int (lt9 beh)), some (.int (nI (bs.length - p))), some (.int (nI (min s.2.1 (bs.length - p)))), some (.int (behI (fnd (qP s bs p (min s.2.1 (bs.length - p))) 0 beh))), some (.int (nI 0)), some (.int (nI 0)), none, none, none] [] by
    rw [e0] at q
    exact q
  refine aw_loop (σ := Nat × Nat) (fun t => t.1 ≤ sgN s ∧ t.2 ≤ t.1 ∧ (0 < t.2 ↔ anyB (qW s bs p (min s.2.1 (bs.length - p))) t.1 = true)) (fun t => sgN s - t.1) (fun _ => M) (fun t => [some (.ref q0), some (.ref q1), some (.int (nI sg0)), some (.ref q3), some (.int (nI a)), some (.int (nI bs.length)), some (.ref q6), some (.ref q7), some (.ref q8), some (.ref q9), some (.ref q10), some (.int (nI d)), some (.int (nI s.2.1)), some (.int (nI s.2.2.1)), some (.int (nI s.2.2.2.length)), some (.int (nI (16 * d))), some (.int (nI p)), some (.int (lt9 beh)), some (.int (nI (bs.length - p))), some (.int (nI (min s.2.1 (bs.length - p)))), some (.int (behI (fnd (qP s bs p (min s.2.1 (bs.length - p))) t.1 beh))), some (.int (nI t.2)), some (.int (nI t.1)), none, none, none]) ?_ (0, 0) ⟨Nat.zero_le _, Nat.le_refl _, ⟨fun h => absurd h (by decide), fun h => absurd h (by simp [anyB])⟩⟩
  rintro ⟨b, c⟩ ⟨hb, hc, hcA⟩ ih
  try dsimp only at hb hc hcA ih ⊢
  have hbL : b * s.2.1 ≤ 112 := Nat.le_trans (Nat.mul_le_mul hb v2) (by omega)
  refine aw_iload22 X dL_compare_118 ?_
  refine aw_iload12 X dL_compare_120 ?_
  refine aw_imul X dL_compare_122 ?_
  first | with_reducible refine aw_int (pk_mul _ _) ?_ | skip
  refine aw_iload14 X dL_compare_123 ?_
  refine aw_icmpge X dL_compare_125 (tgt := 288) (by decide) (fun c1 => ?_) (fun c1 => ?_)
  · have hge := (nI_leI (by omega) (by omega)).mp c1
    have e : b = sgN s := by
      rcases Nat.lt_or_ge b (sgN s) with q | q
      · exact absurd ((nb_lt v1).mp q) (by omega)
      · omega
    subst e
    exact K c hcA (by omega)
  · have hlt : b * s.2.1 < s.2.2.2.length := by
      rcases Nat.lt_or_ge (b * s.2.1) s.2.2.2.length with q | q
      · exact q
      · exact absurd (nI_le q (by omega)) c1
    have hbN : b < sgN s := (nb_lt v1).mpr hlt
    have hl : sgL s b = min s.2.1 (s.2.2.2.length - b * s.2.1) := rfl
    have KK : ∀ c', c' ≤ b + 1 → (0 < c' ↔ anyB (qW s bs p (min s.2.1 (bs.length - p))) (b + 1) = true) → AW Z Q M 0 0 282 [some (.ref q0), some (.ref q1), some (.int (nI sg0)), some (.ref q3), some (.int (nI a)), some (.int (nI bs.length)), some (.ref q6), some (.ref q7), some (.ref q8), some (.ref q9), some (.ref q10), some (.int (nI d)), some (.int (nI s.2.1)), some (.int (nI s.2.2.1)), some (.int (nI s.2.2.2.length)), some (.int (nI (16 * d))), some (.int (nI p)), some (.int (lt9 beh)), some (.int (nI (bs.length - p))), some (.int (nI (min s.2.1 (bs.length - p)))), some (.int (behI (fnd (qP s bs p (min s.2.1 (bs.length - p))) (b + 1) beh))), some (.int (nI c')), some (.int (nI b)), none, none, none] [] := fun c' h1 h2 => by
      refine aw_iinc22 X dL_compare_282 (by rw [hn]; decide) (am_inc _ 1) rfl ?_
      refine aw_goto X dL_compare_285 (tgt := 118) (by decide) ?_
      exact ih (b + 1, c') ⟨hbN, h1, h2⟩ (by dsimp only; omega)
    have hA : anyB (qW s bs p (min s.2.1 (bs.length - p))) (b + 1) = (anyB (qW s bs p (min s.2.1 (bs.length - p))) b || (qW s bs p (min s.2.1 (bs.length - p))) b) := rfl
    refine aw_spl (pm := 154) (P := fun v => v = nI (sgL s b)) (fun K1 => ?_) ?_
    · refine aw_iload14 X dL_compare_128 ?_
      refine aw_iload22 X dL_compare_130 ?_
      refine aw_iload12 X dL_compare_132 ?_
      refine aw_imul X dL_compare_134 ?_
      first | with_reducible refine aw_int (pk_mul _ _) ?_ | skip
      refine aw_isub X dL_compare_135 ?_
      first | with_reducible refine aw_int (pk_sub (by omega)) ?_ | skip
      refine aw_iload12 X dL_compare_136 ?_
      refine aw_icmpge X dL_compare_138 (tgt := 152) (by decide) (fun c2 => ?_) (fun c2 => ?_)
      · refine aw_iload12 X dL_compare_152 ?_
        exact K1 _ (by rw [hl, Nat.min_eq_left ((nI_leI (by omega) (by omega)).mp c2)])
      · refine aw_iload14 X dL_compare_141 ?_
        refine aw_iload22 X dL_compare_143 ?_
        refine aw_iload12 X dL_compare_145 ?_
        refine aw_imul X dL_compare_147 ?_
        first | with_reducible refine aw_int (pk_mul _ _) ?_ | skip
        refine aw_isub X dL_compare_148 ?_
        first | with_reducible refine aw_int (pk_sub (by omega)) ?_ | skip
        refine aw_goto X dL_compare_149 (tgt := 154) (by decide) ?_
        exact K1 _ (by
          rw [hl, Nat.min_eq_right]
          rcases Nat.lt_or_ge (s.2.2.2.length - b * s.2.1) s.2.1 with q | q
          · omega
          · exact absurd (nI_le q (by omega)) c2)
    · rintro _ rfl
      refine aw_istore23 X dL_compare_154 (by rw [hn]; decide) rfl ?_
      refine aw_iload23 X dL_compare_156 ?_
      refine aw_iload19 X dL_compare_158 ?_
      have off : (h : (qW s bs p (min s.2.1 (bs.length - p))) b = false) → AW Z Q M 0 0 282 [some (.ref q0), some (.ref q1), some (.int (nI sg0)), some (.ref q3), some (.int (nI a)), some (.int (nI bs.length)), some (.ref q6), some (.ref q7), some (.ref q8), some (.ref q9), some (.ref q10), some (.int (nI d)), some (.int (nI s.2.1)), some (.int (nI s.2.2.1)), some (.int (nI s.2.2.2.length)), some (.int (nI (16 * d))), some (.int (nI p)), some (.int (lt9 beh)), some (.int (nI (bs.length - p))), some (.int (nI (min s.2.1 (bs.length - p)))), some (.int (behI (fnd (qP s bs p (min s.2.1 (bs.length - p))) b beh))), some (.int (nI c)), some (.int (nI b)), none, none, none] [] := fun h => by
        have hP : (qP s bs p (min s.2.1 (bs.length - p))) b = false := by unfold qP; rw [h]; rfl
        have e := fnd_step (P := (qP s bs p (min s.2.1 (bs.length - p)))) (n := b) (beh := beh)
        rw [if_neg (fun q => by rw [hP] at q; cases q.1)] at e
        have q := KK c (by omega) (by rw [hA, h, Bool.or_false]; exact hcA)
        rw [e] at q
        exact q
      refine aw_icmpne X dL_compare_160 (tgt := 282) (by decide) (fun c2 => ?_) (fun c2 => ?_)
      · refine aw_drop23 ?_
        refine off ?_
        unfold qW
        rw [decide_eq_false (fun e => c2 (by rw [e]))]
        rfl
      · have e9 : sgL s b = (min s.2.1 (bs.length - p)) := (nI_eq (by omega) (by omega)).mp c2
        rw [e9]
        refine aw_aload0 X dL_compare_163 ?_
        refine aw_bipush X dL_compare_164 (v := nI 16) (by decide) ?_
        refine aw_iload2 X dL_compare_166 ?_
        refine aw_imul X dL_compare_167 ?_
        first | with_reducible refine aw_int (pk_mul _ _) ?_ | skip
        refine aw_iload22 X dL_compare_168 ?_
        refine aw_iload12 X dL_compare_170 ?_
        refine aw_imul X dL_compare_172 ?_
        first | with_reducible refine aw_int (pk_mul _ _) ?_ | skip
        refine aw_iadd X dL_compare_173 ?_
        first | with_reducible refine aw_int (nI_add _ _) ?_ | skip
        refine aw_iload23 X dL_compare_174 ?_
        refine aw_iload13 X dL_compare_176 ?_
        refine aw_callS X (c_L_weak (a' := b * s.2.1) (bs := s.2.2.2) m0 (by omega) n0 (fun t ht => by rw [Nat.add_assoc]; exact r0 _ (by omega)) hb1 (by omega) v3 v4) kL_9 dL_compare_178 rfl rfl (by first | decide | exact Nat.le_of_ble_eq_true rfl) (by rw [hR]; exact ⟨by first | decide | exact Nat.le_of_ble_eq_true rfl | (dsimp only; omega), by first | decide | exact Nat.le_of_ble_eq_true rfl | (dsimp only; omega)⟩) (by rw [hR]; exact ⟨by first | decide | exact Nat.le_of_ble_eq_true rfl | (dsimp only; omega), by first | decide | exact Nat.le_of_ble_eq_true rfl | (dsimp only; omega)⟩) (fun v M1 hv2 => ?_)
        obtain ⟨rfl, rfl⟩ := hv2
        refine aw_aload3 X dL_compare_181 ?_
        refine aw_iload4 X dL_compare_182 ?_
        refine aw_iload16 X dL_compare_184 ?_
        refine aw_iadd X dL_compare_186 ?_
        first | with_reducible refine aw_int (nI_add _ _) ?_ | skip
        refine aw_iload19 X dL_compare_187 ?_
        refine aw_iload13 X dL_compare_189 ?_
        refine aw_callS X (c_L_weak (a' := p) (bs := bs) m3 (by omega) n3 (fun t ht => by rw [Nat.add_assoc]; exact r3 _ (by omega)) hb2 (by omega) v3 v4) kL_9 dL_compare_191 rfl rfl (by first | decide | exact Nat.le_of_ble_eq_true rfl) (by rw [hR]; exact ⟨by first | decide | exact Nat.le_of_ble_eq_true rfl | (dsimp only; omega), by first | decide | exact Nat.le_of_ble_eq_true rfl | (dsimp only; omega)⟩) (by rw [hR]; exact ⟨by first | decide | exact Nat.le_of_ble_eq_true rfl | (dsimp only; omega), by first | decide | exact Nat.le_of_ble_eq_true rfl | (dsimp only; omega)⟩) (fun v M1 hv2 => ?_)
        obtain ⟨rfl, rfl⟩ := hv2
        have eW : sgW s b = wk s.2.2.2 (b * s.2.1) (min s.2.1 (bs.length - p)) s.2.2.1 := by rw [sgW, e9]
        have eG : sgG s b = sg s.2.2.2 (b * s.2.1) (min s.2.1 (bs.length - p)) := by rw [sgG, e9]
        have hqW : (qW s bs p (min s.2.1 (bs.length - p))) b = decide (wk s.2.2.2 (b * s.2.1) (min s.2.1 (bs.length - p)) s.2.2.1 = wk bs p (min s.2.1 (bs.length - p)) s.2.2.1) := by
          unfold qW
          rw [decide_eq_true e9, Bool.true_and, eW]
        refine aw_icmpne X dL_compare_194 (tgt := 282) (by decide) (fun c3 => ?_) (fun c3 => ?_)
        · refine aw_drop23 ?_
          refine off ?_
          rw [hqW]
          exact decide_eq_false c3
        · have hq1 : (qW s bs p (min s.2.1 (bs.length - p))) b = true := by rw [hqW]; exact decide_eq_true c3
          have hqP : (qP s bs p (min s.2.1 (bs.length - p))) b = true ↔ eqI s.2.2.2 bs (b * s.2.1) p (min s.2.1 (bs.length - p)) := by
            unfold qP
            rw [hq1, Bool.true_and, decide_eq_true_eq, eG]
            exact sg_iff hb1 hb2 hw.2.1
          have hA1 : 0 < c + 1 ↔ anyB (qW s bs p (min s.2.1 (bs.length - p))) (b + 1) = true := ⟨fun _ => by rw [hA, hq1, Bool.or_true], fun _ => Nat.succ_pos _⟩
          have KK1 := KK (c + 1) (by omega) hA1
          have e := fnd_step (P := (qP s bs p (min s.2.1 (bs.length - p)))) (n := b) (beh := beh)
          refine aw_iinc21 X dL_compare_197 (by rw [hn]; decide) (am_inc _ 1) rfl ?_
          refine cp_same (beh := beh) X hn m0 m3 n0 n3 b0 b3 r0 r3 (by omega) hw.2.2 ?_
          refine aw_iload24 X dL_compare_259 ?_
          refine aw_ifeq X dL_compare_261 (tgt := 282) (by decide) (fun c4 => ?_) (fun c4 => ?_)
          · rw [if_neg (fun q => am_bz.mp c4 (hqP.mp q.1))] at e
            rw [e] at KK1
            refine aw_drop23 (aw_drop24 (aw_drop25 KK1))
          · have hP := hqP.mpr (am_bn.mp c4)
            refine aw_iload20 X dL_compare_264 ?_
            have set' : (fnd (qP s bs p (min s.2.1 (bs.length - p))) b beh = none ∨ beh = some b) → AW Z Q M1 0 0 278 [some (.ref q0), some (.ref q1), some (.int (nI sg0)), some (.ref q3), some (.int (nI a)), some (.int (nI bs.length)), some (.ref q6), some (.ref q7), some (.ref q8), some (.ref q9), some (.ref q10), some (.int (nI d)), some (.int (nI s.2.1)), some (.int (nI s.2.2.1)), some (.int (nI s.2.2.2.length)), some (.int (nI (16 * d))), some (.int (nI p)), some (.int (lt9 beh)), some (.int (nI (bs.length - p))), some (.int (nI (min s.2.1 (bs.length - p)))), some (.int (behI (fnd (qP s bs p (min s.2.1 (bs.length - p))) b beh))), some (.int (nI (c + 1))), some (.int (nI b)), some (.int (nI (min s.2.1 (bs.length - p)))), some (.int (am_b (eqI s.2.2.2 bs (b * s.2.1) p (min s.2.1 (bs.length - p))))), some (.int (nI (min s.2.1 (bs.length - p))))] [] := fun q => by
              rw [if_pos ⟨hP, q⟩] at e
              rw [e] at KK1
              refine aw_iload22 X dL_compare_278 ?_
              refine aw_istore20 X dL_compare_280 (by rw [hn]; decide) rfl ?_
              exact aw_drop23 (aw_drop24 (aw_drop25 KK1))
            refine aw_iflt X dL_compare_266 (tgt := 278) (by decide) (fun c5 => ?_) (fun c5 => ?_)
            · refine set' (Or.inl ?_)
              cases hf : fnd (qP s bs p (min s.2.1 (bs.length - p))) b beh with
              | none => rfl
              | some j =>
                rw [hf] at c5
                exact absurd c5 (nI_pos (hfo b j hb hf))
            · have hs9 : ∃ j, fnd (qP s bs p (min s.2.1 (bs.length - p))) b beh = some j := by
                cases hf : fnd (qP s bs p (min s.2.1 (bs.length - p))) b beh with
                | some j => exact ⟨j, rfl⟩
                | none =>
                  rw [hf] at c5
                  exact absurd (by decide : (-1 : Int32) < 0) c5
              obtain ⟨j9, hj9⟩ := hs9
              refine aw_iload22 X dL_compare_269 ?_
              refine aw_iload17 X dL_compare_271 ?_
              refine aw_iconst X dL_compare_273 (v := nI 1) (by decide) ?_
              refine aw_iadd X dL_compare_274 ?_
              refine aw_icmpne X dL_compare_275 (tgt := 282) (by decide) (fun c6 => ?_) (fun c6 => ?_)
              · rw [if_neg (fun q => by
                  rcases q.2 with q2 | q2
                  · rw [hj9] at q2; cases q2
                  · exact c6 ((lt9_eq (by omega) hbh).mpr q2))] at e
                rw [e] at KK1
                exact aw_drop23 (aw_drop24 (aw_drop25 KK1))
              · exact set' (Or.inr ((lt9_eq (by omega) hbh).mp c6))
