/-! the shelf: (least, greatest, divisor), (array, capacity, chunks), papers (stored, array, capacity, chunks), bytes and times of a chunk -/
abbrev PP : Type := Nat × Nat × Nat × List Nat
abbrev SH : Type := (Nat × Nat × Nat) × (Nat × Nat × List Nat) × (Nat → PP) × (Nat → List Int32) × (Nat → Nat)
abbrev sMade (s : SH) : List Nat := s.2.1.2.2
abbrev sNm (s : SH) (i : Nat) : List Nat := (s.2.2.1 i).2.2.2
def isPp (G : AG) (M : AM) (q : Nat) (p : PP) : Prop := M.1 q = some (am_o 4 [.ref (q + 1), .int (nI p.1)]) ∧ isLs G M (q + 1) p.2.1 p.2.2.1 p.2.2.2
def isShM (G : AG) (M : AM) (h : Nat) (s : SH) : Prop :=
  M.1 h = some (am_o 6 [.ref (h + 1), .ref (h + 2), .int (nI s.1.1), .int (nI s.1.2.1), .int (nI s.1.2.2)]) ∧
  (∃ f : Nat → Option Nat, M.1 (h + 1) = some (am_aq G 7 12 f) ∧ ∀ i, i < 12 → f i = some (h + 3 + 2 * i)) ∧
  isLs G M (h + 2) s.2.1.1 s.2.1.2.1 (sMade s) ∧
  (∀ i, i < 12 → isPp G M (h + 3 + 2 * i) (s.2.2.1 i)) ∧
  (∀ c ∈ sMade s, isChunk G M c (s.2.2.2.1 c) (s.2.2.2.2 c))
/-- where things lie: what is made on the way lies from D on -/
def shA (D h : Nat) (s : SH) : Prop := h + 28 ≤ D ∧ s.2.1.2.1 ≤ 2200 ∧ (0 < s.2.1.2.1 → D ≤ s.2.1.1) ∧
  (∀ i, i < 12 → (s.2.2.1 i).1 ≤ 1 ∧ (s.2.2.1 i).2.2.1 ≤ 200 ∧ (0 < (s.2.2.1 i).2.2.1 → D ≤ (s.2.2.1 i).2.1 ∧ (0 < s.2.1.2.1 → (s.2.2.1 i).2.1 ≠ s.2.1.1) ∧ ∀ j, j < 12 → j ≠ i → 0 < (s.2.2.1 j).2.2.1 → (s.2.2.1 i).2.1 ≠ (s.2.2.1 j).2.1)) ∧
  (sMade s).Nodup ∧ (sMade s).length ≤ 1440 ∧ (∀ c ∈ sMade s, D ≤ c ∧ s.2.2.2.2 c ≤ 1440) ∧ 0 < s.1.1 ∧ s.1.1 ≤ 16 ∧ s.1.1 ≤ s.1.2.1 ∧ s.1.2.1 ≤ 40 ∧ 0 < s.1.2.2 ∧ s.1.2.2 ≤ 64
theorem lowest_off {P : Nat → Bool} : ∀ {n : Nat}, (∀ k, k < n → P k = false) → lowest P n = none
  | 0, _ => rfl
  | n + 1, h => by
    rw [lowest, lowest_off (fun k hk => h k (by omega))]
    dsimp only
    rw [if_neg (by rw [h n (by omega)]; decide)]
theorem lowest_first {P : Nat → Bool} {i : Nat} (h : ∀ k, k < i → P k = false) (hi : P i = true) : ∀ {n : Nat}, i < n → lowest P n = some i
  | 0, hn => by omega
  | n + 1, hn => by
    rw [lowest]
    by_cases e : i = n
    · subst e
      rw [lowest_off h]
      dsimp only
      rw [if_pos hi]
    · rw [lowest_first h hi (by omega)]
def freeP (s : SH) (i : Nat) : Bool := decide ((s.2.2.1 i).1 = 0)
theorem c_X5_lowestFree {l : Launch} {G : AG} {M : AM} {D h : Nat} {s : SH} (hs : isShM G M h s) (ha : shA D h s) : Cn l G yX5_lowestFree cX5_lowestFree 2 (some .int) rX5_lowestFree M [.ref h] (fun v M' => M' = M ∧ v = some (.int (behI (lowest (freeP s) 12)))) := by
  obtain ⟨h1, ⟨f, h2, hf⟩, -, h4, -⟩ := id hs
  refine Cn.of (by decide) [some (.ref h), none] rfl (Nat.le_of_ble_eq_true rfl) ?_
  intro Z hZ
  obtain ⟨rfl, hn, rfl, hR, X, hr, hnm⟩ := hZ
  refine aw_iconst X dX5_lowestFree_0 (v := nI 0) (by decide) ?_
  refine aw_istore1 X dX5_lowestFree_1 (by rw [hn]; decide) rfl ?_
  refine aw_loop (σ := Nat) (fun i => i ≤ 12 ∧ ∀ k, k < i → freeP s k = false) (fun i => 12 - i) (fun _ => M) (fun i => [some (.ref h), some (.int (nI i))]) ?_ 0 ⟨Nat.zero_le _, fun k hk => absurd hk (Nat.not_lt_zero _)⟩
  rintro i ⟨hi, hlo⟩ ih
  dsimp only at hi hlo ih ⊢
  refine aw_iload1 X dX5_lowestFree_2 ?_
  refine aw_aload0 X dX5_lowestFree_3 ?_
  refine aw_get X fX5_11 dX5_lowestFree_4 (h1) rfl ?_
  refine aw_alen X dX5_lowestFree_7 (h2) (t := 7) rfl rfl ?_
  refine aw_icmpge X dX5_lowestFree_8 (tgt := 31) (by decide) (fun c => ?_) (fun c => ?_)
  · have e : i = 12 := by have := (nI_leI (by omega) (by omega)).mp c; omega
    subst e
    refine aw_iconst X dX5_lowestFree_31 (v := -1) (by decide) ?_
    refine aw_ireturn X (ty := .int) hr (by first | rfl | decide | assumption) dX5_lowestFree_32 (⟨rfl, by rw [lowest_off hlo]; rfl⟩)
  · have hlt : i < 12 := by
      rcases Nat.lt_or_ge i 12 with q | q
      · exact q
      · exact absurd (nI_le q (by omega)) c
    obtain ⟨p1, -⟩ := h4 i hlt
    have hst := (ha.2.2.2.1 i hlt).1
    refine aw_aload0 X dX5_lowestFree_11 ?_
    refine aw_get X fX5_11 dX5_lowestFree_12 (h1) rfl ?_
    refine aw_iload1 X dX5_lowestFree_15 ?_
    refine aw_aald X at_7 dX5_lowestFree_16 h2 rfl (by omega) (by decide) ?_
    refine aw_rf (hf i hlt) ?_
    refine aw_get X fX5_35 dX5_lowestFree_17 (p1) rfl ?_
    refine aw_ifne X dX5_lowestFree_20 (tgt := 25) (by decide) (fun c8 => ?_) (fun c8 => ?_)
    · refine aw_iinc1 X dX5_lowestFree_25 (by rw [hn]; decide) (am_inc _ 1) rfl ?_
      refine aw_goto X dX5_lowestFree_28 (tgt := 2) (by decide) ?_
      refine ih (i + 1) ⟨by omega, fun k hk => ?_⟩ (by omega)
      by_cases e : k = i
      · subst e
        refine decide_eq_false (fun e9 => c8 ?_)
        rw [e9]
        rfl
      · exact hlo k (by omega)
    · refine aw_iload1 X dX5_lowestFree_23 ?_
      have e9 : (s.2.2.1 i).1 = 0 := by
        refine (nI_eq (a := (s.2.2.1 i).1) (b := 0) (by omega) (by omega)).mp ?_
        exact c8
      refine aw_ireturn X (ty := .int) hr (by first | rfl | decide | assumption) dX5_lowestFree_24 (⟨rfl, by rw [lowest_first hlo (decide_eq_true e9) hlt]; rfl⟩)
def npap (s : SH) : Nat → Nat
  | 0 => 0
  | k + 1 => npap s k + (s.2.2.1 k).1
theorem c_X5_countPapers {l : Launch} {G : AG} {M : AM} {D h : Nat} {s : SH} (hs : isShM G M h s) (ha : shA D h s) : Cn l G yX5_countPapers cX5_countPapers 3 (some .int) rX5_countPapers M [.ref h] (fun v M' => M' = M ∧ v = some (.int (nI (npap s 12)))) := by
  obtain ⟨h1, ⟨f, h2, hf⟩, -, h4, -⟩ := id hs
  refine Cn.of (by decide) [some (.ref h), none, none] rfl (Nat.le_of_ble_eq_true rfl) ?_
  intro Z hZ
  obtain ⟨rfl, hn, rfl, hR, X, hr, hnm⟩ := hZ
  refine aw_iconst X dX5_countPapers_0 (v := nI 0) (by decide) ?_
  refine aw_istore1 X dX5_countPapers_1 (by rw [hn]; decide) rfl ?_
  refine aw_iconst X dX5_countPapers_2 (v := nI 0) (by decide) ?_
  refine aw_istore2 X dX5_countPapers_3 (by rw [hn]; decide) rfl ?_
  refine aw_loop (σ := Nat) (fun i => i ≤ 12 ∧ npap s i ≤ i) (fun i => 12 - i) (fun _ => M) (fun i => [some (.ref h), some (.int (nI (npap s i))), some (.int (nI i))]) ?_ 0 ⟨Nat.zero_le _, Nat.le_refl _⟩
  rintro i ⟨hi, hn1⟩ ih
  dsimp only at hi hn1 ih ⊢
  refine aw_iload2 X dX5_countPapers_4 ?_
  refine aw_aload0 X dX5_countPapers_5 ?_
  refine aw_get X fX5_11 dX5_countPapers_6 (h1) rfl ?_
  refine aw_alen X dX5_countPapers_9 (h2) (t := 7) rfl rfl ?_
  refine aw_icmpge X dX5_countPapers_10 (tgt := 39) (by decide) (fun c => ?_) (fun c => ?_)
  · have e : i = 12 := by have := (nI_leI (by omega) (by omega)).mp c; omega
    subst e
    refine aw_iload1 X dX5_countPapers_39 ?_
    refine aw_ireturn X (ty := .int) hr (by first | rfl | decide | assumption) dX5_countPapers_40 (⟨rfl, rfl⟩)
  · have hlt : i < 12 := by
      rcases Nat.lt_or_ge i 12 with q | q
      · exact q
      · exact absurd (nI_le q (by omega)) c
    obtain ⟨p1, -⟩ := h4 i hlt
    have hst := (ha.2.2.2.1 i hlt).1
    refine aw_iload1 X dX5_countPapers_13 ?_
    refine aw_aload0 X dX5_countPapers_14 ?_
    refine aw_get X fX5_11 dX5_countPapers_15 (h1) rfl ?_
    refine aw_iload2 X dX5_countPapers_18 ?_
    refine aw_aald X at_7 dX5_countPapers_19 h2 rfl (by omega) (by decide) ?_
    refine aw_rf (hf i hlt) ?_
    refine aw_get X fX5_35 dX5_countPapers_20 (p1) rfl ?_
    have q := ih (i + 1) ⟨by omega, by rw [npap]; omega⟩ (by omega)
    refine aw_ifeq X dX5_countPapers_23 (tgt := 30) (by decide) (fun c8 => ?_) (fun c8 => ?_)
    · have e9 : (s.2.2.1 i).1 = 0 := (nI_eq (a := (s.2.2.1 i).1) (b := 0) (by omega) (by omega)).mp c8
      refine aw_iconst X dX5_countPapers_30 (v := nI 0) (by decide) ?_
      refine aw_iadd X dX5_countPapers_31 ?_
      first | with_reducible refine aw_int (nI_add _ _) ?_ | skip
      refine aw_istore1 X dX5_countPapers_32 (by rw [hn]; decide) rfl ?_
      refine aw_iinc2 X dX5_countPapers_33 (by rw [hn]; decide) (am_inc _ 1) rfl ?_
      refine aw_goto X dX5_countPapers_36 (tgt := 4) (by decide) ?_
      have e5 : npap s (i + 1) = npap s i + 0 := by rw [npap, e9]
      rw [e5] at q
      exact q
    · have e9 : (s.2.2.1 i).1 = 1 := by
        have : (s.2.2.1 i).1 ≠ 0 := fun e => c8 (by rw [e]; rfl)
        omega
      refine aw_iconst X dX5_countPapers_26 (v := nI 1) (by decide) ?_
      refine aw_goto X dX5_countPapers_27 (tgt := 31) (by decide) ?_
      refine aw_iadd X dX5_countPapers_31 ?_
      first | with_reducible refine aw_int (nI_add _ _) ?_ | skip
      refine aw_istore1 X dX5_countPapers_32 (by rw [hn]; decide) rfl ?_
      refine aw_iinc2 X dX5_countPapers_33 (by rw [hn]; decide) (am_inc _ 1) rfl ?_
      refine aw_goto X dX5_countPapers_36 (tgt := 4) (by decide) ?_
      have e5 : npap s (i + 1) = npap s i + 1 := by rw [npap, e9]
      rw [e5] at q
      exact q
def sumI (g : Nat → Nat) (xs : List Nat) : Nat → Nat
  | 0 => 0
  | i + 1 => sumI g xs i + g (xs.getD i 0)
theorem sumI_le {g : Nat → Nat} {xs : List Nat} {m : Nat} (h : ∀ c ∈ xs, g c ≤ m) : ∀ i, i ≤ xs.length → sumI g xs i ≤ m * i
  | 0, _ => by simp [sumI]
  | i + 1, hi => by
    have h1 := sumI_le h i (by omega)
    have h2 : g (xs.getD i 0) ≤ m := h _ (by rw [List.getD_eq_getElem?_getD, List.getElem?_eq_getElem (by omega)]; exact List.getElem_mem _)
    rw [sumI, Nat.mul_succ]
    omega
theorem getN_mem {xs : List Nat} {i : Nat} (h : i < xs.length) : xs.getD i 0 ∈ xs := by
  rw [List.getD_eq_getElem?_getD, List.getElem?_eq_getElem h]
  exact List.getElem_mem _
theorem sumI_eq {g : Nat → Nat} : ∀ (xs : List Nat), sumI g xs xs.length = (xs.map g).sum := by
  intro xs
  have key : ∀ i, i ≤ xs.length → sumI g xs i = ((xs.take i).map g).sum := by
    intro i
    induction i with
    | zero => intro _; rfl
    | succ i ih =>
      intro hi
      rw [sumI, ih (by omega), List.take_succ, List.getElem?_eq_getElem (by omega), List.getD_eq_getElem?_getD, List.getElem?_eq_getElem (by omega), List.map_append, List.sum_append]
      simp
  rw [key xs.length (Nat.le_refl _), List.take_length]
def liveG (s : SH) (g : Nat → Nat) (c : Nat) : Nat := if 0 < s.2.2.2.2 c then g c else 0
theorem c_X5_countChunks {l : Launch} {G : AG} {M : AM} {D h : Nat} {s : SH} (hs : isShM G M h s) (ha : shA D h s) : Cn l G yX5_countChunks cX5_countChunks 3 (some .int) rX5_countChunks M [.ref h] (fun v M' => M' = M ∧ v = some (.int (nI (((sMade s).map (liveG s (fun _ => 1))).sum)))) := by
  obtain ⟨h1, -, h3, -, h5⟩ := id hs
  obtain ⟨-, a1, -, -, -, a2, a3, -⟩ := id ha
  rw [← sumI_eq]
  obtain ⟨mc, l1⟩ := h3.at
  refine Cn.of (by decide) [some (.ref h), none, none] rfl (Nat.le_of_ble_eq_true rfl) ?_
  intro Z hZ
  obtain ⟨rfl, hn, rfl, hR, X, hr, hnm⟩ := hZ
  refine aw_iconst X dX5_countChunks_0 (v := nI 0) (by decide) ?_
  refine aw_istore1 X dX5_countChunks_1 (by rw [hn]; decide) rfl ?_
  refine aw_iconst X dX5_countChunks_2 (v := nI 0) (by decide) ?_
  refine aw_istore2 X dX5_countChunks_3 (by rw [hn]; decide) rfl ?_
  refine aw_loop (σ := Nat) (fun i => i ≤ (sMade s).length) (fun i => (sMade s).length - i) (fun _ => M) (fun i => [some (.ref h), some (.int (nI (sumI (liveG s (fun _ => 1)) (sMade s) i))), some (.int (nI i))]) ?_ 0 (Nat.zero_le _)
  rintro i hi ih
  dsimp only at hi ih ⊢
  refine aw_iload2 X dX5_countChunks_4 ?_
  refine aw_aload0 X dX5_countChunks_5 ?_
  refine aw_get X fX5_20 dX5_countChunks_6 (h1) rfl ?_
  refine aw_callV X (c_ls_size h3) kX5_68 (ci := 0) rfl (l1) dX5_countChunks_9 rfl rfl (by first | decide | exact Nat.le_of_ble_eq_true rfl) (by rw [hR]; exact ⟨by first | decide | exact Nat.le_of_ble_eq_true rfl | (dsimp only; omega), by first | decide | exact Nat.le_of_ble_eq_true rfl | (dsimp only; omega)⟩) (by rw [hR]; exact ⟨by first | decide | exact Nat.le_of_ble_eq_true rfl | (dsimp only; omega), by first | decide | exact Nat.le_of_ble_eq_true rfl | (dsimp only; omega)⟩) (fun v M1 hv => ?_)
  obtain ⟨rfl, rfl⟩ := hv
  refine aw_icmpge X dX5_countChunks_12 (tgt := 46) (by decide) (fun c => ?_) (fun c => ?_)
  · have e : i = (sMade s).length := by have := (nI_leI (by omega) (by omega)).mp c; omega
    subst e
    refine aw_iload1 X dX5_countChunks_46 ?_
    refine aw_ireturn X (ty := .int) hr (by first | rfl | decide | assumption) dX5_countChunks_47 (⟨rfl, rfl⟩)
  · have hlt : i < (sMade s).length := by
      rcases Nat.lt_or_ge i (sMade s).length with q | q
      · exact q
      · exact absurd (nI_le q (by omega)) c
    have hc := h5 _ (getN_mem hlt)
    have ht := (a3 _ (getN_mem hlt)).2
    refine aw_iload1 X dX5_countChunks_15 ?_
    refine aw_aload0 X dX5_countChunks_16 ?_
    refine aw_get X fX5_20 dX5_countChunks_17 (h1) rfl ?_
    refine aw_iload2 X dX5_countChunks_20 ?_
    refine aw_callV X (c_ls_get h3 hlt (by omega)) kX5_71 (ci := 0) rfl (l1) dX5_countChunks_21 rfl rfl (by first | decide | exact Nat.le_of_ble_eq_true rfl) (by rw [hR]; exact ⟨by first | decide | exact Nat.le_of_ble_eq_true rfl | (dsimp only; omega), by first | decide | exact Nat.le_of_ble_eq_true rfl | (dsimp only; omega)⟩) (by rw [hR]; exact ⟨by first | decide | exact Nat.le_of_ble_eq_true rfl | (dsimp only; omega), by first | decide | exact Nat.le_of_ble_eq_true rfl | (dsimp only; omega)⟩) (fun v M1 hv => ?_)
    obtain ⟨rfl, rfl⟩ := hv
    refine aw_cast X cnX5_53 dX5_countChunks_24 (hc.at) ?_
    refine aw_get X fX5_52 dX5_countChunks_27 (hc.at) rfl ?_
    have q := ih (i + 1) (by omega) (by omega)
    refine aw_ifle X dX5_countChunks_30 (tgt := 37) (by decide) (fun c8 => ?_) (fun c8 => ?_)
    · have e9 : ¬ 0 < s.2.2.2.2 ((sMade s).getD i 0) := fun e => absurd c8 (nI_nle e (by omega))
      refine aw_iconst X dX5_countChunks_37 (v := nI 0) (by decide) ?_
      refine aw_iadd X dX5_countChunks_38 ?_
      first | with_reducible refine aw_int (nI_add _ _) ?_ | skip
      refine aw_istore1 X dX5_countChunks_39 (by rw [hn]; decide) rfl ?_
      refine aw_iinc2 X dX5_countChunks_40 (by rw [hn]; decide) (am_inc _ 1) rfl ?_
      refine aw_goto X dX5_countChunks_43 (tgt := 4) (by decide) ?_
      rw [sumI, liveG, if_neg e9] at q
      exact q
    · have e9 : 0 < s.2.2.2.2 ((sMade s).getD i 0) := Nat.pos_of_ne_zero (fun e => c8 (by rw [e]; decide))
      refine aw_iconst X dX5_countChunks_33 (v := nI 1) (by decide) ?_
      refine aw_goto X dX5_countChunks_34 (tgt := 38) (by decide) ?_
      refine aw_iadd X dX5_countChunks_38 ?_
      first | with_reducible refine aw_int (nI_add _ _) ?_ | skip
      refine aw_istore1 X dX5_countChunks_39 (by rw [hn]; decide) rfl ?_
      refine aw_iinc2 X dX5_countChunks_40 (by rw [hn]; decide) (am_inc _ 1) rfl ?_
      refine aw_goto X dX5_countChunks_43 (tgt := 4) (by decide) ?_
      rw [sumI, liveG, if_pos e9] at q
      exact q
theorem c_X5_countBytes {l : Launch} {G : AG} {M : AM} {D h : Nat} {s : SH} (hs : isShM G M h s) (ha : shA D h s) : Cn l G yX5_countBytes cX5_countBytes 3 (some .int) rX5_countBytes M [.ref h] (fun v M' => M' = M ∧ v = some (.int (nI (((sMade s).map (liveG s (fun c => (s.2.2.2.1 c).length))).sum)))) := by
  obtain ⟨h1, -, h3, -, h5⟩ := id hs
  obtain ⟨-, a1, -, -, -, a2, a3, -⟩ := id ha
  rw [← sumI_eq]
  obtain ⟨mc, l1⟩ := h3.at
  refine Cn.of (by decide) [some (.ref h), none, none] rfl (Nat.le_of_ble_eq_true rfl) ?_
  intro Z hZ
  obtain ⟨rfl, hn, rfl, hR, X, hr, hnm⟩ := hZ
  refine aw_iconst X dX5_countBytes_0 (v := nI 0) (by decide) ?_
  refine aw_istore1 X dX5_countBytes_1 (by rw [hn]; decide) rfl ?_
  refine aw_iconst X dX5_countBytes_2 (v := nI 0) (by decide) ?_
  refine aw_istore2 X dX5_countBytes_3 (by rw [hn]; decide) rfl ?_
  refine aw_loop (σ := Nat) (fun i => i ≤ (sMade s).length) (fun i => (sMade s).length - i) (fun _ => M) (fun i => [some (.ref h), some (.int (nI (sumI (liveG s (fun c => (s.2.2.2.1 c).length)) (sMade s) i))), some (.int (nI i))]) ?_ 0 (Nat.zero_le _)
  rintro i hi ih
  dsimp only at hi ih ⊢
  refine aw_iload2 X dX5_countBytes_4 ?_
  refine aw_aload0 X dX5_countBytes_5 ?_
  refine aw_get X fX5_20 dX5_countBytes_6 (h1) rfl ?_
  refine aw_callV X (c_ls_size h3) kX5_68 (ci := 0) rfl (l1) dX5_countBytes_9 rfl rfl (by first | decide | exact Nat.le_of_ble_eq_true rfl) (by rw [hR]; exact ⟨by first | decide | exact Nat.le_of_ble_eq_true rfl | (dsimp only; omega), by first | decide | exact Nat.le_of_ble_eq_true rfl | (dsimp only; omega)⟩) (by rw [hR]; exact ⟨by first | decide | exact Nat.le_of_ble_eq_true rfl | (dsimp only; omega), by first | decide | exact Nat.le_of_ble_eq_true rfl | (dsimp only; omega)⟩) (fun v M1 hv => ?_)
  obtain ⟨rfl, rfl⟩ := hv
  refine aw_icmpge X dX5_countBytes_12 (tgt := 59) (by decide) (fun c => ?_) (fun c => ?_)
  · have e : i = (sMade s).length := by have := (nI_leI (by omega) (by omega)).mp c; omega
    subst e
    refine aw_iload1 X dX5_countBytes_59 ?_
    refine aw_ireturn X (ty := .int) hr (by first | rfl | decide | assumption) dX5_countBytes_60 (⟨rfl, rfl⟩)
  · have hlt : i < (sMade s).length := by
      rcases Nat.lt_or_ge i (sMade s).length with q | q
      · exact q
      · exact absurd (nI_le q (by omega)) c
    have hc := h5 _ (getN_mem hlt)
    have ht := (a3 _ (getN_mem hlt)).2
    refine aw_iload1 X dX5_countBytes_15 ?_
    refine aw_aload0 X dX5_countBytes_16 ?_
    refine aw_get X fX5_20 dX5_countBytes_17 (h1) rfl ?_
    refine aw_iload2 X dX5_countBytes_20 ?_
    refine aw_callV X (c_ls_get h3 hlt (by omega)) kX5_71 (ci := 0) rfl (l1) dX5_countBytes_21 rfl rfl (by first | decide | exact Nat.le_of_ble_eq_true rfl) (by rw [hR]; exact ⟨by first | decide | exact Nat.le_of_ble_eq_true rfl | (dsimp only; omega), by first | decide | exact Nat.le_of_ble_eq_true rfl | (dsimp only; omega)⟩) (by rw [hR]; exact ⟨by first | decide | exact Nat.le_of_ble_eq_true rfl | (dsimp only; omega), by first | decide | exact Nat.le_of_ble_eq_true rfl | (dsimp only; omega)⟩) (fun v M1 hv => ?_)
    obtain ⟨rfl, rfl⟩ := hv
    refine aw_cast X cnX5_53 dX5_countBytes_24 (hc.at) ?_
    refine aw_get X fX5_52 dX5_countBytes_27 (hc.at) rfl ?_
    have q := ih (i + 1) (by omega) (by omega)
    refine aw_ifle X dX5_countBytes_30 (tgt := 50) (by decide) (fun c8 => ?_) (fun c8 => ?_)
    · have e9 : ¬ 0 < s.2.2.2.2 ((sMade s).getD i 0) := fun e => absurd c8 (nI_nle e (by omega))
      refine aw_iconst X dX5_countBytes_50 (v := nI 0) (by decide) ?_
      refine aw_iadd X dX5_countBytes_51 ?_
      first | with_reducible refine aw_int (nI_add _ _) ?_ | skip
      refine aw_istore1 X dX5_countBytes_52 (by rw [hn]; decide) rfl ?_
      refine aw_iinc2 X dX5_countBytes_53 (by rw [hn]; decide) (am_inc _ 1) rfl ?_
      refine aw_goto X dX5_countBytes_56 (tgt := 4) (by decide) ?_
      rw [sumI, liveG, if_neg e9] at q
      exact q
    · have e9 : 0 < s.2.2.2.2 ((sMade s).getD i 0) := Nat.pos_of_ne_zero (fun e => c8 (by rw [e]; decide))
      refine aw_aload0 X dX5_countBytes_33 ?_
      refine aw_get X fX5_20 dX5_countBytes_34 (h1) rfl ?_
      refine aw_iload2 X dX5_countBytes_37 ?_
      refine aw_callV X (c_ls_get h3 hlt (by omega)) kX5_71 (ci := 0) rfl (l1) dX5_countBytes_38 rfl rfl (by first | decide | exact Nat.le_of_ble_eq_true rfl) (by rw [hR]; exact ⟨by first | decide | exact Nat.le_of_ble_eq_true rfl | (dsimp only; omega), by first | decide | exact Nat.le_of_ble_eq_true rfl | (dsimp only; omega)⟩) (by rw [hR]; exact ⟨by first | decide | exact Nat.le_of_ble_eq_true rfl | (dsimp only; omega), by first | decide | exact Nat.le_of_ble_eq_true rfl | (dsimp only; omega)⟩) (fun v M1 hv => ?_)
      obtain ⟨rfl, rfl⟩ := hv
      refine aw_cast X cnX5_53 dX5_countBytes_41 (hc.at) ?_
      refine aw_get X fX5_86 dX5_countBytes_44 (hc.at) rfl ?_
      refine aw_goto X dX5_countBytes_47 (tgt := 51) (by decide) ?_
      refine aw_iadd X dX5_countBytes_51 ?_
      first | with_reducible refine aw_int (nI_add _ _) ?_ | skip
      refine aw_istore1 X dX5_countBytes_52 (by rw [hn]; decide) rfl ?_
      refine aw_iinc2 X dX5_countBytes_53 (by rw [hn]; decide) (am_inc _ 1) rfl ?_
      refine aw_goto X dX5_countBytes_56 (tgt := 4) (by decide) ?_
      rw [sumI, liveG, if_pos e9] at q
      exact q
def hI (bs : List Int32) (p : Nat) : Int32 := am_at bs (nI p) + nI 2 * am_at bs (nI p - nI 1) + nI 3 * am_at bs (nI p - nI 2) + nI 4 * am_at bs (nI p - nI 3)
abbrev endB (g : Nat × Nat × Nat) (bs : List Int32) (p m : Nat) : Prop := g.2.1 ≤ m ∨ p + 1 = bs.length ∨ (g.1 ≤ m ∧ hI bs p - hI bs p / nI g.2.2 * nI g.2.2 = nI (g.2.2 - 1))
theorem c_X5_endsBehind {l : Launch} {G : AG} {M : AM} {D h r p m : Nat} {s : SH} {bs : List Int32} (hs : isShM G M h s) (ha : shA D h s) (hr0 : isRow G M r bs) (hp : p < bs.length) (hm : m ≤ 200) : Cn l G yX5_endsBehind cX5_endsBehind 5 (some .boolean) rX5_endsBehind M [.ref h, .ref r, .int (nI p), .int (nI m)] (fun v M' => M' = M ∧ v = some (.int (am_b (endB s.1 bs p m)))) := by
  obtain ⟨h1, -⟩ := id hs
  obtain ⟨-, -, -, -, -, -, -, b1, b2, b3, b4, b5, b6⟩ := id ha
  obtain ⟨g, o1, -⟩ := id hr0
  have hbl := hr0.le
  refine Cn.of (by decide) [some (.ref h), some (.ref r), some (.int (nI p)), some (.int (nI m)), none] rfl (Nat.le_of_ble_eq_true rfl) ?_
  intro Z hZ
  obtain ⟨rfl, hn, rfl, hR, X, hr, hnm⟩ := hZ
  refine aw_iload3 X dX5_endsBehind_0 ?_
  refine aw_aload0 X dX5_endsBehind_1 ?_
  refine aw_get X fX5_28 dX5_endsBehind_2 (h1) rfl ?_
  refine aw_icmpge X dX5_endsBehind_5 (tgt := 18) (by decide) (fun c => ?_) (fun c => ?_)
  · have e1 : endB s.1 bs p m := Or.inl ((nI_leI (by omega) (by omega)).mp c)
    refine aw_iconst X dX5_endsBehind_18 (v := nI 1) (by decide) ?_
    refine aw_ireturn X (ty := .boolean) hr (by first | rfl | decide | assumption) dX5_endsBehind_19 (⟨rfl, by rw [am_b, if_pos e1]⟩)
  · have e1 : ¬ s.1.2.1 ≤ m := fun e => c (nI_le e (by omega))
    refine aw_iload2 X dX5_endsBehind_8 ?_
    refine aw_aload1 X dX5_endsBehind_9 ?_
    refine aw_get X fX5_39 dX5_endsBehind_10 (o1) rfl ?_
    refine aw_iconst X dX5_endsBehind_13 (v := nI 1) (by decide) ?_
    refine aw_isub X dX5_endsBehind_14 ?_
    first | with_reducible refine aw_int (pk_sub (by omega)) ?_ | skip
    refine aw_icmpne X dX5_endsBehind_15 (tgt := 20) (by decide) (fun c2 => ?_) (fun c2 => ?_)
    · have e2 : ¬ p + 1 = bs.length := fun e => c2 (by congr 1; omega)
      have hc : endB s.1 bs p m ↔ (s.1.1 ≤ m ∧ hI bs p - hI bs p / nI s.1.2.2 * nI s.1.2.2 = nI (s.1.2.2 - 1)) := ⟨fun h => by
        rcases h with h | h | h
        · exact absurd h e1
        · exact absurd h e2
        · exact h, fun h => Or.inr (Or.inr h)⟩
      refine aw_aload1 X dX5_endsBehind_20 ?_
      refine aw_iload2 X dX5_endsBehind_21 ?_
      refine aw_callV X (c_X4_at hr0) kX5_64 (ci := 5) rfl (o1) dX5_endsBehind_22 rfl rfl (by first | decide | exact Nat.le_of_ble_eq_true rfl) (by rw [hR]; exact ⟨by first | decide | exact Nat.le_of_ble_eq_true rfl | (dsimp only; omega), by first | decide | exact Nat.le_of_ble_eq_true rfl | (dsimp only; omega)⟩) (by rw [hR]; exact ⟨by first | decide | exact Nat.le_of_ble_eq_true rfl | (dsimp only; omega), by first | decide | exact Nat.le_of_ble_eq_true rfl | (dsimp only; omega)⟩) (fun v M2 hv => ?_)
      obtain ⟨rfl, rfl⟩ := hv
      refine aw_iconst X dX5_endsBehind_25 (v := nI 2) (by decide) ?_
      refine aw_aload1 X dX5_endsBehind_26 ?_
      refine aw_iload2 X dX5_endsBehind_27 ?_
      refine aw_iconst X dX5_endsBehind_28 (v := nI 1) (by decide) ?_
      refine aw_isub X dX5_endsBehind_29 ?_
      refine aw_callV X (c_X4_at hr0) kX5_64 (ci := 5) rfl (o1) dX5_endsBehind_30 rfl rfl (by first | decide | exact Nat.le_of_ble_eq_true rfl) (by rw [hR]; exact ⟨by first | decide | exact Nat.le_of_ble_eq_true rfl | (dsimp only; omega), by first | decide | exact Nat.le_of_ble_eq_true rfl | (dsimp only; omega)⟩) (by rw [hR]; exact ⟨by first | decide | exact Nat.le_of_ble_eq_true rfl | (dsimp only; omega), by first | decide | exact Nat.le_of_ble_eq_true rfl | (dsimp only; omega)⟩) (fun v M2 hv => ?_)
      obtain ⟨rfl, rfl⟩ := hv
      refine aw_imul X dX5_endsBehind_33 ?_
      refine aw_iadd X dX5_endsBehind_34 ?_
      refine aw_iconst X dX5_endsBehind_35 (v := nI 3) (by decide) ?_
      refine aw_aload1 X dX5_endsBehind_36 ?_
      refine aw_iload2 X dX5_endsBehind_37 ?_
      refine aw_iconst X dX5_endsBehind_38 (v := nI 2) (by decide) ?_
      refine aw_isub X dX5_endsBehind_39 ?_
      refine aw_callV X (c_X4_at hr0) kX5_64 (ci := 5) rfl (o1) dX5_endsBehind_40 rfl rfl (by first | decide | exact Nat.le_of_ble_eq_true rfl) (by rw [hR]; exact ⟨by first | decide | exact Nat.le_of_ble_eq_true rfl | (dsimp only; omega), by first | decide | exact Nat.le_of_ble_eq_true rfl | (dsimp only; omega)⟩) (by rw [hR]; exact ⟨by first | decide | exact Nat.le_of_ble_eq_true rfl | (dsimp only; omega), by first | decide | exact Nat.le_of_ble_eq_true rfl | (dsimp only; omega)⟩) (fun v M2 hv => ?_)
      obtain ⟨rfl, rfl⟩ := hv
      refine aw_imul X dX5_endsBehind_43 ?_
      refine aw_iadd X dX5_endsBehind_44 ?_
      refine aw_iconst X dX5_endsBehind_45 (v := nI 4) (by decide) ?_
      refine aw_aload1 X dX5_endsBehind_46 ?_
      refine aw_iload2 X dX5_endsBehind_47 ?_
      refine aw_iconst X dX5_endsBehind_48 (v := nI 3) (by decide) ?_
      refine aw_isub X dX5_endsBehind_49 ?_
      refine aw_callV X (c_X4_at hr0) kX5_64 (ci := 5) rfl (o1) dX5_endsBehind_50 rfl rfl (by first | decide | exact Nat.le_of_ble_eq_true rfl) (by rw [hR]; exact ⟨by first | decide | exact Nat.le_of_ble_eq_true rfl | (dsimp only; omega), by first | decide | exact Nat.le_of_ble_eq_true rfl | (dsimp only; omega)⟩) (by rw [hR]; exact ⟨by first | decide | exact Nat.le_of_ble_eq_true rfl | (dsimp only; omega), by first | decide | exact Nat.le_of_ble_eq_true rfl | (dsimp only; omega)⟩) (fun v M2 hv => ?_)
      obtain ⟨rfl, rfl⟩ := hv
      refine aw_imul X dX5_endsBehind_53 ?_
      refine aw_iadd X dX5_endsBehind_54 ?_
      refine aw_istore4 X dX5_endsBehind_55 (by rw [hn]; decide) rfl ?_
      refine aw_iload3 X dX5_endsBehind_57 ?_
      refine aw_aload0 X dX5_endsBehind_58 ?_
      refine aw_get X fX5_24 dX5_endsBehind_59 (h1) rfl ?_
      refine aw_icmplt X dX5_endsBehind_62 (tgt := 85) (by decide) (fun c3 => ?_) (fun c3 => ?_)
      · have e3 : ¬ s.1.1 ≤ m := fun e => absurd c3 (nI_nlt e (by omega))
        refine aw_iconst X dX5_endsBehind_85 (v := nI 0) (by decide) ?_
        refine aw_ireturn X (ty := .boolean) hr (by first | rfl | decide | assumption) dX5_endsBehind_86 (⟨rfl, by rw [am_b, if_neg (fun h => e3 (hc.mp h).1)]⟩)
      · have e3 : s.1.1 ≤ m := by
          rcases Nat.lt_or_ge m s.1.1 with q | q
          · exact absurd (nI_lt q (by omega)) c3
          · exact q
        refine aw_iload4 X dX5_endsBehind_65 ?_
        refine aw_aload0 X dX5_endsBehind_67 ?_
        refine aw_get X fX5_31 dX5_endsBehind_68 (h1) rfl ?_
        refine aw_irem X dX5_endsBehind_71 (nI_ne0 b5 (by omega)) ?_
        refine aw_aload0 X dX5_endsBehind_72 ?_
        refine aw_get X fX5_31 dX5_endsBehind_73 (h1) rfl ?_
        refine aw_iconst X dX5_endsBehind_76 (v := nI 1) (by decide) ?_
        refine aw_isub X dX5_endsBehind_77 ?_
        first | with_reducible refine aw_int (pk_sub (by omega)) ?_ | skip
        refine aw_icmpne X dX5_endsBehind_78 (tgt := 85) (by decide) (fun c4 => ?_) (fun c4 => ?_)
        · refine aw_iconst X dX5_endsBehind_85 (v := nI 0) (by decide) ?_
          refine aw_ireturn X (ty := .boolean) hr (by first | rfl | decide | assumption) dX5_endsBehind_86 (⟨rfl, by rw [am_b, if_neg (fun h => c4 (hc.mp h).2)]⟩)
        · refine aw_iconst X dX5_endsBehind_81 (v := nI 1) (by decide) ?_
          refine aw_goto X dX5_endsBehind_82 (tgt := 86) (by decide) ?_
          refine aw_ireturn X (ty := .boolean) hr (by first | rfl | decide | assumption) dX5_endsBehind_86 (⟨rfl, by rw [am_b, if_pos (hc.mpr ⟨e3, c4⟩)]⟩)
    · have e2 : p + 1 = bs.length := by
        have := (nI_eq (by omega) (by omega)).mp c2
        omega
      refine aw_iconst X dX5_endsBehind_18 (v := nI 1) (by decide) ?_
      refine aw_ireturn X (ty := .boolean) hr (by first | rfl | decide | assumption) dX5_endsBehind_19 (⟨rfl, by rw [am_b, if_pos (Or.inr (Or.inl e2))]⟩)
