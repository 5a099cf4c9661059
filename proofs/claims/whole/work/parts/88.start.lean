theorem nwX9 : ∀ j, j < 36 → defaultValue (tyX9 j) = vp_V [.int (nI 0), .null, .null, .null, .null, .null, .null, .null, .null, .null, .null, .null, .null, .null, .null, .null, .int (nI 0), .null, .null, .null, .null, .null, .int (nI 0), .int (nI 0), .int (nI 0), .null, .int (nI 0), .null, .int (nI 0), .int (nI 0), .int (nI 0), .null, .null, .null, .null, .int (nI 0)] j := fun j hj => by
  rcases j with _ | _ | _ | _ | _ | _ | _ | _ | _ | _ | _ | _ | _ | _ | _ | _ | _ | _ | _ | _ | _ | _ | _ | _ | _ | _ | _ | _ | _ | _ | _ | _ | _ | _ | _ | _ | j
  all_goals first | rfl | omega
/-- which call: forty of them, others are none -/
theorem up_mul {a c j k : Nat} (h : k ≤ a + c * j + c) : k ≤ a + c * (j + 1) := by
  rw [Nat.mul_succ]
  omega
theorem law_sw {Z : AZ} {Q : State → Prop} {M : AM} {k n b L x i t : Nat} {xs : Nat → Int32} {τ : TS} {u5 u6 u7 : Option Value} {S : Nat → Int64} (C : lwC Z b L xs) (hi : i + 4 < L) (hL : L < 2 ^ 31) (hk : k + 482 ≤ 601024) (hnn : n + 9712 ≤ 7293034) (hs : isRS (zG Z) M x (x + 299) τ) (hm : isMD (zG Z) M M (x + 271) τ t) (ho : M.1 (x + 298) = some (am_al (zG Z) 1 S)) (T : lwT Z Q k n b x i) (v : Int32) : AW Z Q M k n 39 [some (.ref b), some (.ref x), some (.ref (x + 271)), some (.ref (x + 298)), some (.int (nI i)), u5, u6, u7] [.int v] := by
  obtain ⟨X, hN, -, -, -, hfl, hn, hR⟩ := id C
  by_cases h : v.toInt < 0 ∨ 39 < v.toInt
  · exact aw_tabOut X dL_law_39 h (tgt := 2593) (by decide) (T M k n τ t u5 u6 u7 (by omega) (by omega) hs hm ⟨S, ho⟩)
  · have h1 : ¬ v.toInt < 0 := fun e => h (Or.inl e)
    have h2 : ¬ 39 < v.toInt := fun e => h (Or.inr e)
    have hv : ∃ m : Nat, m < 40 ∧ v.toInt = (m : Int) := ⟨v.toInt.toNat, by omega, by omega⟩
    obtain ⟨m, hm40, hv⟩ := hv
    rcases (by omega : m = 0 ∨ m = 1 ∨ m = 2 ∨ m = 3 ∨ m = 4 ∨ m = 5 ∨ m = 6 ∨ m = 7 ∨ m = 8 ∨ m = 9 ∨ m = 10 ∨ m = 11 ∨ m = 12 ∨ m = 13 ∨ m = 14 ∨ m = 15 ∨ m = 16 ∨ m = 17 ∨ m = 18 ∨ m = 19 ∨ m = 20 ∨ m = 21 ∨ m = 22 ∨ m = 23 ∨ m = 24 ∨ m = 25 ∨ m = 26 ∨ m = 27 ∨ m = 28 ∨ m = 29 ∨ m = 30 ∨ m = 31 ∨ m = 32 ∨ m = 33 ∨ m = 34 ∨ m = 35 ∨ m = 36 ∨ m = 37 ∨ m = 38 ∨ m = 39) with rfl | rfl | rfl | rfl | rfl | rfl | rfl | rfl | rfl | rfl | rfl | rfl | rfl | rfl | rfl | rfl | rfl | rfl | rfl | rfl | rfl | rfl | rfl | rfl | rfl | rfl | rfl | rfl | rfl | rfl | rfl | rfl | rfl | rfl | rfl | rfl | rfl | rfl | rfl | rfl
    · exact aw_tabIn X dL_law_39 h1 h2 (off := 173) (tgt := 212) (by rw [hv]; rfl) (by decide) (lc_file C hi hL hk hnn hs hm ho T)
    · exact aw_tabIn X dL_law_39 h1 h2 (off := 217) (tgt := 256) (by rw [hv]; rfl) (by decide) (lc_add C hi hL hk hnn hs hm ho T)
    · exact aw_tabIn X dL_law_39 h1 h2 (off := 309) (tgt := 348) (by rw [hv]; rfl) (by decide) (lc_insert C hi hL hk hnn hs hm ho T)
    · exact aw_tabIn X dL_law_39 h1 h2 (off := 389) (tgt := 428) (by rw [hv]; rfl) (by decide) (lc_remove C hi hL hk hnn hs hm ho T)
    · exact aw_tabIn X dL_law_39 h1 h2 (off := 469) (tgt := 508) (by rw [hv]; rfl) (by decide) (lc_copy C hi hL hk hnn hs hm ho T)
    · exact aw_tabIn X dL_law_39 h1 h2 (off := 517) (tgt := 556) (by rw [hv]; rfl) (by decide) (lc_length C hi hL hk hnn hs hm ho T)
    · exact aw_tabIn X dL_law_39 h1 h2 (off := 573) (tgt := 612) (by rw [hv]; rfl) (by decide) (lc_byteAt C hi hL hk hnn hs hm ho T)
    · exact aw_tabIn X dL_law_39 h1 h2 (off := 641) (tgt := 680) (by rw [hv]; rfl) (by decide) (lc_same C hi hL hk hnn hs hm ho T)
    · exact aw_tabIn X dL_law_39 h1 h2 (off := 716) (tgt := 755) (by rw [hv]; rfl) (by decide) (lc_sign C hi hL hk hnn hs hm ho T)
    · exact aw_tabIn X dL_law_39 h1 h2 (off := 808) (tgt := 847) (by rw [hv]; rfl) (by decide) (lc_blocks C hi hL hk hnn hs hm ho T)
    · exact aw_tabIn X dL_law_39 h1 h2 (off := 864) (tgt := 903) (by rw [hv]; rfl) (by decide) (lc_weak C hi hL hk hnn hs hm ho T)
    · exact aw_tabIn X dL_law_39 h1 h2 (off := 932) (tgt := 971) (by rw [hv]; rfl) (by decide) (lc_strong C hi hL hk hnn hs hm ho T)
    · exact aw_tabIn X dL_law_39 h1 h2 (off := 999) (tgt := 1038) (by rw [hv]; rfl) (by decide) (lc_compare C hi hL hk hnn hs hm ho T)
    · exact aw_tabIn X dL_law_39 h1 h2 (off := 1079) (tgt := 1118) (by rw [hv]; rfl) (by decide) (lc_instructions C hi hL hk hnn hs hm ho T)
    · exact aw_tabIn X dL_law_39 h1 h2 (off := 1135) (tgt := 1174) (by rw [hv]; rfl) (by decide) (lc_isCopy C hi hL hk hnn hs hm ho T)
    · exact aw_tabIn X dL_law_39 h1 h2 (off := 1210) (tgt := 1249) (by rw [hv]; rfl) (by decide) (lc_startOf C hi hL hk hnn hs hm ho T)
    · exact aw_tabIn X dL_law_39 h1 h2 (off := 1278) (tgt := 1317) (by rw [hv]; rfl) (by decide) (lc_bytesOf C hi hL hk hnn hs hm ho T)
    · exact aw_tabIn X dL_law_39 h1 h2 (off := 1346) (tgt := 1385) (by rw [hv]; rfl) (by decide) (lc_cost C hi hL hk hnn hs hm ho T)
    · exact aw_tabIn X dL_law_39 h1 h2 (off := 1402) (tgt := 1441) (by rw [hv]; rfl) (by decide) (lc_alarms C hi hL hk hnn hs hm ho T)
    · exact aw_tabIn X dL_law_39 h1 h2 (off := 1458) (tgt := 1497) (by rw [hv]; rfl) (by decide) (lc_apply C hi hL hk hnn hs hm ho T)
    · exact aw_tabIn X dL_law_39 h1 h2 (off := 1538) (tgt := 1577) (by rw [hv]; rfl) (by decide) (lc_keep C hi hL hk hnn hs hm ho T)
    · exact aw_tabIn X dL_law_39 h1 h2 (off := 1594) (tgt := 1633) (by rw [hv]; rfl) (by decide) (lc_keepDelta C hi hL hk hnn hs hm ho T)
    · exact aw_tabIn X dL_law_39 h1 h2 (off := 1674) (tgt := 1713) (by rw [hv]; rfl) (by decide) (lc_lose C hi hL hk hnn hs hm ho T)
    · exact aw_tabIn X dL_law_39 h1 h2 (off := 1730) (tgt := 1769) (by rw [hv]; rfl) (by decide) (lc_replace C hi hL hk hnn hs hm ho T)
    · exact aw_tabIn X dL_law_39 h1 h2 (off := 1778) (tgt := 1817) (by rw [hv]; rfl) (by decide) (lc_rebuild C hi hL hk hnn hs hm ho T)
    · exact aw_tabIn X dL_law_39 h1 h2 (off := 1846) (tgt := 1885) (by rw [hv]; rfl) (by decide) (lc_versions C hi hL hk hnn hs hm ho T)
    · exact aw_tabIn X dL_law_39 h1 h2 (off := 1859) (tgt := 1898) (by rw [hv]; rfl) (by decide) (lc_brokenAt C hi hL hk hnn hs hm ho T)
    · exact aw_tabIn X dL_law_39 h1 h2 (off := 1915) (tgt := 1954) (by rw [hv]; rfl) (by decide) (lc_brokenAfter C hi hL hk hnn hs hm ho T)
    · exact aw_tabIn X dL_law_39 h1 h2 (off := 1971) (tgt := 2010) (by rw [hv]; rfl) (by decide) (lc_reason C hi hL hk hnn hs hm ho T)
    · exact aw_tabIn X dL_law_39 h1 h2 (off := 2027) (tgt := 2066) (by rw [hv]; rfl) (by decide) (lc_heldBy C hi hL hk hnn hs hm ho T)
    · exact aw_tabIn X dL_law_39 h1 h2 (off := 2083) (tgt := 2122) (by rw [hv]; rfl) (by decide) (lc_cuts C hi hL hk hnn hs hm ho T)
    · exact aw_tabIn X dL_law_39 h1 h2 (off := 2143) (tgt := 2182) (by rw [hv]; rfl) (by decide) (lc_store C hi hL hk hnn hs hm ho T)
    · exact aw_tabIn X dL_law_39 h1 h2 (off := 2199) (tgt := 2238) (by rw [hv]; rfl) (by decide) (lc_release C hi hL hk hnn hs hm ho T)
    · exact aw_tabIn X dL_law_39 h1 h2 (off := 2255) (tgt := 2294) (by rw [hv]; rfl) (by decide) (lc_fetch C hi hL hk hnn hs hm ho T)
    · exact aw_tabIn X dL_law_39 h1 h2 (off := 2323) (tgt := 2362) (by rw [hv]; rfl) (by decide) (lc_papers C hi hL hk hnn hs hm ho T)
    · exact aw_tabIn X dL_law_39 h1 h2 (off := 2336) (tgt := 2375) (by rw [hv]; rfl) (by decide) (lc_chunks C hi hL hk hnn hs hm ho T)
    · exact aw_tabIn X dL_law_39 h1 h2 (off := 2349) (tgt := 2388) (by rw [hv]; rfl) (by decide) (lc_heldBytes C hi hL hk hnn hs hm ho T)
    · exact aw_tabIn X dL_law_39 h1 h2 (off := 2362) (tgt := 2401) (by rw [hv]; rfl) (by decide) (lc_parts C hi hL hk hnn hs hm ho T)
    · exact aw_tabIn X dL_law_39 h1 h2 (off := 2418) (tgt := 2457) (by rw [hv]; rfl) (by decide) (lc_partLength C hi hL hk hnn hs hm ho T)
    · exact aw_tabIn X dL_law_39 h1 h2 (off := 2486) (tgt := 2525) (by rw [hv]; rfl) (by decide) (lc_shared C hi hL hk hnn hs hm ho T)
theorem whole_start {p : Program} {e : Env} {s : State} {m : MethodId} {below : List Frame} {meth : Method} {c : Code} (l : Launch) (hflags : l.flags = flags0) {b L : Nat} {xs : Nat → Int32} (hL : L ≤ 2560) (C0 : lw_At p s m meth c b L xs) : W p l e room_1 s m #[Value.ref b] below meth c s.heap [] 0 0 (lw_Z below #[Value.ref b] s) (entryFrame m ([Value.ref b] : List Value).toArray 8) := by
  obtain ⟨hx, hb, hr, hml, hown, hts, hX, hbl, hlocks, hgv⟩ := id C0
  obtain ⟨G, hG, hE⟩ := law_E hts hgv
  have hN := law_ncs hgv
  have hfl : l.stackTraces = false := by unfold Launch.stackTraces; rw [hflags]; decide +kernel
  obtain ⟨Z, hZ⟩ : ∃ Z : AZ, Z = (G, 8, p, l, e, room_1, s, m, #[Value.ref b], below, meth, c) := ⟨_, rfl⟩
  have X : am_X RL cL_law Z := by
    rw [hZ]
    exact ⟨hx, hb, hml, hown, hlocks, fun w hw _ => hts w hw, hE⟩
  have C : lwC Z b L xs := ⟨X, by rw [hZ]; exact hN, by rw [hZ]; exact hX, by rw [hZ]; exact hbl, by rw [hZ]; show ¬ G.2.2.1 ≤ b; omega, by rw [hZ]; exact hfl, by rw [hZ], by rw [hZ]⟩
  have hn : zn Z = 8 := by rw [hZ]
  have hR : zR Z = room_1 := by rw [hZ]
  have hflz : (zl Z).stackTraces = false := C.2.2.2.2.2.1
  have hL31 : L < 2 ^ 31 := by omega
  rw [lg_entry_eq]
  suffices main : AW Z (lw_Z below #[Value.ref b] s) (fun _ => none, some s.heap.size) 0 0 0 [some (.ref b), none, none, none, none, none, none, none] [] by
    rw [hZ] at main
    exact main s.heap [] _ ⟨fun q e h => (by cases h), fun z h => (by cases h; rfl)⟩ va_S.rf (am_args_has (av := [.ref b]) (nL := 8) (Nat.le_of_ble_eq_true rfl))
  generalize s.heap.size = x
  refine aw_new X cl_9 tyX8 tyX8_ok nwX8 cnL_8 inX8 iiX8 dL_law_0 (by rw [hR]; exact Nat.le_of_ble_eq_true rfl) (by rw [hR]; exact Nat.le_of_ble_eq_true rfl) (fun q heA hlt he => ?_)
  cases he x rfl
  refine aw_dup X dL_law_3 rfl ?_
  refine aw_callI X (c_X8_init am_ns rfl) kL_132 dL_law_4 rfl rfl (by first | decide | exact Nat.le_of_ble_eq_true rfl) (by rw [hR]; exact ⟨by first | decide | exact Nat.le_of_ble_eq_true rfl | (dsimp only; omega), by first | decide | exact Nat.le_of_ble_eq_true rfl | (dsimp only; omega)⟩) (by rw [hR]; exact ⟨by first | decide | exact Nat.le_of_ble_eq_true rfl | (dsimp only; omega), by first | decide | exact Nat.le_of_ble_eq_true rfl | (dsimp only; omega)⟩) (fun v M1 hv => ?_)
  obtain ⟨rfl, hrs, h2, hk1⟩ := hv
  refine aw_astore1 X dL_law_7 (by rw [hn]; decide) rfl ?_
  refine aw_new X cl_10 tyX9 tyX9_ok nwX9 cnL_133 inX9 iiX9 dL_law_8 (by rw [hR]; exact Nat.le_of_ble_eq_true rfl) (by rw [hR]; exact Nat.le_of_ble_eq_true rfl) (fun q2 heA2 hlt2 he2 => ?_)
  cases he2 (x + 271) h2
  refine aw_dup X dL_law_11 rfl ?_
  refine aw_callI X (c_X9_init am_ns rfl) kL_135 dL_law_12 rfl rfl (by first | decide | exact Nat.le_of_ble_eq_true rfl) (by rw [hR]; exact ⟨by first | decide | exact Nat.le_of_ble_eq_true rfl | (dsimp only; omega), by first | decide | exact Nat.le_of_ble_eq_true rfl | (dsimp only; omega)⟩) (by rw [hR]; exact ⟨by first | decide | exact Nat.le_of_ble_eq_true rfl | (dsimp only; omega), by first | decide | exact Nat.le_of_ble_eq_true rfl | (dsimp only; omega)⟩) (fun v M2 hv => ?_)
  obtain ⟨rfl, hmd, h3⟩ := hv
  refine aw_astore2 X dL_law_15 (by rw [hn]; decide) rfl ?_
  refine aw_iconst X dL_law_16 (v := nI 1) (by decide) ?_
  refine aw_newL X 1 dL_law_17 rfl (by decide) (by rw [hR]; exact Nat.le_of_ble_eq_true rfl) (by rw [hR]; exact Nat.le_of_ble_eq_true rfl) ac_long (fun q3 heA3 hlt3 he3 => ?_)
  cases he3 (x + 298) h3
  refine aw_astore3 X dL_law_19 (by rw [hn]; decide) rfl ?_
  refine aw_iconst X dL_law_20 (v := nI 0) (by decide) ?_
  refine aw_istore4 X dL_law_21 (by rw [hn]; decide) rfl ?_
  have hrs1 := hrs (x + 299) (by omega)
  have hrs2 : isRS (zG Z) (am_nw M2 (x + 298) (am_al (zG Z) 1 (fun _ => 0))) x (x + 299) ts0 := ((hrs1.kr KE.nw (fun q e => by omega)).kr hmd.ke (fun q e => by omega)).kr KE.nw (fun q e => by omega)
  have hmd2 : isMD (zG Z) (am_nw M2 (x + 298) (am_al (zG Z) 1 (fun _ => 0))) (am_nw M2 (x + 298) (am_al (zG Z) 1 (fun _ => 0))) (x + 271) ts0 0 := hmd.kr KE.nw (fun q e => by omega)
  refine aw_widen (k' := 299 + 482 * 0) (n' := 35962 + 9712 * 0) (Nat.le_of_ble_eq_true rfl) (Nat.le_of_ble_eq_true rfl) ?_
  refine aw_loopK (σ := Nat × TS × Nat × AM) (fun i => 5 * i.1 ≤ L ∧ isRS (zG Z) i.2.2.2 x (x + 299) i.2.1 ∧ isMD (zG Z) i.2.2.2 i.2.2.2 (x + 271) i.2.1 i.2.2.1 ∧ ∃ S, i.2.2.2.1 (x + 298) = some (am_al (zG Z) 1 S)) (fun i => L - 5 * i.1) (fun i => i.2.2.2) (fun i => 299 + 482 * i.1) (fun i => 35962 + 9712 * i.1) (fun i => [some (.ref b), some (.ref x), some (.ref (x + 271)), some (.ref (x + 298)), some (.int (nI (5 * i.1))), none, none, none]) ?_ (0, ts0, 0, am_nw M2 (x + 298) (am_al (zG Z) 1 (fun _ => 0))) ⟨Nat.zero_le _, hrs2, hmd2, _, am_ns⟩
  clear hrs hrs1 hrs2 hmd hmd2 hk1
  rintro ⟨j, τ, t, M⟩ ⟨hj, hs, hm, S, ho⟩ ih
  try dsimp only at hj hs hm ho ih ⊢
  refine aw_iload4 X dL_law_23 ?_
  refine aw_aload0 X dL_law_25 ?_
  refine aw_slen C dL_law_26 ?_
  refine aw_iconst X dL_law_27 (v := nI 5) (by decide) ?_
  refine aw_isub X dL_law_28 ?_
  refine aw_icmpgt X dL_law_29 (tgt := 2599) (by decide) (fun c1 => ?_) (fun c1 => ?_)
  · refine aw_iconst X dL_law_2599 (v := nI 1) (by decide) ?_
    intro H locs ls hH hS hl
    rw [hZ] at hS ⊢
    exact va_forget (fun q hq => by have h9 : G.2.2.1 ≤ q.base := hS.2.2 q hq; rw [hG] at h9; exact h9) (W.widen (show 299 + 482 * j ≤ 601024 by omega) (show 35962 + 9712 * j ≤ 7293034 by omega) (lw_ret hx hb hr hlocks dL_law_2600))
  · have h5 : 5 * j + 5 ≤ L := by
      rcases Nat.lt_or_ge L 5 with q | q
      · refine absurd ?_ c1
        rw [show j = 0 by omega]
        rcases (by omega : L = 0 ∨ L = 1 ∨ L = 2 ∨ L = 3 ∨ L = 4) with rfl | rfl | rfl | rfl | rfl <;> decide
      · rw [pk_sub q] at c1
        rcases Nat.lt_or_ge (L - 5) (5 * j) with w | w
        · exact absurd (nI_lt w (by omega)) c1
        · omega
    refine aw_aload0 X dL_law_32 ?_
    refine aw_iload4 X dL_law_33 ?_
    refine aw_sld C dL_law_35 rfl (by omega) hL31 ?_
    refine aw_bipush X dL_law_36 (v := nI 63) (by decide) ?_
    refine aw_iand X dL_law_38 ?_
    refine law_sw C (by omega) hL31 (by omega) (by omega) hs hm ho ?_ _
    intro M' k' n' τ' t' u5 u6 u7 hk' hn' hs' hm' ho'
    refine aw_iinc4 X dL_law_2593 (by rw [hn]; decide) (am_inc _ 5) rfl ?_
    refine aw_goto X dL_law_2596 (tgt := 23) (by decide) ?_
    refine aw_drop5 (aw_drop6 (aw_drop7 ?_))
    refine aw_widen (k' := 299 + 482 * (j + 1)) (n' := 35962 + 9712 * (j + 1)) (up_mul hk') (up_mul hn') ?_
    exact ih (j + 1, τ', t', M') ⟨by dsimp only; omega, hs', hm', ho'⟩ (by dsimp only; omega)
