theorem c_X9_heldOf {l : Launch} {G : AG} {M0 M : AM} {y v : Nat} {A : MA} {S : Nat → Int64} {c : Nat → Int32} {V : VK} (h : md G M0 M y A S c) (hv : v < 20) (hV : vRel A v V) : Cn l G yX9_heldOf cX9_heldOf 2 (some .int) rX9_heldOf M [.ref y, .int (nI v)] (fun o M' => M' = M ∧ o = some (.int (nI (held V)))) := by
  refine Cn.of (by decide) [some (.ref y), some (.int (nI v))] rfl (Nat.le_of_ble_eq_true rfl) ?_
  intro Z hZ
  obtain ⟨rfl, hn, rfl, hR, X, hr, hnm⟩ := hZ
  refine aw_aload0 X dX9_heldOf_0 ?_
  refine aw_get X fX9_57 dX9_heldOf_1 (h.at) rfl ?_
  refine aw_iload1 X dX9_heldOf_4 ?_
  refine aw_iald X dX9_heldOf_5 (h.ai 16 rfl) rfl (by omega) (by decide) ?_
  cases V with
  | none =>
    refine aw_int (y := nI 0) hV ?_
    refine aw_ifne X dX9_heldOf_6 (tgt := 13) (by decide) (fun c9 => by first | exact absurd ((rfl : nI 0 = 0)) c9 | exact absurd c9 ((rfl : nI 0 = 0))) (fun _ => ?_)
    refine aw_iconst X dX9_heldOf_9 (v := nI 0) (by decide) ?_
    refine aw_goto X dX9_heldOf_10 (tgt := 39) (by decide) ?_
    refine aw_ireturn X (ty := .int) hr (by first | rfl | decide | assumption) dX9_heldOf_39 (⟨rfl, rfl⟩)
  | some w =>
    cases w with
    | inl bs =>
      obtain ⟨v1, v2, v3, v4⟩ := hV
      refine aw_int v1 ?_
      refine aw_ifne X dX9_heldOf_6 (tgt := 13) (by decide) (fun _ => ?_) (fun c9 => by first | exact absurd ((by decide : ¬ nI 1 = 0)) c9 | exact absurd c9 ((by decide : ¬ nI 1 = 0)))
      refine aw_aload0 X dX9_heldOf_13 ?_
      refine aw_get X fX9_57 dX9_heldOf_14 (h.at) rfl ?_
      refine aw_iload1 X dX9_heldOf_17 ?_
      refine aw_iald X dX9_heldOf_18 (h.ai 16 rfl) rfl (by omega) (by decide) ?_
      refine aw_int v1 ?_
      refine aw_iconst X dX9_heldOf_19 (v := nI 1) (by decide) ?_
      refine aw_icmpne X dX9_heldOf_20 (tgt := 32) (by decide) (fun c9 => by first | exact absurd ((rfl : nI 1 = nI 1)) c9 | exact absurd c9 ((rfl : nI 1 = nI 1))) (fun _ => ?_)
      refine aw_aload0 X dX9_heldOf_23 ?_
      refine aw_get X fX9_63 dX9_heldOf_24 (h.at) rfl ?_
      refine aw_iload1 X dX9_heldOf_27 ?_
      refine aw_iald X dX9_heldOf_28 (h.ai 18 rfl) rfl (by omega) (by decide) ?_
      refine aw_int v3 ?_
      refine aw_goto X dX9_heldOf_29 (tgt := 39) (by decide) ?_
      refine aw_ireturn X (ty := .int) hr (by first | rfl | decide | assumption) dX9_heldOf_39 (⟨rfl, rfl⟩)
    | inr q =>
      obtain ⟨b, D⟩ := q
      obtain ⟨v1, v2, v3, v4⟩ := hV
      refine aw_int v1 ?_
      refine aw_ifne X dX9_heldOf_6 (tgt := 13) (by decide) (fun _ => ?_) (fun c9 => by first | exact absurd ((by decide : ¬ nI 2 = 0)) c9 | exact absurd c9 ((by decide : ¬ nI 2 = 0)))
      refine aw_aload0 X dX9_heldOf_13 ?_
      refine aw_get X fX9_57 dX9_heldOf_14 (h.at) rfl ?_
      refine aw_iload1 X dX9_heldOf_17 ?_
      refine aw_iald X dX9_heldOf_18 (h.ai 16 rfl) rfl (by omega) (by decide) ?_
      refine aw_int v1 ?_
      refine aw_iconst X dX9_heldOf_19 (v := nI 1) (by decide) ?_
      refine aw_icmpne X dX9_heldOf_20 (tgt := 32) (by decide) (fun _ => ?_) (fun c9 => by first | exact absurd ((by decide : ¬ nI 2 = nI 1)) c9 | exact absurd c9 ((by decide : ¬ nI 2 = nI 1)))
      refine aw_aload0 X dX9_heldOf_32 ?_
      refine aw_iconst X dX9_heldOf_33 (v := nI 4) (by decide) ?_
      refine aw_iload1 X dX9_heldOf_34 ?_
      refine aw_iadd X dX9_heldOf_35 ?_
      first | with_reducible refine aw_int (nI_add _ _) ?_ | skip
      refine aw_callV X (c_X9_costOf h (by omega) v4) kX9_167 (ci := 10) rfl (h.at) dX9_heldOf_36 rfl rfl (by first | decide | exact Nat.le_of_ble_eq_true rfl) (by rw [hR]; exact ⟨by first | decide | exact Nat.le_of_ble_eq_true rfl | (dsimp only; omega), by first | decide | exact Nat.le_of_ble_eq_true rfl | (dsimp only; omega)⟩) (by rw [hR]; exact ⟨by first | decide | exact Nat.le_of_ble_eq_true rfl | (dsimp only; omega), by first | decide | exact Nat.le_of_ble_eq_true rfl | (dsimp only; omega)⟩) (fun o M1 hv1 => ?_)
      obtain ⟨rfl, rfl⟩ := hv1
      refine aw_ireturn X (ty := .int) hr (by first | rfl | decide | assumption) dX9_heldOf_39 (⟨rfl, rfl⟩)
