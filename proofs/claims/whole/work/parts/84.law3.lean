theorem lc_keep {Z : AZ} {Q : State → Prop} {M : AM} {k n b L x i t : Nat} {xs : Nat → Int32} {τ : TS} {u5 u6 u7 : Option Value} {S : Nat → Int64} (C : lwC Z b L xs) (hi : i + 4 < L) (hL : L < 2 ^ 31) (hk : k + 482 ≤ 601024) (hnn : n + 9712 ≤ 7293034) (hs : isRS (zG Z) M x (x + 299) τ) (hm : isMD (zG Z) M M (x + 271) τ t) (ho : M.1 (x + 298) = some (am_al (zG Z) 1 S)) (T : lwT Z Q k n b x i) : AW Z Q M k n 1577 [some (.ref b), some (.ref x), some (.ref (x + 271)), some (.ref (x + 298)), some (.int (nI i)), u5, u6, u7] [] := by
  obtain ⟨X, hN, -, -, -, hfl, hn, hR⟩ := id C
  refine aw_aload1 X dL_law_1577 ?_
  refine aw_aload0 X dL_law_1578 ?_
  refine aw_iload4 X dL_law_1579 ?_
  refine aw_iconst X dL_law_1581 (v := nI 1) (by decide) ?_
  refine aw_iadd X dL_law_1582 ?_
  first | with_reducible refine aw_int (nI_add _ _) ?_ | skip
  refine aw_sld C dL_law_1583 rfl (by omega) (by omega) ?_
  refine aw_aload3 X dL_law_1584 ?_
  refine aw_callSH X hN (c_L_keep hfl hs ho ⟨by omega, by omega⟩) kL_207 dL_law_1585 rfl rfl (by first | decide | exact Nat.le_of_ble_eq_true rfl) (by rw [hR]; exact ⟨Nat.le_of_ble_eq_true rfl, Nat.le_of_ble_eq_true rfl⟩) (by rw [hR]; exact ⟨by show k + 2 ≤ 601024; omega, by show n + 12 ≤ 7293034; omega⟩) (fun v M1 hv => ?_)
  obtain ⟨rfl, hs1, hk1, S1, ho1, hv1⟩ := hv
  have hm1 := hm.kr hk1 (fun q e => by omega)
  obtain ⟨c1, hat1⟩ := hm1.at
  refine aw_istore5 X dL_law_1588 (by rw [hn]; decide) rfl ?_
  refine aw_aload2 X dL_law_1590 ?_
  refine aw_aload0 X dL_law_1591 ?_
  refine aw_iload4 X dL_law_1592 ?_
  refine aw_iconst X dL_law_1594 (v := nI 1) (by decide) ?_
  refine aw_iadd X dL_law_1595 ?_
  first | with_reducible refine aw_int (nI_add _ _) ?_ | skip
  refine aw_sld C dL_law_1596 rfl (by omega) (by omega) ?_
  refine aw_callV X (c_X9_keep hm1) kL_209 (ci := 10) rfl hat1 dL_law_1597 rfl rfl (by first | decide | exact Nat.le_of_ble_eq_true rfl) (by rw [hR]; exact ⟨Nat.le_of_ble_eq_true rfl, Nat.le_of_ble_eq_true rfl⟩) (by rw [hR]; exact ⟨by show k + 2 + 0 ≤ 601024; omega, by show n + 12 + 0 ≤ 7293034; omega⟩) (fun v M2 hv => ?_)
  obtain ⟨rfl, hm2⟩ := hv
  have hk2 := hm2.ke
  have hs2 := hs1.kr hk2 (fun q e => by omega)
  have ho2 := hk2 _ _ ho1 (by omega)
  obtain ⟨c2, hat2⟩ := hm2.at
  refine aw_istore6 X dL_law_1600 (by rw [hn]; decide) rfl ?_
  refine aw_aload2 X dL_law_1602 ?_
  refine aw_callV X (c_X9_thrown hm2) kL_142 (ci := 10) rfl hat2 dL_law_1603 rfl rfl (by first | decide | exact Nat.le_of_ble_eq_true rfl) (by rw [hR]; exact ⟨Nat.le_of_ble_eq_true rfl, Nat.le_of_ble_eq_true rfl⟩) (by rw [hR]; exact ⟨by show k + 2 + 0 + 0 ≤ 601024; omega, by show n + 12 + 0 + 0 ≤ 7293034; omega⟩) (fun v M3 hv => ?_)
  obtain ⟨rfl, rfl⟩ := hv
  refine aw_iload5 X dL_law_1606 ?_
  refine aw_icmpeq X dL_law_1608 (tgt := 1613) (by decide) (fun _ => ?_) (fun c9 => by first | exact absurd (rfl) c9 | exact absurd c9 (rfl))
  refine aw_iload5 X dL_law_1613 ?_
  by_cases e0 : (spKeep τ (xs (i + 1))).1 = 0
  · refine aw_ifne X dL_law_1615 (tgt := 1630) (by decide) (fun c9 => by first | exact absurd ((show nI (spKeep τ (xs (i + 1))).1 = 0 from by rw [e0]; rfl)) c9 | exact absurd c9 ((show nI (spKeep τ (xs (i + 1))).1 = 0 from by rw [e0]; rfl))) (fun _ => ?_)
    refine aw_aload3 X dL_law_1618 ?_
    refine aw_iconst X dL_law_1619 (v := nI 0) (by decide) ?_
    refine aw_lald X dL_law_1620 ho2 rfl (by omega) (by decide) ?_
    refine aw_long (y := cvI (spKeep τ (xs (i + 1))).2.1) (hv1 e0) ?_
    refine aw_iload6 X dL_law_1621 ?_
    refine aw_i2l X dL_law_1623 ?_
    refine aw_lcmp X dL_law_1624 ?_
    refine aw_ifeq X dL_law_1625 (tgt := 1630) (by decide) (fun _ => ?_) (fun c9 => by first | exact absurd (((lg_cmp_eq _ _).mpr rfl)) c9 | exact absurd c9 (((lg_cmp_eq _ _).mpr rfl)))
    refine aw_goto X dL_law_1630 (tgt := 2593) (by decide) ?_
    exact T M3 _ _ _ _ _ _ _ (by show k + 2 + 0 + 0 ≤ k + 482; omega) (by show n + 12 + 0 + 0 ≤ n + 9712; omega) hs2 hm2.base ⟨_, ho2⟩
  · refine aw_ifne X dL_law_1615 (tgt := 1630) (by decide) (fun _ => ?_) (fun c9 => by first | exact absurd ((show ¬ nI (spKeep τ (xs (i + 1))).1 = 0 from nI_ne0 (by omega) (by have := le_spKeep (τ := τ) (f := (xs (i + 1))); omega))) c9 | exact absurd c9 ((show ¬ nI (spKeep τ (xs (i + 1))).1 = 0 from nI_ne0 (by omega) (by have := le_spKeep (τ := τ) (f := (xs (i + 1))); omega))))
    refine aw_goto X dL_law_1630 (tgt := 2593) (by decide) ?_
    exact T M3 _ _ _ _ _ _ _ (by show k + 2 + 0 + 0 ≤ k + 482; omega) (by show n + 12 + 0 + 0 ≤ n + 9712; omega) hs2 hm2.base ⟨_, ho2⟩
theorem lc_keepDelta {Z : AZ} {Q : State → Prop} {M : AM} {k n b L x i t : Nat} {xs : Nat → Int32} {τ : TS} {u5 u6 u7 : Option Value} {S : Nat → Int64} (C : lwC Z b L xs) (hi : i + 4 < L) (hL : L < 2 ^ 31) (hk : k + 482 ≤ 601024) (hnn : n + 9712 ≤ 7293034) (hs : isRS (zG Z) M x (x + 299) τ) (hm : isMD (zG Z) M M (x + 271) τ t) (ho : M.1 (x + 298) = some (am_al (zG Z) 1 S)) (T : lwT Z Q k n b x i) : AW Z Q M k n 1633 [some (.ref b), some (.ref x), some (.ref (x + 271)), some (.ref (x + 298)), some (.int (nI i)), u5, u6, u7] [] := by
  obtain ⟨X, hN, -, -, -, hfl, hn, hR⟩ := id C
  refine aw_aload1 X dL_law_1633 ?_
  refine aw_aload0 X dL_law_1634 ?_
  refine aw_iload4 X dL_law_1635 ?_
  refine aw_iconst X dL_law_1637 (v := nI 1) (by decide) ?_
  refine aw_iadd X dL_law_1638 ?_
  first | with_reducible refine aw_int (nI_add _ _) ?_ | skip
  refine aw_sld C dL_law_1639 rfl (by omega) (by omega) ?_
  refine aw_aload0 X dL_law_1640 ?_
  refine aw_iload4 X dL_law_1641 ?_
  refine aw_iconst X dL_law_1643 (v := nI 2) (by decide) ?_
  refine aw_iadd X dL_law_1644 ?_
  first | with_reducible refine aw_int (nI_add _ _) ?_ | skip
  refine aw_sld C dL_law_1645 rfl (by omega) (by omega) ?_
  refine aw_aload0 X dL_law_1646 ?_
  refine aw_iload4 X dL_law_1647 ?_
  refine aw_iconst X dL_law_1649 (v := nI 3) (by decide) ?_
  refine aw_iadd X dL_law_1650 ?_
  first | with_reducible refine aw_int (nI_add _ _) ?_ | skip
  refine aw_sld C dL_law_1651 rfl (by omega) (by omega) ?_
  refine aw_aload3 X dL_law_1652 ?_
  refine aw_callSH X hN (c_L_keepDelta hfl hs ho ⟨by omega, by omega⟩) kL_210 dL_law_1653 rfl rfl (by first | decide | exact Nat.le_of_ble_eq_true rfl) (by rw [hR]; exact ⟨Nat.le_of_ble_eq_true rfl, Nat.le_of_ble_eq_true rfl⟩) (by rw [hR]; exact ⟨by show k + 5 ≤ 601024; omega, by show n + 30 ≤ 7293034; omega⟩) (fun v M1 hv => ?_)
  obtain ⟨rfl, hs1, hk1, S1, ho1, hv1⟩ := hv
  have hm1 := hm.kr hk1 (fun q e => by omega)
  obtain ⟨c1, hat1⟩ := hm1.at
  refine aw_istore5 X dL_law_1656 (by rw [hn]; decide) rfl ?_
  refine aw_aload2 X dL_law_1658 ?_
  refine aw_aload0 X dL_law_1659 ?_
  refine aw_iload4 X dL_law_1660 ?_
  refine aw_iconst X dL_law_1662 (v := nI 1) (by decide) ?_
  refine aw_iadd X dL_law_1663 ?_
  first | with_reducible refine aw_int (nI_add _ _) ?_ | skip
  refine aw_sld C dL_law_1664 rfl (by omega) (by omega) ?_
  refine aw_aload0 X dL_law_1665 ?_
  refine aw_iload4 X dL_law_1666 ?_
  refine aw_iconst X dL_law_1668 (v := nI 2) (by decide) ?_
  refine aw_iadd X dL_law_1669 ?_
  first | with_reducible refine aw_int (nI_add _ _) ?_ | skip
  refine aw_sld C dL_law_1670 rfl (by omega) (by omega) ?_
  refine aw_aload0 X dL_law_1671 ?_
  refine aw_iload4 X dL_law_1672 ?_
  refine aw_iconst X dL_law_1674 (v := nI 3) (by decide) ?_
  refine aw_iadd X dL_law_1675 ?_
  first | with_reducible refine aw_int (nI_add _ _) ?_ | skip
  refine aw_sld C dL_law_1676 rfl (by omega) (by omega) ?_
  refine aw_callV X (c_X9_keepDelta hm1) kL_212 (ci := 10) rfl hat1 dL_law_1677 rfl rfl (by first | decide | exact Nat.le_of_ble_eq_true rfl) (by rw [hR]; exact ⟨Nat.le_of_ble_eq_true rfl, Nat.le_of_ble_eq_true rfl⟩) (by rw [hR]; exact ⟨by show k + 5 + 0 ≤ 601024; omega, by show n + 30 + 0 ≤ 7293034; omega⟩) (fun v M2 hv => ?_)
  obtain ⟨rfl, hm2⟩ := hv
  have hk2 := hm2.ke
  have hs2 := hs1.kr hk2 (fun q e => by omega)
  have ho2 := hk2 _ _ ho1 (by omega)
  obtain ⟨c2, hat2⟩ := hm2.at
  refine aw_istore6 X dL_law_1680 (by rw [hn]; decide) rfl ?_
  refine aw_aload2 X dL_law_1682 ?_
  refine aw_callV X (c_X9_thrown hm2) kL_142 (ci := 10) rfl hat2 dL_law_1683 rfl rfl (by first | decide | exact Nat.le_of_ble_eq_true rfl) (by rw [hR]; exact ⟨Nat.le_of_ble_eq_true rfl, Nat.le_of_ble_eq_true rfl⟩) (by rw [hR]; exact ⟨by show k + 5 + 0 + 0 ≤ 601024; omega, by show n + 30 + 0 + 0 ≤ 7293034; omega⟩) (fun v M3 hv => ?_)
  obtain ⟨rfl, rfl⟩ := hv
  refine aw_iload5 X dL_law_1686 ?_
  refine aw_icmpeq X dL_law_1688 (tgt := 1693) (by decide) (fun _ => ?_) (fun c9 => by first | exact absurd (rfl) c9 | exact absurd c9 (rfl))
  refine aw_iload5 X dL_law_1693 ?_
  by_cases e0 : (spKeepDelta τ (xs (i + 1)) (xs (i + 2)) (xs (i + 3))).1 = 0
  · refine aw_ifne X dL_law_1695 (tgt := 1710) (by decide) (fun c9 => by first | exact absurd ((show nI (spKeepDelta τ (xs (i + 1)) (xs (i + 2)) (xs (i + 3))).1 = 0 from by rw [e0]; rfl)) c9 | exact absurd c9 ((show nI (spKeepDelta τ (xs (i + 1)) (xs (i + 2)) (xs (i + 3))).1 = 0 from by rw [e0]; rfl))) (fun _ => ?_)
    refine aw_aload3 X dL_law_1698 ?_
    refine aw_iconst X dL_law_1699 (v := nI 0) (by decide) ?_
    refine aw_lald X dL_law_1700 ho2 rfl (by omega) (by decide) ?_
    refine aw_long (y := cvI (spKeepDelta τ (xs (i + 1)) (xs (i + 2)) (xs (i + 3))).2.1) (hv1 e0) ?_
    refine aw_iload6 X dL_law_1701 ?_
    refine aw_i2l X dL_law_1703 ?_
    refine aw_lcmp X dL_law_1704 ?_
    refine aw_ifeq X dL_law_1705 (tgt := 1710) (by decide) (fun _ => ?_) (fun c9 => by first | exact absurd (((lg_cmp_eq _ _).mpr rfl)) c9 | exact absurd c9 (((lg_cmp_eq _ _).mpr rfl)))
    refine aw_goto X dL_law_1710 (tgt := 2593) (by decide) ?_
    exact T M3 _ _ _ _ _ _ _ (by show k + 5 + 0 + 0 ≤ k + 482; omega) (by show n + 30 + 0 + 0 ≤ n + 9712; omega) hs2 hm2.base ⟨_, ho2⟩
  · refine aw_ifne X dL_law_1695 (tgt := 1710) (by decide) (fun _ => ?_) (fun c9 => by first | exact absurd ((show ¬ nI (spKeepDelta τ (xs (i + 1)) (xs (i + 2)) (xs (i + 3))).1 = 0 from nI_ne0 (by omega) (by have := le_spKeepDelta (τ := τ) (f := (xs (i + 1))) (v := (xs (i + 2))) (b := (xs (i + 3))); omega))) c9 | exact absurd c9 ((show ¬ nI (spKeepDelta τ (xs (i + 1)) (xs (i + 2)) (xs (i + 3))).1 = 0 from nI_ne0 (by omega) (by have := le_spKeepDelta (τ := τ) (f := (xs (i + 1))) (v := (xs (i + 2))) (b := (xs (i + 3))); omega))))
    refine aw_goto X dL_law_1710 (tgt := 2593) (by decide) ?_
    exact T M3 _ _ _ _ _ _ _ (by show k + 5 + 0 + 0 ≤ k + 482; omega) (by show n + 30 + 0 + 0 ≤ n + 9712; omega) hs2 hm2.base ⟨_, ho2⟩
theorem lc_lose {Z : AZ} {Q : State → Prop} {M : AM} {k n b L x i t : Nat} {xs : Nat → Int32} {τ : TS} {u5 u6 u7 : Option Value} {S : Nat → Int64} (C : lwC Z b L xs) (hi : i + 4 < L) (hL : L < 2 ^ 31) (hk : k + 482 ≤ 601024) (hnn : n + 9712 ≤ 7293034) (hs : isRS (zG Z) M x (x + 299) τ) (hm : isMD (zG Z) M M (x + 271) τ t) (ho : M.1 (x + 298) = some (am_al (zG Z) 1 S)) (T : lwT Z Q k n b x i) : AW Z Q M k n 1713 [some (.ref b), some (.ref x), some (.ref (x + 271)), some (.ref (x + 298)), some (.int (nI i)), u5, u6, u7] [] := by
  obtain ⟨X, hN, -, -, -, hfl, hn, hR⟩ := id C
  refine aw_aload1 X dL_law_1713 ?_
  refine aw_aload0 X dL_law_1714 ?_
  refine aw_iload4 X dL_law_1715 ?_
  refine aw_iconst X dL_law_1717 (v := nI 1) (by decide) ?_
  refine aw_iadd X dL_law_1718 ?_
  first | with_reducible refine aw_int (nI_add _ _) ?_ | skip
  refine aw_sld C dL_law_1719 rfl (by omega) (by omega) ?_
  refine aw_aload3 X dL_law_1720 ?_
  refine aw_callSH X hN (c_L_lose hfl hs ho ⟨by omega, by omega⟩) kL_213 dL_law_1721 rfl rfl (by first | decide | exact Nat.le_of_ble_eq_true rfl) (by rw [hR]; exact ⟨Nat.le_of_ble_eq_true rfl, Nat.le_of_ble_eq_true rfl⟩) (by rw [hR]; exact ⟨by show k + 1 ≤ 601024; omega, by show n + 6 ≤ 7293034; omega⟩) (fun v M1 hv => ?_)
  obtain ⟨rfl, hs1, hk1, S1, ho1, hv1⟩ := hv
  have hm1 := hm.kr hk1 (fun q e => by omega)
  obtain ⟨c1, hat1⟩ := hm1.at
  refine aw_istore5 X dL_law_1724 (by rw [hn]; decide) rfl ?_
  refine aw_aload2 X dL_law_1726 ?_
  refine aw_aload0 X dL_law_1727 ?_
  refine aw_iload4 X dL_law_1728 ?_
  refine aw_iconst X dL_law_1730 (v := nI 1) (by decide) ?_
  refine aw_iadd X dL_law_1731 ?_
  first | with_reducible refine aw_int (nI_add _ _) ?_ | skip
  refine aw_sld C dL_law_1732 rfl (by omega) (by omega) ?_
  refine aw_callV X (c_X9_lose hm1) kL_215 (ci := 10) rfl hat1 dL_law_1733 rfl rfl (by first | decide | exact Nat.le_of_ble_eq_true rfl) (by rw [hR]; exact ⟨Nat.le_of_ble_eq_true rfl, Nat.le_of_ble_eq_true rfl⟩) (by rw [hR]; exact ⟨by show k + 1 + 0 ≤ 601024; omega, by show n + 6 + 0 ≤ 7293034; omega⟩) (fun v M2 hv => ?_)
  obtain ⟨rfl, hm2⟩ := hv
  have hk2 := hm2.ke
  have hs2 := hs1.kr hk2 (fun q e => by omega)
  have ho2 := hk2 _ _ ho1 (by omega)
  obtain ⟨c2, hat2⟩ := hm2.at
  refine aw_istore6 X dL_law_1736 (by rw [hn]; decide) rfl ?_
  refine aw_aload2 X dL_law_1738 ?_
  refine aw_callV X (c_X9_thrown hm2) kL_142 (ci := 10) rfl hat2 dL_law_1739 rfl rfl (by first | decide | exact Nat.le_of_ble_eq_true rfl) (by rw [hR]; exact ⟨Nat.le_of_ble_eq_true rfl, Nat.le_of_ble_eq_true rfl⟩) (by rw [hR]; exact ⟨by show k + 1 + 0 + 0 ≤ 601024; omega, by show n + 6 + 0 + 0 ≤ 7293034; omega⟩) (fun v M3 hv => ?_)
  obtain ⟨rfl, rfl⟩ := hv
  refine aw_iload5 X dL_law_1742 ?_
  refine aw_icmpeq X dL_law_1744 (tgt := 1749) (by decide) (fun _ => ?_) (fun c9 => by first | exact absurd (rfl) c9 | exact absurd c9 (rfl))
  refine aw_iload5 X dL_law_1749 ?_
  by_cases e0 : (spLose τ (xs (i + 1))).1 = 0
  · refine aw_ifne X dL_law_1751 (tgt := 1766) (by decide) (fun c9 => by first | exact absurd ((show nI (spLose τ (xs (i + 1))).1 = 0 from by rw [e0]; rfl)) c9 | exact absurd c9 ((show nI (spLose τ (xs (i + 1))).1 = 0 from by rw [e0]; rfl))) (fun _ => ?_)
    refine aw_aload3 X dL_law_1754 ?_
    refine aw_iconst X dL_law_1755 (v := nI 0) (by decide) ?_
    refine aw_lald X dL_law_1756 ho2 rfl (by omega) (by decide) ?_
    refine aw_long (y := cvI (spLose τ (xs (i + 1))).2.1) (hv1 e0) ?_
    refine aw_iload6 X dL_law_1757 ?_
    refine aw_i2l X dL_law_1759 ?_
    refine aw_lcmp X dL_law_1760 ?_
    refine aw_ifeq X dL_law_1761 (tgt := 1766) (by decide) (fun _ => ?_) (fun c9 => by first | exact absurd (((lg_cmp_eq _ _).mpr rfl)) c9 | exact absurd c9 (((lg_cmp_eq _ _).mpr rfl)))
    refine aw_goto X dL_law_1766 (tgt := 2593) (by decide) ?_
    exact T M3 _ _ _ _ _ _ _ (by show k + 1 + 0 + 0 ≤ k + 482; omega) (by show n + 6 + 0 + 0 ≤ n + 9712; omega) hs2 hm2.base ⟨_, ho2⟩
  · refine aw_ifne X dL_law_1751 (tgt := 1766) (by decide) (fun _ => ?_) (fun c9 => by first | exact absurd ((show ¬ nI (spLose τ (xs (i + 1))).1 = 0 from nI_ne0 (by omega) (by have := le_spLose (τ := τ) (v := (xs (i + 1))); omega))) c9 | exact absurd c9 ((show ¬ nI (spLose τ (xs (i + 1))).1 = 0 from nI_ne0 (by omega) (by have := le_spLose (τ := τ) (v := (xs (i + 1))); omega))))
    refine aw_goto X dL_law_1766 (tgt := 2593) (by decide) ?_
    exact T M3 _ _ _ _ _ _ _ (by show k + 1 + 0 + 0 ≤ k + 482; omega) (by show n + 6 + 0 + 0 ≤ n + 9712; omega) hs2 hm2.base ⟨_, ho2⟩
theorem lc_replace {Z : AZ} {Q : State → Prop} {M : AM} {k n b L x i t : Nat} {xs : Nat → Int32} {τ : TS} {u5 u6 u7 : Option Value} {S : Nat → Int64} (C : lwC Z b L xs) (hi : i + 4 < L) (hL : L < 2 ^ 31) (hk : k + 482 ≤ 601024) (hnn : n + 9712 ≤ 7293034) (hs : isRS (zG Z) M x (x + 299) τ) (hm : isMD (zG Z) M M (x + 271) τ t) (ho : M.1 (x + 298) = some (am_al (zG Z) 1 S)) (T : lwT Z Q k n b x i) : AW Z Q M k n 1769 [some (.ref b), some (.ref x), some (.ref (x + 271)), some (.ref (x + 298)), some (.int (nI i)), u5, u6, u7] [] := by
  obtain ⟨X, hN, -, -, -, hfl, hn, hR⟩ := id C
  refine aw_aload1 X dL_law_1769 ?_
  refine aw_aload0 X dL_law_1770 ?_
  refine aw_iload4 X dL_law_1771 ?_
  refine aw_iconst X dL_law_1773 (v := nI 1) (by decide) ?_
  refine aw_iadd X dL_law_1774 ?_
  first | with_reducible refine aw_int (nI_add _ _) ?_ | skip
  refine aw_sld C dL_law_1775 rfl (by omega) (by omega) ?_
  refine aw_aload0 X dL_law_1776 ?_
  refine aw_iload4 X dL_law_1777 ?_
  refine aw_iconst X dL_law_1779 (v := nI 2) (by decide) ?_
  refine aw_iadd X dL_law_1780 ?_
  first | with_reducible refine aw_int (nI_add _ _) ?_ | skip
  refine aw_sld C dL_law_1781 rfl (by omega) (by omega) ?_
  refine aw_callSH X hN (c_L_replace hfl hs) kL_216 dL_law_1782 rfl rfl (by first | decide | exact Nat.le_of_ble_eq_true rfl) (by rw [hR]; exact ⟨Nat.le_of_ble_eq_true rfl, Nat.le_of_ble_eq_true rfl⟩) (by rw [hR]; exact ⟨by show k + 2 ≤ 601024; omega, by show n + 12 ≤ 7293034; omega⟩) (fun v M1 hv => ?_)
  obtain ⟨rfl, hs1, hk1⟩ := hv
  have ho1 := hk1 _ _ ho (by omega)
  have hm1 := hm.kr hk1 (fun q e => by omega)
  obtain ⟨c1, hat1⟩ := hm1.at
  refine aw_istore5 X dL_law_1785 (by rw [hn]; decide) rfl ?_
  refine aw_aload2 X dL_law_1787 ?_
  refine aw_aload0 X dL_law_1788 ?_
  refine aw_iload4 X dL_law_1789 ?_
  refine aw_iconst X dL_law_1791 (v := nI 1) (by decide) ?_
  refine aw_iadd X dL_law_1792 ?_
  first | with_reducible refine aw_int (nI_add _ _) ?_ | skip
  refine aw_sld C dL_law_1793 rfl (by omega) (by omega) ?_
  refine aw_aload0 X dL_law_1794 ?_
  refine aw_iload4 X dL_law_1795 ?_
  refine aw_iconst X dL_law_1797 (v := nI 2) (by decide) ?_
  refine aw_iadd X dL_law_1798 ?_
  first | with_reducible refine aw_int (nI_add _ _) ?_ | skip
  refine aw_sld C dL_law_1799 rfl (by omega) (by omega) ?_
  refine aw_callV X (c_X9_replace hm1) kL_218 (ci := 10) rfl hat1 dL_law_1800 rfl rfl (by first | decide | exact Nat.le_of_ble_eq_true rfl) (by rw [hR]; exact ⟨Nat.le_of_ble_eq_true rfl, Nat.le_of_ble_eq_true rfl⟩) (by rw [hR]; exact ⟨by show k + 2 + 0 ≤ 601024; omega, by show n + 12 + 0 ≤ 7293034; omega⟩) (fun v M2 hv => ?_)
  obtain ⟨rfl, hm2⟩ := hv
  have hk2 := hm2.ke
  have hs2 := hs1.kr hk2 (fun q e => by omega)
  have ho2 := hk2 _ _ ho1 (by omega)
  obtain ⟨c2, hat2⟩ := hm2.at
  refine aw_aload2 X dL_law_1803 ?_
  refine aw_callV X (c_X9_thrown hm2) kL_142 (ci := 10) rfl hat2 dL_law_1804 rfl rfl (by first | decide | exact Nat.le_of_ble_eq_true rfl) (by rw [hR]; exact ⟨Nat.le_of_ble_eq_true rfl, Nat.le_of_ble_eq_true rfl⟩) (by rw [hR]; exact ⟨by show k + 2 + 0 + 0 ≤ 601024; omega, by show n + 12 + 0 + 0 ≤ 7293034; omega⟩) (fun v M3 hv => ?_)
  obtain ⟨rfl, rfl⟩ := hv
  refine aw_iload5 X dL_law_1807 ?_
  refine aw_icmpeq X dL_law_1809 (tgt := 1814) (by decide) (fun _ => ?_) (fun c9 => by first | exact absurd (rfl) c9 | exact absurd c9 (rfl))
  refine aw_goto X dL_law_1814 (tgt := 2593) (by decide) ?_
  exact T M3 _ _ _ _ _ _ _ (by show k + 2 + 0 + 0 ≤ k + 482; omega) (by show n + 12 + 0 + 0 ≤ n + 9712; omega) hs2 hm2.base ⟨_, ho2⟩
theorem lc_rebuild {Z : AZ} {Q : State → Prop} {M : AM} {k n b L x i t : Nat} {xs : Nat → Int32} {τ : TS} {u5 u6 u7 : Option Value} {S : Nat → Int64} (C : lwC Z b L xs) (hi : i + 4 < L) (hL : L < 2 ^ 31) (hk : k + 482 ≤ 601024) (hnn : n + 9712 ≤ 7293034) (hs : isRS (zG Z) M x (x + 299) τ) (hm : isMD (zG Z) M M (x + 271) τ t) (ho : M.1 (x + 298) = some (am_al (zG Z) 1 S)) (T : lwT Z Q k n b x i) : AW Z Q M k n 1817 [some (.ref b), some (.ref x), some (.ref (x + 271)), some (.ref (x + 298)), some (.int (nI i)), u5, u6, u7] [] := by
  obtain ⟨X, hN, -, -, -, hfl, hn, hR⟩ := id C
  refine aw_aload1 X dL_law_1817 ?_
  refine aw_aload0 X dL_law_1818 ?_
  refine aw_iload4 X dL_law_1819 ?_
  refine aw_iconst X dL_law_1821 (v := nI 1) (by decide) ?_
  refine aw_iadd X dL_law_1822 ?_
  first | with_reducible refine aw_int (nI_add _ _) ?_ | skip
  refine aw_sld C dL_law_1823 rfl (by omega) (by omega) ?_
  refine aw_aload0 X dL_law_1824 ?_
  refine aw_iload4 X dL_law_1825 ?_
  refine aw_iconst X dL_law_1827 (v := nI 2) (by decide) ?_
  refine aw_iadd X dL_law_1828 ?_
  first | with_reducible refine aw_int (nI_add _ _) ?_ | skip
  refine aw_sld C dL_law_1829 rfl (by omega) (by omega) ?_
  refine aw_aload3 X dL_law_1830 ?_
  refine aw_callSH X hN (c_L_rebuild hfl hs ho ⟨by omega, by omega⟩) kL_219 dL_law_1831 rfl rfl (by first | decide | exact Nat.le_of_ble_eq_true rfl) (by rw [hR]; exact ⟨Nat.le_of_ble_eq_true rfl, Nat.le_of_ble_eq_true rfl⟩) (by rw [hR]; exact ⟨by show k + 3 ≤ 601024; omega, by show n + 18 ≤ 7293034; omega⟩) (fun v M1 hv => ?_)
  obtain ⟨rfl, hs1, hk1, S1, ho1, hv1⟩ := hv
  have hm1 := hm.kr hk1 (fun q e => by omega)
  obtain ⟨c1, hat1⟩ := hm1.at
  refine aw_istore5 X dL_law_1834 (by rw [hn]; decide) rfl ?_
  refine aw_aload2 X dL_law_1836 ?_
  refine aw_aload0 X dL_law_1837 ?_
  refine aw_iload4 X dL_law_1838 ?_
  refine aw_iconst X dL_law_1840 (v := nI 1) (by decide) ?_
  refine aw_iadd X dL_law_1841 ?_
  first | with_reducible refine aw_int (nI_add _ _) ?_ | skip
  refine aw_sld C dL_law_1842 rfl (by omega) (by omega) ?_
  refine aw_aload0 X dL_law_1843 ?_
  refine aw_iload4 X dL_law_1844 ?_
  refine aw_iconst X dL_law_1846 (v := nI 2) (by decide) ?_
  refine aw_iadd X dL_law_1847 ?_
  first | with_reducible refine aw_int (nI_add _ _) ?_ | skip
  refine aw_sld C dL_law_1848 rfl (by omega) (by omega) ?_
  refine aw_callV X (c_X9_rebuild hm1) kL_221 (ci := 10) rfl hat1 dL_law_1849 rfl rfl (by first | decide | exact Nat.le_of_ble_eq_true rfl) (by rw [hR]; exact ⟨Nat.le_of_ble_eq_true rfl, Nat.le_of_ble_eq_true rfl⟩) (by rw [hR]; exact ⟨by show k + 3 + 0 ≤ 601024; omega, by show n + 18 + 0 ≤ 7293034; omega⟩) (fun v M2 hv => ?_)
  obtain ⟨rfl, hm2⟩ := hv
  have hk2 := hm2.ke
  have hs2 := hs1.kr hk2 (fun q e => by omega)
  have ho2 := hk2 _ _ ho1 (by omega)
  obtain ⟨c2, hat2⟩ := hm2.at
  refine aw_istore6 X dL_law_1852 (by rw [hn]; decide) rfl ?_
  refine aw_aload2 X dL_law_1854 ?_
  refine aw_callV X (c_X9_thrown hm2) kL_142 (ci := 10) rfl hat2 dL_law_1855 rfl rfl (by first | decide | exact Nat.le_of_ble_eq_true rfl) (by rw [hR]; exact ⟨Nat.le_of_ble_eq_true rfl, Nat.le_of_ble_eq_true rfl⟩) (by rw [hR]; exact ⟨by show k + 3 + 0 + 0 ≤ 601024; omega, by show n + 18 + 0 + 0 ≤ 7293034; omega⟩) (fun v M3 hv => ?_)
  obtain ⟨rfl, rfl⟩ := hv
  refine aw_iload5 X dL_law_1858 ?_
  refine aw_icmpeq X dL_law_1860 (tgt := 1865) (by decide) (fun _ => ?_) (fun c9 => by first | exact absurd (rfl) c9 | exact absurd c9 (rfl))
  refine aw_iload5 X dL_law_1865 ?_
  by_cases e0 : (spRebuild τ (xs (i + 1)) (xs (i + 2))).1 = 0
  · refine aw_ifne X dL_law_1867 (tgt := 1882) (by decide) (fun c9 => by first | exact absurd ((show nI (spRebuild τ (xs (i + 1)) (xs (i + 2))).1 = 0 from by rw [e0]; rfl)) c9 | exact absurd c9 ((show nI (spRebuild τ (xs (i + 1)) (xs (i + 2))).1 = 0 from by rw [e0]; rfl))) (fun _ => ?_)
    refine aw_aload3 X dL_law_1870 ?_
    refine aw_iconst X dL_law_1871 (v := nI 0) (by decide) ?_
    refine aw_lald X dL_law_1872 ho2 rfl (by omega) (by decide) ?_
    refine aw_long (y := cvI (spRebuild τ (xs (i + 1)) (xs (i + 2))).2.1) (hv1 e0) ?_
    refine aw_iload6 X dL_law_1873 ?_
    refine aw_i2l X dL_law_1875 ?_
    refine aw_lcmp X dL_law_1876 ?_
    refine aw_ifeq X dL_law_1877 (tgt := 1882) (by decide) (fun _ => ?_) (fun c9 => by first | exact absurd (((lg_cmp_eq _ _).mpr rfl)) c9 | exact absurd c9 (((lg_cmp_eq _ _).mpr rfl)))
    refine aw_goto X dL_law_1882 (tgt := 2593) (by decide) ?_
    exact T M3 _ _ _ _ _ _ _ (by show k + 3 + 0 + 0 ≤ k + 482; omega) (by show n + 18 + 0 + 0 ≤ n + 9712; omega) hs2 hm2.base ⟨_, ho2⟩
  · refine aw_ifne X dL_law_1867 (tgt := 1882) (by decide) (fun _ => ?_) (fun c9 => by first | exact absurd ((show ¬ nI (spRebuild τ (xs (i + 1)) (xs (i + 2))).1 = 0 from nI_ne0 (by omega) (by have := le_spRebuild (τ := τ) (v := (xs (i + 1))) (f := (xs (i + 2))); omega))) c9 | exact absurd c9 ((show ¬ nI (spRebuild τ (xs (i + 1)) (xs (i + 2))).1 = 0 from nI_ne0 (by omega) (by have := le_spRebuild (τ := τ) (v := (xs (i + 1))) (f := (xs (i + 2))); omega))))
    refine aw_goto X dL_law_1882 (tgt := 2593) (by decide) ?_
    exact T M3 _ _ _ _ _ _ _ (by show k + 3 + 0 + 0 ≤ k + 482; omega) (by show n + 18 + 0 + 0 ≤ n + 9712; omega) hs2 hm2.base ⟨_, ho2⟩
theorem lc_versions {Z : AZ} {Q : State → Prop} {M : AM} {k n b L x i t : Nat} {xs : Nat → Int32} {τ : TS} {u5 u6 u7 : Option Value} {S : Nat → Int64} (C : lwC Z b L xs) (hi : i + 4 < L) (hL : L < 2 ^ 31) (hk : k + 482 ≤ 601024) (hnn : n + 9712 ≤ 7293034) (hs : isRS (zG Z) M x (x + 299) τ) (hm : isMD (zG Z) M M (x + 271) τ t) (ho : M.1 (x + 298) = some (am_al (zG Z) 1 S)) (T : lwT Z Q k n b x i) : AW Z Q M k n 1885 [some (.ref b), some (.ref x), some (.ref (x + 271)), some (.ref (x + 298)), some (.int (nI i)), u5, u6, u7] [] := by
  obtain ⟨X, hN, -, -, -, hfl, hn, hR⟩ := id C
  refine aw_aload1 X dL_law_1885 ?_
  refine aw_callV X (c_X8_versions hs) kL_222 (ci := 9) rfl (hs.2.2.1) dL_law_1886 rfl rfl (by first | decide | exact Nat.le_of_ble_eq_true rfl) (by rw [hR]; exact ⟨Nat.le_of_ble_eq_true rfl, Nat.le_of_ble_eq_true rfl⟩) (by rw [hR]; exact ⟨by show k + 0 ≤ 601024; omega, by show n + 0 ≤ 7293034; omega⟩) (fun v M1 hv => ?_)
  obtain ⟨e0, rfl, hs1, hk1⟩ := hv
  have hm1 := hm.kr hk1 (fun q e => by omega)
  obtain ⟨c1, hat1⟩ := hm1.at
  have ho1 := hk1 _ _ ho (by omega)
  refine aw_aload2 X dL_law_1889 ?_
  refine aw_callV X (c_X9_versions hm1) kL_225 (ci := 10) rfl hat1 dL_law_1890 rfl rfl (by first | decide | exact Nat.le_of_ble_eq_true rfl) (by rw [hR]; exact ⟨Nat.le_of_ble_eq_true rfl, Nat.le_of_ble_eq_true rfl⟩) (by rw [hR]; exact ⟨by show k + 0 + 0 ≤ 601024; omega, by show n + 0 + 0 ≤ 7293034; omega⟩) (fun v M2 hv => ?_)
  obtain ⟨rfl, hm2⟩ := hv
  have hk2 := hm2.ke
  refine aw_icmpeq X dL_law_1893 (tgt := 2593) (by decide) (fun _ => ?_) (fun c9 => by first | exact absurd (rfl) c9 | exact absurd c9 (rfl))
  exact T M2 _ _ _ _ _ _ _ (by show k + 0 + 0 ≤ k + 482; omega) (by show n + 0 + 0 ≤ n + 9712; omega) (hs1.kr hk2 (fun q e => by omega)) hm2.base ⟨_, hk2 _ _ ho1 (by omega)⟩
theorem lc_brokenAt {Z : AZ} {Q : State → Prop} {M : AM} {k n b L x i t : Nat} {xs : Nat → Int32} {τ : TS} {u5 u6 u7 : Option Value} {S : Nat → Int64} (C : lwC Z b L xs) (hi : i + 4 < L) (hL : L < 2 ^ 31) (hk : k + 482 ≤ 601024) (hnn : n + 9712 ≤ 7293034) (hs : isRS (zG Z) M x (x + 299) τ) (hm : isMD (zG Z) M M (x + 271) τ t) (ho : M.1 (x + 298) = some (am_al (zG Z) 1 S)) (T : lwT Z Q k n b x i) : AW Z Q M k n 1898 [some (.ref b), some (.ref x), some (.ref (x + 271)), some (.ref (x + 298)), some (.int (nI i)), u5, u6, u7] [] := by
  obtain ⟨X, hN, -, -, -, hfl, hn, hR⟩ := id C
  refine aw_aload1 X dL_law_1898 ?_
  refine aw_aload0 X dL_law_1899 ?_
  refine aw_iload4 X dL_law_1900 ?_
  refine aw_iconst X dL_law_1902 (v := nI 1) (by decide) ?_
  refine aw_iadd X dL_law_1903 ?_
  first | with_reducible refine aw_int (nI_add _ _) ?_ | skip
  refine aw_sld C dL_law_1904 rfl (by omega) (by omega) ?_
  refine aw_aload3 X dL_law_1905 ?_
  refine aw_callSH X hN (c_L_brokenAt hfl hs ho ⟨by omega, by omega⟩) kL_226 dL_law_1906 rfl rfl (by first | decide | exact Nat.le_of_ble_eq_true rfl) (by rw [hR]; exact ⟨Nat.le_of_ble_eq_true rfl, Nat.le_of_ble_eq_true rfl⟩) (by rw [hR]; exact ⟨by show k + 1 ≤ 601024; omega, by show n + 6 ≤ 7293034; omega⟩) (fun v M1 hv => ?_)
  obtain ⟨rfl, hs1, hk1, S1, ho1, hv1⟩ := hv
  have hm1 := hm.kr hk1 (fun q e => by omega)
  obtain ⟨c1, hat1⟩ := hm1.at
  refine aw_istore5 X dL_law_1909 (by rw [hn]; decide) rfl ?_
  refine aw_aload2 X dL_law_1911 ?_
  refine aw_aload0 X dL_law_1912 ?_
  refine aw_iload4 X dL_law_1913 ?_
  refine aw_iconst X dL_law_1915 (v := nI 1) (by decide) ?_
  refine aw_iadd X dL_law_1916 ?_
  first | with_reducible refine aw_int (nI_add _ _) ?_ | skip
  refine aw_sld C dL_law_1917 rfl (by omega) (by omega) ?_
  refine aw_callV X (c_X9_brokenAt hm1) kL_228 (ci := 10) rfl hat1 dL_law_1918 rfl rfl (by first | decide | exact Nat.le_of_ble_eq_true rfl) (by rw [hR]; exact ⟨Nat.le_of_ble_eq_true rfl, Nat.le_of_ble_eq_true rfl⟩) (by rw [hR]; exact ⟨by show k + 1 + 0 ≤ 601024; omega, by show n + 6 + 0 ≤ 7293034; omega⟩) (fun v M2 hv => ?_)
  obtain ⟨rfl, hm2⟩ := hv
  have hk2 := hm2.ke
  have hs2 := hs1.kr hk2 (fun q e => by omega)
  have ho2 := hk2 _ _ ho1 (by omega)
  obtain ⟨c2, hat2⟩ := hm2.at
  refine aw_istore6 X dL_law_1921 (by rw [hn]; decide) rfl ?_
  refine aw_aload2 X dL_law_1923 ?_
  refine aw_callV X (c_X9_thrown hm2) kL_142 (ci := 10) rfl hat2 dL_law_1924 rfl rfl (by first | decide | exact Nat.le_of_ble_eq_true rfl) (by rw [hR]; exact ⟨Nat.le_of_ble_eq_true rfl, Nat.le_of_ble_eq_true rfl⟩) (by rw [hR]; exact ⟨by show k + 1 + 0 + 0 ≤ 601024; omega, by show n + 6 + 0 + 0 ≤ 7293034; omega⟩) (fun v M3 hv => ?_)
  obtain ⟨rfl, rfl⟩ := hv
  refine aw_iload5 X dL_law_1927 ?_
  refine aw_icmpeq X dL_law_1929 (tgt := 1934) (by decide) (fun _ => ?_) (fun c9 => by first | exact absurd (rfl) c9 | exact absurd c9 (rfl))
  refine aw_iload5 X dL_law_1934 ?_
  by_cases e0 : (spBrAt τ (xs (i + 1))).1 = 0
  · refine aw_ifne X dL_law_1936 (tgt := 1951) (by decide) (fun c9 => by first | exact absurd ((show nI (spBrAt τ (xs (i + 1))).1 = 0 from by rw [e0]; rfl)) c9 | exact absurd c9 ((show nI (spBrAt τ (xs (i + 1))).1 = 0 from by rw [e0]; rfl))) (fun _ => ?_)
    refine aw_aload3 X dL_law_1939 ?_
    refine aw_iconst X dL_law_1940 (v := nI 0) (by decide) ?_
    refine aw_lald X dL_law_1941 ho2 rfl (by omega) (by decide) ?_
    refine aw_long (y := cvI (spBrAt τ (xs (i + 1))).2.1) (hv1 e0) ?_
    refine aw_iload6 X dL_law_1942 ?_
    refine aw_i2l X dL_law_1944 ?_
    refine aw_lcmp X dL_law_1945 ?_
    refine aw_ifeq X dL_law_1946 (tgt := 1951) (by decide) (fun _ => ?_) (fun c9 => by first | exact absurd (((lg_cmp_eq _ _).mpr rfl)) c9 | exact absurd c9 (((lg_cmp_eq _ _).mpr rfl)))
    refine aw_goto X dL_law_1951 (tgt := 2593) (by decide) ?_
    exact T M3 _ _ _ _ _ _ _ (by show k + 1 + 0 + 0 ≤ k + 482; omega) (by show n + 6 + 0 + 0 ≤ n + 9712; omega) hs2 hm2.base ⟨_, ho2⟩
  · refine aw_ifne X dL_law_1936 (tgt := 1951) (by decide) (fun _ => ?_) (fun c9 => by first | exact absurd ((show ¬ nI (spBrAt τ (xs (i + 1))).1 = 0 from nI_ne0 (by omega) (by have := le_spBrAt (τ := τ) (v := (xs (i + 1))); omega))) c9 | exact absurd c9 ((show ¬ nI (spBrAt τ (xs (i + 1))).1 = 0 from nI_ne0 (by omega) (by have := le_spBrAt (τ := τ) (v := (xs (i + 1))); omega))))
    refine aw_goto X dL_law_1951 (tgt := 2593) (by decide) ?_
    exact T M3 _ _ _ _ _ _ _ (by show k + 1 + 0 + 0 ≤ k + 482; omega) (by show n + 6 + 0 + 0 ≤ n + 9712; omega) hs2 hm2.base ⟨_, ho2⟩
theorem lc_brokenAfter {Z : AZ} {Q : State → Prop} {M : AM} {k n b L x i t : Nat} {xs : Nat → Int32} {τ : TS} {u5 u6 u7 : Option Value} {S : Nat → Int64} (C : lwC Z b L xs) (hi : i + 4 < L) (hL : L < 2 ^ 31) (hk : k + 482 ≤ 601024) (hnn : n + 9712 ≤ 7293034) (hs : isRS (zG Z) M x (x + 299) τ) (hm : isMD (zG Z) M M (x + 271) τ t) (ho : M.1 (x + 298) = some (am_al (zG Z) 1 S)) (T : lwT Z Q k n b x i) : AW Z Q M k n 1954 [some (.ref b), some (.ref x), some (.ref (x + 271)), some (.ref (x + 298)), some (.int (nI i)), u5, u6, u7] [] := by
  obtain ⟨X, hN, -, -, -, hfl, hn, hR⟩ := id C
  refine aw_aload1 X dL_law_1954 ?_
  refine aw_aload0 X dL_law_1955 ?_
  refine aw_iload4 X dL_law_1956 ?_
  refine aw_iconst X dL_law_1958 (v := nI 1) (by decide) ?_
  refine aw_iadd X dL_law_1959 ?_
  first | with_reducible refine aw_int (nI_add _ _) ?_ | skip
  refine aw_sld C dL_law_1960 rfl (by omega) (by omega) ?_
  refine aw_aload3 X dL_law_1961 ?_
  refine aw_callSH X hN (c_L_brokenAfter hfl hs ho ⟨by omega, by omega⟩) kL_229 dL_law_1962 rfl rfl (by first | decide | exact Nat.le_of_ble_eq_true rfl) (by rw [hR]; exact ⟨Nat.le_of_ble_eq_true rfl, Nat.le_of_ble_eq_true rfl⟩) (by rw [hR]; exact ⟨by show k + 1 ≤ 601024; omega, by show n + 6 ≤ 7293034; omega⟩) (fun v M1 hv => ?_)
  obtain ⟨rfl, hs1, hk1, S1, ho1, hv1⟩ := hv
  have hm1 := hm.kr hk1 (fun q e => by omega)
  obtain ⟨c1, hat1⟩ := hm1.at
  refine aw_istore5 X dL_law_1965 (by rw [hn]; decide) rfl ?_
  refine aw_aload2 X dL_law_1967 ?_
  refine aw_aload0 X dL_law_1968 ?_
  refine aw_iload4 X dL_law_1969 ?_
  refine aw_iconst X dL_law_1971 (v := nI 1) (by decide) ?_
  refine aw_iadd X dL_law_1972 ?_
  first | with_reducible refine aw_int (nI_add _ _) ?_ | skip
  refine aw_sld C dL_law_1973 rfl (by omega) (by omega) ?_
  refine aw_callV X (c_X9_brokenAfter hm1) kL_231 (ci := 10) rfl hat1 dL_law_1974 rfl rfl (by first | decide | exact Nat.le_of_ble_eq_true rfl) (by rw [hR]; exact ⟨Nat.le_of_ble_eq_true rfl, Nat.le_of_ble_eq_true rfl⟩) (by rw [hR]; exact ⟨by show k + 1 + 0 ≤ 601024; omega, by show n + 6 + 0 ≤ 7293034; omega⟩) (fun v M2 hv => ?_)
  obtain ⟨rfl, hm2⟩ := hv
  have hk2 := hm2.ke
  have hs2 := hs1.kr hk2 (fun q e => by omega)
  have ho2 := hk2 _ _ ho1 (by omega)
  obtain ⟨c2, hat2⟩ := hm2.at
  refine aw_istore6 X dL_law_1977 (by rw [hn]; decide) rfl ?_
  refine aw_aload2 X dL_law_1979 ?_
  refine aw_callV X (c_X9_thrown hm2) kL_142 (ci := 10) rfl hat2 dL_law_1980 rfl rfl (by first | decide | exact Nat.le_of_ble_eq_true rfl) (by rw [hR]; exact ⟨Nat.le_of_ble_eq_true rfl, Nat.le_of_ble_eq_true rfl⟩) (by rw [hR]; exact ⟨by show k + 1 + 0 + 0 ≤ 601024; omega, by show n + 6 + 0 + 0 ≤ 7293034; omega⟩) (fun v M3 hv => ?_)
  obtain ⟨rfl, rfl⟩ := hv
  refine aw_iload5 X dL_law_1983 ?_
  refine aw_icmpeq X dL_law_1985 (tgt := 1990) (by decide) (fun _ => ?_) (fun c9 => by first | exact absurd (rfl) c9 | exact absurd c9 (rfl))
  refine aw_iload5 X dL_law_1990 ?_
  by_cases e0 : (spBrAfter τ (xs (i + 1))).1 = 0
  · refine aw_ifne X dL_law_1992 (tgt := 2007) (by decide) (fun c9 => by first | exact absurd ((show nI (spBrAfter τ (xs (i + 1))).1 = 0 from by rw [e0]; rfl)) c9 | exact absurd c9 ((show nI (spBrAfter τ (xs (i + 1))).1 = 0 from by rw [e0]; rfl))) (fun _ => ?_)
    refine aw_aload3 X dL_law_1995 ?_
    refine aw_iconst X dL_law_1996 (v := nI 0) (by decide) ?_
    refine aw_lald X dL_law_1997 ho2 rfl (by omega) (by decide) ?_
    refine aw_long (y := cvI (spBrAfter τ (xs (i + 1))).2.1) (hv1 e0) ?_
    refine aw_iload6 X dL_law_1998 ?_
    refine aw_i2l X dL_law_2000 ?_
    refine aw_lcmp X dL_law_2001 ?_
    refine aw_ifeq X dL_law_2002 (tgt := 2007) (by decide) (fun _ => ?_) (fun c9 => by first | exact absurd (((lg_cmp_eq _ _).mpr rfl)) c9 | exact absurd c9 (((lg_cmp_eq _ _).mpr rfl)))
    refine aw_goto X dL_law_2007 (tgt := 2593) (by decide) ?_
    exact T M3 _ _ _ _ _ _ _ (by show k + 1 + 0 + 0 ≤ k + 482; omega) (by show n + 6 + 0 + 0 ≤ n + 9712; omega) hs2 hm2.base ⟨_, ho2⟩
  · refine aw_ifne X dL_law_1992 (tgt := 2007) (by decide) (fun _ => ?_) (fun c9 => by first | exact absurd ((show ¬ nI (spBrAfter τ (xs (i + 1))).1 = 0 from nI_ne0 (by omega) (by have := le_spBrAfter (τ := τ) (v := (xs (i + 1))); omega))) c9 | exact absurd c9 ((show ¬ nI (spBrAfter τ (xs (i + 1))).1 = 0 from nI_ne0 (by omega) (by have := le_spBrAfter (τ := τ) (v := (xs (i + 1))); omega))))
    refine aw_goto X dL_law_2007 (tgt := 2593) (by decide) ?_
    exact T M3 _ _ _ _ _ _ _ (by show k + 1 + 0 + 0 ≤ k + 482; omega) (by show n + 6 + 0 + 0 ≤ n + 9712; omega) hs2 hm2.base ⟨_, ho2⟩
theorem lc_reason {Z : AZ} {Q : State → Prop} {M : AM} {k n b L x i t : Nat} {xs : Nat → Int32} {τ : TS} {u5 u6 u7 : Option Value} {S : Nat → Int64} (C : lwC Z b L xs) (hi : i + 4 < L) (hL : L < 2 ^ 31) (hk : k + 482 ≤ 601024) (hnn : n + 9712 ≤ 7293034) (hs : isRS (zG Z) M x (x + 299) τ) (hm : isMD (zG Z) M M (x + 271) τ t) (ho : M.1 (x + 298) = some (am_al (zG Z) 1 S)) (T : lwT Z Q k n b x i) : AW Z Q M k n 2010 [some (.ref b), some (.ref x), some (.ref (x + 271)), some (.ref (x + 298)), some (.int (nI i)), u5, u6, u7] [] := by
  obtain ⟨X, hN, -, -, -, hfl, hn, hR⟩ := id C
  refine aw_aload1 X dL_law_2010 ?_
  refine aw_aload0 X dL_law_2011 ?_
  refine aw_iload4 X dL_law_2012 ?_
  refine aw_iconst X dL_law_2014 (v := nI 1) (by decide) ?_
  refine aw_iadd X dL_law_2015 ?_
  first | with_reducible refine aw_int (nI_add _ _) ?_ | skip
  refine aw_sld C dL_law_2016 rfl (by omega) (by omega) ?_
  refine aw_aload3 X dL_law_2017 ?_
  refine aw_callSH X hN (c_L_reason hfl hs ho ⟨by omega, by omega⟩) kL_232 dL_law_2018 rfl rfl (by first | decide | exact Nat.le_of_ble_eq_true rfl) (by rw [hR]; exact ⟨Nat.le_of_ble_eq_true rfl, Nat.le_of_ble_eq_true rfl⟩) (by rw [hR]; exact ⟨by show k + 1 ≤ 601024; omega, by show n + 6 ≤ 7293034; omega⟩) (fun v M1 hv => ?_)
  obtain ⟨rfl, hs1, hk1, S1, ho1, hv1⟩ := hv
  have hm1 := hm.kr hk1 (fun q e => by omega)
  obtain ⟨c1, hat1⟩ := hm1.at
  refine aw_istore5 X dL_law_2021 (by rw [hn]; decide) rfl ?_
  refine aw_aload2 X dL_law_2023 ?_
  refine aw_aload0 X dL_law_2024 ?_
  refine aw_iload4 X dL_law_2025 ?_
  refine aw_iconst X dL_law_2027 (v := nI 1) (by decide) ?_
  refine aw_iadd X dL_law_2028 ?_
  first | with_reducible refine aw_int (nI_add _ _) ?_ | skip
  refine aw_sld C dL_law_2029 rfl (by omega) (by omega) ?_
  refine aw_callV X (c_X9_reason hm1) kL_234 (ci := 10) rfl hat1 dL_law_2030 rfl rfl (by first | decide | exact Nat.le_of_ble_eq_true rfl) (by rw [hR]; exact ⟨Nat.le_of_ble_eq_true rfl, Nat.le_of_ble_eq_true rfl⟩) (by rw [hR]; exact ⟨by show k + 1 + 0 ≤ 601024; omega, by show n + 6 + 0 ≤ 7293034; omega⟩) (fun v M2 hv => ?_)
  obtain ⟨rfl, hm2⟩ := hv
  have hk2 := hm2.ke
  have hs2 := hs1.kr hk2 (fun q e => by omega)
  have ho2 := hk2 _ _ ho1 (by omega)
  obtain ⟨c2, hat2⟩ := hm2.at
  refine aw_istore6 X dL_law_2033 (by rw [hn]; decide) rfl ?_
  refine aw_aload2 X dL_law_2035 ?_
  refine aw_callV X (c_X9_thrown hm2) kL_142 (ci := 10) rfl hat2 dL_law_2036 rfl rfl (by first | decide | exact Nat.le_of_ble_eq_true rfl) (by rw [hR]; exact ⟨Nat.le_of_ble_eq_true rfl, Nat.le_of_ble_eq_true rfl⟩) (by rw [hR]; exact ⟨by show k + 1 + 0 + 0 ≤ 601024; omega, by show n + 6 + 0 + 0 ≤ 7293034; omega⟩) (fun v M3 hv => ?_)
  obtain ⟨rfl, rfl⟩ := hv
  refine aw_iload5 X dL_law_2039 ?_
  refine aw_icmpeq X dL_law_2041 (tgt := 2046) (by decide) (fun _ => ?_) (fun c9 => by first | exact absurd (rfl) c9 | exact absurd c9 (rfl))
  refine aw_iload5 X dL_law_2046 ?_
  by_cases e0 : (spReason τ (xs (i + 1))).1 = 0
  · refine aw_ifne X dL_law_2048 (tgt := 2063) (by decide) (fun c9 => by first | exact absurd ((show nI (spReason τ (xs (i + 1))).1 = 0 from by rw [e0]; rfl)) c9 | exact absurd c9 ((show nI (spReason τ (xs (i + 1))).1 = 0 from by rw [e0]; rfl))) (fun _ => ?_)
    refine aw_aload3 X dL_law_2051 ?_
    refine aw_iconst X dL_law_2052 (v := nI 0) (by decide) ?_
    refine aw_lald X dL_law_2053 ho2 rfl (by omega) (by decide) ?_
    refine aw_long (y := cvI (spReason τ (xs (i + 1))).2.1) (hv1 e0) ?_
    refine aw_iload6 X dL_law_2054 ?_
    refine aw_i2l X dL_law_2056 ?_
    refine aw_lcmp X dL_law_2057 ?_
    refine aw_ifeq X dL_law_2058 (tgt := 2063) (by decide) (fun _ => ?_) (fun c9 => by first | exact absurd (((lg_cmp_eq _ _).mpr rfl)) c9 | exact absurd c9 (((lg_cmp_eq _ _).mpr rfl)))
    refine aw_goto X dL_law_2063 (tgt := 2593) (by decide) ?_
    exact T M3 _ _ _ _ _ _ _ (by show k + 1 + 0 + 0 ≤ k + 482; omega) (by show n + 6 + 0 + 0 ≤ n + 9712; omega) hs2 hm2.base ⟨_, ho2⟩
  · refine aw_ifne X dL_law_2048 (tgt := 2063) (by decide) (fun _ => ?_) (fun c9 => by first | exact absurd ((show ¬ nI (spReason τ (xs (i + 1))).1 = 0 from nI_ne0 (by omega) (by have := le_spReason (τ := τ) (v := (xs (i + 1))); omega))) c9 | exact absurd c9 ((show ¬ nI (spReason τ (xs (i + 1))).1 = 0 from nI_ne0 (by omega) (by have := le_spReason (τ := τ) (v := (xs (i + 1))); omega))))
    refine aw_goto X dL_law_2063 (tgt := 2593) (by decide) ?_
    exact T M3 _ _ _ _ _ _ _ (by show k + 1 + 0 + 0 ≤ k + 482; omega) (by show n + 6 + 0 + 0 ≤ n + 9712; omega) hs2 hm2.base ⟨_, ho2⟩
theorem lc_heldBy {Z : AZ} {Q : State → Prop} {M : AM} {k n b L x i t : Nat} {xs : Nat → Int32} {τ : TS} {u5 u6 u7 : Option Value} {S : Nat → Int64} (C : lwC Z b L xs) (hi : i + 4 < L) (hL : L < 2 ^ 31) (hk : k + 482 ≤ 601024) (hnn : n + 9712 ≤ 7293034) (hs : isRS (zG Z) M x (x + 299) τ) (hm : isMD (zG Z) M M (x + 271) τ t) (ho : M.1 (x + 298) = some (am_al (zG Z) 1 S)) (T : lwT Z Q k n b x i) : AW Z Q M k n 2066 [some (.ref b), some (.ref x), some (.ref (x + 271)), some (.ref (x + 298)), some (.int (nI i)), u5, u6, u7] [] := by
  obtain ⟨X, hN, -, -, -, hfl, hn, hR⟩ := id C
  refine aw_aload1 X dL_law_2066 ?_
  refine aw_aload0 X dL_law_2067 ?_
  refine aw_iload4 X dL_law_2068 ?_
  refine aw_iconst X dL_law_2070 (v := nI 1) (by decide) ?_
  refine aw_iadd X dL_law_2071 ?_
  first | with_reducible refine aw_int (nI_add _ _) ?_ | skip
  refine aw_sld C dL_law_2072 rfl (by omega) (by omega) ?_
  refine aw_aload3 X dL_law_2073 ?_
  refine aw_callSH X hN (c_L_heldBy hfl hs ho ⟨by omega, by omega⟩) kL_235 dL_law_2074 rfl rfl (by first | decide | exact Nat.le_of_ble_eq_true rfl) (by rw [hR]; exact ⟨Nat.le_of_ble_eq_true rfl, Nat.le_of_ble_eq_true rfl⟩) (by rw [hR]; exact ⟨by show k + 1 ≤ 601024; omega, by show n + 6 ≤ 7293034; omega⟩) (fun v M1 hv => ?_)
  obtain ⟨rfl, hs1, hk1, S1, ho1, hv1⟩ := hv
  have hm1 := hm.kr hk1 (fun q e => by omega)
  obtain ⟨c1, hat1⟩ := hm1.at
  refine aw_istore5 X dL_law_2077 (by rw [hn]; decide) rfl ?_
  refine aw_aload2 X dL_law_2079 ?_
  refine aw_aload0 X dL_law_2080 ?_
  refine aw_iload4 X dL_law_2081 ?_
  refine aw_iconst X dL_law_2083 (v := nI 1) (by decide) ?_
  refine aw_iadd X dL_law_2084 ?_
  first | with_reducible refine aw_int (nI_add _ _) ?_ | skip
  refine aw_sld C dL_law_2085 rfl (by omega) (by omega) ?_
  refine aw_callV X (c_X9_heldBy hm1) kL_237 (ci := 10) rfl hat1 dL_law_2086 rfl rfl (by first | decide | exact Nat.le_of_ble_eq_true rfl) (by rw [hR]; exact ⟨Nat.le_of_ble_eq_true rfl, Nat.le_of_ble_eq_true rfl⟩) (by rw [hR]; exact ⟨by show k + 1 + 0 ≤ 601024; omega, by show n + 6 + 0 ≤ 7293034; omega⟩) (fun v M2 hv => ?_)
  obtain ⟨rfl, hm2⟩ := hv
  have hk2 := hm2.ke
  have hs2 := hs1.kr hk2 (fun q e => by omega)
  have ho2 := hk2 _ _ ho1 (by omega)
  obtain ⟨c2, hat2⟩ := hm2.at
  refine aw_istore6 X dL_law_2089 (by rw [hn]; decide) rfl ?_
  refine aw_aload2 X dL_law_2091 ?_
  refine aw_callV X (c_X9_thrown hm2) kL_142 (ci := 10) rfl hat2 dL_law_2092 rfl rfl (by first | decide | exact Nat.le_of_ble_eq_true rfl) (by rw [hR]; exact ⟨Nat.le_of_ble_eq_true rfl, Nat.le_of_ble_eq_true rfl⟩) (by rw [hR]; exact ⟨by show k + 1 + 0 + 0 ≤ 601024; omega, by show n + 6 + 0 + 0 ≤ 7293034; omega⟩) (fun v M3 hv => ?_)
  obtain ⟨rfl, rfl⟩ := hv
  refine aw_iload5 X dL_law_2095 ?_
  refine aw_icmpeq X dL_law_2097 (tgt := 2102) (by decide) (fun _ => ?_) (fun c9 => by first | exact absurd (rfl) c9 | exact absurd c9 (rfl))
  refine aw_iload5 X dL_law_2102 ?_
  by_cases e0 : (spHeldBy τ (xs (i + 1))).1 = 0
  · refine aw_ifne X dL_law_2104 (tgt := 2119) (by decide) (fun c9 => by first | exact absurd ((show nI (spHeldBy τ (xs (i + 1))).1 = 0 from by rw [e0]; rfl)) c9 | exact absurd c9 ((show nI (spHeldBy τ (xs (i + 1))).1 = 0 from by rw [e0]; rfl))) (fun _ => ?_)
    refine aw_aload3 X dL_law_2107 ?_
    refine aw_iconst X dL_law_2108 (v := nI 0) (by decide) ?_
    refine aw_lald X dL_law_2109 ho2 rfl (by omega) (by decide) ?_
    refine aw_long (y := cvI (spHeldBy τ (xs (i + 1))).2.1) (hv1 e0) ?_
    refine aw_iload6 X dL_law_2110 ?_
    refine aw_i2l X dL_law_2112 ?_
    refine aw_lcmp X dL_law_2113 ?_
    refine aw_ifeq X dL_law_2114 (tgt := 2119) (by decide) (fun _ => ?_) (fun c9 => by first | exact absurd (((lg_cmp_eq _ _).mpr rfl)) c9 | exact absurd c9 (((lg_cmp_eq _ _).mpr rfl)))
    refine aw_goto X dL_law_2119 (tgt := 2593) (by decide) ?_
    exact T M3 _ _ _ _ _ _ _ (by show k + 1 + 0 + 0 ≤ k + 482; omega) (by show n + 6 + 0 + 0 ≤ n + 9712; omega) hs2 hm2.base ⟨_, ho2⟩
  · refine aw_ifne X dL_law_2104 (tgt := 2119) (by decide) (fun _ => ?_) (fun c9 => by first | exact absurd ((show ¬ nI (spHeldBy τ (xs (i + 1))).1 = 0 from nI_ne0 (by omega) (by have := le_spHeldBy (τ := τ) (v := (xs (i + 1))); omega))) c9 | exact absurd c9 ((show ¬ nI (spHeldBy τ (xs (i + 1))).1 = 0 from nI_ne0 (by omega) (by have := le_spHeldBy (τ := τ) (v := (xs (i + 1))); omega))))
    refine aw_goto X dL_law_2119 (tgt := 2593) (by decide) ?_
    exact T M3 _ _ _ _ _ _ _ (by show k + 1 + 0 + 0 ≤ k + 482; omega) (by show n + 6 + 0 + 0 ≤ n + 9712; omega) hs2 hm2.base ⟨_, ho2⟩
