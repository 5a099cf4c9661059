theorem lc_weak {Z : AZ} {Q : State → Prop} {M : AM} {k n b L x i t : Nat} {xs : Nat → Int32} {τ : TS} {u5 u6 u7 : Option Value} {S : Nat → Int64} (C : lwC Z b L xs) (hi : i + 4 < L) (hL : L < 2 ^ 31) (hk : k + 482 ≤ 601024) (hnn : n + 9712 ≤ 7293034) (hs : isRS (zG Z) M x (x + 299) τ) (hm : isMD (zG Z) M M (x + 271) τ t) (ho : M.1 (x + 298) = some (am_al (zG Z) 1 S)) (T : lwT Z Q k n b x i) : AW Z Q M k n 903 [some (.ref b), some (.ref x), some (.ref (x + 271)), some (.ref (x + 298)), some (.int (nI i)), u5, u6, u7] [] := by
  obtain ⟨X, hN, -, -, -, hfl, hn, hR⟩ := id C
  refine aw_aload1 X dL_law_903 ?_
  refine aw_aload0 X dL_law_904 ?_
  refine aw_iload4 X dL_law_905 ?_
  refine aw_iconst X dL_law_907 (v := nI 1) (by decide) ?_
  refine aw_iadd X dL_law_908 ?_
  first | with_reducible refine aw_int (nI_add _ _) ?_ | skip
  refine aw_sld C dL_law_909 rfl (by omega) (by omega) ?_
  refine aw_aload0 X dL_law_910 ?_
  refine aw_iload4 X dL_law_911 ?_
  refine aw_iconst X dL_law_913 (v := nI 2) (by decide) ?_
  refine aw_iadd X dL_law_914 ?_
  first | with_reducible refine aw_int (nI_add _ _) ?_ | skip
  refine aw_sld C dL_law_915 rfl (by omega) (by omega) ?_
  refine aw_aload3 X dL_law_916 ?_
  refine aw_callSH X hN (c_L_weak hfl hs ho ⟨by omega, by omega⟩) kL_177 dL_law_917 rfl rfl (by first | decide | exact Nat.le_of_ble_eq_true rfl) (by rw [hR]; exact ⟨Nat.le_of_ble_eq_true rfl, Nat.le_of_ble_eq_true rfl⟩) (by rw [hR]; exact ⟨by show k + 2 ≤ 601024; omega, by show n + 12 ≤ 7293034; omega⟩) (fun v M1 hv => ?_)
  obtain ⟨rfl, hs1, hk1, S1, ho1, hv1⟩ := hv
  have hm1 := hm.kr hk1 (fun q e => by omega)
  obtain ⟨c1, hat1⟩ := hm1.at
  refine aw_istore5 X dL_law_920 (by rw [hn]; decide) rfl ?_
  refine aw_aload2 X dL_law_922 ?_
  refine aw_aload0 X dL_law_923 ?_
  refine aw_iload4 X dL_law_924 ?_
  refine aw_iconst X dL_law_926 (v := nI 1) (by decide) ?_
  refine aw_iadd X dL_law_927 ?_
  first | with_reducible refine aw_int (nI_add _ _) ?_ | skip
  refine aw_sld C dL_law_928 rfl (by omega) (by omega) ?_
  refine aw_aload0 X dL_law_929 ?_
  refine aw_iload4 X dL_law_930 ?_
  refine aw_iconst X dL_law_932 (v := nI 2) (by decide) ?_
  refine aw_iadd X dL_law_933 ?_
  first | with_reducible refine aw_int (nI_add _ _) ?_ | skip
  refine aw_sld C dL_law_934 rfl (by omega) (by omega) ?_
  refine aw_callV X (c_X9_weak hm1) kL_179 (ci := 10) rfl hat1 dL_law_935 rfl rfl (by first | decide | exact Nat.le_of_ble_eq_true rfl) (by rw [hR]; exact ⟨Nat.le_of_ble_eq_true rfl, Nat.le_of_ble_eq_true rfl⟩) (by rw [hR]; exact ⟨by show k + 2 + 0 ≤ 601024; omega, by show n + 12 + 0 ≤ 7293034; omega⟩) (fun v M2 hv => ?_)
  obtain ⟨rfl, hm2⟩ := hv
  have hk2 := hm2.ke
  have hs2 := hs1.kr hk2 (fun q e => by omega)
  have ho2 := hk2 _ _ ho1 (by omega)
  obtain ⟨c2, hat2⟩ := hm2.at
  refine aw_istore6 X dL_law_938 (by rw [hn]; decide) rfl ?_
  refine aw_aload2 X dL_law_940 ?_
  refine aw_callV X (c_X9_thrown hm2) kL_142 (ci := 10) rfl hat2 dL_law_941 rfl rfl (by first | decide | exact Nat.le_of_ble_eq_true rfl) (by rw [hR]; exact ⟨Nat.le_of_ble_eq_true rfl, Nat.le_of_ble_eq_true rfl⟩) (by rw [hR]; exact ⟨by show k + 2 + 0 + 0 ≤ 601024; omega, by show n + 12 + 0 + 0 ≤ 7293034; omega⟩) (fun v M3 hv => ?_)
  obtain ⟨rfl, rfl⟩ := hv
  refine aw_iload5 X dL_law_944 ?_
  refine aw_icmpeq X dL_law_946 (tgt := 951) (by decide) (fun _ => ?_) (fun c9 => by first | exact absurd (rfl) c9 | exact absurd c9 (rfl))
  refine aw_iload5 X dL_law_951 ?_
  by_cases e0 : (spWeak τ (xs (i + 1)) (xs (i + 2))).1 = 0
  · refine aw_ifne X dL_law_953 (tgt := 968) (by decide) (fun c9 => by first | exact absurd ((show nI (spWeak τ (xs (i + 1)) (xs (i + 2))).1 = 0 from by rw [e0]; rfl)) c9 | exact absurd c9 ((show nI (spWeak τ (xs (i + 1)) (xs (i + 2))).1 = 0 from by rw [e0]; rfl))) (fun _ => ?_)
    refine aw_aload3 X dL_law_956 ?_
    refine aw_iconst X dL_law_957 (v := nI 0) (by decide) ?_
    refine aw_lald X dL_law_958 ho2 rfl (by omega) (by decide) ?_
    refine aw_long (y := cvI (spWeak τ (xs (i + 1)) (xs (i + 2))).2.1) (hv1 e0) ?_
    refine aw_iload6 X dL_law_959 ?_
    refine aw_i2l X dL_law_961 ?_
    refine aw_lcmp X dL_law_962 ?_
    refine aw_ifeq X dL_law_963 (tgt := 968) (by decide) (fun _ => ?_) (fun c9 => by first | exact absurd (((lg_cmp_eq _ _).mpr rfl)) c9 | exact absurd c9 (((lg_cmp_eq _ _).mpr rfl)))
    refine aw_goto X dL_law_968 (tgt := 2593) (by decide) ?_
    exact T M3 _ _ _ _ _ _ _ (by show k + 2 + 0 + 0 ≤ k + 482; omega) (by show n + 12 + 0 + 0 ≤ n + 9712; omega) hs2 hm2.base ⟨_, ho2⟩
  · refine aw_ifne X dL_law_953 (tgt := 968) (by decide) (fun _ => ?_) (fun c9 => by first | exact absurd ((show ¬ nI (spWeak τ (xs (i + 1)) (xs (i + 2))).1 = 0 from nI_ne0 (by omega) (by have := le_spWeak (τ := τ) (g := (xs (i + 1))) (b := (xs (i + 2))); omega))) c9 | exact absurd c9 ((show ¬ nI (spWeak τ (xs (i + 1)) (xs (i + 2))).1 = 0 from nI_ne0 (by omega) (by have := le_spWeak (τ := τ) (g := (xs (i + 1))) (b := (xs (i + 2))); omega))))
    refine aw_goto X dL_law_968 (tgt := 2593) (by decide) ?_
    exact T M3 _ _ _ _ _ _ _ (by show k + 2 + 0 + 0 ≤ k + 482; omega) (by show n + 12 + 0 + 0 ≤ n + 9712; omega) hs2 hm2.base ⟨_, ho2⟩
theorem lc_strong {Z : AZ} {Q : State → Prop} {M : AM} {k n b L x i t : Nat} {xs : Nat → Int32} {τ : TS} {u5 u6 u7 : Option Value} {S : Nat → Int64} (C : lwC Z b L xs) (hi : i + 4 < L) (hL : L < 2 ^ 31) (hk : k + 482 ≤ 601024) (hnn : n + 9712 ≤ 7293034) (hs : isRS (zG Z) M x (x + 299) τ) (hm : isMD (zG Z) M M (x + 271) τ t) (ho : M.1 (x + 298) = some (am_al (zG Z) 1 S)) (T : lwT Z Q k n b x i) : AW Z Q M k n 971 [some (.ref b), some (.ref x), some (.ref (x + 271)), some (.ref (x + 298)), some (.int (nI i)), u5, u6, u7] [] := by
  obtain ⟨X, hN, -, -, -, hfl, hn, hR⟩ := id C
  refine aw_aload1 X dL_law_971 ?_
  refine aw_aload0 X dL_law_972 ?_
  refine aw_iload4 X dL_law_973 ?_
  refine aw_iconst X dL_law_975 (v := nI 1) (by decide) ?_
  refine aw_iadd X dL_law_976 ?_
  first | with_reducible refine aw_int (nI_add _ _) ?_ | skip
  refine aw_sld C dL_law_977 rfl (by omega) (by omega) ?_
  refine aw_aload0 X dL_law_978 ?_
  refine aw_iload4 X dL_law_979 ?_
  refine aw_iconst X dL_law_981 (v := nI 2) (by decide) ?_
  refine aw_iadd X dL_law_982 ?_
  first | with_reducible refine aw_int (nI_add _ _) ?_ | skip
  refine aw_sld C dL_law_983 rfl (by omega) (by omega) ?_
  refine aw_aload3 X dL_law_984 ?_
  refine aw_callSH X hN (c_L_strong hfl hs ho ⟨by omega, by omega⟩) kL_180 dL_law_985 rfl rfl (by first | decide | exact Nat.le_of_ble_eq_true rfl) (by rw [hR]; exact ⟨Nat.le_of_ble_eq_true rfl, Nat.le_of_ble_eq_true rfl⟩) (by rw [hR]; exact ⟨by show k + 2 ≤ 601024; omega, by show n + 12 ≤ 7293034; omega⟩) (fun v M1 hv => ?_)
  obtain ⟨rfl, hs1, hk1, S1, ho1, hv1⟩ := hv
  have hm1 := hm.kr hk1 (fun q e => by omega)
  obtain ⟨c1, hat1⟩ := hm1.at
  refine aw_istore5 X dL_law_988 (by rw [hn]; decide) rfl ?_
  refine aw_aload2 X dL_law_990 ?_
  refine aw_aload0 X dL_law_991 ?_
  refine aw_iload4 X dL_law_992 ?_
  refine aw_iconst X dL_law_994 (v := nI 1) (by decide) ?_
  refine aw_iadd X dL_law_995 ?_
  first | with_reducible refine aw_int (nI_add _ _) ?_ | skip
  refine aw_sld C dL_law_996 rfl (by omega) (by omega) ?_
  refine aw_aload0 X dL_law_997 ?_
  refine aw_iload4 X dL_law_998 ?_
  refine aw_iconst X dL_law_1000 (v := nI 2) (by decide) ?_
  refine aw_iadd X dL_law_1001 ?_
  first | with_reducible refine aw_int (nI_add _ _) ?_ | skip
  refine aw_sld C dL_law_1002 rfl (by omega) (by omega) ?_
  refine aw_callV X (c_X9_strong hm1) kL_182 (ci := 10) rfl hat1 dL_law_1003 rfl rfl (by first | decide | exact Nat.le_of_ble_eq_true rfl) (by rw [hR]; exact ⟨Nat.le_of_ble_eq_true rfl, Nat.le_of_ble_eq_true rfl⟩) (by rw [hR]; exact ⟨by show k + 2 + 0 ≤ 601024; omega, by show n + 12 + 0 ≤ 7293034; omega⟩) (fun v M2 hv => ?_)
  obtain ⟨rfl, hm2⟩ := hv
  have hk2 := hm2.ke
  have hs2 := hs1.kr hk2 (fun q e => by omega)
  have ho2 := hk2 _ _ ho1 (by omega)
  obtain ⟨c2, hat2⟩ := hm2.at
  refine aw_lstore6 X dL_law_1006 (by rw [hn]; decide) rfl ?_
  refine aw_aload2 X dL_law_1008 ?_
  refine aw_callV X (c_X9_thrown hm2) kL_142 (ci := 10) rfl hat2 dL_law_1009 rfl rfl (by first | decide | exact Nat.le_of_ble_eq_true rfl) (by rw [hR]; exact ⟨Nat.le_of_ble_eq_true rfl, Nat.le_of_ble_eq_true rfl⟩) (by rw [hR]; exact ⟨by show k + 2 + 0 + 0 ≤ 601024; omega, by show n + 12 + 0 + 0 ≤ 7293034; omega⟩) (fun v M3 hv => ?_)
  obtain ⟨rfl, rfl⟩ := hv
  refine aw_iload5 X dL_law_1012 ?_
  refine aw_icmpeq X dL_law_1014 (tgt := 1019) (by decide) (fun _ => ?_) (fun c9 => by first | exact absurd (rfl) c9 | exact absurd c9 (rfl))
  refine aw_iload5 X dL_law_1019 ?_
  by_cases e0 : (spStrong τ (xs (i + 1)) (xs (i + 2))).1 = 0
  · refine aw_ifne X dL_law_1021 (tgt := 1035) (by decide) (fun c9 => by first | exact absurd ((show nI (spStrong τ (xs (i + 1)) (xs (i + 2))).1 = 0 from by rw [e0]; rfl)) c9 | exact absurd c9 ((show nI (spStrong τ (xs (i + 1)) (xs (i + 2))).1 = 0 from by rw [e0]; rfl))) (fun _ => ?_)
    refine aw_aload3 X dL_law_1024 ?_
    refine aw_iconst X dL_law_1025 (v := nI 0) (by decide) ?_
    refine aw_lald X dL_law_1026 ho2 rfl (by omega) (by decide) ?_
    refine aw_long (y := cvL (spStrong τ (xs (i + 1)) (xs (i + 2))).2.1) (hv1 e0) ?_
    refine aw_lload6 X dL_law_1027 ?_
    refine aw_lcmp X dL_law_1029 ?_
    refine aw_ifeq X dL_law_1030 (tgt := 1035) (by decide) (fun _ => ?_) (fun c9 => by first | exact absurd (((lg_cmp_eq _ _).mpr rfl)) c9 | exact absurd c9 (((lg_cmp_eq _ _).mpr rfl)))
    refine aw_goto X dL_law_1035 (tgt := 2593) (by decide) ?_
    exact T M3 _ _ _ _ _ _ _ (by show k + 2 + 0 + 0 ≤ k + 482; omega) (by show n + 12 + 0 + 0 ≤ n + 9712; omega) hs2 hm2.base ⟨_, ho2⟩
  · refine aw_ifne X dL_law_1021 (tgt := 1035) (by decide) (fun _ => ?_) (fun c9 => by first | exact absurd ((show ¬ nI (spStrong τ (xs (i + 1)) (xs (i + 2))).1 = 0 from nI_ne0 (by omega) (by have := le_spStrong (τ := τ) (g := (xs (i + 1))) (b := (xs (i + 2))); omega))) c9 | exact absurd c9 ((show ¬ nI (spStrong τ (xs (i + 1)) (xs (i + 2))).1 = 0 from nI_ne0 (by omega) (by have := le_spStrong (τ := τ) (g := (xs (i + 1))) (b := (xs (i + 2))); omega))))
    refine aw_goto X dL_law_1035 (tgt := 2593) (by decide) ?_
    exact T M3 _ _ _ _ _ _ _ (by show k + 2 + 0 + 0 ≤ k + 482; omega) (by show n + 12 + 0 + 0 ≤ n + 9712; omega) hs2 hm2.base ⟨_, ho2⟩
theorem lc_compare {Z : AZ} {Q : State → Prop} {M : AM} {k n b L x i t : Nat} {xs : Nat → Int32} {τ : TS} {u5 u6 u7 : Option Value} {S : Nat → Int64} (C : lwC Z b L xs) (hi : i + 4 < L) (hL : L < 2 ^ 31) (hk : k + 482 ≤ 601024) (hnn : n + 9712 ≤ 7293034) (hs : isRS (zG Z) M x (x + 299) τ) (hm : isMD (zG Z) M M (x + 271) τ t) (ho : M.1 (x + 298) = some (am_al (zG Z) 1 S)) (T : lwT Z Q k n b x i) : AW Z Q M k n 1038 [some (.ref b), some (.ref x), some (.ref (x + 271)), some (.ref (x + 298)), some (.int (nI i)), u5, u6, u7] [] := by
  obtain ⟨X, hN, -, -, -, hfl, hn, hR⟩ := id C
  refine aw_aload1 X dL_law_1038 ?_
  refine aw_aload0 X dL_law_1039 ?_
  refine aw_iload4 X dL_law_1040 ?_
  refine aw_iconst X dL_law_1042 (v := nI 1) (by decide) ?_
  refine aw_iadd X dL_law_1043 ?_
  first | with_reducible refine aw_int (nI_add _ _) ?_ | skip
  refine aw_sld C dL_law_1044 rfl (by omega) (by omega) ?_
  refine aw_aload0 X dL_law_1045 ?_
  refine aw_iload4 X dL_law_1046 ?_
  refine aw_iconst X dL_law_1048 (v := nI 2) (by decide) ?_
  refine aw_iadd X dL_law_1049 ?_
  first | with_reducible refine aw_int (nI_add _ _) ?_ | skip
  refine aw_sld C dL_law_1050 rfl (by omega) (by omega) ?_
  refine aw_aload0 X dL_law_1051 ?_
  refine aw_iload4 X dL_law_1052 ?_
  refine aw_iconst X dL_law_1054 (v := nI 3) (by decide) ?_
  refine aw_iadd X dL_law_1055 ?_
  first | with_reducible refine aw_int (nI_add _ _) ?_ | skip
  refine aw_sld C dL_law_1056 rfl (by omega) (by omega) ?_
  refine aw_aload3 X dL_law_1057 ?_
  refine aw_callSH X hN (c_L_compare hfl hs ho ⟨by omega, by omega⟩) kL_183 dL_law_1058 rfl rfl (by first | decide | exact Nat.le_of_ble_eq_true rfl) (by rw [hR]; exact ⟨Nat.le_of_ble_eq_true rfl, Nat.le_of_ble_eq_true rfl⟩) (by rw [hR]; exact ⟨by show k + 4 ≤ 601024; omega, by show n + 24 ≤ 7293034; omega⟩) (fun v M1 hv => ?_)
  obtain ⟨rfl, hs1, hk1, S1, ho1, hv1⟩ := hv
  have hm1 := hm.kr hk1 (fun q e => by omega)
  obtain ⟨c1, hat1⟩ := hm1.at
  refine aw_istore5 X dL_law_1061 (by rw [hn]; decide) rfl ?_
  refine aw_aload2 X dL_law_1063 ?_
  refine aw_aload0 X dL_law_1064 ?_
  refine aw_iload4 X dL_law_1065 ?_
  refine aw_iconst X dL_law_1067 (v := nI 1) (by decide) ?_
  refine aw_iadd X dL_law_1068 ?_
  first | with_reducible refine aw_int (nI_add _ _) ?_ | skip
  refine aw_sld C dL_law_1069 rfl (by omega) (by omega) ?_
  refine aw_aload0 X dL_law_1070 ?_
  refine aw_iload4 X dL_law_1071 ?_
  refine aw_iconst X dL_law_1073 (v := nI 2) (by decide) ?_
  refine aw_iadd X dL_law_1074 ?_
  first | with_reducible refine aw_int (nI_add _ _) ?_ | skip
  refine aw_sld C dL_law_1075 rfl (by omega) (by omega) ?_
  refine aw_aload0 X dL_law_1076 ?_
  refine aw_iload4 X dL_law_1077 ?_
  refine aw_iconst X dL_law_1079 (v := nI 3) (by decide) ?_
  refine aw_iadd X dL_law_1080 ?_
  first | with_reducible refine aw_int (nI_add _ _) ?_ | skip
  refine aw_sld C dL_law_1081 rfl (by omega) (by omega) ?_
  refine aw_callV X (c_X9_compare hm1) kL_185 (ci := 10) rfl hat1 dL_law_1082 rfl rfl (by first | decide | exact Nat.le_of_ble_eq_true rfl) (by rw [hR]; exact ⟨Nat.le_of_ble_eq_true rfl, Nat.le_of_ble_eq_true rfl⟩) (by rw [hR]; exact ⟨by show k + 4 + 0 ≤ 601024; omega, by show n + 24 + 0 ≤ 7293034; omega⟩) (fun v M2 hv => ?_)
  obtain ⟨rfl, hm2⟩ := hv
  have hk2 := hm2.ke
  have hs2 := hs1.kr hk2 (fun q e => by omega)
  have ho2 := hk2 _ _ ho1 (by omega)
  obtain ⟨c2, hat2⟩ := hm2.at
  refine aw_istore6 X dL_law_1085 (by rw [hn]; decide) rfl ?_
  refine aw_aload2 X dL_law_1087 ?_
  refine aw_callV X (c_X9_thrown hm2) kL_142 (ci := 10) rfl hat2 dL_law_1088 rfl rfl (by first | decide | exact Nat.le_of_ble_eq_true rfl) (by rw [hR]; exact ⟨Nat.le_of_ble_eq_true rfl, Nat.le_of_ble_eq_true rfl⟩) (by rw [hR]; exact ⟨by show k + 4 + 0 + 0 ≤ 601024; omega, by show n + 24 + 0 + 0 ≤ 7293034; omega⟩) (fun v M3 hv => ?_)
  obtain ⟨rfl, rfl⟩ := hv
  refine aw_iload5 X dL_law_1091 ?_
  refine aw_icmpeq X dL_law_1093 (tgt := 1098) (by decide) (fun _ => ?_) (fun c9 => by first | exact absurd (rfl) c9 | exact absurd c9 (rfl))
  refine aw_iload5 X dL_law_1098 ?_
  by_cases e0 : (spCompare τ (xs (i + 1)) (xs (i + 2)) (xs (i + 3))).1 = 0
  · refine aw_ifne X dL_law_1100 (tgt := 1115) (by decide) (fun c9 => by first | exact absurd ((show nI (spCompare τ (xs (i + 1)) (xs (i + 2)) (xs (i + 3))).1 = 0 from by rw [e0]; rfl)) c9 | exact absurd c9 ((show nI (spCompare τ (xs (i + 1)) (xs (i + 2)) (xs (i + 3))).1 = 0 from by rw [e0]; rfl))) (fun _ => ?_)
    refine aw_aload3 X dL_law_1103 ?_
    refine aw_iconst X dL_law_1104 (v := nI 0) (by decide) ?_
    refine aw_lald X dL_law_1105 ho2 rfl (by omega) (by decide) ?_
    refine aw_long (y := cvI (spCompare τ (xs (i + 1)) (xs (i + 2)) (xs (i + 3))).2.1) (hv1 e0) ?_
    refine aw_iload6 X dL_law_1106 ?_
    refine aw_i2l X dL_law_1108 ?_
    refine aw_lcmp X dL_law_1109 ?_
    refine aw_ifeq X dL_law_1110 (tgt := 1115) (by decide) (fun _ => ?_) (fun c9 => by first | exact absurd (((lg_cmp_eq _ _).mpr rfl)) c9 | exact absurd c9 (((lg_cmp_eq _ _).mpr rfl)))
    refine aw_goto X dL_law_1115 (tgt := 2593) (by decide) ?_
    exact T M3 _ _ _ _ _ _ _ (by show k + 4 + 0 + 0 ≤ k + 482; omega) (by show n + 24 + 0 + 0 ≤ n + 9712; omega) hs2 hm2.base ⟨_, ho2⟩
  · refine aw_ifne X dL_law_1100 (tgt := 1115) (by decide) (fun _ => ?_) (fun c9 => by first | exact absurd ((show ¬ nI (spCompare τ (xs (i + 1)) (xs (i + 2)) (xs (i + 3))).1 = 0 from nI_ne0 (by omega) (by have := le_spCompare (τ := τ) (d := (xs (i + 1))) (g := (xs (i + 2))) (f := (xs (i + 3))); omega))) c9 | exact absurd c9 ((show ¬ nI (spCompare τ (xs (i + 1)) (xs (i + 2)) (xs (i + 3))).1 = 0 from nI_ne0 (by omega) (by have := le_spCompare (τ := τ) (d := (xs (i + 1))) (g := (xs (i + 2))) (f := (xs (i + 3))); omega))))
    refine aw_goto X dL_law_1115 (tgt := 2593) (by decide) ?_
    exact T M3 _ _ _ _ _ _ _ (by show k + 4 + 0 + 0 ≤ k + 482; omega) (by show n + 24 + 0 + 0 ≤ n + 9712; omega) hs2 hm2.base ⟨_, ho2⟩
theorem lc_instructions {Z : AZ} {Q : State → Prop} {M : AM} {k n b L x i t : Nat} {xs : Nat → Int32} {τ : TS} {u5 u6 u7 : Option Value} {S : Nat → Int64} (C : lwC Z b L xs) (hi : i + 4 < L) (hL : L < 2 ^ 31) (hk : k + 482 ≤ 601024) (hnn : n + 9712 ≤ 7293034) (hs : isRS (zG Z) M x (x + 299) τ) (hm : isMD (zG Z) M M (x + 271) τ t) (ho : M.1 (x + 298) = some (am_al (zG Z) 1 S)) (T : lwT Z Q k n b x i) : AW Z Q M k n 1118 [some (.ref b), some (.ref x), some (.ref (x + 271)), some (.ref (x + 298)), some (.int (nI i)), u5, u6, u7] [] := by
  obtain ⟨X, hN, -, -, -, hfl, hn, hR⟩ := id C
  refine aw_aload1 X dL_law_1118 ?_
  refine aw_aload0 X dL_law_1119 ?_
  refine aw_iload4 X dL_law_1120 ?_
  refine aw_iconst X dL_law_1122 (v := nI 1) (by decide) ?_
  refine aw_iadd X dL_law_1123 ?_
  first | with_reducible refine aw_int (nI_add _ _) ?_ | skip
  refine aw_sld C dL_law_1124 rfl (by omega) (by omega) ?_
  refine aw_aload3 X dL_law_1125 ?_
  refine aw_callSH X hN (c_L_instructions hfl hs ho ⟨by omega, by omega⟩) kL_186 dL_law_1126 rfl rfl (by first | decide | exact Nat.le_of_ble_eq_true rfl) (by rw [hR]; exact ⟨Nat.le_of_ble_eq_true rfl, Nat.le_of_ble_eq_true rfl⟩) (by rw [hR]; exact ⟨by show k + 1 ≤ 601024; omega, by show n + 6 ≤ 7293034; omega⟩) (fun v M1 hv => ?_)
  obtain ⟨rfl, hs1, hk1, S1, ho1, hv1⟩ := hv
  have hm1 := hm.kr hk1 (fun q e => by omega)
  obtain ⟨c1, hat1⟩ := hm1.at
  refine aw_istore5 X dL_law_1129 (by rw [hn]; decide) rfl ?_
  refine aw_aload2 X dL_law_1131 ?_
  refine aw_aload0 X dL_law_1132 ?_
  refine aw_iload4 X dL_law_1133 ?_
  refine aw_iconst X dL_law_1135 (v := nI 1) (by decide) ?_
  refine aw_iadd X dL_law_1136 ?_
  first | with_reducible refine aw_int (nI_add _ _) ?_ | skip
  refine aw_sld C dL_law_1137 rfl (by omega) (by omega) ?_
  refine aw_callV X (c_X9_instructions hm1) kL_188 (ci := 10) rfl hat1 dL_law_1138 rfl rfl (by first | decide | exact Nat.le_of_ble_eq_true rfl) (by rw [hR]; exact ⟨Nat.le_of_ble_eq_true rfl, Nat.le_of_ble_eq_true rfl⟩) (by rw [hR]; exact ⟨by show k + 1 + 0 ≤ 601024; omega, by show n + 6 + 0 ≤ 7293034; omega⟩) (fun v M2 hv => ?_)
  obtain ⟨rfl, hm2⟩ := hv
  have hk2 := hm2.ke
  have hs2 := hs1.kr hk2 (fun q e => by omega)
  have ho2 := hk2 _ _ ho1 (by omega)
  obtain ⟨c2, hat2⟩ := hm2.at
  refine aw_istore6 X dL_law_1141 (by rw [hn]; decide) rfl ?_
  refine aw_aload2 X dL_law_1143 ?_
  refine aw_callV X (c_X9_thrown hm2) kL_142 (ci := 10) rfl hat2 dL_law_1144 rfl rfl (by first | decide | exact Nat.le_of_ble_eq_true rfl) (by rw [hR]; exact ⟨Nat.le_of_ble_eq_true rfl, Nat.le_of_ble_eq_true rfl⟩) (by rw [hR]; exact ⟨by show k + 1 + 0 + 0 ≤ 601024; omega, by show n + 6 + 0 + 0 ≤ 7293034; omega⟩) (fun v M3 hv => ?_)
  obtain ⟨rfl, rfl⟩ := hv
  refine aw_iload5 X dL_law_1147 ?_
  refine aw_icmpeq X dL_law_1149 (tgt := 1154) (by decide) (fun _ => ?_) (fun c9 => by first | exact absurd (rfl) c9 | exact absurd c9 (rfl))
  refine aw_iload5 X dL_law_1154 ?_
  by_cases e0 : (spInstr τ (xs (i + 1))).1 = 0
  · refine aw_ifne X dL_law_1156 (tgt := 1171) (by decide) (fun c9 => by first | exact absurd ((show nI (spInstr τ (xs (i + 1))).1 = 0 from by rw [e0]; rfl)) c9 | exact absurd c9 ((show nI (spInstr τ (xs (i + 1))).1 = 0 from by rw [e0]; rfl))) (fun _ => ?_)
    refine aw_aload3 X dL_law_1159 ?_
    refine aw_iconst X dL_law_1160 (v := nI 0) (by decide) ?_
    refine aw_lald X dL_law_1161 ho2 rfl (by omega) (by decide) ?_
    refine aw_long (y := cvI (spInstr τ (xs (i + 1))).2.1) (hv1 e0) ?_
    refine aw_iload6 X dL_law_1162 ?_
    refine aw_i2l X dL_law_1164 ?_
    refine aw_lcmp X dL_law_1165 ?_
    refine aw_ifeq X dL_law_1166 (tgt := 1171) (by decide) (fun _ => ?_) (fun c9 => by first | exact absurd (((lg_cmp_eq _ _).mpr rfl)) c9 | exact absurd c9 (((lg_cmp_eq _ _).mpr rfl)))
    refine aw_goto X dL_law_1171 (tgt := 2593) (by decide) ?_
    exact T M3 _ _ _ _ _ _ _ (by show k + 1 + 0 + 0 ≤ k + 482; omega) (by show n + 6 + 0 + 0 ≤ n + 9712; omega) hs2 hm2.base ⟨_, ho2⟩
  · refine aw_ifne X dL_law_1156 (tgt := 1171) (by decide) (fun _ => ?_) (fun c9 => by first | exact absurd ((show ¬ nI (spInstr τ (xs (i + 1))).1 = 0 from nI_ne0 (by omega) (by have := le_spInstr (τ := τ) (g := (xs (i + 1))); omega))) c9 | exact absurd c9 ((show ¬ nI (spInstr τ (xs (i + 1))).1 = 0 from nI_ne0 (by omega) (by have := le_spInstr (τ := τ) (g := (xs (i + 1))); omega))))
    refine aw_goto X dL_law_1171 (tgt := 2593) (by decide) ?_
    exact T M3 _ _ _ _ _ _ _ (by show k + 1 + 0 + 0 ≤ k + 482; omega) (by show n + 6 + 0 + 0 ≤ n + 9712; omega) hs2 hm2.base ⟨_, ho2⟩
theorem lc_isCopy {Z : AZ} {Q : State → Prop} {M : AM} {k n b L x i t : Nat} {xs : Nat → Int32} {τ : TS} {u5 u6 u7 : Option Value} {S : Nat → Int64} (C : lwC Z b L xs) (hi : i + 4 < L) (hL : L < 2 ^ 31) (hk : k + 482 ≤ 601024) (hnn : n + 9712 ≤ 7293034) (hs : isRS (zG Z) M x (x + 299) τ) (hm : isMD (zG Z) M M (x + 271) τ t) (ho : M.1 (x + 298) = some (am_al (zG Z) 1 S)) (T : lwT Z Q k n b x i) : AW Z Q M k n 1174 [some (.ref b), some (.ref x), some (.ref (x + 271)), some (.ref (x + 298)), some (.int (nI i)), u5, u6, u7] [] := by
  obtain ⟨X, hN, -, -, -, hfl, hn, hR⟩ := id C
  refine aw_aload1 X dL_law_1174 ?_
  refine aw_aload0 X dL_law_1175 ?_
  refine aw_iload4 X dL_law_1176 ?_
  refine aw_iconst X dL_law_1178 (v := nI 1) (by decide) ?_
  refine aw_iadd X dL_law_1179 ?_
  first | with_reducible refine aw_int (nI_add _ _) ?_ | skip
  refine aw_sld C dL_law_1180 rfl (by omega) (by omega) ?_
  refine aw_aload0 X dL_law_1181 ?_
  refine aw_iload4 X dL_law_1182 ?_
  refine aw_iconst X dL_law_1184 (v := nI 2) (by decide) ?_
  refine aw_iadd X dL_law_1185 ?_
  first | with_reducible refine aw_int (nI_add _ _) ?_ | skip
  refine aw_sld C dL_law_1186 rfl (by omega) (by omega) ?_
  refine aw_aload3 X dL_law_1187 ?_
  refine aw_callSH X hN (c_L_isCopy hfl hs ho ⟨by omega, by omega⟩) kL_189 dL_law_1188 rfl rfl (by first | decide | exact Nat.le_of_ble_eq_true rfl) (by rw [hR]; exact ⟨Nat.le_of_ble_eq_true rfl, Nat.le_of_ble_eq_true rfl⟩) (by rw [hR]; exact ⟨by show k + 2 ≤ 601024; omega, by show n + 12 ≤ 7293034; omega⟩) (fun v M1 hv => ?_)
  obtain ⟨rfl, hs1, hk1, S1, ho1, hv1⟩ := hv
  have hm1 := hm.kr hk1 (fun q e => by omega)
  obtain ⟨c1, hat1⟩ := hm1.at
  refine aw_istore5 X dL_law_1191 (by rw [hn]; decide) rfl ?_
  refine aw_aload2 X dL_law_1193 ?_
  refine aw_aload0 X dL_law_1194 ?_
  refine aw_iload4 X dL_law_1195 ?_
  refine aw_iconst X dL_law_1197 (v := nI 1) (by decide) ?_
  refine aw_iadd X dL_law_1198 ?_
  first | with_reducible refine aw_int (nI_add _ _) ?_ | skip
  refine aw_sld C dL_law_1199 rfl (by omega) (by omega) ?_
  refine aw_aload0 X dL_law_1200 ?_
  refine aw_iload4 X dL_law_1201 ?_
  refine aw_iconst X dL_law_1203 (v := nI 2) (by decide) ?_
  refine aw_iadd X dL_law_1204 ?_
  first | with_reducible refine aw_int (nI_add _ _) ?_ | skip
  refine aw_sld C dL_law_1205 rfl (by omega) (by omega) ?_
  refine aw_callV X (c_X9_isCopy hm1) kL_191 (ci := 10) rfl hat1 dL_law_1206 rfl rfl (by first | decide | exact Nat.le_of_ble_eq_true rfl) (by rw [hR]; exact ⟨Nat.le_of_ble_eq_true rfl, Nat.le_of_ble_eq_true rfl⟩) (by rw [hR]; exact ⟨by show k + 2 + 0 ≤ 601024; omega, by show n + 12 + 0 ≤ 7293034; omega⟩) (fun v M2 hv => ?_)
  obtain ⟨rfl, hm2⟩ := hv
  have hk2 := hm2.ke
  have hs2 := hs1.kr hk2 (fun q e => by omega)
  have ho2 := hk2 _ _ ho1 (by omega)
  obtain ⟨c2, hat2⟩ := hm2.at
  refine aw_istore6 X dL_law_1209 (by rw [hn]; decide) rfl ?_
  refine aw_aload2 X dL_law_1211 ?_
  refine aw_callV X (c_X9_thrown hm2) kL_142 (ci := 10) rfl hat2 dL_law_1212 rfl rfl (by first | decide | exact Nat.le_of_ble_eq_true rfl) (by rw [hR]; exact ⟨Nat.le_of_ble_eq_true rfl, Nat.le_of_ble_eq_true rfl⟩) (by rw [hR]; exact ⟨by show k + 2 + 0 + 0 ≤ 601024; omega, by show n + 12 + 0 + 0 ≤ 7293034; omega⟩) (fun v M3 hv => ?_)
  obtain ⟨rfl, rfl⟩ := hv
  refine aw_iload5 X dL_law_1215 ?_
  refine aw_icmpeq X dL_law_1217 (tgt := 1222) (by decide) (fun _ => ?_) (fun c9 => by first | exact absurd (rfl) c9 | exact absurd c9 (rfl))
  refine aw_iload5 X dL_law_1222 ?_
  by_cases e0 : (spIsCopy τ (xs (i + 1)) (xs (i + 2))).1 = 0
  · refine aw_ifne X dL_law_1224 (tgt := 1246) (by decide) (fun c9 => by first | exact absurd ((show nI (spIsCopy τ (xs (i + 1)) (xs (i + 2))).1 = 0 from by rw [e0]; rfl)) c9 | exact absurd c9 ((show nI (spIsCopy τ (xs (i + 1)) (xs (i + 2))).1 = 0 from by rw [e0]; rfl))) (fun _ => ?_)
    refine aw_aload3 X dL_law_1227 ?_
    refine aw_iconst X dL_law_1228 (v := nI 0) (by decide) ?_
    refine aw_lald X dL_law_1229 ho2 rfl (by omega) (by decide) ?_
    by_cases c1 : (spIsCopy τ (xs (i + 1)) (xs (i + 2))).2.1 = 0
    · refine aw_long (y := 0) ((hv1 e0).trans (if_pos c1)) ?_
      refine aw_iload6 X dL_law_1230 ?_
      refine aw_ifeq X dL_law_1232 (tgt := 1239) (by decide) (fun _ => ?_) (fun c9 => by first | exact absurd (c1) c9 | exact absurd c9 (c1))
      refine aw_lconst X dL_law_1239 (v := 0) (by decide) ?_
      refine aw_lcmp X dL_law_1240 ?_
      refine aw_ifeq X dL_law_1241 (tgt := 1246) (by decide) (fun _ => ?_) (fun c9 => by first | exact absurd (((lg_cmp_eq _ _).mpr rfl)) c9 | exact absurd c9 (((lg_cmp_eq _ _).mpr rfl)))
      refine aw_goto X dL_law_1246 (tgt := 2593) (by decide) ?_
      exact T M3 _ _ _ _ _ _ _ (by show k + 2 + 0 + 0 ≤ k + 482; omega) (by show n + 12 + 0 + 0 ≤ n + 9712; omega) hs2 hm2.base ⟨_, ho2⟩
    · refine aw_long (y := 1) ((hv1 e0).trans (if_neg c1)) ?_
      refine aw_iload6 X dL_law_1230 ?_
      refine aw_ifeq X dL_law_1232 (tgt := 1239) (by decide) (fun c9 => by first | exact absurd (c1) c9 | exact absurd c9 (c1)) (fun _ => ?_)
      refine aw_lconst X dL_law_1235 (v := 1) (by decide) ?_
      refine aw_goto X dL_law_1236 (tgt := 1240) (by decide) ?_
      refine aw_lcmp X dL_law_1240 ?_
      refine aw_ifeq X dL_law_1241 (tgt := 1246) (by decide) (fun _ => ?_) (fun c9 => by first | exact absurd (((lg_cmp_eq _ _).mpr rfl)) c9 | exact absurd c9 (((lg_cmp_eq _ _).mpr rfl)))
      refine aw_goto X dL_law_1246 (tgt := 2593) (by decide) ?_
      exact T M3 _ _ _ _ _ _ _ (by show k + 2 + 0 + 0 ≤ k + 482; omega) (by show n + 12 + 0 + 0 ≤ n + 9712; omega) hs2 hm2.base ⟨_, ho2⟩
  · refine aw_ifne X dL_law_1224 (tgt := 1246) (by decide) (fun _ => ?_) (fun c9 => by first | exact absurd ((show ¬ nI (spIsCopy τ (xs (i + 1)) (xs (i + 2))).1 = 0 from nI_ne0 (by omega) (by have := le_spIsCopy (τ := τ) (g := (xs (i + 1))) (b := (xs (i + 2))); omega))) c9 | exact absurd c9 ((show ¬ nI (spIsCopy τ (xs (i + 1)) (xs (i + 2))).1 = 0 from nI_ne0 (by omega) (by have := le_spIsCopy (τ := τ) (g := (xs (i + 1))) (b := (xs (i + 2))); omega))))
    refine aw_goto X dL_law_1246 (tgt := 2593) (by decide) ?_
    exact T M3 _ _ _ _ _ _ _ (by show k + 2 + 0 + 0 ≤ k + 482; omega) (by show n + 12 + 0 + 0 ≤ n + 9712; omega) hs2 hm2.base ⟨_, ho2⟩
theorem lc_startOf {Z : AZ} {Q : State → Prop} {M : AM} {k n b L x i t : Nat} {xs : Nat → Int32} {τ : TS} {u5 u6 u7 : Option Value} {S : Nat → Int64} (C : lwC Z b L xs) (hi : i + 4 < L) (hL : L < 2 ^ 31) (hk : k + 482 ≤ 601024) (hnn : n + 9712 ≤ 7293034) (hs : isRS (zG Z) M x (x + 299) τ) (hm : isMD (zG Z) M M (x + 271) τ t) (ho : M.1 (x + 298) = some (am_al (zG Z) 1 S)) (T : lwT Z Q k n b x i) : AW Z Q M k n 1249 [some (.ref b), some (.ref x), some (.ref (x + 271)), some (.ref (x + 298)), some (.int (nI i)), u5, u6, u7] [] := by
  obtain ⟨X, hN, -, -, -, hfl, hn, hR⟩ := id C
  refine aw_aload1 X dL_law_1249 ?_
  refine aw_aload0 X dL_law_1250 ?_
  refine aw_iload4 X dL_law_1251 ?_
  refine aw_iconst X dL_law_1253 (v := nI 1) (by decide) ?_
  refine aw_iadd X dL_law_1254 ?_
  first | with_reducible refine aw_int (nI_add _ _) ?_ | skip
  refine aw_sld C dL_law_1255 rfl (by omega) (by omega) ?_
  refine aw_aload0 X dL_law_1256 ?_
  refine aw_iload4 X dL_law_1257 ?_
  refine aw_iconst X dL_law_1259 (v := nI 2) (by decide) ?_
  refine aw_iadd X dL_law_1260 ?_
  first | with_reducible refine aw_int (nI_add _ _) ?_ | skip
  refine aw_sld C dL_law_1261 rfl (by omega) (by omega) ?_
  refine aw_aload3 X dL_law_1262 ?_
  refine aw_callSH X hN (c_L_startOf hfl hs ho ⟨by omega, by omega⟩) kL_192 dL_law_1263 rfl rfl (by first | decide | exact Nat.le_of_ble_eq_true rfl) (by rw [hR]; exact ⟨Nat.le_of_ble_eq_true rfl, Nat.le_of_ble_eq_true rfl⟩) (by rw [hR]; exact ⟨by show k + 2 ≤ 601024; omega, by show n + 12 ≤ 7293034; omega⟩) (fun v M1 hv => ?_)
  obtain ⟨rfl, hs1, hk1, S1, ho1, hv1⟩ := hv
  have hm1 := hm.kr hk1 (fun q e => by omega)
  obtain ⟨c1, hat1⟩ := hm1.at
  refine aw_istore5 X dL_law_1266 (by rw [hn]; decide) rfl ?_
  refine aw_aload2 X dL_law_1268 ?_
  refine aw_aload0 X dL_law_1269 ?_
  refine aw_iload4 X dL_law_1270 ?_
  refine aw_iconst X dL_law_1272 (v := nI 1) (by decide) ?_
  refine aw_iadd X dL_law_1273 ?_
  first | with_reducible refine aw_int (nI_add _ _) ?_ | skip
  refine aw_sld C dL_law_1274 rfl (by omega) (by omega) ?_
  refine aw_aload0 X dL_law_1275 ?_
  refine aw_iload4 X dL_law_1276 ?_
  refine aw_iconst X dL_law_1278 (v := nI 2) (by decide) ?_
  refine aw_iadd X dL_law_1279 ?_
  first | with_reducible refine aw_int (nI_add _ _) ?_ | skip
  refine aw_sld C dL_law_1280 rfl (by omega) (by omega) ?_
  refine aw_callV X (c_X9_startOf hm1) kL_194 (ci := 10) rfl hat1 dL_law_1281 rfl rfl (by first | decide | exact Nat.le_of_ble_eq_true rfl) (by rw [hR]; exact ⟨Nat.le_of_ble_eq_true rfl, Nat.le_of_ble_eq_true rfl⟩) (by rw [hR]; exact ⟨by show k + 2 + 0 ≤ 601024; omega, by show n + 12 + 0 ≤ 7293034; omega⟩) (fun v M2 hv => ?_)
  obtain ⟨rfl, hm2⟩ := hv
  have hk2 := hm2.ke
  have hs2 := hs1.kr hk2 (fun q e => by omega)
  have ho2 := hk2 _ _ ho1 (by omega)
  obtain ⟨c2, hat2⟩ := hm2.at
  refine aw_istore6 X dL_law_1284 (by rw [hn]; decide) rfl ?_
  refine aw_aload2 X dL_law_1286 ?_
  refine aw_callV X (c_X9_thrown hm2) kL_142 (ci := 10) rfl hat2 dL_law_1287 rfl rfl (by first | decide | exact Nat.le_of_ble_eq_true rfl) (by rw [hR]; exact ⟨Nat.le_of_ble_eq_true rfl, Nat.le_of_ble_eq_true rfl⟩) (by rw [hR]; exact ⟨by show k + 2 + 0 + 0 ≤ 601024; omega, by show n + 12 + 0 + 0 ≤ 7293034; omega⟩) (fun v M3 hv => ?_)
  obtain ⟨rfl, rfl⟩ := hv
  refine aw_iload5 X dL_law_1290 ?_
  refine aw_icmpeq X dL_law_1292 (tgt := 1297) (by decide) (fun _ => ?_) (fun c9 => by first | exact absurd (rfl) c9 | exact absurd c9 (rfl))
  refine aw_iload5 X dL_law_1297 ?_
  by_cases e0 : (spStart τ (xs (i + 1)) (xs (i + 2))).1 = 0
  · refine aw_ifne X dL_law_1299 (tgt := 1314) (by decide) (fun c9 => by first | exact absurd ((show nI (spStart τ (xs (i + 1)) (xs (i + 2))).1 = 0 from by rw [e0]; rfl)) c9 | exact absurd c9 ((show nI (spStart τ (xs (i + 1)) (xs (i + 2))).1 = 0 from by rw [e0]; rfl))) (fun _ => ?_)
    refine aw_aload3 X dL_law_1302 ?_
    refine aw_iconst X dL_law_1303 (v := nI 0) (by decide) ?_
    refine aw_lald X dL_law_1304 ho2 rfl (by omega) (by decide) ?_
    refine aw_long (y := cvI (spStart τ (xs (i + 1)) (xs (i + 2))).2.1) (hv1 e0) ?_
    refine aw_iload6 X dL_law_1305 ?_
    refine aw_i2l X dL_law_1307 ?_
    refine aw_lcmp X dL_law_1308 ?_
    refine aw_ifeq X dL_law_1309 (tgt := 1314) (by decide) (fun _ => ?_) (fun c9 => by first | exact absurd (((lg_cmp_eq _ _).mpr rfl)) c9 | exact absurd c9 (((lg_cmp_eq _ _).mpr rfl)))
    refine aw_goto X dL_law_1314 (tgt := 2593) (by decide) ?_
    exact T M3 _ _ _ _ _ _ _ (by show k + 2 + 0 + 0 ≤ k + 482; omega) (by show n + 12 + 0 + 0 ≤ n + 9712; omega) hs2 hm2.base ⟨_, ho2⟩
  · refine aw_ifne X dL_law_1299 (tgt := 1314) (by decide) (fun _ => ?_) (fun c9 => by first | exact absurd ((show ¬ nI (spStart τ (xs (i + 1)) (xs (i + 2))).1 = 0 from nI_ne0 (by omega) (by have := le_spStart (τ := τ) (g := (xs (i + 1))) (b := (xs (i + 2))); omega))) c9 | exact absurd c9 ((show ¬ nI (spStart τ (xs (i + 1)) (xs (i + 2))).1 = 0 from nI_ne0 (by omega) (by have := le_spStart (τ := τ) (g := (xs (i + 1))) (b := (xs (i + 2))); omega))))
    refine aw_goto X dL_law_1314 (tgt := 2593) (by decide) ?_
    exact T M3 _ _ _ _ _ _ _ (by show k + 2 + 0 + 0 ≤ k + 482; omega) (by show n + 12 + 0 + 0 ≤ n + 9712; omega) hs2 hm2.base ⟨_, ho2⟩
theorem lc_bytesOf {Z : AZ} {Q : State → Prop} {M : AM} {k n b L x i t : Nat} {xs : Nat → Int32} {τ : TS} {u5 u6 u7 : Option Value} {S : Nat → Int64} (C : lwC Z b L xs) (hi : i + 4 < L) (hL : L < 2 ^ 31) (hk : k + 482 ≤ 601024) (hnn : n + 9712 ≤ 7293034) (hs : isRS (zG Z) M x (x + 299) τ) (hm : isMD (zG Z) M M (x + 271) τ t) (ho : M.1 (x + 298) = some (am_al (zG Z) 1 S)) (T : lwT Z Q k n b x i) : AW Z Q M k n 1317 [some (.ref b), some (.ref x), some (.ref (x + 271)), some (.ref (x + 298)), some (.int (nI i)), u5, u6, u7] [] := by
  obtain ⟨X, hN, -, -, -, hfl, hn, hR⟩ := id C
  refine aw_aload1 X dL_law_1317 ?_
  refine aw_aload0 X dL_law_1318 ?_
  refine aw_iload4 X dL_law_1319 ?_
  refine aw_iconst X dL_law_1321 (v := nI 1) (by decide) ?_
  refine aw_iadd X dL_law_1322 ?_
  first | with_reducible refine aw_int (nI_add _ _) ?_ | skip
  refine aw_sld C dL_law_1323 rfl (by omega) (by omega) ?_
  refine aw_aload0 X dL_law_1324 ?_
  refine aw_iload4 X dL_law_1325 ?_
  refine aw_iconst X dL_law_1327 (v := nI 2) (by decide) ?_
  refine aw_iadd X dL_law_1328 ?_
  first | with_reducible refine aw_int (nI_add _ _) ?_ | skip
  refine aw_sld C dL_law_1329 rfl (by omega) (by omega) ?_
  refine aw_aload3 X dL_law_1330 ?_
  refine aw_callSH X hN (c_L_bytesOf hfl hs ho ⟨by omega, by omega⟩) kL_195 dL_law_1331 rfl rfl (by first | decide | exact Nat.le_of_ble_eq_true rfl) (by rw [hR]; exact ⟨Nat.le_of_ble_eq_true rfl, Nat.le_of_ble_eq_true rfl⟩) (by rw [hR]; exact ⟨by show k + 2 ≤ 601024; omega, by show n + 12 ≤ 7293034; omega⟩) (fun v M1 hv => ?_)
  obtain ⟨rfl, hs1, hk1, S1, ho1, hv1⟩ := hv
  have hm1 := hm.kr hk1 (fun q e => by omega)
  obtain ⟨c1, hat1⟩ := hm1.at
  refine aw_istore5 X dL_law_1334 (by rw [hn]; decide) rfl ?_
  refine aw_aload2 X dL_law_1336 ?_
  refine aw_aload0 X dL_law_1337 ?_
  refine aw_iload4 X dL_law_1338 ?_
  refine aw_iconst X dL_law_1340 (v := nI 1) (by decide) ?_
  refine aw_iadd X dL_law_1341 ?_
  first | with_reducible refine aw_int (nI_add _ _) ?_ | skip
  refine aw_sld C dL_law_1342 rfl (by omega) (by omega) ?_
  refine aw_aload0 X dL_law_1343 ?_
  refine aw_iload4 X dL_law_1344 ?_
  refine aw_iconst X dL_law_1346 (v := nI 2) (by decide) ?_
  refine aw_iadd X dL_law_1347 ?_
  first | with_reducible refine aw_int (nI_add _ _) ?_ | skip
  refine aw_sld C dL_law_1348 rfl (by omega) (by omega) ?_
  refine aw_callV X (c_X9_bytesOf hm1) kL_197 (ci := 10) rfl hat1 dL_law_1349 rfl rfl (by first | decide | exact Nat.le_of_ble_eq_true rfl) (by rw [hR]; exact ⟨Nat.le_of_ble_eq_true rfl, Nat.le_of_ble_eq_true rfl⟩) (by rw [hR]; exact ⟨by show k + 2 + 0 ≤ 601024; omega, by show n + 12 + 0 ≤ 7293034; omega⟩) (fun v M2 hv => ?_)
  obtain ⟨rfl, hm2⟩ := hv
  have hk2 := hm2.ke
  have hs2 := hs1.kr hk2 (fun q e => by omega)
  have ho2 := hk2 _ _ ho1 (by omega)
  obtain ⟨c2, hat2⟩ := hm2.at
  refine aw_istore6 X dL_law_1352 (by rw [hn]; decide) rfl ?_
  refine aw_aload2 X dL_law_1354 ?_
  refine aw_callV X (c_X9_thrown hm2) kL_142 (ci := 10) rfl hat2 dL_law_1355 rfl rfl (by first | decide | exact Nat.le_of_ble_eq_true rfl) (by rw [hR]; exact ⟨Nat.le_of_ble_eq_true rfl, Nat.le_of_ble_eq_true rfl⟩) (by rw [hR]; exact ⟨by show k + 2 + 0 + 0 ≤ 601024; omega, by show n + 12 + 0 + 0 ≤ 7293034; omega⟩) (fun v M3 hv => ?_)
  obtain ⟨rfl, rfl⟩ := hv
  refine aw_iload5 X dL_law_1358 ?_
  refine aw_icmpeq X dL_law_1360 (tgt := 1365) (by decide) (fun _ => ?_) (fun c9 => by first | exact absurd (rfl) c9 | exact absurd c9 (rfl))
  refine aw_iload5 X dL_law_1365 ?_
  by_cases e0 : (spBytes τ (xs (i + 1)) (xs (i + 2))).1 = 0
  · refine aw_ifne X dL_law_1367 (tgt := 1382) (by decide) (fun c9 => by first | exact absurd ((show nI (spBytes τ (xs (i + 1)) (xs (i + 2))).1 = 0 from by rw [e0]; rfl)) c9 | exact absurd c9 ((show nI (spBytes τ (xs (i + 1)) (xs (i + 2))).1 = 0 from by rw [e0]; rfl))) (fun _ => ?_)
    refine aw_aload3 X dL_law_1370 ?_
    refine aw_iconst X dL_law_1371 (v := nI 0) (by decide) ?_
    refine aw_lald X dL_law_1372 ho2 rfl (by omega) (by decide) ?_
    refine aw_long (y := cvI (spBytes τ (xs (i + 1)) (xs (i + 2))).2.1) (hv1 e0) ?_
    refine aw_iload6 X dL_law_1373 ?_
    refine aw_i2l X dL_law_1375 ?_
    refine aw_lcmp X dL_law_1376 ?_
    refine aw_ifeq X dL_law_1377 (tgt := 1382) (by decide) (fun _ => ?_) (fun c9 => by first | exact absurd (((lg_cmp_eq _ _).mpr rfl)) c9 | exact absurd c9 (((lg_cmp_eq _ _).mpr rfl)))
    refine aw_goto X dL_law_1382 (tgt := 2593) (by decide) ?_
    exact T M3 _ _ _ _ _ _ _ (by show k + 2 + 0 + 0 ≤ k + 482; omega) (by show n + 12 + 0 + 0 ≤ n + 9712; omega) hs2 hm2.base ⟨_, ho2⟩
  · refine aw_ifne X dL_law_1367 (tgt := 1382) (by decide) (fun _ => ?_) (fun c9 => by first | exact absurd ((show ¬ nI (spBytes τ (xs (i + 1)) (xs (i + 2))).1 = 0 from nI_ne0 (by omega) (by have := le_spBytes (τ := τ) (g := (xs (i + 1))) (b := (xs (i + 2))); omega))) c9 | exact absurd c9 ((show ¬ nI (spBytes τ (xs (i + 1)) (xs (i + 2))).1 = 0 from nI_ne0 (by omega) (by have := le_spBytes (τ := τ) (g := (xs (i + 1))) (b := (xs (i + 2))); omega))))
    refine aw_goto X dL_law_1382 (tgt := 2593) (by decide) ?_
    exact T M3 _ _ _ _ _ _ _ (by show k + 2 + 0 + 0 ≤ k + 482; omega) (by show n + 12 + 0 + 0 ≤ n + 9712; omega) hs2 hm2.base ⟨_, ho2⟩
theorem lc_cost {Z : AZ} {Q : State → Prop} {M : AM} {k n b L x i t : Nat} {xs : Nat → Int32} {τ : TS} {u5 u6 u7 : Option Value} {S : Nat → Int64} (C : lwC Z b L xs) (hi : i + 4 < L) (hL : L < 2 ^ 31) (hk : k + 482 ≤ 601024) (hnn : n + 9712 ≤ 7293034) (hs : isRS (zG Z) M x (x + 299) τ) (hm : isMD (zG Z) M M (x + 271) τ t) (ho : M.1 (x + 298) = some (am_al (zG Z) 1 S)) (T : lwT Z Q k n b x i) : AW Z Q M k n 1385 [some (.ref b), some (.ref x), some (.ref (x + 271)), some (.ref (x + 298)), some (.int (nI i)), u5, u6, u7] [] := by
  obtain ⟨X, hN, -, -, -, hfl, hn, hR⟩ := id C
  refine aw_aload1 X dL_law_1385 ?_
  refine aw_aload0 X dL_law_1386 ?_
  refine aw_iload4 X dL_law_1387 ?_
  refine aw_iconst X dL_law_1389 (v := nI 1) (by decide) ?_
  refine aw_iadd X dL_law_1390 ?_
  first | with_reducible refine aw_int (nI_add _ _) ?_ | skip
  refine aw_sld C dL_law_1391 rfl (by omega) (by omega) ?_
  refine aw_aload3 X dL_law_1392 ?_
  refine aw_callSH X hN (c_L_cost hfl hs ho ⟨by omega, by omega⟩) kL_198 dL_law_1393 rfl rfl (by first | decide | exact Nat.le_of_ble_eq_true rfl) (by rw [hR]; exact ⟨Nat.le_of_ble_eq_true rfl, Nat.le_of_ble_eq_true rfl⟩) (by rw [hR]; exact ⟨by show k + 1 ≤ 601024; omega, by show n + 6 ≤ 7293034; omega⟩) (fun v M1 hv => ?_)
  obtain ⟨rfl, hs1, hk1, S1, ho1, hv1⟩ := hv
  have hm1 := hm.kr hk1 (fun q e => by omega)
  obtain ⟨c1, hat1⟩ := hm1.at
  refine aw_istore5 X dL_law_1396 (by rw [hn]; decide) rfl ?_
  refine aw_aload2 X dL_law_1398 ?_
  refine aw_aload0 X dL_law_1399 ?_
  refine aw_iload4 X dL_law_1400 ?_
  refine aw_iconst X dL_law_1402 (v := nI 1) (by decide) ?_
  refine aw_iadd X dL_law_1403 ?_
  first | with_reducible refine aw_int (nI_add _ _) ?_ | skip
  refine aw_sld C dL_law_1404 rfl (by omega) (by omega) ?_
  refine aw_callV X (c_X9_cost hm1) kL_200 (ci := 10) rfl hat1 dL_law_1405 rfl rfl (by first | decide | exact Nat.le_of_ble_eq_true rfl) (by rw [hR]; exact ⟨Nat.le_of_ble_eq_true rfl, Nat.le_of_ble_eq_true rfl⟩) (by rw [hR]; exact ⟨by show k + 1 + 0 ≤ 601024; omega, by show n + 6 + 0 ≤ 7293034; omega⟩) (fun v M2 hv => ?_)
  obtain ⟨rfl, hm2⟩ := hv
  have hk2 := hm2.ke
  have hs2 := hs1.kr hk2 (fun q e => by omega)
  have ho2 := hk2 _ _ ho1 (by omega)
  obtain ⟨c2, hat2⟩ := hm2.at
  refine aw_istore6 X dL_law_1408 (by rw [hn]; decide) rfl ?_
  refine aw_aload2 X dL_law_1410 ?_
  refine aw_callV X (c_X9_thrown hm2) kL_142 (ci := 10) rfl hat2 dL_law_1411 rfl rfl (by first | decide | exact Nat.le_of_ble_eq_true rfl) (by rw [hR]; exact ⟨Nat.le_of_ble_eq_true rfl, Nat.le_of_ble_eq_true rfl⟩) (by rw [hR]; exact ⟨by show k + 1 + 0 + 0 ≤ 601024; omega, by show n + 6 + 0 + 0 ≤ 7293034; omega⟩) (fun v M3 hv => ?_)
  obtain ⟨rfl, rfl⟩ := hv
  refine aw_iload5 X dL_law_1414 ?_
  refine aw_icmpeq X dL_law_1416 (tgt := 1421) (by decide) (fun _ => ?_) (fun c9 => by first | exact absurd (rfl) c9 | exact absurd c9 (rfl))
  refine aw_iload5 X dL_law_1421 ?_
  by_cases e0 : (spCost τ (xs (i + 1))).1 = 0
  · refine aw_ifne X dL_law_1423 (tgt := 1438) (by decide) (fun c9 => by first | exact absurd ((show nI (spCost τ (xs (i + 1))).1 = 0 from by rw [e0]; rfl)) c9 | exact absurd c9 ((show nI (spCost τ (xs (i + 1))).1 = 0 from by rw [e0]; rfl))) (fun _ => ?_)
    refine aw_aload3 X dL_law_1426 ?_
    refine aw_iconst X dL_law_1427 (v := nI 0) (by decide) ?_
    refine aw_lald X dL_law_1428 ho2 rfl (by omega) (by decide) ?_
    refine aw_long (y := cvI (spCost τ (xs (i + 1))).2.1) (hv1 e0) ?_
    refine aw_iload6 X dL_law_1429 ?_
    refine aw_i2l X dL_law_1431 ?_
    refine aw_lcmp X dL_law_1432 ?_
    refine aw_ifeq X dL_law_1433 (tgt := 1438) (by decide) (fun _ => ?_) (fun c9 => by first | exact absurd (((lg_cmp_eq _ _).mpr rfl)) c9 | exact absurd c9 (((lg_cmp_eq _ _).mpr rfl)))
    refine aw_goto X dL_law_1438 (tgt := 2593) (by decide) ?_
    exact T M3 _ _ _ _ _ _ _ (by show k + 1 + 0 + 0 ≤ k + 482; omega) (by show n + 6 + 0 + 0 ≤ n + 9712; omega) hs2 hm2.base ⟨_, ho2⟩
  · refine aw_ifne X dL_law_1423 (tgt := 1438) (by decide) (fun _ => ?_) (fun c9 => by first | exact absurd ((show ¬ nI (spCost τ (xs (i + 1))).1 = 0 from nI_ne0 (by omega) (by have := le_spCost (τ := τ) (g := (xs (i + 1))); omega))) c9 | exact absurd c9 ((show ¬ nI (spCost τ (xs (i + 1))).1 = 0 from nI_ne0 (by omega) (by have := le_spCost (τ := τ) (g := (xs (i + 1))); omega))))
    refine aw_goto X dL_law_1438 (tgt := 2593) (by decide) ?_
    exact T M3 _ _ _ _ _ _ _ (by show k + 1 + 0 + 0 ≤ k + 482; omega) (by show n + 6 + 0 + 0 ≤ n + 9712; omega) hs2 hm2.base ⟨_, ho2⟩
theorem lc_alarms {Z : AZ} {Q : State → Prop} {M : AM} {k n b L x i t : Nat} {xs : Nat → Int32} {τ : TS} {u5 u6 u7 : Option Value} {S : Nat → Int64} (C : lwC Z b L xs) (hi : i + 4 < L) (hL : L < 2 ^ 31) (hk : k + 482 ≤ 601024) (hnn : n + 9712 ≤ 7293034) (hs : isRS (zG Z) M x (x + 299) τ) (hm : isMD (zG Z) M M (x + 271) τ t) (ho : M.1 (x + 298) = some (am_al (zG Z) 1 S)) (T : lwT Z Q k n b x i) : AW Z Q M k n 1441 [some (.ref b), some (.ref x), some (.ref (x + 271)), some (.ref (x + 298)), some (.int (nI i)), u5, u6, u7] [] := by
  obtain ⟨X, hN, -, -, -, hfl, hn, hR⟩ := id C
  refine aw_aload1 X dL_law_1441 ?_
  refine aw_aload0 X dL_law_1442 ?_
  refine aw_iload4 X dL_law_1443 ?_
  refine aw_iconst X dL_law_1445 (v := nI 1) (by decide) ?_
  refine aw_iadd X dL_law_1446 ?_
  first | with_reducible refine aw_int (nI_add _ _) ?_ | skip
  refine aw_sld C dL_law_1447 rfl (by omega) (by omega) ?_
  refine aw_aload3 X dL_law_1448 ?_
  refine aw_callSH X hN (c_L_alarms hfl hs ho ⟨by omega, by omega⟩) kL_201 dL_law_1449 rfl rfl (by first | decide | exact Nat.le_of_ble_eq_true rfl) (by rw [hR]; exact ⟨Nat.le_of_ble_eq_true rfl, Nat.le_of_ble_eq_true rfl⟩) (by rw [hR]; exact ⟨by show k + 1 ≤ 601024; omega, by show n + 6 ≤ 7293034; omega⟩) (fun v M1 hv => ?_)
  obtain ⟨rfl, hs1, hk1, S1, ho1, hv1⟩ := hv
  have hm1 := hm.kr hk1 (fun q e => by omega)
  obtain ⟨c1, hat1⟩ := hm1.at
  refine aw_istore5 X dL_law_1452 (by rw [hn]; decide) rfl ?_
  refine aw_aload2 X dL_law_1454 ?_
  refine aw_aload0 X dL_law_1455 ?_
  refine aw_iload4 X dL_law_1456 ?_
  refine aw_iconst X dL_law_1458 (v := nI 1) (by decide) ?_
  refine aw_iadd X dL_law_1459 ?_
  first | with_reducible refine aw_int (nI_add _ _) ?_ | skip
  refine aw_sld C dL_law_1460 rfl (by omega) (by omega) ?_
  refine aw_callV X (c_X9_alarms hm1) kL_203 (ci := 10) rfl hat1 dL_law_1461 rfl rfl (by first | decide | exact Nat.le_of_ble_eq_true rfl) (by rw [hR]; exact ⟨Nat.le_of_ble_eq_true rfl, Nat.le_of_ble_eq_true rfl⟩) (by rw [hR]; exact ⟨by show k + 1 + 0 ≤ 601024; omega, by show n + 6 + 0 ≤ 7293034; omega⟩) (fun v M2 hv => ?_)
  obtain ⟨rfl, hm2⟩ := hv
  have hk2 := hm2.ke
  have hs2 := hs1.kr hk2 (fun q e => by omega)
  have ho2 := hk2 _ _ ho1 (by omega)
  obtain ⟨c2, hat2⟩ := hm2.at
  refine aw_istore6 X dL_law_1464 (by rw [hn]; decide) rfl ?_
  refine aw_aload2 X dL_law_1466 ?_
  refine aw_callV X (c_X9_thrown hm2) kL_142 (ci := 10) rfl hat2 dL_law_1467 rfl rfl (by first | decide | exact Nat.le_of_ble_eq_true rfl) (by rw [hR]; exact ⟨Nat.le_of_ble_eq_true rfl, Nat.le_of_ble_eq_true rfl⟩) (by rw [hR]; exact ⟨by show k + 1 + 0 + 0 ≤ 601024; omega, by show n + 6 + 0 + 0 ≤ 7293034; omega⟩) (fun v M3 hv => ?_)
  obtain ⟨rfl, rfl⟩ := hv
  refine aw_iload5 X dL_law_1470 ?_
  refine aw_icmpeq X dL_law_1472 (tgt := 1477) (by decide) (fun _ => ?_) (fun c9 => by first | exact absurd (rfl) c9 | exact absurd c9 (rfl))
  refine aw_iload5 X dL_law_1477 ?_
  by_cases e0 : (spAlarms τ (xs (i + 1))).1 = 0
  · refine aw_ifne X dL_law_1479 (tgt := 1494) (by decide) (fun c9 => by first | exact absurd ((show nI (spAlarms τ (xs (i + 1))).1 = 0 from by rw [e0]; rfl)) c9 | exact absurd c9 ((show nI (spAlarms τ (xs (i + 1))).1 = 0 from by rw [e0]; rfl))) (fun _ => ?_)
    refine aw_aload3 X dL_law_1482 ?_
    refine aw_iconst X dL_law_1483 (v := nI 0) (by decide) ?_
    refine aw_lald X dL_law_1484 ho2 rfl (by omega) (by decide) ?_
    refine aw_long (y := cvI (spAlarms τ (xs (i + 1))).2.1) (hv1 e0) ?_
    refine aw_iload6 X dL_law_1485 ?_
    refine aw_i2l X dL_law_1487 ?_
    refine aw_lcmp X dL_law_1488 ?_
    refine aw_ifeq X dL_law_1489 (tgt := 1494) (by decide) (fun _ => ?_) (fun c9 => by first | exact absurd (((lg_cmp_eq _ _).mpr rfl)) c9 | exact absurd c9 (((lg_cmp_eq _ _).mpr rfl)))
    refine aw_goto X dL_law_1494 (tgt := 2593) (by decide) ?_
    exact T M3 _ _ _ _ _ _ _ (by show k + 1 + 0 + 0 ≤ k + 482; omega) (by show n + 6 + 0 + 0 ≤ n + 9712; omega) hs2 hm2.base ⟨_, ho2⟩
  · refine aw_ifne X dL_law_1479 (tgt := 1494) (by decide) (fun _ => ?_) (fun c9 => by first | exact absurd ((show ¬ nI (spAlarms τ (xs (i + 1))).1 = 0 from nI_ne0 (by omega) (by have := le_spAlarms (τ := τ) (g := (xs (i + 1))); omega))) c9 | exact absurd c9 ((show ¬ nI (spAlarms τ (xs (i + 1))).1 = 0 from nI_ne0 (by omega) (by have := le_spAlarms (τ := τ) (g := (xs (i + 1))); omega))))
    refine aw_goto X dL_law_1494 (tgt := 2593) (by decide) ?_
    exact T M3 _ _ _ _ _ _ _ (by show k + 1 + 0 + 0 ≤ k + 482; omega) (by show n + 6 + 0 + 0 ≤ n + 9712; omega) hs2 hm2.base ⟨_, ho2⟩
theorem lc_apply {Z : AZ} {Q : State → Prop} {M : AM} {k n b L x i t : Nat} {xs : Nat → Int32} {τ : TS} {u5 u6 u7 : Option Value} {S : Nat → Int64} (C : lwC Z b L xs) (hi : i + 4 < L) (hL : L < 2 ^ 31) (hk : k + 482 ≤ 601024) (hnn : n + 9712 ≤ 7293034) (hs : isRS (zG Z) M x (x + 299) τ) (hm : isMD (zG Z) M M (x + 271) τ t) (ho : M.1 (x + 298) = some (am_al (zG Z) 1 S)) (T : lwT Z Q k n b x i) : AW Z Q M k n 1497 [some (.ref b), some (.ref x), some (.ref (x + 271)), some (.ref (x + 298)), some (.int (nI i)), u5, u6, u7] [] := by
  obtain ⟨X, hN, -, -, -, hfl, hn, hR⟩ := id C
  refine aw_aload1 X dL_law_1497 ?_
  refine aw_aload0 X dL_law_1498 ?_
  refine aw_iload4 X dL_law_1499 ?_
  refine aw_iconst X dL_law_1501 (v := nI 1) (by decide) ?_
  refine aw_iadd X dL_law_1502 ?_
  first | with_reducible refine aw_int (nI_add _ _) ?_ | skip
  refine aw_sld C dL_law_1503 rfl (by omega) (by omega) ?_
  refine aw_aload0 X dL_law_1504 ?_
  refine aw_iload4 X dL_law_1505 ?_
  refine aw_iconst X dL_law_1507 (v := nI 2) (by decide) ?_
  refine aw_iadd X dL_law_1508 ?_
  first | with_reducible refine aw_int (nI_add _ _) ?_ | skip
  refine aw_sld C dL_law_1509 rfl (by omega) (by omega) ?_
  refine aw_aload0 X dL_law_1510 ?_
  refine aw_iload4 X dL_law_1511 ?_
  refine aw_iconst X dL_law_1513 (v := nI 3) (by decide) ?_
  refine aw_iadd X dL_law_1514 ?_
  first | with_reducible refine aw_int (nI_add _ _) ?_ | skip
  refine aw_sld C dL_law_1515 rfl (by omega) (by omega) ?_
  refine aw_aload3 X dL_law_1516 ?_
  refine aw_callSH X hN (c_L_apply hfl hs ho ⟨by omega, by omega⟩) kL_204 dL_law_1517 rfl rfl (by first | decide | exact Nat.le_of_ble_eq_true rfl) (by rw [hR]; exact ⟨Nat.le_of_ble_eq_true rfl, Nat.le_of_ble_eq_true rfl⟩) (by rw [hR]; exact ⟨by show k + 4 ≤ 601024; omega, by show n + 24 ≤ 7293034; omega⟩) (fun v M1 hv => ?_)
  obtain ⟨rfl, hs1, hk1, S1, ho1, hv1⟩ := hv
  have hm1 := hm.kr hk1 (fun q e => by omega)
  obtain ⟨c1, hat1⟩ := hm1.at
  refine aw_istore5 X dL_law_1520 (by rw [hn]; decide) rfl ?_
  refine aw_aload2 X dL_law_1522 ?_
  refine aw_aload0 X dL_law_1523 ?_
  refine aw_iload4 X dL_law_1524 ?_
  refine aw_iconst X dL_law_1526 (v := nI 1) (by decide) ?_
  refine aw_iadd X dL_law_1527 ?_
  first | with_reducible refine aw_int (nI_add _ _) ?_ | skip
  refine aw_sld C dL_law_1528 rfl (by omega) (by omega) ?_
  refine aw_aload0 X dL_law_1529 ?_
  refine aw_iload4 X dL_law_1530 ?_
  refine aw_iconst X dL_law_1532 (v := nI 2) (by decide) ?_
  refine aw_iadd X dL_law_1533 ?_
  first | with_reducible refine aw_int (nI_add _ _) ?_ | skip
  refine aw_sld C dL_law_1534 rfl (by omega) (by omega) ?_
  refine aw_aload0 X dL_law_1535 ?_
  refine aw_iload4 X dL_law_1536 ?_
  refine aw_iconst X dL_law_1538 (v := nI 3) (by decide) ?_
  refine aw_iadd X dL_law_1539 ?_
  first | with_reducible refine aw_int (nI_add _ _) ?_ | skip
  refine aw_sld C dL_law_1540 rfl (by omega) (by omega) ?_
  refine aw_callV X (c_X9_apply hm1) kL_206 (ci := 10) rfl hat1 dL_law_1541 rfl rfl (by first | decide | exact Nat.le_of_ble_eq_true rfl) (by rw [hR]; exact ⟨Nat.le_of_ble_eq_true rfl, Nat.le_of_ble_eq_true rfl⟩) (by rw [hR]; exact ⟨by show k + 4 + 0 ≤ 601024; omega, by show n + 24 + 0 ≤ 7293034; omega⟩) (fun v M2 hv => ?_)
  obtain ⟨rfl, hm2⟩ := hv
  have hk2 := hm2.ke
  have hs2 := hs1.kr hk2 (fun q e => by omega)
  have ho2 := hk2 _ _ ho1 (by omega)
  obtain ⟨c2, hat2⟩ := hm2.at
  refine aw_istore6 X dL_law_1544 (by rw [hn]; decide) rfl ?_
  refine aw_aload2 X dL_law_1546 ?_
  refine aw_callV X (c_X9_thrown hm2) kL_142 (ci := 10) rfl hat2 dL_law_1547 rfl rfl (by first | decide | exact Nat.le_of_ble_eq_true rfl) (by rw [hR]; exact ⟨Nat.le_of_ble_eq_true rfl, Nat.le_of_ble_eq_true rfl⟩) (by rw [hR]; exact ⟨by show k + 4 + 0 + 0 ≤ 601024; omega, by show n + 24 + 0 + 0 ≤ 7293034; omega⟩) (fun v M3 hv => ?_)
  obtain ⟨rfl, rfl⟩ := hv
  refine aw_iload5 X dL_law_1550 ?_
  refine aw_icmpeq X dL_law_1552 (tgt := 1557) (by decide) (fun _ => ?_) (fun c9 => by first | exact absurd (rfl) c9 | exact absurd c9 (rfl))
  refine aw_iload5 X dL_law_1557 ?_
  by_cases e0 : (spApply τ (xs (i + 1)) (xs (i + 2)) (xs (i + 3))).1 = 0
  · refine aw_ifne X dL_law_1559 (tgt := 1574) (by decide) (fun c9 => by first | exact absurd ((show nI (spApply τ (xs (i + 1)) (xs (i + 2)) (xs (i + 3))).1 = 0 from by rw [e0]; rfl)) c9 | exact absurd c9 ((show nI (spApply τ (xs (i + 1)) (xs (i + 2)) (xs (i + 3))).1 = 0 from by rw [e0]; rfl))) (fun _ => ?_)
    refine aw_aload3 X dL_law_1562 ?_
    refine aw_iconst X dL_law_1563 (v := nI 0) (by decide) ?_
    refine aw_lald X dL_law_1564 ho2 rfl (by omega) (by decide) ?_
    refine aw_long (y := cvI (spApply τ (xs (i + 1)) (xs (i + 2)) (xs (i + 3))).2.1) (hv1 e0) ?_
    refine aw_iload6 X dL_law_1565 ?_
    refine aw_i2l X dL_law_1567 ?_
    refine aw_lcmp X dL_law_1568 ?_
    refine aw_ifeq X dL_law_1569 (tgt := 1574) (by decide) (fun _ => ?_) (fun c9 => by first | exact absurd (((lg_cmp_eq _ _).mpr rfl)) c9 | exact absurd c9 (((lg_cmp_eq _ _).mpr rfl)))
    refine aw_goto X dL_law_1574 (tgt := 2593) (by decide) ?_
    exact T M3 _ _ _ _ _ _ _ (by show k + 4 + 0 + 0 ≤ k + 482; omega) (by show n + 24 + 0 + 0 ≤ n + 9712; omega) hs2 hm2.base ⟨_, ho2⟩
  · refine aw_ifne X dL_law_1559 (tgt := 1574) (by decide) (fun _ => ?_) (fun c9 => by first | exact absurd ((show ¬ nI (spApply τ (xs (i + 1)) (xs (i + 2)) (xs (i + 3))).1 = 0 from nI_ne0 (by omega) (by have := le_spApply (τ := τ) (d := (xs (i + 1))) (g := (xs (i + 2))) (f := (xs (i + 3))); omega))) c9 | exact absurd c9 ((show ¬ nI (spApply τ (xs (i + 1)) (xs (i + 2)) (xs (i + 3))).1 = 0 from nI_ne0 (by omega) (by have := le_spApply (τ := τ) (d := (xs (i + 1))) (g := (xs (i + 2))) (f := (xs (i + 3))); omega))))
    refine aw_goto X dL_law_1574 (tgt := 2593) (by decide) ?_
    exact T M3 _ _ _ _ _ _ _ (by show k + 4 + 0 + 0 ≤ k + 482; omega) (by show n + 24 + 0 + 0 ≤ n + 9712; omega) hs2 hm2.base ⟨_, ho2⟩
