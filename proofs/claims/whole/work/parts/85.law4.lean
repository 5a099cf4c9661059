theorem lc_cuts {Z : AZ} {Q : State → Prop} {M : AM} {k n b L x i t : Nat} {xs : Nat → Int32} {τ : TS} {u5 u6 u7 : Option Value} {S : Nat → Int64} (C : lwC Z b L xs) (hi : i + 4 < L) (hL : L < 2 ^ 31) (hk : k + 482 ≤ 601024) (hnn : n + 9712 ≤ 7293034) (hs : isRS (zG Z) M x (x + 299) τ) (hm : isMD (zG Z) M M (x + 271) τ t) (ho : M.1 (x + 298) = some (am_al (zG Z) 1 S)) (T : lwT Z Q k n b x i) : AW Z Q M k n 2122 [some (.ref b), some (.ref x), some (.ref (x + 271)), some (.ref (x + 298)), some (.int (nI i)), u5, u6, u7] [] := by
  obtain ⟨X, hN, -, -, -, hfl, hn, hR⟩ := id C
  refine aw_aload1 X dL_law_2122 ?_
  refine aw_aload0 X dL_law_2123 ?_
  refine aw_iload4 X dL_law_2124 ?_
  refine aw_iconst X dL_law_2126 (v := nI 1) (by decide) ?_
  refine aw_iadd X dL_law_2127 ?_
  first | with_reducible refine aw_int (nI_add _ _) ?_ | skip
  refine aw_sld C dL_law_2128 rfl (by omega) (by omega) ?_
  refine aw_aload0 X dL_law_2129 ?_
  refine aw_iload4 X dL_law_2130 ?_
  refine aw_iconst X dL_law_2132 (v := nI 2) (by decide) ?_
  refine aw_iadd X dL_law_2133 ?_
  first | with_reducible refine aw_int (nI_add _ _) ?_ | skip
  refine aw_sld C dL_law_2134 rfl (by omega) (by omega) ?_
  refine aw_aload0 X dL_law_2135 ?_
  refine aw_iload4 X dL_law_2136 ?_
  refine aw_iconst X dL_law_2138 (v := nI 3) (by decide) ?_
  refine aw_iadd X dL_law_2139 ?_
  first | with_reducible refine aw_int (nI_add _ _) ?_ | skip
  refine aw_sld C dL_law_2140 rfl (by omega) (by omega) ?_
  refine aw_callSH X hN (c_L_cuts hfl hs) kL_238 dL_law_2141 rfl rfl (by first | decide | exact Nat.le_of_ble_eq_true rfl) (by rw [hR]; exact ⟨Nat.le_of_ble_eq_true rfl, Nat.le_of_ble_eq_true rfl⟩) (by rw [hR]; exact ⟨by show k + 3 ≤ 601024; omega, by show n + 18 ≤ 7293034; omega⟩) (fun v M1 hv => ?_)
  obtain ⟨rfl, hs1, hk1⟩ := hv
  have ho1 := hk1 _ _ ho (by omega)
  have hm1 := hm.kr hk1 (fun q e => by omega)
  obtain ⟨c1, hat1⟩ := hm1.at
  refine aw_istore5 X dL_law_2144 (by rw [hn]; decide) rfl ?_
  refine aw_aload2 X dL_law_2146 ?_
  refine aw_aload0 X dL_law_2147 ?_
  refine aw_iload4 X dL_law_2148 ?_
  refine aw_iconst X dL_law_2150 (v := nI 1) (by decide) ?_
  refine aw_iadd X dL_law_2151 ?_
  first | with_reducible refine aw_int (nI_add _ _) ?_ | skip
  refine aw_sld C dL_law_2152 rfl (by omega) (by omega) ?_
  refine aw_aload0 X dL_law_2153 ?_
  refine aw_iload4 X dL_law_2154 ?_
  refine aw_iconst X dL_law_2156 (v := nI 2) (by decide) ?_
  refine aw_iadd X dL_law_2157 ?_
  first | with_reducible refine aw_int (nI_add _ _) ?_ | skip
  refine aw_sld C dL_law_2158 rfl (by omega) (by omega) ?_
  refine aw_aload0 X dL_law_2159 ?_
  refine aw_iload4 X dL_law_2160 ?_
  refine aw_iconst X dL_law_2162 (v := nI 3) (by decide) ?_
  refine aw_iadd X dL_law_2163 ?_
  first | with_reducible refine aw_int (nI_add _ _) ?_ | skip
  refine aw_sld C dL_law_2164 rfl (by omega) (by omega) ?_
  refine aw_callV X (c_X9_cuts hm1) kL_241 (ci := 10) rfl hat1 dL_law_2165 rfl rfl (by first | decide | exact Nat.le_of_ble_eq_true rfl) (by rw [hR]; exact ⟨Nat.le_of_ble_eq_true rfl, Nat.le_of_ble_eq_true rfl⟩) (by rw [hR]; exact ⟨by show k + 3 + 0 ≤ 601024; omega, by show n + 18 + 0 ≤ 7293034; omega⟩) (fun v M2 hv => ?_)
  obtain ⟨rfl, hm2⟩ := hv
  have hk2 := hm2.ke
  have hs2 := hs1.kr hk2 (fun q e => by omega)
  have ho2 := hk2 _ _ ho1 (by omega)
  obtain ⟨c2, hat2⟩ := hm2.at
  refine aw_aload2 X dL_law_2168 ?_
  refine aw_callV X (c_X9_thrown hm2) kL_142 (ci := 10) rfl hat2 dL_law_2169 rfl rfl (by first | decide | exact Nat.le_of_ble_eq_true rfl) (by rw [hR]; exact ⟨Nat.le_of_ble_eq_true rfl, Nat.le_of_ble_eq_true rfl⟩) (by rw [hR]; exact ⟨by show k + 3 + 0 + 0 ≤ 601024; omega, by show n + 18 + 0 + 0 ≤ 7293034; omega⟩) (fun v M3 hv => ?_)
  obtain ⟨rfl, rfl⟩ := hv
  refine aw_iload5 X dL_law_2172 ?_
  refine aw_icmpeq X dL_law_2174 (tgt := 2179) (by decide) (fun _ => ?_) (fun c9 => by first | exact absurd (rfl) c9 | exact absurd c9 (rfl))
  refine aw_goto X dL_law_2179 (tgt := 2593) (by decide) ?_
  exact T M3 _ _ _ _ _ _ _ (by show k + 3 + 0 + 0 ≤ k + 482; omega) (by show n + 18 + 0 + 0 ≤ n + 9712; omega) hs2 hm2.base ⟨_, ho2⟩
theorem lc_store {Z : AZ} {Q : State → Prop} {M : AM} {k n b L x i t : Nat} {xs : Nat → Int32} {τ : TS} {u5 u6 u7 : Option Value} {S : Nat → Int64} (C : lwC Z b L xs) (hi : i + 4 < L) (hL : L < 2 ^ 31) (hk : k + 482 ≤ 601024) (hnn : n + 9712 ≤ 7293034) (hs : isRS (zG Z) M x (x + 299) τ) (hm : isMD (zG Z) M M (x + 271) τ t) (ho : M.1 (x + 298) = some (am_al (zG Z) 1 S)) (T : lwT Z Q k n b x i) : AW Z Q M k n 2182 [some (.ref b), some (.ref x), some (.ref (x + 271)), some (.ref (x + 298)), some (.int (nI i)), u5, u6, u7] [] := by
  obtain ⟨X, hN, -, -, -, hfl, hn, hR⟩ := id C
  refine aw_aload1 X dL_law_2182 ?_
  refine aw_aload0 X dL_law_2183 ?_
  refine aw_iload4 X dL_law_2184 ?_
  refine aw_iconst X dL_law_2186 (v := nI 1) (by decide) ?_
  refine aw_iadd X dL_law_2187 ?_
  first | with_reducible refine aw_int (nI_add _ _) ?_ | skip
  refine aw_sld C dL_law_2188 rfl (by omega) (by omega) ?_
  refine aw_aload3 X dL_law_2189 ?_
  refine aw_callSH X hN (c_L_store hfl hs ⟨_, ho⟩ ho ⟨by omega, by omega⟩) kL_242 dL_law_2190 rfl rfl (by first | decide | exact Nat.le_of_ble_eq_true rfl) (by rw [hR]; exact ⟨Nat.le_of_ble_eq_true rfl, Nat.le_of_ble_eq_true rfl⟩) (by rw [hR]; exact ⟨by show k + 482 ≤ 601024; omega, by show n + 9712 ≤ 7293034; omega⟩) (fun v M1 hv => ?_)
  obtain ⟨rfl, hs1, hk1, S1, ho1, hv1⟩ := hv
  have hm1 := hm.kr hk1 (fun q e => by omega)
  obtain ⟨c1, hat1⟩ := hm1.at
  refine aw_istore5 X dL_law_2193 (by rw [hn]; decide) rfl ?_
  refine aw_aload2 X dL_law_2195 ?_
  refine aw_aload0 X dL_law_2196 ?_
  refine aw_iload4 X dL_law_2197 ?_
  refine aw_iconst X dL_law_2199 (v := nI 1) (by decide) ?_
  refine aw_iadd X dL_law_2200 ?_
  first | with_reducible refine aw_int (nI_add _ _) ?_ | skip
  refine aw_sld C dL_law_2201 rfl (by omega) (by omega) ?_
  refine aw_callV X (c_X9_store hm1) kL_244 (ci := 10) rfl hat1 dL_law_2202 rfl rfl (by first | decide | exact Nat.le_of_ble_eq_true rfl) (by rw [hR]; exact ⟨Nat.le_of_ble_eq_true rfl, Nat.le_of_ble_eq_true rfl⟩) (by rw [hR]; exact ⟨by show k + 482 + 0 ≤ 601024; omega, by show n + 9712 + 0 ≤ 7293034; omega⟩) (fun v M2 hv => ?_)
  obtain ⟨rfl, hm2⟩ := hv
  have hk2 := hm2.ke
  have hs2 := hs1.kr hk2 (fun q e => by omega)
  have ho2 := hk2 _ _ ho1 (by omega)
  obtain ⟨c2, hat2⟩ := hm2.at
  refine aw_istore6 X dL_law_2205 (by rw [hn]; decide) rfl ?_
  refine aw_aload2 X dL_law_2207 ?_
  refine aw_callV X (c_X9_thrown hm2) kL_142 (ci := 10) rfl hat2 dL_law_2208 rfl rfl (by first | decide | exact Nat.le_of_ble_eq_true rfl) (by rw [hR]; exact ⟨Nat.le_of_ble_eq_true rfl, Nat.le_of_ble_eq_true rfl⟩) (by rw [hR]; exact ⟨by show k + 482 + 0 + 0 ≤ 601024; omega, by show n + 9712 + 0 + 0 ≤ 7293034; omega⟩) (fun v M3 hv => ?_)
  obtain ⟨rfl, rfl⟩ := hv
  refine aw_iload5 X dL_law_2211 ?_
  refine aw_icmpeq X dL_law_2213 (tgt := 2218) (by decide) (fun _ => ?_) (fun c9 => by first | exact absurd (rfl) c9 | exact absurd c9 (rfl))
  refine aw_iload5 X dL_law_2218 ?_
  by_cases e0 : (spStore τ (xs (i + 1))).1 = 0
  · refine aw_ifne X dL_law_2220 (tgt := 2235) (by decide) (fun c9 => by first | exact absurd ((show nI (spStore τ (xs (i + 1))).1 = 0 from by rw [e0]; rfl)) c9 | exact absurd c9 ((show nI (spStore τ (xs (i + 1))).1 = 0 from by rw [e0]; rfl))) (fun _ => ?_)
    refine aw_aload3 X dL_law_2223 ?_
    refine aw_iconst X dL_law_2224 (v := nI 0) (by decide) ?_
    refine aw_lald X dL_law_2225 ho2 rfl (by omega) (by decide) ?_
    refine aw_long (y := cvI (spStore τ (xs (i + 1))).2.1) (hv1 e0) ?_
    refine aw_iload6 X dL_law_2226 ?_
    refine aw_i2l X dL_law_2228 ?_
    refine aw_lcmp X dL_law_2229 ?_
    refine aw_ifeq X dL_law_2230 (tgt := 2235) (by decide) (fun _ => ?_) (fun c9 => by first | exact absurd (((lg_cmp_eq _ _).mpr rfl)) c9 | exact absurd c9 (((lg_cmp_eq _ _).mpr rfl)))
    refine aw_goto X dL_law_2235 (tgt := 2593) (by decide) ?_
    exact T M3 _ _ _ _ _ _ _ (by show k + 482 + 0 + 0 ≤ k + 482; omega) (by show n + 9712 + 0 + 0 ≤ n + 9712; omega) hs2 hm2.base ⟨_, ho2⟩
  · refine aw_ifne X dL_law_2220 (tgt := 2235) (by decide) (fun _ => ?_) (fun c9 => by first | exact absurd ((show ¬ nI (spStore τ (xs (i + 1))).1 = 0 from nI_ne0 (by omega) (by have := le_spStore (τ := τ) (f := (xs (i + 1))); omega))) c9 | exact absurd c9 ((show ¬ nI (spStore τ (xs (i + 1))).1 = 0 from nI_ne0 (by omega) (by have := le_spStore (τ := τ) (f := (xs (i + 1))); omega))))
    refine aw_goto X dL_law_2235 (tgt := 2593) (by decide) ?_
    exact T M3 _ _ _ _ _ _ _ (by show k + 482 + 0 + 0 ≤ k + 482; omega) (by show n + 9712 + 0 + 0 ≤ n + 9712; omega) hs2 hm2.base ⟨_, ho2⟩
theorem lc_release {Z : AZ} {Q : State → Prop} {M : AM} {k n b L x i t : Nat} {xs : Nat → Int32} {τ : TS} {u5 u6 u7 : Option Value} {S : Nat → Int64} (C : lwC Z b L xs) (hi : i + 4 < L) (hL : L < 2 ^ 31) (hk : k + 482 ≤ 601024) (hnn : n + 9712 ≤ 7293034) (hs : isRS (zG Z) M x (x + 299) τ) (hm : isMD (zG Z) M M (x + 271) τ t) (ho : M.1 (x + 298) = some (am_al (zG Z) 1 S)) (T : lwT Z Q k n b x i) : AW Z Q M k n 2238 [some (.ref b), some (.ref x), some (.ref (x + 271)), some (.ref (x + 298)), some (.int (nI i)), u5, u6, u7] [] := by
  obtain ⟨X, hN, -, -, -, hfl, hn, hR⟩ := id C
  refine aw_aload1 X dL_law_2238 ?_
  refine aw_aload0 X dL_law_2239 ?_
  refine aw_iload4 X dL_law_2240 ?_
  refine aw_iconst X dL_law_2242 (v := nI 1) (by decide) ?_
  refine aw_iadd X dL_law_2243 ?_
  first | with_reducible refine aw_int (nI_add _ _) ?_ | skip
  refine aw_sld C dL_law_2244 rfl (by omega) (by omega) ?_
  refine aw_aload3 X dL_law_2245 ?_
  refine aw_callSH X hN (c_L_release hfl hs ho ⟨by omega, by omega⟩) kL_245 dL_law_2246 rfl rfl (by first | decide | exact Nat.le_of_ble_eq_true rfl) (by rw [hR]; exact ⟨Nat.le_of_ble_eq_true rfl, Nat.le_of_ble_eq_true rfl⟩) (by rw [hR]; exact ⟨by show k + 2 ≤ 601024; omega, by show n + 12 ≤ 7293034; omega⟩) (fun v M1 hv => ?_)
  obtain ⟨rfl, hs1, hk1, S1, ho1, hv1⟩ := hv
  have hm1 := hm.kr hk1 (fun q e => by omega)
  obtain ⟨c1, hat1⟩ := hm1.at
  refine aw_istore5 X dL_law_2249 (by rw [hn]; decide) rfl ?_
  refine aw_aload2 X dL_law_2251 ?_
  refine aw_aload0 X dL_law_2252 ?_
  refine aw_iload4 X dL_law_2253 ?_
  refine aw_iconst X dL_law_2255 (v := nI 1) (by decide) ?_
  refine aw_iadd X dL_law_2256 ?_
  first | with_reducible refine aw_int (nI_add _ _) ?_ | skip
  refine aw_sld C dL_law_2257 rfl (by omega) (by omega) ?_
  refine aw_callV X (c_X9_release hm1) kL_247 (ci := 10) rfl hat1 dL_law_2258 rfl rfl (by first | decide | exact Nat.le_of_ble_eq_true rfl) (by rw [hR]; exact ⟨Nat.le_of_ble_eq_true rfl, Nat.le_of_ble_eq_true rfl⟩) (by rw [hR]; exact ⟨by show k + 2 + 0 ≤ 601024; omega, by show n + 12 + 0 ≤ 7293034; omega⟩) (fun v M2 hv => ?_)
  obtain ⟨rfl, hm2⟩ := hv
  have hk2 := hm2.ke
  have hs2 := hs1.kr hk2 (fun q e => by omega)
  have ho2 := hk2 _ _ ho1 (by omega)
  obtain ⟨c2, hat2⟩ := hm2.at
  refine aw_istore6 X dL_law_2261 (by rw [hn]; decide) rfl ?_
  refine aw_aload2 X dL_law_2263 ?_
  refine aw_callV X (c_X9_thrown hm2) kL_142 (ci := 10) rfl hat2 dL_law_2264 rfl rfl (by first | decide | exact Nat.le_of_ble_eq_true rfl) (by rw [hR]; exact ⟨Nat.le_of_ble_eq_true rfl, Nat.le_of_ble_eq_true rfl⟩) (by rw [hR]; exact ⟨by show k + 2 + 0 + 0 ≤ 601024; omega, by show n + 12 + 0 + 0 ≤ 7293034; omega⟩) (fun v M3 hv => ?_)
  obtain ⟨rfl, rfl⟩ := hv
  refine aw_iload5 X dL_law_2267 ?_
  refine aw_icmpeq X dL_law_2269 (tgt := 2274) (by decide) (fun _ => ?_) (fun c9 => by first | exact absurd (rfl) c9 | exact absurd c9 (rfl))
  refine aw_iload5 X dL_law_2274 ?_
  by_cases e0 : (spRelease τ (xs (i + 1))).1 = 0
  · refine aw_ifne X dL_law_2276 (tgt := 2291) (by decide) (fun c9 => by first | exact absurd ((show nI (spRelease τ (xs (i + 1))).1 = 0 from by rw [e0]; rfl)) c9 | exact absurd c9 ((show nI (spRelease τ (xs (i + 1))).1 = 0 from by rw [e0]; rfl))) (fun _ => ?_)
    refine aw_aload3 X dL_law_2279 ?_
    refine aw_iconst X dL_law_2280 (v := nI 0) (by decide) ?_
    refine aw_lald X dL_law_2281 ho2 rfl (by omega) (by decide) ?_
    refine aw_long (y := cvI (spRelease τ (xs (i + 1))).2.1) (hv1 e0) ?_
    refine aw_iload6 X dL_law_2282 ?_
    refine aw_i2l X dL_law_2284 ?_
    refine aw_lcmp X dL_law_2285 ?_
    refine aw_ifeq X dL_law_2286 (tgt := 2291) (by decide) (fun _ => ?_) (fun c9 => by first | exact absurd (((lg_cmp_eq _ _).mpr rfl)) c9 | exact absurd c9 (((lg_cmp_eq _ _).mpr rfl)))
    refine aw_goto X dL_law_2291 (tgt := 2593) (by decide) ?_
    exact T M3 _ _ _ _ _ _ _ (by show k + 2 + 0 + 0 ≤ k + 482; omega) (by show n + 12 + 0 + 0 ≤ n + 9712; omega) hs2 hm2.base ⟨_, ho2⟩
  · refine aw_ifne X dL_law_2276 (tgt := 2291) (by decide) (fun _ => ?_) (fun c9 => by first | exact absurd ((show ¬ nI (spRelease τ (xs (i + 1))).1 = 0 from nI_ne0 (by omega) (by have := le_spRelease (τ := τ) (p := (xs (i + 1))); omega))) c9 | exact absurd c9 ((show ¬ nI (spRelease τ (xs (i + 1))).1 = 0 from nI_ne0 (by omega) (by have := le_spRelease (τ := τ) (p := (xs (i + 1))); omega))))
    refine aw_goto X dL_law_2291 (tgt := 2593) (by decide) ?_
    exact T M3 _ _ _ _ _ _ _ (by show k + 2 + 0 + 0 ≤ k + 482; omega) (by show n + 12 + 0 + 0 ≤ n + 9712; omega) hs2 hm2.base ⟨_, ho2⟩
theorem lc_fetch {Z : AZ} {Q : State → Prop} {M : AM} {k n b L x i t : Nat} {xs : Nat → Int32} {τ : TS} {u5 u6 u7 : Option Value} {S : Nat → Int64} (C : lwC Z b L xs) (hi : i + 4 < L) (hL : L < 2 ^ 31) (hk : k + 482 ≤ 601024) (hnn : n + 9712 ≤ 7293034) (hs : isRS (zG Z) M x (x + 299) τ) (hm : isMD (zG Z) M M (x + 271) τ t) (ho : M.1 (x + 298) = some (am_al (zG Z) 1 S)) (T : lwT Z Q k n b x i) : AW Z Q M k n 2294 [some (.ref b), some (.ref x), some (.ref (x + 271)), some (.ref (x + 298)), some (.int (nI i)), u5, u6, u7] [] := by
  obtain ⟨X, hN, -, -, -, hfl, hn, hR⟩ := id C
  refine aw_aload1 X dL_law_2294 ?_
  refine aw_aload0 X dL_law_2295 ?_
  refine aw_iload4 X dL_law_2296 ?_
  refine aw_iconst X dL_law_2298 (v := nI 1) (by decide) ?_
  refine aw_iadd X dL_law_2299 ?_
  first | with_reducible refine aw_int (nI_add _ _) ?_ | skip
  refine aw_sld C dL_law_2300 rfl (by omega) (by omega) ?_
  refine aw_aload0 X dL_law_2301 ?_
  refine aw_iload4 X dL_law_2302 ?_
  refine aw_iconst X dL_law_2304 (v := nI 2) (by decide) ?_
  refine aw_iadd X dL_law_2305 ?_
  first | with_reducible refine aw_int (nI_add _ _) ?_ | skip
  refine aw_sld C dL_law_2306 rfl (by omega) (by omega) ?_
  refine aw_aload3 X dL_law_2307 ?_
  refine aw_callSH X hN (c_L_fetch hfl hs ho ⟨by omega, by omega⟩) kL_248 dL_law_2308 rfl rfl (by first | decide | exact Nat.le_of_ble_eq_true rfl) (by rw [hR]; exact ⟨Nat.le_of_ble_eq_true rfl, Nat.le_of_ble_eq_true rfl⟩) (by rw [hR]; exact ⟨by show k + 3 ≤ 601024; omega, by show n + 18 ≤ 7293034; omega⟩) (fun v M1 hv => ?_)
  obtain ⟨rfl, hs1, hk1, S1, ho1, hv1⟩ := hv
  have hm1 := hm.kr hk1 (fun q e => by omega)
  obtain ⟨c1, hat1⟩ := hm1.at
  refine aw_istore5 X dL_law_2311 (by rw [hn]; decide) rfl ?_
  refine aw_aload2 X dL_law_2313 ?_
  refine aw_aload0 X dL_law_2314 ?_
  refine aw_iload4 X dL_law_2315 ?_
  refine aw_iconst X dL_law_2317 (v := nI 1) (by decide) ?_
  refine aw_iadd X dL_law_2318 ?_
  first | with_reducible refine aw_int (nI_add _ _) ?_ | skip
  refine aw_sld C dL_law_2319 rfl (by omega) (by omega) ?_
  refine aw_aload0 X dL_law_2320 ?_
  refine aw_iload4 X dL_law_2321 ?_
  refine aw_iconst X dL_law_2323 (v := nI 2) (by decide) ?_
  refine aw_iadd X dL_law_2324 ?_
  first | with_reducible refine aw_int (nI_add _ _) ?_ | skip
  refine aw_sld C dL_law_2325 rfl (by omega) (by omega) ?_
  refine aw_callV X (c_X9_fetch hm1) kL_250 (ci := 10) rfl hat1 dL_law_2326 rfl rfl (by first | decide | exact Nat.le_of_ble_eq_true rfl) (by rw [hR]; exact ⟨Nat.le_of_ble_eq_true rfl, Nat.le_of_ble_eq_true rfl⟩) (by rw [hR]; exact ⟨by show k + 3 + 0 ≤ 601024; omega, by show n + 18 + 0 ≤ 7293034; omega⟩) (fun v M2 hv => ?_)
  obtain ⟨rfl, hm2⟩ := hv
  have hk2 := hm2.ke
  have hs2 := hs1.kr hk2 (fun q e => by omega)
  have ho2 := hk2 _ _ ho1 (by omega)
  obtain ⟨c2, hat2⟩ := hm2.at
  refine aw_istore6 X dL_law_2329 (by rw [hn]; decide) rfl ?_
  refine aw_aload2 X dL_law_2331 ?_
  refine aw_callV X (c_X9_thrown hm2) kL_142 (ci := 10) rfl hat2 dL_law_2332 rfl rfl (by first | decide | exact Nat.le_of_ble_eq_true rfl) (by rw [hR]; exact ⟨Nat.le_of_ble_eq_true rfl, Nat.le_of_ble_eq_true rfl⟩) (by rw [hR]; exact ⟨by show k + 3 + 0 + 0 ≤ 601024; omega, by show n + 18 + 0 + 0 ≤ 7293034; omega⟩) (fun v M3 hv => ?_)
  obtain ⟨rfl, rfl⟩ := hv
  refine aw_iload5 X dL_law_2335 ?_
  refine aw_icmpeq X dL_law_2337 (tgt := 2342) (by decide) (fun _ => ?_) (fun c9 => by first | exact absurd (rfl) c9 | exact absurd c9 (rfl))
  refine aw_iload5 X dL_law_2342 ?_
  by_cases e0 : (spFetch τ (xs (i + 1)) (xs (i + 2))).1 = 0
  · refine aw_ifne X dL_law_2344 (tgt := 2359) (by decide) (fun c9 => by first | exact absurd ((show nI (spFetch τ (xs (i + 1)) (xs (i + 2))).1 = 0 from by rw [e0]; rfl)) c9 | exact absurd c9 ((show nI (spFetch τ (xs (i + 1)) (xs (i + 2))).1 = 0 from by rw [e0]; rfl))) (fun _ => ?_)
    refine aw_aload3 X dL_law_2347 ?_
    refine aw_iconst X dL_law_2348 (v := nI 0) (by decide) ?_
    refine aw_lald X dL_law_2349 ho2 rfl (by omega) (by decide) ?_
    refine aw_long (y := cvI (spFetch τ (xs (i + 1)) (xs (i + 2))).2.1) (hv1 e0) ?_
    refine aw_iload6 X dL_law_2350 ?_
    refine aw_i2l X dL_law_2352 ?_
    refine aw_lcmp X dL_law_2353 ?_
    refine aw_ifeq X dL_law_2354 (tgt := 2359) (by decide) (fun _ => ?_) (fun c9 => by first | exact absurd (((lg_cmp_eq _ _).mpr rfl)) c9 | exact absurd c9 (((lg_cmp_eq _ _).mpr rfl)))
    refine aw_goto X dL_law_2359 (tgt := 2593) (by decide) ?_
    exact T M3 _ _ _ _ _ _ _ (by show k + 3 + 0 + 0 ≤ k + 482; omega) (by show n + 18 + 0 + 0 ≤ n + 9712; omega) hs2 hm2.base ⟨_, ho2⟩
  · refine aw_ifne X dL_law_2344 (tgt := 2359) (by decide) (fun _ => ?_) (fun c9 => by first | exact absurd ((show ¬ nI (spFetch τ (xs (i + 1)) (xs (i + 2))).1 = 0 from nI_ne0 (by omega) (by have := le_spFetch (τ := τ) (p := (xs (i + 1))) (f := (xs (i + 2))); omega))) c9 | exact absurd c9 ((show ¬ nI (spFetch τ (xs (i + 1)) (xs (i + 2))).1 = 0 from nI_ne0 (by omega) (by have := le_spFetch (τ := τ) (p := (xs (i + 1))) (f := (xs (i + 2))); omega))))
    refine aw_goto X dL_law_2359 (tgt := 2593) (by decide) ?_
    exact T M3 _ _ _ _ _ _ _ (by show k + 3 + 0 + 0 ≤ k + 482; omega) (by show n + 18 + 0 + 0 ≤ n + 9712; omega) hs2 hm2.base ⟨_, ho2⟩
theorem lc_papers {Z : AZ} {Q : State → Prop} {M : AM} {k n b L x i t : Nat} {xs : Nat → Int32} {τ : TS} {u5 u6 u7 : Option Value} {S : Nat → Int64} (C : lwC Z b L xs) (hi : i + 4 < L) (hL : L < 2 ^ 31) (hk : k + 482 ≤ 601024) (hnn : n + 9712 ≤ 7293034) (hs : isRS (zG Z) M x (x + 299) τ) (hm : isMD (zG Z) M M (x + 271) τ t) (ho : M.1 (x + 298) = some (am_al (zG Z) 1 S)) (T : lwT Z Q k n b x i) : AW Z Q M k n 2362 [some (.ref b), some (.ref x), some (.ref (x + 271)), some (.ref (x + 298)), some (.int (nI i)), u5, u6, u7] [] := by
  obtain ⟨X, hN, -, -, -, hfl, hn, hR⟩ := id C
  refine aw_aload1 X dL_law_2362 ?_
  refine aw_callV X (c_X8_papers hs) kL_251 (ci := 9) rfl (hs.2.2.1) dL_law_2363 rfl rfl (by first | decide | exact Nat.le_of_ble_eq_true rfl) (by rw [hR]; exact ⟨Nat.le_of_ble_eq_true rfl, Nat.le_of_ble_eq_true rfl⟩) (by rw [hR]; exact ⟨by show k + 0 ≤ 601024; omega, by show n + 0 ≤ 7293034; omega⟩) (fun v M1 hv => ?_)
  obtain ⟨e0, rfl, hs1, hk1⟩ := hv
  have hm1 := hm.kr hk1 (fun q e => by omega)
  obtain ⟨c1, hat1⟩ := hm1.at
  have ho1 := hk1 _ _ ho (by omega)
  refine aw_aload2 X dL_law_2366 ?_
  refine aw_callV X (c_X9_papers hm1) kL_254 (ci := 10) rfl hat1 dL_law_2367 rfl rfl (by first | decide | exact Nat.le_of_ble_eq_true rfl) (by rw [hR]; exact ⟨Nat.le_of_ble_eq_true rfl, Nat.le_of_ble_eq_true rfl⟩) (by rw [hR]; exact ⟨by show k + 0 + 0 ≤ 601024; omega, by show n + 0 + 0 ≤ 7293034; omega⟩) (fun v M2 hv => ?_)
  obtain ⟨rfl, hm2⟩ := hv
  have hk2 := hm2.ke
  refine aw_icmpeq X dL_law_2370 (tgt := 2593) (by decide) (fun _ => ?_) (fun c9 => by first | exact absurd (rfl) c9 | exact absurd c9 (rfl))
  exact T M2 _ _ _ _ _ _ _ (by show k + 0 + 0 ≤ k + 482; omega) (by show n + 0 + 0 ≤ n + 9712; omega) (hs1.kr hk2 (fun q e => by omega)) hm2.base ⟨_, hk2 _ _ ho1 (by omega)⟩
theorem lc_chunks {Z : AZ} {Q : State → Prop} {M : AM} {k n b L x i t : Nat} {xs : Nat → Int32} {τ : TS} {u5 u6 u7 : Option Value} {S : Nat → Int64} (C : lwC Z b L xs) (hi : i + 4 < L) (hL : L < 2 ^ 31) (hk : k + 482 ≤ 601024) (hnn : n + 9712 ≤ 7293034) (hs : isRS (zG Z) M x (x + 299) τ) (hm : isMD (zG Z) M M (x + 271) τ t) (ho : M.1 (x + 298) = some (am_al (zG Z) 1 S)) (T : lwT Z Q k n b x i) : AW Z Q M k n 2375 [some (.ref b), some (.ref x), some (.ref (x + 271)), some (.ref (x + 298)), some (.int (nI i)), u5, u6, u7] [] := by
  obtain ⟨X, hN, -, -, -, hfl, hn, hR⟩ := id C
  refine aw_aload1 X dL_law_2375 ?_
  refine aw_callV X (c_X8_chunks hs) kL_255 (ci := 9) rfl (hs.2.2.1) dL_law_2376 rfl rfl (by first | decide | exact Nat.le_of_ble_eq_true rfl) (by rw [hR]; exact ⟨Nat.le_of_ble_eq_true rfl, Nat.le_of_ble_eq_true rfl⟩) (by rw [hR]; exact ⟨by show k + 0 ≤ 601024; omega, by show n + 0 ≤ 7293034; omega⟩) (fun v M1 hv => ?_)
  obtain ⟨e0, rfl, hs1, hk1⟩ := hv
  have hm1 := hm.kr hk1 (fun q e => by omega)
  obtain ⟨c1, hat1⟩ := hm1.at
  have ho1 := hk1 _ _ ho (by omega)
  refine aw_aload2 X dL_law_2379 ?_
  refine aw_callV X (c_X9_chunks hm1) kL_258 (ci := 10) rfl hat1 dL_law_2380 rfl rfl (by first | decide | exact Nat.le_of_ble_eq_true rfl) (by rw [hR]; exact ⟨Nat.le_of_ble_eq_true rfl, Nat.le_of_ble_eq_true rfl⟩) (by rw [hR]; exact ⟨by show k + 0 + 0 ≤ 601024; omega, by show n + 0 + 0 ≤ 7293034; omega⟩) (fun v M2 hv => ?_)
  obtain ⟨rfl, hm2⟩ := hv
  have hk2 := hm2.ke
  refine aw_icmpeq X dL_law_2383 (tgt := 2593) (by decide) (fun _ => ?_) (fun c9 => by first | exact absurd (rfl) c9 | exact absurd c9 (rfl))
  exact T M2 _ _ _ _ _ _ _ (by show k + 0 + 0 ≤ k + 482; omega) (by show n + 0 + 0 ≤ n + 9712; omega) (hs1.kr hk2 (fun q e => by omega)) hm2.base ⟨_, hk2 _ _ ho1 (by omega)⟩
theorem lc_heldBytes {Z : AZ} {Q : State → Prop} {M : AM} {k n b L x i t : Nat} {xs : Nat → Int32} {τ : TS} {u5 u6 u7 : Option Value} {S : Nat → Int64} (C : lwC Z b L xs) (hi : i + 4 < L) (hL : L < 2 ^ 31) (hk : k + 482 ≤ 601024) (hnn : n + 9712 ≤ 7293034) (hs : isRS (zG Z) M x (x + 299) τ) (hm : isMD (zG Z) M M (x + 271) τ t) (ho : M.1 (x + 298) = some (am_al (zG Z) 1 S)) (T : lwT Z Q k n b x i) : AW Z Q M k n 2388 [some (.ref b), some (.ref x), some (.ref (x + 271)), some (.ref (x + 298)), some (.int (nI i)), u5, u6, u7] [] := by
  obtain ⟨X, hN, -, -, -, hfl, hn, hR⟩ := id C
  refine aw_aload1 X dL_law_2388 ?_
  refine aw_callV X (c_X8_heldBytes hs) kL_259 (ci := 9) rfl (hs.2.2.1) dL_law_2389 rfl rfl (by first | decide | exact Nat.le_of_ble_eq_true rfl) (by rw [hR]; exact ⟨Nat.le_of_ble_eq_true rfl, Nat.le_of_ble_eq_true rfl⟩) (by rw [hR]; exact ⟨by show k + 0 ≤ 601024; omega, by show n + 0 ≤ 7293034; omega⟩) (fun v M1 hv => ?_)
  obtain ⟨e0, rfl, hs1, hk1⟩ := hv
  have hm1 := hm.kr hk1 (fun q e => by omega)
  obtain ⟨c1, hat1⟩ := hm1.at
  have ho1 := hk1 _ _ ho (by omega)
  refine aw_aload2 X dL_law_2392 ?_
  refine aw_callV X (c_X9_heldBytes hm1) kL_262 (ci := 10) rfl hat1 dL_law_2393 rfl rfl (by first | decide | exact Nat.le_of_ble_eq_true rfl) (by rw [hR]; exact ⟨Nat.le_of_ble_eq_true rfl, Nat.le_of_ble_eq_true rfl⟩) (by rw [hR]; exact ⟨by show k + 0 + 0 ≤ 601024; omega, by show n + 0 + 0 ≤ 7293034; omega⟩) (fun v M2 hv => ?_)
  obtain ⟨rfl, hm2⟩ := hv
  have hk2 := hm2.ke
  refine aw_icmpeq X dL_law_2396 (tgt := 2593) (by decide) (fun _ => ?_) (fun c9 => by first | exact absurd (rfl) c9 | exact absurd c9 (rfl))
  exact T M2 _ _ _ _ _ _ _ (by show k + 0 + 0 ≤ k + 482; omega) (by show n + 0 + 0 ≤ n + 9712; omega) (hs1.kr hk2 (fun q e => by omega)) hm2.base ⟨_, hk2 _ _ ho1 (by omega)⟩
theorem lc_parts {Z : AZ} {Q : State → Prop} {M : AM} {k n b L x i t : Nat} {xs : Nat → Int32} {τ : TS} {u5 u6 u7 : Option Value} {S : Nat → Int64} (C : lwC Z b L xs) (hi : i + 4 < L) (hL : L < 2 ^ 31) (hk : k + 482 ≤ 601024) (hnn : n + 9712 ≤ 7293034) (hs : isRS (zG Z) M x (x + 299) τ) (hm : isMD (zG Z) M M (x + 271) τ t) (ho : M.1 (x + 298) = some (am_al (zG Z) 1 S)) (T : lwT Z Q k n b x i) : AW Z Q M k n 2401 [some (.ref b), some (.ref x), some (.ref (x + 271)), some (.ref (x + 298)), some (.int (nI i)), u5, u6, u7] [] := by
  obtain ⟨X, hN, -, -, -, hfl, hn, hR⟩ := id C
  refine aw_aload1 X dL_law_2401 ?_
  refine aw_aload0 X dL_law_2402 ?_
  refine aw_iload4 X dL_law_2403 ?_
  refine aw_iconst X dL_law_2405 (v := nI 1) (by decide) ?_
  refine aw_iadd X dL_law_2406 ?_
  first | with_reducible refine aw_int (nI_add _ _) ?_ | skip
  refine aw_sld C dL_law_2407 rfl (by omega) (by omega) ?_
  refine aw_aload3 X dL_law_2408 ?_
  refine aw_callSH X hN (c_L_parts hfl hs ho ⟨by omega, by omega⟩) kL_263 dL_law_2409 rfl rfl (by first | decide | exact Nat.le_of_ble_eq_true rfl) (by rw [hR]; exact ⟨Nat.le_of_ble_eq_true rfl, Nat.le_of_ble_eq_true rfl⟩) (by rw [hR]; exact ⟨by show k + 2 ≤ 601024; omega, by show n + 12 ≤ 7293034; omega⟩) (fun v M1 hv => ?_)
  obtain ⟨rfl, hs1, hk1, S1, ho1, hv1⟩ := hv
  have hm1 := hm.kr hk1 (fun q e => by omega)
  obtain ⟨c1, hat1⟩ := hm1.at
  refine aw_istore5 X dL_law_2412 (by rw [hn]; decide) rfl ?_
  refine aw_aload2 X dL_law_2414 ?_
  refine aw_aload0 X dL_law_2415 ?_
  refine aw_iload4 X dL_law_2416 ?_
  refine aw_iconst X dL_law_2418 (v := nI 1) (by decide) ?_
  refine aw_iadd X dL_law_2419 ?_
  first | with_reducible refine aw_int (nI_add _ _) ?_ | skip
  refine aw_sld C dL_law_2420 rfl (by omega) (by omega) ?_
  refine aw_callV X (c_X9_parts hm1) kL_265 (ci := 10) rfl hat1 dL_law_2421 rfl rfl (by first | decide | exact Nat.le_of_ble_eq_true rfl) (by rw [hR]; exact ⟨Nat.le_of_ble_eq_true rfl, Nat.le_of_ble_eq_true rfl⟩) (by rw [hR]; exact ⟨by show k + 2 + 0 ≤ 601024; omega, by show n + 12 + 0 ≤ 7293034; omega⟩) (fun v M2 hv => ?_)
  obtain ⟨rfl, hm2⟩ := hv
  have hk2 := hm2.ke
  have hs2 := hs1.kr hk2 (fun q e => by omega)
  have ho2 := hk2 _ _ ho1 (by omega)
  obtain ⟨c2, hat2⟩ := hm2.at
  refine aw_istore6 X dL_law_2424 (by rw [hn]; decide) rfl ?_
  refine aw_aload2 X dL_law_2426 ?_
  refine aw_callV X (c_X9_thrown hm2) kL_142 (ci := 10) rfl hat2 dL_law_2427 rfl rfl (by first | decide | exact Nat.le_of_ble_eq_true rfl) (by rw [hR]; exact ⟨Nat.le_of_ble_eq_true rfl, Nat.le_of_ble_eq_true rfl⟩) (by rw [hR]; exact ⟨by show k + 2 + 0 + 0 ≤ 601024; omega, by show n + 12 + 0 + 0 ≤ 7293034; omega⟩) (fun v M3 hv => ?_)
  obtain ⟨rfl, rfl⟩ := hv
  refine aw_iload5 X dL_law_2430 ?_
  refine aw_icmpeq X dL_law_2432 (tgt := 2437) (by decide) (fun _ => ?_) (fun c9 => by first | exact absurd (rfl) c9 | exact absurd c9 (rfl))
  refine aw_iload5 X dL_law_2437 ?_
  by_cases e0 : (spParts τ (xs (i + 1))).1 = 0
  · refine aw_ifne X dL_law_2439 (tgt := 2454) (by decide) (fun c9 => by first | exact absurd ((show nI (spParts τ (xs (i + 1))).1 = 0 from by rw [e0]; rfl)) c9 | exact absurd c9 ((show nI (spParts τ (xs (i + 1))).1 = 0 from by rw [e0]; rfl))) (fun _ => ?_)
    refine aw_aload3 X dL_law_2442 ?_
    refine aw_iconst X dL_law_2443 (v := nI 0) (by decide) ?_
    refine aw_lald X dL_law_2444 ho2 rfl (by omega) (by decide) ?_
    refine aw_long (y := cvI (spParts τ (xs (i + 1))).2.1) (hv1 e0) ?_
    refine aw_iload6 X dL_law_2445 ?_
    refine aw_i2l X dL_law_2447 ?_
    refine aw_lcmp X dL_law_2448 ?_
    refine aw_ifeq X dL_law_2449 (tgt := 2454) (by decide) (fun _ => ?_) (fun c9 => by first | exact absurd (((lg_cmp_eq _ _).mpr rfl)) c9 | exact absurd c9 (((lg_cmp_eq _ _).mpr rfl)))
    refine aw_goto X dL_law_2454 (tgt := 2593) (by decide) ?_
    exact T M3 _ _ _ _ _ _ _ (by show k + 2 + 0 + 0 ≤ k + 482; omega) (by show n + 12 + 0 + 0 ≤ n + 9712; omega) hs2 hm2.base ⟨_, ho2⟩
  · refine aw_ifne X dL_law_2439 (tgt := 2454) (by decide) (fun _ => ?_) (fun c9 => by first | exact absurd ((show ¬ nI (spParts τ (xs (i + 1))).1 = 0 from nI_ne0 (by omega) (by have := le_spParts (τ := τ) (p := (xs (i + 1))); omega))) c9 | exact absurd c9 ((show ¬ nI (spParts τ (xs (i + 1))).1 = 0 from nI_ne0 (by omega) (by have := le_spParts (τ := τ) (p := (xs (i + 1))); omega))))
    refine aw_goto X dL_law_2454 (tgt := 2593) (by decide) ?_
    exact T M3 _ _ _ _ _ _ _ (by show k + 2 + 0 + 0 ≤ k + 482; omega) (by show n + 12 + 0 + 0 ≤ n + 9712; omega) hs2 hm2.base ⟨_, ho2⟩
theorem lc_partLength {Z : AZ} {Q : State → Prop} {M : AM} {k n b L x i t : Nat} {xs : Nat → Int32} {τ : TS} {u5 u6 u7 : Option Value} {S : Nat → Int64} (C : lwC Z b L xs) (hi : i + 4 < L) (hL : L < 2 ^ 31) (hk : k + 482 ≤ 601024) (hnn : n + 9712 ≤ 7293034) (hs : isRS (zG Z) M x (x + 299) τ) (hm : isMD (zG Z) M M (x + 271) τ t) (ho : M.1 (x + 298) = some (am_al (zG Z) 1 S)) (T : lwT Z Q k n b x i) : AW Z Q M k n 2457 [some (.ref b), some (.ref x), some (.ref (x + 271)), some (.ref (x + 298)), some (.int (nI i)), u5, u6, u7] [] := by
  obtain ⟨X, hN, -, -, -, hfl, hn, hR⟩ := id C
  refine aw_aload1 X dL_law_2457 ?_
  refine aw_aload0 X dL_law_2458 ?_
  refine aw_iload4 X dL_law_2459 ?_
  refine aw_iconst X dL_law_2461 (v := nI 1) (by decide) ?_
  refine aw_iadd X dL_law_2462 ?_
  first | with_reducible refine aw_int (nI_add _ _) ?_ | skip
  refine aw_sld C dL_law_2463 rfl (by omega) (by omega) ?_
  refine aw_aload0 X dL_law_2464 ?_
  refine aw_iload4 X dL_law_2465 ?_
  refine aw_iconst X dL_law_2467 (v := nI 2) (by decide) ?_
  refine aw_iadd X dL_law_2468 ?_
  first | with_reducible refine aw_int (nI_add _ _) ?_ | skip
  refine aw_sld C dL_law_2469 rfl (by omega) (by omega) ?_
  refine aw_aload3 X dL_law_2470 ?_
  refine aw_callSH X hN (c_L_partLength hfl hs ho ⟨by omega, by omega⟩) kL_266 dL_law_2471 rfl rfl (by first | decide | exact Nat.le_of_ble_eq_true rfl) (by rw [hR]; exact ⟨Nat.le_of_ble_eq_true rfl, Nat.le_of_ble_eq_true rfl⟩) (by rw [hR]; exact ⟨by show k + 3 ≤ 601024; omega, by show n + 18 ≤ 7293034; omega⟩) (fun v M1 hv => ?_)
  obtain ⟨rfl, hs1, hk1, S1, ho1, hv1⟩ := hv
  have hm1 := hm.kr hk1 (fun q e => by omega)
  obtain ⟨c1, hat1⟩ := hm1.at
  refine aw_istore5 X dL_law_2474 (by rw [hn]; decide) rfl ?_
  refine aw_aload2 X dL_law_2476 ?_
  refine aw_aload0 X dL_law_2477 ?_
  refine aw_iload4 X dL_law_2478 ?_
  refine aw_iconst X dL_law_2480 (v := nI 1) (by decide) ?_
  refine aw_iadd X dL_law_2481 ?_
  first | with_reducible refine aw_int (nI_add _ _) ?_ | skip
  refine aw_sld C dL_law_2482 rfl (by omega) (by omega) ?_
  refine aw_aload0 X dL_law_2483 ?_
  refine aw_iload4 X dL_law_2484 ?_
  refine aw_iconst X dL_law_2486 (v := nI 2) (by decide) ?_
  refine aw_iadd X dL_law_2487 ?_
  first | with_reducible refine aw_int (nI_add _ _) ?_ | skip
  refine aw_sld C dL_law_2488 rfl (by omega) (by omega) ?_
  refine aw_callV X (c_X9_partLength hm1) kL_268 (ci := 10) rfl hat1 dL_law_2489 rfl rfl (by first | decide | exact Nat.le_of_ble_eq_true rfl) (by rw [hR]; exact ⟨Nat.le_of_ble_eq_true rfl, Nat.le_of_ble_eq_true rfl⟩) (by rw [hR]; exact ⟨by show k + 3 + 0 ≤ 601024; omega, by show n + 18 + 0 ≤ 7293034; omega⟩) (fun v M2 hv => ?_)
  obtain ⟨rfl, hm2⟩ := hv
  have hk2 := hm2.ke
  have hs2 := hs1.kr hk2 (fun q e => by omega)
  have ho2 := hk2 _ _ ho1 (by omega)
  obtain ⟨c2, hat2⟩ := hm2.at
  refine aw_istore6 X dL_law_2492 (by rw [hn]; decide) rfl ?_
  refine aw_aload2 X dL_law_2494 ?_
  refine aw_callV X (c_X9_thrown hm2) kL_142 (ci := 10) rfl hat2 dL_law_2495 rfl rfl (by first | decide | exact Nat.le_of_ble_eq_true rfl) (by rw [hR]; exact ⟨Nat.le_of_ble_eq_true rfl, Nat.le_of_ble_eq_true rfl⟩) (by rw [hR]; exact ⟨by show k + 3 + 0 + 0 ≤ 601024; omega, by show n + 18 + 0 + 0 ≤ 7293034; omega⟩) (fun v M3 hv => ?_)
  obtain ⟨rfl, rfl⟩ := hv
  refine aw_iload5 X dL_law_2498 ?_
  refine aw_icmpeq X dL_law_2500 (tgt := 2505) (by decide) (fun _ => ?_) (fun c9 => by first | exact absurd (rfl) c9 | exact absurd c9 (rfl))
  refine aw_iload5 X dL_law_2505 ?_
  by_cases e0 : (spPartLen τ (xs (i + 1)) (xs (i + 2))).1 = 0
  · refine aw_ifne X dL_law_2507 (tgt := 2522) (by decide) (fun c9 => by first | exact absurd ((show nI (spPartLen τ (xs (i + 1)) (xs (i + 2))).1 = 0 from by rw [e0]; rfl)) c9 | exact absurd c9 ((show nI (spPartLen τ (xs (i + 1)) (xs (i + 2))).1 = 0 from by rw [e0]; rfl))) (fun _ => ?_)
    refine aw_aload3 X dL_law_2510 ?_
    refine aw_iconst X dL_law_2511 (v := nI 0) (by decide) ?_
    refine aw_lald X dL_law_2512 ho2 rfl (by omega) (by decide) ?_
    refine aw_long (y := cvI (spPartLen τ (xs (i + 1)) (xs (i + 2))).2.1) (hv1 e0) ?_
    refine aw_iload6 X dL_law_2513 ?_
    refine aw_i2l X dL_law_2515 ?_
    refine aw_lcmp X dL_law_2516 ?_
    refine aw_ifeq X dL_law_2517 (tgt := 2522) (by decide) (fun _ => ?_) (fun c9 => by first | exact absurd (((lg_cmp_eq _ _).mpr rfl)) c9 | exact absurd c9 (((lg_cmp_eq _ _).mpr rfl)))
    refine aw_goto X dL_law_2522 (tgt := 2593) (by decide) ?_
    exact T M3 _ _ _ _ _ _ _ (by show k + 3 + 0 + 0 ≤ k + 482; omega) (by show n + 18 + 0 + 0 ≤ n + 9712; omega) hs2 hm2.base ⟨_, ho2⟩
  · refine aw_ifne X dL_law_2507 (tgt := 2522) (by decide) (fun _ => ?_) (fun c9 => by first | exact absurd ((show ¬ nI (spPartLen τ (xs (i + 1)) (xs (i + 2))).1 = 0 from nI_ne0 (by omega) (by have := le_spPartLen (τ := τ) (p := (xs (i + 1))) (k := (xs (i + 2))); omega))) c9 | exact absurd c9 ((show ¬ nI (spPartLen τ (xs (i + 1)) (xs (i + 2))).1 = 0 from nI_ne0 (by omega) (by have := le_spPartLen (τ := τ) (p := (xs (i + 1))) (k := (xs (i + 2))); omega))))
    refine aw_goto X dL_law_2522 (tgt := 2593) (by decide) ?_
    exact T M3 _ _ _ _ _ _ _ (by show k + 3 + 0 + 0 ≤ k + 482; omega) (by show n + 18 + 0 + 0 ≤ n + 9712; omega) hs2 hm2.base ⟨_, ho2⟩
theorem lc_shared {Z : AZ} {Q : State → Prop} {M : AM} {k n b L x i t : Nat} {xs : Nat → Int32} {τ : TS} {u5 u6 u7 : Option Value} {S : Nat → Int64} (C : lwC Z b L xs) (hi : i + 4 < L) (hL : L < 2 ^ 31) (hk : k + 482 ≤ 601024) (hnn : n + 9712 ≤ 7293034) (hs : isRS (zG Z) M x (x + 299) τ) (hm : isMD (zG Z) M M (x + 271) τ t) (ho : M.1 (x + 298) = some (am_al (zG Z) 1 S)) (T : lwT Z Q k n b x i) : AW Z Q M k n 2525 [some (.ref b), some (.ref x), some (.ref (x + 271)), some (.ref (x + 298)), some (.int (nI i)), u5, u6, u7] [] := by
  obtain ⟨X, hN, -, -, -, hfl, hn, hR⟩ := id C
  refine aw_aload1 X dL_law_2525 ?_
  refine aw_aload0 X dL_law_2526 ?_
  refine aw_iload4 X dL_law_2527 ?_
  refine aw_iconst X dL_law_2529 (v := nI 1) (by decide) ?_
  refine aw_iadd X dL_law_2530 ?_
  first | with_reducible refine aw_int (nI_add _ _) ?_ | skip
  refine aw_sld C dL_law_2531 rfl (by omega) (by omega) ?_
  refine aw_aload0 X dL_law_2532 ?_
  refine aw_iload4 X dL_law_2533 ?_
  refine aw_iconst X dL_law_2535 (v := nI 2) (by decide) ?_
  refine aw_iadd X dL_law_2536 ?_
  first | with_reducible refine aw_int (nI_add _ _) ?_ | skip
  refine aw_sld C dL_law_2537 rfl (by omega) (by omega) ?_
  refine aw_aload3 X dL_law_2538 ?_
  refine aw_callSH X hN (c_L_shared hfl hs ho ⟨by omega, by omega⟩) kL_269 dL_law_2539 rfl rfl (by first | decide | exact Nat.le_of_ble_eq_true rfl) (by rw [hR]; exact ⟨Nat.le_of_ble_eq_true rfl, Nat.le_of_ble_eq_true rfl⟩) (by rw [hR]; exact ⟨by show k + 3 ≤ 601024; omega, by show n + 18 ≤ 7293034; omega⟩) (fun v M1 hv => ?_)
  obtain ⟨rfl, hs1, hk1, S1, ho1, hv1⟩ := hv
  have hm1 := hm.kr hk1 (fun q e => by omega)
  obtain ⟨c1, hat1⟩ := hm1.at
  refine aw_istore5 X dL_law_2542 (by rw [hn]; decide) rfl ?_
  refine aw_aload2 X dL_law_2544 ?_
  refine aw_aload0 X dL_law_2545 ?_
  refine aw_iload4 X dL_law_2546 ?_
  refine aw_iconst X dL_law_2548 (v := nI 1) (by decide) ?_
  refine aw_iadd X dL_law_2549 ?_
  first | with_reducible refine aw_int (nI_add _ _) ?_ | skip
  refine aw_sld C dL_law_2550 rfl (by omega) (by omega) ?_
  refine aw_aload0 X dL_law_2551 ?_
  refine aw_iload4 X dL_law_2552 ?_
  refine aw_iconst X dL_law_2554 (v := nI 2) (by decide) ?_
  refine aw_iadd X dL_law_2555 ?_
  first | with_reducible refine aw_int (nI_add _ _) ?_ | skip
  refine aw_sld C dL_law_2556 rfl (by omega) (by omega) ?_
  refine aw_callV X (c_X9_shared hm1) kL_271 (ci := 10) rfl hat1 dL_law_2557 rfl rfl (by first | decide | exact Nat.le_of_ble_eq_true rfl) (by rw [hR]; exact ⟨Nat.le_of_ble_eq_true rfl, Nat.le_of_ble_eq_true rfl⟩) (by rw [hR]; exact ⟨by show k + 3 + 0 ≤ 601024; omega, by show n + 18 + 0 ≤ 7293034; omega⟩) (fun v M2 hv => ?_)
  obtain ⟨rfl, hm2⟩ := hv
  have hk2 := hm2.ke
  have hs2 := hs1.kr hk2 (fun q e => by omega)
  have ho2 := hk2 _ _ ho1 (by omega)
  obtain ⟨c2, hat2⟩ := hm2.at
  refine aw_istore6 X dL_law_2560 (by rw [hn]; decide) rfl ?_
  refine aw_aload2 X dL_law_2562 ?_
  refine aw_callV X (c_X9_thrown hm2) kL_142 (ci := 10) rfl hat2 dL_law_2563 rfl rfl (by first | decide | exact Nat.le_of_ble_eq_true rfl) (by rw [hR]; exact ⟨Nat.le_of_ble_eq_true rfl, Nat.le_of_ble_eq_true rfl⟩) (by rw [hR]; exact ⟨by show k + 3 + 0 + 0 ≤ 601024; omega, by show n + 18 + 0 + 0 ≤ 7293034; omega⟩) (fun v M3 hv => ?_)
  obtain ⟨rfl, rfl⟩ := hv
  refine aw_iload5 X dL_law_2566 ?_
  refine aw_icmpeq X dL_law_2568 (tgt := 2573) (by decide) (fun _ => ?_) (fun c9 => by first | exact absurd (rfl) c9 | exact absurd c9 (rfl))
  refine aw_iload5 X dL_law_2573 ?_
  by_cases e0 : (spShared τ (xs (i + 1)) (xs (i + 2))).1 = 0
  · refine aw_ifne X dL_law_2575 (tgt := 2590) (by decide) (fun c9 => by first | exact absurd ((show nI (spShared τ (xs (i + 1)) (xs (i + 2))).1 = 0 from by rw [e0]; rfl)) c9 | exact absurd c9 ((show nI (spShared τ (xs (i + 1)) (xs (i + 2))).1 = 0 from by rw [e0]; rfl))) (fun _ => ?_)
    refine aw_aload3 X dL_law_2578 ?_
    refine aw_iconst X dL_law_2579 (v := nI 0) (by decide) ?_
    refine aw_lald X dL_law_2580 ho2 rfl (by omega) (by decide) ?_
    refine aw_long (y := cvI (spShared τ (xs (i + 1)) (xs (i + 2))).2.1) (hv1 e0) ?_
    refine aw_iload6 X dL_law_2581 ?_
    refine aw_i2l X dL_law_2583 ?_
    refine aw_lcmp X dL_law_2584 ?_
    refine aw_ifeq X dL_law_2585 (tgt := 2590) (by decide) (fun _ => ?_) (fun c9 => by first | exact absurd (((lg_cmp_eq _ _).mpr rfl)) c9 | exact absurd c9 (((lg_cmp_eq _ _).mpr rfl)))
    refine aw_goto X dL_law_2590 (tgt := 2593) (by decide) ?_
    exact T M3 _ _ _ _ _ _ _ (by show k + 3 + 0 + 0 ≤ k + 482; omega) (by show n + 18 + 0 + 0 ≤ n + 9712; omega) hs2 hm2.base ⟨_, ho2⟩
  · refine aw_ifne X dL_law_2575 (tgt := 2590) (by decide) (fun _ => ?_) (fun c9 => by first | exact absurd ((show ¬ nI (spShared τ (xs (i + 1)) (xs (i + 2))).1 = 0 from nI_ne0 (by omega) (by have := le_spShared (τ := τ) (p := (xs (i + 1))) (k := (xs (i + 2))); omega))) c9 | exact absurd c9 ((show ¬ nI (spShared τ (xs (i + 1)) (xs (i + 2))).1 = 0 from nI_ne0 (by omega) (by have := le_spShared (τ := τ) (p := (xs (i + 1))) (k := (xs (i + 2))); omega))))
    refine aw_goto X dL_law_2590 (tgt := 2593) (by decide) ?_
    exact T M3 _ _ _ _ _ _ _ (by show k + 3 + 0 + 0 ≤ k + 482; omega) (by show n + 18 + 0 + 0 ≤ n + 9712; omega) hs2 hm2.base ⟨_, ho2⟩
