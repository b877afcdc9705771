/-! the cases of the law -/
set_option maxHeartbeats 4000000 in
set_option maxRecDepth 100000 in
theorem lc_isNode {G : gG} {b Lx i : Nat} {xs : Nat → Int32} {lay : Nat → Nat × Nat} {T0 T1 : Nat} {Dd : Nat → Nat → UInt64} {I : gI} {J : gJ} {K : gI} {N : gJ} {sz k n : Nat} (hs : G.1.stackTraces = false) (hE : gLay lay) (R : Rel T0 T1 I K) (hL : Lx ≤ 3072) (hi : i + 6 ≤ Lx) (hk : k + 64 ≤ 601024) (hn : n + 64 ≤ 7293034) (hx : lNx G b Lx xs lay i k n) : gAt G mL_law (lQ G b Lx xs) 2170 (lLL G b i) [] (fO G (lay, T0, T1, Dd) I J K N) sz k n := by
  have hT0 : gTank lay T0 := gTk hE (R.tt.elim (fun h => Or.inl h.1) (fun h => Or.inr h.1))
  have hT1 : gTank lay T1 := gTk hE (R.tt.elim (fun h => Or.inr h.2) (fun h => Or.inl h.2))
  obtain ⟨r9, b9, g1, g2, g3⟩ := e_isNode (n := 30000) (by decide) R (xs (i + 1)) (xs (i + 2)) (xs (i + 3)) (xs (i + 4))
  rcases r9 with E9 | v9
  · have g3 : Tt K (thA E9) b9.2 := g3
    refine r_aload_n dL_law_2170 rfl ?_
    refine s_arg (kq := 1) hL hi (by decide) (by decide) dL_law_2171 dL_law_2172 dL_law_2174 dL_law_2175 dL_law_2176 rfl rfl ?_
    refine s_arg (kq := 2) hL hi (by decide) (by decide) dL_law_2177 dL_law_2178 dL_law_2180 dL_law_2181 dL_law_2182 rfl rfl ?_
    refine s_arg (kq := 3) hL hi (by decide) (by decide) dL_law_2183 dL_law_2184 dL_law_2186 dL_law_2187 dL_law_2188 rfl rfl ?_
    refine s_arg (kq := 4) hL hi (by decide) (by decide) dL_law_2189 dL_law_2190 dL_law_2192 dL_law_2193 dL_law_2194 rfl rfl ?_
    refine r_aload_n dL_law_2195 rfl ?_
    refine r_cSWs (rest := []) (we_isNode hs hE hT0 hT1 g1) dL_law_2196 wd_1198 zL_isNode wd_1199 rfl rfl rfl ⟨Nat.le_of_ble_eq_true rfl, Nat.le_of_ble_eq_true rfl⟩ (Nat.le_of_ble_eq_true rfl) ⟨lk hk rfl, lk hn rfl⟩ (fun sz9 => ?_)
    refine r_widen (k2 := k + 64) (n2 := n + 64) (Nat.add_le_add_left (Nat.le_of_ble_eq_true rfl) _) (Nat.add_le_add_left (Nat.le_of_ble_eq_true rfl) _) ?_
    refine r_istore dL_law_2199 (by decide) rfl ?_
    refine r_aload_n dL_law_2201 rfl ?_
    refine s_arg (kq := 1) hL hi (by decide) (by decide) dL_law_2202 dL_law_2203 dL_law_2205 dL_law_2206 dL_law_2207 rfl rfl ?_
    refine s_arg (kq := 2) hL hi (by decide) (by decide) dL_law_2208 dL_law_2209 dL_law_2211 dL_law_2212 dL_law_2213 rfl rfl ?_
    refine s_arg (kq := 3) hL hi (by decide) (by decide) dL_law_2214 dL_law_2215 dL_law_2217 dL_law_2218 dL_law_2219 rfl rfl ?_
    refine s_arg (kq := 4) hL hi (by decide) (by decide) dL_law_2220 dL_law_2221 dL_law_2223 dL_law_2224 dL_law_2225 rfl rfl ?_
    refine r_cV0 (rest := []) (ct_X10_isNode hs hE g2) dL_law_2226 wd_2036 zX10_isNode wd_2037 wd_2038 rfl rfl rfl (fo10 (hE 153 (by decide))) rfl rfl ⟨Nat.le_of_ble_eq_true rfl, Nat.le_of_ble_eq_true rfl⟩ (Nat.le_of_ble_eq_true rfl) ⟨rfl, rfl⟩ (lkk hk hn) ?_
    refine r_istore dL_law_2229 (by decide) rfl ?_
    refine r_aload_n dL_law_2231 rfl ?_
    have t9 := g3.t
    refine r_cV0 (rest := []) (ct_X10_thrown (n := 0) hs hE rfl) dL_law_2232 wd_1621 zX10_thrown wd_1622 wd_1623 rfl rfl rfl (fo10 (hE 153 (by decide))) rfl rfl ⟨Nat.le_of_ble_eq_true rfl, Nat.le_of_ble_eq_true rfl⟩ (Nat.le_of_ble_eq_true rfl) ⟨rfl, rfl⟩ (lkk hk hn) ?_
    refine r_iload dL_law_2235 rfl ?_
    refine r_icmp_eq (tgt := 2242) dL_law_2237 (by decide) (fun _ => ?_) (fun q => absurd t9 q)
    refine r_iload dL_law_2242 rfl ?_
    refine r_if_ne (tgt := 2266) dL_law_2244 (by decide) (fun _ => ?_) (fun q => absurd q (thA_ne E9))
    refine r_goto (tgt := 4357) dL_law_2266 (by decide) ?_
    exact r_mask [true, true, true, true, true, true, false, false, false] rfl (hx _ _ _ _ _ _ _ _ (R.tt' g3))
  · have g3 : v9 = b9.1 ∧ Tt K 0 b9.2 := g3
    refine r_aload_n dL_law_2170 rfl ?_
    refine s_arg (kq := 1) hL hi (by decide) (by decide) dL_law_2171 dL_law_2172 dL_law_2174 dL_law_2175 dL_law_2176 rfl rfl ?_
    refine s_arg (kq := 2) hL hi (by decide) (by decide) dL_law_2177 dL_law_2178 dL_law_2180 dL_law_2181 dL_law_2182 rfl rfl ?_
    refine s_arg (kq := 3) hL hi (by decide) (by decide) dL_law_2183 dL_law_2184 dL_law_2186 dL_law_2187 dL_law_2188 rfl rfl ?_
    refine s_arg (kq := 4) hL hi (by decide) (by decide) dL_law_2189 dL_law_2190 dL_law_2192 dL_law_2193 dL_law_2194 rfl rfl ?_
    refine r_aload_n dL_law_2195 rfl ?_
    refine r_cSW1 (rest := []) (wo_isNode hs hE hT0 hT1 g1) dL_law_2196 wd_1198 zL_isNode wd_1199 rfl rfl rfl ⟨Nat.le_of_ble_eq_true rfl, Nat.le_of_ble_eq_true rfl⟩ (Nat.le_of_ble_eq_true rfl) ⟨lk hk rfl, lk hn rfl⟩ ?_
    refine r_widen (k2 := k + 64) (n2 := n + 64) (Nat.add_le_add_left (Nat.le_of_ble_eq_true rfl) _) (Nat.add_le_add_left (Nat.le_of_ble_eq_true rfl) _) ?_
    refine r_istore dL_law_2199 (by decide) rfl ?_
    refine r_aload_n dL_law_2201 rfl ?_
    refine s_arg (kq := 1) hL hi (by decide) (by decide) dL_law_2202 dL_law_2203 dL_law_2205 dL_law_2206 dL_law_2207 rfl rfl ?_
    refine s_arg (kq := 2) hL hi (by decide) (by decide) dL_law_2208 dL_law_2209 dL_law_2211 dL_law_2212 dL_law_2213 rfl rfl ?_
    refine s_arg (kq := 3) hL hi (by decide) (by decide) dL_law_2214 dL_law_2215 dL_law_2217 dL_law_2218 dL_law_2219 rfl rfl ?_
    refine s_arg (kq := 4) hL hi (by decide) (by decide) dL_law_2220 dL_law_2221 dL_law_2223 dL_law_2224 dL_law_2225 rfl rfl ?_
    refine r_cV0 (rest := []) (ct_X10_isNode hs hE g2) dL_law_2226 wd_2036 zX10_isNode wd_2037 wd_2038 rfl rfl rfl (fo10 (hE 153 (by decide))) rfl rfl ⟨Nat.le_of_ble_eq_true rfl, Nat.le_of_ble_eq_true rfl⟩ (Nat.le_of_ble_eq_true rfl) ⟨rfl, rfl⟩ (lkk hk hn) ?_
    refine r_istore dL_law_2229 (by decide) rfl ?_
    refine r_aload_n dL_law_2231 rfl ?_
    have t9 := g3.2.t
    refine r_cV0 (rest := []) (ct_X10_thrown (n := 0) hs hE rfl) dL_law_2232 wd_1621 zX10_thrown wd_1622 wd_1623 rfl rfl rfl (fo10 (hE 153 (by decide))) rfl rfl ⟨Nat.le_of_ble_eq_true rfl, Nat.le_of_ble_eq_true rfl⟩ (Nat.le_of_ble_eq_true rfl) ⟨rfl, rfl⟩ (lkk hk hn) ?_
    refine r_iload dL_law_2235 rfl ?_
    refine r_icmp_eq (tgt := 2242) dL_law_2237 (by decide) (fun _ => ?_) (fun q => absurd t9 q)
    refine r_iload dL_law_2242 rfl ?_
    refine r_if_ne (tgt := 2266) dL_law_2244 (by decide) (fun q => absurd rfl q) (fun _ => ?_)
    refine r_aload_n dL_law_2247 rfl ?_
    refine r_iconst (v := (0 : Int32)) dL_law_2248 (by decide) ?_
    refine a_laldc 0 dL_law_2249 (hE 170 (by decide)) (vpc rfl) rfl ?_
    refine r_tl sJ_self ?_
    refine r_iload dL_law_2250 rfl ?_
    refine r_if_eq (tgt := 2259) dL_law_2252 (by decide) (fun z => ?_) (fun z => ?_)
    · refine r_lconst (v := (0 : Int64)) dL_law_2259 (by decide) ?_
      refine r_lcmp dL_law_2260 ?_
      refine r_ti (y := 0) ((lg_cmp_eq _ _).mpr (if_pos (g3.1.trans z))) ?_
      refine r_if_eq (tgt := 2266) dL_law_2261 (by decide) (fun _ => ?_) (fun q => absurd rfl q)
      refine r_goto (tgt := 4357) dL_law_2266 (by decide) ?_
      exact r_mask [true, true, true, true, true, true, false, false, false] rfl (hx _ _ _ _ _ _ _ _ (R.tt' g3.2))
    · refine r_lconst (v := (1 : Int64)) dL_law_2255 (by decide) ?_
      refine r_goto (tgt := 2260) dL_law_2256 (by decide) ?_
      refine r_lcmp dL_law_2260 ?_
      refine r_ti (y := 0) ((lg_cmp_eq _ _).mpr (if_neg (fun q => z (g3.1.symm.trans q)))) ?_
      refine r_if_eq (tgt := 2266) dL_law_2261 (by decide) (fun _ => ?_) (fun q => absurd rfl q)
      refine r_goto (tgt := 4357) dL_law_2266 (by decide) ?_
      exact r_mask [true, true, true, true, true, true, false, false, false] rfl (hx _ _ _ _ _ _ _ _ (R.tt' g3.2))
set_option maxHeartbeats 4000000 in
set_option maxRecDepth 100000 in
theorem lc_nodes {G : gG} {b Lx i : Nat} {xs : Nat → Int32} {lay : Nat → Nat × Nat} {T0 T1 : Nat} {Dd : Nat → Nat → UInt64} {I : gI} {J : gJ} {K : gI} {N : gJ} {sz k n : Nat} (hs : G.1.stackTraces = false) (hE : gLay lay) (R : Rel T0 T1 I K) (hL : Lx ≤ 3072) (hi : i + 6 ≤ Lx) (hk : k + 64 ≤ 601024) (hn : n + 64 ≤ 7293034) (hx : lNx G b Lx xs lay i k n) : gAt G mL_law (lQ G b Lx xs) 2269 (lLL G b i) [] (fO G (lay, T0, T1, Dd) I J K N) sz k n := by
  have hT0 : gTank lay T0 := gTk hE (R.tt.elim (fun h => Or.inl h.1) (fun h => Or.inr h.1))
  have hT1 : gTank lay T1 := gTk hE (R.tt.elim (fun h => Or.inr h.2) (fun h => Or.inl h.2))
  obtain ⟨r9, b9, g1, g2, g3⟩ := e_nodes (n := 30000) (by decide) R (xs (i + 1)) (xs (i + 2))
  rcases r9 with E9 | v9
  · have g3 : Tt K (thB E9) b9.2 := g3
    refine r_aload_n dL_law_2269 rfl ?_
    refine s_arg (kq := 1) hL hi (by decide) (by decide) dL_law_2270 dL_law_2271 dL_law_2273 dL_law_2274 dL_law_2275 rfl rfl ?_
    refine s_arg (kq := 2) hL hi (by decide) (by decide) dL_law_2276 dL_law_2277 dL_law_2279 dL_law_2280 dL_law_2281 rfl rfl ?_
    refine r_aload_n dL_law_2282 rfl ?_
    refine r_cSWs (rest := []) (we_nodes hs hE hT0 hT1 g1) dL_law_2283 wd_1211 zL_nodes wd_1212 rfl rfl rfl ⟨Nat.le_of_ble_eq_true rfl, Nat.le_of_ble_eq_true rfl⟩ (Nat.le_of_ble_eq_true rfl) ⟨lk hk rfl, lk hn rfl⟩ (fun sz9 => ?_)
    refine r_widen (k2 := k + 64) (n2 := n + 64) (Nat.add_le_add_left (Nat.le_of_ble_eq_true rfl) _) (Nat.add_le_add_left (Nat.le_of_ble_eq_true rfl) _) ?_
    refine r_istore dL_law_2286 (by decide) rfl ?_
    refine r_aload_n dL_law_2288 rfl ?_
    refine s_arg (kq := 1) hL hi (by decide) (by decide) dL_law_2289 dL_law_2290 dL_law_2292 dL_law_2293 dL_law_2294 rfl rfl ?_
    refine s_arg (kq := 2) hL hi (by decide) (by decide) dL_law_2295 dL_law_2296 dL_law_2298 dL_law_2299 dL_law_2300 rfl rfl ?_
    refine r_cV0 (rest := []) (ct_X10_nodes hs hE g2) dL_law_2301 wd_2044 zX10_nodes wd_2045 wd_2046 rfl rfl rfl (fo10 (hE 153 (by decide))) rfl rfl ⟨Nat.le_of_ble_eq_true rfl, Nat.le_of_ble_eq_true rfl⟩ (Nat.le_of_ble_eq_true rfl) ⟨rfl, rfl⟩ (lkk hk hn) ?_
    refine r_istore dL_law_2304 (by decide) rfl ?_
    refine r_aload_n dL_law_2306 rfl ?_
    have t9 := g3.t
    refine r_cV0 (rest := []) (ct_X10_thrown (n := 0) hs hE rfl) dL_law_2307 wd_1621 zX10_thrown wd_1622 wd_1623 rfl rfl rfl (fo10 (hE 153 (by decide))) rfl rfl ⟨Nat.le_of_ble_eq_true rfl, Nat.le_of_ble_eq_true rfl⟩ (Nat.le_of_ble_eq_true rfl) ⟨rfl, rfl⟩ (lkk hk hn) ?_
    refine r_iload dL_law_2310 rfl ?_
    refine r_icmp_eq (tgt := 2317) dL_law_2312 (by decide) (fun _ => ?_) (fun q => absurd t9 q)
    refine r_iload dL_law_2317 rfl ?_
    refine r_if_ne (tgt := 2334) dL_law_2319 (by decide) (fun _ => ?_) (fun q => absurd q (thB_ne E9))
    refine r_goto (tgt := 4357) dL_law_2334 (by decide) ?_
    exact r_mask [true, true, true, true, true, true, false, false, false] rfl (hx _ _ _ _ _ _ _ _ (R.tt' g3))
  · have g3 : v9 = b9.1 ∧ Rel T0 T1 I b9.2 ∧ b9.2 153 0 = 0 := g3
    refine r_aload_n dL_law_2269 rfl ?_
    refine s_arg (kq := 1) hL hi (by decide) (by decide) dL_law_2270 dL_law_2271 dL_law_2273 dL_law_2274 dL_law_2275 rfl rfl ?_
    refine s_arg (kq := 2) hL hi (by decide) (by decide) dL_law_2276 dL_law_2277 dL_law_2279 dL_law_2280 dL_law_2281 rfl rfl ?_
    refine r_aload_n dL_law_2282 rfl ?_
    refine r_cSW1 (rest := []) (wo_nodes hs hE hT0 hT1 g1) dL_law_2283 wd_1211 zL_nodes wd_1212 rfl rfl rfl ⟨Nat.le_of_ble_eq_true rfl, Nat.le_of_ble_eq_true rfl⟩ (Nat.le_of_ble_eq_true rfl) ⟨lk hk rfl, lk hn rfl⟩ ?_
    refine r_widen (k2 := k + 64) (n2 := n + 64) (Nat.add_le_add_left (Nat.le_of_ble_eq_true rfl) _) (Nat.add_le_add_left (Nat.le_of_ble_eq_true rfl) _) ?_
    refine r_istore dL_law_2286 (by decide) rfl ?_
    refine r_aload_n dL_law_2288 rfl ?_
    refine s_arg (kq := 1) hL hi (by decide) (by decide) dL_law_2289 dL_law_2290 dL_law_2292 dL_law_2293 dL_law_2294 rfl rfl ?_
    refine s_arg (kq := 2) hL hi (by decide) (by decide) dL_law_2295 dL_law_2296 dL_law_2298 dL_law_2299 dL_law_2300 rfl rfl ?_
    refine r_cV0 (rest := []) (ct_X10_nodes hs hE g2) dL_law_2301 wd_2044 zX10_nodes wd_2045 wd_2046 rfl rfl rfl (fo10 (hE 153 (by decide))) rfl rfl ⟨Nat.le_of_ble_eq_true rfl, Nat.le_of_ble_eq_true rfl⟩ (Nat.le_of_ble_eq_true rfl) ⟨rfl, rfl⟩ (lkk hk hn) ?_
    refine r_istore dL_law_2304 (by decide) rfl ?_
    refine r_aload_n dL_law_2306 rfl ?_
    have t9 := g3.2.2
    refine r_cV0 (rest := []) (ct_X10_thrown (n := 0) hs hE rfl) dL_law_2307 wd_1621 zX10_thrown wd_1622 wd_1623 rfl rfl rfl (fo10 (hE 153 (by decide))) rfl rfl ⟨Nat.le_of_ble_eq_true rfl, Nat.le_of_ble_eq_true rfl⟩ (Nat.le_of_ble_eq_true rfl) ⟨rfl, rfl⟩ (lkk hk hn) ?_
    refine r_iload dL_law_2310 rfl ?_
    refine r_icmp_eq (tgt := 2317) dL_law_2312 (by decide) (fun _ => ?_) (fun q => absurd t9 q)
    refine r_iload dL_law_2317 rfl ?_
    refine r_if_ne (tgt := 2334) dL_law_2319 (by decide) (fun q => absurd rfl q) (fun _ => ?_)
    refine r_aload_n dL_law_2322 rfl ?_
    refine r_iconst (v := (0 : Int32)) dL_law_2323 (by decide) ?_
    refine a_laldc 0 dL_law_2324 (hE 170 (by decide)) (vpc rfl) rfl ?_
    refine r_tl sJ_self ?_
    refine r_iload dL_law_2325 rfl ?_
    refine r_i2l dL_law_2327 ?_
    refine r_lcmp dL_law_2328 ?_
    refine r_ti (y := 0) ((lg_cmp_eq _ _).mpr (congrArg Int32.toInt64 g3.1)) ?_
    refine r_if_eq (tgt := 2334) dL_law_2329 (by decide) (fun _ => ?_) (fun q => absurd rfl q)
    refine r_goto (tgt := 4357) dL_law_2334 (by decide) ?_
    exact r_mask [true, true, true, true, true, true, false, false, false] rfl (hx _ _ _ _ _ _ _ _ (g3.2.1))
set_option maxHeartbeats 4000000 in
set_option maxRecDepth 100000 in
theorem lc_nodeRows {G : gG} {b Lx i : Nat} {xs : Nat → Int32} {lay : Nat → Nat × Nat} {T0 T1 : Nat} {Dd : Nat → Nat → UInt64} {I : gI} {J : gJ} {K : gI} {N : gJ} {sz k n : Nat} (hs : G.1.stackTraces = false) (hE : gLay lay) (R : Rel T0 T1 I K) (hL : Lx ≤ 3072) (hi : i + 6 ≤ Lx) (hk : k + 64 ≤ 601024) (hn : n + 64 ≤ 7293034) (hx : lNx G b Lx xs lay i k n) : gAt G mL_law (lQ G b Lx xs) 2337 (lLL G b i) [] (fO G (lay, T0, T1, Dd) I J K N) sz k n := by
  have hT0 : gTank lay T0 := gTk hE (R.tt.elim (fun h => Or.inl h.1) (fun h => Or.inr h.1))
  have hT1 : gTank lay T1 := gTk hE (R.tt.elim (fun h => Or.inr h.2) (fun h => Or.inl h.2))
  obtain ⟨r9, b9, g1, g2, g3⟩ := e_nodeRows (n := 30000) (by decide) R (xs (i + 1)) (xs (i + 2)) (xs (i + 3))
  rcases r9 with E9 | v9
  · have g3 : Tt K (thA E9) b9.2 := g3
    refine r_aload_n dL_law_2337 rfl ?_
    refine s_arg (kq := 1) hL hi (by decide) (by decide) dL_law_2338 dL_law_2339 dL_law_2341 dL_law_2342 dL_law_2343 rfl rfl ?_
    refine s_arg (kq := 2) hL hi (by decide) (by decide) dL_law_2344 dL_law_2345 dL_law_2347 dL_law_2348 dL_law_2349 rfl rfl ?_
    refine s_arg (kq := 3) hL hi (by decide) (by decide) dL_law_2350 dL_law_2351 dL_law_2353 dL_law_2354 dL_law_2355 rfl rfl ?_
    refine r_aload_n dL_law_2356 rfl ?_
    refine r_cSWs (rest := []) (we_nodeRows hs hE hT0 hT1 g1) dL_law_2357 wd_1222 zL_nodeRows wd_1223 rfl rfl rfl ⟨Nat.le_of_ble_eq_true rfl, Nat.le_of_ble_eq_true rfl⟩ (Nat.le_of_ble_eq_true rfl) ⟨lk hk rfl, lk hn rfl⟩ (fun sz9 => ?_)
    refine r_widen (k2 := k + 64) (n2 := n + 64) (Nat.add_le_add_left (Nat.le_of_ble_eq_true rfl) _) (Nat.add_le_add_left (Nat.le_of_ble_eq_true rfl) _) ?_
    refine r_istore dL_law_2360 (by decide) rfl ?_
    refine r_aload_n dL_law_2362 rfl ?_
    refine s_arg (kq := 1) hL hi (by decide) (by decide) dL_law_2363 dL_law_2364 dL_law_2366 dL_law_2367 dL_law_2368 rfl rfl ?_
    refine s_arg (kq := 2) hL hi (by decide) (by decide) dL_law_2369 dL_law_2370 dL_law_2372 dL_law_2373 dL_law_2374 rfl rfl ?_
    refine s_arg (kq := 3) hL hi (by decide) (by decide) dL_law_2375 dL_law_2376 dL_law_2378 dL_law_2379 dL_law_2380 rfl rfl ?_
    refine r_cV0 (rest := []) (ct_X10_nodeRows hs hE g2) dL_law_2381 wd_2052 zX10_nodeRows wd_2053 wd_2054 rfl rfl rfl (fo10 (hE 153 (by decide))) rfl rfl ⟨Nat.le_of_ble_eq_true rfl, Nat.le_of_ble_eq_true rfl⟩ (Nat.le_of_ble_eq_true rfl) ⟨rfl, rfl⟩ (lkk hk hn) ?_
    refine r_istore dL_law_2384 (by decide) rfl ?_
    refine r_aload_n dL_law_2386 rfl ?_
    have t9 := g3.t
    refine r_cV0 (rest := []) (ct_X10_thrown (n := 0) hs hE rfl) dL_law_2387 wd_1621 zX10_thrown wd_1622 wd_1623 rfl rfl rfl (fo10 (hE 153 (by decide))) rfl rfl ⟨Nat.le_of_ble_eq_true rfl, Nat.le_of_ble_eq_true rfl⟩ (Nat.le_of_ble_eq_true rfl) ⟨rfl, rfl⟩ (lkk hk hn) ?_
    refine r_iload dL_law_2390 rfl ?_
    refine r_icmp_eq (tgt := 2397) dL_law_2392 (by decide) (fun _ => ?_) (fun q => absurd t9 q)
    refine r_iload dL_law_2397 rfl ?_
    refine r_if_ne (tgt := 2414) dL_law_2399 (by decide) (fun _ => ?_) (fun q => absurd q (thA_ne E9))
    refine r_goto (tgt := 4357) dL_law_2414 (by decide) ?_
    exact r_mask [true, true, true, true, true, true, false, false, false] rfl (hx _ _ _ _ _ _ _ _ (R.tt' g3))
  · have g3 : v9 = b9.1 ∧ Tt K 0 b9.2 := g3
    refine r_aload_n dL_law_2337 rfl ?_
    refine s_arg (kq := 1) hL hi (by decide) (by decide) dL_law_2338 dL_law_2339 dL_law_2341 dL_law_2342 dL_law_2343 rfl rfl ?_
    refine s_arg (kq := 2) hL hi (by decide) (by decide) dL_law_2344 dL_law_2345 dL_law_2347 dL_law_2348 dL_law_2349 rfl rfl ?_
    refine s_arg (kq := 3) hL hi (by decide) (by decide) dL_law_2350 dL_law_2351 dL_law_2353 dL_law_2354 dL_law_2355 rfl rfl ?_
    refine r_aload_n dL_law_2356 rfl ?_
    refine r_cSW1 (rest := []) (wo_nodeRows hs hE hT0 hT1 g1) dL_law_2357 wd_1222 zL_nodeRows wd_1223 rfl rfl rfl ⟨Nat.le_of_ble_eq_true rfl, Nat.le_of_ble_eq_true rfl⟩ (Nat.le_of_ble_eq_true rfl) ⟨lk hk rfl, lk hn rfl⟩ ?_
    refine r_widen (k2 := k + 64) (n2 := n + 64) (Nat.add_le_add_left (Nat.le_of_ble_eq_true rfl) _) (Nat.add_le_add_left (Nat.le_of_ble_eq_true rfl) _) ?_
    refine r_istore dL_law_2360 (by decide) rfl ?_
    refine r_aload_n dL_law_2362 rfl ?_
    refine s_arg (kq := 1) hL hi (by decide) (by decide) dL_law_2363 dL_law_2364 dL_law_2366 dL_law_2367 dL_law_2368 rfl rfl ?_
    refine s_arg (kq := 2) hL hi (by decide) (by decide) dL_law_2369 dL_law_2370 dL_law_2372 dL_law_2373 dL_law_2374 rfl rfl ?_
    refine s_arg (kq := 3) hL hi (by decide) (by decide) dL_law_2375 dL_law_2376 dL_law_2378 dL_law_2379 dL_law_2380 rfl rfl ?_
    refine r_cV0 (rest := []) (ct_X10_nodeRows hs hE g2) dL_law_2381 wd_2052 zX10_nodeRows wd_2053 wd_2054 rfl rfl rfl (fo10 (hE 153 (by decide))) rfl rfl ⟨Nat.le_of_ble_eq_true rfl, Nat.le_of_ble_eq_true rfl⟩ (Nat.le_of_ble_eq_true rfl) ⟨rfl, rfl⟩ (lkk hk hn) ?_
    refine r_istore dL_law_2384 (by decide) rfl ?_
    refine r_aload_n dL_law_2386 rfl ?_
    have t9 := g3.2.t
    refine r_cV0 (rest := []) (ct_X10_thrown (n := 0) hs hE rfl) dL_law_2387 wd_1621 zX10_thrown wd_1622 wd_1623 rfl rfl rfl (fo10 (hE 153 (by decide))) rfl rfl ⟨Nat.le_of_ble_eq_true rfl, Nat.le_of_ble_eq_true rfl⟩ (Nat.le_of_ble_eq_true rfl) ⟨rfl, rfl⟩ (lkk hk hn) ?_
    refine r_iload dL_law_2390 rfl ?_
    refine r_icmp_eq (tgt := 2397) dL_law_2392 (by decide) (fun _ => ?_) (fun q => absurd t9 q)
    refine r_iload dL_law_2397 rfl ?_
    refine r_if_ne (tgt := 2414) dL_law_2399 (by decide) (fun q => absurd rfl q) (fun _ => ?_)
    refine r_aload_n dL_law_2402 rfl ?_
    refine r_iconst (v := (0 : Int32)) dL_law_2403 (by decide) ?_
    refine a_laldc 0 dL_law_2404 (hE 170 (by decide)) (vpc rfl) rfl ?_
    refine r_tl sJ_self ?_
    refine r_iload dL_law_2405 rfl ?_
    refine r_i2l dL_law_2407 ?_
    refine r_lcmp dL_law_2408 ?_
    refine r_ti (y := 0) ((lg_cmp_eq _ _).mpr (congrArg Int32.toInt64 g3.1)) ?_
    refine r_if_eq (tgt := 2414) dL_law_2409 (by decide) (fun _ => ?_) (fun q => absurd rfl q)
    refine r_goto (tgt := 4357) dL_law_2414 (by decide) ?_
    exact r_mask [true, true, true, true, true, true, false, false, false] rfl (hx _ _ _ _ _ _ _ _ (R.tt' g3.2))
set_option maxHeartbeats 4000000 in
set_option maxRecDepth 100000 in
theorem lc_nodeGroups {G : gG} {b Lx i : Nat} {xs : Nat → Int32} {lay : Nat → Nat × Nat} {T0 T1 : Nat} {Dd : Nat → Nat → UInt64} {I : gI} {J : gJ} {K : gI} {N : gJ} {sz k n : Nat} (hs : G.1.stackTraces = false) (hE : gLay lay) (R : Rel T0 T1 I K) (hL : Lx ≤ 3072) (hi : i + 6 ≤ Lx) (hk : k + 64 ≤ 601024) (hn : n + 64 ≤ 7293034) (hx : lNx G b Lx xs lay i k n) : gAt G mL_law (lQ G b Lx xs) 2417 (lLL G b i) [] (fO G (lay, T0, T1, Dd) I J K N) sz k n := by
  have hT0 : gTank lay T0 := gTk hE (R.tt.elim (fun h => Or.inl h.1) (fun h => Or.inr h.1))
  have hT1 : gTank lay T1 := gTk hE (R.tt.elim (fun h => Or.inr h.2) (fun h => Or.inl h.2))
  obtain ⟨r9, b9, g1, g2, g3⟩ := e_nodeGroups (n := 30000) (by decide) R (xs (i + 1)) (xs (i + 2))
  rcases r9 with E9 | v9
  · have g3 : Tt K (thB E9) b9.2 := g3
    refine r_aload_n dL_law_2417 rfl ?_
    refine s_arg (kq := 1) hL hi (by decide) (by decide) dL_law_2418 dL_law_2419 dL_law_2421 dL_law_2422 dL_law_2423 rfl rfl ?_
    refine s_arg (kq := 2) hL hi (by decide) (by decide) dL_law_2424 dL_law_2425 dL_law_2427 dL_law_2428 dL_law_2429 rfl rfl ?_
    refine r_aload_n dL_law_2430 rfl ?_
    refine r_cSWs (rest := []) (we_nodeGroups hs hE hT0 hT1 g1) dL_law_2431 wd_1233 zL_nodeGroups wd_1234 rfl rfl rfl ⟨Nat.le_of_ble_eq_true rfl, Nat.le_of_ble_eq_true rfl⟩ (Nat.le_of_ble_eq_true rfl) ⟨lk hk rfl, lk hn rfl⟩ (fun sz9 => ?_)
    refine r_widen (k2 := k + 64) (n2 := n + 64) (Nat.add_le_add_left (Nat.le_of_ble_eq_true rfl) _) (Nat.add_le_add_left (Nat.le_of_ble_eq_true rfl) _) ?_
    refine r_istore dL_law_2434 (by decide) rfl ?_
    refine r_aload_n dL_law_2436 rfl ?_
    refine s_arg (kq := 1) hL hi (by decide) (by decide) dL_law_2437 dL_law_2438 dL_law_2440 dL_law_2441 dL_law_2442 rfl rfl ?_
    refine s_arg (kq := 2) hL hi (by decide) (by decide) dL_law_2443 dL_law_2444 dL_law_2446 dL_law_2447 dL_law_2448 rfl rfl ?_
    refine r_cV0 (rest := []) (ct_X10_nodeGroups hs hE g2) dL_law_2449 wd_2056 zX10_nodeGroups wd_2057 wd_2058 rfl rfl rfl (fo10 (hE 153 (by decide))) rfl rfl ⟨Nat.le_of_ble_eq_true rfl, Nat.le_of_ble_eq_true rfl⟩ (Nat.le_of_ble_eq_true rfl) ⟨rfl, rfl⟩ (lkk hk hn) ?_
    refine r_istore dL_law_2452 (by decide) rfl ?_
    refine r_aload_n dL_law_2454 rfl ?_
    have t9 := g3.t
    refine r_cV0 (rest := []) (ct_X10_thrown (n := 0) hs hE rfl) dL_law_2455 wd_1621 zX10_thrown wd_1622 wd_1623 rfl rfl rfl (fo10 (hE 153 (by decide))) rfl rfl ⟨Nat.le_of_ble_eq_true rfl, Nat.le_of_ble_eq_true rfl⟩ (Nat.le_of_ble_eq_true rfl) ⟨rfl, rfl⟩ (lkk hk hn) ?_
    refine r_iload dL_law_2458 rfl ?_
    refine r_icmp_eq (tgt := 2465) dL_law_2460 (by decide) (fun _ => ?_) (fun q => absurd t9 q)
    refine r_iload dL_law_2465 rfl ?_
    refine r_if_ne (tgt := 2482) dL_law_2467 (by decide) (fun _ => ?_) (fun q => absurd q (thB_ne E9))
    refine r_goto (tgt := 4357) dL_law_2482 (by decide) ?_
    exact r_mask [true, true, true, true, true, true, false, false, false] rfl (hx _ _ _ _ _ _ _ _ (R.tt' g3))
  · have g3 : v9.1 = b9.1 ∧ Rel T0 T1 v9.2 b9.2 ∧ b9.2 153 0 = 0 := g3
    refine r_aload_n dL_law_2417 rfl ?_
    refine s_arg (kq := 1) hL hi (by decide) (by decide) dL_law_2418 dL_law_2419 dL_law_2421 dL_law_2422 dL_law_2423 rfl rfl ?_
    refine s_arg (kq := 2) hL hi (by decide) (by decide) dL_law_2424 dL_law_2425 dL_law_2427 dL_law_2428 dL_law_2429 rfl rfl ?_
    refine r_aload_n dL_law_2430 rfl ?_
    refine r_cSW1 (rest := []) (wo_nodeGroups hs hE hT0 hT1 g1) dL_law_2431 wd_1233 zL_nodeGroups wd_1234 rfl rfl rfl ⟨Nat.le_of_ble_eq_true rfl, Nat.le_of_ble_eq_true rfl⟩ (Nat.le_of_ble_eq_true rfl) ⟨lk hk rfl, lk hn rfl⟩ ?_
    refine r_widen (k2 := k + 64) (n2 := n + 64) (Nat.add_le_add_left (Nat.le_of_ble_eq_true rfl) _) (Nat.add_le_add_left (Nat.le_of_ble_eq_true rfl) _) ?_
    refine r_istore dL_law_2434 (by decide) rfl ?_
    refine r_aload_n dL_law_2436 rfl ?_
    refine s_arg (kq := 1) hL hi (by decide) (by decide) dL_law_2437 dL_law_2438 dL_law_2440 dL_law_2441 dL_law_2442 rfl rfl ?_
    refine s_arg (kq := 2) hL hi (by decide) (by decide) dL_law_2443 dL_law_2444 dL_law_2446 dL_law_2447 dL_law_2448 rfl rfl ?_
    refine r_cV0 (rest := []) (ct_X10_nodeGroups hs hE g2) dL_law_2449 wd_2056 zX10_nodeGroups wd_2057 wd_2058 rfl rfl rfl (fo10 (hE 153 (by decide))) rfl rfl ⟨Nat.le_of_ble_eq_true rfl, Nat.le_of_ble_eq_true rfl⟩ (Nat.le_of_ble_eq_true rfl) ⟨rfl, rfl⟩ (lkk hk hn) ?_
    refine r_istore dL_law_2452 (by decide) rfl ?_
    refine r_aload_n dL_law_2454 rfl ?_
    have t9 := g3.2.2
    refine r_cV0 (rest := []) (ct_X10_thrown (n := 0) hs hE rfl) dL_law_2455 wd_1621 zX10_thrown wd_1622 wd_1623 rfl rfl rfl (fo10 (hE 153 (by decide))) rfl rfl ⟨Nat.le_of_ble_eq_true rfl, Nat.le_of_ble_eq_true rfl⟩ (Nat.le_of_ble_eq_true rfl) ⟨rfl, rfl⟩ (lkk hk hn) ?_
    refine r_iload dL_law_2458 rfl ?_
    refine r_icmp_eq (tgt := 2465) dL_law_2460 (by decide) (fun _ => ?_) (fun q => absurd t9 q)
    refine r_iload dL_law_2465 rfl ?_
    refine r_if_ne (tgt := 2482) dL_law_2467 (by decide) (fun q => absurd rfl q) (fun _ => ?_)
    refine r_aload_n dL_law_2470 rfl ?_
    refine r_iconst (v := (0 : Int32)) dL_law_2471 (by decide) ?_
    refine a_laldc 0 dL_law_2472 (hE 170 (by decide)) (vpc rfl) rfl ?_
    refine r_tl sJ_self ?_
    refine r_iload dL_law_2473 rfl ?_
    refine r_i2l dL_law_2475 ?_
    refine r_lcmp dL_law_2476 ?_
    refine r_ti (y := 0) ((lg_cmp_eq _ _).mpr (congrArg Int32.toInt64 g3.1)) ?_
    refine r_if_eq (tgt := 2482) dL_law_2477 (by decide) (fun _ => ?_) (fun q => absurd rfl q)
    refine r_goto (tgt := 4357) dL_law_2482 (by decide) ?_
    exact r_mask [true, true, true, true, true, true, false, false, false] rfl (hx _ _ _ _ _ _ _ _ (g3.2.1))
set_option maxHeartbeats 4000000 in
set_option maxRecDepth 100000 in
theorem lc_energy {G : gG} {b Lx i : Nat} {xs : Nat → Int32} {lay : Nat → Nat × Nat} {T0 T1 : Nat} {Dd : Nat → Nat → UInt64} {I : gI} {J : gJ} {K : gI} {N : gJ} {sz k n : Nat} (hs : G.1.stackTraces = false) (hE : gLay lay) (R : Rel T0 T1 I K) (hL : Lx ≤ 3072) (hi : i + 6 ≤ Lx) (hk : k + 64 ≤ 601024) (hn : n + 64 ≤ 7293034) (hx : lNx G b Lx xs lay i k n) : gAt G mL_law (lQ G b Lx xs) 2485 (lLL G b i) [] (fO G (lay, T0, T1, Dd) I J K N) sz k n := by
  have hT0 : gTank lay T0 := gTk hE (R.tt.elim (fun h => Or.inl h.1) (fun h => Or.inr h.1))
  have hT1 : gTank lay T1 := gTk hE (R.tt.elim (fun h => Or.inr h.2) (fun h => Or.inl h.2))
  obtain ⟨r9, b9, g1, g2, g3⟩ := e_energy (n := 30000) (by decide) R (xs (i + 1)) (xs (i + 2)) (xs (i + 3))
  rcases r9 with E9 | v9
  · have g3 : Tt K (thA E9) b9.2 := g3
    refine r_aload_n dL_law_2485 rfl ?_
    refine s_arg (kq := 1) hL hi (by decide) (by decide) dL_law_2486 dL_law_2487 dL_law_2489 dL_law_2490 dL_law_2491 rfl rfl ?_
    refine s_arg (kq := 2) hL hi (by decide) (by decide) dL_law_2492 dL_law_2493 dL_law_2495 dL_law_2496 dL_law_2497 rfl rfl ?_
    refine s_arg (kq := 3) hL hi (by decide) (by decide) dL_law_2498 dL_law_2499 dL_law_2501 dL_law_2502 dL_law_2503 rfl rfl ?_
    refine r_aload_n dL_law_2504 rfl ?_
    refine r_cSWs (rest := []) (we_energy hs hE hT0 hT1 g1) dL_law_2505 wd_1252 zL_energy wd_1253 rfl rfl rfl ⟨Nat.le_of_ble_eq_true rfl, Nat.le_of_ble_eq_true rfl⟩ (Nat.le_of_ble_eq_true rfl) ⟨lk hk rfl, lk hn rfl⟩ (fun sz9 => ?_)
    refine r_widen (k2 := k + 64) (n2 := n + 64) (Nat.add_le_add_left (Nat.le_of_ble_eq_true rfl) _) (Nat.add_le_add_left (Nat.le_of_ble_eq_true rfl) _) ?_
    refine r_istore dL_law_2508 (by decide) rfl ?_
    refine r_aload_n dL_law_2510 rfl ?_
    refine s_arg (kq := 1) hL hi (by decide) (by decide) dL_law_2511 dL_law_2512 dL_law_2514 dL_law_2515 dL_law_2516 rfl rfl ?_
    refine s_arg (kq := 2) hL hi (by decide) (by decide) dL_law_2517 dL_law_2518 dL_law_2520 dL_law_2521 dL_law_2522 rfl rfl ?_
    refine s_arg (kq := 3) hL hi (by decide) (by decide) dL_law_2523 dL_law_2524 dL_law_2526 dL_law_2527 dL_law_2528 rfl rfl ?_
    refine r_cV0 (rest := []) (ct_X10_energy hs hE g2) dL_law_2529 wd_2068 zX10_energy wd_2069 wd_2070 rfl rfl rfl (fo10 (hE 153 (by decide))) rfl rfl ⟨Nat.le_of_ble_eq_true rfl, Nat.le_of_ble_eq_true rfl⟩ (Nat.le_of_ble_eq_true rfl) ⟨rfl, rfl⟩ (lkk hk hn) ?_
    refine r_lstore dL_law_2532 (by decide) rfl ?_
    refine r_aload_n dL_law_2534 rfl ?_
    have t9 := g3.t
    refine r_cV0 (rest := []) (ct_X10_thrown (n := 0) hs hE rfl) dL_law_2535 wd_1621 zX10_thrown wd_1622 wd_1623 rfl rfl rfl (fo10 (hE 153 (by decide))) rfl rfl ⟨Nat.le_of_ble_eq_true rfl, Nat.le_of_ble_eq_true rfl⟩ (Nat.le_of_ble_eq_true rfl) ⟨rfl, rfl⟩ (lkk hk hn) ?_
    refine r_iload dL_law_2538 rfl ?_
    refine r_icmp_eq (tgt := 2545) dL_law_2540 (by decide) (fun _ => ?_) (fun q => absurd t9 q)
    refine r_iload dL_law_2545 rfl ?_
    refine r_if_ne (tgt := 2561) dL_law_2547 (by decide) (fun _ => ?_) (fun q => absurd q (thA_ne E9))
    refine r_goto (tgt := 4357) dL_law_2561 (by decide) ?_
    exact r_mask [true, true, true, true, true, true, false, false, false] rfl (hx _ _ _ _ _ _ _ _ (R.tt' g3))
  · have g3 : v9 = b9.1 ∧ Tt K 0 b9.2 := g3
    refine r_aload_n dL_law_2485 rfl ?_
    refine s_arg (kq := 1) hL hi (by decide) (by decide) dL_law_2486 dL_law_2487 dL_law_2489 dL_law_2490 dL_law_2491 rfl rfl ?_
    refine s_arg (kq := 2) hL hi (by decide) (by decide) dL_law_2492 dL_law_2493 dL_law_2495 dL_law_2496 dL_law_2497 rfl rfl ?_
    refine s_arg (kq := 3) hL hi (by decide) (by decide) dL_law_2498 dL_law_2499 dL_law_2501 dL_law_2502 dL_law_2503 rfl rfl ?_
    refine r_aload_n dL_law_2504 rfl ?_
    refine r_cSW1 (rest := []) (wo_energy hs hE hT0 hT1 g1) dL_law_2505 wd_1252 zL_energy wd_1253 rfl rfl rfl ⟨Nat.le_of_ble_eq_true rfl, Nat.le_of_ble_eq_true rfl⟩ (Nat.le_of_ble_eq_true rfl) ⟨lk hk rfl, lk hn rfl⟩ ?_
    refine r_widen (k2 := k + 64) (n2 := n + 64) (Nat.add_le_add_left (Nat.le_of_ble_eq_true rfl) _) (Nat.add_le_add_left (Nat.le_of_ble_eq_true rfl) _) ?_
    refine r_istore dL_law_2508 (by decide) rfl ?_
    refine r_aload_n dL_law_2510 rfl ?_
    refine s_arg (kq := 1) hL hi (by decide) (by decide) dL_law_2511 dL_law_2512 dL_law_2514 dL_law_2515 dL_law_2516 rfl rfl ?_
    refine s_arg (kq := 2) hL hi (by decide) (by decide) dL_law_2517 dL_law_2518 dL_law_2520 dL_law_2521 dL_law_2522 rfl rfl ?_
    refine s_arg (kq := 3) hL hi (by decide) (by decide) dL_law_2523 dL_law_2524 dL_law_2526 dL_law_2527 dL_law_2528 rfl rfl ?_
    refine r_cV0 (rest := []) (ct_X10_energy hs hE g2) dL_law_2529 wd_2068 zX10_energy wd_2069 wd_2070 rfl rfl rfl (fo10 (hE 153 (by decide))) rfl rfl ⟨Nat.le_of_ble_eq_true rfl, Nat.le_of_ble_eq_true rfl⟩ (Nat.le_of_ble_eq_true rfl) ⟨rfl, rfl⟩ (lkk hk hn) ?_
    refine r_lstore dL_law_2532 (by decide) rfl ?_
    refine r_aload_n dL_law_2534 rfl ?_
    have t9 := g3.2.t
    refine r_cV0 (rest := []) (ct_X10_thrown (n := 0) hs hE rfl) dL_law_2535 wd_1621 zX10_thrown wd_1622 wd_1623 rfl rfl rfl (fo10 (hE 153 (by decide))) rfl rfl ⟨Nat.le_of_ble_eq_true rfl, Nat.le_of_ble_eq_true rfl⟩ (Nat.le_of_ble_eq_true rfl) ⟨rfl, rfl⟩ (lkk hk hn) ?_
    refine r_iload dL_law_2538 rfl ?_
    refine r_icmp_eq (tgt := 2545) dL_law_2540 (by decide) (fun _ => ?_) (fun q => absurd t9 q)
    refine r_iload dL_law_2545 rfl ?_
    refine r_if_ne (tgt := 2561) dL_law_2547 (by decide) (fun q => absurd rfl q) (fun _ => ?_)
    refine r_aload_n dL_law_2550 rfl ?_
    refine r_iconst (v := (0 : Int32)) dL_law_2551 (by decide) ?_
    refine a_laldc 0 dL_law_2552 (hE 170 (by decide)) (vpc rfl) rfl ?_
    refine r_tl sJ_self ?_
    refine r_lload dL_law_2553 rfl ?_
    refine r_lcmp dL_law_2555 ?_
    refine r_ti (y := 0) ((lg_cmp_eq _ _).mpr g3.1) ?_
    refine r_if_eq (tgt := 2561) dL_law_2556 (by decide) (fun _ => ?_) (fun q => absurd rfl q)
    refine r_goto (tgt := 4357) dL_law_2561 (by decide) ?_
    exact r_mask [true, true, true, true, true, true, false, false, false] rfl (hx _ _ _ _ _ _ _ _ (R.tt' g3.2))
set_option maxHeartbeats 4000000 in
set_option maxRecDepth 100000 in
theorem lc_rowEnergy {G : gG} {b Lx i : Nat} {xs : Nat → Int32} {lay : Nat → Nat × Nat} {T0 T1 : Nat} {Dd : Nat → Nat → UInt64} {I : gI} {J : gJ} {K : gI} {N : gJ} {sz k n : Nat} (hs : G.1.stackTraces = false) (hE : gLay lay) (R : Rel T0 T1 I K) (hL : Lx ≤ 3072) (hi : i + 6 ≤ Lx) (hk : k + 64 ≤ 601024) (hn : n + 64 ≤ 7293034) (hx : lNx G b Lx xs lay i k n) : gAt G mL_law (lQ G b Lx xs) 2564 (lLL G b i) [] (fO G (lay, T0, T1, Dd) I J K N) sz k n := by
  have hT0 : gTank lay T0 := gTk hE (R.tt.elim (fun h => Or.inl h.1) (fun h => Or.inr h.1))
  have hT1 : gTank lay T1 := gTk hE (R.tt.elim (fun h => Or.inr h.2) (fun h => Or.inl h.2))
  obtain ⟨r9, b9, g1, g2, g3⟩ := e_rowEnergy (n := 30000) (by decide) R (xs (i + 1)) (xs (i + 2))
  rcases r9 with E9 | v9
  · have g3 : Tt K (thA E9) b9.2 := g3
    refine r_aload_n dL_law_2564 rfl ?_
    refine s_arg (kq := 1) hL hi (by decide) (by decide) dL_law_2565 dL_law_2566 dL_law_2568 dL_law_2569 dL_law_2570 rfl rfl ?_
    refine s_arg (kq := 2) hL hi (by decide) (by decide) dL_law_2571 dL_law_2572 dL_law_2574 dL_law_2575 dL_law_2576 rfl rfl ?_
    refine r_aload_n dL_law_2577 rfl ?_
    refine r_cSWs (rest := []) (we_rowEnergy hs hE hT0 hT1 g1) dL_law_2578 wd_1263 zL_rowEnergy wd_1264 rfl rfl rfl ⟨Nat.le_of_ble_eq_true rfl, Nat.le_of_ble_eq_true rfl⟩ (Nat.le_of_ble_eq_true rfl) ⟨lk hk rfl, lk hn rfl⟩ (fun sz9 => ?_)
    refine r_widen (k2 := k + 64) (n2 := n + 64) (Nat.add_le_add_left (Nat.le_of_ble_eq_true rfl) _) (Nat.add_le_add_left (Nat.le_of_ble_eq_true rfl) _) ?_
    refine r_istore dL_law_2581 (by decide) rfl ?_
    refine r_aload_n dL_law_2583 rfl ?_
    refine s_arg (kq := 1) hL hi (by decide) (by decide) dL_law_2584 dL_law_2585 dL_law_2587 dL_law_2588 dL_law_2589 rfl rfl ?_
    refine s_arg (kq := 2) hL hi (by decide) (by decide) dL_law_2590 dL_law_2591 dL_law_2593 dL_law_2594 dL_law_2595 rfl rfl ?_
    refine r_cV0 (rest := []) (ct_X10_rowEnergy hs hE g2) dL_law_2596 wd_2076 zX10_rowEnergy wd_2077 wd_2078 rfl rfl rfl (fo10 (hE 153 (by decide))) rfl rfl ⟨Nat.le_of_ble_eq_true rfl, Nat.le_of_ble_eq_true rfl⟩ (Nat.le_of_ble_eq_true rfl) ⟨rfl, rfl⟩ (lkk hk hn) ?_
    refine r_lstore dL_law_2599 (by decide) rfl ?_
    refine r_aload_n dL_law_2601 rfl ?_
    have t9 := g3.t
    refine r_cV0 (rest := []) (ct_X10_thrown (n := 0) hs hE rfl) dL_law_2602 wd_1621 zX10_thrown wd_1622 wd_1623 rfl rfl rfl (fo10 (hE 153 (by decide))) rfl rfl ⟨Nat.le_of_ble_eq_true rfl, Nat.le_of_ble_eq_true rfl⟩ (Nat.le_of_ble_eq_true rfl) ⟨rfl, rfl⟩ (lkk hk hn) ?_
    refine r_iload dL_law_2605 rfl ?_
    refine r_icmp_eq (tgt := 2612) dL_law_2607 (by decide) (fun _ => ?_) (fun q => absurd t9 q)
    refine r_iload dL_law_2612 rfl ?_
    refine r_if_ne (tgt := 2628) dL_law_2614 (by decide) (fun _ => ?_) (fun q => absurd q (thA_ne E9))
    refine r_goto (tgt := 4357) dL_law_2628 (by decide) ?_
    exact r_mask [true, true, true, true, true, true, false, false, false] rfl (hx _ _ _ _ _ _ _ _ (R.tt' g3))
  · have g3 : v9 = b9.1 ∧ Tt K 0 b9.2 := g3
    refine r_aload_n dL_law_2564 rfl ?_
    refine s_arg (kq := 1) hL hi (by decide) (by decide) dL_law_2565 dL_law_2566 dL_law_2568 dL_law_2569 dL_law_2570 rfl rfl ?_
    refine s_arg (kq := 2) hL hi (by decide) (by decide) dL_law_2571 dL_law_2572 dL_law_2574 dL_law_2575 dL_law_2576 rfl rfl ?_
    refine r_aload_n dL_law_2577 rfl ?_
    refine r_cSW1 (rest := []) (wo_rowEnergy hs hE hT0 hT1 g1) dL_law_2578 wd_1263 zL_rowEnergy wd_1264 rfl rfl rfl ⟨Nat.le_of_ble_eq_true rfl, Nat.le_of_ble_eq_true rfl⟩ (Nat.le_of_ble_eq_true rfl) ⟨lk hk rfl, lk hn rfl⟩ ?_
    refine r_widen (k2 := k + 64) (n2 := n + 64) (Nat.add_le_add_left (Nat.le_of_ble_eq_true rfl) _) (Nat.add_le_add_left (Nat.le_of_ble_eq_true rfl) _) ?_
    refine r_istore dL_law_2581 (by decide) rfl ?_
    refine r_aload_n dL_law_2583 rfl ?_
    refine s_arg (kq := 1) hL hi (by decide) (by decide) dL_law_2584 dL_law_2585 dL_law_2587 dL_law_2588 dL_law_2589 rfl rfl ?_
    refine s_arg (kq := 2) hL hi (by decide) (by decide) dL_law_2590 dL_law_2591 dL_law_2593 dL_law_2594 dL_law_2595 rfl rfl ?_
    refine r_cV0 (rest := []) (ct_X10_rowEnergy hs hE g2) dL_law_2596 wd_2076 zX10_rowEnergy wd_2077 wd_2078 rfl rfl rfl (fo10 (hE 153 (by decide))) rfl rfl ⟨Nat.le_of_ble_eq_true rfl, Nat.le_of_ble_eq_true rfl⟩ (Nat.le_of_ble_eq_true rfl) ⟨rfl, rfl⟩ (lkk hk hn) ?_
    refine r_lstore dL_law_2599 (by decide) rfl ?_
    refine r_aload_n dL_law_2601 rfl ?_
    have t9 := g3.2.t
    refine r_cV0 (rest := []) (ct_X10_thrown (n := 0) hs hE rfl) dL_law_2602 wd_1621 zX10_thrown wd_1622 wd_1623 rfl rfl rfl (fo10 (hE 153 (by decide))) rfl rfl ⟨Nat.le_of_ble_eq_true rfl, Nat.le_of_ble_eq_true rfl⟩ (Nat.le_of_ble_eq_true rfl) ⟨rfl, rfl⟩ (lkk hk hn) ?_
    refine r_iload dL_law_2605 rfl ?_
    refine r_icmp_eq (tgt := 2612) dL_law_2607 (by decide) (fun _ => ?_) (fun q => absurd t9 q)
    refine r_iload dL_law_2612 rfl ?_
    refine r_if_ne (tgt := 2628) dL_law_2614 (by decide) (fun q => absurd rfl q) (fun _ => ?_)
    refine r_aload_n dL_law_2617 rfl ?_
    refine r_iconst (v := (0 : Int32)) dL_law_2618 (by decide) ?_
    refine a_laldc 0 dL_law_2619 (hE 170 (by decide)) (vpc rfl) rfl ?_
    refine r_tl sJ_self ?_
    refine r_lload dL_law_2620 rfl ?_
    refine r_lcmp dL_law_2622 ?_
    refine r_ti (y := 0) ((lg_cmp_eq _ _).mpr g3.1) ?_
    refine r_if_eq (tgt := 2628) dL_law_2623 (by decide) (fun _ => ?_) (fun q => absurd rfl q)
    refine r_goto (tgt := 4357) dL_law_2628 (by decide) ?_
    exact r_mask [true, true, true, true, true, true, false, false, false] rfl (hx _ _ _ _ _ _ _ _ (R.tt' g3.2))
set_option maxHeartbeats 4000000 in
set_option maxRecDepth 100000 in
theorem lc_allEnergy {G : gG} {b Lx i : Nat} {xs : Nat → Int32} {lay : Nat → Nat × Nat} {T0 T1 : Nat} {Dd : Nat → Nat → UInt64} {I : gI} {J : gJ} {K : gI} {N : gJ} {sz k n : Nat} (hs : G.1.stackTraces = false) (hE : gLay lay) (R : Rel T0 T1 I K) (hL : Lx ≤ 3072) (hi : i + 6 ≤ Lx) (hk : k + 64 ≤ 601024) (hn : n + 64 ≤ 7293034) (hx : lNx G b Lx xs lay i k n) : gAt G mL_law (lQ G b Lx xs) 2631 (lLL G b i) [] (fO G (lay, T0, T1, Dd) I J K N) sz k n := by
  have hT0 : gTank lay T0 := gTk hE (R.tt.elim (fun h => Or.inl h.1) (fun h => Or.inr h.1))
  have hT1 : gTank lay T1 := gTk hE (R.tt.elim (fun h => Or.inr h.2) (fun h => Or.inl h.2))
  obtain ⟨r9, b9, g1, g2, g3⟩ := e_allEnergy (n := 30000) (by decide) R J N (xs (i + 1))
  rcases r9 with E9 | v9
  · have g3 : Tt K (thB E9) b9.2.1 := g3
    refine r_aload_n dL_law_2631 rfl ?_
    refine s_arg (kq := 1) hL hi (by decide) (by decide) dL_law_2632 dL_law_2633 dL_law_2635 dL_law_2636 dL_law_2637 rfl rfl ?_
    refine r_aload_n dL_law_2638 rfl ?_
    refine r_cSWs (rest := []) (we_allEnergy hs hE hT0 hT1 g1) dL_law_2639 wd_1270 zL_allEnergy wd_1271 rfl rfl rfl ⟨Nat.le_of_ble_eq_true rfl, Nat.le_of_ble_eq_true rfl⟩ (Nat.le_of_ble_eq_true rfl) ⟨lk hk rfl, lk hn rfl⟩ (fun sz9 => ?_)
    refine r_widen (k2 := k + 64) (n2 := n + 64) (Nat.add_le_add_left (Nat.le_of_ble_eq_true rfl) _) (Nat.add_le_add_left (Nat.le_of_ble_eq_true rfl) _) ?_
    refine r_istore dL_law_2642 (by decide) rfl ?_
    refine r_aload_n dL_law_2644 rfl ?_
    refine s_arg (kq := 1) hL hi (by decide) (by decide) dL_law_2645 dL_law_2646 dL_law_2648 dL_law_2649 dL_law_2650 rfl rfl ?_
    refine r_cV0 (rest := []) (ct_X10_allEnergy hs hE g2) dL_law_2651 wd_2080 zX10_allEnergy wd_2081 wd_2082 rfl rfl rfl (fo10 (hE 153 (by decide))) rfl rfl ⟨Nat.le_of_ble_eq_true rfl, Nat.le_of_ble_eq_true rfl⟩ (Nat.le_of_ble_eq_true rfl) ⟨rfl, rfl⟩ (lkk hk hn) ?_
    refine r_lstore dL_law_2654 (by decide) rfl ?_
    refine r_aload_n dL_law_2656 rfl ?_
    have t9 := g3.t
    refine r_cV0 (rest := []) (ct_X10_thrown (n := 0) hs hE rfl) dL_law_2657 wd_1621 zX10_thrown wd_1622 wd_1623 rfl rfl rfl (fo10 (hE 153 (by decide))) rfl rfl ⟨Nat.le_of_ble_eq_true rfl, Nat.le_of_ble_eq_true rfl⟩ (Nat.le_of_ble_eq_true rfl) ⟨rfl, rfl⟩ (lkk hk hn) ?_
    refine r_iload dL_law_2660 rfl ?_
    refine r_icmp_eq (tgt := 2667) dL_law_2662 (by decide) (fun _ => ?_) (fun q => absurd t9 q)
    refine r_iload dL_law_2667 rfl ?_
    refine r_if_ne (tgt := 2683) dL_law_2669 (by decide) (fun _ => ?_) (fun q => absurd q (thB_ne E9))
    refine r_goto (tgt := 4357) dL_law_2683 (by decide) ?_
    exact r_mask [true, true, true, true, true, true, false, false, false] rfl (hx _ _ _ _ _ _ _ _ (R.tt' g3))
  · have g3 : v9.1 = b9.1 ∧ Tt K 0 b9.2.1 := g3
    refine r_aload_n dL_law_2631 rfl ?_
    refine s_arg (kq := 1) hL hi (by decide) (by decide) dL_law_2632 dL_law_2633 dL_law_2635 dL_law_2636 dL_law_2637 rfl rfl ?_
    refine r_aload_n dL_law_2638 rfl ?_
    refine r_cSW1 (rest := []) (wo_allEnergy hs hE hT0 hT1 g1) dL_law_2639 wd_1270 zL_allEnergy wd_1271 rfl rfl rfl ⟨Nat.le_of_ble_eq_true rfl, Nat.le_of_ble_eq_true rfl⟩ (Nat.le_of_ble_eq_true rfl) ⟨lk hk rfl, lk hn rfl⟩ ?_
    refine r_widen (k2 := k + 64) (n2 := n + 64) (Nat.add_le_add_left (Nat.le_of_ble_eq_true rfl) _) (Nat.add_le_add_left (Nat.le_of_ble_eq_true rfl) _) ?_
    refine r_istore dL_law_2642 (by decide) rfl ?_
    refine r_aload_n dL_law_2644 rfl ?_
    refine s_arg (kq := 1) hL hi (by decide) (by decide) dL_law_2645 dL_law_2646 dL_law_2648 dL_law_2649 dL_law_2650 rfl rfl ?_
    refine r_cV0 (rest := []) (ct_X10_allEnergy hs hE g2) dL_law_2651 wd_2080 zX10_allEnergy wd_2081 wd_2082 rfl rfl rfl (fo10 (hE 153 (by decide))) rfl rfl ⟨Nat.le_of_ble_eq_true rfl, Nat.le_of_ble_eq_true rfl⟩ (Nat.le_of_ble_eq_true rfl) ⟨rfl, rfl⟩ (lkk hk hn) ?_
    refine r_lstore dL_law_2654 (by decide) rfl ?_
    refine r_aload_n dL_law_2656 rfl ?_
    have t9 := g3.2.t
    refine r_cV0 (rest := []) (ct_X10_thrown (n := 0) hs hE rfl) dL_law_2657 wd_1621 zX10_thrown wd_1622 wd_1623 rfl rfl rfl (fo10 (hE 153 (by decide))) rfl rfl ⟨Nat.le_of_ble_eq_true rfl, Nat.le_of_ble_eq_true rfl⟩ (Nat.le_of_ble_eq_true rfl) ⟨rfl, rfl⟩ (lkk hk hn) ?_
    refine r_iload dL_law_2660 rfl ?_
    refine r_icmp_eq (tgt := 2667) dL_law_2662 (by decide) (fun _ => ?_) (fun q => absurd t9 q)
    refine r_iload dL_law_2667 rfl ?_
    refine r_if_ne (tgt := 2683) dL_law_2669 (by decide) (fun q => absurd rfl q) (fun _ => ?_)
    refine r_aload_n dL_law_2672 rfl ?_
    refine r_iconst (v := (0 : Int32)) dL_law_2673 (by decide) ?_
    refine a_laldc 0 dL_law_2674 (hE 170 (by decide)) (vpc rfl) rfl ?_
    refine r_tl sJ_self ?_
    refine r_lload dL_law_2675 rfl ?_
    refine r_lcmp dL_law_2677 ?_
    refine r_ti (y := 0) ((lg_cmp_eq _ _).mpr g3.1) ?_
    refine r_if_eq (tgt := 2683) dL_law_2678 (by decide) (fun _ => ?_) (fun q => absurd rfl q)
    refine r_goto (tgt := 4357) dL_law_2683 (by decide) ?_
    exact r_mask [true, true, true, true, true, true, false, false, false] rfl (hx _ _ _ _ _ _ _ _ (R.tt' g3.2))
set_option maxHeartbeats 4000000 in
set_option maxRecDepth 100000 in
theorem lc_strongest {G : gG} {b Lx i : Nat} {xs : Nat → Int32} {lay : Nat → Nat × Nat} {T0 T1 : Nat} {Dd : Nat → Nat → UInt64} {I : gI} {J : gJ} {K : gI} {N : gJ} {sz k n : Nat} (hs : G.1.stackTraces = false) (hE : gLay lay) (R : Rel T0 T1 I K) (hL : Lx ≤ 3072) (hi : i + 6 ≤ Lx) (hk : k + 64 ≤ 601024) (hn : n + 64 ≤ 7293034) (hx : lNx G b Lx xs lay i k n) : gAt G mL_law (lQ G b Lx xs) 2686 (lLL G b i) [] (fO G (lay, T0, T1, Dd) I J K N) sz k n := by
  have hT0 : gTank lay T0 := gTk hE (R.tt.elim (fun h => Or.inl h.1) (fun h => Or.inr h.1))
  have hT1 : gTank lay T1 := gTk hE (R.tt.elim (fun h => Or.inr h.2) (fun h => Or.inl h.2))
  obtain ⟨r9, b9, g1, g2, g3⟩ := e_strongest (n := 30000) (by decide) R J N (xs (i + 1)) (xs (i + 2))
  rcases r9 with E9 | v9
  · have g3 : Tt K (thA E9) b9.2.1 := g3
    refine r_aload_n dL_law_2686 rfl ?_
    refine s_arg (kq := 1) hL hi (by decide) (by decide) dL_law_2687 dL_law_2688 dL_law_2690 dL_law_2691 dL_law_2692 rfl rfl ?_
    refine s_arg (kq := 2) hL hi (by decide) (by decide) dL_law_2693 dL_law_2694 dL_law_2696 dL_law_2697 dL_law_2698 rfl rfl ?_
    refine r_aload_n dL_law_2699 rfl ?_
    refine r_cSWs (rest := []) (we_strongest hs hE hT0 hT1 g1) dL_law_2700 wd_1285 zL_strongest wd_1286 rfl rfl rfl ⟨Nat.le_of_ble_eq_true rfl, Nat.le_of_ble_eq_true rfl⟩ (Nat.le_of_ble_eq_true rfl) ⟨lk hk rfl, lk hn rfl⟩ (fun sz9 => ?_)
    refine r_widen (k2 := k + 64) (n2 := n + 64) (Nat.add_le_add_left (Nat.le_of_ble_eq_true rfl) _) (Nat.add_le_add_left (Nat.le_of_ble_eq_true rfl) _) ?_
    refine r_istore dL_law_2703 (by decide) rfl ?_
    refine r_aload_n dL_law_2705 rfl ?_
    refine s_arg (kq := 1) hL hi (by decide) (by decide) dL_law_2706 dL_law_2707 dL_law_2709 dL_law_2710 dL_law_2711 rfl rfl ?_
    refine s_arg (kq := 2) hL hi (by decide) (by decide) dL_law_2712 dL_law_2713 dL_law_2715 dL_law_2716 dL_law_2717 rfl rfl ?_
    refine r_cV0 (rest := []) (ct_X10_strongest hs hE g2) dL_law_2718 wd_2089 zX10_strongest wd_2090 wd_2091 rfl rfl rfl (fo10 (hE 153 (by decide))) rfl rfl ⟨Nat.le_of_ble_eq_true rfl, Nat.le_of_ble_eq_true rfl⟩ (Nat.le_of_ble_eq_true rfl) ⟨rfl, rfl⟩ (lkk hk hn) ?_
    refine r_istore dL_law_2721 (by decide) rfl ?_
    refine r_aload_n dL_law_2723 rfl ?_
    have t9 := g3.t
    refine r_cV0 (rest := []) (ct_X10_thrown (n := 0) hs hE rfl) dL_law_2724 wd_1621 zX10_thrown wd_1622 wd_1623 rfl rfl rfl (fo10 (hE 153 (by decide))) rfl rfl ⟨Nat.le_of_ble_eq_true rfl, Nat.le_of_ble_eq_true rfl⟩ (Nat.le_of_ble_eq_true rfl) ⟨rfl, rfl⟩ (lkk hk hn) ?_
    refine r_iload dL_law_2727 rfl ?_
    refine r_icmp_eq (tgt := 2734) dL_law_2729 (by decide) (fun _ => ?_) (fun q => absurd t9 q)
    refine r_iload dL_law_2734 rfl ?_
    refine r_if_ne (tgt := 2751) dL_law_2736 (by decide) (fun _ => ?_) (fun q => absurd q (thA_ne E9))
    refine r_goto (tgt := 4357) dL_law_2751 (by decide) ?_
    exact r_mask [true, true, true, true, true, true, false, false, false] rfl (hx _ _ _ _ _ _ _ _ (R.tt' g3))
  · have g3 : v9.1 = b9.1 ∧ Tt K 0 b9.2.1 := g3
    refine r_aload_n dL_law_2686 rfl ?_
    refine s_arg (kq := 1) hL hi (by decide) (by decide) dL_law_2687 dL_law_2688 dL_law_2690 dL_law_2691 dL_law_2692 rfl rfl ?_
    refine s_arg (kq := 2) hL hi (by decide) (by decide) dL_law_2693 dL_law_2694 dL_law_2696 dL_law_2697 dL_law_2698 rfl rfl ?_
    refine r_aload_n dL_law_2699 rfl ?_
    refine r_cSW1 (rest := []) (wo_strongest hs hE hT0 hT1 g1) dL_law_2700 wd_1285 zL_strongest wd_1286 rfl rfl rfl ⟨Nat.le_of_ble_eq_true rfl, Nat.le_of_ble_eq_true rfl⟩ (Nat.le_of_ble_eq_true rfl) ⟨lk hk rfl, lk hn rfl⟩ ?_
    refine r_widen (k2 := k + 64) (n2 := n + 64) (Nat.add_le_add_left (Nat.le_of_ble_eq_true rfl) _) (Nat.add_le_add_left (Nat.le_of_ble_eq_true rfl) _) ?_
    refine r_istore dL_law_2703 (by decide) rfl ?_
    refine r_aload_n dL_law_2705 rfl ?_
    refine s_arg (kq := 1) hL hi (by decide) (by decide) dL_law_2706 dL_law_2707 dL_law_2709 dL_law_2710 dL_law_2711 rfl rfl ?_
    refine s_arg (kq := 2) hL hi (by decide) (by decide) dL_law_2712 dL_law_2713 dL_law_2715 dL_law_2716 dL_law_2717 rfl rfl ?_
    refine r_cV0 (rest := []) (ct_X10_strongest hs hE g2) dL_law_2718 wd_2089 zX10_strongest wd_2090 wd_2091 rfl rfl rfl (fo10 (hE 153 (by decide))) rfl rfl ⟨Nat.le_of_ble_eq_true rfl, Nat.le_of_ble_eq_true rfl⟩ (Nat.le_of_ble_eq_true rfl) ⟨rfl, rfl⟩ (lkk hk hn) ?_
    refine r_istore dL_law_2721 (by decide) rfl ?_
    refine r_aload_n dL_law_2723 rfl ?_
    have t9 := g3.2.t
    refine r_cV0 (rest := []) (ct_X10_thrown (n := 0) hs hE rfl) dL_law_2724 wd_1621 zX10_thrown wd_1622 wd_1623 rfl rfl rfl (fo10 (hE 153 (by decide))) rfl rfl ⟨Nat.le_of_ble_eq_true rfl, Nat.le_of_ble_eq_true rfl⟩ (Nat.le_of_ble_eq_true rfl) ⟨rfl, rfl⟩ (lkk hk hn) ?_
    refine r_iload dL_law_2727 rfl ?_
    refine r_icmp_eq (tgt := 2734) dL_law_2729 (by decide) (fun _ => ?_) (fun q => absurd t9 q)
    refine r_iload dL_law_2734 rfl ?_
    refine r_if_ne (tgt := 2751) dL_law_2736 (by decide) (fun q => absurd rfl q) (fun _ => ?_)
    refine r_aload_n dL_law_2739 rfl ?_
    refine r_iconst (v := (0 : Int32)) dL_law_2740 (by decide) ?_
    refine a_laldc 0 dL_law_2741 (hE 170 (by decide)) (vpc rfl) rfl ?_
    refine r_tl sJ_self ?_
    refine r_iload dL_law_2742 rfl ?_
    refine r_i2l dL_law_2744 ?_
    refine r_lcmp dL_law_2745 ?_
    refine r_ti (y := 0) ((lg_cmp_eq _ _).mpr (congrArg Int32.toInt64 g3.1)) ?_
    refine r_if_eq (tgt := 2751) dL_law_2746 (by decide) (fun _ => ?_) (fun q => absurd rfl q)
    refine r_goto (tgt := 4357) dL_law_2751 (by decide) ?_
    exact r_mask [true, true, true, true, true, true, false, false, false] rfl (hx _ _ _ _ _ _ _ _ (R.tt' g3.2))
set_option maxHeartbeats 4000000 in
set_option maxRecDepth 100000 in
theorem lc_marks {G : gG} {b Lx i : Nat} {xs : Nat → Int32} {lay : Nat → Nat × Nat} {T0 T1 : Nat} {Dd : Nat → Nat → UInt64} {I : gI} {J : gJ} {K : gI} {N : gJ} {sz k n : Nat} (hs : G.1.stackTraces = false) (hE : gLay lay) (R : Rel T0 T1 I K) (hL : Lx ≤ 3072) (hi : i + 6 ≤ Lx) (hk : k + 64 ≤ 601024) (hn : n + 64 ≤ 7293034) (hx : lNx G b Lx xs lay i k n) : gAt G mL_law (lQ G b Lx xs) 2754 (lLL G b i) [] (fO G (lay, T0, T1, Dd) I J K N) sz k n := by
  have hT0 : gTank lay T0 := gTk hE (R.tt.elim (fun h => Or.inl h.1) (fun h => Or.inr h.1))
  have hT1 : gTank lay T1 := gTk hE (R.tt.elim (fun h => Or.inr h.2) (fun h => Or.inl h.2))
  obtain ⟨r9, b9, g1, g2, g3⟩ := e_marks (n := 30000) (by decide) R J N (xs (i + 1)) (xs (i + 2))
  rcases r9 with E9 | v9
  · have g3 : Tt K (thB E9) b9.2.1 := g3
    refine r_aload_n dL_law_2754 rfl ?_
    refine s_arg (kq := 1) hL hi (by decide) (by decide) dL_law_2755 dL_law_2756 dL_law_2758 dL_law_2759 dL_law_2760 rfl rfl ?_
    refine s_arg (kq := 2) hL hi (by decide) (by decide) dL_law_2761 dL_law_2762 dL_law_2764 dL_law_2765 dL_law_2766 rfl rfl ?_
    refine r_aload_n dL_law_2767 rfl ?_
    refine r_cSWs (rest := []) (we_marks hs hE hT0 hT1 g1) dL_law_2768 wd_1297 zL_marks wd_1298 rfl rfl rfl ⟨Nat.le_of_ble_eq_true rfl, Nat.le_of_ble_eq_true rfl⟩ (Nat.le_of_ble_eq_true rfl) ⟨lk hk rfl, lk hn rfl⟩ (fun sz9 => ?_)
    refine r_widen (k2 := k + 64) (n2 := n + 64) (Nat.add_le_add_left (Nat.le_of_ble_eq_true rfl) _) (Nat.add_le_add_left (Nat.le_of_ble_eq_true rfl) _) ?_
    refine r_istore dL_law_2771 (by decide) rfl ?_
    refine r_aload_n dL_law_2773 rfl ?_
    refine s_arg (kq := 1) hL hi (by decide) (by decide) dL_law_2774 dL_law_2775 dL_law_2777 dL_law_2778 dL_law_2779 rfl rfl ?_
    refine s_arg (kq := 2) hL hi (by decide) (by decide) dL_law_2780 dL_law_2781 dL_law_2783 dL_law_2784 dL_law_2785 rfl rfl ?_
    refine r_cV0 (rest := []) (ct_X10_marks hs hE g2) dL_law_2786 wd_2093 zX10_marks wd_2094 wd_2095 rfl rfl rfl (fo10 (hE 153 (by decide))) rfl rfl ⟨Nat.le_of_ble_eq_true rfl, Nat.le_of_ble_eq_true rfl⟩ (Nat.le_of_ble_eq_true rfl) ⟨rfl, rfl⟩ (lkk hk hn) ?_
    refine r_istore dL_law_2789 (by decide) rfl ?_
    refine r_aload_n dL_law_2791 rfl ?_
    have t9 := g3.t
    refine r_cV0 (rest := []) (ct_X10_thrown (n := 0) hs hE rfl) dL_law_2792 wd_1621 zX10_thrown wd_1622 wd_1623 rfl rfl rfl (fo10 (hE 153 (by decide))) rfl rfl ⟨Nat.le_of_ble_eq_true rfl, Nat.le_of_ble_eq_true rfl⟩ (Nat.le_of_ble_eq_true rfl) ⟨rfl, rfl⟩ (lkk hk hn) ?_
    refine r_iload dL_law_2795 rfl ?_
    refine r_icmp_eq (tgt := 2802) dL_law_2797 (by decide) (fun _ => ?_) (fun q => absurd t9 q)
    refine r_iload dL_law_2802 rfl ?_
    refine r_if_ne (tgt := 2819) dL_law_2804 (by decide) (fun _ => ?_) (fun q => absurd q (thB_ne E9))
    refine r_goto (tgt := 4357) dL_law_2819 (by decide) ?_
    exact r_mask [true, true, true, true, true, true, false, false, false] rfl (hx _ _ _ _ _ _ _ _ (R.tt' g3))
  · have g3 : v9.1 = b9.1 ∧ Tt K 0 b9.2.1 := g3
    refine r_aload_n dL_law_2754 rfl ?_
    refine s_arg (kq := 1) hL hi (by decide) (by decide) dL_law_2755 dL_law_2756 dL_law_2758 dL_law_2759 dL_law_2760 rfl rfl ?_
    refine s_arg (kq := 2) hL hi (by decide) (by decide) dL_law_2761 dL_law_2762 dL_law_2764 dL_law_2765 dL_law_2766 rfl rfl ?_
    refine r_aload_n dL_law_2767 rfl ?_
    refine r_cSW1 (rest := []) (wo_marks hs hE hT0 hT1 g1) dL_law_2768 wd_1297 zL_marks wd_1298 rfl rfl rfl ⟨Nat.le_of_ble_eq_true rfl, Nat.le_of_ble_eq_true rfl⟩ (Nat.le_of_ble_eq_true rfl) ⟨lk hk rfl, lk hn rfl⟩ ?_
    refine r_widen (k2 := k + 64) (n2 := n + 64) (Nat.add_le_add_left (Nat.le_of_ble_eq_true rfl) _) (Nat.add_le_add_left (Nat.le_of_ble_eq_true rfl) _) ?_
    refine r_istore dL_law_2771 (by decide) rfl ?_
    refine r_aload_n dL_law_2773 rfl ?_
    refine s_arg (kq := 1) hL hi (by decide) (by decide) dL_law_2774 dL_law_2775 dL_law_2777 dL_law_2778 dL_law_2779 rfl rfl ?_
    refine s_arg (kq := 2) hL hi (by decide) (by decide) dL_law_2780 dL_law_2781 dL_law_2783 dL_law_2784 dL_law_2785 rfl rfl ?_
    refine r_cV0 (rest := []) (ct_X10_marks hs hE g2) dL_law_2786 wd_2093 zX10_marks wd_2094 wd_2095 rfl rfl rfl (fo10 (hE 153 (by decide))) rfl rfl ⟨Nat.le_of_ble_eq_true rfl, Nat.le_of_ble_eq_true rfl⟩ (Nat.le_of_ble_eq_true rfl) ⟨rfl, rfl⟩ (lkk hk hn) ?_
    refine r_istore dL_law_2789 (by decide) rfl ?_
    refine r_aload_n dL_law_2791 rfl ?_
    have t9 := g3.2.t
    refine r_cV0 (rest := []) (ct_X10_thrown (n := 0) hs hE rfl) dL_law_2792 wd_1621 zX10_thrown wd_1622 wd_1623 rfl rfl rfl (fo10 (hE 153 (by decide))) rfl rfl ⟨Nat.le_of_ble_eq_true rfl, Nat.le_of_ble_eq_true rfl⟩ (Nat.le_of_ble_eq_true rfl) ⟨rfl, rfl⟩ (lkk hk hn) ?_
    refine r_iload dL_law_2795 rfl ?_
    refine r_icmp_eq (tgt := 2802) dL_law_2797 (by decide) (fun _ => ?_) (fun q => absurd t9 q)
    refine r_iload dL_law_2802 rfl ?_
    refine r_if_ne (tgt := 2819) dL_law_2804 (by decide) (fun q => absurd rfl q) (fun _ => ?_)
    refine r_aload_n dL_law_2807 rfl ?_
    refine r_iconst (v := (0 : Int32)) dL_law_2808 (by decide) ?_
    refine a_laldc 0 dL_law_2809 (hE 170 (by decide)) (vpc rfl) rfl ?_
    refine r_tl sJ_self ?_
    refine r_iload dL_law_2810 rfl ?_
    refine r_i2l dL_law_2812 ?_
    refine r_lcmp dL_law_2813 ?_
    refine r_ti (y := 0) ((lg_cmp_eq _ _).mpr (congrArg Int32.toInt64 g3.1)) ?_
    refine r_if_eq (tgt := 2819) dL_law_2814 (by decide) (fun _ => ?_) (fun q => absurd rfl q)
    refine r_goto (tgt := 4357) dL_law_2819 (by decide) ?_
    exact r_mask [true, true, true, true, true, true, false, false, false] rfl (hx _ _ _ _ _ _ _ _ (R.tt' g3.2))
set_option maxHeartbeats 4000000 in
set_option maxRecDepth 100000 in
theorem lc_isMark {G : gG} {b Lx i : Nat} {xs : Nat → Int32} {lay : Nat → Nat × Nat} {T0 T1 : Nat} {Dd : Nat → Nat → UInt64} {I : gI} {J : gJ} {K : gI} {N : gJ} {sz k n : Nat} (hs : G.1.stackTraces = false) (hE : gLay lay) (R : Rel T0 T1 I K) (hL : Lx ≤ 3072) (hi : i + 6 ≤ Lx) (hk : k + 64 ≤ 601024) (hn : n + 64 ≤ 7293034) (hx : lNx G b Lx xs lay i k n) : gAt G mL_law (lQ G b Lx xs) 2822 (lLL G b i) [] (fO G (lay, T0, T1, Dd) I J K N) sz k n := by
  have hT0 : gTank lay T0 := gTk hE (R.tt.elim (fun h => Or.inl h.1) (fun h => Or.inr h.1))
  have hT1 : gTank lay T1 := gTk hE (R.tt.elim (fun h => Or.inr h.2) (fun h => Or.inl h.2))
  obtain ⟨r9, b9, g1, g2, g3⟩ := e_isMark (n := 30000) (by decide) R J N (xs (i + 1)) (xs (i + 2)) (xs (i + 3)) (xs (i + 4))
  rcases r9 with E9 | v9
  · have g3 : Tt K (thA E9) b9.2.1 := g3
    refine r_aload_n dL_law_2822 rfl ?_
    refine s_arg (kq := 1) hL hi (by decide) (by decide) dL_law_2823 dL_law_2824 dL_law_2826 dL_law_2827 dL_law_2828 rfl rfl ?_
    refine s_arg (kq := 2) hL hi (by decide) (by decide) dL_law_2829 dL_law_2830 dL_law_2832 dL_law_2833 dL_law_2834 rfl rfl ?_
    refine s_arg (kq := 3) hL hi (by decide) (by decide) dL_law_2835 dL_law_2836 dL_law_2838 dL_law_2839 dL_law_2840 rfl rfl ?_
    refine s_arg (kq := 4) hL hi (by decide) (by decide) dL_law_2841 dL_law_2842 dL_law_2844 dL_law_2845 dL_law_2846 rfl rfl ?_
    refine r_aload_n dL_law_2847 rfl ?_
    refine r_cSWs (rest := []) (we_isMark hs hE hT0 hT1 g1) dL_law_2848 wd_1315 zL_isMark wd_1316 rfl rfl rfl ⟨Nat.le_of_ble_eq_true rfl, Nat.le_of_ble_eq_true rfl⟩ (Nat.le_of_ble_eq_true rfl) ⟨lk hk rfl, lk hn rfl⟩ (fun sz9 => ?_)
    refine r_widen (k2 := k + 64) (n2 := n + 64) (Nat.add_le_add_left (Nat.le_of_ble_eq_true rfl) _) (Nat.add_le_add_left (Nat.le_of_ble_eq_true rfl) _) ?_
    refine r_istore dL_law_2851 (by decide) rfl ?_
    refine r_aload_n dL_law_2853 rfl ?_
    refine s_arg (kq := 1) hL hi (by decide) (by decide) dL_law_2854 dL_law_2855 dL_law_2857 dL_law_2858 dL_law_2859 rfl rfl ?_
    refine s_arg (kq := 2) hL hi (by decide) (by decide) dL_law_2860 dL_law_2861 dL_law_2863 dL_law_2864 dL_law_2865 rfl rfl ?_
    refine s_arg (kq := 3) hL hi (by decide) (by decide) dL_law_2866 dL_law_2867 dL_law_2869 dL_law_2870 dL_law_2871 rfl rfl ?_
    refine s_arg (kq := 4) hL hi (by decide) (by decide) dL_law_2872 dL_law_2873 dL_law_2875 dL_law_2876 dL_law_2877 rfl rfl ?_
    refine r_cV0 (rest := []) (ct_X10_isMark hs hE g2) dL_law_2878 wd_2105 zX10_isMark wd_2106 wd_2107 rfl rfl rfl (fo10 (hE 153 (by decide))) rfl rfl ⟨Nat.le_of_ble_eq_true rfl, Nat.le_of_ble_eq_true rfl⟩ (Nat.le_of_ble_eq_true rfl) ⟨rfl, rfl⟩ (lkk hk hn) ?_
    refine r_istore dL_law_2881 (by decide) rfl ?_
    refine r_aload_n dL_law_2883 rfl ?_
    have t9 := g3.t
    refine r_cV0 (rest := []) (ct_X10_thrown (n := 0) hs hE rfl) dL_law_2884 wd_1621 zX10_thrown wd_1622 wd_1623 rfl rfl rfl (fo10 (hE 153 (by decide))) rfl rfl ⟨Nat.le_of_ble_eq_true rfl, Nat.le_of_ble_eq_true rfl⟩ (Nat.le_of_ble_eq_true rfl) ⟨rfl, rfl⟩ (lkk hk hn) ?_
    refine r_iload dL_law_2887 rfl ?_
    refine r_icmp_eq (tgt := 2894) dL_law_2889 (by decide) (fun _ => ?_) (fun q => absurd t9 q)
    refine r_iload dL_law_2894 rfl ?_
    refine r_if_ne (tgt := 2918) dL_law_2896 (by decide) (fun _ => ?_) (fun q => absurd q (thA_ne E9))
    refine r_goto (tgt := 4357) dL_law_2918 (by decide) ?_
    exact r_mask [true, true, true, true, true, true, false, false, false] rfl (hx _ _ _ _ _ _ _ _ (R.tt' g3))
  · have g3 : v9.1 = b9.1 ∧ Tt K 0 b9.2.1 := g3
    refine r_aload_n dL_law_2822 rfl ?_
    refine s_arg (kq := 1) hL hi (by decide) (by decide) dL_law_2823 dL_law_2824 dL_law_2826 dL_law_2827 dL_law_2828 rfl rfl ?_
    refine s_arg (kq := 2) hL hi (by decide) (by decide) dL_law_2829 dL_law_2830 dL_law_2832 dL_law_2833 dL_law_2834 rfl rfl ?_
    refine s_arg (kq := 3) hL hi (by decide) (by decide) dL_law_2835 dL_law_2836 dL_law_2838 dL_law_2839 dL_law_2840 rfl rfl ?_
    refine s_arg (kq := 4) hL hi (by decide) (by decide) dL_law_2841 dL_law_2842 dL_law_2844 dL_law_2845 dL_law_2846 rfl rfl ?_
    refine r_aload_n dL_law_2847 rfl ?_
    refine r_cSW1 (rest := []) (wo_isMark hs hE hT0 hT1 g1) dL_law_2848 wd_1315 zL_isMark wd_1316 rfl rfl rfl ⟨Nat.le_of_ble_eq_true rfl, Nat.le_of_ble_eq_true rfl⟩ (Nat.le_of_ble_eq_true rfl) ⟨lk hk rfl, lk hn rfl⟩ ?_
    refine r_widen (k2 := k + 64) (n2 := n + 64) (Nat.add_le_add_left (Nat.le_of_ble_eq_true rfl) _) (Nat.add_le_add_left (Nat.le_of_ble_eq_true rfl) _) ?_
    refine r_istore dL_law_2851 (by decide) rfl ?_
    refine r_aload_n dL_law_2853 rfl ?_
    refine s_arg (kq := 1) hL hi (by decide) (by decide) dL_law_2854 dL_law_2855 dL_law_2857 dL_law_2858 dL_law_2859 rfl rfl ?_
    refine s_arg (kq := 2) hL hi (by decide) (by decide) dL_law_2860 dL_law_2861 dL_law_2863 dL_law_2864 dL_law_2865 rfl rfl ?_
    refine s_arg (kq := 3) hL hi (by decide) (by decide) dL_law_2866 dL_law_2867 dL_law_2869 dL_law_2870 dL_law_2871 rfl rfl ?_
    refine s_arg (kq := 4) hL hi (by decide) (by decide) dL_law_2872 dL_law_2873 dL_law_2875 dL_law_2876 dL_law_2877 rfl rfl ?_
    refine r_cV0 (rest := []) (ct_X10_isMark hs hE g2) dL_law_2878 wd_2105 zX10_isMark wd_2106 wd_2107 rfl rfl rfl (fo10 (hE 153 (by decide))) rfl rfl ⟨Nat.le_of_ble_eq_true rfl, Nat.le_of_ble_eq_true rfl⟩ (Nat.le_of_ble_eq_true rfl) ⟨rfl, rfl⟩ (lkk hk hn) ?_
    refine r_istore dL_law_2881 (by decide) rfl ?_
    refine r_aload_n dL_law_2883 rfl ?_
    have t9 := g3.2.t
    refine r_cV0 (rest := []) (ct_X10_thrown (n := 0) hs hE rfl) dL_law_2884 wd_1621 zX10_thrown wd_1622 wd_1623 rfl rfl rfl (fo10 (hE 153 (by decide))) rfl rfl ⟨Nat.le_of_ble_eq_true rfl, Nat.le_of_ble_eq_true rfl⟩ (Nat.le_of_ble_eq_true rfl) ⟨rfl, rfl⟩ (lkk hk hn) ?_
    refine r_iload dL_law_2887 rfl ?_
    refine r_icmp_eq (tgt := 2894) dL_law_2889 (by decide) (fun _ => ?_) (fun q => absurd t9 q)
    refine r_iload dL_law_2894 rfl ?_
    refine r_if_ne (tgt := 2918) dL_law_2896 (by decide) (fun q => absurd rfl q) (fun _ => ?_)
    refine r_aload_n dL_law_2899 rfl ?_
    refine r_iconst (v := (0 : Int32)) dL_law_2900 (by decide) ?_
    refine a_laldc 0 dL_law_2901 (hE 170 (by decide)) (vpc rfl) rfl ?_
    refine r_tl sJ_self ?_
    refine r_iload dL_law_2902 rfl ?_
    refine r_if_eq (tgt := 2911) dL_law_2904 (by decide) (fun z => ?_) (fun z => ?_)
    · refine r_lconst (v := (0 : Int64)) dL_law_2911 (by decide) ?_
      refine r_lcmp dL_law_2912 ?_
      refine r_ti (y := 0) ((lg_cmp_eq _ _).mpr (if_pos (g3.1.trans z))) ?_
      refine r_if_eq (tgt := 2918) dL_law_2913 (by decide) (fun _ => ?_) (fun q => absurd rfl q)
      refine r_goto (tgt := 4357) dL_law_2918 (by decide) ?_
      exact r_mask [true, true, true, true, true, true, false, false, false] rfl (hx _ _ _ _ _ _ _ _ (R.tt' g3.2))
    · refine r_lconst (v := (1 : Int64)) dL_law_2907 (by decide) ?_
      refine r_goto (tgt := 2912) dL_law_2908 (by decide) ?_
      refine r_lcmp dL_law_2912 ?_
      refine r_ti (y := 0) ((lg_cmp_eq _ _).mpr (if_neg (fun q => z (g3.1.symm.trans q)))) ?_
      refine r_if_eq (tgt := 2918) dL_law_2913 (by decide) (fun _ => ?_) (fun q => absurd rfl q)
      refine r_goto (tgt := 4357) dL_law_2918 (by decide) ?_
      exact r_mask [true, true, true, true, true, true, false, false, false] rfl (hx _ _ _ _ _ _ _ _ (R.tt' g3.2))
set_option maxHeartbeats 4000000 in
set_option maxRecDepth 100000 in
theorem lc_fringes {G : gG} {b Lx i : Nat} {xs : Nat → Int32} {lay : Nat → Nat × Nat} {T0 T1 : Nat} {Dd : Nat → Nat → UInt64} {I : gI} {J : gJ} {K : gI} {N : gJ} {sz k n : Nat} (hs : G.1.stackTraces = false) (hE : gLay lay) (R : Rel T0 T1 I K) (hL : Lx ≤ 3072) (hi : i + 6 ≤ Lx) (hk : k + 64 ≤ 601024) (hn : n + 64 ≤ 7293034) (hx : lNx G b Lx xs lay i k n) : gAt G mL_law (lQ G b Lx xs) 2921 (lLL G b i) [] (fO G (lay, T0, T1, Dd) I J K N) sz k n := by
  have hT0 : gTank lay T0 := gTk hE (R.tt.elim (fun h => Or.inl h.1) (fun h => Or.inr h.1))
  have hT1 : gTank lay T1 := gTk hE (R.tt.elim (fun h => Or.inr h.2) (fun h => Or.inl h.2))
  obtain ⟨r9, b9, g1, g2, g3⟩ := e_fringes (n := 30000) (by decide) R J N (xs (i + 1)) (xs (i + 2))
  rcases r9 with E9 | v9
  · have g3 : Tt K (thA E9) b9.2.1 := g3
    refine r_aload_n dL_law_2921 rfl ?_
    refine s_arg (kq := 1) hL hi (by decide) (by decide) dL_law_2922 dL_law_2923 dL_law_2925 dL_law_2926 dL_law_2927 rfl rfl ?_
    refine s_arg (kq := 2) hL hi (by decide) (by decide) dL_law_2928 dL_law_2929 dL_law_2931 dL_law_2932 dL_law_2933 rfl rfl ?_
    refine r_aload_n dL_law_2934 rfl ?_
    refine r_cSWs (rest := []) (we_fringes hs hE hT0 hT1 g1) dL_law_2935 wd_1326 zL_fringes wd_1327 rfl rfl rfl ⟨Nat.le_of_ble_eq_true rfl, Nat.le_of_ble_eq_true rfl⟩ (Nat.le_of_ble_eq_true rfl) ⟨lk hk rfl, lk hn rfl⟩ (fun sz9 => ?_)
    refine r_widen (k2 := k + 64) (n2 := n + 64) (Nat.add_le_add_left (Nat.le_of_ble_eq_true rfl) _) (Nat.add_le_add_left (Nat.le_of_ble_eq_true rfl) _) ?_
    refine r_istore dL_law_2938 (by decide) rfl ?_
    refine r_aload_n dL_law_2940 rfl ?_
    refine s_arg (kq := 1) hL hi (by decide) (by decide) dL_law_2941 dL_law_2942 dL_law_2944 dL_law_2945 dL_law_2946 rfl rfl ?_
    refine s_arg (kq := 2) hL hi (by decide) (by decide) dL_law_2947 dL_law_2948 dL_law_2950 dL_law_2951 dL_law_2952 rfl rfl ?_
    refine r_cV0 (rest := []) (ct_X10_fringes hs hE g2) dL_law_2953 wd_2109 zX10_fringes wd_2110 wd_2111 rfl rfl rfl (fo10 (hE 153 (by decide))) rfl rfl ⟨Nat.le_of_ble_eq_true rfl, Nat.le_of_ble_eq_true rfl⟩ (Nat.le_of_ble_eq_true rfl) ⟨rfl, rfl⟩ (lkk hk hn) ?_
    refine r_istore dL_law_2956 (by decide) rfl ?_
    refine r_aload_n dL_law_2958 rfl ?_
    have t9 := g3.t
    refine r_cV0 (rest := []) (ct_X10_thrown (n := 0) hs hE rfl) dL_law_2959 wd_1621 zX10_thrown wd_1622 wd_1623 rfl rfl rfl (fo10 (hE 153 (by decide))) rfl rfl ⟨Nat.le_of_ble_eq_true rfl, Nat.le_of_ble_eq_true rfl⟩ (Nat.le_of_ble_eq_true rfl) ⟨rfl, rfl⟩ (lkk hk hn) ?_
    refine r_iload dL_law_2962 rfl ?_
    refine r_icmp_eq (tgt := 2969) dL_law_2964 (by decide) (fun _ => ?_) (fun q => absurd t9 q)
    refine r_iload dL_law_2969 rfl ?_
    refine r_if_ne (tgt := 2986) dL_law_2971 (by decide) (fun _ => ?_) (fun q => absurd q (thA_ne E9))
    refine r_goto (tgt := 4357) dL_law_2986 (by decide) ?_
    exact r_mask [true, true, true, true, true, true, false, false, false] rfl (hx _ _ _ _ _ _ _ _ (R.tt' g3))
  · have g3 : v9.1 = b9.1 ∧ Tt K 0 b9.2.1 := g3
    refine r_aload_n dL_law_2921 rfl ?_
    refine s_arg (kq := 1) hL hi (by decide) (by decide) dL_law_2922 dL_law_2923 dL_law_2925 dL_law_2926 dL_law_2927 rfl rfl ?_
    refine s_arg (kq := 2) hL hi (by decide) (by decide) dL_law_2928 dL_law_2929 dL_law_2931 dL_law_2932 dL_law_2933 rfl rfl ?_
    refine r_aload_n dL_law_2934 rfl ?_
    refine r_cSW1 (rest := []) (wo_fringes hs hE hT0 hT1 g1) dL_law_2935 wd_1326 zL_fringes wd_1327 rfl rfl rfl ⟨Nat.le_of_ble_eq_true rfl, Nat.le_of_ble_eq_true rfl⟩ (Nat.le_of_ble_eq_true rfl) ⟨lk hk rfl, lk hn rfl⟩ ?_
    refine r_widen (k2 := k + 64) (n2 := n + 64) (Nat.add_le_add_left (Nat.le_of_ble_eq_true rfl) _) (Nat.add_le_add_left (Nat.le_of_ble_eq_true rfl) _) ?_
    refine r_istore dL_law_2938 (by decide) rfl ?_
    refine r_aload_n dL_law_2940 rfl ?_
    refine s_arg (kq := 1) hL hi (by decide) (by decide) dL_law_2941 dL_law_2942 dL_law_2944 dL_law_2945 dL_law_2946 rfl rfl ?_
    refine s_arg (kq := 2) hL hi (by decide) (by decide) dL_law_2947 dL_law_2948 dL_law_2950 dL_law_2951 dL_law_2952 rfl rfl ?_
    refine r_cV0 (rest := []) (ct_X10_fringes hs hE g2) dL_law_2953 wd_2109 zX10_fringes wd_2110 wd_2111 rfl rfl rfl (fo10 (hE 153 (by decide))) rfl rfl ⟨Nat.le_of_ble_eq_true rfl, Nat.le_of_ble_eq_true rfl⟩ (Nat.le_of_ble_eq_true rfl) ⟨rfl, rfl⟩ (lkk hk hn) ?_
    refine r_istore dL_law_2956 (by decide) rfl ?_
    refine r_aload_n dL_law_2958 rfl ?_
    have t9 := g3.2.t
    refine r_cV0 (rest := []) (ct_X10_thrown (n := 0) hs hE rfl) dL_law_2959 wd_1621 zX10_thrown wd_1622 wd_1623 rfl rfl rfl (fo10 (hE 153 (by decide))) rfl rfl ⟨Nat.le_of_ble_eq_true rfl, Nat.le_of_ble_eq_true rfl⟩ (Nat.le_of_ble_eq_true rfl) ⟨rfl, rfl⟩ (lkk hk hn) ?_
    refine r_iload dL_law_2962 rfl ?_
    refine r_icmp_eq (tgt := 2969) dL_law_2964 (by decide) (fun _ => ?_) (fun q => absurd t9 q)
    refine r_iload dL_law_2969 rfl ?_
    refine r_if_ne (tgt := 2986) dL_law_2971 (by decide) (fun q => absurd rfl q) (fun _ => ?_)
    refine r_aload_n dL_law_2974 rfl ?_
    refine r_iconst (v := (0 : Int32)) dL_law_2975 (by decide) ?_
    refine a_laldc 0 dL_law_2976 (hE 170 (by decide)) (vpc rfl) rfl ?_
    refine r_tl sJ_self ?_
    refine r_iload dL_law_2977 rfl ?_
    refine r_i2l dL_law_2979 ?_
    refine r_lcmp dL_law_2980 ?_
    refine r_ti (y := 0) ((lg_cmp_eq _ _).mpr (congrArg Int32.toInt64 g3.1)) ?_
    refine r_if_eq (tgt := 2986) dL_law_2981 (by decide) (fun _ => ?_) (fun q => absurd rfl q)
    refine r_goto (tgt := 4357) dL_law_2986 (by decide) ?_
    exact r_mask [true, true, true, true, true, true, false, false, false] rfl (hx _ _ _ _ _ _ _ _ (R.tt' g3.2))
set_option maxHeartbeats 4000000 in
set_option maxRecDepth 100000 in
theorem lc_visibility {G : gG} {b Lx i : Nat} {xs : Nat → Int32} {lay : Nat → Nat × Nat} {T0 T1 : Nat} {Dd : Nat → Nat → UInt64} {I : gI} {J : gJ} {K : gI} {N : gJ} {sz k n : Nat} (hs : G.1.stackTraces = false) (hE : gLay lay) (R : Rel T0 T1 I K) (hL : Lx ≤ 3072) (hi : i + 6 ≤ Lx) (hk : k + 64 ≤ 601024) (hn : n + 64 ≤ 7293034) (hx : lNx G b Lx xs lay i k n) : gAt G mL_law (lQ G b Lx xs) 2989 (lLL G b i) [] (fO G (lay, T0, T1, Dd) I J K N) sz k n := by
  have hT0 : gTank lay T0 := gTk hE (R.tt.elim (fun h => Or.inl h.1) (fun h => Or.inr h.1))
  have hT1 : gTank lay T1 := gTk hE (R.tt.elim (fun h => Or.inr h.2) (fun h => Or.inl h.2))
  obtain ⟨r9, b9, g1, g2, g3⟩ := e_visibility (n := 30000) (by decide) R J N (xs (i + 1)) (xs (i + 2))
  rcases r9 with E9 | v9
  · have g3 : Tt K (thA E9) b9.2.1 := g3
    refine r_aload_n dL_law_2989 rfl ?_
    refine s_arg (kq := 1) hL hi (by decide) (by decide) dL_law_2990 dL_law_2991 dL_law_2993 dL_law_2994 dL_law_2995 rfl rfl ?_
    refine s_arg (kq := 2) hL hi (by decide) (by decide) dL_law_2996 dL_law_2997 dL_law_2999 dL_law_3000 dL_law_3001 rfl rfl ?_
    refine r_aload dL_law_3002 rfl ?_
    refine r_cSWs (rest := []) (we_visibility hs hE hT0 hT1 g1) dL_law_3004 wd_1337 zL_visibility wd_1338 rfl rfl rfl ⟨Nat.le_of_ble_eq_true rfl, Nat.le_of_ble_eq_true rfl⟩ (Nat.le_of_ble_eq_true rfl) ⟨lk hk rfl, lk hn rfl⟩ (fun sz9 => ?_)
    refine r_widen (k2 := k + 64) (n2 := n + 64) (Nat.add_le_add_left (Nat.le_of_ble_eq_true rfl) _) (Nat.add_le_add_left (Nat.le_of_ble_eq_true rfl) _) ?_
    refine r_istore dL_law_3007 (by decide) rfl ?_
    refine r_aload_n dL_law_3009 rfl ?_
    refine s_arg (kq := 1) hL hi (by decide) (by decide) dL_law_3010 dL_law_3011 dL_law_3013 dL_law_3014 dL_law_3015 rfl rfl ?_
    refine s_arg (kq := 2) hL hi (by decide) (by decide) dL_law_3016 dL_law_3017 dL_law_3019 dL_law_3020 dL_law_3021 rfl rfl ?_
    refine r_cV0 (rest := []) (ct_X10_visibility hs hE g2) dL_law_3022 wd_2117 zX10_visibility wd_2118 wd_2119 rfl rfl rfl (fo10 (hE 153 (by decide))) rfl rfl ⟨Nat.le_of_ble_eq_true rfl, Nat.le_of_ble_eq_true rfl⟩ (Nat.le_of_ble_eq_true rfl) ⟨rfl, rfl⟩ (lkk hk hn) ?_
    refine r_fstore dL_law_3025 (by decide) rfl ?_
    refine r_aload_n dL_law_3027 rfl ?_
    have t9 := g3.t
    refine r_cV0 (rest := []) (ct_X10_thrown (n := 0) hs hE rfl) dL_law_3028 wd_1621 zX10_thrown wd_1622 wd_1623 rfl rfl rfl (fo10 (hE 153 (by decide))) rfl rfl ⟨Nat.le_of_ble_eq_true rfl, Nat.le_of_ble_eq_true rfl⟩ (Nat.le_of_ble_eq_true rfl) ⟨rfl, rfl⟩ (lkk hk hn) ?_
    refine r_iload dL_law_3031 rfl ?_
    refine r_icmp_eq (tgt := 3038) dL_law_3033 (by decide) (fun _ => ?_) (fun q => absurd t9 q)
    refine r_iload dL_law_3038 rfl ?_
    refine r_if_ne (tgt := 3076) dL_law_3040 (by decide) (fun _ => ?_) (fun q => absurd q (thA_ne E9))
    refine r_goto (tgt := 4357) dL_law_3076 (by decide) ?_
    exact r_mask [true, true, true, true, true, true, false, false, false] rfl (hx _ _ _ _ _ _ _ _ (R.tt' g3))
  · have g3 : v9.1 = b9.1 ∧ Tt K 0 b9.2.1 ∧ vf_n32 v9.1 := g3
    refine r_aload_n dL_law_2989 rfl ?_
    refine s_arg (kq := 1) hL hi (by decide) (by decide) dL_law_2990 dL_law_2991 dL_law_2993 dL_law_2994 dL_law_2995 rfl rfl ?_
    refine s_arg (kq := 2) hL hi (by decide) (by decide) dL_law_2996 dL_law_2997 dL_law_2999 dL_law_3000 dL_law_3001 rfl rfl ?_
    refine r_aload dL_law_3002 rfl ?_
    refine r_cSW1 (rest := []) (wo_visibility hs hE hT0 hT1 g1 g3.2.2) dL_law_3004 wd_1337 zL_visibility wd_1338 rfl rfl rfl ⟨Nat.le_of_ble_eq_true rfl, Nat.le_of_ble_eq_true rfl⟩ (Nat.le_of_ble_eq_true rfl) ⟨lk hk rfl, lk hn rfl⟩ ?_
    refine r_widen (k2 := k + 64) (n2 := n + 64) (Nat.add_le_add_left (Nat.le_of_ble_eq_true rfl) _) (Nat.add_le_add_left (Nat.le_of_ble_eq_true rfl) _) ?_
    refine r_istore dL_law_3007 (by decide) rfl ?_
    refine r_aload_n dL_law_3009 rfl ?_
    refine s_arg (kq := 1) hL hi (by decide) (by decide) dL_law_3010 dL_law_3011 dL_law_3013 dL_law_3014 dL_law_3015 rfl rfl ?_
    refine s_arg (kq := 2) hL hi (by decide) (by decide) dL_law_3016 dL_law_3017 dL_law_3019 dL_law_3020 dL_law_3021 rfl rfl ?_
    refine r_cV0 (rest := []) (ct_X10_visibility hs hE g2) dL_law_3022 wd_2117 zX10_visibility wd_2118 wd_2119 rfl rfl rfl (fo10 (hE 153 (by decide))) rfl rfl ⟨Nat.le_of_ble_eq_true rfl, Nat.le_of_ble_eq_true rfl⟩ (Nat.le_of_ble_eq_true rfl) ⟨rfl, rfl⟩ (lkk hk hn) ?_
    refine r_fstore dL_law_3025 (by decide) rfl ?_
    refine r_aload_n dL_law_3027 rfl ?_
    have t9 := (g3.2.1).t
    refine r_cV0 (rest := []) (ct_X10_thrown (n := 0) hs hE rfl) dL_law_3028 wd_1621 zX10_thrown wd_1622 wd_1623 rfl rfl rfl (fo10 (hE 153 (by decide))) rfl rfl ⟨Nat.le_of_ble_eq_true rfl, Nat.le_of_ble_eq_true rfl⟩ (Nat.le_of_ble_eq_true rfl) ⟨rfl, rfl⟩ (lkk hk hn) ?_
    refine r_iload dL_law_3031 rfl ?_
    refine r_icmp_eq (tgt := 3038) dL_law_3033 (by decide) (fun _ => ?_) (fun q => absurd t9 q)
    refine r_iload dL_law_3038 rfl ?_
    refine r_if_ne (tgt := 3076) dL_law_3040 (by decide) (fun q => absurd rfl q) (fun _ => ?_)
    refine r_aload dL_law_3043 rfl ?_
    refine r_iconst (v := (0 : Int32)) dL_law_3045 (by decide) ?_
    refine a_dald dL_law_3046 (hE 171 (by decide)) (vpc rfl) ?_
    refine r_td (show sD Dd 171 0 (FP.f2d v9.1) 171 0 = FP.f2d v9.1 from sD_self) ?_
    refine r_fload dL_law_3047 rfl ?_
    refine r_f2d dL_law_3049 (fw_n64 (show vf_n32 b9.1 from g3.1 ▸ g3.2.2)) ?_
    refine r_dcmp dL_law_3050 ?_
    refine r_ti (y := 0) (by rw [← g3.1]; exact fw_cmp g3.2.2 _) ?_
    refine r_if_eq (tgt := 3076) dL_law_3051 (by decide) (fun _ => ?_) (fun q => absurd rfl q)
    refine r_goto (tgt := 4357) dL_law_3076 (by decide) ?_
    exact r_mask [true, true, true, true, true, true, false, false, false] rfl (hx _ _ _ _ _ _ _ _ (R.tt' g3.2.1))
set_option maxHeartbeats 4000000 in
set_option maxRecDepth 100000 in
theorem lc_writeRow {G : gG} {b Lx i : Nat} {xs : Nat → Int32} {lay : Nat → Nat × Nat} {T0 T1 : Nat} {Dd : Nat → Nat → UInt64} {I : gI} {J : gJ} {K : gI} {N : gJ} {sz k n : Nat} (hs : G.1.stackTraces = false) (hE : gLay lay) (R : Rel T0 T1 I K) (hL : Lx ≤ 3072) (hi : i + 6 ≤ Lx) (hk : k + 64 ≤ 601024) (hn : n + 64 ≤ 7293034) (hx : lNx G b Lx xs lay i k n) : gAt G mL_law (lQ G b Lx xs) 3079 (lLL G b i) [] (fO G (lay, T0, T1, Dd) I J K N) sz k n := by
  have hT0 : gTank lay T0 := gTk hE (R.tt.elim (fun h => Or.inl h.1) (fun h => Or.inr h.1))
  have hT1 : gTank lay T1 := gTk hE (R.tt.elim (fun h => Or.inr h.2) (fun h => Or.inl h.2))
  obtain ⟨r9, b9, g1, g2, g3⟩ := e_writeRow (n := 30000) (by decide) R (xs (i + 1))
  rcases r9 with E9 | v9
  · have g3 : Tt K (thA E9) b9.2 := g3
    refine r_aload_n dL_law_3079 rfl ?_
    refine s_arg (kq := 1) hL hi (by decide) (by decide) dL_law_3080 dL_law_3081 dL_law_3083 dL_law_3084 dL_law_3085 rfl rfl ?_
    refine r_aload_n dL_law_3086 rfl ?_
    refine r_cSWs (rest := []) (we_writeRow hs hE hT0 hT1 g1) dL_law_3087 wd_1347 zL_writeRow wd_1348 rfl rfl rfl ⟨Nat.le_of_ble_eq_true rfl, Nat.le_of_ble_eq_true rfl⟩ (Nat.le_of_ble_eq_true rfl) ⟨lk hk rfl, lk hn rfl⟩ (fun sz9 => ?_)
    refine r_widen (k2 := k + 64) (n2 := n + 64) (Nat.add_le_add_left (Nat.le_of_ble_eq_true rfl) _) (Nat.add_le_add_left (Nat.le_of_ble_eq_true rfl) _) ?_
    refine r_istore dL_law_3090 (by decide) rfl ?_
    refine r_aload_n dL_law_3092 rfl ?_
    refine s_arg (kq := 1) hL hi (by decide) (by decide) dL_law_3093 dL_law_3094 dL_law_3096 dL_law_3097 dL_law_3098 rfl rfl ?_
    refine r_cV0 (rest := []) (ct_X10_writeRow hs hE g2) dL_law_3099 wd_2122 zX10_writeRow wd_2123 wd_2124 rfl rfl rfl (fo10 (hE 153 (by decide))) rfl rfl ⟨Nat.le_of_ble_eq_true rfl, Nat.le_of_ble_eq_true rfl⟩ (Nat.le_of_ble_eq_true rfl) ⟨rfl, rfl⟩ (lkk hk hn) ?_
    refine r_istore dL_law_3102 (by decide) rfl ?_
    refine r_aload_n dL_law_3104 rfl ?_
    have t9 := g3.t
    refine r_cV0 (rest := []) (ct_X10_thrown (n := 0) hs hE rfl) dL_law_3105 wd_1621 zX10_thrown wd_1622 wd_1623 rfl rfl rfl (fo10 (hE 153 (by decide))) rfl rfl ⟨Nat.le_of_ble_eq_true rfl, Nat.le_of_ble_eq_true rfl⟩ (Nat.le_of_ble_eq_true rfl) ⟨rfl, rfl⟩ (lkk hk hn) ?_
    refine r_iload dL_law_3108 rfl ?_
    refine r_icmp_eq (tgt := 3115) dL_law_3110 (by decide) (fun _ => ?_) (fun q => absurd t9 q)
    refine r_iload dL_law_3115 rfl ?_
    refine r_if_ne (tgt := 3132) dL_law_3117 (by decide) (fun _ => ?_) (fun q => absurd q (thA_ne E9))
    refine r_goto (tgt := 4357) dL_law_3132 (by decide) ?_
    exact r_mask [true, true, true, true, true, true, false, false, false] rfl (hx _ _ _ _ _ _ _ _ (R.tt' g3))
  · have g3 : v9.1 = b9.1 ∧ Rel T0 T1 v9.2 b9.2 ∧ b9.2 153 0 = 0 := g3
    refine r_aload_n dL_law_3079 rfl ?_
    refine s_arg (kq := 1) hL hi (by decide) (by decide) dL_law_3080 dL_law_3081 dL_law_3083 dL_law_3084 dL_law_3085 rfl rfl ?_
    refine r_aload_n dL_law_3086 rfl ?_
    refine r_cSW1 (rest := []) (wo_writeRow hs hE hT0 hT1 g1) dL_law_3087 wd_1347 zL_writeRow wd_1348 rfl rfl rfl ⟨Nat.le_of_ble_eq_true rfl, Nat.le_of_ble_eq_true rfl⟩ (Nat.le_of_ble_eq_true rfl) ⟨lk hk rfl, lk hn rfl⟩ ?_
    refine r_widen (k2 := k + 64) (n2 := n + 64) (Nat.add_le_add_left (Nat.le_of_ble_eq_true rfl) _) (Nat.add_le_add_left (Nat.le_of_ble_eq_true rfl) _) ?_
    refine r_istore dL_law_3090 (by decide) rfl ?_
    refine r_aload_n dL_law_3092 rfl ?_
    refine s_arg (kq := 1) hL hi (by decide) (by decide) dL_law_3093 dL_law_3094 dL_law_3096 dL_law_3097 dL_law_3098 rfl rfl ?_
    refine r_cV0 (rest := []) (ct_X10_writeRow hs hE g2) dL_law_3099 wd_2122 zX10_writeRow wd_2123 wd_2124 rfl rfl rfl (fo10 (hE 153 (by decide))) rfl rfl ⟨Nat.le_of_ble_eq_true rfl, Nat.le_of_ble_eq_true rfl⟩ (Nat.le_of_ble_eq_true rfl) ⟨rfl, rfl⟩ (lkk hk hn) ?_
    refine r_istore dL_law_3102 (by decide) rfl ?_
    refine r_aload_n dL_law_3104 rfl ?_
    have t9 := g3.2.2
    refine r_cV0 (rest := []) (ct_X10_thrown (n := 0) hs hE rfl) dL_law_3105 wd_1621 zX10_thrown wd_1622 wd_1623 rfl rfl rfl (fo10 (hE 153 (by decide))) rfl rfl ⟨Nat.le_of_ble_eq_true rfl, Nat.le_of_ble_eq_true rfl⟩ (Nat.le_of_ble_eq_true rfl) ⟨rfl, rfl⟩ (lkk hk hn) ?_
    refine r_iload dL_law_3108 rfl ?_
    refine r_icmp_eq (tgt := 3115) dL_law_3110 (by decide) (fun _ => ?_) (fun q => absurd t9 q)
    refine r_iload dL_law_3115 rfl ?_
    refine r_if_ne (tgt := 3132) dL_law_3117 (by decide) (fun q => absurd rfl q) (fun _ => ?_)
    refine r_aload_n dL_law_3120 rfl ?_
    refine r_iconst (v := (0 : Int32)) dL_law_3121 (by decide) ?_
    refine a_laldc 0 dL_law_3122 (hE 170 (by decide)) (vpc rfl) rfl ?_
    refine r_tl sJ_self ?_
    refine r_iload dL_law_3123 rfl ?_
    refine r_i2l dL_law_3125 ?_
    refine r_lcmp dL_law_3126 ?_
    refine r_ti (y := 0) ((lg_cmp_eq _ _).mpr (congrArg Int32.toInt64 g3.1)) ?_
    refine r_if_eq (tgt := 3132) dL_law_3127 (by decide) (fun _ => ?_) (fun q => absurd rfl q)
    refine r_goto (tgt := 4357) dL_law_3132 (by decide) ?_
    exact r_mask [true, true, true, true, true, true, false, false, false] rfl (hx _ _ _ _ _ _ _ _ (g3.2.1))
set_option maxHeartbeats 4000000 in
set_option maxRecDepth 100000 in
theorem lc_writeMap {G : gG} {b Lx i : Nat} {xs : Nat → Int32} {lay : Nat → Nat × Nat} {T0 T1 : Nat} {Dd : Nat → Nat → UInt64} {I : gI} {J : gJ} {K : gI} {N : gJ} {sz k n : Nat} (hs : G.1.stackTraces = false) (hE : gLay lay) (R : Rel T0 T1 I K) (hL : Lx ≤ 3072) (hi : i + 6 ≤ Lx) (hk : k + 64 ≤ 601024) (hn : n + 64 ≤ 7293034) (hx : lNx G b Lx xs lay i k n) : gAt G mL_law (lQ G b Lx xs) 3135 (lLL G b i) [] (fO G (lay, T0, T1, Dd) I J K N) sz k n := by
  have hT0 : gTank lay T0 := gTk hE (R.tt.elim (fun h => Or.inl h.1) (fun h => Or.inr h.1))
  have hT1 : gTank lay T1 := gTk hE (R.tt.elim (fun h => Or.inr h.2) (fun h => Or.inl h.2))
  obtain ⟨r9, b9, g1, g2, g3⟩ := e_writeMap (n := 30000) (by decide) R J N (xs (i + 1))
  rcases r9 with E9 | v9
  · have g3 : Tt K (thB E9) b9.2.1 := g3
    refine r_aload_n dL_law_3135 rfl ?_
    refine s_arg (kq := 1) hL hi (by decide) (by decide) dL_law_3136 dL_law_3137 dL_law_3139 dL_law_3140 dL_law_3141 rfl rfl ?_
    refine r_aload_n dL_law_3142 rfl ?_
    refine r_cSWs (rest := []) (we_writeMap hs hE hT0 hT1 g1) dL_law_3143 wd_1364 zL_writeMap wd_1365 rfl rfl rfl ⟨Nat.le_of_ble_eq_true rfl, Nat.le_of_ble_eq_true rfl⟩ (Nat.le_of_ble_eq_true rfl) ⟨lk hk rfl, lk hn rfl⟩ (fun sz9 => ?_)
    refine r_widen (k2 := k + 64) (n2 := n + 64) (Nat.add_le_add_left (Nat.le_of_ble_eq_true rfl) _) (Nat.add_le_add_left (Nat.le_of_ble_eq_true rfl) _) ?_
    refine r_istore dL_law_3146 (by decide) rfl ?_
    refine r_aload_n dL_law_3148 rfl ?_
    refine s_arg (kq := 1) hL hi (by decide) (by decide) dL_law_3149 dL_law_3150 dL_law_3152 dL_law_3153 dL_law_3154 rfl rfl ?_
    refine r_cV0 (rest := []) (ct_X10_writeMap hs hE g2) dL_law_3155 wd_2134 zX10_writeMap wd_2135 wd_2136 rfl rfl rfl (fo10 (hE 153 (by decide))) rfl rfl ⟨Nat.le_of_ble_eq_true rfl, Nat.le_of_ble_eq_true rfl⟩ (Nat.le_of_ble_eq_true rfl) ⟨rfl, rfl⟩ (lkk hk hn) ?_
    refine r_istore dL_law_3158 (by decide) rfl ?_
    refine r_aload_n dL_law_3160 rfl ?_
    have t9 := g3.t
    refine r_cV0 (rest := []) (ct_X10_thrown (n := 0) hs hE rfl) dL_law_3161 wd_1621 zX10_thrown wd_1622 wd_1623 rfl rfl rfl (fo10 (hE 153 (by decide))) rfl rfl ⟨Nat.le_of_ble_eq_true rfl, Nat.le_of_ble_eq_true rfl⟩ (Nat.le_of_ble_eq_true rfl) ⟨rfl, rfl⟩ (lkk hk hn) ?_
    refine r_iload dL_law_3164 rfl ?_
    refine r_icmp_eq (tgt := 3171) dL_law_3166 (by decide) (fun _ => ?_) (fun q => absurd t9 q)
    refine r_iload dL_law_3171 rfl ?_
    refine r_if_ne (tgt := 3188) dL_law_3173 (by decide) (fun _ => ?_) (fun q => absurd q (thB_ne E9))
    refine r_goto (tgt := 4357) dL_law_3188 (by decide) ?_
    exact r_mask [true, true, true, true, true, true, false, false, false] rfl (hx _ _ _ _ _ _ _ _ (R.tt' g3))
  · have g3 : v9.1 = b9.1 ∧ Rel T0 T1 v9.2.1 b9.2.1 ∧ b9.2.1 153 0 = 0 := g3
    refine r_aload_n dL_law_3135 rfl ?_
    refine s_arg (kq := 1) hL hi (by decide) (by decide) dL_law_3136 dL_law_3137 dL_law_3139 dL_law_3140 dL_law_3141 rfl rfl ?_
    refine r_aload_n dL_law_3142 rfl ?_
    refine r_cSW1 (rest := []) (wo_writeMap hs hE hT0 hT1 g1) dL_law_3143 wd_1364 zL_writeMap wd_1365 rfl rfl rfl ⟨Nat.le_of_ble_eq_true rfl, Nat.le_of_ble_eq_true rfl⟩ (Nat.le_of_ble_eq_true rfl) ⟨lk hk rfl, lk hn rfl⟩ ?_
    refine r_widen (k2 := k + 64) (n2 := n + 64) (Nat.add_le_add_left (Nat.le_of_ble_eq_true rfl) _) (Nat.add_le_add_left (Nat.le_of_ble_eq_true rfl) _) ?_
    refine r_istore dL_law_3146 (by decide) rfl ?_
    refine r_aload_n dL_law_3148 rfl ?_
    refine s_arg (kq := 1) hL hi (by decide) (by decide) dL_law_3149 dL_law_3150 dL_law_3152 dL_law_3153 dL_law_3154 rfl rfl ?_
    refine r_cV0 (rest := []) (ct_X10_writeMap hs hE g2) dL_law_3155 wd_2134 zX10_writeMap wd_2135 wd_2136 rfl rfl rfl (fo10 (hE 153 (by decide))) rfl rfl ⟨Nat.le_of_ble_eq_true rfl, Nat.le_of_ble_eq_true rfl⟩ (Nat.le_of_ble_eq_true rfl) ⟨rfl, rfl⟩ (lkk hk hn) ?_
    refine r_istore dL_law_3158 (by decide) rfl ?_
    refine r_aload_n dL_law_3160 rfl ?_
    have t9 := g3.2.2
    refine r_cV0 (rest := []) (ct_X10_thrown (n := 0) hs hE rfl) dL_law_3161 wd_1621 zX10_thrown wd_1622 wd_1623 rfl rfl rfl (fo10 (hE 153 (by decide))) rfl rfl ⟨Nat.le_of_ble_eq_true rfl, Nat.le_of_ble_eq_true rfl⟩ (Nat.le_of_ble_eq_true rfl) ⟨rfl, rfl⟩ (lkk hk hn) ?_
    refine r_iload dL_law_3164 rfl ?_
    refine r_icmp_eq (tgt := 3171) dL_law_3166 (by decide) (fun _ => ?_) (fun q => absurd t9 q)
    refine r_iload dL_law_3171 rfl ?_
    refine r_if_ne (tgt := 3188) dL_law_3173 (by decide) (fun q => absurd rfl q) (fun _ => ?_)
    refine r_aload_n dL_law_3176 rfl ?_
    refine r_iconst (v := (0 : Int32)) dL_law_3177 (by decide) ?_
    refine a_laldc 0 dL_law_3178 (hE 170 (by decide)) (vpc rfl) rfl ?_
    refine r_tl sJ_self ?_
    refine r_iload dL_law_3179 rfl ?_
    refine r_i2l dL_law_3181 ?_
    refine r_lcmp dL_law_3182 ?_
    refine r_ti (y := 0) ((lg_cmp_eq _ _).mpr (congrArg Int32.toInt64 g3.1)) ?_
    refine r_if_eq (tgt := 3188) dL_law_3183 (by decide) (fun _ => ?_) (fun q => absurd rfl q)
    refine r_goto (tgt := 4357) dL_law_3188 (by decide) ?_
    exact r_mask [true, true, true, true, true, true, false, false, false] rfl (hx _ _ _ _ _ _ _ _ (g3.2.1))
set_option maxHeartbeats 4000000 in
set_option maxRecDepth 100000 in
theorem lc_textByte {G : gG} {b Lx i : Nat} {xs : Nat → Int32} {lay : Nat → Nat × Nat} {T0 T1 : Nat} {Dd : Nat → Nat → UInt64} {I : gI} {J : gJ} {K : gI} {N : gJ} {sz k n : Nat} (hs : G.1.stackTraces = false) (hE : gLay lay) (R : Rel T0 T1 I K) (hL : Lx ≤ 3072) (hi : i + 6 ≤ Lx) (hk : k + 64 ≤ 601024) (hn : n + 64 ≤ 7293034) (hx : lNx G b Lx xs lay i k n) : gAt G mL_law (lQ G b Lx xs) 3191 (lLL G b i) [] (fO G (lay, T0, T1, Dd) I J K N) sz k n := by
  have hT0 : gTank lay T0 := gTk hE (R.tt.elim (fun h => Or.inl h.1) (fun h => Or.inr h.1))
  have hT1 : gTank lay T1 := gTk hE (R.tt.elim (fun h => Or.inr h.2) (fun h => Or.inl h.2))
  obtain ⟨r9, b9, g1, g2, g3⟩ := e_textByte (n := 30000) R (xs (i + 1))
  rcases r9 with E9 | v9
  · have g3 : Tt K (thC E9) b9.2 := g3
    refine r_aload_n dL_law_3191 rfl ?_
    refine s_arg (kq := 1) hL hi (by decide) (by decide) dL_law_3192 dL_law_3193 dL_law_3195 dL_law_3196 dL_law_3197 rfl rfl ?_
    refine r_aload_n dL_law_3198 rfl ?_
    refine r_cSWs (rest := []) (we_textByte hs hE hT0 hT1 g1) dL_law_3199 wd_1372 zL_textByte wd_1373 rfl rfl rfl ⟨Nat.le_of_ble_eq_true rfl, Nat.le_of_ble_eq_true rfl⟩ (Nat.le_of_ble_eq_true rfl) ⟨lk hk rfl, lk hn rfl⟩ (fun sz9 => ?_)
    refine r_widen (k2 := k + 64) (n2 := n + 64) (Nat.add_le_add_left (Nat.le_of_ble_eq_true rfl) _) (Nat.add_le_add_left (Nat.le_of_ble_eq_true rfl) _) ?_
    refine r_istore dL_law_3202 (by decide) rfl ?_
    refine r_aload_n dL_law_3204 rfl ?_
    refine s_arg (kq := 1) hL hi (by decide) (by decide) dL_law_3205 dL_law_3206 dL_law_3208 dL_law_3209 dL_law_3210 rfl rfl ?_
    refine r_cV0 (rest := []) (ct_X10_textByte hs hE g2) dL_law_3211 wd_2139 zX10_textByte wd_2140 wd_2141 rfl rfl rfl (fo10 (hE 153 (by decide))) rfl rfl ⟨Nat.le_of_ble_eq_true rfl, Nat.le_of_ble_eq_true rfl⟩ (Nat.le_of_ble_eq_true rfl) ⟨rfl, rfl⟩ (lkk hk hn) ?_
    refine r_istore dL_law_3214 (by decide) rfl ?_
    refine r_aload_n dL_law_3216 rfl ?_
    have t9 := g3.t
    refine r_cV0 (rest := []) (ct_X10_thrown (n := 0) hs hE rfl) dL_law_3217 wd_1621 zX10_thrown wd_1622 wd_1623 rfl rfl rfl (fo10 (hE 153 (by decide))) rfl rfl ⟨Nat.le_of_ble_eq_true rfl, Nat.le_of_ble_eq_true rfl⟩ (Nat.le_of_ble_eq_true rfl) ⟨rfl, rfl⟩ (lkk hk hn) ?_
    refine r_iload dL_law_3220 rfl ?_
    refine r_icmp_eq (tgt := 3227) dL_law_3222 (by decide) (fun _ => ?_) (fun q => absurd t9 q)
    refine r_iload dL_law_3227 rfl ?_
    refine r_if_ne (tgt := 3244) dL_law_3229 (by decide) (fun _ => ?_) (fun q => absurd q (thC_ne E9))
    refine r_goto (tgt := 4357) dL_law_3244 (by decide) ?_
    exact r_mask [true, true, true, true, true, true, false, false, false] rfl (hx _ _ _ _ _ _ _ _ (R.tt' g3))
  · have g3 : v9 = b9.1 ∧ Tt K 0 b9.2 := g3
    refine r_aload_n dL_law_3191 rfl ?_
    refine s_arg (kq := 1) hL hi (by decide) (by decide) dL_law_3192 dL_law_3193 dL_law_3195 dL_law_3196 dL_law_3197 rfl rfl ?_
    refine r_aload_n dL_law_3198 rfl ?_
    refine r_cSW1 (rest := []) (wo_textByte hs hE hT0 hT1 g1) dL_law_3199 wd_1372 zL_textByte wd_1373 rfl rfl rfl ⟨Nat.le_of_ble_eq_true rfl, Nat.le_of_ble_eq_true rfl⟩ (Nat.le_of_ble_eq_true rfl) ⟨lk hk rfl, lk hn rfl⟩ ?_
    refine r_widen (k2 := k + 64) (n2 := n + 64) (Nat.add_le_add_left (Nat.le_of_ble_eq_true rfl) _) (Nat.add_le_add_left (Nat.le_of_ble_eq_true rfl) _) ?_
    refine r_istore dL_law_3202 (by decide) rfl ?_
    refine r_aload_n dL_law_3204 rfl ?_
    refine s_arg (kq := 1) hL hi (by decide) (by decide) dL_law_3205 dL_law_3206 dL_law_3208 dL_law_3209 dL_law_3210 rfl rfl ?_
    refine r_cV0 (rest := []) (ct_X10_textByte hs hE g2) dL_law_3211 wd_2139 zX10_textByte wd_2140 wd_2141 rfl rfl rfl (fo10 (hE 153 (by decide))) rfl rfl ⟨Nat.le_of_ble_eq_true rfl, Nat.le_of_ble_eq_true rfl⟩ (Nat.le_of_ble_eq_true rfl) ⟨rfl, rfl⟩ (lkk hk hn) ?_
    refine r_istore dL_law_3214 (by decide) rfl ?_
    refine r_aload_n dL_law_3216 rfl ?_
    have t9 := g3.2.t
    refine r_cV0 (rest := []) (ct_X10_thrown (n := 0) hs hE rfl) dL_law_3217 wd_1621 zX10_thrown wd_1622 wd_1623 rfl rfl rfl (fo10 (hE 153 (by decide))) rfl rfl ⟨Nat.le_of_ble_eq_true rfl, Nat.le_of_ble_eq_true rfl⟩ (Nat.le_of_ble_eq_true rfl) ⟨rfl, rfl⟩ (lkk hk hn) ?_
    refine r_iload dL_law_3220 rfl ?_
    refine r_icmp_eq (tgt := 3227) dL_law_3222 (by decide) (fun _ => ?_) (fun q => absurd t9 q)
    refine r_iload dL_law_3227 rfl ?_
    refine r_if_ne (tgt := 3244) dL_law_3229 (by decide) (fun q => absurd rfl q) (fun _ => ?_)
    refine r_aload_n dL_law_3232 rfl ?_
    refine r_iconst (v := (0 : Int32)) dL_law_3233 (by decide) ?_
    refine a_laldc 0 dL_law_3234 (hE 170 (by decide)) (vpc rfl) rfl ?_
    refine r_tl sJ_self ?_
    refine r_iload dL_law_3235 rfl ?_
    refine r_i2l dL_law_3237 ?_
    refine r_lcmp dL_law_3238 ?_
    refine r_ti (y := 0) ((lg_cmp_eq _ _).mpr (congrArg Int32.toInt64 g3.1)) ?_
    refine r_if_eq (tgt := 3244) dL_law_3239 (by decide) (fun _ => ?_) (fun q => absurd rfl q)
    refine r_goto (tgt := 4357) dL_law_3244 (by decide) ?_
    exact r_mask [true, true, true, true, true, true, false, false, false] rfl (hx _ _ _ _ _ _ _ _ (R.tt' g3.2))
set_option maxHeartbeats 4000000 in
set_option maxRecDepth 100000 in
theorem lc_nodesIfOff {G : gG} {b Lx i : Nat} {xs : Nat → Int32} {lay : Nat → Nat × Nat} {T0 T1 : Nat} {Dd : Nat → Nat → UInt64} {I : gI} {J : gJ} {K : gI} {N : gJ} {sz k n : Nat} (hs : G.1.stackTraces = false) (hE : gLay lay) (R : Rel T0 T1 I K) (hL : Lx ≤ 3072) (hi : i + 6 ≤ Lx) (hk : k + 64 ≤ 601024) (hn : n + 64 ≤ 7293034) (hx : lNx G b Lx xs lay i k n) : gAt G mL_law (lQ G b Lx xs) 3247 (lLL G b i) [] (fO G (lay, T0, T1, Dd) I J K N) sz k n := by
  have hT0 : gTank lay T0 := gTk hE (R.tt.elim (fun h => Or.inl h.1) (fun h => Or.inr h.1))
  have hT1 : gTank lay T1 := gTk hE (R.tt.elim (fun h => Or.inr h.2) (fun h => Or.inl h.2))
  obtain ⟨r9, b9, g1, g2, g3⟩ := e_nodesIfOff (n := 30000) (by decide) R (xs (i + 1)) (xs (i + 2)) (xs (i + 3))
  rcases r9 with E9 | v9
  · have g3 : Tt K (thA E9) b9.2 := g3
    refine r_aload_n dL_law_3247 rfl ?_
    refine s_arg (kq := 1) hL hi (by decide) (by decide) dL_law_3248 dL_law_3249 dL_law_3251 dL_law_3252 dL_law_3253 rfl rfl ?_
    refine s_arg (kq := 2) hL hi (by decide) (by decide) dL_law_3254 dL_law_3255 dL_law_3257 dL_law_3258 dL_law_3259 rfl rfl ?_
    refine s_arg (kq := 3) hL hi (by decide) (by decide) dL_law_3260 dL_law_3261 dL_law_3263 dL_law_3264 dL_law_3265 rfl rfl ?_
    refine r_aload_n dL_law_3266 rfl ?_
    refine r_cSWs (rest := []) (we_nodesIfOff hs hE hT0 hT1 g1) dL_law_3267 wd_1380 zL_nodesIfOff wd_1381 rfl rfl rfl ⟨Nat.le_of_ble_eq_true rfl, Nat.le_of_ble_eq_true rfl⟩ (Nat.le_of_ble_eq_true rfl) ⟨lk hk rfl, lk hn rfl⟩ (fun sz9 => ?_)
    refine r_widen (k2 := k + 64) (n2 := n + 64) (Nat.add_le_add_left (Nat.le_of_ble_eq_true rfl) _) (Nat.add_le_add_left (Nat.le_of_ble_eq_true rfl) _) ?_
    refine r_istore dL_law_3270 (by decide) rfl ?_
    refine r_aload_n dL_law_3272 rfl ?_
    refine s_arg (kq := 1) hL hi (by decide) (by decide) dL_law_3273 dL_law_3274 dL_law_3276 dL_law_3277 dL_law_3278 rfl rfl ?_
    refine s_arg (kq := 2) hL hi (by decide) (by decide) dL_law_3279 dL_law_3280 dL_law_3282 dL_law_3283 dL_law_3284 rfl rfl ?_
    refine s_arg (kq := 3) hL hi (by decide) (by decide) dL_law_3285 dL_law_3286 dL_law_3288 dL_law_3289 dL_law_3290 rfl rfl ?_
    refine r_cV0 (rest := []) (ct_X10_nodesIfOff hs hE g2) dL_law_3291 wd_2143 zX10_nodesIfOff wd_2144 wd_2145 rfl rfl rfl (fo10 (hE 153 (by decide))) rfl rfl ⟨Nat.le_of_ble_eq_true rfl, Nat.le_of_ble_eq_true rfl⟩ (Nat.le_of_ble_eq_true rfl) ⟨rfl, rfl⟩ (lkk hk hn) ?_
    refine r_istore dL_law_3294 (by decide) rfl ?_
    refine r_aload_n dL_law_3296 rfl ?_
    have t9 := g3.t
    refine r_cV0 (rest := []) (ct_X10_thrown (n := 0) hs hE rfl) dL_law_3297 wd_1621 zX10_thrown wd_1622 wd_1623 rfl rfl rfl (fo10 (hE 153 (by decide))) rfl rfl ⟨Nat.le_of_ble_eq_true rfl, Nat.le_of_ble_eq_true rfl⟩ (Nat.le_of_ble_eq_true rfl) ⟨rfl, rfl⟩ (lkk hk hn) ?_
    refine r_iload dL_law_3300 rfl ?_
    refine r_icmp_eq (tgt := 3307) dL_law_3302 (by decide) (fun _ => ?_) (fun q => absurd t9 q)
    refine r_iload dL_law_3307 rfl ?_
    refine r_if_ne (tgt := 3324) dL_law_3309 (by decide) (fun _ => ?_) (fun q => absurd q (thA_ne E9))
    refine r_goto (tgt := 4357) dL_law_3324 (by decide) ?_
    exact r_mask [true, true, true, true, true, true, false, false, false] rfl (hx _ _ _ _ _ _ _ _ (R.tt' g3))
  · have g3 : v9.1 = b9.1 ∧ Rel T0 T1 v9.2 b9.2 ∧ b9.2 153 0 = 0 := g3
    refine r_aload_n dL_law_3247 rfl ?_
    refine s_arg (kq := 1) hL hi (by decide) (by decide) dL_law_3248 dL_law_3249 dL_law_3251 dL_law_3252 dL_law_3253 rfl rfl ?_
    refine s_arg (kq := 2) hL hi (by decide) (by decide) dL_law_3254 dL_law_3255 dL_law_3257 dL_law_3258 dL_law_3259 rfl rfl ?_
    refine s_arg (kq := 3) hL hi (by decide) (by decide) dL_law_3260 dL_law_3261 dL_law_3263 dL_law_3264 dL_law_3265 rfl rfl ?_
    refine r_aload_n dL_law_3266 rfl ?_
    refine r_cSW1 (rest := []) (wo_nodesIfOff hs hE hT0 hT1 g1) dL_law_3267 wd_1380 zL_nodesIfOff wd_1381 rfl rfl rfl ⟨Nat.le_of_ble_eq_true rfl, Nat.le_of_ble_eq_true rfl⟩ (Nat.le_of_ble_eq_true rfl) ⟨lk hk rfl, lk hn rfl⟩ ?_
    refine r_widen (k2 := k + 64) (n2 := n + 64) (Nat.add_le_add_left (Nat.le_of_ble_eq_true rfl) _) (Nat.add_le_add_left (Nat.le_of_ble_eq_true rfl) _) ?_
    refine r_istore dL_law_3270 (by decide) rfl ?_
    refine r_aload_n dL_law_3272 rfl ?_
    refine s_arg (kq := 1) hL hi (by decide) (by decide) dL_law_3273 dL_law_3274 dL_law_3276 dL_law_3277 dL_law_3278 rfl rfl ?_
    refine s_arg (kq := 2) hL hi (by decide) (by decide) dL_law_3279 dL_law_3280 dL_law_3282 dL_law_3283 dL_law_3284 rfl rfl ?_
    refine s_arg (kq := 3) hL hi (by decide) (by decide) dL_law_3285 dL_law_3286 dL_law_3288 dL_law_3289 dL_law_3290 rfl rfl ?_
    refine r_cV0 (rest := []) (ct_X10_nodesIfOff hs hE g2) dL_law_3291 wd_2143 zX10_nodesIfOff wd_2144 wd_2145 rfl rfl rfl (fo10 (hE 153 (by decide))) rfl rfl ⟨Nat.le_of_ble_eq_true rfl, Nat.le_of_ble_eq_true rfl⟩ (Nat.le_of_ble_eq_true rfl) ⟨rfl, rfl⟩ (lkk hk hn) ?_
    refine r_istore dL_law_3294 (by decide) rfl ?_
    refine r_aload_n dL_law_3296 rfl ?_
    have t9 := g3.2.2
    refine r_cV0 (rest := []) (ct_X10_thrown (n := 0) hs hE rfl) dL_law_3297 wd_1621 zX10_thrown wd_1622 wd_1623 rfl rfl rfl (fo10 (hE 153 (by decide))) rfl rfl ⟨Nat.le_of_ble_eq_true rfl, Nat.le_of_ble_eq_true rfl⟩ (Nat.le_of_ble_eq_true rfl) ⟨rfl, rfl⟩ (lkk hk hn) ?_
    refine r_iload dL_law_3300 rfl ?_
    refine r_icmp_eq (tgt := 3307) dL_law_3302 (by decide) (fun _ => ?_) (fun q => absurd t9 q)
    refine r_iload dL_law_3307 rfl ?_
    refine r_if_ne (tgt := 3324) dL_law_3309 (by decide) (fun q => absurd rfl q) (fun _ => ?_)
    refine r_aload_n dL_law_3312 rfl ?_
    refine r_iconst (v := (0 : Int32)) dL_law_3313 (by decide) ?_
    refine a_laldc 0 dL_law_3314 (hE 170 (by decide)) (vpc rfl) rfl ?_
    refine r_tl sJ_self ?_
    refine r_iload dL_law_3315 rfl ?_
    refine r_i2l dL_law_3317 ?_
    refine r_lcmp dL_law_3318 ?_
    refine r_ti (y := 0) ((lg_cmp_eq _ _).mpr (congrArg Int32.toInt64 g3.1)) ?_
    refine r_if_eq (tgt := 3324) dL_law_3319 (by decide) (fun _ => ?_) (fun q => absurd rfl q)
    refine r_goto (tgt := 4357) dL_law_3324 (by decide) ?_
    exact r_mask [true, true, true, true, true, true, false, false, false] rfl (hx _ _ _ _ _ _ _ _ (g3.2.1))
