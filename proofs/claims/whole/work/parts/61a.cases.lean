/-! the cases of the law -/
set_option maxHeartbeats 4000000 in
set_option maxRecDepth 100000 in
theorem lc_append {G : gG} {b Lx i : Nat} {xs : Nat → Int32} {lay : Nat → Nat × Nat} {T0 T1 : Nat} {Dd : Nat → Nat → UInt64} {I : gI} {J : gJ} {K : gI} {N : gJ} {sz k n : Nat} (hs : G.1.stackTraces = false) (hE : gLay lay) (R : Rel T0 T1 I K) (hL : Lx ≤ 3072) (hi : i + 6 ≤ Lx) (hk : k + 64 ≤ 601024) (hn : n + 64 ≤ 7293034) (hx : lNx G b Lx xs lay i k n) : gAt G mL_law (lQ G b Lx xs) 316 (lLL G b i) [] (fO G (lay, T0, T1, Dd) I J K N) sz k n := by
  have hT0 : gTank lay T0 := gTk hE (R.tt.elim (fun h => Or.inl h.1) (fun h => Or.inr h.1))
  have hT1 : gTank lay T1 := gTk hE (R.tt.elim (fun h => Or.inr h.2) (fun h => Or.inl h.2))
  obtain ⟨a9, b9, g1, g2, g3⟩ := e_append (n := 30000) (by decide) R (xs (i + 1)) (xs (i + 2)) (xs (i + 3)) (xs (i + 4)) (xs (i + 5))
  refine r_widen (k2 := k + 64) (n2 := n + 64) (Nat.le_add_right _ _) (Nat.le_add_right _ _) ?_
  refine r_aload_n dL_law_316 rfl ?_
  refine s_arg (kq := 1) hL hi (by decide) (by decide) dL_law_317 dL_law_318 dL_law_320 dL_law_321 dL_law_322 rfl rfl ?_
  refine s_arg (kq := 2) hL hi (by decide) (by decide) dL_law_323 dL_law_324 dL_law_326 dL_law_327 dL_law_328 rfl rfl ?_
  refine s_arg (kq := 3) hL hi (by decide) (by decide) dL_law_329 dL_law_330 dL_law_332 dL_law_333 dL_law_334 rfl rfl ?_
  refine s_arg (kq := 4) hL hi (by decide) (by decide) dL_law_335 dL_law_336 dL_law_338 dL_law_339 dL_law_340 rfl rfl ?_
  refine s_arg (kq := 5) hL hi (by decide) (by decide) dL_law_341 dL_law_342 dL_law_344 dL_law_345 dL_law_346 rfl rfl ?_
  refine r_cV0 (rest := []) (ct_X9_append hs hE hT0 hT1 g1) dL_law_347 wd_477 zX9_append wd_478 wd_479 rfl rfl rfl (fo9 (hE 0 (by decide))) rfl rfl ⟨Nat.le_of_ble_eq_true rfl, Nat.le_of_ble_eq_true rfl⟩ (Nat.le_of_ble_eq_true rfl) ⟨rfl, rfl⟩ (lkk hk hn) ?_
  refine r_aload_n dL_law_350 rfl ?_
  refine s_arg (kq := 1) hL hi (by decide) (by decide) dL_law_351 dL_law_352 dL_law_354 dL_law_355 dL_law_356 rfl rfl ?_
  refine s_arg (kq := 2) hL hi (by decide) (by decide) dL_law_357 dL_law_358 dL_law_360 dL_law_361 dL_law_362 rfl rfl ?_
  refine s_arg (kq := 3) hL hi (by decide) (by decide) dL_law_363 dL_law_364 dL_law_366 dL_law_367 dL_law_368 rfl rfl ?_
  refine s_arg (kq := 4) hL hi (by decide) (by decide) dL_law_369 dL_law_370 dL_law_372 dL_law_373 dL_law_374 rfl rfl ?_
  refine s_arg (kq := 5) hL hi (by decide) (by decide) dL_law_375 dL_law_376 dL_law_378 dL_law_379 dL_law_380 rfl rfl ?_
  refine r_cV0 (rest := [.int a9.1]) (ct_X10_append hs hE g2) dL_law_381 wd_1625 zX10_append wd_1626 wd_1627 rfl rfl rfl (fo10 (hE 153 (by decide))) rfl rfl ⟨Nat.le_of_ble_eq_true rfl, Nat.le_of_ble_eq_true rfl⟩ (Nat.le_of_ble_eq_true rfl) ⟨rfl, rfl⟩ (lkk hk hn) ?_
  refine r_icmp_eq (tgt := 4357) dL_law_384 (by decide) (fun _ => ?_) (fun q => absurd g3.1 q)
  exact r_mask [true, true, true, true, true, true, false, false, false] rfl (hx _ _ _ _ _ _ _ _ (g3.2))
set_option maxHeartbeats 4000000 in
set_option maxRecDepth 100000 in
theorem lc_parseError {G : gG} {b Lx i : Nat} {xs : Nat → Int32} {lay : Nat → Nat × Nat} {T0 T1 : Nat} {Dd : Nat → Nat → UInt64} {I : gI} {J : gJ} {K : gI} {N : gJ} {sz k n : Nat} (hs : G.1.stackTraces = false) (hE : gLay lay) (R : Rel T0 T1 I K) (hL : Lx ≤ 3072) (hi : i + 6 ≤ Lx) (hk : k + 64 ≤ 601024) (hn : n + 64 ≤ 7293034) (hx : lNx G b Lx xs lay i k n) : gAt G mL_law (lQ G b Lx xs) 445 (lLL G b i) [] (fO G (lay, T0, T1, Dd) I J K N) sz k n := by
  have hT0 : gTank lay T0 := gTk hE (R.tt.elim (fun h => Or.inl h.1) (fun h => Or.inr h.1))
  have hT1 : gTank lay T1 := gTk hE (R.tt.elim (fun h => Or.inr h.2) (fun h => Or.inl h.2))
  obtain ⟨a9, b9, g1, g2, g3⟩ := e_parseError (n := 30000) R
  refine r_widen (k2 := k + 64) (n2 := n + 64) (Nat.le_add_right _ _) (Nat.le_add_right _ _) ?_
  refine r_aload_n dL_law_445 rfl ?_
  refine r_cV0 (rest := []) (ct_X9_parseError hs hE hT0 hT1 g1) dL_law_446 wd_485 zX9_parseError wd_486 wd_487 rfl rfl rfl (fo9 (hE 0 (by decide))) rfl rfl ⟨Nat.le_of_ble_eq_true rfl, Nat.le_of_ble_eq_true rfl⟩ (Nat.le_of_ble_eq_true rfl) ⟨rfl, rfl⟩ (lkk hk hn) ?_
  refine r_aload_n dL_law_449 rfl ?_
  refine r_cV0 (rest := [.int a9]) (ct_X10_parseError hs hE g2) dL_law_450 wd_1637 zX10_parseError wd_1638 wd_1639 rfl rfl rfl (fo10 (hE 153 (by decide))) rfl rfl ⟨Nat.le_of_ble_eq_true rfl, Nat.le_of_ble_eq_true rfl⟩ (Nat.le_of_ble_eq_true rfl) ⟨rfl, rfl⟩ (lkk hk hn) ?_
  refine r_icmp_eq (tgt := 4357) dL_law_453 (by decide) (fun _ => ?_) (fun q => absurd g3.1 q)
  exact r_mask [true, true, true, true, true, true, false, false, false] rfl (hx _ _ _ _ _ _ _ _ (R.tt' g3.2))
set_option maxHeartbeats 4000000 in
set_option maxRecDepth 100000 in
theorem lc_errorPosition {G : gG} {b Lx i : Nat} {xs : Nat → Int32} {lay : Nat → Nat × Nat} {T0 T1 : Nat} {Dd : Nat → Nat → UInt64} {I : gI} {J : gJ} {K : gI} {N : gJ} {sz k n : Nat} (hs : G.1.stackTraces = false) (hE : gLay lay) (R : Rel T0 T1 I K) (hL : Lx ≤ 3072) (hi : i + 6 ≤ Lx) (hk : k + 64 ≤ 601024) (hn : n + 64 ≤ 7293034) (hx : lNx G b Lx xs lay i k n) : gAt G mL_law (lQ G b Lx xs) 458 (lLL G b i) [] (fO G (lay, T0, T1, Dd) I J K N) sz k n := by
  have hT0 : gTank lay T0 := gTk hE (R.tt.elim (fun h => Or.inl h.1) (fun h => Or.inr h.1))
  have hT1 : gTank lay T1 := gTk hE (R.tt.elim (fun h => Or.inr h.2) (fun h => Or.inl h.2))
  obtain ⟨a9, b9, g1, g2, g3⟩ := e_errorPosition (n := 30000) R
  refine r_widen (k2 := k + 64) (n2 := n + 64) (Nat.le_add_right _ _) (Nat.le_add_right _ _) ?_
  refine r_aload_n dL_law_458 rfl ?_
  refine r_cV0 (rest := []) (ct_X9_errorPosition hs hE hT0 hT1 g1) dL_law_459 wd_489 zX9_errorPosition wd_490 wd_491 rfl rfl rfl (fo9 (hE 0 (by decide))) rfl rfl ⟨Nat.le_of_ble_eq_true rfl, Nat.le_of_ble_eq_true rfl⟩ (Nat.le_of_ble_eq_true rfl) ⟨rfl, rfl⟩ (lkk hk hn) ?_
  refine r_aload_n dL_law_462 rfl ?_
  refine r_cV0 (rest := [.int a9]) (ct_X10_errorPosition hs hE g2) dL_law_463 wd_1641 zX10_errorPosition wd_1642 wd_1643 rfl rfl rfl (fo10 (hE 153 (by decide))) rfl rfl ⟨Nat.le_of_ble_eq_true rfl, Nat.le_of_ble_eq_true rfl⟩ (Nat.le_of_ble_eq_true rfl) ⟨rfl, rfl⟩ (lkk hk hn) ?_
  refine r_icmp_eq (tgt := 4357) dL_law_466 (by decide) (fun _ => ?_) (fun q => absurd g3.1 q)
  exact r_mask [true, true, true, true, true, true, false, false, false] rfl (hx _ _ _ _ _ _ _ _ (R.tt' g3.2))
set_option maxHeartbeats 4000000 in
set_option maxRecDepth 100000 in
theorem lc_buffered {G : gG} {b Lx i : Nat} {xs : Nat → Int32} {lay : Nat → Nat × Nat} {T0 T1 : Nat} {Dd : Nat → Nat → UInt64} {I : gI} {J : gJ} {K : gI} {N : gJ} {sz k n : Nat} (hs : G.1.stackTraces = false) (hE : gLay lay) (R : Rel T0 T1 I K) (hL : Lx ≤ 3072) (hi : i + 6 ≤ Lx) (hk : k + 64 ≤ 601024) (hn : n + 64 ≤ 7293034) (hx : lNx G b Lx xs lay i k n) : gAt G mL_law (lQ G b Lx xs) 471 (lLL G b i) [] (fO G (lay, T0, T1, Dd) I J K N) sz k n := by
  have hT0 : gTank lay T0 := gTk hE (R.tt.elim (fun h => Or.inl h.1) (fun h => Or.inr h.1))
  have hT1 : gTank lay T1 := gTk hE (R.tt.elim (fun h => Or.inr h.2) (fun h => Or.inl h.2))
  obtain ⟨a9, b9, g1, g2, g3⟩ := e_buffered (n := 30000) R
  refine r_widen (k2 := k + 64) (n2 := n + 64) (Nat.le_add_right _ _) (Nat.le_add_right _ _) ?_
  refine r_aload_n dL_law_471 rfl ?_
  refine r_cV0 (rest := []) (ct_X9_buffered hs hE hT0 hT1 g1) dL_law_472 wd_493 zX9_buffered wd_494 wd_495 rfl rfl rfl (fo9 (hE 0 (by decide))) rfl rfl ⟨Nat.le_of_ble_eq_true rfl, Nat.le_of_ble_eq_true rfl⟩ (Nat.le_of_ble_eq_true rfl) ⟨rfl, rfl⟩ (lkk hk hn) ?_
  refine r_aload_n dL_law_475 rfl ?_
  refine r_cV0 (rest := [.int a9]) (ct_X10_buffered hs hE g2) dL_law_476 wd_1633 zX10_buffered wd_1634 wd_1635 rfl rfl rfl (fo10 (hE 153 (by decide))) rfl rfl ⟨Nat.le_of_ble_eq_true rfl, Nat.le_of_ble_eq_true rfl⟩ (Nat.le_of_ble_eq_true rfl) ⟨rfl, rfl⟩ (lkk hk hn) ?_
  refine r_icmp_eq (tgt := 4357) dL_law_479 (by decide) (fun _ => ?_) (fun q => absurd g3.1 q)
  exact r_mask [true, true, true, true, true, true, false, false, false] rfl (hx _ _ _ _ _ _ _ _ (R.tt' g3.2))
set_option maxHeartbeats 4000000 in
set_option maxRecDepth 100000 in
theorem lc_time {G : gG} {b Lx i : Nat} {xs : Nat → Int32} {lay : Nat → Nat × Nat} {T0 T1 : Nat} {Dd : Nat → Nat → UInt64} {I : gI} {J : gJ} {K : gI} {N : gJ} {sz k n : Nat} (hs : G.1.stackTraces = false) (hE : gLay lay) (R : Rel T0 T1 I K) (hL : Lx ≤ 3072) (hi : i + 6 ≤ Lx) (hk : k + 64 ≤ 601024) (hn : n + 64 ≤ 7293034) (hx : lNx G b Lx xs lay i k n) : gAt G mL_law (lQ G b Lx xs) 484 (lLL G b i) [] (fO G (lay, T0, T1, Dd) I J K N) sz k n := by
  have hT0 : gTank lay T0 := gTk hE (R.tt.elim (fun h => Or.inl h.1) (fun h => Or.inr h.1))
  have hT1 : gTank lay T1 := gTk hE (R.tt.elim (fun h => Or.inr h.2) (fun h => Or.inl h.2))
  obtain ⟨a9, b9, g1, g2, g3⟩ := e_time (n := 30000) R
  refine r_widen (k2 := k + 64) (n2 := n + 64) (Nat.le_add_right _ _) (Nat.le_add_right _ _) ?_
  refine r_aload_n dL_law_484 rfl ?_
  refine r_cV0 (rest := []) (ct_X9_time hs hE hT0 hT1 g1) dL_law_485 wd_497 zX9_time wd_498 wd_499 rfl rfl rfl (fo9 (hE 0 (by decide))) rfl rfl ⟨Nat.le_of_ble_eq_true rfl, Nat.le_of_ble_eq_true rfl⟩ (Nat.le_of_ble_eq_true rfl) ⟨rfl, rfl⟩ (lkk hk hn) ?_
  refine r_aload_n dL_law_488 rfl ?_
  refine r_cV0 (rest := [.int a9]) (ct_X10_time hs hE g2) dL_law_489 wd_1786 zX10_time wd_1787 wd_1788 rfl rfl rfl (fo10 (hE 153 (by decide))) rfl rfl ⟨Nat.le_of_ble_eq_true rfl, Nat.le_of_ble_eq_true rfl⟩ (Nat.le_of_ble_eq_true rfl) ⟨rfl, rfl⟩ (lkk hk hn) ?_
  refine r_icmp_eq (tgt := 4357) dL_law_492 (by decide) (fun _ => ?_) (fun q => absurd g3.1 q)
  exact r_mask [true, true, true, true, true, true, false, false, false] rfl (hx _ _ _ _ _ _ _ _ (R.tt' g3.2))
set_option maxHeartbeats 4000000 in
set_option maxRecDepth 100000 in
theorem lc_width {G : gG} {b Lx i : Nat} {xs : Nat → Int32} {lay : Nat → Nat × Nat} {T0 T1 : Nat} {Dd : Nat → Nat → UInt64} {I : gI} {J : gJ} {K : gI} {N : gJ} {sz k n : Nat} (hs : G.1.stackTraces = false) (hE : gLay lay) (R : Rel T0 T1 I K) (hL : Lx ≤ 3072) (hi : i + 6 ≤ Lx) (hk : k + 64 ≤ 601024) (hn : n + 64 ≤ 7293034) (hx : lNx G b Lx xs lay i k n) : gAt G mL_law (lQ G b Lx xs) 497 (lLL G b i) [] (fO G (lay, T0, T1, Dd) I J K N) sz k n := by
  have hT0 : gTank lay T0 := gTk hE (R.tt.elim (fun h => Or.inl h.1) (fun h => Or.inr h.1))
  have hT1 : gTank lay T1 := gTk hE (R.tt.elim (fun h => Or.inr h.2) (fun h => Or.inl h.2))
  obtain ⟨a9, b9, g1, g2, g3⟩ := e_width (n := 30000) R
  refine r_widen (k2 := k + 64) (n2 := n + 64) (Nat.le_add_right _ _) (Nat.le_add_right _ _) ?_
  refine r_aload_n dL_law_497 rfl ?_
  refine r_cV0 (rest := []) (ct_X9_width hs hE hT0 hT1 g1) dL_law_498 wd_501 zX9_width wd_502 wd_503 rfl rfl rfl (fo9 (hE 0 (by decide))) rfl rfl ⟨Nat.le_of_ble_eq_true rfl, Nat.le_of_ble_eq_true rfl⟩ (Nat.le_of_ble_eq_true rfl) ⟨rfl, rfl⟩ (lkk hk hn) ?_
  refine r_aload_n dL_law_501 rfl ?_
  refine r_cV0 (rest := [.int a9]) (ct_X10_width hs hE g2) dL_law_502 wd_1794 zX10_width wd_1795 wd_1796 rfl rfl rfl (fo10 (hE 153 (by decide))) rfl rfl ⟨Nat.le_of_ble_eq_true rfl, Nat.le_of_ble_eq_true rfl⟩ (Nat.le_of_ble_eq_true rfl) ⟨rfl, rfl⟩ (lkk hk hn) ?_
  refine r_icmp_eq (tgt := 4357) dL_law_505 (by decide) (fun _ => ?_) (fun q => absurd g3.1 q)
  exact r_mask [true, true, true, true, true, true, false, false, false] rfl (hx _ _ _ _ _ _ _ _ (R.tt' g3.2))
set_option maxHeartbeats 4000000 in
set_option maxRecDepth 100000 in
theorem lc_height {G : gG} {b Lx i : Nat} {xs : Nat → Int32} {lay : Nat → Nat × Nat} {T0 T1 : Nat} {Dd : Nat → Nat → UInt64} {I : gI} {J : gJ} {K : gI} {N : gJ} {sz k n : Nat} (hs : G.1.stackTraces = false) (hE : gLay lay) (R : Rel T0 T1 I K) (hL : Lx ≤ 3072) (hi : i + 6 ≤ Lx) (hk : k + 64 ≤ 601024) (hn : n + 64 ≤ 7293034) (hx : lNx G b Lx xs lay i k n) : gAt G mL_law (lQ G b Lx xs) 510 (lLL G b i) [] (fO G (lay, T0, T1, Dd) I J K N) sz k n := by
  have hT0 : gTank lay T0 := gTk hE (R.tt.elim (fun h => Or.inl h.1) (fun h => Or.inr h.1))
  have hT1 : gTank lay T1 := gTk hE (R.tt.elim (fun h => Or.inr h.2) (fun h => Or.inl h.2))
  obtain ⟨a9, b9, g1, g2, g3⟩ := e_height (n := 30000) R
  refine r_widen (k2 := k + 64) (n2 := n + 64) (Nat.le_add_right _ _) (Nat.le_add_right _ _) ?_
  refine r_aload_n dL_law_510 rfl ?_
  refine r_cV0 (rest := []) (ct_X9_height hs hE hT0 hT1 g1) dL_law_511 wd_505 zX9_height wd_506 wd_507 rfl rfl rfl (fo9 (hE 0 (by decide))) rfl rfl ⟨Nat.le_of_ble_eq_true rfl, Nat.le_of_ble_eq_true rfl⟩ (Nat.le_of_ble_eq_true rfl) ⟨rfl, rfl⟩ (lkk hk hn) ?_
  refine r_aload_n dL_law_514 rfl ?_
  refine r_cV0 (rest := [.int a9]) (ct_X10_height hs hE g2) dL_law_515 wd_1798 zX10_height wd_1799 wd_1800 rfl rfl rfl (fo10 (hE 153 (by decide))) rfl rfl ⟨Nat.le_of_ble_eq_true rfl, Nat.le_of_ble_eq_true rfl⟩ (Nat.le_of_ble_eq_true rfl) ⟨rfl, rfl⟩ (lkk hk hn) ?_
  refine r_icmp_eq (tgt := 4357) dL_law_518 (by decide) (fun _ => ?_) (fun q => absurd g3.1 q)
  exact r_mask [true, true, true, true, true, true, false, false, false] rfl (hx _ _ _ _ _ _ _ _ (R.tt' g3.2))
set_option maxHeartbeats 4000000 in
set_option maxRecDepth 100000 in
theorem lc_wall {G : gG} {b Lx i : Nat} {xs : Nat → Int32} {lay : Nat → Nat × Nat} {T0 T1 : Nat} {Dd : Nat → Nat → UInt64} {I : gI} {J : gJ} {K : gI} {N : gJ} {sz k n : Nat} (hs : G.1.stackTraces = false) (hE : gLay lay) (R : Rel T0 T1 I K) (hL : Lx ≤ 3072) (hi : i + 6 ≤ Lx) (hk : k + 64 ≤ 601024) (hn : n + 64 ≤ 7293034) (hx : lNx G b Lx xs lay i k n) : gAt G mL_law (lQ G b Lx xs) 523 (lLL G b i) [] (fO G (lay, T0, T1, Dd) I J K N) sz k n := by
  have hT0 : gTank lay T0 := gTk hE (R.tt.elim (fun h => Or.inl h.1) (fun h => Or.inr h.1))
  have hT1 : gTank lay T1 := gTk hE (R.tt.elim (fun h => Or.inr h.2) (fun h => Or.inl h.2))
  obtain ⟨r9, b9, g1, g2, g3⟩ := e_wall (n := 30000) (by decide) R
  rcases r9 with E9 | v9
  · have g3 : Tt K (thA E9) b9.2 := g3
    refine r_aload_n dL_law_523 rfl ?_
    refine r_aload_n dL_law_524 rfl ?_
    refine r_cSWs (rest := []) (we_wall hs hE hT0 hT1 g1) dL_law_525 wd_861 zL_wall wd_862 rfl rfl rfl ⟨Nat.le_of_ble_eq_true rfl, Nat.le_of_ble_eq_true rfl⟩ (Nat.le_of_ble_eq_true rfl) ⟨lk hk rfl, lk hn rfl⟩ (fun sz9 => ?_)
    refine r_widen (k2 := k + 64) (n2 := n + 64) (Nat.add_le_add_left (Nat.le_of_ble_eq_true rfl) _) (Nat.add_le_add_left (Nat.le_of_ble_eq_true rfl) _) ?_
    refine r_istore dL_law_528 (by decide) rfl ?_
    refine r_aload_n dL_law_530 rfl ?_
    refine r_cV0 (rest := []) (ct_X10_wall hs hE g2) dL_law_531 wd_1802 zX10_wall wd_1803 wd_1804 rfl rfl rfl (fo10 (hE 153 (by decide))) rfl rfl ⟨Nat.le_of_ble_eq_true rfl, Nat.le_of_ble_eq_true rfl⟩ (Nat.le_of_ble_eq_true rfl) ⟨rfl, rfl⟩ (lkk hk hn) ?_
    refine r_istore dL_law_534 (by decide) rfl ?_
    refine r_aload_n dL_law_536 rfl ?_
    have t9 := g3.t
    refine r_cV0 (rest := []) (ct_X10_thrown (n := 0) hs hE rfl) dL_law_537 wd_1621 zX10_thrown wd_1622 wd_1623 rfl rfl rfl (fo10 (hE 153 (by decide))) rfl rfl ⟨Nat.le_of_ble_eq_true rfl, Nat.le_of_ble_eq_true rfl⟩ (Nat.le_of_ble_eq_true rfl) ⟨rfl, rfl⟩ (lkk hk hn) ?_
    refine r_iload dL_law_540 rfl ?_
    refine r_icmp_eq (tgt := 547) dL_law_542 (by decide) (fun _ => ?_) (fun q => absurd t9 q)
    refine r_iload dL_law_547 rfl ?_
    refine r_if_ne (tgt := 564) dL_law_549 (by decide) (fun _ => ?_) (fun q => absurd q (thA_ne E9))
    refine r_goto (tgt := 4357) dL_law_564 (by decide) ?_
    exact r_mask [true, true, true, true, true, true, false, false, false] rfl (hx _ _ _ _ _ _ _ _ (R.tt' g3))
  · have g3 : v9 = b9.1 ∧ Tt K 0 b9.2 := g3
    refine r_aload_n dL_law_523 rfl ?_
    refine r_aload_n dL_law_524 rfl ?_
    refine r_cSW1 (rest := []) (wo_wall hs hE hT0 hT1 g1) dL_law_525 wd_861 zL_wall wd_862 rfl rfl rfl ⟨Nat.le_of_ble_eq_true rfl, Nat.le_of_ble_eq_true rfl⟩ (Nat.le_of_ble_eq_true rfl) ⟨lk hk rfl, lk hn rfl⟩ ?_
    refine r_widen (k2 := k + 64) (n2 := n + 64) (Nat.add_le_add_left (Nat.le_of_ble_eq_true rfl) _) (Nat.add_le_add_left (Nat.le_of_ble_eq_true rfl) _) ?_
    refine r_istore dL_law_528 (by decide) rfl ?_
    refine r_aload_n dL_law_530 rfl ?_
    refine r_cV0 (rest := []) (ct_X10_wall hs hE g2) dL_law_531 wd_1802 zX10_wall wd_1803 wd_1804 rfl rfl rfl (fo10 (hE 153 (by decide))) rfl rfl ⟨Nat.le_of_ble_eq_true rfl, Nat.le_of_ble_eq_true rfl⟩ (Nat.le_of_ble_eq_true rfl) ⟨rfl, rfl⟩ (lkk hk hn) ?_
    refine r_istore dL_law_534 (by decide) rfl ?_
    refine r_aload_n dL_law_536 rfl ?_
    have t9 := g3.2.t
    refine r_cV0 (rest := []) (ct_X10_thrown (n := 0) hs hE rfl) dL_law_537 wd_1621 zX10_thrown wd_1622 wd_1623 rfl rfl rfl (fo10 (hE 153 (by decide))) rfl rfl ⟨Nat.le_of_ble_eq_true rfl, Nat.le_of_ble_eq_true rfl⟩ (Nat.le_of_ble_eq_true rfl) ⟨rfl, rfl⟩ (lkk hk hn) ?_
    refine r_iload dL_law_540 rfl ?_
    refine r_icmp_eq (tgt := 547) dL_law_542 (by decide) (fun _ => ?_) (fun q => absurd t9 q)
    refine r_iload dL_law_547 rfl ?_
    refine r_if_ne (tgt := 564) dL_law_549 (by decide) (fun q => absurd rfl q) (fun _ => ?_)
    refine r_aload_n dL_law_552 rfl ?_
    refine r_iconst (v := (0 : Int32)) dL_law_553 (by decide) ?_
    refine a_laldc 0 dL_law_554 (hE 170 (by decide)) (vpc rfl) rfl ?_
    refine r_tl sJ_self ?_
    refine r_iload dL_law_555 rfl ?_
    refine r_i2l dL_law_557 ?_
    refine r_lcmp dL_law_558 ?_
    refine r_ti (y := 0) ((lg_cmp_eq _ _).mpr (congrArg Int32.toInt64 g3.1)) ?_
    refine r_if_eq (tgt := 564) dL_law_559 (by decide) (fun _ => ?_) (fun q => absurd rfl q)
    refine r_goto (tgt := 4357) dL_law_564 (by decide) ?_
    exact r_mask [true, true, true, true, true, true, false, false, false] rfl (hx _ _ _ _ _ _ _ _ (R.tt' g3.2))
set_option maxHeartbeats 4000000 in
set_option maxRecDepth 100000 in
theorem lc_openRows {G : gG} {b Lx i : Nat} {xs : Nat → Int32} {lay : Nat → Nat × Nat} {T0 T1 : Nat} {Dd : Nat → Nat → UInt64} {I : gI} {J : gJ} {K : gI} {N : gJ} {sz k n : Nat} (hs : G.1.stackTraces = false) (hE : gLay lay) (R : Rel T0 T1 I K) (hL : Lx ≤ 3072) (hi : i + 6 ≤ Lx) (hk : k + 64 ≤ 601024) (hn : n + 64 ≤ 7293034) (hx : lNx G b Lx xs lay i k n) : gAt G mL_law (lQ G b Lx xs) 567 (lLL G b i) [] (fO G (lay, T0, T1, Dd) I J K N) sz k n := by
  have hT0 : gTank lay T0 := gTk hE (R.tt.elim (fun h => Or.inl h.1) (fun h => Or.inr h.1))
  have hT1 : gTank lay T1 := gTk hE (R.tt.elim (fun h => Or.inr h.2) (fun h => Or.inl h.2))
  obtain ⟨r9, b9, g1, g2, g3⟩ := e_openRows (n := 30000) (by decide) R
  rcases r9 with E9 | v9
  · have g3 : Tt K (thA E9) b9.2 := g3
    refine r_aload_n dL_law_567 rfl ?_
    refine r_aload_n dL_law_568 rfl ?_
    refine r_cSWs (rest := []) (we_openRows hs hE hT0 hT1 g1) dL_law_569 wd_889 zL_openRows wd_890 rfl rfl rfl ⟨Nat.le_of_ble_eq_true rfl, Nat.le_of_ble_eq_true rfl⟩ (Nat.le_of_ble_eq_true rfl) ⟨lk hk rfl, lk hn rfl⟩ (fun sz9 => ?_)
    refine r_widen (k2 := k + 64) (n2 := n + 64) (Nat.add_le_add_left (Nat.le_of_ble_eq_true rfl) _) (Nat.add_le_add_left (Nat.le_of_ble_eq_true rfl) _) ?_
    refine r_istore dL_law_572 (by decide) rfl ?_
    refine r_aload_n dL_law_574 rfl ?_
    refine r_cV0 (rest := []) (ct_X10_openRows hs hE g2) dL_law_575 wd_1810 zX10_openRows wd_1811 wd_1812 rfl rfl rfl (fo10 (hE 153 (by decide))) rfl rfl ⟨Nat.le_of_ble_eq_true rfl, Nat.le_of_ble_eq_true rfl⟩ (Nat.le_of_ble_eq_true rfl) ⟨rfl, rfl⟩ (lkk hk hn) ?_
    refine r_istore dL_law_578 (by decide) rfl ?_
    refine r_aload_n dL_law_580 rfl ?_
    have t9 := g3.t
    refine r_cV0 (rest := []) (ct_X10_thrown (n := 0) hs hE rfl) dL_law_581 wd_1621 zX10_thrown wd_1622 wd_1623 rfl rfl rfl (fo10 (hE 153 (by decide))) rfl rfl ⟨Nat.le_of_ble_eq_true rfl, Nat.le_of_ble_eq_true rfl⟩ (Nat.le_of_ble_eq_true rfl) ⟨rfl, rfl⟩ (lkk hk hn) ?_
    refine r_iload dL_law_584 rfl ?_
    refine r_icmp_eq (tgt := 591) dL_law_586 (by decide) (fun _ => ?_) (fun q => absurd t9 q)
    refine r_iload dL_law_591 rfl ?_
    refine r_if_ne (tgt := 608) dL_law_593 (by decide) (fun _ => ?_) (fun q => absurd q (thA_ne E9))
    refine r_goto (tgt := 4357) dL_law_608 (by decide) ?_
    exact r_mask [true, true, true, true, true, true, false, false, false] rfl (hx _ _ _ _ _ _ _ _ (R.tt' g3))
  · have g3 : v9 = b9.1 ∧ Tt K 0 b9.2 := g3
    refine r_aload_n dL_law_567 rfl ?_
    refine r_aload_n dL_law_568 rfl ?_
    refine r_cSW1 (rest := []) (wo_openRows hs hE hT0 hT1 g1) dL_law_569 wd_889 zL_openRows wd_890 rfl rfl rfl ⟨Nat.le_of_ble_eq_true rfl, Nat.le_of_ble_eq_true rfl⟩ (Nat.le_of_ble_eq_true rfl) ⟨lk hk rfl, lk hn rfl⟩ ?_
    refine r_widen (k2 := k + 64) (n2 := n + 64) (Nat.add_le_add_left (Nat.le_of_ble_eq_true rfl) _) (Nat.add_le_add_left (Nat.le_of_ble_eq_true rfl) _) ?_
    refine r_istore dL_law_572 (by decide) rfl ?_
    refine r_aload_n dL_law_574 rfl ?_
    refine r_cV0 (rest := []) (ct_X10_openRows hs hE g2) dL_law_575 wd_1810 zX10_openRows wd_1811 wd_1812 rfl rfl rfl (fo10 (hE 153 (by decide))) rfl rfl ⟨Nat.le_of_ble_eq_true rfl, Nat.le_of_ble_eq_true rfl⟩ (Nat.le_of_ble_eq_true rfl) ⟨rfl, rfl⟩ (lkk hk hn) ?_
    refine r_istore dL_law_578 (by decide) rfl ?_
    refine r_aload_n dL_law_580 rfl ?_
    have t9 := g3.2.t
    refine r_cV0 (rest := []) (ct_X10_thrown (n := 0) hs hE rfl) dL_law_581 wd_1621 zX10_thrown wd_1622 wd_1623 rfl rfl rfl (fo10 (hE 153 (by decide))) rfl rfl ⟨Nat.le_of_ble_eq_true rfl, Nat.le_of_ble_eq_true rfl⟩ (Nat.le_of_ble_eq_true rfl) ⟨rfl, rfl⟩ (lkk hk hn) ?_
    refine r_iload dL_law_584 rfl ?_
    refine r_icmp_eq (tgt := 591) dL_law_586 (by decide) (fun _ => ?_) (fun q => absurd t9 q)
    refine r_iload dL_law_591 rfl ?_
    refine r_if_ne (tgt := 608) dL_law_593 (by decide) (fun q => absurd rfl q) (fun _ => ?_)
    refine r_aload_n dL_law_596 rfl ?_
    refine r_iconst (v := (0 : Int32)) dL_law_597 (by decide) ?_
    refine a_laldc 0 dL_law_598 (hE 170 (by decide)) (vpc rfl) rfl ?_
    refine r_tl sJ_self ?_
    refine r_iload dL_law_599 rfl ?_
    refine r_i2l dL_law_601 ?_
    refine r_lcmp dL_law_602 ?_
    refine r_ti (y := 0) ((lg_cmp_eq _ _).mpr (congrArg Int32.toInt64 g3.1)) ?_
    refine r_if_eq (tgt := 608) dL_law_603 (by decide) (fun _ => ?_) (fun q => absurd rfl q)
    refine r_goto (tgt := 4357) dL_law_608 (by decide) ?_
    exact r_mask [true, true, true, true, true, true, false, false, false] rfl (hx _ _ _ _ _ _ _ _ (R.tt' g3.2))
set_option maxHeartbeats 4000000 in
set_option maxRecDepth 100000 in
theorem lc_isOpen {G : gG} {b Lx i : Nat} {xs : Nat → Int32} {lay : Nat → Nat × Nat} {T0 T1 : Nat} {Dd : Nat → Nat → UInt64} {I : gI} {J : gJ} {K : gI} {N : gJ} {sz k n : Nat} (hs : G.1.stackTraces = false) (hE : gLay lay) (R : Rel T0 T1 I K) (hL : Lx ≤ 3072) (hi : i + 6 ≤ Lx) (hk : k + 64 ≤ 601024) (hn : n + 64 ≤ 7293034) (hx : lNx G b Lx xs lay i k n) : gAt G mL_law (lQ G b Lx xs) 611 (lLL G b i) [] (fO G (lay, T0, T1, Dd) I J K N) sz k n := by
  have hT0 : gTank lay T0 := gTk hE (R.tt.elim (fun h => Or.inl h.1) (fun h => Or.inr h.1))
  have hT1 : gTank lay T1 := gTk hE (R.tt.elim (fun h => Or.inr h.2) (fun h => Or.inl h.2))
  obtain ⟨r9, b9, g1, g2, g3⟩ := e_isOpen (n := 30000) (by decide) R (xs (i + 1))
  rcases r9 with E9 | v9
  · have g3 : Tt K (thA E9) b9.2 := g3
    refine r_aload_n dL_law_611 rfl ?_
    refine s_arg (kq := 1) hL hi (by decide) (by decide) dL_law_612 dL_law_613 dL_law_615 dL_law_616 dL_law_617 rfl rfl ?_
    refine r_aload_n dL_law_618 rfl ?_
    refine r_cSWs (rest := []) (we_isOpen hs hE hT0 hT1 g1) dL_law_619 wd_896 zL_isOpen wd_897 rfl rfl rfl ⟨Nat.le_of_ble_eq_true rfl, Nat.le_of_ble_eq_true rfl⟩ (Nat.le_of_ble_eq_true rfl) ⟨lk hk rfl, lk hn rfl⟩ (fun sz9 => ?_)
    refine r_widen (k2 := k + 64) (n2 := n + 64) (Nat.add_le_add_left (Nat.le_of_ble_eq_true rfl) _) (Nat.add_le_add_left (Nat.le_of_ble_eq_true rfl) _) ?_
    refine r_istore dL_law_622 (by decide) rfl ?_
    refine r_aload_n dL_law_624 rfl ?_
    refine s_arg (kq := 1) hL hi (by decide) (by decide) dL_law_625 dL_law_626 dL_law_628 dL_law_629 dL_law_630 rfl rfl ?_
    refine r_cV0 (rest := []) (ct_X10_isOpen hs hE g2) dL_law_631 wd_1814 zX10_isOpen wd_1815 wd_1816 rfl rfl rfl (fo10 (hE 153 (by decide))) rfl rfl ⟨Nat.le_of_ble_eq_true rfl, Nat.le_of_ble_eq_true rfl⟩ (Nat.le_of_ble_eq_true rfl) ⟨rfl, rfl⟩ (lkk hk hn) ?_
    refine r_istore dL_law_634 (by decide) rfl ?_
    refine r_aload_n dL_law_636 rfl ?_
    have t9 := g3.t
    refine r_cV0 (rest := []) (ct_X10_thrown (n := 0) hs hE rfl) dL_law_637 wd_1621 zX10_thrown wd_1622 wd_1623 rfl rfl rfl (fo10 (hE 153 (by decide))) rfl rfl ⟨Nat.le_of_ble_eq_true rfl, Nat.le_of_ble_eq_true rfl⟩ (Nat.le_of_ble_eq_true rfl) ⟨rfl, rfl⟩ (lkk hk hn) ?_
    refine r_iload dL_law_640 rfl ?_
    refine r_icmp_eq (tgt := 647) dL_law_642 (by decide) (fun _ => ?_) (fun q => absurd t9 q)
    refine r_iload dL_law_647 rfl ?_
    refine r_if_ne (tgt := 671) dL_law_649 (by decide) (fun _ => ?_) (fun q => absurd q (thA_ne E9))
    refine r_goto (tgt := 4357) dL_law_671 (by decide) ?_
    exact r_mask [true, true, true, true, true, true, false, false, false] rfl (hx _ _ _ _ _ _ _ _ (R.tt' g3))
  · have g3 : v9 = b9.1 ∧ Tt K 0 b9.2 := g3
    refine r_aload_n dL_law_611 rfl ?_
    refine s_arg (kq := 1) hL hi (by decide) (by decide) dL_law_612 dL_law_613 dL_law_615 dL_law_616 dL_law_617 rfl rfl ?_
    refine r_aload_n dL_law_618 rfl ?_
    refine r_cSW1 (rest := []) (wo_isOpen hs hE hT0 hT1 g1) dL_law_619 wd_896 zL_isOpen wd_897 rfl rfl rfl ⟨Nat.le_of_ble_eq_true rfl, Nat.le_of_ble_eq_true rfl⟩ (Nat.le_of_ble_eq_true rfl) ⟨lk hk rfl, lk hn rfl⟩ ?_
    refine r_widen (k2 := k + 64) (n2 := n + 64) (Nat.add_le_add_left (Nat.le_of_ble_eq_true rfl) _) (Nat.add_le_add_left (Nat.le_of_ble_eq_true rfl) _) ?_
    refine r_istore dL_law_622 (by decide) rfl ?_
    refine r_aload_n dL_law_624 rfl ?_
    refine s_arg (kq := 1) hL hi (by decide) (by decide) dL_law_625 dL_law_626 dL_law_628 dL_law_629 dL_law_630 rfl rfl ?_
    refine r_cV0 (rest := []) (ct_X10_isOpen hs hE g2) dL_law_631 wd_1814 zX10_isOpen wd_1815 wd_1816 rfl rfl rfl (fo10 (hE 153 (by decide))) rfl rfl ⟨Nat.le_of_ble_eq_true rfl, Nat.le_of_ble_eq_true rfl⟩ (Nat.le_of_ble_eq_true rfl) ⟨rfl, rfl⟩ (lkk hk hn) ?_
    refine r_istore dL_law_634 (by decide) rfl ?_
    refine r_aload_n dL_law_636 rfl ?_
    have t9 := g3.2.t
    refine r_cV0 (rest := []) (ct_X10_thrown (n := 0) hs hE rfl) dL_law_637 wd_1621 zX10_thrown wd_1622 wd_1623 rfl rfl rfl (fo10 (hE 153 (by decide))) rfl rfl ⟨Nat.le_of_ble_eq_true rfl, Nat.le_of_ble_eq_true rfl⟩ (Nat.le_of_ble_eq_true rfl) ⟨rfl, rfl⟩ (lkk hk hn) ?_
    refine r_iload dL_law_640 rfl ?_
    refine r_icmp_eq (tgt := 647) dL_law_642 (by decide) (fun _ => ?_) (fun q => absurd t9 q)
    refine r_iload dL_law_647 rfl ?_
    refine r_if_ne (tgt := 671) dL_law_649 (by decide) (fun q => absurd rfl q) (fun _ => ?_)
    refine r_aload_n dL_law_652 rfl ?_
    refine r_iconst (v := (0 : Int32)) dL_law_653 (by decide) ?_
    refine a_laldc 0 dL_law_654 (hE 170 (by decide)) (vpc rfl) rfl ?_
    refine r_tl sJ_self ?_
    refine r_iload dL_law_655 rfl ?_
    refine r_if_eq (tgt := 664) dL_law_657 (by decide) (fun z => ?_) (fun z => ?_)
    · refine r_lconst (v := (0 : Int64)) dL_law_664 (by decide) ?_
      refine r_lcmp dL_law_665 ?_
      refine r_ti (y := 0) ((lg_cmp_eq _ _).mpr (if_pos (g3.1.trans z))) ?_
      refine r_if_eq (tgt := 671) dL_law_666 (by decide) (fun _ => ?_) (fun q => absurd rfl q)
      refine r_goto (tgt := 4357) dL_law_671 (by decide) ?_
      exact r_mask [true, true, true, true, true, true, false, false, false] rfl (hx _ _ _ _ _ _ _ _ (R.tt' g3.2))
    · refine r_lconst (v := (1 : Int64)) dL_law_660 (by decide) ?_
      refine r_goto (tgt := 665) dL_law_661 (by decide) ?_
      refine r_lcmp dL_law_665 ?_
      refine r_ti (y := 0) ((lg_cmp_eq _ _).mpr (if_neg (fun q => z (g3.1.symm.trans q)))) ?_
      refine r_if_eq (tgt := 671) dL_law_666 (by decide) (fun _ => ?_) (fun q => absurd rfl q)
      refine r_goto (tgt := 4357) dL_law_671 (by decide) ?_
      exact r_mask [true, true, true, true, true, true, false, false, false] rfl (hx _ _ _ _ _ _ _ _ (R.tt' g3.2))
set_option maxHeartbeats 4000000 in
set_option maxRecDepth 100000 in
theorem lc_sources {G : gG} {b Lx i : Nat} {xs : Nat → Int32} {lay : Nat → Nat × Nat} {T0 T1 : Nat} {Dd : Nat → Nat → UInt64} {I : gI} {J : gJ} {K : gI} {N : gJ} {sz k n : Nat} (hs : G.1.stackTraces = false) (hE : gLay lay) (R : Rel T0 T1 I K) (hL : Lx ≤ 3072) (hi : i + 6 ≤ Lx) (hk : k + 64 ≤ 601024) (hn : n + 64 ≤ 7293034) (hx : lNx G b Lx xs lay i k n) : gAt G mL_law (lQ G b Lx xs) 674 (lLL G b i) [] (fO G (lay, T0, T1, Dd) I J K N) sz k n := by
  have hT0 : gTank lay T0 := gTk hE (R.tt.elim (fun h => Or.inl h.1) (fun h => Or.inr h.1))
  have hT1 : gTank lay T1 := gTk hE (R.tt.elim (fun h => Or.inr h.2) (fun h => Or.inl h.2))
  obtain ⟨a9, b9, g1, g2, g3⟩ := e_sources (n := 30000) R
  refine r_widen (k2 := k + 64) (n2 := n + 64) (Nat.le_add_right _ _) (Nat.le_add_right _ _) ?_
  refine r_aload_n dL_law_674 rfl ?_
  refine r_cV0 (rest := []) (ct_X9_sources hs hE hT0 hT1 g1) dL_law_675 wd_509 zX9_sources wd_510 wd_511 rfl rfl rfl (fo9 (hE 0 (by decide))) rfl rfl ⟨Nat.le_of_ble_eq_true rfl, Nat.le_of_ble_eq_true rfl⟩ (Nat.le_of_ble_eq_true rfl) ⟨rfl, rfl⟩ (lkk hk hn) ?_
  refine r_aload_n dL_law_678 rfl ?_
  refine r_cV0 (rest := [.int a9]) (ct_X10_sources hs hE g2) dL_law_679 wd_1826 zX10_sources wd_1827 wd_1828 rfl rfl rfl (fo10 (hE 153 (by decide))) rfl rfl ⟨Nat.le_of_ble_eq_true rfl, Nat.le_of_ble_eq_true rfl⟩ (Nat.le_of_ble_eq_true rfl) ⟨rfl, rfl⟩ (lkk hk hn) ?_
  refine r_icmp_eq (tgt := 4357) dL_law_682 (by decide) (fun _ => ?_) (fun q => absurd g3.1 q)
  exact r_mask [true, true, true, true, true, true, false, false, false] rfl (hx _ _ _ _ _ _ _ _ (R.tt' g3.2))
set_option maxHeartbeats 4000000 in
set_option maxRecDepth 100000 in
theorem lc_sourceAt {G : gG} {b Lx i : Nat} {xs : Nat → Int32} {lay : Nat → Nat × Nat} {T0 T1 : Nat} {Dd : Nat → Nat → UInt64} {I : gI} {J : gJ} {K : gI} {N : gJ} {sz k n : Nat} (hs : G.1.stackTraces = false) (hE : gLay lay) (R : Rel T0 T1 I K) (hL : Lx ≤ 3072) (hi : i + 6 ≤ Lx) (hk : k + 64 ≤ 601024) (hn : n + 64 ≤ 7293034) (hx : lNx G b Lx xs lay i k n) : gAt G mL_law (lQ G b Lx xs) 687 (lLL G b i) [] (fO G (lay, T0, T1, Dd) I J K N) sz k n := by
  have hT0 : gTank lay T0 := gTk hE (R.tt.elim (fun h => Or.inl h.1) (fun h => Or.inr h.1))
  have hT1 : gTank lay T1 := gTk hE (R.tt.elim (fun h => Or.inr h.2) (fun h => Or.inl h.2))
  obtain ⟨r9, b9, g1, g2, g3⟩ := e_sourceAt (n := 30000) (by decide) R (xs (i + 1)) (xs (i + 2)) (xs (i + 3))
  rcases r9 with E9 | v9
  · have g3 : Tt K (thA E9) b9.2 := g3
    refine r_aload_n dL_law_687 rfl ?_
    refine s_arg (kq := 1) hL hi (by decide) (by decide) dL_law_688 dL_law_689 dL_law_691 dL_law_692 dL_law_693 rfl rfl ?_
    refine s_arg (kq := 2) hL hi (by decide) (by decide) dL_law_694 dL_law_695 dL_law_697 dL_law_698 dL_law_699 rfl rfl ?_
    refine s_arg (kq := 3) hL hi (by decide) (by decide) dL_law_700 dL_law_701 dL_law_703 dL_law_704 dL_law_705 rfl rfl ?_
    refine r_aload_n dL_law_706 rfl ?_
    refine r_cSWs (rest := []) (we_sourceAt hs hE hT0 hT1 g1) dL_law_707 wd_912 zL_sourceAt wd_913 rfl rfl rfl ⟨Nat.le_of_ble_eq_true rfl, Nat.le_of_ble_eq_true rfl⟩ (Nat.le_of_ble_eq_true rfl) ⟨lk hk rfl, lk hn rfl⟩ (fun sz9 => ?_)
    refine r_widen (k2 := k + 64) (n2 := n + 64) (Nat.add_le_add_left (Nat.le_of_ble_eq_true rfl) _) (Nat.add_le_add_left (Nat.le_of_ble_eq_true rfl) _) ?_
    refine r_istore dL_law_710 (by decide) rfl ?_
    refine r_aload_n dL_law_712 rfl ?_
    refine s_arg (kq := 1) hL hi (by decide) (by decide) dL_law_713 dL_law_714 dL_law_716 dL_law_717 dL_law_718 rfl rfl ?_
    refine s_arg (kq := 2) hL hi (by decide) (by decide) dL_law_719 dL_law_720 dL_law_722 dL_law_723 dL_law_724 rfl rfl ?_
    refine s_arg (kq := 3) hL hi (by decide) (by decide) dL_law_725 dL_law_726 dL_law_728 dL_law_729 dL_law_730 rfl rfl ?_
    refine r_cV0 (rest := []) (ct_X10_sourceAt hs hE g2) dL_law_731 wd_1830 zX10_sourceAt wd_1831 wd_1832 rfl rfl rfl (fo10 (hE 153 (by decide))) rfl rfl ⟨Nat.le_of_ble_eq_true rfl, Nat.le_of_ble_eq_true rfl⟩ (Nat.le_of_ble_eq_true rfl) ⟨rfl, rfl⟩ (lkk hk hn) ?_
    refine r_istore dL_law_734 (by decide) rfl ?_
    refine r_aload_n dL_law_736 rfl ?_
    have t9 := g3.t
    refine r_cV0 (rest := []) (ct_X10_thrown (n := 0) hs hE rfl) dL_law_737 wd_1621 zX10_thrown wd_1622 wd_1623 rfl rfl rfl (fo10 (hE 153 (by decide))) rfl rfl ⟨Nat.le_of_ble_eq_true rfl, Nat.le_of_ble_eq_true rfl⟩ (Nat.le_of_ble_eq_true rfl) ⟨rfl, rfl⟩ (lkk hk hn) ?_
    refine r_iload dL_law_740 rfl ?_
    refine r_icmp_eq (tgt := 747) dL_law_742 (by decide) (fun _ => ?_) (fun q => absurd t9 q)
    refine r_iload dL_law_747 rfl ?_
    refine r_if_ne (tgt := 764) dL_law_749 (by decide) (fun _ => ?_) (fun q => absurd q (thA_ne E9))
    refine r_goto (tgt := 4357) dL_law_764 (by decide) ?_
    exact r_mask [true, true, true, true, true, true, false, false, false] rfl (hx _ _ _ _ _ _ _ _ (R.tt' g3))
  · have g3 : v9 = b9.1 ∧ Tt K 0 b9.2 := g3
    refine r_aload_n dL_law_687 rfl ?_
    refine s_arg (kq := 1) hL hi (by decide) (by decide) dL_law_688 dL_law_689 dL_law_691 dL_law_692 dL_law_693 rfl rfl ?_
    refine s_arg (kq := 2) hL hi (by decide) (by decide) dL_law_694 dL_law_695 dL_law_697 dL_law_698 dL_law_699 rfl rfl ?_
    refine s_arg (kq := 3) hL hi (by decide) (by decide) dL_law_700 dL_law_701 dL_law_703 dL_law_704 dL_law_705 rfl rfl ?_
    refine r_aload_n dL_law_706 rfl ?_
    refine r_cSW1 (rest := []) (wo_sourceAt hs hE hT0 hT1 g1) dL_law_707 wd_912 zL_sourceAt wd_913 rfl rfl rfl ⟨Nat.le_of_ble_eq_true rfl, Nat.le_of_ble_eq_true rfl⟩ (Nat.le_of_ble_eq_true rfl) ⟨lk hk rfl, lk hn rfl⟩ ?_
    refine r_widen (k2 := k + 64) (n2 := n + 64) (Nat.add_le_add_left (Nat.le_of_ble_eq_true rfl) _) (Nat.add_le_add_left (Nat.le_of_ble_eq_true rfl) _) ?_
    refine r_istore dL_law_710 (by decide) rfl ?_
    refine r_aload_n dL_law_712 rfl ?_
    refine s_arg (kq := 1) hL hi (by decide) (by decide) dL_law_713 dL_law_714 dL_law_716 dL_law_717 dL_law_718 rfl rfl ?_
    refine s_arg (kq := 2) hL hi (by decide) (by decide) dL_law_719 dL_law_720 dL_law_722 dL_law_723 dL_law_724 rfl rfl ?_
    refine s_arg (kq := 3) hL hi (by decide) (by decide) dL_law_725 dL_law_726 dL_law_728 dL_law_729 dL_law_730 rfl rfl ?_
    refine r_cV0 (rest := []) (ct_X10_sourceAt hs hE g2) dL_law_731 wd_1830 zX10_sourceAt wd_1831 wd_1832 rfl rfl rfl (fo10 (hE 153 (by decide))) rfl rfl ⟨Nat.le_of_ble_eq_true rfl, Nat.le_of_ble_eq_true rfl⟩ (Nat.le_of_ble_eq_true rfl) ⟨rfl, rfl⟩ (lkk hk hn) ?_
    refine r_istore dL_law_734 (by decide) rfl ?_
    refine r_aload_n dL_law_736 rfl ?_
    have t9 := g3.2.t
    refine r_cV0 (rest := []) (ct_X10_thrown (n := 0) hs hE rfl) dL_law_737 wd_1621 zX10_thrown wd_1622 wd_1623 rfl rfl rfl (fo10 (hE 153 (by decide))) rfl rfl ⟨Nat.le_of_ble_eq_true rfl, Nat.le_of_ble_eq_true rfl⟩ (Nat.le_of_ble_eq_true rfl) ⟨rfl, rfl⟩ (lkk hk hn) ?_
    refine r_iload dL_law_740 rfl ?_
    refine r_icmp_eq (tgt := 747) dL_law_742 (by decide) (fun _ => ?_) (fun q => absurd t9 q)
    refine r_iload dL_law_747 rfl ?_
    refine r_if_ne (tgt := 764) dL_law_749 (by decide) (fun q => absurd rfl q) (fun _ => ?_)
    refine r_aload_n dL_law_752 rfl ?_
    refine r_iconst (v := (0 : Int32)) dL_law_753 (by decide) ?_
    refine a_laldc 0 dL_law_754 (hE 170 (by decide)) (vpc rfl) rfl ?_
    refine r_tl sJ_self ?_
    refine r_iload dL_law_755 rfl ?_
    refine r_i2l dL_law_757 ?_
    refine r_lcmp dL_law_758 ?_
    refine r_ti (y := 0) ((lg_cmp_eq _ _).mpr (congrArg Int32.toInt64 g3.1)) ?_
    refine r_if_eq (tgt := 764) dL_law_759 (by decide) (fun _ => ?_) (fun q => absurd rfl q)
    refine r_goto (tgt := 4357) dL_law_764 (by decide) ?_
    exact r_mask [true, true, true, true, true, true, false, false, false] rfl (hx _ _ _ _ _ _ _ _ (R.tt' g3.2))
set_option maxHeartbeats 4000000 in
set_option maxRecDepth 100000 in
theorem lc_property {G : gG} {b Lx i : Nat} {xs : Nat → Int32} {lay : Nat → Nat × Nat} {T0 T1 : Nat} {Dd : Nat → Nat → UInt64} {I : gI} {J : gJ} {K : gI} {N : gJ} {sz k n : Nat} (hs : G.1.stackTraces = false) (hE : gLay lay) (R : Rel T0 T1 I K) (hL : Lx ≤ 3072) (hi : i + 6 ≤ Lx) (hk : k + 64 ≤ 601024) (hn : n + 64 ≤ 7293034) (hx : lNx G b Lx xs lay i k n) : gAt G mL_law (lQ G b Lx xs) 767 (lLL G b i) [] (fO G (lay, T0, T1, Dd) I J K N) sz k n := by
  have hT0 : gTank lay T0 := gTk hE (R.tt.elim (fun h => Or.inl h.1) (fun h => Or.inr h.1))
  have hT1 : gTank lay T1 := gTk hE (R.tt.elim (fun h => Or.inr h.2) (fun h => Or.inl h.2))
  obtain ⟨r9, b9, g1, g2, g3⟩ := e_property (n := 30000) R (xs (i + 1)) (xs (i + 2))
  rcases r9 with E9 | v9
  · have g3 : Tt K (thA E9) b9.2 := g3
    refine r_aload_n dL_law_767 rfl ?_
    refine s_arg (kq := 1) hL hi (by decide) (by decide) dL_law_768 dL_law_769 dL_law_771 dL_law_772 dL_law_773 rfl rfl ?_
    refine s_arg (kq := 2) hL hi (by decide) (by decide) dL_law_774 dL_law_775 dL_law_777 dL_law_778 dL_law_779 rfl rfl ?_
    refine r_aload_n dL_law_780 rfl ?_
    refine r_cSWs (rest := []) (we_property hs hE hT0 hT1 g1) dL_law_781 wd_942 zL_property wd_943 rfl rfl rfl ⟨Nat.le_of_ble_eq_true rfl, Nat.le_of_ble_eq_true rfl⟩ (Nat.le_of_ble_eq_true rfl) ⟨lk hk rfl, lk hn rfl⟩ (fun sz9 => ?_)
    refine r_widen (k2 := k + 64) (n2 := n + 64) (Nat.add_le_add_left (Nat.le_of_ble_eq_true rfl) _) (Nat.add_le_add_left (Nat.le_of_ble_eq_true rfl) _) ?_
    refine r_istore dL_law_784 (by decide) rfl ?_
    refine r_aload_n dL_law_786 rfl ?_
    refine s_arg (kq := 1) hL hi (by decide) (by decide) dL_law_787 dL_law_788 dL_law_790 dL_law_791 dL_law_792 rfl rfl ?_
    refine s_arg (kq := 2) hL hi (by decide) (by decide) dL_law_793 dL_law_794 dL_law_796 dL_law_797 dL_law_798 rfl rfl ?_
    refine r_cV0 (rest := []) (ct_X10_property hs hE g2) dL_law_799 wd_1855 zX10_property wd_1856 wd_1857 rfl rfl rfl (fo10 (hE 153 (by decide))) rfl rfl ⟨Nat.le_of_ble_eq_true rfl, Nat.le_of_ble_eq_true rfl⟩ (Nat.le_of_ble_eq_true rfl) ⟨rfl, rfl⟩ (lkk hk hn) ?_
    refine r_istore dL_law_802 (by decide) rfl ?_
    refine r_aload_n dL_law_804 rfl ?_
    have t9 := g3.t
    refine r_cV0 (rest := []) (ct_X10_thrown (n := 0) hs hE rfl) dL_law_805 wd_1621 zX10_thrown wd_1622 wd_1623 rfl rfl rfl (fo10 (hE 153 (by decide))) rfl rfl ⟨Nat.le_of_ble_eq_true rfl, Nat.le_of_ble_eq_true rfl⟩ (Nat.le_of_ble_eq_true rfl) ⟨rfl, rfl⟩ (lkk hk hn) ?_
    refine r_iload dL_law_808 rfl ?_
    refine r_icmp_eq (tgt := 815) dL_law_810 (by decide) (fun _ => ?_) (fun q => absurd t9 q)
    refine r_iload dL_law_815 rfl ?_
    refine r_if_ne (tgt := 832) dL_law_817 (by decide) (fun _ => ?_) (fun q => absurd q (thA_ne E9))
    refine r_goto (tgt := 4357) dL_law_832 (by decide) ?_
    exact r_mask [true, true, true, true, true, true, false, false, false] rfl (hx _ _ _ _ _ _ _ _ (R.tt' g3))
  · have g3 : v9 = b9.1 ∧ Tt K 0 b9.2 := g3
    refine r_aload_n dL_law_767 rfl ?_
    refine s_arg (kq := 1) hL hi (by decide) (by decide) dL_law_768 dL_law_769 dL_law_771 dL_law_772 dL_law_773 rfl rfl ?_
    refine s_arg (kq := 2) hL hi (by decide) (by decide) dL_law_774 dL_law_775 dL_law_777 dL_law_778 dL_law_779 rfl rfl ?_
    refine r_aload_n dL_law_780 rfl ?_
    refine r_cSW1 (rest := []) (wo_property hs hE hT0 hT1 g1) dL_law_781 wd_942 zL_property wd_943 rfl rfl rfl ⟨Nat.le_of_ble_eq_true rfl, Nat.le_of_ble_eq_true rfl⟩ (Nat.le_of_ble_eq_true rfl) ⟨lk hk rfl, lk hn rfl⟩ ?_
    refine r_widen (k2 := k + 64) (n2 := n + 64) (Nat.add_le_add_left (Nat.le_of_ble_eq_true rfl) _) (Nat.add_le_add_left (Nat.le_of_ble_eq_true rfl) _) ?_
    refine r_istore dL_law_784 (by decide) rfl ?_
    refine r_aload_n dL_law_786 rfl ?_
    refine s_arg (kq := 1) hL hi (by decide) (by decide) dL_law_787 dL_law_788 dL_law_790 dL_law_791 dL_law_792 rfl rfl ?_
    refine s_arg (kq := 2) hL hi (by decide) (by decide) dL_law_793 dL_law_794 dL_law_796 dL_law_797 dL_law_798 rfl rfl ?_
    refine r_cV0 (rest := []) (ct_X10_property hs hE g2) dL_law_799 wd_1855 zX10_property wd_1856 wd_1857 rfl rfl rfl (fo10 (hE 153 (by decide))) rfl rfl ⟨Nat.le_of_ble_eq_true rfl, Nat.le_of_ble_eq_true rfl⟩ (Nat.le_of_ble_eq_true rfl) ⟨rfl, rfl⟩ (lkk hk hn) ?_
    refine r_istore dL_law_802 (by decide) rfl ?_
    refine r_aload_n dL_law_804 rfl ?_
    have t9 := g3.2.t
    refine r_cV0 (rest := []) (ct_X10_thrown (n := 0) hs hE rfl) dL_law_805 wd_1621 zX10_thrown wd_1622 wd_1623 rfl rfl rfl (fo10 (hE 153 (by decide))) rfl rfl ⟨Nat.le_of_ble_eq_true rfl, Nat.le_of_ble_eq_true rfl⟩ (Nat.le_of_ble_eq_true rfl) ⟨rfl, rfl⟩ (lkk hk hn) ?_
    refine r_iload dL_law_808 rfl ?_
    refine r_icmp_eq (tgt := 815) dL_law_810 (by decide) (fun _ => ?_) (fun q => absurd t9 q)
    refine r_iload dL_law_815 rfl ?_
    refine r_if_ne (tgt := 832) dL_law_817 (by decide) (fun q => absurd rfl q) (fun _ => ?_)
    refine r_aload_n dL_law_820 rfl ?_
    refine r_iconst (v := (0 : Int32)) dL_law_821 (by decide) ?_
    refine a_laldc 0 dL_law_822 (hE 170 (by decide)) (vpc rfl) rfl ?_
    refine r_tl sJ_self ?_
    refine r_iload dL_law_823 rfl ?_
    refine r_i2l dL_law_825 ?_
    refine r_lcmp dL_law_826 ?_
    refine r_ti (y := 0) ((lg_cmp_eq _ _).mpr (congrArg Int32.toInt64 g3.1)) ?_
    refine r_if_eq (tgt := 832) dL_law_827 (by decide) (fun _ => ?_) (fun q => absurd rfl q)
    refine r_goto (tgt := 4357) dL_law_832 (by decide) ?_
    exact r_mask [true, true, true, true, true, true, false, false, false] rfl (hx _ _ _ _ _ _ _ _ (R.tt' g3.2))
set_option maxHeartbeats 4000000 in
set_option maxRecDepth 100000 in
theorem lc_isOn {G : gG} {b Lx i : Nat} {xs : Nat → Int32} {lay : Nat → Nat × Nat} {T0 T1 : Nat} {Dd : Nat → Nat → UInt64} {I : gI} {J : gJ} {K : gI} {N : gJ} {sz k n : Nat} (hs : G.1.stackTraces = false) (hE : gLay lay) (R : Rel T0 T1 I K) (hL : Lx ≤ 3072) (hi : i + 6 ≤ Lx) (hk : k + 64 ≤ 601024) (hn : n + 64 ≤ 7293034) (hx : lNx G b Lx xs lay i k n) : gAt G mL_law (lQ G b Lx xs) 835 (lLL G b i) [] (fO G (lay, T0, T1, Dd) I J K N) sz k n := by
  have hT0 : gTank lay T0 := gTk hE (R.tt.elim (fun h => Or.inl h.1) (fun h => Or.inr h.1))
  have hT1 : gTank lay T1 := gTk hE (R.tt.elim (fun h => Or.inr h.2) (fun h => Or.inl h.2))
  obtain ⟨r9, b9, g1, g2, g3⟩ := e_isOn (n := 30000) (by decide) R (xs (i + 1))
  rcases r9 with E9 | v9
  · have g3 : Tt K (thA E9) b9.2 := g3
    refine r_aload_n dL_law_835 rfl ?_
    refine s_arg (kq := 1) hL hi (by decide) (by decide) dL_law_836 dL_law_837 dL_law_839 dL_law_840 dL_law_841 rfl rfl ?_
    refine r_aload_n dL_law_842 rfl ?_
    refine r_cSWs (rest := []) (we_isOn hs hE hT0 hT1 g1) dL_law_843 wd_949 zL_isOn wd_950 rfl rfl rfl ⟨Nat.le_of_ble_eq_true rfl, Nat.le_of_ble_eq_true rfl⟩ (Nat.le_of_ble_eq_true rfl) ⟨lk hk rfl, lk hn rfl⟩ (fun sz9 => ?_)
    refine r_widen (k2 := k + 64) (n2 := n + 64) (Nat.add_le_add_left (Nat.le_of_ble_eq_true rfl) _) (Nat.add_le_add_left (Nat.le_of_ble_eq_true rfl) _) ?_
    refine r_istore dL_law_846 (by decide) rfl ?_
    refine r_aload_n dL_law_848 rfl ?_
    refine s_arg (kq := 1) hL hi (by decide) (by decide) dL_law_849 dL_law_850 dL_law_852 dL_law_853 dL_law_854 rfl rfl ?_
    refine r_cV0 (rest := []) (ct_X10_isOn hs hE g2) dL_law_855 wd_1859 zX10_isOn wd_1860 wd_1861 rfl rfl rfl (fo10 (hE 153 (by decide))) rfl rfl ⟨Nat.le_of_ble_eq_true rfl, Nat.le_of_ble_eq_true rfl⟩ (Nat.le_of_ble_eq_true rfl) ⟨rfl, rfl⟩ (lkk hk hn) ?_
    refine r_istore dL_law_858 (by decide) rfl ?_
    refine r_aload_n dL_law_860 rfl ?_
    have t9 := g3.t
    refine r_cV0 (rest := []) (ct_X10_thrown (n := 0) hs hE rfl) dL_law_861 wd_1621 zX10_thrown wd_1622 wd_1623 rfl rfl rfl (fo10 (hE 153 (by decide))) rfl rfl ⟨Nat.le_of_ble_eq_true rfl, Nat.le_of_ble_eq_true rfl⟩ (Nat.le_of_ble_eq_true rfl) ⟨rfl, rfl⟩ (lkk hk hn) ?_
    refine r_iload dL_law_864 rfl ?_
    refine r_icmp_eq (tgt := 871) dL_law_866 (by decide) (fun _ => ?_) (fun q => absurd t9 q)
    refine r_iload dL_law_871 rfl ?_
    refine r_if_ne (tgt := 895) dL_law_873 (by decide) (fun _ => ?_) (fun q => absurd q (thA_ne E9))
    refine r_goto (tgt := 4357) dL_law_895 (by decide) ?_
    exact r_mask [true, true, true, true, true, true, false, false, false] rfl (hx _ _ _ _ _ _ _ _ (R.tt' g3))
  · have g3 : v9 = b9.1 ∧ Tt K 0 b9.2 := g3
    refine r_aload_n dL_law_835 rfl ?_
    refine s_arg (kq := 1) hL hi (by decide) (by decide) dL_law_836 dL_law_837 dL_law_839 dL_law_840 dL_law_841 rfl rfl ?_
    refine r_aload_n dL_law_842 rfl ?_
    refine r_cSW1 (rest := []) (wo_isOn hs hE hT0 hT1 g1) dL_law_843 wd_949 zL_isOn wd_950 rfl rfl rfl ⟨Nat.le_of_ble_eq_true rfl, Nat.le_of_ble_eq_true rfl⟩ (Nat.le_of_ble_eq_true rfl) ⟨lk hk rfl, lk hn rfl⟩ ?_
    refine r_widen (k2 := k + 64) (n2 := n + 64) (Nat.add_le_add_left (Nat.le_of_ble_eq_true rfl) _) (Nat.add_le_add_left (Nat.le_of_ble_eq_true rfl) _) ?_
    refine r_istore dL_law_846 (by decide) rfl ?_
    refine r_aload_n dL_law_848 rfl ?_
    refine s_arg (kq := 1) hL hi (by decide) (by decide) dL_law_849 dL_law_850 dL_law_852 dL_law_853 dL_law_854 rfl rfl ?_
    refine r_cV0 (rest := []) (ct_X10_isOn hs hE g2) dL_law_855 wd_1859 zX10_isOn wd_1860 wd_1861 rfl rfl rfl (fo10 (hE 153 (by decide))) rfl rfl ⟨Nat.le_of_ble_eq_true rfl, Nat.le_of_ble_eq_true rfl⟩ (Nat.le_of_ble_eq_true rfl) ⟨rfl, rfl⟩ (lkk hk hn) ?_
    refine r_istore dL_law_858 (by decide) rfl ?_
    refine r_aload_n dL_law_860 rfl ?_
    have t9 := g3.2.t
    refine r_cV0 (rest := []) (ct_X10_thrown (n := 0) hs hE rfl) dL_law_861 wd_1621 zX10_thrown wd_1622 wd_1623 rfl rfl rfl (fo10 (hE 153 (by decide))) rfl rfl ⟨Nat.le_of_ble_eq_true rfl, Nat.le_of_ble_eq_true rfl⟩ (Nat.le_of_ble_eq_true rfl) ⟨rfl, rfl⟩ (lkk hk hn) ?_
    refine r_iload dL_law_864 rfl ?_
    refine r_icmp_eq (tgt := 871) dL_law_866 (by decide) (fun _ => ?_) (fun q => absurd t9 q)
    refine r_iload dL_law_871 rfl ?_
    refine r_if_ne (tgt := 895) dL_law_873 (by decide) (fun q => absurd rfl q) (fun _ => ?_)
    refine r_aload_n dL_law_876 rfl ?_
    refine r_iconst (v := (0 : Int32)) dL_law_877 (by decide) ?_
    refine a_laldc 0 dL_law_878 (hE 170 (by decide)) (vpc rfl) rfl ?_
    refine r_tl sJ_self ?_
    refine r_iload dL_law_879 rfl ?_
    refine r_if_eq (tgt := 888) dL_law_881 (by decide) (fun z => ?_) (fun z => ?_)
    · refine r_lconst (v := (0 : Int64)) dL_law_888 (by decide) ?_
      refine r_lcmp dL_law_889 ?_
      refine r_ti (y := 0) ((lg_cmp_eq _ _).mpr (if_pos (g3.1.trans z))) ?_
      refine r_if_eq (tgt := 895) dL_law_890 (by decide) (fun _ => ?_) (fun q => absurd rfl q)
      refine r_goto (tgt := 4357) dL_law_895 (by decide) ?_
      exact r_mask [true, true, true, true, true, true, false, false, false] rfl (hx _ _ _ _ _ _ _ _ (R.tt' g3.2))
    · refine r_lconst (v := (1 : Int64)) dL_law_884 (by decide) ?_
      refine r_goto (tgt := 889) dL_law_885 (by decide) ?_
      refine r_lcmp dL_law_889 ?_
      refine r_ti (y := 0) ((lg_cmp_eq _ _).mpr (if_neg (fun q => z (g3.1.symm.trans q)))) ?_
      refine r_if_eq (tgt := 895) dL_law_890 (by decide) (fun _ => ?_) (fun q => absurd rfl q)
      refine r_goto (tgt := 4357) dL_law_895 (by decide) ?_
      exact r_mask [true, true, true, true, true, true, false, false, false] rfl (hx _ _ _ _ _ _ _ _ (R.tt' g3.2))
set_option maxHeartbeats 4000000 in
set_option maxRecDepth 100000 in
theorem lc_amplitude {G : gG} {b Lx i : Nat} {xs : Nat → Int32} {lay : Nat → Nat × Nat} {T0 T1 : Nat} {Dd : Nat → Nat → UInt64} {I : gI} {J : gJ} {K : gI} {N : gJ} {sz k n : Nat} (hs : G.1.stackTraces = false) (hE : gLay lay) (R : Rel T0 T1 I K) (hL : Lx ≤ 3072) (hi : i + 6 ≤ Lx) (hk : k + 64 ≤ 601024) (hn : n + 64 ≤ 7293034) (hx : lNx G b Lx xs lay i k n) : gAt G mL_law (lQ G b Lx xs) 898 (lLL G b i) [] (fO G (lay, T0, T1, Dd) I J K N) sz k n := by
  have hT0 : gTank lay T0 := gTk hE (R.tt.elim (fun h => Or.inl h.1) (fun h => Or.inr h.1))
  have hT1 : gTank lay T1 := gTk hE (R.tt.elim (fun h => Or.inr h.2) (fun h => Or.inl h.2))
  obtain ⟨r9, b9, g1, g2, g3⟩ := e_amplitude (n := 30000) (by decide) R (xs (i + 1)) (xs (i + 2))
  rcases r9 with E9 | v9
  · have g3 : Tt K (thA E9) b9.2 := g3
    refine r_aload_n dL_law_898 rfl ?_
    refine s_arg (kq := 1) hL hi (by decide) (by decide) dL_law_899 dL_law_900 dL_law_902 dL_law_903 dL_law_904 rfl rfl ?_
    refine s_arg (kq := 2) hL hi (by decide) (by decide) dL_law_905 dL_law_906 dL_law_908 dL_law_909 dL_law_910 rfl rfl ?_
    refine r_aload_n dL_law_911 rfl ?_
    refine r_cSWs (rest := []) (we_amplitude hs hE hT0 hT1 g1) dL_law_912 wd_956 zL_amplitude wd_957 rfl rfl rfl ⟨Nat.le_of_ble_eq_true rfl, Nat.le_of_ble_eq_true rfl⟩ (Nat.le_of_ble_eq_true rfl) ⟨lk hk rfl, lk hn rfl⟩ (fun sz9 => ?_)
    refine r_widen (k2 := k + 64) (n2 := n + 64) (Nat.add_le_add_left (Nat.le_of_ble_eq_true rfl) _) (Nat.add_le_add_left (Nat.le_of_ble_eq_true rfl) _) ?_
    refine r_istore dL_law_915 (by decide) rfl ?_
    refine r_aload_n dL_law_917 rfl ?_
    refine s_arg (kq := 1) hL hi (by decide) (by decide) dL_law_918 dL_law_919 dL_law_921 dL_law_922 dL_law_923 rfl rfl ?_
    refine s_arg (kq := 2) hL hi (by decide) (by decide) dL_law_924 dL_law_925 dL_law_927 dL_law_928 dL_law_929 rfl rfl ?_
    refine r_cV0 (rest := []) (ct_X10_amplitude hs hE g2) dL_law_930 wd_1863 zX10_amplitude wd_1864 wd_1865 rfl rfl rfl (fo10 (hE 153 (by decide))) rfl rfl ⟨Nat.le_of_ble_eq_true rfl, Nat.le_of_ble_eq_true rfl⟩ (Nat.le_of_ble_eq_true rfl) ⟨rfl, rfl⟩ (lkk hk hn) ?_
    refine r_istore dL_law_933 (by decide) rfl ?_
    refine r_aload_n dL_law_935 rfl ?_
    have t9 := g3.t
    refine r_cV0 (rest := []) (ct_X10_thrown (n := 0) hs hE rfl) dL_law_936 wd_1621 zX10_thrown wd_1622 wd_1623 rfl rfl rfl (fo10 (hE 153 (by decide))) rfl rfl ⟨Nat.le_of_ble_eq_true rfl, Nat.le_of_ble_eq_true rfl⟩ (Nat.le_of_ble_eq_true rfl) ⟨rfl, rfl⟩ (lkk hk hn) ?_
    refine r_iload dL_law_939 rfl ?_
    refine r_icmp_eq (tgt := 946) dL_law_941 (by decide) (fun _ => ?_) (fun q => absurd t9 q)
    refine r_iload dL_law_946 rfl ?_
    refine r_if_ne (tgt := 963) dL_law_948 (by decide) (fun _ => ?_) (fun q => absurd q (thA_ne E9))
    refine r_goto (tgt := 4357) dL_law_963 (by decide) ?_
    exact r_mask [true, true, true, true, true, true, false, false, false] rfl (hx _ _ _ _ _ _ _ _ (R.tt' g3))
  · have g3 : v9 = b9.1 ∧ Tt K 0 b9.2 := g3
    refine r_aload_n dL_law_898 rfl ?_
    refine s_arg (kq := 1) hL hi (by decide) (by decide) dL_law_899 dL_law_900 dL_law_902 dL_law_903 dL_law_904 rfl rfl ?_
    refine s_arg (kq := 2) hL hi (by decide) (by decide) dL_law_905 dL_law_906 dL_law_908 dL_law_909 dL_law_910 rfl rfl ?_
    refine r_aload_n dL_law_911 rfl ?_
    refine r_cSW1 (rest := []) (wo_amplitude hs hE hT0 hT1 g1) dL_law_912 wd_956 zL_amplitude wd_957 rfl rfl rfl ⟨Nat.le_of_ble_eq_true rfl, Nat.le_of_ble_eq_true rfl⟩ (Nat.le_of_ble_eq_true rfl) ⟨lk hk rfl, lk hn rfl⟩ ?_
    refine r_widen (k2 := k + 64) (n2 := n + 64) (Nat.add_le_add_left (Nat.le_of_ble_eq_true rfl) _) (Nat.add_le_add_left (Nat.le_of_ble_eq_true rfl) _) ?_
    refine r_istore dL_law_915 (by decide) rfl ?_
    refine r_aload_n dL_law_917 rfl ?_
    refine s_arg (kq := 1) hL hi (by decide) (by decide) dL_law_918 dL_law_919 dL_law_921 dL_law_922 dL_law_923 rfl rfl ?_
    refine s_arg (kq := 2) hL hi (by decide) (by decide) dL_law_924 dL_law_925 dL_law_927 dL_law_928 dL_law_929 rfl rfl ?_
    refine r_cV0 (rest := []) (ct_X10_amplitude hs hE g2) dL_law_930 wd_1863 zX10_amplitude wd_1864 wd_1865 rfl rfl rfl (fo10 (hE 153 (by decide))) rfl rfl ⟨Nat.le_of_ble_eq_true rfl, Nat.le_of_ble_eq_true rfl⟩ (Nat.le_of_ble_eq_true rfl) ⟨rfl, rfl⟩ (lkk hk hn) ?_
    refine r_istore dL_law_933 (by decide) rfl ?_
    refine r_aload_n dL_law_935 rfl ?_
    have t9 := g3.2.t
    refine r_cV0 (rest := []) (ct_X10_thrown (n := 0) hs hE rfl) dL_law_936 wd_1621 zX10_thrown wd_1622 wd_1623 rfl rfl rfl (fo10 (hE 153 (by decide))) rfl rfl ⟨Nat.le_of_ble_eq_true rfl, Nat.le_of_ble_eq_true rfl⟩ (Nat.le_of_ble_eq_true rfl) ⟨rfl, rfl⟩ (lkk hk hn) ?_
    refine r_iload dL_law_939 rfl ?_
    refine r_icmp_eq (tgt := 946) dL_law_941 (by decide) (fun _ => ?_) (fun q => absurd t9 q)
    refine r_iload dL_law_946 rfl ?_
    refine r_if_ne (tgt := 963) dL_law_948 (by decide) (fun q => absurd rfl q) (fun _ => ?_)
    refine r_aload_n dL_law_951 rfl ?_
    refine r_iconst (v := (0 : Int32)) dL_law_952 (by decide) ?_
    refine a_laldc 0 dL_law_953 (hE 170 (by decide)) (vpc rfl) rfl ?_
    refine r_tl sJ_self ?_
    refine r_iload dL_law_954 rfl ?_
    refine r_i2l dL_law_956 ?_
    refine r_lcmp dL_law_957 ?_
    refine r_ti (y := 0) ((lg_cmp_eq _ _).mpr (congrArg Int32.toInt64 g3.1)) ?_
    refine r_if_eq (tgt := 963) dL_law_958 (by decide) (fun _ => ?_) (fun q => absurd rfl q)
    refine r_goto (tgt := 4357) dL_law_963 (by decide) ?_
    exact r_mask [true, true, true, true, true, true, false, false, false] rfl (hx _ _ _ _ _ _ _ _ (R.tt' g3.2))
set_option maxHeartbeats 4000000 in
set_option maxRecDepth 100000 in
theorem lc_sine {G : gG} {b Lx i : Nat} {xs : Nat → Int32} {lay : Nat → Nat × Nat} {T0 T1 : Nat} {Dd : Nat → Nat → UInt64} {I : gI} {J : gJ} {K : gI} {N : gJ} {sz k n : Nat} (hs : G.1.stackTraces = false) (hE : gLay lay) (R : Rel T0 T1 I K) (hL : Lx ≤ 3072) (hi : i + 6 ≤ Lx) (hk : k + 64 ≤ 601024) (hn : n + 64 ≤ 7293034) (hx : lNx G b Lx xs lay i k n) : gAt G mL_law (lQ G b Lx xs) 966 (lLL G b i) [] (fO G (lay, T0, T1, Dd) I J K N) sz k n := by
  have hT0 : gTank lay T0 := gTk hE (R.tt.elim (fun h => Or.inl h.1) (fun h => Or.inr h.1))
  have hT1 : gTank lay T1 := gTk hE (R.tt.elim (fun h => Or.inr h.2) (fun h => Or.inl h.2))
  obtain ⟨r9, b9, g1, g2, g3⟩ := e_sine (n := 30000) R (xs (i + 1))
  rcases r9 with E9 | v9
  · have g3 : Tt K (thC E9) b9.2 := g3
    refine r_aload_n dL_law_966 rfl ?_
    refine s_arg (kq := 1) hL hi (by decide) (by decide) dL_law_967 dL_law_968 dL_law_970 dL_law_971 dL_law_972 rfl rfl ?_
    refine r_aload_n dL_law_973 rfl ?_
    refine r_cSWs (rest := []) (we_sine hs hE hT0 hT1 g1) dL_law_974 wd_968 zL_sine wd_969 rfl rfl rfl ⟨Nat.le_of_ble_eq_true rfl, Nat.le_of_ble_eq_true rfl⟩ (Nat.le_of_ble_eq_true rfl) ⟨lk hk rfl, lk hn rfl⟩ (fun sz9 => ?_)
    refine r_widen (k2 := k + 64) (n2 := n + 64) (Nat.add_le_add_left (Nat.le_of_ble_eq_true rfl) _) (Nat.add_le_add_left (Nat.le_of_ble_eq_true rfl) _) ?_
    refine r_istore dL_law_977 (by decide) rfl ?_
    refine r_aload_n dL_law_979 rfl ?_
    refine s_arg (kq := 1) hL hi (by decide) (by decide) dL_law_980 dL_law_981 dL_law_983 dL_law_984 dL_law_985 rfl rfl ?_
    refine r_cV0 (rest := []) (ct_X10_sine hs hE g2) dL_law_986 wd_1875 zX10_sine wd_1876 wd_1877 rfl rfl rfl (fo10 (hE 153 (by decide))) rfl rfl ⟨Nat.le_of_ble_eq_true rfl, Nat.le_of_ble_eq_true rfl⟩ (Nat.le_of_ble_eq_true rfl) ⟨rfl, rfl⟩ (lkk hk hn) ?_
    refine r_istore dL_law_989 (by decide) rfl ?_
    refine r_aload_n dL_law_991 rfl ?_
    have t9 := g3.t
    refine r_cV0 (rest := []) (ct_X10_thrown (n := 0) hs hE rfl) dL_law_992 wd_1621 zX10_thrown wd_1622 wd_1623 rfl rfl rfl (fo10 (hE 153 (by decide))) rfl rfl ⟨Nat.le_of_ble_eq_true rfl, Nat.le_of_ble_eq_true rfl⟩ (Nat.le_of_ble_eq_true rfl) ⟨rfl, rfl⟩ (lkk hk hn) ?_
    refine r_iload dL_law_995 rfl ?_
    refine r_icmp_eq (tgt := 1002) dL_law_997 (by decide) (fun _ => ?_) (fun q => absurd t9 q)
    refine r_iload dL_law_1002 rfl ?_
    refine r_if_ne (tgt := 1019) dL_law_1004 (by decide) (fun _ => ?_) (fun q => absurd q (thC_ne E9))
    refine r_goto (tgt := 4357) dL_law_1019 (by decide) ?_
    exact r_mask [true, true, true, true, true, true, false, false, false] rfl (hx _ _ _ _ _ _ _ _ (R.tt' g3))
  · have g3 : v9 = b9.1 ∧ Tt K 0 b9.2 := g3
    refine r_aload_n dL_law_966 rfl ?_
    refine s_arg (kq := 1) hL hi (by decide) (by decide) dL_law_967 dL_law_968 dL_law_970 dL_law_971 dL_law_972 rfl rfl ?_
    refine r_aload_n dL_law_973 rfl ?_
    refine r_cSW1 (rest := []) (wo_sine hs hE hT0 hT1 g1) dL_law_974 wd_968 zL_sine wd_969 rfl rfl rfl ⟨Nat.le_of_ble_eq_true rfl, Nat.le_of_ble_eq_true rfl⟩ (Nat.le_of_ble_eq_true rfl) ⟨lk hk rfl, lk hn rfl⟩ ?_
    refine r_widen (k2 := k + 64) (n2 := n + 64) (Nat.add_le_add_left (Nat.le_of_ble_eq_true rfl) _) (Nat.add_le_add_left (Nat.le_of_ble_eq_true rfl) _) ?_
    refine r_istore dL_law_977 (by decide) rfl ?_
    refine r_aload_n dL_law_979 rfl ?_
    refine s_arg (kq := 1) hL hi (by decide) (by decide) dL_law_980 dL_law_981 dL_law_983 dL_law_984 dL_law_985 rfl rfl ?_
    refine r_cV0 (rest := []) (ct_X10_sine hs hE g2) dL_law_986 wd_1875 zX10_sine wd_1876 wd_1877 rfl rfl rfl (fo10 (hE 153 (by decide))) rfl rfl ⟨Nat.le_of_ble_eq_true rfl, Nat.le_of_ble_eq_true rfl⟩ (Nat.le_of_ble_eq_true rfl) ⟨rfl, rfl⟩ (lkk hk hn) ?_
    refine r_istore dL_law_989 (by decide) rfl ?_
    refine r_aload_n dL_law_991 rfl ?_
    have t9 := g3.2.t
    refine r_cV0 (rest := []) (ct_X10_thrown (n := 0) hs hE rfl) dL_law_992 wd_1621 zX10_thrown wd_1622 wd_1623 rfl rfl rfl (fo10 (hE 153 (by decide))) rfl rfl ⟨Nat.le_of_ble_eq_true rfl, Nat.le_of_ble_eq_true rfl⟩ (Nat.le_of_ble_eq_true rfl) ⟨rfl, rfl⟩ (lkk hk hn) ?_
    refine r_iload dL_law_995 rfl ?_
    refine r_icmp_eq (tgt := 1002) dL_law_997 (by decide) (fun _ => ?_) (fun q => absurd t9 q)
    refine r_iload dL_law_1002 rfl ?_
    refine r_if_ne (tgt := 1019) dL_law_1004 (by decide) (fun q => absurd rfl q) (fun _ => ?_)
    refine r_aload_n dL_law_1007 rfl ?_
    refine r_iconst (v := (0 : Int32)) dL_law_1008 (by decide) ?_
    refine a_laldc 0 dL_law_1009 (hE 170 (by decide)) (vpc rfl) rfl ?_
    refine r_tl sJ_self ?_
    refine r_iload dL_law_1010 rfl ?_
    refine r_i2l dL_law_1012 ?_
    refine r_lcmp dL_law_1013 ?_
    refine r_ti (y := 0) ((lg_cmp_eq _ _).mpr (congrArg Int32.toInt64 g3.1)) ?_
    refine r_if_eq (tgt := 1019) dL_law_1014 (by decide) (fun _ => ?_) (fun q => absurd rfl q)
    refine r_goto (tgt := 4357) dL_law_1019 (by decide) ?_
    exact r_mask [true, true, true, true, true, true, false, false, false] rfl (hx _ _ _ _ _ _ _ _ (R.tt' g3.2))
