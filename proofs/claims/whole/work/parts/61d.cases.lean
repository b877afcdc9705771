/-! the cases of the law -/
set_option maxHeartbeats 4000000 in
set_option maxRecDepth 100000 in
theorem lc_bestPhase {G : gG} {b Lx i : Nat} {xs : Nat → Int32} {lay : Nat → Nat × Nat} {T0 T1 : Nat} {Dd : Nat → Nat → UInt64} {I : gI} {J : gJ} {K : gI} {N : gJ} {sz k n : Nat} (hs : G.1.stackTraces = false) (hE : gLay lay) (R : Rel T0 T1 I K) (hL : Lx ≤ 3072) (hi : i + 6 ≤ Lx) (hk : k + 64 ≤ 601024) (hn : n + 64 ≤ 7293034) (hx : lNx G b Lx xs lay i k n) : gAt G mL_law (lQ G b Lx xs) 3327 (lLL G b i) [] (fO G (lay, T0, T1, Dd) I J K N) sz k n := by
  have hT0 : gTank lay T0 := gTk hE (R.tt.elim (fun h => Or.inl h.1) (fun h => Or.inr h.1))
  have hT1 : gTank lay T1 := gTk hE (R.tt.elim (fun h => Or.inr h.2) (fun h => Or.inl h.2))
  obtain ⟨r9, b9, g1, g2, g3⟩ := e_bestPhase (n := 30000) (by decide) R (xs (i + 1)) (xs (i + 2)) (xs (i + 3)) (xs (i + 4))
  rcases r9 with E9 | v9
  · have g3 : Tt K (thA E9) b9.2 := g3
    refine r_aload_n dL_law_3327 rfl ?_
    refine s_arg (kq := 1) hL hi (by decide) (by decide) dL_law_3328 dL_law_3329 dL_law_3331 dL_law_3332 dL_law_3333 rfl rfl ?_
    refine s_arg (kq := 2) hL hi (by decide) (by decide) dL_law_3334 dL_law_3335 dL_law_3337 dL_law_3338 dL_law_3339 rfl rfl ?_
    refine s_arg (kq := 3) hL hi (by decide) (by decide) dL_law_3340 dL_law_3341 dL_law_3343 dL_law_3344 dL_law_3345 rfl rfl ?_
    refine s_arg (kq := 4) hL hi (by decide) (by decide) dL_law_3346 dL_law_3347 dL_law_3349 dL_law_3350 dL_law_3351 rfl rfl ?_
    refine r_aload_n dL_law_3352 rfl ?_
    refine r_cSWs (rest := []) (we_bestPhase hs hE hT0 hT1 g1) dL_law_3353 wd_1387 zL_bestPhase wd_1388 rfl rfl rfl ⟨Nat.le_of_ble_eq_true rfl, Nat.le_of_ble_eq_true rfl⟩ (Nat.le_of_ble_eq_true rfl) ⟨lk hk rfl, lk hn rfl⟩ (fun sz9 => ?_)
    refine r_widen (k2 := k + 64) (n2 := n + 64) (Nat.add_le_add_left (Nat.le_of_ble_eq_true rfl) _) (Nat.add_le_add_left (Nat.le_of_ble_eq_true rfl) _) ?_
    refine r_istore dL_law_3356 (by decide) rfl ?_
    refine r_aload_n dL_law_3358 rfl ?_
    refine s_arg (kq := 1) hL hi (by decide) (by decide) dL_law_3359 dL_law_3360 dL_law_3362 dL_law_3363 dL_law_3364 rfl rfl ?_
    refine s_arg (kq := 2) hL hi (by decide) (by decide) dL_law_3365 dL_law_3366 dL_law_3368 dL_law_3369 dL_law_3370 rfl rfl ?_
    refine s_arg (kq := 3) hL hi (by decide) (by decide) dL_law_3371 dL_law_3372 dL_law_3374 dL_law_3375 dL_law_3376 rfl rfl ?_
    refine s_arg (kq := 4) hL hi (by decide) (by decide) dL_law_3377 dL_law_3378 dL_law_3380 dL_law_3381 dL_law_3382 rfl rfl ?_
    refine r_cV0 (rest := []) (ct_X10_bestPhase hs hE g2) dL_law_3383 wd_2151 zX10_bestPhase wd_2152 wd_2153 rfl rfl rfl (fo10 (hE 153 (by decide))) rfl rfl ⟨Nat.le_of_ble_eq_true rfl, Nat.le_of_ble_eq_true rfl⟩ (Nat.le_of_ble_eq_true rfl) ⟨rfl, rfl⟩ (lkk hk hn) ?_
    refine r_istore dL_law_3386 (by decide) rfl ?_
    refine r_aload_n dL_law_3388 rfl ?_
    have t9 := g3.t
    refine r_cV0 (rest := []) (ct_X10_thrown (n := 0) hs hE rfl) dL_law_3389 wd_1621 zX10_thrown wd_1622 wd_1623 rfl rfl rfl (fo10 (hE 153 (by decide))) rfl rfl ⟨Nat.le_of_ble_eq_true rfl, Nat.le_of_ble_eq_true rfl⟩ (Nat.le_of_ble_eq_true rfl) ⟨rfl, rfl⟩ (lkk hk hn) ?_
    refine r_iload dL_law_3392 rfl ?_
    refine r_icmp_eq (tgt := 3399) dL_law_3394 (by decide) (fun _ => ?_) (fun q => absurd t9 q)
    refine r_iload dL_law_3399 rfl ?_
    refine r_if_ne (tgt := 3416) dL_law_3401 (by decide) (fun _ => ?_) (fun q => absurd q (thA_ne E9))
    refine r_goto (tgt := 4357) dL_law_3416 (by decide) ?_
    exact r_mask [true, true, true, true, true, true, false, false, false] rfl (hx _ _ _ _ _ _ _ _ (R.tt' g3))
  · have g3 : v9.1 = b9.1 ∧ Rel T0 T1 v9.2 b9.2 ∧ b9.2 153 0 = 0 := g3
    refine r_aload_n dL_law_3327 rfl ?_
    refine s_arg (kq := 1) hL hi (by decide) (by decide) dL_law_3328 dL_law_3329 dL_law_3331 dL_law_3332 dL_law_3333 rfl rfl ?_
    refine s_arg (kq := 2) hL hi (by decide) (by decide) dL_law_3334 dL_law_3335 dL_law_3337 dL_law_3338 dL_law_3339 rfl rfl ?_
    refine s_arg (kq := 3) hL hi (by decide) (by decide) dL_law_3340 dL_law_3341 dL_law_3343 dL_law_3344 dL_law_3345 rfl rfl ?_
    refine s_arg (kq := 4) hL hi (by decide) (by decide) dL_law_3346 dL_law_3347 dL_law_3349 dL_law_3350 dL_law_3351 rfl rfl ?_
    refine r_aload_n dL_law_3352 rfl ?_
    refine r_cSW1 (rest := []) (wo_bestPhase hs hE hT0 hT1 g1) dL_law_3353 wd_1387 zL_bestPhase wd_1388 rfl rfl rfl ⟨Nat.le_of_ble_eq_true rfl, Nat.le_of_ble_eq_true rfl⟩ (Nat.le_of_ble_eq_true rfl) ⟨lk hk rfl, lk hn rfl⟩ ?_
    refine r_widen (k2 := k + 64) (n2 := n + 64) (Nat.add_le_add_left (Nat.le_of_ble_eq_true rfl) _) (Nat.add_le_add_left (Nat.le_of_ble_eq_true rfl) _) ?_
    refine r_istore dL_law_3356 (by decide) rfl ?_
    refine r_aload_n dL_law_3358 rfl ?_
    refine s_arg (kq := 1) hL hi (by decide) (by decide) dL_law_3359 dL_law_3360 dL_law_3362 dL_law_3363 dL_law_3364 rfl rfl ?_
    refine s_arg (kq := 2) hL hi (by decide) (by decide) dL_law_3365 dL_law_3366 dL_law_3368 dL_law_3369 dL_law_3370 rfl rfl ?_
    refine s_arg (kq := 3) hL hi (by decide) (by decide) dL_law_3371 dL_law_3372 dL_law_3374 dL_law_3375 dL_law_3376 rfl rfl ?_
    refine s_arg (kq := 4) hL hi (by decide) (by decide) dL_law_3377 dL_law_3378 dL_law_3380 dL_law_3381 dL_law_3382 rfl rfl ?_
    refine r_cV0 (rest := []) (ct_X10_bestPhase hs hE g2) dL_law_3383 wd_2151 zX10_bestPhase wd_2152 wd_2153 rfl rfl rfl (fo10 (hE 153 (by decide))) rfl rfl ⟨Nat.le_of_ble_eq_true rfl, Nat.le_of_ble_eq_true rfl⟩ (Nat.le_of_ble_eq_true rfl) ⟨rfl, rfl⟩ (lkk hk hn) ?_
    refine r_istore dL_law_3386 (by decide) rfl ?_
    refine r_aload_n dL_law_3388 rfl ?_
    have t9 := g3.2.2
    refine r_cV0 (rest := []) (ct_X10_thrown (n := 0) hs hE rfl) dL_law_3389 wd_1621 zX10_thrown wd_1622 wd_1623 rfl rfl rfl (fo10 (hE 153 (by decide))) rfl rfl ⟨Nat.le_of_ble_eq_true rfl, Nat.le_of_ble_eq_true rfl⟩ (Nat.le_of_ble_eq_true rfl) ⟨rfl, rfl⟩ (lkk hk hn) ?_
    refine r_iload dL_law_3392 rfl ?_
    refine r_icmp_eq (tgt := 3399) dL_law_3394 (by decide) (fun _ => ?_) (fun q => absurd t9 q)
    refine r_iload dL_law_3399 rfl ?_
    refine r_if_ne (tgt := 3416) dL_law_3401 (by decide) (fun q => absurd rfl q) (fun _ => ?_)
    refine r_aload_n dL_law_3404 rfl ?_
    refine r_iconst (v := (0 : Int32)) dL_law_3405 (by decide) ?_
    refine a_laldc 0 dL_law_3406 (hE 170 (by decide)) (vpc rfl) rfl ?_
    refine r_tl sJ_self ?_
    refine r_iload dL_law_3407 rfl ?_
    refine r_i2l dL_law_3409 ?_
    refine r_lcmp dL_law_3410 ?_
    refine r_ti (y := 0) ((lg_cmp_eq _ _).mpr (congrArg Int32.toInt64 g3.1)) ?_
    refine r_if_eq (tgt := 3416) dL_law_3411 (by decide) (fun _ => ?_) (fun q => absurd rfl q)
    refine r_goto (tgt := 4357) dL_law_3416 (by decide) ?_
    exact r_mask [true, true, true, true, true, true, false, false, false] rfl (hx _ _ _ _ _ _ _ _ (g3.2.1))
set_option maxHeartbeats 4000000 in
set_option maxRecDepth 100000 in
theorem lc_bestPlace {G : gG} {b Lx i : Nat} {xs : Nat → Int32} {lay : Nat → Nat × Nat} {T0 T1 : Nat} {Dd : Nat → Nat → UInt64} {I : gI} {J : gJ} {K : gI} {N : gJ} {sz k n : Nat} (hs : G.1.stackTraces = false) (hE : gLay lay) (R : Rel T0 T1 I K) (hL : Lx ≤ 3072) (hi : i + 6 ≤ Lx) (hk : k + 64 ≤ 601024) (hn : n + 64 ≤ 7293034) (hx : lNx G b Lx xs lay i k n) : gAt G mL_law (lQ G b Lx xs) 3419 (lLL G b i) [] (fO G (lay, T0, T1, Dd) I J K N) sz k n := by
  have hT0 : gTank lay T0 := gTk hE (R.tt.elim (fun h => Or.inl h.1) (fun h => Or.inr h.1))
  have hT1 : gTank lay T1 := gTk hE (R.tt.elim (fun h => Or.inr h.2) (fun h => Or.inl h.2))
  obtain ⟨r9, b9, g1, g2, g3⟩ := e_bestPlace (n := 30000) (by decide) R (xs (i + 1)) (xs (i + 2)) (xs (i + 3)) (xs (i + 4))
  rcases r9 with E9 | v9
  · have g3 : Tt K (thA E9) b9.2 := g3
    refine r_aload_n dL_law_3419 rfl ?_
    refine s_arg (kq := 1) hL hi (by decide) (by decide) dL_law_3420 dL_law_3421 dL_law_3423 dL_law_3424 dL_law_3425 rfl rfl ?_
    refine s_arg (kq := 2) hL hi (by decide) (by decide) dL_law_3426 dL_law_3427 dL_law_3429 dL_law_3430 dL_law_3431 rfl rfl ?_
    refine s_arg (kq := 3) hL hi (by decide) (by decide) dL_law_3432 dL_law_3433 dL_law_3435 dL_law_3436 dL_law_3437 rfl rfl ?_
    refine s_arg (kq := 4) hL hi (by decide) (by decide) dL_law_3438 dL_law_3439 dL_law_3441 dL_law_3442 dL_law_3443 rfl rfl ?_
    refine r_aload_n dL_law_3444 rfl ?_
    refine r_cSWs (rest := []) (we_bestPlace hs hE hT0 hT1 g1) dL_law_3445 wd_1394 zL_bestPlace wd_1395 rfl rfl rfl ⟨Nat.le_of_ble_eq_true rfl, Nat.le_of_ble_eq_true rfl⟩ (Nat.le_of_ble_eq_true rfl) ⟨lk hk rfl, lk hn rfl⟩ (fun sz9 => ?_)
    refine r_widen (k2 := k + 64) (n2 := n + 64) (Nat.add_le_add_left (Nat.le_of_ble_eq_true rfl) _) (Nat.add_le_add_left (Nat.le_of_ble_eq_true rfl) _) ?_
    refine r_istore dL_law_3448 (by decide) rfl ?_
    refine r_aload_n dL_law_3450 rfl ?_
    refine s_arg (kq := 1) hL hi (by decide) (by decide) dL_law_3451 dL_law_3452 dL_law_3454 dL_law_3455 dL_law_3456 rfl rfl ?_
    refine s_arg (kq := 2) hL hi (by decide) (by decide) dL_law_3457 dL_law_3458 dL_law_3460 dL_law_3461 dL_law_3462 rfl rfl ?_
    refine s_arg (kq := 3) hL hi (by decide) (by decide) dL_law_3463 dL_law_3464 dL_law_3466 dL_law_3467 dL_law_3468 rfl rfl ?_
    refine s_arg (kq := 4) hL hi (by decide) (by decide) dL_law_3469 dL_law_3470 dL_law_3472 dL_law_3473 dL_law_3474 rfl rfl ?_
    refine r_cV0 (rest := []) (ct_X10_bestPlace hs hE g2) dL_law_3475 wd_2155 zX10_bestPlace wd_2156 wd_2157 rfl rfl rfl (fo10 (hE 153 (by decide))) rfl rfl ⟨Nat.le_of_ble_eq_true rfl, Nat.le_of_ble_eq_true rfl⟩ (Nat.le_of_ble_eq_true rfl) ⟨rfl, rfl⟩ (lkk hk hn) ?_
    refine r_istore dL_law_3478 (by decide) rfl ?_
    refine r_aload_n dL_law_3480 rfl ?_
    have t9 := g3.t
    refine r_cV0 (rest := []) (ct_X10_thrown (n := 0) hs hE rfl) dL_law_3481 wd_1621 zX10_thrown wd_1622 wd_1623 rfl rfl rfl (fo10 (hE 153 (by decide))) rfl rfl ⟨Nat.le_of_ble_eq_true rfl, Nat.le_of_ble_eq_true rfl⟩ (Nat.le_of_ble_eq_true rfl) ⟨rfl, rfl⟩ (lkk hk hn) ?_
    refine r_iload dL_law_3484 rfl ?_
    refine r_icmp_eq (tgt := 3491) dL_law_3486 (by decide) (fun _ => ?_) (fun q => absurd t9 q)
    refine r_iload dL_law_3491 rfl ?_
    refine r_if_ne (tgt := 3508) dL_law_3493 (by decide) (fun _ => ?_) (fun q => absurd q (thA_ne E9))
    refine r_goto (tgt := 4357) dL_law_3508 (by decide) ?_
    exact r_mask [true, true, true, true, true, true, false, false, false] rfl (hx _ _ _ _ _ _ _ _ (R.tt' g3))
  · have g3 : v9.1 = b9.1 ∧ Rel T0 T1 v9.2 b9.2 ∧ b9.2 153 0 = 0 := g3
    refine r_aload_n dL_law_3419 rfl ?_
    refine s_arg (kq := 1) hL hi (by decide) (by decide) dL_law_3420 dL_law_3421 dL_law_3423 dL_law_3424 dL_law_3425 rfl rfl ?_
    refine s_arg (kq := 2) hL hi (by decide) (by decide) dL_law_3426 dL_law_3427 dL_law_3429 dL_law_3430 dL_law_3431 rfl rfl ?_
    refine s_arg (kq := 3) hL hi (by decide) (by decide) dL_law_3432 dL_law_3433 dL_law_3435 dL_law_3436 dL_law_3437 rfl rfl ?_
    refine s_arg (kq := 4) hL hi (by decide) (by decide) dL_law_3438 dL_law_3439 dL_law_3441 dL_law_3442 dL_law_3443 rfl rfl ?_
    refine r_aload_n dL_law_3444 rfl ?_
    refine r_cSW1 (rest := []) (wo_bestPlace hs hE hT0 hT1 g1) dL_law_3445 wd_1394 zL_bestPlace wd_1395 rfl rfl rfl ⟨Nat.le_of_ble_eq_true rfl, Nat.le_of_ble_eq_true rfl⟩ (Nat.le_of_ble_eq_true rfl) ⟨lk hk rfl, lk hn rfl⟩ ?_
    refine r_widen (k2 := k + 64) (n2 := n + 64) (Nat.add_le_add_left (Nat.le_of_ble_eq_true rfl) _) (Nat.add_le_add_left (Nat.le_of_ble_eq_true rfl) _) ?_
    refine r_istore dL_law_3448 (by decide) rfl ?_
    refine r_aload_n dL_law_3450 rfl ?_
    refine s_arg (kq := 1) hL hi (by decide) (by decide) dL_law_3451 dL_law_3452 dL_law_3454 dL_law_3455 dL_law_3456 rfl rfl ?_
    refine s_arg (kq := 2) hL hi (by decide) (by decide) dL_law_3457 dL_law_3458 dL_law_3460 dL_law_3461 dL_law_3462 rfl rfl ?_
    refine s_arg (kq := 3) hL hi (by decide) (by decide) dL_law_3463 dL_law_3464 dL_law_3466 dL_law_3467 dL_law_3468 rfl rfl ?_
    refine s_arg (kq := 4) hL hi (by decide) (by decide) dL_law_3469 dL_law_3470 dL_law_3472 dL_law_3473 dL_law_3474 rfl rfl ?_
    refine r_cV0 (rest := []) (ct_X10_bestPlace hs hE g2) dL_law_3475 wd_2155 zX10_bestPlace wd_2156 wd_2157 rfl rfl rfl (fo10 (hE 153 (by decide))) rfl rfl ⟨Nat.le_of_ble_eq_true rfl, Nat.le_of_ble_eq_true rfl⟩ (Nat.le_of_ble_eq_true rfl) ⟨rfl, rfl⟩ (lkk hk hn) ?_
    refine r_istore dL_law_3478 (by decide) rfl ?_
    refine r_aload_n dL_law_3480 rfl ?_
    have t9 := g3.2.2
    refine r_cV0 (rest := []) (ct_X10_thrown (n := 0) hs hE rfl) dL_law_3481 wd_1621 zX10_thrown wd_1622 wd_1623 rfl rfl rfl (fo10 (hE 153 (by decide))) rfl rfl ⟨Nat.le_of_ble_eq_true rfl, Nat.le_of_ble_eq_true rfl⟩ (Nat.le_of_ble_eq_true rfl) ⟨rfl, rfl⟩ (lkk hk hn) ?_
    refine r_iload dL_law_3484 rfl ?_
    refine r_icmp_eq (tgt := 3491) dL_law_3486 (by decide) (fun _ => ?_) (fun q => absurd t9 q)
    refine r_iload dL_law_3491 rfl ?_
    refine r_if_ne (tgt := 3508) dL_law_3493 (by decide) (fun q => absurd rfl q) (fun _ => ?_)
    refine r_aload_n dL_law_3496 rfl ?_
    refine r_iconst (v := (0 : Int32)) dL_law_3497 (by decide) ?_
    refine a_laldc 0 dL_law_3498 (hE 170 (by decide)) (vpc rfl) rfl ?_
    refine r_tl sJ_self ?_
    refine r_iload dL_law_3499 rfl ?_
    refine r_i2l dL_law_3501 ?_
    refine r_lcmp dL_law_3502 ?_
    refine r_ti (y := 0) ((lg_cmp_eq _ _).mpr (congrArg Int32.toInt64 g3.1)) ?_
    refine r_if_eq (tgt := 3508) dL_law_3503 (by decide) (fun _ => ?_) (fun q => absurd rfl q)
    refine r_goto (tgt := 4357) dL_law_3508 (by decide) ?_
    exact r_mask [true, true, true, true, true, true, false, false, false] rfl (hx _ _ _ _ _ _ _ _ (g3.2.1))
set_option maxHeartbeats 4000000 in
set_option maxRecDepth 100000 in
theorem lc_energyIfTurned {G : gG} {b Lx i : Nat} {xs : Nat → Int32} {lay : Nat → Nat × Nat} {T0 T1 : Nat} {Dd : Nat → Nat → UInt64} {I : gI} {J : gJ} {K : gI} {N : gJ} {sz k n : Nat} (hs : G.1.stackTraces = false) (hE : gLay lay) (R : Rel T0 T1 I K) (hL : Lx ≤ 3072) (hi : i + 6 ≤ Lx) (hk : k + 64 ≤ 601024) (hn : n + 64 ≤ 7293034) (hx : lNx G b Lx xs lay i k n) : gAt G mL_law (lQ G b Lx xs) 3511 (lLL G b i) [] (fO G (lay, T0, T1, Dd) I J K N) sz k n := by
  have hT0 : gTank lay T0 := gTk hE (R.tt.elim (fun h => Or.inl h.1) (fun h => Or.inr h.1))
  have hT1 : gTank lay T1 := gTk hE (R.tt.elim (fun h => Or.inr h.2) (fun h => Or.inl h.2))
  obtain ⟨r9, b9, g1, g2, g3⟩ := e_energyIfTurned (n := 30000) (by decide) R (xs (i + 1)) (xs (i + 2)) (xs (i + 3)) (xs (i + 4))
  rcases r9 with E9 | v9
  · have g3 : Tt K (thA E9) b9.2 := g3
    refine r_aload_n dL_law_3511 rfl ?_
    refine s_arg (kq := 1) hL hi (by decide) (by decide) dL_law_3512 dL_law_3513 dL_law_3515 dL_law_3516 dL_law_3517 rfl rfl ?_
    refine s_arg (kq := 2) hL hi (by decide) (by decide) dL_law_3518 dL_law_3519 dL_law_3521 dL_law_3522 dL_law_3523 rfl rfl ?_
    refine s_arg (kq := 3) hL hi (by decide) (by decide) dL_law_3524 dL_law_3525 dL_law_3527 dL_law_3528 dL_law_3529 rfl rfl ?_
    refine s_arg (kq := 4) hL hi (by decide) (by decide) dL_law_3530 dL_law_3531 dL_law_3533 dL_law_3534 dL_law_3535 rfl rfl ?_
    refine r_aload_n dL_law_3536 rfl ?_
    refine r_cSWs (rest := []) (we_energyIfTurned hs hE hT0 hT1 g1) dL_law_3537 wd_1401 zL_energyIfTurned wd_1402 rfl rfl rfl ⟨Nat.le_of_ble_eq_true rfl, Nat.le_of_ble_eq_true rfl⟩ (Nat.le_of_ble_eq_true rfl) ⟨lk hk rfl, lk hn rfl⟩ (fun sz9 => ?_)
    refine r_widen (k2 := k + 64) (n2 := n + 64) (Nat.add_le_add_left (Nat.le_of_ble_eq_true rfl) _) (Nat.add_le_add_left (Nat.le_of_ble_eq_true rfl) _) ?_
    refine r_istore dL_law_3540 (by decide) rfl ?_
    refine r_aload_n dL_law_3542 rfl ?_
    refine s_arg (kq := 1) hL hi (by decide) (by decide) dL_law_3543 dL_law_3544 dL_law_3546 dL_law_3547 dL_law_3548 rfl rfl ?_
    refine s_arg (kq := 2) hL hi (by decide) (by decide) dL_law_3549 dL_law_3550 dL_law_3552 dL_law_3553 dL_law_3554 rfl rfl ?_
    refine s_arg (kq := 3) hL hi (by decide) (by decide) dL_law_3555 dL_law_3556 dL_law_3558 dL_law_3559 dL_law_3560 rfl rfl ?_
    refine s_arg (kq := 4) hL hi (by decide) (by decide) dL_law_3561 dL_law_3562 dL_law_3564 dL_law_3565 dL_law_3566 rfl rfl ?_
    refine r_cV0 (rest := []) (ct_X10_energyIfTurned hs hE g2) dL_law_3567 wd_2159 zX10_energyIfTurned wd_2160 wd_2161 rfl rfl rfl (fo10 (hE 153 (by decide))) rfl rfl ⟨Nat.le_of_ble_eq_true rfl, Nat.le_of_ble_eq_true rfl⟩ (Nat.le_of_ble_eq_true rfl) ⟨rfl, rfl⟩ (lkk hk hn) ?_
    refine r_lstore dL_law_3570 (by decide) rfl ?_
    refine r_aload_n dL_law_3572 rfl ?_
    have t9 := g3.t
    refine r_cV0 (rest := []) (ct_X10_thrown (n := 0) hs hE rfl) dL_law_3573 wd_1621 zX10_thrown wd_1622 wd_1623 rfl rfl rfl (fo10 (hE 153 (by decide))) rfl rfl ⟨Nat.le_of_ble_eq_true rfl, Nat.le_of_ble_eq_true rfl⟩ (Nat.le_of_ble_eq_true rfl) ⟨rfl, rfl⟩ (lkk hk hn) ?_
    refine r_iload dL_law_3576 rfl ?_
    refine r_icmp_eq (tgt := 3583) dL_law_3578 (by decide) (fun _ => ?_) (fun q => absurd t9 q)
    refine r_iload dL_law_3583 rfl ?_
    refine r_if_ne (tgt := 3599) dL_law_3585 (by decide) (fun _ => ?_) (fun q => absurd q (thA_ne E9))
    refine r_goto (tgt := 4357) dL_law_3599 (by decide) ?_
    exact r_mask [true, true, true, true, true, true, false, false, false] rfl (hx _ _ _ _ _ _ _ _ (R.tt' g3))
  · have g3 : v9.1 = b9.1 ∧ Rel T0 T1 v9.2 b9.2 ∧ b9.2 153 0 = 0 := g3
    refine r_aload_n dL_law_3511 rfl ?_
    refine s_arg (kq := 1) hL hi (by decide) (by decide) dL_law_3512 dL_law_3513 dL_law_3515 dL_law_3516 dL_law_3517 rfl rfl ?_
    refine s_arg (kq := 2) hL hi (by decide) (by decide) dL_law_3518 dL_law_3519 dL_law_3521 dL_law_3522 dL_law_3523 rfl rfl ?_
    refine s_arg (kq := 3) hL hi (by decide) (by decide) dL_law_3524 dL_law_3525 dL_law_3527 dL_law_3528 dL_law_3529 rfl rfl ?_
    refine s_arg (kq := 4) hL hi (by decide) (by decide) dL_law_3530 dL_law_3531 dL_law_3533 dL_law_3534 dL_law_3535 rfl rfl ?_
    refine r_aload_n dL_law_3536 rfl ?_
    refine r_cSW1 (rest := []) (wo_energyIfTurned hs hE hT0 hT1 g1) dL_law_3537 wd_1401 zL_energyIfTurned wd_1402 rfl rfl rfl ⟨Nat.le_of_ble_eq_true rfl, Nat.le_of_ble_eq_true rfl⟩ (Nat.le_of_ble_eq_true rfl) ⟨lk hk rfl, lk hn rfl⟩ ?_
    refine r_widen (k2 := k + 64) (n2 := n + 64) (Nat.add_le_add_left (Nat.le_of_ble_eq_true rfl) _) (Nat.add_le_add_left (Nat.le_of_ble_eq_true rfl) _) ?_
    refine r_istore dL_law_3540 (by decide) rfl ?_
    refine r_aload_n dL_law_3542 rfl ?_
    refine s_arg (kq := 1) hL hi (by decide) (by decide) dL_law_3543 dL_law_3544 dL_law_3546 dL_law_3547 dL_law_3548 rfl rfl ?_
    refine s_arg (kq := 2) hL hi (by decide) (by decide) dL_law_3549 dL_law_3550 dL_law_3552 dL_law_3553 dL_law_3554 rfl rfl ?_
    refine s_arg (kq := 3) hL hi (by decide) (by decide) dL_law_3555 dL_law_3556 dL_law_3558 dL_law_3559 dL_law_3560 rfl rfl ?_
    refine s_arg (kq := 4) hL hi (by decide) (by decide) dL_law_3561 dL_law_3562 dL_law_3564 dL_law_3565 dL_law_3566 rfl rfl ?_
    refine r_cV0 (rest := []) (ct_X10_energyIfTurned hs hE g2) dL_law_3567 wd_2159 zX10_energyIfTurned wd_2160 wd_2161 rfl rfl rfl (fo10 (hE 153 (by decide))) rfl rfl ⟨Nat.le_of_ble_eq_true rfl, Nat.le_of_ble_eq_true rfl⟩ (Nat.le_of_ble_eq_true rfl) ⟨rfl, rfl⟩ (lkk hk hn) ?_
    refine r_lstore dL_law_3570 (by decide) rfl ?_
    refine r_aload_n dL_law_3572 rfl ?_
    have t9 := g3.2.2
    refine r_cV0 (rest := []) (ct_X10_thrown (n := 0) hs hE rfl) dL_law_3573 wd_1621 zX10_thrown wd_1622 wd_1623 rfl rfl rfl (fo10 (hE 153 (by decide))) rfl rfl ⟨Nat.le_of_ble_eq_true rfl, Nat.le_of_ble_eq_true rfl⟩ (Nat.le_of_ble_eq_true rfl) ⟨rfl, rfl⟩ (lkk hk hn) ?_
    refine r_iload dL_law_3576 rfl ?_
    refine r_icmp_eq (tgt := 3583) dL_law_3578 (by decide) (fun _ => ?_) (fun q => absurd t9 q)
    refine r_iload dL_law_3583 rfl ?_
    refine r_if_ne (tgt := 3599) dL_law_3585 (by decide) (fun q => absurd rfl q) (fun _ => ?_)
    refine r_aload_n dL_law_3588 rfl ?_
    refine r_iconst (v := (0 : Int32)) dL_law_3589 (by decide) ?_
    refine a_laldc 0 dL_law_3590 (hE 170 (by decide)) (vpc rfl) rfl ?_
    refine r_tl sJ_self ?_
    refine r_lload dL_law_3591 rfl ?_
    refine r_lcmp dL_law_3593 ?_
    refine r_ti (y := 0) ((lg_cmp_eq _ _).mpr g3.1) ?_
    refine r_if_eq (tgt := 3599) dL_law_3594 (by decide) (fun _ => ?_) (fun q => absurd rfl q)
    refine r_goto (tgt := 4357) dL_law_3599 (by decide) ?_
    exact r_mask [true, true, true, true, true, true, false, false, false] rfl (hx _ _ _ _ _ _ _ _ (g3.2.1))
set_option maxHeartbeats 4000000 in
set_option maxRecDepth 100000 in
theorem lc_bestRow {G : gG} {b Lx i : Nat} {xs : Nat → Int32} {lay : Nat → Nat × Nat} {T0 T1 : Nat} {Dd : Nat → Nat → UInt64} {I : gI} {J : gJ} {K : gI} {N : gJ} {sz k n : Nat} (hs : G.1.stackTraces = false) (hE : gLay lay) (R : Rel T0 T1 I K) (hL : Lx ≤ 3072) (hi : i + 6 ≤ Lx) (hk : k + 64 ≤ 601024) (hn : n + 64 ≤ 7293034) (hx : lNx G b Lx xs lay i k n) : gAt G mL_law (lQ G b Lx xs) 3602 (lLL G b i) [] (fO G (lay, T0, T1, Dd) I J K N) sz k n := by
  have hT0 : gTank lay T0 := gTk hE (R.tt.elim (fun h => Or.inl h.1) (fun h => Or.inr h.1))
  have hT1 : gTank lay T1 := gTk hE (R.tt.elim (fun h => Or.inr h.2) (fun h => Or.inl h.2))
  obtain ⟨r9, b9, g1, g2, g3⟩ := e_bestRow (n := 30000) (by decide) R (xs (i + 1)) (xs (i + 2)) (xs (i + 3))
  rcases r9 with E9 | v9
  · have g3 : Tt K (thA E9) b9.2 := g3
    refine r_aload_n dL_law_3602 rfl ?_
    refine s_arg (kq := 1) hL hi (by decide) (by decide) dL_law_3603 dL_law_3604 dL_law_3606 dL_law_3607 dL_law_3608 rfl rfl ?_
    refine s_arg (kq := 2) hL hi (by decide) (by decide) dL_law_3609 dL_law_3610 dL_law_3612 dL_law_3613 dL_law_3614 rfl rfl ?_
    refine s_arg (kq := 3) hL hi (by decide) (by decide) dL_law_3615 dL_law_3616 dL_law_3618 dL_law_3619 dL_law_3620 rfl rfl ?_
    refine r_aload_n dL_law_3621 rfl ?_
    refine r_cSWs (rest := []) (we_bestRow hs hE hT0 hT1 g1) dL_law_3622 wd_1417 zL_bestRow wd_1418 rfl rfl rfl ⟨Nat.le_of_ble_eq_true rfl, Nat.le_of_ble_eq_true rfl⟩ (Nat.le_of_ble_eq_true rfl) ⟨lk hk rfl, lk hn rfl⟩ (fun sz9 => ?_)
    refine r_widen (k2 := k + 64) (n2 := n + 64) (Nat.add_le_add_left (Nat.le_of_ble_eq_true rfl) _) (Nat.add_le_add_left (Nat.le_of_ble_eq_true rfl) _) ?_
    refine r_istore dL_law_3625 (by decide) rfl ?_
    refine r_aload_n dL_law_3627 rfl ?_
    refine s_arg (kq := 1) hL hi (by decide) (by decide) dL_law_3628 dL_law_3629 dL_law_3631 dL_law_3632 dL_law_3633 rfl rfl ?_
    refine s_arg (kq := 2) hL hi (by decide) (by decide) dL_law_3634 dL_law_3635 dL_law_3637 dL_law_3638 dL_law_3639 rfl rfl ?_
    refine s_arg (kq := 3) hL hi (by decide) (by decide) dL_law_3640 dL_law_3641 dL_law_3643 dL_law_3644 dL_law_3645 rfl rfl ?_
    refine r_cV0 (rest := []) (ct_X10_bestRow hs hE g2) dL_law_3646 wd_2168 zX10_bestRow wd_2169 wd_2170 rfl rfl rfl (fo10 (hE 153 (by decide))) rfl rfl ⟨Nat.le_of_ble_eq_true rfl, Nat.le_of_ble_eq_true rfl⟩ (Nat.le_of_ble_eq_true rfl) ⟨rfl, rfl⟩ (lkk hk hn) ?_
    refine r_istore dL_law_3649 (by decide) rfl ?_
    refine r_aload_n dL_law_3651 rfl ?_
    have t9 := g3.t
    refine r_cV0 (rest := []) (ct_X10_thrown (n := 0) hs hE rfl) dL_law_3652 wd_1621 zX10_thrown wd_1622 wd_1623 rfl rfl rfl (fo10 (hE 153 (by decide))) rfl rfl ⟨Nat.le_of_ble_eq_true rfl, Nat.le_of_ble_eq_true rfl⟩ (Nat.le_of_ble_eq_true rfl) ⟨rfl, rfl⟩ (lkk hk hn) ?_
    refine r_iload dL_law_3655 rfl ?_
    refine r_icmp_eq (tgt := 3662) dL_law_3657 (by decide) (fun _ => ?_) (fun q => absurd t9 q)
    refine r_iload dL_law_3662 rfl ?_
    refine r_if_ne (tgt := 3679) dL_law_3664 (by decide) (fun _ => ?_) (fun q => absurd q (thA_ne E9))
    refine r_goto (tgt := 4357) dL_law_3679 (by decide) ?_
    exact r_mask [true, true, true, true, true, true, false, false, false] rfl (hx _ _ _ _ _ _ _ _ (R.tt' g3))
  · have g3 : v9.1 = b9.1 ∧ Rel T0 T1 v9.2 b9.2 ∧ b9.2 153 0 = 0 := g3
    refine r_aload_n dL_law_3602 rfl ?_
    refine s_arg (kq := 1) hL hi (by decide) (by decide) dL_law_3603 dL_law_3604 dL_law_3606 dL_law_3607 dL_law_3608 rfl rfl ?_
    refine s_arg (kq := 2) hL hi (by decide) (by decide) dL_law_3609 dL_law_3610 dL_law_3612 dL_law_3613 dL_law_3614 rfl rfl ?_
    refine s_arg (kq := 3) hL hi (by decide) (by decide) dL_law_3615 dL_law_3616 dL_law_3618 dL_law_3619 dL_law_3620 rfl rfl ?_
    refine r_aload_n dL_law_3621 rfl ?_
    refine r_cSW1 (rest := []) (wo_bestRow hs hE hT0 hT1 g1) dL_law_3622 wd_1417 zL_bestRow wd_1418 rfl rfl rfl ⟨Nat.le_of_ble_eq_true rfl, Nat.le_of_ble_eq_true rfl⟩ (Nat.le_of_ble_eq_true rfl) ⟨lk hk rfl, lk hn rfl⟩ ?_
    refine r_widen (k2 := k + 64) (n2 := n + 64) (Nat.add_le_add_left (Nat.le_of_ble_eq_true rfl) _) (Nat.add_le_add_left (Nat.le_of_ble_eq_true rfl) _) ?_
    refine r_istore dL_law_3625 (by decide) rfl ?_
    refine r_aload_n dL_law_3627 rfl ?_
    refine s_arg (kq := 1) hL hi (by decide) (by decide) dL_law_3628 dL_law_3629 dL_law_3631 dL_law_3632 dL_law_3633 rfl rfl ?_
    refine s_arg (kq := 2) hL hi (by decide) (by decide) dL_law_3634 dL_law_3635 dL_law_3637 dL_law_3638 dL_law_3639 rfl rfl ?_
    refine s_arg (kq := 3) hL hi (by decide) (by decide) dL_law_3640 dL_law_3641 dL_law_3643 dL_law_3644 dL_law_3645 rfl rfl ?_
    refine r_cV0 (rest := []) (ct_X10_bestRow hs hE g2) dL_law_3646 wd_2168 zX10_bestRow wd_2169 wd_2170 rfl rfl rfl (fo10 (hE 153 (by decide))) rfl rfl ⟨Nat.le_of_ble_eq_true rfl, Nat.le_of_ble_eq_true rfl⟩ (Nat.le_of_ble_eq_true rfl) ⟨rfl, rfl⟩ (lkk hk hn) ?_
    refine r_istore dL_law_3649 (by decide) rfl ?_
    refine r_aload_n dL_law_3651 rfl ?_
    have t9 := g3.2.2
    refine r_cV0 (rest := []) (ct_X10_thrown (n := 0) hs hE rfl) dL_law_3652 wd_1621 zX10_thrown wd_1622 wd_1623 rfl rfl rfl (fo10 (hE 153 (by decide))) rfl rfl ⟨Nat.le_of_ble_eq_true rfl, Nat.le_of_ble_eq_true rfl⟩ (Nat.le_of_ble_eq_true rfl) ⟨rfl, rfl⟩ (lkk hk hn) ?_
    refine r_iload dL_law_3655 rfl ?_
    refine r_icmp_eq (tgt := 3662) dL_law_3657 (by decide) (fun _ => ?_) (fun q => absurd t9 q)
    refine r_iload dL_law_3662 rfl ?_
    refine r_if_ne (tgt := 3679) dL_law_3664 (by decide) (fun q => absurd rfl q) (fun _ => ?_)
    refine r_aload_n dL_law_3667 rfl ?_
    refine r_iconst (v := (0 : Int32)) dL_law_3668 (by decide) ?_
    refine a_laldc 0 dL_law_3669 (hE 170 (by decide)) (vpc rfl) rfl ?_
    refine r_tl sJ_self ?_
    refine r_iload dL_law_3670 rfl ?_
    refine r_i2l dL_law_3672 ?_
    refine r_lcmp dL_law_3673 ?_
    refine r_ti (y := 0) ((lg_cmp_eq _ _).mpr (congrArg Int32.toInt64 g3.1)) ?_
    refine r_if_eq (tgt := 3679) dL_law_3674 (by decide) (fun _ => ?_) (fun q => absurd rfl q)
    refine r_goto (tgt := 4357) dL_law_3679 (by decide) ?_
    exact r_mask [true, true, true, true, true, true, false, false, false] rfl (hx _ _ _ _ _ _ _ _ (g3.2.1))
set_option maxHeartbeats 4000000 in
set_option maxRecDepth 100000 in
theorem lc_advance {G : gG} {b Lx i : Nat} {xs : Nat → Int32} {lay : Nat → Nat × Nat} {T0 T1 : Nat} {Dd : Nat → Nat → UInt64} {I : gI} {J : gJ} {K : gI} {N : gJ} {sz k n : Nat} (hs : G.1.stackTraces = false) (hE : gLay lay) (R : Rel T0 T1 I K) (hL : Lx ≤ 3072) (hi : i + 6 ≤ Lx) (hk : k + 64 ≤ 601024) (hn : n + 64 ≤ 7293034) (hx : lNx G b Lx xs lay i k n) : gAt G mL_law (lQ G b Lx xs) 3682 (lLL G b i) [] (fO G (lay, T0, T1, Dd) I J K N) sz k n := by
  have hT0 : gTank lay T0 := gTk hE (R.tt.elim (fun h => Or.inl h.1) (fun h => Or.inr h.1))
  have hT1 : gTank lay T1 := gTk hE (R.tt.elim (fun h => Or.inr h.2) (fun h => Or.inl h.2))
  obtain ⟨r9, b9, g1, g2, g3⟩ := e_advance (n := 30000) (by decide) R (xs (i + 1))
  rcases r9 with E9 | v9
  · have g3 : Tt K (thB E9) b9.2 := g3
    refine r_aload_n dL_law_3682 rfl ?_
    refine s_arg (kq := 1) hL hi (by decide) (by decide) dL_law_3683 dL_law_3684 dL_law_3686 dL_law_3687 dL_law_3688 rfl rfl ?_
    refine r_aload_n dL_law_3689 rfl ?_
    refine r_cSWs (rest := []) (we_advance hs hE hT0 hT1 g1) dL_law_3690 wd_1424 zL_advance wd_1425 rfl rfl rfl ⟨Nat.le_of_ble_eq_true rfl, Nat.le_of_ble_eq_true rfl⟩ (Nat.le_of_ble_eq_true rfl) ⟨lk hk rfl, lk hn rfl⟩ (fun sz9 => ?_)
    refine r_widen (k2 := k + 64) (n2 := n + 64) (Nat.add_le_add_left (Nat.le_of_ble_eq_true rfl) _) (Nat.add_le_add_left (Nat.le_of_ble_eq_true rfl) _) ?_
    refine r_istore dL_law_3693 (by decide) rfl ?_
    refine r_aload_n dL_law_3695 rfl ?_
    refine s_arg (kq := 1) hL hi (by decide) (by decide) dL_law_3696 dL_law_3697 dL_law_3699 dL_law_3700 dL_law_3701 rfl rfl ?_
    refine r_cV0 (rest := []) (ct_X10_advance hs hE g2) dL_law_3702 wd_2172 zX10_advance wd_2173 wd_2174 rfl rfl rfl (fo10 (hE 153 (by decide))) rfl rfl ⟨Nat.le_of_ble_eq_true rfl, Nat.le_of_ble_eq_true rfl⟩ (Nat.le_of_ble_eq_true rfl) ⟨rfl, rfl⟩ (lkk hk hn) ?_
    refine r_istore dL_law_3705 (by decide) rfl ?_
    refine r_aload_n dL_law_3707 rfl ?_
    have t9 := g3.t
    refine r_cV0 (rest := []) (ct_X10_thrown (n := 0) hs hE rfl) dL_law_3708 wd_1621 zX10_thrown wd_1622 wd_1623 rfl rfl rfl (fo10 (hE 153 (by decide))) rfl rfl ⟨Nat.le_of_ble_eq_true rfl, Nat.le_of_ble_eq_true rfl⟩ (Nat.le_of_ble_eq_true rfl) ⟨rfl, rfl⟩ (lkk hk hn) ?_
    refine r_iload dL_law_3711 rfl ?_
    refine r_icmp_eq (tgt := 3718) dL_law_3713 (by decide) (fun _ => ?_) (fun q => absurd t9 q)
    refine r_iload dL_law_3718 rfl ?_
    refine r_if_ne (tgt := 3735) dL_law_3720 (by decide) (fun _ => ?_) (fun q => absurd q (thB_ne E9))
    refine r_goto (tgt := 4357) dL_law_3735 (by decide) ?_
    exact r_mask [true, true, true, true, true, true, false, false, false] rfl (hx _ _ _ _ _ _ _ _ (R.tt' g3))
  · have g3 : v9.1 = b9.1 ∧ Rel T0 T1 v9.2 b9.2 ∧ b9.2 153 0 = 0 := g3
    refine r_aload_n dL_law_3682 rfl ?_
    refine s_arg (kq := 1) hL hi (by decide) (by decide) dL_law_3683 dL_law_3684 dL_law_3686 dL_law_3687 dL_law_3688 rfl rfl ?_
    refine r_aload_n dL_law_3689 rfl ?_
    refine r_cSW1 (rest := []) (wo_advance hs hE hT0 hT1 g1) dL_law_3690 wd_1424 zL_advance wd_1425 rfl rfl rfl ⟨Nat.le_of_ble_eq_true rfl, Nat.le_of_ble_eq_true rfl⟩ (Nat.le_of_ble_eq_true rfl) ⟨lk hk rfl, lk hn rfl⟩ ?_
    refine r_widen (k2 := k + 64) (n2 := n + 64) (Nat.add_le_add_left (Nat.le_of_ble_eq_true rfl) _) (Nat.add_le_add_left (Nat.le_of_ble_eq_true rfl) _) ?_
    refine r_istore dL_law_3693 (by decide) rfl ?_
    refine r_aload_n dL_law_3695 rfl ?_
    refine s_arg (kq := 1) hL hi (by decide) (by decide) dL_law_3696 dL_law_3697 dL_law_3699 dL_law_3700 dL_law_3701 rfl rfl ?_
    refine r_cV0 (rest := []) (ct_X10_advance hs hE g2) dL_law_3702 wd_2172 zX10_advance wd_2173 wd_2174 rfl rfl rfl (fo10 (hE 153 (by decide))) rfl rfl ⟨Nat.le_of_ble_eq_true rfl, Nat.le_of_ble_eq_true rfl⟩ (Nat.le_of_ble_eq_true rfl) ⟨rfl, rfl⟩ (lkk hk hn) ?_
    refine r_istore dL_law_3705 (by decide) rfl ?_
    refine r_aload_n dL_law_3707 rfl ?_
    have t9 := g3.2.2
    refine r_cV0 (rest := []) (ct_X10_thrown (n := 0) hs hE rfl) dL_law_3708 wd_1621 zX10_thrown wd_1622 wd_1623 rfl rfl rfl (fo10 (hE 153 (by decide))) rfl rfl ⟨Nat.le_of_ble_eq_true rfl, Nat.le_of_ble_eq_true rfl⟩ (Nat.le_of_ble_eq_true rfl) ⟨rfl, rfl⟩ (lkk hk hn) ?_
    refine r_iload dL_law_3711 rfl ?_
    refine r_icmp_eq (tgt := 3718) dL_law_3713 (by decide) (fun _ => ?_) (fun q => absurd t9 q)
    refine r_iload dL_law_3718 rfl ?_
    refine r_if_ne (tgt := 3735) dL_law_3720 (by decide) (fun q => absurd rfl q) (fun _ => ?_)
    refine r_aload_n dL_law_3723 rfl ?_
    refine r_iconst (v := (0 : Int32)) dL_law_3724 (by decide) ?_
    refine a_laldc 0 dL_law_3725 (hE 170 (by decide)) (vpc rfl) rfl ?_
    refine r_tl sJ_self ?_
    refine r_iload dL_law_3726 rfl ?_
    refine r_i2l dL_law_3728 ?_
    refine r_lcmp dL_law_3729 ?_
    refine r_ti (y := 0) ((lg_cmp_eq _ _).mpr (congrArg Int32.toInt64 g3.1)) ?_
    refine r_if_eq (tgt := 3735) dL_law_3730 (by decide) (fun _ => ?_) (fun q => absurd rfl q)
    refine r_goto (tgt := 4357) dL_law_3735 (by decide) ?_
    exact r_mask [true, true, true, true, true, true, false, false, false] rfl (hx _ _ _ _ _ _ _ _ (g3.2.1))
set_option maxHeartbeats 4000000 in
set_option maxRecDepth 100000 in
theorem lc_setOn {G : gG} {b Lx i : Nat} {xs : Nat → Int32} {lay : Nat → Nat × Nat} {T0 T1 : Nat} {Dd : Nat → Nat → UInt64} {I : gI} {J : gJ} {K : gI} {N : gJ} {sz k n : Nat} (hs : G.1.stackTraces = false) (hE : gLay lay) (R : Rel T0 T1 I K) (hL : Lx ≤ 3072) (hi : i + 6 ≤ Lx) (hk : k + 64 ≤ 601024) (hn : n + 64 ≤ 7293034) (hx : lNx G b Lx xs lay i k n) : gAt G mL_law (lQ G b Lx xs) 3738 (lLL G b i) [] (fO G (lay, T0, T1, Dd) I J K N) sz k n := by
  have hT0 : gTank lay T0 := gTk hE (R.tt.elim (fun h => Or.inl h.1) (fun h => Or.inr h.1))
  have hT1 : gTank lay T1 := gTk hE (R.tt.elim (fun h => Or.inr h.2) (fun h => Or.inl h.2))
  by_cases hz : xs (i + 2) = 0
  · have hz : xs (i + 2) = 0 := hz
    obtain ⟨r9, b9, g1, g2, g3⟩ := e_setOn (n := 30000) (by decide) R (a1 := xs (i + 1)) (a2 := 0) (Or.inl rfl)
    rcases r9 with E9 | v9
    · have g3 : Tt K (thA E9) b9.2 := g3
      refine r_aload_n dL_law_3738 rfl ?_
      refine s_arg (kq := 1) hL hi (by decide) (by decide) dL_law_3739 dL_law_3740 dL_law_3742 dL_law_3743 dL_law_3744 rfl rfl ?_
      refine s_arg (kq := 2) hL hi (by decide) (by decide) dL_law_3745 dL_law_3746 dL_law_3748 dL_law_3749 dL_law_3750 rfl rfl ?_
      refine r_if_eq (tgt := 3758) dL_law_3751 (by decide) (fun _ => ?_) (fun q => absurd hz q)
      refine r_iconst (v := (0 : Int32)) dL_law_3758 (by decide) ?_
      refine r_aload_n dL_law_3759 rfl ?_
      refine r_cSWs (rest := []) (we_setOn hs hE hT0 hT1 g1) dL_law_3760 wd_1436 zL_setOn wd_1437 rfl rfl rfl ⟨Nat.le_of_ble_eq_true rfl, Nat.le_of_ble_eq_true rfl⟩ (Nat.le_of_ble_eq_true rfl) ⟨lk hk rfl, lk hn rfl⟩ (fun sz9 => ?_)
      refine r_widen (k2 := k + 64) (n2 := n + 64) (Nat.add_le_add_left (Nat.le_of_ble_eq_true rfl) _) (Nat.add_le_add_left (Nat.le_of_ble_eq_true rfl) _) ?_
      refine r_istore dL_law_3763 (by decide) rfl ?_
      refine r_aload_n dL_law_3765 rfl ?_
      refine s_arg (kq := 1) hL hi (by decide) (by decide) dL_law_3766 dL_law_3767 dL_law_3769 dL_law_3770 dL_law_3771 rfl rfl ?_
      refine s_arg (kq := 2) hL hi (by decide) (by decide) dL_law_3772 dL_law_3773 dL_law_3775 dL_law_3776 dL_law_3777 rfl rfl ?_
      refine r_if_eq (tgt := 3785) dL_law_3778 (by decide) (fun _ => ?_) (fun q => absurd hz q)
      refine r_iconst (v := (0 : Int32)) dL_law_3785 (by decide) ?_
      refine r_cV0 (rest := []) (ct_X10_setOn hs hE g2) dL_law_3786 wd_2184 zX10_setOn wd_2185 wd_2186 rfl rfl rfl (fo10 (hE 153 (by decide))) rfl rfl ⟨Nat.le_of_ble_eq_true rfl, Nat.le_of_ble_eq_true rfl⟩ (Nat.le_of_ble_eq_true rfl) ⟨rfl, rfl⟩ (lkk hk hn) ?_
      refine r_istore dL_law_3789 (by decide) rfl ?_
      refine r_aload_n dL_law_3791 rfl ?_
      have t9 := g3.t
      refine r_cV0 (rest := []) (ct_X10_thrown (n := 0) hs hE rfl) dL_law_3792 wd_1621 zX10_thrown wd_1622 wd_1623 rfl rfl rfl (fo10 (hE 153 (by decide))) rfl rfl ⟨Nat.le_of_ble_eq_true rfl, Nat.le_of_ble_eq_true rfl⟩ (Nat.le_of_ble_eq_true rfl) ⟨rfl, rfl⟩ (lkk hk hn) ?_
      refine r_iload dL_law_3795 rfl ?_
      refine r_icmp_eq (tgt := 3802) dL_law_3797 (by decide) (fun _ => ?_) (fun q => absurd t9 q)
      refine r_iload dL_law_3802 rfl ?_
      refine r_if_ne (tgt := 3826) dL_law_3804 (by decide) (fun _ => ?_) (fun q => absurd q (thA_ne E9))
      refine r_goto (tgt := 4357) dL_law_3826 (by decide) ?_
      exact r_mask [true, true, true, true, true, true, false, false, false] rfl (hx _ _ _ _ _ _ _ _ (R.tt' g3))
    · have g3 : v9.1 = b9.1 ∧ Rel T0 T1 v9.2 b9.2 ∧ b9.2 153 0 = 0 := g3
      refine r_aload_n dL_law_3738 rfl ?_
      refine s_arg (kq := 1) hL hi (by decide) (by decide) dL_law_3739 dL_law_3740 dL_law_3742 dL_law_3743 dL_law_3744 rfl rfl ?_
      refine s_arg (kq := 2) hL hi (by decide) (by decide) dL_law_3745 dL_law_3746 dL_law_3748 dL_law_3749 dL_law_3750 rfl rfl ?_
      refine r_if_eq (tgt := 3758) dL_law_3751 (by decide) (fun _ => ?_) (fun q => absurd hz q)
      refine r_iconst (v := (0 : Int32)) dL_law_3758 (by decide) ?_
      refine r_aload_n dL_law_3759 rfl ?_
      refine r_cSW1 (rest := []) (wo_setOn hs hE hT0 hT1 g1) dL_law_3760 wd_1436 zL_setOn wd_1437 rfl rfl rfl ⟨Nat.le_of_ble_eq_true rfl, Nat.le_of_ble_eq_true rfl⟩ (Nat.le_of_ble_eq_true rfl) ⟨lk hk rfl, lk hn rfl⟩ ?_
      refine r_widen (k2 := k + 64) (n2 := n + 64) (Nat.add_le_add_left (Nat.le_of_ble_eq_true rfl) _) (Nat.add_le_add_left (Nat.le_of_ble_eq_true rfl) _) ?_
      refine r_istore dL_law_3763 (by decide) rfl ?_
      refine r_aload_n dL_law_3765 rfl ?_
      refine s_arg (kq := 1) hL hi (by decide) (by decide) dL_law_3766 dL_law_3767 dL_law_3769 dL_law_3770 dL_law_3771 rfl rfl ?_
      refine s_arg (kq := 2) hL hi (by decide) (by decide) dL_law_3772 dL_law_3773 dL_law_3775 dL_law_3776 dL_law_3777 rfl rfl ?_
      refine r_if_eq (tgt := 3785) dL_law_3778 (by decide) (fun _ => ?_) (fun q => absurd hz q)
      refine r_iconst (v := (0 : Int32)) dL_law_3785 (by decide) ?_
      refine r_cV0 (rest := []) (ct_X10_setOn hs hE g2) dL_law_3786 wd_2184 zX10_setOn wd_2185 wd_2186 rfl rfl rfl (fo10 (hE 153 (by decide))) rfl rfl ⟨Nat.le_of_ble_eq_true rfl, Nat.le_of_ble_eq_true rfl⟩ (Nat.le_of_ble_eq_true rfl) ⟨rfl, rfl⟩ (lkk hk hn) ?_
      refine r_istore dL_law_3789 (by decide) rfl ?_
      refine r_aload_n dL_law_3791 rfl ?_
      have t9 := g3.2.2
      refine r_cV0 (rest := []) (ct_X10_thrown (n := 0) hs hE rfl) dL_law_3792 wd_1621 zX10_thrown wd_1622 wd_1623 rfl rfl rfl (fo10 (hE 153 (by decide))) rfl rfl ⟨Nat.le_of_ble_eq_true rfl, Nat.le_of_ble_eq_true rfl⟩ (Nat.le_of_ble_eq_true rfl) ⟨rfl, rfl⟩ (lkk hk hn) ?_
      refine r_iload dL_law_3795 rfl ?_
      refine r_icmp_eq (tgt := 3802) dL_law_3797 (by decide) (fun _ => ?_) (fun q => absurd t9 q)
      refine r_iload dL_law_3802 rfl ?_
      refine r_if_ne (tgt := 3826) dL_law_3804 (by decide) (fun q => absurd rfl q) (fun _ => ?_)
      refine r_aload_n dL_law_3807 rfl ?_
      refine r_iconst (v := (0 : Int32)) dL_law_3808 (by decide) ?_
      refine a_laldc 0 dL_law_3809 (hE 170 (by decide)) (vpc rfl) rfl ?_
      refine r_tl sJ_self ?_
      refine r_iload dL_law_3810 rfl ?_
      refine r_if_eq (tgt := 3819) dL_law_3812 (by decide) (fun z => ?_) (fun z => ?_)
      · refine r_lconst (v := (0 : Int64)) dL_law_3819 (by decide) ?_
        refine r_lcmp dL_law_3820 ?_
        refine r_ti (y := 0) ((lg_cmp_eq _ _).mpr (if_pos (g3.1.trans z))) ?_
        refine r_if_eq (tgt := 3826) dL_law_3821 (by decide) (fun _ => ?_) (fun q => absurd rfl q)
        refine r_goto (tgt := 4357) dL_law_3826 (by decide) ?_
        exact r_mask [true, true, true, true, true, true, false, false, false] rfl (hx _ _ _ _ _ _ _ _ (g3.2.1))
      · refine r_lconst (v := (1 : Int64)) dL_law_3815 (by decide) ?_
        refine r_goto (tgt := 3820) dL_law_3816 (by decide) ?_
        refine r_lcmp dL_law_3820 ?_
        refine r_ti (y := 0) ((lg_cmp_eq _ _).mpr (if_neg (fun q => z (g3.1.symm.trans q)))) ?_
        refine r_if_eq (tgt := 3826) dL_law_3821 (by decide) (fun _ => ?_) (fun q => absurd rfl q)
        refine r_goto (tgt := 4357) dL_law_3826 (by decide) ?_
        exact r_mask [true, true, true, true, true, true, false, false, false] rfl (hx _ _ _ _ _ _ _ _ (g3.2.1))
  · have hz : ¬ xs (i + 2) = 0 := hz
    obtain ⟨r9, b9, g1, g2, g3⟩ := e_setOn (n := 30000) (by decide) R (a1 := xs (i + 1)) (a2 := 1) (Or.inr rfl)
    rcases r9 with E9 | v9
    · have g3 : Tt K (thA E9) b9.2 := g3
      refine r_aload_n dL_law_3738 rfl ?_
      refine s_arg (kq := 1) hL hi (by decide) (by decide) dL_law_3739 dL_law_3740 dL_law_3742 dL_law_3743 dL_law_3744 rfl rfl ?_
      refine s_arg (kq := 2) hL hi (by decide) (by decide) dL_law_3745 dL_law_3746 dL_law_3748 dL_law_3749 dL_law_3750 rfl rfl ?_
      refine r_if_eq (tgt := 3758) dL_law_3751 (by decide) (fun q => absurd q hz) (fun _ => ?_)
      refine r_iconst (v := (1 : Int32)) dL_law_3754 (by decide) ?_
      refine r_goto (tgt := 3759) dL_law_3755 (by decide) ?_
      refine r_aload_n dL_law_3759 rfl ?_
      refine r_cSWs (rest := []) (we_setOn hs hE hT0 hT1 g1) dL_law_3760 wd_1436 zL_setOn wd_1437 rfl rfl rfl ⟨Nat.le_of_ble_eq_true rfl, Nat.le_of_ble_eq_true rfl⟩ (Nat.le_of_ble_eq_true rfl) ⟨lk hk rfl, lk hn rfl⟩ (fun sz9 => ?_)
      refine r_widen (k2 := k + 64) (n2 := n + 64) (Nat.add_le_add_left (Nat.le_of_ble_eq_true rfl) _) (Nat.add_le_add_left (Nat.le_of_ble_eq_true rfl) _) ?_
      refine r_istore dL_law_3763 (by decide) rfl ?_
      refine r_aload_n dL_law_3765 rfl ?_
      refine s_arg (kq := 1) hL hi (by decide) (by decide) dL_law_3766 dL_law_3767 dL_law_3769 dL_law_3770 dL_law_3771 rfl rfl ?_
      refine s_arg (kq := 2) hL hi (by decide) (by decide) dL_law_3772 dL_law_3773 dL_law_3775 dL_law_3776 dL_law_3777 rfl rfl ?_
      refine r_if_eq (tgt := 3785) dL_law_3778 (by decide) (fun q => absurd q hz) (fun _ => ?_)
      refine r_iconst (v := (1 : Int32)) dL_law_3781 (by decide) ?_
      refine r_goto (tgt := 3786) dL_law_3782 (by decide) ?_
      refine r_cV0 (rest := []) (ct_X10_setOn hs hE g2) dL_law_3786 wd_2184 zX10_setOn wd_2185 wd_2186 rfl rfl rfl (fo10 (hE 153 (by decide))) rfl rfl ⟨Nat.le_of_ble_eq_true rfl, Nat.le_of_ble_eq_true rfl⟩ (Nat.le_of_ble_eq_true rfl) ⟨rfl, rfl⟩ (lkk hk hn) ?_
      refine r_istore dL_law_3789 (by decide) rfl ?_
      refine r_aload_n dL_law_3791 rfl ?_
      have t9 := g3.t
      refine r_cV0 (rest := []) (ct_X10_thrown (n := 0) hs hE rfl) dL_law_3792 wd_1621 zX10_thrown wd_1622 wd_1623 rfl rfl rfl (fo10 (hE 153 (by decide))) rfl rfl ⟨Nat.le_of_ble_eq_true rfl, Nat.le_of_ble_eq_true rfl⟩ (Nat.le_of_ble_eq_true rfl) ⟨rfl, rfl⟩ (lkk hk hn) ?_
      refine r_iload dL_law_3795 rfl ?_
      refine r_icmp_eq (tgt := 3802) dL_law_3797 (by decide) (fun _ => ?_) (fun q => absurd t9 q)
      refine r_iload dL_law_3802 rfl ?_
      refine r_if_ne (tgt := 3826) dL_law_3804 (by decide) (fun _ => ?_) (fun q => absurd q (thA_ne E9))
      refine r_goto (tgt := 4357) dL_law_3826 (by decide) ?_
      exact r_mask [true, true, true, true, true, true, false, false, false] rfl (hx _ _ _ _ _ _ _ _ (R.tt' g3))
    · have g3 : v9.1 = b9.1 ∧ Rel T0 T1 v9.2 b9.2 ∧ b9.2 153 0 = 0 := g3
      refine r_aload_n dL_law_3738 rfl ?_
      refine s_arg (kq := 1) hL hi (by decide) (by decide) dL_law_3739 dL_law_3740 dL_law_3742 dL_law_3743 dL_law_3744 rfl rfl ?_
      refine s_arg (kq := 2) hL hi (by decide) (by decide) dL_law_3745 dL_law_3746 dL_law_3748 dL_law_3749 dL_law_3750 rfl rfl ?_
      refine r_if_eq (tgt := 3758) dL_law_3751 (by decide) (fun q => absurd q hz) (fun _ => ?_)
      refine r_iconst (v := (1 : Int32)) dL_law_3754 (by decide) ?_
      refine r_goto (tgt := 3759) dL_law_3755 (by decide) ?_
      refine r_aload_n dL_law_3759 rfl ?_
      refine r_cSW1 (rest := []) (wo_setOn hs hE hT0 hT1 g1) dL_law_3760 wd_1436 zL_setOn wd_1437 rfl rfl rfl ⟨Nat.le_of_ble_eq_true rfl, Nat.le_of_ble_eq_true rfl⟩ (Nat.le_of_ble_eq_true rfl) ⟨lk hk rfl, lk hn rfl⟩ ?_
      refine r_widen (k2 := k + 64) (n2 := n + 64) (Nat.add_le_add_left (Nat.le_of_ble_eq_true rfl) _) (Nat.add_le_add_left (Nat.le_of_ble_eq_true rfl) _) ?_
      refine r_istore dL_law_3763 (by decide) rfl ?_
      refine r_aload_n dL_law_3765 rfl ?_
      refine s_arg (kq := 1) hL hi (by decide) (by decide) dL_law_3766 dL_law_3767 dL_law_3769 dL_law_3770 dL_law_3771 rfl rfl ?_
      refine s_arg (kq := 2) hL hi (by decide) (by decide) dL_law_3772 dL_law_3773 dL_law_3775 dL_law_3776 dL_law_3777 rfl rfl ?_
      refine r_if_eq (tgt := 3785) dL_law_3778 (by decide) (fun q => absurd q hz) (fun _ => ?_)
      refine r_iconst (v := (1 : Int32)) dL_law_3781 (by decide) ?_
      refine r_goto (tgt := 3786) dL_law_3782 (by decide) ?_
      refine r_cV0 (rest := []) (ct_X10_setOn hs hE g2) dL_law_3786 wd_2184 zX10_setOn wd_2185 wd_2186 rfl rfl rfl (fo10 (hE 153 (by decide))) rfl rfl ⟨Nat.le_of_ble_eq_true rfl, Nat.le_of_ble_eq_true rfl⟩ (Nat.le_of_ble_eq_true rfl) ⟨rfl, rfl⟩ (lkk hk hn) ?_
      refine r_istore dL_law_3789 (by decide) rfl ?_
      refine r_aload_n dL_law_3791 rfl ?_
      have t9 := g3.2.2
      refine r_cV0 (rest := []) (ct_X10_thrown (n := 0) hs hE rfl) dL_law_3792 wd_1621 zX10_thrown wd_1622 wd_1623 rfl rfl rfl (fo10 (hE 153 (by decide))) rfl rfl ⟨Nat.le_of_ble_eq_true rfl, Nat.le_of_ble_eq_true rfl⟩ (Nat.le_of_ble_eq_true rfl) ⟨rfl, rfl⟩ (lkk hk hn) ?_
      refine r_iload dL_law_3795 rfl ?_
      refine r_icmp_eq (tgt := 3802) dL_law_3797 (by decide) (fun _ => ?_) (fun q => absurd t9 q)
      refine r_iload dL_law_3802 rfl ?_
      refine r_if_ne (tgt := 3826) dL_law_3804 (by decide) (fun q => absurd rfl q) (fun _ => ?_)
      refine r_aload_n dL_law_3807 rfl ?_
      refine r_iconst (v := (0 : Int32)) dL_law_3808 (by decide) ?_
      refine a_laldc 0 dL_law_3809 (hE 170 (by decide)) (vpc rfl) rfl ?_
      refine r_tl sJ_self ?_
      refine r_iload dL_law_3810 rfl ?_
      refine r_if_eq (tgt := 3819) dL_law_3812 (by decide) (fun z => ?_) (fun z => ?_)
      · refine r_lconst (v := (0 : Int64)) dL_law_3819 (by decide) ?_
        refine r_lcmp dL_law_3820 ?_
        refine r_ti (y := 0) ((lg_cmp_eq _ _).mpr (if_pos (g3.1.trans z))) ?_
        refine r_if_eq (tgt := 3826) dL_law_3821 (by decide) (fun _ => ?_) (fun q => absurd rfl q)
        refine r_goto (tgt := 4357) dL_law_3826 (by decide) ?_
        exact r_mask [true, true, true, true, true, true, false, false, false] rfl (hx _ _ _ _ _ _ _ _ (g3.2.1))
      · refine r_lconst (v := (1 : Int64)) dL_law_3815 (by decide) ?_
        refine r_goto (tgt := 3820) dL_law_3816 (by decide) ?_
        refine r_lcmp dL_law_3820 ?_
        refine r_ti (y := 0) ((lg_cmp_eq _ _).mpr (if_neg (fun q => z (g3.1.symm.trans q)))) ?_
        refine r_if_eq (tgt := 3826) dL_law_3821 (by decide) (fun _ => ?_) (fun q => absurd rfl q)
        refine r_goto (tgt := 4357) dL_law_3826 (by decide) ?_
        exact r_mask [true, true, true, true, true, true, false, false, false] rfl (hx _ _ _ _ _ _ _ _ (g3.2.1))
set_option maxHeartbeats 4000000 in
set_option maxRecDepth 100000 in
theorem lc_setPhase {G : gG} {b Lx i : Nat} {xs : Nat → Int32} {lay : Nat → Nat × Nat} {T0 T1 : Nat} {Dd : Nat → Nat → UInt64} {I : gI} {J : gJ} {K : gI} {N : gJ} {sz k n : Nat} (hs : G.1.stackTraces = false) (hE : gLay lay) (R : Rel T0 T1 I K) (hL : Lx ≤ 3072) (hi : i + 6 ≤ Lx) (hk : k + 64 ≤ 601024) (hn : n + 64 ≤ 7293034) (hx : lNx G b Lx xs lay i k n) : gAt G mL_law (lQ G b Lx xs) 3829 (lLL G b i) [] (fO G (lay, T0, T1, Dd) I J K N) sz k n := by
  have hT0 : gTank lay T0 := gTk hE (R.tt.elim (fun h => Or.inl h.1) (fun h => Or.inr h.1))
  have hT1 : gTank lay T1 := gTk hE (R.tt.elim (fun h => Or.inr h.2) (fun h => Or.inl h.2))
  obtain ⟨r9, b9, g1, g2, g3⟩ := e_setPhase (n := 30000) (by decide) R (xs (i + 1)) (xs (i + 2))
  rcases r9 with E9 | v9
  · have g3 : Tt K (thA E9) b9.2 := g3
    refine r_aload_n dL_law_3829 rfl ?_
    refine s_arg (kq := 1) hL hi (by decide) (by decide) dL_law_3830 dL_law_3831 dL_law_3833 dL_law_3834 dL_law_3835 rfl rfl ?_
    refine s_arg (kq := 2) hL hi (by decide) (by decide) dL_law_3836 dL_law_3837 dL_law_3839 dL_law_3840 dL_law_3841 rfl rfl ?_
    refine r_aload_n dL_law_3842 rfl ?_
    refine r_cSWs (rest := []) (we_setPhase hs hE hT0 hT1 g1) dL_law_3843 wd_1443 zL_setPhase wd_1444 rfl rfl rfl ⟨Nat.le_of_ble_eq_true rfl, Nat.le_of_ble_eq_true rfl⟩ (Nat.le_of_ble_eq_true rfl) ⟨lk hk rfl, lk hn rfl⟩ (fun sz9 => ?_)
    refine r_widen (k2 := k + 64) (n2 := n + 64) (Nat.add_le_add_left (Nat.le_of_ble_eq_true rfl) _) (Nat.add_le_add_left (Nat.le_of_ble_eq_true rfl) _) ?_
    refine r_istore dL_law_3846 (by decide) rfl ?_
    refine r_aload_n dL_law_3848 rfl ?_
    refine s_arg (kq := 1) hL hi (by decide) (by decide) dL_law_3849 dL_law_3850 dL_law_3852 dL_law_3853 dL_law_3854 rfl rfl ?_
    refine s_arg (kq := 2) hL hi (by decide) (by decide) dL_law_3855 dL_law_3856 dL_law_3858 dL_law_3859 dL_law_3860 rfl rfl ?_
    refine r_cV0 (rest := []) (ct_X10_setPhase hs hE g2) dL_law_3861 wd_2188 zX10_setPhase wd_2189 wd_2190 rfl rfl rfl (fo10 (hE 153 (by decide))) rfl rfl ⟨Nat.le_of_ble_eq_true rfl, Nat.le_of_ble_eq_true rfl⟩ (Nat.le_of_ble_eq_true rfl) ⟨rfl, rfl⟩ (lkk hk hn) ?_
    refine r_istore dL_law_3864 (by decide) rfl ?_
    refine r_aload_n dL_law_3866 rfl ?_
    have t9 := g3.t
    refine r_cV0 (rest := []) (ct_X10_thrown (n := 0) hs hE rfl) dL_law_3867 wd_1621 zX10_thrown wd_1622 wd_1623 rfl rfl rfl (fo10 (hE 153 (by decide))) rfl rfl ⟨Nat.le_of_ble_eq_true rfl, Nat.le_of_ble_eq_true rfl⟩ (Nat.le_of_ble_eq_true rfl) ⟨rfl, rfl⟩ (lkk hk hn) ?_
    refine r_iload dL_law_3870 rfl ?_
    refine r_icmp_eq (tgt := 3877) dL_law_3872 (by decide) (fun _ => ?_) (fun q => absurd t9 q)
    refine r_iload dL_law_3877 rfl ?_
    refine r_if_ne (tgt := 3894) dL_law_3879 (by decide) (fun _ => ?_) (fun q => absurd q (thA_ne E9))
    refine r_goto (tgt := 4357) dL_law_3894 (by decide) ?_
    exact r_mask [true, true, true, true, true, true, false, false, false] rfl (hx _ _ _ _ _ _ _ _ (R.tt' g3))
  · have g3 : v9.1 = b9.1 ∧ Rel T0 T1 v9.2 b9.2 ∧ b9.2 153 0 = 0 := g3
    refine r_aload_n dL_law_3829 rfl ?_
    refine s_arg (kq := 1) hL hi (by decide) (by decide) dL_law_3830 dL_law_3831 dL_law_3833 dL_law_3834 dL_law_3835 rfl rfl ?_
    refine s_arg (kq := 2) hL hi (by decide) (by decide) dL_law_3836 dL_law_3837 dL_law_3839 dL_law_3840 dL_law_3841 rfl rfl ?_
    refine r_aload_n dL_law_3842 rfl ?_
    refine r_cSW1 (rest := []) (wo_setPhase hs hE hT0 hT1 g1) dL_law_3843 wd_1443 zL_setPhase wd_1444 rfl rfl rfl ⟨Nat.le_of_ble_eq_true rfl, Nat.le_of_ble_eq_true rfl⟩ (Nat.le_of_ble_eq_true rfl) ⟨lk hk rfl, lk hn rfl⟩ ?_
    refine r_widen (k2 := k + 64) (n2 := n + 64) (Nat.add_le_add_left (Nat.le_of_ble_eq_true rfl) _) (Nat.add_le_add_left (Nat.le_of_ble_eq_true rfl) _) ?_
    refine r_istore dL_law_3846 (by decide) rfl ?_
    refine r_aload_n dL_law_3848 rfl ?_
    refine s_arg (kq := 1) hL hi (by decide) (by decide) dL_law_3849 dL_law_3850 dL_law_3852 dL_law_3853 dL_law_3854 rfl rfl ?_
    refine s_arg (kq := 2) hL hi (by decide) (by decide) dL_law_3855 dL_law_3856 dL_law_3858 dL_law_3859 dL_law_3860 rfl rfl ?_
    refine r_cV0 (rest := []) (ct_X10_setPhase hs hE g2) dL_law_3861 wd_2188 zX10_setPhase wd_2189 wd_2190 rfl rfl rfl (fo10 (hE 153 (by decide))) rfl rfl ⟨Nat.le_of_ble_eq_true rfl, Nat.le_of_ble_eq_true rfl⟩ (Nat.le_of_ble_eq_true rfl) ⟨rfl, rfl⟩ (lkk hk hn) ?_
    refine r_istore dL_law_3864 (by decide) rfl ?_
    refine r_aload_n dL_law_3866 rfl ?_
    have t9 := g3.2.2
    refine r_cV0 (rest := []) (ct_X10_thrown (n := 0) hs hE rfl) dL_law_3867 wd_1621 zX10_thrown wd_1622 wd_1623 rfl rfl rfl (fo10 (hE 153 (by decide))) rfl rfl ⟨Nat.le_of_ble_eq_true rfl, Nat.le_of_ble_eq_true rfl⟩ (Nat.le_of_ble_eq_true rfl) ⟨rfl, rfl⟩ (lkk hk hn) ?_
    refine r_iload dL_law_3870 rfl ?_
    refine r_icmp_eq (tgt := 3877) dL_law_3872 (by decide) (fun _ => ?_) (fun q => absurd t9 q)
    refine r_iload dL_law_3877 rfl ?_
    refine r_if_ne (tgt := 3894) dL_law_3879 (by decide) (fun q => absurd rfl q) (fun _ => ?_)
    refine r_aload_n dL_law_3882 rfl ?_
    refine r_iconst (v := (0 : Int32)) dL_law_3883 (by decide) ?_
    refine a_laldc 0 dL_law_3884 (hE 170 (by decide)) (vpc rfl) rfl ?_
    refine r_tl sJ_self ?_
    refine r_iload dL_law_3885 rfl ?_
    refine r_i2l dL_law_3887 ?_
    refine r_lcmp dL_law_3888 ?_
    refine r_ti (y := 0) ((lg_cmp_eq _ _).mpr (congrArg Int32.toInt64 g3.1)) ?_
    refine r_if_eq (tgt := 3894) dL_law_3889 (by decide) (fun _ => ?_) (fun q => absurd rfl q)
    refine r_goto (tgt := 4357) dL_law_3894 (by decide) ?_
    exact r_mask [true, true, true, true, true, true, false, false, false] rfl (hx _ _ _ _ _ _ _ _ (g3.2.1))
set_option maxHeartbeats 4000000 in
set_option maxRecDepth 100000 in
theorem lc_setAmp {G : gG} {b Lx i : Nat} {xs : Nat → Int32} {lay : Nat → Nat × Nat} {T0 T1 : Nat} {Dd : Nat → Nat → UInt64} {I : gI} {J : gJ} {K : gI} {N : gJ} {sz k n : Nat} (hs : G.1.stackTraces = false) (hE : gLay lay) (R : Rel T0 T1 I K) (hL : Lx ≤ 3072) (hi : i + 6 ≤ Lx) (hk : k + 64 ≤ 601024) (hn : n + 64 ≤ 7293034) (hx : lNx G b Lx xs lay i k n) : gAt G mL_law (lQ G b Lx xs) 3897 (lLL G b i) [] (fO G (lay, T0, T1, Dd) I J K N) sz k n := by
  have hT0 : gTank lay T0 := gTk hE (R.tt.elim (fun h => Or.inl h.1) (fun h => Or.inr h.1))
  have hT1 : gTank lay T1 := gTk hE (R.tt.elim (fun h => Or.inr h.2) (fun h => Or.inl h.2))
  obtain ⟨r9, b9, g1, g2, g3⟩ := e_setAmp (n := 30000) (by decide) R (xs (i + 1)) (xs (i + 2))
  rcases r9 with E9 | v9
  · have g3 : Tt K (thA E9) b9.2 := g3
    refine r_aload_n dL_law_3897 rfl ?_
    refine s_arg (kq := 1) hL hi (by decide) (by decide) dL_law_3898 dL_law_3899 dL_law_3901 dL_law_3902 dL_law_3903 rfl rfl ?_
    refine s_arg (kq := 2) hL hi (by decide) (by decide) dL_law_3904 dL_law_3905 dL_law_3907 dL_law_3908 dL_law_3909 rfl rfl ?_
    refine r_aload_n dL_law_3910 rfl ?_
    refine r_cSWs (rest := []) (we_setAmp hs hE hT0 hT1 g1) dL_law_3911 wd_1450 zL_setAmp wd_1451 rfl rfl rfl ⟨Nat.le_of_ble_eq_true rfl, Nat.le_of_ble_eq_true rfl⟩ (Nat.le_of_ble_eq_true rfl) ⟨lk hk rfl, lk hn rfl⟩ (fun sz9 => ?_)
    refine r_widen (k2 := k + 64) (n2 := n + 64) (Nat.add_le_add_left (Nat.le_of_ble_eq_true rfl) _) (Nat.add_le_add_left (Nat.le_of_ble_eq_true rfl) _) ?_
    refine r_istore dL_law_3914 (by decide) rfl ?_
    refine r_aload_n dL_law_3916 rfl ?_
    refine s_arg (kq := 1) hL hi (by decide) (by decide) dL_law_3917 dL_law_3918 dL_law_3920 dL_law_3921 dL_law_3922 rfl rfl ?_
    refine s_arg (kq := 2) hL hi (by decide) (by decide) dL_law_3923 dL_law_3924 dL_law_3926 dL_law_3927 dL_law_3928 rfl rfl ?_
    refine r_cV0 (rest := []) (ct_X10_setAmp hs hE g2) dL_law_3929 wd_2192 zX10_setAmp wd_2193 wd_2194 rfl rfl rfl (fo10 (hE 153 (by decide))) rfl rfl ⟨Nat.le_of_ble_eq_true rfl, Nat.le_of_ble_eq_true rfl⟩ (Nat.le_of_ble_eq_true rfl) ⟨rfl, rfl⟩ (lkk hk hn) ?_
    refine r_istore dL_law_3932 (by decide) rfl ?_
    refine r_aload_n dL_law_3934 rfl ?_
    have t9 := g3.t
    refine r_cV0 (rest := []) (ct_X10_thrown (n := 0) hs hE rfl) dL_law_3935 wd_1621 zX10_thrown wd_1622 wd_1623 rfl rfl rfl (fo10 (hE 153 (by decide))) rfl rfl ⟨Nat.le_of_ble_eq_true rfl, Nat.le_of_ble_eq_true rfl⟩ (Nat.le_of_ble_eq_true rfl) ⟨rfl, rfl⟩ (lkk hk hn) ?_
    refine r_iload dL_law_3938 rfl ?_
    refine r_icmp_eq (tgt := 3945) dL_law_3940 (by decide) (fun _ => ?_) (fun q => absurd t9 q)
    refine r_iload dL_law_3945 rfl ?_
    refine r_if_ne (tgt := 3962) dL_law_3947 (by decide) (fun _ => ?_) (fun q => absurd q (thA_ne E9))
    refine r_goto (tgt := 4357) dL_law_3962 (by decide) ?_
    exact r_mask [true, true, true, true, true, true, false, false, false] rfl (hx _ _ _ _ _ _ _ _ (R.tt' g3))
  · have g3 : v9.1 = b9.1 ∧ Rel T0 T1 v9.2 b9.2 ∧ b9.2 153 0 = 0 := g3
    refine r_aload_n dL_law_3897 rfl ?_
    refine s_arg (kq := 1) hL hi (by decide) (by decide) dL_law_3898 dL_law_3899 dL_law_3901 dL_law_3902 dL_law_3903 rfl rfl ?_
    refine s_arg (kq := 2) hL hi (by decide) (by decide) dL_law_3904 dL_law_3905 dL_law_3907 dL_law_3908 dL_law_3909 rfl rfl ?_
    refine r_aload_n dL_law_3910 rfl ?_
    refine r_cSW1 (rest := []) (wo_setAmp hs hE hT0 hT1 g1) dL_law_3911 wd_1450 zL_setAmp wd_1451 rfl rfl rfl ⟨Nat.le_of_ble_eq_true rfl, Nat.le_of_ble_eq_true rfl⟩ (Nat.le_of_ble_eq_true rfl) ⟨lk hk rfl, lk hn rfl⟩ ?_
    refine r_widen (k2 := k + 64) (n2 := n + 64) (Nat.add_le_add_left (Nat.le_of_ble_eq_true rfl) _) (Nat.add_le_add_left (Nat.le_of_ble_eq_true rfl) _) ?_
    refine r_istore dL_law_3914 (by decide) rfl ?_
    refine r_aload_n dL_law_3916 rfl ?_
    refine s_arg (kq := 1) hL hi (by decide) (by decide) dL_law_3917 dL_law_3918 dL_law_3920 dL_law_3921 dL_law_3922 rfl rfl ?_
    refine s_arg (kq := 2) hL hi (by decide) (by decide) dL_law_3923 dL_law_3924 dL_law_3926 dL_law_3927 dL_law_3928 rfl rfl ?_
    refine r_cV0 (rest := []) (ct_X10_setAmp hs hE g2) dL_law_3929 wd_2192 zX10_setAmp wd_2193 wd_2194 rfl rfl rfl (fo10 (hE 153 (by decide))) rfl rfl ⟨Nat.le_of_ble_eq_true rfl, Nat.le_of_ble_eq_true rfl⟩ (Nat.le_of_ble_eq_true rfl) ⟨rfl, rfl⟩ (lkk hk hn) ?_
    refine r_istore dL_law_3932 (by decide) rfl ?_
    refine r_aload_n dL_law_3934 rfl ?_
    have t9 := g3.2.2
    refine r_cV0 (rest := []) (ct_X10_thrown (n := 0) hs hE rfl) dL_law_3935 wd_1621 zX10_thrown wd_1622 wd_1623 rfl rfl rfl (fo10 (hE 153 (by decide))) rfl rfl ⟨Nat.le_of_ble_eq_true rfl, Nat.le_of_ble_eq_true rfl⟩ (Nat.le_of_ble_eq_true rfl) ⟨rfl, rfl⟩ (lkk hk hn) ?_
    refine r_iload dL_law_3938 rfl ?_
    refine r_icmp_eq (tgt := 3945) dL_law_3940 (by decide) (fun _ => ?_) (fun q => absurd t9 q)
    refine r_iload dL_law_3945 rfl ?_
    refine r_if_ne (tgt := 3962) dL_law_3947 (by decide) (fun q => absurd rfl q) (fun _ => ?_)
    refine r_aload_n dL_law_3950 rfl ?_
    refine r_iconst (v := (0 : Int32)) dL_law_3951 (by decide) ?_
    refine a_laldc 0 dL_law_3952 (hE 170 (by decide)) (vpc rfl) rfl ?_
    refine r_tl sJ_self ?_
    refine r_iload dL_law_3953 rfl ?_
    refine r_i2l dL_law_3955 ?_
    refine r_lcmp dL_law_3956 ?_
    refine r_ti (y := 0) ((lg_cmp_eq _ _).mpr (congrArg Int32.toInt64 g3.1)) ?_
    refine r_if_eq (tgt := 3962) dL_law_3957 (by decide) (fun _ => ?_) (fun q => absurd rfl q)
    refine r_goto (tgt := 4357) dL_law_3962 (by decide) ?_
    exact r_mask [true, true, true, true, true, true, false, false, false] rfl (hx _ _ _ _ _ _ _ _ (g3.2.1))
set_option maxHeartbeats 4000000 in
set_option maxRecDepth 100000 in
theorem lc_moveSource {G : gG} {b Lx i : Nat} {xs : Nat → Int32} {lay : Nat → Nat × Nat} {T0 T1 : Nat} {Dd : Nat → Nat → UInt64} {I : gI} {J : gJ} {K : gI} {N : gJ} {sz k n : Nat} (hs : G.1.stackTraces = false) (hE : gLay lay) (R : Rel T0 T1 I K) (hL : Lx ≤ 3072) (hi : i + 6 ≤ Lx) (hk : k + 64 ≤ 601024) (hn : n + 64 ≤ 7293034) (hx : lNx G b Lx xs lay i k n) : gAt G mL_law (lQ G b Lx xs) 3965 (lLL G b i) [] (fO G (lay, T0, T1, Dd) I J K N) sz k n := by
  have hT0 : gTank lay T0 := gTk hE (R.tt.elim (fun h => Or.inl h.1) (fun h => Or.inr h.1))
  have hT1 : gTank lay T1 := gTk hE (R.tt.elim (fun h => Or.inr h.2) (fun h => Or.inl h.2))
  obtain ⟨r9, b9, g1, g2, g3⟩ := e_moveSource (n := 30000) (by decide) R (xs (i + 1)) (xs (i + 2)) (xs (i + 3))
  rcases r9 with E9 | v9
  · have g3 : Tt K (thA E9) b9.2 := g3
    refine r_aload_n dL_law_3965 rfl ?_
    refine s_arg (kq := 1) hL hi (by decide) (by decide) dL_law_3966 dL_law_3967 dL_law_3969 dL_law_3970 dL_law_3971 rfl rfl ?_
    refine s_arg (kq := 2) hL hi (by decide) (by decide) dL_law_3972 dL_law_3973 dL_law_3975 dL_law_3976 dL_law_3977 rfl rfl ?_
    refine s_arg (kq := 3) hL hi (by decide) (by decide) dL_law_3978 dL_law_3979 dL_law_3981 dL_law_3982 dL_law_3983 rfl rfl ?_
    refine r_aload_n dL_law_3984 rfl ?_
    refine r_cSWs (rest := []) (we_moveSource hs hE hT0 hT1 g1) dL_law_3985 wd_1457 zL_moveSource wd_1458 rfl rfl rfl ⟨Nat.le_of_ble_eq_true rfl, Nat.le_of_ble_eq_true rfl⟩ (Nat.le_of_ble_eq_true rfl) ⟨lk hk rfl, lk hn rfl⟩ (fun sz9 => ?_)
    refine r_widen (k2 := k + 64) (n2 := n + 64) (Nat.add_le_add_left (Nat.le_of_ble_eq_true rfl) _) (Nat.add_le_add_left (Nat.le_of_ble_eq_true rfl) _) ?_
    refine r_istore dL_law_3988 (by decide) rfl ?_
    refine r_aload_n dL_law_3990 rfl ?_
    refine s_arg (kq := 1) hL hi (by decide) (by decide) dL_law_3991 dL_law_3992 dL_law_3994 dL_law_3995 dL_law_3996 rfl rfl ?_
    refine s_arg (kq := 2) hL hi (by decide) (by decide) dL_law_3997 dL_law_3998 dL_law_4000 dL_law_4001 dL_law_4002 rfl rfl ?_
    refine s_arg (kq := 3) hL hi (by decide) (by decide) dL_law_4003 dL_law_4004 dL_law_4006 dL_law_4007 dL_law_4008 rfl rfl ?_
    refine r_cV0 (rest := []) (ct_X10_moveSource hs hE g2) dL_law_4009 wd_2196 zX10_moveSource wd_2197 wd_2198 rfl rfl rfl (fo10 (hE 153 (by decide))) rfl rfl ⟨Nat.le_of_ble_eq_true rfl, Nat.le_of_ble_eq_true rfl⟩ (Nat.le_of_ble_eq_true rfl) ⟨rfl, rfl⟩ (lkk hk hn) ?_
    refine r_istore dL_law_4012 (by decide) rfl ?_
    refine r_aload_n dL_law_4014 rfl ?_
    have t9 := g3.t
    refine r_cV0 (rest := []) (ct_X10_thrown (n := 0) hs hE rfl) dL_law_4015 wd_1621 zX10_thrown wd_1622 wd_1623 rfl rfl rfl (fo10 (hE 153 (by decide))) rfl rfl ⟨Nat.le_of_ble_eq_true rfl, Nat.le_of_ble_eq_true rfl⟩ (Nat.le_of_ble_eq_true rfl) ⟨rfl, rfl⟩ (lkk hk hn) ?_
    refine r_iload dL_law_4018 rfl ?_
    refine r_icmp_eq (tgt := 4025) dL_law_4020 (by decide) (fun _ => ?_) (fun q => absurd t9 q)
    refine r_iload dL_law_4025 rfl ?_
    refine r_if_ne (tgt := 4042) dL_law_4027 (by decide) (fun _ => ?_) (fun q => absurd q (thA_ne E9))
    refine r_goto (tgt := 4357) dL_law_4042 (by decide) ?_
    exact r_mask [true, true, true, true, true, true, false, false, false] rfl (hx _ _ _ _ _ _ _ _ (R.tt' g3))
  · have g3 : v9.1 = b9.1 ∧ Rel T0 T1 v9.2 b9.2 ∧ b9.2 153 0 = 0 := g3
    refine r_aload_n dL_law_3965 rfl ?_
    refine s_arg (kq := 1) hL hi (by decide) (by decide) dL_law_3966 dL_law_3967 dL_law_3969 dL_law_3970 dL_law_3971 rfl rfl ?_
    refine s_arg (kq := 2) hL hi (by decide) (by decide) dL_law_3972 dL_law_3973 dL_law_3975 dL_law_3976 dL_law_3977 rfl rfl ?_
    refine s_arg (kq := 3) hL hi (by decide) (by decide) dL_law_3978 dL_law_3979 dL_law_3981 dL_law_3982 dL_law_3983 rfl rfl ?_
    refine r_aload_n dL_law_3984 rfl ?_
    refine r_cSW1 (rest := []) (wo_moveSource hs hE hT0 hT1 g1) dL_law_3985 wd_1457 zL_moveSource wd_1458 rfl rfl rfl ⟨Nat.le_of_ble_eq_true rfl, Nat.le_of_ble_eq_true rfl⟩ (Nat.le_of_ble_eq_true rfl) ⟨lk hk rfl, lk hn rfl⟩ ?_
    refine r_widen (k2 := k + 64) (n2 := n + 64) (Nat.add_le_add_left (Nat.le_of_ble_eq_true rfl) _) (Nat.add_le_add_left (Nat.le_of_ble_eq_true rfl) _) ?_
    refine r_istore dL_law_3988 (by decide) rfl ?_
    refine r_aload_n dL_law_3990 rfl ?_
    refine s_arg (kq := 1) hL hi (by decide) (by decide) dL_law_3991 dL_law_3992 dL_law_3994 dL_law_3995 dL_law_3996 rfl rfl ?_
    refine s_arg (kq := 2) hL hi (by decide) (by decide) dL_law_3997 dL_law_3998 dL_law_4000 dL_law_4001 dL_law_4002 rfl rfl ?_
    refine s_arg (kq := 3) hL hi (by decide) (by decide) dL_law_4003 dL_law_4004 dL_law_4006 dL_law_4007 dL_law_4008 rfl rfl ?_
    refine r_cV0 (rest := []) (ct_X10_moveSource hs hE g2) dL_law_4009 wd_2196 zX10_moveSource wd_2197 wd_2198 rfl rfl rfl (fo10 (hE 153 (by decide))) rfl rfl ⟨Nat.le_of_ble_eq_true rfl, Nat.le_of_ble_eq_true rfl⟩ (Nat.le_of_ble_eq_true rfl) ⟨rfl, rfl⟩ (lkk hk hn) ?_
    refine r_istore dL_law_4012 (by decide) rfl ?_
    refine r_aload_n dL_law_4014 rfl ?_
    have t9 := g3.2.2
    refine r_cV0 (rest := []) (ct_X10_thrown (n := 0) hs hE rfl) dL_law_4015 wd_1621 zX10_thrown wd_1622 wd_1623 rfl rfl rfl (fo10 (hE 153 (by decide))) rfl rfl ⟨Nat.le_of_ble_eq_true rfl, Nat.le_of_ble_eq_true rfl⟩ (Nat.le_of_ble_eq_true rfl) ⟨rfl, rfl⟩ (lkk hk hn) ?_
    refine r_iload dL_law_4018 rfl ?_
    refine r_icmp_eq (tgt := 4025) dL_law_4020 (by decide) (fun _ => ?_) (fun q => absurd t9 q)
    refine r_iload dL_law_4025 rfl ?_
    refine r_if_ne (tgt := 4042) dL_law_4027 (by decide) (fun q => absurd rfl q) (fun _ => ?_)
    refine r_aload_n dL_law_4030 rfl ?_
    refine r_iconst (v := (0 : Int32)) dL_law_4031 (by decide) ?_
    refine a_laldc 0 dL_law_4032 (hE 170 (by decide)) (vpc rfl) rfl ?_
    refine r_tl sJ_self ?_
    refine r_iload dL_law_4033 rfl ?_
    refine r_i2l dL_law_4035 ?_
    refine r_lcmp dL_law_4036 ?_
    refine r_ti (y := 0) ((lg_cmp_eq _ _).mpr (congrArg Int32.toInt64 g3.1)) ?_
    refine r_if_eq (tgt := 4042) dL_law_4037 (by decide) (fun _ => ?_) (fun q => absurd rfl q)
    refine r_goto (tgt := 4357) dL_law_4042 (by decide) ?_
    exact r_mask [true, true, true, true, true, true, false, false, false] rfl (hx _ _ _ _ _ _ _ _ (g3.2.1))
set_option maxHeartbeats 4000000 in
set_option maxRecDepth 100000 in
theorem lc_setDrift {G : gG} {b Lx i : Nat} {xs : Nat → Int32} {lay : Nat → Nat × Nat} {T0 T1 : Nat} {Dd : Nat → Nat → UInt64} {I : gI} {J : gJ} {K : gI} {N : gJ} {sz k n : Nat} (hs : G.1.stackTraces = false) (hE : gLay lay) (R : Rel T0 T1 I K) (hL : Lx ≤ 3072) (hi : i + 6 ≤ Lx) (hk : k + 64 ≤ 601024) (hn : n + 64 ≤ 7293034) (hx : lNx G b Lx xs lay i k n) : gAt G mL_law (lQ G b Lx xs) 4045 (lLL G b i) [] (fO G (lay, T0, T1, Dd) I J K N) sz k n := by
  have hT0 : gTank lay T0 := gTk hE (R.tt.elim (fun h => Or.inl h.1) (fun h => Or.inr h.1))
  have hT1 : gTank lay T1 := gTk hE (R.tt.elim (fun h => Or.inr h.2) (fun h => Or.inl h.2))
  obtain ⟨r9, b9, g1, g2, g3⟩ := e_setDrift (n := 30000) (by decide) R (xs (i + 1)) (xs (i + 2)) (xs (i + 3))
  rcases r9 with E9 | v9
  · have g3 : Tt K (thA E9) b9.2 := g3
    refine r_aload_n dL_law_4045 rfl ?_
    refine s_arg (kq := 1) hL hi (by decide) (by decide) dL_law_4046 dL_law_4047 dL_law_4049 dL_law_4050 dL_law_4051 rfl rfl ?_
    refine s_arg (kq := 2) hL hi (by decide) (by decide) dL_law_4052 dL_law_4053 dL_law_4055 dL_law_4056 dL_law_4057 rfl rfl ?_
    refine s_arg (kq := 3) hL hi (by decide) (by decide) dL_law_4058 dL_law_4059 dL_law_4061 dL_law_4062 dL_law_4063 rfl rfl ?_
    refine r_aload_n dL_law_4064 rfl ?_
    refine r_cSWs (rest := []) (we_setDrift hs hE hT0 hT1 g1) dL_law_4065 wd_1469 zL_setDrift wd_1470 rfl rfl rfl ⟨Nat.le_of_ble_eq_true rfl, Nat.le_of_ble_eq_true rfl⟩ (Nat.le_of_ble_eq_true rfl) ⟨lk hk rfl, lk hn rfl⟩ (fun sz9 => ?_)
    refine r_widen (k2 := k + 64) (n2 := n + 64) (Nat.add_le_add_left (Nat.le_of_ble_eq_true rfl) _) (Nat.add_le_add_left (Nat.le_of_ble_eq_true rfl) _) ?_
    refine r_istore dL_law_4068 (by decide) rfl ?_
    refine r_aload_n dL_law_4070 rfl ?_
    refine s_arg (kq := 1) hL hi (by decide) (by decide) dL_law_4071 dL_law_4072 dL_law_4074 dL_law_4075 dL_law_4076 rfl rfl ?_
    refine s_arg (kq := 2) hL hi (by decide) (by decide) dL_law_4077 dL_law_4078 dL_law_4080 dL_law_4081 dL_law_4082 rfl rfl ?_
    refine s_arg (kq := 3) hL hi (by decide) (by decide) dL_law_4083 dL_law_4084 dL_law_4086 dL_law_4087 dL_law_4088 rfl rfl ?_
    refine r_cV0 (rest := []) (ct_X10_setDrift hs hE g2) dL_law_4089 wd_2204 zX10_setDrift wd_2205 wd_2206 rfl rfl rfl (fo10 (hE 153 (by decide))) rfl rfl ⟨Nat.le_of_ble_eq_true rfl, Nat.le_of_ble_eq_true rfl⟩ (Nat.le_of_ble_eq_true rfl) ⟨rfl, rfl⟩ (lkk hk hn) ?_
    refine r_istore dL_law_4092 (by decide) rfl ?_
    refine r_aload_n dL_law_4094 rfl ?_
    have t9 := g3.t
    refine r_cV0 (rest := []) (ct_X10_thrown (n := 0) hs hE rfl) dL_law_4095 wd_1621 zX10_thrown wd_1622 wd_1623 rfl rfl rfl (fo10 (hE 153 (by decide))) rfl rfl ⟨Nat.le_of_ble_eq_true rfl, Nat.le_of_ble_eq_true rfl⟩ (Nat.le_of_ble_eq_true rfl) ⟨rfl, rfl⟩ (lkk hk hn) ?_
    refine r_iload dL_law_4098 rfl ?_
    refine r_icmp_eq (tgt := 4105) dL_law_4100 (by decide) (fun _ => ?_) (fun q => absurd t9 q)
    refine r_iload dL_law_4105 rfl ?_
    refine r_if_ne (tgt := 4122) dL_law_4107 (by decide) (fun _ => ?_) (fun q => absurd q (thA_ne E9))
    refine r_goto (tgt := 4357) dL_law_4122 (by decide) ?_
    exact r_mask [true, true, true, true, true, true, false, false, false] rfl (hx _ _ _ _ _ _ _ _ (R.tt' g3))
  · have g3 : v9.1 = b9.1 ∧ Rel T0 T1 v9.2 b9.2 ∧ b9.2 153 0 = 0 := g3
    refine r_aload_n dL_law_4045 rfl ?_
    refine s_arg (kq := 1) hL hi (by decide) (by decide) dL_law_4046 dL_law_4047 dL_law_4049 dL_law_4050 dL_law_4051 rfl rfl ?_
    refine s_arg (kq := 2) hL hi (by decide) (by decide) dL_law_4052 dL_law_4053 dL_law_4055 dL_law_4056 dL_law_4057 rfl rfl ?_
    refine s_arg (kq := 3) hL hi (by decide) (by decide) dL_law_4058 dL_law_4059 dL_law_4061 dL_law_4062 dL_law_4063 rfl rfl ?_
    refine r_aload_n dL_law_4064 rfl ?_
    refine r_cSW1 (rest := []) (wo_setDrift hs hE hT0 hT1 g1) dL_law_4065 wd_1469 zL_setDrift wd_1470 rfl rfl rfl ⟨Nat.le_of_ble_eq_true rfl, Nat.le_of_ble_eq_true rfl⟩ (Nat.le_of_ble_eq_true rfl) ⟨lk hk rfl, lk hn rfl⟩ ?_
    refine r_widen (k2 := k + 64) (n2 := n + 64) (Nat.add_le_add_left (Nat.le_of_ble_eq_true rfl) _) (Nat.add_le_add_left (Nat.le_of_ble_eq_true rfl) _) ?_
    refine r_istore dL_law_4068 (by decide) rfl ?_
    refine r_aload_n dL_law_4070 rfl ?_
    refine s_arg (kq := 1) hL hi (by decide) (by decide) dL_law_4071 dL_law_4072 dL_law_4074 dL_law_4075 dL_law_4076 rfl rfl ?_
    refine s_arg (kq := 2) hL hi (by decide) (by decide) dL_law_4077 dL_law_4078 dL_law_4080 dL_law_4081 dL_law_4082 rfl rfl ?_
    refine s_arg (kq := 3) hL hi (by decide) (by decide) dL_law_4083 dL_law_4084 dL_law_4086 dL_law_4087 dL_law_4088 rfl rfl ?_
    refine r_cV0 (rest := []) (ct_X10_setDrift hs hE g2) dL_law_4089 wd_2204 zX10_setDrift wd_2205 wd_2206 rfl rfl rfl (fo10 (hE 153 (by decide))) rfl rfl ⟨Nat.le_of_ble_eq_true rfl, Nat.le_of_ble_eq_true rfl⟩ (Nat.le_of_ble_eq_true rfl) ⟨rfl, rfl⟩ (lkk hk hn) ?_
    refine r_istore dL_law_4092 (by decide) rfl ?_
    refine r_aload_n dL_law_4094 rfl ?_
    have t9 := g3.2.2
    refine r_cV0 (rest := []) (ct_X10_thrown (n := 0) hs hE rfl) dL_law_4095 wd_1621 zX10_thrown wd_1622 wd_1623 rfl rfl rfl (fo10 (hE 153 (by decide))) rfl rfl ⟨Nat.le_of_ble_eq_true rfl, Nat.le_of_ble_eq_true rfl⟩ (Nat.le_of_ble_eq_true rfl) ⟨rfl, rfl⟩ (lkk hk hn) ?_
    refine r_iload dL_law_4098 rfl ?_
    refine r_icmp_eq (tgt := 4105) dL_law_4100 (by decide) (fun _ => ?_) (fun q => absurd t9 q)
    refine r_iload dL_law_4105 rfl ?_
    refine r_if_ne (tgt := 4122) dL_law_4107 (by decide) (fun q => absurd rfl q) (fun _ => ?_)
    refine r_aload_n dL_law_4110 rfl ?_
    refine r_iconst (v := (0 : Int32)) dL_law_4111 (by decide) ?_
    refine a_laldc 0 dL_law_4112 (hE 170 (by decide)) (vpc rfl) rfl ?_
    refine r_tl sJ_self ?_
    refine r_iload dL_law_4113 rfl ?_
    refine r_i2l dL_law_4115 ?_
    refine r_lcmp dL_law_4116 ?_
    refine r_ti (y := 0) ((lg_cmp_eq _ _).mpr (congrArg Int32.toInt64 g3.1)) ?_
    refine r_if_eq (tgt := 4122) dL_law_4117 (by decide) (fun _ => ?_) (fun q => absurd rfl q)
    refine r_goto (tgt := 4357) dL_law_4122 (by decide) ?_
    exact r_mask [true, true, true, true, true, true, false, false, false] rfl (hx _ _ _ _ _ _ _ _ (g3.2.1))
set_option maxHeartbeats 4000000 in
set_option maxRecDepth 100000 in
theorem lc_turnRow {G : gG} {b Lx i : Nat} {xs : Nat → Int32} {lay : Nat → Nat × Nat} {T0 T1 : Nat} {Dd : Nat → Nat → UInt64} {I : gI} {J : gJ} {K : gI} {N : gJ} {sz k n : Nat} (hs : G.1.stackTraces = false) (hE : gLay lay) (R : Rel T0 T1 I K) (hL : Lx ≤ 3072) (hi : i + 6 ≤ Lx) (hk : k + 64 ≤ 601024) (hn : n + 64 ≤ 7293034) (hx : lNx G b Lx xs lay i k n) : gAt G mL_law (lQ G b Lx xs) 4125 (lLL G b i) [] (fO G (lay, T0, T1, Dd) I J K N) sz k n := by
  have hT0 : gTank lay T0 := gTk hE (R.tt.elim (fun h => Or.inl h.1) (fun h => Or.inr h.1))
  have hT1 : gTank lay T1 := gTk hE (R.tt.elim (fun h => Or.inr h.2) (fun h => Or.inl h.2))
  obtain ⟨r9, b9, g1, g2, g3⟩ := e_turnRow (n := 30000) (by decide) R (xs (i + 1))
  rcases r9 with E9 | v9
  · have g3 : Tt K (thA E9) b9.2 := g3
    refine r_aload_n dL_law_4125 rfl ?_
    refine s_arg (kq := 1) hL hi (by decide) (by decide) dL_law_4126 dL_law_4127 dL_law_4129 dL_law_4130 dL_law_4131 rfl rfl ?_
    refine r_aload_n dL_law_4132 rfl ?_
    refine r_cSWs (rest := []) (we_turnRow hs hE hT0 hT1 g1) dL_law_4133 wd_1476 zL_turnRow wd_1477 rfl rfl rfl ⟨Nat.le_of_ble_eq_true rfl, Nat.le_of_ble_eq_true rfl⟩ (Nat.le_of_ble_eq_true rfl) ⟨lk hk rfl, lk hn rfl⟩ (fun sz9 => ?_)
    refine r_widen (k2 := k + 64) (n2 := n + 64) (Nat.add_le_add_left (Nat.le_of_ble_eq_true rfl) _) (Nat.add_le_add_left (Nat.le_of_ble_eq_true rfl) _) ?_
    refine r_istore dL_law_4136 (by decide) rfl ?_
    refine r_aload_n dL_law_4138 rfl ?_
    refine s_arg (kq := 1) hL hi (by decide) (by decide) dL_law_4139 dL_law_4140 dL_law_4142 dL_law_4143 dL_law_4144 rfl rfl ?_
    refine r_cV0 (rest := []) (ct_X10_turnRow hs hE g2) dL_law_4145 wd_2208 zX10_turnRow wd_2209 wd_2210 rfl rfl rfl (fo10 (hE 153 (by decide))) rfl rfl ⟨Nat.le_of_ble_eq_true rfl, Nat.le_of_ble_eq_true rfl⟩ (Nat.le_of_ble_eq_true rfl) ⟨rfl, rfl⟩ (lkk hk hn) ?_
    refine r_istore dL_law_4148 (by decide) rfl ?_
    refine r_aload_n dL_law_4150 rfl ?_
    have t9 := g3.t
    refine r_cV0 (rest := []) (ct_X10_thrown (n := 0) hs hE rfl) dL_law_4151 wd_1621 zX10_thrown wd_1622 wd_1623 rfl rfl rfl (fo10 (hE 153 (by decide))) rfl rfl ⟨Nat.le_of_ble_eq_true rfl, Nat.le_of_ble_eq_true rfl⟩ (Nat.le_of_ble_eq_true rfl) ⟨rfl, rfl⟩ (lkk hk hn) ?_
    refine r_iload dL_law_4154 rfl ?_
    refine r_icmp_eq (tgt := 4161) dL_law_4156 (by decide) (fun _ => ?_) (fun q => absurd t9 q)
    refine r_iload dL_law_4161 rfl ?_
    refine r_if_ne (tgt := 4185) dL_law_4163 (by decide) (fun _ => ?_) (fun q => absurd q (thA_ne E9))
    refine r_goto (tgt := 4357) dL_law_4185 (by decide) ?_
    exact r_mask [true, true, true, true, true, true, false, false, false] rfl (hx _ _ _ _ _ _ _ _ (R.tt' g3))
  · have g3 : v9.1 = b9.1 ∧ Rel T0 T1 v9.2 b9.2 ∧ b9.2 153 0 = 0 := g3
    refine r_aload_n dL_law_4125 rfl ?_
    refine s_arg (kq := 1) hL hi (by decide) (by decide) dL_law_4126 dL_law_4127 dL_law_4129 dL_law_4130 dL_law_4131 rfl rfl ?_
    refine r_aload_n dL_law_4132 rfl ?_
    refine r_cSW1 (rest := []) (wo_turnRow hs hE hT0 hT1 g1) dL_law_4133 wd_1476 zL_turnRow wd_1477 rfl rfl rfl ⟨Nat.le_of_ble_eq_true rfl, Nat.le_of_ble_eq_true rfl⟩ (Nat.le_of_ble_eq_true rfl) ⟨lk hk rfl, lk hn rfl⟩ ?_
    refine r_widen (k2 := k + 64) (n2 := n + 64) (Nat.add_le_add_left (Nat.le_of_ble_eq_true rfl) _) (Nat.add_le_add_left (Nat.le_of_ble_eq_true rfl) _) ?_
    refine r_istore dL_law_4136 (by decide) rfl ?_
    refine r_aload_n dL_law_4138 rfl ?_
    refine s_arg (kq := 1) hL hi (by decide) (by decide) dL_law_4139 dL_law_4140 dL_law_4142 dL_law_4143 dL_law_4144 rfl rfl ?_
    refine r_cV0 (rest := []) (ct_X10_turnRow hs hE g2) dL_law_4145 wd_2208 zX10_turnRow wd_2209 wd_2210 rfl rfl rfl (fo10 (hE 153 (by decide))) rfl rfl ⟨Nat.le_of_ble_eq_true rfl, Nat.le_of_ble_eq_true rfl⟩ (Nat.le_of_ble_eq_true rfl) ⟨rfl, rfl⟩ (lkk hk hn) ?_
    refine r_istore dL_law_4148 (by decide) rfl ?_
    refine r_aload_n dL_law_4150 rfl ?_
    have t9 := g3.2.2
    refine r_cV0 (rest := []) (ct_X10_thrown (n := 0) hs hE rfl) dL_law_4151 wd_1621 zX10_thrown wd_1622 wd_1623 rfl rfl rfl (fo10 (hE 153 (by decide))) rfl rfl ⟨Nat.le_of_ble_eq_true rfl, Nat.le_of_ble_eq_true rfl⟩ (Nat.le_of_ble_eq_true rfl) ⟨rfl, rfl⟩ (lkk hk hn) ?_
    refine r_iload dL_law_4154 rfl ?_
    refine r_icmp_eq (tgt := 4161) dL_law_4156 (by decide) (fun _ => ?_) (fun q => absurd t9 q)
    refine r_iload dL_law_4161 rfl ?_
    refine r_if_ne (tgt := 4185) dL_law_4163 (by decide) (fun q => absurd rfl q) (fun _ => ?_)
    refine r_aload_n dL_law_4166 rfl ?_
    refine r_iconst (v := (0 : Int32)) dL_law_4167 (by decide) ?_
    refine a_laldc 0 dL_law_4168 (hE 170 (by decide)) (vpc rfl) rfl ?_
    refine r_tl sJ_self ?_
    refine r_iload dL_law_4169 rfl ?_
    refine r_if_eq (tgt := 4178) dL_law_4171 (by decide) (fun z => ?_) (fun z => ?_)
    · refine r_lconst (v := (0 : Int64)) dL_law_4178 (by decide) ?_
      refine r_lcmp dL_law_4179 ?_
      refine r_ti (y := 0) ((lg_cmp_eq _ _).mpr (if_pos (g3.1.trans z))) ?_
      refine r_if_eq (tgt := 4185) dL_law_4180 (by decide) (fun _ => ?_) (fun q => absurd rfl q)
      refine r_goto (tgt := 4357) dL_law_4185 (by decide) ?_
      exact r_mask [true, true, true, true, true, true, false, false, false] rfl (hx _ _ _ _ _ _ _ _ (g3.2.1))
    · refine r_lconst (v := (1 : Int64)) dL_law_4174 (by decide) ?_
      refine r_goto (tgt := 4179) dL_law_4175 (by decide) ?_
      refine r_lcmp dL_law_4179 ?_
      refine r_ti (y := 0) ((lg_cmp_eq _ _).mpr (if_neg (fun q => z (g3.1.symm.trans q)))) ?_
      refine r_if_eq (tgt := 4185) dL_law_4180 (by decide) (fun _ => ?_) (fun q => absurd rfl q)
      refine r_goto (tgt := 4357) dL_law_4185 (by decide) ?_
      exact r_mask [true, true, true, true, true, true, false, false, false] rfl (hx _ _ _ _ _ _ _ _ (g3.2.1))
set_option maxHeartbeats 4000000 in
set_option maxRecDepth 100000 in
theorem lc_undo {G : gG} {b Lx i : Nat} {xs : Nat → Int32} {lay : Nat → Nat × Nat} {T0 T1 : Nat} {Dd : Nat → Nat → UInt64} {I : gI} {J : gJ} {K : gI} {N : gJ} {sz k n : Nat} (hs : G.1.stackTraces = false) (hE : gLay lay) (R : Rel T0 T1 I K) (hL : Lx ≤ 3072) (hi : i + 6 ≤ Lx) (hk : k + 64 ≤ 601024) (hn : n + 64 ≤ 7293034) (hx : lNx G b Lx xs lay i k n) : gAt G mL_law (lQ G b Lx xs) 4188 (lLL G b i) [] (fO G (lay, T0, T1, Dd) I J K N) sz k n := by
  have hT0 : gTank lay T0 := gTk hE (R.tt.elim (fun h => Or.inl h.1) (fun h => Or.inr h.1))
  have hT1 : gTank lay T1 := gTk hE (R.tt.elim (fun h => Or.inr h.2) (fun h => Or.inl h.2))
  obtain ⟨r9, b9, g1, g2, g3⟩ := e_undo (n := 30000) (by decide) R
  rcases r9 with E9 | v9
  · have g3 : Tt K (thA E9) b9.2 := g3
    refine r_aload_n dL_law_4188 rfl ?_
    refine r_aload_n dL_law_4189 rfl ?_
    refine r_cSWs (rest := []) (we_undo hs hE hT0 hT1 g1) dL_law_4190 wd_1484 zL_undo wd_1485 rfl rfl rfl ⟨Nat.le_of_ble_eq_true rfl, Nat.le_of_ble_eq_true rfl⟩ (Nat.le_of_ble_eq_true rfl) ⟨lk hk rfl, lk hn rfl⟩ (fun sz9 => ?_)
    refine r_widen (k2 := k + 64) (n2 := n + 64) (Nat.add_le_add_left (Nat.le_of_ble_eq_true rfl) _) (Nat.add_le_add_left (Nat.le_of_ble_eq_true rfl) _) ?_
    refine r_istore dL_law_4193 (by decide) rfl ?_
    refine r_aload_n dL_law_4195 rfl ?_
    refine r_cV0 (rest := []) (ct_X10_undo hs hE g2) dL_law_4196 wd_2212 zX10_undo wd_2213 wd_2214 rfl rfl rfl (fo10 (hE 153 (by decide))) rfl rfl ⟨Nat.le_of_ble_eq_true rfl, Nat.le_of_ble_eq_true rfl⟩ (Nat.le_of_ble_eq_true rfl) ⟨rfl, rfl⟩ (lkk hk hn) ?_
    refine r_istore dL_law_4199 (by decide) rfl ?_
    refine r_aload_n dL_law_4201 rfl ?_
    have t9 := g3.t
    refine r_cV0 (rest := []) (ct_X10_thrown (n := 0) hs hE rfl) dL_law_4202 wd_1621 zX10_thrown wd_1622 wd_1623 rfl rfl rfl (fo10 (hE 153 (by decide))) rfl rfl ⟨Nat.le_of_ble_eq_true rfl, Nat.le_of_ble_eq_true rfl⟩ (Nat.le_of_ble_eq_true rfl) ⟨rfl, rfl⟩ (lkk hk hn) ?_
    refine r_iload dL_law_4205 rfl ?_
    refine r_icmp_eq (tgt := 4212) dL_law_4207 (by decide) (fun _ => ?_) (fun q => absurd t9 q)
    refine r_iload dL_law_4212 rfl ?_
    refine r_if_ne (tgt := 4229) dL_law_4214 (by decide) (fun _ => ?_) (fun q => absurd q (thA_ne E9))
    refine r_goto (tgt := 4357) dL_law_4229 (by decide) ?_
    exact r_mask [true, true, true, true, true, true, false, false, false] rfl (hx _ _ _ _ _ _ _ _ (R.tt' g3))
  · have g3 : v9.1 = b9.1 ∧ Rel T0 T1 v9.2 b9.2 ∧ b9.2 153 0 = 0 := g3
    refine r_aload_n dL_law_4188 rfl ?_
    refine r_aload_n dL_law_4189 rfl ?_
    refine r_cSW1 (rest := []) (wo_undo hs hE hT0 hT1 g1) dL_law_4190 wd_1484 zL_undo wd_1485 rfl rfl rfl ⟨Nat.le_of_ble_eq_true rfl, Nat.le_of_ble_eq_true rfl⟩ (Nat.le_of_ble_eq_true rfl) ⟨lk hk rfl, lk hn rfl⟩ ?_
    refine r_widen (k2 := k + 64) (n2 := n + 64) (Nat.add_le_add_left (Nat.le_of_ble_eq_true rfl) _) (Nat.add_le_add_left (Nat.le_of_ble_eq_true rfl) _) ?_
    refine r_istore dL_law_4193 (by decide) rfl ?_
    refine r_aload_n dL_law_4195 rfl ?_
    refine r_cV0 (rest := []) (ct_X10_undo hs hE g2) dL_law_4196 wd_2212 zX10_undo wd_2213 wd_2214 rfl rfl rfl (fo10 (hE 153 (by decide))) rfl rfl ⟨Nat.le_of_ble_eq_true rfl, Nat.le_of_ble_eq_true rfl⟩ (Nat.le_of_ble_eq_true rfl) ⟨rfl, rfl⟩ (lkk hk hn) ?_
    refine r_istore dL_law_4199 (by decide) rfl ?_
    refine r_aload_n dL_law_4201 rfl ?_
    have t9 := g3.2.2
    refine r_cV0 (rest := []) (ct_X10_thrown (n := 0) hs hE rfl) dL_law_4202 wd_1621 zX10_thrown wd_1622 wd_1623 rfl rfl rfl (fo10 (hE 153 (by decide))) rfl rfl ⟨Nat.le_of_ble_eq_true rfl, Nat.le_of_ble_eq_true rfl⟩ (Nat.le_of_ble_eq_true rfl) ⟨rfl, rfl⟩ (lkk hk hn) ?_
    refine r_iload dL_law_4205 rfl ?_
    refine r_icmp_eq (tgt := 4212) dL_law_4207 (by decide) (fun _ => ?_) (fun q => absurd t9 q)
    refine r_iload dL_law_4212 rfl ?_
    refine r_if_ne (tgt := 4229) dL_law_4214 (by decide) (fun q => absurd rfl q) (fun _ => ?_)
    refine r_aload_n dL_law_4217 rfl ?_
    refine r_iconst (v := (0 : Int32)) dL_law_4218 (by decide) ?_
    refine a_laldc 0 dL_law_4219 (hE 170 (by decide)) (vpc rfl) rfl ?_
    refine r_tl sJ_self ?_
    refine r_iload dL_law_4220 rfl ?_
    refine r_i2l dL_law_4222 ?_
    refine r_lcmp dL_law_4223 ?_
    refine r_ti (y := 0) ((lg_cmp_eq _ _).mpr (congrArg Int32.toInt64 g3.1)) ?_
    refine r_if_eq (tgt := 4229) dL_law_4224 (by decide) (fun _ => ?_) (fun q => absurd rfl q)
    refine r_goto (tgt := 4357) dL_law_4229 (by decide) ?_
    exact r_mask [true, true, true, true, true, true, false, false, false] rfl (hx _ _ _ _ _ _ _ _ (g3.2.1))
set_option maxHeartbeats 4000000 in
set_option maxRecDepth 100000 in
theorem lc_undoable {G : gG} {b Lx i : Nat} {xs : Nat → Int32} {lay : Nat → Nat × Nat} {T0 T1 : Nat} {Dd : Nat → Nat → UInt64} {I : gI} {J : gJ} {K : gI} {N : gJ} {sz k n : Nat} (hs : G.1.stackTraces = false) (hE : gLay lay) (R : Rel T0 T1 I K) (hL : Lx ≤ 3072) (hi : i + 6 ≤ Lx) (hk : k + 64 ≤ 601024) (hn : n + 64 ≤ 7293034) (hx : lNx G b Lx xs lay i k n) : gAt G mL_law (lQ G b Lx xs) 4232 (lLL G b i) [] (fO G (lay, T0, T1, Dd) I J K N) sz k n := by
  have hT0 : gTank lay T0 := gTk hE (R.tt.elim (fun h => Or.inl h.1) (fun h => Or.inr h.1))
  have hT1 : gTank lay T1 := gTk hE (R.tt.elim (fun h => Or.inr h.2) (fun h => Or.inl h.2))
  obtain ⟨a9, b9, g1, g2, g3⟩ := e_undoable (n := 30000) R
  refine r_widen (k2 := k + 64) (n2 := n + 64) (Nat.le_add_right _ _) (Nat.le_add_right _ _) ?_
  refine r_aload_n dL_law_4232 rfl ?_
  refine r_cV0 (rest := []) (ct_X9_undoable hs hE hT0 hT1 g1) dL_law_4233 wd_517 zX9_undoable wd_518 wd_519 rfl rfl rfl (fo9 (hE 0 (by decide))) rfl rfl ⟨Nat.le_of_ble_eq_true rfl, Nat.le_of_ble_eq_true rfl⟩ (Nat.le_of_ble_eq_true rfl) ⟨rfl, rfl⟩ (lkk hk hn) ?_
  refine r_aload_n dL_law_4236 rfl ?_
  refine r_cV0 (rest := [.int a9]) (ct_X10_undoable hs hE g2) dL_law_4237 wd_2216 zX10_undoable wd_2217 wd_2218 rfl rfl rfl (fo10 (hE 153 (by decide))) rfl rfl ⟨Nat.le_of_ble_eq_true rfl, Nat.le_of_ble_eq_true rfl⟩ (Nat.le_of_ble_eq_true rfl) ⟨rfl, rfl⟩ (lkk hk hn) ?_
  refine r_icmp_eq (tgt := 4357) dL_law_4240 (by decide) (fun _ => ?_) (fun q => absurd g3.1 q)
  exact r_mask [true, true, true, true, true, true, false, false, false] rfl (hx _ _ _ _ _ _ _ _ (R.tt' g3.2))
set_option maxHeartbeats 4000000 in
set_option maxRecDepth 100000 in
theorem lc_save {G : gG} {b Lx i : Nat} {xs : Nat → Int32} {lay : Nat → Nat × Nat} {T0 T1 : Nat} {Dd : Nat → Nat → UInt64} {I : gI} {J : gJ} {K : gI} {N : gJ} {sz k n : Nat} (hs : G.1.stackTraces = false) (hE : gLay lay) (R : Rel T0 T1 I K) (hL : Lx ≤ 3072) (hi : i + 6 ≤ Lx) (hk : k + 64 ≤ 601024) (hn : n + 64 ≤ 7293034) (hx : lNx G b Lx xs lay i k n) : gAt G mL_law (lQ G b Lx xs) 4245 (lLL G b i) [] (fO G (lay, T0, T1, Dd) I J K N) sz k n := by
  have hT0 : gTank lay T0 := gTk hE (R.tt.elim (fun h => Or.inl h.1) (fun h => Or.inr h.1))
  have hT1 : gTank lay T1 := gTk hE (R.tt.elim (fun h => Or.inr h.2) (fun h => Or.inl h.2))
  obtain ⟨r9, b9, g1, g2, g3⟩ := e_save (n := 30000) (by decide) R (xs (i + 1))
  rcases r9 with E9 | v9
  · have g3 : Tt K (thA E9) b9.2 := g3
    refine r_aload_n dL_law_4245 rfl ?_
    refine s_arg (kq := 1) hL hi (by decide) (by decide) dL_law_4246 dL_law_4247 dL_law_4249 dL_law_4250 dL_law_4251 rfl rfl ?_
    refine r_aload_n dL_law_4252 rfl ?_
    refine r_cSWs (rest := []) (we_save hs hE hT0 hT1 g1) dL_law_4253 wd_1496 zL_save wd_1497 rfl rfl rfl ⟨Nat.le_of_ble_eq_true rfl, Nat.le_of_ble_eq_true rfl⟩ (Nat.le_of_ble_eq_true rfl) ⟨lk hk rfl, lk hn rfl⟩ (fun sz9 => ?_)
    refine r_widen (k2 := k + 64) (n2 := n + 64) (Nat.add_le_add_left (Nat.le_of_ble_eq_true rfl) _) (Nat.add_le_add_left (Nat.le_of_ble_eq_true rfl) _) ?_
    refine r_istore dL_law_4256 (by decide) rfl ?_
    refine r_aload_n dL_law_4258 rfl ?_
    refine s_arg (kq := 1) hL hi (by decide) (by decide) dL_law_4259 dL_law_4260 dL_law_4262 dL_law_4263 dL_law_4264 rfl rfl ?_
    refine r_cV0 (rest := []) (ct_X10_save hs hE g2) dL_law_4265 wd_2220 zX10_save wd_2221 wd_2222 rfl rfl rfl (fo10 (hE 153 (by decide))) rfl rfl ⟨Nat.le_of_ble_eq_true rfl, Nat.le_of_ble_eq_true rfl⟩ (Nat.le_of_ble_eq_true rfl) ⟨rfl, rfl⟩ (lkk hk hn) ?_
    refine r_istore dL_law_4268 (by decide) rfl ?_
    refine r_aload_n dL_law_4270 rfl ?_
    have t9 := g3.t
    refine r_cV0 (rest := []) (ct_X10_thrown (n := 0) hs hE rfl) dL_law_4271 wd_1621 zX10_thrown wd_1622 wd_1623 rfl rfl rfl (fo10 (hE 153 (by decide))) rfl rfl ⟨Nat.le_of_ble_eq_true rfl, Nat.le_of_ble_eq_true rfl⟩ (Nat.le_of_ble_eq_true rfl) ⟨rfl, rfl⟩ (lkk hk hn) ?_
    refine r_iload dL_law_4274 rfl ?_
    refine r_icmp_eq (tgt := 4281) dL_law_4276 (by decide) (fun _ => ?_) (fun q => absurd t9 q)
    refine r_iload dL_law_4281 rfl ?_
    refine r_if_ne (tgt := 4298) dL_law_4283 (by decide) (fun _ => ?_) (fun q => absurd q (thA_ne E9))
    refine r_goto (tgt := 4357) dL_law_4298 (by decide) ?_
    exact r_mask [true, true, true, true, true, true, false, false, false] rfl (hx _ _ _ _ _ _ _ _ (R.tt' g3))
  · have g3 : v9.1 = b9.1 ∧ Rel T0 T1 v9.2 b9.2 ∧ b9.2 153 0 = 0 := g3
    refine r_aload_n dL_law_4245 rfl ?_
    refine s_arg (kq := 1) hL hi (by decide) (by decide) dL_law_4246 dL_law_4247 dL_law_4249 dL_law_4250 dL_law_4251 rfl rfl ?_
    refine r_aload_n dL_law_4252 rfl ?_
    refine r_cSW1 (rest := []) (wo_save hs hE hT0 hT1 g1) dL_law_4253 wd_1496 zL_save wd_1497 rfl rfl rfl ⟨Nat.le_of_ble_eq_true rfl, Nat.le_of_ble_eq_true rfl⟩ (Nat.le_of_ble_eq_true rfl) ⟨lk hk rfl, lk hn rfl⟩ ?_
    refine r_widen (k2 := k + 64) (n2 := n + 64) (Nat.add_le_add_left (Nat.le_of_ble_eq_true rfl) _) (Nat.add_le_add_left (Nat.le_of_ble_eq_true rfl) _) ?_
    refine r_istore dL_law_4256 (by decide) rfl ?_
    refine r_aload_n dL_law_4258 rfl ?_
    refine s_arg (kq := 1) hL hi (by decide) (by decide) dL_law_4259 dL_law_4260 dL_law_4262 dL_law_4263 dL_law_4264 rfl rfl ?_
    refine r_cV0 (rest := []) (ct_X10_save hs hE g2) dL_law_4265 wd_2220 zX10_save wd_2221 wd_2222 rfl rfl rfl (fo10 (hE 153 (by decide))) rfl rfl ⟨Nat.le_of_ble_eq_true rfl, Nat.le_of_ble_eq_true rfl⟩ (Nat.le_of_ble_eq_true rfl) ⟨rfl, rfl⟩ (lkk hk hn) ?_
    refine r_istore dL_law_4268 (by decide) rfl ?_
    refine r_aload_n dL_law_4270 rfl ?_
    have t9 := g3.2.2
    refine r_cV0 (rest := []) (ct_X10_thrown (n := 0) hs hE rfl) dL_law_4271 wd_1621 zX10_thrown wd_1622 wd_1623 rfl rfl rfl (fo10 (hE 153 (by decide))) rfl rfl ⟨Nat.le_of_ble_eq_true rfl, Nat.le_of_ble_eq_true rfl⟩ (Nat.le_of_ble_eq_true rfl) ⟨rfl, rfl⟩ (lkk hk hn) ?_
    refine r_iload dL_law_4274 rfl ?_
    refine r_icmp_eq (tgt := 4281) dL_law_4276 (by decide) (fun _ => ?_) (fun q => absurd t9 q)
    refine r_iload dL_law_4281 rfl ?_
    refine r_if_ne (tgt := 4298) dL_law_4283 (by decide) (fun q => absurd rfl q) (fun _ => ?_)
    refine r_aload_n dL_law_4286 rfl ?_
    refine r_iconst (v := (0 : Int32)) dL_law_4287 (by decide) ?_
    refine a_laldc 0 dL_law_4288 (hE 170 (by decide)) (vpc rfl) rfl ?_
    refine r_tl sJ_self ?_
    refine r_iload dL_law_4289 rfl ?_
    refine r_i2l dL_law_4291 ?_
    refine r_lcmp dL_law_4292 ?_
    refine r_ti (y := 0) ((lg_cmp_eq _ _).mpr (congrArg Int32.toInt64 g3.1)) ?_
    refine r_if_eq (tgt := 4298) dL_law_4293 (by decide) (fun _ => ?_) (fun q => absurd rfl q)
    refine r_goto (tgt := 4357) dL_law_4298 (by decide) ?_
    exact r_mask [true, true, true, true, true, true, false, false, false] rfl (hx _ _ _ _ _ _ _ _ (g3.2.1))
set_option maxHeartbeats 4000000 in
set_option maxRecDepth 100000 in
theorem lc_restore {G : gG} {b Lx i : Nat} {xs : Nat → Int32} {lay : Nat → Nat × Nat} {T0 T1 : Nat} {Dd : Nat → Nat → UInt64} {I : gI} {J : gJ} {K : gI} {N : gJ} {sz k n : Nat} (hs : G.1.stackTraces = false) (hE : gLay lay) (R : Rel T0 T1 I K) (hL : Lx ≤ 3072) (hi : i + 6 ≤ Lx) (hk : k + 64 ≤ 601024) (hn : n + 64 ≤ 7293034) (hx : lNx G b Lx xs lay i k n) : gAt G mL_law (lQ G b Lx xs) 4301 (lLL G b i) [] (fO G (lay, T0, T1, Dd) I J K N) sz k n := by
  have hT0 : gTank lay T0 := gTk hE (R.tt.elim (fun h => Or.inl h.1) (fun h => Or.inr h.1))
  have hT1 : gTank lay T1 := gTk hE (R.tt.elim (fun h => Or.inr h.2) (fun h => Or.inl h.2))
  obtain ⟨r9, b9, g1, g2, g3⟩ := e_restore (n := 30000) (by decide) R (xs (i + 1))
  rcases r9 with E9 | v9
  · have g3 : Tt K (thE E9) b9.2 := g3
    refine r_aload_n dL_law_4301 rfl ?_
    refine s_arg (kq := 1) hL hi (by decide) (by decide) dL_law_4302 dL_law_4303 dL_law_4305 dL_law_4306 dL_law_4307 rfl rfl ?_
    refine r_aload_n dL_law_4308 rfl ?_
    refine r_cSWs (rest := []) (we_restore hs hE hT0 hT1 g1) dL_law_4309 wd_1507 zL_restore wd_1508 rfl rfl rfl ⟨Nat.le_of_ble_eq_true rfl, Nat.le_of_ble_eq_true rfl⟩ (Nat.le_of_ble_eq_true rfl) ⟨lk hk rfl, lk hn rfl⟩ (fun sz9 => ?_)
    refine r_widen (k2 := k + 64) (n2 := n + 64) (Nat.add_le_add_left (Nat.le_of_ble_eq_true rfl) _) (Nat.add_le_add_left (Nat.le_of_ble_eq_true rfl) _) ?_
    refine r_istore dL_law_4312 (by decide) rfl ?_
    refine r_aload_n dL_law_4314 rfl ?_
    refine s_arg (kq := 1) hL hi (by decide) (by decide) dL_law_4315 dL_law_4316 dL_law_4318 dL_law_4319 dL_law_4320 rfl rfl ?_
    refine r_cV0 (rest := []) (ct_X10_restore hs hE g2) dL_law_4321 wd_2224 zX10_restore wd_2225 wd_2226 rfl rfl rfl (fo10 (hE 153 (by decide))) rfl rfl ⟨Nat.le_of_ble_eq_true rfl, Nat.le_of_ble_eq_true rfl⟩ (Nat.le_of_ble_eq_true rfl) ⟨rfl, rfl⟩ (lkk hk hn) ?_
    refine r_istore dL_law_4324 (by decide) rfl ?_
    refine r_aload_n dL_law_4326 rfl ?_
    have t9 := g3.t
    refine r_cV0 (rest := []) (ct_X10_thrown (n := 0) hs hE rfl) dL_law_4327 wd_1621 zX10_thrown wd_1622 wd_1623 rfl rfl rfl (fo10 (hE 153 (by decide))) rfl rfl ⟨Nat.le_of_ble_eq_true rfl, Nat.le_of_ble_eq_true rfl⟩ (Nat.le_of_ble_eq_true rfl) ⟨rfl, rfl⟩ (lkk hk hn) ?_
    refine r_iload dL_law_4330 rfl ?_
    refine r_icmp_eq (tgt := 4337) dL_law_4332 (by decide) (fun _ => ?_) (fun q => absurd t9 q)
    refine r_iload dL_law_4337 rfl ?_
    refine r_if_ne (tgt := 4354) dL_law_4339 (by decide) (fun _ => ?_) (fun q => absurd q (thE_ne E9))
    refine r_goto (tgt := 4357) dL_law_4354 (by decide) ?_
    exact r_mask [true, true, true, true, true, true, false, false, false] rfl (hx _ _ _ _ _ _ _ _ (R.tt' g3))
  · have g3 : v9.1 = b9.1 ∧ Rel T0 T1 v9.2 b9.2 ∧ b9.2 153 0 = 0 := g3
    refine r_aload_n dL_law_4301 rfl ?_
    refine s_arg (kq := 1) hL hi (by decide) (by decide) dL_law_4302 dL_law_4303 dL_law_4305 dL_law_4306 dL_law_4307 rfl rfl ?_
    refine r_aload_n dL_law_4308 rfl ?_
    refine r_cSW1 (rest := []) (wo_restore hs hE hT0 hT1 g1) dL_law_4309 wd_1507 zL_restore wd_1508 rfl rfl rfl ⟨Nat.le_of_ble_eq_true rfl, Nat.le_of_ble_eq_true rfl⟩ (Nat.le_of_ble_eq_true rfl) ⟨lk hk rfl, lk hn rfl⟩ ?_
    refine r_widen (k2 := k + 64) (n2 := n + 64) (Nat.add_le_add_left (Nat.le_of_ble_eq_true rfl) _) (Nat.add_le_add_left (Nat.le_of_ble_eq_true rfl) _) ?_
    refine r_istore dL_law_4312 (by decide) rfl ?_
    refine r_aload_n dL_law_4314 rfl ?_
    refine s_arg (kq := 1) hL hi (by decide) (by decide) dL_law_4315 dL_law_4316 dL_law_4318 dL_law_4319 dL_law_4320 rfl rfl ?_
    refine r_cV0 (rest := []) (ct_X10_restore hs hE g2) dL_law_4321 wd_2224 zX10_restore wd_2225 wd_2226 rfl rfl rfl (fo10 (hE 153 (by decide))) rfl rfl ⟨Nat.le_of_ble_eq_true rfl, Nat.le_of_ble_eq_true rfl⟩ (Nat.le_of_ble_eq_true rfl) ⟨rfl, rfl⟩ (lkk hk hn) ?_
    refine r_istore dL_law_4324 (by decide) rfl ?_
    refine r_aload_n dL_law_4326 rfl ?_
    have t9 := g3.2.2
    refine r_cV0 (rest := []) (ct_X10_thrown (n := 0) hs hE rfl) dL_law_4327 wd_1621 zX10_thrown wd_1622 wd_1623 rfl rfl rfl (fo10 (hE 153 (by decide))) rfl rfl ⟨Nat.le_of_ble_eq_true rfl, Nat.le_of_ble_eq_true rfl⟩ (Nat.le_of_ble_eq_true rfl) ⟨rfl, rfl⟩ (lkk hk hn) ?_
    refine r_iload dL_law_4330 rfl ?_
    refine r_icmp_eq (tgt := 4337) dL_law_4332 (by decide) (fun _ => ?_) (fun q => absurd t9 q)
    refine r_iload dL_law_4337 rfl ?_
    refine r_if_ne (tgt := 4354) dL_law_4339 (by decide) (fun q => absurd rfl q) (fun _ => ?_)
    refine r_aload_n dL_law_4342 rfl ?_
    refine r_iconst (v := (0 : Int32)) dL_law_4343 (by decide) ?_
    refine a_laldc 0 dL_law_4344 (hE 170 (by decide)) (vpc rfl) rfl ?_
    refine r_tl sJ_self ?_
    refine r_iload dL_law_4345 rfl ?_
    refine r_i2l dL_law_4347 ?_
    refine r_lcmp dL_law_4348 ?_
    refine r_ti (y := 0) ((lg_cmp_eq _ _).mpr (congrArg Int32.toInt64 g3.1)) ?_
    refine r_if_eq (tgt := 4354) dL_law_4349 (by decide) (fun _ => ?_) (fun q => absurd rfl q)
    refine r_goto (tgt := 4357) dL_law_4354 (by decide) ?_
    exact r_mask [true, true, true, true, true, true, false, false, false] rfl (hx _ _ _ _ _ _ _ _ (g3.2.1))
