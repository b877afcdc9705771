/-! the case of load -/
set_option maxHeartbeats 4000000 in
set_option maxRecDepth 100000 in
theorem lc_load {G : gG} {b Lx i : Nat} {xs : Nat → Int32} {lay : Nat → Nat × Nat} {T0 T1 : Nat} {Dd : Nat → Nat → UInt64} {I : gI} {J : gJ} {K : gI} {N : gJ} {sz k n : Nat} (hs : G.1.stackTraces = false) (hE : gLay lay) (hj : gEnd lay) (R : Rel T0 T1 I K) (hL : Lx ≤ 3072) (hi : i + 6 ≤ Lx) (hk : k + 64 ≤ 601024) (hn : n + 64 ≤ 7293034) (hx : lNx G b Lx xs lay i k n) : gAt G mL_law (lQ G b Lx xs) 389 (lLL G b i) [] (fO G (lay, T0, T1, Dd) I J K N) sz k n := by
  have hT0 : T0 = 95 ∨ T0 = 116 := R.tt.elim (fun h => Or.inl h.1) (fun h => Or.inr h.1)
  have hT1 : T1 = 95 ∨ T1 = 116 := R.tt.elim (fun h => Or.inr h.2) (fun h => Or.inl h.2)
  refine r_aload_n dL_law_389 rfl ?_
  refine s_arg (kq := 1) hL hi (by decide) (by decide) dL_law_390 dL_law_391 dL_law_393 dL_law_394 dL_law_395 rfl rfl ?_
  refine r_aload_n dL_law_396 rfl ?_
  by_cases h : 0 ≤ (xs (i + 1)).toInt ∧ (xs (i + 1)).toInt ≤ (I 0 1).toInt
  · refine r_sz hE (fun hsz => ?_)
    obtain ⟨o, ho, he⟩ : ∃ o, 172 ≤ o ∧ sz = G.2.2.1 + o := ⟨sz - G.2.2.1, by omega, by omega⟩
    subst he
    obtain ⟨I3, v, K3, hr, g2, hh⟩ := e_load (n := 30000) (by decide) R ho h (Ip := PI I o (xs (i + 1))) (by rw [PI_n _ _ _ (by omega), sI_self]) (by rw [PI_o]; rfl) (by rw [PI_o]; rfl) (by rw [PI_o]; rfl) (by rw [PI_o]; rfl) (by rw [PI_o]; rfl) (by rw [PI_o]; rfl) (by rw [PI_o]; rfl) (by rw [PI_o]; rfl) (fun a j h1 h2 => by
      rw [PI_n _ _ _ h1]
      by_cases h0 : a = 0
      · subst h0
        rcases h2 with h2 | h2
        · exact absurd rfl h2
        · exact sI_k h2
      · exact sI_o h0)
    rcases hh with ⟨ok, hc, hv, R2, t9⟩ | ⟨er, R2, t9⟩
    · refine r_cSWs (rest := []) (wo_load hs hE hj hT0 hT1 ho hr h ok hc) dL_law_397 wd_521 zL_load wd_522 rfl rfl rfl ⟨Nat.le_of_ble_eq_true rfl, Nat.le_of_ble_eq_true rfl⟩ (Nat.le_of_ble_eq_true rfl) ⟨lk hk rfl, lk hn rfl⟩ (fun sz9 => ?_)
      refine r_widen (k2 := k + 64) (n2 := n + 64) (Nat.add_le_add_left (Nat.le_of_ble_eq_true rfl) _) (Nat.add_le_add_left (Nat.le_of_ble_eq_true rfl) _) ?_
      refine r_istore dL_law_400 (by decide) rfl ?_
      refine r_aload_n dL_law_402 rfl ?_
      refine s_arg (kq := 1) hL hi (by decide) (by decide) dL_law_403 dL_law_404 dL_law_406 dL_law_407 dL_law_408 rfl rfl ?_
      refine r_cV0 (rest := []) (ct_X10_load hs hE g2) dL_law_409 wd_1645 zX10_load wd_1646 wd_1647 rfl rfl rfl (fo10 (hE 153 (by decide))) rfl rfl ⟨Nat.le_of_ble_eq_true rfl, Nat.le_of_ble_eq_true rfl⟩ (Nat.le_of_ble_eq_true rfl) ⟨rfl, rfl⟩ (lkk hk hn) ?_
      refine r_istore dL_law_412 (by decide) rfl ?_
      refine r_aload_n dL_law_414 rfl ?_
      refine r_cV0 (rest := []) (ct_X10_thrown (n := 0) hs hE rfl) dL_law_415 wd_1621 zX10_thrown wd_1622 wd_1623 rfl rfl rfl (fo10 (hE 153 (by decide))) rfl rfl ⟨Nat.le_of_ble_eq_true rfl, Nat.le_of_ble_eq_true rfl⟩ (Nat.le_of_ble_eq_true rfl) ⟨rfl, rfl⟩ (lkk hk hn) ?_
      refine r_iload dL_law_418 rfl ?_
      refine r_icmp_eq (tgt := 425) dL_law_420 (by decide) (fun _ => ?_) (fun q => absurd t9 q)
      refine r_iload dL_law_425 rfl ?_
      refine r_if_ne (tgt := 442) dL_law_427 (by decide) (fun q => absurd rfl q) (fun _ => ?_)
      refine r_aload_n dL_law_430 rfl ?_
      refine r_iconst (v := (0 : Int32)) dL_law_431 (by decide) ?_
      refine a_laldc 0 dL_law_432 (hE 170 (by decide)) (vpc rfl) rfl ?_
      refine r_tl sJ_self ?_
      refine r_iload dL_law_433 rfl ?_
      refine r_i2l dL_law_435 ?_
      refine r_lcmp dL_law_436 ?_
      refine r_ti (y := 0) ((lg_cmp_eq _ _).mpr (congrArg Int32.toInt64 hv.symm)) ?_
      refine r_if_eq (tgt := 442) dL_law_437 (by decide) (fun _ => ?_) (fun q => absurd rfl q)
      refine r_goto (tgt := 4357) dL_law_442 (by decide) ?_
      exact r_mask [true, true, true, true, true, true, false, false, false] rfl (hx _ _ _ _ _ _ _ _ R2)
    · refine r_cSWs (rest := []) (we_loadE hs hE hj hT1 ho hr h er) dL_law_397 wd_521 zL_load wd_522 rfl rfl rfl ⟨Nat.le_of_ble_eq_true rfl, Nat.le_of_ble_eq_true rfl⟩ (Nat.le_of_ble_eq_true rfl) ⟨lk hk rfl, lk hn rfl⟩ (fun sz9 => ?_)
      refine r_widen (k2 := k + 64) (n2 := n + 64) (Nat.add_le_add_left (Nat.le_of_ble_eq_true rfl) _) (Nat.add_le_add_left (Nat.le_of_ble_eq_true rfl) _) ?_
      refine r_istore dL_law_400 (by decide) rfl ?_
      refine r_aload_n dL_law_402 rfl ?_
      refine s_arg (kq := 1) hL hi (by decide) (by decide) dL_law_403 dL_law_404 dL_law_406 dL_law_407 dL_law_408 rfl rfl ?_
      refine r_cV0 (rest := []) (ct_X10_load hs hE g2) dL_law_409 wd_1645 zX10_load wd_1646 wd_1647 rfl rfl rfl (fo10 (hE 153 (by decide))) rfl rfl ⟨Nat.le_of_ble_eq_true rfl, Nat.le_of_ble_eq_true rfl⟩ (Nat.le_of_ble_eq_true rfl) ⟨rfl, rfl⟩ (lkk hk hn) ?_
      refine r_istore dL_law_412 (by decide) rfl ?_
      refine r_aload_n dL_law_414 rfl ?_
      refine r_cV0 (rest := []) (ct_X10_thrown (n := 0) hs hE rfl) dL_law_415 wd_1621 zX10_thrown wd_1622 wd_1623 rfl rfl rfl (fo10 (hE 153 (by decide))) rfl rfl ⟨Nat.le_of_ble_eq_true rfl, Nat.le_of_ble_eq_true rfl⟩ (Nat.le_of_ble_eq_true rfl) ⟨rfl, rfl⟩ (lkk hk hn) ?_
      refine r_iload dL_law_418 rfl ?_
      refine r_icmp_eq (tgt := 425) dL_law_420 (by decide) (fun _ => ?_) (fun q => absurd t9 q)
      refine r_iload dL_law_425 rfl ?_
      refine r_if_ne (tgt := 442) dL_law_427 (by decide) (fun _ => ?_) (fun q => absurd q (by decide))
      refine r_goto (tgt := 4357) dL_law_442 (by decide) ?_
      exact r_mask [true, true, true, true, true, true, false, false, false] rfl (hx _ _ _ _ _ _ _ _ R2)
  · refine r_cSWs (rest := []) (we_load0 hs hE h) dL_law_397 wd_521 zL_load wd_522 rfl rfl rfl ⟨Nat.le_of_ble_eq_true rfl, Nat.le_of_ble_eq_true rfl⟩ (Nat.le_of_ble_eq_true rfl) ⟨lk hk rfl, lk hn rfl⟩ (fun sz9 => ?_)
    refine r_widen (k2 := k + 64) (n2 := n + 64) (Nat.add_le_add_left (Nat.le_of_ble_eq_true rfl) _) (Nat.add_le_add_left (Nat.le_of_ble_eq_true rfl) _) ?_
    refine r_istore dL_law_400 (by decide) rfl ?_
    refine r_aload_n dL_law_402 rfl ?_
    refine s_arg (kq := 1) hL hi (by decide) (by decide) dL_law_403 dL_law_404 dL_law_406 dL_law_407 dL_law_408 rfl rfl ?_
    refine r_cV0 (rest := []) (ct_X10_load hs hE (e_load0 (n := 30000) R h)) dL_law_409 wd_1645 zX10_load wd_1646 wd_1647 rfl rfl rfl (fo10 (hE 153 (by decide))) rfl rfl ⟨Nat.le_of_ble_eq_true rfl, Nat.le_of_ble_eq_true rfl⟩ (Nat.le_of_ble_eq_true rfl) ⟨rfl, rfl⟩ (lkk hk hn) ?_
    refine r_istore dL_law_412 (by decide) rfl ?_
    refine r_aload_n dL_law_414 rfl ?_
    refine r_cV0 (rest := []) (ct_X10_thrown (n := 0) hs hE rfl) dL_law_415 wd_1621 zX10_thrown wd_1622 wd_1623 rfl rfl rfl (fo10 (hE 153 (by decide))) rfl rfl ⟨Nat.le_of_ble_eq_true rfl, Nat.le_of_ble_eq_true rfl⟩ (Nat.le_of_ble_eq_true rfl) ⟨rfl, rfl⟩ (lkk hk hn) ?_
    refine r_iload dL_law_418 rfl ?_
    refine r_icmp_eq (tgt := 425) dL_law_420 (by decide) (fun _ => ?_) (fun q => absurd ((Tt.r (K := K) 1).t) q)
    refine r_iload dL_law_425 rfl ?_
    refine r_if_ne (tgt := 442) dL_law_427 (by decide) (fun _ => ?_) (fun q => absurd q (by decide))
    refine r_goto (tgt := 4357) dL_law_442 (by decide) ?_
    exact r_mask [true, true, true, true, true, true, false, false, false] rfl (hx _ _ _ _ _ _ _ _ (R.tt' (Tt.r 1)))
