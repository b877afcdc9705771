/-! the wrappers of the law -/
set_option maxHeartbeats 4000000 in
set_option maxRecDepth 100000 in
theorem we_nodeGroups {G : gG} {lay : Nat → Nat × Nat} {T0 T1 : Nat} {Dd : Nat → Nat → UInt64} {I : gI} {J : gJ} {K : gI} {N : gJ} {sz n : Nat} {a1 : Int32} {a2 : Int32} (hs : G.1.stackTraces = false) (hE : gLay lay) (hT0 : gTank lay T0) (hT1 : gTank lay T1) {E : String} (hf : F_X9_nodeGroups n T0 T1 I a1 a2 = some (.inl E)) : gCt G mL_nodeGroups [.ref (G.2.2.1 + 0), .int a1, .int a2, .ref (G.2.2.1 + 170)] (fO G (lay, T0, T1, Dd) I J K N) sz (gVs (.int (thB E)) (fO G (lay, T0, T1, Dd) I J K N)) := by
  have hS := xsF_X9_nodeGroups (S := fun e => e = ISE ∨ e = IAE) _ _ _ _ _ _ (Or.inl rfl) (Or.inr (rfl)) E hf
  refine gCt.ofH [some (.ref (G.2.2.1 + 0)), some (.int a1), some (.int a2), some (.ref (G.2.2.1 + 170)), none] (h0 := (0, 10, 13, 21)) (ht := [(0, 10, 17, 15)]) (by decide +kernel) rfl hs rfl (Nat.le_of_ble_eq_true rfl) ?_
  refine r_aload_n dL_nodeGroups_0 rfl ?_
  refine r_iconst (v := (0 : Int32)) dL_nodeGroups_1 (by decide) ?_
  refine r_aload_n dL_nodeGroups_2 rfl ?_
  refine r_iload_n dL_nodeGroups_3 rfl ?_
  refine r_iload_n dL_nodeGroups_4 rfl ?_
  rcases hS with rfl | rfl
  · refine r_callVX (rest := [.int 0, .ref (G.2.2.1 + 170)]) (ct_X9_nodeGroups hs hE hT0 hT1 hf) dL_nodeGroups_5 wd_1236 zX9_nodeGroups wd_1237 wd_1238 rfl rfl rfl (fo9 (hE 0 (by decide))) rfl rfl ⟨Nat.le_of_ble_eq_true rfl, Nat.le_of_ble_eq_true rfl⟩ (Nat.le_of_ble_eq_true rfl) ⟨Nat.le_of_ble_eq_true rfl, Nat.le_of_ble_eq_true rfl⟩ (fun sz9 => ?_)
    refine x_catch (name := "java/lang/IllegalStateException") [] (0, 10, 13, 21) [(0, 10, 17, 15)] rfl hp0 (by decide) (by decide) wd_864 wd_875 (fun q9 => ?_)
    refine r_astore dL_nodeGroups_13 (by decide) rfl ?_
    refine r_iconst (v := (1 : Int32)) dL_nodeGroups_15 (by decide) ?_
    exact r_iret dL_nodeGroups_16 rfl (Nat.le_of_ble_eq_true rfl) (Nat.le_of_ble_eq_true rfl) ⟨rfl, rfl⟩
  · refine r_callVX (rest := [.int 0, .ref (G.2.2.1 + 170)]) (ct_X9_nodeGroups hs hE hT0 hT1 hf) dL_nodeGroups_5 wd_1236 zX9_nodeGroups wd_1237 wd_1238 rfl rfl rfl (fo9 (hE 0 (by decide))) rfl rfl ⟨Nat.le_of_ble_eq_true rfl, Nat.le_of_ble_eq_true rfl⟩ (Nat.le_of_ble_eq_true rfl) ⟨Nat.le_of_ble_eq_true rfl, Nat.le_of_ble_eq_true rfl⟩ (fun sz9 => ?_)
    refine x_catch (name := "java/lang/IllegalArgumentException") [(0, 10, 13, 21)] (0, 10, 17, 15) [] rfl (hp1 (Or.inr ⟨by decide, "java/lang/IllegalStateException", wd_864, nc_13⟩)) (by decide) (by decide) wd_525 wd_839 (fun q9 => ?_)
    refine r_astore dL_nodeGroups_17 (by decide) rfl ?_
    refine r_iconst (v := (2 : Int32)) dL_nodeGroups_19 (by decide) ?_
    exact r_iret dL_nodeGroups_20 rfl (Nat.le_of_ble_eq_true rfl) (Nat.le_of_ble_eq_true rfl) ⟨rfl, rfl⟩
set_option maxHeartbeats 4000000 in
set_option maxRecDepth 100000 in
theorem wo_energy {G : gG} {lay : Nat → Nat × Nat} {T0 T1 : Nat} {Dd : Nat → Nat → UInt64} {I : gI} {J : gJ} {K : gI} {N : gJ} {sz n : Nat} {a1 : Int32} {a2 : Int32} {a3 : Int32} (hs : G.1.stackTraces = false) (hE : gLay lay) (hT0 : gTank lay T0) (hT1 : gTank lay T1) {v : Int64} (hf : F_X9_energy n T0 T1 I a1 a2 a3 = some (.inr v)) : gCt G mL_energy [.ref (G.2.2.1 + 0), .int a1, .int a2, .int a3, .ref (G.2.2.1 + 170)] (fO G (lay, T0, T1, Dd) I J K N) sz (gR (some (.int 0)) (fO G (lay, T0, T1, Dd) I (sJ J 170 0 v) K N) sz) := by
  refine gCt.ofH [some (.ref (G.2.2.1 + 0)), some (.int a1), some (.int a2), some (.int a3), some (.ref (G.2.2.1 + 170)), none] (h0 := (0, 11, 14, 21)) (ht := [(0, 11, 18, 13), (0, 11, 22, 15)]) (by decide +kernel) rfl hs rfl (Nat.le_of_ble_eq_true rfl) ?_
  refine r_aload dL_energy_0 rfl ?_
  refine r_iconst (v := (0 : Int32)) dL_energy_2 (by decide) ?_
  refine r_aload_n dL_energy_3 rfl ?_
  refine r_iload_n dL_energy_4 rfl ?_
  refine r_iload_n dL_energy_5 rfl ?_
  refine r_iload_n dL_energy_6 rfl ?_
  refine r_cVi (rest := [.int 0, .ref (G.2.2.1 + 170)]) (ct_X9_energy hs hE hT0 hT1 hf) dL_energy_7 wd_1255 zX9_energy wd_1256 wd_1257 rfl rfl rfl (fo9 (hE 0 (by decide))) rfl rfl ⟨Nat.le_of_ble_eq_true rfl, Nat.le_of_ble_eq_true rfl⟩ (Nat.le_of_ble_eq_true rfl) ⟨Nat.le_of_ble_eq_true rfl, Nat.le_of_ble_eq_true rfl⟩ ?_
  refine a_lastc 0 dL_energy_10 (hE 170 (by decide)) (vpc rfl) rfl ?_
  refine r_goto (tgt := 26) dL_energy_11 (by decide) ?_
  refine r_iconst (v := (0 : Int32)) dL_energy_26 (by decide) ?_
  exact r_iret dL_energy_27 rfl (Nat.le_of_ble_eq_true rfl) (Nat.le_of_ble_eq_true rfl) ⟨rfl, rfl, rfl⟩
set_option maxHeartbeats 4000000 in
set_option maxRecDepth 100000 in
theorem we_energy {G : gG} {lay : Nat → Nat × Nat} {T0 T1 : Nat} {Dd : Nat → Nat → UInt64} {I : gI} {J : gJ} {K : gI} {N : gJ} {sz n : Nat} {a1 : Int32} {a2 : Int32} {a3 : Int32} (hs : G.1.stackTraces = false) (hE : gLay lay) (hT0 : gTank lay T0) (hT1 : gTank lay T1) {E : String} (hf : F_X9_energy n T0 T1 I a1 a2 a3 = some (.inl E)) : gCt G mL_energy [.ref (G.2.2.1 + 0), .int a1, .int a2, .int a3, .ref (G.2.2.1 + 170)] (fO G (lay, T0, T1, Dd) I J K N) sz (gVs (.int (thA E)) (fO G (lay, T0, T1, Dd) I J K N)) := by
  have hS := xsF_X9_energy (S := fun e => e = ISE ∨ e = IOB ∨ e = IAE) _ _ _ _ _ _ _ (Or.inl rfl) (Or.inr (Or.inl rfl)) (Or.inr (Or.inr (rfl))) E hf
  refine gCt.ofH [some (.ref (G.2.2.1 + 0)), some (.int a1), some (.int a2), some (.int a3), some (.ref (G.2.2.1 + 170)), none] (h0 := (0, 11, 14, 21)) (ht := [(0, 11, 18, 13), (0, 11, 22, 15)]) (by decide +kernel) rfl hs rfl (Nat.le_of_ble_eq_true rfl) ?_
  refine r_aload dL_energy_0 rfl ?_
  refine r_iconst (v := (0 : Int32)) dL_energy_2 (by decide) ?_
  refine r_aload_n dL_energy_3 rfl ?_
  refine r_iload_n dL_energy_4 rfl ?_
  refine r_iload_n dL_energy_5 rfl ?_
  refine r_iload_n dL_energy_6 rfl ?_
  rcases hS with rfl | rfl | rfl
  · refine r_callVX (rest := [.int 0, .ref (G.2.2.1 + 170)]) (ct_X9_energy hs hE hT0 hT1 hf) dL_energy_7 wd_1255 zX9_energy wd_1256 wd_1257 rfl rfl rfl (fo9 (hE 0 (by decide))) rfl rfl ⟨Nat.le_of_ble_eq_true rfl, Nat.le_of_ble_eq_true rfl⟩ (Nat.le_of_ble_eq_true rfl) ⟨Nat.le_of_ble_eq_true rfl, Nat.le_of_ble_eq_true rfl⟩ (fun sz9 => ?_)
    refine x_catch (name := "java/lang/IllegalStateException") [] (0, 11, 14, 21) [(0, 11, 18, 13), (0, 11, 22, 15)] rfl hp0 (by decide) (by decide) wd_864 wd_875 (fun q9 => ?_)
    refine r_astore dL_energy_14 (by decide) rfl ?_
    refine r_iconst (v := (1 : Int32)) dL_energy_16 (by decide) ?_
    exact r_iret dL_energy_17 rfl (Nat.le_of_ble_eq_true rfl) (Nat.le_of_ble_eq_true rfl) ⟨rfl, rfl⟩
  · refine r_callVX (rest := [.int 0, .ref (G.2.2.1 + 170)]) (ct_X9_energy hs hE hT0 hT1 hf) dL_energy_7 wd_1255 zX9_energy wd_1256 wd_1257 rfl rfl rfl (fo9 (hE 0 (by decide))) rfl rfl ⟨Nat.le_of_ble_eq_true rfl, Nat.le_of_ble_eq_true rfl⟩ (Nat.le_of_ble_eq_true rfl) ⟨Nat.le_of_ble_eq_true rfl, Nat.le_of_ble_eq_true rfl⟩ (fun sz9 => ?_)
    refine x_catch (name := "java/lang/IndexOutOfBoundsException") [(0, 11, 14, 21)] (0, 11, 18, 13) [(0, 11, 22, 15)] rfl (hp1 (Or.inr ⟨by decide, "java/lang/IllegalStateException", wd_864, nc_12⟩)) (by decide) (by decide) wd_524 wd_532 (fun q9 => ?_)
    refine r_astore dL_energy_18 (by decide) rfl ?_
    refine r_iconst (v := (2 : Int32)) dL_energy_20 (by decide) ?_
    exact r_iret dL_energy_21 rfl (Nat.le_of_ble_eq_true rfl) (Nat.le_of_ble_eq_true rfl) ⟨rfl, rfl⟩
  · refine r_callVX (rest := [.int 0, .ref (G.2.2.1 + 170)]) (ct_X9_energy hs hE hT0 hT1 hf) dL_energy_7 wd_1255 zX9_energy wd_1256 wd_1257 rfl rfl rfl (fo9 (hE 0 (by decide))) rfl rfl ⟨Nat.le_of_ble_eq_true rfl, Nat.le_of_ble_eq_true rfl⟩ (Nat.le_of_ble_eq_true rfl) ⟨Nat.le_of_ble_eq_true rfl, Nat.le_of_ble_eq_true rfl⟩ (fun sz9 => ?_)
    refine x_catch (name := "java/lang/IllegalArgumentException") [(0, 11, 14, 21), (0, 11, 18, 13)] (0, 11, 22, 15) [] rfl (hp2 (Or.inr ⟨by decide, "java/lang/IllegalStateException", wd_864, nc_13⟩) (Or.inr ⟨by decide, "java/lang/IndexOutOfBoundsException", wd_524, nc_23⟩)) (by decide) (by decide) wd_525 wd_839 (fun q9 => ?_)
    refine r_astore dL_energy_22 (by decide) rfl ?_
    refine r_iconst (v := (3 : Int32)) dL_energy_24 (by decide) ?_
    exact r_iret dL_energy_25 rfl (Nat.le_of_ble_eq_true rfl) (Nat.le_of_ble_eq_true rfl) ⟨rfl, rfl⟩
set_option maxHeartbeats 4000000 in
set_option maxRecDepth 100000 in
theorem wo_rowEnergy {G : gG} {lay : Nat → Nat × Nat} {T0 T1 : Nat} {Dd : Nat → Nat → UInt64} {I : gI} {J : gJ} {K : gI} {N : gJ} {sz n : Nat} {a1 : Int32} {a2 : Int32} (hs : G.1.stackTraces = false) (hE : gLay lay) (hT0 : gTank lay T0) (hT1 : gTank lay T1) {v : Int64} (hf : F_X9_rowEnergy n T0 T1 I a1 a2 = some (.inr v)) : gCt G mL_rowEnergy [.ref (G.2.2.1 + 0), .int a1, .int a2, .ref (G.2.2.1 + 170)] (fO G (lay, T0, T1, Dd) I J K N) sz (gR (some (.int 0)) (fO G (lay, T0, T1, Dd) I (sJ J 170 0 v) K N) sz) := by
  refine gCt.ofH [some (.ref (G.2.2.1 + 0)), some (.int a1), some (.int a2), some (.ref (G.2.2.1 + 170)), none] (h0 := (0, 9, 12, 21)) (ht := [(0, 9, 16, 13), (0, 9, 20, 15)]) (by decide +kernel) rfl hs rfl (Nat.le_of_ble_eq_true rfl) ?_
  refine r_aload_n dL_rowEnergy_0 rfl ?_
  refine r_iconst (v := (0 : Int32)) dL_rowEnergy_1 (by decide) ?_
  refine r_aload_n dL_rowEnergy_2 rfl ?_
  refine r_iload_n dL_rowEnergy_3 rfl ?_
  refine r_iload_n dL_rowEnergy_4 rfl ?_
  refine r_cVi (rest := [.int 0, .ref (G.2.2.1 + 170)]) (ct_X9_rowEnergy hs hE hT0 hT1 hf) dL_rowEnergy_5 wd_1266 zX9_rowEnergy wd_1267 wd_1268 rfl rfl rfl (fo9 (hE 0 (by decide))) rfl rfl ⟨Nat.le_of_ble_eq_true rfl, Nat.le_of_ble_eq_true rfl⟩ (Nat.le_of_ble_eq_true rfl) ⟨Nat.le_of_ble_eq_true rfl, Nat.le_of_ble_eq_true rfl⟩ ?_
  refine a_lastc 0 dL_rowEnergy_8 (hE 170 (by decide)) (vpc rfl) rfl ?_
  refine r_goto (tgt := 24) dL_rowEnergy_9 (by decide) ?_
  refine r_iconst (v := (0 : Int32)) dL_rowEnergy_24 (by decide) ?_
  exact r_iret dL_rowEnergy_25 rfl (Nat.le_of_ble_eq_true rfl) (Nat.le_of_ble_eq_true rfl) ⟨rfl, rfl, rfl⟩
set_option maxHeartbeats 4000000 in
set_option maxRecDepth 100000 in
theorem we_rowEnergy {G : gG} {lay : Nat → Nat × Nat} {T0 T1 : Nat} {Dd : Nat → Nat → UInt64} {I : gI} {J : gJ} {K : gI} {N : gJ} {sz n : Nat} {a1 : Int32} {a2 : Int32} (hs : G.1.stackTraces = false) (hE : gLay lay) (hT0 : gTank lay T0) (hT1 : gTank lay T1) {E : String} (hf : F_X9_rowEnergy n T0 T1 I a1 a2 = some (.inl E)) : gCt G mL_rowEnergy [.ref (G.2.2.1 + 0), .int a1, .int a2, .ref (G.2.2.1 + 170)] (fO G (lay, T0, T1, Dd) I J K N) sz (gVs (.int (thA E)) (fO G (lay, T0, T1, Dd) I J K N)) := by
  have hS := xsF_X9_rowEnergy (S := fun e => e = ISE ∨ e = IOB ∨ e = IAE) _ _ _ _ _ _ (Or.inl rfl) (Or.inr (Or.inl rfl)) (Or.inr (Or.inr (rfl))) E hf
  refine gCt.ofH [some (.ref (G.2.2.1 + 0)), some (.int a1), some (.int a2), some (.ref (G.2.2.1 + 170)), none] (h0 := (0, 9, 12, 21)) (ht := [(0, 9, 16, 13), (0, 9, 20, 15)]) (by decide +kernel) rfl hs rfl (Nat.le_of_ble_eq_true rfl) ?_
  refine r_aload_n dL_rowEnergy_0 rfl ?_
  refine r_iconst (v := (0 : Int32)) dL_rowEnergy_1 (by decide) ?_
  refine r_aload_n dL_rowEnergy_2 rfl ?_
  refine r_iload_n dL_rowEnergy_3 rfl ?_
  refine r_iload_n dL_rowEnergy_4 rfl ?_
  rcases hS with rfl | rfl | rfl
  · refine r_callVX (rest := [.int 0, .ref (G.2.2.1 + 170)]) (ct_X9_rowEnergy hs hE hT0 hT1 hf) dL_rowEnergy_5 wd_1266 zX9_rowEnergy wd_1267 wd_1268 rfl rfl rfl (fo9 (hE 0 (by decide))) rfl rfl ⟨Nat.le_of_ble_eq_true rfl, Nat.le_of_ble_eq_true rfl⟩ (Nat.le_of_ble_eq_true rfl) ⟨Nat.le_of_ble_eq_true rfl, Nat.le_of_ble_eq_true rfl⟩ (fun sz9 => ?_)
    refine x_catch (name := "java/lang/IllegalStateException") [] (0, 9, 12, 21) [(0, 9, 16, 13), (0, 9, 20, 15)] rfl hp0 (by decide) (by decide) wd_864 wd_875 (fun q9 => ?_)
    refine r_astore dL_rowEnergy_12 (by decide) rfl ?_
    refine r_iconst (v := (1 : Int32)) dL_rowEnergy_14 (by decide) ?_
    exact r_iret dL_rowEnergy_15 rfl (Nat.le_of_ble_eq_true rfl) (Nat.le_of_ble_eq_true rfl) ⟨rfl, rfl⟩
  · refine r_callVX (rest := [.int 0, .ref (G.2.2.1 + 170)]) (ct_X9_rowEnergy hs hE hT0 hT1 hf) dL_rowEnergy_5 wd_1266 zX9_rowEnergy wd_1267 wd_1268 rfl rfl rfl (fo9 (hE 0 (by decide))) rfl rfl ⟨Nat.le_of_ble_eq_true rfl, Nat.le_of_ble_eq_true rfl⟩ (Nat.le_of_ble_eq_true rfl) ⟨Nat.le_of_ble_eq_true rfl, Nat.le_of_ble_eq_true rfl⟩ (fun sz9 => ?_)
    refine x_catch (name := "java/lang/IndexOutOfBoundsException") [(0, 9, 12, 21)] (0, 9, 16, 13) [(0, 9, 20, 15)] rfl (hp1 (Or.inr ⟨by decide, "java/lang/IllegalStateException", wd_864, nc_12⟩)) (by decide) (by decide) wd_524 wd_532 (fun q9 => ?_)
    refine r_astore dL_rowEnergy_16 (by decide) rfl ?_
    refine r_iconst (v := (2 : Int32)) dL_rowEnergy_18 (by decide) ?_
    exact r_iret dL_rowEnergy_19 rfl (Nat.le_of_ble_eq_true rfl) (Nat.le_of_ble_eq_true rfl) ⟨rfl, rfl⟩
  · refine r_callVX (rest := [.int 0, .ref (G.2.2.1 + 170)]) (ct_X9_rowEnergy hs hE hT0 hT1 hf) dL_rowEnergy_5 wd_1266 zX9_rowEnergy wd_1267 wd_1268 rfl rfl rfl (fo9 (hE 0 (by decide))) rfl rfl ⟨Nat.le_of_ble_eq_true rfl, Nat.le_of_ble_eq_true rfl⟩ (Nat.le_of_ble_eq_true rfl) ⟨Nat.le_of_ble_eq_true rfl, Nat.le_of_ble_eq_true rfl⟩ (fun sz9 => ?_)
    refine x_catch (name := "java/lang/IllegalArgumentException") [(0, 9, 12, 21), (0, 9, 16, 13)] (0, 9, 20, 15) [] rfl (hp2 (Or.inr ⟨by decide, "java/lang/IllegalStateException", wd_864, nc_13⟩) (Or.inr ⟨by decide, "java/lang/IndexOutOfBoundsException", wd_524, nc_23⟩)) (by decide) (by decide) wd_525 wd_839 (fun q9 => ?_)
    refine r_astore dL_rowEnergy_20 (by decide) rfl ?_
    refine r_iconst (v := (3 : Int32)) dL_rowEnergy_22 (by decide) ?_
    exact r_iret dL_rowEnergy_23 rfl (Nat.le_of_ble_eq_true rfl) (Nat.le_of_ble_eq_true rfl) ⟨rfl, rfl⟩
set_option maxHeartbeats 4000000 in
set_option maxRecDepth 100000 in
theorem wo_allEnergy {G : gG} {lay : Nat → Nat × Nat} {T0 T1 : Nat} {Dd : Nat → Nat → UInt64} {I : gI} {J : gJ} {K : gI} {N : gJ} {sz n : Nat} {a1 : Int32} (hs : G.1.stackTraces = false) (hE : gLay lay) (hT0 : gTank lay T0) (hT1 : gTank lay T1) {v : Int64 × gJ} (hf : F_X9_allEnergy n T0 T1 I J a1 = some (.inr v)) : gCt G mL_allEnergy [.ref (G.2.2.1 + 0), .int a1, .ref (G.2.2.1 + 170)] (fO G (lay, T0, T1, Dd) I J K N) sz (gR (some (.int 0)) (fO G (lay, T0, T1, Dd) I (sJ v.2 170 0 v.1) K N) sz) := by
  refine gCt.ofH [some (.ref (G.2.2.1 + 0)), some (.int a1), some (.ref (G.2.2.1 + 170)), none] (h0 := (0, 8, 11, 21)) (ht := [(0, 8, 14, 15)]) (by decide +kernel) rfl hs rfl (Nat.le_of_ble_eq_true rfl) ?_
  refine r_aload_n dL_allEnergy_0 rfl ?_
  refine r_iconst (v := (0 : Int32)) dL_allEnergy_1 (by decide) ?_
  refine r_aload_n dL_allEnergy_2 rfl ?_
  refine r_iload_n dL_allEnergy_3 rfl ?_
  refine r_cVi (rest := [.int 0, .ref (G.2.2.1 + 170)]) (ct_X9_allEnergy hs hE hT0 hT1 hf) dL_allEnergy_4 wd_1273 zX9_allEnergy wd_1274 wd_1275 rfl rfl rfl (fo9 (hE 0 (by decide))) rfl rfl ⟨Nat.le_of_ble_eq_true rfl, Nat.le_of_ble_eq_true rfl⟩ (Nat.le_of_ble_eq_true rfl) ⟨Nat.le_of_ble_eq_true rfl, Nat.le_of_ble_eq_true rfl⟩ ?_
  refine a_lastc 0 dL_allEnergy_7 (hE 170 (by decide)) (vpc rfl) rfl ?_
  refine r_goto (tgt := 17) dL_allEnergy_8 (by decide) ?_
  refine r_iconst (v := (0 : Int32)) dL_allEnergy_17 (by decide) ?_
  exact r_iret dL_allEnergy_18 rfl (Nat.le_of_ble_eq_true rfl) (Nat.le_of_ble_eq_true rfl) ⟨rfl, rfl, rfl⟩
set_option maxHeartbeats 4000000 in
set_option maxRecDepth 100000 in
theorem we_allEnergy {G : gG} {lay : Nat → Nat × Nat} {T0 T1 : Nat} {Dd : Nat → Nat → UInt64} {I : gI} {J : gJ} {K : gI} {N : gJ} {sz n : Nat} {a1 : Int32} (hs : G.1.stackTraces = false) (hE : gLay lay) (hT0 : gTank lay T0) (hT1 : gTank lay T1) {E : String} (hf : F_X9_allEnergy n T0 T1 I J a1 = some (.inl E)) : gCt G mL_allEnergy [.ref (G.2.2.1 + 0), .int a1, .ref (G.2.2.1 + 170)] (fO G (lay, T0, T1, Dd) I J K N) sz (gVs (.int (thB E)) (fO G (lay, T0, T1, Dd) I J K N)) := by
  have hS := xsF_X9_allEnergy (S := fun e => e = ISE ∨ e = IAE) _ _ _ _ _ _ (Or.inl rfl) (Or.inr (rfl)) E hf
  refine gCt.ofH [some (.ref (G.2.2.1 + 0)), some (.int a1), some (.ref (G.2.2.1 + 170)), none] (h0 := (0, 8, 11, 21)) (ht := [(0, 8, 14, 15)]) (by decide +kernel) rfl hs rfl (Nat.le_of_ble_eq_true rfl) ?_
  refine r_aload_n dL_allEnergy_0 rfl ?_
  refine r_iconst (v := (0 : Int32)) dL_allEnergy_1 (by decide) ?_
  refine r_aload_n dL_allEnergy_2 rfl ?_
  refine r_iload_n dL_allEnergy_3 rfl ?_
  rcases hS with rfl | rfl
  · refine r_callVX (rest := [.int 0, .ref (G.2.2.1 + 170)]) (ct_X9_allEnergy hs hE hT0 hT1 hf) dL_allEnergy_4 wd_1273 zX9_allEnergy wd_1274 wd_1275 rfl rfl rfl (fo9 (hE 0 (by decide))) rfl rfl ⟨Nat.le_of_ble_eq_true rfl, Nat.le_of_ble_eq_true rfl⟩ (Nat.le_of_ble_eq_true rfl) ⟨Nat.le_of_ble_eq_true rfl, Nat.le_of_ble_eq_true rfl⟩ (fun sz9 => ?_)
    refine x_catch (name := "java/lang/IllegalStateException") [] (0, 8, 11, 21) [(0, 8, 14, 15)] rfl hp0 (by decide) (by decide) wd_864 wd_875 (fun q9 => ?_)
    refine r_astore_n dL_allEnergy_11 (by decide) rfl ?_
    refine r_iconst (v := (1 : Int32)) dL_allEnergy_12 (by decide) ?_
    exact r_iret dL_allEnergy_13 rfl (Nat.le_of_ble_eq_true rfl) (Nat.le_of_ble_eq_true rfl) ⟨rfl, rfl⟩
  · refine r_callVX (rest := [.int 0, .ref (G.2.2.1 + 170)]) (ct_X9_allEnergy hs hE hT0 hT1 hf) dL_allEnergy_4 wd_1273 zX9_allEnergy wd_1274 wd_1275 rfl rfl rfl (fo9 (hE 0 (by decide))) rfl rfl ⟨Nat.le_of_ble_eq_true rfl, Nat.le_of_ble_eq_true rfl⟩ (Nat.le_of_ble_eq_true rfl) ⟨Nat.le_of_ble_eq_true rfl, Nat.le_of_ble_eq_true rfl⟩ (fun sz9 => ?_)
    refine x_catch (name := "java/lang/IllegalArgumentException") [(0, 8, 11, 21)] (0, 8, 14, 15) [] rfl (hp1 (Or.inr ⟨by decide, "java/lang/IllegalStateException", wd_864, nc_13⟩)) (by decide) (by decide) wd_525 wd_839 (fun q9 => ?_)
    refine r_astore_n dL_allEnergy_14 (by decide) rfl ?_
    refine r_iconst (v := (2 : Int32)) dL_allEnergy_15 (by decide) ?_
    exact r_iret dL_allEnergy_16 rfl (Nat.le_of_ble_eq_true rfl) (Nat.le_of_ble_eq_true rfl) ⟨rfl, rfl⟩
set_option maxHeartbeats 4000000 in
set_option maxRecDepth 100000 in
theorem wo_strongest {G : gG} {lay : Nat → Nat × Nat} {T0 T1 : Nat} {Dd : Nat → Nat → UInt64} {I : gI} {J : gJ} {K : gI} {N : gJ} {sz n : Nat} {a1 : Int32} {a2 : Int32} (hs : G.1.stackTraces = false) (hE : gLay lay) (hT0 : gTank lay T0) (hT1 : gTank lay T1) {v : Int32 × gJ} (hf : F_X9_strongest n T0 T1 I J a1 a2 = some (.inr v)) : gCt G mL_strongest [.ref (G.2.2.1 + 0), .int a1, .int a2, .ref (G.2.2.1 + 170)] (fO G (lay, T0, T1, Dd) I J K N) sz (gR (some (.int 0)) (fO G (lay, T0, T1, Dd) I (sJ v.2 170 0 (v.1).toInt64) K N) sz) := by
  refine gCt.ofH [some (.ref (G.2.2.1 + 0)), some (.int a1), some (.int a2), some (.ref (G.2.2.1 + 170)), none] (h0 := (0, 10, 13, 21)) (ht := [(0, 10, 17, 13), (0, 10, 21, 15)]) (by decide +kernel) rfl hs rfl (Nat.le_of_ble_eq_true rfl) ?_
  refine r_aload_n dL_strongest_0 rfl ?_
  refine r_iconst (v := (0 : Int32)) dL_strongest_1 (by decide) ?_
  refine r_aload_n dL_strongest_2 rfl ?_
  refine r_iload_n dL_strongest_3 rfl ?_
  refine r_iload_n dL_strongest_4 rfl ?_
  refine r_cVi (rest := [.int 0, .ref (G.2.2.1 + 170)]) (ct_X9_strongest hs hE hT0 hT1 hf) dL_strongest_5 wd_1288 zX9_strongest wd_1289 wd_1290 rfl rfl rfl (fo9 (hE 0 (by decide))) rfl rfl ⟨Nat.le_of_ble_eq_true rfl, Nat.le_of_ble_eq_true rfl⟩ (Nat.le_of_ble_eq_true rfl) ⟨Nat.le_of_ble_eq_true rfl, Nat.le_of_ble_eq_true rfl⟩ ?_
  refine r_i2l dL_strongest_8 ?_
  refine a_lastc 0 dL_strongest_9 (hE 170 (by decide)) (vpc rfl) rfl ?_
  refine r_goto (tgt := 25) dL_strongest_10 (by decide) ?_
  refine r_iconst (v := (0 : Int32)) dL_strongest_25 (by decide) ?_
  exact r_iret dL_strongest_26 rfl (Nat.le_of_ble_eq_true rfl) (Nat.le_of_ble_eq_true rfl) ⟨rfl, rfl, rfl⟩
set_option maxHeartbeats 4000000 in
set_option maxRecDepth 100000 in
theorem we_strongest {G : gG} {lay : Nat → Nat × Nat} {T0 T1 : Nat} {Dd : Nat → Nat → UInt64} {I : gI} {J : gJ} {K : gI} {N : gJ} {sz n : Nat} {a1 : Int32} {a2 : Int32} (hs : G.1.stackTraces = false) (hE : gLay lay) (hT0 : gTank lay T0) (hT1 : gTank lay T1) {E : String} (hf : F_X9_strongest n T0 T1 I J a1 a2 = some (.inl E)) : gCt G mL_strongest [.ref (G.2.2.1 + 0), .int a1, .int a2, .ref (G.2.2.1 + 170)] (fO G (lay, T0, T1, Dd) I J K N) sz (gVs (.int (thA E)) (fO G (lay, T0, T1, Dd) I J K N)) := by
  have hS := xsF_X9_strongest (S := fun e => e = ISE ∨ e = IOB ∨ e = IAE) _ _ _ _ _ _ _ (Or.inl rfl) (Or.inr (Or.inl rfl)) (Or.inr (Or.inr (rfl))) E hf
  refine gCt.ofH [some (.ref (G.2.2.1 + 0)), some (.int a1), some (.int a2), some (.ref (G.2.2.1 + 170)), none] (h0 := (0, 10, 13, 21)) (ht := [(0, 10, 17, 13), (0, 10, 21, 15)]) (by decide +kernel) rfl hs rfl (Nat.le_of_ble_eq_true rfl) ?_
  refine r_aload_n dL_strongest_0 rfl ?_
  refine r_iconst (v := (0 : Int32)) dL_strongest_1 (by decide) ?_
  refine r_aload_n dL_strongest_2 rfl ?_
  refine r_iload_n dL_strongest_3 rfl ?_
  refine r_iload_n dL_strongest_4 rfl ?_
  rcases hS with rfl | rfl | rfl
  · refine r_callVX (rest := [.int 0, .ref (G.2.2.1 + 170)]) (ct_X9_strongest hs hE hT0 hT1 hf) dL_strongest_5 wd_1288 zX9_strongest wd_1289 wd_1290 rfl rfl rfl (fo9 (hE 0 (by decide))) rfl rfl ⟨Nat.le_of_ble_eq_true rfl, Nat.le_of_ble_eq_true rfl⟩ (Nat.le_of_ble_eq_true rfl) ⟨Nat.le_of_ble_eq_true rfl, Nat.le_of_ble_eq_true rfl⟩ (fun sz9 => ?_)
    refine x_catch (name := "java/lang/IllegalStateException") [] (0, 10, 13, 21) [(0, 10, 17, 13), (0, 10, 21, 15)] rfl hp0 (by decide) (by decide) wd_864 wd_875 (fun q9 => ?_)
    refine r_astore dL_strongest_13 (by decide) rfl ?_
    refine r_iconst (v := (1 : Int32)) dL_strongest_15 (by decide) ?_
    exact r_iret dL_strongest_16 rfl (Nat.le_of_ble_eq_true rfl) (Nat.le_of_ble_eq_true rfl) ⟨rfl, rfl⟩
  · refine r_callVX (rest := [.int 0, .ref (G.2.2.1 + 170)]) (ct_X9_strongest hs hE hT0 hT1 hf) dL_strongest_5 wd_1288 zX9_strongest wd_1289 wd_1290 rfl rfl rfl (fo9 (hE 0 (by decide))) rfl rfl ⟨Nat.le_of_ble_eq_true rfl, Nat.le_of_ble_eq_true rfl⟩ (Nat.le_of_ble_eq_true rfl) ⟨Nat.le_of_ble_eq_true rfl, Nat.le_of_ble_eq_true rfl⟩ (fun sz9 => ?_)
    refine x_catch (name := "java/lang/IndexOutOfBoundsException") [(0, 10, 13, 21)] (0, 10, 17, 13) [(0, 10, 21, 15)] rfl (hp1 (Or.inr ⟨by decide, "java/lang/IllegalStateException", wd_864, nc_12⟩)) (by decide) (by decide) wd_524 wd_532 (fun q9 => ?_)
    refine r_astore dL_strongest_17 (by decide) rfl ?_
    refine r_iconst (v := (2 : Int32)) dL_strongest_19 (by decide) ?_
    exact r_iret dL_strongest_20 rfl (Nat.le_of_ble_eq_true rfl) (Nat.le_of_ble_eq_true rfl) ⟨rfl, rfl⟩
  · refine r_callVX (rest := [.int 0, .ref (G.2.2.1 + 170)]) (ct_X9_strongest hs hE hT0 hT1 hf) dL_strongest_5 wd_1288 zX9_strongest wd_1289 wd_1290 rfl rfl rfl (fo9 (hE 0 (by decide))) rfl rfl ⟨Nat.le_of_ble_eq_true rfl, Nat.le_of_ble_eq_true rfl⟩ (Nat.le_of_ble_eq_true rfl) ⟨Nat.le_of_ble_eq_true rfl, Nat.le_of_ble_eq_true rfl⟩ (fun sz9 => ?_)
    refine x_catch (name := "java/lang/IllegalArgumentException") [(0, 10, 13, 21), (0, 10, 17, 13)] (0, 10, 21, 15) [] rfl (hp2 (Or.inr ⟨by decide, "java/lang/IllegalStateException", wd_864, nc_13⟩) (Or.inr ⟨by decide, "java/lang/IndexOutOfBoundsException", wd_524, nc_23⟩)) (by decide) (by decide) wd_525 wd_839 (fun q9 => ?_)
    refine r_astore dL_strongest_21 (by decide) rfl ?_
    refine r_iconst (v := (3 : Int32)) dL_strongest_23 (by decide) ?_
    exact r_iret dL_strongest_24 rfl (Nat.le_of_ble_eq_true rfl) (Nat.le_of_ble_eq_true rfl) ⟨rfl, rfl⟩
set_option maxHeartbeats 4000000 in
set_option maxRecDepth 100000 in
theorem wo_marks {G : gG} {lay : Nat → Nat × Nat} {T0 T1 : Nat} {Dd : Nat → Nat → UInt64} {I : gI} {J : gJ} {K : gI} {N : gJ} {sz n : Nat} {a1 : Int32} {a2 : Int32} (hs : G.1.stackTraces = false) (hE : gLay lay) (hT0 : gTank lay T0) (hT1 : gTank lay T1) {v : Int32 × gJ} (hf : F_X9_marks n T0 T1 I J a1 a2 = some (.inr v)) : gCt G mL_marks [.ref (G.2.2.1 + 0), .int a1, .int a2, .ref (G.2.2.1 + 170)] (fO G (lay, T0, T1, Dd) I J K N) sz (gR (some (.int 0)) (fO G (lay, T0, T1, Dd) I (sJ v.2 170 0 (v.1).toInt64) K N) sz) := by
  refine gCt.ofH [some (.ref (G.2.2.1 + 0)), some (.int a1), some (.int a2), some (.ref (G.2.2.1 + 170)), none] (h0 := (0, 10, 13, 21)) (ht := [(0, 10, 17, 15)]) (by decide +kernel) rfl hs rfl (Nat.le_of_ble_eq_true rfl) ?_
  refine r_aload_n dL_marks_0 rfl ?_
  refine r_iconst (v := (0 : Int32)) dL_marks_1 (by decide) ?_
  refine r_aload_n dL_marks_2 rfl ?_
  refine r_iload_n dL_marks_3 rfl ?_
  refine r_iload_n dL_marks_4 rfl ?_
  refine r_cVi (rest := [.int 0, .ref (G.2.2.1 + 170)]) (ct_X9_marks hs hE hT0 hT1 hf) dL_marks_5 wd_1300 zX9_marks wd_1301 wd_1302 rfl rfl rfl (fo9 (hE 0 (by decide))) rfl rfl ⟨Nat.le_of_ble_eq_true rfl, Nat.le_of_ble_eq_true rfl⟩ (Nat.le_of_ble_eq_true rfl) ⟨Nat.le_of_ble_eq_true rfl, Nat.le_of_ble_eq_true rfl⟩ ?_
  refine r_i2l dL_marks_8 ?_
  refine a_lastc 0 dL_marks_9 (hE 170 (by decide)) (vpc rfl) rfl ?_
  refine r_goto (tgt := 21) dL_marks_10 (by decide) ?_
  refine r_iconst (v := (0 : Int32)) dL_marks_21 (by decide) ?_
  exact r_iret dL_marks_22 rfl (Nat.le_of_ble_eq_true rfl) (Nat.le_of_ble_eq_true rfl) ⟨rfl, rfl, rfl⟩
set_option maxHeartbeats 4000000 in
set_option maxRecDepth 100000 in
theorem we_marks {G : gG} {lay : Nat → Nat × Nat} {T0 T1 : Nat} {Dd : Nat → Nat → UInt64} {I : gI} {J : gJ} {K : gI} {N : gJ} {sz n : Nat} {a1 : Int32} {a2 : Int32} (hs : G.1.stackTraces = false) (hE : gLay lay) (hT0 : gTank lay T0) (hT1 : gTank lay T1) {E : String} (hf : F_X9_marks n T0 T1 I J a1 a2 = some (.inl E)) : gCt G mL_marks [.ref (G.2.2.1 + 0), .int a1, .int a2, .ref (G.2.2.1 + 170)] (fO G (lay, T0, T1, Dd) I J K N) sz (gVs (.int (thB E)) (fO G (lay, T0, T1, Dd) I J K N)) := by
  have hS := xsF_X9_marks (S := fun e => e = ISE ∨ e = IAE) _ _ _ _ _ _ _ (Or.inl rfl) (Or.inr (rfl)) E hf
  refine gCt.ofH [some (.ref (G.2.2.1 + 0)), some (.int a1), some (.int a2), some (.ref (G.2.2.1 + 170)), none] (h0 := (0, 10, 13, 21)) (ht := [(0, 10, 17, 15)]) (by decide +kernel) rfl hs rfl (Nat.le_of_ble_eq_true rfl) ?_
  refine r_aload_n dL_marks_0 rfl ?_
  refine r_iconst (v := (0 : Int32)) dL_marks_1 (by decide) ?_
  refine r_aload_n dL_marks_2 rfl ?_
  refine r_iload_n dL_marks_3 rfl ?_
  refine r_iload_n dL_marks_4 rfl ?_
  rcases hS with rfl | rfl
  · refine r_callVX (rest := [.int 0, .ref (G.2.2.1 + 170)]) (ct_X9_marks hs hE hT0 hT1 hf) dL_marks_5 wd_1300 zX9_marks wd_1301 wd_1302 rfl rfl rfl (fo9 (hE 0 (by decide))) rfl rfl ⟨Nat.le_of_ble_eq_true rfl, Nat.le_of_ble_eq_true rfl⟩ (Nat.le_of_ble_eq_true rfl) ⟨Nat.le_of_ble_eq_true rfl, Nat.le_of_ble_eq_true rfl⟩ (fun sz9 => ?_)
    refine x_catch (name := "java/lang/IllegalStateException") [] (0, 10, 13, 21) [(0, 10, 17, 15)] rfl hp0 (by decide) (by decide) wd_864 wd_875 (fun q9 => ?_)
    refine r_astore dL_marks_13 (by decide) rfl ?_
    refine r_iconst (v := (1 : Int32)) dL_marks_15 (by decide) ?_
    exact r_iret dL_marks_16 rfl (Nat.le_of_ble_eq_true rfl) (Nat.le_of_ble_eq_true rfl) ⟨rfl, rfl⟩
  · refine r_callVX (rest := [.int 0, .ref (G.2.2.1 + 170)]) (ct_X9_marks hs hE hT0 hT1 hf) dL_marks_5 wd_1300 zX9_marks wd_1301 wd_1302 rfl rfl rfl (fo9 (hE 0 (by decide))) rfl rfl ⟨Nat.le_of_ble_eq_true rfl, Nat.le_of_ble_eq_true rfl⟩ (Nat.le_of_ble_eq_true rfl) ⟨Nat.le_of_ble_eq_true rfl, Nat.le_of_ble_eq_true rfl⟩ (fun sz9 => ?_)
    refine x_catch (name := "java/lang/IllegalArgumentException") [(0, 10, 13, 21)] (0, 10, 17, 15) [] rfl (hp1 (Or.inr ⟨by decide, "java/lang/IllegalStateException", wd_864, nc_13⟩)) (by decide) (by decide) wd_525 wd_839 (fun q9 => ?_)
    refine r_astore dL_marks_17 (by decide) rfl ?_
    refine r_iconst (v := (2 : Int32)) dL_marks_19 (by decide) ?_
    exact r_iret dL_marks_20 rfl (Nat.le_of_ble_eq_true rfl) (Nat.le_of_ble_eq_true rfl) ⟨rfl, rfl⟩
set_option maxHeartbeats 4000000 in
set_option maxRecDepth 100000 in
theorem wo_isMark {G : gG} {lay : Nat → Nat × Nat} {T0 T1 : Nat} {Dd : Nat → Nat → UInt64} {I : gI} {J : gJ} {K : gI} {N : gJ} {sz n : Nat} {a1 : Int32} {a2 : Int32} {a3 : Int32} {a4 : Int32} (hs : G.1.stackTraces = false) (hE : gLay lay) (hT0 : gTank lay T0) (hT1 : gTank lay T1) {v : Int32 × gJ} (hf : F_X9_isMark n T0 T1 I J a1 a2 a3 a4 = some (.inr v)) : gCt G mL_isMark [.ref (G.2.2.1 + 0), .int a1, .int a2, .int a3, .int a4, .ref (G.2.2.1 + 170)] (fO G (lay, T0, T1, Dd) I J K N) sz (gR (some (.int 0)) (fO G (lay, T0, T1, Dd) I (sJ v.2 170 0 (if v.1 = 0 then 0 else 1 : Int64)) K N) sz) := by
  refine gCt.ofH [some (.ref (G.2.2.1 + 0)), some (.int a1), some (.int a2), some (.int a3), some (.int a4), some (.ref (G.2.2.1 + 170)), none] (h0 := (0, 21, 24, 21)) (ht := [(0, 21, 28, 13), (0, 21, 32, 15)]) (by decide +kernel) rfl hs rfl (Nat.le_of_ble_eq_true rfl) ?_
  refine r_aload dL_isMark_0 rfl ?_
  refine r_iconst (v := (0 : Int32)) dL_isMark_2 (by decide) ?_
  refine r_aload_n dL_isMark_3 rfl ?_
  refine r_iload_n dL_isMark_4 rfl ?_
  refine r_iload_n dL_isMark_5 rfl ?_
  refine r_iload_n dL_isMark_6 rfl ?_
  refine r_iload dL_isMark_7 rfl ?_
  refine r_cVi (rest := [.int 0, .ref (G.2.2.1 + 170)]) (ct_X9_isMark hs hE hT0 hT1 hf) dL_isMark_9 wd_1318 zX9_isMark wd_1319 wd_1320 rfl rfl rfl (fo9 (hE 0 (by decide))) rfl rfl ⟨Nat.le_of_ble_eq_true rfl, Nat.le_of_ble_eq_true rfl⟩ (Nat.le_of_ble_eq_true rfl) ⟨Nat.le_of_ble_eq_true rfl, Nat.le_of_ble_eq_true rfl⟩ ?_
  refine r_if_eq (tgt := 19) dL_isMark_12 (by decide) (fun c => ?_) (fun c => ?_)
  · refine r_lconst (v := (0 : Int64)) dL_isMark_19 (by decide) ?_
    refine a_lastc 0 dL_isMark_20 (hE 170 (by decide)) (vpc rfl) rfl ?_
    refine r_goto (tgt := 36) dL_isMark_21 (by decide) ?_
    refine r_iconst (v := (0 : Int32)) dL_isMark_36 (by decide) ?_
    exact r_iret dL_isMark_37 rfl (Nat.le_of_ble_eq_true rfl) (Nat.le_of_ble_eq_true rfl) ⟨rfl, by rw [if_pos c], rfl⟩
  · refine r_lconst (v := (1 : Int64)) dL_isMark_15 (by decide) ?_
    refine r_goto (tgt := 20) dL_isMark_16 (by decide) ?_
    refine a_lastc 0 dL_isMark_20 (hE 170 (by decide)) (vpc rfl) rfl ?_
    refine r_goto (tgt := 36) dL_isMark_21 (by decide) ?_
    refine r_iconst (v := (0 : Int32)) dL_isMark_36 (by decide) ?_
    exact r_iret dL_isMark_37 rfl (Nat.le_of_ble_eq_true rfl) (Nat.le_of_ble_eq_true rfl) ⟨rfl, by rw [if_neg c], rfl⟩
set_option maxHeartbeats 4000000 in
set_option maxRecDepth 100000 in
theorem we_isMark {G : gG} {lay : Nat → Nat × Nat} {T0 T1 : Nat} {Dd : Nat → Nat → UInt64} {I : gI} {J : gJ} {K : gI} {N : gJ} {sz n : Nat} {a1 : Int32} {a2 : Int32} {a3 : Int32} {a4 : Int32} (hs : G.1.stackTraces = false) (hE : gLay lay) (hT0 : gTank lay T0) (hT1 : gTank lay T1) {E : String} (hf : F_X9_isMark n T0 T1 I J a1 a2 a3 a4 = some (.inl E)) : gCt G mL_isMark [.ref (G.2.2.1 + 0), .int a1, .int a2, .int a3, .int a4, .ref (G.2.2.1 + 170)] (fO G (lay, T0, T1, Dd) I J K N) sz (gVs (.int (thA E)) (fO G (lay, T0, T1, Dd) I J K N)) := by
  have hS := xsF_X9_isMark (S := fun e => e = ISE ∨ e = IOB ∨ e = IAE) _ _ _ _ _ _ _ _ _ (Or.inl rfl) (Or.inr (Or.inl rfl)) (Or.inr (Or.inr (rfl))) E hf
  refine gCt.ofH [some (.ref (G.2.2.1 + 0)), some (.int a1), some (.int a2), some (.int a3), some (.int a4), some (.ref (G.2.2.1 + 170)), none] (h0 := (0, 21, 24, 21)) (ht := [(0, 21, 28, 13), (0, 21, 32, 15)]) (by decide +kernel) rfl hs rfl (Nat.le_of_ble_eq_true rfl) ?_
  refine r_aload dL_isMark_0 rfl ?_
  refine r_iconst (v := (0 : Int32)) dL_isMark_2 (by decide) ?_
  refine r_aload_n dL_isMark_3 rfl ?_
  refine r_iload_n dL_isMark_4 rfl ?_
  refine r_iload_n dL_isMark_5 rfl ?_
  refine r_iload_n dL_isMark_6 rfl ?_
  refine r_iload dL_isMark_7 rfl ?_
  rcases hS with rfl | rfl | rfl
  · refine r_callVX (rest := [.int 0, .ref (G.2.2.1 + 170)]) (ct_X9_isMark hs hE hT0 hT1 hf) dL_isMark_9 wd_1318 zX9_isMark wd_1319 wd_1320 rfl rfl rfl (fo9 (hE 0 (by decide))) rfl rfl ⟨Nat.le_of_ble_eq_true rfl, Nat.le_of_ble_eq_true rfl⟩ (Nat.le_of_ble_eq_true rfl) ⟨Nat.le_of_ble_eq_true rfl, Nat.le_of_ble_eq_true rfl⟩ (fun sz9 => ?_)
    refine x_catch (name := "java/lang/IllegalStateException") [] (0, 21, 24, 21) [(0, 21, 28, 13), (0, 21, 32, 15)] rfl hp0 (by decide) (by decide) wd_864 wd_875 (fun q9 => ?_)
    refine r_astore dL_isMark_24 (by decide) rfl ?_
    refine r_iconst (v := (1 : Int32)) dL_isMark_26 (by decide) ?_
    exact r_iret dL_isMark_27 rfl (Nat.le_of_ble_eq_true rfl) (Nat.le_of_ble_eq_true rfl) ⟨rfl, rfl⟩
  · refine r_callVX (rest := [.int 0, .ref (G.2.2.1 + 170)]) (ct_X9_isMark hs hE hT0 hT1 hf) dL_isMark_9 wd_1318 zX9_isMark wd_1319 wd_1320 rfl rfl rfl (fo9 (hE 0 (by decide))) rfl rfl ⟨Nat.le_of_ble_eq_true rfl, Nat.le_of_ble_eq_true rfl⟩ (Nat.le_of_ble_eq_true rfl) ⟨Nat.le_of_ble_eq_true rfl, Nat.le_of_ble_eq_true rfl⟩ (fun sz9 => ?_)
    refine x_catch (name := "java/lang/IndexOutOfBoundsException") [(0, 21, 24, 21)] (0, 21, 28, 13) [(0, 21, 32, 15)] rfl (hp1 (Or.inr ⟨by decide, "java/lang/IllegalStateException", wd_864, nc_12⟩)) (by decide) (by decide) wd_524 wd_532 (fun q9 => ?_)
    refine r_astore dL_isMark_28 (by decide) rfl ?_
    refine r_iconst (v := (2 : Int32)) dL_isMark_30 (by decide) ?_
    exact r_iret dL_isMark_31 rfl (Nat.le_of_ble_eq_true rfl) (Nat.le_of_ble_eq_true rfl) ⟨rfl, rfl⟩
  · refine r_callVX (rest := [.int 0, .ref (G.2.2.1 + 170)]) (ct_X9_isMark hs hE hT0 hT1 hf) dL_isMark_9 wd_1318 zX9_isMark wd_1319 wd_1320 rfl rfl rfl (fo9 (hE 0 (by decide))) rfl rfl ⟨Nat.le_of_ble_eq_true rfl, Nat.le_of_ble_eq_true rfl⟩ (Nat.le_of_ble_eq_true rfl) ⟨Nat.le_of_ble_eq_true rfl, Nat.le_of_ble_eq_true rfl⟩ (fun sz9 => ?_)
    refine x_catch (name := "java/lang/IllegalArgumentException") [(0, 21, 24, 21), (0, 21, 28, 13)] (0, 21, 32, 15) [] rfl (hp2 (Or.inr ⟨by decide, "java/lang/IllegalStateException", wd_864, nc_13⟩) (Or.inr ⟨by decide, "java/lang/IndexOutOfBoundsException", wd_524, nc_23⟩)) (by decide) (by decide) wd_525 wd_839 (fun q9 => ?_)
    refine r_astore dL_isMark_32 (by decide) rfl ?_
    refine r_iconst (v := (3 : Int32)) dL_isMark_34 (by decide) ?_
    exact r_iret dL_isMark_35 rfl (Nat.le_of_ble_eq_true rfl) (Nat.le_of_ble_eq_true rfl) ⟨rfl, rfl⟩
set_option maxHeartbeats 4000000 in
set_option maxRecDepth 100000 in
theorem wo_fringes {G : gG} {lay : Nat → Nat × Nat} {T0 T1 : Nat} {Dd : Nat → Nat → UInt64} {I : gI} {J : gJ} {K : gI} {N : gJ} {sz n : Nat} {a1 : Int32} {a2 : Int32} (hs : G.1.stackTraces = false) (hE : gLay lay) (hT0 : gTank lay T0) (hT1 : gTank lay T1) {v : Int32 × gJ} (hf : F_X9_fringes n T0 T1 I J a1 a2 = some (.inr v)) : gCt G mL_fringes [.ref (G.2.2.1 + 0), .int a1, .int a2, .ref (G.2.2.1 + 170)] (fO G (lay, T0, T1, Dd) I J K N) sz (gR (some (.int 0)) (fO G (lay, T0, T1, Dd) I (sJ v.2 170 0 (v.1).toInt64) K N) sz) := by
  refine gCt.ofH [some (.ref (G.2.2.1 + 0)), some (.int a1), some (.int a2), some (.ref (G.2.2.1 + 170)), none] (h0 := (0, 10, 13, 21)) (ht := [(0, 10, 17, 13), (0, 10, 21, 15)]) (by decide +kernel) rfl hs rfl (Nat.le_of_ble_eq_true rfl) ?_
  refine r_aload_n dL_fringes_0 rfl ?_
  refine r_iconst (v := (0 : Int32)) dL_fringes_1 (by decide) ?_
  refine r_aload_n dL_fringes_2 rfl ?_
  refine r_iload_n dL_fringes_3 rfl ?_
  refine r_iload_n dL_fringes_4 rfl ?_
  refine r_cVi (rest := [.int 0, .ref (G.2.2.1 + 170)]) (ct_X9_fringes hs hE hT0 hT1 hf) dL_fringes_5 wd_1329 zX9_fringes wd_1330 wd_1331 rfl rfl rfl (fo9 (hE 0 (by decide))) rfl rfl ⟨Nat.le_of_ble_eq_true rfl, Nat.le_of_ble_eq_true rfl⟩ (Nat.le_of_ble_eq_true rfl) ⟨Nat.le_of_ble_eq_true rfl, Nat.le_of_ble_eq_true rfl⟩ ?_
  refine r_i2l dL_fringes_8 ?_
  refine a_lastc 0 dL_fringes_9 (hE 170 (by decide)) (vpc rfl) rfl ?_
  refine r_goto (tgt := 25) dL_fringes_10 (by decide) ?_
  refine r_iconst (v := (0 : Int32)) dL_fringes_25 (by decide) ?_
  exact r_iret dL_fringes_26 rfl (Nat.le_of_ble_eq_true rfl) (Nat.le_of_ble_eq_true rfl) ⟨rfl, rfl, rfl⟩
set_option maxHeartbeats 4000000 in
set_option maxRecDepth 100000 in
theorem we_fringes {G : gG} {lay : Nat → Nat × Nat} {T0 T1 : Nat} {Dd : Nat → Nat → UInt64} {I : gI} {J : gJ} {K : gI} {N : gJ} {sz n : Nat} {a1 : Int32} {a2 : Int32} (hs : G.1.stackTraces = false) (hE : gLay lay) (hT0 : gTank lay T0) (hT1 : gTank lay T1) {E : String} (hf : F_X9_fringes n T0 T1 I J a1 a2 = some (.inl E)) : gCt G mL_fringes [.ref (G.2.2.1 + 0), .int a1, .int a2, .ref (G.2.2.1 + 170)] (fO G (lay, T0, T1, Dd) I J K N) sz (gVs (.int (thA E)) (fO G (lay, T0, T1, Dd) I J K N)) := by
  have hS := xsF_X9_fringes (S := fun e => e = ISE ∨ e = IOB ∨ e = IAE) _ _ _ _ _ _ _ (Or.inl rfl) (Or.inr (Or.inl rfl)) (Or.inr (Or.inr (rfl))) E hf
  refine gCt.ofH [some (.ref (G.2.2.1 + 0)), some (.int a1), some (.int a2), some (.ref (G.2.2.1 + 170)), none] (h0 := (0, 10, 13, 21)) (ht := [(0, 10, 17, 13), (0, 10, 21, 15)]) (by decide +kernel) rfl hs rfl (Nat.le_of_ble_eq_true rfl) ?_
  refine r_aload_n dL_fringes_0 rfl ?_
  refine r_iconst (v := (0 : Int32)) dL_fringes_1 (by decide) ?_
  refine r_aload_n dL_fringes_2 rfl ?_
  refine r_iload_n dL_fringes_3 rfl ?_
  refine r_iload_n dL_fringes_4 rfl ?_
  rcases hS with rfl | rfl | rfl
  · refine r_callVX (rest := [.int 0, .ref (G.2.2.1 + 170)]) (ct_X9_fringes hs hE hT0 hT1 hf) dL_fringes_5 wd_1329 zX9_fringes wd_1330 wd_1331 rfl rfl rfl (fo9 (hE 0 (by decide))) rfl rfl ⟨Nat.le_of_ble_eq_true rfl, Nat.le_of_ble_eq_true rfl⟩ (Nat.le_of_ble_eq_true rfl) ⟨Nat.le_of_ble_eq_true rfl, Nat.le_of_ble_eq_true rfl⟩ (fun sz9 => ?_)
    refine x_catch (name := "java/lang/IllegalStateException") [] (0, 10, 13, 21) [(0, 10, 17, 13), (0, 10, 21, 15)] rfl hp0 (by decide) (by decide) wd_864 wd_875 (fun q9 => ?_)
    refine r_astore dL_fringes_13 (by decide) rfl ?_
    refine r_iconst (v := (1 : Int32)) dL_fringes_15 (by decide) ?_
    exact r_iret dL_fringes_16 rfl (Nat.le_of_ble_eq_true rfl) (Nat.le_of_ble_eq_true rfl) ⟨rfl, rfl⟩
  · refine r_callVX (rest := [.int 0, .ref (G.2.2.1 + 170)]) (ct_X9_fringes hs hE hT0 hT1 hf) dL_fringes_5 wd_1329 zX9_fringes wd_1330 wd_1331 rfl rfl rfl (fo9 (hE 0 (by decide))) rfl rfl ⟨Nat.le_of_ble_eq_true rfl, Nat.le_of_ble_eq_true rfl⟩ (Nat.le_of_ble_eq_true rfl) ⟨Nat.le_of_ble_eq_true rfl, Nat.le_of_ble_eq_true rfl⟩ (fun sz9 => ?_)
    refine x_catch (name := "java/lang/IndexOutOfBoundsException") [(0, 10, 13, 21)] (0, 10, 17, 13) [(0, 10, 21, 15)] rfl (hp1 (Or.inr ⟨by decide, "java/lang/IllegalStateException", wd_864, nc_12⟩)) (by decide) (by decide) wd_524 wd_532 (fun q9 => ?_)
    refine r_astore dL_fringes_17 (by decide) rfl ?_
    refine r_iconst (v := (2 : Int32)) dL_fringes_19 (by decide) ?_
    exact r_iret dL_fringes_20 rfl (Nat.le_of_ble_eq_true rfl) (Nat.le_of_ble_eq_true rfl) ⟨rfl, rfl⟩
  · refine r_callVX (rest := [.int 0, .ref (G.2.2.1 + 170)]) (ct_X9_fringes hs hE hT0 hT1 hf) dL_fringes_5 wd_1329 zX9_fringes wd_1330 wd_1331 rfl rfl rfl (fo9 (hE 0 (by decide))) rfl rfl ⟨Nat.le_of_ble_eq_true rfl, Nat.le_of_ble_eq_true rfl⟩ (Nat.le_of_ble_eq_true rfl) ⟨Nat.le_of_ble_eq_true rfl, Nat.le_of_ble_eq_true rfl⟩ (fun sz9 => ?_)
    refine x_catch (name := "java/lang/IllegalArgumentException") [(0, 10, 13, 21), (0, 10, 17, 13)] (0, 10, 21, 15) [] rfl (hp2 (Or.inr ⟨by decide, "java/lang/IllegalStateException", wd_864, nc_13⟩) (Or.inr ⟨by decide, "java/lang/IndexOutOfBoundsException", wd_524, nc_23⟩)) (by decide) (by decide) wd_525 wd_839 (fun q9 => ?_)
    refine r_astore dL_fringes_21 (by decide) rfl ?_
    refine r_iconst (v := (3 : Int32)) dL_fringes_23 (by decide) ?_
    exact r_iret dL_fringes_24 rfl (Nat.le_of_ble_eq_true rfl) (Nat.le_of_ble_eq_true rfl) ⟨rfl, rfl⟩
set_option maxHeartbeats 4000000 in
set_option maxRecDepth 100000 in
theorem wo_visibility {G : gG} {lay : Nat → Nat × Nat} {T0 T1 : Nat} {Dd : Nat → Nat → UInt64} {I : gI} {J : gJ} {K : gI} {N : gJ} {sz n : Nat} {a1 : Int32} {a2 : Int32} (hs : G.1.stackTraces = false) (hE : gLay lay) (hT0 : gTank lay T0) (hT1 : gTank lay T1) {v : UInt32 × gJ} (hf : F_X9_visibility n T0 T1 I J a1 a2 = some (.inr v)) (hv : vf_n32 v.1) : gCt G mL_visibility [.ref (G.2.2.1 + 0), .int a1, .int a2, .ref (G.2.2.1 + 171)] (fO G (lay, T0, T1, Dd) I J K N) sz (gR (some (.int 0)) (fO G (lay, T0, T1, sD Dd 171 0 (FP.f2d v.1)) I v.2 K N) sz) := by
  refine gCt.ofH [some (.ref (G.2.2.1 + 0)), some (.int a1), some (.int a2), some (.ref (G.2.2.1 + 171)), none] (h0 := (0, 10, 13, 21)) (ht := [(0, 10, 17, 13), (0, 10, 21, 15)]) (by decide +kernel) rfl hs rfl (Nat.le_of_ble_eq_true rfl) ?_
  refine r_aload_n dL_visibility_0 rfl ?_
  refine r_iconst (v := (0 : Int32)) dL_visibility_1 (by decide) ?_
  refine r_aload_n dL_visibility_2 rfl ?_
  refine r_iload_n dL_visibility_3 rfl ?_
  refine r_iload_n dL_visibility_4 rfl ?_
  refine r_cVi (rest := [.int 0, .ref (G.2.2.1 + 171)]) (ct_X9_visibility hs hE hT0 hT1 hf) dL_visibility_5 wd_1340 zX9_visibility wd_1341 wd_1342 rfl rfl rfl (fo9 (hE 0 (by decide))) rfl rfl ⟨Nat.le_of_ble_eq_true rfl, Nat.le_of_ble_eq_true rfl⟩ (Nat.le_of_ble_eq_true rfl) ⟨Nat.le_of_ble_eq_true rfl, Nat.le_of_ble_eq_true rfl⟩ ?_
  refine r_f2d dL_visibility_8 (fw_n64 hv) ?_
  refine r_dastO hE dL_visibility_9 rfl ?_
  refine r_goto (tgt := 25) dL_visibility_10 (by decide) ?_
  refine r_iconst (v := (0 : Int32)) dL_visibility_25 (by decide) ?_
  exact r_iret dL_visibility_26 rfl (Nat.le_of_ble_eq_true rfl) (Nat.le_of_ble_eq_true rfl) ⟨rfl, rfl, rfl⟩
set_option maxHeartbeats 4000000 in
set_option maxRecDepth 100000 in
theorem we_visibility {G : gG} {lay : Nat → Nat × Nat} {T0 T1 : Nat} {Dd : Nat → Nat → UInt64} {I : gI} {J : gJ} {K : gI} {N : gJ} {sz n : Nat} {a1 : Int32} {a2 : Int32} (hs : G.1.stackTraces = false) (hE : gLay lay) (hT0 : gTank lay T0) (hT1 : gTank lay T1) {E : String} (hf : F_X9_visibility n T0 T1 I J a1 a2 = some (.inl E)) : gCt G mL_visibility [.ref (G.2.2.1 + 0), .int a1, .int a2, .ref (G.2.2.1 + 171)] (fO G (lay, T0, T1, Dd) I J K N) sz (gVs (.int (thA E)) (fO G (lay, T0, T1, Dd) I J K N)) := by
  have hS := xsF_X9_visibility (S := fun e => e = ISE ∨ e = IOB ∨ e = IAE) _ _ _ _ _ _ _ (Or.inl rfl) (Or.inr (Or.inl rfl)) (Or.inr (Or.inr (rfl))) E hf
  refine gCt.ofH [some (.ref (G.2.2.1 + 0)), some (.int a1), some (.int a2), some (.ref (G.2.2.1 + 171)), none] (h0 := (0, 10, 13, 21)) (ht := [(0, 10, 17, 13), (0, 10, 21, 15)]) (by decide +kernel) rfl hs rfl (Nat.le_of_ble_eq_true rfl) ?_
  refine r_aload_n dL_visibility_0 rfl ?_
  refine r_iconst (v := (0 : Int32)) dL_visibility_1 (by decide) ?_
  refine r_aload_n dL_visibility_2 rfl ?_
  refine r_iload_n dL_visibility_3 rfl ?_
  refine r_iload_n dL_visibility_4 rfl ?_
  rcases hS with rfl | rfl | rfl
  · refine r_callVX (rest := [.int 0, .ref (G.2.2.1 + 171)]) (ct_X9_visibility hs hE hT0 hT1 hf) dL_visibility_5 wd_1340 zX9_visibility wd_1341 wd_1342 rfl rfl rfl (fo9 (hE 0 (by decide))) rfl rfl ⟨Nat.le_of_ble_eq_true rfl, Nat.le_of_ble_eq_true rfl⟩ (Nat.le_of_ble_eq_true rfl) ⟨Nat.le_of_ble_eq_true rfl, Nat.le_of_ble_eq_true rfl⟩ (fun sz9 => ?_)
    refine x_catch (name := "java/lang/IllegalStateException") [] (0, 10, 13, 21) [(0, 10, 17, 13), (0, 10, 21, 15)] rfl hp0 (by decide) (by decide) wd_864 wd_875 (fun q9 => ?_)
    refine r_astore dL_visibility_13 (by decide) rfl ?_
    refine r_iconst (v := (1 : Int32)) dL_visibility_15 (by decide) ?_
    exact r_iret dL_visibility_16 rfl (Nat.le_of_ble_eq_true rfl) (Nat.le_of_ble_eq_true rfl) ⟨rfl, rfl⟩
  · refine r_callVX (rest := [.int 0, .ref (G.2.2.1 + 171)]) (ct_X9_visibility hs hE hT0 hT1 hf) dL_visibility_5 wd_1340 zX9_visibility wd_1341 wd_1342 rfl rfl rfl (fo9 (hE 0 (by decide))) rfl rfl ⟨Nat.le_of_ble_eq_true rfl, Nat.le_of_ble_eq_true rfl⟩ (Nat.le_of_ble_eq_true rfl) ⟨Nat.le_of_ble_eq_true rfl, Nat.le_of_ble_eq_true rfl⟩ (fun sz9 => ?_)
    refine x_catch (name := "java/lang/IndexOutOfBoundsException") [(0, 10, 13, 21)] (0, 10, 17, 13) [(0, 10, 21, 15)] rfl (hp1 (Or.inr ⟨by decide, "java/lang/IllegalStateException", wd_864, nc_12⟩)) (by decide) (by decide) wd_524 wd_532 (fun q9 => ?_)
    refine r_astore dL_visibility_17 (by decide) rfl ?_
    refine r_iconst (v := (2 : Int32)) dL_visibility_19 (by decide) ?_
    exact r_iret dL_visibility_20 rfl (Nat.le_of_ble_eq_true rfl) (Nat.le_of_ble_eq_true rfl) ⟨rfl, rfl⟩
  · refine r_callVX (rest := [.int 0, .ref (G.2.2.1 + 171)]) (ct_X9_visibility hs hE hT0 hT1 hf) dL_visibility_5 wd_1340 zX9_visibility wd_1341 wd_1342 rfl rfl rfl (fo9 (hE 0 (by decide))) rfl rfl ⟨Nat.le_of_ble_eq_true rfl, Nat.le_of_ble_eq_true rfl⟩ (Nat.le_of_ble_eq_true rfl) ⟨Nat.le_of_ble_eq_true rfl, Nat.le_of_ble_eq_true rfl⟩ (fun sz9 => ?_)
    refine x_catch (name := "java/lang/IllegalArgumentException") [(0, 10, 13, 21), (0, 10, 17, 13)] (0, 10, 21, 15) [] rfl (hp2 (Or.inr ⟨by decide, "java/lang/IllegalStateException", wd_864, nc_13⟩) (Or.inr ⟨by decide, "java/lang/IndexOutOfBoundsException", wd_524, nc_23⟩)) (by decide) (by decide) wd_525 wd_839 (fun q9 => ?_)
    refine r_astore dL_visibility_21 (by decide) rfl ?_
    refine r_iconst (v := (3 : Int32)) dL_visibility_23 (by decide) ?_
    exact r_iret dL_visibility_24 rfl (Nat.le_of_ble_eq_true rfl) (Nat.le_of_ble_eq_true rfl) ⟨rfl, rfl⟩
set_option maxHeartbeats 4000000 in
set_option maxRecDepth 100000 in
theorem wo_writeRow {G : gG} {lay : Nat → Nat × Nat} {T0 T1 : Nat} {Dd : Nat → Nat → UInt64} {I : gI} {J : gJ} {K : gI} {N : gJ} {sz n : Nat} {a1 : Int32} (hs : G.1.stackTraces = false) (hE : gLay lay) (hT0 : gTank lay T0) (hT1 : gTank lay T1) {v : Int32 × gI} (hf : F_X9_writeRow n T0 T1 I a1 = some (.inr v)) : gCt G mL_writeRow [.ref (G.2.2.1 + 0), .int a1, .ref (G.2.2.1 + 170)] (fO G (lay, T0, T1, Dd) I J K N) sz (gR (some (.int 0)) (fO G (lay, T0, T1, Dd) v.2 (sJ J 170 0 (v.1).toInt64) K N) sz) := by
  refine gCt.ofH [some (.ref (G.2.2.1 + 0)), some (.int a1), some (.ref (G.2.2.1 + 170)), none] (h0 := (0, 9, 12, 21)) (ht := [(0, 9, 15, 13)]) (by decide +kernel) rfl hs rfl (Nat.le_of_ble_eq_true rfl) ?_
  refine r_aload_n dL_writeRow_0 rfl ?_
  refine r_iconst (v := (0 : Int32)) dL_writeRow_1 (by decide) ?_
  refine r_aload_n dL_writeRow_2 rfl ?_
  refine r_iload_n dL_writeRow_3 rfl ?_
  refine r_cVi (rest := [.int 0, .ref (G.2.2.1 + 170)]) (ct_X9_writeRow hs hE hT0 hT1 hf) dL_writeRow_4 wd_1350 zX9_writeRow wd_1351 wd_1352 rfl rfl rfl (fo9 (hE 0 (by decide))) rfl rfl ⟨Nat.le_of_ble_eq_true rfl, Nat.le_of_ble_eq_true rfl⟩ (Nat.le_of_ble_eq_true rfl) ⟨Nat.le_of_ble_eq_true rfl, Nat.le_of_ble_eq_true rfl⟩ ?_
  refine r_i2l dL_writeRow_7 ?_
  refine a_lastc 0 dL_writeRow_8 (hE 170 (by decide)) (vpc rfl) rfl ?_
  refine r_goto (tgt := 18) dL_writeRow_9 (by decide) ?_
  refine r_iconst (v := (0 : Int32)) dL_writeRow_18 (by decide) ?_
  exact r_iret dL_writeRow_19 rfl (Nat.le_of_ble_eq_true rfl) (Nat.le_of_ble_eq_true rfl) ⟨rfl, rfl, rfl⟩
set_option maxHeartbeats 4000000 in
set_option maxRecDepth 100000 in
theorem we_writeRow {G : gG} {lay : Nat → Nat × Nat} {T0 T1 : Nat} {Dd : Nat → Nat → UInt64} {I : gI} {J : gJ} {K : gI} {N : gJ} {sz n : Nat} {a1 : Int32} (hs : G.1.stackTraces = false) (hE : gLay lay) (hT0 : gTank lay T0) (hT1 : gTank lay T1) {E : String} (hf : F_X9_writeRow n T0 T1 I a1 = some (.inl E)) : gCt G mL_writeRow [.ref (G.2.2.1 + 0), .int a1, .ref (G.2.2.1 + 170)] (fO G (lay, T0, T1, Dd) I J K N) sz (gVs (.int (thA E)) (fO G (lay, T0, T1, Dd) I J K N)) := by
  have hS := xsF_X9_writeRow (S := fun e => e = ISE ∨ e = IOB) _ _ _ _ _ (Or.inl rfl) (Or.inr (rfl)) E hf
  refine gCt.ofH [some (.ref (G.2.2.1 + 0)), some (.int a1), some (.ref (G.2.2.1 + 170)), none] (h0 := (0, 9, 12, 21)) (ht := [(0, 9, 15, 13)]) (by decide +kernel) rfl hs rfl (Nat.le_of_ble_eq_true rfl) ?_
  refine r_aload_n dL_writeRow_0 rfl ?_
  refine r_iconst (v := (0 : Int32)) dL_writeRow_1 (by decide) ?_
  refine r_aload_n dL_writeRow_2 rfl ?_
  refine r_iload_n dL_writeRow_3 rfl ?_
  rcases hS with rfl | rfl
  · refine r_callVX (rest := [.int 0, .ref (G.2.2.1 + 170)]) (ct_X9_writeRow hs hE hT0 hT1 hf) dL_writeRow_4 wd_1350 zX9_writeRow wd_1351 wd_1352 rfl rfl rfl (fo9 (hE 0 (by decide))) rfl rfl ⟨Nat.le_of_ble_eq_true rfl, Nat.le_of_ble_eq_true rfl⟩ (Nat.le_of_ble_eq_true rfl) ⟨Nat.le_of_ble_eq_true rfl, Nat.le_of_ble_eq_true rfl⟩ (fun sz9 => ?_)
    refine x_catch (name := "java/lang/IllegalStateException") [] (0, 9, 12, 21) [(0, 9, 15, 13)] rfl hp0 (by decide) (by decide) wd_864 wd_875 (fun q9 => ?_)
    refine r_astore_n dL_writeRow_12 (by decide) rfl ?_
    refine r_iconst (v := (1 : Int32)) dL_writeRow_13 (by decide) ?_
    exact r_iret dL_writeRow_14 rfl (Nat.le_of_ble_eq_true rfl) (Nat.le_of_ble_eq_true rfl) ⟨rfl, rfl⟩
  · refine r_callVX (rest := [.int 0, .ref (G.2.2.1 + 170)]) (ct_X9_writeRow hs hE hT0 hT1 hf) dL_writeRow_4 wd_1350 zX9_writeRow wd_1351 wd_1352 rfl rfl rfl (fo9 (hE 0 (by decide))) rfl rfl ⟨Nat.le_of_ble_eq_true rfl, Nat.le_of_ble_eq_true rfl⟩ (Nat.le_of_ble_eq_true rfl) ⟨Nat.le_of_ble_eq_true rfl, Nat.le_of_ble_eq_true rfl⟩ (fun sz9 => ?_)
    refine x_catch (name := "java/lang/IndexOutOfBoundsException") [(0, 9, 12, 21)] (0, 9, 15, 13) [] rfl (hp1 (Or.inr ⟨by decide, "java/lang/IllegalStateException", wd_864, nc_12⟩)) (by decide) (by decide) wd_524 wd_532 (fun q9 => ?_)
    refine r_astore_n dL_writeRow_15 (by decide) rfl ?_
    refine r_iconst (v := (2 : Int32)) dL_writeRow_16 (by decide) ?_
    exact r_iret dL_writeRow_17 rfl (Nat.le_of_ble_eq_true rfl) (Nat.le_of_ble_eq_true rfl) ⟨rfl, rfl⟩
set_option maxHeartbeats 4000000 in
set_option maxRecDepth 100000 in
theorem wo_writeMap {G : gG} {lay : Nat → Nat × Nat} {T0 T1 : Nat} {Dd : Nat → Nat → UInt64} {I : gI} {J : gJ} {K : gI} {N : gJ} {sz n : Nat} {a1 : Int32} (hs : G.1.stackTraces = false) (hE : gLay lay) (hT0 : gTank lay T0) (hT1 : gTank lay T1) {v : Int32 × gI × gJ} (hf : F_X9_writeMap n T0 T1 I J a1 = some (.inr v)) : gCt G mL_writeMap [.ref (G.2.2.1 + 0), .int a1, .ref (G.2.2.1 + 170)] (fO G (lay, T0, T1, Dd) I J K N) sz (gR (some (.int 0)) (fO G (lay, T0, T1, Dd) v.2.1 (sJ v.2.2 170 0 (v.1).toInt64) K N) sz) := by
  refine gCt.ofH [some (.ref (G.2.2.1 + 0)), some (.int a1), some (.ref (G.2.2.1 + 170)), none] (h0 := (0, 9, 12, 21)) (ht := [(0, 9, 15, 15)]) (by decide +kernel) rfl hs rfl (Nat.le_of_ble_eq_true rfl) ?_
  refine r_aload_n dL_writeMap_0 rfl ?_
  refine r_iconst (v := (0 : Int32)) dL_writeMap_1 (by decide) ?_
  refine r_aload_n dL_writeMap_2 rfl ?_
  refine r_iload_n dL_writeMap_3 rfl ?_
  refine r_cVi (rest := [.int 0, .ref (G.2.2.1 + 170)]) (ct_X9_writeMap hs hE hT0 hT1 hf) dL_writeMap_4 wd_1367 zX9_writeMap wd_1368 wd_1369 rfl rfl rfl (fo9 (hE 0 (by decide))) rfl rfl ⟨Nat.le_of_ble_eq_true rfl, Nat.le_of_ble_eq_true rfl⟩ (Nat.le_of_ble_eq_true rfl) ⟨Nat.le_of_ble_eq_true rfl, Nat.le_of_ble_eq_true rfl⟩ ?_
  refine r_i2l dL_writeMap_7 ?_
  refine a_lastc 0 dL_writeMap_8 (hE 170 (by decide)) (vpc rfl) rfl ?_
  refine r_goto (tgt := 18) dL_writeMap_9 (by decide) ?_
  refine r_iconst (v := (0 : Int32)) dL_writeMap_18 (by decide) ?_
  exact r_iret dL_writeMap_19 rfl (Nat.le_of_ble_eq_true rfl) (Nat.le_of_ble_eq_true rfl) ⟨rfl, rfl, rfl⟩
set_option maxHeartbeats 4000000 in
set_option maxRecDepth 100000 in
theorem we_writeMap {G : gG} {lay : Nat → Nat × Nat} {T0 T1 : Nat} {Dd : Nat → Nat → UInt64} {I : gI} {J : gJ} {K : gI} {N : gJ} {sz n : Nat} {a1 : Int32} (hs : G.1.stackTraces = false) (hE : gLay lay) (hT0 : gTank lay T0) (hT1 : gTank lay T1) {E : String} (hf : F_X9_writeMap n T0 T1 I J a1 = some (.inl E)) : gCt G mL_writeMap [.ref (G.2.2.1 + 0), .int a1, .ref (G.2.2.1 + 170)] (fO G (lay, T0, T1, Dd) I J K N) sz (gVs (.int (thB E)) (fO G (lay, T0, T1, Dd) I J K N)) := by
  have hS := xsF_X9_writeMap (S := fun e => e = ISE ∨ e = IAE) _ _ _ _ _ _ (Or.inl rfl) (Or.inr (rfl)) E hf
  refine gCt.ofH [some (.ref (G.2.2.1 + 0)), some (.int a1), some (.ref (G.2.2.1 + 170)), none] (h0 := (0, 9, 12, 21)) (ht := [(0, 9, 15, 15)]) (by decide +kernel) rfl hs rfl (Nat.le_of_ble_eq_true rfl) ?_
  refine r_aload_n dL_writeMap_0 rfl ?_
  refine r_iconst (v := (0 : Int32)) dL_writeMap_1 (by decide) ?_
  refine r_aload_n dL_writeMap_2 rfl ?_
  refine r_iload_n dL_writeMap_3 rfl ?_
  rcases hS with rfl | rfl
  · refine r_callVX (rest := [.int 0, .ref (G.2.2.1 + 170)]) (ct_X9_writeMap hs hE hT0 hT1 hf) dL_writeMap_4 wd_1367 zX9_writeMap wd_1368 wd_1369 rfl rfl rfl (fo9 (hE 0 (by decide))) rfl rfl ⟨Nat.le_of_ble_eq_true rfl, Nat.le_of_ble_eq_true rfl⟩ (Nat.le_of_ble_eq_true rfl) ⟨Nat.le_of_ble_eq_true rfl, Nat.le_of_ble_eq_true rfl⟩ (fun sz9 => ?_)
    refine x_catch (name := "java/lang/IllegalStateException") [] (0, 9, 12, 21) [(0, 9, 15, 15)] rfl hp0 (by decide) (by decide) wd_864 wd_875 (fun q9 => ?_)
    refine r_astore_n dL_writeMap_12 (by decide) rfl ?_
    refine r_iconst (v := (1 : Int32)) dL_writeMap_13 (by decide) ?_
    exact r_iret dL_writeMap_14 rfl (Nat.le_of_ble_eq_true rfl) (Nat.le_of_ble_eq_true rfl) ⟨rfl, rfl⟩
  · refine r_callVX (rest := [.int 0, .ref (G.2.2.1 + 170)]) (ct_X9_writeMap hs hE hT0 hT1 hf) dL_writeMap_4 wd_1367 zX9_writeMap wd_1368 wd_1369 rfl rfl rfl (fo9 (hE 0 (by decide))) rfl rfl ⟨Nat.le_of_ble_eq_true rfl, Nat.le_of_ble_eq_true rfl⟩ (Nat.le_of_ble_eq_true rfl) ⟨Nat.le_of_ble_eq_true rfl, Nat.le_of_ble_eq_true rfl⟩ (fun sz9 => ?_)
    refine x_catch (name := "java/lang/IllegalArgumentException") [(0, 9, 12, 21)] (0, 9, 15, 15) [] rfl (hp1 (Or.inr ⟨by decide, "java/lang/IllegalStateException", wd_864, nc_13⟩)) (by decide) (by decide) wd_525 wd_839 (fun q9 => ?_)
    refine r_astore_n dL_writeMap_15 (by decide) rfl ?_
    refine r_iconst (v := (2 : Int32)) dL_writeMap_16 (by decide) ?_
    exact r_iret dL_writeMap_17 rfl (Nat.le_of_ble_eq_true rfl) (Nat.le_of_ble_eq_true rfl) ⟨rfl, rfl⟩
set_option maxHeartbeats 4000000 in
set_option maxRecDepth 100000 in
theorem wo_textByte {G : gG} {lay : Nat → Nat × Nat} {T0 T1 : Nat} {Dd : Nat → Nat → UInt64} {I : gI} {J : gJ} {K : gI} {N : gJ} {sz n : Nat} {a1 : Int32} (hs : G.1.stackTraces = false) (hE : gLay lay) (hT0 : gTank lay T0) (hT1 : gTank lay T1) {v : Int32} (hf : F_X9_textByte n T0 T1 I a1 = some (.inr v)) : gCt G mL_textByte [.ref (G.2.2.1 + 0), .int a1, .ref (G.2.2.1 + 170)] (fO G (lay, T0, T1, Dd) I J K N) sz (gR (some (.int 0)) (fO G (lay, T0, T1, Dd) I (sJ J 170 0 (v).toInt64) K N) sz) := by
  refine gCt.ofH [some (.ref (G.2.2.1 + 0)), some (.int a1), some (.ref (G.2.2.1 + 170)), none] (h0 := (0, 9, 12, 13)) (ht := []) (by decide +kernel) rfl hs rfl (Nat.le_of_ble_eq_true rfl) ?_
  refine r_aload_n dL_textByte_0 rfl ?_
  refine r_iconst (v := (0 : Int32)) dL_textByte_1 (by decide) ?_
  refine r_aload_n dL_textByte_2 rfl ?_
  refine r_iload_n dL_textByte_3 rfl ?_
  refine r_cVi (rest := [.int 0, .ref (G.2.2.1 + 170)]) (ct_X9_textByte hs hE hT0 hT1 hf) dL_textByte_4 wd_1375 zX9_textByte wd_1376 wd_1377 rfl rfl rfl (fo9 (hE 0 (by decide))) rfl rfl ⟨Nat.le_of_ble_eq_true rfl, Nat.le_of_ble_eq_true rfl⟩ (Nat.le_of_ble_eq_true rfl) ⟨Nat.le_of_ble_eq_true rfl, Nat.le_of_ble_eq_true rfl⟩ ?_
  refine r_i2l dL_textByte_7 ?_
  refine a_lastc 0 dL_textByte_8 (hE 170 (by decide)) (vpc rfl) rfl ?_
  refine r_goto (tgt := 15) dL_textByte_9 (by decide) ?_
  refine r_iconst (v := (0 : Int32)) dL_textByte_15 (by decide) ?_
  exact r_iret dL_textByte_16 rfl (Nat.le_of_ble_eq_true rfl) (Nat.le_of_ble_eq_true rfl) ⟨rfl, rfl, rfl⟩
set_option maxHeartbeats 4000000 in
set_option maxRecDepth 100000 in
theorem we_textByte {G : gG} {lay : Nat → Nat × Nat} {T0 T1 : Nat} {Dd : Nat → Nat → UInt64} {I : gI} {J : gJ} {K : gI} {N : gJ} {sz n : Nat} {a1 : Int32} (hs : G.1.stackTraces = false) (hE : gLay lay) (hT0 : gTank lay T0) (hT1 : gTank lay T1) {E : String} (hf : F_X9_textByte n T0 T1 I a1 = some (.inl E)) : gCt G mL_textByte [.ref (G.2.2.1 + 0), .int a1, .ref (G.2.2.1 + 170)] (fO G (lay, T0, T1, Dd) I J K N) sz (gVs (.int (thC E)) (fO G (lay, T0, T1, Dd) I J K N)) := by
  have hS := xsF_X9_textByte (S := fun e => e = IOB) _ _ _ _ _ (rfl) E hf
  refine gCt.ofH [some (.ref (G.2.2.1 + 0)), some (.int a1), some (.ref (G.2.2.1 + 170)), none] (h0 := (0, 9, 12, 13)) (ht := []) (by decide +kernel) rfl hs rfl (Nat.le_of_ble_eq_true rfl) ?_
  refine r_aload_n dL_textByte_0 rfl ?_
  refine r_iconst (v := (0 : Int32)) dL_textByte_1 (by decide) ?_
  refine r_aload_n dL_textByte_2 rfl ?_
  refine r_iload_n dL_textByte_3 rfl ?_
  rcases hS with rfl
  · refine r_callVX (rest := [.int 0, .ref (G.2.2.1 + 170)]) (ct_X9_textByte hs hE hT0 hT1 hf) dL_textByte_4 wd_1375 zX9_textByte wd_1376 wd_1377 rfl rfl rfl (fo9 (hE 0 (by decide))) rfl rfl ⟨Nat.le_of_ble_eq_true rfl, Nat.le_of_ble_eq_true rfl⟩ (Nat.le_of_ble_eq_true rfl) ⟨Nat.le_of_ble_eq_true rfl, Nat.le_of_ble_eq_true rfl⟩ (fun sz9 => ?_)
    refine x_catch (name := "java/lang/IndexOutOfBoundsException") [] (0, 9, 12, 13) [] rfl hp0 (by decide) (by decide) wd_524 wd_532 (fun q9 => ?_)
    refine r_astore_n dL_textByte_12 (by decide) rfl ?_
    refine r_iconst (v := (1 : Int32)) dL_textByte_13 (by decide) ?_
    exact r_iret dL_textByte_14 rfl (Nat.le_of_ble_eq_true rfl) (Nat.le_of_ble_eq_true rfl) ⟨rfl, rfl⟩
set_option maxHeartbeats 4000000 in
set_option maxRecDepth 100000 in
theorem wo_nodesIfOff {G : gG} {lay : Nat → Nat × Nat} {T0 T1 : Nat} {Dd : Nat → Nat → UInt64} {I : gI} {J : gJ} {K : gI} {N : gJ} {sz n : Nat} {a1 : Int32} {a2 : Int32} {a3 : Int32} (hs : G.1.stackTraces = false) (hE : gLay lay) (hT0 : gTank lay T0) (hT1 : gTank lay T1) {v : Int32 × gI} (hf : F_X9_nodesIfOff n T0 T1 I a1 a2 a3 = some (.inr v)) : gCt G mL_nodesIfOff [.ref (G.2.2.1 + 0), .int a1, .int a2, .int a3, .ref (G.2.2.1 + 170)] (fO G (lay, T0, T1, Dd) I J K N) sz (gR (some (.int 0)) (fO G (lay, T0, T1, Dd) v.2 (sJ J 170 0 (v.1).toInt64) K N) sz) := by
  refine gCt.ofH [some (.ref (G.2.2.1 + 0)), some (.int a1), some (.int a2), some (.int a3), some (.ref (G.2.2.1 + 170)), none] (h0 := (0, 12, 15, 21)) (ht := [(0, 12, 19, 13), (0, 12, 23, 15)]) (by decide +kernel) rfl hs rfl (Nat.le_of_ble_eq_true rfl) ?_
  refine r_aload dL_nodesIfOff_0 rfl ?_
  refine r_iconst (v := (0 : Int32)) dL_nodesIfOff_2 (by decide) ?_
  refine r_aload_n dL_nodesIfOff_3 rfl ?_
  refine r_iload_n dL_nodesIfOff_4 rfl ?_
  refine r_iload_n dL_nodesIfOff_5 rfl ?_
  refine r_iload_n dL_nodesIfOff_6 rfl ?_
  refine r_cVi (rest := [.int 0, .ref (G.2.2.1 + 170)]) (ct_X9_nodesIfOff hs hE hT0 hT1 hf) dL_nodesIfOff_7 wd_1383 zX9_nodesIfOff wd_1384 wd_1385 rfl rfl rfl (fo9 (hE 0 (by decide))) rfl rfl ⟨Nat.le_of_ble_eq_true rfl, Nat.le_of_ble_eq_true rfl⟩ (Nat.le_of_ble_eq_true rfl) ⟨Nat.le_of_ble_eq_true rfl, Nat.le_of_ble_eq_true rfl⟩ ?_
  refine r_i2l dL_nodesIfOff_10 ?_
  refine a_lastc 0 dL_nodesIfOff_11 (hE 170 (by decide)) (vpc rfl) rfl ?_
  refine r_goto (tgt := 27) dL_nodesIfOff_12 (by decide) ?_
  refine r_iconst (v := (0 : Int32)) dL_nodesIfOff_27 (by decide) ?_
  exact r_iret dL_nodesIfOff_28 rfl (Nat.le_of_ble_eq_true rfl) (Nat.le_of_ble_eq_true rfl) ⟨rfl, rfl, rfl⟩
set_option maxHeartbeats 4000000 in
set_option maxRecDepth 100000 in
theorem we_nodesIfOff {G : gG} {lay : Nat → Nat × Nat} {T0 T1 : Nat} {Dd : Nat → Nat → UInt64} {I : gI} {J : gJ} {K : gI} {N : gJ} {sz n : Nat} {a1 : Int32} {a2 : Int32} {a3 : Int32} (hs : G.1.stackTraces = false) (hE : gLay lay) (hT0 : gTank lay T0) (hT1 : gTank lay T1) {E : String} (hf : F_X9_nodesIfOff n T0 T1 I a1 a2 a3 = some (.inl E)) : gCt G mL_nodesIfOff [.ref (G.2.2.1 + 0), .int a1, .int a2, .int a3, .ref (G.2.2.1 + 170)] (fO G (lay, T0, T1, Dd) I J K N) sz (gVs (.int (thA E)) (fO G (lay, T0, T1, Dd) I J K N)) := by
  have hS := xsF_X9_nodesIfOff (S := fun e => e = ISE ∨ e = IOB ∨ e = IAE) _ _ _ _ _ _ _ (Or.inl rfl) (Or.inr (Or.inl rfl)) (Or.inr (Or.inr (rfl))) E hf
  refine gCt.ofH [some (.ref (G.2.2.1 + 0)), some (.int a1), some (.int a2), some (.int a3), some (.ref (G.2.2.1 + 170)), none] (h0 := (0, 12, 15, 21)) (ht := [(0, 12, 19, 13), (0, 12, 23, 15)]) (by decide +kernel) rfl hs rfl (Nat.le_of_ble_eq_true rfl) ?_
  refine r_aload dL_nodesIfOff_0 rfl ?_
  refine r_iconst (v := (0 : Int32)) dL_nodesIfOff_2 (by decide) ?_
  refine r_aload_n dL_nodesIfOff_3 rfl ?_
  refine r_iload_n dL_nodesIfOff_4 rfl ?_
  refine r_iload_n dL_nodesIfOff_5 rfl ?_
  refine r_iload_n dL_nodesIfOff_6 rfl ?_
  rcases hS with rfl | rfl | rfl
  · refine r_callVX (rest := [.int 0, .ref (G.2.2.1 + 170)]) (ct_X9_nodesIfOff hs hE hT0 hT1 hf) dL_nodesIfOff_7 wd_1383 zX9_nodesIfOff wd_1384 wd_1385 rfl rfl rfl (fo9 (hE 0 (by decide))) rfl rfl ⟨Nat.le_of_ble_eq_true rfl, Nat.le_of_ble_eq_true rfl⟩ (Nat.le_of_ble_eq_true rfl) ⟨Nat.le_of_ble_eq_true rfl, Nat.le_of_ble_eq_true rfl⟩ (fun sz9 => ?_)
    refine x_catch (name := "java/lang/IllegalStateException") [] (0, 12, 15, 21) [(0, 12, 19, 13), (0, 12, 23, 15)] rfl hp0 (by decide) (by decide) wd_864 wd_875 (fun q9 => ?_)
    refine r_astore dL_nodesIfOff_15 (by decide) rfl ?_
    refine r_iconst (v := (1 : Int32)) dL_nodesIfOff_17 (by decide) ?_
    exact r_iret dL_nodesIfOff_18 rfl (Nat.le_of_ble_eq_true rfl) (Nat.le_of_ble_eq_true rfl) ⟨rfl, rfl⟩
  · refine r_callVX (rest := [.int 0, .ref (G.2.2.1 + 170)]) (ct_X9_nodesIfOff hs hE hT0 hT1 hf) dL_nodesIfOff_7 wd_1383 zX9_nodesIfOff wd_1384 wd_1385 rfl rfl rfl (fo9 (hE 0 (by decide))) rfl rfl ⟨Nat.le_of_ble_eq_true rfl, Nat.le_of_ble_eq_true rfl⟩ (Nat.le_of_ble_eq_true rfl) ⟨Nat.le_of_ble_eq_true rfl, Nat.le_of_ble_eq_true rfl⟩ (fun sz9 => ?_)
    refine x_catch (name := "java/lang/IndexOutOfBoundsException") [(0, 12, 15, 21)] (0, 12, 19, 13) [(0, 12, 23, 15)] rfl (hp1 (Or.inr ⟨by decide, "java/lang/IllegalStateException", wd_864, nc_12⟩)) (by decide) (by decide) wd_524 wd_532 (fun q9 => ?_)
    refine r_astore dL_nodesIfOff_19 (by decide) rfl ?_
    refine r_iconst (v := (2 : Int32)) dL_nodesIfOff_21 (by decide) ?_
    exact r_iret dL_nodesIfOff_22 rfl (Nat.le_of_ble_eq_true rfl) (Nat.le_of_ble_eq_true rfl) ⟨rfl, rfl⟩
  · refine r_callVX (rest := [.int 0, .ref (G.2.2.1 + 170)]) (ct_X9_nodesIfOff hs hE hT0 hT1 hf) dL_nodesIfOff_7 wd_1383 zX9_nodesIfOff wd_1384 wd_1385 rfl rfl rfl (fo9 (hE 0 (by decide))) rfl rfl ⟨Nat.le_of_ble_eq_true rfl, Nat.le_of_ble_eq_true rfl⟩ (Nat.le_of_ble_eq_true rfl) ⟨Nat.le_of_ble_eq_true rfl, Nat.le_of_ble_eq_true rfl⟩ (fun sz9 => ?_)
    refine x_catch (name := "java/lang/IllegalArgumentException") [(0, 12, 15, 21), (0, 12, 19, 13)] (0, 12, 23, 15) [] rfl (hp2 (Or.inr ⟨by decide, "java/lang/IllegalStateException", wd_864, nc_13⟩) (Or.inr ⟨by decide, "java/lang/IndexOutOfBoundsException", wd_524, nc_23⟩)) (by decide) (by decide) wd_525 wd_839 (fun q9 => ?_)
    refine r_astore dL_nodesIfOff_23 (by decide) rfl ?_
    refine r_iconst (v := (3 : Int32)) dL_nodesIfOff_25 (by decide) ?_
    exact r_iret dL_nodesIfOff_26 rfl (Nat.le_of_ble_eq_true rfl) (Nat.le_of_ble_eq_true rfl) ⟨rfl, rfl⟩
set_option maxHeartbeats 4000000 in
set_option maxRecDepth 100000 in
theorem wo_bestPhase {G : gG} {lay : Nat → Nat × Nat} {T0 T1 : Nat} {Dd : Nat → Nat → UInt64} {I : gI} {J : gJ} {K : gI} {N : gJ} {sz n : Nat} {a1 : Int32} {a2 : Int32} {a3 : Int32} {a4 : Int32} (hs : G.1.stackTraces = false) (hE : gLay lay) (hT0 : gTank lay T0) (hT1 : gTank lay T1) {v : Int32 × gI} (hf : F_X9_bestPhase n T0 T1 I a1 a2 a3 a4 = some (.inr v)) : gCt G mL_bestPhase [.ref (G.2.2.1 + 0), .int a1, .int a2, .int a3, .int a4, .ref (G.2.2.1 + 170)] (fO G (lay, T0, T1, Dd) I J K N) sz (gR (some (.int 0)) (fO G (lay, T0, T1, Dd) v.2 (sJ J 170 0 (v.1).toInt64) K N) sz) := by
  refine gCt.ofH [some (.ref (G.2.2.1 + 0)), some (.int a1), some (.int a2), some (.int a3), some (.int a4), some (.ref (G.2.2.1 + 170)), none] (h0 := (0, 14, 17, 21)) (ht := [(0, 14, 21, 13), (0, 14, 25, 15)]) (by decide +kernel) rfl hs rfl (Nat.le_of_ble_eq_true rfl) ?_
  refine r_aload dL_bestPhase_0 rfl ?_
  refine r_iconst (v := (0 : Int32)) dL_bestPhase_2 (by decide) ?_
  refine r_aload_n dL_bestPhase_3 rfl ?_
  refine r_iload_n dL_bestPhase_4 rfl ?_
  refine r_iload_n dL_bestPhase_5 rfl ?_
  refine r_iload_n dL_bestPhase_6 rfl ?_
  refine r_iload dL_bestPhase_7 rfl ?_
  refine r_cVi (rest := [.int 0, .ref (G.2.2.1 + 170)]) (ct_X9_bestPhase hs hE hT0 hT1 hf) dL_bestPhase_9 wd_1390 zX9_bestPhase wd_1391 wd_1392 rfl rfl rfl (fo9 (hE 0 (by decide))) rfl rfl ⟨Nat.le_of_ble_eq_true rfl, Nat.le_of_ble_eq_true rfl⟩ (Nat.le_of_ble_eq_true rfl) ⟨Nat.le_of_ble_eq_true rfl, Nat.le_of_ble_eq_true rfl⟩ ?_
  refine r_i2l dL_bestPhase_12 ?_
  refine a_lastc 0 dL_bestPhase_13 (hE 170 (by decide)) (vpc rfl) rfl ?_
  refine r_goto (tgt := 29) dL_bestPhase_14 (by decide) ?_
  refine r_iconst (v := (0 : Int32)) dL_bestPhase_29 (by decide) ?_
  exact r_iret dL_bestPhase_30 rfl (Nat.le_of_ble_eq_true rfl) (Nat.le_of_ble_eq_true rfl) ⟨rfl, rfl, rfl⟩
set_option maxHeartbeats 4000000 in
set_option maxRecDepth 100000 in
theorem we_bestPhase {G : gG} {lay : Nat → Nat × Nat} {T0 T1 : Nat} {Dd : Nat → Nat → UInt64} {I : gI} {J : gJ} {K : gI} {N : gJ} {sz n : Nat} {a1 : Int32} {a2 : Int32} {a3 : Int32} {a4 : Int32} (hs : G.1.stackTraces = false) (hE : gLay lay) (hT0 : gTank lay T0) (hT1 : gTank lay T1) {E : String} (hf : F_X9_bestPhase n T0 T1 I a1 a2 a3 a4 = some (.inl E)) : gCt G mL_bestPhase [.ref (G.2.2.1 + 0), .int a1, .int a2, .int a3, .int a4, .ref (G.2.2.1 + 170)] (fO G (lay, T0, T1, Dd) I J K N) sz (gVs (.int (thA E)) (fO G (lay, T0, T1, Dd) I J K N)) := by
  have hS := xsF_X9_bestPhase (S := fun e => e = ISE ∨ e = IOB ∨ e = IAE) _ _ _ _ _ _ _ _ (Or.inl rfl) (Or.inr (Or.inl rfl)) (Or.inr (Or.inr (rfl))) E hf
  refine gCt.ofH [some (.ref (G.2.2.1 + 0)), some (.int a1), some (.int a2), some (.int a3), some (.int a4), some (.ref (G.2.2.1 + 170)), none] (h0 := (0, 14, 17, 21)) (ht := [(0, 14, 21, 13), (0, 14, 25, 15)]) (by decide +kernel) rfl hs rfl (Nat.le_of_ble_eq_true rfl) ?_
  refine r_aload dL_bestPhase_0 rfl ?_
  refine r_iconst (v := (0 : Int32)) dL_bestPhase_2 (by decide) ?_
  refine r_aload_n dL_bestPhase_3 rfl ?_
  refine r_iload_n dL_bestPhase_4 rfl ?_
  refine r_iload_n dL_bestPhase_5 rfl ?_
  refine r_iload_n dL_bestPhase_6 rfl ?_
  refine r_iload dL_bestPhase_7 rfl ?_
  rcases hS with rfl | rfl | rfl
  · refine r_callVX (rest := [.int 0, .ref (G.2.2.1 + 170)]) (ct_X9_bestPhase hs hE hT0 hT1 hf) dL_bestPhase_9 wd_1390 zX9_bestPhase wd_1391 wd_1392 rfl rfl rfl (fo9 (hE 0 (by decide))) rfl rfl ⟨Nat.le_of_ble_eq_true rfl, Nat.le_of_ble_eq_true rfl⟩ (Nat.le_of_ble_eq_true rfl) ⟨Nat.le_of_ble_eq_true rfl, Nat.le_of_ble_eq_true rfl⟩ (fun sz9 => ?_)
    refine x_catch (name := "java/lang/IllegalStateException") [] (0, 14, 17, 21) [(0, 14, 21, 13), (0, 14, 25, 15)] rfl hp0 (by decide) (by decide) wd_864 wd_875 (fun q9 => ?_)
    refine r_astore dL_bestPhase_17 (by decide) rfl ?_
    refine r_iconst (v := (1 : Int32)) dL_bestPhase_19 (by decide) ?_
    exact r_iret dL_bestPhase_20 rfl (Nat.le_of_ble_eq_true rfl) (Nat.le_of_ble_eq_true rfl) ⟨rfl, rfl⟩
  · refine r_callVX (rest := [.int 0, .ref (G.2.2.1 + 170)]) (ct_X9_bestPhase hs hE hT0 hT1 hf) dL_bestPhase_9 wd_1390 zX9_bestPhase wd_1391 wd_1392 rfl rfl rfl (fo9 (hE 0 (by decide))) rfl rfl ⟨Nat.le_of_ble_eq_true rfl, Nat.le_of_ble_eq_true rfl⟩ (Nat.le_of_ble_eq_true rfl) ⟨Nat.le_of_ble_eq_true rfl, Nat.le_of_ble_eq_true rfl⟩ (fun sz9 => ?_)
    refine x_catch (name := "java/lang/IndexOutOfBoundsException") [(0, 14, 17, 21)] (0, 14, 21, 13) [(0, 14, 25, 15)] rfl (hp1 (Or.inr ⟨by decide, "java/lang/IllegalStateException", wd_864, nc_12⟩)) (by decide) (by decide) wd_524 wd_532 (fun q9 => ?_)
    refine r_astore dL_bestPhase_21 (by decide) rfl ?_
    refine r_iconst (v := (2 : Int32)) dL_bestPhase_23 (by decide) ?_
    exact r_iret dL_bestPhase_24 rfl (Nat.le_of_ble_eq_true rfl) (Nat.le_of_ble_eq_true rfl) ⟨rfl, rfl⟩
  · refine r_callVX (rest := [.int 0, .ref (G.2.2.1 + 170)]) (ct_X9_bestPhase hs hE hT0 hT1 hf) dL_bestPhase_9 wd_1390 zX9_bestPhase wd_1391 wd_1392 rfl rfl rfl (fo9 (hE 0 (by decide))) rfl rfl ⟨Nat.le_of_ble_eq_true rfl, Nat.le_of_ble_eq_true rfl⟩ (Nat.le_of_ble_eq_true rfl) ⟨Nat.le_of_ble_eq_true rfl, Nat.le_of_ble_eq_true rfl⟩ (fun sz9 => ?_)
    refine x_catch (name := "java/lang/IllegalArgumentException") [(0, 14, 17, 21), (0, 14, 21, 13)] (0, 14, 25, 15) [] rfl (hp2 (Or.inr ⟨by decide, "java/lang/IllegalStateException", wd_864, nc_13⟩) (Or.inr ⟨by decide, "java/lang/IndexOutOfBoundsException", wd_524, nc_23⟩)) (by decide) (by decide) wd_525 wd_839 (fun q9 => ?_)
    refine r_astore dL_bestPhase_25 (by decide) rfl ?_
    refine r_iconst (v := (3 : Int32)) dL_bestPhase_27 (by decide) ?_
    exact r_iret dL_bestPhase_28 rfl (Nat.le_of_ble_eq_true rfl) (Nat.le_of_ble_eq_true rfl) ⟨rfl, rfl⟩
set_option maxHeartbeats 4000000 in
set_option maxRecDepth 100000 in
theorem wo_bestPlace {G : gG} {lay : Nat → Nat × Nat} {T0 T1 : Nat} {Dd : Nat → Nat → UInt64} {I : gI} {J : gJ} {K : gI} {N : gJ} {sz n : Nat} {a1 : Int32} {a2 : Int32} {a3 : Int32} {a4 : Int32} (hs : G.1.stackTraces = false) (hE : gLay lay) (hT0 : gTank lay T0) (hT1 : gTank lay T1) {v : Int32 × gI} (hf : F_X9_bestPlace n T0 T1 I a1 a2 a3 a4 = some (.inr v)) : gCt G mL_bestPlace [.ref (G.2.2.1 + 0), .int a1, .int a2, .int a3, .int a4, .ref (G.2.2.1 + 170)] (fO G (lay, T0, T1, Dd) I J K N) sz (gR (some (.int 0)) (fO G (lay, T0, T1, Dd) v.2 (sJ J 170 0 (v.1).toInt64) K N) sz) := by
  refine gCt.ofH [some (.ref (G.2.2.1 + 0)), some (.int a1), some (.int a2), some (.int a3), some (.int a4), some (.ref (G.2.2.1 + 170)), none] (h0 := (0, 14, 17, 21)) (ht := [(0, 14, 21, 13), (0, 14, 25, 15)]) (by decide +kernel) rfl hs rfl (Nat.le_of_ble_eq_true rfl) ?_
  refine r_aload dL_bestPlace_0 rfl ?_
  refine r_iconst (v := (0 : Int32)) dL_bestPlace_2 (by decide) ?_
  refine r_aload_n dL_bestPlace_3 rfl ?_
  refine r_iload_n dL_bestPlace_4 rfl ?_
  refine r_iload_n dL_bestPlace_5 rfl ?_
  refine r_iload_n dL_bestPlace_6 rfl ?_
  refine r_iload dL_bestPlace_7 rfl ?_
  refine r_cVi (rest := [.int 0, .ref (G.2.2.1 + 170)]) (ct_X9_bestPlace hs hE hT0 hT1 hf) dL_bestPlace_9 wd_1397 zX9_bestPlace wd_1398 wd_1399 rfl rfl rfl (fo9 (hE 0 (by decide))) rfl rfl ⟨Nat.le_of_ble_eq_true rfl, Nat.le_of_ble_eq_true rfl⟩ (Nat.le_of_ble_eq_true rfl) ⟨Nat.le_of_ble_eq_true rfl, Nat.le_of_ble_eq_true rfl⟩ ?_
  refine r_i2l dL_bestPlace_12 ?_
  refine a_lastc 0 dL_bestPlace_13 (hE 170 (by decide)) (vpc rfl) rfl ?_
  refine r_goto (tgt := 29) dL_bestPlace_14 (by decide) ?_
  refine r_iconst (v := (0 : Int32)) dL_bestPlace_29 (by decide) ?_
  exact r_iret dL_bestPlace_30 rfl (Nat.le_of_ble_eq_true rfl) (Nat.le_of_ble_eq_true rfl) ⟨rfl, rfl, rfl⟩
set_option maxHeartbeats 4000000 in
set_option maxRecDepth 100000 in
theorem we_bestPlace {G : gG} {lay : Nat → Nat × Nat} {T0 T1 : Nat} {Dd : Nat → Nat → UInt64} {I : gI} {J : gJ} {K : gI} {N : gJ} {sz n : Nat} {a1 : Int32} {a2 : Int32} {a3 : Int32} {a4 : Int32} (hs : G.1.stackTraces = false) (hE : gLay lay) (hT0 : gTank lay T0) (hT1 : gTank lay T1) {E : String} (hf : F_X9_bestPlace n T0 T1 I a1 a2 a3 a4 = some (.inl E)) : gCt G mL_bestPlace [.ref (G.2.2.1 + 0), .int a1, .int a2, .int a3, .int a4, .ref (G.2.2.1 + 170)] (fO G (lay, T0, T1, Dd) I J K N) sz (gVs (.int (thA E)) (fO G (lay, T0, T1, Dd) I J K N)) := by
  have hS := xsF_X9_bestPlace (S := fun e => e = ISE ∨ e = IOB ∨ e = IAE) _ _ _ _ _ _ _ _ (Or.inl rfl) (Or.inr (Or.inl rfl)) (Or.inr (Or.inr (rfl))) E hf
  refine gCt.ofH [some (.ref (G.2.2.1 + 0)), some (.int a1), some (.int a2), some (.int a3), some (.int a4), some (.ref (G.2.2.1 + 170)), none] (h0 := (0, 14, 17, 21)) (ht := [(0, 14, 21, 13), (0, 14, 25, 15)]) (by decide +kernel) rfl hs rfl (Nat.le_of_ble_eq_true rfl) ?_
  refine r_aload dL_bestPlace_0 rfl ?_
  refine r_iconst (v := (0 : Int32)) dL_bestPlace_2 (by decide) ?_
  refine r_aload_n dL_bestPlace_3 rfl ?_
  refine r_iload_n dL_bestPlace_4 rfl ?_
  refine r_iload_n dL_bestPlace_5 rfl ?_
  refine r_iload_n dL_bestPlace_6 rfl ?_
  refine r_iload dL_bestPlace_7 rfl ?_
  rcases hS with rfl | rfl | rfl
  · refine r_callVX (rest := [.int 0, .ref (G.2.2.1 + 170)]) (ct_X9_bestPlace hs hE hT0 hT1 hf) dL_bestPlace_9 wd_1397 zX9_bestPlace wd_1398 wd_1399 rfl rfl rfl (fo9 (hE 0 (by decide))) rfl rfl ⟨Nat.le_of_ble_eq_true rfl, Nat.le_of_ble_eq_true rfl⟩ (Nat.le_of_ble_eq_true rfl) ⟨Nat.le_of_ble_eq_true rfl, Nat.le_of_ble_eq_true rfl⟩ (fun sz9 => ?_)
    refine x_catch (name := "java/lang/IllegalStateException") [] (0, 14, 17, 21) [(0, 14, 21, 13), (0, 14, 25, 15)] rfl hp0 (by decide) (by decide) wd_864 wd_875 (fun q9 => ?_)
    refine r_astore dL_bestPlace_17 (by decide) rfl ?_
    refine r_iconst (v := (1 : Int32)) dL_bestPlace_19 (by decide) ?_
    exact r_iret dL_bestPlace_20 rfl (Nat.le_of_ble_eq_true rfl) (Nat.le_of_ble_eq_true rfl) ⟨rfl, rfl⟩
  · refine r_callVX (rest := [.int 0, .ref (G.2.2.1 + 170)]) (ct_X9_bestPlace hs hE hT0 hT1 hf) dL_bestPlace_9 wd_1397 zX9_bestPlace wd_1398 wd_1399 rfl rfl rfl (fo9 (hE 0 (by decide))) rfl rfl ⟨Nat.le_of_ble_eq_true rfl, Nat.le_of_ble_eq_true rfl⟩ (Nat.le_of_ble_eq_true rfl) ⟨Nat.le_of_ble_eq_true rfl, Nat.le_of_ble_eq_true rfl⟩ (fun sz9 => ?_)
    refine x_catch (name := "java/lang/IndexOutOfBoundsException") [(0, 14, 17, 21)] (0, 14, 21, 13) [(0, 14, 25, 15)] rfl (hp1 (Or.inr ⟨by decide, "java/lang/IllegalStateException", wd_864, nc_12⟩)) (by decide) (by decide) wd_524 wd_532 (fun q9 => ?_)
    refine r_astore dL_bestPlace_21 (by decide) rfl ?_
    refine r_iconst (v := (2 : Int32)) dL_bestPlace_23 (by decide) ?_
    exact r_iret dL_bestPlace_24 rfl (Nat.le_of_ble_eq_true rfl) (Nat.le_of_ble_eq_true rfl) ⟨rfl, rfl⟩
  · refine r_callVX (rest := [.int 0, .ref (G.2.2.1 + 170)]) (ct_X9_bestPlace hs hE hT0 hT1 hf) dL_bestPlace_9 wd_1397 zX9_bestPlace wd_1398 wd_1399 rfl rfl rfl (fo9 (hE 0 (by decide))) rfl rfl ⟨Nat.le_of_ble_eq_true rfl, Nat.le_of_ble_eq_true rfl⟩ (Nat.le_of_ble_eq_true rfl) ⟨Nat.le_of_ble_eq_true rfl, Nat.le_of_ble_eq_true rfl⟩ (fun sz9 => ?_)
    refine x_catch (name := "java/lang/IllegalArgumentException") [(0, 14, 17, 21), (0, 14, 21, 13)] (0, 14, 25, 15) [] rfl (hp2 (Or.inr ⟨by decide, "java/lang/IllegalStateException", wd_864, nc_13⟩) (Or.inr ⟨by decide, "java/lang/IndexOutOfBoundsException", wd_524, nc_23⟩)) (by decide) (by decide) wd_525 wd_839 (fun q9 => ?_)
    refine r_astore dL_bestPlace_25 (by decide) rfl ?_
    refine r_iconst (v := (3 : Int32)) dL_bestPlace_27 (by decide) ?_
    exact r_iret dL_bestPlace_28 rfl (Nat.le_of_ble_eq_true rfl) (Nat.le_of_ble_eq_true rfl) ⟨rfl, rfl⟩
set_option maxHeartbeats 4000000 in
set_option maxRecDepth 100000 in
theorem wo_energyIfTurned {G : gG} {lay : Nat → Nat × Nat} {T0 T1 : Nat} {Dd : Nat → Nat → UInt64} {I : gI} {J : gJ} {K : gI} {N : gJ} {sz n : Nat} {a1 : Int32} {a2 : Int32} {a3 : Int32} {a4 : Int32} (hs : G.1.stackTraces = false) (hE : gLay lay) (hT0 : gTank lay T0) (hT1 : gTank lay T1) {v : Int64 × gI} (hf : F_X9_energyIfTurned n T0 T1 I a1 a2 a3 a4 = some (.inr v)) : gCt G mL_energyIfTurned [.ref (G.2.2.1 + 0), .int a1, .int a2, .int a3, .int a4, .ref (G.2.2.1 + 170)] (fO G (lay, T0, T1, Dd) I J K N) sz (gR (some (.int 0)) (fO G (lay, T0, T1, Dd) v.2 (sJ J 170 0 v.1) K N) sz) := by
  refine gCt.ofH [some (.ref (G.2.2.1 + 0)), some (.int a1), some (.int a2), some (.int a3), some (.int a4), some (.ref (G.2.2.1 + 170)), none] (h0 := (0, 13, 16, 21)) (ht := [(0, 13, 20, 13), (0, 13, 24, 15)]) (by decide +kernel) rfl hs rfl (Nat.le_of_ble_eq_true rfl) ?_
  refine r_aload dL_energyIfTurned_0 rfl ?_
  refine r_iconst (v := (0 : Int32)) dL_energyIfTurned_2 (by decide) ?_
  refine r_aload_n dL_energyIfTurned_3 rfl ?_
  refine r_iload_n dL_energyIfTurned_4 rfl ?_
  refine r_iload_n dL_energyIfTurned_5 rfl ?_
  refine r_iload_n dL_energyIfTurned_6 rfl ?_
  refine r_iload dL_energyIfTurned_7 rfl ?_
  refine r_cVi (rest := [.int 0, .ref (G.2.2.1 + 170)]) (ct_X9_energyIfTurned hs hE hT0 hT1 hf) dL_energyIfTurned_9 wd_1404 zX9_energyIfTurned wd_1405 wd_1406 rfl rfl rfl (fo9 (hE 0 (by decide))) rfl rfl ⟨Nat.le_of_ble_eq_true rfl, Nat.le_of_ble_eq_true rfl⟩ (Nat.le_of_ble_eq_true rfl) ⟨Nat.le_of_ble_eq_true rfl, Nat.le_of_ble_eq_true rfl⟩ ?_
  refine a_lastc 0 dL_energyIfTurned_12 (hE 170 (by decide)) (vpc rfl) rfl ?_
  refine r_goto (tgt := 28) dL_energyIfTurned_13 (by decide) ?_
  refine r_iconst (v := (0 : Int32)) dL_energyIfTurned_28 (by decide) ?_
  exact r_iret dL_energyIfTurned_29 rfl (Nat.le_of_ble_eq_true rfl) (Nat.le_of_ble_eq_true rfl) ⟨rfl, rfl, rfl⟩
set_option maxHeartbeats 4000000 in
set_option maxRecDepth 100000 in
theorem we_energyIfTurned {G : gG} {lay : Nat → Nat × Nat} {T0 T1 : Nat} {Dd : Nat → Nat → UInt64} {I : gI} {J : gJ} {K : gI} {N : gJ} {sz n : Nat} {a1 : Int32} {a2 : Int32} {a3 : Int32} {a4 : Int32} (hs : G.1.stackTraces = false) (hE : gLay lay) (hT0 : gTank lay T0) (hT1 : gTank lay T1) {E : String} (hf : F_X9_energyIfTurned n T0 T1 I a1 a2 a3 a4 = some (.inl E)) : gCt G mL_energyIfTurned [.ref (G.2.2.1 + 0), .int a1, .int a2, .int a3, .int a4, .ref (G.2.2.1 + 170)] (fO G (lay, T0, T1, Dd) I J K N) sz (gVs (.int (thA E)) (fO G (lay, T0, T1, Dd) I J K N)) := by
  have hS := xsF_X9_energyIfTurned (S := fun e => e = ISE ∨ e = IOB ∨ e = IAE) _ _ _ _ _ _ _ _ (Or.inl rfl) (Or.inr (Or.inl rfl)) (Or.inr (Or.inr (rfl))) E hf
  refine gCt.ofH [some (.ref (G.2.2.1 + 0)), some (.int a1), some (.int a2), some (.int a3), some (.int a4), some (.ref (G.2.2.1 + 170)), none] (h0 := (0, 13, 16, 21)) (ht := [(0, 13, 20, 13), (0, 13, 24, 15)]) (by decide +kernel) rfl hs rfl (Nat.le_of_ble_eq_true rfl) ?_
  refine r_aload dL_energyIfTurned_0 rfl ?_
  refine r_iconst (v := (0 : Int32)) dL_energyIfTurned_2 (by decide) ?_
  refine r_aload_n dL_energyIfTurned_3 rfl ?_
  refine r_iload_n dL_energyIfTurned_4 rfl ?_
  refine r_iload_n dL_energyIfTurned_5 rfl ?_
  refine r_iload_n dL_energyIfTurned_6 rfl ?_
  refine r_iload dL_energyIfTurned_7 rfl ?_
  rcases hS with rfl | rfl | rfl
  · refine r_callVX (rest := [.int 0, .ref (G.2.2.1 + 170)]) (ct_X9_energyIfTurned hs hE hT0 hT1 hf) dL_energyIfTurned_9 wd_1404 zX9_energyIfTurned wd_1405 wd_1406 rfl rfl rfl (fo9 (hE 0 (by decide))) rfl rfl ⟨Nat.le_of_ble_eq_true rfl, Nat.le_of_ble_eq_true rfl⟩ (Nat.le_of_ble_eq_true rfl) ⟨Nat.le_of_ble_eq_true rfl, Nat.le_of_ble_eq_true rfl⟩ (fun sz9 => ?_)
    refine x_catch (name := "java/lang/IllegalStateException") [] (0, 13, 16, 21) [(0, 13, 20, 13), (0, 13, 24, 15)] rfl hp0 (by decide) (by decide) wd_864 wd_875 (fun q9 => ?_)
    refine r_astore dL_energyIfTurned_16 (by decide) rfl ?_
    refine r_iconst (v := (1 : Int32)) dL_energyIfTurned_18 (by decide) ?_
    exact r_iret dL_energyIfTurned_19 rfl (Nat.le_of_ble_eq_true rfl) (Nat.le_of_ble_eq_true rfl) ⟨rfl, rfl⟩
  · refine r_callVX (rest := [.int 0, .ref (G.2.2.1 + 170)]) (ct_X9_energyIfTurned hs hE hT0 hT1 hf) dL_energyIfTurned_9 wd_1404 zX9_energyIfTurned wd_1405 wd_1406 rfl rfl rfl (fo9 (hE 0 (by decide))) rfl rfl ⟨Nat.le_of_ble_eq_true rfl, Nat.le_of_ble_eq_true rfl⟩ (Nat.le_of_ble_eq_true rfl) ⟨Nat.le_of_ble_eq_true rfl, Nat.le_of_ble_eq_true rfl⟩ (fun sz9 => ?_)
    refine x_catch (name := "java/lang/IndexOutOfBoundsException") [(0, 13, 16, 21)] (0, 13, 20, 13) [(0, 13, 24, 15)] rfl (hp1 (Or.inr ⟨by decide, "java/lang/IllegalStateException", wd_864, nc_12⟩)) (by decide) (by decide) wd_524 wd_532 (fun q9 => ?_)
    refine r_astore dL_energyIfTurned_20 (by decide) rfl ?_
    refine r_iconst (v := (2 : Int32)) dL_energyIfTurned_22 (by decide) ?_
    exact r_iret dL_energyIfTurned_23 rfl (Nat.le_of_ble_eq_true rfl) (Nat.le_of_ble_eq_true rfl) ⟨rfl, rfl⟩
  · refine r_callVX (rest := [.int 0, .ref (G.2.2.1 + 170)]) (ct_X9_energyIfTurned hs hE hT0 hT1 hf) dL_energyIfTurned_9 wd_1404 zX9_energyIfTurned wd_1405 wd_1406 rfl rfl rfl (fo9 (hE 0 (by decide))) rfl rfl ⟨Nat.le_of_ble_eq_true rfl, Nat.le_of_ble_eq_true rfl⟩ (Nat.le_of_ble_eq_true rfl) ⟨Nat.le_of_ble_eq_true rfl, Nat.le_of_ble_eq_true rfl⟩ (fun sz9 => ?_)
    refine x_catch (name := "java/lang/IllegalArgumentException") [(0, 13, 16, 21), (0, 13, 20, 13)] (0, 13, 24, 15) [] rfl (hp2 (Or.inr ⟨by decide, "java/lang/IllegalStateException", wd_864, nc_13⟩) (Or.inr ⟨by decide, "java/lang/IndexOutOfBoundsException", wd_524, nc_23⟩)) (by decide) (by decide) wd_525 wd_839 (fun q9 => ?_)
    refine r_astore dL_energyIfTurned_24 (by decide) rfl ?_
    refine r_iconst (v := (3 : Int32)) dL_energyIfTurned_26 (by decide) ?_
    exact r_iret dL_energyIfTurned_27 rfl (Nat.le_of_ble_eq_true rfl) (Nat.le_of_ble_eq_true rfl) ⟨rfl, rfl⟩
set_option maxHeartbeats 4000000 in
set_option maxRecDepth 100000 in
theorem wo_bestRow {G : gG} {lay : Nat → Nat × Nat} {T0 T1 : Nat} {Dd : Nat → Nat → UInt64} {I : gI} {J : gJ} {K : gI} {N : gJ} {sz n : Nat} {a1 : Int32} {a2 : Int32} {a3 : Int32} (hs : G.1.stackTraces = false) (hE : gLay lay) (hT0 : gTank lay T0) (hT1 : gTank lay T1) {v : Int32 × gI} (hf : F_X9_bestRow n T0 T1 I a1 a2 a3 = some (.inr v)) : gCt G mL_bestRow [.ref (G.2.2.1 + 0), .int a1, .int a2, .int a3, .ref (G.2.2.1 + 170)] (fO G (lay, T0, T1, Dd) I J K N) sz (gR (some (.int 0)) (fO G (lay, T0, T1, Dd) v.2 (sJ J 170 0 (v.1).toInt64) K N) sz) := by
  refine gCt.ofH [some (.ref (G.2.2.1 + 0)), some (.int a1), some (.int a2), some (.int a3), some (.ref (G.2.2.1 + 170)), none] (h0 := (0, 12, 15, 21)) (ht := [(0, 12, 19, 13), (0, 12, 23, 15)]) (by decide +kernel) rfl hs rfl (Nat.le_of_ble_eq_true rfl) ?_
  refine r_aload dL_bestRow_0 rfl ?_
  refine r_iconst (v := (0 : Int32)) dL_bestRow_2 (by decide) ?_
  refine r_aload_n dL_bestRow_3 rfl ?_
  refine r_iload_n dL_bestRow_4 rfl ?_
  refine r_iload_n dL_bestRow_5 rfl ?_
  refine r_iload_n dL_bestRow_6 rfl ?_
  refine r_cVi (rest := [.int 0, .ref (G.2.2.1 + 170)]) (ct_X9_bestRow hs hE hT0 hT1 hf) dL_bestRow_7 wd_1420 zX9_bestRow wd_1421 wd_1422 rfl rfl rfl (fo9 (hE 0 (by decide))) rfl rfl ⟨Nat.le_of_ble_eq_true rfl, Nat.le_of_ble_eq_true rfl⟩ (Nat.le_of_ble_eq_true rfl) ⟨Nat.le_of_ble_eq_true rfl, Nat.le_of_ble_eq_true rfl⟩ ?_
  refine r_i2l dL_bestRow_10 ?_
  refine a_lastc 0 dL_bestRow_11 (hE 170 (by decide)) (vpc rfl) rfl ?_
  refine r_goto (tgt := 27) dL_bestRow_12 (by decide) ?_
  refine r_iconst (v := (0 : Int32)) dL_bestRow_27 (by decide) ?_
  exact r_iret dL_bestRow_28 rfl (Nat.le_of_ble_eq_true rfl) (Nat.le_of_ble_eq_true rfl) ⟨rfl, rfl, rfl⟩
set_option maxHeartbeats 4000000 in
set_option maxRecDepth 100000 in
theorem we_bestRow {G : gG} {lay : Nat → Nat × Nat} {T0 T1 : Nat} {Dd : Nat → Nat → UInt64} {I : gI} {J : gJ} {K : gI} {N : gJ} {sz n : Nat} {a1 : Int32} {a2 : Int32} {a3 : Int32} (hs : G.1.stackTraces = false) (hE : gLay lay) (hT0 : gTank lay T0) (hT1 : gTank lay T1) {E : String} (hf : F_X9_bestRow n T0 T1 I a1 a2 a3 = some (.inl E)) : gCt G mL_bestRow [.ref (G.2.2.1 + 0), .int a1, .int a2, .int a3, .ref (G.2.2.1 + 170)] (fO G (lay, T0, T1, Dd) I J K N) sz (gVs (.int (thA E)) (fO G (lay, T0, T1, Dd) I J K N)) := by
  have hS := xsF_X9_bestRow (S := fun e => e = ISE ∨ e = IOB ∨ e = IAE) _ _ _ _ _ _ _ (Or.inl rfl) (Or.inr (Or.inl rfl)) (Or.inr (Or.inr (rfl))) E hf
  refine gCt.ofH [some (.ref (G.2.2.1 + 0)), some (.int a1), some (.int a2), some (.int a3), some (.ref (G.2.2.1 + 170)), none] (h0 := (0, 12, 15, 21)) (ht := [(0, 12, 19, 13), (0, 12, 23, 15)]) (by decide +kernel) rfl hs rfl (Nat.le_of_ble_eq_true rfl) ?_
  refine r_aload dL_bestRow_0 rfl ?_
  refine r_iconst (v := (0 : Int32)) dL_bestRow_2 (by decide) ?_
  refine r_aload_n dL_bestRow_3 rfl ?_
  refine r_iload_n dL_bestRow_4 rfl ?_
  refine r_iload_n dL_bestRow_5 rfl ?_
  refine r_iload_n dL_bestRow_6 rfl ?_
  rcases hS with rfl | rfl | rfl
  · refine r_callVX (rest := [.int 0, .ref (G.2.2.1 + 170)]) (ct_X9_bestRow hs hE hT0 hT1 hf) dL_bestRow_7 wd_1420 zX9_bestRow wd_1421 wd_1422 rfl rfl rfl (fo9 (hE 0 (by decide))) rfl rfl ⟨Nat.le_of_ble_eq_true rfl, Nat.le_of_ble_eq_true rfl⟩ (Nat.le_of_ble_eq_true rfl) ⟨Nat.le_of_ble_eq_true rfl, Nat.le_of_ble_eq_true rfl⟩ (fun sz9 => ?_)
    refine x_catch (name := "java/lang/IllegalStateException") [] (0, 12, 15, 21) [(0, 12, 19, 13), (0, 12, 23, 15)] rfl hp0 (by decide) (by decide) wd_864 wd_875 (fun q9 => ?_)
    refine r_astore dL_bestRow_15 (by decide) rfl ?_
    refine r_iconst (v := (1 : Int32)) dL_bestRow_17 (by decide) ?_
    exact r_iret dL_bestRow_18 rfl (Nat.le_of_ble_eq_true rfl) (Nat.le_of_ble_eq_true rfl) ⟨rfl, rfl⟩
  · refine r_callVX (rest := [.int 0, .ref (G.2.2.1 + 170)]) (ct_X9_bestRow hs hE hT0 hT1 hf) dL_bestRow_7 wd_1420 zX9_bestRow wd_1421 wd_1422 rfl rfl rfl (fo9 (hE 0 (by decide))) rfl rfl ⟨Nat.le_of_ble_eq_true rfl, Nat.le_of_ble_eq_true rfl⟩ (Nat.le_of_ble_eq_true rfl) ⟨Nat.le_of_ble_eq_true rfl, Nat.le_of_ble_eq_true rfl⟩ (fun sz9 => ?_)
    refine x_catch (name := "java/lang/IndexOutOfBoundsException") [(0, 12, 15, 21)] (0, 12, 19, 13) [(0, 12, 23, 15)] rfl (hp1 (Or.inr ⟨by decide, "java/lang/IllegalStateException", wd_864, nc_12⟩)) (by decide) (by decide) wd_524 wd_532 (fun q9 => ?_)
    refine r_astore dL_bestRow_19 (by decide) rfl ?_
    refine r_iconst (v := (2 : Int32)) dL_bestRow_21 (by decide) ?_
    exact r_iret dL_bestRow_22 rfl (Nat.le_of_ble_eq_true rfl) (Nat.le_of_ble_eq_true rfl) ⟨rfl, rfl⟩
  · refine r_callVX (rest := [.int 0, .ref (G.2.2.1 + 170)]) (ct_X9_bestRow hs hE hT0 hT1 hf) dL_bestRow_7 wd_1420 zX9_bestRow wd_1421 wd_1422 rfl rfl rfl (fo9 (hE 0 (by decide))) rfl rfl ⟨Nat.le_of_ble_eq_true rfl, Nat.le_of_ble_eq_true rfl⟩ (Nat.le_of_ble_eq_true rfl) ⟨Nat.le_of_ble_eq_true rfl, Nat.le_of_ble_eq_true rfl⟩ (fun sz9 => ?_)
    refine x_catch (name := "java/lang/IllegalArgumentException") [(0, 12, 15, 21), (0, 12, 19, 13)] (0, 12, 23, 15) [] rfl (hp2 (Or.inr ⟨by decide, "java/lang/IllegalStateException", wd_864, nc_13⟩) (Or.inr ⟨by decide, "java/lang/IndexOutOfBoundsException", wd_524, nc_23⟩)) (by decide) (by decide) wd_525 wd_839 (fun q9 => ?_)
    refine r_astore dL_bestRow_23 (by decide) rfl ?_
    refine r_iconst (v := (3 : Int32)) dL_bestRow_25 (by decide) ?_
    exact r_iret dL_bestRow_26 rfl (Nat.le_of_ble_eq_true rfl) (Nat.le_of_ble_eq_true rfl) ⟨rfl, rfl⟩
set_option maxHeartbeats 4000000 in
set_option maxRecDepth 100000 in
theorem wo_advance {G : gG} {lay : Nat → Nat × Nat} {T0 T1 : Nat} {Dd : Nat → Nat → UInt64} {I : gI} {J : gJ} {K : gI} {N : gJ} {sz n : Nat} {a1 : Int32} (hs : G.1.stackTraces = false) (hE : gLay lay) (hT0 : gTank lay T0) (hT1 : gTank lay T1) {v : Int32 × gI} (hf : F_X9_advance n T0 T1 I a1 = some (.inr v)) : gCt G mL_advance [.ref (G.2.2.1 + 0), .int a1, .ref (G.2.2.1 + 170)] (fO G (lay, T0, T1, Dd) I J K N) sz (gR (some (.int 0)) (fO G (lay, T0, T1, Dd) v.2 (sJ J 170 0 (v.1).toInt64) K N) sz) := by
  refine gCt.ofH [some (.ref (G.2.2.1 + 0)), some (.int a1), some (.ref (G.2.2.1 + 170)), none] (h0 := (0, 9, 12, 21)) (ht := [(0, 9, 15, 15)]) (by decide +kernel) rfl hs rfl (Nat.le_of_ble_eq_true rfl) ?_
  refine r_aload_n dL_advance_0 rfl ?_
  refine r_iconst (v := (0 : Int32)) dL_advance_1 (by decide) ?_
  refine r_aload_n dL_advance_2 rfl ?_
  refine r_iload_n dL_advance_3 rfl ?_
  refine r_cVi (rest := [.int 0, .ref (G.2.2.1 + 170)]) (ct_X9_advance hs hE hT0 hT1 hf) dL_advance_4 wd_1427 zX9_advance wd_1428 wd_1429 rfl rfl rfl (fo9 (hE 0 (by decide))) rfl rfl ⟨Nat.le_of_ble_eq_true rfl, Nat.le_of_ble_eq_true rfl⟩ (Nat.le_of_ble_eq_true rfl) ⟨Nat.le_of_ble_eq_true rfl, Nat.le_of_ble_eq_true rfl⟩ ?_
  refine r_i2l dL_advance_7 ?_
  refine a_lastc 0 dL_advance_8 (hE 170 (by decide)) (vpc rfl) rfl ?_
  refine r_goto (tgt := 18) dL_advance_9 (by decide) ?_
  refine r_iconst (v := (0 : Int32)) dL_advance_18 (by decide) ?_
  exact r_iret dL_advance_19 rfl (Nat.le_of_ble_eq_true rfl) (Nat.le_of_ble_eq_true rfl) ⟨rfl, rfl, rfl⟩
set_option maxHeartbeats 4000000 in
set_option maxRecDepth 100000 in
theorem we_advance {G : gG} {lay : Nat → Nat × Nat} {T0 T1 : Nat} {Dd : Nat → Nat → UInt64} {I : gI} {J : gJ} {K : gI} {N : gJ} {sz n : Nat} {a1 : Int32} (hs : G.1.stackTraces = false) (hE : gLay lay) (hT0 : gTank lay T0) (hT1 : gTank lay T1) {E : String} (hf : F_X9_advance n T0 T1 I a1 = some (.inl E)) : gCt G mL_advance [.ref (G.2.2.1 + 0), .int a1, .ref (G.2.2.1 + 170)] (fO G (lay, T0, T1, Dd) I J K N) sz (gVs (.int (thB E)) (fO G (lay, T0, T1, Dd) I J K N)) := by
  have hS := xsF_X9_advance (S := fun e => e = ISE ∨ e = IAE) _ _ _ _ _ (Or.inl rfl) (Or.inr (rfl)) E hf
  refine gCt.ofH [some (.ref (G.2.2.1 + 0)), some (.int a1), some (.ref (G.2.2.1 + 170)), none] (h0 := (0, 9, 12, 21)) (ht := [(0, 9, 15, 15)]) (by decide +kernel) rfl hs rfl (Nat.le_of_ble_eq_true rfl) ?_
  refine r_aload_n dL_advance_0 rfl ?_
  refine r_iconst (v := (0 : Int32)) dL_advance_1 (by decide) ?_
  refine r_aload_n dL_advance_2 rfl ?_
  refine r_iload_n dL_advance_3 rfl ?_
  rcases hS with rfl | rfl
  · refine r_callVX (rest := [.int 0, .ref (G.2.2.1 + 170)]) (ct_X9_advance hs hE hT0 hT1 hf) dL_advance_4 wd_1427 zX9_advance wd_1428 wd_1429 rfl rfl rfl (fo9 (hE 0 (by decide))) rfl rfl ⟨Nat.le_of_ble_eq_true rfl, Nat.le_of_ble_eq_true rfl⟩ (Nat.le_of_ble_eq_true rfl) ⟨Nat.le_of_ble_eq_true rfl, Nat.le_of_ble_eq_true rfl⟩ (fun sz9 => ?_)
    refine x_catch (name := "java/lang/IllegalStateException") [] (0, 9, 12, 21) [(0, 9, 15, 15)] rfl hp0 (by decide) (by decide) wd_864 wd_875 (fun q9 => ?_)
    refine r_astore_n dL_advance_12 (by decide) rfl ?_
    refine r_iconst (v := (1 : Int32)) dL_advance_13 (by decide) ?_
    exact r_iret dL_advance_14 rfl (Nat.le_of_ble_eq_true rfl) (Nat.le_of_ble_eq_true rfl) ⟨rfl, rfl⟩
  · refine r_callVX (rest := [.int 0, .ref (G.2.2.1 + 170)]) (ct_X9_advance hs hE hT0 hT1 hf) dL_advance_4 wd_1427 zX9_advance wd_1428 wd_1429 rfl rfl rfl (fo9 (hE 0 (by decide))) rfl rfl ⟨Nat.le_of_ble_eq_true rfl, Nat.le_of_ble_eq_true rfl⟩ (Nat.le_of_ble_eq_true rfl) ⟨Nat.le_of_ble_eq_true rfl, Nat.le_of_ble_eq_true rfl⟩ (fun sz9 => ?_)
    refine x_catch (name := "java/lang/IllegalArgumentException") [(0, 9, 12, 21)] (0, 9, 15, 15) [] rfl (hp1 (Or.inr ⟨by decide, "java/lang/IllegalStateException", wd_864, nc_13⟩)) (by decide) (by decide) wd_525 wd_839 (fun q9 => ?_)
    refine r_astore_n dL_advance_15 (by decide) rfl ?_
    refine r_iconst (v := (2 : Int32)) dL_advance_16 (by decide) ?_
    exact r_iret dL_advance_17 rfl (Nat.le_of_ble_eq_true rfl) (Nat.le_of_ble_eq_true rfl) ⟨rfl, rfl⟩
set_option maxHeartbeats 4000000 in
set_option maxRecDepth 100000 in
theorem wo_setOn {G : gG} {lay : Nat → Nat × Nat} {T0 T1 : Nat} {Dd : Nat → Nat → UInt64} {I : gI} {J : gJ} {K : gI} {N : gJ} {sz n : Nat} {a1 : Int32} {a2 : Int32} (hs : G.1.stackTraces = false) (hE : gLay lay) (hT0 : gTank lay T0) (hT1 : gTank lay T1) {v : Int32 × gI} (hf : F_X9_setOn n T0 T1 I a1 a2 = some (.inr v)) : gCt G mL_setOn [.ref (G.2.2.1 + 0), .int a1, .int a2, .ref (G.2.2.1 + 170)] (fO G (lay, T0, T1, Dd) I J K N) sz (gR (some (.int 0)) (fO G (lay, T0, T1, Dd) v.2 (sJ J 170 0 (if v.1 = 0 then 0 else 1 : Int64)) K N) sz) := by
  refine gCt.ofH [some (.ref (G.2.2.1 + 0)), some (.int a1), some (.int a2), some (.ref (G.2.2.1 + 170)), none] (h0 := (0, 17, 20, 21)) (ht := [(0, 17, 24, 13)]) (by decide +kernel) rfl hs rfl (Nat.le_of_ble_eq_true rfl) ?_
  refine r_aload_n dL_setOn_0 rfl ?_
  refine r_iconst (v := (0 : Int32)) dL_setOn_1 (by decide) ?_
  refine r_aload_n dL_setOn_2 rfl ?_
  refine r_iload_n dL_setOn_3 rfl ?_
  refine r_iload_n dL_setOn_4 rfl ?_
  refine r_cVi (rest := [.int 0, .ref (G.2.2.1 + 170)]) (ct_X9_setOn hs hE hT0 hT1 hf) dL_setOn_5 wd_1439 zX9_setOn wd_1440 wd_1441 rfl rfl rfl (fo9 (hE 0 (by decide))) rfl rfl ⟨Nat.le_of_ble_eq_true rfl, Nat.le_of_ble_eq_true rfl⟩ (Nat.le_of_ble_eq_true rfl) ⟨Nat.le_of_ble_eq_true rfl, Nat.le_of_ble_eq_true rfl⟩ ?_
  refine r_if_eq (tgt := 15) dL_setOn_8 (by decide) (fun c => ?_) (fun c => ?_)
  · refine r_lconst (v := (0 : Int64)) dL_setOn_15 (by decide) ?_
    refine a_lastc 0 dL_setOn_16 (hE 170 (by decide)) (vpc rfl) rfl ?_
    refine r_goto (tgt := 28) dL_setOn_17 (by decide) ?_
    refine r_iconst (v := (0 : Int32)) dL_setOn_28 (by decide) ?_
    exact r_iret dL_setOn_29 rfl (Nat.le_of_ble_eq_true rfl) (Nat.le_of_ble_eq_true rfl) ⟨rfl, by rw [if_pos c], rfl⟩
  · refine r_lconst (v := (1 : Int64)) dL_setOn_11 (by decide) ?_
    refine r_goto (tgt := 16) dL_setOn_12 (by decide) ?_
    refine a_lastc 0 dL_setOn_16 (hE 170 (by decide)) (vpc rfl) rfl ?_
    refine r_goto (tgt := 28) dL_setOn_17 (by decide) ?_
    refine r_iconst (v := (0 : Int32)) dL_setOn_28 (by decide) ?_
    exact r_iret dL_setOn_29 rfl (Nat.le_of_ble_eq_true rfl) (Nat.le_of_ble_eq_true rfl) ⟨rfl, by rw [if_neg c], rfl⟩
set_option maxHeartbeats 4000000 in
set_option maxRecDepth 100000 in
theorem we_setOn {G : gG} {lay : Nat → Nat × Nat} {T0 T1 : Nat} {Dd : Nat → Nat → UInt64} {I : gI} {J : gJ} {K : gI} {N : gJ} {sz n : Nat} {a1 : Int32} {a2 : Int32} (hs : G.1.stackTraces = false) (hE : gLay lay) (hT0 : gTank lay T0) (hT1 : gTank lay T1) {E : String} (hf : F_X9_setOn n T0 T1 I a1 a2 = some (.inl E)) : gCt G mL_setOn [.ref (G.2.2.1 + 0), .int a1, .int a2, .ref (G.2.2.1 + 170)] (fO G (lay, T0, T1, Dd) I J K N) sz (gVs (.int (thA E)) (fO G (lay, T0, T1, Dd) I J K N)) := by
  have hS := xsF_X9_setOn (S := fun e => e = ISE ∨ e = IOB) _ _ _ _ _ _ (Or.inl rfl) (Or.inr (rfl)) E hf
  refine gCt.ofH [some (.ref (G.2.2.1 + 0)), some (.int a1), some (.int a2), some (.ref (G.2.2.1 + 170)), none] (h0 := (0, 17, 20, 21)) (ht := [(0, 17, 24, 13)]) (by decide +kernel) rfl hs rfl (Nat.le_of_ble_eq_true rfl) ?_
  refine r_aload_n dL_setOn_0 rfl ?_
  refine r_iconst (v := (0 : Int32)) dL_setOn_1 (by decide) ?_
  refine r_aload_n dL_setOn_2 rfl ?_
  refine r_iload_n dL_setOn_3 rfl ?_
  refine r_iload_n dL_setOn_4 rfl ?_
  rcases hS with rfl | rfl
  · refine r_callVX (rest := [.int 0, .ref (G.2.2.1 + 170)]) (ct_X9_setOn hs hE hT0 hT1 hf) dL_setOn_5 wd_1439 zX9_setOn wd_1440 wd_1441 rfl rfl rfl (fo9 (hE 0 (by decide))) rfl rfl ⟨Nat.le_of_ble_eq_true rfl, Nat.le_of_ble_eq_true rfl⟩ (Nat.le_of_ble_eq_true rfl) ⟨Nat.le_of_ble_eq_true rfl, Nat.le_of_ble_eq_true rfl⟩ (fun sz9 => ?_)
    refine x_catch (name := "java/lang/IllegalStateException") [] (0, 17, 20, 21) [(0, 17, 24, 13)] rfl hp0 (by decide) (by decide) wd_864 wd_875 (fun q9 => ?_)
    refine r_astore dL_setOn_20 (by decide) rfl ?_
    refine r_iconst (v := (1 : Int32)) dL_setOn_22 (by decide) ?_
    exact r_iret dL_setOn_23 rfl (Nat.le_of_ble_eq_true rfl) (Nat.le_of_ble_eq_true rfl) ⟨rfl, rfl⟩
  · refine r_callVX (rest := [.int 0, .ref (G.2.2.1 + 170)]) (ct_X9_setOn hs hE hT0 hT1 hf) dL_setOn_5 wd_1439 zX9_setOn wd_1440 wd_1441 rfl rfl rfl (fo9 (hE 0 (by decide))) rfl rfl ⟨Nat.le_of_ble_eq_true rfl, Nat.le_of_ble_eq_true rfl⟩ (Nat.le_of_ble_eq_true rfl) ⟨Nat.le_of_ble_eq_true rfl, Nat.le_of_ble_eq_true rfl⟩ (fun sz9 => ?_)
    refine x_catch (name := "java/lang/IndexOutOfBoundsException") [(0, 17, 20, 21)] (0, 17, 24, 13) [] rfl (hp1 (Or.inr ⟨by decide, "java/lang/IllegalStateException", wd_864, nc_12⟩)) (by decide) (by decide) wd_524 wd_532 (fun q9 => ?_)
    refine r_astore dL_setOn_24 (by decide) rfl ?_
    refine r_iconst (v := (2 : Int32)) dL_setOn_26 (by decide) ?_
    exact r_iret dL_setOn_27 rfl (Nat.le_of_ble_eq_true rfl) (Nat.le_of_ble_eq_true rfl) ⟨rfl, rfl⟩
set_option maxHeartbeats 4000000 in
set_option maxRecDepth 100000 in
theorem wo_setPhase {G : gG} {lay : Nat → Nat × Nat} {T0 T1 : Nat} {Dd : Nat → Nat → UInt64} {I : gI} {J : gJ} {K : gI} {N : gJ} {sz n : Nat} {a1 : Int32} {a2 : Int32} (hs : G.1.stackTraces = false) (hE : gLay lay) (hT0 : gTank lay T0) (hT1 : gTank lay T1) {v : Int32 × gI} (hf : F_X9_setPhase n T0 T1 I a1 a2 = some (.inr v)) : gCt G mL_setPhase [.ref (G.2.2.1 + 0), .int a1, .int a2, .ref (G.2.2.1 + 170)] (fO G (lay, T0, T1, Dd) I J K N) sz (gR (some (.int 0)) (fO G (lay, T0, T1, Dd) v.2 (sJ J 170 0 (v.1).toInt64) K N) sz) := by
  refine gCt.ofH [some (.ref (G.2.2.1 + 0)), some (.int a1), some (.int a2), some (.ref (G.2.2.1 + 170)), none] (h0 := (0, 10, 13, 21)) (ht := [(0, 10, 17, 13), (0, 10, 21, 15)]) (by decide +kernel) rfl hs rfl (Nat.le_of_ble_eq_true rfl) ?_
  refine r_aload_n dL_setPhase_0 rfl ?_
  refine r_iconst (v := (0 : Int32)) dL_setPhase_1 (by decide) ?_
  refine r_aload_n dL_setPhase_2 rfl ?_
  refine r_iload_n dL_setPhase_3 rfl ?_
  refine r_iload_n dL_setPhase_4 rfl ?_
  refine r_cVi (rest := [.int 0, .ref (G.2.2.1 + 170)]) (ct_X9_setPhase hs hE hT0 hT1 hf) dL_setPhase_5 wd_1446 zX9_setPhase wd_1447 wd_1448 rfl rfl rfl (fo9 (hE 0 (by decide))) rfl rfl ⟨Nat.le_of_ble_eq_true rfl, Nat.le_of_ble_eq_true rfl⟩ (Nat.le_of_ble_eq_true rfl) ⟨Nat.le_of_ble_eq_true rfl, Nat.le_of_ble_eq_true rfl⟩ ?_
  refine r_i2l dL_setPhase_8 ?_
  refine a_lastc 0 dL_setPhase_9 (hE 170 (by decide)) (vpc rfl) rfl ?_
  refine r_goto (tgt := 25) dL_setPhase_10 (by decide) ?_
  refine r_iconst (v := (0 : Int32)) dL_setPhase_25 (by decide) ?_
  exact r_iret dL_setPhase_26 rfl (Nat.le_of_ble_eq_true rfl) (Nat.le_of_ble_eq_true rfl) ⟨rfl, rfl, rfl⟩
set_option maxHeartbeats 4000000 in
set_option maxRecDepth 100000 in
theorem we_setPhase {G : gG} {lay : Nat → Nat × Nat} {T0 T1 : Nat} {Dd : Nat → Nat → UInt64} {I : gI} {J : gJ} {K : gI} {N : gJ} {sz n : Nat} {a1 : Int32} {a2 : Int32} (hs : G.1.stackTraces = false) (hE : gLay lay) (hT0 : gTank lay T0) (hT1 : gTank lay T1) {E : String} (hf : F_X9_setPhase n T0 T1 I a1 a2 = some (.inl E)) : gCt G mL_setPhase [.ref (G.2.2.1 + 0), .int a1, .int a2, .ref (G.2.2.1 + 170)] (fO G (lay, T0, T1, Dd) I J K N) sz (gVs (.int (thA E)) (fO G (lay, T0, T1, Dd) I J K N)) := by
  have hS := xsF_X9_setPhase (S := fun e => e = ISE ∨ e = IOB ∨ e = IAE) _ _ _ _ _ _ (Or.inl rfl) (Or.inr (Or.inl rfl)) (Or.inr (Or.inr (rfl))) E hf
  refine gCt.ofH [some (.ref (G.2.2.1 + 0)), some (.int a1), some (.int a2), some (.ref (G.2.2.1 + 170)), none] (h0 := (0, 10, 13, 21)) (ht := [(0, 10, 17, 13), (0, 10, 21, 15)]) (by decide +kernel) rfl hs rfl (Nat.le_of_ble_eq_true rfl) ?_
  refine r_aload_n dL_setPhase_0 rfl ?_
  refine r_iconst (v := (0 : Int32)) dL_setPhase_1 (by decide) ?_
  refine r_aload_n dL_setPhase_2 rfl ?_
  refine r_iload_n dL_setPhase_3 rfl ?_
  refine r_iload_n dL_setPhase_4 rfl ?_
  rcases hS with rfl | rfl | rfl
  · refine r_callVX (rest := [.int 0, .ref (G.2.2.1 + 170)]) (ct_X9_setPhase hs hE hT0 hT1 hf) dL_setPhase_5 wd_1446 zX9_setPhase wd_1447 wd_1448 rfl rfl rfl (fo9 (hE 0 (by decide))) rfl rfl ⟨Nat.le_of_ble_eq_true rfl, Nat.le_of_ble_eq_true rfl⟩ (Nat.le_of_ble_eq_true rfl) ⟨Nat.le_of_ble_eq_true rfl, Nat.le_of_ble_eq_true rfl⟩ (fun sz9 => ?_)
    refine x_catch (name := "java/lang/IllegalStateException") [] (0, 10, 13, 21) [(0, 10, 17, 13), (0, 10, 21, 15)] rfl hp0 (by decide) (by decide) wd_864 wd_875 (fun q9 => ?_)
    refine r_astore dL_setPhase_13 (by decide) rfl ?_
    refine r_iconst (v := (1 : Int32)) dL_setPhase_15 (by decide) ?_
    exact r_iret dL_setPhase_16 rfl (Nat.le_of_ble_eq_true rfl) (Nat.le_of_ble_eq_true rfl) ⟨rfl, rfl⟩
  · refine r_callVX (rest := [.int 0, .ref (G.2.2.1 + 170)]) (ct_X9_setPhase hs hE hT0 hT1 hf) dL_setPhase_5 wd_1446 zX9_setPhase wd_1447 wd_1448 rfl rfl rfl (fo9 (hE 0 (by decide))) rfl rfl ⟨Nat.le_of_ble_eq_true rfl, Nat.le_of_ble_eq_true rfl⟩ (Nat.le_of_ble_eq_true rfl) ⟨Nat.le_of_ble_eq_true rfl, Nat.le_of_ble_eq_true rfl⟩ (fun sz9 => ?_)
    refine x_catch (name := "java/lang/IndexOutOfBoundsException") [(0, 10, 13, 21)] (0, 10, 17, 13) [(0, 10, 21, 15)] rfl (hp1 (Or.inr ⟨by decide, "java/lang/IllegalStateException", wd_864, nc_12⟩)) (by decide) (by decide) wd_524 wd_532 (fun q9 => ?_)
    refine r_astore dL_setPhase_17 (by decide) rfl ?_
    refine r_iconst (v := (2 : Int32)) dL_setPhase_19 (by decide) ?_
    exact r_iret dL_setPhase_20 rfl (Nat.le_of_ble_eq_true rfl) (Nat.le_of_ble_eq_true rfl) ⟨rfl, rfl⟩
  · refine r_callVX (rest := [.int 0, .ref (G.2.2.1 + 170)]) (ct_X9_setPhase hs hE hT0 hT1 hf) dL_setPhase_5 wd_1446 zX9_setPhase wd_1447 wd_1448 rfl rfl rfl (fo9 (hE 0 (by decide))) rfl rfl ⟨Nat.le_of_ble_eq_true rfl, Nat.le_of_ble_eq_true rfl⟩ (Nat.le_of_ble_eq_true rfl) ⟨Nat.le_of_ble_eq_true rfl, Nat.le_of_ble_eq_true rfl⟩ (fun sz9 => ?_)
    refine x_catch (name := "java/lang/IllegalArgumentException") [(0, 10, 13, 21), (0, 10, 17, 13)] (0, 10, 21, 15) [] rfl (hp2 (Or.inr ⟨by decide, "java/lang/IllegalStateException", wd_864, nc_13⟩) (Or.inr ⟨by decide, "java/lang/IndexOutOfBoundsException", wd_524, nc_23⟩)) (by decide) (by decide) wd_525 wd_839 (fun q9 => ?_)
    refine r_astore dL_setPhase_21 (by decide) rfl ?_
    refine r_iconst (v := (3 : Int32)) dL_setPhase_23 (by decide) ?_
    exact r_iret dL_setPhase_24 rfl (Nat.le_of_ble_eq_true rfl) (Nat.le_of_ble_eq_true rfl) ⟨rfl, rfl⟩
set_option maxHeartbeats 4000000 in
set_option maxRecDepth 100000 in
theorem wo_setAmp {G : gG} {lay : Nat → Nat × Nat} {T0 T1 : Nat} {Dd : Nat → Nat → UInt64} {I : gI} {J : gJ} {K : gI} {N : gJ} {sz n : Nat} {a1 : Int32} {a2 : Int32} (hs : G.1.stackTraces = false) (hE : gLay lay) (hT0 : gTank lay T0) (hT1 : gTank lay T1) {v : Int32 × gI} (hf : F_X9_setAmp n T0 T1 I a1 a2 = some (.inr v)) : gCt G mL_setAmp [.ref (G.2.2.1 + 0), .int a1, .int a2, .ref (G.2.2.1 + 170)] (fO G (lay, T0, T1, Dd) I J K N) sz (gR (some (.int 0)) (fO G (lay, T0, T1, Dd) v.2 (sJ J 170 0 (v.1).toInt64) K N) sz) := by
  refine gCt.ofH [some (.ref (G.2.2.1 + 0)), some (.int a1), some (.int a2), some (.ref (G.2.2.1 + 170)), none] (h0 := (0, 10, 13, 21)) (ht := [(0, 10, 17, 13), (0, 10, 21, 15)]) (by decide +kernel) rfl hs rfl (Nat.le_of_ble_eq_true rfl) ?_
  refine r_aload_n dL_setAmp_0 rfl ?_
  refine r_iconst (v := (0 : Int32)) dL_setAmp_1 (by decide) ?_
  refine r_aload_n dL_setAmp_2 rfl ?_
  refine r_iload_n dL_setAmp_3 rfl ?_
  refine r_iload_n dL_setAmp_4 rfl ?_
  refine r_cVi (rest := [.int 0, .ref (G.2.2.1 + 170)]) (ct_X9_setAmp hs hE hT0 hT1 hf) dL_setAmp_5 wd_1453 zX9_setAmp wd_1454 wd_1455 rfl rfl rfl (fo9 (hE 0 (by decide))) rfl rfl ⟨Nat.le_of_ble_eq_true rfl, Nat.le_of_ble_eq_true rfl⟩ (Nat.le_of_ble_eq_true rfl) ⟨Nat.le_of_ble_eq_true rfl, Nat.le_of_ble_eq_true rfl⟩ ?_
  refine r_i2l dL_setAmp_8 ?_
  refine a_lastc 0 dL_setAmp_9 (hE 170 (by decide)) (vpc rfl) rfl ?_
  refine r_goto (tgt := 25) dL_setAmp_10 (by decide) ?_
  refine r_iconst (v := (0 : Int32)) dL_setAmp_25 (by decide) ?_
  exact r_iret dL_setAmp_26 rfl (Nat.le_of_ble_eq_true rfl) (Nat.le_of_ble_eq_true rfl) ⟨rfl, rfl, rfl⟩
set_option maxHeartbeats 4000000 in
set_option maxRecDepth 100000 in
theorem we_setAmp {G : gG} {lay : Nat → Nat × Nat} {T0 T1 : Nat} {Dd : Nat → Nat → UInt64} {I : gI} {J : gJ} {K : gI} {N : gJ} {sz n : Nat} {a1 : Int32} {a2 : Int32} (hs : G.1.stackTraces = false) (hE : gLay lay) (hT0 : gTank lay T0) (hT1 : gTank lay T1) {E : String} (hf : F_X9_setAmp n T0 T1 I a1 a2 = some (.inl E)) : gCt G mL_setAmp [.ref (G.2.2.1 + 0), .int a1, .int a2, .ref (G.2.2.1 + 170)] (fO G (lay, T0, T1, Dd) I J K N) sz (gVs (.int (thA E)) (fO G (lay, T0, T1, Dd) I J K N)) := by
  have hS := xsF_X9_setAmp (S := fun e => e = ISE ∨ e = IOB ∨ e = IAE) _ _ _ _ _ _ (Or.inl rfl) (Or.inr (Or.inl rfl)) (Or.inr (Or.inr (rfl))) E hf
  refine gCt.ofH [some (.ref (G.2.2.1 + 0)), some (.int a1), some (.int a2), some (.ref (G.2.2.1 + 170)), none] (h0 := (0, 10, 13, 21)) (ht := [(0, 10, 17, 13), (0, 10, 21, 15)]) (by decide +kernel) rfl hs rfl (Nat.le_of_ble_eq_true rfl) ?_
  refine r_aload_n dL_setAmp_0 rfl ?_
  refine r_iconst (v := (0 : Int32)) dL_setAmp_1 (by decide) ?_
  refine r_aload_n dL_setAmp_2 rfl ?_
  refine r_iload_n dL_setAmp_3 rfl ?_
  refine r_iload_n dL_setAmp_4 rfl ?_
  rcases hS with rfl | rfl | rfl
  · refine r_callVX (rest := [.int 0, .ref (G.2.2.1 + 170)]) (ct_X9_setAmp hs hE hT0 hT1 hf) dL_setAmp_5 wd_1453 zX9_setAmp wd_1454 wd_1455 rfl rfl rfl (fo9 (hE 0 (by decide))) rfl rfl ⟨Nat.le_of_ble_eq_true rfl, Nat.le_of_ble_eq_true rfl⟩ (Nat.le_of_ble_eq_true rfl) ⟨Nat.le_of_ble_eq_true rfl, Nat.le_of_ble_eq_true rfl⟩ (fun sz9 => ?_)
    refine x_catch (name := "java/lang/IllegalStateException") [] (0, 10, 13, 21) [(0, 10, 17, 13), (0, 10, 21, 15)] rfl hp0 (by decide) (by decide) wd_864 wd_875 (fun q9 => ?_)
    refine r_astore dL_setAmp_13 (by decide) rfl ?_
    refine r_iconst (v := (1 : Int32)) dL_setAmp_15 (by decide) ?_
    exact r_iret dL_setAmp_16 rfl (Nat.le_of_ble_eq_true rfl) (Nat.le_of_ble_eq_true rfl) ⟨rfl, rfl⟩
  · refine r_callVX (rest := [.int 0, .ref (G.2.2.1 + 170)]) (ct_X9_setAmp hs hE hT0 hT1 hf) dL_setAmp_5 wd_1453 zX9_setAmp wd_1454 wd_1455 rfl rfl rfl (fo9 (hE 0 (by decide))) rfl rfl ⟨Nat.le_of_ble_eq_true rfl, Nat.le_of_ble_eq_true rfl⟩ (Nat.le_of_ble_eq_true rfl) ⟨Nat.le_of_ble_eq_true rfl, Nat.le_of_ble_eq_true rfl⟩ (fun sz9 => ?_)
    refine x_catch (name := "java/lang/IndexOutOfBoundsException") [(0, 10, 13, 21)] (0, 10, 17, 13) [(0, 10, 21, 15)] rfl (hp1 (Or.inr ⟨by decide, "java/lang/IllegalStateException", wd_864, nc_12⟩)) (by decide) (by decide) wd_524 wd_532 (fun q9 => ?_)
    refine r_astore dL_setAmp_17 (by decide) rfl ?_
    refine r_iconst (v := (2 : Int32)) dL_setAmp_19 (by decide) ?_
    exact r_iret dL_setAmp_20 rfl (Nat.le_of_ble_eq_true rfl) (Nat.le_of_ble_eq_true rfl) ⟨rfl, rfl⟩
  · refine r_callVX (rest := [.int 0, .ref (G.2.2.1 + 170)]) (ct_X9_setAmp hs hE hT0 hT1 hf) dL_setAmp_5 wd_1453 zX9_setAmp wd_1454 wd_1455 rfl rfl rfl (fo9 (hE 0 (by decide))) rfl rfl ⟨Nat.le_of_ble_eq_true rfl, Nat.le_of_ble_eq_true rfl⟩ (Nat.le_of_ble_eq_true rfl) ⟨Nat.le_of_ble_eq_true rfl, Nat.le_of_ble_eq_true rfl⟩ (fun sz9 => ?_)
    refine x_catch (name := "java/lang/IllegalArgumentException") [(0, 10, 13, 21), (0, 10, 17, 13)] (0, 10, 21, 15) [] rfl (hp2 (Or.inr ⟨by decide, "java/lang/IllegalStateException", wd_864, nc_13⟩) (Or.inr ⟨by decide, "java/lang/IndexOutOfBoundsException", wd_524, nc_23⟩)) (by decide) (by decide) wd_525 wd_839 (fun q9 => ?_)
    refine r_astore dL_setAmp_21 (by decide) rfl ?_
    refine r_iconst (v := (3 : Int32)) dL_setAmp_23 (by decide) ?_
    exact r_iret dL_setAmp_24 rfl (Nat.le_of_ble_eq_true rfl) (Nat.le_of_ble_eq_true rfl) ⟨rfl, rfl⟩
set_option maxHeartbeats 4000000 in
set_option maxRecDepth 100000 in
theorem wo_moveSource {G : gG} {lay : Nat → Nat × Nat} {T0 T1 : Nat} {Dd : Nat → Nat → UInt64} {I : gI} {J : gJ} {K : gI} {N : gJ} {sz n : Nat} {a1 : Int32} {a2 : Int32} {a3 : Int32} (hs : G.1.stackTraces = false) (hE : gLay lay) (hT0 : gTank lay T0) (hT1 : gTank lay T1) {v : Int32 × gI} (hf : F_X9_moveSource n T0 T1 I a1 a2 a3 = some (.inr v)) : gCt G mL_moveSource [.ref (G.2.2.1 + 0), .int a1, .int a2, .int a3, .ref (G.2.2.1 + 170)] (fO G (lay, T0, T1, Dd) I J K N) sz (gR (some (.int 0)) (fO G (lay, T0, T1, Dd) v.2 (sJ J 170 0 (v.1).toInt64) K N) sz) := by
  refine gCt.ofH [some (.ref (G.2.2.1 + 0)), some (.int a1), some (.int a2), some (.int a3), some (.ref (G.2.2.1 + 170)), none] (h0 := (0, 12, 15, 21)) (ht := [(0, 12, 19, 13)]) (by decide +kernel) rfl hs rfl (Nat.le_of_ble_eq_true rfl) ?_
  refine r_aload dL_moveSource_0 rfl ?_
  refine r_iconst (v := (0 : Int32)) dL_moveSource_2 (by decide) ?_
  refine r_aload_n dL_moveSource_3 rfl ?_
  refine r_iload_n dL_moveSource_4 rfl ?_
  refine r_iload_n dL_moveSource_5 rfl ?_
  refine r_iload_n dL_moveSource_6 rfl ?_
  refine r_cVi (rest := [.int 0, .ref (G.2.2.1 + 170)]) (ct_X9_moveSource hs hE hT0 hT1 hf) dL_moveSource_7 wd_1460 zX9_moveSource wd_1461 wd_1462 rfl rfl rfl (fo9 (hE 0 (by decide))) rfl rfl ⟨Nat.le_of_ble_eq_true rfl, Nat.le_of_ble_eq_true rfl⟩ (Nat.le_of_ble_eq_true rfl) ⟨Nat.le_of_ble_eq_true rfl, Nat.le_of_ble_eq_true rfl⟩ ?_
  refine r_i2l dL_moveSource_10 ?_
  refine a_lastc 0 dL_moveSource_11 (hE 170 (by decide)) (vpc rfl) rfl ?_
  refine r_goto (tgt := 23) dL_moveSource_12 (by decide) ?_
  refine r_iconst (v := (0 : Int32)) dL_moveSource_23 (by decide) ?_
  exact r_iret dL_moveSource_24 rfl (Nat.le_of_ble_eq_true rfl) (Nat.le_of_ble_eq_true rfl) ⟨rfl, rfl, rfl⟩
set_option maxHeartbeats 4000000 in
set_option maxRecDepth 100000 in
theorem we_moveSource {G : gG} {lay : Nat → Nat × Nat} {T0 T1 : Nat} {Dd : Nat → Nat → UInt64} {I : gI} {J : gJ} {K : gI} {N : gJ} {sz n : Nat} {a1 : Int32} {a2 : Int32} {a3 : Int32} (hs : G.1.stackTraces = false) (hE : gLay lay) (hT0 : gTank lay T0) (hT1 : gTank lay T1) {E : String} (hf : F_X9_moveSource n T0 T1 I a1 a2 a3 = some (.inl E)) : gCt G mL_moveSource [.ref (G.2.2.1 + 0), .int a1, .int a2, .int a3, .ref (G.2.2.1 + 170)] (fO G (lay, T0, T1, Dd) I J K N) sz (gVs (.int (thA E)) (fO G (lay, T0, T1, Dd) I J K N)) := by
  have hS := xsF_X9_moveSource (S := fun e => e = ISE ∨ e = IOB) _ _ _ _ _ _ _ (Or.inl rfl) (Or.inr (rfl)) E hf
  refine gCt.ofH [some (.ref (G.2.2.1 + 0)), some (.int a1), some (.int a2), some (.int a3), some (.ref (G.2.2.1 + 170)), none] (h0 := (0, 12, 15, 21)) (ht := [(0, 12, 19, 13)]) (by decide +kernel) rfl hs rfl (Nat.le_of_ble_eq_true rfl) ?_
  refine r_aload dL_moveSource_0 rfl ?_
  refine r_iconst (v := (0 : Int32)) dL_moveSource_2 (by decide) ?_
  refine r_aload_n dL_moveSource_3 rfl ?_
  refine r_iload_n dL_moveSource_4 rfl ?_
  refine r_iload_n dL_moveSource_5 rfl ?_
  refine r_iload_n dL_moveSource_6 rfl ?_
  rcases hS with rfl | rfl
  · refine r_callVX (rest := [.int 0, .ref (G.2.2.1 + 170)]) (ct_X9_moveSource hs hE hT0 hT1 hf) dL_moveSource_7 wd_1460 zX9_moveSource wd_1461 wd_1462 rfl rfl rfl (fo9 (hE 0 (by decide))) rfl rfl ⟨Nat.le_of_ble_eq_true rfl, Nat.le_of_ble_eq_true rfl⟩ (Nat.le_of_ble_eq_true rfl) ⟨Nat.le_of_ble_eq_true rfl, Nat.le_of_ble_eq_true rfl⟩ (fun sz9 => ?_)
    refine x_catch (name := "java/lang/IllegalStateException") [] (0, 12, 15, 21) [(0, 12, 19, 13)] rfl hp0 (by decide) (by decide) wd_864 wd_875 (fun q9 => ?_)
    refine r_astore dL_moveSource_15 (by decide) rfl ?_
    refine r_iconst (v := (1 : Int32)) dL_moveSource_17 (by decide) ?_
    exact r_iret dL_moveSource_18 rfl (Nat.le_of_ble_eq_true rfl) (Nat.le_of_ble_eq_true rfl) ⟨rfl, rfl⟩
  · refine r_callVX (rest := [.int 0, .ref (G.2.2.1 + 170)]) (ct_X9_moveSource hs hE hT0 hT1 hf) dL_moveSource_7 wd_1460 zX9_moveSource wd_1461 wd_1462 rfl rfl rfl (fo9 (hE 0 (by decide))) rfl rfl ⟨Nat.le_of_ble_eq_true rfl, Nat.le_of_ble_eq_true rfl⟩ (Nat.le_of_ble_eq_true rfl) ⟨Nat.le_of_ble_eq_true rfl, Nat.le_of_ble_eq_true rfl⟩ (fun sz9 => ?_)
    refine x_catch (name := "java/lang/IndexOutOfBoundsException") [(0, 12, 15, 21)] (0, 12, 19, 13) [] rfl (hp1 (Or.inr ⟨by decide, "java/lang/IllegalStateException", wd_864, nc_12⟩)) (by decide) (by decide) wd_524 wd_532 (fun q9 => ?_)
    refine r_astore dL_moveSource_19 (by decide) rfl ?_
    refine r_iconst (v := (2 : Int32)) dL_moveSource_21 (by decide) ?_
    exact r_iret dL_moveSource_22 rfl (Nat.le_of_ble_eq_true rfl) (Nat.le_of_ble_eq_true rfl) ⟨rfl, rfl⟩
set_option maxHeartbeats 4000000 in
set_option maxRecDepth 100000 in
theorem wo_setDrift {G : gG} {lay : Nat → Nat × Nat} {T0 T1 : Nat} {Dd : Nat → Nat → UInt64} {I : gI} {J : gJ} {K : gI} {N : gJ} {sz n : Nat} {a1 : Int32} {a2 : Int32} {a3 : Int32} (hs : G.1.stackTraces = false) (hE : gLay lay) (hT0 : gTank lay T0) (hT1 : gTank lay T1) {v : Int32 × gI} (hf : F_X9_setDrift n T0 T1 I a1 a2 a3 = some (.inr v)) : gCt G mL_setDrift [.ref (G.2.2.1 + 0), .int a1, .int a2, .int a3, .ref (G.2.2.1 + 170)] (fO G (lay, T0, T1, Dd) I J K N) sz (gR (some (.int 0)) (fO G (lay, T0, T1, Dd) v.2 (sJ J 170 0 (v.1).toInt64) K N) sz) := by
  refine gCt.ofH [some (.ref (G.2.2.1 + 0)), some (.int a1), some (.int a2), some (.int a3), some (.ref (G.2.2.1 + 170)), none] (h0 := (0, 12, 15, 21)) (ht := [(0, 12, 19, 13), (0, 12, 23, 15)]) (by decide +kernel) rfl hs rfl (Nat.le_of_ble_eq_true rfl) ?_
  refine r_aload dL_setDrift_0 rfl ?_
  refine r_iconst (v := (0 : Int32)) dL_setDrift_2 (by decide) ?_
  refine r_aload_n dL_setDrift_3 rfl ?_
  refine r_iload_n dL_setDrift_4 rfl ?_
  refine r_iload_n dL_setDrift_5 rfl ?_
  refine r_iload_n dL_setDrift_6 rfl ?_
  refine r_cVi (rest := [.int 0, .ref (G.2.2.1 + 170)]) (ct_X9_setDrift hs hE hT0 hT1 hf) dL_setDrift_7 wd_1472 zX9_setDrift wd_1473 wd_1474 rfl rfl rfl (fo9 (hE 0 (by decide))) rfl rfl ⟨Nat.le_of_ble_eq_true rfl, Nat.le_of_ble_eq_true rfl⟩ (Nat.le_of_ble_eq_true rfl) ⟨Nat.le_of_ble_eq_true rfl, Nat.le_of_ble_eq_true rfl⟩ ?_
  refine r_i2l dL_setDrift_10 ?_
  refine a_lastc 0 dL_setDrift_11 (hE 170 (by decide)) (vpc rfl) rfl ?_
  refine r_goto (tgt := 27) dL_setDrift_12 (by decide) ?_
  refine r_iconst (v := (0 : Int32)) dL_setDrift_27 (by decide) ?_
  exact r_iret dL_setDrift_28 rfl (Nat.le_of_ble_eq_true rfl) (Nat.le_of_ble_eq_true rfl) ⟨rfl, rfl, rfl⟩
set_option maxHeartbeats 4000000 in
set_option maxRecDepth 100000 in
theorem we_setDrift {G : gG} {lay : Nat → Nat × Nat} {T0 T1 : Nat} {Dd : Nat → Nat → UInt64} {I : gI} {J : gJ} {K : gI} {N : gJ} {sz n : Nat} {a1 : Int32} {a2 : Int32} {a3 : Int32} (hs : G.1.stackTraces = false) (hE : gLay lay) (hT0 : gTank lay T0) (hT1 : gTank lay T1) {E : String} (hf : F_X9_setDrift n T0 T1 I a1 a2 a3 = some (.inl E)) : gCt G mL_setDrift [.ref (G.2.2.1 + 0), .int a1, .int a2, .int a3, .ref (G.2.2.1 + 170)] (fO G (lay, T0, T1, Dd) I J K N) sz (gVs (.int (thA E)) (fO G (lay, T0, T1, Dd) I J K N)) := by
  have hS := xsF_X9_setDrift (S := fun e => e = ISE ∨ e = IOB ∨ e = IAE) _ _ _ _ _ _ _ (Or.inl rfl) (Or.inr (Or.inl rfl)) (Or.inr (Or.inr (rfl))) E hf
  refine gCt.ofH [some (.ref (G.2.2.1 + 0)), some (.int a1), some (.int a2), some (.int a3), some (.ref (G.2.2.1 + 170)), none] (h0 := (0, 12, 15, 21)) (ht := [(0, 12, 19, 13), (0, 12, 23, 15)]) (by decide +kernel) rfl hs rfl (Nat.le_of_ble_eq_true rfl) ?_
  refine r_aload dL_setDrift_0 rfl ?_
  refine r_iconst (v := (0 : Int32)) dL_setDrift_2 (by decide) ?_
  refine r_aload_n dL_setDrift_3 rfl ?_
  refine r_iload_n dL_setDrift_4 rfl ?_
  refine r_iload_n dL_setDrift_5 rfl ?_
  refine r_iload_n dL_setDrift_6 rfl ?_
  rcases hS with rfl | rfl | rfl
  · refine r_callVX (rest := [.int 0, .ref (G.2.2.1 + 170)]) (ct_X9_setDrift hs hE hT0 hT1 hf) dL_setDrift_7 wd_1472 zX9_setDrift wd_1473 wd_1474 rfl rfl rfl (fo9 (hE 0 (by decide))) rfl rfl ⟨Nat.le_of_ble_eq_true rfl, Nat.le_of_ble_eq_true rfl⟩ (Nat.le_of_ble_eq_true rfl) ⟨Nat.le_of_ble_eq_true rfl, Nat.le_of_ble_eq_true rfl⟩ (fun sz9 => ?_)
    refine x_catch (name := "java/lang/IllegalStateException") [] (0, 12, 15, 21) [(0, 12, 19, 13), (0, 12, 23, 15)] rfl hp0 (by decide) (by decide) wd_864 wd_875 (fun q9 => ?_)
    refine r_astore dL_setDrift_15 (by decide) rfl ?_
    refine r_iconst (v := (1 : Int32)) dL_setDrift_17 (by decide) ?_
    exact r_iret dL_setDrift_18 rfl (Nat.le_of_ble_eq_true rfl) (Nat.le_of_ble_eq_true rfl) ⟨rfl, rfl⟩
  · refine r_callVX (rest := [.int 0, .ref (G.2.2.1 + 170)]) (ct_X9_setDrift hs hE hT0 hT1 hf) dL_setDrift_7 wd_1472 zX9_setDrift wd_1473 wd_1474 rfl rfl rfl (fo9 (hE 0 (by decide))) rfl rfl ⟨Nat.le_of_ble_eq_true rfl, Nat.le_of_ble_eq_true rfl⟩ (Nat.le_of_ble_eq_true rfl) ⟨Nat.le_of_ble_eq_true rfl, Nat.le_of_ble_eq_true rfl⟩ (fun sz9 => ?_)
    refine x_catch (name := "java/lang/IndexOutOfBoundsException") [(0, 12, 15, 21)] (0, 12, 19, 13) [(0, 12, 23, 15)] rfl (hp1 (Or.inr ⟨by decide, "java/lang/IllegalStateException", wd_864, nc_12⟩)) (by decide) (by decide) wd_524 wd_532 (fun q9 => ?_)
    refine r_astore dL_setDrift_19 (by decide) rfl ?_
    refine r_iconst (v := (2 : Int32)) dL_setDrift_21 (by decide) ?_
    exact r_iret dL_setDrift_22 rfl (Nat.le_of_ble_eq_true rfl) (Nat.le_of_ble_eq_true rfl) ⟨rfl, rfl⟩
  · refine r_callVX (rest := [.int 0, .ref (G.2.2.1 + 170)]) (ct_X9_setDrift hs hE hT0 hT1 hf) dL_setDrift_7 wd_1472 zX9_setDrift wd_1473 wd_1474 rfl rfl rfl (fo9 (hE 0 (by decide))) rfl rfl ⟨Nat.le_of_ble_eq_true rfl, Nat.le_of_ble_eq_true rfl⟩ (Nat.le_of_ble_eq_true rfl) ⟨Nat.le_of_ble_eq_true rfl, Nat.le_of_ble_eq_true rfl⟩ (fun sz9 => ?_)
    refine x_catch (name := "java/lang/IllegalArgumentException") [(0, 12, 15, 21), (0, 12, 19, 13)] (0, 12, 23, 15) [] rfl (hp2 (Or.inr ⟨by decide, "java/lang/IllegalStateException", wd_864, nc_13⟩) (Or.inr ⟨by decide, "java/lang/IndexOutOfBoundsException", wd_524, nc_23⟩)) (by decide) (by decide) wd_525 wd_839 (fun q9 => ?_)
    refine r_astore dL_setDrift_23 (by decide) rfl ?_
    refine r_iconst (v := (3 : Int32)) dL_setDrift_25 (by decide) ?_
    exact r_iret dL_setDrift_26 rfl (Nat.le_of_ble_eq_true rfl) (Nat.le_of_ble_eq_true rfl) ⟨rfl, rfl⟩
set_option maxHeartbeats 4000000 in
set_option maxRecDepth 100000 in
theorem wo_turnRow {G : gG} {lay : Nat → Nat × Nat} {T0 T1 : Nat} {Dd : Nat → Nat → UInt64} {I : gI} {J : gJ} {K : gI} {N : gJ} {sz n : Nat} {a1 : Int32} (hs : G.1.stackTraces = false) (hE : gLay lay) (hT0 : gTank lay T0) (hT1 : gTank lay T1) {v : Int32 × gI} (hf : F_X9_turnRow n T0 T1 I a1 = some (.inr v)) : gCt G mL_turnRow [.ref (G.2.2.1 + 0), .int a1, .ref (G.2.2.1 + 170)] (fO G (lay, T0, T1, Dd) I J K N) sz (gR (some (.int 0)) (fO G (lay, T0, T1, Dd) v.2 (sJ J 170 0 (if v.1 = 0 then 0 else 1 : Int64)) K N) sz) := by
  refine gCt.ofH [some (.ref (G.2.2.1 + 0)), some (.int a1), some (.ref (G.2.2.1 + 170)), none] (h0 := (0, 16, 19, 21)) (ht := [(0, 16, 22, 13)]) (by decide +kernel) rfl hs rfl (Nat.le_of_ble_eq_true rfl) ?_
  refine r_aload_n dL_turnRow_0 rfl ?_
  refine r_iconst (v := (0 : Int32)) dL_turnRow_1 (by decide) ?_
  refine r_aload_n dL_turnRow_2 rfl ?_
  refine r_iload_n dL_turnRow_3 rfl ?_
  refine r_cVi (rest := [.int 0, .ref (G.2.2.1 + 170)]) (ct_X9_turnRow hs hE hT0 hT1 hf) dL_turnRow_4 wd_1479 zX9_turnRow wd_1480 wd_1481 rfl rfl rfl (fo9 (hE 0 (by decide))) rfl rfl ⟨Nat.le_of_ble_eq_true rfl, Nat.le_of_ble_eq_true rfl⟩ (Nat.le_of_ble_eq_true rfl) ⟨Nat.le_of_ble_eq_true rfl, Nat.le_of_ble_eq_true rfl⟩ ?_
  refine r_if_eq (tgt := 14) dL_turnRow_7 (by decide) (fun c => ?_) (fun c => ?_)
  · refine r_lconst (v := (0 : Int64)) dL_turnRow_14 (by decide) ?_
    refine a_lastc 0 dL_turnRow_15 (hE 170 (by decide)) (vpc rfl) rfl ?_
    refine r_goto (tgt := 25) dL_turnRow_16 (by decide) ?_
    refine r_iconst (v := (0 : Int32)) dL_turnRow_25 (by decide) ?_
    exact r_iret dL_turnRow_26 rfl (Nat.le_of_ble_eq_true rfl) (Nat.le_of_ble_eq_true rfl) ⟨rfl, by rw [if_pos c], rfl⟩
  · refine r_lconst (v := (1 : Int64)) dL_turnRow_10 (by decide) ?_
    refine r_goto (tgt := 15) dL_turnRow_11 (by decide) ?_
    refine a_lastc 0 dL_turnRow_15 (hE 170 (by decide)) (vpc rfl) rfl ?_
    refine r_goto (tgt := 25) dL_turnRow_16 (by decide) ?_
    refine r_iconst (v := (0 : Int32)) dL_turnRow_25 (by decide) ?_
    exact r_iret dL_turnRow_26 rfl (Nat.le_of_ble_eq_true rfl) (Nat.le_of_ble_eq_true rfl) ⟨rfl, by rw [if_neg c], rfl⟩
set_option maxHeartbeats 4000000 in
set_option maxRecDepth 100000 in
theorem we_turnRow {G : gG} {lay : Nat → Nat × Nat} {T0 T1 : Nat} {Dd : Nat → Nat → UInt64} {I : gI} {J : gJ} {K : gI} {N : gJ} {sz n : Nat} {a1 : Int32} (hs : G.1.stackTraces = false) (hE : gLay lay) (hT0 : gTank lay T0) (hT1 : gTank lay T1) {E : String} (hf : F_X9_turnRow n T0 T1 I a1 = some (.inl E)) : gCt G mL_turnRow [.ref (G.2.2.1 + 0), .int a1, .ref (G.2.2.1 + 170)] (fO G (lay, T0, T1, Dd) I J K N) sz (gVs (.int (thA E)) (fO G (lay, T0, T1, Dd) I J K N)) := by
  have hS := xsF_X9_turnRow (S := fun e => e = ISE ∨ e = IOB) _ _ _ _ _ (Or.inl rfl) (Or.inr (rfl)) E hf
  refine gCt.ofH [some (.ref (G.2.2.1 + 0)), some (.int a1), some (.ref (G.2.2.1 + 170)), none] (h0 := (0, 16, 19, 21)) (ht := [(0, 16, 22, 13)]) (by decide +kernel) rfl hs rfl (Nat.le_of_ble_eq_true rfl) ?_
  refine r_aload_n dL_turnRow_0 rfl ?_
  refine r_iconst (v := (0 : Int32)) dL_turnRow_1 (by decide) ?_
  refine r_aload_n dL_turnRow_2 rfl ?_
  refine r_iload_n dL_turnRow_3 rfl ?_
  rcases hS with rfl | rfl
  · refine r_callVX (rest := [.int 0, .ref (G.2.2.1 + 170)]) (ct_X9_turnRow hs hE hT0 hT1 hf) dL_turnRow_4 wd_1479 zX9_turnRow wd_1480 wd_1481 rfl rfl rfl (fo9 (hE 0 (by decide))) rfl rfl ⟨Nat.le_of_ble_eq_true rfl, Nat.le_of_ble_eq_true rfl⟩ (Nat.le_of_ble_eq_true rfl) ⟨Nat.le_of_ble_eq_true rfl, Nat.le_of_ble_eq_true rfl⟩ (fun sz9 => ?_)
    refine x_catch (name := "java/lang/IllegalStateException") [] (0, 16, 19, 21) [(0, 16, 22, 13)] rfl hp0 (by decide) (by decide) wd_864 wd_875 (fun q9 => ?_)
    refine r_astore_n dL_turnRow_19 (by decide) rfl ?_
    refine r_iconst (v := (1 : Int32)) dL_turnRow_20 (by decide) ?_
    exact r_iret dL_turnRow_21 rfl (Nat.le_of_ble_eq_true rfl) (Nat.le_of_ble_eq_true rfl) ⟨rfl, rfl⟩
  · refine r_callVX (rest := [.int 0, .ref (G.2.2.1 + 170)]) (ct_X9_turnRow hs hE hT0 hT1 hf) dL_turnRow_4 wd_1479 zX9_turnRow wd_1480 wd_1481 rfl rfl rfl (fo9 (hE 0 (by decide))) rfl rfl ⟨Nat.le_of_ble_eq_true rfl, Nat.le_of_ble_eq_true rfl⟩ (Nat.le_of_ble_eq_true rfl) ⟨Nat.le_of_ble_eq_true rfl, Nat.le_of_ble_eq_true rfl⟩ (fun sz9 => ?_)
    refine x_catch (name := "java/lang/IndexOutOfBoundsException") [(0, 16, 19, 21)] (0, 16, 22, 13) [] rfl (hp1 (Or.inr ⟨by decide, "java/lang/IllegalStateException", wd_864, nc_12⟩)) (by decide) (by decide) wd_524 wd_532 (fun q9 => ?_)
    refine r_astore_n dL_turnRow_22 (by decide) rfl ?_
    refine r_iconst (v := (2 : Int32)) dL_turnRow_23 (by decide) ?_
    exact r_iret dL_turnRow_24 rfl (Nat.le_of_ble_eq_true rfl) (Nat.le_of_ble_eq_true rfl) ⟨rfl, rfl⟩
set_option maxHeartbeats 4000000 in
set_option maxRecDepth 100000 in
theorem wo_undo {G : gG} {lay : Nat → Nat × Nat} {T0 T1 : Nat} {Dd : Nat → Nat → UInt64} {I : gI} {J : gJ} {K : gI} {N : gJ} {sz n : Nat}  (hs : G.1.stackTraces = false) (hE : gLay lay) (hT0 : gTank lay T0) (hT1 : gTank lay T1) {v : Int32 × gI} (hf : F_X9_undo n T0 T1 I = some (.inr v)) : gCt G mL_undo [.ref (G.2.2.1 + 0), .ref (G.2.2.1 + 170)] (fO G (lay, T0, T1, Dd) I J K N) sz (gR (some (.int 0)) (fO G (lay, T0, T1, Dd) v.2 (sJ J 170 0 (v.1).toInt64) K N) sz) := by
  refine gCt.ofH [some (.ref (G.2.2.1 + 0)), some (.ref (G.2.2.1 + 170)), none] (h0 := (0, 8, 11, 21)) (ht := []) (by decide +kernel) rfl hs rfl (Nat.le_of_ble_eq_true rfl) ?_
  refine r_aload_n dL_undo_0 rfl ?_
  refine r_iconst (v := (0 : Int32)) dL_undo_1 (by decide) ?_
  refine r_aload_n dL_undo_2 rfl ?_
  refine r_cVi (rest := [.int 0, .ref (G.2.2.1 + 170)]) (ct_X9_undo hs hE hT0 hT1 hf) dL_undo_3 wd_1487 zX9_undo wd_1488 wd_1489 rfl rfl rfl (fo9 (hE 0 (by decide))) rfl rfl ⟨Nat.le_of_ble_eq_true rfl, Nat.le_of_ble_eq_true rfl⟩ (Nat.le_of_ble_eq_true rfl) ⟨Nat.le_of_ble_eq_true rfl, Nat.le_of_ble_eq_true rfl⟩ ?_
  refine r_i2l dL_undo_6 ?_
  refine a_lastc 0 dL_undo_7 (hE 170 (by decide)) (vpc rfl) rfl ?_
  refine r_goto (tgt := 14) dL_undo_8 (by decide) ?_
  refine r_iconst (v := (0 : Int32)) dL_undo_14 (by decide) ?_
  exact r_iret dL_undo_15 rfl (Nat.le_of_ble_eq_true rfl) (Nat.le_of_ble_eq_true rfl) ⟨rfl, rfl, rfl⟩
set_option maxHeartbeats 4000000 in
set_option maxRecDepth 100000 in
theorem we_undo {G : gG} {lay : Nat → Nat × Nat} {T0 T1 : Nat} {Dd : Nat → Nat → UInt64} {I : gI} {J : gJ} {K : gI} {N : gJ} {sz n : Nat}  (hs : G.1.stackTraces = false) (hE : gLay lay) (hT0 : gTank lay T0) (hT1 : gTank lay T1) {E : String} (hf : F_X9_undo n T0 T1 I = some (.inl E)) : gCt G mL_undo [.ref (G.2.2.1 + 0), .ref (G.2.2.1 + 170)] (fO G (lay, T0, T1, Dd) I J K N) sz (gVs (.int (thA E)) (fO G (lay, T0, T1, Dd) I J K N)) := by
  have hS := xsF_X9_undo (S := fun e => e = ISE) _ _ _ _ (rfl) E hf
  refine gCt.ofH [some (.ref (G.2.2.1 + 0)), some (.ref (G.2.2.1 + 170)), none] (h0 := (0, 8, 11, 21)) (ht := []) (by decide +kernel) rfl hs rfl (Nat.le_of_ble_eq_true rfl) ?_
  refine r_aload_n dL_undo_0 rfl ?_
  refine r_iconst (v := (0 : Int32)) dL_undo_1 (by decide) ?_
  refine r_aload_n dL_undo_2 rfl ?_
  rcases hS with rfl
  · refine r_callVX (rest := [.int 0, .ref (G.2.2.1 + 170)]) (ct_X9_undo hs hE hT0 hT1 hf) dL_undo_3 wd_1487 zX9_undo wd_1488 wd_1489 rfl rfl rfl (fo9 (hE 0 (by decide))) rfl rfl ⟨Nat.le_of_ble_eq_true rfl, Nat.le_of_ble_eq_true rfl⟩ (Nat.le_of_ble_eq_true rfl) ⟨Nat.le_of_ble_eq_true rfl, Nat.le_of_ble_eq_true rfl⟩ (fun sz9 => ?_)
    refine x_catch (name := "java/lang/IllegalStateException") [] (0, 8, 11, 21) [] rfl hp0 (by decide) (by decide) wd_864 wd_875 (fun q9 => ?_)
    refine r_astore_n dL_undo_11 (by decide) rfl ?_
    refine r_iconst (v := (1 : Int32)) dL_undo_12 (by decide) ?_
    exact r_iret dL_undo_13 rfl (Nat.le_of_ble_eq_true rfl) (Nat.le_of_ble_eq_true rfl) ⟨rfl, rfl⟩
set_option maxHeartbeats 4000000 in
set_option maxRecDepth 100000 in
theorem wo_save {G : gG} {lay : Nat → Nat × Nat} {T0 T1 : Nat} {Dd : Nat → Nat → UInt64} {I : gI} {J : gJ} {K : gI} {N : gJ} {sz n : Nat} {a1 : Int32} (hs : G.1.stackTraces = false) (hE : gLay lay) (hT0 : gTank lay T0) (hT1 : gTank lay T1) {v : Int32 × gI} (hf : F_X9_save n T0 T1 I a1 = some (.inr v)) : gCt G mL_save [.ref (G.2.2.1 + 0), .int a1, .ref (G.2.2.1 + 170)] (fO G (lay, T0, T1, Dd) I J K N) sz (gR (some (.int 0)) (fO G (lay, T0, T1, Dd) v.2 (sJ J 170 0 (v.1).toInt64) K N) sz) := by
  refine gCt.ofH [some (.ref (G.2.2.1 + 0)), some (.int a1), some (.ref (G.2.2.1 + 170)), none] (h0 := (0, 9, 12, 21)) (ht := [(0, 9, 15, 13)]) (by decide +kernel) rfl hs rfl (Nat.le_of_ble_eq_true rfl) ?_
  refine r_aload_n dL_save_0 rfl ?_
  refine r_iconst (v := (0 : Int32)) dL_save_1 (by decide) ?_
  refine r_aload_n dL_save_2 rfl ?_
  refine r_iload_n dL_save_3 rfl ?_
  refine r_cVi (rest := [.int 0, .ref (G.2.2.1 + 170)]) (ct_X9_save hs hE hT0 hT1 hf) dL_save_4 wd_1499 zX9_save wd_1500 wd_1501 rfl rfl rfl (fo9 (hE 0 (by decide))) rfl rfl ⟨Nat.le_of_ble_eq_true rfl, Nat.le_of_ble_eq_true rfl⟩ (Nat.le_of_ble_eq_true rfl) ⟨Nat.le_of_ble_eq_true rfl, Nat.le_of_ble_eq_true rfl⟩ ?_
  refine r_i2l dL_save_7 ?_
  refine a_lastc 0 dL_save_8 (hE 170 (by decide)) (vpc rfl) rfl ?_
  refine r_goto (tgt := 18) dL_save_9 (by decide) ?_
  refine r_iconst (v := (0 : Int32)) dL_save_18 (by decide) ?_
  exact r_iret dL_save_19 rfl (Nat.le_of_ble_eq_true rfl) (Nat.le_of_ble_eq_true rfl) ⟨rfl, rfl, rfl⟩
set_option maxHeartbeats 4000000 in
set_option maxRecDepth 100000 in
theorem we_save {G : gG} {lay : Nat → Nat × Nat} {T0 T1 : Nat} {Dd : Nat → Nat → UInt64} {I : gI} {J : gJ} {K : gI} {N : gJ} {sz n : Nat} {a1 : Int32} (hs : G.1.stackTraces = false) (hE : gLay lay) (hT0 : gTank lay T0) (hT1 : gTank lay T1) {E : String} (hf : F_X9_save n T0 T1 I a1 = some (.inl E)) : gCt G mL_save [.ref (G.2.2.1 + 0), .int a1, .ref (G.2.2.1 + 170)] (fO G (lay, T0, T1, Dd) I J K N) sz (gVs (.int (thA E)) (fO G (lay, T0, T1, Dd) I J K N)) := by
  have hS := xsF_X9_save (S := fun e => e = ISE ∨ e = IOB) _ _ _ _ _ (Or.inl rfl) (Or.inr (rfl)) E hf
  refine gCt.ofH [some (.ref (G.2.2.1 + 0)), some (.int a1), some (.ref (G.2.2.1 + 170)), none] (h0 := (0, 9, 12, 21)) (ht := [(0, 9, 15, 13)]) (by decide +kernel) rfl hs rfl (Nat.le_of_ble_eq_true rfl) ?_
  refine r_aload_n dL_save_0 rfl ?_
  refine r_iconst (v := (0 : Int32)) dL_save_1 (by decide) ?_
  refine r_aload_n dL_save_2 rfl ?_
  refine r_iload_n dL_save_3 rfl ?_
  rcases hS with rfl | rfl
  · refine r_callVX (rest := [.int 0, .ref (G.2.2.1 + 170)]) (ct_X9_save hs hE hT0 hT1 hf) dL_save_4 wd_1499 zX9_save wd_1500 wd_1501 rfl rfl rfl (fo9 (hE 0 (by decide))) rfl rfl ⟨Nat.le_of_ble_eq_true rfl, Nat.le_of_ble_eq_true rfl⟩ (Nat.le_of_ble_eq_true rfl) ⟨Nat.le_of_ble_eq_true rfl, Nat.le_of_ble_eq_true rfl⟩ (fun sz9 => ?_)
    refine x_catch (name := "java/lang/IllegalStateException") [] (0, 9, 12, 21) [(0, 9, 15, 13)] rfl hp0 (by decide) (by decide) wd_864 wd_875 (fun q9 => ?_)
    refine r_astore_n dL_save_12 (by decide) rfl ?_
    refine r_iconst (v := (1 : Int32)) dL_save_13 (by decide) ?_
    exact r_iret dL_save_14 rfl (Nat.le_of_ble_eq_true rfl) (Nat.le_of_ble_eq_true rfl) ⟨rfl, rfl⟩
  · refine r_callVX (rest := [.int 0, .ref (G.2.2.1 + 170)]) (ct_X9_save hs hE hT0 hT1 hf) dL_save_4 wd_1499 zX9_save wd_1500 wd_1501 rfl rfl rfl (fo9 (hE 0 (by decide))) rfl rfl ⟨Nat.le_of_ble_eq_true rfl, Nat.le_of_ble_eq_true rfl⟩ (Nat.le_of_ble_eq_true rfl) ⟨Nat.le_of_ble_eq_true rfl, Nat.le_of_ble_eq_true rfl⟩ (fun sz9 => ?_)
    refine x_catch (name := "java/lang/IndexOutOfBoundsException") [(0, 9, 12, 21)] (0, 9, 15, 13) [] rfl (hp1 (Or.inr ⟨by decide, "java/lang/IllegalStateException", wd_864, nc_12⟩)) (by decide) (by decide) wd_524 wd_532 (fun q9 => ?_)
    refine r_astore_n dL_save_15 (by decide) rfl ?_
    refine r_iconst (v := (2 : Int32)) dL_save_16 (by decide) ?_
    exact r_iret dL_save_17 rfl (Nat.le_of_ble_eq_true rfl) (Nat.le_of_ble_eq_true rfl) ⟨rfl, rfl⟩
set_option maxHeartbeats 4000000 in
set_option maxRecDepth 100000 in
theorem wo_restore {G : gG} {lay : Nat → Nat × Nat} {T0 T1 : Nat} {Dd : Nat → Nat → UInt64} {I : gI} {J : gJ} {K : gI} {N : gJ} {sz n : Nat} {a1 : Int32} (hs : G.1.stackTraces = false) (hE : gLay lay) (hT0 : gTank lay T0) (hT1 : gTank lay T1) {v : Int32 × gI} (hf : F_X9_restore n T0 T1 I a1 = some (.inr v)) : gCt G mL_restore [.ref (G.2.2.1 + 0), .int a1, .ref (G.2.2.1 + 170)] (fO G (lay, T0, T1, Dd) I J K N) sz (gR (some (.int 0)) (fO G (lay, T0, T1, Dd) v.2 (sJ J 170 0 (v.1).toInt64) K N) sz) := by
  refine gCt.ofH [some (.ref (G.2.2.1 + 0)), some (.int a1), some (.ref (G.2.2.1 + 170)), none] (h0 := (0, 9, 12, 13)) (ht := [(0, 9, 15, 21)]) (by decide +kernel) rfl hs rfl (Nat.le_of_ble_eq_true rfl) ?_
  refine r_aload_n dL_restore_0 rfl ?_
  refine r_iconst (v := (0 : Int32)) dL_restore_1 (by decide) ?_
  refine r_aload_n dL_restore_2 rfl ?_
  refine r_iload_n dL_restore_3 rfl ?_
  refine r_cVi (rest := [.int 0, .ref (G.2.2.1 + 170)]) (ct_X9_restore hs hE hT0 hT1 hf) dL_restore_4 wd_1510 zX9_restore wd_1511 wd_1512 rfl rfl rfl (fo9 (hE 0 (by decide))) rfl rfl ⟨Nat.le_of_ble_eq_true rfl, Nat.le_of_ble_eq_true rfl⟩ (Nat.le_of_ble_eq_true rfl) ⟨Nat.le_of_ble_eq_true rfl, Nat.le_of_ble_eq_true rfl⟩ ?_
  refine r_i2l dL_restore_7 ?_
  refine a_lastc 0 dL_restore_8 (hE 170 (by decide)) (vpc rfl) rfl ?_
  refine r_goto (tgt := 18) dL_restore_9 (by decide) ?_
  refine r_iconst (v := (0 : Int32)) dL_restore_18 (by decide) ?_
  exact r_iret dL_restore_19 rfl (Nat.le_of_ble_eq_true rfl) (Nat.le_of_ble_eq_true rfl) ⟨rfl, rfl, rfl⟩
set_option maxHeartbeats 4000000 in
set_option maxRecDepth 100000 in
theorem we_restore {G : gG} {lay : Nat → Nat × Nat} {T0 T1 : Nat} {Dd : Nat → Nat → UInt64} {I : gI} {J : gJ} {K : gI} {N : gJ} {sz n : Nat} {a1 : Int32} (hs : G.1.stackTraces = false) (hE : gLay lay) (hT0 : gTank lay T0) (hT1 : gTank lay T1) {E : String} (hf : F_X9_restore n T0 T1 I a1 = some (.inl E)) : gCt G mL_restore [.ref (G.2.2.1 + 0), .int a1, .ref (G.2.2.1 + 170)] (fO G (lay, T0, T1, Dd) I J K N) sz (gVs (.int (thE E)) (fO G (lay, T0, T1, Dd) I J K N)) := by
  have hS := xsF_X9_restore (S := fun e => e = IOB ∨ e = ISE) _ _ _ _ _ (Or.inr (rfl)) (Or.inl rfl) E hf
  refine gCt.ofH [some (.ref (G.2.2.1 + 0)), some (.int a1), some (.ref (G.2.2.1 + 170)), none] (h0 := (0, 9, 12, 13)) (ht := [(0, 9, 15, 21)]) (by decide +kernel) rfl hs rfl (Nat.le_of_ble_eq_true rfl) ?_
  refine r_aload_n dL_restore_0 rfl ?_
  refine r_iconst (v := (0 : Int32)) dL_restore_1 (by decide) ?_
  refine r_aload_n dL_restore_2 rfl ?_
  refine r_iload_n dL_restore_3 rfl ?_
  rcases hS with rfl | rfl
  · refine r_callVX (rest := [.int 0, .ref (G.2.2.1 + 170)]) (ct_X9_restore hs hE hT0 hT1 hf) dL_restore_4 wd_1510 zX9_restore wd_1511 wd_1512 rfl rfl rfl (fo9 (hE 0 (by decide))) rfl rfl ⟨Nat.le_of_ble_eq_true rfl, Nat.le_of_ble_eq_true rfl⟩ (Nat.le_of_ble_eq_true rfl) ⟨Nat.le_of_ble_eq_true rfl, Nat.le_of_ble_eq_true rfl⟩ (fun sz9 => ?_)
    refine x_catch (name := "java/lang/IndexOutOfBoundsException") [] (0, 9, 12, 13) [(0, 9, 15, 21)] rfl hp0 (by decide) (by decide) wd_524 wd_532 (fun q9 => ?_)
    refine r_astore_n dL_restore_12 (by decide) rfl ?_
    refine r_iconst (v := (1 : Int32)) dL_restore_13 (by decide) ?_
    exact r_iret dL_restore_14 rfl (Nat.le_of_ble_eq_true rfl) (Nat.le_of_ble_eq_true rfl) ⟨rfl, rfl⟩
  · refine r_callVX (rest := [.int 0, .ref (G.2.2.1 + 170)]) (ct_X9_restore hs hE hT0 hT1 hf) dL_restore_4 wd_1510 zX9_restore wd_1511 wd_1512 rfl rfl rfl (fo9 (hE 0 (by decide))) rfl rfl ⟨Nat.le_of_ble_eq_true rfl, Nat.le_of_ble_eq_true rfl⟩ (Nat.le_of_ble_eq_true rfl) ⟨Nat.le_of_ble_eq_true rfl, Nat.le_of_ble_eq_true rfl⟩ (fun sz9 => ?_)
    refine x_catch (name := "java/lang/IllegalStateException") [(0, 9, 12, 13)] (0, 9, 15, 21) [] rfl (hp1 (Or.inr ⟨by decide, "java/lang/IndexOutOfBoundsException", wd_524, nc_21⟩)) (by decide) (by decide) wd_864 wd_875 (fun q9 => ?_)
    refine r_astore_n dL_restore_15 (by decide) rfl ?_
    refine r_iconst (v := (2 : Int32)) dL_restore_16 (by decide) ?_
    exact r_iret dL_restore_17 rfl (Nat.le_of_ble_eq_true rfl) (Nat.le_of_ble_eq_true rfl) ⟨rfl, rfl⟩
