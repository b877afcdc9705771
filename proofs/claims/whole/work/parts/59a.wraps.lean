/-! the wrappers of the law -/
set_option maxHeartbeats 4000000 in
set_option maxRecDepth 100000 in
theorem wo_wall {G : gG} {lay : Nat → Nat × Nat} {T0 T1 : Nat} {Dd : Nat → Nat → UInt64} {I : gI} {J : gJ} {K : gI} {N : gJ} {sz n : Nat}  (hs : G.1.stackTraces = false) (hE : gLay lay) (hT0 : gTank lay T0) (hT1 : gTank lay T1) {v : Int32} (hf : F_X9_wall n T0 T1 I = some (.inr v)) : gCt G mL_wall [.ref (G.2.2.1 + 0), .ref (G.2.2.1 + 170)] (fO G (lay, T0, T1, Dd) I J K N) sz (gR (some (.int 0)) (fO G (lay, T0, T1, Dd) I (sJ J 170 0 (v).toInt64) K N) sz) := by
  refine gCt.ofH [some (.ref (G.2.2.1 + 0)), some (.ref (G.2.2.1 + 170)), none] (h0 := (0, 8, 11, 21)) (ht := []) (by decide +kernel) rfl hs rfl (Nat.le_of_ble_eq_true rfl) ?_
  refine r_aload_n dL_wall_0 rfl ?_
  refine r_iconst (v := (0 : Int32)) dL_wall_1 (by decide) ?_
  refine r_aload_n dL_wall_2 rfl ?_
  refine r_cVi (rest := [.int 0, .ref (G.2.2.1 + 170)]) (ct_X9_wall hs hE hT0 hT1 hf) dL_wall_3 wd_865 zX9_wall wd_866 wd_867 rfl rfl rfl (fo9 (hE 0 (by decide))) rfl rfl ⟨Nat.le_of_ble_eq_true rfl, Nat.le_of_ble_eq_true rfl⟩ (Nat.le_of_ble_eq_true rfl) ⟨Nat.le_of_ble_eq_true rfl, Nat.le_of_ble_eq_true rfl⟩ ?_
  refine r_i2l dL_wall_6 ?_
  refine a_lastc 0 dL_wall_7 (hE 170 (by decide)) (vpc rfl) rfl ?_
  refine r_goto (tgt := 14) dL_wall_8 (by decide) ?_
  refine r_iconst (v := (0 : Int32)) dL_wall_14 (by decide) ?_
  exact r_iret dL_wall_15 rfl (Nat.le_of_ble_eq_true rfl) (Nat.le_of_ble_eq_true rfl) ⟨rfl, rfl, rfl⟩
set_option maxHeartbeats 4000000 in
set_option maxRecDepth 100000 in
theorem we_wall {G : gG} {lay : Nat → Nat × Nat} {T0 T1 : Nat} {Dd : Nat → Nat → UInt64} {I : gI} {J : gJ} {K : gI} {N : gJ} {sz n : Nat}  (hs : G.1.stackTraces = false) (hE : gLay lay) (hT0 : gTank lay T0) (hT1 : gTank lay T1) {E : String} (hf : F_X9_wall n T0 T1 I = some (.inl E)) : gCt G mL_wall [.ref (G.2.2.1 + 0), .ref (G.2.2.1 + 170)] (fO G (lay, T0, T1, Dd) I J K N) sz (gVs (.int (thA E)) (fO G (lay, T0, T1, Dd) I J K N)) := by
  have hS := xsF_X9_wall (S := fun e => e = ISE) _ _ _ _ (rfl) E hf
  refine gCt.ofH [some (.ref (G.2.2.1 + 0)), some (.ref (G.2.2.1 + 170)), none] (h0 := (0, 8, 11, 21)) (ht := []) (by decide +kernel) rfl hs rfl (Nat.le_of_ble_eq_true rfl) ?_
  refine r_aload_n dL_wall_0 rfl ?_
  refine r_iconst (v := (0 : Int32)) dL_wall_1 (by decide) ?_
  refine r_aload_n dL_wall_2 rfl ?_
  rcases hS with rfl
  · refine r_callVX (rest := [.int 0, .ref (G.2.2.1 + 170)]) (ct_X9_wall hs hE hT0 hT1 hf) dL_wall_3 wd_865 zX9_wall wd_866 wd_867 rfl rfl rfl (fo9 (hE 0 (by decide))) rfl rfl ⟨Nat.le_of_ble_eq_true rfl, Nat.le_of_ble_eq_true rfl⟩ (Nat.le_of_ble_eq_true rfl) ⟨Nat.le_of_ble_eq_true rfl, Nat.le_of_ble_eq_true rfl⟩ (fun sz9 => ?_)
    refine x_catch (name := "java/lang/IllegalStateException") [] (0, 8, 11, 21) [] rfl hp0 (by decide) (by decide) wd_864 wd_875 (fun q9 => ?_)
    refine r_astore_n dL_wall_11 (by decide) rfl ?_
    refine r_iconst (v := (1 : Int32)) dL_wall_12 (by decide) ?_
    exact r_iret dL_wall_13 rfl (Nat.le_of_ble_eq_true rfl) (Nat.le_of_ble_eq_true rfl) ⟨rfl, rfl⟩
set_option maxHeartbeats 4000000 in
set_option maxRecDepth 100000 in
theorem wo_openRows {G : gG} {lay : Nat → Nat × Nat} {T0 T1 : Nat} {Dd : Nat → Nat → UInt64} {I : gI} {J : gJ} {K : gI} {N : gJ} {sz n : Nat}  (hs : G.1.stackTraces = false) (hE : gLay lay) (hT0 : gTank lay T0) (hT1 : gTank lay T1) {v : Int32} (hf : F_X9_openRows n T0 T1 I = some (.inr v)) : gCt G mL_openRows [.ref (G.2.2.1 + 0), .ref (G.2.2.1 + 170)] (fO G (lay, T0, T1, Dd) I J K N) sz (gR (some (.int 0)) (fO G (lay, T0, T1, Dd) I (sJ J 170 0 (v).toInt64) K N) sz) := by
  refine gCt.ofH [some (.ref (G.2.2.1 + 0)), some (.ref (G.2.2.1 + 170)), none] (h0 := (0, 8, 11, 21)) (ht := []) (by decide +kernel) rfl hs rfl (Nat.le_of_ble_eq_true rfl) ?_
  refine r_aload_n dL_openRows_0 rfl ?_
  refine r_iconst (v := (0 : Int32)) dL_openRows_1 (by decide) ?_
  refine r_aload_n dL_openRows_2 rfl ?_
  refine r_cVi (rest := [.int 0, .ref (G.2.2.1 + 170)]) (ct_X9_openRows hs hE hT0 hT1 hf) dL_openRows_3 wd_892 zX9_openRows wd_893 wd_894 rfl rfl rfl (fo9 (hE 0 (by decide))) rfl rfl ⟨Nat.le_of_ble_eq_true rfl, Nat.le_of_ble_eq_true rfl⟩ (Nat.le_of_ble_eq_true rfl) ⟨Nat.le_of_ble_eq_true rfl, Nat.le_of_ble_eq_true rfl⟩ ?_
  refine r_i2l dL_openRows_6 ?_
  refine a_lastc 0 dL_openRows_7 (hE 170 (by decide)) (vpc rfl) rfl ?_
  refine r_goto (tgt := 14) dL_openRows_8 (by decide) ?_
  refine r_iconst (v := (0 : Int32)) dL_openRows_14 (by decide) ?_
  exact r_iret dL_openRows_15 rfl (Nat.le_of_ble_eq_true rfl) (Nat.le_of_ble_eq_true rfl) ⟨rfl, rfl, rfl⟩
set_option maxHeartbeats 4000000 in
set_option maxRecDepth 100000 in
theorem we_openRows {G : gG} {lay : Nat → Nat × Nat} {T0 T1 : Nat} {Dd : Nat → Nat → UInt64} {I : gI} {J : gJ} {K : gI} {N : gJ} {sz n : Nat}  (hs : G.1.stackTraces = false) (hE : gLay lay) (hT0 : gTank lay T0) (hT1 : gTank lay T1) {E : String} (hf : F_X9_openRows n T0 T1 I = some (.inl E)) : gCt G mL_openRows [.ref (G.2.2.1 + 0), .ref (G.2.2.1 + 170)] (fO G (lay, T0, T1, Dd) I J K N) sz (gVs (.int (thA E)) (fO G (lay, T0, T1, Dd) I J K N)) := by
  have hS := xsF_X9_openRows (S := fun e => e = ISE) _ _ _ _ (rfl) E hf
  refine gCt.ofH [some (.ref (G.2.2.1 + 0)), some (.ref (G.2.2.1 + 170)), none] (h0 := (0, 8, 11, 21)) (ht := []) (by decide +kernel) rfl hs rfl (Nat.le_of_ble_eq_true rfl) ?_
  refine r_aload_n dL_openRows_0 rfl ?_
  refine r_iconst (v := (0 : Int32)) dL_openRows_1 (by decide) ?_
  refine r_aload_n dL_openRows_2 rfl ?_
  rcases hS with rfl
  · refine r_callVX (rest := [.int 0, .ref (G.2.2.1 + 170)]) (ct_X9_openRows hs hE hT0 hT1 hf) dL_openRows_3 wd_892 zX9_openRows wd_893 wd_894 rfl rfl rfl (fo9 (hE 0 (by decide))) rfl rfl ⟨Nat.le_of_ble_eq_true rfl, Nat.le_of_ble_eq_true rfl⟩ (Nat.le_of_ble_eq_true rfl) ⟨Nat.le_of_ble_eq_true rfl, Nat.le_of_ble_eq_true rfl⟩ (fun sz9 => ?_)
    refine x_catch (name := "java/lang/IllegalStateException") [] (0, 8, 11, 21) [] rfl hp0 (by decide) (by decide) wd_864 wd_875 (fun q9 => ?_)
    refine r_astore_n dL_openRows_11 (by decide) rfl ?_
    refine r_iconst (v := (1 : Int32)) dL_openRows_12 (by decide) ?_
    exact r_iret dL_openRows_13 rfl (Nat.le_of_ble_eq_true rfl) (Nat.le_of_ble_eq_true rfl) ⟨rfl, rfl⟩
set_option maxHeartbeats 4000000 in
set_option maxRecDepth 100000 in
theorem wo_isOpen {G : gG} {lay : Nat → Nat × Nat} {T0 T1 : Nat} {Dd : Nat → Nat → UInt64} {I : gI} {J : gJ} {K : gI} {N : gJ} {sz n : Nat} {a1 : Int32} (hs : G.1.stackTraces = false) (hE : gLay lay) (hT0 : gTank lay T0) (hT1 : gTank lay T1) {v : Int32} (hf : F_X9_isOpen n T0 T1 I a1 = some (.inr v)) : gCt G mL_isOpen [.ref (G.2.2.1 + 0), .int a1, .ref (G.2.2.1 + 170)] (fO G (lay, T0, T1, Dd) I J K N) sz (gR (some (.int 0)) (fO G (lay, T0, T1, Dd) I (sJ J 170 0 (if v = 0 then 0 else 1 : Int64)) K N) sz) := by
  refine gCt.ofH [some (.ref (G.2.2.1 + 0)), some (.int a1), some (.ref (G.2.2.1 + 170)), none] (h0 := (0, 16, 19, 21)) (ht := [(0, 16, 22, 13)]) (by decide +kernel) rfl hs rfl (Nat.le_of_ble_eq_true rfl) ?_
  refine r_aload_n dL_isOpen_0 rfl ?_
  refine r_iconst (v := (0 : Int32)) dL_isOpen_1 (by decide) ?_
  refine r_aload_n dL_isOpen_2 rfl ?_
  refine r_iload_n dL_isOpen_3 rfl ?_
  refine r_cVi (rest := [.int 0, .ref (G.2.2.1 + 170)]) (ct_X9_isOpen hs hE hT0 hT1 hf) dL_isOpen_4 wd_899 zX9_isOpen wd_900 wd_901 rfl rfl rfl (fo9 (hE 0 (by decide))) rfl rfl ⟨Nat.le_of_ble_eq_true rfl, Nat.le_of_ble_eq_true rfl⟩ (Nat.le_of_ble_eq_true rfl) ⟨Nat.le_of_ble_eq_true rfl, Nat.le_of_ble_eq_true rfl⟩ ?_
  refine r_if_eq (tgt := 14) dL_isOpen_7 (by decide) (fun c => ?_) (fun c => ?_)
  · refine r_lconst (v := (0 : Int64)) dL_isOpen_14 (by decide) ?_
    refine a_lastc 0 dL_isOpen_15 (hE 170 (by decide)) (vpc rfl) rfl ?_
    refine r_goto (tgt := 25) dL_isOpen_16 (by decide) ?_
    refine r_iconst (v := (0 : Int32)) dL_isOpen_25 (by decide) ?_
    exact r_iret dL_isOpen_26 rfl (Nat.le_of_ble_eq_true rfl) (Nat.le_of_ble_eq_true rfl) ⟨rfl, by rw [if_pos c], rfl⟩
  · refine r_lconst (v := (1 : Int64)) dL_isOpen_10 (by decide) ?_
    refine r_goto (tgt := 15) dL_isOpen_11 (by decide) ?_
    refine a_lastc 0 dL_isOpen_15 (hE 170 (by decide)) (vpc rfl) rfl ?_
    refine r_goto (tgt := 25) dL_isOpen_16 (by decide) ?_
    refine r_iconst (v := (0 : Int32)) dL_isOpen_25 (by decide) ?_
    exact r_iret dL_isOpen_26 rfl (Nat.le_of_ble_eq_true rfl) (Nat.le_of_ble_eq_true rfl) ⟨rfl, by rw [if_neg c], rfl⟩
set_option maxHeartbeats 4000000 in
set_option maxRecDepth 100000 in
theorem we_isOpen {G : gG} {lay : Nat → Nat × Nat} {T0 T1 : Nat} {Dd : Nat → Nat → UInt64} {I : gI} {J : gJ} {K : gI} {N : gJ} {sz n : Nat} {a1 : Int32} (hs : G.1.stackTraces = false) (hE : gLay lay) (hT0 : gTank lay T0) (hT1 : gTank lay T1) {E : String} (hf : F_X9_isOpen n T0 T1 I a1 = some (.inl E)) : gCt G mL_isOpen [.ref (G.2.2.1 + 0), .int a1, .ref (G.2.2.1 + 170)] (fO G (lay, T0, T1, Dd) I J K N) sz (gVs (.int (thA E)) (fO G (lay, T0, T1, Dd) I J K N)) := by
  have hS := xsF_X9_isOpen (S := fun e => e = ISE ∨ e = IOB) _ _ _ _ _ (Or.inl rfl) (Or.inr (rfl)) E hf
  refine gCt.ofH [some (.ref (G.2.2.1 + 0)), some (.int a1), some (.ref (G.2.2.1 + 170)), none] (h0 := (0, 16, 19, 21)) (ht := [(0, 16, 22, 13)]) (by decide +kernel) rfl hs rfl (Nat.le_of_ble_eq_true rfl) ?_
  refine r_aload_n dL_isOpen_0 rfl ?_
  refine r_iconst (v := (0 : Int32)) dL_isOpen_1 (by decide) ?_
  refine r_aload_n dL_isOpen_2 rfl ?_
  refine r_iload_n dL_isOpen_3 rfl ?_
  rcases hS with rfl | rfl
  · refine r_callVX (rest := [.int 0, .ref (G.2.2.1 + 170)]) (ct_X9_isOpen hs hE hT0 hT1 hf) dL_isOpen_4 wd_899 zX9_isOpen wd_900 wd_901 rfl rfl rfl (fo9 (hE 0 (by decide))) rfl rfl ⟨Nat.le_of_ble_eq_true rfl, Nat.le_of_ble_eq_true rfl⟩ (Nat.le_of_ble_eq_true rfl) ⟨Nat.le_of_ble_eq_true rfl, Nat.le_of_ble_eq_true rfl⟩ (fun sz9 => ?_)
    refine x_catch (name := "java/lang/IllegalStateException") [] (0, 16, 19, 21) [(0, 16, 22, 13)] rfl hp0 (by decide) (by decide) wd_864 wd_875 (fun q9 => ?_)
    refine r_astore_n dL_isOpen_19 (by decide) rfl ?_
    refine r_iconst (v := (1 : Int32)) dL_isOpen_20 (by decide) ?_
    exact r_iret dL_isOpen_21 rfl (Nat.le_of_ble_eq_true rfl) (Nat.le_of_ble_eq_true rfl) ⟨rfl, rfl⟩
  · refine r_callVX (rest := [.int 0, .ref (G.2.2.1 + 170)]) (ct_X9_isOpen hs hE hT0 hT1 hf) dL_isOpen_4 wd_899 zX9_isOpen wd_900 wd_901 rfl rfl rfl (fo9 (hE 0 (by decide))) rfl rfl ⟨Nat.le_of_ble_eq_true rfl, Nat.le_of_ble_eq_true rfl⟩ (Nat.le_of_ble_eq_true rfl) ⟨Nat.le_of_ble_eq_true rfl, Nat.le_of_ble_eq_true rfl⟩ (fun sz9 => ?_)
    refine x_catch (name := "java/lang/IndexOutOfBoundsException") [(0, 16, 19, 21)] (0, 16, 22, 13) [] rfl (hp1 (Or.inr ⟨by decide, "java/lang/IllegalStateException", wd_864, nc_12⟩)) (by decide) (by decide) wd_524 wd_532 (fun q9 => ?_)
    refine r_astore_n dL_isOpen_22 (by decide) rfl ?_
    refine r_iconst (v := (2 : Int32)) dL_isOpen_23 (by decide) ?_
    exact r_iret dL_isOpen_24 rfl (Nat.le_of_ble_eq_true rfl) (Nat.le_of_ble_eq_true rfl) ⟨rfl, rfl⟩
set_option maxHeartbeats 4000000 in
set_option maxRecDepth 100000 in
theorem wo_sourceAt {G : gG} {lay : Nat → Nat × Nat} {T0 T1 : Nat} {Dd : Nat → Nat → UInt64} {I : gI} {J : gJ} {K : gI} {N : gJ} {sz n : Nat} {a1 : Int32} {a2 : Int32} {a3 : Int32} (hs : G.1.stackTraces = false) (hE : gLay lay) (hT0 : gTank lay T0) (hT1 : gTank lay T1) {v : Int32} (hf : F_X9_sourceAt n T0 T1 I a1 a2 a3 = some (.inr v)) : gCt G mL_sourceAt [.ref (G.2.2.1 + 0), .int a1, .int a2, .int a3, .ref (G.2.2.1 + 170)] (fO G (lay, T0, T1, Dd) I J K N) sz (gR (some (.int 0)) (fO G (lay, T0, T1, Dd) I (sJ J 170 0 (v).toInt64) K N) sz) := by
  refine gCt.ofH [some (.ref (G.2.2.1 + 0)), some (.int a1), some (.int a2), some (.int a3), some (.ref (G.2.2.1 + 170)), none] (h0 := (0, 12, 15, 21)) (ht := [(0, 12, 19, 13), (0, 12, 23, 15)]) (by decide +kernel) rfl hs rfl (Nat.le_of_ble_eq_true rfl) ?_
  refine r_aload dL_sourceAt_0 rfl ?_
  refine r_iconst (v := (0 : Int32)) dL_sourceAt_2 (by decide) ?_
  refine r_aload_n dL_sourceAt_3 rfl ?_
  refine r_iload_n dL_sourceAt_4 rfl ?_
  refine r_iload_n dL_sourceAt_5 rfl ?_
  refine r_iload_n dL_sourceAt_6 rfl ?_
  refine r_cVi (rest := [.int 0, .ref (G.2.2.1 + 170)]) (ct_X9_sourceAt hs hE hT0 hT1 hf) dL_sourceAt_7 wd_915 zX9_sourceAt wd_916 wd_917 rfl rfl rfl (fo9 (hE 0 (by decide))) rfl rfl ⟨Nat.le_of_ble_eq_true rfl, Nat.le_of_ble_eq_true rfl⟩ (Nat.le_of_ble_eq_true rfl) ⟨Nat.le_of_ble_eq_true rfl, Nat.le_of_ble_eq_true rfl⟩ ?_
  refine r_i2l dL_sourceAt_10 ?_
  refine a_lastc 0 dL_sourceAt_11 (hE 170 (by decide)) (vpc rfl) rfl ?_
  refine r_goto (tgt := 27) dL_sourceAt_12 (by decide) ?_
  refine r_iconst (v := (0 : Int32)) dL_sourceAt_27 (by decide) ?_
  exact r_iret dL_sourceAt_28 rfl (Nat.le_of_ble_eq_true rfl) (Nat.le_of_ble_eq_true rfl) ⟨rfl, rfl, rfl⟩
set_option maxHeartbeats 4000000 in
set_option maxRecDepth 100000 in
theorem we_sourceAt {G : gG} {lay : Nat → Nat × Nat} {T0 T1 : Nat} {Dd : Nat → Nat → UInt64} {I : gI} {J : gJ} {K : gI} {N : gJ} {sz n : Nat} {a1 : Int32} {a2 : Int32} {a3 : Int32} (hs : G.1.stackTraces = false) (hE : gLay lay) (hT0 : gTank lay T0) (hT1 : gTank lay T1) {E : String} (hf : F_X9_sourceAt n T0 T1 I a1 a2 a3 = some (.inl E)) : gCt G mL_sourceAt [.ref (G.2.2.1 + 0), .int a1, .int a2, .int a3, .ref (G.2.2.1 + 170)] (fO G (lay, T0, T1, Dd) I J K N) sz (gVs (.int (thA E)) (fO G (lay, T0, T1, Dd) I J K N)) := by
  have hS := xsF_X9_sourceAt (S := fun e => e = ISE ∨ e = IOB ∨ e = IAE) _ _ _ _ _ _ _ (Or.inl rfl) (Or.inr (Or.inl rfl)) (Or.inr (Or.inr (rfl))) E hf
  refine gCt.ofH [some (.ref (G.2.2.1 + 0)), some (.int a1), some (.int a2), some (.int a3), some (.ref (G.2.2.1 + 170)), none] (h0 := (0, 12, 15, 21)) (ht := [(0, 12, 19, 13), (0, 12, 23, 15)]) (by decide +kernel) rfl hs rfl (Nat.le_of_ble_eq_true rfl) ?_
  refine r_aload dL_sourceAt_0 rfl ?_
  refine r_iconst (v := (0 : Int32)) dL_sourceAt_2 (by decide) ?_
  refine r_aload_n dL_sourceAt_3 rfl ?_
  refine r_iload_n dL_sourceAt_4 rfl ?_
  refine r_iload_n dL_sourceAt_5 rfl ?_
  refine r_iload_n dL_sourceAt_6 rfl ?_
  rcases hS with rfl | rfl | rfl
  · refine r_callVX (rest := [.int 0, .ref (G.2.2.1 + 170)]) (ct_X9_sourceAt hs hE hT0 hT1 hf) dL_sourceAt_7 wd_915 zX9_sourceAt wd_916 wd_917 rfl rfl rfl (fo9 (hE 0 (by decide))) rfl rfl ⟨Nat.le_of_ble_eq_true rfl, Nat.le_of_ble_eq_true rfl⟩ (Nat.le_of_ble_eq_true rfl) ⟨Nat.le_of_ble_eq_true rfl, Nat.le_of_ble_eq_true rfl⟩ (fun sz9 => ?_)
    refine x_catch (name := "java/lang/IllegalStateException") [] (0, 12, 15, 21) [(0, 12, 19, 13), (0, 12, 23, 15)] rfl hp0 (by decide) (by decide) wd_864 wd_875 (fun q9 => ?_)
    refine r_astore dL_sourceAt_15 (by decide) rfl ?_
    refine r_iconst (v := (1 : Int32)) dL_sourceAt_17 (by decide) ?_
    exact r_iret dL_sourceAt_18 rfl (Nat.le_of_ble_eq_true rfl) (Nat.le_of_ble_eq_true rfl) ⟨rfl, rfl⟩
  · refine r_callVX (rest := [.int 0, .ref (G.2.2.1 + 170)]) (ct_X9_sourceAt hs hE hT0 hT1 hf) dL_sourceAt_7 wd_915 zX9_sourceAt wd_916 wd_917 rfl rfl rfl (fo9 (hE 0 (by decide))) rfl rfl ⟨Nat.le_of_ble_eq_true rfl, Nat.le_of_ble_eq_true rfl⟩ (Nat.le_of_ble_eq_true rfl) ⟨Nat.le_of_ble_eq_true rfl, Nat.le_of_ble_eq_true rfl⟩ (fun sz9 => ?_)
    refine x_catch (name := "java/lang/IndexOutOfBoundsException") [(0, 12, 15, 21)] (0, 12, 19, 13) [(0, 12, 23, 15)] rfl (hp1 (Or.inr ⟨by decide, "java/lang/IllegalStateException", wd_864, nc_12⟩)) (by decide) (by decide) wd_524 wd_532 (fun q9 => ?_)
    refine r_astore dL_sourceAt_19 (by decide) rfl ?_
    refine r_iconst (v := (2 : Int32)) dL_sourceAt_21 (by decide) ?_
    exact r_iret dL_sourceAt_22 rfl (Nat.le_of_ble_eq_true rfl) (Nat.le_of_ble_eq_true rfl) ⟨rfl, rfl⟩
  · refine r_callVX (rest := [.int 0, .ref (G.2.2.1 + 170)]) (ct_X9_sourceAt hs hE hT0 hT1 hf) dL_sourceAt_7 wd_915 zX9_sourceAt wd_916 wd_917 rfl rfl rfl (fo9 (hE 0 (by decide))) rfl rfl ⟨Nat.le_of_ble_eq_true rfl, Nat.le_of_ble_eq_true rfl⟩ (Nat.le_of_ble_eq_true rfl) ⟨Nat.le_of_ble_eq_true rfl, Nat.le_of_ble_eq_true rfl⟩ (fun sz9 => ?_)
    refine x_catch (name := "java/lang/IllegalArgumentException") [(0, 12, 15, 21), (0, 12, 19, 13)] (0, 12, 23, 15) [] rfl (hp2 (Or.inr ⟨by decide, "java/lang/IllegalStateException", wd_864, nc_13⟩) (Or.inr ⟨by decide, "java/lang/IndexOutOfBoundsException", wd_524, nc_23⟩)) (by decide) (by decide) wd_525 wd_839 (fun q9 => ?_)
    refine r_astore dL_sourceAt_23 (by decide) rfl ?_
    refine r_iconst (v := (3 : Int32)) dL_sourceAt_25 (by decide) ?_
    exact r_iret dL_sourceAt_26 rfl (Nat.le_of_ble_eq_true rfl) (Nat.le_of_ble_eq_true rfl) ⟨rfl, rfl⟩
set_option maxHeartbeats 4000000 in
set_option maxRecDepth 100000 in
theorem wo_property {G : gG} {lay : Nat → Nat × Nat} {T0 T1 : Nat} {Dd : Nat → Nat → UInt64} {I : gI} {J : gJ} {K : gI} {N : gJ} {sz n : Nat} {a1 : Int32} {a2 : Int32} (hs : G.1.stackTraces = false) (hE : gLay lay) (hT0 : gTank lay T0) (hT1 : gTank lay T1) {v : Int32} (hf : F_X9_property n T0 T1 I a1 a2 = some (.inr v)) : gCt G mL_property [.ref (G.2.2.1 + 0), .int a1, .int a2, .ref (G.2.2.1 + 170)] (fO G (lay, T0, T1, Dd) I J K N) sz (gR (some (.int 0)) (fO G (lay, T0, T1, Dd) I (sJ J 170 0 (v).toInt64) K N) sz) := by
  refine gCt.ofH [some (.ref (G.2.2.1 + 0)), some (.int a1), some (.int a2), some (.ref (G.2.2.1 + 170)), none] (h0 := (0, 10, 13, 21)) (ht := [(0, 10, 17, 13), (0, 10, 21, 15)]) (by decide +kernel) rfl hs rfl (Nat.le_of_ble_eq_true rfl) ?_
  refine r_aload_n dL_property_0 rfl ?_
  refine r_iconst (v := (0 : Int32)) dL_property_1 (by decide) ?_
  refine r_aload_n dL_property_2 rfl ?_
  refine r_iload_n dL_property_3 rfl ?_
  refine r_iload_n dL_property_4 rfl ?_
  refine r_cVi (rest := [.int 0, .ref (G.2.2.1 + 170)]) (ct_X9_property hs hE hT0 hT1 hf) dL_property_5 wd_945 zX9_property wd_946 wd_947 rfl rfl rfl (fo9 (hE 0 (by decide))) rfl rfl ⟨Nat.le_of_ble_eq_true rfl, Nat.le_of_ble_eq_true rfl⟩ (Nat.le_of_ble_eq_true rfl) ⟨Nat.le_of_ble_eq_true rfl, Nat.le_of_ble_eq_true rfl⟩ ?_
  refine r_i2l dL_property_8 ?_
  refine a_lastc 0 dL_property_9 (hE 170 (by decide)) (vpc rfl) rfl ?_
  refine r_goto (tgt := 25) dL_property_10 (by decide) ?_
  refine r_iconst (v := (0 : Int32)) dL_property_25 (by decide) ?_
  exact r_iret dL_property_26 rfl (Nat.le_of_ble_eq_true rfl) (Nat.le_of_ble_eq_true rfl) ⟨rfl, rfl, rfl⟩
set_option maxHeartbeats 4000000 in
set_option maxRecDepth 100000 in
theorem we_property {G : gG} {lay : Nat → Nat × Nat} {T0 T1 : Nat} {Dd : Nat → Nat → UInt64} {I : gI} {J : gJ} {K : gI} {N : gJ} {sz n : Nat} {a1 : Int32} {a2 : Int32} (hs : G.1.stackTraces = false) (hE : gLay lay) (hT0 : gTank lay T0) (hT1 : gTank lay T1) {E : String} (hf : F_X9_property n T0 T1 I a1 a2 = some (.inl E)) : gCt G mL_property [.ref (G.2.2.1 + 0), .int a1, .int a2, .ref (G.2.2.1 + 170)] (fO G (lay, T0, T1, Dd) I J K N) sz (gVs (.int (thA E)) (fO G (lay, T0, T1, Dd) I J K N)) := by
  have hS := xsF_X9_property (S := fun e => e = ISE ∨ e = IOB ∨ e = IAE) _ _ _ _ _ _ (Or.inl rfl) (Or.inr (Or.inl rfl)) (Or.inr (Or.inr (rfl))) E hf
  refine gCt.ofH [some (.ref (G.2.2.1 + 0)), some (.int a1), some (.int a2), some (.ref (G.2.2.1 + 170)), none] (h0 := (0, 10, 13, 21)) (ht := [(0, 10, 17, 13), (0, 10, 21, 15)]) (by decide +kernel) rfl hs rfl (Nat.le_of_ble_eq_true rfl) ?_
  refine r_aload_n dL_property_0 rfl ?_
  refine r_iconst (v := (0 : Int32)) dL_property_1 (by decide) ?_
  refine r_aload_n dL_property_2 rfl ?_
  refine r_iload_n dL_property_3 rfl ?_
  refine r_iload_n dL_property_4 rfl ?_
  rcases hS with rfl | rfl | rfl
  · refine r_callVX (rest := [.int 0, .ref (G.2.2.1 + 170)]) (ct_X9_property hs hE hT0 hT1 hf) dL_property_5 wd_945 zX9_property wd_946 wd_947 rfl rfl rfl (fo9 (hE 0 (by decide))) rfl rfl ⟨Nat.le_of_ble_eq_true rfl, Nat.le_of_ble_eq_true rfl⟩ (Nat.le_of_ble_eq_true rfl) ⟨Nat.le_of_ble_eq_true rfl, Nat.le_of_ble_eq_true rfl⟩ (fun sz9 => ?_)
    refine x_catch (name := "java/lang/IllegalStateException") [] (0, 10, 13, 21) [(0, 10, 17, 13), (0, 10, 21, 15)] rfl hp0 (by decide) (by decide) wd_864 wd_875 (fun q9 => ?_)
    refine r_astore dL_property_13 (by decide) rfl ?_
    refine r_iconst (v := (1 : Int32)) dL_property_15 (by decide) ?_
    exact r_iret dL_property_16 rfl (Nat.le_of_ble_eq_true rfl) (Nat.le_of_ble_eq_true rfl) ⟨rfl, rfl⟩
  · refine r_callVX (rest := [.int 0, .ref (G.2.2.1 + 170)]) (ct_X9_property hs hE hT0 hT1 hf) dL_property_5 wd_945 zX9_property wd_946 wd_947 rfl rfl rfl (fo9 (hE 0 (by decide))) rfl rfl ⟨Nat.le_of_ble_eq_true rfl, Nat.le_of_ble_eq_true rfl⟩ (Nat.le_of_ble_eq_true rfl) ⟨Nat.le_of_ble_eq_true rfl, Nat.le_of_ble_eq_true rfl⟩ (fun sz9 => ?_)
    refine x_catch (name := "java/lang/IndexOutOfBoundsException") [(0, 10, 13, 21)] (0, 10, 17, 13) [(0, 10, 21, 15)] rfl (hp1 (Or.inr ⟨by decide, "java/lang/IllegalStateException", wd_864, nc_12⟩)) (by decide) (by decide) wd_524 wd_532 (fun q9 => ?_)
    refine r_astore dL_property_17 (by decide) rfl ?_
    refine r_iconst (v := (2 : Int32)) dL_property_19 (by decide) ?_
    exact r_iret dL_property_20 rfl (Nat.le_of_ble_eq_true rfl) (Nat.le_of_ble_eq_true rfl) ⟨rfl, rfl⟩
  · refine r_callVX (rest := [.int 0, .ref (G.2.2.1 + 170)]) (ct_X9_property hs hE hT0 hT1 hf) dL_property_5 wd_945 zX9_property wd_946 wd_947 rfl rfl rfl (fo9 (hE 0 (by decide))) rfl rfl ⟨Nat.le_of_ble_eq_true rfl, Nat.le_of_ble_eq_true rfl⟩ (Nat.le_of_ble_eq_true rfl) ⟨Nat.le_of_ble_eq_true rfl, Nat.le_of_ble_eq_true rfl⟩ (fun sz9 => ?_)
    refine x_catch (name := "java/lang/IllegalArgumentException") [(0, 10, 13, 21), (0, 10, 17, 13)] (0, 10, 21, 15) [] rfl (hp2 (Or.inr ⟨by decide, "java/lang/IllegalStateException", wd_864, nc_13⟩) (Or.inr ⟨by decide, "java/lang/IndexOutOfBoundsException", wd_524, nc_23⟩)) (by decide) (by decide) wd_525 wd_839 (fun q9 => ?_)
    refine r_astore dL_property_21 (by decide) rfl ?_
    refine r_iconst (v := (3 : Int32)) dL_property_23 (by decide) ?_
    exact r_iret dL_property_24 rfl (Nat.le_of_ble_eq_true rfl) (Nat.le_of_ble_eq_true rfl) ⟨rfl, rfl⟩
set_option maxHeartbeats 4000000 in
set_option maxRecDepth 100000 in
theorem wo_isOn {G : gG} {lay : Nat → Nat × Nat} {T0 T1 : Nat} {Dd : Nat → Nat → UInt64} {I : gI} {J : gJ} {K : gI} {N : gJ} {sz n : Nat} {a1 : Int32} (hs : G.1.stackTraces = false) (hE : gLay lay) (hT0 : gTank lay T0) (hT1 : gTank lay T1) {v : Int32} (hf : F_X9_isOn n T0 T1 I a1 = some (.inr v)) : gCt G mL_isOn [.ref (G.2.2.1 + 0), .int a1, .ref (G.2.2.1 + 170)] (fO G (lay, T0, T1, Dd) I J K N) sz (gR (some (.int 0)) (fO G (lay, T0, T1, Dd) I (sJ J 170 0 (if v = 0 then 0 else 1 : Int64)) K N) sz) := by
  refine gCt.ofH [some (.ref (G.2.2.1 + 0)), some (.int a1), some (.ref (G.2.2.1 + 170)), none] (h0 := (0, 16, 19, 21)) (ht := [(0, 16, 22, 13)]) (by decide +kernel) rfl hs rfl (Nat.le_of_ble_eq_true rfl) ?_
  refine r_aload_n dL_isOn_0 rfl ?_
  refine r_iconst (v := (0 : Int32)) dL_isOn_1 (by decide) ?_
  refine r_aload_n dL_isOn_2 rfl ?_
  refine r_iload_n dL_isOn_3 rfl ?_
  refine r_cVi (rest := [.int 0, .ref (G.2.2.1 + 170)]) (ct_X9_isOn hs hE hT0 hT1 hf) dL_isOn_4 wd_952 zX9_isOn wd_953 wd_954 rfl rfl rfl (fo9 (hE 0 (by decide))) rfl rfl ⟨Nat.le_of_ble_eq_true rfl, Nat.le_of_ble_eq_true rfl⟩ (Nat.le_of_ble_eq_true rfl) ⟨Nat.le_of_ble_eq_true rfl, Nat.le_of_ble_eq_true rfl⟩ ?_
  refine r_if_eq (tgt := 14) dL_isOn_7 (by decide) (fun c => ?_) (fun c => ?_)
  · refine r_lconst (v := (0 : Int64)) dL_isOn_14 (by decide) ?_
    refine a_lastc 0 dL_isOn_15 (hE 170 (by decide)) (vpc rfl) rfl ?_
    refine r_goto (tgt := 25) dL_isOn_16 (by decide) ?_
    refine r_iconst (v := (0 : Int32)) dL_isOn_25 (by decide) ?_
    exact r_iret dL_isOn_26 rfl (Nat.le_of_ble_eq_true rfl) (Nat.le_of_ble_eq_true rfl) ⟨rfl, by rw [if_pos c], rfl⟩
  · refine r_lconst (v := (1 : Int64)) dL_isOn_10 (by decide) ?_
    refine r_goto (tgt := 15) dL_isOn_11 (by decide) ?_
    refine a_lastc 0 dL_isOn_15 (hE 170 (by decide)) (vpc rfl) rfl ?_
    refine r_goto (tgt := 25) dL_isOn_16 (by decide) ?_
    refine r_iconst (v := (0 : Int32)) dL_isOn_25 (by decide) ?_
    exact r_iret dL_isOn_26 rfl (Nat.le_of_ble_eq_true rfl) (Nat.le_of_ble_eq_true rfl) ⟨rfl, by rw [if_neg c], rfl⟩
set_option maxHeartbeats 4000000 in
set_option maxRecDepth 100000 in
theorem we_isOn {G : gG} {lay : Nat → Nat × Nat} {T0 T1 : Nat} {Dd : Nat → Nat → UInt64} {I : gI} {J : gJ} {K : gI} {N : gJ} {sz n : Nat} {a1 : Int32} (hs : G.1.stackTraces = false) (hE : gLay lay) (hT0 : gTank lay T0) (hT1 : gTank lay T1) {E : String} (hf : F_X9_isOn n T0 T1 I a1 = some (.inl E)) : gCt G mL_isOn [.ref (G.2.2.1 + 0), .int a1, .ref (G.2.2.1 + 170)] (fO G (lay, T0, T1, Dd) I J K N) sz (gVs (.int (thA E)) (fO G (lay, T0, T1, Dd) I J K N)) := by
  have hS := xsF_X9_isOn (S := fun e => e = ISE ∨ e = IOB) _ _ _ _ _ (Or.inl rfl) (Or.inr (rfl)) E hf
  refine gCt.ofH [some (.ref (G.2.2.1 + 0)), some (.int a1), some (.ref (G.2.2.1 + 170)), none] (h0 := (0, 16, 19, 21)) (ht := [(0, 16, 22, 13)]) (by decide +kernel) rfl hs rfl (Nat.le_of_ble_eq_true rfl) ?_
  refine r_aload_n dL_isOn_0 rfl ?_
  refine r_iconst (v := (0 : Int32)) dL_isOn_1 (by decide) ?_
  refine r_aload_n dL_isOn_2 rfl ?_
  refine r_iload_n dL_isOn_3 rfl ?_
  rcases hS with rfl | rfl
  · refine r_callVX (rest := [.int 0, .ref (G.2.2.1 + 170)]) (ct_X9_isOn hs hE hT0 hT1 hf) dL_isOn_4 wd_952 zX9_isOn wd_953 wd_954 rfl rfl rfl (fo9 (hE 0 (by decide))) rfl rfl ⟨Nat.le_of_ble_eq_true rfl, Nat.le_of_ble_eq_true rfl⟩ (Nat.le_of_ble_eq_true rfl) ⟨Nat.le_of_ble_eq_true rfl, Nat.le_of_ble_eq_true rfl⟩ (fun sz9 => ?_)
    refine x_catch (name := "java/lang/IllegalStateException") [] (0, 16, 19, 21) [(0, 16, 22, 13)] rfl hp0 (by decide) (by decide) wd_864 wd_875 (fun q9 => ?_)
    refine r_astore_n dL_isOn_19 (by decide) rfl ?_
    refine r_iconst (v := (1 : Int32)) dL_isOn_20 (by decide) ?_
    exact r_iret dL_isOn_21 rfl (Nat.le_of_ble_eq_true rfl) (Nat.le_of_ble_eq_true rfl) ⟨rfl, rfl⟩
  · refine r_callVX (rest := [.int 0, .ref (G.2.2.1 + 170)]) (ct_X9_isOn hs hE hT0 hT1 hf) dL_isOn_4 wd_952 zX9_isOn wd_953 wd_954 rfl rfl rfl (fo9 (hE 0 (by decide))) rfl rfl ⟨Nat.le_of_ble_eq_true rfl, Nat.le_of_ble_eq_true rfl⟩ (Nat.le_of_ble_eq_true rfl) ⟨Nat.le_of_ble_eq_true rfl, Nat.le_of_ble_eq_true rfl⟩ (fun sz9 => ?_)
    refine x_catch (name := "java/lang/IndexOutOfBoundsException") [(0, 16, 19, 21)] (0, 16, 22, 13) [] rfl (hp1 (Or.inr ⟨by decide, "java/lang/IllegalStateException", wd_864, nc_12⟩)) (by decide) (by decide) wd_524 wd_532 (fun q9 => ?_)
    refine r_astore_n dL_isOn_22 (by decide) rfl ?_
    refine r_iconst (v := (2 : Int32)) dL_isOn_23 (by decide) ?_
    exact r_iret dL_isOn_24 rfl (Nat.le_of_ble_eq_true rfl) (Nat.le_of_ble_eq_true rfl) ⟨rfl, rfl⟩
set_option maxHeartbeats 4000000 in
set_option maxRecDepth 100000 in
theorem wo_amplitude {G : gG} {lay : Nat → Nat × Nat} {T0 T1 : Nat} {Dd : Nat → Nat → UInt64} {I : gI} {J : gJ} {K : gI} {N : gJ} {sz n : Nat} {a1 : Int32} {a2 : Int32} (hs : G.1.stackTraces = false) (hE : gLay lay) (hT0 : gTank lay T0) (hT1 : gTank lay T1) {v : Int32} (hf : F_X9_amplitude n T0 T1 I a1 a2 = some (.inr v)) : gCt G mL_amplitude [.ref (G.2.2.1 + 0), .int a1, .int a2, .ref (G.2.2.1 + 170)] (fO G (lay, T0, T1, Dd) I J K N) sz (gR (some (.int 0)) (fO G (lay, T0, T1, Dd) I (sJ J 170 0 (v).toInt64) K N) sz) := by
  refine gCt.ofH [some (.ref (G.2.2.1 + 0)), some (.int a1), some (.int a2), some (.ref (G.2.2.1 + 170)), none] (h0 := (0, 10, 13, 21)) (ht := [(0, 10, 17, 13), (0, 10, 21, 15)]) (by decide +kernel) rfl hs rfl (Nat.le_of_ble_eq_true rfl) ?_
  refine r_aload_n dL_amplitude_0 rfl ?_
  refine r_iconst (v := (0 : Int32)) dL_amplitude_1 (by decide) ?_
  refine r_aload_n dL_amplitude_2 rfl ?_
  refine r_iload_n dL_amplitude_3 rfl ?_
  refine r_iload_n dL_amplitude_4 rfl ?_
  refine r_cVi (rest := [.int 0, .ref (G.2.2.1 + 170)]) (ct_X9_amplitude hs hE hT0 hT1 hf) dL_amplitude_5 wd_959 zX9_amplitude wd_960 wd_961 rfl rfl rfl (fo9 (hE 0 (by decide))) rfl rfl ⟨Nat.le_of_ble_eq_true rfl, Nat.le_of_ble_eq_true rfl⟩ (Nat.le_of_ble_eq_true rfl) ⟨Nat.le_of_ble_eq_true rfl, Nat.le_of_ble_eq_true rfl⟩ ?_
  refine r_i2l dL_amplitude_8 ?_
  refine a_lastc 0 dL_amplitude_9 (hE 170 (by decide)) (vpc rfl) rfl ?_
  refine r_goto (tgt := 25) dL_amplitude_10 (by decide) ?_
  refine r_iconst (v := (0 : Int32)) dL_amplitude_25 (by decide) ?_
  exact r_iret dL_amplitude_26 rfl (Nat.le_of_ble_eq_true rfl) (Nat.le_of_ble_eq_true rfl) ⟨rfl, rfl, rfl⟩
set_option maxHeartbeats 4000000 in
set_option maxRecDepth 100000 in
theorem we_amplitude {G : gG} {lay : Nat → Nat × Nat} {T0 T1 : Nat} {Dd : Nat → Nat → UInt64} {I : gI} {J : gJ} {K : gI} {N : gJ} {sz n : Nat} {a1 : Int32} {a2 : Int32} (hs : G.1.stackTraces = false) (hE : gLay lay) (hT0 : gTank lay T0) (hT1 : gTank lay T1) {E : String} (hf : F_X9_amplitude n T0 T1 I a1 a2 = some (.inl E)) : gCt G mL_amplitude [.ref (G.2.2.1 + 0), .int a1, .int a2, .ref (G.2.2.1 + 170)] (fO G (lay, T0, T1, Dd) I J K N) sz (gVs (.int (thA E)) (fO G (lay, T0, T1, Dd) I J K N)) := by
  have hS := xsF_X9_amplitude (S := fun e => e = ISE ∨ e = IOB ∨ e = IAE) _ _ _ _ _ _ (Or.inl rfl) (Or.inr (Or.inl rfl)) (Or.inr (Or.inr (rfl))) E hf
  refine gCt.ofH [some (.ref (G.2.2.1 + 0)), some (.int a1), some (.int a2), some (.ref (G.2.2.1 + 170)), none] (h0 := (0, 10, 13, 21)) (ht := [(0, 10, 17, 13), (0, 10, 21, 15)]) (by decide +kernel) rfl hs rfl (Nat.le_of_ble_eq_true rfl) ?_
  refine r_aload_n dL_amplitude_0 rfl ?_
  refine r_iconst (v := (0 : Int32)) dL_amplitude_1 (by decide) ?_
  refine r_aload_n dL_amplitude_2 rfl ?_
  refine r_iload_n dL_amplitude_3 rfl ?_
  refine r_iload_n dL_amplitude_4 rfl ?_
  rcases hS with rfl | rfl | rfl
  · refine r_callVX (rest := [.int 0, .ref (G.2.2.1 + 170)]) (ct_X9_amplitude hs hE hT0 hT1 hf) dL_amplitude_5 wd_959 zX9_amplitude wd_960 wd_961 rfl rfl rfl (fo9 (hE 0 (by decide))) rfl rfl ⟨Nat.le_of_ble_eq_true rfl, Nat.le_of_ble_eq_true rfl⟩ (Nat.le_of_ble_eq_true rfl) ⟨Nat.le_of_ble_eq_true rfl, Nat.le_of_ble_eq_true rfl⟩ (fun sz9 => ?_)
    refine x_catch (name := "java/lang/IllegalStateException") [] (0, 10, 13, 21) [(0, 10, 17, 13), (0, 10, 21, 15)] rfl hp0 (by decide) (by decide) wd_864 wd_875 (fun q9 => ?_)
    refine r_astore dL_amplitude_13 (by decide) rfl ?_
    refine r_iconst (v := (1 : Int32)) dL_amplitude_15 (by decide) ?_
    exact r_iret dL_amplitude_16 rfl (Nat.le_of_ble_eq_true rfl) (Nat.le_of_ble_eq_true rfl) ⟨rfl, rfl⟩
  · refine r_callVX (rest := [.int 0, .ref (G.2.2.1 + 170)]) (ct_X9_amplitude hs hE hT0 hT1 hf) dL_amplitude_5 wd_959 zX9_amplitude wd_960 wd_961 rfl rfl rfl (fo9 (hE 0 (by decide))) rfl rfl ⟨Nat.le_of_ble_eq_true rfl, Nat.le_of_ble_eq_true rfl⟩ (Nat.le_of_ble_eq_true rfl) ⟨Nat.le_of_ble_eq_true rfl, Nat.le_of_ble_eq_true rfl⟩ (fun sz9 => ?_)
    refine x_catch (name := "java/lang/IndexOutOfBoundsException") [(0, 10, 13, 21)] (0, 10, 17, 13) [(0, 10, 21, 15)] rfl (hp1 (Or.inr ⟨by decide, "java/lang/IllegalStateException", wd_864, nc_12⟩)) (by decide) (by decide) wd_524 wd_532 (fun q9 => ?_)
    refine r_astore dL_amplitude_17 (by decide) rfl ?_
    refine r_iconst (v := (2 : Int32)) dL_amplitude_19 (by decide) ?_
    exact r_iret dL_amplitude_20 rfl (Nat.le_of_ble_eq_true rfl) (Nat.le_of_ble_eq_true rfl) ⟨rfl, rfl⟩
  · refine r_callVX (rest := [.int 0, .ref (G.2.2.1 + 170)]) (ct_X9_amplitude hs hE hT0 hT1 hf) dL_amplitude_5 wd_959 zX9_amplitude wd_960 wd_961 rfl rfl rfl (fo9 (hE 0 (by decide))) rfl rfl ⟨Nat.le_of_ble_eq_true rfl, Nat.le_of_ble_eq_true rfl⟩ (Nat.le_of_ble_eq_true rfl) ⟨Nat.le_of_ble_eq_true rfl, Nat.le_of_ble_eq_true rfl⟩ (fun sz9 => ?_)
    refine x_catch (name := "java/lang/IllegalArgumentException") [(0, 10, 13, 21), (0, 10, 17, 13)] (0, 10, 21, 15) [] rfl (hp2 (Or.inr ⟨by decide, "java/lang/IllegalStateException", wd_864, nc_13⟩) (Or.inr ⟨by decide, "java/lang/IndexOutOfBoundsException", wd_524, nc_23⟩)) (by decide) (by decide) wd_525 wd_839 (fun q9 => ?_)
    refine r_astore dL_amplitude_21 (by decide) rfl ?_
    refine r_iconst (v := (3 : Int32)) dL_amplitude_23 (by decide) ?_
    exact r_iret dL_amplitude_24 rfl (Nat.le_of_ble_eq_true rfl) (Nat.le_of_ble_eq_true rfl) ⟨rfl, rfl⟩
set_option maxHeartbeats 4000000 in
set_option maxRecDepth 100000 in
theorem wo_sine {G : gG} {lay : Nat → Nat × Nat} {T0 T1 : Nat} {Dd : Nat → Nat → UInt64} {I : gI} {J : gJ} {K : gI} {N : gJ} {sz n : Nat} {a1 : Int32} (hs : G.1.stackTraces = false) (hE : gLay lay) (hT0 : gTank lay T0) (hT1 : gTank lay T1) {v : Int32} (hf : F_X9_sine n T0 T1 a1 = some (.inr v)) : gCt G mL_sine [.ref (G.2.2.1 + 0), .int a1, .ref (G.2.2.1 + 170)] (fO G (lay, T0, T1, Dd) I J K N) sz (gR (some (.int 0)) (fO G (lay, T0, T1, Dd) I (sJ J 170 0 (v).toInt64) K N) sz) := by
  refine gCt.ofH [some (.ref (G.2.2.1 + 0)), some (.int a1), some (.ref (G.2.2.1 + 170)), none] (h0 := (0, 9, 12, 15)) (ht := []) (by decide +kernel) rfl hs rfl (Nat.le_of_ble_eq_true rfl) ?_
  refine r_aload_n dL_sine_0 rfl ?_
  refine r_iconst (v := (0 : Int32)) dL_sine_1 (by decide) ?_
  refine r_aload_n dL_sine_2 rfl ?_
  refine r_iload_n dL_sine_3 rfl ?_
  refine r_cVi (rest := [.int 0, .ref (G.2.2.1 + 170)]) (ct_X9_sine hs hE hT0 hT1 hf) dL_sine_4 wd_971 zX9_sine wd_972 wd_973 rfl rfl rfl (fo9 (hE 0 (by decide))) rfl rfl ⟨Nat.le_of_ble_eq_true rfl, Nat.le_of_ble_eq_true rfl⟩ (Nat.le_of_ble_eq_true rfl) ⟨Nat.le_of_ble_eq_true rfl, Nat.le_of_ble_eq_true rfl⟩ ?_
  refine r_i2l dL_sine_7 ?_
  refine a_lastc 0 dL_sine_8 (hE 170 (by decide)) (vpc rfl) rfl ?_
  refine r_goto (tgt := 15) dL_sine_9 (by decide) ?_
  refine r_iconst (v := (0 : Int32)) dL_sine_15 (by decide) ?_
  exact r_iret dL_sine_16 rfl (Nat.le_of_ble_eq_true rfl) (Nat.le_of_ble_eq_true rfl) ⟨rfl, rfl, rfl⟩
set_option maxHeartbeats 4000000 in
set_option maxRecDepth 100000 in
theorem we_sine {G : gG} {lay : Nat → Nat × Nat} {T0 T1 : Nat} {Dd : Nat → Nat → UInt64} {I : gI} {J : gJ} {K : gI} {N : gJ} {sz n : Nat} {a1 : Int32} (hs : G.1.stackTraces = false) (hE : gLay lay) (hT0 : gTank lay T0) (hT1 : gTank lay T1) {E : String} (hf : F_X9_sine n T0 T1 a1 = some (.inl E)) : gCt G mL_sine [.ref (G.2.2.1 + 0), .int a1, .ref (G.2.2.1 + 170)] (fO G (lay, T0, T1, Dd) I J K N) sz (gVs (.int (thC E)) (fO G (lay, T0, T1, Dd) I J K N)) := by
  have hS := xsF_X9_sine (S := fun e => e = IAE) _ _ _ _ (rfl) E hf
  refine gCt.ofH [some (.ref (G.2.2.1 + 0)), some (.int a1), some (.ref (G.2.2.1 + 170)), none] (h0 := (0, 9, 12, 15)) (ht := []) (by decide +kernel) rfl hs rfl (Nat.le_of_ble_eq_true rfl) ?_
  refine r_aload_n dL_sine_0 rfl ?_
  refine r_iconst (v := (0 : Int32)) dL_sine_1 (by decide) ?_
  refine r_aload_n dL_sine_2 rfl ?_
  refine r_iload_n dL_sine_3 rfl ?_
  rcases hS with rfl
  · refine r_callVX (rest := [.int 0, .ref (G.2.2.1 + 170)]) (ct_X9_sine hs hE hT0 hT1 hf) dL_sine_4 wd_971 zX9_sine wd_972 wd_973 rfl rfl rfl (fo9 (hE 0 (by decide))) rfl rfl ⟨Nat.le_of_ble_eq_true rfl, Nat.le_of_ble_eq_true rfl⟩ (Nat.le_of_ble_eq_true rfl) ⟨Nat.le_of_ble_eq_true rfl, Nat.le_of_ble_eq_true rfl⟩ (fun sz9 => ?_)
    refine x_catch (name := "java/lang/IllegalArgumentException") [] (0, 9, 12, 15) [] rfl hp0 (by decide) (by decide) wd_525 wd_839 (fun q9 => ?_)
    refine r_astore_n dL_sine_12 (by decide) rfl ?_
    refine r_iconst (v := (1 : Int32)) dL_sine_13 (by decide) ?_
    exact r_iret dL_sine_14 rfl (Nat.le_of_ble_eq_true rfl) (Nat.le_of_ble_eq_true rfl) ⟨rfl, rfl⟩
set_option maxHeartbeats 4000000 in
set_option maxRecDepth 100000 in
theorem wo_distance {G : gG} {lay : Nat → Nat × Nat} {T0 T1 : Nat} {Dd : Nat → Nat → UInt64} {I : gI} {J : gJ} {K : gI} {N : gJ} {sz n : Nat} {a1 : Int32} {a2 : Int32} (hs : G.1.stackTraces = false) (hE : gLay lay) (hT0 : gTank lay T0) (hT1 : gTank lay T1) {v : Int32} (hf : F_X9_distance n T0 T1 I a1 a2 = some (.inr v)) : gCt G mL_distance [.ref (G.2.2.1 + 0), .int a1, .int a2, .ref (G.2.2.1 + 170)] (fO G (lay, T0, T1, Dd) I J K N) sz (gR (some (.int 0)) (fO G (lay, T0, T1, Dd) I (sJ J 170 0 (v).toInt64) K N) sz) := by
  refine gCt.ofH [some (.ref (G.2.2.1 + 0)), some (.int a1), some (.int a2), some (.ref (G.2.2.1 + 170)), none] (h0 := (0, 10, 13, 15)) (ht := []) (by decide +kernel) rfl hs rfl (Nat.le_of_ble_eq_true rfl) ?_
  refine r_aload_n dL_distance_0 rfl ?_
  refine r_iconst (v := (0 : Int32)) dL_distance_1 (by decide) ?_
  refine r_aload_n dL_distance_2 rfl ?_
  refine r_iload_n dL_distance_3 rfl ?_
  refine r_iload_n dL_distance_4 rfl ?_
  refine r_cVi (rest := [.int 0, .ref (G.2.2.1 + 170)]) (ct_X9_distance hs hE hT0 hT1 hf) dL_distance_5 wd_982 zX9_distance wd_983 wd_984 rfl rfl rfl (fo9 (hE 0 (by decide))) rfl rfl ⟨Nat.le_of_ble_eq_true rfl, Nat.le_of_ble_eq_true rfl⟩ (Nat.le_of_ble_eq_true rfl) ⟨Nat.le_of_ble_eq_true rfl, Nat.le_of_ble_eq_true rfl⟩ ?_
  refine r_i2l dL_distance_8 ?_
  refine a_lastc 0 dL_distance_9 (hE 170 (by decide)) (vpc rfl) rfl ?_
  refine r_goto (tgt := 17) dL_distance_10 (by decide) ?_
  refine r_iconst (v := (0 : Int32)) dL_distance_17 (by decide) ?_
  exact r_iret dL_distance_18 rfl (Nat.le_of_ble_eq_true rfl) (Nat.le_of_ble_eq_true rfl) ⟨rfl, rfl, rfl⟩
set_option maxHeartbeats 4000000 in
set_option maxRecDepth 100000 in
theorem we_distance {G : gG} {lay : Nat → Nat × Nat} {T0 T1 : Nat} {Dd : Nat → Nat → UInt64} {I : gI} {J : gJ} {K : gI} {N : gJ} {sz n : Nat} {a1 : Int32} {a2 : Int32} (hs : G.1.stackTraces = false) (hE : gLay lay) (hT0 : gTank lay T0) (hT1 : gTank lay T1) {E : String} (hf : F_X9_distance n T0 T1 I a1 a2 = some (.inl E)) : gCt G mL_distance [.ref (G.2.2.1 + 0), .int a1, .int a2, .ref (G.2.2.1 + 170)] (fO G (lay, T0, T1, Dd) I J K N) sz (gVs (.int (thC E)) (fO G (lay, T0, T1, Dd) I J K N)) := by
  have hS := xsF_X9_distance (S := fun e => e = IAE) _ _ _ _ _ _ (rfl) E hf
  refine gCt.ofH [some (.ref (G.2.2.1 + 0)), some (.int a1), some (.int a2), some (.ref (G.2.2.1 + 170)), none] (h0 := (0, 10, 13, 15)) (ht := []) (by decide +kernel) rfl hs rfl (Nat.le_of_ble_eq_true rfl) ?_
  refine r_aload_n dL_distance_0 rfl ?_
  refine r_iconst (v := (0 : Int32)) dL_distance_1 (by decide) ?_
  refine r_aload_n dL_distance_2 rfl ?_
  refine r_iload_n dL_distance_3 rfl ?_
  refine r_iload_n dL_distance_4 rfl ?_
  rcases hS with rfl
  · refine r_callVX (rest := [.int 0, .ref (G.2.2.1 + 170)]) (ct_X9_distance hs hE hT0 hT1 hf) dL_distance_5 wd_982 zX9_distance wd_983 wd_984 rfl rfl rfl (fo9 (hE 0 (by decide))) rfl rfl ⟨Nat.le_of_ble_eq_true rfl, Nat.le_of_ble_eq_true rfl⟩ (Nat.le_of_ble_eq_true rfl) ⟨Nat.le_of_ble_eq_true rfl, Nat.le_of_ble_eq_true rfl⟩ (fun sz9 => ?_)
    refine x_catch (name := "java/lang/IllegalArgumentException") [] (0, 10, 13, 15) [] rfl hp0 (by decide) (by decide) wd_525 wd_839 (fun q9 => ?_)
    refine r_astore dL_distance_13 (by decide) rfl ?_
    refine r_iconst (v := (1 : Int32)) dL_distance_15 (by decide) ?_
    exact r_iret dL_distance_16 rfl (Nat.le_of_ble_eq_true rfl) (Nat.le_of_ble_eq_true rfl) ⟨rfl, rfl⟩
set_option maxHeartbeats 4000000 in
set_option maxRecDepth 100000 in
theorem wo_isBehind {G : gG} {lay : Nat → Nat × Nat} {T0 T1 : Nat} {Dd : Nat → Nat → UInt64} {I : gI} {J : gJ} {K : gI} {N : gJ} {sz n : Nat} {a1 : Int32} {a2 : Int32} {a3 : Int32} (hs : G.1.stackTraces = false) (hE : gLay lay) (hT0 : gTank lay T0) (hT1 : gTank lay T1) {v : Int32} (hf : F_X9_isBehind n T0 T1 I a1 a2 a3 = some (.inr v)) : gCt G mL_isBehind [.ref (G.2.2.1 + 0), .int a1, .int a2, .int a3, .ref (G.2.2.1 + 170)] (fO G (lay, T0, T1, Dd) I J K N) sz (gR (some (.int 0)) (fO G (lay, T0, T1, Dd) I (sJ J 170 0 (if v = 0 then 0 else 1 : Int64)) K N) sz) := by
  refine gCt.ofH [some (.ref (G.2.2.1 + 0)), some (.int a1), some (.int a2), some (.int a3), some (.ref (G.2.2.1 + 170)), none] (h0 := (0, 19, 22, 21)) (ht := [(0, 19, 26, 13)]) (by decide +kernel) rfl hs rfl (Nat.le_of_ble_eq_true rfl) ?_
  refine r_aload dL_isBehind_0 rfl ?_
  refine r_iconst (v := (0 : Int32)) dL_isBehind_2 (by decide) ?_
  refine r_aload_n dL_isBehind_3 rfl ?_
  refine r_iload_n dL_isBehind_4 rfl ?_
  refine r_iload_n dL_isBehind_5 rfl ?_
  refine r_iload_n dL_isBehind_6 rfl ?_
  refine r_cVi (rest := [.int 0, .ref (G.2.2.1 + 170)]) (ct_X9_isBehind hs hE hT0 hT1 hf) dL_isBehind_7 wd_996 zX9_isBehind wd_997 wd_998 rfl rfl rfl (fo9 (hE 0 (by decide))) rfl rfl ⟨Nat.le_of_ble_eq_true rfl, Nat.le_of_ble_eq_true rfl⟩ (Nat.le_of_ble_eq_true rfl) ⟨Nat.le_of_ble_eq_true rfl, Nat.le_of_ble_eq_true rfl⟩ ?_
  refine r_if_eq (tgt := 17) dL_isBehind_10 (by decide) (fun c => ?_) (fun c => ?_)
  · refine r_lconst (v := (0 : Int64)) dL_isBehind_17 (by decide) ?_
    refine a_lastc 0 dL_isBehind_18 (hE 170 (by decide)) (vpc rfl) rfl ?_
    refine r_goto (tgt := 30) dL_isBehind_19 (by decide) ?_
    refine r_iconst (v := (0 : Int32)) dL_isBehind_30 (by decide) ?_
    exact r_iret dL_isBehind_31 rfl (Nat.le_of_ble_eq_true rfl) (Nat.le_of_ble_eq_true rfl) ⟨rfl, by rw [if_pos c], rfl⟩
  · refine r_lconst (v := (1 : Int64)) dL_isBehind_13 (by decide) ?_
    refine r_goto (tgt := 18) dL_isBehind_14 (by decide) ?_
    refine a_lastc 0 dL_isBehind_18 (hE 170 (by decide)) (vpc rfl) rfl ?_
    refine r_goto (tgt := 30) dL_isBehind_19 (by decide) ?_
    refine r_iconst (v := (0 : Int32)) dL_isBehind_30 (by decide) ?_
    exact r_iret dL_isBehind_31 rfl (Nat.le_of_ble_eq_true rfl) (Nat.le_of_ble_eq_true rfl) ⟨rfl, by rw [if_neg c], rfl⟩
set_option maxHeartbeats 4000000 in
set_option maxRecDepth 100000 in
theorem we_isBehind {G : gG} {lay : Nat → Nat × Nat} {T0 T1 : Nat} {Dd : Nat → Nat → UInt64} {I : gI} {J : gJ} {K : gI} {N : gJ} {sz n : Nat} {a1 : Int32} {a2 : Int32} {a3 : Int32} (hs : G.1.stackTraces = false) (hE : gLay lay) (hT0 : gTank lay T0) (hT1 : gTank lay T1) {E : String} (hf : F_X9_isBehind n T0 T1 I a1 a2 a3 = some (.inl E)) : gCt G mL_isBehind [.ref (G.2.2.1 + 0), .int a1, .int a2, .int a3, .ref (G.2.2.1 + 170)] (fO G (lay, T0, T1, Dd) I J K N) sz (gVs (.int (thA E)) (fO G (lay, T0, T1, Dd) I J K N)) := by
  have hS := xsF_X9_isBehind (S := fun e => e = ISE ∨ e = IOB) _ _ _ _ _ _ _ (Or.inl rfl) (Or.inr (rfl)) E hf
  refine gCt.ofH [some (.ref (G.2.2.1 + 0)), some (.int a1), some (.int a2), some (.int a3), some (.ref (G.2.2.1 + 170)), none] (h0 := (0, 19, 22, 21)) (ht := [(0, 19, 26, 13)]) (by decide +kernel) rfl hs rfl (Nat.le_of_ble_eq_true rfl) ?_
  refine r_aload dL_isBehind_0 rfl ?_
  refine r_iconst (v := (0 : Int32)) dL_isBehind_2 (by decide) ?_
  refine r_aload_n dL_isBehind_3 rfl ?_
  refine r_iload_n dL_isBehind_4 rfl ?_
  refine r_iload_n dL_isBehind_5 rfl ?_
  refine r_iload_n dL_isBehind_6 rfl ?_
  rcases hS with rfl | rfl
  · refine r_callVX (rest := [.int 0, .ref (G.2.2.1 + 170)]) (ct_X9_isBehind hs hE hT0 hT1 hf) dL_isBehind_7 wd_996 zX9_isBehind wd_997 wd_998 rfl rfl rfl (fo9 (hE 0 (by decide))) rfl rfl ⟨Nat.le_of_ble_eq_true rfl, Nat.le_of_ble_eq_true rfl⟩ (Nat.le_of_ble_eq_true rfl) ⟨Nat.le_of_ble_eq_true rfl, Nat.le_of_ble_eq_true rfl⟩ (fun sz9 => ?_)
    refine x_catch (name := "java/lang/IllegalStateException") [] (0, 19, 22, 21) [(0, 19, 26, 13)] rfl hp0 (by decide) (by decide) wd_864 wd_875 (fun q9 => ?_)
    refine r_astore dL_isBehind_22 (by decide) rfl ?_
    refine r_iconst (v := (1 : Int32)) dL_isBehind_24 (by decide) ?_
    exact r_iret dL_isBehind_25 rfl (Nat.le_of_ble_eq_true rfl) (Nat.le_of_ble_eq_true rfl) ⟨rfl, rfl⟩
  · refine r_callVX (rest := [.int 0, .ref (G.2.2.1 + 170)]) (ct_X9_isBehind hs hE hT0 hT1 hf) dL_isBehind_7 wd_996 zX9_isBehind wd_997 wd_998 rfl rfl rfl (fo9 (hE 0 (by decide))) rfl rfl ⟨Nat.le_of_ble_eq_true rfl, Nat.le_of_ble_eq_true rfl⟩ (Nat.le_of_ble_eq_true rfl) ⟨Nat.le_of_ble_eq_true rfl, Nat.le_of_ble_eq_true rfl⟩ (fun sz9 => ?_)
    refine x_catch (name := "java/lang/IndexOutOfBoundsException") [(0, 19, 22, 21)] (0, 19, 26, 13) [] rfl (hp1 (Or.inr ⟨by decide, "java/lang/IllegalStateException", wd_864, nc_12⟩)) (by decide) (by decide) wd_524 wd_532 (fun q9 => ?_)
    refine r_astore dL_isBehind_26 (by decide) rfl ?_
    refine r_iconst (v := (2 : Int32)) dL_isBehind_28 (by decide) ?_
    exact r_iret dL_isBehind_29 rfl (Nat.le_of_ble_eq_true rfl) (Nat.le_of_ble_eq_true rfl) ⟨rfl, rfl⟩
set_option maxHeartbeats 4000000 in
set_option maxRecDepth 100000 in
theorem wo_path {G : gG} {lay : Nat → Nat × Nat} {T0 T1 : Nat} {Dd : Nat → Nat → UInt64} {I : gI} {J : gJ} {K : gI} {N : gJ} {sz n : Nat} {a1 : Int32} {a2 : Int32} {a3 : Int32} {a4 : Int32} (hs : G.1.stackTraces = false) (hE : gLay lay) (hT0 : gTank lay T0) (hT1 : gTank lay T1) {v : Int32} (hf : F_X9_path n T0 T1 I a1 a2 a3 a4 = some (.inr v)) : gCt G mL_path [.ref (G.2.2.1 + 0), .int a1, .int a2, .int a3, .int a4, .ref (G.2.2.1 + 170)] (fO G (lay, T0, T1, Dd) I J K N) sz (gR (some (.int 0)) (fO G (lay, T0, T1, Dd) I (sJ J 170 0 (v).toInt64) K N) sz) := by
  refine gCt.ofH [some (.ref (G.2.2.1 + 0)), some (.int a1), some (.int a2), some (.int a3), some (.int a4), some (.ref (G.2.2.1 + 170)), none] (h0 := (0, 14, 17, 21)) (ht := [(0, 14, 21, 13)]) (by decide +kernel) rfl hs rfl (Nat.le_of_ble_eq_true rfl) ?_
  refine r_aload dL_path_0 rfl ?_
  refine r_iconst (v := (0 : Int32)) dL_path_2 (by decide) ?_
  refine r_aload_n dL_path_3 rfl ?_
  refine r_iload_n dL_path_4 rfl ?_
  refine r_iload_n dL_path_5 rfl ?_
  refine r_iload_n dL_path_6 rfl ?_
  refine r_iload dL_path_7 rfl ?_
  refine r_cVi (rest := [.int 0, .ref (G.2.2.1 + 170)]) (ct_X9_path hs hE hT0 hT1 hf) dL_path_9 wd_1016 zX9_path wd_1017 wd_1018 rfl rfl rfl (fo9 (hE 0 (by decide))) rfl rfl ⟨Nat.le_of_ble_eq_true rfl, Nat.le_of_ble_eq_true rfl⟩ (Nat.le_of_ble_eq_true rfl) ⟨Nat.le_of_ble_eq_true rfl, Nat.le_of_ble_eq_true rfl⟩ ?_
  refine r_i2l dL_path_12 ?_
  refine a_lastc 0 dL_path_13 (hE 170 (by decide)) (vpc rfl) rfl ?_
  refine r_goto (tgt := 25) dL_path_14 (by decide) ?_
  refine r_iconst (v := (0 : Int32)) dL_path_25 (by decide) ?_
  exact r_iret dL_path_26 rfl (Nat.le_of_ble_eq_true rfl) (Nat.le_of_ble_eq_true rfl) ⟨rfl, rfl, rfl⟩
set_option maxHeartbeats 4000000 in
set_option maxRecDepth 100000 in
theorem we_path {G : gG} {lay : Nat → Nat × Nat} {T0 T1 : Nat} {Dd : Nat → Nat → UInt64} {I : gI} {J : gJ} {K : gI} {N : gJ} {sz n : Nat} {a1 : Int32} {a2 : Int32} {a3 : Int32} {a4 : Int32} (hs : G.1.stackTraces = false) (hE : gLay lay) (hT0 : gTank lay T0) (hT1 : gTank lay T1) {E : String} (hf : F_X9_path n T0 T1 I a1 a2 a3 a4 = some (.inl E)) : gCt G mL_path [.ref (G.2.2.1 + 0), .int a1, .int a2, .int a3, .int a4, .ref (G.2.2.1 + 170)] (fO G (lay, T0, T1, Dd) I J K N) sz (gVs (.int (thA E)) (fO G (lay, T0, T1, Dd) I J K N)) := by
  have hS := xsF_X9_path (S := fun e => e = ISE ∨ e = IOB) _ _ _ _ _ _ _ _ (Or.inl rfl) (Or.inr (rfl)) E hf
  refine gCt.ofH [some (.ref (G.2.2.1 + 0)), some (.int a1), some (.int a2), some (.int a3), some (.int a4), some (.ref (G.2.2.1 + 170)), none] (h0 := (0, 14, 17, 21)) (ht := [(0, 14, 21, 13)]) (by decide +kernel) rfl hs rfl (Nat.le_of_ble_eq_true rfl) ?_
  refine r_aload dL_path_0 rfl ?_
  refine r_iconst (v := (0 : Int32)) dL_path_2 (by decide) ?_
  refine r_aload_n dL_path_3 rfl ?_
  refine r_iload_n dL_path_4 rfl ?_
  refine r_iload_n dL_path_5 rfl ?_
  refine r_iload_n dL_path_6 rfl ?_
  refine r_iload dL_path_7 rfl ?_
  rcases hS with rfl | rfl
  · refine r_callVX (rest := [.int 0, .ref (G.2.2.1 + 170)]) (ct_X9_path hs hE hT0 hT1 hf) dL_path_9 wd_1016 zX9_path wd_1017 wd_1018 rfl rfl rfl (fo9 (hE 0 (by decide))) rfl rfl ⟨Nat.le_of_ble_eq_true rfl, Nat.le_of_ble_eq_true rfl⟩ (Nat.le_of_ble_eq_true rfl) ⟨Nat.le_of_ble_eq_true rfl, Nat.le_of_ble_eq_true rfl⟩ (fun sz9 => ?_)
    refine x_catch (name := "java/lang/IllegalStateException") [] (0, 14, 17, 21) [(0, 14, 21, 13)] rfl hp0 (by decide) (by decide) wd_864 wd_875 (fun q9 => ?_)
    refine r_astore dL_path_17 (by decide) rfl ?_
    refine r_iconst (v := (1 : Int32)) dL_path_19 (by decide) ?_
    exact r_iret dL_path_20 rfl (Nat.le_of_ble_eq_true rfl) (Nat.le_of_ble_eq_true rfl) ⟨rfl, rfl⟩
  · refine r_callVX (rest := [.int 0, .ref (G.2.2.1 + 170)]) (ct_X9_path hs hE hT0 hT1 hf) dL_path_9 wd_1016 zX9_path wd_1017 wd_1018 rfl rfl rfl (fo9 (hE 0 (by decide))) rfl rfl ⟨Nat.le_of_ble_eq_true rfl, Nat.le_of_ble_eq_true rfl⟩ (Nat.le_of_ble_eq_true rfl) ⟨Nat.le_of_ble_eq_true rfl, Nat.le_of_ble_eq_true rfl⟩ (fun sz9 => ?_)
    refine x_catch (name := "java/lang/IndexOutOfBoundsException") [(0, 14, 17, 21)] (0, 14, 21, 13) [] rfl (hp1 (Or.inr ⟨by decide, "java/lang/IllegalStateException", wd_864, nc_12⟩)) (by decide) (by decide) wd_524 wd_532 (fun q9 => ?_)
    refine r_astore dL_path_21 (by decide) rfl ?_
    refine r_iconst (v := (2 : Int32)) dL_path_23 (by decide) ?_
    exact r_iret dL_path_24 rfl (Nat.le_of_ble_eq_true rfl) (Nat.le_of_ble_eq_true rfl) ⟨rfl, rfl⟩
set_option maxHeartbeats 4000000 in
set_option maxRecDepth 100000 in
theorem wo_shortest {G : gG} {lay : Nat → Nat × Nat} {T0 T1 : Nat} {Dd : Nat → Nat → UInt64} {I : gI} {J : gJ} {K : gI} {N : gJ} {sz n : Nat} {a1 : Int32} {a2 : Int32} {a3 : Int32} (hs : G.1.stackTraces = false) (hE : gLay lay) (hT0 : gTank lay T0) (hT1 : gTank lay T1) {v : Int32} (hf : F_X9_shortest n T0 T1 I a1 a2 a3 = some (.inr v)) : gCt G mL_shortest [.ref (G.2.2.1 + 0), .int a1, .int a2, .int a3, .ref (G.2.2.1 + 170)] (fO G (lay, T0, T1, Dd) I J K N) sz (gR (some (.int 0)) (fO G (lay, T0, T1, Dd) I (sJ J 170 0 (v).toInt64) K N) sz) := by
  refine gCt.ofH [some (.ref (G.2.2.1 + 0)), some (.int a1), some (.int a2), some (.int a3), some (.ref (G.2.2.1 + 170)), none] (h0 := (0, 12, 15, 21)) (ht := [(0, 12, 19, 13)]) (by decide +kernel) rfl hs rfl (Nat.le_of_ble_eq_true rfl) ?_
  refine r_aload dL_shortest_0 rfl ?_
  refine r_iconst (v := (0 : Int32)) dL_shortest_2 (by decide) ?_
  refine r_aload_n dL_shortest_3 rfl ?_
  refine r_iload_n dL_shortest_4 rfl ?_
  refine r_iload_n dL_shortest_5 rfl ?_
  refine r_iload_n dL_shortest_6 rfl ?_
  refine r_cVi (rest := [.int 0, .ref (G.2.2.1 + 170)]) (ct_X9_shortest hs hE hT0 hT1 hf) dL_shortest_7 wd_1028 zX9_shortest wd_1029 wd_1030 rfl rfl rfl (fo9 (hE 0 (by decide))) rfl rfl ⟨Nat.le_of_ble_eq_true rfl, Nat.le_of_ble_eq_true rfl⟩ (Nat.le_of_ble_eq_true rfl) ⟨Nat.le_of_ble_eq_true rfl, Nat.le_of_ble_eq_true rfl⟩ ?_
  refine r_i2l dL_shortest_10 ?_
  refine a_lastc 0 dL_shortest_11 (hE 170 (by decide)) (vpc rfl) rfl ?_
  refine r_goto (tgt := 23) dL_shortest_12 (by decide) ?_
  refine r_iconst (v := (0 : Int32)) dL_shortest_23 (by decide) ?_
  exact r_iret dL_shortest_24 rfl (Nat.le_of_ble_eq_true rfl) (Nat.le_of_ble_eq_true rfl) ⟨rfl, rfl, rfl⟩
set_option maxHeartbeats 4000000 in
set_option maxRecDepth 100000 in
theorem we_shortest {G : gG} {lay : Nat → Nat × Nat} {T0 T1 : Nat} {Dd : Nat → Nat → UInt64} {I : gI} {J : gJ} {K : gI} {N : gJ} {sz n : Nat} {a1 : Int32} {a2 : Int32} {a3 : Int32} (hs : G.1.stackTraces = false) (hE : gLay lay) (hT0 : gTank lay T0) (hT1 : gTank lay T1) {E : String} (hf : F_X9_shortest n T0 T1 I a1 a2 a3 = some (.inl E)) : gCt G mL_shortest [.ref (G.2.2.1 + 0), .int a1, .int a2, .int a3, .ref (G.2.2.1 + 170)] (fO G (lay, T0, T1, Dd) I J K N) sz (gVs (.int (thA E)) (fO G (lay, T0, T1, Dd) I J K N)) := by
  have hS := xsF_X9_shortest (S := fun e => e = ISE ∨ e = IOB) _ _ _ _ _ _ _ (Or.inl rfl) (Or.inr (rfl)) E hf
  refine gCt.ofH [some (.ref (G.2.2.1 + 0)), some (.int a1), some (.int a2), some (.int a3), some (.ref (G.2.2.1 + 170)), none] (h0 := (0, 12, 15, 21)) (ht := [(0, 12, 19, 13)]) (by decide +kernel) rfl hs rfl (Nat.le_of_ble_eq_true rfl) ?_
  refine r_aload dL_shortest_0 rfl ?_
  refine r_iconst (v := (0 : Int32)) dL_shortest_2 (by decide) ?_
  refine r_aload_n dL_shortest_3 rfl ?_
  refine r_iload_n dL_shortest_4 rfl ?_
  refine r_iload_n dL_shortest_5 rfl ?_
  refine r_iload_n dL_shortest_6 rfl ?_
  rcases hS with rfl | rfl
  · refine r_callVX (rest := [.int 0, .ref (G.2.2.1 + 170)]) (ct_X9_shortest hs hE hT0 hT1 hf) dL_shortest_7 wd_1028 zX9_shortest wd_1029 wd_1030 rfl rfl rfl (fo9 (hE 0 (by decide))) rfl rfl ⟨Nat.le_of_ble_eq_true rfl, Nat.le_of_ble_eq_true rfl⟩ (Nat.le_of_ble_eq_true rfl) ⟨Nat.le_of_ble_eq_true rfl, Nat.le_of_ble_eq_true rfl⟩ (fun sz9 => ?_)
    refine x_catch (name := "java/lang/IllegalStateException") [] (0, 12, 15, 21) [(0, 12, 19, 13)] rfl hp0 (by decide) (by decide) wd_864 wd_875 (fun q9 => ?_)
    refine r_astore dL_shortest_15 (by decide) rfl ?_
    refine r_iconst (v := (1 : Int32)) dL_shortest_17 (by decide) ?_
    exact r_iret dL_shortest_18 rfl (Nat.le_of_ble_eq_true rfl) (Nat.le_of_ble_eq_true rfl) ⟨rfl, rfl⟩
  · refine r_callVX (rest := [.int 0, .ref (G.2.2.1 + 170)]) (ct_X9_shortest hs hE hT0 hT1 hf) dL_shortest_7 wd_1028 zX9_shortest wd_1029 wd_1030 rfl rfl rfl (fo9 (hE 0 (by decide))) rfl rfl ⟨Nat.le_of_ble_eq_true rfl, Nat.le_of_ble_eq_true rfl⟩ (Nat.le_of_ble_eq_true rfl) ⟨Nat.le_of_ble_eq_true rfl, Nat.le_of_ble_eq_true rfl⟩ (fun sz9 => ?_)
    refine x_catch (name := "java/lang/IndexOutOfBoundsException") [(0, 12, 15, 21)] (0, 12, 19, 13) [] rfl (hp1 (Or.inr ⟨by decide, "java/lang/IllegalStateException", wd_864, nc_12⟩)) (by decide) (by decide) wd_524 wd_532 (fun q9 => ?_)
    refine r_astore dL_shortest_19 (by decide) rfl ?_
    refine r_iconst (v := (2 : Int32)) dL_shortest_21 (by decide) ?_
    exact r_iret dL_shortest_22 rfl (Nat.le_of_ble_eq_true rfl) (Nat.le_of_ble_eq_true rfl) ⟨rfl, rfl⟩
set_option maxHeartbeats 4000000 in
set_option maxRecDepth 100000 in
theorem wo_phase {G : gG} {lay : Nat → Nat × Nat} {T0 T1 : Nat} {Dd : Nat → Nat → UInt64} {I : gI} {J : gJ} {K : gI} {N : gJ} {sz n : Nat} {a1 : Int32} {a2 : Int32} {a3 : Int32} (hs : G.1.stackTraces = false) (hE : gLay lay) (hT0 : gTank lay T0) (hT1 : gTank lay T1) {v : Int32} (hf : F_X9_phase n T0 T1 I a1 a2 a3 = some (.inr v)) : gCt G mL_phase [.ref (G.2.2.1 + 0), .int a1, .int a2, .int a3, .ref (G.2.2.1 + 170)] (fO G (lay, T0, T1, Dd) I J K N) sz (gR (some (.int 0)) (fO G (lay, T0, T1, Dd) I (sJ J 170 0 (v).toInt64) K N) sz) := by
  refine gCt.ofH [some (.ref (G.2.2.1 + 0)), some (.int a1), some (.int a2), some (.int a3), some (.ref (G.2.2.1 + 170)), none] (h0 := (0, 12, 15, 21)) (ht := [(0, 12, 19, 13)]) (by decide +kernel) rfl hs rfl (Nat.le_of_ble_eq_true rfl) ?_
  refine r_aload dL_phase_0 rfl ?_
  refine r_iconst (v := (0 : Int32)) dL_phase_2 (by decide) ?_
  refine r_aload_n dL_phase_3 rfl ?_
  refine r_iload_n dL_phase_4 rfl ?_
  refine r_iload_n dL_phase_5 rfl ?_
  refine r_iload_n dL_phase_6 rfl ?_
  refine r_cVi (rest := [.int 0, .ref (G.2.2.1 + 170)]) (ct_X9_phase hs hE hT0 hT1 hf) dL_phase_7 wd_1048 zX9_phase wd_1049 wd_1050 rfl rfl rfl (fo9 (hE 0 (by decide))) rfl rfl ⟨Nat.le_of_ble_eq_true rfl, Nat.le_of_ble_eq_true rfl⟩ (Nat.le_of_ble_eq_true rfl) ⟨Nat.le_of_ble_eq_true rfl, Nat.le_of_ble_eq_true rfl⟩ ?_
  refine r_i2l dL_phase_10 ?_
  refine a_lastc 0 dL_phase_11 (hE 170 (by decide)) (vpc rfl) rfl ?_
  refine r_goto (tgt := 23) dL_phase_12 (by decide) ?_
  refine r_iconst (v := (0 : Int32)) dL_phase_23 (by decide) ?_
  exact r_iret dL_phase_24 rfl (Nat.le_of_ble_eq_true rfl) (Nat.le_of_ble_eq_true rfl) ⟨rfl, rfl, rfl⟩
set_option maxHeartbeats 4000000 in
set_option maxRecDepth 100000 in
theorem we_phase {G : gG} {lay : Nat → Nat × Nat} {T0 T1 : Nat} {Dd : Nat → Nat → UInt64} {I : gI} {J : gJ} {K : gI} {N : gJ} {sz n : Nat} {a1 : Int32} {a2 : Int32} {a3 : Int32} (hs : G.1.stackTraces = false) (hE : gLay lay) (hT0 : gTank lay T0) (hT1 : gTank lay T1) {E : String} (hf : F_X9_phase n T0 T1 I a1 a2 a3 = some (.inl E)) : gCt G mL_phase [.ref (G.2.2.1 + 0), .int a1, .int a2, .int a3, .ref (G.2.2.1 + 170)] (fO G (lay, T0, T1, Dd) I J K N) sz (gVs (.int (thA E)) (fO G (lay, T0, T1, Dd) I J K N)) := by
  have hS := xsF_X9_phase (S := fun e => e = ISE ∨ e = IOB) _ _ _ _ _ _ _ (Or.inl rfl) (Or.inr (rfl)) E hf
  refine gCt.ofH [some (.ref (G.2.2.1 + 0)), some (.int a1), some (.int a2), some (.int a3), some (.ref (G.2.2.1 + 170)), none] (h0 := (0, 12, 15, 21)) (ht := [(0, 12, 19, 13)]) (by decide +kernel) rfl hs rfl (Nat.le_of_ble_eq_true rfl) ?_
  refine r_aload dL_phase_0 rfl ?_
  refine r_iconst (v := (0 : Int32)) dL_phase_2 (by decide) ?_
  refine r_aload_n dL_phase_3 rfl ?_
  refine r_iload_n dL_phase_4 rfl ?_
  refine r_iload_n dL_phase_5 rfl ?_
  refine r_iload_n dL_phase_6 rfl ?_
  rcases hS with rfl | rfl
  · refine r_callVX (rest := [.int 0, .ref (G.2.2.1 + 170)]) (ct_X9_phase hs hE hT0 hT1 hf) dL_phase_7 wd_1048 zX9_phase wd_1049 wd_1050 rfl rfl rfl (fo9 (hE 0 (by decide))) rfl rfl ⟨Nat.le_of_ble_eq_true rfl, Nat.le_of_ble_eq_true rfl⟩ (Nat.le_of_ble_eq_true rfl) ⟨Nat.le_of_ble_eq_true rfl, Nat.le_of_ble_eq_true rfl⟩ (fun sz9 => ?_)
    refine x_catch (name := "java/lang/IllegalStateException") [] (0, 12, 15, 21) [(0, 12, 19, 13)] rfl hp0 (by decide) (by decide) wd_864 wd_875 (fun q9 => ?_)
    refine r_astore dL_phase_15 (by decide) rfl ?_
    refine r_iconst (v := (1 : Int32)) dL_phase_17 (by decide) ?_
    exact r_iret dL_phase_18 rfl (Nat.le_of_ble_eq_true rfl) (Nat.le_of_ble_eq_true rfl) ⟨rfl, rfl⟩
  · refine r_callVX (rest := [.int 0, .ref (G.2.2.1 + 170)]) (ct_X9_phase hs hE hT0 hT1 hf) dL_phase_7 wd_1048 zX9_phase wd_1049 wd_1050 rfl rfl rfl (fo9 (hE 0 (by decide))) rfl rfl ⟨Nat.le_of_ble_eq_true rfl, Nat.le_of_ble_eq_true rfl⟩ (Nat.le_of_ble_eq_true rfl) ⟨Nat.le_of_ble_eq_true rfl, Nat.le_of_ble_eq_true rfl⟩ (fun sz9 => ?_)
    refine x_catch (name := "java/lang/IndexOutOfBoundsException") [(0, 12, 15, 21)] (0, 12, 19, 13) [] rfl (hp1 (Or.inr ⟨by decide, "java/lang/IllegalStateException", wd_864, nc_12⟩)) (by decide) (by decide) wd_524 wd_532 (fun q9 => ?_)
    refine r_astore dL_phase_19 (by decide) rfl ?_
    refine r_iconst (v := (2 : Int32)) dL_phase_21 (by decide) ?_
    exact r_iret dL_phase_22 rfl (Nat.le_of_ble_eq_true rfl) (Nat.le_of_ble_eq_true rfl) ⟨rfl, rfl⟩
set_option maxHeartbeats 4000000 in
set_option maxRecDepth 100000 in
theorem wo_arrival {G : gG} {lay : Nat → Nat × Nat} {T0 T1 : Nat} {Dd : Nat → Nat → UInt64} {I : gI} {J : gJ} {K : gI} {N : gJ} {sz n : Nat} {a1 : Int32} {a2 : Int32} {a3 : Int32} (hs : G.1.stackTraces = false) (hE : gLay lay) (hT0 : gTank lay T0) (hT1 : gTank lay T1) {v : Int32} (hf : F_X9_arrival n T0 T1 I a1 a2 a3 = some (.inr v)) : gCt G mL_arrival [.ref (G.2.2.1 + 0), .int a1, .int a2, .int a3, .ref (G.2.2.1 + 170)] (fO G (lay, T0, T1, Dd) I J K N) sz (gR (some (.int 0)) (fO G (lay, T0, T1, Dd) I (sJ J 170 0 (v).toInt64) K N) sz) := by
  refine gCt.ofH [some (.ref (G.2.2.1 + 0)), some (.int a1), some (.int a2), some (.int a3), some (.ref (G.2.2.1 + 170)), none] (h0 := (0, 12, 15, 21)) (ht := [(0, 12, 19, 13)]) (by decide +kernel) rfl hs rfl (Nat.le_of_ble_eq_true rfl) ?_
  refine r_aload dL_arrival_0 rfl ?_
  refine r_iconst (v := (0 : Int32)) dL_arrival_2 (by decide) ?_
  refine r_aload_n dL_arrival_3 rfl ?_
  refine r_iload_n dL_arrival_4 rfl ?_
  refine r_iload_n dL_arrival_5 rfl ?_
  refine r_iload_n dL_arrival_6 rfl ?_
  refine r_cVi (rest := [.int 0, .ref (G.2.2.1 + 170)]) (ct_X9_arrival hs hE hT0 hT1 hf) dL_arrival_7 wd_1062 zX9_arrival wd_1063 wd_1064 rfl rfl rfl (fo9 (hE 0 (by decide))) rfl rfl ⟨Nat.le_of_ble_eq_true rfl, Nat.le_of_ble_eq_true rfl⟩ (Nat.le_of_ble_eq_true rfl) ⟨Nat.le_of_ble_eq_true rfl, Nat.le_of_ble_eq_true rfl⟩ ?_
  refine r_i2l dL_arrival_10 ?_
  refine a_lastc 0 dL_arrival_11 (hE 170 (by decide)) (vpc rfl) rfl ?_
  refine r_goto (tgt := 23) dL_arrival_12 (by decide) ?_
  refine r_iconst (v := (0 : Int32)) dL_arrival_23 (by decide) ?_
  exact r_iret dL_arrival_24 rfl (Nat.le_of_ble_eq_true rfl) (Nat.le_of_ble_eq_true rfl) ⟨rfl, rfl, rfl⟩
set_option maxHeartbeats 4000000 in
set_option maxRecDepth 100000 in
theorem we_arrival {G : gG} {lay : Nat → Nat × Nat} {T0 T1 : Nat} {Dd : Nat → Nat → UInt64} {I : gI} {J : gJ} {K : gI} {N : gJ} {sz n : Nat} {a1 : Int32} {a2 : Int32} {a3 : Int32} (hs : G.1.stackTraces = false) (hE : gLay lay) (hT0 : gTank lay T0) (hT1 : gTank lay T1) {E : String} (hf : F_X9_arrival n T0 T1 I a1 a2 a3 = some (.inl E)) : gCt G mL_arrival [.ref (G.2.2.1 + 0), .int a1, .int a2, .int a3, .ref (G.2.2.1 + 170)] (fO G (lay, T0, T1, Dd) I J K N) sz (gVs (.int (thA E)) (fO G (lay, T0, T1, Dd) I J K N)) := by
  have hS := xsF_X9_arrival (S := fun e => e = ISE ∨ e = IOB) _ _ _ _ _ _ _ (Or.inl rfl) (Or.inr (rfl)) E hf
  refine gCt.ofH [some (.ref (G.2.2.1 + 0)), some (.int a1), some (.int a2), some (.int a3), some (.ref (G.2.2.1 + 170)), none] (h0 := (0, 12, 15, 21)) (ht := [(0, 12, 19, 13)]) (by decide +kernel) rfl hs rfl (Nat.le_of_ble_eq_true rfl) ?_
  refine r_aload dL_arrival_0 rfl ?_
  refine r_iconst (v := (0 : Int32)) dL_arrival_2 (by decide) ?_
  refine r_aload_n dL_arrival_3 rfl ?_
  refine r_iload_n dL_arrival_4 rfl ?_
  refine r_iload_n dL_arrival_5 rfl ?_
  refine r_iload_n dL_arrival_6 rfl ?_
  rcases hS with rfl | rfl
  · refine r_callVX (rest := [.int 0, .ref (G.2.2.1 + 170)]) (ct_X9_arrival hs hE hT0 hT1 hf) dL_arrival_7 wd_1062 zX9_arrival wd_1063 wd_1064 rfl rfl rfl (fo9 (hE 0 (by decide))) rfl rfl ⟨Nat.le_of_ble_eq_true rfl, Nat.le_of_ble_eq_true rfl⟩ (Nat.le_of_ble_eq_true rfl) ⟨Nat.le_of_ble_eq_true rfl, Nat.le_of_ble_eq_true rfl⟩ (fun sz9 => ?_)
    refine x_catch (name := "java/lang/IllegalStateException") [] (0, 12, 15, 21) [(0, 12, 19, 13)] rfl hp0 (by decide) (by decide) wd_864 wd_875 (fun q9 => ?_)
    refine r_astore dL_arrival_15 (by decide) rfl ?_
    refine r_iconst (v := (1 : Int32)) dL_arrival_17 (by decide) ?_
    exact r_iret dL_arrival_18 rfl (Nat.le_of_ble_eq_true rfl) (Nat.le_of_ble_eq_true rfl) ⟨rfl, rfl⟩
  · refine r_callVX (rest := [.int 0, .ref (G.2.2.1 + 170)]) (ct_X9_arrival hs hE hT0 hT1 hf) dL_arrival_7 wd_1062 zX9_arrival wd_1063 wd_1064 rfl rfl rfl (fo9 (hE 0 (by decide))) rfl rfl ⟨Nat.le_of_ble_eq_true rfl, Nat.le_of_ble_eq_true rfl⟩ (Nat.le_of_ble_eq_true rfl) ⟨Nat.le_of_ble_eq_true rfl, Nat.le_of_ble_eq_true rfl⟩ (fun sz9 => ?_)
    refine x_catch (name := "java/lang/IndexOutOfBoundsException") [(0, 12, 15, 21)] (0, 12, 19, 13) [] rfl (hp1 (Or.inr ⟨by decide, "java/lang/IllegalStateException", wd_864, nc_12⟩)) (by decide) (by decide) wd_524 wd_532 (fun q9 => ?_)
    refine r_astore dL_arrival_19 (by decide) rfl ?_
    refine r_iconst (v := (2 : Int32)) dL_arrival_21 (by decide) ?_
    exact r_iret dL_arrival_22 rfl (Nat.le_of_ble_eq_true rfl) (Nat.le_of_ble_eq_true rfl) ⟨rfl, rfl⟩
set_option maxHeartbeats 4000000 in
set_option maxRecDepth 100000 in
theorem wo_reached {G : gG} {lay : Nat → Nat × Nat} {T0 T1 : Nat} {Dd : Nat → Nat → UInt64} {I : gI} {J : gJ} {K : gI} {N : gJ} {sz n : Nat} {a1 : Int32} (hs : G.1.stackTraces = false) (hE : gLay lay) (hT0 : gTank lay T0) (hT1 : gTank lay T1) {v : Int32} (hf : F_X9_reached n T0 T1 I a1 = some (.inr v)) : gCt G mL_reached [.ref (G.2.2.1 + 0), .int a1, .ref (G.2.2.1 + 170)] (fO G (lay, T0, T1, Dd) I J K N) sz (gR (some (.int 0)) (fO G (lay, T0, T1, Dd) I (sJ J 170 0 (v).toInt64) K N) sz) := by
  refine gCt.ofH [some (.ref (G.2.2.1 + 0)), some (.int a1), some (.ref (G.2.2.1 + 170)), none] (h0 := (0, 9, 12, 21)) (ht := [(0, 9, 15, 13)]) (by decide +kernel) rfl hs rfl (Nat.le_of_ble_eq_true rfl) ?_
  refine r_aload_n dL_reached_0 rfl ?_
  refine r_iconst (v := (0 : Int32)) dL_reached_1 (by decide) ?_
  refine r_aload_n dL_reached_2 rfl ?_
  refine r_iload_n dL_reached_3 rfl ?_
  refine r_cVi (rest := [.int 0, .ref (G.2.2.1 + 170)]) (ct_X9_reached hs hE hT0 hT1 hf) dL_reached_4 wd_1078 zX9_reached wd_1079 wd_1080 rfl rfl rfl (fo9 (hE 0 (by decide))) rfl rfl ⟨Nat.le_of_ble_eq_true rfl, Nat.le_of_ble_eq_true rfl⟩ (Nat.le_of_ble_eq_true rfl) ⟨Nat.le_of_ble_eq_true rfl, Nat.le_of_ble_eq_true rfl⟩ ?_
  refine r_i2l dL_reached_7 ?_
  refine a_lastc 0 dL_reached_8 (hE 170 (by decide)) (vpc rfl) rfl ?_
  refine r_goto (tgt := 18) dL_reached_9 (by decide) ?_
  refine r_iconst (v := (0 : Int32)) dL_reached_18 (by decide) ?_
  exact r_iret dL_reached_19 rfl (Nat.le_of_ble_eq_true rfl) (Nat.le_of_ble_eq_true rfl) ⟨rfl, rfl, rfl⟩
set_option maxHeartbeats 4000000 in
set_option maxRecDepth 100000 in
theorem we_reached {G : gG} {lay : Nat → Nat × Nat} {T0 T1 : Nat} {Dd : Nat → Nat → UInt64} {I : gI} {J : gJ} {K : gI} {N : gJ} {sz n : Nat} {a1 : Int32} (hs : G.1.stackTraces = false) (hE : gLay lay) (hT0 : gTank lay T0) (hT1 : gTank lay T1) {E : String} (hf : F_X9_reached n T0 T1 I a1 = some (.inl E)) : gCt G mL_reached [.ref (G.2.2.1 + 0), .int a1, .ref (G.2.2.1 + 170)] (fO G (lay, T0, T1, Dd) I J K N) sz (gVs (.int (thA E)) (fO G (lay, T0, T1, Dd) I J K N)) := by
  have hS := xsF_X9_reached (S := fun e => e = ISE ∨ e = IOB) _ _ _ _ _ (Or.inl rfl) (Or.inr (rfl)) E hf
  refine gCt.ofH [some (.ref (G.2.2.1 + 0)), some (.int a1), some (.ref (G.2.2.1 + 170)), none] (h0 := (0, 9, 12, 21)) (ht := [(0, 9, 15, 13)]) (by decide +kernel) rfl hs rfl (Nat.le_of_ble_eq_true rfl) ?_
  refine r_aload_n dL_reached_0 rfl ?_
  refine r_iconst (v := (0 : Int32)) dL_reached_1 (by decide) ?_
  refine r_aload_n dL_reached_2 rfl ?_
  refine r_iload_n dL_reached_3 rfl ?_
  rcases hS with rfl | rfl
  · refine r_callVX (rest := [.int 0, .ref (G.2.2.1 + 170)]) (ct_X9_reached hs hE hT0 hT1 hf) dL_reached_4 wd_1078 zX9_reached wd_1079 wd_1080 rfl rfl rfl (fo9 (hE 0 (by decide))) rfl rfl ⟨Nat.le_of_ble_eq_true rfl, Nat.le_of_ble_eq_true rfl⟩ (Nat.le_of_ble_eq_true rfl) ⟨Nat.le_of_ble_eq_true rfl, Nat.le_of_ble_eq_true rfl⟩ (fun sz9 => ?_)
    refine x_catch (name := "java/lang/IllegalStateException") [] (0, 9, 12, 21) [(0, 9, 15, 13)] rfl hp0 (by decide) (by decide) wd_864 wd_875 (fun q9 => ?_)
    refine r_astore_n dL_reached_12 (by decide) rfl ?_
    refine r_iconst (v := (1 : Int32)) dL_reached_13 (by decide) ?_
    exact r_iret dL_reached_14 rfl (Nat.le_of_ble_eq_true rfl) (Nat.le_of_ble_eq_true rfl) ⟨rfl, rfl⟩
  · refine r_callVX (rest := [.int 0, .ref (G.2.2.1 + 170)]) (ct_X9_reached hs hE hT0 hT1 hf) dL_reached_4 wd_1078 zX9_reached wd_1079 wd_1080 rfl rfl rfl (fo9 (hE 0 (by decide))) rfl rfl ⟨Nat.le_of_ble_eq_true rfl, Nat.le_of_ble_eq_true rfl⟩ (Nat.le_of_ble_eq_true rfl) ⟨Nat.le_of_ble_eq_true rfl, Nat.le_of_ble_eq_true rfl⟩ (fun sz9 => ?_)
    refine x_catch (name := "java/lang/IndexOutOfBoundsException") [(0, 9, 12, 21)] (0, 9, 15, 13) [] rfl (hp1 (Or.inr ⟨by decide, "java/lang/IllegalStateException", wd_864, nc_12⟩)) (by decide) (by decide) wd_524 wd_532 (fun q9 => ?_)
    refine r_astore_n dL_reached_15 (by decide) rfl ?_
    refine r_iconst (v := (2 : Int32)) dL_reached_16 (by decide) ?_
    exact r_iret dL_reached_17 rfl (Nat.le_of_ble_eq_true rfl) (Nat.le_of_ble_eq_true rfl) ⟨rfl, rfl⟩
set_option maxHeartbeats 4000000 in
set_option maxRecDepth 100000 in
theorem wo_part {G : gG} {lay : Nat → Nat × Nat} {T0 T1 : Nat} {Dd : Nat → Nat → UInt64} {I : gI} {J : gJ} {K : gI} {N : gJ} {sz n : Nat} {a1 : Int32} {a2 : Int32} {a3 : Int32} (hs : G.1.stackTraces = false) (hE : gLay lay) (hT0 : gTank lay T0) (hT1 : gTank lay T1) {v : Int32} (hf : F_X9_part n T0 T1 I a1 a2 a3 = some (.inr v)) : gCt G mL_part [.ref (G.2.2.1 + 0), .int a1, .int a2, .int a3, .ref (G.2.2.1 + 170)] (fO G (lay, T0, T1, Dd) I J K N) sz (gR (some (.int 0)) (fO G (lay, T0, T1, Dd) I (sJ J 170 0 (v).toInt64) K N) sz) := by
  refine gCt.ofH [some (.ref (G.2.2.1 + 0)), some (.int a1), some (.int a2), some (.int a3), some (.ref (G.2.2.1 + 170)), none] (h0 := (0, 12, 15, 21)) (ht := [(0, 12, 19, 13)]) (by decide +kernel) rfl hs rfl (Nat.le_of_ble_eq_true rfl) ?_
  refine r_aload dL_part_0 rfl ?_
  refine r_iconst (v := (0 : Int32)) dL_part_2 (by decide) ?_
  refine r_aload_n dL_part_3 rfl ?_
  refine r_iload_n dL_part_4 rfl ?_
  refine r_iload_n dL_part_5 rfl ?_
  refine r_iload_n dL_part_6 rfl ?_
  refine r_cVi (rest := [.int 0, .ref (G.2.2.1 + 170)]) (ct_X9_part hs hE hT0 hT1 hf) dL_part_7 wd_1085 zX9_part wd_1086 wd_1087 rfl rfl rfl (fo9 (hE 0 (by decide))) rfl rfl ⟨Nat.le_of_ble_eq_true rfl, Nat.le_of_ble_eq_true rfl⟩ (Nat.le_of_ble_eq_true rfl) ⟨Nat.le_of_ble_eq_true rfl, Nat.le_of_ble_eq_true rfl⟩ ?_
  refine r_i2l dL_part_10 ?_
  refine a_lastc 0 dL_part_11 (hE 170 (by decide)) (vpc rfl) rfl ?_
  refine r_goto (tgt := 23) dL_part_12 (by decide) ?_
  refine r_iconst (v := (0 : Int32)) dL_part_23 (by decide) ?_
  exact r_iret dL_part_24 rfl (Nat.le_of_ble_eq_true rfl) (Nat.le_of_ble_eq_true rfl) ⟨rfl, rfl, rfl⟩
set_option maxHeartbeats 4000000 in
set_option maxRecDepth 100000 in
theorem we_part {G : gG} {lay : Nat → Nat × Nat} {T0 T1 : Nat} {Dd : Nat → Nat → UInt64} {I : gI} {J : gJ} {K : gI} {N : gJ} {sz n : Nat} {a1 : Int32} {a2 : Int32} {a3 : Int32} (hs : G.1.stackTraces = false) (hE : gLay lay) (hT0 : gTank lay T0) (hT1 : gTank lay T1) {E : String} (hf : F_X9_part n T0 T1 I a1 a2 a3 = some (.inl E)) : gCt G mL_part [.ref (G.2.2.1 + 0), .int a1, .int a2, .int a3, .ref (G.2.2.1 + 170)] (fO G (lay, T0, T1, Dd) I J K N) sz (gVs (.int (thA E)) (fO G (lay, T0, T1, Dd) I J K N)) := by
  have hS := xsF_X9_part (S := fun e => e = ISE ∨ e = IOB) _ _ _ _ _ _ _ (Or.inl rfl) (Or.inr (rfl)) E hf
  refine gCt.ofH [some (.ref (G.2.2.1 + 0)), some (.int a1), some (.int a2), some (.int a3), some (.ref (G.2.2.1 + 170)), none] (h0 := (0, 12, 15, 21)) (ht := [(0, 12, 19, 13)]) (by decide +kernel) rfl hs rfl (Nat.le_of_ble_eq_true rfl) ?_
  refine r_aload dL_part_0 rfl ?_
  refine r_iconst (v := (0 : Int32)) dL_part_2 (by decide) ?_
  refine r_aload_n dL_part_3 rfl ?_
  refine r_iload_n dL_part_4 rfl ?_
  refine r_iload_n dL_part_5 rfl ?_
  refine r_iload_n dL_part_6 rfl ?_
  rcases hS with rfl | rfl
  · refine r_callVX (rest := [.int 0, .ref (G.2.2.1 + 170)]) (ct_X9_part hs hE hT0 hT1 hf) dL_part_7 wd_1085 zX9_part wd_1086 wd_1087 rfl rfl rfl (fo9 (hE 0 (by decide))) rfl rfl ⟨Nat.le_of_ble_eq_true rfl, Nat.le_of_ble_eq_true rfl⟩ (Nat.le_of_ble_eq_true rfl) ⟨Nat.le_of_ble_eq_true rfl, Nat.le_of_ble_eq_true rfl⟩ (fun sz9 => ?_)
    refine x_catch (name := "java/lang/IllegalStateException") [] (0, 12, 15, 21) [(0, 12, 19, 13)] rfl hp0 (by decide) (by decide) wd_864 wd_875 (fun q9 => ?_)
    refine r_astore dL_part_15 (by decide) rfl ?_
    refine r_iconst (v := (1 : Int32)) dL_part_17 (by decide) ?_
    exact r_iret dL_part_18 rfl (Nat.le_of_ble_eq_true rfl) (Nat.le_of_ble_eq_true rfl) ⟨rfl, rfl⟩
  · refine r_callVX (rest := [.int 0, .ref (G.2.2.1 + 170)]) (ct_X9_part hs hE hT0 hT1 hf) dL_part_7 wd_1085 zX9_part wd_1086 wd_1087 rfl rfl rfl (fo9 (hE 0 (by decide))) rfl rfl ⟨Nat.le_of_ble_eq_true rfl, Nat.le_of_ble_eq_true rfl⟩ (Nat.le_of_ble_eq_true rfl) ⟨Nat.le_of_ble_eq_true rfl, Nat.le_of_ble_eq_true rfl⟩ (fun sz9 => ?_)
    refine x_catch (name := "java/lang/IndexOutOfBoundsException") [(0, 12, 15, 21)] (0, 12, 19, 13) [] rfl (hp1 (Or.inr ⟨by decide, "java/lang/IllegalStateException", wd_864, nc_12⟩)) (by decide) (by decide) wd_524 wd_532 (fun q9 => ?_)
    refine r_astore dL_part_19 (by decide) rfl ?_
    refine r_iconst (v := (2 : Int32)) dL_part_21 (by decide) ?_
    exact r_iret dL_part_22 rfl (Nat.le_of_ble_eq_true rfl) (Nat.le_of_ble_eq_true rfl) ⟨rfl, rfl⟩
set_option maxHeartbeats 4000000 in
set_option maxRecDepth 100000 in
theorem wo_wave {G : gG} {lay : Nat → Nat × Nat} {T0 T1 : Nat} {Dd : Nat → Nat → UInt64} {I : gI} {J : gJ} {K : gI} {N : gJ} {sz n : Nat} {a1 : Int32} {a2 : Int32} (hs : G.1.stackTraces = false) (hE : gLay lay) (hT0 : gTank lay T0) (hT1 : gTank lay T1) {v : Int32} (hf : F_X9_wave n T0 T1 I a1 a2 = some (.inr v)) : gCt G mL_wave [.ref (G.2.2.1 + 0), .int a1, .int a2, .ref (G.2.2.1 + 170)] (fO G (lay, T0, T1, Dd) I J K N) sz (gR (some (.int 0)) (fO G (lay, T0, T1, Dd) I (sJ J 170 0 (v).toInt64) K N) sz) := by
  refine gCt.ofH [some (.ref (G.2.2.1 + 0)), some (.int a1), some (.int a2), some (.ref (G.2.2.1 + 170)), none] (h0 := (0, 10, 13, 21)) (ht := [(0, 10, 17, 13)]) (by decide +kernel) rfl hs rfl (Nat.le_of_ble_eq_true rfl) ?_
  refine r_aload_n dL_wave_0 rfl ?_
  refine r_iconst (v := (0 : Int32)) dL_wave_1 (by decide) ?_
  refine r_aload_n dL_wave_2 rfl ?_
  refine r_iload_n dL_wave_3 rfl ?_
  refine r_iload_n dL_wave_4 rfl ?_
  refine r_cVi (rest := [.int 0, .ref (G.2.2.1 + 170)]) (ct_X9_wave hs hE hT0 hT1 hf) dL_wave_5 wd_1122 zX9_wave wd_1123 wd_1124 rfl rfl rfl (fo9 (hE 0 (by decide))) rfl rfl ⟨Nat.le_of_ble_eq_true rfl, Nat.le_of_ble_eq_true rfl⟩ (Nat.le_of_ble_eq_true rfl) ⟨Nat.le_of_ble_eq_true rfl, Nat.le_of_ble_eq_true rfl⟩ ?_
  refine r_i2l dL_wave_8 ?_
  refine a_lastc 0 dL_wave_9 (hE 170 (by decide)) (vpc rfl) rfl ?_
  refine r_goto (tgt := 21) dL_wave_10 (by decide) ?_
  refine r_iconst (v := (0 : Int32)) dL_wave_21 (by decide) ?_
  exact r_iret dL_wave_22 rfl (Nat.le_of_ble_eq_true rfl) (Nat.le_of_ble_eq_true rfl) ⟨rfl, rfl, rfl⟩
set_option maxHeartbeats 4000000 in
set_option maxRecDepth 100000 in
theorem we_wave {G : gG} {lay : Nat → Nat × Nat} {T0 T1 : Nat} {Dd : Nat → Nat → UInt64} {I : gI} {J : gJ} {K : gI} {N : gJ} {sz n : Nat} {a1 : Int32} {a2 : Int32} (hs : G.1.stackTraces = false) (hE : gLay lay) (hT0 : gTank lay T0) (hT1 : gTank lay T1) {E : String} (hf : F_X9_wave n T0 T1 I a1 a2 = some (.inl E)) : gCt G mL_wave [.ref (G.2.2.1 + 0), .int a1, .int a2, .ref (G.2.2.1 + 170)] (fO G (lay, T0, T1, Dd) I J K N) sz (gVs (.int (thA E)) (fO G (lay, T0, T1, Dd) I J K N)) := by
  have hS := xsF_X9_wave (S := fun e => e = ISE ∨ e = IOB) _ _ _ _ _ _ (Or.inl rfl) (Or.inr (rfl)) E hf
  refine gCt.ofH [some (.ref (G.2.2.1 + 0)), some (.int a1), some (.int a2), some (.ref (G.2.2.1 + 170)), none] (h0 := (0, 10, 13, 21)) (ht := [(0, 10, 17, 13)]) (by decide +kernel) rfl hs rfl (Nat.le_of_ble_eq_true rfl) ?_
  refine r_aload_n dL_wave_0 rfl ?_
  refine r_iconst (v := (0 : Int32)) dL_wave_1 (by decide) ?_
  refine r_aload_n dL_wave_2 rfl ?_
  refine r_iload_n dL_wave_3 rfl ?_
  refine r_iload_n dL_wave_4 rfl ?_
  rcases hS with rfl | rfl
  · refine r_callVX (rest := [.int 0, .ref (G.2.2.1 + 170)]) (ct_X9_wave hs hE hT0 hT1 hf) dL_wave_5 wd_1122 zX9_wave wd_1123 wd_1124 rfl rfl rfl (fo9 (hE 0 (by decide))) rfl rfl ⟨Nat.le_of_ble_eq_true rfl, Nat.le_of_ble_eq_true rfl⟩ (Nat.le_of_ble_eq_true rfl) ⟨Nat.le_of_ble_eq_true rfl, Nat.le_of_ble_eq_true rfl⟩ (fun sz9 => ?_)
    refine x_catch (name := "java/lang/IllegalStateException") [] (0, 10, 13, 21) [(0, 10, 17, 13)] rfl hp0 (by decide) (by decide) wd_864 wd_875 (fun q9 => ?_)
    refine r_astore dL_wave_13 (by decide) rfl ?_
    refine r_iconst (v := (1 : Int32)) dL_wave_15 (by decide) ?_
    exact r_iret dL_wave_16 rfl (Nat.le_of_ble_eq_true rfl) (Nat.le_of_ble_eq_true rfl) ⟨rfl, rfl⟩
  · refine r_callVX (rest := [.int 0, .ref (G.2.2.1 + 170)]) (ct_X9_wave hs hE hT0 hT1 hf) dL_wave_5 wd_1122 zX9_wave wd_1123 wd_1124 rfl rfl rfl (fo9 (hE 0 (by decide))) rfl rfl ⟨Nat.le_of_ble_eq_true rfl, Nat.le_of_ble_eq_true rfl⟩ (Nat.le_of_ble_eq_true rfl) ⟨Nat.le_of_ble_eq_true rfl, Nat.le_of_ble_eq_true rfl⟩ (fun sz9 => ?_)
    refine x_catch (name := "java/lang/IndexOutOfBoundsException") [(0, 10, 13, 21)] (0, 10, 17, 13) [] rfl (hp1 (Or.inr ⟨by decide, "java/lang/IllegalStateException", wd_864, nc_12⟩)) (by decide) (by decide) wd_524 wd_532 (fun q9 => ?_)
    refine r_astore dL_wave_17 (by decide) rfl ?_
    refine r_iconst (v := (2 : Int32)) dL_wave_19 (by decide) ?_
    exact r_iret dL_wave_20 rfl (Nat.le_of_ble_eq_true rfl) (Nat.le_of_ble_eq_true rfl) ⟨rfl, rfl⟩
set_option maxHeartbeats 4000000 in
set_option maxRecDepth 100000 in
theorem wo_waveAt {G : gG} {lay : Nat → Nat × Nat} {T0 T1 : Nat} {Dd : Nat → Nat → UInt64} {I : gI} {J : gJ} {K : gI} {N : gJ} {sz n : Nat} {a1 : Int32} {a2 : Int32} {a3 : Int32} (hs : G.1.stackTraces = false) (hE : gLay lay) (hT0 : gTank lay T0) (hT1 : gTank lay T1) {v : Int32} (hf : F_X9_waveAt n T0 T1 I a1 a2 a3 = some (.inr v)) : gCt G mL_waveAt [.ref (G.2.2.1 + 0), .int a1, .int a2, .int a3, .ref (G.2.2.1 + 170)] (fO G (lay, T0, T1, Dd) I J K N) sz (gR (some (.int 0)) (fO G (lay, T0, T1, Dd) I (sJ J 170 0 (v).toInt64) K N) sz) := by
  refine gCt.ofH [some (.ref (G.2.2.1 + 0)), some (.int a1), some (.int a2), some (.int a3), some (.ref (G.2.2.1 + 170)), none] (h0 := (0, 12, 15, 21)) (ht := [(0, 12, 19, 13), (0, 12, 23, 15)]) (by decide +kernel) rfl hs rfl (Nat.le_of_ble_eq_true rfl) ?_
  refine r_aload dL_waveAt_0 rfl ?_
  refine r_iconst (v := (0 : Int32)) dL_waveAt_2 (by decide) ?_
  refine r_aload_n dL_waveAt_3 rfl ?_
  refine r_iload_n dL_waveAt_4 rfl ?_
  refine r_iload_n dL_waveAt_5 rfl ?_
  refine r_iload_n dL_waveAt_6 rfl ?_
  refine r_cVi (rest := [.int 0, .ref (G.2.2.1 + 170)]) (ct_X9_waveAt hs hE hT0 hT1 hf) dL_waveAt_7 wd_1138 zX9_waveAt wd_1139 wd_1140 rfl rfl rfl (fo9 (hE 0 (by decide))) rfl rfl ⟨Nat.le_of_ble_eq_true rfl, Nat.le_of_ble_eq_true rfl⟩ (Nat.le_of_ble_eq_true rfl) ⟨Nat.le_of_ble_eq_true rfl, Nat.le_of_ble_eq_true rfl⟩ ?_
  refine r_i2l dL_waveAt_10 ?_
  refine a_lastc 0 dL_waveAt_11 (hE 170 (by decide)) (vpc rfl) rfl ?_
  refine r_goto (tgt := 27) dL_waveAt_12 (by decide) ?_
  refine r_iconst (v := (0 : Int32)) dL_waveAt_27 (by decide) ?_
  exact r_iret dL_waveAt_28 rfl (Nat.le_of_ble_eq_true rfl) (Nat.le_of_ble_eq_true rfl) ⟨rfl, rfl, rfl⟩
set_option maxHeartbeats 4000000 in
set_option maxRecDepth 100000 in
theorem we_waveAt {G : gG} {lay : Nat → Nat × Nat} {T0 T1 : Nat} {Dd : Nat → Nat → UInt64} {I : gI} {J : gJ} {K : gI} {N : gJ} {sz n : Nat} {a1 : Int32} {a2 : Int32} {a3 : Int32} (hs : G.1.stackTraces = false) (hE : gLay lay) (hT0 : gTank lay T0) (hT1 : gTank lay T1) {E : String} (hf : F_X9_waveAt n T0 T1 I a1 a2 a3 = some (.inl E)) : gCt G mL_waveAt [.ref (G.2.2.1 + 0), .int a1, .int a2, .int a3, .ref (G.2.2.1 + 170)] (fO G (lay, T0, T1, Dd) I J K N) sz (gVs (.int (thA E)) (fO G (lay, T0, T1, Dd) I J K N)) := by
  have hS := xsF_X9_waveAt (S := fun e => e = ISE ∨ e = IOB ∨ e = IAE) _ _ _ _ _ _ _ (Or.inl rfl) (Or.inr (Or.inl rfl)) (Or.inr (Or.inr (rfl))) E hf
  refine gCt.ofH [some (.ref (G.2.2.1 + 0)), some (.int a1), some (.int a2), some (.int a3), some (.ref (G.2.2.1 + 170)), none] (h0 := (0, 12, 15, 21)) (ht := [(0, 12, 19, 13), (0, 12, 23, 15)]) (by decide +kernel) rfl hs rfl (Nat.le_of_ble_eq_true rfl) ?_
  refine r_aload dL_waveAt_0 rfl ?_
  refine r_iconst (v := (0 : Int32)) dL_waveAt_2 (by decide) ?_
  refine r_aload_n dL_waveAt_3 rfl ?_
  refine r_iload_n dL_waveAt_4 rfl ?_
  refine r_iload_n dL_waveAt_5 rfl ?_
  refine r_iload_n dL_waveAt_6 rfl ?_
  rcases hS with rfl | rfl | rfl
  · refine r_callVX (rest := [.int 0, .ref (G.2.2.1 + 170)]) (ct_X9_waveAt hs hE hT0 hT1 hf) dL_waveAt_7 wd_1138 zX9_waveAt wd_1139 wd_1140 rfl rfl rfl (fo9 (hE 0 (by decide))) rfl rfl ⟨Nat.le_of_ble_eq_true rfl, Nat.le_of_ble_eq_true rfl⟩ (Nat.le_of_ble_eq_true rfl) ⟨Nat.le_of_ble_eq_true rfl, Nat.le_of_ble_eq_true rfl⟩ (fun sz9 => ?_)
    refine x_catch (name := "java/lang/IllegalStateException") [] (0, 12, 15, 21) [(0, 12, 19, 13), (0, 12, 23, 15)] rfl hp0 (by decide) (by decide) wd_864 wd_875 (fun q9 => ?_)
    refine r_astore dL_waveAt_15 (by decide) rfl ?_
    refine r_iconst (v := (1 : Int32)) dL_waveAt_17 (by decide) ?_
    exact r_iret dL_waveAt_18 rfl (Nat.le_of_ble_eq_true rfl) (Nat.le_of_ble_eq_true rfl) ⟨rfl, rfl⟩
  · refine r_callVX (rest := [.int 0, .ref (G.2.2.1 + 170)]) (ct_X9_waveAt hs hE hT0 hT1 hf) dL_waveAt_7 wd_1138 zX9_waveAt wd_1139 wd_1140 rfl rfl rfl (fo9 (hE 0 (by decide))) rfl rfl ⟨Nat.le_of_ble_eq_true rfl, Nat.le_of_ble_eq_true rfl⟩ (Nat.le_of_ble_eq_true rfl) ⟨Nat.le_of_ble_eq_true rfl, Nat.le_of_ble_eq_true rfl⟩ (fun sz9 => ?_)
    refine x_catch (name := "java/lang/IndexOutOfBoundsException") [(0, 12, 15, 21)] (0, 12, 19, 13) [(0, 12, 23, 15)] rfl (hp1 (Or.inr ⟨by decide, "java/lang/IllegalStateException", wd_864, nc_12⟩)) (by decide) (by decide) wd_524 wd_532 (fun q9 => ?_)
    refine r_astore dL_waveAt_19 (by decide) rfl ?_
    refine r_iconst (v := (2 : Int32)) dL_waveAt_21 (by decide) ?_
    exact r_iret dL_waveAt_22 rfl (Nat.le_of_ble_eq_true rfl) (Nat.le_of_ble_eq_true rfl) ⟨rfl, rfl⟩
  · refine r_callVX (rest := [.int 0, .ref (G.2.2.1 + 170)]) (ct_X9_waveAt hs hE hT0 hT1 hf) dL_waveAt_7 wd_1138 zX9_waveAt wd_1139 wd_1140 rfl rfl rfl (fo9 (hE 0 (by decide))) rfl rfl ⟨Nat.le_of_ble_eq_true rfl, Nat.le_of_ble_eq_true rfl⟩ (Nat.le_of_ble_eq_true rfl) ⟨Nat.le_of_ble_eq_true rfl, Nat.le_of_ble_eq_true rfl⟩ (fun sz9 => ?_)
    refine x_catch (name := "java/lang/IllegalArgumentException") [(0, 12, 15, 21), (0, 12, 19, 13)] (0, 12, 23, 15) [] rfl (hp2 (Or.inr ⟨by decide, "java/lang/IllegalStateException", wd_864, nc_13⟩) (Or.inr ⟨by decide, "java/lang/IndexOutOfBoundsException", wd_524, nc_23⟩)) (by decide) (by decide) wd_525 wd_839 (fun q9 => ?_)
    refine r_astore dL_waveAt_23 (by decide) rfl ?_
    refine r_iconst (v := (3 : Int32)) dL_waveAt_25 (by decide) ?_
    exact r_iret dL_waveAt_26 rfl (Nat.le_of_ble_eq_true rfl) (Nat.le_of_ble_eq_true rfl) ⟨rfl, rfl⟩
set_option maxHeartbeats 4000000 in
set_option maxRecDepth 100000 in
theorem wo_quietIn {G : gG} {lay : Nat → Nat × Nat} {T0 T1 : Nat} {Dd : Nat → Nat → UInt64} {I : gI} {J : gJ} {K : gI} {N : gJ} {sz n : Nat} {a1 : Int32} {a2 : Int32} {a3 : Int32} {a4 : Int32} (hs : G.1.stackTraces = false) (hE : gLay lay) (hT0 : gTank lay T0) (hT1 : gTank lay T1) {v : Int32} (hf : F_X9_quietIn n T0 T1 I a1 a2 a3 a4 = some (.inr v)) : gCt G mL_quietIn [.ref (G.2.2.1 + 0), .int a1, .int a2, .int a3, .int a4, .ref (G.2.2.1 + 170)] (fO G (lay, T0, T1, Dd) I J K N) sz (gR (some (.int 0)) (fO G (lay, T0, T1, Dd) I (sJ J 170 0 (v).toInt64) K N) sz) := by
  refine gCt.ofH [some (.ref (G.2.2.1 + 0)), some (.int a1), some (.int a2), some (.int a3), some (.int a4), some (.ref (G.2.2.1 + 170)), none] (h0 := (0, 14, 17, 21)) (ht := [(0, 14, 21, 13), (0, 14, 25, 15)]) (by decide +kernel) rfl hs rfl (Nat.le_of_ble_eq_true rfl) ?_
  refine r_aload dL_quietIn_0 rfl ?_
  refine r_iconst (v := (0 : Int32)) dL_quietIn_2 (by decide) ?_
  refine r_aload_n dL_quietIn_3 rfl ?_
  refine r_iload_n dL_quietIn_4 rfl ?_
  refine r_iload_n dL_quietIn_5 rfl ?_
  refine r_iload_n dL_quietIn_6 rfl ?_
  refine r_iload dL_quietIn_7 rfl ?_
  refine r_cVi (rest := [.int 0, .ref (G.2.2.1 + 170)]) (ct_X9_quietIn hs hE hT0 hT1 hf) dL_quietIn_9 wd_1145 zX9_quietIn wd_1146 wd_1147 rfl rfl rfl (fo9 (hE 0 (by decide))) rfl rfl ⟨Nat.le_of_ble_eq_true rfl, Nat.le_of_ble_eq_true rfl⟩ (Nat.le_of_ble_eq_true rfl) ⟨Nat.le_of_ble_eq_true rfl, Nat.le_of_ble_eq_true rfl⟩ ?_
  refine r_i2l dL_quietIn_12 ?_
  refine a_lastc 0 dL_quietIn_13 (hE 170 (by decide)) (vpc rfl) rfl ?_
  refine r_goto (tgt := 29) dL_quietIn_14 (by decide) ?_
  refine r_iconst (v := (0 : Int32)) dL_quietIn_29 (by decide) ?_
  exact r_iret dL_quietIn_30 rfl (Nat.le_of_ble_eq_true rfl) (Nat.le_of_ble_eq_true rfl) ⟨rfl, rfl, rfl⟩
set_option maxHeartbeats 4000000 in
set_option maxRecDepth 100000 in
theorem we_quietIn {G : gG} {lay : Nat → Nat × Nat} {T0 T1 : Nat} {Dd : Nat → Nat → UInt64} {I : gI} {J : gJ} {K : gI} {N : gJ} {sz n : Nat} {a1 : Int32} {a2 : Int32} {a3 : Int32} {a4 : Int32} (hs : G.1.stackTraces = false) (hE : gLay lay) (hT0 : gTank lay T0) (hT1 : gTank lay T1) {E : String} (hf : F_X9_quietIn n T0 T1 I a1 a2 a3 a4 = some (.inl E)) : gCt G mL_quietIn [.ref (G.2.2.1 + 0), .int a1, .int a2, .int a3, .int a4, .ref (G.2.2.1 + 170)] (fO G (lay, T0, T1, Dd) I J K N) sz (gVs (.int (thA E)) (fO G (lay, T0, T1, Dd) I J K N)) := by
  have hS := xsF_X9_quietIn (S := fun e => e = ISE ∨ e = IOB ∨ e = IAE) _ _ _ _ _ _ _ _ (Or.inl rfl) (Or.inr (Or.inl rfl)) (Or.inr (Or.inr (rfl))) E hf
  refine gCt.ofH [some (.ref (G.2.2.1 + 0)), some (.int a1), some (.int a2), some (.int a3), some (.int a4), some (.ref (G.2.2.1 + 170)), none] (h0 := (0, 14, 17, 21)) (ht := [(0, 14, 21, 13), (0, 14, 25, 15)]) (by decide +kernel) rfl hs rfl (Nat.le_of_ble_eq_true rfl) ?_
  refine r_aload dL_quietIn_0 rfl ?_
  refine r_iconst (v := (0 : Int32)) dL_quietIn_2 (by decide) ?_
  refine r_aload_n dL_quietIn_3 rfl ?_
  refine r_iload_n dL_quietIn_4 rfl ?_
  refine r_iload_n dL_quietIn_5 rfl ?_
  refine r_iload_n dL_quietIn_6 rfl ?_
  refine r_iload dL_quietIn_7 rfl ?_
  rcases hS with rfl | rfl | rfl
  · refine r_callVX (rest := [.int 0, .ref (G.2.2.1 + 170)]) (ct_X9_quietIn hs hE hT0 hT1 hf) dL_quietIn_9 wd_1145 zX9_quietIn wd_1146 wd_1147 rfl rfl rfl (fo9 (hE 0 (by decide))) rfl rfl ⟨Nat.le_of_ble_eq_true rfl, Nat.le_of_ble_eq_true rfl⟩ (Nat.le_of_ble_eq_true rfl) ⟨Nat.le_of_ble_eq_true rfl, Nat.le_of_ble_eq_true rfl⟩ (fun sz9 => ?_)
    refine x_catch (name := "java/lang/IllegalStateException") [] (0, 14, 17, 21) [(0, 14, 21, 13), (0, 14, 25, 15)] rfl hp0 (by decide) (by decide) wd_864 wd_875 (fun q9 => ?_)
    refine r_astore dL_quietIn_17 (by decide) rfl ?_
    refine r_iconst (v := (1 : Int32)) dL_quietIn_19 (by decide) ?_
    exact r_iret dL_quietIn_20 rfl (Nat.le_of_ble_eq_true rfl) (Nat.le_of_ble_eq_true rfl) ⟨rfl, rfl⟩
  · refine r_callVX (rest := [.int 0, .ref (G.2.2.1 + 170)]) (ct_X9_quietIn hs hE hT0 hT1 hf) dL_quietIn_9 wd_1145 zX9_quietIn wd_1146 wd_1147 rfl rfl rfl (fo9 (hE 0 (by decide))) rfl rfl ⟨Nat.le_of_ble_eq_true rfl, Nat.le_of_ble_eq_true rfl⟩ (Nat.le_of_ble_eq_true rfl) ⟨Nat.le_of_ble_eq_true rfl, Nat.le_of_ble_eq_true rfl⟩ (fun sz9 => ?_)
    refine x_catch (name := "java/lang/IndexOutOfBoundsException") [(0, 14, 17, 21)] (0, 14, 21, 13) [(0, 14, 25, 15)] rfl (hp1 (Or.inr ⟨by decide, "java/lang/IllegalStateException", wd_864, nc_12⟩)) (by decide) (by decide) wd_524 wd_532 (fun q9 => ?_)
    refine r_astore dL_quietIn_21 (by decide) rfl ?_
    refine r_iconst (v := (2 : Int32)) dL_quietIn_23 (by decide) ?_
    exact r_iret dL_quietIn_24 rfl (Nat.le_of_ble_eq_true rfl) (Nat.le_of_ble_eq_true rfl) ⟨rfl, rfl⟩
  · refine r_callVX (rest := [.int 0, .ref (G.2.2.1 + 170)]) (ct_X9_quietIn hs hE hT0 hT1 hf) dL_quietIn_9 wd_1145 zX9_quietIn wd_1146 wd_1147 rfl rfl rfl (fo9 (hE 0 (by decide))) rfl rfl ⟨Nat.le_of_ble_eq_true rfl, Nat.le_of_ble_eq_true rfl⟩ (Nat.le_of_ble_eq_true rfl) ⟨Nat.le_of_ble_eq_true rfl, Nat.le_of_ble_eq_true rfl⟩ (fun sz9 => ?_)
    refine x_catch (name := "java/lang/IllegalArgumentException") [(0, 14, 17, 21), (0, 14, 21, 13)] (0, 14, 25, 15) [] rfl (hp2 (Or.inr ⟨by decide, "java/lang/IllegalStateException", wd_864, nc_13⟩) (Or.inr ⟨by decide, "java/lang/IndexOutOfBoundsException", wd_524, nc_23⟩)) (by decide) (by decide) wd_525 wd_839 (fun q9 => ?_)
    refine r_astore dL_quietIn_25 (by decide) rfl ?_
    refine r_iconst (v := (3 : Int32)) dL_quietIn_27 (by decide) ?_
    exact r_iret dL_quietIn_28 rfl (Nat.le_of_ble_eq_true rfl) (Nat.le_of_ble_eq_true rfl) ⟨rfl, rfl⟩
set_option maxHeartbeats 4000000 in
set_option maxRecDepth 100000 in
theorem wo_gaugeAt {G : gG} {lay : Nat → Nat × Nat} {T0 T1 : Nat} {Dd : Nat → Nat → UInt64} {I : gI} {J : gJ} {K : gI} {N : gJ} {sz n : Nat} {a1 : Int32} {a2 : Int32} (hs : G.1.stackTraces = false) (hE : gLay lay) (hT0 : gTank lay T0) (hT1 : gTank lay T1) {v : Int32} (hf : F_X9_gaugeAt n T0 T1 I a1 a2 = some (.inr v)) : gCt G mL_gaugeAt [.ref (G.2.2.1 + 0), .int a1, .int a2, .ref (G.2.2.1 + 170)] (fO G (lay, T0, T1, Dd) I J K N) sz (gR (some (.int 0)) (fO G (lay, T0, T1, Dd) I (sJ J 170 0 (v).toInt64) K N) sz) := by
  refine gCt.ofH [some (.ref (G.2.2.1 + 0)), some (.int a1), some (.int a2), some (.ref (G.2.2.1 + 170)), none] (h0 := (0, 10, 13, 21)) (ht := [(0, 10, 17, 13), (0, 10, 21, 15)]) (by decide +kernel) rfl hs rfl (Nat.le_of_ble_eq_true rfl) ?_
  refine r_aload_n dL_gaugeAt_0 rfl ?_
  refine r_iconst (v := (0 : Int32)) dL_gaugeAt_1 (by decide) ?_
  refine r_aload_n dL_gaugeAt_2 rfl ?_
  refine r_iload_n dL_gaugeAt_3 rfl ?_
  refine r_iload_n dL_gaugeAt_4 rfl ?_
  refine r_cVi (rest := [.int 0, .ref (G.2.2.1 + 170)]) (ct_X9_gaugeAt hs hE hT0 hT1 hf) dL_gaugeAt_5 wd_1156 zX9_gaugeAt wd_1157 wd_1158 rfl rfl rfl (fo9 (hE 0 (by decide))) rfl rfl ⟨Nat.le_of_ble_eq_true rfl, Nat.le_of_ble_eq_true rfl⟩ (Nat.le_of_ble_eq_true rfl) ⟨Nat.le_of_ble_eq_true rfl, Nat.le_of_ble_eq_true rfl⟩ ?_
  refine r_i2l dL_gaugeAt_8 ?_
  refine a_lastc 0 dL_gaugeAt_9 (hE 170 (by decide)) (vpc rfl) rfl ?_
  refine r_goto (tgt := 25) dL_gaugeAt_10 (by decide) ?_
  refine r_iconst (v := (0 : Int32)) dL_gaugeAt_25 (by decide) ?_
  exact r_iret dL_gaugeAt_26 rfl (Nat.le_of_ble_eq_true rfl) (Nat.le_of_ble_eq_true rfl) ⟨rfl, rfl, rfl⟩
set_option maxHeartbeats 4000000 in
set_option maxRecDepth 100000 in
theorem we_gaugeAt {G : gG} {lay : Nat → Nat × Nat} {T0 T1 : Nat} {Dd : Nat → Nat → UInt64} {I : gI} {J : gJ} {K : gI} {N : gJ} {sz n : Nat} {a1 : Int32} {a2 : Int32} (hs : G.1.stackTraces = false) (hE : gLay lay) (hT0 : gTank lay T0) (hT1 : gTank lay T1) {E : String} (hf : F_X9_gaugeAt n T0 T1 I a1 a2 = some (.inl E)) : gCt G mL_gaugeAt [.ref (G.2.2.1 + 0), .int a1, .int a2, .ref (G.2.2.1 + 170)] (fO G (lay, T0, T1, Dd) I J K N) sz (gVs (.int (thA E)) (fO G (lay, T0, T1, Dd) I J K N)) := by
  have hS := xsF_X9_gaugeAt (S := fun e => e = ISE ∨ e = IOB ∨ e = IAE) _ _ _ _ _ _ (Or.inl rfl) (Or.inr (Or.inl rfl)) (Or.inr (Or.inr (rfl))) E hf
  refine gCt.ofH [some (.ref (G.2.2.1 + 0)), some (.int a1), some (.int a2), some (.ref (G.2.2.1 + 170)), none] (h0 := (0, 10, 13, 21)) (ht := [(0, 10, 17, 13), (0, 10, 21, 15)]) (by decide +kernel) rfl hs rfl (Nat.le_of_ble_eq_true rfl) ?_
  refine r_aload_n dL_gaugeAt_0 rfl ?_
  refine r_iconst (v := (0 : Int32)) dL_gaugeAt_1 (by decide) ?_
  refine r_aload_n dL_gaugeAt_2 rfl ?_
  refine r_iload_n dL_gaugeAt_3 rfl ?_
  refine r_iload_n dL_gaugeAt_4 rfl ?_
  rcases hS with rfl | rfl | rfl
  · refine r_callVX (rest := [.int 0, .ref (G.2.2.1 + 170)]) (ct_X9_gaugeAt hs hE hT0 hT1 hf) dL_gaugeAt_5 wd_1156 zX9_gaugeAt wd_1157 wd_1158 rfl rfl rfl (fo9 (hE 0 (by decide))) rfl rfl ⟨Nat.le_of_ble_eq_true rfl, Nat.le_of_ble_eq_true rfl⟩ (Nat.le_of_ble_eq_true rfl) ⟨Nat.le_of_ble_eq_true rfl, Nat.le_of_ble_eq_true rfl⟩ (fun sz9 => ?_)
    refine x_catch (name := "java/lang/IllegalStateException") [] (0, 10, 13, 21) [(0, 10, 17, 13), (0, 10, 21, 15)] rfl hp0 (by decide) (by decide) wd_864 wd_875 (fun q9 => ?_)
    refine r_astore dL_gaugeAt_13 (by decide) rfl ?_
    refine r_iconst (v := (1 : Int32)) dL_gaugeAt_15 (by decide) ?_
    exact r_iret dL_gaugeAt_16 rfl (Nat.le_of_ble_eq_true rfl) (Nat.le_of_ble_eq_true rfl) ⟨rfl, rfl⟩
  · refine r_callVX (rest := [.int 0, .ref (G.2.2.1 + 170)]) (ct_X9_gaugeAt hs hE hT0 hT1 hf) dL_gaugeAt_5 wd_1156 zX9_gaugeAt wd_1157 wd_1158 rfl rfl rfl (fo9 (hE 0 (by decide))) rfl rfl ⟨Nat.le_of_ble_eq_true rfl, Nat.le_of_ble_eq_true rfl⟩ (Nat.le_of_ble_eq_true rfl) ⟨Nat.le_of_ble_eq_true rfl, Nat.le_of_ble_eq_true rfl⟩ (fun sz9 => ?_)
    refine x_catch (name := "java/lang/IndexOutOfBoundsException") [(0, 10, 13, 21)] (0, 10, 17, 13) [(0, 10, 21, 15)] rfl (hp1 (Or.inr ⟨by decide, "java/lang/IllegalStateException", wd_864, nc_12⟩)) (by decide) (by decide) wd_524 wd_532 (fun q9 => ?_)
    refine r_astore dL_gaugeAt_17 (by decide) rfl ?_
    refine r_iconst (v := (2 : Int32)) dL_gaugeAt_19 (by decide) ?_
    exact r_iret dL_gaugeAt_20 rfl (Nat.le_of_ble_eq_true rfl) (Nat.le_of_ble_eq_true rfl) ⟨rfl, rfl⟩
  · refine r_callVX (rest := [.int 0, .ref (G.2.2.1 + 170)]) (ct_X9_gaugeAt hs hE hT0 hT1 hf) dL_gaugeAt_5 wd_1156 zX9_gaugeAt wd_1157 wd_1158 rfl rfl rfl (fo9 (hE 0 (by decide))) rfl rfl ⟨Nat.le_of_ble_eq_true rfl, Nat.le_of_ble_eq_true rfl⟩ (Nat.le_of_ble_eq_true rfl) ⟨Nat.le_of_ble_eq_true rfl, Nat.le_of_ble_eq_true rfl⟩ (fun sz9 => ?_)
    refine x_catch (name := "java/lang/IllegalArgumentException") [(0, 10, 13, 21), (0, 10, 17, 13)] (0, 10, 21, 15) [] rfl (hp2 (Or.inr ⟨by decide, "java/lang/IllegalStateException", wd_864, nc_13⟩) (Or.inr ⟨by decide, "java/lang/IndexOutOfBoundsException", wd_524, nc_23⟩)) (by decide) (by decide) wd_525 wd_839 (fun q9 => ?_)
    refine r_astore dL_gaugeAt_21 (by decide) rfl ?_
    refine r_iconst (v := (3 : Int32)) dL_gaugeAt_23 (by decide) ?_
    exact r_iret dL_gaugeAt_24 rfl (Nat.le_of_ble_eq_true rfl) (Nat.le_of_ble_eq_true rfl) ⟨rfl, rfl⟩
set_option maxHeartbeats 4000000 in
set_option maxRecDepth 100000 in
theorem wo_peak {G : gG} {lay : Nat → Nat × Nat} {T0 T1 : Nat} {Dd : Nat → Nat → UInt64} {I : gI} {J : gJ} {K : gI} {N : gJ} {sz n : Nat} {a1 : Int32} {a2 : Int32} (hs : G.1.stackTraces = false) (hE : gLay lay) (hT0 : gTank lay T0) (hT1 : gTank lay T1) {v : Int32 × gI} (hf : F_X9_peak n T0 T1 I a1 a2 = some (.inr v)) : gCt G mL_peak [.ref (G.2.2.1 + 0), .int a1, .int a2, .ref (G.2.2.1 + 170)] (fO G (lay, T0, T1, Dd) I J K N) sz (gR (some (.int 0)) (fO G (lay, T0, T1, Dd) v.2 (sJ J 170 0 (v.1).toInt64) K N) sz) := by
  refine gCt.ofH [some (.ref (G.2.2.1 + 0)), some (.int a1), some (.int a2), some (.ref (G.2.2.1 + 170)), none] (h0 := (0, 10, 13, 21)) (ht := [(0, 10, 17, 13), (0, 10, 21, 15)]) (by decide +kernel) rfl hs rfl (Nat.le_of_ble_eq_true rfl) ?_
  refine r_aload_n dL_peak_0 rfl ?_
  refine r_iconst (v := (0 : Int32)) dL_peak_1 (by decide) ?_
  refine r_aload_n dL_peak_2 rfl ?_
  refine r_iload_n dL_peak_3 rfl ?_
  refine r_iload_n dL_peak_4 rfl ?_
  refine r_cVi (rest := [.int 0, .ref (G.2.2.1 + 170)]) (ct_X9_peak hs hE hT0 hT1 hf) dL_peak_5 wd_1168 zX9_peak wd_1169 wd_1170 rfl rfl rfl (fo9 (hE 0 (by decide))) rfl rfl ⟨Nat.le_of_ble_eq_true rfl, Nat.le_of_ble_eq_true rfl⟩ (Nat.le_of_ble_eq_true rfl) ⟨Nat.le_of_ble_eq_true rfl, Nat.le_of_ble_eq_true rfl⟩ ?_
  refine r_i2l dL_peak_8 ?_
  refine a_lastc 0 dL_peak_9 (hE 170 (by decide)) (vpc rfl) rfl ?_
  refine r_goto (tgt := 25) dL_peak_10 (by decide) ?_
  refine r_iconst (v := (0 : Int32)) dL_peak_25 (by decide) ?_
  exact r_iret dL_peak_26 rfl (Nat.le_of_ble_eq_true rfl) (Nat.le_of_ble_eq_true rfl) ⟨rfl, rfl, rfl⟩
set_option maxHeartbeats 4000000 in
set_option maxRecDepth 100000 in
theorem we_peak {G : gG} {lay : Nat → Nat × Nat} {T0 T1 : Nat} {Dd : Nat → Nat → UInt64} {I : gI} {J : gJ} {K : gI} {N : gJ} {sz n : Nat} {a1 : Int32} {a2 : Int32} (hs : G.1.stackTraces = false) (hE : gLay lay) (hT0 : gTank lay T0) (hT1 : gTank lay T1) {E : String} (hf : F_X9_peak n T0 T1 I a1 a2 = some (.inl E)) : gCt G mL_peak [.ref (G.2.2.1 + 0), .int a1, .int a2, .ref (G.2.2.1 + 170)] (fO G (lay, T0, T1, Dd) I J K N) sz (gVs (.int (thA E)) (fO G (lay, T0, T1, Dd) I J K N)) := by
  have hS := xsF_X9_peak (S := fun e => e = ISE ∨ e = IOB ∨ e = IAE) _ _ _ _ _ _ (Or.inl rfl) (Or.inr (Or.inl rfl)) (Or.inr (Or.inr (rfl))) E hf
  refine gCt.ofH [some (.ref (G.2.2.1 + 0)), some (.int a1), some (.int a2), some (.ref (G.2.2.1 + 170)), none] (h0 := (0, 10, 13, 21)) (ht := [(0, 10, 17, 13), (0, 10, 21, 15)]) (by decide +kernel) rfl hs rfl (Nat.le_of_ble_eq_true rfl) ?_
  refine r_aload_n dL_peak_0 rfl ?_
  refine r_iconst (v := (0 : Int32)) dL_peak_1 (by decide) ?_
  refine r_aload_n dL_peak_2 rfl ?_
  refine r_iload_n dL_peak_3 rfl ?_
  refine r_iload_n dL_peak_4 rfl ?_
  rcases hS with rfl | rfl | rfl
  · refine r_callVX (rest := [.int 0, .ref (G.2.2.1 + 170)]) (ct_X9_peak hs hE hT0 hT1 hf) dL_peak_5 wd_1168 zX9_peak wd_1169 wd_1170 rfl rfl rfl (fo9 (hE 0 (by decide))) rfl rfl ⟨Nat.le_of_ble_eq_true rfl, Nat.le_of_ble_eq_true rfl⟩ (Nat.le_of_ble_eq_true rfl) ⟨Nat.le_of_ble_eq_true rfl, Nat.le_of_ble_eq_true rfl⟩ (fun sz9 => ?_)
    refine x_catch (name := "java/lang/IllegalStateException") [] (0, 10, 13, 21) [(0, 10, 17, 13), (0, 10, 21, 15)] rfl hp0 (by decide) (by decide) wd_864 wd_875 (fun q9 => ?_)
    refine r_astore dL_peak_13 (by decide) rfl ?_
    refine r_iconst (v := (1 : Int32)) dL_peak_15 (by decide) ?_
    exact r_iret dL_peak_16 rfl (Nat.le_of_ble_eq_true rfl) (Nat.le_of_ble_eq_true rfl) ⟨rfl, rfl⟩
  · refine r_callVX (rest := [.int 0, .ref (G.2.2.1 + 170)]) (ct_X9_peak hs hE hT0 hT1 hf) dL_peak_5 wd_1168 zX9_peak wd_1169 wd_1170 rfl rfl rfl (fo9 (hE 0 (by decide))) rfl rfl ⟨Nat.le_of_ble_eq_true rfl, Nat.le_of_ble_eq_true rfl⟩ (Nat.le_of_ble_eq_true rfl) ⟨Nat.le_of_ble_eq_true rfl, Nat.le_of_ble_eq_true rfl⟩ (fun sz9 => ?_)
    refine x_catch (name := "java/lang/IndexOutOfBoundsException") [(0, 10, 13, 21)] (0, 10, 17, 13) [(0, 10, 21, 15)] rfl (hp1 (Or.inr ⟨by decide, "java/lang/IllegalStateException", wd_864, nc_12⟩)) (by decide) (by decide) wd_524 wd_532 (fun q9 => ?_)
    refine r_astore dL_peak_17 (by decide) rfl ?_
    refine r_iconst (v := (2 : Int32)) dL_peak_19 (by decide) ?_
    exact r_iret dL_peak_20 rfl (Nat.le_of_ble_eq_true rfl) (Nat.le_of_ble_eq_true rfl) ⟨rfl, rfl⟩
  · refine r_callVX (rest := [.int 0, .ref (G.2.2.1 + 170)]) (ct_X9_peak hs hE hT0 hT1 hf) dL_peak_5 wd_1168 zX9_peak wd_1169 wd_1170 rfl rfl rfl (fo9 (hE 0 (by decide))) rfl rfl ⟨Nat.le_of_ble_eq_true rfl, Nat.le_of_ble_eq_true rfl⟩ (Nat.le_of_ble_eq_true rfl) ⟨Nat.le_of_ble_eq_true rfl, Nat.le_of_ble_eq_true rfl⟩ (fun sz9 => ?_)
    refine x_catch (name := "java/lang/IllegalArgumentException") [(0, 10, 13, 21), (0, 10, 17, 13)] (0, 10, 21, 15) [] rfl (hp2 (Or.inr ⟨by decide, "java/lang/IllegalStateException", wd_864, nc_13⟩) (Or.inr ⟨by decide, "java/lang/IndexOutOfBoundsException", wd_524, nc_23⟩)) (by decide) (by decide) wd_525 wd_839 (fun q9 => ?_)
    refine r_astore dL_peak_21 (by decide) rfl ?_
    refine r_iconst (v := (3 : Int32)) dL_peak_23 (by decide) ?_
    exact r_iret dL_peak_24 rfl (Nat.le_of_ble_eq_true rfl) (Nat.le_of_ble_eq_true rfl) ⟨rfl, rfl⟩
set_option maxHeartbeats 4000000 in
set_option maxRecDepth 100000 in
theorem wo_crossings {G : gG} {lay : Nat → Nat × Nat} {T0 T1 : Nat} {Dd : Nat → Nat → UInt64} {I : gI} {J : gJ} {K : gI} {N : gJ} {sz n : Nat} {a1 : Int32} {a2 : Int32} (hs : G.1.stackTraces = false) (hE : gLay lay) (hT0 : gTank lay T0) (hT1 : gTank lay T1) {v : Int32 × gI} (hf : F_X9_crossings n T0 T1 I a1 a2 = some (.inr v)) : gCt G mL_crossings [.ref (G.2.2.1 + 0), .int a1, .int a2, .ref (G.2.2.1 + 170)] (fO G (lay, T0, T1, Dd) I J K N) sz (gR (some (.int 0)) (fO G (lay, T0, T1, Dd) v.2 (sJ J 170 0 (v.1).toInt64) K N) sz) := by
  refine gCt.ofH [some (.ref (G.2.2.1 + 0)), some (.int a1), some (.int a2), some (.ref (G.2.2.1 + 170)), none] (h0 := (0, 10, 13, 21)) (ht := [(0, 10, 17, 13), (0, 10, 21, 15)]) (by decide +kernel) rfl hs rfl (Nat.le_of_ble_eq_true rfl) ?_
  refine r_aload_n dL_crossings_0 rfl ?_
  refine r_iconst (v := (0 : Int32)) dL_crossings_1 (by decide) ?_
  refine r_aload_n dL_crossings_2 rfl ?_
  refine r_iload_n dL_crossings_3 rfl ?_
  refine r_iload_n dL_crossings_4 rfl ?_
  refine r_cVi (rest := [.int 0, .ref (G.2.2.1 + 170)]) (ct_X9_crossings hs hE hT0 hT1 hf) dL_crossings_5 wd_1183 zX9_crossings wd_1184 wd_1185 rfl rfl rfl (fo9 (hE 0 (by decide))) rfl rfl ⟨Nat.le_of_ble_eq_true rfl, Nat.le_of_ble_eq_true rfl⟩ (Nat.le_of_ble_eq_true rfl) ⟨Nat.le_of_ble_eq_true rfl, Nat.le_of_ble_eq_true rfl⟩ ?_
  refine r_i2l dL_crossings_8 ?_
  refine a_lastc 0 dL_crossings_9 (hE 170 (by decide)) (vpc rfl) rfl ?_
  refine r_goto (tgt := 25) dL_crossings_10 (by decide) ?_
  refine r_iconst (v := (0 : Int32)) dL_crossings_25 (by decide) ?_
  exact r_iret dL_crossings_26 rfl (Nat.le_of_ble_eq_true rfl) (Nat.le_of_ble_eq_true rfl) ⟨rfl, rfl, rfl⟩
set_option maxHeartbeats 4000000 in
set_option maxRecDepth 100000 in
theorem we_crossings {G : gG} {lay : Nat → Nat × Nat} {T0 T1 : Nat} {Dd : Nat → Nat → UInt64} {I : gI} {J : gJ} {K : gI} {N : gJ} {sz n : Nat} {a1 : Int32} {a2 : Int32} (hs : G.1.stackTraces = false) (hE : gLay lay) (hT0 : gTank lay T0) (hT1 : gTank lay T1) {E : String} (hf : F_X9_crossings n T0 T1 I a1 a2 = some (.inl E)) : gCt G mL_crossings [.ref (G.2.2.1 + 0), .int a1, .int a2, .ref (G.2.2.1 + 170)] (fO G (lay, T0, T1, Dd) I J K N) sz (gVs (.int (thA E)) (fO G (lay, T0, T1, Dd) I J K N)) := by
  have hS := xsF_X9_crossings (S := fun e => e = ISE ∨ e = IOB ∨ e = IAE) _ _ _ _ _ _ (Or.inl rfl) (Or.inr (Or.inl rfl)) (Or.inr (Or.inr (rfl))) E hf
  refine gCt.ofH [some (.ref (G.2.2.1 + 0)), some (.int a1), some (.int a2), some (.ref (G.2.2.1 + 170)), none] (h0 := (0, 10, 13, 21)) (ht := [(0, 10, 17, 13), (0, 10, 21, 15)]) (by decide +kernel) rfl hs rfl (Nat.le_of_ble_eq_true rfl) ?_
  refine r_aload_n dL_crossings_0 rfl ?_
  refine r_iconst (v := (0 : Int32)) dL_crossings_1 (by decide) ?_
  refine r_aload_n dL_crossings_2 rfl ?_
  refine r_iload_n dL_crossings_3 rfl ?_
  refine r_iload_n dL_crossings_4 rfl ?_
  rcases hS with rfl | rfl | rfl
  · refine r_callVX (rest := [.int 0, .ref (G.2.2.1 + 170)]) (ct_X9_crossings hs hE hT0 hT1 hf) dL_crossings_5 wd_1183 zX9_crossings wd_1184 wd_1185 rfl rfl rfl (fo9 (hE 0 (by decide))) rfl rfl ⟨Nat.le_of_ble_eq_true rfl, Nat.le_of_ble_eq_true rfl⟩ (Nat.le_of_ble_eq_true rfl) ⟨Nat.le_of_ble_eq_true rfl, Nat.le_of_ble_eq_true rfl⟩ (fun sz9 => ?_)
    refine x_catch (name := "java/lang/IllegalStateException") [] (0, 10, 13, 21) [(0, 10, 17, 13), (0, 10, 21, 15)] rfl hp0 (by decide) (by decide) wd_864 wd_875 (fun q9 => ?_)
    refine r_astore dL_crossings_13 (by decide) rfl ?_
    refine r_iconst (v := (1 : Int32)) dL_crossings_15 (by decide) ?_
    exact r_iret dL_crossings_16 rfl (Nat.le_of_ble_eq_true rfl) (Nat.le_of_ble_eq_true rfl) ⟨rfl, rfl⟩
  · refine r_callVX (rest := [.int 0, .ref (G.2.2.1 + 170)]) (ct_X9_crossings hs hE hT0 hT1 hf) dL_crossings_5 wd_1183 zX9_crossings wd_1184 wd_1185 rfl rfl rfl (fo9 (hE 0 (by decide))) rfl rfl ⟨Nat.le_of_ble_eq_true rfl, Nat.le_of_ble_eq_true rfl⟩ (Nat.le_of_ble_eq_true rfl) ⟨Nat.le_of_ble_eq_true rfl, Nat.le_of_ble_eq_true rfl⟩ (fun sz9 => ?_)
    refine x_catch (name := "java/lang/IndexOutOfBoundsException") [(0, 10, 13, 21)] (0, 10, 17, 13) [(0, 10, 21, 15)] rfl (hp1 (Or.inr ⟨by decide, "java/lang/IllegalStateException", wd_864, nc_12⟩)) (by decide) (by decide) wd_524 wd_532 (fun q9 => ?_)
    refine r_astore dL_crossings_17 (by decide) rfl ?_
    refine r_iconst (v := (2 : Int32)) dL_crossings_19 (by decide) ?_
    exact r_iret dL_crossings_20 rfl (Nat.le_of_ble_eq_true rfl) (Nat.le_of_ble_eq_true rfl) ⟨rfl, rfl⟩
  · refine r_callVX (rest := [.int 0, .ref (G.2.2.1 + 170)]) (ct_X9_crossings hs hE hT0 hT1 hf) dL_crossings_5 wd_1183 zX9_crossings wd_1184 wd_1185 rfl rfl rfl (fo9 (hE 0 (by decide))) rfl rfl ⟨Nat.le_of_ble_eq_true rfl, Nat.le_of_ble_eq_true rfl⟩ (Nat.le_of_ble_eq_true rfl) ⟨Nat.le_of_ble_eq_true rfl, Nat.le_of_ble_eq_true rfl⟩ (fun sz9 => ?_)
    refine x_catch (name := "java/lang/IllegalArgumentException") [(0, 10, 13, 21), (0, 10, 17, 13)] (0, 10, 21, 15) [] rfl (hp2 (Or.inr ⟨by decide, "java/lang/IllegalStateException", wd_864, nc_13⟩) (Or.inr ⟨by decide, "java/lang/IndexOutOfBoundsException", wd_524, nc_23⟩)) (by decide) (by decide) wd_525 wd_839 (fun q9 => ?_)
    refine r_astore dL_crossings_21 (by decide) rfl ?_
    refine r_iconst (v := (3 : Int32)) dL_crossings_23 (by decide) ?_
    exact r_iret dL_crossings_24 rfl (Nat.le_of_ble_eq_true rfl) (Nat.le_of_ble_eq_true rfl) ⟨rfl, rfl⟩
set_option maxHeartbeats 4000000 in
set_option maxRecDepth 100000 in
theorem wo_rhythm {G : gG} {lay : Nat → Nat × Nat} {T0 T1 : Nat} {Dd : Nat → Nat → UInt64} {I : gI} {J : gJ} {K : gI} {N : gJ} {sz n : Nat} {a1 : Int32} {a2 : Int32} (hs : G.1.stackTraces = false) (hE : gLay lay) (hT0 : gTank lay T0) (hT1 : gTank lay T1) {v : Int32 × gI} (hf : F_X9_rhythm n T0 T1 I a1 a2 = some (.inr v)) : gCt G mL_rhythm [.ref (G.2.2.1 + 0), .int a1, .int a2, .ref (G.2.2.1 + 170)] (fO G (lay, T0, T1, Dd) I J K N) sz (gR (some (.int 0)) (fO G (lay, T0, T1, Dd) v.2 (sJ J 170 0 (v.1).toInt64) K N) sz) := by
  refine gCt.ofH [some (.ref (G.2.2.1 + 0)), some (.int a1), some (.int a2), some (.ref (G.2.2.1 + 170)), none] (h0 := (0, 10, 13, 21)) (ht := [(0, 10, 17, 13), (0, 10, 21, 15)]) (by decide +kernel) rfl hs rfl (Nat.le_of_ble_eq_true rfl) ?_
  refine r_aload_n dL_rhythm_0 rfl ?_
  refine r_iconst (v := (0 : Int32)) dL_rhythm_1 (by decide) ?_
  refine r_aload_n dL_rhythm_2 rfl ?_
  refine r_iload_n dL_rhythm_3 rfl ?_
  refine r_iload_n dL_rhythm_4 rfl ?_
  refine r_cVi (rest := [.int 0, .ref (G.2.2.1 + 170)]) (ct_X9_rhythm hs hE hT0 hT1 hf) dL_rhythm_5 wd_1190 zX9_rhythm wd_1191 wd_1192 rfl rfl rfl (fo9 (hE 0 (by decide))) rfl rfl ⟨Nat.le_of_ble_eq_true rfl, Nat.le_of_ble_eq_true rfl⟩ (Nat.le_of_ble_eq_true rfl) ⟨Nat.le_of_ble_eq_true rfl, Nat.le_of_ble_eq_true rfl⟩ ?_
  refine r_i2l dL_rhythm_8 ?_
  refine a_lastc 0 dL_rhythm_9 (hE 170 (by decide)) (vpc rfl) rfl ?_
  refine r_goto (tgt := 25) dL_rhythm_10 (by decide) ?_
  refine r_iconst (v := (0 : Int32)) dL_rhythm_25 (by decide) ?_
  exact r_iret dL_rhythm_26 rfl (Nat.le_of_ble_eq_true rfl) (Nat.le_of_ble_eq_true rfl) ⟨rfl, rfl, rfl⟩
set_option maxHeartbeats 4000000 in
set_option maxRecDepth 100000 in
theorem we_rhythm {G : gG} {lay : Nat → Nat × Nat} {T0 T1 : Nat} {Dd : Nat → Nat → UInt64} {I : gI} {J : gJ} {K : gI} {N : gJ} {sz n : Nat} {a1 : Int32} {a2 : Int32} (hs : G.1.stackTraces = false) (hE : gLay lay) (hT0 : gTank lay T0) (hT1 : gTank lay T1) {E : String} (hf : F_X9_rhythm n T0 T1 I a1 a2 = some (.inl E)) : gCt G mL_rhythm [.ref (G.2.2.1 + 0), .int a1, .int a2, .ref (G.2.2.1 + 170)] (fO G (lay, T0, T1, Dd) I J K N) sz (gVs (.int (thA E)) (fO G (lay, T0, T1, Dd) I J K N)) := by
  have hS := xsF_X9_rhythm (S := fun e => e = ISE ∨ e = IOB ∨ e = IAE) _ _ _ _ _ _ (Or.inl rfl) (Or.inr (Or.inl rfl)) (Or.inr (Or.inr (rfl))) E hf
  refine gCt.ofH [some (.ref (G.2.2.1 + 0)), some (.int a1), some (.int a2), some (.ref (G.2.2.1 + 170)), none] (h0 := (0, 10, 13, 21)) (ht := [(0, 10, 17, 13), (0, 10, 21, 15)]) (by decide +kernel) rfl hs rfl (Nat.le_of_ble_eq_true rfl) ?_
  refine r_aload_n dL_rhythm_0 rfl ?_
  refine r_iconst (v := (0 : Int32)) dL_rhythm_1 (by decide) ?_
  refine r_aload_n dL_rhythm_2 rfl ?_
  refine r_iload_n dL_rhythm_3 rfl ?_
  refine r_iload_n dL_rhythm_4 rfl ?_
  rcases hS with rfl | rfl | rfl
  · refine r_callVX (rest := [.int 0, .ref (G.2.2.1 + 170)]) (ct_X9_rhythm hs hE hT0 hT1 hf) dL_rhythm_5 wd_1190 zX9_rhythm wd_1191 wd_1192 rfl rfl rfl (fo9 (hE 0 (by decide))) rfl rfl ⟨Nat.le_of_ble_eq_true rfl, Nat.le_of_ble_eq_true rfl⟩ (Nat.le_of_ble_eq_true rfl) ⟨Nat.le_of_ble_eq_true rfl, Nat.le_of_ble_eq_true rfl⟩ (fun sz9 => ?_)
    refine x_catch (name := "java/lang/IllegalStateException") [] (0, 10, 13, 21) [(0, 10, 17, 13), (0, 10, 21, 15)] rfl hp0 (by decide) (by decide) wd_864 wd_875 (fun q9 => ?_)
    refine r_astore dL_rhythm_13 (by decide) rfl ?_
    refine r_iconst (v := (1 : Int32)) dL_rhythm_15 (by decide) ?_
    exact r_iret dL_rhythm_16 rfl (Nat.le_of_ble_eq_true rfl) (Nat.le_of_ble_eq_true rfl) ⟨rfl, rfl⟩
  · refine r_callVX (rest := [.int 0, .ref (G.2.2.1 + 170)]) (ct_X9_rhythm hs hE hT0 hT1 hf) dL_rhythm_5 wd_1190 zX9_rhythm wd_1191 wd_1192 rfl rfl rfl (fo9 (hE 0 (by decide))) rfl rfl ⟨Nat.le_of_ble_eq_true rfl, Nat.le_of_ble_eq_true rfl⟩ (Nat.le_of_ble_eq_true rfl) ⟨Nat.le_of_ble_eq_true rfl, Nat.le_of_ble_eq_true rfl⟩ (fun sz9 => ?_)
    refine x_catch (name := "java/lang/IndexOutOfBoundsException") [(0, 10, 13, 21)] (0, 10, 17, 13) [(0, 10, 21, 15)] rfl (hp1 (Or.inr ⟨by decide, "java/lang/IllegalStateException", wd_864, nc_12⟩)) (by decide) (by decide) wd_524 wd_532 (fun q9 => ?_)
    refine r_astore dL_rhythm_17 (by decide) rfl ?_
    refine r_iconst (v := (2 : Int32)) dL_rhythm_19 (by decide) ?_
    exact r_iret dL_rhythm_20 rfl (Nat.le_of_ble_eq_true rfl) (Nat.le_of_ble_eq_true rfl) ⟨rfl, rfl⟩
  · refine r_callVX (rest := [.int 0, .ref (G.2.2.1 + 170)]) (ct_X9_rhythm hs hE hT0 hT1 hf) dL_rhythm_5 wd_1190 zX9_rhythm wd_1191 wd_1192 rfl rfl rfl (fo9 (hE 0 (by decide))) rfl rfl ⟨Nat.le_of_ble_eq_true rfl, Nat.le_of_ble_eq_true rfl⟩ (Nat.le_of_ble_eq_true rfl) ⟨Nat.le_of_ble_eq_true rfl, Nat.le_of_ble_eq_true rfl⟩ (fun sz9 => ?_)
    refine x_catch (name := "java/lang/IllegalArgumentException") [(0, 10, 13, 21), (0, 10, 17, 13)] (0, 10, 21, 15) [] rfl (hp2 (Or.inr ⟨by decide, "java/lang/IllegalStateException", wd_864, nc_13⟩) (Or.inr ⟨by decide, "java/lang/IndexOutOfBoundsException", wd_524, nc_23⟩)) (by decide) (by decide) wd_525 wd_839 (fun q9 => ?_)
    refine r_astore dL_rhythm_21 (by decide) rfl ?_
    refine r_iconst (v := (3 : Int32)) dL_rhythm_23 (by decide) ?_
    exact r_iret dL_rhythm_24 rfl (Nat.le_of_ble_eq_true rfl) (Nat.le_of_ble_eq_true rfl) ⟨rfl, rfl⟩
set_option maxHeartbeats 4000000 in
set_option maxRecDepth 100000 in
theorem wo_isNode {G : gG} {lay : Nat → Nat × Nat} {T0 T1 : Nat} {Dd : Nat → Nat → UInt64} {I : gI} {J : gJ} {K : gI} {N : gJ} {sz n : Nat} {a1 : Int32} {a2 : Int32} {a3 : Int32} {a4 : Int32} (hs : G.1.stackTraces = false) (hE : gLay lay) (hT0 : gTank lay T0) (hT1 : gTank lay T1) {v : Int32} (hf : F_X9_isNode n T0 T1 I a1 a2 a3 a4 = some (.inr v)) : gCt G mL_isNode [.ref (G.2.2.1 + 0), .int a1, .int a2, .int a3, .int a4, .ref (G.2.2.1 + 170)] (fO G (lay, T0, T1, Dd) I J K N) sz (gR (some (.int 0)) (fO G (lay, T0, T1, Dd) I (sJ J 170 0 (if v = 0 then 0 else 1 : Int64)) K N) sz) := by
  refine gCt.ofH [some (.ref (G.2.2.1 + 0)), some (.int a1), some (.int a2), some (.int a3), some (.int a4), some (.ref (G.2.2.1 + 170)), none] (h0 := (0, 21, 24, 21)) (ht := [(0, 21, 28, 13), (0, 21, 32, 15)]) (by decide +kernel) rfl hs rfl (Nat.le_of_ble_eq_true rfl) ?_
  refine r_aload dL_isNode_0 rfl ?_
  refine r_iconst (v := (0 : Int32)) dL_isNode_2 (by decide) ?_
  refine r_aload_n dL_isNode_3 rfl ?_
  refine r_iload_n dL_isNode_4 rfl ?_
  refine r_iload_n dL_isNode_5 rfl ?_
  refine r_iload_n dL_isNode_6 rfl ?_
  refine r_iload dL_isNode_7 rfl ?_
  refine r_cVi (rest := [.int 0, .ref (G.2.2.1 + 170)]) (ct_X9_isNode hs hE hT0 hT1 hf) dL_isNode_9 wd_1201 zX9_isNode wd_1202 wd_1203 rfl rfl rfl (fo9 (hE 0 (by decide))) rfl rfl ⟨Nat.le_of_ble_eq_true rfl, Nat.le_of_ble_eq_true rfl⟩ (Nat.le_of_ble_eq_true rfl) ⟨Nat.le_of_ble_eq_true rfl, Nat.le_of_ble_eq_true rfl⟩ ?_
  refine r_if_eq (tgt := 19) dL_isNode_12 (by decide) (fun c => ?_) (fun c => ?_)
  · refine r_lconst (v := (0 : Int64)) dL_isNode_19 (by decide) ?_
    refine a_lastc 0 dL_isNode_20 (hE 170 (by decide)) (vpc rfl) rfl ?_
    refine r_goto (tgt := 36) dL_isNode_21 (by decide) ?_
    refine r_iconst (v := (0 : Int32)) dL_isNode_36 (by decide) ?_
    exact r_iret dL_isNode_37 rfl (Nat.le_of_ble_eq_true rfl) (Nat.le_of_ble_eq_true rfl) ⟨rfl, by rw [if_pos c], rfl⟩
  · refine r_lconst (v := (1 : Int64)) dL_isNode_15 (by decide) ?_
    refine r_goto (tgt := 20) dL_isNode_16 (by decide) ?_
    refine a_lastc 0 dL_isNode_20 (hE 170 (by decide)) (vpc rfl) rfl ?_
    refine r_goto (tgt := 36) dL_isNode_21 (by decide) ?_
    refine r_iconst (v := (0 : Int32)) dL_isNode_36 (by decide) ?_
    exact r_iret dL_isNode_37 rfl (Nat.le_of_ble_eq_true rfl) (Nat.le_of_ble_eq_true rfl) ⟨rfl, by rw [if_neg c], rfl⟩
set_option maxHeartbeats 4000000 in
set_option maxRecDepth 100000 in
theorem we_isNode {G : gG} {lay : Nat → Nat × Nat} {T0 T1 : Nat} {Dd : Nat → Nat → UInt64} {I : gI} {J : gJ} {K : gI} {N : gJ} {sz n : Nat} {a1 : Int32} {a2 : Int32} {a3 : Int32} {a4 : Int32} (hs : G.1.stackTraces = false) (hE : gLay lay) (hT0 : gTank lay T0) (hT1 : gTank lay T1) {E : String} (hf : F_X9_isNode n T0 T1 I a1 a2 a3 a4 = some (.inl E)) : gCt G mL_isNode [.ref (G.2.2.1 + 0), .int a1, .int a2, .int a3, .int a4, .ref (G.2.2.1 + 170)] (fO G (lay, T0, T1, Dd) I J K N) sz (gVs (.int (thA E)) (fO G (lay, T0, T1, Dd) I J K N)) := by
  have hS := xsF_X9_isNode (S := fun e => e = ISE ∨ e = IOB ∨ e = IAE) _ _ _ _ _ _ _ _ (Or.inl rfl) (Or.inr (Or.inl rfl)) (Or.inr (Or.inr (rfl))) E hf
  refine gCt.ofH [some (.ref (G.2.2.1 + 0)), some (.int a1), some (.int a2), some (.int a3), some (.int a4), some (.ref (G.2.2.1 + 170)), none] (h0 := (0, 21, 24, 21)) (ht := [(0, 21, 28, 13), (0, 21, 32, 15)]) (by decide +kernel) rfl hs rfl (Nat.le_of_ble_eq_true rfl) ?_
  refine r_aload dL_isNode_0 rfl ?_
  refine r_iconst (v := (0 : Int32)) dL_isNode_2 (by decide) ?_
  refine r_aload_n dL_isNode_3 rfl ?_
  refine r_iload_n dL_isNode_4 rfl ?_
  refine r_iload_n dL_isNode_5 rfl ?_
  refine r_iload_n dL_isNode_6 rfl ?_
  refine r_iload dL_isNode_7 rfl ?_
  rcases hS with rfl | rfl | rfl
  · refine r_callVX (rest := [.int 0, .ref (G.2.2.1 + 170)]) (ct_X9_isNode hs hE hT0 hT1 hf) dL_isNode_9 wd_1201 zX9_isNode wd_1202 wd_1203 rfl rfl rfl (fo9 (hE 0 (by decide))) rfl rfl ⟨Nat.le_of_ble_eq_true rfl, Nat.le_of_ble_eq_true rfl⟩ (Nat.le_of_ble_eq_true rfl) ⟨Nat.le_of_ble_eq_true rfl, Nat.le_of_ble_eq_true rfl⟩ (fun sz9 => ?_)
    refine x_catch (name := "java/lang/IllegalStateException") [] (0, 21, 24, 21) [(0, 21, 28, 13), (0, 21, 32, 15)] rfl hp0 (by decide) (by decide) wd_864 wd_875 (fun q9 => ?_)
    refine r_astore dL_isNode_24 (by decide) rfl ?_
    refine r_iconst (v := (1 : Int32)) dL_isNode_26 (by decide) ?_
    exact r_iret dL_isNode_27 rfl (Nat.le_of_ble_eq_true rfl) (Nat.le_of_ble_eq_true rfl) ⟨rfl, rfl⟩
  · refine r_callVX (rest := [.int 0, .ref (G.2.2.1 + 170)]) (ct_X9_isNode hs hE hT0 hT1 hf) dL_isNode_9 wd_1201 zX9_isNode wd_1202 wd_1203 rfl rfl rfl (fo9 (hE 0 (by decide))) rfl rfl ⟨Nat.le_of_ble_eq_true rfl, Nat.le_of_ble_eq_true rfl⟩ (Nat.le_of_ble_eq_true rfl) ⟨Nat.le_of_ble_eq_true rfl, Nat.le_of_ble_eq_true rfl⟩ (fun sz9 => ?_)
    refine x_catch (name := "java/lang/IndexOutOfBoundsException") [(0, 21, 24, 21)] (0, 21, 28, 13) [(0, 21, 32, 15)] rfl (hp1 (Or.inr ⟨by decide, "java/lang/IllegalStateException", wd_864, nc_12⟩)) (by decide) (by decide) wd_524 wd_532 (fun q9 => ?_)
    refine r_astore dL_isNode_28 (by decide) rfl ?_
    refine r_iconst (v := (2 : Int32)) dL_isNode_30 (by decide) ?_
    exact r_iret dL_isNode_31 rfl (Nat.le_of_ble_eq_true rfl) (Nat.le_of_ble_eq_true rfl) ⟨rfl, rfl⟩
  · refine r_callVX (rest := [.int 0, .ref (G.2.2.1 + 170)]) (ct_X9_isNode hs hE hT0 hT1 hf) dL_isNode_9 wd_1201 zX9_isNode wd_1202 wd_1203 rfl rfl rfl (fo9 (hE 0 (by decide))) rfl rfl ⟨Nat.le_of_ble_eq_true rfl, Nat.le_of_ble_eq_true rfl⟩ (Nat.le_of_ble_eq_true rfl) ⟨Nat.le_of_ble_eq_true rfl, Nat.le_of_ble_eq_true rfl⟩ (fun sz9 => ?_)
    refine x_catch (name := "java/lang/IllegalArgumentException") [(0, 21, 24, 21), (0, 21, 28, 13)] (0, 21, 32, 15) [] rfl (hp2 (Or.inr ⟨by decide, "java/lang/IllegalStateException", wd_864, nc_13⟩) (Or.inr ⟨by decide, "java/lang/IndexOutOfBoundsException", wd_524, nc_23⟩)) (by decide) (by decide) wd_525 wd_839 (fun q9 => ?_)
    refine r_astore dL_isNode_32 (by decide) rfl ?_
    refine r_iconst (v := (3 : Int32)) dL_isNode_34 (by decide) ?_
    exact r_iret dL_isNode_35 rfl (Nat.le_of_ble_eq_true rfl) (Nat.le_of_ble_eq_true rfl) ⟨rfl, rfl⟩
set_option maxHeartbeats 4000000 in
set_option maxRecDepth 100000 in
theorem wo_nodes {G : gG} {lay : Nat → Nat × Nat} {T0 T1 : Nat} {Dd : Nat → Nat → UInt64} {I : gI} {J : gJ} {K : gI} {N : gJ} {sz n : Nat} {a1 : Int32} {a2 : Int32} (hs : G.1.stackTraces = false) (hE : gLay lay) (hT0 : gTank lay T0) (hT1 : gTank lay T1) {v : Int32} (hf : F_X9_nodes n T0 T1 I a1 a2 = some (.inr v)) : gCt G mL_nodes [.ref (G.2.2.1 + 0), .int a1, .int a2, .ref (G.2.2.1 + 170)] (fO G (lay, T0, T1, Dd) I J K N) sz (gR (some (.int 0)) (fO G (lay, T0, T1, Dd) I (sJ J 170 0 (v).toInt64) K N) sz) := by
  refine gCt.ofH [some (.ref (G.2.2.1 + 0)), some (.int a1), some (.int a2), some (.ref (G.2.2.1 + 170)), none] (h0 := (0, 10, 13, 21)) (ht := [(0, 10, 17, 15)]) (by decide +kernel) rfl hs rfl (Nat.le_of_ble_eq_true rfl) ?_
  refine r_aload_n dL_nodes_0 rfl ?_
  refine r_iconst (v := (0 : Int32)) dL_nodes_1 (by decide) ?_
  refine r_aload_n dL_nodes_2 rfl ?_
  refine r_iload_n dL_nodes_3 rfl ?_
  refine r_iload_n dL_nodes_4 rfl ?_
  refine r_cVi (rest := [.int 0, .ref (G.2.2.1 + 170)]) (ct_X9_nodes hs hE hT0 hT1 hf) dL_nodes_5 wd_1214 zX9_nodes wd_1215 wd_1216 rfl rfl rfl (fo9 (hE 0 (by decide))) rfl rfl ⟨Nat.le_of_ble_eq_true rfl, Nat.le_of_ble_eq_true rfl⟩ (Nat.le_of_ble_eq_true rfl) ⟨Nat.le_of_ble_eq_true rfl, Nat.le_of_ble_eq_true rfl⟩ ?_
  refine r_i2l dL_nodes_8 ?_
  refine a_lastc 0 dL_nodes_9 (hE 170 (by decide)) (vpc rfl) rfl ?_
  refine r_goto (tgt := 21) dL_nodes_10 (by decide) ?_
  refine r_iconst (v := (0 : Int32)) dL_nodes_21 (by decide) ?_
  exact r_iret dL_nodes_22 rfl (Nat.le_of_ble_eq_true rfl) (Nat.le_of_ble_eq_true rfl) ⟨rfl, rfl, rfl⟩
set_option maxHeartbeats 4000000 in
set_option maxRecDepth 100000 in
theorem we_nodes {G : gG} {lay : Nat → Nat × Nat} {T0 T1 : Nat} {Dd : Nat → Nat → UInt64} {I : gI} {J : gJ} {K : gI} {N : gJ} {sz n : Nat} {a1 : Int32} {a2 : Int32} (hs : G.1.stackTraces = false) (hE : gLay lay) (hT0 : gTank lay T0) (hT1 : gTank lay T1) {E : String} (hf : F_X9_nodes n T0 T1 I a1 a2 = some (.inl E)) : gCt G mL_nodes [.ref (G.2.2.1 + 0), .int a1, .int a2, .ref (G.2.2.1 + 170)] (fO G (lay, T0, T1, Dd) I J K N) sz (gVs (.int (thB E)) (fO G (lay, T0, T1, Dd) I J K N)) := by
  have hS := xsF_X9_nodes (S := fun e => e = ISE ∨ e = IAE) _ _ _ _ _ _ (Or.inl rfl) (Or.inr (rfl)) E hf
  refine gCt.ofH [some (.ref (G.2.2.1 + 0)), some (.int a1), some (.int a2), some (.ref (G.2.2.1 + 170)), none] (h0 := (0, 10, 13, 21)) (ht := [(0, 10, 17, 15)]) (by decide +kernel) rfl hs rfl (Nat.le_of_ble_eq_true rfl) ?_
  refine r_aload_n dL_nodes_0 rfl ?_
  refine r_iconst (v := (0 : Int32)) dL_nodes_1 (by decide) ?_
  refine r_aload_n dL_nodes_2 rfl ?_
  refine r_iload_n dL_nodes_3 rfl ?_
  refine r_iload_n dL_nodes_4 rfl ?_
  rcases hS with rfl | rfl
  · refine r_callVX (rest := [.int 0, .ref (G.2.2.1 + 170)]) (ct_X9_nodes hs hE hT0 hT1 hf) dL_nodes_5 wd_1214 zX9_nodes wd_1215 wd_1216 rfl rfl rfl (fo9 (hE 0 (by decide))) rfl rfl ⟨Nat.le_of_ble_eq_true rfl, Nat.le_of_ble_eq_true rfl⟩ (Nat.le_of_ble_eq_true rfl) ⟨Nat.le_of_ble_eq_true rfl, Nat.le_of_ble_eq_true rfl⟩ (fun sz9 => ?_)
    refine x_catch (name := "java/lang/IllegalStateException") [] (0, 10, 13, 21) [(0, 10, 17, 15)] rfl hp0 (by decide) (by decide) wd_864 wd_875 (fun q9 => ?_)
    refine r_astore dL_nodes_13 (by decide) rfl ?_
    refine r_iconst (v := (1 : Int32)) dL_nodes_15 (by decide) ?_
    exact r_iret dL_nodes_16 rfl (Nat.le_of_ble_eq_true rfl) (Nat.le_of_ble_eq_true rfl) ⟨rfl, rfl⟩
  · refine r_callVX (rest := [.int 0, .ref (G.2.2.1 + 170)]) (ct_X9_nodes hs hE hT0 hT1 hf) dL_nodes_5 wd_1214 zX9_nodes wd_1215 wd_1216 rfl rfl rfl (fo9 (hE 0 (by decide))) rfl rfl ⟨Nat.le_of_ble_eq_true rfl, Nat.le_of_ble_eq_true rfl⟩ (Nat.le_of_ble_eq_true rfl) ⟨Nat.le_of_ble_eq_true rfl, Nat.le_of_ble_eq_true rfl⟩ (fun sz9 => ?_)
    refine x_catch (name := "java/lang/IllegalArgumentException") [(0, 10, 13, 21)] (0, 10, 17, 15) [] rfl (hp1 (Or.inr ⟨by decide, "java/lang/IllegalStateException", wd_864, nc_13⟩)) (by decide) (by decide) wd_525 wd_839 (fun q9 => ?_)
    refine r_astore dL_nodes_17 (by decide) rfl ?_
    refine r_iconst (v := (2 : Int32)) dL_nodes_19 (by decide) ?_
    exact r_iret dL_nodes_20 rfl (Nat.le_of_ble_eq_true rfl) (Nat.le_of_ble_eq_true rfl) ⟨rfl, rfl⟩
set_option maxHeartbeats 4000000 in
set_option maxRecDepth 100000 in
theorem wo_nodeRows {G : gG} {lay : Nat → Nat × Nat} {T0 T1 : Nat} {Dd : Nat → Nat → UInt64} {I : gI} {J : gJ} {K : gI} {N : gJ} {sz n : Nat} {a1 : Int32} {a2 : Int32} {a3 : Int32} (hs : G.1.stackTraces = false) (hE : gLay lay) (hT0 : gTank lay T0) (hT1 : gTank lay T1) {v : Int32} (hf : F_X9_nodeRows n T0 T1 I a1 a2 a3 = some (.inr v)) : gCt G mL_nodeRows [.ref (G.2.2.1 + 0), .int a1, .int a2, .int a3, .ref (G.2.2.1 + 170)] (fO G (lay, T0, T1, Dd) I J K N) sz (gR (some (.int 0)) (fO G (lay, T0, T1, Dd) I (sJ J 170 0 (v).toInt64) K N) sz) := by
  refine gCt.ofH [some (.ref (G.2.2.1 + 0)), some (.int a1), some (.int a2), some (.int a3), some (.ref (G.2.2.1 + 170)), none] (h0 := (0, 12, 15, 21)) (ht := [(0, 12, 19, 13), (0, 12, 23, 15)]) (by decide +kernel) rfl hs rfl (Nat.le_of_ble_eq_true rfl) ?_
  refine r_aload dL_nodeRows_0 rfl ?_
  refine r_iconst (v := (0 : Int32)) dL_nodeRows_2 (by decide) ?_
  refine r_aload_n dL_nodeRows_3 rfl ?_
  refine r_iload_n dL_nodeRows_4 rfl ?_
  refine r_iload_n dL_nodeRows_5 rfl ?_
  refine r_iload_n dL_nodeRows_6 rfl ?_
  refine r_cVi (rest := [.int 0, .ref (G.2.2.1 + 170)]) (ct_X9_nodeRows hs hE hT0 hT1 hf) dL_nodeRows_7 wd_1225 zX9_nodeRows wd_1226 wd_1227 rfl rfl rfl (fo9 (hE 0 (by decide))) rfl rfl ⟨Nat.le_of_ble_eq_true rfl, Nat.le_of_ble_eq_true rfl⟩ (Nat.le_of_ble_eq_true rfl) ⟨Nat.le_of_ble_eq_true rfl, Nat.le_of_ble_eq_true rfl⟩ ?_
  refine r_i2l dL_nodeRows_10 ?_
  refine a_lastc 0 dL_nodeRows_11 (hE 170 (by decide)) (vpc rfl) rfl ?_
  refine r_goto (tgt := 27) dL_nodeRows_12 (by decide) ?_
  refine r_iconst (v := (0 : Int32)) dL_nodeRows_27 (by decide) ?_
  exact r_iret dL_nodeRows_28 rfl (Nat.le_of_ble_eq_true rfl) (Nat.le_of_ble_eq_true rfl) ⟨rfl, rfl, rfl⟩
set_option maxHeartbeats 4000000 in
set_option maxRecDepth 100000 in
theorem we_nodeRows {G : gG} {lay : Nat → Nat × Nat} {T0 T1 : Nat} {Dd : Nat → Nat → UInt64} {I : gI} {J : gJ} {K : gI} {N : gJ} {sz n : Nat} {a1 : Int32} {a2 : Int32} {a3 : Int32} (hs : G.1.stackTraces = false) (hE : gLay lay) (hT0 : gTank lay T0) (hT1 : gTank lay T1) {E : String} (hf : F_X9_nodeRows n T0 T1 I a1 a2 a3 = some (.inl E)) : gCt G mL_nodeRows [.ref (G.2.2.1 + 0), .int a1, .int a2, .int a3, .ref (G.2.2.1 + 170)] (fO G (lay, T0, T1, Dd) I J K N) sz (gVs (.int (thA E)) (fO G (lay, T0, T1, Dd) I J K N)) := by
  have hS := xsF_X9_nodeRows (S := fun e => e = ISE ∨ e = IOB ∨ e = IAE) _ _ _ _ _ _ _ (Or.inl rfl) (Or.inr (Or.inl rfl)) (Or.inr (Or.inr (rfl))) E hf
  refine gCt.ofH [some (.ref (G.2.2.1 + 0)), some (.int a1), some (.int a2), some (.int a3), some (.ref (G.2.2.1 + 170)), none] (h0 := (0, 12, 15, 21)) (ht := [(0, 12, 19, 13), (0, 12, 23, 15)]) (by decide +kernel) rfl hs rfl (Nat.le_of_ble_eq_true rfl) ?_
  refine r_aload dL_nodeRows_0 rfl ?_
  refine r_iconst (v := (0 : Int32)) dL_nodeRows_2 (by decide) ?_
  refine r_aload_n dL_nodeRows_3 rfl ?_
  refine r_iload_n dL_nodeRows_4 rfl ?_
  refine r_iload_n dL_nodeRows_5 rfl ?_
  refine r_iload_n dL_nodeRows_6 rfl ?_
  rcases hS with rfl | rfl | rfl
  · refine r_callVX (rest := [.int 0, .ref (G.2.2.1 + 170)]) (ct_X9_nodeRows hs hE hT0 hT1 hf) dL_nodeRows_7 wd_1225 zX9_nodeRows wd_1226 wd_1227 rfl rfl rfl (fo9 (hE 0 (by decide))) rfl rfl ⟨Nat.le_of_ble_eq_true rfl, Nat.le_of_ble_eq_true rfl⟩ (Nat.le_of_ble_eq_true rfl) ⟨Nat.le_of_ble_eq_true rfl, Nat.le_of_ble_eq_true rfl⟩ (fun sz9 => ?_)
    refine x_catch (name := "java/lang/IllegalStateException") [] (0, 12, 15, 21) [(0, 12, 19, 13), (0, 12, 23, 15)] rfl hp0 (by decide) (by decide) wd_864 wd_875 (fun q9 => ?_)
    refine r_astore dL_nodeRows_15 (by decide) rfl ?_
    refine r_iconst (v := (1 : Int32)) dL_nodeRows_17 (by decide) ?_
    exact r_iret dL_nodeRows_18 rfl (Nat.le_of_ble_eq_true rfl) (Nat.le_of_ble_eq_true rfl) ⟨rfl, rfl⟩
  · refine r_callVX (rest := [.int 0, .ref (G.2.2.1 + 170)]) (ct_X9_nodeRows hs hE hT0 hT1 hf) dL_nodeRows_7 wd_1225 zX9_nodeRows wd_1226 wd_1227 rfl rfl rfl (fo9 (hE 0 (by decide))) rfl rfl ⟨Nat.le_of_ble_eq_true rfl, Nat.le_of_ble_eq_true rfl⟩ (Nat.le_of_ble_eq_true rfl) ⟨Nat.le_of_ble_eq_true rfl, Nat.le_of_ble_eq_true rfl⟩ (fun sz9 => ?_)
    refine x_catch (name := "java/lang/IndexOutOfBoundsException") [(0, 12, 15, 21)] (0, 12, 19, 13) [(0, 12, 23, 15)] rfl (hp1 (Or.inr ⟨by decide, "java/lang/IllegalStateException", wd_864, nc_12⟩)) (by decide) (by decide) wd_524 wd_532 (fun q9 => ?_)
    refine r_astore dL_nodeRows_19 (by decide) rfl ?_
    refine r_iconst (v := (2 : Int32)) dL_nodeRows_21 (by decide) ?_
    exact r_iret dL_nodeRows_22 rfl (Nat.le_of_ble_eq_true rfl) (Nat.le_of_ble_eq_true rfl) ⟨rfl, rfl⟩
  · refine r_callVX (rest := [.int 0, .ref (G.2.2.1 + 170)]) (ct_X9_nodeRows hs hE hT0 hT1 hf) dL_nodeRows_7 wd_1225 zX9_nodeRows wd_1226 wd_1227 rfl rfl rfl (fo9 (hE 0 (by decide))) rfl rfl ⟨Nat.le_of_ble_eq_true rfl, Nat.le_of_ble_eq_true rfl⟩ (Nat.le_of_ble_eq_true rfl) ⟨Nat.le_of_ble_eq_true rfl, Nat.le_of_ble_eq_true rfl⟩ (fun sz9 => ?_)
    refine x_catch (name := "java/lang/IllegalArgumentException") [(0, 12, 15, 21), (0, 12, 19, 13)] (0, 12, 23, 15) [] rfl (hp2 (Or.inr ⟨by decide, "java/lang/IllegalStateException", wd_864, nc_13⟩) (Or.inr ⟨by decide, "java/lang/IndexOutOfBoundsException", wd_524, nc_23⟩)) (by decide) (by decide) wd_525 wd_839 (fun q9 => ?_)
    refine r_astore dL_nodeRows_23 (by decide) rfl ?_
    refine r_iconst (v := (3 : Int32)) dL_nodeRows_25 (by decide) ?_
    exact r_iret dL_nodeRows_26 rfl (Nat.le_of_ble_eq_true rfl) (Nat.le_of_ble_eq_true rfl) ⟨rfl, rfl⟩
set_option maxHeartbeats 4000000 in
set_option maxRecDepth 100000 in
theorem wo_nodeGroups {G : gG} {lay : Nat → Nat × Nat} {T0 T1 : Nat} {Dd : Nat → Nat → UInt64} {I : gI} {J : gJ} {K : gI} {N : gJ} {sz n : Nat} {a1 : Int32} {a2 : Int32} (hs : G.1.stackTraces = false) (hE : gLay lay) (hT0 : gTank lay T0) (hT1 : gTank lay T1) {v : Int32 × gI} (hf : F_X9_nodeGroups n T0 T1 I a1 a2 = some (.inr v)) : gCt G mL_nodeGroups [.ref (G.2.2.1 + 0), .int a1, .int a2, .ref (G.2.2.1 + 170)] (fO G (lay, T0, T1, Dd) I J K N) sz (gR (some (.int 0)) (fO G (lay, T0, T1, Dd) v.2 (sJ J 170 0 (v.1).toInt64) K N) sz) := by
  refine gCt.ofH [some (.ref (G.2.2.1 + 0)), some (.int a1), some (.int a2), some (.ref (G.2.2.1 + 170)), none] (h0 := (0, 10, 13, 21)) (ht := [(0, 10, 17, 15)]) (by decide +kernel) rfl hs rfl (Nat.le_of_ble_eq_true rfl) ?_
  refine r_aload_n dL_nodeGroups_0 rfl ?_
  refine r_iconst (v := (0 : Int32)) dL_nodeGroups_1 (by decide) ?_
  refine r_aload_n dL_nodeGroups_2 rfl ?_
  refine r_iload_n dL_nodeGroups_3 rfl ?_
  refine r_iload_n dL_nodeGroups_4 rfl ?_
  refine r_cVi (rest := [.int 0, .ref (G.2.2.1 + 170)]) (ct_X9_nodeGroups hs hE hT0 hT1 hf) dL_nodeGroups_5 wd_1236 zX9_nodeGroups wd_1237 wd_1238 rfl rfl rfl (fo9 (hE 0 (by decide))) rfl rfl ⟨Nat.le_of_ble_eq_true rfl, Nat.le_of_ble_eq_true rfl⟩ (Nat.le_of_ble_eq_true rfl) ⟨Nat.le_of_ble_eq_true rfl, Nat.le_of_ble_eq_true rfl⟩ ?_
  refine r_i2l dL_nodeGroups_8 ?_
  refine a_lastc 0 dL_nodeGroups_9 (hE 170 (by decide)) (vpc rfl) rfl ?_
  refine r_goto (tgt := 21) dL_nodeGroups_10 (by decide) ?_
  refine r_iconst (v := (0 : Int32)) dL_nodeGroups_21 (by decide) ?_
  exact r_iret dL_nodeGroups_22 rfl (Nat.le_of_ble_eq_true rfl) (Nat.le_of_ble_eq_true rfl) ⟨rfl, rfl, rfl⟩
