def L_X9_putBytes (n : Nat) (T0 T1 : Nat) (a1 : Int32) : Nat → Nat → Int32 → gI → Option (gI)
  | 0, _, _, _ => none
  | j + 1, 0, x2, I => (if x2 < 0 then some I else gv (I 0 1) 900 (L_X9_putBytes n T0 T1 a1 j 0 (x2 + (-8 : Int32)) (sI (sI I 1 (Int32.toNatClampNeg (I 0 1)) (vp_nar .byte (Int8.toInt32 (Int32.toInt8 ((Int32.toUInt32 a1 >>> (Int32.toUInt32 x2 &&& Int32.toUInt32 31)).toInt32))))) 0 1 (((sI I 1 (Int32.toNatClampNeg (I 0 1)) (vp_nar .byte (Int8.toInt32 (Int32.toInt8 ((Int32.toUInt32 a1 >>> (Int32.toUInt32 x2 &&& Int32.toUInt32 31)).toInt32))))) 0 1) + (1 : Int32)))))
  | _ + 1, _, _, _ => none
theorem L_X9_putBytes_e0 (n j : Nat) (T0 T1 : Nat) (a1 : Int32) (x2 : Int32) (I : gI) : L_X9_putBytes n T0 T1 a1 (j + 1) 0 x2 I = (if x2 < 0 then some I else gv (I 0 1) 900 (L_X9_putBytes n T0 T1 a1 j 0 (x2 + (-8 : Int32)) (sI (sI I 1 (Int32.toNatClampNeg (I 0 1)) (vp_nar .byte (Int8.toInt32 (Int32.toInt8 ((Int32.toUInt32 a1 >>> (Int32.toUInt32 x2 &&& Int32.toUInt32 31)).toInt32))))) 0 1 (((sI I 1 (Int32.toNatClampNeg (I 0 1)) (vp_nar .byte (Int8.toInt32 (Int32.toInt8 ((Int32.toUInt32 a1 >>> (Int32.toUInt32 x2 &&& Int32.toUInt32 31)).toInt32))))) 0 1) + (1 : Int32))))) := rfl
set_option maxHeartbeats 4000000 in
set_option maxRecDepth 100000 in
theorem cL_X9_putBytes {G : gG} {lay : Nat → Nat × Nat} {T0 T1 : Nat} {Dd : Nat → Nat → UInt64} {J : gJ} {K : gI} {N : gJ} {sz n : Nat} {a1 : Int32} (hs : G.1.stackTraces = false) (hE : gLay lay) (hT0 : gTank lay T0) (hT1 : gTank lay T1) : ∀ j : Nat, (∀ (x2 : Int32) (I : gI) (r : gI), L_X9_putBytes n T0 T1 a1 j 0 x2 I = some r → gAt G mX9_putBytes (gQp G mX9_putBytes (gR none (fO G (lay, T0, T1, Dd) r J K N) sz)) 3 [some (.ref (G.2.2.1 + 0)), some (.int a1), some (.int x2)] [] (fO G (lay, T0, T1, Dd) I J K N) sz 0 0) := by
  intro j
  induction j with
  | zero => exact fun _ _ _ hf => (by cases hf)
  | succ j ih =>
    refine ?_
    · intro x2 I r hf
      rw [L_X9_putBytes_e0] at hf
      refine r_iload_n dX9_putBytes_3 rfl ?_
      refine r_if_lt (tgt := 36) dX9_putBytes_4 (by decide) (fun c4 => ?_) (fun c4 => ?_)
      · replace hf := if_t hf c4
        have hr := Option.some.inj hf
        subst hr
        exact r_vret dX9_putBytes_36 rfl (Nat.le_of_ble_eq_true rfl) (Nat.le_of_ble_eq_true rfl) ⟨rfl, rfl, rfl⟩
      · replace hf := if_f hf c4
        refine r_aload_n dX9_putBytes_7 rfl ?_
        refine g9_0 dX9_putBytes_8 wd_356 (hE 0 (by decide)) ?_
        refine r_aload_n dX9_putBytes_11 rfl ?_
        refine g9_1 dX9_putBytes_12 wd_357 (hE 0 (by decide)) ?_
        refine r_iload_n dX9_putBytes_15 rfl ?_
        refine r_iload_n dX9_putBytes_16 rfl ?_
        refine r_iushr dX9_putBytes_17 ?_
        refine r_i2b dX9_putBytes_18 ?_
        obtain ⟨h19, hf⟩ := gv_of hf
        refine a_bast dX9_putBytes_19 (hE 1 (by decide)) h19 ?_
        refine r_aload_n dX9_putBytes_20 rfl ?_
        refine r_dup dX9_putBytes_21 rfl ?_
        refine g9_1 dX9_putBytes_22 wd_357 (hE 0 (by decide)) ?_
        refine r_iconst (v := (1 : Int32)) dX9_putBytes_25 (by decide) ?_
        refine r_iadd dX9_putBytes_26 ?_
        refine p9_1 dX9_putBytes_27 wd_357 (hE 0 (by decide)) ?_
        refine r_iincv (v := (x2 + (-8 : Int32))) dX9_putBytes_30 rfl rfl (by decide) rfl ?_
        refine r_goto (tgt := 3) dX9_putBytes_33 (by decide) ?_
        exact r_widen (k2 := 0) (n2 := 0) (Nat.le_of_ble_eq_true rfl) (Nat.le_of_ble_eq_true rfl) (r_mask [true, true, true] rfl (ih (x2 + (-8 : Int32)) (sI (sI I 1 (Int32.toNatClampNeg (I 0 1)) (vp_nar .byte (Int8.toInt32 (Int32.toInt8 ((Int32.toUInt32 a1 >>> (Int32.toUInt32 x2 &&& Int32.toUInt32 31)).toInt32))))) 0 1 (((sI I 1 (Int32.toNatClampNeg (I 0 1)) (vp_nar .byte (Int8.toInt32 (Int32.toInt8 ((Int32.toUInt32 a1 >>> (Int32.toUInt32 x2 &&& Int32.toUInt32 31)).toInt32))))) 0 1) + (1 : Int32))) r hf))
def F_X9_putBytes (n : Nat) (T0 T1 : Nat) (I : gI) (a1 : Int32) : Option (gI) := L_X9_putBytes n T0 T1 a1 n 0 (24 : Int32) I
set_option maxHeartbeats 4000000 in
set_option maxRecDepth 100000 in
theorem ct_X9_putBytes {G : gG} {lay : Nat → Nat × Nat} {T0 T1 : Nat} {Dd : Nat → Nat → UInt64} {I : gI} {J : gJ} {K : gI} {N : gJ} {sz n : Nat} {a1 : Int32} (hs : G.1.stackTraces = false) (hE : gLay lay) (hT0 : gTank lay T0) (hT1 : gTank lay T1) {r : gI} (hf : F_X9_putBytes n T0 T1 I a1 = some r) : gCt G mX9_putBytes [.ref (G.2.2.1 + 0), .int a1] (fO G (lay, T0, T1, Dd) I J K N) sz (gR none (fO G (lay, T0, T1, Dd) r J K N) sz) := by
  unfold F_X9_putBytes at hf
  refine gCt.of [some (.ref (G.2.2.1 + 0)), some (.int a1), none] (by decide +kernel) rfl hs rfl (Nat.le_of_ble_eq_true rfl) ?_
  refine r_bipush (v := (24 : Int32)) dX9_putBytes_0 (by decide) ?_
  refine r_istore_n dX9_putBytes_2 (by decide) rfl ?_
  exact r_widen (k2 := 0) (n2 := 0) (Nat.le_of_ble_eq_true rfl) (Nat.le_of_ble_eq_true rfl) (r_mask [true, true, true] rfl ((cL_X9_putBytes hs hE hT0 hT1 n) (24 : Int32) I r hf))
def F_X9_append (n : Nat) (T0 T1 : Nat) (I : gI) (a1 : Int32) (a2 : Int32) (a3 : Int32) (a4 : Int32) (a5 : Int32) : Option (Int32 × gI) := (if (I 0 1) ≤ (880 : Int32) then bd (F_X9_putBytes n T0 T1 I a1) (fun v14 => bd (F_X9_putBytes n T0 T1 v14 a2) (fun v19 => bd (F_X9_putBytes n T0 T1 v19 a3) (fun v24 => bd (F_X9_putBytes n T0 T1 v24 a4) (fun v30 => bd (F_X9_putBytes n T0 T1 v30 a5) (fun v36 => some ((v36 0 1), v36)))))) else some ((-1 : Int32), I))
set_option maxHeartbeats 4000000 in
set_option maxRecDepth 100000 in
theorem ct_X9_append {G : gG} {lay : Nat → Nat × Nat} {T0 T1 : Nat} {Dd : Nat → Nat → UInt64} {I : gI} {J : gJ} {K : gI} {N : gJ} {sz n : Nat} {a1 : Int32} {a2 : Int32} {a3 : Int32} {a4 : Int32} {a5 : Int32} (hs : G.1.stackTraces = false) (hE : gLay lay) (hT0 : gTank lay T0) (hT1 : gTank lay T1) {r : Int32 × gI} (hf : F_X9_append n T0 T1 I a1 a2 a3 a4 a5 = some r) : gCt G mX9_append [.ref (G.2.2.1 + 0), .int a1, .int a2, .int a3, .int a4, .int a5] (fO G (lay, T0, T1, Dd) I J K N) sz (gR (some (.int r.1)) (fO G (lay, T0, T1, Dd) r.2 J K N) sz) := by
  unfold F_X9_append at hf
  refine gCt.of [some (.ref (G.2.2.1 + 0)), some (.int a1), some (.int a2), some (.int a3), some (.int a4), some (.int a5)] (by decide +kernel) rfl hs rfl (Nat.le_of_ble_eq_true rfl) ?_
  refine r_aload_n dX9_append_0 rfl ?_
  refine g9_1 dX9_append_1 wd_357 (hE 0 (by decide)) ?_
  refine r_sipush (v := (880 : Int32)) dX9_append_4 (by decide) ?_
  refine r_icmp_le (tgt := 12) dX9_append_7 (by decide) (fun c7 => ?_) (fun c7 => ?_)
  · replace hf := if_t hf c7
    refine r_aload_n dX9_append_12 rfl ?_
    refine r_iload_n dX9_append_13 rfl ?_
    obtain ⟨v14, hc14, hf⟩ := bd_of hf
    refine r_cVv (rest := []) (ct_X9_putBytes hs hE hT0 hT1 hc14) dX9_append_14 wd_804 zX9_putBytes wd_806 wd_8 rfl  rfl rfl (fo9 (hE 0 (by decide))) rfl rfl ⟨Nat.le_of_ble_eq_true rfl, Nat.le_of_ble_eq_true rfl⟩ (Nat.le_of_ble_eq_true rfl) ⟨Nat.le_of_ble_eq_true rfl, Nat.le_of_ble_eq_true rfl⟩ ?_
    refine r_aload_n dX9_append_17 rfl ?_
    refine r_iload_n dX9_append_18 rfl ?_
    obtain ⟨v19, hc19, hf⟩ := bd_of hf
    refine r_cVv (rest := []) (ct_X9_putBytes hs hE hT0 hT1 hc19) dX9_append_19 wd_804 zX9_putBytes wd_806 wd_8 rfl  rfl rfl (fo9 (hE 0 (by decide))) rfl rfl ⟨Nat.le_of_ble_eq_true rfl, Nat.le_of_ble_eq_true rfl⟩ (Nat.le_of_ble_eq_true rfl) ⟨Nat.le_of_ble_eq_true rfl, Nat.le_of_ble_eq_true rfl⟩ ?_
    refine r_aload_n dX9_append_22 rfl ?_
    refine r_iload_n dX9_append_23 rfl ?_
    obtain ⟨v24, hc24, hf⟩ := bd_of hf
    refine r_cVv (rest := []) (ct_X9_putBytes hs hE hT0 hT1 hc24) dX9_append_24 wd_804 zX9_putBytes wd_806 wd_8 rfl  rfl rfl (fo9 (hE 0 (by decide))) rfl rfl ⟨Nat.le_of_ble_eq_true rfl, Nat.le_of_ble_eq_true rfl⟩ (Nat.le_of_ble_eq_true rfl) ⟨Nat.le_of_ble_eq_true rfl, Nat.le_of_ble_eq_true rfl⟩ ?_
    refine r_aload_n dX9_append_27 rfl ?_
    refine r_iload dX9_append_28 rfl ?_
    obtain ⟨v30, hc30, hf⟩ := bd_of hf
    refine r_cVv (rest := []) (ct_X9_putBytes hs hE hT0 hT1 hc30) dX9_append_30 wd_804 zX9_putBytes wd_806 wd_8 rfl  rfl rfl (fo9 (hE 0 (by decide))) rfl rfl ⟨Nat.le_of_ble_eq_true rfl, Nat.le_of_ble_eq_true rfl⟩ (Nat.le_of_ble_eq_true rfl) ⟨Nat.le_of_ble_eq_true rfl, Nat.le_of_ble_eq_true rfl⟩ ?_
    refine r_aload_n dX9_append_33 rfl ?_
    refine r_iload dX9_append_34 rfl ?_
    obtain ⟨v36, hc36, hf⟩ := bd_of hf
    refine r_cVv (rest := []) (ct_X9_putBytes hs hE hT0 hT1 hc36) dX9_append_36 wd_804 zX9_putBytes wd_806 wd_8 rfl  rfl rfl (fo9 (hE 0 (by decide))) rfl rfl ⟨Nat.le_of_ble_eq_true rfl, Nat.le_of_ble_eq_true rfl⟩ (Nat.le_of_ble_eq_true rfl) ⟨Nat.le_of_ble_eq_true rfl, Nat.le_of_ble_eq_true rfl⟩ ?_
    refine r_aload_n dX9_append_39 rfl ?_
    refine g9_1 dX9_append_40 wd_357 (hE 0 (by decide)) ?_
    have hr := Option.some.inj hf
    subst hr
    exact r_iret dX9_append_43 rfl (Nat.le_of_ble_eq_true rfl) (Nat.le_of_ble_eq_true rfl) ⟨rfl, rfl, rfl⟩
  · replace hf := if_f hf c7
    refine r_iconst (v := (-1 : Int32)) dX9_append_10 (by decide) ?_
    have hr := Option.some.inj hf
    subst hr
    exact r_iret dX9_append_11 rfl (Nat.le_of_ble_eq_true rfl) (Nat.le_of_ble_eq_true rfl) ⟨rfl, rfl, rfl⟩
def F_X9_time (n : Nat) (T0 T1 : Nat) (I : gI) : Option (Int32) := (if (I 0 4) = 0 then some (0 : Int32) else some (I 2 0))
set_option maxHeartbeats 4000000 in
set_option maxRecDepth 100000 in
theorem ct_X9_time {G : gG} {lay : Nat → Nat × Nat} {T0 T1 : Nat} {Dd : Nat → Nat → UInt64} {I : gI} {J : gJ} {K : gI} {N : gJ} {sz n : Nat} (hs : G.1.stackTraces = false) (hE : gLay lay) (hT0 : gTank lay T0) (hT1 : gTank lay T1) {r : Int32} (hf : F_X9_time n T0 T1 I = some r) : gCt G mX9_time [.ref (G.2.2.1 + 0)] (fO G (lay, T0, T1, Dd) I J K N) sz (gR (some (.int r)) (fO G (lay, T0, T1, Dd) I J K N) sz) := by
  unfold F_X9_time at hf
  refine gCt.of [some (.ref (G.2.2.1 + 0))] (by decide +kernel) rfl hs rfl (Nat.le_of_ble_eq_true rfl) ?_
  refine r_aload_n dX9_time_0 rfl ?_
  refine g9_4 dX9_time_1 wd_360 (hE 0 (by decide)) ?_
  refine r_if_eq (tgt := 17) dX9_time_4 (by decide) (fun c4 => ?_) (fun c4 => ?_)
  · replace hf := if_t hf c4
    refine r_iconst (v := (0 : Int32)) dX9_time_17 (by decide) ?_
    have hr := Option.some.inj hf
    subst hr
    exact r_iret dX9_time_18 rfl (Nat.le_of_ble_eq_true rfl) (Nat.le_of_ble_eq_true rfl) ⟨rfl, rfl, rfl⟩
  · replace hf := if_f hf c4
    refine r_aload_n dX9_time_7 rfl ?_
    refine g9_7 dX9_time_8 wd_363 (hE 0 (by decide)) ?_
    refine g6_0 dX9_time_11 wd_90 (gSt2 hE).1 ?_
    refine r_goto (tgt := 18) dX9_time_14 (by decide) ?_
    have hr := Option.some.inj hf
    subst hr
    exact r_iret dX9_time_18 rfl (Nat.le_of_ble_eq_true rfl) (Nat.le_of_ble_eq_true rfl) ⟨rfl, rfl, rfl⟩
def F_X9_needTank (n : Nat) (T0 T1 : Nat) (I : gI) : Option (String ⊕ (Unit)) := (if (I 0 4) = 0 then some (.inl "java/lang/IllegalStateException") else some (.inr ()))
set_option maxHeartbeats 4000000 in
set_option maxRecDepth 100000 in
theorem ct_X9_needTank {G : gG} {lay : Nat → Nat × Nat} {T0 T1 : Nat} {Dd : Nat → Nat → UInt64} {I : gI} {J : gJ} {K : gI} {N : gJ} {sz n : Nat} (hs : G.1.stackTraces = false) (hE : gLay lay) (hT0 : gTank lay T0) (hT1 : gTank lay T1) {r : Unit} (hf : F_X9_needTank n T0 T1 I = some (.inr r)) : gCt G mX9_needTank [.ref (G.2.2.1 + 0)] (fO G (lay, T0, T1, Dd) I J K N) sz (gR none (fO G (lay, T0, T1, Dd) I J K N) sz) := by
  unfold F_X9_needTank at hf
  refine gCt.of [some (.ref (G.2.2.1 + 0))] (by decide +kernel) rfl hs rfl (Nat.le_of_ble_eq_true rfl) ?_
  refine r_aload_n dX9_needTank_0 rfl ?_
  refine g9_4 dX9_needTank_1 wd_360 (hE 0 (by decide)) ?_
  refine r_if_ne (tgt := 18) dX9_needTank_4 (by decide) (fun c4 => ?_) (fun c4 => ?_)
  · replace hf := if_f hf c4
    have hr := Sum.inr.inj (Option.some.inj hf)
    subst hr
    exact r_vret dX9_needTank_18 rfl (Nat.le_of_ble_eq_true rfl) (Nat.le_of_ble_eq_true rfl) ⟨rfl, rfl, rfl⟩
  · replace hf := if_t hf c4
    exact (no_th hf).elim
def F_X9_openRows (n : Nat) (T0 T1 : Nat) (I : gI) : Option (String ⊕ (Int32)) := bd (F_X9_needTank n T0 T1 I) (fun v1 => sm v1 (fun e => some (.inl e)) (fun v1 => some (.inr (I 2 1))))
set_option maxHeartbeats 4000000 in
set_option maxRecDepth 100000 in
theorem ct_X9_openRows {G : gG} {lay : Nat → Nat × Nat} {T0 T1 : Nat} {Dd : Nat → Nat → UInt64} {I : gI} {J : gJ} {K : gI} {N : gJ} {sz n : Nat} (hs : G.1.stackTraces = false) (hE : gLay lay) (hT0 : gTank lay T0) (hT1 : gTank lay T1) {r : Int32} (hf : F_X9_openRows n T0 T1 I = some (.inr r)) : gCt G mX9_openRows [.ref (G.2.2.1 + 0)] (fO G (lay, T0, T1, Dd) I J K N) sz (gR (some (.int r)) (fO G (lay, T0, T1, Dd) I J K N) sz) := by
  unfold F_X9_openRows at hf
  refine gCt.of [some (.ref (G.2.2.1 + 0))] (by decide +kernel) rfl hs rfl (Nat.le_of_ble_eq_true rfl) ?_
  refine r_aload_n dX9_openRows_0 rfl ?_
  obtain ⟨v1, hc1, hf⟩ := bd_of hf
  rcases v1 with e1 | v1
  · exact (no_th hf).elim
  refine r_cVv (rest := []) (ct_X9_needTank hs hE hT0 hT1 hc1) dX9_openRows_1 wd_413 zX9_needTank wd_415 wd_0 rfl  rfl rfl (fo9 (hE 0 (by decide))) rfl rfl ⟨Nat.le_of_ble_eq_true rfl, Nat.le_of_ble_eq_true rfl⟩ (Nat.le_of_ble_eq_true rfl) ⟨Nat.le_of_ble_eq_true rfl, Nat.le_of_ble_eq_true rfl⟩ ?_
  refine r_aload_n dX9_openRows_4 rfl ?_
  refine g9_7 dX9_openRows_5 wd_363 (hE 0 (by decide)) ?_
  refine g6_1 dX9_openRows_8 wd_93 (gSt2 hE).1 ?_
  have hr := Sum.inr.inj (Option.some.inj hf)
  subst hr
  exact r_iret dX9_openRows_11 rfl (Nat.le_of_ble_eq_true rfl) (Nat.le_of_ble_eq_true rfl) ⟨rfl, rfl, rfl⟩
def F_X9_needRow (n : Nat) (T0 T1 : Nat) (I : gI) (a1 : Int32) : Option (String ⊕ (Unit)) := (if a1 < 0 then some (.inl "java/lang/IndexOutOfBoundsException") else (if a1 < (I T0 2) then some (.inr ()) else some (.inl "java/lang/IndexOutOfBoundsException")))
set_option maxHeartbeats 4000000 in
set_option maxRecDepth 100000 in
theorem ct_X9_needRow {G : gG} {lay : Nat → Nat × Nat} {T0 T1 : Nat} {Dd : Nat → Nat → UInt64} {I : gI} {J : gJ} {K : gI} {N : gJ} {sz n : Nat} {a1 : Int32} (hs : G.1.stackTraces = false) (hE : gLay lay) (hT0 : gTank lay T0) (hT1 : gTank lay T1) {r : Unit} (hf : F_X9_needRow n T0 T1 I a1 = some (.inr r)) : gCt G mX9_needRow [.ref (G.2.2.1 + 0), .int a1] (fO G (lay, T0, T1, Dd) I J K N) sz (gR none (fO G (lay, T0, T1, Dd) I J K N) sz) := by
  unfold F_X9_needRow at hf
  refine gCt.of [some (.ref (G.2.2.1 + 0)), some (.int a1)] (by decide +kernel) rfl hs rfl (Nat.le_of_ble_eq_true rfl) ?_
  refine r_iload_n dX9_needRow_0 rfl ?_
  refine r_if_lt (tgt := 15) dX9_needRow_1 (by decide) (fun c1 => ?_) (fun c1 => ?_)
  · replace hf := if_t hf c1
    exact (no_th hf).elim
  · replace hf := if_f hf c1
    refine r_iload_n dX9_needRow_4 rfl ?_
    refine r_aload_n dX9_needRow_5 rfl ?_
    refine g9_5 dX9_needRow_6 wd_361 (hE 0 (by decide)) ?_
    refine g7_2 dX9_needRow_9 wd_302 hT0.1 ?_
    refine r_icmp_lt (tgt := 26) dX9_needRow_12 (by decide) (fun c12 => ?_) (fun c12 => ?_)
    · replace hf := if_t hf c12
      have hr := Sum.inr.inj (Option.some.inj hf)
      subst hr
      exact r_vret dX9_needRow_26 rfl (Nat.le_of_ble_eq_true rfl) (Nat.le_of_ble_eq_true rfl) ⟨rfl, rfl, rfl⟩
    · replace hf := if_f hf c12
      exact (no_th hf).elim
def F_X9_isOpen (n : Nat) (T0 T1 : Nat) (I : gI) (a1 : Int32) : Option (String ⊕ (Int32)) := bd (F_X9_needTank n T0 T1 I) (fun v1 => sm v1 (fun e => some (.inl e)) (fun v1 => bd (F_X9_needRow n T0 T1 I a1) (fun v6 => sm v6 (fun e => some (.inl e)) (fun v6 => bd (F_X6_hasOpen n 2 I a1) (fun v14 => gd (v14 = 0 ∨ v14 = 1) (some (.inr v14)))))))
set_option maxHeartbeats 4000000 in
set_option maxRecDepth 100000 in
theorem ct_X9_isOpen {G : gG} {lay : Nat → Nat × Nat} {T0 T1 : Nat} {Dd : Nat → Nat → UInt64} {I : gI} {J : gJ} {K : gI} {N : gJ} {sz n : Nat} {a1 : Int32} (hs : G.1.stackTraces = false) (hE : gLay lay) (hT0 : gTank lay T0) (hT1 : gTank lay T1) {r : Int32} (hf : F_X9_isOpen n T0 T1 I a1 = some (.inr r)) : gCt G mX9_isOpen [.ref (G.2.2.1 + 0), .int a1] (fO G (lay, T0, T1, Dd) I J K N) sz (gR (some (.int r)) (fO G (lay, T0, T1, Dd) I J K N) sz) := by
  unfold F_X9_isOpen at hf
  refine gCt.of [some (.ref (G.2.2.1 + 0)), some (.int a1)] (by decide +kernel) rfl hs rfl (Nat.le_of_ble_eq_true rfl) ?_
  refine r_aload_n dX9_isOpen_0 rfl ?_
  obtain ⟨v1, hc1, hf⟩ := bd_of hf
  rcases v1 with e1 | v1
  · exact (no_th hf).elim
  refine r_cVv (rest := []) (ct_X9_needTank hs hE hT0 hT1 hc1) dX9_isOpen_1 wd_413 zX9_needTank wd_415 wd_0 rfl  rfl rfl (fo9 (hE 0 (by decide))) rfl rfl ⟨Nat.le_of_ble_eq_true rfl, Nat.le_of_ble_eq_true rfl⟩ (Nat.le_of_ble_eq_true rfl) ⟨Nat.le_of_ble_eq_true rfl, Nat.le_of_ble_eq_true rfl⟩ ?_
  refine r_aload_n dX9_isOpen_4 rfl ?_
  refine r_iload_n dX9_isOpen_5 rfl ?_
  obtain ⟨v6, hc6, hf⟩ := bd_of hf
  rcases v6 with e6 | v6
  · exact (no_th hf).elim
  refine r_cVv (rest := []) (ct_X9_needRow hs hE hT0 hT1 hc6) dX9_isOpen_6 wd_484 zX9_needRow wd_486 wd_2 rfl  rfl rfl (fo9 (hE 0 (by decide))) rfl rfl ⟨Nat.le_of_ble_eq_true rfl, Nat.le_of_ble_eq_true rfl⟩ (Nat.le_of_ble_eq_true rfl) ⟨Nat.le_of_ble_eq_true rfl, Nat.le_of_ble_eq_true rfl⟩ ?_
  refine r_aload_n dX9_isOpen_9 rfl ?_
  refine g9_7 dX9_isOpen_10 wd_363 (hE 0 (by decide)) ?_
  refine r_iload_n dX9_isOpen_13 rfl ?_
  obtain ⟨v14, hc14, hf⟩ := bd_of hf
  refine r_cVi (rest := []) (ct_X6_hasOpen hs hE (gSt2 hE) hc14) dX9_isOpen_14 wd_504 zX6_hasOpen wd_505 wd_506 rfl  rfl rfl (fo6 (gSt2 hE).1) rfl rfl ⟨Nat.le_of_ble_eq_true rfl, Nat.le_of_ble_eq_true rfl⟩ (Nat.le_of_ble_eq_true rfl) ⟨Nat.le_of_ble_eq_true rfl, Nat.le_of_ble_eq_true rfl⟩ ?_
  obtain ⟨hz, hf⟩ := gd_of hf
  have hr := Sum.inr.inj (Option.some.inj hf)
  subst hr
  exact r_zret dX9_isOpen_17 rfl (gB_nar hz) (Nat.le_of_ble_eq_true rfl) (Nat.le_of_ble_eq_true rfl) ⟨rfl, rfl, rfl⟩
def F_X9_needSource (n : Nat) (T0 T1 : Nat) (I : gI) (a1 : Int32) : Option (String ⊕ (Unit)) := (if a1 < 0 then some (.inl "java/lang/IndexOutOfBoundsException") else (if a1 < (I T0 5) then some (.inr ()) else some (.inl "java/lang/IndexOutOfBoundsException")))
set_option maxHeartbeats 4000000 in
set_option maxRecDepth 100000 in
theorem ct_X9_needSource {G : gG} {lay : Nat → Nat × Nat} {T0 T1 : Nat} {Dd : Nat → Nat → UInt64} {I : gI} {J : gJ} {K : gI} {N : gJ} {sz n : Nat} {a1 : Int32} (hs : G.1.stackTraces = false) (hE : gLay lay) (hT0 : gTank lay T0) (hT1 : gTank lay T1) {r : Unit} (hf : F_X9_needSource n T0 T1 I a1 = some (.inr r)) : gCt G mX9_needSource [.ref (G.2.2.1 + 0), .int a1] (fO G (lay, T0, T1, Dd) I J K N) sz (gR none (fO G (lay, T0, T1, Dd) I J K N) sz) := by
  unfold F_X9_needSource at hf
  refine gCt.of [some (.ref (G.2.2.1 + 0)), some (.int a1)] (by decide +kernel) rfl hs rfl (Nat.le_of_ble_eq_true rfl) ?_
  refine r_iload_n dX9_needSource_0 rfl ?_
  refine r_if_lt (tgt := 15) dX9_needSource_1 (by decide) (fun c1 => ?_) (fun c1 => ?_)
  · replace hf := if_t hf c1
    exact (no_th hf).elim
  · replace hf := if_f hf c1
    refine r_iload_n dX9_needSource_4 rfl ?_
    refine r_aload_n dX9_needSource_5 rfl ?_
    refine g9_5 dX9_needSource_6 wd_361 (hE 0 (by decide)) ?_
    refine g7_5 dX9_needSource_9 wd_310 hT0.1 ?_
    refine r_icmp_lt (tgt := 26) dX9_needSource_12 (by decide) (fun c12 => ?_) (fun c12 => ?_)
    · replace hf := if_t hf c12
      have hr := Sum.inr.inj (Option.some.inj hf)
      subst hr
      exact r_vret dX9_needSource_26 rfl (Nat.le_of_ble_eq_true rfl) (Nat.le_of_ble_eq_true rfl) ⟨rfl, rfl, rfl⟩
    · replace hf := if_f hf c12
      exact (no_th hf).elim
def F_X9_needRange (n : Nat) (a0 : Int32) (a1 : Int32) (a2 : Int32) : Option (String ⊕ (Unit)) := (if a0 < a1 then some (.inl "java/lang/IllegalArgumentException") else (if a0 ≤ a2 then some (.inr ()) else some (.inl "java/lang/IllegalArgumentException")))
set_option maxHeartbeats 4000000 in
set_option maxRecDepth 100000 in
theorem ct_X9_needRange {G : gG} {lay : Nat → Nat × Nat} {T0 T1 : Nat} {Dd : Nat → Nat → UInt64} {I : gI} {J : gJ} {K : gI} {N : gJ} {sz n : Nat} {a0 : Int32} {a1 : Int32} {a2 : Int32} (hs : G.1.stackTraces = false) (hE : gLay lay) {r : Unit} (hf : F_X9_needRange n a0 a1 a2 = some (.inr r)) : gCt G mX9_needRange [.int a0, .int a1, .int a2] (fO G (lay, T0, T1, Dd) I J K N) sz (gR none (fO G (lay, T0, T1, Dd) I J K N) sz) := by
  unfold F_X9_needRange at hf
  refine gCt.of [some (.int a0), some (.int a1), some (.int a2)] (by decide +kernel) rfl hs rfl (Nat.le_of_ble_eq_true rfl) ?_
  refine r_iload_n dX9_needRange_0 rfl ?_
  refine r_iload_n dX9_needRange_1 rfl ?_
  refine r_icmp_lt (tgt := 10) dX9_needRange_2 (by decide) (fun c2 => ?_) (fun c2 => ?_)
  · replace hf := if_t hf c2
    exact (no_th hf).elim
  · replace hf := if_f hf c2
    refine r_iload_n dX9_needRange_5 rfl ?_
    refine r_iload_n dX9_needRange_6 rfl ?_
    refine r_icmp_le (tgt := 21) dX9_needRange_7 (by decide) (fun c7 => ?_) (fun c7 => ?_)
    · replace hf := if_t hf c7
      have hr := Sum.inr.inj (Option.some.inj hf)
      subst hr
      exact r_vret dX9_needRange_21 rfl (Nat.le_of_ble_eq_true rfl) (Nat.le_of_ble_eq_true rfl) ⟨rfl, rfl, rfl⟩
    · replace hf := if_f hf c7
      exact (no_th hf).elim
def F_X9_sourceAt (n : Nat) (T0 T1 : Nat) (I : gI) (a1 : Int32) (a2 : Int32) (a3 : Int32) : Option (String ⊕ (Int32)) := bd (F_X9_needTank n T0 T1 I) (fun v1 => sm v1 (fun e => some (.inl e)) (fun v1 => bd (F_X9_needSource n T0 T1 I a1) (fun v6 => sm v6 (fun e => some (.inl e)) (fun v6 => bd (F_X9_needRange n a2 (0 : Int32) (1 : Int32)) (fun v12 => sm v12 (fun e => some (.inl e)) (fun v12 => bd (F_X9_needRange n a3 (0 : Int32) (9999 : Int32)) (fun v20 => sm v20 (fun e => some (.inl e)) (fun v20 => (if a2 = 0 then bd (F_X7_columnOf n T0 2 I a1 a3) (fun v37 => some (.inr v37)) else bd (F_X7_rowOf n T0 2 I a1 a3) (fun v53 => some (.inr v53)))))))))))
set_option maxHeartbeats 4000000 in
set_option maxRecDepth 100000 in
theorem ct_X9_sourceAt {G : gG} {lay : Nat → Nat × Nat} {T0 T1 : Nat} {Dd : Nat → Nat → UInt64} {I : gI} {J : gJ} {K : gI} {N : gJ} {sz n : Nat} {a1 : Int32} {a2 : Int32} {a3 : Int32} (hs : G.1.stackTraces = false) (hE : gLay lay) (hT0 : gTank lay T0) (hT1 : gTank lay T1) {r : Int32} (hf : F_X9_sourceAt n T0 T1 I a1 a2 a3 = some (.inr r)) : gCt G mX9_sourceAt [.ref (G.2.2.1 + 0), .int a1, .int a2, .int a3] (fO G (lay, T0, T1, Dd) I J K N) sz (gR (some (.int r)) (fO G (lay, T0, T1, Dd) I J K N) sz) := by
  unfold F_X9_sourceAt at hf
  refine gCt.of [some (.ref (G.2.2.1 + 0)), some (.int a1), some (.int a2), some (.int a3)] (by decide +kernel) rfl hs rfl (Nat.le_of_ble_eq_true rfl) ?_
  refine r_aload_n dX9_sourceAt_0 rfl ?_
  obtain ⟨v1, hc1, hf⟩ := bd_of hf
  rcases v1 with e1 | v1
  · exact (no_th hf).elim
  refine r_cVv (rest := []) (ct_X9_needTank hs hE hT0 hT1 hc1) dX9_sourceAt_1 wd_413 zX9_needTank wd_415 wd_0 rfl  rfl rfl (fo9 (hE 0 (by decide))) rfl rfl ⟨Nat.le_of_ble_eq_true rfl, Nat.le_of_ble_eq_true rfl⟩ (Nat.le_of_ble_eq_true rfl) ⟨Nat.le_of_ble_eq_true rfl, Nat.le_of_ble_eq_true rfl⟩ ?_
  refine r_aload_n dX9_sourceAt_4 rfl ?_
  refine r_iload_n dX9_sourceAt_5 rfl ?_
  obtain ⟨v6, hc6, hf⟩ := bd_of hf
  rcases v6 with e6 | v6
  · exact (no_th hf).elim
  refine r_cVv (rest := []) (ct_X9_needSource hs hE hT0 hT1 hc6) dX9_sourceAt_6 wd_512 zX9_needSource wd_514 wd_3 rfl  rfl rfl (fo9 (hE 0 (by decide))) rfl rfl ⟨Nat.le_of_ble_eq_true rfl, Nat.le_of_ble_eq_true rfl⟩ (Nat.le_of_ble_eq_true rfl) ⟨Nat.le_of_ble_eq_true rfl, Nat.le_of_ble_eq_true rfl⟩ ?_
  refine r_iload_n dX9_sourceAt_9 rfl ?_
  refine r_iconst (v := (0 : Int32)) dX9_sourceAt_10 (by decide) ?_
  refine r_iconst (v := (1 : Int32)) dX9_sourceAt_11 (by decide) ?_
  obtain ⟨v12, hc12, hf⟩ := bd_of hf
  rcases v12 with e12 | v12
  · exact (no_th hf).elim
  refine r_cSv (rest := []) (ct_X9_needRange hs hE hc12) dX9_sourceAt_12 wd_517 zX9_needRange wd_518 rfl  rfl rfl ⟨Nat.le_of_ble_eq_true rfl, Nat.le_of_ble_eq_true rfl⟩ (Nat.le_of_ble_eq_true rfl) ⟨Nat.le_of_ble_eq_true rfl, Nat.le_of_ble_eq_true rfl⟩ ?_
  refine r_iload_n dX9_sourceAt_15 rfl ?_
  refine r_iconst (v := (0 : Int32)) dX9_sourceAt_16 (by decide) ?_
  refine r_sipush (v := (9999 : Int32)) dX9_sourceAt_17 (by decide) ?_
  obtain ⟨v20, hc20, hf⟩ := bd_of hf
  rcases v20 with e20 | v20
  · exact (no_th hf).elim
  refine r_cSv (rest := []) (ct_X9_needRange hs hE hc20) dX9_sourceAt_20 wd_517 zX9_needRange wd_518 rfl  rfl rfl ⟨Nat.le_of_ble_eq_true rfl, Nat.le_of_ble_eq_true rfl⟩ (Nat.le_of_ble_eq_true rfl) ⟨Nat.le_of_ble_eq_true rfl, Nat.le_of_ble_eq_true rfl⟩ ?_
  refine r_iload_n dX9_sourceAt_23 rfl ?_
  refine r_if_ne (tgt := 43) dX9_sourceAt_24 (by decide) (fun c24 => ?_) (fun c24 => ?_)
  · replace hf := if_f hf c24
    refine r_aload_n dX9_sourceAt_43 rfl ?_
    refine g9_5 dX9_sourceAt_44 wd_361 (hE 0 (by decide)) ?_
    refine r_aload_n dX9_sourceAt_47 rfl ?_
    refine g9_7 dX9_sourceAt_48 wd_363 (hE 0 (by decide)) ?_
    refine r_iload_n dX9_sourceAt_51 rfl ?_
    refine r_iload_n dX9_sourceAt_52 rfl ?_
    obtain ⟨v53, hc53, hf⟩ := bd_of hf
    refine r_cVi (rest := []) (ct_X7_rowOf hs hE hT0 (gSt2 hE) hc53) dX9_sourceAt_53 wd_546 zX7_rowOf wd_547 wd_548 rfl  rfl rfl (fo7 hT0.1) rfl rfl ⟨Nat.le_of_ble_eq_true rfl, Nat.le_of_ble_eq_true rfl⟩ (Nat.le_of_ble_eq_true rfl) ⟨Nat.le_of_ble_eq_true rfl, Nat.le_of_ble_eq_true rfl⟩ ?_
    have hr := Sum.inr.inj (Option.some.inj hf)
    subst hr
    exact r_iret dX9_sourceAt_56 rfl (Nat.le_of_ble_eq_true rfl) (Nat.le_of_ble_eq_true rfl) ⟨rfl, rfl, rfl⟩
  · replace hf := if_t hf c24
    refine r_aload_n dX9_sourceAt_27 rfl ?_
    refine g9_5 dX9_sourceAt_28 wd_361 (hE 0 (by decide)) ?_
    refine r_aload_n dX9_sourceAt_31 rfl ?_
    refine g9_7 dX9_sourceAt_32 wd_363 (hE 0 (by decide)) ?_
    refine r_iload_n dX9_sourceAt_35 rfl ?_
    refine r_iload_n dX9_sourceAt_36 rfl ?_
    obtain ⟨v37, hc37, hf⟩ := bd_of hf
    refine r_cVi (rest := []) (ct_X7_columnOf hs hE hT0 (gSt2 hE) hc37) dX9_sourceAt_37 wd_536 zX7_columnOf wd_537 wd_538 rfl  rfl rfl (fo7 hT0.1) rfl rfl ⟨Nat.le_of_ble_eq_true rfl, Nat.le_of_ble_eq_true rfl⟩ (Nat.le_of_ble_eq_true rfl) ⟨Nat.le_of_ble_eq_true rfl, Nat.le_of_ble_eq_true rfl⟩ ?_
    refine r_goto (tgt := 56) dX9_sourceAt_40 (by decide) ?_
    have hr := Sum.inr.inj (Option.some.inj hf)
    subst hr
    exact r_iret dX9_sourceAt_56 rfl (Nat.le_of_ble_eq_true rfl) (Nat.le_of_ble_eq_true rfl) ⟨rfl, rfl, rfl⟩
def F_X9_property (n : Nat) (T0 T1 : Nat) (I : gI) (a1 : Int32) (a2 : Int32) : Option (String ⊕ (Int32)) := bd (F_X9_needTank n T0 T1 I) (fun v1 => sm v1 (fun e => some (.inl e)) (fun v1 => bd (F_X9_needSource n T0 T1 I a1) (fun v6 => sm v6 (fun e => some (.inl e)) (fun v6 => bd (F_X9_needRange n a2 (0 : Int32) (5 : Int32)) (fun v12 => sm v12 (fun e => some (.inl e)) (fun v12 => (if a2 = (0 : Int32) then gv a1 4 (some (.inr (I (2 + 2) (Int32.toNatClampNeg a1)))) else (if a2 = (1 : Int32) then gv a1 4 (some (.inr (I ((T0 + 1) + 5 + 3 * (Int32.toNatClampNeg a1)) 0))) else (if a2 = (2 : Int32) then gv a1 4 (some (.inr (I ((T0 + 1) + 5 + 3 * (Int32.toNatClampNeg a1)) 1))) else (if a2 = (3 : Int32) then gv a1 4 (some (.inr (I (2 + 3) (Int32.toNatClampNeg a1)))) else (if a2 = (4 : Int32) then gv a1 4 (some (.inr (I ((T0 + 1) + 5 + 3 * (Int32.toNatClampNeg a1)) 2))) else gv a1 4 (some (.inr (I ((T0 + 1) + 5 + 3 * (Int32.toNatClampNeg a1)) 3))))))))))))))
set_option maxHeartbeats 4000000 in
set_option maxRecDepth 100000 in
theorem ct_X9_property {G : gG} {lay : Nat → Nat × Nat} {T0 T1 : Nat} {Dd : Nat → Nat → UInt64} {I : gI} {J : gJ} {K : gI} {N : gJ} {sz n : Nat} {a1 : Int32} {a2 : Int32} (hs : G.1.stackTraces = false) (hE : gLay lay) (hT0 : gTank lay T0) (hT1 : gTank lay T1) {r : Int32} (hf : F_X9_property n T0 T1 I a1 a2 = some (.inr r)) : gCt G mX9_property [.ref (G.2.2.1 + 0), .int a1, .int a2] (fO G (lay, T0, T1, Dd) I J K N) sz (gR (some (.int r)) (fO G (lay, T0, T1, Dd) I J K N) sz) := by
  unfold F_X9_property at hf
  refine gCt.of [some (.ref (G.2.2.1 + 0)), some (.int a1), some (.int a2)] (by decide +kernel) rfl hs rfl (Nat.le_of_ble_eq_true rfl) ?_
  refine r_aload_n dX9_property_0 rfl ?_
  obtain ⟨v1, hc1, hf⟩ := bd_of hf
  rcases v1 with e1 | v1
  · exact (no_th hf).elim
  refine r_cVv (rest := []) (ct_X9_needTank hs hE hT0 hT1 hc1) dX9_property_1 wd_413 zX9_needTank wd_415 wd_0 rfl  rfl rfl (fo9 (hE 0 (by decide))) rfl rfl ⟨Nat.le_of_ble_eq_true rfl, Nat.le_of_ble_eq_true rfl⟩ (Nat.le_of_ble_eq_true rfl) ⟨Nat.le_of_ble_eq_true rfl, Nat.le_of_ble_eq_true rfl⟩ ?_
  refine r_aload_n dX9_property_4 rfl ?_
  refine r_iload_n dX9_property_5 rfl ?_
  obtain ⟨v6, hc6, hf⟩ := bd_of hf
  rcases v6 with e6 | v6
  · exact (no_th hf).elim
  refine r_cVv (rest := []) (ct_X9_needSource hs hE hT0 hT1 hc6) dX9_property_6 wd_512 zX9_needSource wd_514 wd_3 rfl  rfl rfl (fo9 (hE 0 (by decide))) rfl rfl ⟨Nat.le_of_ble_eq_true rfl, Nat.le_of_ble_eq_true rfl⟩ (Nat.le_of_ble_eq_true rfl) ⟨Nat.le_of_ble_eq_true rfl, Nat.le_of_ble_eq_true rfl⟩ ?_
  refine r_iload_n dX9_property_9 rfl ?_
  refine r_iconst (v := (0 : Int32)) dX9_property_10 (by decide) ?_
  refine r_iconst (v := (5 : Int32)) dX9_property_11 (by decide) ?_
  obtain ⟨v12, hc12, hf⟩ := bd_of hf
  rcases v12 with e12 | v12
  · exact (no_th hf).elim
  refine r_cSv (rest := []) (ct_X9_needRange hs hE hc12) dX9_property_12 wd_517 zX9_needRange wd_518 rfl  rfl rfl ⟨Nat.le_of_ble_eq_true rfl, Nat.le_of_ble_eq_true rfl⟩ (Nat.le_of_ble_eq_true rfl) ⟨Nat.le_of_ble_eq_true rfl, Nat.le_of_ble_eq_true rfl⟩ ?_
  refine r_iload_n dX9_property_15 rfl ?_
  by_cases c16_0 : a2 = (0 : Int32)
  · replace hf := if_t hf c16_0
    refine r_ti c16_0 ?_
    refine r_tableIn (tgt := 52) dX9_property_16 (by decide) (by decide) (off := 36) (by decide) (by decide) ?_
    refine r_aload_n dX9_property_52 rfl ?_
    refine g9_7 dX9_property_53 wd_363 (hE 0 (by decide)) ?_
    refine g6_3 dX9_property_56 wd_102 (gSt2 hE).1 ?_
    refine r_iload_n dX9_property_59 rfl ?_
    obtain ⟨h60, hf⟩ := gv_of hf
    refine a_iald dX9_property_60 (gSt2 hE).2.2.1 h60 ?_
    have hr := Sum.inr.inj (Option.some.inj hf)
    subst hr
    exact r_iret dX9_property_61 rfl (Nat.le_of_ble_eq_true rfl) (Nat.le_of_ble_eq_true rfl) ⟨rfl, rfl, rfl⟩
  replace hf := if_f hf c16_0
  by_cases c16_1 : a2 = (1 : Int32)
  · replace hf := if_t hf c16_1
    refine r_ti c16_1 ?_
    refine r_tableIn (tgt := 62) dX9_property_16 (by decide) (by decide) (off := 46) (by decide) (by decide) ?_
    refine r_aload_n dX9_property_62 rfl ?_
    refine g9_5 dX9_property_63 wd_361 (hE 0 (by decide)) ?_
    refine g7_6 dX9_property_66 wd_313 hT0.1 ?_
    refine r_iload_n dX9_property_69 rfl ?_
    obtain ⟨h70, hf⟩ := gv_of hf
    refine a_aald105 dX9_property_70 hT0.2.1 h70 ?_
    refine g8_0 dX9_property_71 wd_223 (hT0.2.2.2.2.2.2.1 _ (vp_lt h70)).1 ?_
    have hr := Sum.inr.inj (Option.some.inj hf)
    subst hr
    exact r_iret dX9_property_74 rfl (Nat.le_of_ble_eq_true rfl) (Nat.le_of_ble_eq_true rfl) ⟨rfl, rfl, rfl⟩
  replace hf := if_f hf c16_1
  by_cases c16_2 : a2 = (2 : Int32)
  · replace hf := if_t hf c16_2
    refine r_ti c16_2 ?_
    refine r_tableIn (tgt := 75) dX9_property_16 (by decide) (by decide) (off := 59) (by decide) (by decide) ?_
    refine r_aload_n dX9_property_75 rfl ?_
    refine g9_5 dX9_property_76 wd_361 (hE 0 (by decide)) ?_
    refine g7_6 dX9_property_79 wd_313 hT0.1 ?_
    refine r_iload_n dX9_property_82 rfl ?_
    obtain ⟨h83, hf⟩ := gv_of hf
    refine a_aald105 dX9_property_83 hT0.2.1 h83 ?_
    refine g8_1 dX9_property_84 wd_226 (hT0.2.2.2.2.2.2.1 _ (vp_lt h83)).1 ?_
    have hr := Sum.inr.inj (Option.some.inj hf)
    subst hr
    exact r_iret dX9_property_87 rfl (Nat.le_of_ble_eq_true rfl) (Nat.le_of_ble_eq_true rfl) ⟨rfl, rfl, rfl⟩
  replace hf := if_f hf c16_2
  by_cases c16_3 : a2 = (3 : Int32)
  · replace hf := if_t hf c16_3
    refine r_ti c16_3 ?_
    refine r_tableIn (tgt := 88) dX9_property_16 (by decide) (by decide) (off := 72) (by decide) (by decide) ?_
    refine r_aload_n dX9_property_88 rfl ?_
    refine g9_7 dX9_property_89 wd_363 (hE 0 (by decide)) ?_
    refine g6_4 dX9_property_92 wd_106 (gSt2 hE).1 ?_
    refine r_iload_n dX9_property_95 rfl ?_
    obtain ⟨h96, hf⟩ := gv_of hf
    refine a_iald dX9_property_96 (gSt2 hE).2.2.2.1 h96 ?_
    have hr := Sum.inr.inj (Option.some.inj hf)
    subst hr
    exact r_iret dX9_property_97 rfl (Nat.le_of_ble_eq_true rfl) (Nat.le_of_ble_eq_true rfl) ⟨rfl, rfl, rfl⟩
  replace hf := if_f hf c16_3
  by_cases c16_4 : a2 = (4 : Int32)
  · replace hf := if_t hf c16_4
    refine r_ti c16_4 ?_
    refine r_tableIn (tgt := 98) dX9_property_16 (by decide) (by decide) (off := 82) (by decide) (by decide) ?_
    refine r_aload_n dX9_property_98 rfl ?_
    refine g9_5 dX9_property_99 wd_361 (hE 0 (by decide)) ?_
    refine g7_6 dX9_property_102 wd_313 hT0.1 ?_
    refine r_iload_n dX9_property_105 rfl ?_
    obtain ⟨h106, hf⟩ := gv_of hf
    refine a_aald105 dX9_property_106 hT0.2.1 h106 ?_
    refine g8_2 dX9_property_107 wd_230 (hT0.2.2.2.2.2.2.1 _ (vp_lt h106)).1 ?_
    have hr := Sum.inr.inj (Option.some.inj hf)
    subst hr
    exact r_iret dX9_property_110 rfl (Nat.le_of_ble_eq_true rfl) (Nat.le_of_ble_eq_true rfl) ⟨rfl, rfl, rfl⟩
  replace hf := if_f hf c16_4
  refine r_tableOut (tgt := 111) dX9_property_16 (sw5 c16_0 c16_1 c16_2 c16_3 c16_4) (by decide) ?_
  refine r_aload_n dX9_property_111 rfl ?_
  refine g9_5 dX9_property_112 wd_361 (hE 0 (by decide)) ?_
  refine g7_6 dX9_property_115 wd_313 hT0.1 ?_
  refine r_iload_n dX9_property_118 rfl ?_
  obtain ⟨h119, hf⟩ := gv_of hf
  refine a_aald105 dX9_property_119 hT0.2.1 h119 ?_
  refine g8_3 dX9_property_120 wd_233 (hT0.2.2.2.2.2.2.1 _ (vp_lt h119)).1 ?_
  have hr := Sum.inr.inj (Option.some.inj hf)
  subst hr
  exact r_iret dX9_property_123 rfl (Nat.le_of_ble_eq_true rfl) (Nat.le_of_ble_eq_true rfl) ⟨rfl, rfl, rfl⟩
def F_X9_isOn (n : Nat) (T0 T1 : Nat) (I : gI) (a1 : Int32) : Option (String ⊕ (Int32)) := bd (F_X9_needTank n T0 T1 I) (fun v1 => sm v1 (fun e => some (.inl e)) (fun v1 => bd (F_X9_needSource n T0 T1 I a1) (fun v6 => sm v6 (fun e => some (.inl e)) (fun v6 => gv a1 4 (gd ((I (2 + 1) (Int32.toNatClampNeg a1)) = 0 ∨ (I (2 + 1) (Int32.toNatClampNeg a1)) = 1) (some (.inr (I (2 + 1) (Int32.toNatClampNeg a1)))))))))
set_option maxHeartbeats 4000000 in
set_option maxRecDepth 100000 in
theorem ct_X9_isOn {G : gG} {lay : Nat → Nat × Nat} {T0 T1 : Nat} {Dd : Nat → Nat → UInt64} {I : gI} {J : gJ} {K : gI} {N : gJ} {sz n : Nat} {a1 : Int32} (hs : G.1.stackTraces = false) (hE : gLay lay) (hT0 : gTank lay T0) (hT1 : gTank lay T1) {r : Int32} (hf : F_X9_isOn n T0 T1 I a1 = some (.inr r)) : gCt G mX9_isOn [.ref (G.2.2.1 + 0), .int a1] (fO G (lay, T0, T1, Dd) I J K N) sz (gR (some (.int r)) (fO G (lay, T0, T1, Dd) I J K N) sz) := by
  unfold F_X9_isOn at hf
  refine gCt.of [some (.ref (G.2.2.1 + 0)), some (.int a1)] (by decide +kernel) rfl hs rfl (Nat.le_of_ble_eq_true rfl) ?_
  refine r_aload_n dX9_isOn_0 rfl ?_
  obtain ⟨v1, hc1, hf⟩ := bd_of hf
  rcases v1 with e1 | v1
  · exact (no_th hf).elim
  refine r_cVv (rest := []) (ct_X9_needTank hs hE hT0 hT1 hc1) dX9_isOn_1 wd_413 zX9_needTank wd_415 wd_0 rfl  rfl rfl (fo9 (hE 0 (by decide))) rfl rfl ⟨Nat.le_of_ble_eq_true rfl, Nat.le_of_ble_eq_true rfl⟩ (Nat.le_of_ble_eq_true rfl) ⟨Nat.le_of_ble_eq_true rfl, Nat.le_of_ble_eq_true rfl⟩ ?_
  refine r_aload_n dX9_isOn_4 rfl ?_
  refine r_iload_n dX9_isOn_5 rfl ?_
  obtain ⟨v6, hc6, hf⟩ := bd_of hf
  rcases v6 with e6 | v6
  · exact (no_th hf).elim
  refine r_cVv (rest := []) (ct_X9_needSource hs hE hT0 hT1 hc6) dX9_isOn_6 wd_512 zX9_needSource wd_514 wd_3 rfl  rfl rfl (fo9 (hE 0 (by decide))) rfl rfl ⟨Nat.le_of_ble_eq_true rfl, Nat.le_of_ble_eq_true rfl⟩ (Nat.le_of_ble_eq_true rfl) ⟨Nat.le_of_ble_eq_true rfl, Nat.le_of_ble_eq_true rfl⟩ ?_
  refine r_aload_n dX9_isOn_9 rfl ?_
  refine g9_7 dX9_isOn_10 wd_363 (hE 0 (by decide)) ?_
  refine g6_2 dX9_isOn_13 wd_98 (gSt2 hE).1 ?_
  refine r_iload_n dX9_isOn_16 rfl ?_
  obtain ⟨h17, hf⟩ := gv_of hf
  refine a_zald dX9_isOn_17 (gSt2 hE).2.1 h17 ?_
  obtain ⟨hz, hf⟩ := gd_of hf
  have hr := Sum.inr.inj (Option.some.inj hf)
  subst hr
  exact r_zret dX9_isOn_18 rfl (gB_nar hz) (Nat.le_of_ble_eq_true rfl) (Nat.le_of_ble_eq_true rfl) ⟨rfl, rfl, rfl⟩
def F_X9_distance (n : Nat) (T0 T1 : Nat) (I : gI) (a1 : Int32) (a2 : Int32) : Option (String ⊕ (Int32)) := bd (F_X9_needRange n a1 (0 : Int32) (15 : Int32)) (fun v4 => sm v4 (fun e => some (.inl e)) (fun v4 => bd (F_X9_needRange n a2 (0 : Int32) (9 : Int32)) (fun v11 => sm v11 (fun e => some (.inl e)) (fun v11 => bd (F_X4_between n I a1 a2) (fun v23 => some (.inr v23))))))
set_option maxHeartbeats 4000000 in
set_option maxRecDepth 100000 in
theorem ct_X9_distance {G : gG} {lay : Nat → Nat × Nat} {T0 T1 : Nat} {Dd : Nat → Nat → UInt64} {I : gI} {J : gJ} {K : gI} {N : gJ} {sz n : Nat} {a1 : Int32} {a2 : Int32} (hs : G.1.stackTraces = false) (hE : gLay lay) (hT0 : gTank lay T0) (hT1 : gTank lay T1) {r : Int32} (hf : F_X9_distance n T0 T1 I a1 a2 = some (.inr r)) : gCt G mX9_distance [.ref (G.2.2.1 + 0), .int a1, .int a2] (fO G (lay, T0, T1, Dd) I J K N) sz (gR (some (.int r)) (fO G (lay, T0, T1, Dd) I J K N) sz) := by
  unfold F_X9_distance at hf
  refine gCt.of [some (.ref (G.2.2.1 + 0)), some (.int a1), some (.int a2)] (by decide +kernel) rfl hs rfl (Nat.le_of_ble_eq_true rfl) ?_
  refine r_iload_n dX9_distance_0 rfl ?_
  refine r_iconst (v := (0 : Int32)) dX9_distance_1 (by decide) ?_
  refine r_bipush (v := (15 : Int32)) dX9_distance_2 (by decide) ?_
  obtain ⟨v4, hc4, hf⟩ := bd_of hf
  rcases v4 with e4 | v4
  · exact (no_th hf).elim
  refine r_cSv (rest := []) (ct_X9_needRange hs hE hc4) dX9_distance_4 wd_517 zX9_needRange wd_518 rfl  rfl rfl ⟨Nat.le_of_ble_eq_true rfl, Nat.le_of_ble_eq_true rfl⟩ (Nat.le_of_ble_eq_true rfl) ⟨Nat.le_of_ble_eq_true rfl, Nat.le_of_ble_eq_true rfl⟩ ?_
  refine r_iload_n dX9_distance_7 rfl ?_
  refine r_iconst (v := (0 : Int32)) dX9_distance_8 (by decide) ?_
  refine r_bipush (v := (9 : Int32)) dX9_distance_9 (by decide) ?_
  obtain ⟨v11, hc11, hf⟩ := bd_of hf
  rcases v11 with e11 | v11
  · exact (no_th hf).elim
  refine r_cSv (rest := []) (ct_X9_needRange hs hE hc11) dX9_distance_11 wd_517 zX9_needRange wd_518 rfl  rfl rfl ⟨Nat.le_of_ble_eq_true rfl, Nat.le_of_ble_eq_true rfl⟩ (Nat.le_of_ble_eq_true rfl) ⟨Nat.le_of_ble_eq_true rfl, Nat.le_of_ble_eq_true rfl⟩ ?_
  refine r_aload_n dX9_distance_14 rfl ?_
  refine g9_5 dX9_distance_15 wd_361 (hE 0 (by decide)) ?_
  refine g7_0 dX9_distance_18 wd_296 hT0.1 ?_
  refine r_iload_n dX9_distance_21 rfl ?_
  refine r_iload_n dX9_distance_22 rfl ?_
  obtain ⟨v23, hc23, hf⟩ := bd_of hf
  refine r_cVi (rest := []) (ct_X4_between hs hE hc23) dX9_distance_23 wd_1106 zX4_between wd_591 wd_592 rfl  rfl rfl (fo4 (hE 93 (by decide))) rfl rfl ⟨Nat.le_of_ble_eq_true rfl, Nat.le_of_ble_eq_true rfl⟩ (Nat.le_of_ble_eq_true rfl) ⟨Nat.le_of_ble_eq_true rfl, Nat.le_of_ble_eq_true rfl⟩ ?_
  have hr := Sum.inr.inj (Option.some.inj hf)
  subst hr
  exact r_iret dX9_distance_26 rfl (Nat.le_of_ble_eq_true rfl) (Nat.le_of_ble_eq_true rfl) ⟨rfl, rfl, rfl⟩
def F_X9_needColumn (n : Nat) (T0 T1 : Nat) (I : gI) (a1 : Int32) : Option (String ⊕ (Unit)) := (if a1 < 0 then some (.inl "java/lang/IndexOutOfBoundsException") else (if a1 < (I T0 1) then some (.inr ()) else some (.inl "java/lang/IndexOutOfBoundsException")))
set_option maxHeartbeats 4000000 in
set_option maxRecDepth 100000 in
theorem ct_X9_needColumn {G : gG} {lay : Nat → Nat × Nat} {T0 T1 : Nat} {Dd : Nat → Nat → UInt64} {I : gI} {J : gJ} {K : gI} {N : gJ} {sz n : Nat} {a1 : Int32} (hs : G.1.stackTraces = false) (hE : gLay lay) (hT0 : gTank lay T0) (hT1 : gTank lay T1) {r : Unit} (hf : F_X9_needColumn n T0 T1 I a1 = some (.inr r)) : gCt G mX9_needColumn [.ref (G.2.2.1 + 0), .int a1] (fO G (lay, T0, T1, Dd) I J K N) sz (gR none (fO G (lay, T0, T1, Dd) I J K N) sz) := by
  unfold F_X9_needColumn at hf
  refine gCt.of [some (.ref (G.2.2.1 + 0)), some (.int a1)] (by decide +kernel) rfl hs rfl (Nat.le_of_ble_eq_true rfl) ?_
  refine r_iload_n dX9_needColumn_0 rfl ?_
  refine r_if_lt (tgt := 15) dX9_needColumn_1 (by decide) (fun c1 => ?_) (fun c1 => ?_)
  · replace hf := if_t hf c1
    exact (no_th hf).elim
  · replace hf := if_f hf c1
    refine r_iload_n dX9_needColumn_4 rfl ?_
    refine r_aload_n dX9_needColumn_5 rfl ?_
    refine g9_5 dX9_needColumn_6 wd_361 (hE 0 (by decide)) ?_
    refine g7_1 dX9_needColumn_9 wd_299 hT0.1 ?_
    refine r_icmp_lt (tgt := 26) dX9_needColumn_12 (by decide) (fun c12 => ?_) (fun c12 => ?_)
    · replace hf := if_t hf c12
      have hr := Sum.inr.inj (Option.some.inj hf)
      subst hr
      exact r_vret dX9_needColumn_26 rfl (Nat.le_of_ble_eq_true rfl) (Nat.le_of_ble_eq_true rfl) ⟨rfl, rfl, rfl⟩
    · replace hf := if_f hf c12
      exact (no_th hf).elim
def F_X9_needCell (n : Nat) (T0 T1 : Nat) (I : gI) (a1 : Int32) (a2 : Int32) : Option (String ⊕ (Unit)) := bd (F_X9_needColumn n T0 T1 I a1) (fun v2 => sm v2 (fun e => some (.inl e)) (fun v2 => bd (F_X9_needRow n T0 T1 I a2) (fun v7 => sm v7 (fun e => some (.inl e)) (fun v7 => some (.inr ())))))
set_option maxHeartbeats 4000000 in
set_option maxRecDepth 100000 in
theorem ct_X9_needCell {G : gG} {lay : Nat → Nat × Nat} {T0 T1 : Nat} {Dd : Nat → Nat → UInt64} {I : gI} {J : gJ} {K : gI} {N : gJ} {sz n : Nat} {a1 : Int32} {a2 : Int32} (hs : G.1.stackTraces = false) (hE : gLay lay) (hT0 : gTank lay T0) (hT1 : gTank lay T1) {r : Unit} (hf : F_X9_needCell n T0 T1 I a1 a2 = some (.inr r)) : gCt G mX9_needCell [.ref (G.2.2.1 + 0), .int a1, .int a2] (fO G (lay, T0, T1, Dd) I J K N) sz (gR none (fO G (lay, T0, T1, Dd) I J K N) sz) := by
  unfold F_X9_needCell at hf
  refine gCt.of [some (.ref (G.2.2.1 + 0)), some (.int a1), some (.int a2)] (by decide +kernel) rfl hs rfl (Nat.le_of_ble_eq_true rfl) ?_
  refine r_aload_n dX9_needCell_0 rfl ?_
  refine r_iload_n dX9_needCell_1 rfl ?_
  obtain ⟨v2, hc2, hf⟩ := bd_of hf
  rcases v2 with e2 | v2
  · exact (no_th hf).elim
  refine r_cVv (rest := []) (ct_X9_needColumn hs hE hT0 hT1 hc2) dX9_needCell_2 wd_566 zX9_needColumn wd_568 wd_5 rfl  rfl rfl (fo9 (hE 0 (by decide))) rfl rfl ⟨Nat.le_of_ble_eq_true rfl, Nat.le_of_ble_eq_true rfl⟩ (Nat.le_of_ble_eq_true rfl) ⟨Nat.le_of_ble_eq_true rfl, Nat.le_of_ble_eq_true rfl⟩ ?_
  refine r_aload_n dX9_needCell_5 rfl ?_
  refine r_iload_n dX9_needCell_6 rfl ?_
  obtain ⟨v7, hc7, hf⟩ := bd_of hf
  rcases v7 with e7 | v7
  · exact (no_th hf).elim
  refine r_cVv (rest := []) (ct_X9_needRow hs hE hT0 hT1 hc7) dX9_needCell_7 wd_484 zX9_needRow wd_486 wd_2 rfl  rfl rfl (fo9 (hE 0 (by decide))) rfl rfl ⟨Nat.le_of_ble_eq_true rfl, Nat.le_of_ble_eq_true rfl⟩ (Nat.le_of_ble_eq_true rfl) ⟨Nat.le_of_ble_eq_true rfl, Nat.le_of_ble_eq_true rfl⟩ ?_
  have hr := Sum.inr.inj (Option.some.inj hf)
  subst hr
  exact r_vret dX9_needCell_10 rfl (Nat.le_of_ble_eq_true rfl) (Nat.le_of_ble_eq_true rfl) ⟨rfl, rfl, rfl⟩
def F_X9_isBehind (n : Nat) (T0 T1 : Nat) (I : gI) (a1 : Int32) (a2 : Int32) (a3 : Int32) : Option (String ⊕ (Int32)) := bd (F_X9_needTank n T0 T1 I) (fun v1 => sm v1 (fun e => some (.inl e)) (fun v1 => bd (F_X9_needSource n T0 T1 I a1) (fun v6 => sm v6 (fun e => some (.inl e)) (fun v6 => bd (F_X9_needCell n T0 T1 I a2 a3) (fun v12 => sm v12 (fun e => some (.inl e)) (fun v12 => bd (F_X7_columnOf n T0 2 I a1 (I 2 0)) (fun v35 => bd (F_X7_isShadowed n T0 I v35 a2) (fun v39 => gd (v39 = 0 ∨ v39 = 1) (some (.inr v39))))))))))
set_option maxHeartbeats 4000000 in
set_option maxRecDepth 100000 in
theorem ct_X9_isBehind {G : gG} {lay : Nat → Nat × Nat} {T0 T1 : Nat} {Dd : Nat → Nat → UInt64} {I : gI} {J : gJ} {K : gI} {N : gJ} {sz n : Nat} {a1 : Int32} {a2 : Int32} {a3 : Int32} (hs : G.1.stackTraces = false) (hE : gLay lay) (hT0 : gTank lay T0) (hT1 : gTank lay T1) {r : Int32} (hf : F_X9_isBehind n T0 T1 I a1 a2 a3 = some (.inr r)) : gCt G mX9_isBehind [.ref (G.2.2.1 + 0), .int a1, .int a2, .int a3] (fO G (lay, T0, T1, Dd) I J K N) sz (gR (some (.int r)) (fO G (lay, T0, T1, Dd) I J K N) sz) := by
  unfold F_X9_isBehind at hf
  refine gCt.of [some (.ref (G.2.2.1 + 0)), some (.int a1), some (.int a2), some (.int a3)] (by decide +kernel) rfl hs rfl (Nat.le_of_ble_eq_true rfl) ?_
  refine r_aload_n dX9_isBehind_0 rfl ?_
  obtain ⟨v1, hc1, hf⟩ := bd_of hf
  rcases v1 with e1 | v1
  · exact (no_th hf).elim
  refine r_cVv (rest := []) (ct_X9_needTank hs hE hT0 hT1 hc1) dX9_isBehind_1 wd_413 zX9_needTank wd_415 wd_0 rfl  rfl rfl (fo9 (hE 0 (by decide))) rfl rfl ⟨Nat.le_of_ble_eq_true rfl, Nat.le_of_ble_eq_true rfl⟩ (Nat.le_of_ble_eq_true rfl) ⟨Nat.le_of_ble_eq_true rfl, Nat.le_of_ble_eq_true rfl⟩ ?_
  refine r_aload_n dX9_isBehind_4 rfl ?_
  refine r_iload_n dX9_isBehind_5 rfl ?_
  obtain ⟨v6, hc6, hf⟩ := bd_of hf
  rcases v6 with e6 | v6
  · exact (no_th hf).elim
  refine r_cVv (rest := []) (ct_X9_needSource hs hE hT0 hT1 hc6) dX9_isBehind_6 wd_512 zX9_needSource wd_514 wd_3 rfl  rfl rfl (fo9 (hE 0 (by decide))) rfl rfl ⟨Nat.le_of_ble_eq_true rfl, Nat.le_of_ble_eq_true rfl⟩ (Nat.le_of_ble_eq_true rfl) ⟨Nat.le_of_ble_eq_true rfl, Nat.le_of_ble_eq_true rfl⟩ ?_
  refine r_aload_n dX9_isBehind_9 rfl ?_
  refine r_iload_n dX9_isBehind_10 rfl ?_
  refine r_iload_n dX9_isBehind_11 rfl ?_
  obtain ⟨v12, hc12, hf⟩ := bd_of hf
  rcases v12 with e12 | v12
  · exact (no_th hf).elim
  refine r_cVv (rest := []) (ct_X9_needCell hs hE hT0 hT1 hc12) dX9_isBehind_12 wd_562 zX9_needCell wd_564 wd_4 rfl  rfl rfl (fo9 (hE 0 (by decide))) rfl rfl ⟨Nat.le_of_ble_eq_true rfl, Nat.le_of_ble_eq_true rfl⟩ (Nat.le_of_ble_eq_true rfl) ⟨Nat.le_of_ble_eq_true rfl, Nat.le_of_ble_eq_true rfl⟩ ?_
  refine r_aload_n dX9_isBehind_15 rfl ?_
  refine g9_5 dX9_isBehind_16 wd_361 (hE 0 (by decide)) ?_
  refine r_aload_n dX9_isBehind_19 rfl ?_
  refine g9_5 dX9_isBehind_20 wd_361 (hE 0 (by decide)) ?_
  refine r_aload_n dX9_isBehind_23 rfl ?_
  refine g9_7 dX9_isBehind_24 wd_363 (hE 0 (by decide)) ?_
  refine r_iload_n dX9_isBehind_27 rfl ?_
  refine r_aload_n dX9_isBehind_28 rfl ?_
  refine g9_7 dX9_isBehind_29 wd_363 (hE 0 (by decide)) ?_
  refine g6_0 dX9_isBehind_32 wd_90 (gSt2 hE).1 ?_
  obtain ⟨v35, hc35, hf⟩ := bd_of hf
  refine r_cVi (rest := [.ref (G.2.2.1 + T0)]) (ct_X7_columnOf hs hE hT0 (gSt2 hE) hc35) dX9_isBehind_35 wd_536 zX7_columnOf wd_537 wd_538 rfl  rfl rfl (fo7 hT0.1) rfl rfl ⟨Nat.le_of_ble_eq_true rfl, Nat.le_of_ble_eq_true rfl⟩ (Nat.le_of_ble_eq_true rfl) ⟨Nat.le_of_ble_eq_true rfl, Nat.le_of_ble_eq_true rfl⟩ ?_
  refine r_iload_n dX9_isBehind_38 rfl ?_
  obtain ⟨v39, hc39, hf⟩ := bd_of hf
  refine r_cVi (rest := []) (ct_X7_isShadowed hs hE hT0 hc39) dX9_isBehind_39 wd_1119 zX7_isShadowed wd_583 wd_584 rfl  rfl rfl (fo7 hT0.1) rfl rfl ⟨Nat.le_of_ble_eq_true rfl, Nat.le_of_ble_eq_true rfl⟩ (Nat.le_of_ble_eq_true rfl) ⟨Nat.le_of_ble_eq_true rfl, Nat.le_of_ble_eq_true rfl⟩ ?_
  obtain ⟨hz, hf⟩ := gd_of hf
  have hr := Sum.inr.inj (Option.some.inj hf)
  subst hr
  exact r_zret dX9_isBehind_42 rfl (gB_nar hz) (Nat.le_of_ble_eq_true rfl) (Nat.le_of_ble_eq_true rfl) ⟨rfl, rfl, rfl⟩
def F_X9_path (n : Nat) (T0 T1 : Nat) (I : gI) (a1 : Int32) (a2 : Int32) (a3 : Int32) (a4 : Int32) : Option (String ⊕ (Int32)) := bd (F_X9_needTank n T0 T1 I) (fun v1 => sm v1 (fun e => some (.inl e)) (fun v1 => bd (F_X9_needSource n T0 T1 I a1) (fun v6 => sm v6 (fun e => some (.inl e)) (fun v6 => bd (F_X9_needCell n T0 T1 I a2 a3) (fun v12 => sm v12 (fun e => some (.inl e)) (fun v12 => bd (F_X9_needRow n T0 T1 I a4) (fun v18 => sm v18 (fun e => some (.inl e)) (fun v18 => (if (I T0 4) = (-1 : Int32) then some (.inr (-1 : Int32)) else bd (F_X7_columnOf n T0 2 I a1 (I 2 0)) (fun v50 => bd (F_X7_rowOf n T0 2 I a1 (I 2 0)) (fun v71 => bd (F_X7_lengthThrough n T0 I a4 v50 v71 a2 a3) (fun v88 => some (.inr v88)))))))))))))
set_option maxHeartbeats 4000000 in
set_option maxRecDepth 100000 in
theorem ct_X9_path {G : gG} {lay : Nat → Nat × Nat} {T0 T1 : Nat} {Dd : Nat → Nat → UInt64} {I : gI} {J : gJ} {K : gI} {N : gJ} {sz n : Nat} {a1 : Int32} {a2 : Int32} {a3 : Int32} {a4 : Int32} (hs : G.1.stackTraces = false) (hE : gLay lay) (hT0 : gTank lay T0) (hT1 : gTank lay T1) {r : Int32} (hf : F_X9_path n T0 T1 I a1 a2 a3 a4 = some (.inr r)) : gCt G mX9_path [.ref (G.2.2.1 + 0), .int a1, .int a2, .int a3, .int a4] (fO G (lay, T0, T1, Dd) I J K N) sz (gR (some (.int r)) (fO G (lay, T0, T1, Dd) I J K N) sz) := by
  unfold F_X9_path at hf
  refine gCt.of [some (.ref (G.2.2.1 + 0)), some (.int a1), some (.int a2), some (.int a3), some (.int a4), none, none] (by decide +kernel) rfl hs rfl (Nat.le_of_ble_eq_true rfl) ?_
  refine r_aload_n dX9_path_0 rfl ?_
  obtain ⟨v1, hc1, hf⟩ := bd_of hf
  rcases v1 with e1 | v1
  · exact (no_th hf).elim
  refine r_cVv (rest := []) (ct_X9_needTank hs hE hT0 hT1 hc1) dX9_path_1 wd_413 zX9_needTank wd_415 wd_0 rfl  rfl rfl (fo9 (hE 0 (by decide))) rfl rfl ⟨Nat.le_of_ble_eq_true rfl, Nat.le_of_ble_eq_true rfl⟩ (Nat.le_of_ble_eq_true rfl) ⟨Nat.le_of_ble_eq_true rfl, Nat.le_of_ble_eq_true rfl⟩ ?_
  refine r_aload_n dX9_path_4 rfl ?_
  refine r_iload_n dX9_path_5 rfl ?_
  obtain ⟨v6, hc6, hf⟩ := bd_of hf
  rcases v6 with e6 | v6
  · exact (no_th hf).elim
  refine r_cVv (rest := []) (ct_X9_needSource hs hE hT0 hT1 hc6) dX9_path_6 wd_512 zX9_needSource wd_514 wd_3 rfl  rfl rfl (fo9 (hE 0 (by decide))) rfl rfl ⟨Nat.le_of_ble_eq_true rfl, Nat.le_of_ble_eq_true rfl⟩ (Nat.le_of_ble_eq_true rfl) ⟨Nat.le_of_ble_eq_true rfl, Nat.le_of_ble_eq_true rfl⟩ ?_
  refine r_aload_n dX9_path_9 rfl ?_
  refine r_iload_n dX9_path_10 rfl ?_
  refine r_iload_n dX9_path_11 rfl ?_
  obtain ⟨v12, hc12, hf⟩ := bd_of hf
  rcases v12 with e12 | v12
  · exact (no_th hf).elim
  refine r_cVv (rest := []) (ct_X9_needCell hs hE hT0 hT1 hc12) dX9_path_12 wd_562 zX9_needCell wd_564 wd_4 rfl  rfl rfl (fo9 (hE 0 (by decide))) rfl rfl ⟨Nat.le_of_ble_eq_true rfl, Nat.le_of_ble_eq_true rfl⟩ (Nat.le_of_ble_eq_true rfl) ⟨Nat.le_of_ble_eq_true rfl, Nat.le_of_ble_eq_true rfl⟩ ?_
  refine r_aload_n dX9_path_15 rfl ?_
  refine r_iload dX9_path_16 rfl ?_
  obtain ⟨v18, hc18, hf⟩ := bd_of hf
  rcases v18 with e18 | v18
  · exact (no_th hf).elim
  refine r_cVv (rest := []) (ct_X9_needRow hs hE hT0 hT1 hc18) dX9_path_18 wd_484 zX9_needRow wd_486 wd_2 rfl  rfl rfl (fo9 (hE 0 (by decide))) rfl rfl ⟨Nat.le_of_ble_eq_true rfl, Nat.le_of_ble_eq_true rfl⟩ (Nat.le_of_ble_eq_true rfl) ⟨Nat.le_of_ble_eq_true rfl, Nat.le_of_ble_eq_true rfl⟩ ?_
  refine r_aload_n dX9_path_21 rfl ?_
  refine g9_5 dX9_path_22 wd_361 (hE 0 (by decide)) ?_
  refine g7_4 dX9_path_25 wd_307 hT0.1 ?_
  refine r_iconst (v := (-1 : Int32)) dX9_path_28 (by decide) ?_
  refine r_icmp_ne (tgt := 34) dX9_path_29 (by decide) (fun c29 => ?_) (fun c29 => ?_)
  · replace hf := if_f hf c29
    refine r_aload_n dX9_path_34 rfl ?_
    refine g9_5 dX9_path_35 wd_361 (hE 0 (by decide)) ?_
    refine r_aload_n dX9_path_38 rfl ?_
    refine g9_7 dX9_path_39 wd_363 (hE 0 (by decide)) ?_
    refine r_iload_n dX9_path_42 rfl ?_
    refine r_aload_n dX9_path_43 rfl ?_
    refine g9_7 dX9_path_44 wd_363 (hE 0 (by decide)) ?_
    refine g6_0 dX9_path_47 wd_90 (gSt2 hE).1 ?_
    obtain ⟨v50, hc50, hf⟩ := bd_of hf
    refine r_cVi (rest := []) (ct_X7_columnOf hs hE hT0 (gSt2 hE) hc50) dX9_path_50 wd_536 zX7_columnOf wd_537 wd_538 rfl  rfl rfl (fo7 hT0.1) rfl rfl ⟨Nat.le_of_ble_eq_true rfl, Nat.le_of_ble_eq_true rfl⟩ (Nat.le_of_ble_eq_true rfl) ⟨Nat.le_of_ble_eq_true rfl, Nat.le_of_ble_eq_true rfl⟩ ?_
    refine r_istore dX9_path_53 (by decide) rfl ?_
    refine r_aload_n dX9_path_55 rfl ?_
    refine g9_5 dX9_path_56 wd_361 (hE 0 (by decide)) ?_
    refine r_aload_n dX9_path_59 rfl ?_
    refine g9_7 dX9_path_60 wd_363 (hE 0 (by decide)) ?_
    refine r_iload_n dX9_path_63 rfl ?_
    refine r_aload_n dX9_path_64 rfl ?_
    refine g9_7 dX9_path_65 wd_363 (hE 0 (by decide)) ?_
    refine g6_0 dX9_path_68 wd_90 (gSt2 hE).1 ?_
    obtain ⟨v71, hc71, hf⟩ := bd_of hf
    refine r_cVi (rest := []) (ct_X7_rowOf hs hE hT0 (gSt2 hE) hc71) dX9_path_71 wd_546 zX7_rowOf wd_547 wd_548 rfl  rfl rfl (fo7 hT0.1) rfl rfl ⟨Nat.le_of_ble_eq_true rfl, Nat.le_of_ble_eq_true rfl⟩ (Nat.le_of_ble_eq_true rfl) ⟨Nat.le_of_ble_eq_true rfl, Nat.le_of_ble_eq_true rfl⟩ ?_
    refine r_istore dX9_path_74 (by decide) rfl ?_
    refine r_aload_n dX9_path_76 rfl ?_
    refine g9_5 dX9_path_77 wd_361 (hE 0 (by decide)) ?_
    refine r_iload dX9_path_80 rfl ?_
    refine r_iload dX9_path_82 rfl ?_
    refine r_iload dX9_path_84 rfl ?_
    refine r_iload_n dX9_path_86 rfl ?_
    refine r_iload_n dX9_path_87 rfl ?_
    obtain ⟨v88, hc88, hf⟩ := bd_of hf
    refine r_cVi (rest := []) (ct_X7_lengthThrough hs hE hT0 hc88) dX9_path_88 wd_1139 zX7_lengthThrough wd_587 wd_588 rfl  rfl rfl (fo7 hT0.1) rfl rfl ⟨Nat.le_of_ble_eq_true rfl, Nat.le_of_ble_eq_true rfl⟩ (Nat.le_of_ble_eq_true rfl) ⟨Nat.le_of_ble_eq_true rfl, Nat.le_of_ble_eq_true rfl⟩ ?_
    have hr := Sum.inr.inj (Option.some.inj hf)
    subst hr
    exact r_iret dX9_path_91 rfl (Nat.le_of_ble_eq_true rfl) (Nat.le_of_ble_eq_true rfl) ⟨rfl, rfl, rfl⟩
  · replace hf := if_t hf c29
    refine r_iconst (v := (-1 : Int32)) dX9_path_32 (by decide) ?_
    have hr := Sum.inr.inj (Option.some.inj hf)
    subst hr
    exact r_iret dX9_path_33 rfl (Nat.le_of_ble_eq_true rfl) (Nat.le_of_ble_eq_true rfl) ⟨rfl, rfl, rfl⟩
def F_X9_shortest (n : Nat) (T0 T1 : Nat) (I : gI) (a1 : Int32) (a2 : Int32) (a3 : Int32) : Option (String ⊕ (Int32)) := bd (F_X9_needTank n T0 T1 I) (fun v1 => sm v1 (fun e => some (.inl e)) (fun v1 => bd (F_X9_needSource n T0 T1 I a1) (fun v6 => sm v6 (fun e => some (.inl e)) (fun v6 => bd (F_X9_needCell n T0 T1 I a2 a3) (fun v12 => sm v12 (fun e => some (.inl e)) (fun v12 => bd (F_X7_shortestLength n T0 2 I a1 a2 a3) (fun v26 => some (.inr v26))))))))
set_option maxHeartbeats 4000000 in
set_option maxRecDepth 100000 in
theorem ct_X9_shortest {G : gG} {lay : Nat → Nat × Nat} {T0 T1 : Nat} {Dd : Nat → Nat → UInt64} {I : gI} {J : gJ} {K : gI} {N : gJ} {sz n : Nat} {a1 : Int32} {a2 : Int32} {a3 : Int32} (hs : G.1.stackTraces = false) (hE : gLay lay) (hT0 : gTank lay T0) (hT1 : gTank lay T1) {r : Int32} (hf : F_X9_shortest n T0 T1 I a1 a2 a3 = some (.inr r)) : gCt G mX9_shortest [.ref (G.2.2.1 + 0), .int a1, .int a2, .int a3] (fO G (lay, T0, T1, Dd) I J K N) sz (gR (some (.int r)) (fO G (lay, T0, T1, Dd) I J K N) sz) := by
  unfold F_X9_shortest at hf
  refine gCt.of [some (.ref (G.2.2.1 + 0)), some (.int a1), some (.int a2), some (.int a3)] (by decide +kernel) rfl hs rfl (Nat.le_of_ble_eq_true rfl) ?_
  refine r_aload_n dX9_shortest_0 rfl ?_
  obtain ⟨v1, hc1, hf⟩ := bd_of hf
  rcases v1 with e1 | v1
  · exact (no_th hf).elim
  refine r_cVv (rest := []) (ct_X9_needTank hs hE hT0 hT1 hc1) dX9_shortest_1 wd_413 zX9_needTank wd_415 wd_0 rfl  rfl rfl (fo9 (hE 0 (by decide))) rfl rfl ⟨Nat.le_of_ble_eq_true rfl, Nat.le_of_ble_eq_true rfl⟩ (Nat.le_of_ble_eq_true rfl) ⟨Nat.le_of_ble_eq_true rfl, Nat.le_of_ble_eq_true rfl⟩ ?_
  refine r_aload_n dX9_shortest_4 rfl ?_
  refine r_iload_n dX9_shortest_5 rfl ?_
  obtain ⟨v6, hc6, hf⟩ := bd_of hf
  rcases v6 with e6 | v6
  · exact (no_th hf).elim
  refine r_cVv (rest := []) (ct_X9_needSource hs hE hT0 hT1 hc6) dX9_shortest_6 wd_512 zX9_needSource wd_514 wd_3 rfl  rfl rfl (fo9 (hE 0 (by decide))) rfl rfl ⟨Nat.le_of_ble_eq_true rfl, Nat.le_of_ble_eq_true rfl⟩ (Nat.le_of_ble_eq_true rfl) ⟨Nat.le_of_ble_eq_true rfl, Nat.le_of_ble_eq_true rfl⟩ ?_
  refine r_aload_n dX9_shortest_9 rfl ?_
  refine r_iload_n dX9_shortest_10 rfl ?_
  refine r_iload_n dX9_shortest_11 rfl ?_
  obtain ⟨v12, hc12, hf⟩ := bd_of hf
  rcases v12 with e12 | v12
  · exact (no_th hf).elim
  refine r_cVv (rest := []) (ct_X9_needCell hs hE hT0 hT1 hc12) dX9_shortest_12 wd_562 zX9_needCell wd_564 wd_4 rfl  rfl rfl (fo9 (hE 0 (by decide))) rfl rfl ⟨Nat.le_of_ble_eq_true rfl, Nat.le_of_ble_eq_true rfl⟩ (Nat.le_of_ble_eq_true rfl) ⟨Nat.le_of_ble_eq_true rfl, Nat.le_of_ble_eq_true rfl⟩ ?_
  refine r_aload_n dX9_shortest_15 rfl ?_
  refine g9_5 dX9_shortest_16 wd_361 (hE 0 (by decide)) ?_
  refine r_aload_n dX9_shortest_19 rfl ?_
  refine g9_7 dX9_shortest_20 wd_363 (hE 0 (by decide)) ?_
  refine r_iload_n dX9_shortest_23 rfl ?_
  refine r_iload_n dX9_shortest_24 rfl ?_
  refine r_iload_n dX9_shortest_25 rfl ?_
  obtain ⟨v26, hc26, hf⟩ := bd_of hf
  refine r_cVi (rest := []) (ct_X7_shortestLength hs hE hT0 (gSt2 hE) hc26) dX9_shortest_26 wd_1111 zX7_shortestLength wd_1112 wd_1113 rfl  rfl rfl (fo7 hT0.1) rfl rfl ⟨Nat.le_of_ble_eq_true rfl, Nat.le_of_ble_eq_true rfl⟩ (Nat.le_of_ble_eq_true rfl) ⟨Nat.le_of_ble_eq_true rfl, Nat.le_of_ble_eq_true rfl⟩ ?_
  have hr := Sum.inr.inj (Option.some.inj hf)
  subst hr
  exact r_iret dX9_shortest_29 rfl (Nat.le_of_ble_eq_true rfl) (Nat.le_of_ble_eq_true rfl) ⟨rfl, rfl, rfl⟩
def F_X9_phase (n : Nat) (T0 T1 : Nat) (I : gI) (a1 : Int32) (a2 : Int32) (a3 : Int32) : Option (String ⊕ (Int32)) := bd (F_X9_needTank n T0 T1 I) (fun v1 => sm v1 (fun e => some (.inl e)) (fun v1 => bd (F_X9_needSource n T0 T1 I a1) (fun v6 => sm v6 (fun e => some (.inl e)) (fun v6 => bd (F_X9_needCell n T0 T1 I a2 a3) (fun v12 => sm v12 (fun e => some (.inl e)) (fun v12 => bd (F_X7_shortestLength n T0 2 I a1 a2 a3) (fun v26 => (if v26 = (-1 : Int32) then some (.inr (-1 : Int32)) else gv a1 4 (gv a1 4 (bd (F_X8_angleOf n ((T0 + 1) + 5 + 3 * (Int32.toNatClampNeg a1)) I (I (2 + 3) (Int32.toNatClampNeg a1)) v26 (I 2 0)) (fun v66 => some (.inr v66))))))))))))
set_option maxHeartbeats 4000000 in
set_option maxRecDepth 100000 in
theorem ct_X9_phase {G : gG} {lay : Nat → Nat × Nat} {T0 T1 : Nat} {Dd : Nat → Nat → UInt64} {I : gI} {J : gJ} {K : gI} {N : gJ} {sz n : Nat} {a1 : Int32} {a2 : Int32} {a3 : Int32} (hs : G.1.stackTraces = false) (hE : gLay lay) (hT0 : gTank lay T0) (hT1 : gTank lay T1) {r : Int32} (hf : F_X9_phase n T0 T1 I a1 a2 a3 = some (.inr r)) : gCt G mX9_phase [.ref (G.2.2.1 + 0), .int a1, .int a2, .int a3] (fO G (lay, T0, T1, Dd) I J K N) sz (gR (some (.int r)) (fO G (lay, T0, T1, Dd) I J K N) sz) := by
  unfold F_X9_phase at hf
  refine gCt.of [some (.ref (G.2.2.1 + 0)), some (.int a1), some (.int a2), some (.int a3), none] (by decide +kernel) rfl hs rfl (Nat.le_of_ble_eq_true rfl) ?_
  refine r_aload_n dX9_phase_0 rfl ?_
  obtain ⟨v1, hc1, hf⟩ := bd_of hf
  rcases v1 with e1 | v1
  · exact (no_th hf).elim
  refine r_cVv (rest := []) (ct_X9_needTank hs hE hT0 hT1 hc1) dX9_phase_1 wd_413 zX9_needTank wd_415 wd_0 rfl  rfl rfl (fo9 (hE 0 (by decide))) rfl rfl ⟨Nat.le_of_ble_eq_true rfl, Nat.le_of_ble_eq_true rfl⟩ (Nat.le_of_ble_eq_true rfl) ⟨Nat.le_of_ble_eq_true rfl, Nat.le_of_ble_eq_true rfl⟩ ?_
  refine r_aload_n dX9_phase_4 rfl ?_
  refine r_iload_n dX9_phase_5 rfl ?_
  obtain ⟨v6, hc6, hf⟩ := bd_of hf
  rcases v6 with e6 | v6
  · exact (no_th hf).elim
  refine r_cVv (rest := []) (ct_X9_needSource hs hE hT0 hT1 hc6) dX9_phase_6 wd_512 zX9_needSource wd_514 wd_3 rfl  rfl rfl (fo9 (hE 0 (by decide))) rfl rfl ⟨Nat.le_of_ble_eq_true rfl, Nat.le_of_ble_eq_true rfl⟩ (Nat.le_of_ble_eq_true rfl) ⟨Nat.le_of_ble_eq_true rfl, Nat.le_of_ble_eq_true rfl⟩ ?_
  refine r_aload_n dX9_phase_9 rfl ?_
  refine r_iload_n dX9_phase_10 rfl ?_
  refine r_iload_n dX9_phase_11 rfl ?_
  obtain ⟨v12, hc12, hf⟩ := bd_of hf
  rcases v12 with e12 | v12
  · exact (no_th hf).elim
  refine r_cVv (rest := []) (ct_X9_needCell hs hE hT0 hT1 hc12) dX9_phase_12 wd_562 zX9_needCell wd_564 wd_4 rfl  rfl rfl (fo9 (hE 0 (by decide))) rfl rfl ⟨Nat.le_of_ble_eq_true rfl, Nat.le_of_ble_eq_true rfl⟩ (Nat.le_of_ble_eq_true rfl) ⟨Nat.le_of_ble_eq_true rfl, Nat.le_of_ble_eq_true rfl⟩ ?_
  refine r_aload_n dX9_phase_15 rfl ?_
  refine g9_5 dX9_phase_16 wd_361 (hE 0 (by decide)) ?_
  refine r_aload_n dX9_phase_19 rfl ?_
  refine g9_7 dX9_phase_20 wd_363 (hE 0 (by decide)) ?_
  refine r_iload_n dX9_phase_23 rfl ?_
  refine r_iload_n dX9_phase_24 rfl ?_
  refine r_iload_n dX9_phase_25 rfl ?_
  obtain ⟨v26, hc26, hf⟩ := bd_of hf
  refine r_cVi (rest := []) (ct_X7_shortestLength hs hE hT0 (gSt2 hE) hc26) dX9_phase_26 wd_1111 zX7_shortestLength wd_1112 wd_1113 rfl  rfl rfl (fo7 hT0.1) rfl rfl ⟨Nat.le_of_ble_eq_true rfl, Nat.le_of_ble_eq_true rfl⟩ (Nat.le_of_ble_eq_true rfl) ⟨Nat.le_of_ble_eq_true rfl, Nat.le_of_ble_eq_true rfl⟩ ?_
  refine r_istore dX9_phase_29 (by decide) rfl ?_
  refine r_iload dX9_phase_31 rfl ?_
  refine r_iconst (v := (-1 : Int32)) dX9_phase_33 (by decide) ?_
  refine r_icmp_ne (tgt := 39) dX9_phase_34 (by decide) (fun c34 => ?_) (fun c34 => ?_)
  · replace hf := if_f hf c34
    refine r_aload_n dX9_phase_39 rfl ?_
    refine g9_5 dX9_phase_40 wd_361 (hE 0 (by decide)) ?_
    refine g7_6 dX9_phase_43 wd_313 hT0.1 ?_
    refine r_iload_n dX9_phase_46 rfl ?_
    obtain ⟨h47, hf⟩ := gv_of hf
    refine a_aald105 dX9_phase_47 hT0.2.1 h47 ?_
    refine r_aload_n dX9_phase_48 rfl ?_
    refine g9_7 dX9_phase_49 wd_363 (hE 0 (by decide)) ?_
    refine g6_4 dX9_phase_52 wd_106 (gSt2 hE).1 ?_
    refine r_iload_n dX9_phase_55 rfl ?_
    obtain ⟨h56, hf⟩ := gv_of hf
    refine a_iald dX9_phase_56 (gSt2 hE).2.2.2.1 h56 ?_
    refine r_iload dX9_phase_57 rfl ?_
    refine r_aload_n dX9_phase_59 rfl ?_
    refine g9_7 dX9_phase_60 wd_363 (hE 0 (by decide)) ?_
    refine g6_0 dX9_phase_63 wd_90 (gSt2 hE).1 ?_
    obtain ⟨v66, hc66, hf⟩ := bd_of hf
    refine r_cVi (rest := []) (ct_X8_angleOf hs hE (hT0.2.2.2.2.2.2.1 _ (vp_lt h47)) hc66) dX9_phase_66 wd_1134 zX8_angleOf wd_611 wd_612 rfl  rfl rfl (fo8 (hT0.2.2.2.2.2.2.1 _ (vp_lt h47)).1) rfl rfl ⟨Nat.le_of_ble_eq_true rfl, Nat.le_of_ble_eq_true rfl⟩ (Nat.le_of_ble_eq_true rfl) ⟨Nat.le_of_ble_eq_true rfl, Nat.le_of_ble_eq_true rfl⟩ ?_
    have hr := Sum.inr.inj (Option.some.inj hf)
    subst hr
    exact r_iret dX9_phase_69 rfl (Nat.le_of_ble_eq_true rfl) (Nat.le_of_ble_eq_true rfl) ⟨rfl, rfl, rfl⟩
  · replace hf := if_t hf c34
    refine r_iconst (v := (-1 : Int32)) dX9_phase_37 (by decide) ?_
    have hr := Sum.inr.inj (Option.some.inj hf)
    subst hr
    exact r_iret dX9_phase_38 rfl (Nat.le_of_ble_eq_true rfl) (Nat.le_of_ble_eq_true rfl) ⟨rfl, rfl, rfl⟩
def F_X9_arrival (n : Nat) (T0 T1 : Nat) (I : gI) (a1 : Int32) (a2 : Int32) (a3 : Int32) : Option (String ⊕ (Int32)) := bd (F_X9_needTank n T0 T1 I) (fun v1 => sm v1 (fun e => some (.inl e)) (fun v1 => bd (F_X9_needSource n T0 T1 I a1) (fun v6 => sm v6 (fun e => some (.inl e)) (fun v6 => bd (F_X9_needCell n T0 T1 I a2 a3) (fun v12 => sm v12 (fun e => some (.inl e)) (fun v12 => bd (F_X7_firstArrival n T0 2 I a1 a2 a3) (fun v26 => some (.inr v26))))))))
set_option maxHeartbeats 4000000 in
set_option maxRecDepth 100000 in
theorem ct_X9_arrival {G : gG} {lay : Nat → Nat × Nat} {T0 T1 : Nat} {Dd : Nat → Nat → UInt64} {I : gI} {J : gJ} {K : gI} {N : gJ} {sz n : Nat} {a1 : Int32} {a2 : Int32} {a3 : Int32} (hs : G.1.stackTraces = false) (hE : gLay lay) (hT0 : gTank lay T0) (hT1 : gTank lay T1) {r : Int32} (hf : F_X9_arrival n T0 T1 I a1 a2 a3 = some (.inr r)) : gCt G mX9_arrival [.ref (G.2.2.1 + 0), .int a1, .int a2, .int a3] (fO G (lay, T0, T1, Dd) I J K N) sz (gR (some (.int r)) (fO G (lay, T0, T1, Dd) I J K N) sz) := by
  unfold F_X9_arrival at hf
  refine gCt.of [some (.ref (G.2.2.1 + 0)), some (.int a1), some (.int a2), some (.int a3)] (by decide +kernel) rfl hs rfl (Nat.le_of_ble_eq_true rfl) ?_
  refine r_aload_n dX9_arrival_0 rfl ?_
  obtain ⟨v1, hc1, hf⟩ := bd_of hf
  rcases v1 with e1 | v1
  · exact (no_th hf).elim
  refine r_cVv (rest := []) (ct_X9_needTank hs hE hT0 hT1 hc1) dX9_arrival_1 wd_413 zX9_needTank wd_415 wd_0 rfl  rfl rfl (fo9 (hE 0 (by decide))) rfl rfl ⟨Nat.le_of_ble_eq_true rfl, Nat.le_of_ble_eq_true rfl⟩ (Nat.le_of_ble_eq_true rfl) ⟨Nat.le_of_ble_eq_true rfl, Nat.le_of_ble_eq_true rfl⟩ ?_
  refine r_aload_n dX9_arrival_4 rfl ?_
  refine r_iload_n dX9_arrival_5 rfl ?_
  obtain ⟨v6, hc6, hf⟩ := bd_of hf
  rcases v6 with e6 | v6
  · exact (no_th hf).elim
  refine r_cVv (rest := []) (ct_X9_needSource hs hE hT0 hT1 hc6) dX9_arrival_6 wd_512 zX9_needSource wd_514 wd_3 rfl  rfl rfl (fo9 (hE 0 (by decide))) rfl rfl ⟨Nat.le_of_ble_eq_true rfl, Nat.le_of_ble_eq_true rfl⟩ (Nat.le_of_ble_eq_true rfl) ⟨Nat.le_of_ble_eq_true rfl, Nat.le_of_ble_eq_true rfl⟩ ?_
  refine r_aload_n dX9_arrival_9 rfl ?_
  refine r_iload_n dX9_arrival_10 rfl ?_
  refine r_iload_n dX9_arrival_11 rfl ?_
  obtain ⟨v12, hc12, hf⟩ := bd_of hf
  rcases v12 with e12 | v12
  · exact (no_th hf).elim
  refine r_cVv (rest := []) (ct_X9_needCell hs hE hT0 hT1 hc12) dX9_arrival_12 wd_562 zX9_needCell wd_564 wd_4 rfl  rfl rfl (fo9 (hE 0 (by decide))) rfl rfl ⟨Nat.le_of_ble_eq_true rfl, Nat.le_of_ble_eq_true rfl⟩ (Nat.le_of_ble_eq_true rfl) ⟨Nat.le_of_ble_eq_true rfl, Nat.le_of_ble_eq_true rfl⟩ ?_
  refine r_aload_n dX9_arrival_15 rfl ?_
  refine g9_5 dX9_arrival_16 wd_361 (hE 0 (by decide)) ?_
  refine r_aload_n dX9_arrival_19 rfl ?_
  refine g9_7 dX9_arrival_20 wd_363 (hE 0 (by decide)) ?_
  refine r_iload_n dX9_arrival_23 rfl ?_
  refine r_iload_n dX9_arrival_24 rfl ?_
  refine r_iload_n dX9_arrival_25 rfl ?_
  obtain ⟨v26, hc26, hf⟩ := bd_of hf
  refine r_cVi (rest := []) (ct_X7_firstArrival hs hE hT0 (gSt2 hE) hc26) dX9_arrival_26 wd_1124 zX7_firstArrival wd_1125 wd_1126 rfl  rfl rfl (fo7 hT0.1) rfl rfl ⟨Nat.le_of_ble_eq_true rfl, Nat.le_of_ble_eq_true rfl⟩ (Nat.le_of_ble_eq_true rfl) ⟨Nat.le_of_ble_eq_true rfl, Nat.le_of_ble_eq_true rfl⟩ ?_
  have hr := Sum.inr.inj (Option.some.inj hf)
  subst hr
  exact r_iret dX9_arrival_29 rfl (Nat.le_of_ble_eq_true rfl) (Nat.le_of_ble_eq_true rfl) ⟨rfl, rfl, rfl⟩
def F_X9_part (n : Nat) (T0 T1 : Nat) (I : gI) (a1 : Int32) (a2 : Int32) (a3 : Int32) : Option (String ⊕ (Int32)) := bd (F_X9_needTank n T0 T1 I) (fun v1 => sm v1 (fun e => some (.inl e)) (fun v1 => bd (F_X9_needSource n T0 T1 I a1) (fun v6 => sm v6 (fun e => some (.inl e)) (fun v6 => bd (F_X9_needCell n T0 T1 I a2 a3) (fun v12 => sm v12 (fun e => some (.inl e)) (fun v12 => bd (F_X7_partOf n T0 2 I a1 a2 a3 (I 2 0)) (fun v33 => some (.inr v33))))))))
set_option maxHeartbeats 4000000 in
set_option maxRecDepth 100000 in
theorem ct_X9_part {G : gG} {lay : Nat → Nat × Nat} {T0 T1 : Nat} {Dd : Nat → Nat → UInt64} {I : gI} {J : gJ} {K : gI} {N : gJ} {sz n : Nat} {a1 : Int32} {a2 : Int32} {a3 : Int32} (hs : G.1.stackTraces = false) (hE : gLay lay) (hT0 : gTank lay T0) (hT1 : gTank lay T1) {r : Int32} (hf : F_X9_part n T0 T1 I a1 a2 a3 = some (.inr r)) : gCt G mX9_part [.ref (G.2.2.1 + 0), .int a1, .int a2, .int a3] (fO G (lay, T0, T1, Dd) I J K N) sz (gR (some (.int r)) (fO G (lay, T0, T1, Dd) I J K N) sz) := by
  unfold F_X9_part at hf
  refine gCt.of [some (.ref (G.2.2.1 + 0)), some (.int a1), some (.int a2), some (.int a3)] (by decide +kernel) rfl hs rfl (Nat.le_of_ble_eq_true rfl) ?_
  refine r_aload_n dX9_part_0 rfl ?_
  obtain ⟨v1, hc1, hf⟩ := bd_of hf
  rcases v1 with e1 | v1
  · exact (no_th hf).elim
  refine r_cVv (rest := []) (ct_X9_needTank hs hE hT0 hT1 hc1) dX9_part_1 wd_413 zX9_needTank wd_415 wd_0 rfl  rfl rfl (fo9 (hE 0 (by decide))) rfl rfl ⟨Nat.le_of_ble_eq_true rfl, Nat.le_of_ble_eq_true rfl⟩ (Nat.le_of_ble_eq_true rfl) ⟨Nat.le_of_ble_eq_true rfl, Nat.le_of_ble_eq_true rfl⟩ ?_
  refine r_aload_n dX9_part_4 rfl ?_
  refine r_iload_n dX9_part_5 rfl ?_
  obtain ⟨v6, hc6, hf⟩ := bd_of hf
  rcases v6 with e6 | v6
  · exact (no_th hf).elim
  refine r_cVv (rest := []) (ct_X9_needSource hs hE hT0 hT1 hc6) dX9_part_6 wd_512 zX9_needSource wd_514 wd_3 rfl  rfl rfl (fo9 (hE 0 (by decide))) rfl rfl ⟨Nat.le_of_ble_eq_true rfl, Nat.le_of_ble_eq_true rfl⟩ (Nat.le_of_ble_eq_true rfl) ⟨Nat.le_of_ble_eq_true rfl, Nat.le_of_ble_eq_true rfl⟩ ?_
  refine r_aload_n dX9_part_9 rfl ?_
  refine r_iload_n dX9_part_10 rfl ?_
  refine r_iload_n dX9_part_11 rfl ?_
  obtain ⟨v12, hc12, hf⟩ := bd_of hf
  rcases v12 with e12 | v12
  · exact (no_th hf).elim
  refine r_cVv (rest := []) (ct_X9_needCell hs hE hT0 hT1 hc12) dX9_part_12 wd_562 zX9_needCell wd_564 wd_4 rfl  rfl rfl (fo9 (hE 0 (by decide))) rfl rfl ⟨Nat.le_of_ble_eq_true rfl, Nat.le_of_ble_eq_true rfl⟩ (Nat.le_of_ble_eq_true rfl) ⟨Nat.le_of_ble_eq_true rfl, Nat.le_of_ble_eq_true rfl⟩ ?_
  refine r_aload_n dX9_part_15 rfl ?_
  refine g9_5 dX9_part_16 wd_361 (hE 0 (by decide)) ?_
  refine r_aload_n dX9_part_19 rfl ?_
  refine g9_7 dX9_part_20 wd_363 (hE 0 (by decide)) ?_
  refine r_iload_n dX9_part_23 rfl ?_
  refine r_iload_n dX9_part_24 rfl ?_
  refine r_iload_n dX9_part_25 rfl ?_
  refine r_aload_n dX9_part_26 rfl ?_
  refine g9_7 dX9_part_27 wd_363 (hE 0 (by decide)) ?_
  refine g6_0 dX9_part_30 wd_90 (gSt2 hE).1 ?_
  obtain ⟨v33, hc33, hf⟩ := bd_of hf
  refine r_cVi (rest := []) (ct_X7_partOf hs hE hT0 (gSt2 hE) hc33) dX9_part_33 wd_571 zX7_partOf wd_572 wd_573 rfl  rfl rfl (fo7 hT0.1) rfl rfl ⟨Nat.le_of_ble_eq_true rfl, Nat.le_of_ble_eq_true rfl⟩ (Nat.le_of_ble_eq_true rfl) ⟨Nat.le_of_ble_eq_true rfl, Nat.le_of_ble_eq_true rfl⟩ ?_
  have hr := Sum.inr.inj (Option.some.inj hf)
  subst hr
  exact r_iret dX9_part_36 rfl (Nat.le_of_ble_eq_true rfl) (Nat.le_of_ble_eq_true rfl) ⟨rfl, rfl, rfl⟩
def F_X9_wave (n : Nat) (T0 T1 : Nat) (I : gI) (a1 : Int32) (a2 : Int32) : Option (String ⊕ (Int32)) := bd (F_X9_needTank n T0 T1 I) (fun v1 => sm v1 (fun e => some (.inl e)) (fun v1 => bd (F_X9_needCell n T0 T1 I a1 a2) (fun v7 => sm v7 (fun e => some (.inl e)) (fun v7 => bd (F_X7_waveOf n T0 2 I a1 a2 (I 2 0)) (fun v27 => some (.inr v27))))))
set_option maxHeartbeats 4000000 in
set_option maxRecDepth 100000 in
theorem ct_X9_wave {G : gG} {lay : Nat → Nat × Nat} {T0 T1 : Nat} {Dd : Nat → Nat → UInt64} {I : gI} {J : gJ} {K : gI} {N : gJ} {sz n : Nat} {a1 : Int32} {a2 : Int32} (hs : G.1.stackTraces = false) (hE : gLay lay) (hT0 : gTank lay T0) (hT1 : gTank lay T1) {r : Int32} (hf : F_X9_wave n T0 T1 I a1 a2 = some (.inr r)) : gCt G mX9_wave [.ref (G.2.2.1 + 0), .int a1, .int a2] (fO G (lay, T0, T1, Dd) I J K N) sz (gR (some (.int r)) (fO G (lay, T0, T1, Dd) I J K N) sz) := by
  unfold F_X9_wave at hf
  refine gCt.of [some (.ref (G.2.2.1 + 0)), some (.int a1), some (.int a2)] (by decide +kernel) rfl hs rfl (Nat.le_of_ble_eq_true rfl) ?_
  refine r_aload_n dX9_wave_0 rfl ?_
  obtain ⟨v1, hc1, hf⟩ := bd_of hf
  rcases v1 with e1 | v1
  · exact (no_th hf).elim
  refine r_cVv (rest := []) (ct_X9_needTank hs hE hT0 hT1 hc1) dX9_wave_1 wd_413 zX9_needTank wd_415 wd_0 rfl  rfl rfl (fo9 (hE 0 (by decide))) rfl rfl ⟨Nat.le_of_ble_eq_true rfl, Nat.le_of_ble_eq_true rfl⟩ (Nat.le_of_ble_eq_true rfl) ⟨Nat.le_of_ble_eq_true rfl, Nat.le_of_ble_eq_true rfl⟩ ?_
  refine r_aload_n dX9_wave_4 rfl ?_
  refine r_iload_n dX9_wave_5 rfl ?_
  refine r_iload_n dX9_wave_6 rfl ?_
  obtain ⟨v7, hc7, hf⟩ := bd_of hf
  rcases v7 with e7 | v7
  · exact (no_th hf).elim
  refine r_cVv (rest := []) (ct_X9_needCell hs hE hT0 hT1 hc7) dX9_wave_7 wd_562 zX9_needCell wd_564 wd_4 rfl  rfl rfl (fo9 (hE 0 (by decide))) rfl rfl ⟨Nat.le_of_ble_eq_true rfl, Nat.le_of_ble_eq_true rfl⟩ (Nat.le_of_ble_eq_true rfl) ⟨Nat.le_of_ble_eq_true rfl, Nat.le_of_ble_eq_true rfl⟩ ?_
  refine r_aload_n dX9_wave_10 rfl ?_
  refine g9_5 dX9_wave_11 wd_361 (hE 0 (by decide)) ?_
  refine r_aload_n dX9_wave_14 rfl ?_
  refine g9_7 dX9_wave_15 wd_363 (hE 0 (by decide)) ?_
  refine r_iload_n dX9_wave_18 rfl ?_
  refine r_iload_n dX9_wave_19 rfl ?_
  refine r_aload_n dX9_wave_20 rfl ?_
  refine g9_7 dX9_wave_21 wd_363 (hE 0 (by decide)) ?_
  refine g6_0 dX9_wave_24 wd_90 (gSt2 hE).1 ?_
  obtain ⟨v27, hc27, hf⟩ := bd_of hf
  refine r_cVi (rest := []) (ct_X7_waveOf hs hE hT0 (gSt2 hE) hc27) dX9_wave_27 wd_643 zX7_waveOf wd_644 wd_645 rfl  rfl rfl (fo7 hT0.1) rfl rfl ⟨Nat.le_of_ble_eq_true rfl, Nat.le_of_ble_eq_true rfl⟩ (Nat.le_of_ble_eq_true rfl) ⟨Nat.le_of_ble_eq_true rfl, Nat.le_of_ble_eq_true rfl⟩ ?_
  have hr := Sum.inr.inj (Option.some.inj hf)
  subst hr
  exact r_iret dX9_wave_30 rfl (Nat.le_of_ble_eq_true rfl) (Nat.le_of_ble_eq_true rfl) ⟨rfl, rfl, rfl⟩
def F_X9_waveAt (n : Nat) (T0 T1 : Nat) (I : gI) (a1 : Int32) (a2 : Int32) (a3 : Int32) : Option (String ⊕ (Int32)) := bd (F_X9_needTank n T0 T1 I) (fun v1 => sm v1 (fun e => some (.inl e)) (fun v1 => bd (F_X9_needCell n T0 T1 I a1 a2) (fun v7 => sm v7 (fun e => some (.inl e)) (fun v7 => bd (F_X9_needRange n a3 (0 : Int32) (9999 : Int32)) (fun v15 => sm v15 (fun e => some (.inl e)) (fun v15 => bd (F_X7_waveOf n T0 2 I a1 a2 a3) (fun v29 => some (.inr v29))))))))
set_option maxHeartbeats 4000000 in
set_option maxRecDepth 100000 in
theorem ct_X9_waveAt {G : gG} {lay : Nat → Nat × Nat} {T0 T1 : Nat} {Dd : Nat → Nat → UInt64} {I : gI} {J : gJ} {K : gI} {N : gJ} {sz n : Nat} {a1 : Int32} {a2 : Int32} {a3 : Int32} (hs : G.1.stackTraces = false) (hE : gLay lay) (hT0 : gTank lay T0) (hT1 : gTank lay T1) {r : Int32} (hf : F_X9_waveAt n T0 T1 I a1 a2 a3 = some (.inr r)) : gCt G mX9_waveAt [.ref (G.2.2.1 + 0), .int a1, .int a2, .int a3] (fO G (lay, T0, T1, Dd) I J K N) sz (gR (some (.int r)) (fO G (lay, T0, T1, Dd) I J K N) sz) := by
  unfold F_X9_waveAt at hf
  refine gCt.of [some (.ref (G.2.2.1 + 0)), some (.int a1), some (.int a2), some (.int a3)] (by decide +kernel) rfl hs rfl (Nat.le_of_ble_eq_true rfl) ?_
  refine r_aload_n dX9_waveAt_0 rfl ?_
  obtain ⟨v1, hc1, hf⟩ := bd_of hf
  rcases v1 with e1 | v1
  · exact (no_th hf).elim
  refine r_cVv (rest := []) (ct_X9_needTank hs hE hT0 hT1 hc1) dX9_waveAt_1 wd_413 zX9_needTank wd_415 wd_0 rfl  rfl rfl (fo9 (hE 0 (by decide))) rfl rfl ⟨Nat.le_of_ble_eq_true rfl, Nat.le_of_ble_eq_true rfl⟩ (Nat.le_of_ble_eq_true rfl) ⟨Nat.le_of_ble_eq_true rfl, Nat.le_of_ble_eq_true rfl⟩ ?_
  refine r_aload_n dX9_waveAt_4 rfl ?_
  refine r_iload_n dX9_waveAt_5 rfl ?_
  refine r_iload_n dX9_waveAt_6 rfl ?_
  obtain ⟨v7, hc7, hf⟩ := bd_of hf
  rcases v7 with e7 | v7
  · exact (no_th hf).elim
  refine r_cVv (rest := []) (ct_X9_needCell hs hE hT0 hT1 hc7) dX9_waveAt_7 wd_562 zX9_needCell wd_564 wd_4 rfl  rfl rfl (fo9 (hE 0 (by decide))) rfl rfl ⟨Nat.le_of_ble_eq_true rfl, Nat.le_of_ble_eq_true rfl⟩ (Nat.le_of_ble_eq_true rfl) ⟨Nat.le_of_ble_eq_true rfl, Nat.le_of_ble_eq_true rfl⟩ ?_
  refine r_iload_n dX9_waveAt_10 rfl ?_
  refine r_iconst (v := (0 : Int32)) dX9_waveAt_11 (by decide) ?_
  refine r_sipush (v := (9999 : Int32)) dX9_waveAt_12 (by decide) ?_
  obtain ⟨v15, hc15, hf⟩ := bd_of hf
  rcases v15 with e15 | v15
  · exact (no_th hf).elim
  refine r_cSv (rest := []) (ct_X9_needRange hs hE hc15) dX9_waveAt_15 wd_517 zX9_needRange wd_518 rfl  rfl rfl ⟨Nat.le_of_ble_eq_true rfl, Nat.le_of_ble_eq_true rfl⟩ (Nat.le_of_ble_eq_true rfl) ⟨Nat.le_of_ble_eq_true rfl, Nat.le_of_ble_eq_true rfl⟩ ?_
  refine r_aload_n dX9_waveAt_18 rfl ?_
  refine g9_5 dX9_waveAt_19 wd_361 (hE 0 (by decide)) ?_
  refine r_aload_n dX9_waveAt_22 rfl ?_
  refine g9_7 dX9_waveAt_23 wd_363 (hE 0 (by decide)) ?_
  refine r_iload_n dX9_waveAt_26 rfl ?_
  refine r_iload_n dX9_waveAt_27 rfl ?_
  refine r_iload_n dX9_waveAt_28 rfl ?_
  obtain ⟨v29, hc29, hf⟩ := bd_of hf
  refine r_cVi (rest := []) (ct_X7_waveOf hs hE hT0 (gSt2 hE) hc29) dX9_waveAt_29 wd_643 zX7_waveOf wd_644 wd_645 rfl  rfl rfl (fo7 hT0.1) rfl rfl ⟨Nat.le_of_ble_eq_true rfl, Nat.le_of_ble_eq_true rfl⟩ (Nat.le_of_ble_eq_true rfl) ⟨Nat.le_of_ble_eq_true rfl, Nat.le_of_ble_eq_true rfl⟩ ?_
  have hr := Sum.inr.inj (Option.some.inj hf)
  subst hr
  exact r_iret dX9_waveAt_32 rfl (Nat.le_of_ble_eq_true rfl) (Nat.le_of_ble_eq_true rfl) ⟨rfl, rfl, rfl⟩
def F_X9_needGauge (n : Nat) (T0 T1 : Nat) (I : gI) (a1 : Int32) : Option (String ⊕ (Unit)) := (if a1 < 0 then some (.inl "java/lang/IndexOutOfBoundsException") else (if a1 < (I T0 9) then some (.inr ()) else some (.inl "java/lang/IndexOutOfBoundsException")))
set_option maxHeartbeats 4000000 in
set_option maxRecDepth 100000 in
theorem ct_X9_needGauge {G : gG} {lay : Nat → Nat × Nat} {T0 T1 : Nat} {Dd : Nat → Nat → UInt64} {I : gI} {J : gJ} {K : gI} {N : gJ} {sz n : Nat} {a1 : Int32} (hs : G.1.stackTraces = false) (hE : gLay lay) (hT0 : gTank lay T0) (hT1 : gTank lay T1) {r : Unit} (hf : F_X9_needGauge n T0 T1 I a1 = some (.inr r)) : gCt G mX9_needGauge [.ref (G.2.2.1 + 0), .int a1] (fO G (lay, T0, T1, Dd) I J K N) sz (gR none (fO G (lay, T0, T1, Dd) I J K N) sz) := by
  unfold F_X9_needGauge at hf
  refine gCt.of [some (.ref (G.2.2.1 + 0)), some (.int a1)] (by decide +kernel) rfl hs rfl (Nat.le_of_ble_eq_true rfl) ?_
  refine r_iload_n dX9_needGauge_0 rfl ?_
  refine r_if_lt (tgt := 15) dX9_needGauge_1 (by decide) (fun c1 => ?_) (fun c1 => ?_)
  · replace hf := if_t hf c1
    exact (no_th hf).elim
  · replace hf := if_f hf c1
    refine r_iload_n dX9_needGauge_4 rfl ?_
    refine r_aload_n dX9_needGauge_5 rfl ?_
    refine g9_5 dX9_needGauge_6 wd_361 (hE 0 (by decide)) ?_
    refine g7_9 dX9_needGauge_9 wd_320 hT0.1 ?_
    refine r_icmp_lt (tgt := 26) dX9_needGauge_12 (by decide) (fun c12 => ?_) (fun c12 => ?_)
    · replace hf := if_t hf c12
      have hr := Sum.inr.inj (Option.some.inj hf)
      subst hr
      exact r_vret dX9_needGauge_26 rfl (Nat.le_of_ble_eq_true rfl) (Nat.le_of_ble_eq_true rfl) ⟨rfl, rfl, rfl⟩
    · replace hf := if_f hf c12
      exact (no_th hf).elim
def F_X9_gaugeAt (n : Nat) (T0 T1 : Nat) (I : gI) (a1 : Int32) (a2 : Int32) : Option (String ⊕ (Int32)) := bd (F_X9_needTank n T0 T1 I) (fun v1 => sm v1 (fun e => some (.inl e)) (fun v1 => bd (F_X9_needGauge n T0 T1 I a1) (fun v6 => sm v6 (fun e => some (.inl e)) (fun v6 => bd (F_X9_needRange n a2 (0 : Int32) (1 : Int32)) (fun v12 => sm v12 (fun e => some (.inl e)) (fun v12 => (if a2 = 0 then gv a1 4 (some (.inr (I (T0 + 3) (Int32.toNatClampNeg a1)))) else gv a1 4 (some (.inr (I (T0 + 4) (Int32.toNatClampNeg a1)))))))))))
set_option maxHeartbeats 4000000 in
set_option maxRecDepth 100000 in
theorem ct_X9_gaugeAt {G : gG} {lay : Nat → Nat × Nat} {T0 T1 : Nat} {Dd : Nat → Nat → UInt64} {I : gI} {J : gJ} {K : gI} {N : gJ} {sz n : Nat} {a1 : Int32} {a2 : Int32} (hs : G.1.stackTraces = false) (hE : gLay lay) (hT0 : gTank lay T0) (hT1 : gTank lay T1) {r : Int32} (hf : F_X9_gaugeAt n T0 T1 I a1 a2 = some (.inr r)) : gCt G mX9_gaugeAt [.ref (G.2.2.1 + 0), .int a1, .int a2] (fO G (lay, T0, T1, Dd) I J K N) sz (gR (some (.int r)) (fO G (lay, T0, T1, Dd) I J K N) sz) := by
  unfold F_X9_gaugeAt at hf
  refine gCt.of [some (.ref (G.2.2.1 + 0)), some (.int a1), some (.int a2)] (by decide +kernel) rfl hs rfl (Nat.le_of_ble_eq_true rfl) ?_
  refine r_aload_n dX9_gaugeAt_0 rfl ?_
  obtain ⟨v1, hc1, hf⟩ := bd_of hf
  rcases v1 with e1 | v1
  · exact (no_th hf).elim
  refine r_cVv (rest := []) (ct_X9_needTank hs hE hT0 hT1 hc1) dX9_gaugeAt_1 wd_413 zX9_needTank wd_415 wd_0 rfl  rfl rfl (fo9 (hE 0 (by decide))) rfl rfl ⟨Nat.le_of_ble_eq_true rfl, Nat.le_of_ble_eq_true rfl⟩ (Nat.le_of_ble_eq_true rfl) ⟨Nat.le_of_ble_eq_true rfl, Nat.le_of_ble_eq_true rfl⟩ ?_
  refine r_aload_n dX9_gaugeAt_4 rfl ?_
  refine r_iload_n dX9_gaugeAt_5 rfl ?_
  obtain ⟨v6, hc6, hf⟩ := bd_of hf
  rcases v6 with e6 | v6
  · exact (no_th hf).elim
  refine r_cVv (rest := []) (ct_X9_needGauge hs hE hT0 hT1 hc6) dX9_gaugeAt_6 wd_1207 zX9_needGauge wd_1209 wd_40 rfl  rfl rfl (fo9 (hE 0 (by decide))) rfl rfl ⟨Nat.le_of_ble_eq_true rfl, Nat.le_of_ble_eq_true rfl⟩ (Nat.le_of_ble_eq_true rfl) ⟨Nat.le_of_ble_eq_true rfl, Nat.le_of_ble_eq_true rfl⟩ ?_
  refine r_iload_n dX9_gaugeAt_9 rfl ?_
  refine r_iconst (v := (0 : Int32)) dX9_gaugeAt_10 (by decide) ?_
  refine r_iconst (v := (1 : Int32)) dX9_gaugeAt_11 (by decide) ?_
  obtain ⟨v12, hc12, hf⟩ := bd_of hf
  rcases v12 with e12 | v12
  · exact (no_th hf).elim
  refine r_cSv (rest := []) (ct_X9_needRange hs hE hc12) dX9_gaugeAt_12 wd_517 zX9_needRange wd_518 rfl  rfl rfl ⟨Nat.le_of_ble_eq_true rfl, Nat.le_of_ble_eq_true rfl⟩ (Nat.le_of_ble_eq_true rfl) ⟨Nat.le_of_ble_eq_true rfl, Nat.le_of_ble_eq_true rfl⟩ ?_
  refine r_iload_n dX9_gaugeAt_15 rfl ?_
  refine r_if_ne (tgt := 31) dX9_gaugeAt_16 (by decide) (fun c16 => ?_) (fun c16 => ?_)
  · replace hf := if_f hf c16
    refine r_aload_n dX9_gaugeAt_31 rfl ?_
    refine g9_5 dX9_gaugeAt_32 wd_361 (hE 0 (by decide)) ?_
    refine g7_11 dX9_gaugeAt_35 wd_326 hT0.1 ?_
    refine r_iload_n dX9_gaugeAt_38 rfl ?_
    obtain ⟨h39, hf⟩ := gv_of hf
    refine a_iald dX9_gaugeAt_39 hT0.2.2.2.2.1 h39 ?_
    have hr := Sum.inr.inj (Option.some.inj hf)
    subst hr
    exact r_iret dX9_gaugeAt_40 rfl (Nat.le_of_ble_eq_true rfl) (Nat.le_of_ble_eq_true rfl) ⟨rfl, rfl, rfl⟩
  · replace hf := if_t hf c16
    refine r_aload_n dX9_gaugeAt_19 rfl ?_
    refine g9_5 dX9_gaugeAt_20 wd_361 (hE 0 (by decide)) ?_
    refine g7_10 dX9_gaugeAt_23 wd_323 hT0.1 ?_
    refine r_iload_n dX9_gaugeAt_26 rfl ?_
    obtain ⟨h27, hf⟩ := gv_of hf
    refine a_iald dX9_gaugeAt_27 hT0.2.2.2.1 h27 ?_
    refine r_goto (tgt := 40) dX9_gaugeAt_28 (by decide) ?_
    have hr := Sum.inr.inj (Option.some.inj hf)
    subst hr
    exact r_iret dX9_gaugeAt_40 rfl (Nat.le_of_ble_eq_true rfl) (Nat.le_of_ble_eq_true rfl) ⟨rfl, rfl, rfl⟩
def F_X9_needTimes (n : Nat) (a0 : Int32) : Option (String ⊕ (Unit)) := bd (F_X9_needRange n a0 (1 : Int32) (40 : Int32)) (fun v4 => sm v4 (fun e => some (.inl e)) (fun v4 => some (.inr ())))
set_option maxHeartbeats 4000000 in
set_option maxRecDepth 100000 in
theorem ct_X9_needTimes {G : gG} {lay : Nat → Nat × Nat} {T0 T1 : Nat} {Dd : Nat → Nat → UInt64} {I : gI} {J : gJ} {K : gI} {N : gJ} {sz n : Nat} {a0 : Int32} (hs : G.1.stackTraces = false) (hE : gLay lay) {r : Unit} (hf : F_X9_needTimes n a0 = some (.inr r)) : gCt G mX9_needTimes [.int a0] (fO G (lay, T0, T1, Dd) I J K N) sz (gR none (fO G (lay, T0, T1, Dd) I J K N) sz) := by
  unfold F_X9_needTimes at hf
  refine gCt.of [some (.int a0)] (by decide +kernel) rfl hs rfl (Nat.le_of_ble_eq_true rfl) ?_
  refine r_iload_n dX9_needTimes_0 rfl ?_
  refine r_iconst (v := (1 : Int32)) dX9_needTimes_1 (by decide) ?_
  refine r_bipush (v := (40 : Int32)) dX9_needTimes_2 (by decide) ?_
  obtain ⟨v4, hc4, hf⟩ := bd_of hf
  rcases v4 with e4 | v4
  · exact (no_th hf).elim
  refine r_cSv (rest := []) (ct_X9_needRange hs hE hc4) dX9_needTimes_4 wd_517 zX9_needRange wd_518 rfl  rfl rfl ⟨Nat.le_of_ble_eq_true rfl, Nat.le_of_ble_eq_true rfl⟩ (Nat.le_of_ble_eq_true rfl) ⟨Nat.le_of_ble_eq_true rfl, Nat.le_of_ble_eq_true rfl⟩ ?_
  have hr := Sum.inr.inj (Option.some.inj hf)
  subst hr
  exact r_vret dX9_needTimes_7 rfl (Nat.le_of_ble_eq_true rfl) (Nat.le_of_ble_eq_true rfl) ⟨rfl, rfl, rfl⟩
def L_X9_fillSeries (n : Nat) (T0 T1 : Nat) (a1 : Int32) (a2 : Int32) : Nat → Nat → Int32 → Int32 → Int32 → gI → Option (gI)
  | 0, _, _, _, _, _ => none
  | j + 1, 0, x3, x4, x5, I => (if a2 ≤ x5 then some I else bd (F_X7_waveOf n T0 2 I x3 x4 ((I 2 0) + x5)) (fun v57 => gv x5 60 (L_X9_fillSeries n T0 T1 a1 a2 j 0 x3 x4 (x5 + (1 : Int32)) (sI I 92 (Int32.toNatClampNeg x5) v57))))
  | _ + 1, _, _, _, _, _ => none
theorem L_X9_fillSeries_e0 (n j : Nat) (T0 T1 : Nat) (a1 : Int32) (a2 : Int32) (x3 : Int32) (x4 : Int32) (x5 : Int32) (I : gI) : L_X9_fillSeries n T0 T1 a1 a2 (j + 1) 0 x3 x4 x5 I = (if a2 ≤ x5 then some I else bd (F_X7_waveOf n T0 2 I x3 x4 ((I 2 0) + x5)) (fun v57 => gv x5 60 (L_X9_fillSeries n T0 T1 a1 a2 j 0 x3 x4 (x5 + (1 : Int32)) (sI I 92 (Int32.toNatClampNeg x5) v57)))) := rfl
set_option maxHeartbeats 4000000 in
set_option maxRecDepth 100000 in
theorem cL_X9_fillSeries {G : gG} {lay : Nat → Nat × Nat} {T0 T1 : Nat} {Dd : Nat → Nat → UInt64} {J : gJ} {K : gI} {N : gJ} {sz n : Nat} {a1 : Int32} {a2 : Int32} (hs : G.1.stackTraces = false) (hE : gLay lay) (hT0 : gTank lay T0) (hT1 : gTank lay T1) : ∀ j : Nat, (∀ (x3 : Int32) (x4 : Int32) (x5 : Int32) (I : gI) (r : gI), L_X9_fillSeries n T0 T1 a1 a2 j 0 x3 x4 x5 I = some r → gAt G mX9_fillSeries (gQp G mX9_fillSeries (gR none (fO G (lay, T0, T1, Dd) r J K N) sz)) 24 [some (.ref (G.2.2.1 + 0)), some (.int a1), some (.int a2), some (.int x3), some (.int x4), some (.int x5)] [] (fO G (lay, T0, T1, Dd) I J K N) sz 0 0) := by
  intro j
  induction j with
  | zero => exact fun _ _ _ _ _ hf => (by cases hf)
  | succ j ih =>
    refine ?_
    · intro x3 x4 x5 I r hf
      rw [L_X9_fillSeries_e0] at hf
      refine r_iload dX9_fillSeries_24 rfl ?_
      refine r_iload_n dX9_fillSeries_26 rfl ?_
      refine r_icmp_ge (tgt := 67) dX9_fillSeries_27 (by decide) (fun c27 => ?_) (fun c27 => ?_)
      · replace hf := if_t hf c27
        have hr := Option.some.inj hf
        subst hr
        exact r_vret dX9_fillSeries_67 rfl (Nat.le_of_ble_eq_true rfl) (Nat.le_of_ble_eq_true rfl) ⟨rfl, rfl, rfl⟩
      · replace hf := if_f hf c27
        refine r_aload_n dX9_fillSeries_30 rfl ?_
        refine g9_15 dX9_fillSeries_31 wd_371 (hE 0 (by decide)) ?_
        refine r_iload dX9_fillSeries_34 rfl ?_
        refine r_aload_n dX9_fillSeries_36 rfl ?_
        refine g9_5 dX9_fillSeries_37 wd_361 (hE 0 (by decide)) ?_
        refine r_aload_n dX9_fillSeries_40 rfl ?_
        refine g9_7 dX9_fillSeries_41 wd_363 (hE 0 (by decide)) ?_
        refine r_iload_n dX9_fillSeries_44 rfl ?_
        refine r_iload dX9_fillSeries_45 rfl ?_
        refine r_aload_n dX9_fillSeries_47 rfl ?_
        refine g9_7 dX9_fillSeries_48 wd_363 (hE 0 (by decide)) ?_
        refine g6_0 dX9_fillSeries_51 wd_90 (gSt2 hE).1 ?_
        refine r_iload dX9_fillSeries_54 rfl ?_
        refine r_iadd dX9_fillSeries_56 ?_
        obtain ⟨v57, hc57, hf⟩ := bd_of hf
        refine r_cVi (rest := [.int x5, .ref (G.2.2.1 + 92)]) (ct_X7_waveOf hs hE hT0 (gSt2 hE) hc57) dX9_fillSeries_57 wd_643 zX7_waveOf wd_644 wd_645 rfl  rfl rfl (fo7 hT0.1) rfl rfl ⟨Nat.le_of_ble_eq_true rfl, Nat.le_of_ble_eq_true rfl⟩ (Nat.le_of_ble_eq_true rfl) ⟨Nat.le_of_ble_eq_true rfl, Nat.le_of_ble_eq_true rfl⟩ ?_
        obtain ⟨h60, hf⟩ := gv_of hf
        refine a_iast dX9_fillSeries_60 (hE 92 (by decide)) h60 ?_
        refine r_iincv (v := (x5 + (1 : Int32))) dX9_fillSeries_61 rfl rfl (by decide) rfl ?_
        refine r_goto (tgt := 24) dX9_fillSeries_64 (by decide) ?_
        exact r_widen (k2 := 0) (n2 := 0) (Nat.le_of_ble_eq_true rfl) (Nat.le_of_ble_eq_true rfl) (r_mask [true, true, true, true, true, true] rfl (ih x3 x4 (x5 + (1 : Int32)) (sI I 92 (Int32.toNatClampNeg x5) v57) r hf))
def F_X9_fillSeries (n : Nat) (T0 T1 : Nat) (I : gI) (a1 : Int32) (a2 : Int32) : Option (gI) := gv a1 4 (gv a1 4 (L_X9_fillSeries n T0 T1 a1 a2 n 0 (I (T0 + 3) (Int32.toNatClampNeg a1)) (I (T0 + 4) (Int32.toNatClampNeg a1)) (0 : Int32) I))
set_option maxHeartbeats 4000000 in
set_option maxRecDepth 100000 in
theorem ct_X9_fillSeries {G : gG} {lay : Nat → Nat × Nat} {T0 T1 : Nat} {Dd : Nat → Nat → UInt64} {I : gI} {J : gJ} {K : gI} {N : gJ} {sz n : Nat} {a1 : Int32} {a2 : Int32} (hs : G.1.stackTraces = false) (hE : gLay lay) (hT0 : gTank lay T0) (hT1 : gTank lay T1) {r : gI} (hf : F_X9_fillSeries n T0 T1 I a1 a2 = some r) : gCt G mX9_fillSeries [.ref (G.2.2.1 + 0), .int a1, .int a2] (fO G (lay, T0, T1, Dd) I J K N) sz (gR none (fO G (lay, T0, T1, Dd) r J K N) sz) := by
  unfold F_X9_fillSeries at hf
  refine gCt.of [some (.ref (G.2.2.1 + 0)), some (.int a1), some (.int a2), none, none, none] (by decide +kernel) rfl hs rfl (Nat.le_of_ble_eq_true rfl) ?_
  refine r_aload_n dX9_fillSeries_0 rfl ?_
  refine g9_5 dX9_fillSeries_1 wd_361 (hE 0 (by decide)) ?_
  refine g7_10 dX9_fillSeries_4 wd_323 hT0.1 ?_
  refine r_iload_n dX9_fillSeries_7 rfl ?_
  obtain ⟨h8, hf⟩ := gv_of hf
  refine a_iald dX9_fillSeries_8 hT0.2.2.2.1 h8 ?_
  refine r_istore_n dX9_fillSeries_9 (by decide) rfl ?_
  refine r_aload_n dX9_fillSeries_10 rfl ?_
  refine g9_5 dX9_fillSeries_11 wd_361 (hE 0 (by decide)) ?_
  refine g7_11 dX9_fillSeries_14 wd_326 hT0.1 ?_
  refine r_iload_n dX9_fillSeries_17 rfl ?_
  obtain ⟨h18, hf⟩ := gv_of hf
  refine a_iald dX9_fillSeries_18 hT0.2.2.2.2.1 h18 ?_
  refine r_istore dX9_fillSeries_19 (by decide) rfl ?_
  refine r_iconst (v := (0 : Int32)) dX9_fillSeries_21 (by decide) ?_
  refine r_istore dX9_fillSeries_22 (by decide) rfl ?_
  exact r_widen (k2 := 0) (n2 := 0) (Nat.le_of_ble_eq_true rfl) (Nat.le_of_ble_eq_true rfl) (r_mask [true, true, true, true, true, true] rfl ((cL_X9_fillSeries hs hE hT0 hT1 n) (I (T0 + 3) (Int32.toNatClampNeg a1)) (I (T0 + 4) (Int32.toNatClampNeg a1)) (0 : Int32) I r hf))
def L_X9_peak (n : Nat) (T0 T1 : Nat) (a1 : Int32) (a2 : Int32) : Nat → Nat → Int32 → Int32 → gI → Option (String ⊕ (Int32 × gI))
  | 0, _, _, _, _ => none
  | j + 1, 0, x3, x4, I => (if a2 ≤ x4 then some (.inr (x3, I)) else gv x4 60 (L_X9_peak n T0 T1 a1 a2 j 0 (jmax x3 (jabs (I 92 (Int32.toNatClampNeg x4)))) (x4 + (1 : Int32)) I))
  | _ + 1, _, _, _, _ => none
theorem L_X9_peak_e0 (n j : Nat) (T0 T1 : Nat) (a1 : Int32) (a2 : Int32) (x3 : Int32) (x4 : Int32) (I : gI) : L_X9_peak n T0 T1 a1 a2 (j + 1) 0 x3 x4 I = (if a2 ≤ x4 then some (.inr (x3, I)) else gv x4 60 (L_X9_peak n T0 T1 a1 a2 j 0 (jmax x3 (jabs (I 92 (Int32.toNatClampNeg x4)))) (x4 + (1 : Int32)) I)) := rfl
set_option maxHeartbeats 4000000 in
set_option maxRecDepth 100000 in
theorem cL_X9_peak {G : gG} {lay : Nat → Nat × Nat} {T0 T1 : Nat} {Dd : Nat → Nat → UInt64} {J : gJ} {K : gI} {N : gJ} {sz n : Nat} {a1 : Int32} {a2 : Int32} (hs : G.1.stackTraces = false) (hE : gLay lay) (hT0 : gTank lay T0) (hT1 : gTank lay T1) : ∀ j : Nat, (∀ (x3 : Int32) (x4 : Int32) (I : gI) (r : Int32 × gI), L_X9_peak n T0 T1 a1 a2 j 0 x3 x4 I = some (.inr r) → gAt G mX9_peak (gQp G mX9_peak (gR (some (.int r.1)) (fO G (lay, T0, T1, Dd) r.2 J K N) sz)) 24 [some (.ref (G.2.2.1 + 0)), some (.int a1), some (.int a2), some (.int x3), some (.int x4)] [] (fO G (lay, T0, T1, Dd) I J K N) sz 0 0) := by
  intro j
  induction j with
  | zero => exact fun _ _ _ _ hf => (by cases hf)
  | succ j ih =>
    refine ?_
    · intro x3 x4 I r hf
      rw [L_X9_peak_e0] at hf
      refine r_iload dX9_peak_24 rfl ?_
      refine r_iload_n dX9_peak_26 rfl ?_
      refine r_icmp_ge (tgt := 51) dX9_peak_27 (by decide) (fun c27 => ?_) (fun c27 => ?_)
      · replace hf := if_t hf c27
        refine r_iload_n dX9_peak_51 rfl ?_
        have hr := Sum.inr.inj (Option.some.inj hf)
        subst hr
        exact r_iret dX9_peak_52 rfl (Nat.le_of_ble_eq_true rfl) (Nat.le_of_ble_eq_true rfl) ⟨rfl, rfl, rfl⟩
      · replace hf := if_f hf c27
        refine r_iload_n dX9_peak_30 rfl ?_
        refine r_aload_n dX9_peak_31 rfl ?_
        refine g9_15 dX9_peak_32 wd_371 (hE 0 (by decide)) ?_
        refine r_iload dX9_peak_35 rfl ?_
        obtain ⟨h37, hf⟩ := gv_of hf
        refine a_iald dX9_peak_37 (hE 92 (by decide)) h37 ?_
        refine r_mabs dX9_peak_38 wd_1216 wd_595 wd_54 wMath_mabs (Nat.le_of_ble_eq_true rfl) (Nat.le_of_ble_eq_true rfl) (Nat.le_of_ble_eq_true rfl) (Nat.le_of_ble_eq_true rfl) ?_
        refine r_mmax dX9_peak_41 wd_1217 wd_544 wd_54 wMath_mmax (Nat.le_of_ble_eq_true rfl) (Nat.le_of_ble_eq_true rfl) (Nat.le_of_ble_eq_true rfl) (Nat.le_of_ble_eq_true rfl) ?_
        refine r_istore_n dX9_peak_44 (by decide) rfl ?_
        refine r_iincv (v := (x4 + (1 : Int32))) dX9_peak_45 rfl rfl (by decide) rfl ?_
        refine r_goto (tgt := 24) dX9_peak_48 (by decide) ?_
        exact r_widen (k2 := 0) (n2 := 0) (Nat.le_of_ble_eq_true rfl) (Nat.le_of_ble_eq_true rfl) (r_mask [true, true, true, true, true] rfl (ih (jmax x3 (jabs (I 92 (Int32.toNatClampNeg x4)))) (x4 + (1 : Int32)) I r hf))
def F_X9_peak (n : Nat) (T0 T1 : Nat) (I : gI) (a1 : Int32) (a2 : Int32) : Option (String ⊕ (Int32 × gI)) := bd (F_X9_needTank n T0 T1 I) (fun v1 => sm v1 (fun e => some (.inl e)) (fun v1 => bd (F_X9_needGauge n T0 T1 I a1) (fun v6 => sm v6 (fun e => some (.inl e)) (fun v6 => bd (F_X9_needTimes n a2) (fun v10 => sm v10 (fun e => some (.inl e)) (fun v10 => bd (F_X9_fillSeries n T0 T1 I a1 a2) (fun v16 => L_X9_peak n T0 T1 a1 a2 n 0 (0 : Int32) (0 : Int32) v16)))))))
set_option maxHeartbeats 4000000 in
set_option maxRecDepth 100000 in
theorem ct_X9_peak {G : gG} {lay : Nat → Nat × Nat} {T0 T1 : Nat} {Dd : Nat → Nat → UInt64} {I : gI} {J : gJ} {K : gI} {N : gJ} {sz n : Nat} {a1 : Int32} {a2 : Int32} (hs : G.1.stackTraces = false) (hE : gLay lay) (hT0 : gTank lay T0) (hT1 : gTank lay T1) {r : Int32 × gI} (hf : F_X9_peak n T0 T1 I a1 a2 = some (.inr r)) : gCt G mX9_peak [.ref (G.2.2.1 + 0), .int a1, .int a2] (fO G (lay, T0, T1, Dd) I J K N) sz (gR (some (.int r.1)) (fO G (lay, T0, T1, Dd) r.2 J K N) sz) := by
  unfold F_X9_peak at hf
  refine gCt.of [some (.ref (G.2.2.1 + 0)), some (.int a1), some (.int a2), none, none] (by decide +kernel) rfl hs rfl (Nat.le_of_ble_eq_true rfl) ?_
  refine r_aload_n dX9_peak_0 rfl ?_
  obtain ⟨v1, hc1, hf⟩ := bd_of hf
  rcases v1 with e1 | v1
  · exact (no_th hf).elim
  refine r_cVv (rest := []) (ct_X9_needTank hs hE hT0 hT1 hc1) dX9_peak_1 wd_413 zX9_needTank wd_415 wd_0 rfl  rfl rfl (fo9 (hE 0 (by decide))) rfl rfl ⟨Nat.le_of_ble_eq_true rfl, Nat.le_of_ble_eq_true rfl⟩ (Nat.le_of_ble_eq_true rfl) ⟨Nat.le_of_ble_eq_true rfl, Nat.le_of_ble_eq_true rfl⟩ ?_
  refine r_aload_n dX9_peak_4 rfl ?_
  refine r_iload_n dX9_peak_5 rfl ?_
  obtain ⟨v6, hc6, hf⟩ := bd_of hf
  rcases v6 with e6 | v6
  · exact (no_th hf).elim
  refine r_cVv (rest := []) (ct_X9_needGauge hs hE hT0 hT1 hc6) dX9_peak_6 wd_1207 zX9_needGauge wd_1209 wd_40 rfl  rfl rfl (fo9 (hE 0 (by decide))) rfl rfl ⟨Nat.le_of_ble_eq_true rfl, Nat.le_of_ble_eq_true rfl⟩ (Nat.le_of_ble_eq_true rfl) ⟨Nat.le_of_ble_eq_true rfl, Nat.le_of_ble_eq_true rfl⟩ ?_
  refine r_iload_n dX9_peak_9 rfl ?_
  obtain ⟨v10, hc10, hf⟩ := bd_of hf
  rcases v10 with e10 | v10
  · exact (no_th hf).elim
  refine r_cSv (rest := []) (ct_X9_needTimes hs hE hc10) dX9_peak_10 wd_660 zX9_needTimes wd_661 rfl  rfl rfl ⟨Nat.le_of_ble_eq_true rfl, Nat.le_of_ble_eq_true rfl⟩ (Nat.le_of_ble_eq_true rfl) ⟨Nat.le_of_ble_eq_true rfl, Nat.le_of_ble_eq_true rfl⟩ ?_
  refine r_aload_n dX9_peak_13 rfl ?_
  refine r_iload_n dX9_peak_14 rfl ?_
  refine r_iload_n dX9_peak_15 rfl ?_
  obtain ⟨v16, hc16, hf⟩ := bd_of hf
  refine r_cVv (rest := []) (ct_X9_fillSeries hs hE hT0 hT1 hc16) dX9_peak_16 wd_1212 zX9_fillSeries wd_1214 wd_41 rfl  rfl rfl (fo9 (hE 0 (by decide))) rfl rfl ⟨Nat.le_of_ble_eq_true rfl, Nat.le_of_ble_eq_true rfl⟩ (Nat.le_of_ble_eq_true rfl) ⟨Nat.le_of_ble_eq_true rfl, Nat.le_of_ble_eq_true rfl⟩ ?_
  refine r_iconst (v := (0 : Int32)) dX9_peak_19 (by decide) ?_
  refine r_istore_n dX9_peak_20 (by decide) rfl ?_
  refine r_iconst (v := (0 : Int32)) dX9_peak_21 (by decide) ?_
  refine r_istore dX9_peak_22 (by decide) rfl ?_
  exact r_widen (k2 := 0) (n2 := 0) (Nat.le_of_ble_eq_true rfl) (Nat.le_of_ble_eq_true rfl) (r_mask [true, true, true, true, true] rfl ((cL_X9_peak hs hE hT0 hT1 n) (0 : Int32) (0 : Int32) v16 r hf))
def L_X9_crossings (n : Nat) (T0 T1 : Nat) (a1 : Int32) (a2 : Int32) : Nat → Nat → Int32 → Int32 → Int32 → gI → Option (String ⊕ (Int32 × gI))
  | 0, _, _, _, _, _ => none
  | j + 1, 0, x3, x4, x5, I => (if a2 ≤ x5 then some (.inr (x3, I)) else gv x5 60 ((if (I 92 (Int32.toNatClampNeg x5)) = 0 then L_X9_crossings n T0 T1 a1 a2 j 0 x3 x4 (x5 + (1 : Int32)) I else gv x5 60 ((if (I 92 (Int32.toNatClampNeg x5)) ≤ 0 then (if x4 = 0 then L_X9_crossings n T0 T1 a1 a2 j 0 x3 (-1 : Int32) (x5 + (1 : Int32)) I else (if (-1 : Int32) = x4 then L_X9_crossings n T0 T1 a1 a2 j 0 x3 (-1 : Int32) (x5 + (1 : Int32)) I else L_X9_crossings n T0 T1 a1 a2 j 0 (x3 + (1 : Int32)) (-1 : Int32) (x5 + (1 : Int32)) I)) else (if x4 = 0 then L_X9_crossings n T0 T1 a1 a2 j 0 x3 (1 : Int32) (x5 + (1 : Int32)) I else (if (1 : Int32) = x4 then L_X9_crossings n T0 T1 a1 a2 j 0 x3 (1 : Int32) (x5 + (1 : Int32)) I else L_X9_crossings n T0 T1 a1 a2 j 0 (x3 + (1 : Int32)) (1 : Int32) (x5 + (1 : Int32)) I)))))))
  | _ + 1, _, _, _, _, _ => none
theorem L_X9_crossings_e0 (n j : Nat) (T0 T1 : Nat) (a1 : Int32) (a2 : Int32) (x3 : Int32) (x4 : Int32) (x5 : Int32) (I : gI) : L_X9_crossings n T0 T1 a1 a2 (j + 1) 0 x3 x4 x5 I = (if a2 ≤ x5 then some (.inr (x3, I)) else gv x5 60 ((if (I 92 (Int32.toNatClampNeg x5)) = 0 then L_X9_crossings n T0 T1 a1 a2 j 0 x3 x4 (x5 + (1 : Int32)) I else gv x5 60 ((if (I 92 (Int32.toNatClampNeg x5)) ≤ 0 then (if x4 = 0 then L_X9_crossings n T0 T1 a1 a2 j 0 x3 (-1 : Int32) (x5 + (1 : Int32)) I else (if (-1 : Int32) = x4 then L_X9_crossings n T0 T1 a1 a2 j 0 x3 (-1 : Int32) (x5 + (1 : Int32)) I else L_X9_crossings n T0 T1 a1 a2 j 0 (x3 + (1 : Int32)) (-1 : Int32) (x5 + (1 : Int32)) I)) else (if x4 = 0 then L_X9_crossings n T0 T1 a1 a2 j 0 x3 (1 : Int32) (x5 + (1 : Int32)) I else (if (1 : Int32) = x4 then L_X9_crossings n T0 T1 a1 a2 j 0 x3 (1 : Int32) (x5 + (1 : Int32)) I else L_X9_crossings n T0 T1 a1 a2 j 0 (x3 + (1 : Int32)) (1 : Int32) (x5 + (1 : Int32)) I))))))) := rfl
set_option maxHeartbeats 4000000 in
set_option maxRecDepth 100000 in
theorem cL_X9_crossings {G : gG} {lay : Nat → Nat × Nat} {T0 T1 : Nat} {Dd : Nat → Nat → UInt64} {J : gJ} {K : gI} {N : gJ} {sz n : Nat} {a1 : Int32} {a2 : Int32} (hs : G.1.stackTraces = false) (hE : gLay lay) (hT0 : gTank lay T0) (hT1 : gTank lay T1) : ∀ j : Nat, (∀ (x3 : Int32) (x4 : Int32) (x5 : Int32) (I : gI) (r : Int32 × gI), L_X9_crossings n T0 T1 a1 a2 j 0 x3 x4 x5 I = some (.inr r) → gAt G mX9_crossings (gQp G mX9_crossings (gR (some (.int r.1)) (fO G (lay, T0, T1, Dd) r.2 J K N) sz)) 27 [some (.ref (G.2.2.1 + 0)), some (.int a1), some (.int a2), some (.int x3), some (.int x4), some (.int x5), none] [] (fO G (lay, T0, T1, Dd) I J K N) sz 0 0) := by
  intro j
  induction j with
  | zero => exact fun _ _ _ _ _ hf => (by cases hf)
  | succ j ih =>
    refine ?_
    · intro x3 x4 x5 I r hf
      rw [L_X9_crossings_e0] at hf
      refine r_iload dX9_crossings_27 rfl ?_
      refine r_iload_n dX9_crossings_29 rfl ?_
      refine r_icmp_ge (tgt := 85) dX9_crossings_30 (by decide) (fun c30 => ?_) (fun c30 => ?_)
      · replace hf := if_t hf c30
        refine r_iload_n dX9_crossings_85 rfl ?_
        have hr := Sum.inr.inj (Option.some.inj hf)
        subst hr
        exact r_iret dX9_crossings_86 rfl (Nat.le_of_ble_eq_true rfl) (Nat.le_of_ble_eq_true rfl) ⟨rfl, rfl, rfl⟩
      · replace hf := if_f hf c30
        refine r_aload_n dX9_crossings_33 rfl ?_
        refine g9_15 dX9_crossings_34 wd_371 (hE 0 (by decide)) ?_
        refine r_iload dX9_crossings_37 rfl ?_
        obtain ⟨h39, hf⟩ := gv_of hf
        refine a_iald dX9_crossings_39 (hE 92 (by decide)) h39 ?_
        refine r_if_eq (tgt := 79) dX9_crossings_40 (by decide) (fun c40 => ?_) (fun c40 => ?_)
        · replace hf := if_t hf c40
          refine r_iincv (v := (x5 + (1 : Int32))) dX9_crossings_79 rfl rfl (by decide) rfl ?_
          refine r_goto (tgt := 27) dX9_crossings_82 (by decide) ?_
          exact r_widen (k2 := 0) (n2 := 0) (Nat.le_of_ble_eq_true rfl) (Nat.le_of_ble_eq_true rfl) (r_mask [true, true, true, true, true, true, false] rfl (ih x3 x4 (x5 + (1 : Int32)) I r hf))
        · replace hf := if_f hf c40
          refine r_aload_n dX9_crossings_43 rfl ?_
          refine g9_15 dX9_crossings_44 wd_371 (hE 0 (by decide)) ?_
          refine r_iload dX9_crossings_47 rfl ?_
          obtain ⟨h49, hf⟩ := gv_of hf
          refine a_iald dX9_crossings_49 (hE 92 (by decide)) h49 ?_
          refine r_if_le (tgt := 57) dX9_crossings_50 (by decide) (fun c50 => ?_) (fun c50 => ?_)
          · replace hf := if_t hf c50
            refine r_iconst (v := (-1 : Int32)) dX9_crossings_57 (by decide) ?_
            refine r_istore dX9_crossings_58 (by decide) rfl ?_
            refine r_iload dX9_crossings_60 rfl ?_
            refine r_if_eq (tgt := 75) dX9_crossings_62 (by decide) (fun c62 => ?_) (fun c62 => ?_)
            · replace hf := if_t hf c62
              refine r_iload dX9_crossings_75 rfl ?_
              refine r_istore dX9_crossings_77 (by decide) rfl ?_
              refine r_iincv (v := (x5 + (1 : Int32))) dX9_crossings_79 rfl rfl (by decide) rfl ?_
              refine r_goto (tgt := 27) dX9_crossings_82 (by decide) ?_
              exact r_widen (k2 := 0) (n2 := 0) (Nat.le_of_ble_eq_true rfl) (Nat.le_of_ble_eq_true rfl) (r_mask [true, true, true, true, true, true, false] rfl (ih x3 (-1 : Int32) (x5 + (1 : Int32)) I r hf))
            · replace hf := if_f hf c62
              refine r_iload dX9_crossings_65 rfl ?_
              refine r_iload dX9_crossings_67 rfl ?_
              refine r_icmp_eq (tgt := 75) dX9_crossings_69 (by decide) (fun c69 => ?_) (fun c69 => ?_)
              · replace hf := if_t hf c69
                refine r_iload dX9_crossings_75 rfl ?_
                refine r_istore dX9_crossings_77 (by decide) rfl ?_
                refine r_iincv (v := (x5 + (1 : Int32))) dX9_crossings_79 rfl rfl (by decide) rfl ?_
                refine r_goto (tgt := 27) dX9_crossings_82 (by decide) ?_
                exact r_widen (k2 := 0) (n2 := 0) (Nat.le_of_ble_eq_true rfl) (Nat.le_of_ble_eq_true rfl) (r_mask [true, true, true, true, true, true, false] rfl (ih x3 (-1 : Int32) (x5 + (1 : Int32)) I r hf))
              · replace hf := if_f hf c69
                refine r_iincv (v := (x3 + (1 : Int32))) dX9_crossings_72 rfl rfl (by decide) rfl ?_
                refine r_iload dX9_crossings_75 rfl ?_
                refine r_istore dX9_crossings_77 (by decide) rfl ?_
                refine r_iincv (v := (x5 + (1 : Int32))) dX9_crossings_79 rfl rfl (by decide) rfl ?_
                refine r_goto (tgt := 27) dX9_crossings_82 (by decide) ?_
                exact r_widen (k2 := 0) (n2 := 0) (Nat.le_of_ble_eq_true rfl) (Nat.le_of_ble_eq_true rfl) (r_mask [true, true, true, true, true, true, false] rfl (ih (x3 + (1 : Int32)) (-1 : Int32) (x5 + (1 : Int32)) I r hf))
          · replace hf := if_f hf c50
            refine r_iconst (v := (1 : Int32)) dX9_crossings_53 (by decide) ?_
            refine r_goto (tgt := 58) dX9_crossings_54 (by decide) ?_
            refine r_istore dX9_crossings_58 (by decide) rfl ?_
            refine r_iload dX9_crossings_60 rfl ?_
            refine r_if_eq (tgt := 75) dX9_crossings_62 (by decide) (fun c62 => ?_) (fun c62 => ?_)
            · replace hf := if_t hf c62
              refine r_iload dX9_crossings_75 rfl ?_
              refine r_istore dX9_crossings_77 (by decide) rfl ?_
              refine r_iincv (v := (x5 + (1 : Int32))) dX9_crossings_79 rfl rfl (by decide) rfl ?_
              refine r_goto (tgt := 27) dX9_crossings_82 (by decide) ?_
              exact r_widen (k2 := 0) (n2 := 0) (Nat.le_of_ble_eq_true rfl) (Nat.le_of_ble_eq_true rfl) (r_mask [true, true, true, true, true, true, false] rfl (ih x3 (1 : Int32) (x5 + (1 : Int32)) I r hf))
            · replace hf := if_f hf c62
              refine r_iload dX9_crossings_65 rfl ?_
              refine r_iload dX9_crossings_67 rfl ?_
              refine r_icmp_eq (tgt := 75) dX9_crossings_69 (by decide) (fun c69 => ?_) (fun c69 => ?_)
              · replace hf := if_t hf c69
                refine r_iload dX9_crossings_75 rfl ?_
                refine r_istore dX9_crossings_77 (by decide) rfl ?_
                refine r_iincv (v := (x5 + (1 : Int32))) dX9_crossings_79 rfl rfl (by decide) rfl ?_
                refine r_goto (tgt := 27) dX9_crossings_82 (by decide) ?_
                exact r_widen (k2 := 0) (n2 := 0) (Nat.le_of_ble_eq_true rfl) (Nat.le_of_ble_eq_true rfl) (r_mask [true, true, true, true, true, true, false] rfl (ih x3 (1 : Int32) (x5 + (1 : Int32)) I r hf))
              · replace hf := if_f hf c69
                refine r_iincv (v := (x3 + (1 : Int32))) dX9_crossings_72 rfl rfl (by decide) rfl ?_
                refine r_iload dX9_crossings_75 rfl ?_
                refine r_istore dX9_crossings_77 (by decide) rfl ?_
                refine r_iincv (v := (x5 + (1 : Int32))) dX9_crossings_79 rfl rfl (by decide) rfl ?_
                refine r_goto (tgt := 27) dX9_crossings_82 (by decide) ?_
                exact r_widen (k2 := 0) (n2 := 0) (Nat.le_of_ble_eq_true rfl) (Nat.le_of_ble_eq_true rfl) (r_mask [true, true, true, true, true, true, false] rfl (ih (x3 + (1 : Int32)) (1 : Int32) (x5 + (1 : Int32)) I r hf))
def F_X9_crossings (n : Nat) (T0 T1 : Nat) (I : gI) (a1 : Int32) (a2 : Int32) : Option (String ⊕ (Int32 × gI)) := bd (F_X9_needTank n T0 T1 I) (fun v1 => sm v1 (fun e => some (.inl e)) (fun v1 => bd (F_X9_needGauge n T0 T1 I a1) (fun v6 => sm v6 (fun e => some (.inl e)) (fun v6 => bd (F_X9_needTimes n a2) (fun v10 => sm v10 (fun e => some (.inl e)) (fun v10 => bd (F_X9_fillSeries n T0 T1 I a1 a2) (fun v16 => L_X9_crossings n T0 T1 a1 a2 n 0 (0 : Int32) (0 : Int32) (0 : Int32) v16)))))))
set_option maxHeartbeats 4000000 in
set_option maxRecDepth 100000 in
theorem ct_X9_crossings {G : gG} {lay : Nat → Nat × Nat} {T0 T1 : Nat} {Dd : Nat → Nat → UInt64} {I : gI} {J : gJ} {K : gI} {N : gJ} {sz n : Nat} {a1 : Int32} {a2 : Int32} (hs : G.1.stackTraces = false) (hE : gLay lay) (hT0 : gTank lay T0) (hT1 : gTank lay T1) {r : Int32 × gI} (hf : F_X9_crossings n T0 T1 I a1 a2 = some (.inr r)) : gCt G mX9_crossings [.ref (G.2.2.1 + 0), .int a1, .int a2] (fO G (lay, T0, T1, Dd) I J K N) sz (gR (some (.int r.1)) (fO G (lay, T0, T1, Dd) r.2 J K N) sz) := by
  unfold F_X9_crossings at hf
  refine gCt.of [some (.ref (G.2.2.1 + 0)), some (.int a1), some (.int a2), none, none, none, none] (by decide +kernel) rfl hs rfl (Nat.le_of_ble_eq_true rfl) ?_
  refine r_aload_n dX9_crossings_0 rfl ?_
  obtain ⟨v1, hc1, hf⟩ := bd_of hf
  rcases v1 with e1 | v1
  · exact (no_th hf).elim
  refine r_cVv (rest := []) (ct_X9_needTank hs hE hT0 hT1 hc1) dX9_crossings_1 wd_413 zX9_needTank wd_415 wd_0 rfl  rfl rfl (fo9 (hE 0 (by decide))) rfl rfl ⟨Nat.le_of_ble_eq_true rfl, Nat.le_of_ble_eq_true rfl⟩ (Nat.le_of_ble_eq_true rfl) ⟨Nat.le_of_ble_eq_true rfl, Nat.le_of_ble_eq_true rfl⟩ ?_
  refine r_aload_n dX9_crossings_4 rfl ?_
  refine r_iload_n dX9_crossings_5 rfl ?_
  obtain ⟨v6, hc6, hf⟩ := bd_of hf
  rcases v6 with e6 | v6
  · exact (no_th hf).elim
  refine r_cVv (rest := []) (ct_X9_needGauge hs hE hT0 hT1 hc6) dX9_crossings_6 wd_1207 zX9_needGauge wd_1209 wd_40 rfl  rfl rfl (fo9 (hE 0 (by decide))) rfl rfl ⟨Nat.le_of_ble_eq_true rfl, Nat.le_of_ble_eq_true rfl⟩ (Nat.le_of_ble_eq_true rfl) ⟨Nat.le_of_ble_eq_true rfl, Nat.le_of_ble_eq_true rfl⟩ ?_
  refine r_iload_n dX9_crossings_9 rfl ?_
  obtain ⟨v10, hc10, hf⟩ := bd_of hf
  rcases v10 with e10 | v10
  · exact (no_th hf).elim
  refine r_cSv (rest := []) (ct_X9_needTimes hs hE hc10) dX9_crossings_10 wd_660 zX9_needTimes wd_661 rfl  rfl rfl ⟨Nat.le_of_ble_eq_true rfl, Nat.le_of_ble_eq_true rfl⟩ (Nat.le_of_ble_eq_true rfl) ⟨Nat.le_of_ble_eq_true rfl, Nat.le_of_ble_eq_true rfl⟩ ?_
  refine r_aload_n dX9_crossings_13 rfl ?_
  refine r_iload_n dX9_crossings_14 rfl ?_
  refine r_iload_n dX9_crossings_15 rfl ?_
  obtain ⟨v16, hc16, hf⟩ := bd_of hf
  refine r_cVv (rest := []) (ct_X9_fillSeries hs hE hT0 hT1 hc16) dX9_crossings_16 wd_1212 zX9_fillSeries wd_1214 wd_41 rfl  rfl rfl (fo9 (hE 0 (by decide))) rfl rfl ⟨Nat.le_of_ble_eq_true rfl, Nat.le_of_ble_eq_true rfl⟩ (Nat.le_of_ble_eq_true rfl) ⟨Nat.le_of_ble_eq_true rfl, Nat.le_of_ble_eq_true rfl⟩ ?_
  refine r_iconst (v := (0 : Int32)) dX9_crossings_19 (by decide) ?_
  refine r_istore_n dX9_crossings_20 (by decide) rfl ?_
  refine r_iconst (v := (0 : Int32)) dX9_crossings_21 (by decide) ?_
  refine r_istore dX9_crossings_22 (by decide) rfl ?_
  refine r_iconst (v := (0 : Int32)) dX9_crossings_24 (by decide) ?_
  refine r_istore dX9_crossings_25 (by decide) rfl ?_
  exact r_widen (k2 := 0) (n2 := 0) (Nat.le_of_ble_eq_true rfl) (Nat.le_of_ble_eq_true rfl) (r_mask [true, true, true, true, true, true, false] rfl ((cL_X9_crossings hs hE hT0 hT1 n) (0 : Int32) (0 : Int32) (0 : Int32) v16 r hf))
def L_X9_laggedSum (n : Nat) (T0 T1 : Nat) (I : gI) (a1 : Int32) (a2 : Int32) : Nat → Nat → Int64 → Int32 → Option (Int64)
  | 0, _, _, _ => none
  | j + 1, 0, y3, x5 => (if a1 ≤ x5 then some y3 else gv x5 60 (gv (x5 + a2) 60 (L_X9_laggedSum n T0 T1 I a1 a2 j 0 (y3 + ((Int32.toInt64 (I 92 (Int32.toNatClampNeg x5))) * (Int32.toInt64 (I 92 (Int32.toNatClampNeg (x5 + a2)))))) (x5 + (1 : Int32)))))
  | _ + 1, _, _, _ => none
theorem L_X9_laggedSum_e0 (n j : Nat) (T0 T1 : Nat) (I : gI) (a1 : Int32) (a2 : Int32) (y3 : Int64) (x5 : Int32) : L_X9_laggedSum n T0 T1 I a1 a2 (j + 1) 0 y3 x5 = (if a1 ≤ x5 then some y3 else gv x5 60 (gv (x5 + a2) 60 (L_X9_laggedSum n T0 T1 I a1 a2 j 0 (y3 + ((Int32.toInt64 (I 92 (Int32.toNatClampNeg x5))) * (Int32.toInt64 (I 92 (Int32.toNatClampNeg (x5 + a2)))))) (x5 + (1 : Int32))))) := rfl
set_option maxHeartbeats 4000000 in
set_option maxRecDepth 100000 in
theorem cL_X9_laggedSum {G : gG} {lay : Nat → Nat × Nat} {T0 T1 : Nat} {Dd : Nat → Nat → UInt64} {I : gI} {J : gJ} {K : gI} {N : gJ} {sz n : Nat} {a1 : Int32} {a2 : Int32} (hs : G.1.stackTraces = false) (hE : gLay lay) (hT0 : gTank lay T0) (hT1 : gTank lay T1) : ∀ j : Nat, (∀ (y3 : Int64) (x5 : Int32) (r : Int64), L_X9_laggedSum n T0 T1 I a1 a2 j 0 y3 x5 = some r → gAt G mX9_laggedSum (gQp G mX9_laggedSum (gR (some (.long r)) (fO G (lay, T0, T1, Dd) I J K N) sz)) 5 [some (.ref (G.2.2.1 + 0)), some (.int a1), some (.int a2), some (.long y3), none, some (.int x5)] [] (fO G (lay, T0, T1, Dd) I J K N) sz 0 0) := by
  intro j
  induction j with
  | zero => exact fun _ _ _ hf => (by cases hf)
  | succ j ih =>
    refine ?_
    · intro y3 x5 r hf
      rw [L_X9_laggedSum_e0] at hf
      refine r_iload dX9_laggedSum_5 rfl ?_
      refine r_iload_n dX9_laggedSum_7 rfl ?_
      refine r_icmp_ge (tgt := 39) dX9_laggedSum_8 (by decide) (fun c8 => ?_) (fun c8 => ?_)
      · replace hf := if_t hf c8
        refine r_lload_n dX9_laggedSum_39 rfl ?_
        have hr := Option.some.inj hf
        subst hr
        exact r_lret dX9_laggedSum_40 rfl (Nat.le_of_ble_eq_true rfl) (Nat.le_of_ble_eq_true rfl) ⟨rfl, rfl, rfl⟩
      · replace hf := if_f hf c8
        refine r_lload_n dX9_laggedSum_11 rfl ?_
        refine r_aload_n dX9_laggedSum_12 rfl ?_
        refine g9_15 dX9_laggedSum_13 wd_371 (hE 0 (by decide)) ?_
        refine r_iload dX9_laggedSum_16 rfl ?_
        obtain ⟨h18, hf⟩ := gv_of hf
        refine a_iald dX9_laggedSum_18 (hE 92 (by decide)) h18 ?_
        refine r_i2l dX9_laggedSum_19 ?_
        refine r_aload_n dX9_laggedSum_20 rfl ?_
        refine g9_15 dX9_laggedSum_21 wd_371 (hE 0 (by decide)) ?_
        refine r_iload dX9_laggedSum_24 rfl ?_
        refine r_iload_n dX9_laggedSum_26 rfl ?_
        refine r_iadd dX9_laggedSum_27 ?_
        obtain ⟨h28, hf⟩ := gv_of hf
        refine a_iald dX9_laggedSum_28 (hE 92 (by decide)) h28 ?_
        refine r_i2l dX9_laggedSum_29 ?_
        refine r_lmul dX9_laggedSum_30 ?_
        refine r_ladd dX9_laggedSum_31 ?_
        refine r_lstore_n dX9_laggedSum_32 (by decide) rfl ?_
        refine r_iincv (v := (x5 + (1 : Int32))) dX9_laggedSum_33 rfl rfl (by decide) rfl ?_
        refine r_goto (tgt := 5) dX9_laggedSum_36 (by decide) ?_
        exact r_widen (k2 := 0) (n2 := 0) (Nat.le_of_ble_eq_true rfl) (Nat.le_of_ble_eq_true rfl) (r_mask [true, true, true, true, false, true] rfl (ih (y3 + ((Int32.toInt64 (I 92 (Int32.toNatClampNeg x5))) * (Int32.toInt64 (I 92 (Int32.toNatClampNeg (x5 + a2)))))) (x5 + (1 : Int32)) r hf))
def F_X9_laggedSum (n : Nat) (T0 T1 : Nat) (I : gI) (a1 : Int32) (a2 : Int32) : Option (Int64) := L_X9_laggedSum n T0 T1 I a1 a2 n 0 (0 : Int64) (0 : Int32)
set_option maxHeartbeats 4000000 in
set_option maxRecDepth 100000 in
theorem ct_X9_laggedSum {G : gG} {lay : Nat → Nat × Nat} {T0 T1 : Nat} {Dd : Nat → Nat → UInt64} {I : gI} {J : gJ} {K : gI} {N : gJ} {sz n : Nat} {a1 : Int32} {a2 : Int32} (hs : G.1.stackTraces = false) (hE : gLay lay) (hT0 : gTank lay T0) (hT1 : gTank lay T1) {r : Int64} (hf : F_X9_laggedSum n T0 T1 I a1 a2 = some r) : gCt G mX9_laggedSum [.ref (G.2.2.1 + 0), .int a1, .int a2] (fO G (lay, T0, T1, Dd) I J K N) sz (gR (some (.long r)) (fO G (lay, T0, T1, Dd) I J K N) sz) := by
  unfold F_X9_laggedSum at hf
  refine gCt.of [some (.ref (G.2.2.1 + 0)), some (.int a1), some (.int a2), none, none, none] (by decide +kernel) rfl hs rfl (Nat.le_of_ble_eq_true rfl) ?_
  refine r_lconst (v := (0 : Int64)) dX9_laggedSum_0 (by decide) ?_
  refine r_lstore_n dX9_laggedSum_1 (by decide) rfl ?_
  refine r_iconst (v := (0 : Int32)) dX9_laggedSum_2 (by decide) ?_
  refine r_istore dX9_laggedSum_3 (by decide) rfl ?_
  exact r_widen (k2 := 0) (n2 := 0) (Nat.le_of_ble_eq_true rfl) (Nat.le_of_ble_eq_true rfl) (r_mask [true, true, true, true, false, true] rfl ((cL_X9_laggedSum hs hE hT0 hT1 n) (0 : Int64) (0 : Int32) r hf))
def L_X9_rhythm (n : Nat) (T0 T1 : Nat) (a1 : Int32) (a2 : Int32) : Nat → Nat → Int32 → Int64 → Int32 → gI → Option (String ⊕ (Int32 × gI))
  | 0, _, _, _, _, _ => none
  | j + 1, 0, x3, y4, x6, I => (if (20 : Int32) < x6 then some (.inr (x3, I)) else bd (F_X9_laggedSum n T0 T1 I a2 x6) (fun v46 => (if (lg_cmp v46 y4) ≤ 0 then L_X9_rhythm n T0 T1 a1 a2 j 0 x3 y4 (x6 + (1 : Int32)) I else L_X9_rhythm n T0 T1 a1 a2 j 0 x6 v46 (x6 + (1 : Int32)) I)))
  | _ + 1, _, _, _, _, _ => none
theorem L_X9_rhythm_e0 (n j : Nat) (T0 T1 : Nat) (a1 : Int32) (a2 : Int32) (x3 : Int32) (y4 : Int64) (x6 : Int32) (I : gI) : L_X9_rhythm n T0 T1 a1 a2 (j + 1) 0 x3 y4 x6 I = (if (20 : Int32) < x6 then some (.inr (x3, I)) else bd (F_X9_laggedSum n T0 T1 I a2 x6) (fun v46 => (if (lg_cmp v46 y4) ≤ 0 then L_X9_rhythm n T0 T1 a1 a2 j 0 x3 y4 (x6 + (1 : Int32)) I else L_X9_rhythm n T0 T1 a1 a2 j 0 x6 v46 (x6 + (1 : Int32)) I))) := rfl
set_option maxHeartbeats 4000000 in
set_option maxRecDepth 100000 in
theorem cL_X9_rhythm {G : gG} {lay : Nat → Nat × Nat} {T0 T1 : Nat} {Dd : Nat → Nat → UInt64} {J : gJ} {K : gI} {N : gJ} {sz n : Nat} {a1 : Int32} {a2 : Int32} (hs : G.1.stackTraces = false) (hE : gLay lay) (hT0 : gTank lay T0) (hT1 : gTank lay T1) : ∀ j : Nat, (∀ (x3 : Int32) (y4 : Int64) (x6 : Int32) (I : gI) (r : Int32 × gI), L_X9_rhythm n T0 T1 a1 a2 j 0 x3 y4 x6 I = some (.inr r) → gAt G mX9_rhythm (gQp G mX9_rhythm (gR (some (.int r.1)) (fO G (lay, T0, T1, Dd) r.2 J K N) sz)) 35 [some (.ref (G.2.2.1 + 0)), some (.int a1), some (.int a2), some (.int x3), some (.long y4), none, some (.int x6), none, none] [] (fO G (lay, T0, T1, Dd) I J K N) sz 0 0) := by
  intro j
  induction j with
  | zero => exact fun _ _ _ _ _ hf => (by cases hf)
  | succ j ih =>
    refine ?_
    · intro x3 y4 x6 I r hf
      rw [L_X9_rhythm_e0] at hf
      refine r_iload dX9_rhythm_35 rfl ?_
      refine r_bipush (v := (20 : Int32)) dX9_rhythm_37 (by decide) ?_
      refine r_icmp_gt (tgt := 72) dX9_rhythm_39 (by decide) (fun c39 => ?_) (fun c39 => ?_)
      · replace hf := if_t hf c39
        refine r_iload_n dX9_rhythm_72 rfl ?_
        have hr := Sum.inr.inj (Option.some.inj hf)
        subst hr
        exact r_iret dX9_rhythm_73 rfl (Nat.le_of_ble_eq_true rfl) (Nat.le_of_ble_eq_true rfl) ⟨rfl, rfl, rfl⟩
      · replace hf := if_f hf c39
        refine r_aload_n dX9_rhythm_42 rfl ?_
        refine r_iload_n dX9_rhythm_43 rfl ?_
        refine r_iload dX9_rhythm_44 rfl ?_
        obtain ⟨v46, hc46, hf⟩ := bd_of hf
        refine r_cVi (rest := []) (ct_X9_laggedSum hs hE hT0 hT1 hc46) dX9_rhythm_46 wd_1230 zX9_laggedSum wd_1232 wd_42 rfl  rfl rfl (fo9 (hE 0 (by decide))) rfl rfl ⟨Nat.le_of_ble_eq_true rfl, Nat.le_of_ble_eq_true rfl⟩ (Nat.le_of_ble_eq_true rfl) ⟨Nat.le_of_ble_eq_true rfl, Nat.le_of_ble_eq_true rfl⟩ ?_
        refine r_lstore dX9_rhythm_49 (by decide) rfl ?_
        refine r_lload dX9_rhythm_51 rfl ?_
        refine r_lload dX9_rhythm_53 rfl ?_
        refine r_lcmp dX9_rhythm_55 ?_
        refine r_if_le (tgt := 66) dX9_rhythm_56 (by decide) (fun c56 => ?_) (fun c56 => ?_)
        · replace hf := if_t hf c56
          refine r_iincv (v := (x6 + (1 : Int32))) dX9_rhythm_66 rfl rfl (by decide) rfl ?_
          refine r_goto (tgt := 35) dX9_rhythm_69 (by decide) ?_
          exact r_widen (k2 := 0) (n2 := 0) (Nat.le_of_ble_eq_true rfl) (Nat.le_of_ble_eq_true rfl) (r_mask [true, true, true, true, true, false, true, false, false] rfl (ih x3 y4 (x6 + (1 : Int32)) I r hf))
        · replace hf := if_f hf c56
          refine r_lload dX9_rhythm_59 rfl ?_
          refine r_lstore dX9_rhythm_61 (by decide) rfl ?_
          refine r_iload dX9_rhythm_63 rfl ?_
          refine r_istore_n dX9_rhythm_65 (by decide) rfl ?_
          refine r_iincv (v := (x6 + (1 : Int32))) dX9_rhythm_66 rfl rfl (by decide) rfl ?_
          refine r_goto (tgt := 35) dX9_rhythm_69 (by decide) ?_
          exact r_widen (k2 := 0) (n2 := 0) (Nat.le_of_ble_eq_true rfl) (Nat.le_of_ble_eq_true rfl) (r_mask [true, true, true, true, true, false, true, false, false] rfl (ih x6 v46 (x6 + (1 : Int32)) I r hf))
def F_X9_rhythm (n : Nat) (T0 T1 : Nat) (I : gI) (a1 : Int32) (a2 : Int32) : Option (String ⊕ (Int32 × gI)) := bd (F_X9_needTank n T0 T1 I) (fun v1 => sm v1 (fun e => some (.inl e)) (fun v1 => bd (F_X9_needGauge n T0 T1 I a1) (fun v6 => sm v6 (fun e => some (.inl e)) (fun v6 => bd (F_X9_needTimes n a2) (fun v10 => sm v10 (fun e => some (.inl e)) (fun v10 => bd (F_X9_fillSeries n T0 T1 I a1 (a2 + (20 : Int32))) (fun v19 => bd (F_X9_laggedSum n T0 T1 v19 a2 (1 : Int32)) (fun v27 => L_X9_rhythm n T0 T1 a1 a2 n 0 (1 : Int32) v27 (2 : Int32) v19))))))))
set_option maxHeartbeats 4000000 in
set_option maxRecDepth 100000 in
theorem ct_X9_rhythm {G : gG} {lay : Nat → Nat × Nat} {T0 T1 : Nat} {Dd : Nat → Nat → UInt64} {I : gI} {J : gJ} {K : gI} {N : gJ} {sz n : Nat} {a1 : Int32} {a2 : Int32} (hs : G.1.stackTraces = false) (hE : gLay lay) (hT0 : gTank lay T0) (hT1 : gTank lay T1) {r : Int32 × gI} (hf : F_X9_rhythm n T0 T1 I a1 a2 = some (.inr r)) : gCt G mX9_rhythm [.ref (G.2.2.1 + 0), .int a1, .int a2] (fO G (lay, T0, T1, Dd) I J K N) sz (gR (some (.int r.1)) (fO G (lay, T0, T1, Dd) r.2 J K N) sz) := by
  unfold F_X9_rhythm at hf
  refine gCt.of [some (.ref (G.2.2.1 + 0)), some (.int a1), some (.int a2), none, none, none, none, none, none] (by decide +kernel) rfl hs rfl (Nat.le_of_ble_eq_true rfl) ?_
  refine r_aload_n dX9_rhythm_0 rfl ?_
  obtain ⟨v1, hc1, hf⟩ := bd_of hf
  rcases v1 with e1 | v1
  · exact (no_th hf).elim
  refine r_cVv (rest := []) (ct_X9_needTank hs hE hT0 hT1 hc1) dX9_rhythm_1 wd_413 zX9_needTank wd_415 wd_0 rfl  rfl rfl (fo9 (hE 0 (by decide))) rfl rfl ⟨Nat.le_of_ble_eq_true rfl, Nat.le_of_ble_eq_true rfl⟩ (Nat.le_of_ble_eq_true rfl) ⟨Nat.le_of_ble_eq_true rfl, Nat.le_of_ble_eq_true rfl⟩ ?_
  refine r_aload_n dX9_rhythm_4 rfl ?_
  refine r_iload_n dX9_rhythm_5 rfl ?_
  obtain ⟨v6, hc6, hf⟩ := bd_of hf
  rcases v6 with e6 | v6
  · exact (no_th hf).elim
  refine r_cVv (rest := []) (ct_X9_needGauge hs hE hT0 hT1 hc6) dX9_rhythm_6 wd_1207 zX9_needGauge wd_1209 wd_40 rfl  rfl rfl (fo9 (hE 0 (by decide))) rfl rfl ⟨Nat.le_of_ble_eq_true rfl, Nat.le_of_ble_eq_true rfl⟩ (Nat.le_of_ble_eq_true rfl) ⟨Nat.le_of_ble_eq_true rfl, Nat.le_of_ble_eq_true rfl⟩ ?_
  refine r_iload_n dX9_rhythm_9 rfl ?_
  obtain ⟨v10, hc10, hf⟩ := bd_of hf
  rcases v10 with e10 | v10
  · exact (no_th hf).elim
  refine r_cSv (rest := []) (ct_X9_needTimes hs hE hc10) dX9_rhythm_10 wd_660 zX9_needTimes wd_661 rfl  rfl rfl ⟨Nat.le_of_ble_eq_true rfl, Nat.le_of_ble_eq_true rfl⟩ (Nat.le_of_ble_eq_true rfl) ⟨Nat.le_of_ble_eq_true rfl, Nat.le_of_ble_eq_true rfl⟩ ?_
  refine r_aload_n dX9_rhythm_13 rfl ?_
  refine r_iload_n dX9_rhythm_14 rfl ?_
  refine r_iload_n dX9_rhythm_15 rfl ?_
  refine r_bipush (v := (20 : Int32)) dX9_rhythm_16 (by decide) ?_
  refine r_iadd dX9_rhythm_18 ?_
  obtain ⟨v19, hc19, hf⟩ := bd_of hf
  refine r_cVv (rest := []) (ct_X9_fillSeries hs hE hT0 hT1 hc19) dX9_rhythm_19 wd_1212 zX9_fillSeries wd_1214 wd_41 rfl  rfl rfl (fo9 (hE 0 (by decide))) rfl rfl ⟨Nat.le_of_ble_eq_true rfl, Nat.le_of_ble_eq_true rfl⟩ (Nat.le_of_ble_eq_true rfl) ⟨Nat.le_of_ble_eq_true rfl, Nat.le_of_ble_eq_true rfl⟩ ?_
  refine r_iconst (v := (1 : Int32)) dX9_rhythm_22 (by decide) ?_
  refine r_istore_n dX9_rhythm_23 (by decide) rfl ?_
  refine r_aload_n dX9_rhythm_24 rfl ?_
  refine r_iload_n dX9_rhythm_25 rfl ?_
  refine r_iconst (v := (1 : Int32)) dX9_rhythm_26 (by decide) ?_
  obtain ⟨v27, hc27, hf⟩ := bd_of hf
  refine r_cVi (rest := []) (ct_X9_laggedSum hs hE hT0 hT1 hc27) dX9_rhythm_27 wd_1230 zX9_laggedSum wd_1232 wd_42 rfl  rfl rfl (fo9 (hE 0 (by decide))) rfl rfl ⟨Nat.le_of_ble_eq_true rfl, Nat.le_of_ble_eq_true rfl⟩ (Nat.le_of_ble_eq_true rfl) ⟨Nat.le_of_ble_eq_true rfl, Nat.le_of_ble_eq_true rfl⟩ ?_
  refine r_lstore dX9_rhythm_30 (by decide) rfl ?_
  refine r_iconst (v := (2 : Int32)) dX9_rhythm_32 (by decide) ?_
  refine r_istore dX9_rhythm_33 (by decide) rfl ?_
  exact r_widen (k2 := 0) (n2 := 0) (Nat.le_of_ble_eq_true rfl) (Nat.le_of_ble_eq_true rfl) (r_mask [true, true, true, true, true, false, true, false, false] rfl ((cL_X9_rhythm hs hE hT0 hT1 n) (1 : Int32) v27 (2 : Int32) v19 r hf))
def F_X9_needTolerance (n : Nat) (a0 : Int32) : Option (String ⊕ (Unit)) := bd (F_X9_needRange n a0 (0 : Int32) (9999 : Int32)) (fun v5 => sm v5 (fun e => some (.inl e)) (fun v5 => some (.inr ())))
set_option maxHeartbeats 4000000 in
set_option maxRecDepth 100000 in
theorem ct_X9_needTolerance {G : gG} {lay : Nat → Nat × Nat} {T0 T1 : Nat} {Dd : Nat → Nat → UInt64} {I : gI} {J : gJ} {K : gI} {N : gJ} {sz n : Nat} {a0 : Int32} (hs : G.1.stackTraces = false) (hE : gLay lay) {r : Unit} (hf : F_X9_needTolerance n a0 = some (.inr r)) : gCt G mX9_needTolerance [.int a0] (fO G (lay, T0, T1, Dd) I J K N) sz (gR none (fO G (lay, T0, T1, Dd) I J K N) sz) := by
  unfold F_X9_needTolerance at hf
  refine gCt.of [some (.int a0)] (by decide +kernel) rfl hs rfl (Nat.le_of_ble_eq_true rfl) ?_
  refine r_iload_n dX9_needTolerance_0 rfl ?_
  refine r_iconst (v := (0 : Int32)) dX9_needTolerance_1 (by decide) ?_
  refine r_sipush (v := (9999 : Int32)) dX9_needTolerance_2 (by decide) ?_
  obtain ⟨v5, hc5, hf⟩ := bd_of hf
  rcases v5 with e5 | v5
  · exact (no_th hf).elim
  refine r_cSv (rest := []) (ct_X9_needRange hs hE hc5) dX9_needTolerance_5 wd_517 zX9_needRange wd_518 rfl  rfl rfl ⟨Nat.le_of_ble_eq_true rfl, Nat.le_of_ble_eq_true rfl⟩ (Nat.le_of_ble_eq_true rfl) ⟨Nat.le_of_ble_eq_true rfl, Nat.le_of_ble_eq_true rfl⟩ ?_
  have hr := Sum.inr.inj (Option.some.inj hf)
  subst hr
  exact r_vret dX9_needTolerance_8 rfl (Nat.le_of_ble_eq_true rfl) (Nat.le_of_ble_eq_true rfl) ⟨rfl, rfl, rfl⟩
def F_X9_isNode (n : Nat) (T0 T1 : Nat) (I : gI) (a1 : Int32) (a2 : Int32) (a3 : Int32) (a4 : Int32) : Option (String ⊕ (Int32)) := bd (F_X9_needTank n T0 T1 I) (fun v1 => sm v1 (fun e => some (.inl e)) (fun v1 => bd (F_X9_needCell n T0 T1 I a1 a2) (fun v7 => sm v7 (fun e => some (.inl e)) (fun v7 => bd (F_X9_needTimes n a3) (fun v11 => sm v11 (fun e => some (.inl e)) (fun v11 => bd (F_X9_needTolerance n a4) (fun v16 => sm v16 (fun e => some (.inl e)) (fun v16 => bd (F_X7_staysCalm n T0 2 I a1 a2 a3 a4) (fun v32 => gd (v32 = 0 ∨ v32 = 1) (some (.inr v32)))))))))))
set_option maxHeartbeats 4000000 in
set_option maxRecDepth 100000 in
theorem ct_X9_isNode {G : gG} {lay : Nat → Nat × Nat} {T0 T1 : Nat} {Dd : Nat → Nat → UInt64} {I : gI} {J : gJ} {K : gI} {N : gJ} {sz n : Nat} {a1 : Int32} {a2 : Int32} {a3 : Int32} {a4 : Int32} (hs : G.1.stackTraces = false) (hE : gLay lay) (hT0 : gTank lay T0) (hT1 : gTank lay T1) {r : Int32} (hf : F_X9_isNode n T0 T1 I a1 a2 a3 a4 = some (.inr r)) : gCt G mX9_isNode [.ref (G.2.2.1 + 0), .int a1, .int a2, .int a3, .int a4] (fO G (lay, T0, T1, Dd) I J K N) sz (gR (some (.int r)) (fO G (lay, T0, T1, Dd) I J K N) sz) := by
  unfold F_X9_isNode at hf
  refine gCt.of [some (.ref (G.2.2.1 + 0)), some (.int a1), some (.int a2), some (.int a3), some (.int a4)] (by decide +kernel) rfl hs rfl (Nat.le_of_ble_eq_true rfl) ?_
  refine r_aload_n dX9_isNode_0 rfl ?_
  obtain ⟨v1, hc1, hf⟩ := bd_of hf
  rcases v1 with e1 | v1
  · exact (no_th hf).elim
  refine r_cVv (rest := []) (ct_X9_needTank hs hE hT0 hT1 hc1) dX9_isNode_1 wd_413 zX9_needTank wd_415 wd_0 rfl  rfl rfl (fo9 (hE 0 (by decide))) rfl rfl ⟨Nat.le_of_ble_eq_true rfl, Nat.le_of_ble_eq_true rfl⟩ (Nat.le_of_ble_eq_true rfl) ⟨Nat.le_of_ble_eq_true rfl, Nat.le_of_ble_eq_true rfl⟩ ?_
  refine r_aload_n dX9_isNode_4 rfl ?_
  refine r_iload_n dX9_isNode_5 rfl ?_
  refine r_iload_n dX9_isNode_6 rfl ?_
  obtain ⟨v7, hc7, hf⟩ := bd_of hf
  rcases v7 with e7 | v7
  · exact (no_th hf).elim
  refine r_cVv (rest := []) (ct_X9_needCell hs hE hT0 hT1 hc7) dX9_isNode_7 wd_562 zX9_needCell wd_564 wd_4 rfl  rfl rfl (fo9 (hE 0 (by decide))) rfl rfl ⟨Nat.le_of_ble_eq_true rfl, Nat.le_of_ble_eq_true rfl⟩ (Nat.le_of_ble_eq_true rfl) ⟨Nat.le_of_ble_eq_true rfl, Nat.le_of_ble_eq_true rfl⟩ ?_
  refine r_iload_n dX9_isNode_10 rfl ?_
  obtain ⟨v11, hc11, hf⟩ := bd_of hf
  rcases v11 with e11 | v11
  · exact (no_th hf).elim
  refine r_cSv (rest := []) (ct_X9_needTimes hs hE hc11) dX9_isNode_11 wd_660 zX9_needTimes wd_661 rfl  rfl rfl ⟨Nat.le_of_ble_eq_true rfl, Nat.le_of_ble_eq_true rfl⟩ (Nat.le_of_ble_eq_true rfl) ⟨Nat.le_of_ble_eq_true rfl, Nat.le_of_ble_eq_true rfl⟩ ?_
  refine r_iload dX9_isNode_14 rfl ?_
  obtain ⟨v16, hc16, hf⟩ := bd_of hf
  rcases v16 with e16 | v16
  · exact (no_th hf).elim
  refine r_cSv (rest := []) (ct_X9_needTolerance hs hE hc16) dX9_isNode_16 wd_663 zX9_needTolerance wd_664 rfl  rfl rfl ⟨Nat.le_of_ble_eq_true rfl, Nat.le_of_ble_eq_true rfl⟩ (Nat.le_of_ble_eq_true rfl) ⟨Nat.le_of_ble_eq_true rfl, Nat.le_of_ble_eq_true rfl⟩ ?_
  refine r_aload_n dX9_isNode_19 rfl ?_
  refine g9_5 dX9_isNode_20 wd_361 (hE 0 (by decide)) ?_
  refine r_aload_n dX9_isNode_23 rfl ?_
  refine g9_7 dX9_isNode_24 wd_363 (hE 0 (by decide)) ?_
  refine r_iload_n dX9_isNode_27 rfl ?_
  refine r_iload_n dX9_isNode_28 rfl ?_
  refine r_iload_n dX9_isNode_29 rfl ?_
  refine r_iload dX9_isNode_30 rfl ?_
  obtain ⟨v32, hc32, hf⟩ := bd_of hf
  refine r_cVi (rest := []) (ct_X7_staysCalm hs hE hT0 (gSt2 hE) hc32) dX9_isNode_32 wd_670 zX7_staysCalm wd_671 wd_672 rfl  rfl rfl (fo7 hT0.1) rfl rfl ⟨Nat.le_of_ble_eq_true rfl, Nat.le_of_ble_eq_true rfl⟩ (Nat.le_of_ble_eq_true rfl) ⟨Nat.le_of_ble_eq_true rfl, Nat.le_of_ble_eq_true rfl⟩ ?_
  obtain ⟨hz, hf⟩ := gd_of hf
  have hr := Sum.inr.inj (Option.some.inj hf)
  subst hr
  exact r_zret dX9_isNode_35 rfl (gB_nar hz) (Nat.le_of_ble_eq_true rfl) (Nat.le_of_ble_eq_true rfl) ⟨rfl, rfl, rfl⟩
def L_X9_countCalm (n : Nat) (T0 T1 o1 : Nat) (I : gI) (a2 : Int32) (a3 : Int32) : Nat → Nat → Int32 → Int32 → Int32 → Option (Int32)
  | 0, _, _, _, _ => none
  | j + 1, 0, x4, x5, x6 => (if (I T0 2) ≤ x5 then some x4 else L_X9_countCalm n T0 T1 o1 I a2 a3 j 1 x4 x5 (0 : Int32))
  | j + 1, 1, x4, x5, x6 => (if (I T0 1) ≤ x6 then L_X9_countCalm n T0 T1 o1 I a2 a3 j 0 x4 (x5 + (1 : Int32)) 0 else bd (F_X7_staysCalm n T0 o1 I x6 x5 a2 a3) (fun v44 => (if v44 = 0 then L_X9_countCalm n T0 T1 o1 I a2 a3 j 1 x4 x5 (x6 + (1 : Int32)) else L_X9_countCalm n T0 T1 o1 I a2 a3 j 1 (x4 + (1 : Int32)) x5 (x6 + (1 : Int32)))))
  | _ + 1, _, _, _, _ => none
theorem L_X9_countCalm_e0 (n j : Nat) (T0 T1 o1 : Nat) (I : gI) (a2 : Int32) (a3 : Int32) (x4 : Int32) (x5 : Int32) (x6 : Int32) : L_X9_countCalm n T0 T1 o1 I a2 a3 (j + 1) 0 x4 x5 x6 = (if (I T0 2) ≤ x5 then some x4 else L_X9_countCalm n T0 T1 o1 I a2 a3 j 1 x4 x5 (0 : Int32)) := rfl
theorem L_X9_countCalm_e1 (n j : Nat) (T0 T1 o1 : Nat) (I : gI) (a2 : Int32) (a3 : Int32) (x4 : Int32) (x5 : Int32) (x6 : Int32) : L_X9_countCalm n T0 T1 o1 I a2 a3 (j + 1) 1 x4 x5 x6 = (if (I T0 1) ≤ x6 then L_X9_countCalm n T0 T1 o1 I a2 a3 j 0 x4 (x5 + (1 : Int32)) 0 else bd (F_X7_staysCalm n T0 o1 I x6 x5 a2 a3) (fun v44 => (if v44 = 0 then L_X9_countCalm n T0 T1 o1 I a2 a3 j 1 x4 x5 (x6 + (1 : Int32)) else L_X9_countCalm n T0 T1 o1 I a2 a3 j 1 (x4 + (1 : Int32)) x5 (x6 + (1 : Int32))))) := rfl
set_option maxHeartbeats 4000000 in
set_option maxRecDepth 100000 in
theorem cL_X9_countCalm {G : gG} {lay : Nat → Nat × Nat} {T0 T1 : Nat} {Dd : Nat → Nat → UInt64} {I : gI} {J : gJ} {K : gI} {N : gJ} {sz n : Nat} {o1 : Nat} {a2 : Int32} {a3 : Int32} (hs : G.1.stackTraces = false) (hE : gLay lay) (hT0 : gTank lay T0) (hT1 : gTank lay T1) (ho1 : gState lay o1) : ∀ j : Nat, (∀ (x4 : Int32) (x5 : Int32) (r : Int32), L_X9_countCalm n T0 T1 o1 I a2 a3 j 0 x4 x5 0 = some r → gAt G mX9_countCalm (gQp G mX9_countCalm (gR (some (.int r)) (fO G (lay, T0, T1, Dd) I J K N) sz)) 6 [some (.ref (G.2.2.1 + 0)), some (.ref (G.2.2.1 + o1)), some (.int a2), some (.int a3), some (.int x4), some (.int x5), none] [] (fO G (lay, T0, T1, Dd) I J K N) sz 0 0) ∧ (∀ (x4 : Int32) (x5 : Int32) (x6 : Int32) (r : Int32), L_X9_countCalm n T0 T1 o1 I a2 a3 j 1 x4 x5 x6 = some r → gAt G mX9_countCalm (gQp G mX9_countCalm (gR (some (.int r)) (fO G (lay, T0, T1, Dd) I J K N) sz)) 21 [some (.ref (G.2.2.1 + 0)), some (.ref (G.2.2.1 + o1)), some (.int a2), some (.int a3), some (.int x4), some (.int x5), some (.int x6)] [] (fO G (lay, T0, T1, Dd) I J K N) sz 0 0) := by
  intro j
  induction j with
  | zero => exact ⟨fun _ _ _ hf => (by cases hf), fun _ _ _ _ hf => (by cases hf)⟩
  | succ j ih =>
    refine ⟨?_, ?_⟩
    · intro x4 x5 r hf
      rw [L_X9_countCalm_e0] at hf
      refine r_iload dX9_countCalm_6 rfl ?_
      refine r_aload_n dX9_countCalm_8 rfl ?_
      refine g9_5 dX9_countCalm_9 wd_361 (hE 0 (by decide)) ?_
      refine g7_2 dX9_countCalm_12 wd_302 hT0.1 ?_
      refine r_icmp_ge (tgt := 65) dX9_countCalm_15 (by decide) (fun c15 => ?_) (fun c15 => ?_)
      · replace hf := if_t hf c15
        refine r_iload dX9_countCalm_65 rfl ?_
        have hr := Option.some.inj hf
        subst hr
        exact r_iret dX9_countCalm_67 rfl (Nat.le_of_ble_eq_true rfl) (Nat.le_of_ble_eq_true rfl) ⟨rfl, rfl, rfl⟩
      · replace hf := if_f hf c15
        refine r_iconst (v := (0 : Int32)) dX9_countCalm_18 (by decide) ?_
        refine r_istore dX9_countCalm_19 (by decide) rfl ?_
        exact r_widen (k2 := 0) (n2 := 0) (Nat.le_of_ble_eq_true rfl) (Nat.le_of_ble_eq_true rfl) (r_mask [true, true, true, true, true, true, true] rfl (ih.2 x4 x5 (0 : Int32) r hf))
    · intro x4 x5 x6 r hf
      rw [L_X9_countCalm_e1] at hf
      refine r_iload dX9_countCalm_21 rfl ?_
      refine r_aload_n dX9_countCalm_23 rfl ?_
      refine g9_5 dX9_countCalm_24 wd_361 (hE 0 (by decide)) ?_
      refine g7_1 dX9_countCalm_27 wd_299 hT0.1 ?_
      refine r_icmp_ge (tgt := 59) dX9_countCalm_30 (by decide) (fun c30 => ?_) (fun c30 => ?_)
      · replace hf := if_t hf c30
        refine r_iincv (v := (x5 + (1 : Int32))) dX9_countCalm_59 rfl rfl (by decide) rfl ?_
        refine r_goto (tgt := 6) dX9_countCalm_62 (by decide) ?_
        exact r_widen (k2 := 0) (n2 := 0) (Nat.le_of_ble_eq_true rfl) (Nat.le_of_ble_eq_true rfl) (r_mask [true, true, true, true, true, true, false] rfl (ih.1 x4 (x5 + (1 : Int32)) r hf))
      · replace hf := if_f hf c30
        refine r_aload_n dX9_countCalm_33 rfl ?_
        refine g9_5 dX9_countCalm_34 wd_361 (hE 0 (by decide)) ?_
        refine r_aload_n dX9_countCalm_37 rfl ?_
        refine r_iload dX9_countCalm_38 rfl ?_
        refine r_iload dX9_countCalm_40 rfl ?_
        refine r_iload_n dX9_countCalm_42 rfl ?_
        refine r_iload_n dX9_countCalm_43 rfl ?_
        obtain ⟨v44, hc44, hf⟩ := bd_of hf
        refine r_cVi (rest := []) (ct_X7_staysCalm hs hE hT0 ho1 hc44) dX9_countCalm_44 wd_670 zX7_staysCalm wd_671 wd_672 rfl  rfl rfl (fo7 hT0.1) rfl rfl ⟨Nat.le_of_ble_eq_true rfl, Nat.le_of_ble_eq_true rfl⟩ (Nat.le_of_ble_eq_true rfl) ⟨Nat.le_of_ble_eq_true rfl, Nat.le_of_ble_eq_true rfl⟩ ?_
        refine r_if_eq (tgt := 53) dX9_countCalm_47 (by decide) (fun c47 => ?_) (fun c47 => ?_)
        · replace hf := if_t hf c47
          refine r_iincv (v := (x6 + (1 : Int32))) dX9_countCalm_53 rfl rfl (by decide) rfl ?_
          refine r_goto (tgt := 21) dX9_countCalm_56 (by decide) ?_
          exact r_widen (k2 := 0) (n2 := 0) (Nat.le_of_ble_eq_true rfl) (Nat.le_of_ble_eq_true rfl) (r_mask [true, true, true, true, true, true, true] rfl (ih.2 x4 x5 (x6 + (1 : Int32)) r hf))
        · replace hf := if_f hf c47
          refine r_iincv (v := (x4 + (1 : Int32))) dX9_countCalm_50 rfl rfl (by decide) rfl ?_
          refine r_iincv (v := (x6 + (1 : Int32))) dX9_countCalm_53 rfl rfl (by decide) rfl ?_
          refine r_goto (tgt := 21) dX9_countCalm_56 (by decide) ?_
          exact r_widen (k2 := 0) (n2 := 0) (Nat.le_of_ble_eq_true rfl) (Nat.le_of_ble_eq_true rfl) (r_mask [true, true, true, true, true, true, true] rfl (ih.2 (x4 + (1 : Int32)) x5 (x6 + (1 : Int32)) r hf))
def F_X9_countCalm (n : Nat) (T0 T1 o1 : Nat) (I : gI) (a2 : Int32) (a3 : Int32) : Option (Int32) := L_X9_countCalm n T0 T1 o1 I a2 a3 n 0 (0 : Int32) (0 : Int32) 0
set_option maxHeartbeats 4000000 in
set_option maxRecDepth 100000 in
theorem ct_X9_countCalm {G : gG} {lay : Nat → Nat × Nat} {T0 T1 : Nat} {Dd : Nat → Nat → UInt64} {I : gI} {J : gJ} {K : gI} {N : gJ} {sz n : Nat} {o1 : Nat} {a2 : Int32} {a3 : Int32} (hs : G.1.stackTraces = false) (hE : gLay lay) (hT0 : gTank lay T0) (hT1 : gTank lay T1) (ho1 : gState lay o1) {r : Int32} (hf : F_X9_countCalm n T0 T1 o1 I a2 a3 = some r) : gCt G mX9_countCalm [.ref (G.2.2.1 + 0), .ref (G.2.2.1 + o1), .int a2, .int a3] (fO G (lay, T0, T1, Dd) I J K N) sz (gR (some (.int r)) (fO G (lay, T0, T1, Dd) I J K N) sz) := by
  unfold F_X9_countCalm at hf
  refine gCt.of [some (.ref (G.2.2.1 + 0)), some (.ref (G.2.2.1 + o1)), some (.int a2), some (.int a3), none, none, none] (by decide +kernel) rfl hs rfl (Nat.le_of_ble_eq_true rfl) ?_
  refine r_iconst (v := (0 : Int32)) dX9_countCalm_0 (by decide) ?_
  refine r_istore dX9_countCalm_1 (by decide) rfl ?_
  refine r_iconst (v := (0 : Int32)) dX9_countCalm_3 (by decide) ?_
  refine r_istore dX9_countCalm_4 (by decide) rfl ?_
  exact r_widen (k2 := 0) (n2 := 0) (Nat.le_of_ble_eq_true rfl) (Nat.le_of_ble_eq_true rfl) (r_mask [true, true, true, true, true, true, false] rfl ((cL_X9_countCalm hs hE hT0 hT1 ho1 n).1 (0 : Int32) (0 : Int32) r hf))
def F_X9_nodes (n : Nat) (T0 T1 : Nat) (I : gI) (a1 : Int32) (a2 : Int32) : Option (String ⊕ (Int32)) := bd (F_X9_needTank n T0 T1 I) (fun v1 => sm v1 (fun e => some (.inl e)) (fun v1 => bd (F_X9_needTimes n a1) (fun v5 => sm v5 (fun e => some (.inl e)) (fun v5 => bd (F_X9_needTolerance n a2) (fun v9 => sm v9 (fun e => some (.inl e)) (fun v9 => bd (F_X9_countCalm n T0 T1 2 I a1 a2) (fun v19 => some (.inr v19))))))))
set_option maxHeartbeats 4000000 in
set_option maxRecDepth 100000 in
theorem ct_X9_nodes {G : gG} {lay : Nat → Nat × Nat} {T0 T1 : Nat} {Dd : Nat → Nat → UInt64} {I : gI} {J : gJ} {K : gI} {N : gJ} {sz n : Nat} {a1 : Int32} {a2 : Int32} (hs : G.1.stackTraces = false) (hE : gLay lay) (hT0 : gTank lay T0) (hT1 : gTank lay T1) {r : Int32} (hf : F_X9_nodes n T0 T1 I a1 a2 = some (.inr r)) : gCt G mX9_nodes [.ref (G.2.2.1 + 0), .int a1, .int a2] (fO G (lay, T0, T1, Dd) I J K N) sz (gR (some (.int r)) (fO G (lay, T0, T1, Dd) I J K N) sz) := by
  unfold F_X9_nodes at hf
  refine gCt.of [some (.ref (G.2.2.1 + 0)), some (.int a1), some (.int a2)] (by decide +kernel) rfl hs rfl (Nat.le_of_ble_eq_true rfl) ?_
  refine r_aload_n dX9_nodes_0 rfl ?_
  obtain ⟨v1, hc1, hf⟩ := bd_of hf
  rcases v1 with e1 | v1
  · exact (no_th hf).elim
  refine r_cVv (rest := []) (ct_X9_needTank hs hE hT0 hT1 hc1) dX9_nodes_1 wd_413 zX9_needTank wd_415 wd_0 rfl  rfl rfl (fo9 (hE 0 (by decide))) rfl rfl ⟨Nat.le_of_ble_eq_true rfl, Nat.le_of_ble_eq_true rfl⟩ (Nat.le_of_ble_eq_true rfl) ⟨Nat.le_of_ble_eq_true rfl, Nat.le_of_ble_eq_true rfl⟩ ?_
  refine r_iload_n dX9_nodes_4 rfl ?_
  obtain ⟨v5, hc5, hf⟩ := bd_of hf
  rcases v5 with e5 | v5
  · exact (no_th hf).elim
  refine r_cSv (rest := []) (ct_X9_needTimes hs hE hc5) dX9_nodes_5 wd_660 zX9_needTimes wd_661 rfl  rfl rfl ⟨Nat.le_of_ble_eq_true rfl, Nat.le_of_ble_eq_true rfl⟩ (Nat.le_of_ble_eq_true rfl) ⟨Nat.le_of_ble_eq_true rfl, Nat.le_of_ble_eq_true rfl⟩ ?_
  refine r_iload_n dX9_nodes_8 rfl ?_
  obtain ⟨v9, hc9, hf⟩ := bd_of hf
  rcases v9 with e9 | v9
  · exact (no_th hf).elim
  refine r_cSv (rest := []) (ct_X9_needTolerance hs hE hc9) dX9_nodes_9 wd_663 zX9_needTolerance wd_664 rfl  rfl rfl ⟨Nat.le_of_ble_eq_true rfl, Nat.le_of_ble_eq_true rfl⟩ (Nat.le_of_ble_eq_true rfl) ⟨Nat.le_of_ble_eq_true rfl, Nat.le_of_ble_eq_true rfl⟩ ?_
  refine r_aload_n dX9_nodes_12 rfl ?_
  refine r_aload_n dX9_nodes_13 rfl ?_
  refine g9_7 dX9_nodes_14 wd_363 (hE 0 (by decide)) ?_
  refine r_iload_n dX9_nodes_17 rfl ?_
  refine r_iload_n dX9_nodes_18 rfl ?_
  obtain ⟨v19, hc19, hf⟩ := bd_of hf
  refine r_cVi (rest := []) (ct_X9_countCalm hs hE hT0 hT1 (gSt2 hE) hc19) dX9_nodes_19 wd_666 zX9_countCalm wd_668 wd_6 rfl  rfl rfl (fo9 (hE 0 (by decide))) rfl rfl ⟨Nat.le_of_ble_eq_true rfl, Nat.le_of_ble_eq_true rfl⟩ (Nat.le_of_ble_eq_true rfl) ⟨Nat.le_of_ble_eq_true rfl, Nat.le_of_ble_eq_true rfl⟩ ?_
  have hr := Sum.inr.inj (Option.some.inj hf)
  subst hr
  exact r_iret dX9_nodes_22 rfl (Nat.le_of_ble_eq_true rfl) (Nat.le_of_ble_eq_true rfl) ⟨rfl, rfl, rfl⟩
def L_X9_calmColumns (n : Nat) (T0 T1 o1 : Nat) (I : gI) (a2 : Int32) (a3 : Int32) (a4 : Int32) : Nat → Nat → Int32 → Int32 → Option (Int32)
  | 0, _, _, _ => none
  | j + 1, 0, x5, x6 => (if (I T0 1) ≤ x6 then some x5 else bd (F_X7_staysCalm n T0 o1 I x6 a2 a3 a4) (fun v29 => (if v29 = 0 then L_X9_calmColumns n T0 T1 o1 I a2 a3 a4 j 0 x5 (x6 + (1 : Int32)) else L_X9_calmColumns n T0 T1 o1 I a2 a3 a4 j 0 (x5 ||| ((1 : Int32) <<< (x6 &&& 31))) (x6 + (1 : Int32)))))
  | _ + 1, _, _, _ => none
theorem L_X9_calmColumns_e0 (n j : Nat) (T0 T1 o1 : Nat) (I : gI) (a2 : Int32) (a3 : Int32) (a4 : Int32) (x5 : Int32) (x6 : Int32) : L_X9_calmColumns n T0 T1 o1 I a2 a3 a4 (j + 1) 0 x5 x6 = (if (I T0 1) ≤ x6 then some x5 else bd (F_X7_staysCalm n T0 o1 I x6 a2 a3 a4) (fun v29 => (if v29 = 0 then L_X9_calmColumns n T0 T1 o1 I a2 a3 a4 j 0 x5 (x6 + (1 : Int32)) else L_X9_calmColumns n T0 T1 o1 I a2 a3 a4 j 0 (x5 ||| ((1 : Int32) <<< (x6 &&& 31))) (x6 + (1 : Int32))))) := rfl
set_option maxHeartbeats 4000000 in
set_option maxRecDepth 100000 in
theorem cL_X9_calmColumns {G : gG} {lay : Nat → Nat × Nat} {T0 T1 : Nat} {Dd : Nat → Nat → UInt64} {I : gI} {J : gJ} {K : gI} {N : gJ} {sz n : Nat} {o1 : Nat} {a2 : Int32} {a3 : Int32} {a4 : Int32} (hs : G.1.stackTraces = false) (hE : gLay lay) (hT0 : gTank lay T0) (hT1 : gTank lay T1) (ho1 : gState lay o1) : ∀ j : Nat, (∀ (x5 : Int32) (x6 : Int32) (r : Int32), L_X9_calmColumns n T0 T1 o1 I a2 a3 a4 j 0 x5 x6 = some r → gAt G mX9_calmColumns (gQp G mX9_calmColumns (gR (some (.int r)) (fO G (lay, T0, T1, Dd) I J K N) sz)) 6 [some (.ref (G.2.2.1 + 0)), some (.ref (G.2.2.1 + o1)), some (.int a2), some (.int a3), some (.int a4), some (.int x5), some (.int x6)] [] (fO G (lay, T0, T1, Dd) I J K N) sz 0 0) := by
  intro j
  induction j with
  | zero => exact fun _ _ _ hf => (by cases hf)
  | succ j ih =>
    refine ?_
    · intro x5 x6 r hf
      rw [L_X9_calmColumns_e0] at hf
      refine r_iload dX9_calmColumns_6 rfl ?_
      refine r_aload_n dX9_calmColumns_8 rfl ?_
      refine g9_5 dX9_calmColumns_9 wd_361 (hE 0 (by decide)) ?_
      refine g7_1 dX9_calmColumns_12 wd_299 hT0.1 ?_
      refine r_icmp_ge (tgt := 50) dX9_calmColumns_15 (by decide) (fun c15 => ?_) (fun c15 => ?_)
      · replace hf := if_t hf c15
        refine r_iload dX9_calmColumns_50 rfl ?_
        have hr := Option.some.inj hf
        subst hr
        exact r_iret dX9_calmColumns_52 rfl (Nat.le_of_ble_eq_true rfl) (Nat.le_of_ble_eq_true rfl) ⟨rfl, rfl, rfl⟩
      · replace hf := if_f hf c15
        refine r_aload_n dX9_calmColumns_18 rfl ?_
        refine g9_5 dX9_calmColumns_19 wd_361 (hE 0 (by decide)) ?_
        refine r_aload_n dX9_calmColumns_22 rfl ?_
        refine r_iload dX9_calmColumns_23 rfl ?_
        refine r_iload_n dX9_calmColumns_25 rfl ?_
        refine r_iload_n dX9_calmColumns_26 rfl ?_
        refine r_iload dX9_calmColumns_27 rfl ?_
        obtain ⟨v29, hc29, hf⟩ := bd_of hf
        refine r_cVi (rest := []) (ct_X7_staysCalm hs hE hT0 ho1 hc29) dX9_calmColumns_29 wd_670 zX7_staysCalm wd_671 wd_672 rfl  rfl rfl (fo7 hT0.1) rfl rfl ⟨Nat.le_of_ble_eq_true rfl, Nat.le_of_ble_eq_true rfl⟩ (Nat.le_of_ble_eq_true rfl) ⟨Nat.le_of_ble_eq_true rfl, Nat.le_of_ble_eq_true rfl⟩ ?_
        refine r_if_eq (tgt := 44) dX9_calmColumns_32 (by decide) (fun c32 => ?_) (fun c32 => ?_)
        · replace hf := if_t hf c32
          refine r_iincv (v := (x6 + (1 : Int32))) dX9_calmColumns_44 rfl rfl (by decide) rfl ?_
          refine r_goto (tgt := 6) dX9_calmColumns_47 (by decide) ?_
          exact r_widen (k2 := 0) (n2 := 0) (Nat.le_of_ble_eq_true rfl) (Nat.le_of_ble_eq_true rfl) (r_mask [true, true, true, true, true, true, true] rfl (ih x5 (x6 + (1 : Int32)) r hf))
        · replace hf := if_f hf c32
          refine r_iload dX9_calmColumns_35 rfl ?_
          refine r_iconst (v := (1 : Int32)) dX9_calmColumns_37 (by decide) ?_
          refine r_iload dX9_calmColumns_38 rfl ?_
          refine r_ishl dX9_calmColumns_40 ?_
          refine r_ior dX9_calmColumns_41 ?_
          refine r_istore dX9_calmColumns_42 (by decide) rfl ?_
          refine r_iincv (v := (x6 + (1 : Int32))) dX9_calmColumns_44 rfl rfl (by decide) rfl ?_
          refine r_goto (tgt := 6) dX9_calmColumns_47 (by decide) ?_
          exact r_widen (k2 := 0) (n2 := 0) (Nat.le_of_ble_eq_true rfl) (Nat.le_of_ble_eq_true rfl) (r_mask [true, true, true, true, true, true, true] rfl (ih (x5 ||| ((1 : Int32) <<< (x6 &&& 31))) (x6 + (1 : Int32)) r hf))
def F_X9_calmColumns (n : Nat) (T0 T1 o1 : Nat) (I : gI) (a2 : Int32) (a3 : Int32) (a4 : Int32) : Option (Int32) := L_X9_calmColumns n T0 T1 o1 I a2 a3 a4 n 0 (0 : Int32) (0 : Int32)
set_option maxHeartbeats 4000000 in
set_option maxRecDepth 100000 in
theorem ct_X9_calmColumns {G : gG} {lay : Nat → Nat × Nat} {T0 T1 : Nat} {Dd : Nat → Nat → UInt64} {I : gI} {J : gJ} {K : gI} {N : gJ} {sz n : Nat} {o1 : Nat} {a2 : Int32} {a3 : Int32} {a4 : Int32} (hs : G.1.stackTraces = false) (hE : gLay lay) (hT0 : gTank lay T0) (hT1 : gTank lay T1) (ho1 : gState lay o1) {r : Int32} (hf : F_X9_calmColumns n T0 T1 o1 I a2 a3 a4 = some r) : gCt G mX9_calmColumns [.ref (G.2.2.1 + 0), .ref (G.2.2.1 + o1), .int a2, .int a3, .int a4] (fO G (lay, T0, T1, Dd) I J K N) sz (gR (some (.int r)) (fO G (lay, T0, T1, Dd) I J K N) sz) := by
  unfold F_X9_calmColumns at hf
  refine gCt.of [some (.ref (G.2.2.1 + 0)), some (.ref (G.2.2.1 + o1)), some (.int a2), some (.int a3), some (.int a4), none, none] (by decide +kernel) rfl hs rfl (Nat.le_of_ble_eq_true rfl) ?_
  refine r_iconst (v := (0 : Int32)) dX9_calmColumns_0 (by decide) ?_
  refine r_istore dX9_calmColumns_1 (by decide) rfl ?_
  refine r_iconst (v := (0 : Int32)) dX9_calmColumns_3 (by decide) ?_
  refine r_istore dX9_calmColumns_4 (by decide) rfl ?_
  exact r_widen (k2 := 0) (n2 := 0) (Nat.le_of_ble_eq_true rfl) (Nat.le_of_ble_eq_true rfl) (r_mask [true, true, true, true, true, true, true] rfl ((cL_X9_calmColumns hs hE hT0 hT1 ho1 n) (0 : Int32) (0 : Int32) r hf))
def L_X9_nodeGroups (n : Nat) (T0 T1 : Nat) (a1 : Int32) (a2 : Int32) : Nat → Nat → Int32 → gI → Option (String ⊕ (Int32 × gI))
  | 0, _, _, _ => none
  | j + 1, 0, x3, I => (if (I T0 2) ≤ x3 then bd (F_X1_countGroups n I (I T0 1) (I T0 2)) (fun v69 => some (.inr (v69.1, v69.2))) else bd (F_X9_calmColumns n T0 T1 2 I x3 a1 a2) (fun v41 => gv x3 10 (L_X9_nodeGroups n T0 T1 a1 a2 j 0 (x3 + (1 : Int32)) (sI I (88 + 1) (Int32.toNatClampNeg x3) v41))))
  | _ + 1, _, _, _ => none
theorem L_X9_nodeGroups_e0 (n j : Nat) (T0 T1 : Nat) (a1 : Int32) (a2 : Int32) (x3 : Int32) (I : gI) : L_X9_nodeGroups n T0 T1 a1 a2 (j + 1) 0 x3 I = (if (I T0 2) ≤ x3 then bd (F_X1_countGroups n I (I T0 1) (I T0 2)) (fun v69 => some (.inr (v69.1, v69.2))) else bd (F_X9_calmColumns n T0 T1 2 I x3 a1 a2) (fun v41 => gv x3 10 (L_X9_nodeGroups n T0 T1 a1 a2 j 0 (x3 + (1 : Int32)) (sI I (88 + 1) (Int32.toNatClampNeg x3) v41)))) := rfl
set_option maxHeartbeats 4000000 in
set_option maxRecDepth 100000 in
theorem cL_X9_nodeGroups {G : gG} {lay : Nat → Nat × Nat} {T0 T1 : Nat} {Dd : Nat → Nat → UInt64} {J : gJ} {K : gI} {N : gJ} {sz n : Nat} {a1 : Int32} {a2 : Int32} (hs : G.1.stackTraces = false) (hE : gLay lay) (hT0 : gTank lay T0) (hT1 : gTank lay T1) : ∀ j : Nat, (∀ (x3 : Int32) (I : gI) (r : Int32 × gI), L_X9_nodeGroups n T0 T1 a1 a2 j 0 x3 I = some (.inr r) → gAt G mX9_nodeGroups (gQp G mX9_nodeGroups (gR (some (.int r.1)) (fO G (lay, T0, T1, Dd) r.2 J K N) sz)) 14 [some (.ref (G.2.2.1 + 0)), some (.int a1), some (.int a2), some (.int x3)] [] (fO G (lay, T0, T1, Dd) I J K N) sz 0 0) := by
  intro j
  induction j with
  | zero => exact fun _ _ _ hf => (by cases hf)
  | succ j ih =>
    refine ?_
    · intro x3 I r hf
      rw [L_X9_nodeGroups_e0] at hf
      refine r_iload_n dX9_nodeGroups_14 rfl ?_
      refine r_aload_n dX9_nodeGroups_15 rfl ?_
      refine g9_5 dX9_nodeGroups_16 wd_361 (hE 0 (by decide)) ?_
      refine g7_2 dX9_nodeGroups_19 wd_302 hT0.1 ?_
      refine r_icmp_ge (tgt := 51) dX9_nodeGroups_22 (by decide) (fun c22 => ?_) (fun c22 => ?_)
      · replace hf := if_t hf c22
        refine r_aload_n dX9_nodeGroups_51 rfl ?_
        refine g9_13 dX9_nodeGroups_52 wd_369 (hE 0 (by decide)) ?_
        refine r_aload_n dX9_nodeGroups_55 rfl ?_
        refine g9_5 dX9_nodeGroups_56 wd_361 (hE 0 (by decide)) ?_
        refine g7_1 dX9_nodeGroups_59 wd_299 hT0.1 ?_
        refine r_aload_n dX9_nodeGroups_62 rfl ?_
        refine g9_5 dX9_nodeGroups_63 wd_361 (hE 0 (by decide)) ?_
        refine g7_2 dX9_nodeGroups_66 wd_302 hT0.1 ?_
        obtain ⟨v69, hc69, hf⟩ := bd_of hf
        refine r_cVi (rest := []) (ct_X1_countGroups hs hE hc69) dX9_nodeGroups_69 wd_1191 zX1_countGroups wd_1192 wd_1193 rfl  rfl rfl (fo1 (hE 88 (by decide))) rfl rfl ⟨Nat.le_of_ble_eq_true rfl, Nat.le_of_ble_eq_true rfl⟩ (Nat.le_of_ble_eq_true rfl) ⟨Nat.le_of_ble_eq_true rfl, Nat.le_of_ble_eq_true rfl⟩ ?_
        have hr := Sum.inr.inj (Option.some.inj hf)
        subst hr
        exact r_iret dX9_nodeGroups_72 rfl (Nat.le_of_ble_eq_true rfl) (Nat.le_of_ble_eq_true rfl) ⟨rfl, rfl, rfl⟩
      · replace hf := if_f hf c22
        refine r_aload_n dX9_nodeGroups_25 rfl ?_
        refine g9_13 dX9_nodeGroups_26 wd_369 (hE 0 (by decide)) ?_
        refine g1_0 dX9_nodeGroups_29 wd_182 (hE 88 (by decide)) ?_
        refine r_iload_n dX9_nodeGroups_32 rfl ?_
        refine r_aload_n dX9_nodeGroups_33 rfl ?_
        refine r_aload_n dX9_nodeGroups_34 rfl ?_
        refine g9_7 dX9_nodeGroups_35 wd_363 (hE 0 (by decide)) ?_
        refine r_iload_n dX9_nodeGroups_38 rfl ?_
        refine r_iload_n dX9_nodeGroups_39 rfl ?_
        refine r_iload_n dX9_nodeGroups_40 rfl ?_
        obtain ⟨v41, hc41, hf⟩ := bd_of hf
        refine r_cVi (rest := [.int x3, .ref (G.2.2.1 + (88 + 1))]) (ct_X9_calmColumns hs hE hT0 hT1 (gSt2 hE) hc41) dX9_nodeGroups_41 wd_1187 zX9_calmColumns wd_1189 wd_37 rfl  rfl rfl (fo9 (hE 0 (by decide))) rfl rfl ⟨Nat.le_of_ble_eq_true rfl, Nat.le_of_ble_eq_true rfl⟩ (Nat.le_of_ble_eq_true rfl) ⟨Nat.le_of_ble_eq_true rfl, Nat.le_of_ble_eq_true rfl⟩ ?_
        obtain ⟨h44, hf⟩ := gv_of hf
        refine a_iast dX9_nodeGroups_44 (hE (88 + 1) (by decide)) h44 ?_
        refine r_iincv (v := (x3 + (1 : Int32))) dX9_nodeGroups_45 rfl rfl (by decide) rfl ?_
        refine r_goto (tgt := 14) dX9_nodeGroups_48 (by decide) ?_
        exact r_widen (k2 := 0) (n2 := 0) (Nat.le_of_ble_eq_true rfl) (Nat.le_of_ble_eq_true rfl) (r_mask [true, true, true, true] rfl (ih (x3 + (1 : Int32)) (sI I (88 + 1) (Int32.toNatClampNeg x3) v41) r hf))
def F_X9_nodeGroups (n : Nat) (T0 T1 : Nat) (I : gI) (a1 : Int32) (a2 : Int32) : Option (String ⊕ (Int32 × gI)) := bd (F_X9_needTank n T0 T1 I) (fun v1 => sm v1 (fun e => some (.inl e)) (fun v1 => bd (F_X9_needTimes n a1) (fun v5 => sm v5 (fun e => some (.inl e)) (fun v5 => bd (F_X9_needTolerance n a2) (fun v9 => sm v9 (fun e => some (.inl e)) (fun v9 => L_X9_nodeGroups n T0 T1 a1 a2 n 0 (0 : Int32) I))))))
set_option maxHeartbeats 4000000 in
set_option maxRecDepth 100000 in
theorem ct_X9_nodeGroups {G : gG} {lay : Nat → Nat × Nat} {T0 T1 : Nat} {Dd : Nat → Nat → UInt64} {I : gI} {J : gJ} {K : gI} {N : gJ} {sz n : Nat} {a1 : Int32} {a2 : Int32} (hs : G.1.stackTraces = false) (hE : gLay lay) (hT0 : gTank lay T0) (hT1 : gTank lay T1) {r : Int32 × gI} (hf : F_X9_nodeGroups n T0 T1 I a1 a2 = some (.inr r)) : gCt G mX9_nodeGroups [.ref (G.2.2.1 + 0), .int a1, .int a2] (fO G (lay, T0, T1, Dd) I J K N) sz (gR (some (.int r.1)) (fO G (lay, T0, T1, Dd) r.2 J K N) sz) := by
  unfold F_X9_nodeGroups at hf
  refine gCt.of [some (.ref (G.2.2.1 + 0)), some (.int a1), some (.int a2), none] (by decide +kernel) rfl hs rfl (Nat.le_of_ble_eq_true rfl) ?_
  refine r_aload_n dX9_nodeGroups_0 rfl ?_
  obtain ⟨v1, hc1, hf⟩ := bd_of hf
  rcases v1 with e1 | v1
  · exact (no_th hf).elim
  refine r_cVv (rest := []) (ct_X9_needTank hs hE hT0 hT1 hc1) dX9_nodeGroups_1 wd_413 zX9_needTank wd_415 wd_0 rfl  rfl rfl (fo9 (hE 0 (by decide))) rfl rfl ⟨Nat.le_of_ble_eq_true rfl, Nat.le_of_ble_eq_true rfl⟩ (Nat.le_of_ble_eq_true rfl) ⟨Nat.le_of_ble_eq_true rfl, Nat.le_of_ble_eq_true rfl⟩ ?_
  refine r_iload_n dX9_nodeGroups_4 rfl ?_
  obtain ⟨v5, hc5, hf⟩ := bd_of hf
  rcases v5 with e5 | v5
  · exact (no_th hf).elim
  refine r_cSv (rest := []) (ct_X9_needTimes hs hE hc5) dX9_nodeGroups_5 wd_660 zX9_needTimes wd_661 rfl  rfl rfl ⟨Nat.le_of_ble_eq_true rfl, Nat.le_of_ble_eq_true rfl⟩ (Nat.le_of_ble_eq_true rfl) ⟨Nat.le_of_ble_eq_true rfl, Nat.le_of_ble_eq_true rfl⟩ ?_
  refine r_iload_n dX9_nodeGroups_8 rfl ?_
  obtain ⟨v9, hc9, hf⟩ := bd_of hf
  rcases v9 with e9 | v9
  · exact (no_th hf).elim
  refine r_cSv (rest := []) (ct_X9_needTolerance hs hE hc9) dX9_nodeGroups_9 wd_663 zX9_needTolerance wd_664 rfl  rfl rfl ⟨Nat.le_of_ble_eq_true rfl, Nat.le_of_ble_eq_true rfl⟩ (Nat.le_of_ble_eq_true rfl) ⟨Nat.le_of_ble_eq_true rfl, Nat.le_of_ble_eq_true rfl⟩ ?_
  refine r_iconst (v := (0 : Int32)) dX9_nodeGroups_12 (by decide) ?_
  refine r_istore_n dX9_nodeGroups_13 (by decide) rfl ?_
  exact r_widen (k2 := 0) (n2 := 0) (Nat.le_of_ble_eq_true rfl) (Nat.le_of_ble_eq_true rfl) (r_mask [true, true, true, true] rfl ((cL_X9_nodeGroups hs hE hT0 hT1 n) (0 : Int32) I r hf))
def F_X9_energy (n : Nat) (T0 T1 : Nat) (I : gI) (a1 : Int32) (a2 : Int32) (a3 : Int32) : Option (String ⊕ (Int64)) := bd (F_X9_needTank n T0 T1 I) (fun v1 => sm v1 (fun e => some (.inl e)) (fun v1 => bd (F_X9_needCell n T0 T1 I a1 a2) (fun v7 => sm v7 (fun e => some (.inl e)) (fun v7 => bd (F_X9_needTimes n a3) (fun v11 => sm v11 (fun e => some (.inl e)) (fun v11 => bd (F_X7_energyOf n T0 2 I a1 a2 a3) (fun v25 => some (.inr v25))))))))
set_option maxHeartbeats 4000000 in
set_option maxRecDepth 100000 in
theorem ct_X9_energy {G : gG} {lay : Nat → Nat × Nat} {T0 T1 : Nat} {Dd : Nat → Nat → UInt64} {I : gI} {J : gJ} {K : gI} {N : gJ} {sz n : Nat} {a1 : Int32} {a2 : Int32} {a3 : Int32} (hs : G.1.stackTraces = false) (hE : gLay lay) (hT0 : gTank lay T0) (hT1 : gTank lay T1) {r : Int64} (hf : F_X9_energy n T0 T1 I a1 a2 a3 = some (.inr r)) : gCt G mX9_energy [.ref (G.2.2.1 + 0), .int a1, .int a2, .int a3] (fO G (lay, T0, T1, Dd) I J K N) sz (gR (some (.long r)) (fO G (lay, T0, T1, Dd) I J K N) sz) := by
  unfold F_X9_energy at hf
  refine gCt.of [some (.ref (G.2.2.1 + 0)), some (.int a1), some (.int a2), some (.int a3)] (by decide +kernel) rfl hs rfl (Nat.le_of_ble_eq_true rfl) ?_
  refine r_aload_n dX9_energy_0 rfl ?_
  obtain ⟨v1, hc1, hf⟩ := bd_of hf
  rcases v1 with e1 | v1
  · exact (no_th hf).elim
  refine r_cVv (rest := []) (ct_X9_needTank hs hE hT0 hT1 hc1) dX9_energy_1 wd_413 zX9_needTank wd_415 wd_0 rfl  rfl rfl (fo9 (hE 0 (by decide))) rfl rfl ⟨Nat.le_of_ble_eq_true rfl, Nat.le_of_ble_eq_true rfl⟩ (Nat.le_of_ble_eq_true rfl) ⟨Nat.le_of_ble_eq_true rfl, Nat.le_of_ble_eq_true rfl⟩ ?_
  refine r_aload_n dX9_energy_4 rfl ?_
  refine r_iload_n dX9_energy_5 rfl ?_
  refine r_iload_n dX9_energy_6 rfl ?_
  obtain ⟨v7, hc7, hf⟩ := bd_of hf
  rcases v7 with e7 | v7
  · exact (no_th hf).elim
  refine r_cVv (rest := []) (ct_X9_needCell hs hE hT0 hT1 hc7) dX9_energy_7 wd_562 zX9_needCell wd_564 wd_4 rfl  rfl rfl (fo9 (hE 0 (by decide))) rfl rfl ⟨Nat.le_of_ble_eq_true rfl, Nat.le_of_ble_eq_true rfl⟩ (Nat.le_of_ble_eq_true rfl) ⟨Nat.le_of_ble_eq_true rfl, Nat.le_of_ble_eq_true rfl⟩ ?_
  refine r_iload_n dX9_energy_10 rfl ?_
  obtain ⟨v11, hc11, hf⟩ := bd_of hf
  rcases v11 with e11 | v11
  · exact (no_th hf).elim
  refine r_cSv (rest := []) (ct_X9_needTimes hs hE hc11) dX9_energy_11 wd_660 zX9_needTimes wd_661 rfl  rfl rfl ⟨Nat.le_of_ble_eq_true rfl, Nat.le_of_ble_eq_true rfl⟩ (Nat.le_of_ble_eq_true rfl) ⟨Nat.le_of_ble_eq_true rfl, Nat.le_of_ble_eq_true rfl⟩ ?_
  refine r_aload_n dX9_energy_14 rfl ?_
  refine g9_5 dX9_energy_15 wd_361 (hE 0 (by decide)) ?_
  refine r_aload_n dX9_energy_18 rfl ?_
  refine g9_7 dX9_energy_19 wd_363 (hE 0 (by decide)) ?_
  refine r_iload_n dX9_energy_22 rfl ?_
  refine r_iload_n dX9_energy_23 rfl ?_
  refine r_iload_n dX9_energy_24 rfl ?_
  obtain ⟨v25, hc25, hf⟩ := bd_of hf
  refine r_cVi (rest := []) (ct_X7_energyOf hs hE hT0 (gSt2 hE) hc25) dX9_energy_25 wd_680 zX7_energyOf wd_681 wd_682 rfl  rfl rfl (fo7 hT0.1) rfl rfl ⟨Nat.le_of_ble_eq_true rfl, Nat.le_of_ble_eq_true rfl⟩ (Nat.le_of_ble_eq_true rfl) ⟨Nat.le_of_ble_eq_true rfl, Nat.le_of_ble_eq_true rfl⟩ ?_
  have hr := Sum.inr.inj (Option.some.inj hf)
  subst hr
  exact r_lret dX9_energy_28 rfl (Nat.le_of_ble_eq_true rfl) (Nat.le_of_ble_eq_true rfl) ⟨rfl, rfl, rfl⟩
def L_X9_rowEnergy (n : Nat) (T0 T1 : Nat) (I : gI) (a1 : Int32) (a2 : Int32) : Nat → Nat → Int64 → Int32 → Option (String ⊕ (Int64))
  | 0, _, _, _ => none
  | j + 1, 0, y3, x5 => (if (I T0 1) ≤ x5 then some (.inr y3) else bd (F_X7_energyOf n T0 2 I x5 a1 a2) (fun v43 => L_X9_rowEnergy n T0 T1 I a1 a2 j 0 (y3 + v43) (x5 + (1 : Int32))))
  | _ + 1, _, _, _ => none
theorem L_X9_rowEnergy_e0 (n j : Nat) (T0 T1 : Nat) (I : gI) (a1 : Int32) (a2 : Int32) (y3 : Int64) (x5 : Int32) : L_X9_rowEnergy n T0 T1 I a1 a2 (j + 1) 0 y3 x5 = (if (I T0 1) ≤ x5 then some (.inr y3) else bd (F_X7_energyOf n T0 2 I x5 a1 a2) (fun v43 => L_X9_rowEnergy n T0 T1 I a1 a2 j 0 (y3 + v43) (x5 + (1 : Int32)))) := rfl
set_option maxHeartbeats 4000000 in
set_option maxRecDepth 100000 in
theorem cL_X9_rowEnergy {G : gG} {lay : Nat → Nat × Nat} {T0 T1 : Nat} {Dd : Nat → Nat → UInt64} {I : gI} {J : gJ} {K : gI} {N : gJ} {sz n : Nat} {a1 : Int32} {a2 : Int32} (hs : G.1.stackTraces = false) (hE : gLay lay) (hT0 : gTank lay T0) (hT1 : gTank lay T1) : ∀ j : Nat, (∀ (y3 : Int64) (x5 : Int32) (r : Int64), L_X9_rowEnergy n T0 T1 I a1 a2 j 0 y3 x5 = some (.inr r) → gAt G mX9_rowEnergy (gQp G mX9_rowEnergy (gR (some (.long r)) (fO G (lay, T0, T1, Dd) I J K N) sz)) 18 [some (.ref (G.2.2.1 + 0)), some (.int a1), some (.int a2), some (.long y3), none, some (.int x5)] [] (fO G (lay, T0, T1, Dd) I J K N) sz 0 0) := by
  intro j
  induction j with
  | zero => exact fun _ _ _ hf => (by cases hf)
  | succ j ih =>
    refine ?_
    · intro y3 x5 r hf
      rw [L_X9_rowEnergy_e0] at hf
      refine r_iload dX9_rowEnergy_18 rfl ?_
      refine r_aload_n dX9_rowEnergy_20 rfl ?_
      refine g9_5 dX9_rowEnergy_21 wd_361 (hE 0 (by decide)) ?_
      refine g7_1 dX9_rowEnergy_24 wd_299 hT0.1 ?_
      refine r_icmp_ge (tgt := 54) dX9_rowEnergy_27 (by decide) (fun c27 => ?_) (fun c27 => ?_)
      · replace hf := if_t hf c27
        refine r_lload_n dX9_rowEnergy_54 rfl ?_
        have hr := Sum.inr.inj (Option.some.inj hf)
        subst hr
        exact r_lret dX9_rowEnergy_55 rfl (Nat.le_of_ble_eq_true rfl) (Nat.le_of_ble_eq_true rfl) ⟨rfl, rfl, rfl⟩
      · replace hf := if_f hf c27
        refine r_lload_n dX9_rowEnergy_30 rfl ?_
        refine r_aload_n dX9_rowEnergy_31 rfl ?_
        refine g9_5 dX9_rowEnergy_32 wd_361 (hE 0 (by decide)) ?_
        refine r_aload_n dX9_rowEnergy_35 rfl ?_
        refine g9_7 dX9_rowEnergy_36 wd_363 (hE 0 (by decide)) ?_
        refine r_iload dX9_rowEnergy_39 rfl ?_
        refine r_iload_n dX9_rowEnergy_41 rfl ?_
        refine r_iload_n dX9_rowEnergy_42 rfl ?_
        obtain ⟨v43, hc43, hf⟩ := bd_of hf
        refine r_cVi (rest := [.long y3]) (ct_X7_energyOf hs hE hT0 (gSt2 hE) hc43) dX9_rowEnergy_43 wd_680 zX7_energyOf wd_681 wd_682 rfl  rfl rfl (fo7 hT0.1) rfl rfl ⟨Nat.le_of_ble_eq_true rfl, Nat.le_of_ble_eq_true rfl⟩ (Nat.le_of_ble_eq_true rfl) ⟨Nat.le_of_ble_eq_true rfl, Nat.le_of_ble_eq_true rfl⟩ ?_
        refine r_ladd dX9_rowEnergy_46 ?_
        refine r_lstore_n dX9_rowEnergy_47 (by decide) rfl ?_
        refine r_iincv (v := (x5 + (1 : Int32))) dX9_rowEnergy_48 rfl rfl (by decide) rfl ?_
        refine r_goto (tgt := 18) dX9_rowEnergy_51 (by decide) ?_
        exact r_widen (k2 := 0) (n2 := 0) (Nat.le_of_ble_eq_true rfl) (Nat.le_of_ble_eq_true rfl) (r_mask [true, true, true, true, false, true] rfl (ih (y3 + v43) (x5 + (1 : Int32)) r hf))
def F_X9_rowEnergy (n : Nat) (T0 T1 : Nat) (I : gI) (a1 : Int32) (a2 : Int32) : Option (String ⊕ (Int64)) := bd (F_X9_needTank n T0 T1 I) (fun v1 => sm v1 (fun e => some (.inl e)) (fun v1 => bd (F_X9_needRow n T0 T1 I a1) (fun v6 => sm v6 (fun e => some (.inl e)) (fun v6 => bd (F_X9_needTimes n a2) (fun v10 => sm v10 (fun e => some (.inl e)) (fun v10 => L_X9_rowEnergy n T0 T1 I a1 a2 n 0 (0 : Int64) (0 : Int32)))))))
set_option maxHeartbeats 4000000 in
set_option maxRecDepth 100000 in
theorem ct_X9_rowEnergy {G : gG} {lay : Nat → Nat × Nat} {T0 T1 : Nat} {Dd : Nat → Nat → UInt64} {I : gI} {J : gJ} {K : gI} {N : gJ} {sz n : Nat} {a1 : Int32} {a2 : Int32} (hs : G.1.stackTraces = false) (hE : gLay lay) (hT0 : gTank lay T0) (hT1 : gTank lay T1) {r : Int64} (hf : F_X9_rowEnergy n T0 T1 I a1 a2 = some (.inr r)) : gCt G mX9_rowEnergy [.ref (G.2.2.1 + 0), .int a1, .int a2] (fO G (lay, T0, T1, Dd) I J K N) sz (gR (some (.long r)) (fO G (lay, T0, T1, Dd) I J K N) sz) := by
  unfold F_X9_rowEnergy at hf
  refine gCt.of [some (.ref (G.2.2.1 + 0)), some (.int a1), some (.int a2), none, none, none] (by decide +kernel) rfl hs rfl (Nat.le_of_ble_eq_true rfl) ?_
  refine r_aload_n dX9_rowEnergy_0 rfl ?_
  obtain ⟨v1, hc1, hf⟩ := bd_of hf
  rcases v1 with e1 | v1
  · exact (no_th hf).elim
  refine r_cVv (rest := []) (ct_X9_needTank hs hE hT0 hT1 hc1) dX9_rowEnergy_1 wd_413 zX9_needTank wd_415 wd_0 rfl  rfl rfl (fo9 (hE 0 (by decide))) rfl rfl ⟨Nat.le_of_ble_eq_true rfl, Nat.le_of_ble_eq_true rfl⟩ (Nat.le_of_ble_eq_true rfl) ⟨Nat.le_of_ble_eq_true rfl, Nat.le_of_ble_eq_true rfl⟩ ?_
  refine r_aload_n dX9_rowEnergy_4 rfl ?_
  refine r_iload_n dX9_rowEnergy_5 rfl ?_
  obtain ⟨v6, hc6, hf⟩ := bd_of hf
  rcases v6 with e6 | v6
  · exact (no_th hf).elim
  refine r_cVv (rest := []) (ct_X9_needRow hs hE hT0 hT1 hc6) dX9_rowEnergy_6 wd_484 zX9_needRow wd_486 wd_2 rfl  rfl rfl (fo9 (hE 0 (by decide))) rfl rfl ⟨Nat.le_of_ble_eq_true rfl, Nat.le_of_ble_eq_true rfl⟩ (Nat.le_of_ble_eq_true rfl) ⟨Nat.le_of_ble_eq_true rfl, Nat.le_of_ble_eq_true rfl⟩ ?_
  refine r_iload_n dX9_rowEnergy_9 rfl ?_
  obtain ⟨v10, hc10, hf⟩ := bd_of hf
  rcases v10 with e10 | v10
  · exact (no_th hf).elim
  refine r_cSv (rest := []) (ct_X9_needTimes hs hE hc10) dX9_rowEnergy_10 wd_660 zX9_needTimes wd_661 rfl  rfl rfl ⟨Nat.le_of_ble_eq_true rfl, Nat.le_of_ble_eq_true rfl⟩ (Nat.le_of_ble_eq_true rfl) ⟨Nat.le_of_ble_eq_true rfl, Nat.le_of_ble_eq_true rfl⟩ ?_
  refine r_lconst (v := (0 : Int64)) dX9_rowEnergy_13 (by decide) ?_
  refine r_lstore_n dX9_rowEnergy_14 (by decide) rfl ?_
  refine r_iconst (v := (0 : Int32)) dX9_rowEnergy_15 (by decide) ?_
  refine r_istore dX9_rowEnergy_16 (by decide) rfl ?_
  exact r_widen (k2 := 0) (n2 := 0) (Nat.le_of_ble_eq_true rfl) (Nat.le_of_ble_eq_true rfl) (r_mask [true, true, true, true, false, true] rfl ((cL_X9_rowEnergy hs hE hT0 hT1 n) (0 : Int64) (0 : Int32) r hf))
def L_X9_fillEnergies (n : Nat) (T0 T1 : Nat) (I : gI) (a1 : Int32) : Nat → Nat → Int32 → gJ → Option (gJ)
  | 0, _, _, _ => none
  | j + 1, 0, x2, J => bd (F_X7_cells n T0 I) (fun v7 => (if v7 ≤ x2 then some J else gd (¬ (I T0 1) = 0) (gd (¬ (I T0 1) = 0) (bd (F_X7_energyOf n T0 2 I (x2 - x2 / (I T0 1) * (I T0 1)) (x2 / (I T0 1)) a1) (fun v45 => gv x2 160 (L_X9_fillEnergies n T0 T1 I a1 j 0 (x2 + (1 : Int32)) (sJ J 91 (Int32.toNatClampNeg x2) v45)))))))
  | _ + 1, _, _, _ => none
theorem L_X9_fillEnergies_e0 (n j : Nat) (T0 T1 : Nat) (I : gI) (a1 : Int32) (x2 : Int32) (J : gJ) : L_X9_fillEnergies n T0 T1 I a1 (j + 1) 0 x2 J = bd (F_X7_cells n T0 I) (fun v7 => (if v7 ≤ x2 then some J else gd (¬ (I T0 1) = 0) (gd (¬ (I T0 1) = 0) (bd (F_X7_energyOf n T0 2 I (x2 - x2 / (I T0 1) * (I T0 1)) (x2 / (I T0 1)) a1) (fun v45 => gv x2 160 (L_X9_fillEnergies n T0 T1 I a1 j 0 (x2 + (1 : Int32)) (sJ J 91 (Int32.toNatClampNeg x2) v45))))))) := rfl
set_option maxHeartbeats 4000000 in
set_option maxRecDepth 100000 in
theorem cL_X9_fillEnergies {G : gG} {lay : Nat → Nat × Nat} {T0 T1 : Nat} {Dd : Nat → Nat → UInt64} {I : gI} {K : gI} {N : gJ} {sz n : Nat} {a1 : Int32} (hs : G.1.stackTraces = false) (hE : gLay lay) (hT0 : gTank lay T0) (hT1 : gTank lay T1) : ∀ j : Nat, (∀ (x2 : Int32) (J : gJ) (r : gJ), L_X9_fillEnergies n T0 T1 I a1 j 0 x2 J = some r → gAt G mX9_fillEnergies (gQp G mX9_fillEnergies (gR none (fO G (lay, T0, T1, Dd) I r K N) sz)) 2 [some (.ref (G.2.2.1 + 0)), some (.int a1), some (.int x2)] [] (fO G (lay, T0, T1, Dd) I J K N) sz 0 0) := by
  intro j
  induction j with
  | zero => exact fun _ _ _ hf => (by cases hf)
  | succ j ih =>
    refine ?_
    · intro x2 J r hf
      rw [L_X9_fillEnergies_e0] at hf
      refine r_iload_n dX9_fillEnergies_2 rfl ?_
      refine r_aload_n dX9_fillEnergies_3 rfl ?_
      refine g9_5 dX9_fillEnergies_4 wd_361 (hE 0 (by decide)) ?_
      obtain ⟨v7, hc7, hf⟩ := bd_of hf
      refine r_cVi (rest := [.int x2]) (ct_X7_cells hs hE hT0 hc7) dX9_fillEnergies_7 wd_1155 zX7_cells wd_1156 wd_1157 rfl  rfl rfl (fo7 hT0.1) rfl rfl ⟨Nat.le_of_ble_eq_true rfl, Nat.le_of_ble_eq_true rfl⟩ (Nat.le_of_ble_eq_true rfl) ⟨Nat.le_of_ble_eq_true rfl, Nat.le_of_ble_eq_true rfl⟩ ?_
      refine r_icmp_ge (tgt := 55) dX9_fillEnergies_10 (by decide) (fun c10 => ?_) (fun c10 => ?_)
      · replace hf := if_t hf c10
        have hr := Option.some.inj hf
        subst hr
        exact r_vret dX9_fillEnergies_55 rfl (Nat.le_of_ble_eq_true rfl) (Nat.le_of_ble_eq_true rfl) ⟨rfl, rfl, rfl⟩
      · replace hf := if_f hf c10
        refine r_aload_n dX9_fillEnergies_13 rfl ?_
        refine g9_14 dX9_fillEnergies_14 wd_370 (hE 0 (by decide)) ?_
        refine r_iload_n dX9_fillEnergies_17 rfl ?_
        refine r_aload_n dX9_fillEnergies_18 rfl ?_
        refine g9_5 dX9_fillEnergies_19 wd_361 (hE 0 (by decide)) ?_
        refine r_aload_n dX9_fillEnergies_22 rfl ?_
        refine g9_7 dX9_fillEnergies_23 wd_363 (hE 0 (by decide)) ?_
        refine r_iload_n dX9_fillEnergies_26 rfl ?_
        refine r_aload_n dX9_fillEnergies_27 rfl ?_
        refine g9_5 dX9_fillEnergies_28 wd_361 (hE 0 (by decide)) ?_
        refine g7_1 dX9_fillEnergies_31 wd_299 hT0.1 ?_
        obtain ⟨h34, hf⟩ := gd_of hf
        refine r_irem dX9_fillEnergies_34 h34 ?_
        refine r_iload_n dX9_fillEnergies_35 rfl ?_
        refine r_aload_n dX9_fillEnergies_36 rfl ?_
        refine g9_5 dX9_fillEnergies_37 wd_361 (hE 0 (by decide)) ?_
        refine g7_1 dX9_fillEnergies_40 wd_299 hT0.1 ?_
        obtain ⟨h43, hf⟩ := gd_of hf
        refine r_idiv dX9_fillEnergies_43 h43 ?_
        refine r_iload_n dX9_fillEnergies_44 rfl ?_
        obtain ⟨v45, hc45, hf⟩ := bd_of hf
        refine r_cVi (rest := [.int x2, .ref (G.2.2.1 + 91)]) (ct_X7_energyOf hs hE hT0 (gSt2 hE) hc45) dX9_fillEnergies_45 wd_680 zX7_energyOf wd_681 wd_682 rfl  rfl rfl (fo7 hT0.1) rfl rfl ⟨Nat.le_of_ble_eq_true rfl, Nat.le_of_ble_eq_true rfl⟩ (Nat.le_of_ble_eq_true rfl) ⟨Nat.le_of_ble_eq_true rfl, Nat.le_of_ble_eq_true rfl⟩ ?_
        obtain ⟨h48, hf⟩ := gv_of hf
        refine a_last dX9_fillEnergies_48 (hE 91 (by decide)) h48 ?_
        refine r_iincv (v := (x2 + (1 : Int32))) dX9_fillEnergies_49 rfl rfl (by decide) rfl ?_
        refine r_goto (tgt := 2) dX9_fillEnergies_52 (by decide) ?_
        exact r_widen (k2 := 0) (n2 := 0) (Nat.le_of_ble_eq_true rfl) (Nat.le_of_ble_eq_true rfl) (r_mask [true, true, true] rfl (ih (x2 + (1 : Int32)) (sJ J 91 (Int32.toNatClampNeg x2) v45) r hf))
def F_X9_fillEnergies (n : Nat) (T0 T1 : Nat) (I : gI) (J : gJ) (a1 : Int32) : Option (gJ) := L_X9_fillEnergies n T0 T1 I a1 n 0 (0 : Int32) J
set_option maxHeartbeats 4000000 in
set_option maxRecDepth 100000 in
theorem ct_X9_fillEnergies {G : gG} {lay : Nat → Nat × Nat} {T0 T1 : Nat} {Dd : Nat → Nat → UInt64} {I : gI} {J : gJ} {K : gI} {N : gJ} {sz n : Nat} {a1 : Int32} (hs : G.1.stackTraces = false) (hE : gLay lay) (hT0 : gTank lay T0) (hT1 : gTank lay T1) {r : gJ} (hf : F_X9_fillEnergies n T0 T1 I J a1 = some r) : gCt G mX9_fillEnergies [.ref (G.2.2.1 + 0), .int a1] (fO G (lay, T0, T1, Dd) I J K N) sz (gR none (fO G (lay, T0, T1, Dd) I r K N) sz) := by
  unfold F_X9_fillEnergies at hf
  refine gCt.of [some (.ref (G.2.2.1 + 0)), some (.int a1), none] (by decide +kernel) rfl hs rfl (Nat.le_of_ble_eq_true rfl) ?_
  refine r_iconst (v := (0 : Int32)) dX9_fillEnergies_0 (by decide) ?_
  refine r_istore_n dX9_fillEnergies_1 (by decide) rfl ?_
  exact r_widen (k2 := 0) (n2 := 0) (Nat.le_of_ble_eq_true rfl) (Nat.le_of_ble_eq_true rfl) (r_mask [true, true, true] rfl ((cL_X9_fillEnergies hs hE hT0 hT1 n) (0 : Int32) J r hf))
def L_X9_allEnergy (n : Nat) (T0 T1 : Nat) (I : gI) (a1 : Int32) : Nat → Nat → Int64 → Int32 → gJ → Option (String ⊕ (Int64 × gJ))
  | 0, _, _, _, _ => none
  | j + 1, 0, y2, x4, J => bd (F_X7_cells n T0 I) (fun v24 => (if v24 ≤ x4 then some (.inr (y2, J)) else gv x4 160 (L_X9_allEnergy n T0 T1 I a1 j 0 (y2 + (J 91 (Int32.toNatClampNeg x4))) (x4 + (1 : Int32)) J)))
  | _ + 1, _, _, _, _ => none
theorem L_X9_allEnergy_e0 (n j : Nat) (T0 T1 : Nat) (I : gI) (a1 : Int32) (y2 : Int64) (x4 : Int32) (J : gJ) : L_X9_allEnergy n T0 T1 I a1 (j + 1) 0 y2 x4 J = bd (F_X7_cells n T0 I) (fun v24 => (if v24 ≤ x4 then some (.inr (y2, J)) else gv x4 160 (L_X9_allEnergy n T0 T1 I a1 j 0 (y2 + (J 91 (Int32.toNatClampNeg x4))) (x4 + (1 : Int32)) J))) := rfl
set_option maxHeartbeats 4000000 in
set_option maxRecDepth 100000 in
theorem cL_X9_allEnergy {G : gG} {lay : Nat → Nat × Nat} {T0 T1 : Nat} {Dd : Nat → Nat → UInt64} {I : gI} {K : gI} {N : gJ} {sz n : Nat} {a1 : Int32} (hs : G.1.stackTraces = false) (hE : gLay lay) (hT0 : gTank lay T0) (hT1 : gTank lay T1) : ∀ j : Nat, (∀ (y2 : Int64) (x4 : Int32) (J : gJ) (r : Int64 × gJ), L_X9_allEnergy n T0 T1 I a1 j 0 y2 x4 J = some (.inr r) → gAt G mX9_allEnergy (gQp G mX9_allEnergy (gR (some (.long r.1)) (fO G (lay, T0, T1, Dd) I r.2 K N) sz)) 18 [some (.ref (G.2.2.1 + 0)), some (.int a1), some (.long y2), none, some (.int x4)] [] (fO G (lay, T0, T1, Dd) I J K N) sz 0 0) := by
  intro j
  induction j with
  | zero => exact fun _ _ _ _ hf => (by cases hf)
  | succ j ih =>
    refine ?_
    · intro y2 x4 J r hf
      rw [L_X9_allEnergy_e0] at hf
      refine r_iload dX9_allEnergy_18 rfl ?_
      refine r_aload_n dX9_allEnergy_20 rfl ?_
      refine g9_5 dX9_allEnergy_21 wd_361 (hE 0 (by decide)) ?_
      obtain ⟨v24, hc24, hf⟩ := bd_of hf
      refine r_cVi (rest := [.int x4]) (ct_X7_cells hs hE hT0 hc24) dX9_allEnergy_24 wd_1155 zX7_cells wd_1156 wd_1157 rfl  rfl rfl (fo7 hT0.1) rfl rfl ⟨Nat.le_of_ble_eq_true rfl, Nat.le_of_ble_eq_true rfl⟩ (Nat.le_of_ble_eq_true rfl) ⟨Nat.le_of_ble_eq_true rfl, Nat.le_of_ble_eq_true rfl⟩ ?_
      refine r_icmp_ge (tgt := 46) dX9_allEnergy_27 (by decide) (fun c27 => ?_) (fun c27 => ?_)
      · replace hf := if_t hf c27
        refine r_lload_n dX9_allEnergy_46 rfl ?_
        have hr := Sum.inr.inj (Option.some.inj hf)
        subst hr
        exact r_lret dX9_allEnergy_47 rfl (Nat.le_of_ble_eq_true rfl) (Nat.le_of_ble_eq_true rfl) ⟨rfl, rfl, rfl⟩
      · replace hf := if_f hf c27
        refine r_lload_n dX9_allEnergy_30 rfl ?_
        refine r_aload_n dX9_allEnergy_31 rfl ?_
        refine g9_14 dX9_allEnergy_32 wd_370 (hE 0 (by decide)) ?_
        refine r_iload dX9_allEnergy_35 rfl ?_
        obtain ⟨h37, hf⟩ := gv_of hf
        refine a_lald dX9_allEnergy_37 (hE 91 (by decide)) h37 ?_
        refine r_ladd dX9_allEnergy_38 ?_
        refine r_lstore_n dX9_allEnergy_39 (by decide) rfl ?_
        refine r_iincv (v := (x4 + (1 : Int32))) dX9_allEnergy_40 rfl rfl (by decide) rfl ?_
        refine r_goto (tgt := 18) dX9_allEnergy_43 (by decide) ?_
        exact r_widen (k2 := 0) (n2 := 0) (Nat.le_of_ble_eq_true rfl) (Nat.le_of_ble_eq_true rfl) (r_mask [true, true, true, false, true] rfl (ih (y2 + (J 91 (Int32.toNatClampNeg x4))) (x4 + (1 : Int32)) J r hf))
def F_X9_allEnergy (n : Nat) (T0 T1 : Nat) (I : gI) (J : gJ) (a1 : Int32) : Option (String ⊕ (Int64 × gJ)) := bd (F_X9_needTank n T0 T1 I) (fun v1 => sm v1 (fun e => some (.inl e)) (fun v1 => bd (F_X9_needTimes n a1) (fun v5 => sm v5 (fun e => some (.inl e)) (fun v5 => bd (F_X9_fillEnergies n T0 T1 I J a1) (fun v10 => L_X9_allEnergy n T0 T1 I a1 n 0 (0 : Int64) (0 : Int32) v10)))))
set_option maxHeartbeats 4000000 in
set_option maxRecDepth 100000 in
theorem ct_X9_allEnergy {G : gG} {lay : Nat → Nat × Nat} {T0 T1 : Nat} {Dd : Nat → Nat → UInt64} {I : gI} {J : gJ} {K : gI} {N : gJ} {sz n : Nat} {a1 : Int32} (hs : G.1.stackTraces = false) (hE : gLay lay) (hT0 : gTank lay T0) (hT1 : gTank lay T1) {r : Int64 × gJ} (hf : F_X9_allEnergy n T0 T1 I J a1 = some (.inr r)) : gCt G mX9_allEnergy [.ref (G.2.2.1 + 0), .int a1] (fO G (lay, T0, T1, Dd) I J K N) sz (gR (some (.long r.1)) (fO G (lay, T0, T1, Dd) I r.2 K N) sz) := by
  unfold F_X9_allEnergy at hf
  refine gCt.of [some (.ref (G.2.2.1 + 0)), some (.int a1), none, none, none] (by decide +kernel) rfl hs rfl (Nat.le_of_ble_eq_true rfl) ?_
  refine r_aload_n dX9_allEnergy_0 rfl ?_
  obtain ⟨v1, hc1, hf⟩ := bd_of hf
  rcases v1 with e1 | v1
  · exact (no_th hf).elim
  refine r_cVv (rest := []) (ct_X9_needTank hs hE hT0 hT1 hc1) dX9_allEnergy_1 wd_413 zX9_needTank wd_415 wd_0 rfl  rfl rfl (fo9 (hE 0 (by decide))) rfl rfl ⟨Nat.le_of_ble_eq_true rfl, Nat.le_of_ble_eq_true rfl⟩ (Nat.le_of_ble_eq_true rfl) ⟨Nat.le_of_ble_eq_true rfl, Nat.le_of_ble_eq_true rfl⟩ ?_
  refine r_iload_n dX9_allEnergy_4 rfl ?_
  obtain ⟨v5, hc5, hf⟩ := bd_of hf
  rcases v5 with e5 | v5
  · exact (no_th hf).elim
  refine r_cSv (rest := []) (ct_X9_needTimes hs hE hc5) dX9_allEnergy_5 wd_660 zX9_needTimes wd_661 rfl  rfl rfl ⟨Nat.le_of_ble_eq_true rfl, Nat.le_of_ble_eq_true rfl⟩ (Nat.le_of_ble_eq_true rfl) ⟨Nat.le_of_ble_eq_true rfl, Nat.le_of_ble_eq_true rfl⟩ ?_
  refine r_aload_n dX9_allEnergy_8 rfl ?_
  refine r_iload_n dX9_allEnergy_9 rfl ?_
  obtain ⟨v10, hc10, hf⟩ := bd_of hf
  refine r_cVv (rest := []) (ct_X9_fillEnergies hs hE hT0 hT1 hc10) dX9_allEnergy_10 wd_1151 zX9_fillEnergies wd_1153 wd_35 rfl  rfl rfl (fo9 (hE 0 (by decide))) rfl rfl ⟨Nat.le_of_ble_eq_true rfl, Nat.le_of_ble_eq_true rfl⟩ (Nat.le_of_ble_eq_true rfl) ⟨Nat.le_of_ble_eq_true rfl, Nat.le_of_ble_eq_true rfl⟩ ?_
  refine r_lconst (v := (0 : Int64)) dX9_allEnergy_13 (by decide) ?_
  refine r_lstore_n dX9_allEnergy_14 (by decide) rfl ?_
  refine r_iconst (v := (0 : Int32)) dX9_allEnergy_15 (by decide) ?_
  refine r_istore dX9_allEnergy_16 (by decide) rfl ?_
  exact r_widen (k2 := 0) (n2 := 0) (Nat.le_of_ble_eq_true rfl) (Nat.le_of_ble_eq_true rfl) (r_mask [true, true, true, false, true] rfl ((cL_X9_allEnergy hs hE hT0 hT1 n) (0 : Int64) (0 : Int32) v10 r hf))
def L_X9_countBefore (n : Nat) (T0 T1 : Nat) (I : gI) (J : gJ) (a1 : Int32) : Nat → Nat → Int32 → Int32 → Option (Int32)
  | 0, _, _, _ => none
  | j + 1, 0, x2, x3 => bd (F_X7_cells n T0 I) (fun v9 => (if v9 ≤ x3 then some x2 else gv x3 160 (gv a1 160 ((if (lg_cmp (J 91 (Int32.toNatClampNeg x3)) (J 91 (Int32.toNatClampNeg a1))) = 0 then (if a1 ≤ x3 then gv x3 160 (gv a1 160 ((if 0 < (lg_cmp (J 91 (Int32.toNatClampNeg x3)) (J 91 (Int32.toNatClampNeg a1))) then L_X9_countBefore n T0 T1 I J a1 j 0 (x2 + (1 : Int32)) (x3 + (1 : Int32)) else L_X9_countBefore n T0 T1 I J a1 j 0 x2 (x3 + (1 : Int32))))) else gv x3 160 (gv a1 160 ((if 0 < (lg_cmp (J 91 (Int32.toNatClampNeg x3)) (J 91 (Int32.toNatClampNeg a1))) then L_X9_countBefore n T0 T1 I J a1 j 0 (x2 + (1 : Int32)) (x3 + (1 : Int32)) else L_X9_countBefore n T0 T1 I J a1 j 0 (x2 + (1 : Int32)) (x3 + (1 : Int32)))))) else gv x3 160 (gv a1 160 ((if 0 < (lg_cmp (J 91 (Int32.toNatClampNeg x3)) (J 91 (Int32.toNatClampNeg a1))) then L_X9_countBefore n T0 T1 I J a1 j 0 (x2 + (1 : Int32)) (x3 + (1 : Int32)) else L_X9_countBefore n T0 T1 I J a1 j 0 x2 (x3 + (1 : Int32))))))))))
  | _ + 1, _, _, _ => none
theorem L_X9_countBefore_e0 (n j : Nat) (T0 T1 : Nat) (I : gI) (J : gJ) (a1 : Int32) (x2 : Int32) (x3 : Int32) : L_X9_countBefore n T0 T1 I J a1 (j + 1) 0 x2 x3 = bd (F_X7_cells n T0 I) (fun v9 => (if v9 ≤ x3 then some x2 else gv x3 160 (gv a1 160 ((if (lg_cmp (J 91 (Int32.toNatClampNeg x3)) (J 91 (Int32.toNatClampNeg a1))) = 0 then (if a1 ≤ x3 then gv x3 160 (gv a1 160 ((if 0 < (lg_cmp (J 91 (Int32.toNatClampNeg x3)) (J 91 (Int32.toNatClampNeg a1))) then L_X9_countBefore n T0 T1 I J a1 j 0 (x2 + (1 : Int32)) (x3 + (1 : Int32)) else L_X9_countBefore n T0 T1 I J a1 j 0 x2 (x3 + (1 : Int32))))) else gv x3 160 (gv a1 160 ((if 0 < (lg_cmp (J 91 (Int32.toNatClampNeg x3)) (J 91 (Int32.toNatClampNeg a1))) then L_X9_countBefore n T0 T1 I J a1 j 0 (x2 + (1 : Int32)) (x3 + (1 : Int32)) else L_X9_countBefore n T0 T1 I J a1 j 0 (x2 + (1 : Int32)) (x3 + (1 : Int32)))))) else gv x3 160 (gv a1 160 ((if 0 < (lg_cmp (J 91 (Int32.toNatClampNeg x3)) (J 91 (Int32.toNatClampNeg a1))) then L_X9_countBefore n T0 T1 I J a1 j 0 (x2 + (1 : Int32)) (x3 + (1 : Int32)) else L_X9_countBefore n T0 T1 I J a1 j 0 x2 (x3 + (1 : Int32)))))))))) := rfl
set_option maxHeartbeats 4000000 in
set_option maxRecDepth 100000 in
theorem cL_X9_countBefore {G : gG} {lay : Nat → Nat × Nat} {T0 T1 : Nat} {Dd : Nat → Nat → UInt64} {I : gI} {J : gJ} {K : gI} {N : gJ} {sz n : Nat} {a1 : Int32} (hs : G.1.stackTraces = false) (hE : gLay lay) (hT0 : gTank lay T0) (hT1 : gTank lay T1) : ∀ j : Nat, (∀ (x2 : Int32) (x3 : Int32) (r : Int32), L_X9_countBefore n T0 T1 I J a1 j 0 x2 x3 = some r → gAt G mX9_countBefore (gQp G mX9_countBefore (gR (some (.int r)) (fO G (lay, T0, T1, Dd) I J K N) sz)) 4 [some (.ref (G.2.2.1 + 0)), some (.int a1), some (.int x2), some (.int x3), none] [] (fO G (lay, T0, T1, Dd) I J K N) sz 0 0) := by
  intro j
  induction j with
  | zero => exact fun _ _ _ hf => (by cases hf)
  | succ j ih =>
    refine ?_
    · intro x2 x3 r hf
      rw [L_X9_countBefore_e0] at hf
      refine r_iload_n dX9_countBefore_4 rfl ?_
      refine r_aload_n dX9_countBefore_5 rfl ?_
      refine g9_5 dX9_countBefore_6 wd_361 (hE 0 (by decide)) ?_
      obtain ⟨v9, hc9, hf⟩ := bd_of hf
      refine r_cVi (rest := [.int x3]) (ct_X7_cells hs hE hT0 hc9) dX9_countBefore_9 wd_1155 zX7_cells wd_1156 wd_1157 rfl  rfl rfl (fo7 hT0.1) rfl rfl ⟨Nat.le_of_ble_eq_true rfl, Nat.le_of_ble_eq_true rfl⟩ (Nat.le_of_ble_eq_true rfl) ⟨Nat.le_of_ble_eq_true rfl, Nat.le_of_ble_eq_true rfl⟩ ?_
      refine r_icmp_ge (tgt := 73) dX9_countBefore_12 (by decide) (fun c12 => ?_) (fun c12 => ?_)
      · replace hf := if_t hf c12
        refine r_iload_n dX9_countBefore_73 rfl ?_
        have hr := Option.some.inj hf
        subst hr
        exact r_iret dX9_countBefore_74 rfl (Nat.le_of_ble_eq_true rfl) (Nat.le_of_ble_eq_true rfl) ⟨rfl, rfl, rfl⟩
      · replace hf := if_f hf c12
        refine r_aload_n dX9_countBefore_15 rfl ?_
        refine g9_14 dX9_countBefore_16 wd_370 (hE 0 (by decide)) ?_
        refine r_iload_n dX9_countBefore_19 rfl ?_
        obtain ⟨h20, hf⟩ := gv_of hf
        refine a_lald dX9_countBefore_20 (hE 91 (by decide)) h20 ?_
        refine r_aload_n dX9_countBefore_21 rfl ?_
        refine g9_14 dX9_countBefore_22 wd_370 (hE 0 (by decide)) ?_
        refine r_iload_n dX9_countBefore_25 rfl ?_
        obtain ⟨h26, hf⟩ := gv_of hf
        refine a_lald dX9_countBefore_26 (hE 91 (by decide)) h26 ?_
        refine r_lcmp dX9_countBefore_27 ?_
        refine r_if_ne (tgt := 40) dX9_countBefore_28 (by decide) (fun c28 => ?_) (fun c28 => ?_)
        · replace hf := if_f hf c28
          refine r_iconst (v := (0 : Int32)) dX9_countBefore_40 (by decide) ?_
          refine r_istore dX9_countBefore_41 (by decide) rfl ?_
          refine r_aload_n dX9_countBefore_43 rfl ?_
          refine g9_14 dX9_countBefore_44 wd_370 (hE 0 (by decide)) ?_
          refine r_iload_n dX9_countBefore_47 rfl ?_
          obtain ⟨h48, hf⟩ := gv_of hf
          refine a_lald dX9_countBefore_48 (hE 91 (by decide)) h48 ?_
          refine r_aload_n dX9_countBefore_49 rfl ?_
          refine g9_14 dX9_countBefore_50 wd_370 (hE 0 (by decide)) ?_
          refine r_iload_n dX9_countBefore_53 rfl ?_
          obtain ⟨h54, hf⟩ := gv_of hf
          refine a_lald dX9_countBefore_54 (hE 91 (by decide)) h54 ?_
          refine r_lcmp dX9_countBefore_55 ?_
          refine r_if_gt (tgt := 64) dX9_countBefore_56 (by decide) (fun c56 => ?_) (fun c56 => ?_)
          · replace hf := if_t hf c56
            refine r_iincv (v := (x2 + (1 : Int32))) dX9_countBefore_64 rfl rfl (by decide) rfl ?_
            refine r_iincv (v := (x3 + (1 : Int32))) dX9_countBefore_67 rfl rfl (by decide) rfl ?_
            refine r_goto (tgt := 4) dX9_countBefore_70 (by decide) ?_
            exact r_widen (k2 := 0) (n2 := 0) (Nat.le_of_ble_eq_true rfl) (Nat.le_of_ble_eq_true rfl) (r_mask [true, true, true, true, false] rfl (ih (x2 + (1 : Int32)) (x3 + (1 : Int32)) r hf))
          · replace hf := if_f hf c56
            refine r_iload dX9_countBefore_59 rfl ?_
            refine r_if_eq (tgt := 67) dX9_countBefore_61 (by decide) (fun _ => ?_) (fun c61 => absurd c61 (by decide))
            refine r_iincv (v := (x3 + (1 : Int32))) dX9_countBefore_67 rfl rfl (by decide) rfl ?_
            refine r_goto (tgt := 4) dX9_countBefore_70 (by decide) ?_
            exact r_widen (k2 := 0) (n2 := 0) (Nat.le_of_ble_eq_true rfl) (Nat.le_of_ble_eq_true rfl) (r_mask [true, true, true, true, false] rfl (ih x2 (x3 + (1 : Int32)) r hf))
        · replace hf := if_t hf c28
          refine r_iload_n dX9_countBefore_31 rfl ?_
          refine r_iload_n dX9_countBefore_32 rfl ?_
          refine r_icmp_ge (tgt := 40) dX9_countBefore_33 (by decide) (fun c33 => ?_) (fun c33 => ?_)
          · replace hf := if_t hf c33
            refine r_iconst (v := (0 : Int32)) dX9_countBefore_40 (by decide) ?_
            refine r_istore dX9_countBefore_41 (by decide) rfl ?_
            refine r_aload_n dX9_countBefore_43 rfl ?_
            refine g9_14 dX9_countBefore_44 wd_370 (hE 0 (by decide)) ?_
            refine r_iload_n dX9_countBefore_47 rfl ?_
            obtain ⟨h48, hf⟩ := gv_of hf
            refine a_lald dX9_countBefore_48 (hE 91 (by decide)) h48 ?_
            refine r_aload_n dX9_countBefore_49 rfl ?_
            refine g9_14 dX9_countBefore_50 wd_370 (hE 0 (by decide)) ?_
            refine r_iload_n dX9_countBefore_53 rfl ?_
            obtain ⟨h54, hf⟩ := gv_of hf
            refine a_lald dX9_countBefore_54 (hE 91 (by decide)) h54 ?_
            refine r_lcmp dX9_countBefore_55 ?_
            refine r_if_gt (tgt := 64) dX9_countBefore_56 (by decide) (fun c56 => ?_) (fun c56 => ?_)
            · replace hf := if_t hf c56
              refine r_iincv (v := (x2 + (1 : Int32))) dX9_countBefore_64 rfl rfl (by decide) rfl ?_
              refine r_iincv (v := (x3 + (1 : Int32))) dX9_countBefore_67 rfl rfl (by decide) rfl ?_
              refine r_goto (tgt := 4) dX9_countBefore_70 (by decide) ?_
              exact r_widen (k2 := 0) (n2 := 0) (Nat.le_of_ble_eq_true rfl) (Nat.le_of_ble_eq_true rfl) (r_mask [true, true, true, true, false] rfl (ih (x2 + (1 : Int32)) (x3 + (1 : Int32)) r hf))
            · replace hf := if_f hf c56
              refine r_iload dX9_countBefore_59 rfl ?_
              refine r_if_eq (tgt := 67) dX9_countBefore_61 (by decide) (fun _ => ?_) (fun c61 => absurd c61 (by decide))
              refine r_iincv (v := (x3 + (1 : Int32))) dX9_countBefore_67 rfl rfl (by decide) rfl ?_
              refine r_goto (tgt := 4) dX9_countBefore_70 (by decide) ?_
              exact r_widen (k2 := 0) (n2 := 0) (Nat.le_of_ble_eq_true rfl) (Nat.le_of_ble_eq_true rfl) (r_mask [true, true, true, true, false] rfl (ih x2 (x3 + (1 : Int32)) r hf))
          · replace hf := if_f hf c33
            refine r_iconst (v := (1 : Int32)) dX9_countBefore_36 (by decide) ?_
            refine r_goto (tgt := 41) dX9_countBefore_37 (by decide) ?_
            refine r_istore dX9_countBefore_41 (by decide) rfl ?_
            refine r_aload_n dX9_countBefore_43 rfl ?_
            refine g9_14 dX9_countBefore_44 wd_370 (hE 0 (by decide)) ?_
            refine r_iload_n dX9_countBefore_47 rfl ?_
            obtain ⟨h48, hf⟩ := gv_of hf
            refine a_lald dX9_countBefore_48 (hE 91 (by decide)) h48 ?_
            refine r_aload_n dX9_countBefore_49 rfl ?_
            refine g9_14 dX9_countBefore_50 wd_370 (hE 0 (by decide)) ?_
            refine r_iload_n dX9_countBefore_53 rfl ?_
            obtain ⟨h54, hf⟩ := gv_of hf
            refine a_lald dX9_countBefore_54 (hE 91 (by decide)) h54 ?_
            refine r_lcmp dX9_countBefore_55 ?_
            refine r_if_gt (tgt := 64) dX9_countBefore_56 (by decide) (fun c56 => ?_) (fun c56 => ?_)
            · replace hf := if_t hf c56
              refine r_iincv (v := (x2 + (1 : Int32))) dX9_countBefore_64 rfl rfl (by decide) rfl ?_
              refine r_iincv (v := (x3 + (1 : Int32))) dX9_countBefore_67 rfl rfl (by decide) rfl ?_
              refine r_goto (tgt := 4) dX9_countBefore_70 (by decide) ?_
              exact r_widen (k2 := 0) (n2 := 0) (Nat.le_of_ble_eq_true rfl) (Nat.le_of_ble_eq_true rfl) (r_mask [true, true, true, true, false] rfl (ih (x2 + (1 : Int32)) (x3 + (1 : Int32)) r hf))
            · replace hf := if_f hf c56
              refine r_iload dX9_countBefore_59 rfl ?_
              refine r_if_eq (tgt := 67) dX9_countBefore_61 (by decide) (fun c61 => absurd c61 (by decide)) (fun _ => ?_)
              refine r_iincv (v := (x2 + (1 : Int32))) dX9_countBefore_64 rfl rfl (by decide) rfl ?_
              refine r_iincv (v := (x3 + (1 : Int32))) dX9_countBefore_67 rfl rfl (by decide) rfl ?_
              refine r_goto (tgt := 4) dX9_countBefore_70 (by decide) ?_
              exact r_widen (k2 := 0) (n2 := 0) (Nat.le_of_ble_eq_true rfl) (Nat.le_of_ble_eq_true rfl) (r_mask [true, true, true, true, false] rfl (ih (x2 + (1 : Int32)) (x3 + (1 : Int32)) r hf))
def F_X9_countBefore (n : Nat) (T0 T1 : Nat) (I : gI) (J : gJ) (a1 : Int32) : Option (Int32) := L_X9_countBefore n T0 T1 I J a1 n 0 (0 : Int32) (0 : Int32)
set_option maxHeartbeats 4000000 in
set_option maxRecDepth 100000 in
theorem ct_X9_countBefore {G : gG} {lay : Nat → Nat × Nat} {T0 T1 : Nat} {Dd : Nat → Nat → UInt64} {I : gI} {J : gJ} {K : gI} {N : gJ} {sz n : Nat} {a1 : Int32} (hs : G.1.stackTraces = false) (hE : gLay lay) (hT0 : gTank lay T0) (hT1 : gTank lay T1) {r : Int32} (hf : F_X9_countBefore n T0 T1 I J a1 = some r) : gCt G mX9_countBefore [.ref (G.2.2.1 + 0), .int a1] (fO G (lay, T0, T1, Dd) I J K N) sz (gR (some (.int r)) (fO G (lay, T0, T1, Dd) I J K N) sz) := by
  unfold F_X9_countBefore at hf
  refine gCt.of [some (.ref (G.2.2.1 + 0)), some (.int a1), none, none, none] (by decide +kernel) rfl hs rfl (Nat.le_of_ble_eq_true rfl) ?_
  refine r_iconst (v := (0 : Int32)) dX9_countBefore_0 (by decide) ?_
  refine r_istore_n dX9_countBefore_1 (by decide) rfl ?_
  refine r_iconst (v := (0 : Int32)) dX9_countBefore_2 (by decide) ?_
  refine r_istore_n dX9_countBefore_3 (by decide) rfl ?_
  exact r_widen (k2 := 0) (n2 := 0) (Nat.le_of_ble_eq_true rfl) (Nat.le_of_ble_eq_true rfl) (r_mask [true, true, true, true, false] rfl ((cL_X9_countBefore hs hE hT0 hT1 n) (0 : Int32) (0 : Int32) r hf))
def L_X9_strongest (n : Nat) (T0 T1 : Nat) (I : gI) (a1 : Int32) (a2 : Int32) : Nat → Nat → Int32 → Int32 → gJ → Option (String ⊕ (Int32 × gJ))
  | 0, _, _, _, _ => none
  | j + 1, 0, x3, x4, J => bd (F_X7_cells n T0 I) (fun v50 => (if v50 ≤ x4 then some (.inr (x3, J)) else (if x3 = (-1 : Int32) then bd (F_X9_countBefore n T0 T1 I J x4) (fun v64 => (if v64 = a1 then L_X9_strongest n T0 T1 I a1 a2 j 0 x4 (x4 + (1 : Int32)) J else L_X9_strongest n T0 T1 I a1 a2 j 0 x3 (x4 + (1 : Int32)) J)) else some (.inr (x3, J)))))
  | _ + 1, _, _, _, _ => none
theorem L_X9_strongest_e0 (n j : Nat) (T0 T1 : Nat) (I : gI) (a1 : Int32) (a2 : Int32) (x3 : Int32) (x4 : Int32) (J : gJ) : L_X9_strongest n T0 T1 I a1 a2 (j + 1) 0 x3 x4 J = bd (F_X7_cells n T0 I) (fun v50 => (if v50 ≤ x4 then some (.inr (x3, J)) else (if x3 = (-1 : Int32) then bd (F_X9_countBefore n T0 T1 I J x4) (fun v64 => (if v64 = a1 then L_X9_strongest n T0 T1 I a1 a2 j 0 x4 (x4 + (1 : Int32)) J else L_X9_strongest n T0 T1 I a1 a2 j 0 x3 (x4 + (1 : Int32)) J)) else some (.inr (x3, J))))) := rfl
set_option maxHeartbeats 4000000 in
set_option maxRecDepth 100000 in
theorem cL_X9_strongest {G : gG} {lay : Nat → Nat × Nat} {T0 T1 : Nat} {Dd : Nat → Nat → UInt64} {I : gI} {K : gI} {N : gJ} {sz n : Nat} {a1 : Int32} {a2 : Int32} (hs : G.1.stackTraces = false) (hE : gLay lay) (hT0 : gTank lay T0) (hT1 : gTank lay T1) : ∀ j : Nat, (∀ (x3 : Int32) (x4 : Int32) (J : gJ) (r : Int32 × gJ), L_X9_strongest n T0 T1 I a1 a2 j 0 x3 x4 J = some (.inr r) → gAt G mX9_strongest (gQp G mX9_strongest (gR (some (.int r.1)) (fO G (lay, T0, T1, Dd) I r.2 K N) sz)) 44 [some (.ref (G.2.2.1 + 0)), some (.int a1), some (.int a2), some (.int x3), some (.int x4)] [] (fO G (lay, T0, T1, Dd) I J K N) sz 0 0) := by
  intro j
  induction j with
  | zero => exact fun _ _ _ _ hf => (by cases hf)
  | succ j ih =>
    refine ?_
    · intro x3 x4 J r hf
      rw [L_X9_strongest_e0] at hf
      refine r_iload dX9_strongest_44 rfl ?_
      refine r_aload_n dX9_strongest_46 rfl ?_
      refine g9_5 dX9_strongest_47 wd_361 (hE 0 (by decide)) ?_
      obtain ⟨v50, hc50, hf⟩ := bd_of hf
      refine r_cVi (rest := [.int x4]) (ct_X7_cells hs hE hT0 hc50) dX9_strongest_50 wd_1155 zX7_cells wd_1156 wd_1157 rfl  rfl rfl (fo7 hT0.1) rfl rfl ⟨Nat.le_of_ble_eq_true rfl, Nat.le_of_ble_eq_true rfl⟩ (Nat.le_of_ble_eq_true rfl) ⟨Nat.le_of_ble_eq_true rfl, Nat.le_of_ble_eq_true rfl⟩ ?_
      refine r_icmp_ge (tgt := 80) dX9_strongest_53 (by decide) (fun c53 => ?_) (fun c53 => ?_)
      · replace hf := if_t hf c53
        refine r_iload_n dX9_strongest_80 rfl ?_
        have hr := Sum.inr.inj (Option.some.inj hf)
        subst hr
        exact r_iret dX9_strongest_81 rfl (Nat.le_of_ble_eq_true rfl) (Nat.le_of_ble_eq_true rfl) ⟨rfl, rfl, rfl⟩
      · replace hf := if_f hf c53
        refine r_iload_n dX9_strongest_56 rfl ?_
        refine r_iconst (v := (-1 : Int32)) dX9_strongest_57 (by decide) ?_
        refine r_icmp_ne (tgt := 80) dX9_strongest_58 (by decide) (fun c58 => ?_) (fun c58 => ?_)
        · replace hf := if_f hf c58
          refine r_iload_n dX9_strongest_80 rfl ?_
          have hr := Sum.inr.inj (Option.some.inj hf)
          subst hr
          exact r_iret dX9_strongest_81 rfl (Nat.le_of_ble_eq_true rfl) (Nat.le_of_ble_eq_true rfl) ⟨rfl, rfl, rfl⟩
        · replace hf := if_t hf c58
          refine r_aload_n dX9_strongest_61 rfl ?_
          refine r_iload dX9_strongest_62 rfl ?_
          obtain ⟨v64, hc64, hf⟩ := bd_of hf
          refine r_cVi (rest := []) (ct_X9_countBefore hs hE hT0 hT1 hc64) dX9_strongest_64 wd_1239 zX9_countBefore wd_1241 wd_43 rfl  rfl rfl (fo9 (hE 0 (by decide))) rfl rfl ⟨Nat.le_of_ble_eq_true rfl, Nat.le_of_ble_eq_true rfl⟩ (Nat.le_of_ble_eq_true rfl) ⟨Nat.le_of_ble_eq_true rfl, Nat.le_of_ble_eq_true rfl⟩ ?_
          refine r_iload_n dX9_strongest_67 rfl ?_
          refine r_icmp_ne (tgt := 74) dX9_strongest_68 (by decide) (fun c68 => ?_) (fun c68 => ?_)
          · replace hf := if_f hf c68
            refine r_iincv (v := (x4 + (1 : Int32))) dX9_strongest_74 rfl rfl (by decide) rfl ?_
            refine r_goto (tgt := 44) dX9_strongest_77 (by decide) ?_
            exact r_widen (k2 := 0) (n2 := 0) (Nat.le_of_ble_eq_true rfl) (Nat.le_of_ble_eq_true rfl) (r_mask [true, true, true, true, true] rfl (ih x3 (x4 + (1 : Int32)) J r hf))
          · replace hf := if_t hf c68
            refine r_iload dX9_strongest_71 rfl ?_
            refine r_istore_n dX9_strongest_73 (by decide) rfl ?_
            refine r_iincv (v := (x4 + (1 : Int32))) dX9_strongest_74 rfl rfl (by decide) rfl ?_
            refine r_goto (tgt := 44) dX9_strongest_77 (by decide) ?_
            exact r_widen (k2 := 0) (n2 := 0) (Nat.le_of_ble_eq_true rfl) (Nat.le_of_ble_eq_true rfl) (r_mask [true, true, true, true, true] rfl (ih x4 (x4 + (1 : Int32)) J r hf))
def F_X9_strongest (n : Nat) (T0 T1 : Nat) (I : gI) (J : gJ) (a1 : Int32) (a2 : Int32) : Option (String ⊕ (Int32 × gJ)) := bd (F_X9_needTank n T0 T1 I) (fun v1 => sm v1 (fun e => some (.inl e)) (fun v1 => (if a1 < 0 then some (.inl "java/lang/IndexOutOfBoundsException") else bd (F_X7_cells n T0 I) (fun v13 => (if a1 < v13 then bd (F_X9_needTimes n a2) (fun v31 => sm v31 (fun e => some (.inl e)) (fun v31 => bd (F_X9_fillEnergies n T0 T1 I J a2) (fun v36 => L_X9_strongest n T0 T1 I a1 a2 n 0 (-1 : Int32) (0 : Int32) v36))) else some (.inl "java/lang/IndexOutOfBoundsException"))))))
set_option maxHeartbeats 4000000 in
set_option maxRecDepth 100000 in
theorem ct_X9_strongest {G : gG} {lay : Nat → Nat × Nat} {T0 T1 : Nat} {Dd : Nat → Nat → UInt64} {I : gI} {J : gJ} {K : gI} {N : gJ} {sz n : Nat} {a1 : Int32} {a2 : Int32} (hs : G.1.stackTraces = false) (hE : gLay lay) (hT0 : gTank lay T0) (hT1 : gTank lay T1) {r : Int32 × gJ} (hf : F_X9_strongest n T0 T1 I J a1 a2 = some (.inr r)) : gCt G mX9_strongest [.ref (G.2.2.1 + 0), .int a1, .int a2] (fO G (lay, T0, T1, Dd) I J K N) sz (gR (some (.int r.1)) (fO G (lay, T0, T1, Dd) I r.2 K N) sz) := by
  unfold F_X9_strongest at hf
  refine gCt.of [some (.ref (G.2.2.1 + 0)), some (.int a1), some (.int a2), none, none] (by decide +kernel) rfl hs rfl (Nat.le_of_ble_eq_true rfl) ?_
  refine r_aload_n dX9_strongest_0 rfl ?_
  obtain ⟨v1, hc1, hf⟩ := bd_of hf
  rcases v1 with e1 | v1
  · exact (no_th hf).elim
  refine r_cVv (rest := []) (ct_X9_needTank hs hE hT0 hT1 hc1) dX9_strongest_1 wd_413 zX9_needTank wd_415 wd_0 rfl  rfl rfl (fo9 (hE 0 (by decide))) rfl rfl ⟨Nat.le_of_ble_eq_true rfl, Nat.le_of_ble_eq_true rfl⟩ (Nat.le_of_ble_eq_true rfl) ⟨Nat.le_of_ble_eq_true rfl, Nat.le_of_ble_eq_true rfl⟩ ?_
  refine r_iload_n dX9_strongest_4 rfl ?_
  refine r_if_lt (tgt := 19) dX9_strongest_5 (by decide) (fun c5 => ?_) (fun c5 => ?_)
  · replace hf := if_t hf c5
    exact (no_th hf).elim
  · replace hf := if_f hf c5
    refine r_iload_n dX9_strongest_8 rfl ?_
    refine r_aload_n dX9_strongest_9 rfl ?_
    refine g9_5 dX9_strongest_10 wd_361 (hE 0 (by decide)) ?_
    obtain ⟨v13, hc13, hf⟩ := bd_of hf
    refine r_cVi (rest := [.int a1]) (ct_X7_cells hs hE hT0 hc13) dX9_strongest_13 wd_1155 zX7_cells wd_1156 wd_1157 rfl  rfl rfl (fo7 hT0.1) rfl rfl ⟨Nat.le_of_ble_eq_true rfl, Nat.le_of_ble_eq_true rfl⟩ (Nat.le_of_ble_eq_true rfl) ⟨Nat.le_of_ble_eq_true rfl, Nat.le_of_ble_eq_true rfl⟩ ?_
    refine r_icmp_lt (tgt := 30) dX9_strongest_16 (by decide) (fun c16 => ?_) (fun c16 => ?_)
    · replace hf := if_t hf c16
      refine r_iload_n dX9_strongest_30 rfl ?_
      obtain ⟨v31, hc31, hf⟩ := bd_of hf
      rcases v31 with e31 | v31
      · exact (no_th hf).elim
      refine r_cSv (rest := []) (ct_X9_needTimes hs hE hc31) dX9_strongest_31 wd_660 zX9_needTimes wd_661 rfl  rfl rfl ⟨Nat.le_of_ble_eq_true rfl, Nat.le_of_ble_eq_true rfl⟩ (Nat.le_of_ble_eq_true rfl) ⟨Nat.le_of_ble_eq_true rfl, Nat.le_of_ble_eq_true rfl⟩ ?_
      refine r_aload_n dX9_strongest_34 rfl ?_
      refine r_iload_n dX9_strongest_35 rfl ?_
      obtain ⟨v36, hc36, hf⟩ := bd_of hf
      refine r_cVv (rest := []) (ct_X9_fillEnergies hs hE hT0 hT1 hc36) dX9_strongest_36 wd_1151 zX9_fillEnergies wd_1153 wd_35 rfl  rfl rfl (fo9 (hE 0 (by decide))) rfl rfl ⟨Nat.le_of_ble_eq_true rfl, Nat.le_of_ble_eq_true rfl⟩ (Nat.le_of_ble_eq_true rfl) ⟨Nat.le_of_ble_eq_true rfl, Nat.le_of_ble_eq_true rfl⟩ ?_
      refine r_iconst (v := (-1 : Int32)) dX9_strongest_39 (by decide) ?_
      refine r_istore_n dX9_strongest_40 (by decide) rfl ?_
      refine r_iconst (v := (0 : Int32)) dX9_strongest_41 (by decide) ?_
      refine r_istore dX9_strongest_42 (by decide) rfl ?_
      exact r_widen (k2 := 0) (n2 := 0) (Nat.le_of_ble_eq_true rfl) (Nat.le_of_ble_eq_true rfl) (r_mask [true, true, true, true, true] rfl ((cL_X9_strongest hs hE hT0 hT1 n) (-1 : Int32) (0 : Int32) v36 r hf))
    · replace hf := if_f hf c16
      exact (no_th hf).elim
def L_X9_greatestEnergy (n : Nat) (T0 T1 : Nat) (I : gI) (J : gJ) : Nat → Nat → Int64 → Int32 → Option (Int64)
  | 0, _, _, _ => none
  | j + 1, 0, y1, x3 => bd (F_X7_cells n T0 I) (fun v9 => (if v9 ≤ x3 then some y1 else gv x3 160 (L_X9_greatestEnergy n T0 T1 I J j 0 (jmaxl y1 (J 91 (Int32.toNatClampNeg x3))) (x3 + (1 : Int32)))))
  | _ + 1, _, _, _ => none
theorem L_X9_greatestEnergy_e0 (n j : Nat) (T0 T1 : Nat) (I : gI) (J : gJ) (y1 : Int64) (x3 : Int32) : L_X9_greatestEnergy n T0 T1 I J (j + 1) 0 y1 x3 = bd (F_X7_cells n T0 I) (fun v9 => (if v9 ≤ x3 then some y1 else gv x3 160 (L_X9_greatestEnergy n T0 T1 I J j 0 (jmaxl y1 (J 91 (Int32.toNatClampNeg x3))) (x3 + (1 : Int32))))) := rfl
set_option maxHeartbeats 4000000 in
set_option maxRecDepth 100000 in
theorem cL_X9_greatestEnergy {G : gG} {lay : Nat → Nat × Nat} {T0 T1 : Nat} {Dd : Nat → Nat → UInt64} {I : gI} {J : gJ} {K : gI} {N : gJ} {sz n : Nat} (hs : G.1.stackTraces = false) (hE : gLay lay) (hT0 : gTank lay T0) (hT1 : gTank lay T1) : ∀ j : Nat, (∀ (y1 : Int64) (x3 : Int32) (r : Int64), L_X9_greatestEnergy n T0 T1 I J j 0 y1 x3 = some r → gAt G mX9_greatestEnergy (gQp G mX9_greatestEnergy (gR (some (.long r)) (fO G (lay, T0, T1, Dd) I J K N) sz)) 4 [some (.ref (G.2.2.1 + 0)), some (.long y1), none, some (.int x3)] [] (fO G (lay, T0, T1, Dd) I J K N) sz 0 0) := by
  intro j
  induction j with
  | zero => exact fun _ _ _ hf => (by cases hf)
  | succ j ih =>
    refine ?_
    · intro y1 x3 r hf
      rw [L_X9_greatestEnergy_e0] at hf
      refine r_iload_n dX9_greatestEnergy_4 rfl ?_
      refine r_aload_n dX9_greatestEnergy_5 rfl ?_
      refine g9_5 dX9_greatestEnergy_6 wd_361 (hE 0 (by decide)) ?_
      obtain ⟨v9, hc9, hf⟩ := bd_of hf
      refine r_cVi (rest := [.int x3]) (ct_X7_cells hs hE hT0 hc9) dX9_greatestEnergy_9 wd_1155 zX7_cells wd_1156 wd_1157 rfl  rfl rfl (fo7 hT0.1) rfl rfl ⟨Nat.le_of_ble_eq_true rfl, Nat.le_of_ble_eq_true rfl⟩ (Nat.le_of_ble_eq_true rfl) ⟨Nat.le_of_ble_eq_true rfl, Nat.le_of_ble_eq_true rfl⟩ ?_
      refine r_icmp_ge (tgt := 32) dX9_greatestEnergy_12 (by decide) (fun c12 => ?_) (fun c12 => ?_)
      · replace hf := if_t hf c12
        refine r_lload_n dX9_greatestEnergy_32 rfl ?_
        have hr := Option.some.inj hf
        subst hr
        exact r_lret dX9_greatestEnergy_33 rfl (Nat.le_of_ble_eq_true rfl) (Nat.le_of_ble_eq_true rfl) ⟨rfl, rfl, rfl⟩
      · replace hf := if_f hf c12
        refine r_lload_n dX9_greatestEnergy_15 rfl ?_
        refine r_aload_n dX9_greatestEnergy_16 rfl ?_
        refine g9_14 dX9_greatestEnergy_17 wd_370 (hE 0 (by decide)) ?_
        refine r_iload_n dX9_greatestEnergy_20 rfl ?_
        obtain ⟨h21, hf⟩ := gv_of hf
        refine a_lald dX9_greatestEnergy_21 (hE 91 (by decide)) h21 ?_
        refine r_mmaxl dX9_greatestEnergy_22 wd_1164 wd_1165 wd_54 wMath_mmaxl (Nat.le_of_ble_eq_true rfl) (Nat.le_of_ble_eq_true rfl) (Nat.le_of_ble_eq_true rfl) (Nat.le_of_ble_eq_true rfl) ?_
        refine r_lstore_n dX9_greatestEnergy_25 (by decide) rfl ?_
        refine r_iincv (v := (x3 + (1 : Int32))) dX9_greatestEnergy_26 rfl rfl (by decide) rfl ?_
        refine r_goto (tgt := 4) dX9_greatestEnergy_29 (by decide) ?_
        exact r_widen (k2 := 0) (n2 := 0) (Nat.le_of_ble_eq_true rfl) (Nat.le_of_ble_eq_true rfl) (r_mask [true, true, false, true] rfl (ih (jmaxl y1 (J 91 (Int32.toNatClampNeg x3))) (x3 + (1 : Int32)) r hf))
def F_X9_greatestEnergy (n : Nat) (T0 T1 : Nat) (I : gI) (J : gJ) : Option (Int64) := L_X9_greatestEnergy n T0 T1 I J n 0 (0 : Int64) (0 : Int32)
set_option maxHeartbeats 4000000 in
set_option maxRecDepth 100000 in
theorem ct_X9_greatestEnergy {G : gG} {lay : Nat → Nat × Nat} {T0 T1 : Nat} {Dd : Nat → Nat → UInt64} {I : gI} {J : gJ} {K : gI} {N : gJ} {sz n : Nat} (hs : G.1.stackTraces = false) (hE : gLay lay) (hT0 : gTank lay T0) (hT1 : gTank lay T1) {r : Int64} (hf : F_X9_greatestEnergy n T0 T1 I J = some r) : gCt G mX9_greatestEnergy [.ref (G.2.2.1 + 0)] (fO G (lay, T0, T1, Dd) I J K N) sz (gR (some (.long r)) (fO G (lay, T0, T1, Dd) I J K N) sz) := by
  unfold F_X9_greatestEnergy at hf
  refine gCt.of [some (.ref (G.2.2.1 + 0)), none, none, none] (by decide +kernel) rfl hs rfl (Nat.le_of_ble_eq_true rfl) ?_
  refine r_lconst (v := (0 : Int64)) dX9_greatestEnergy_0 (by decide) ?_
  refine r_lstore_n dX9_greatestEnergy_1 (by decide) rfl ?_
  refine r_iconst (v := (0 : Int32)) dX9_greatestEnergy_2 (by decide) ?_
  refine r_istore_n dX9_greatestEnergy_3 (by decide) rfl ?_
  exact r_widen (k2 := 0) (n2 := 0) (Nat.le_of_ble_eq_true rfl) (Nat.le_of_ble_eq_true rfl) (r_mask [true, true, false, true] rfl ((cL_X9_greatestEnergy hs hE hT0 hT1 n) (0 : Int64) (0 : Int32) r hf))
def F_X9_hasShare (n : Nat) (a0 : Int64) (a2 : Int32) (a3 : Int64) : Option (Int32) := (if (lg_cmp a0 (0 : Int64)) ≤ 0 then some (0 : Int32) else (if (lg_cmp ((100 : Int64) * a0) ((Int32.toInt64 a2) * a3)) < 0 then some (0 : Int32) else some (1 : Int32)))
set_option maxHeartbeats 4000000 in
set_option maxRecDepth 100000 in
theorem ct_X9_hasShare {G : gG} {lay : Nat → Nat × Nat} {T0 T1 : Nat} {Dd : Nat → Nat → UInt64} {I : gI} {J : gJ} {K : gI} {N : gJ} {sz n : Nat} {a0 : Int64} {a2 : Int32} {a3 : Int64} (hs : G.1.stackTraces = false) (hE : gLay lay) {r : Int32} (hf : F_X9_hasShare n a0 a2 a3 = some r) : gCt G mX9_hasShare [.long a0, .int a2, .long a3] (fO G (lay, T0, T1, Dd) I J K N) sz (gR (some (.int r)) (fO G (lay, T0, T1, Dd) I J K N) sz) := by
  unfold F_X9_hasShare at hf
  refine gCt.of [some (.long a0), none, some (.int a2), some (.long a3), none] (by decide +kernel) rfl hs rfl (Nat.le_of_ble_eq_true rfl) ?_
  refine r_lload_n dX9_hasShare_0 rfl ?_
  refine r_lconst (v := (0 : Int64)) dX9_hasShare_1 (by decide) ?_
  refine r_lcmp dX9_hasShare_2 ?_
  refine r_if_le (tgt := 23) dX9_hasShare_3 (by decide) (fun c3 => ?_) (fun c3 => ?_)
  · replace hf := if_t hf c3
    refine r_iconst (v := (0 : Int32)) dX9_hasShare_23 (by decide) ?_
    have hr := Option.some.inj hf
    subst hr
    exact r_zret dX9_hasShare_24 rfl rfl (Nat.le_of_ble_eq_true rfl) (Nat.le_of_ble_eq_true rfl) ⟨rfl, rfl, rfl⟩
  · replace hf := if_f hf c3
    refine r_ldc2 dX9_hasShare_6 wd_1170 ?_
    refine r_lload_n dX9_hasShare_9 rfl ?_
    refine r_lmul dX9_hasShare_10 ?_
    refine r_iload_n dX9_hasShare_11 rfl ?_
    refine r_i2l dX9_hasShare_12 ?_
    refine r_lload_n dX9_hasShare_13 rfl ?_
    refine r_lmul dX9_hasShare_14 ?_
    refine r_lcmp dX9_hasShare_15 ?_
    refine r_if_lt (tgt := 23) dX9_hasShare_16 (by decide) (fun c16 => ?_) (fun c16 => ?_)
    · replace hf := if_t hf c16
      refine r_iconst (v := (0 : Int32)) dX9_hasShare_23 (by decide) ?_
      have hr := Option.some.inj hf
      subst hr
      exact r_zret dX9_hasShare_24 rfl rfl (Nat.le_of_ble_eq_true rfl) (Nat.le_of_ble_eq_true rfl) ⟨rfl, rfl, rfl⟩
    · replace hf := if_f hf c16
      refine r_iconst (v := (1 : Int32)) dX9_hasShare_19 (by decide) ?_
      refine r_goto (tgt := 24) dX9_hasShare_20 (by decide) ?_
      have hr := Option.some.inj hf
      subst hr
      exact r_zret dX9_hasShare_24 rfl rfl (Nat.le_of_ble_eq_true rfl) (Nat.le_of_ble_eq_true rfl) ⟨rfl, rfl, rfl⟩
def L_X9_marks (n : Nat) (T0 T1 : Nat) (I : gI) (a1 : Int32) (a2 : Int32) : Nat → Nat → Int64 → Int32 → Int32 → gJ → Option (String ⊕ (Int32 × gJ))
  | 0, _, _, _, _, _ => none
  | j + 1, 0, y3, x5, x6, J => bd (F_X7_cells n T0 I) (fun v37 => (if v37 ≤ x6 then some (.inr (x5, J)) else gv x6 160 (bd (F_X9_hasShare n (J 91 (Int32.toNatClampNeg x6)) a2 y3) (fun v52 => (if v52 = 0 then L_X9_marks n T0 T1 I a1 a2 j 0 y3 x5 (x6 + (1 : Int32)) J else L_X9_marks n T0 T1 I a1 a2 j 0 y3 (x5 + (1 : Int32)) (x6 + (1 : Int32)) J)))))
  | _ + 1, _, _, _, _, _ => none
theorem L_X9_marks_e0 (n j : Nat) (T0 T1 : Nat) (I : gI) (a1 : Int32) (a2 : Int32) (y3 : Int64) (x5 : Int32) (x6 : Int32) (J : gJ) : L_X9_marks n T0 T1 I a1 a2 (j + 1) 0 y3 x5 x6 J = bd (F_X7_cells n T0 I) (fun v37 => (if v37 ≤ x6 then some (.inr (x5, J)) else gv x6 160 (bd (F_X9_hasShare n (J 91 (Int32.toNatClampNeg x6)) a2 y3) (fun v52 => (if v52 = 0 then L_X9_marks n T0 T1 I a1 a2 j 0 y3 x5 (x6 + (1 : Int32)) J else L_X9_marks n T0 T1 I a1 a2 j 0 y3 (x5 + (1 : Int32)) (x6 + (1 : Int32)) J))))) := rfl
set_option maxHeartbeats 4000000 in
set_option maxRecDepth 100000 in
theorem cL_X9_marks {G : gG} {lay : Nat → Nat × Nat} {T0 T1 : Nat} {Dd : Nat → Nat → UInt64} {I : gI} {K : gI} {N : gJ} {sz n : Nat} {a1 : Int32} {a2 : Int32} (hs : G.1.stackTraces = false) (hE : gLay lay) (hT0 : gTank lay T0) (hT1 : gTank lay T1) : ∀ j : Nat, (∀ (y3 : Int64) (x5 : Int32) (x6 : Int32) (J : gJ) (r : Int32 × gJ), L_X9_marks n T0 T1 I a1 a2 j 0 y3 x5 x6 J = some (.inr r) → gAt G mX9_marks (gQp G mX9_marks (gR (some (.int r.1)) (fO G (lay, T0, T1, Dd) I r.2 K N) sz)) 31 [some (.ref (G.2.2.1 + 0)), some (.int a1), some (.int a2), some (.long y3), none, some (.int x5), some (.int x6)] [] (fO G (lay, T0, T1, Dd) I J K N) sz 0 0) := by
  intro j
  induction j with
  | zero => exact fun _ _ _ _ _ hf => (by cases hf)
  | succ j ih =>
    refine ?_
    · intro y3 x5 x6 J r hf
      rw [L_X9_marks_e0] at hf
      refine r_iload dX9_marks_31 rfl ?_
      refine r_aload_n dX9_marks_33 rfl ?_
      refine g9_5 dX9_marks_34 wd_361 (hE 0 (by decide)) ?_
      obtain ⟨v37, hc37, hf⟩ := bd_of hf
      refine r_cVi (rest := [.int x6]) (ct_X7_cells hs hE hT0 hc37) dX9_marks_37 wd_1155 zX7_cells wd_1156 wd_1157 rfl  rfl rfl (fo7 hT0.1) rfl rfl ⟨Nat.le_of_ble_eq_true rfl, Nat.le_of_ble_eq_true rfl⟩ (Nat.le_of_ble_eq_true rfl) ⟨Nat.le_of_ble_eq_true rfl, Nat.le_of_ble_eq_true rfl⟩ ?_
      refine r_icmp_ge (tgt := 67) dX9_marks_40 (by decide) (fun c40 => ?_) (fun c40 => ?_)
      · replace hf := if_t hf c40
        refine r_iload dX9_marks_67 rfl ?_
        have hr := Sum.inr.inj (Option.some.inj hf)
        subst hr
        exact r_iret dX9_marks_69 rfl (Nat.le_of_ble_eq_true rfl) (Nat.le_of_ble_eq_true rfl) ⟨rfl, rfl, rfl⟩
      · replace hf := if_f hf c40
        refine r_aload_n dX9_marks_43 rfl ?_
        refine g9_14 dX9_marks_44 wd_370 (hE 0 (by decide)) ?_
        refine r_iload dX9_marks_47 rfl ?_
        obtain ⟨h49, hf⟩ := gv_of hf
        refine a_lald dX9_marks_49 (hE 91 (by decide)) h49 ?_
        refine r_iload_n dX9_marks_50 rfl ?_
        refine r_lload_n dX9_marks_51 rfl ?_
        obtain ⟨v52, hc52, hf⟩ := bd_of hf
        refine r_cSi (rest := []) (ct_X9_hasShare hs hE hc52) dX9_marks_52 wd_1167 zX9_hasShare wd_1168 rfl  rfl rfl ⟨Nat.le_of_ble_eq_true rfl, Nat.le_of_ble_eq_true rfl⟩ (Nat.le_of_ble_eq_true rfl) ⟨Nat.le_of_ble_eq_true rfl, Nat.le_of_ble_eq_true rfl⟩ ?_
        refine r_if_eq (tgt := 61) dX9_marks_55 (by decide) (fun c55 => ?_) (fun c55 => ?_)
        · replace hf := if_t hf c55
          refine r_iincv (v := (x6 + (1 : Int32))) dX9_marks_61 rfl rfl (by decide) rfl ?_
          refine r_goto (tgt := 31) dX9_marks_64 (by decide) ?_
          exact r_widen (k2 := 0) (n2 := 0) (Nat.le_of_ble_eq_true rfl) (Nat.le_of_ble_eq_true rfl) (r_mask [true, true, true, true, false, true, true] rfl (ih y3 x5 (x6 + (1 : Int32)) J r hf))
        · replace hf := if_f hf c55
          refine r_iincv (v := (x5 + (1 : Int32))) dX9_marks_58 rfl rfl (by decide) rfl ?_
          refine r_iincv (v := (x6 + (1 : Int32))) dX9_marks_61 rfl rfl (by decide) rfl ?_
          refine r_goto (tgt := 31) dX9_marks_64 (by decide) ?_
          exact r_widen (k2 := 0) (n2 := 0) (Nat.le_of_ble_eq_true rfl) (Nat.le_of_ble_eq_true rfl) (r_mask [true, true, true, true, false, true, true] rfl (ih y3 (x5 + (1 : Int32)) (x6 + (1 : Int32)) J r hf))
def F_X9_marks (n : Nat) (T0 T1 : Nat) (I : gI) (J : gJ) (a1 : Int32) (a2 : Int32) : Option (String ⊕ (Int32 × gJ)) := bd (F_X9_needTank n T0 T1 I) (fun v1 => sm v1 (fun e => some (.inl e)) (fun v1 => bd (F_X9_needTimes n a1) (fun v5 => sm v5 (fun e => some (.inl e)) (fun v5 => bd (F_X9_needRange n a2 (1 : Int32) (100 : Int32)) (fun v12 => sm v12 (fun e => some (.inl e)) (fun v12 => bd (F_X9_fillEnergies n T0 T1 I J a1) (fun v17 => bd (F_X9_greatestEnergy n T0 T1 I v17) (fun v21 => L_X9_marks n T0 T1 I a1 a2 n 0 v21 (0 : Int32) (0 : Int32) v17))))))))
set_option maxHeartbeats 4000000 in
set_option maxRecDepth 100000 in
theorem ct_X9_marks {G : gG} {lay : Nat → Nat × Nat} {T0 T1 : Nat} {Dd : Nat → Nat → UInt64} {I : gI} {J : gJ} {K : gI} {N : gJ} {sz n : Nat} {a1 : Int32} {a2 : Int32} (hs : G.1.stackTraces = false) (hE : gLay lay) (hT0 : gTank lay T0) (hT1 : gTank lay T1) {r : Int32 × gJ} (hf : F_X9_marks n T0 T1 I J a1 a2 = some (.inr r)) : gCt G mX9_marks [.ref (G.2.2.1 + 0), .int a1, .int a2] (fO G (lay, T0, T1, Dd) I J K N) sz (gR (some (.int r.1)) (fO G (lay, T0, T1, Dd) I r.2 K N) sz) := by
  unfold F_X9_marks at hf
  refine gCt.of [some (.ref (G.2.2.1 + 0)), some (.int a1), some (.int a2), none, none, none, none] (by decide +kernel) rfl hs rfl (Nat.le_of_ble_eq_true rfl) ?_
  refine r_aload_n dX9_marks_0 rfl ?_
  obtain ⟨v1, hc1, hf⟩ := bd_of hf
  rcases v1 with e1 | v1
  · exact (no_th hf).elim
  refine r_cVv (rest := []) (ct_X9_needTank hs hE hT0 hT1 hc1) dX9_marks_1 wd_413 zX9_needTank wd_415 wd_0 rfl  rfl rfl (fo9 (hE 0 (by decide))) rfl rfl ⟨Nat.le_of_ble_eq_true rfl, Nat.le_of_ble_eq_true rfl⟩ (Nat.le_of_ble_eq_true rfl) ⟨Nat.le_of_ble_eq_true rfl, Nat.le_of_ble_eq_true rfl⟩ ?_
  refine r_iload_n dX9_marks_4 rfl ?_
  obtain ⟨v5, hc5, hf⟩ := bd_of hf
  rcases v5 with e5 | v5
  · exact (no_th hf).elim
  refine r_cSv (rest := []) (ct_X9_needTimes hs hE hc5) dX9_marks_5 wd_660 zX9_needTimes wd_661 rfl  rfl rfl ⟨Nat.le_of_ble_eq_true rfl, Nat.le_of_ble_eq_true rfl⟩ (Nat.le_of_ble_eq_true rfl) ⟨Nat.le_of_ble_eq_true rfl, Nat.le_of_ble_eq_true rfl⟩ ?_
  refine r_iload_n dX9_marks_8 rfl ?_
  refine r_iconst (v := (1 : Int32)) dX9_marks_9 (by decide) ?_
  refine r_bipush (v := (100 : Int32)) dX9_marks_10 (by decide) ?_
  obtain ⟨v12, hc12, hf⟩ := bd_of hf
  rcases v12 with e12 | v12
  · exact (no_th hf).elim
  refine r_cSv (rest := []) (ct_X9_needRange hs hE hc12) dX9_marks_12 wd_517 zX9_needRange wd_518 rfl  rfl rfl ⟨Nat.le_of_ble_eq_true rfl, Nat.le_of_ble_eq_true rfl⟩ (Nat.le_of_ble_eq_true rfl) ⟨Nat.le_of_ble_eq_true rfl, Nat.le_of_ble_eq_true rfl⟩ ?_
  refine r_aload_n dX9_marks_15 rfl ?_
  refine r_iload_n dX9_marks_16 rfl ?_
  obtain ⟨v17, hc17, hf⟩ := bd_of hf
  refine r_cVv (rest := []) (ct_X9_fillEnergies hs hE hT0 hT1 hc17) dX9_marks_17 wd_1151 zX9_fillEnergies wd_1153 wd_35 rfl  rfl rfl (fo9 (hE 0 (by decide))) rfl rfl ⟨Nat.le_of_ble_eq_true rfl, Nat.le_of_ble_eq_true rfl⟩ (Nat.le_of_ble_eq_true rfl) ⟨Nat.le_of_ble_eq_true rfl, Nat.le_of_ble_eq_true rfl⟩ ?_
  refine r_aload_n dX9_marks_20 rfl ?_
  obtain ⟨v21, hc21, hf⟩ := bd_of hf
  refine r_cVi (rest := []) (ct_X9_greatestEnergy hs hE hT0 hT1 hc21) dX9_marks_21 wd_1160 zX9_greatestEnergy wd_1162 wd_36 rfl  rfl rfl (fo9 (hE 0 (by decide))) rfl rfl ⟨Nat.le_of_ble_eq_true rfl, Nat.le_of_ble_eq_true rfl⟩ (Nat.le_of_ble_eq_true rfl) ⟨Nat.le_of_ble_eq_true rfl, Nat.le_of_ble_eq_true rfl⟩ ?_
  refine r_lstore_n dX9_marks_24 (by decide) rfl ?_
  refine r_iconst (v := (0 : Int32)) dX9_marks_25 (by decide) ?_
  refine r_istore dX9_marks_26 (by decide) rfl ?_
  refine r_iconst (v := (0 : Int32)) dX9_marks_28 (by decide) ?_
  refine r_istore dX9_marks_29 (by decide) rfl ?_
  exact r_widen (k2 := 0) (n2 := 0) (Nat.le_of_ble_eq_true rfl) (Nat.le_of_ble_eq_true rfl) (r_mask [true, true, true, true, false, true, true] rfl ((cL_X9_marks hs hE hT0 hT1 n) v21 (0 : Int32) (0 : Int32) v17 r hf))
def F_X9_isMark (n : Nat) (T0 T1 : Nat) (I : gI) (J : gJ) (a1 : Int32) (a2 : Int32) (a3 : Int32) (a4 : Int32) : Option (String ⊕ (Int32 × gJ)) := bd (F_X9_needTank n T0 T1 I) (fun v1 => sm v1 (fun e => some (.inl e)) (fun v1 => bd (F_X9_needCell n T0 T1 I a1 a2) (fun v7 => sm v7 (fun e => some (.inl e)) (fun v7 => bd (F_X9_needTimes n a3) (fun v11 => sm v11 (fun e => some (.inl e)) (fun v11 => bd (F_X9_needRange n a4 (1 : Int32) (100 : Int32)) (fun v19 => sm v19 (fun e => some (.inl e)) (fun v19 => bd (F_X9_fillEnergies n T0 T1 I J a3) (fun v24 => bd (F_X7_cellNumber n T0 I a1 a2) (fun v37 => gv v37 160 (bd (F_X9_greatestEnergy n T0 T1 I v24) (fun v44 => bd (F_X9_hasShare n (v24 91 (Int32.toNatClampNeg v37)) a4 v44) (fun v47 => gd (v47 = 0 ∨ v47 = 1) (some (.inr (v47, v24))))))))))))))))
set_option maxHeartbeats 4000000 in
set_option maxRecDepth 100000 in
theorem ct_X9_isMark {G : gG} {lay : Nat → Nat × Nat} {T0 T1 : Nat} {Dd : Nat → Nat → UInt64} {I : gI} {J : gJ} {K : gI} {N : gJ} {sz n : Nat} {a1 : Int32} {a2 : Int32} {a3 : Int32} {a4 : Int32} (hs : G.1.stackTraces = false) (hE : gLay lay) (hT0 : gTank lay T0) (hT1 : gTank lay T1) {r : Int32 × gJ} (hf : F_X9_isMark n T0 T1 I J a1 a2 a3 a4 = some (.inr r)) : gCt G mX9_isMark [.ref (G.2.2.1 + 0), .int a1, .int a2, .int a3, .int a4] (fO G (lay, T0, T1, Dd) I J K N) sz (gR (some (.int r.1)) (fO G (lay, T0, T1, Dd) I r.2 K N) sz) := by
  unfold F_X9_isMark at hf
  refine gCt.of [some (.ref (G.2.2.1 + 0)), some (.int a1), some (.int a2), some (.int a3), some (.int a4)] (by decide +kernel) rfl hs rfl (Nat.le_of_ble_eq_true rfl) ?_
  refine r_aload_n dX9_isMark_0 rfl ?_
  obtain ⟨v1, hc1, hf⟩ := bd_of hf
  rcases v1 with e1 | v1
  · exact (no_th hf).elim
  refine r_cVv (rest := []) (ct_X9_needTank hs hE hT0 hT1 hc1) dX9_isMark_1 wd_413 zX9_needTank wd_415 wd_0 rfl  rfl rfl (fo9 (hE 0 (by decide))) rfl rfl ⟨Nat.le_of_ble_eq_true rfl, Nat.le_of_ble_eq_true rfl⟩ (Nat.le_of_ble_eq_true rfl) ⟨Nat.le_of_ble_eq_true rfl, Nat.le_of_ble_eq_true rfl⟩ ?_
  refine r_aload_n dX9_isMark_4 rfl ?_
  refine r_iload_n dX9_isMark_5 rfl ?_
  refine r_iload_n dX9_isMark_6 rfl ?_
  obtain ⟨v7, hc7, hf⟩ := bd_of hf
  rcases v7 with e7 | v7
  · exact (no_th hf).elim
  refine r_cVv (rest := []) (ct_X9_needCell hs hE hT0 hT1 hc7) dX9_isMark_7 wd_562 zX9_needCell wd_564 wd_4 rfl  rfl rfl (fo9 (hE 0 (by decide))) rfl rfl ⟨Nat.le_of_ble_eq_true rfl, Nat.le_of_ble_eq_true rfl⟩ (Nat.le_of_ble_eq_true rfl) ⟨Nat.le_of_ble_eq_true rfl, Nat.le_of_ble_eq_true rfl⟩ ?_
  refine r_iload_n dX9_isMark_10 rfl ?_
  obtain ⟨v11, hc11, hf⟩ := bd_of hf
  rcases v11 with e11 | v11
  · exact (no_th hf).elim
  refine r_cSv (rest := []) (ct_X9_needTimes hs hE hc11) dX9_isMark_11 wd_660 zX9_needTimes wd_661 rfl  rfl rfl ⟨Nat.le_of_ble_eq_true rfl, Nat.le_of_ble_eq_true rfl⟩ (Nat.le_of_ble_eq_true rfl) ⟨Nat.le_of_ble_eq_true rfl, Nat.le_of_ble_eq_true rfl⟩ ?_
  refine r_iload dX9_isMark_14 rfl ?_
  refine r_iconst (v := (1 : Int32)) dX9_isMark_16 (by decide) ?_
  refine r_bipush (v := (100 : Int32)) dX9_isMark_17 (by decide) ?_
  obtain ⟨v19, hc19, hf⟩ := bd_of hf
  rcases v19 with e19 | v19
  · exact (no_th hf).elim
  refine r_cSv (rest := []) (ct_X9_needRange hs hE hc19) dX9_isMark_19 wd_517 zX9_needRange wd_518 rfl  rfl rfl ⟨Nat.le_of_ble_eq_true rfl, Nat.le_of_ble_eq_true rfl⟩ (Nat.le_of_ble_eq_true rfl) ⟨Nat.le_of_ble_eq_true rfl, Nat.le_of_ble_eq_true rfl⟩ ?_
  refine r_aload_n dX9_isMark_22 rfl ?_
  refine r_iload_n dX9_isMark_23 rfl ?_
  obtain ⟨v24, hc24, hf⟩ := bd_of hf
  refine r_cVv (rest := []) (ct_X9_fillEnergies hs hE hT0 hT1 hc24) dX9_isMark_24 wd_1151 zX9_fillEnergies wd_1153 wd_35 rfl  rfl rfl (fo9 (hE 0 (by decide))) rfl rfl ⟨Nat.le_of_ble_eq_true rfl, Nat.le_of_ble_eq_true rfl⟩ (Nat.le_of_ble_eq_true rfl) ⟨Nat.le_of_ble_eq_true rfl, Nat.le_of_ble_eq_true rfl⟩ ?_
  refine r_aload_n dX9_isMark_27 rfl ?_
  refine g9_14 dX9_isMark_28 wd_370 (hE 0 (by decide)) ?_
  refine r_aload_n dX9_isMark_31 rfl ?_
  refine g9_5 dX9_isMark_32 wd_361 (hE 0 (by decide)) ?_
  refine r_iload_n dX9_isMark_35 rfl ?_
  refine r_iload_n dX9_isMark_36 rfl ?_
  obtain ⟨v37, hc37, hf⟩ := bd_of hf
  refine r_cVi (rest := [.ref (G.2.2.1 + 91)]) (ct_X7_cellNumber hs hE hT0 hc37) dX9_isMark_37 wd_1159 zX7_cellNumber wd_739 wd_740 rfl  rfl rfl (fo7 hT0.1) rfl rfl ⟨Nat.le_of_ble_eq_true rfl, Nat.le_of_ble_eq_true rfl⟩ (Nat.le_of_ble_eq_true rfl) ⟨Nat.le_of_ble_eq_true rfl, Nat.le_of_ble_eq_true rfl⟩ ?_
  obtain ⟨h40, hf⟩ := gv_of hf
  refine a_lald dX9_isMark_40 (hE 91 (by decide)) h40 ?_
  refine r_iload dX9_isMark_41 rfl ?_
  refine r_aload_n dX9_isMark_43 rfl ?_
  obtain ⟨v44, hc44, hf⟩ := bd_of hf
  refine r_cVi (rest := [.int a4, .long (v24 91 (Int32.toNatClampNeg v37))]) (ct_X9_greatestEnergy hs hE hT0 hT1 hc44) dX9_isMark_44 wd_1160 zX9_greatestEnergy wd_1162 wd_36 rfl  rfl rfl (fo9 (hE 0 (by decide))) rfl rfl ⟨Nat.le_of_ble_eq_true rfl, Nat.le_of_ble_eq_true rfl⟩ (Nat.le_of_ble_eq_true rfl) ⟨Nat.le_of_ble_eq_true rfl, Nat.le_of_ble_eq_true rfl⟩ ?_
  obtain ⟨v47, hc47, hf⟩ := bd_of hf
  refine r_cSi (rest := []) (ct_X9_hasShare hs hE hc47) dX9_isMark_47 wd_1167 zX9_hasShare wd_1168 rfl  rfl rfl ⟨Nat.le_of_ble_eq_true rfl, Nat.le_of_ble_eq_true rfl⟩ (Nat.le_of_ble_eq_true rfl) ⟨Nat.le_of_ble_eq_true rfl, Nat.le_of_ble_eq_true rfl⟩ ?_
  obtain ⟨hz, hf⟩ := gd_of hf
  have hr := Sum.inr.inj (Option.some.inj hf)
  subst hr
  exact r_zret dX9_isMark_50 rfl (gB_nar hz) (Nat.le_of_ble_eq_true rfl) (Nat.le_of_ble_eq_true rfl) ⟨rfl, rfl, rfl⟩
def F_X9_nodesIfOff (n : Nat) (T0 T1 : Nat) (I : gI) (a1 : Int32) (a2 : Int32) (a3 : Int32) : Option (String ⊕ (Int32 × gI)) := bd (F_X9_needTank n T0 T1 I) (fun v1 => sm v1 (fun e => some (.inl e)) (fun v1 => bd (F_X9_needSource n T0 T1 I a1) (fun v6 => sm v6 (fun e => some (.inl e)) (fun v6 => bd (F_X9_needTimes n a2) (fun v10 => sm v10 (fun e => some (.inl e)) (fun v10 => bd (F_X9_needTolerance n a3) (fun v14 => sm v14 (fun e => some (.inl e)) (fun v14 => bd (F_X6_copyFrom n 10 2 I) (fun v25 => gv a1 4 (bd (F_X9_countCalm n T0 T1 10 (sI v25 (10 + 1) (Int32.toNatClampNeg a1) (0 : Int32)) a2 a3) (fun v45 => some (.inr (v45, (sI v25 (10 + 1) (Int32.toNatClampNeg a1) (0 : Int32)))))))))))))))
set_option maxHeartbeats 4000000 in
set_option maxRecDepth 100000 in
theorem ct_X9_nodesIfOff {G : gG} {lay : Nat → Nat × Nat} {T0 T1 : Nat} {Dd : Nat → Nat → UInt64} {I : gI} {J : gJ} {K : gI} {N : gJ} {sz n : Nat} {a1 : Int32} {a2 : Int32} {a3 : Int32} (hs : G.1.stackTraces = false) (hE : gLay lay) (hT0 : gTank lay T0) (hT1 : gTank lay T1) {r : Int32 × gI} (hf : F_X9_nodesIfOff n T0 T1 I a1 a2 a3 = some (.inr r)) : gCt G mX9_nodesIfOff [.ref (G.2.2.1 + 0), .int a1, .int a2, .int a3] (fO G (lay, T0, T1, Dd) I J K N) sz (gR (some (.int r.1)) (fO G (lay, T0, T1, Dd) r.2 J K N) sz) := by
  unfold F_X9_nodesIfOff at hf
  refine gCt.of [some (.ref (G.2.2.1 + 0)), some (.int a1), some (.int a2), some (.int a3)] (by decide +kernel) rfl hs rfl (Nat.le_of_ble_eq_true rfl) ?_
  refine r_aload_n dX9_nodesIfOff_0 rfl ?_
  obtain ⟨v1, hc1, hf⟩ := bd_of hf
  rcases v1 with e1 | v1
  · exact (no_th hf).elim
  refine r_cVv (rest := []) (ct_X9_needTank hs hE hT0 hT1 hc1) dX9_nodesIfOff_1 wd_413 zX9_needTank wd_415 wd_0 rfl  rfl rfl (fo9 (hE 0 (by decide))) rfl rfl ⟨Nat.le_of_ble_eq_true rfl, Nat.le_of_ble_eq_true rfl⟩ (Nat.le_of_ble_eq_true rfl) ⟨Nat.le_of_ble_eq_true rfl, Nat.le_of_ble_eq_true rfl⟩ ?_
  refine r_aload_n dX9_nodesIfOff_4 rfl ?_
  refine r_iload_n dX9_nodesIfOff_5 rfl ?_
  obtain ⟨v6, hc6, hf⟩ := bd_of hf
  rcases v6 with e6 | v6
  · exact (no_th hf).elim
  refine r_cVv (rest := []) (ct_X9_needSource hs hE hT0 hT1 hc6) dX9_nodesIfOff_6 wd_512 zX9_needSource wd_514 wd_3 rfl  rfl rfl (fo9 (hE 0 (by decide))) rfl rfl ⟨Nat.le_of_ble_eq_true rfl, Nat.le_of_ble_eq_true rfl⟩ (Nat.le_of_ble_eq_true rfl) ⟨Nat.le_of_ble_eq_true rfl, Nat.le_of_ble_eq_true rfl⟩ ?_
  refine r_iload_n dX9_nodesIfOff_9 rfl ?_
  obtain ⟨v10, hc10, hf⟩ := bd_of hf
  rcases v10 with e10 | v10
  · exact (no_th hf).elim
  refine r_cSv (rest := []) (ct_X9_needTimes hs hE hc10) dX9_nodesIfOff_10 wd_660 zX9_needTimes wd_661 rfl  rfl rfl ⟨Nat.le_of_ble_eq_true rfl, Nat.le_of_ble_eq_true rfl⟩ (Nat.le_of_ble_eq_true rfl) ⟨Nat.le_of_ble_eq_true rfl, Nat.le_of_ble_eq_true rfl⟩ ?_
  refine r_iload_n dX9_nodesIfOff_13 rfl ?_
  obtain ⟨v14, hc14, hf⟩ := bd_of hf
  rcases v14 with e14 | v14
  · exact (no_th hf).elim
  refine r_cSv (rest := []) (ct_X9_needTolerance hs hE hc14) dX9_nodesIfOff_14 wd_663 zX9_needTolerance wd_664 rfl  rfl rfl ⟨Nat.le_of_ble_eq_true rfl, Nat.le_of_ble_eq_true rfl⟩ (Nat.le_of_ble_eq_true rfl) ⟨Nat.le_of_ble_eq_true rfl, Nat.le_of_ble_eq_true rfl⟩ ?_
  refine r_aload_n dX9_nodesIfOff_17 rfl ?_
  refine g9_8 dX9_nodesIfOff_18 wd_364 (hE 0 (by decide)) ?_
  refine r_aload_n dX9_nodesIfOff_21 rfl ?_
  refine g9_7 dX9_nodesIfOff_22 wd_363 (hE 0 (by decide)) ?_
  obtain ⟨v25, hc25, hf⟩ := bd_of hf
  refine r_cVv (rest := []) (ct_X6_copyFrom hs hE (gSt10 hE) (gSt2 hE) hc25) dX9_nodesIfOff_25 wd_688 zX6_copyFrom wd_689 wd_690 rfl  rfl rfl (fo6 (gSt10 hE).1) rfl rfl ⟨Nat.le_of_ble_eq_true rfl, Nat.le_of_ble_eq_true rfl⟩ (Nat.le_of_ble_eq_true rfl) ⟨Nat.le_of_ble_eq_true rfl, Nat.le_of_ble_eq_true rfl⟩ ?_
  refine r_aload_n dX9_nodesIfOff_28 rfl ?_
  refine g9_8 dX9_nodesIfOff_29 wd_364 (hE 0 (by decide)) ?_
  refine g6_2 dX9_nodesIfOff_32 wd_98 (gSt10 hE).1 ?_
  refine r_iload_n dX9_nodesIfOff_35 rfl ?_
  refine r_iconst (v := (0 : Int32)) dX9_nodesIfOff_36 (by decide) ?_
  obtain ⟨h37, hf⟩ := gv_of hf
  refine a_zastb dX9_nodesIfOff_37 (gSt10 hE).2.1 h37 (by decide) ?_
  refine r_aload_n dX9_nodesIfOff_38 rfl ?_
  refine r_aload_n dX9_nodesIfOff_39 rfl ?_
  refine g9_8 dX9_nodesIfOff_40 wd_364 (hE 0 (by decide)) ?_
  refine r_iload_n dX9_nodesIfOff_43 rfl ?_
  refine r_iload_n dX9_nodesIfOff_44 rfl ?_
  obtain ⟨v45, hc45, hf⟩ := bd_of hf
  refine r_cVi (rest := []) (ct_X9_countCalm hs hE hT0 hT1 (gSt10 hE) hc45) dX9_nodesIfOff_45 wd_666 zX9_countCalm wd_668 wd_6 rfl  rfl rfl (fo9 (hE 0 (by decide))) rfl rfl ⟨Nat.le_of_ble_eq_true rfl, Nat.le_of_ble_eq_true rfl⟩ (Nat.le_of_ble_eq_true rfl) ⟨Nat.le_of_ble_eq_true rfl, Nat.le_of_ble_eq_true rfl⟩ ?_
  have hr := Sum.inr.inj (Option.some.inj hf)
  subst hr
  exact r_iret dX9_nodesIfOff_48 rfl (Nat.le_of_ble_eq_true rfl) (Nat.le_of_ble_eq_true rfl) ⟨rfl, rfl, rfl⟩
def L_X9_bestPhase (n : Nat) (T0 T1 : Nat) (a1 : Int32) (a2 : Int32) (a3 : Int32) (a4 : Int32) : Nat → Nat → Int32 → Int64 → Int32 → gI → Option (String ⊕ (Int32 × gI))
  | 0, _, _, _, _, _ => none
  | j + 1, 0, x5, y6, x8, I => (if (360 : Int32) ≤ x8 then some (.inr (x5, I)) else gv a1 4 (bd (F_X7_energyOf n T0 10 (sI I (10 + 3) (Int32.toNatClampNeg a1) x8) a2 a3 a4) (fun v71 => (if x5 = (-1 : Int32) then L_X9_bestPhase n T0 T1 a1 a2 a3 a4 j 0 x8 v71 (x8 + (15 : Int32)) (sI I (10 + 3) (Int32.toNatClampNeg a1) x8) else (if 0 ≤ (lg_cmp v71 y6) then L_X9_bestPhase n T0 T1 a1 a2 a3 a4 j 0 x5 y6 (x8 + (15 : Int32)) (sI I (10 + 3) (Int32.toNatClampNeg a1) x8) else L_X9_bestPhase n T0 T1 a1 a2 a3 a4 j 0 x8 v71 (x8 + (15 : Int32)) (sI I (10 + 3) (Int32.toNatClampNeg a1) x8))))))
  | _ + 1, _, _, _, _, _ => none
theorem L_X9_bestPhase_e0 (n j : Nat) (T0 T1 : Nat) (a1 : Int32) (a2 : Int32) (a3 : Int32) (a4 : Int32) (x5 : Int32) (y6 : Int64) (x8 : Int32) (I : gI) : L_X9_bestPhase n T0 T1 a1 a2 a3 a4 (j + 1) 0 x5 y6 x8 I = (if (360 : Int32) ≤ x8 then some (.inr (x5, I)) else gv a1 4 (bd (F_X7_energyOf n T0 10 (sI I (10 + 3) (Int32.toNatClampNeg a1) x8) a2 a3 a4) (fun v71 => (if x5 = (-1 : Int32) then L_X9_bestPhase n T0 T1 a1 a2 a3 a4 j 0 x8 v71 (x8 + (15 : Int32)) (sI I (10 + 3) (Int32.toNatClampNeg a1) x8) else (if 0 ≤ (lg_cmp v71 y6) then L_X9_bestPhase n T0 T1 a1 a2 a3 a4 j 0 x5 y6 (x8 + (15 : Int32)) (sI I (10 + 3) (Int32.toNatClampNeg a1) x8) else L_X9_bestPhase n T0 T1 a1 a2 a3 a4 j 0 x8 v71 (x8 + (15 : Int32)) (sI I (10 + 3) (Int32.toNatClampNeg a1) x8)))))) := rfl
set_option maxHeartbeats 4000000 in
set_option maxRecDepth 100000 in
theorem cL_X9_bestPhase {G : gG} {lay : Nat → Nat × Nat} {T0 T1 : Nat} {Dd : Nat → Nat → UInt64} {J : gJ} {K : gI} {N : gJ} {sz n : Nat} {a1 : Int32} {a2 : Int32} {a3 : Int32} {a4 : Int32} (hs : G.1.stackTraces = false) (hE : gLay lay) (hT0 : gTank lay T0) (hT1 : gTank lay T1) : ∀ j : Nat, (∀ (x5 : Int32) (y6 : Int64) (x8 : Int32) (I : gI) (r : Int32 × gI), L_X9_bestPhase n T0 T1 a1 a2 a3 a4 j 0 x5 y6 x8 I = some (.inr r) → gAt G mX9_bestPhase (gQp G mX9_bestPhase (gR (some (.int r.1)) (fO G (lay, T0, T1, Dd) r.2 J K N) sz)) 40 [some (.ref (G.2.2.1 + 0)), some (.int a1), some (.int a2), some (.int a3), some (.int a4), some (.int x5), some (.long y6), none, some (.int x8), none, none] [] (fO G (lay, T0, T1, Dd) I J K N) sz 0 0) := by
  intro j
  induction j with
  | zero => exact fun _ _ _ _ _ hf => (by cases hf)
  | succ j ih =>
    refine ?_
    · intro x5 y6 x8 I r hf
      rw [L_X9_bestPhase_e0] at hf
      refine r_iload dX9_bestPhase_40 rfl ?_
      refine r_sipush (v := (360 : Int32)) dX9_bestPhase_42 (by decide) ?_
      refine r_icmp_ge (tgt := 104) dX9_bestPhase_45 (by decide) (fun c45 => ?_) (fun c45 => ?_)
      · replace hf := if_t hf c45
        refine r_iload dX9_bestPhase_104 rfl ?_
        have hr := Sum.inr.inj (Option.some.inj hf)
        subst hr
        exact r_iret dX9_bestPhase_106 rfl (Nat.le_of_ble_eq_true rfl) (Nat.le_of_ble_eq_true rfl) ⟨rfl, rfl, rfl⟩
      · replace hf := if_f hf c45
        refine r_aload_n dX9_bestPhase_48 rfl ?_
        refine g9_8 dX9_bestPhase_49 wd_364 (hE 0 (by decide)) ?_
        refine g6_4 dX9_bestPhase_52 wd_106 (gSt10 hE).1 ?_
        refine r_iload_n dX9_bestPhase_55 rfl ?_
        refine r_iload dX9_bestPhase_56 rfl ?_
        obtain ⟨h58, hf⟩ := gv_of hf
        refine a_iast dX9_bestPhase_58 (gSt10 hE).2.2.2.1 h58 ?_
        refine r_aload_n dX9_bestPhase_59 rfl ?_
        refine g9_5 dX9_bestPhase_60 wd_361 (hE 0 (by decide)) ?_
        refine r_aload_n dX9_bestPhase_63 rfl ?_
        refine g9_8 dX9_bestPhase_64 wd_364 (hE 0 (by decide)) ?_
        refine r_iload_n dX9_bestPhase_67 rfl ?_
        refine r_iload_n dX9_bestPhase_68 rfl ?_
        refine r_iload dX9_bestPhase_69 rfl ?_
        obtain ⟨v71, hc71, hf⟩ := bd_of hf
        refine r_cVi (rest := []) (ct_X7_energyOf hs hE hT0 (gSt10 hE) hc71) dX9_bestPhase_71 wd_680 zX7_energyOf wd_681 wd_682 rfl  rfl rfl (fo7 hT0.1) rfl rfl ⟨Nat.le_of_ble_eq_true rfl, Nat.le_of_ble_eq_true rfl⟩ (Nat.le_of_ble_eq_true rfl) ⟨Nat.le_of_ble_eq_true rfl, Nat.le_of_ble_eq_true rfl⟩ ?_
        refine r_lstore dX9_bestPhase_74 (by decide) rfl ?_
        refine r_iload dX9_bestPhase_76 rfl ?_
        refine r_iconst (v := (-1 : Int32)) dX9_bestPhase_78 (by decide) ?_
        refine r_icmp_eq (tgt := 90) dX9_bestPhase_79 (by decide) (fun c79 => ?_) (fun c79 => ?_)
        · replace hf := if_t hf c79
          refine r_lload dX9_bestPhase_90 rfl ?_
          refine r_lstore dX9_bestPhase_92 (by decide) rfl ?_
          refine r_iload dX9_bestPhase_94 rfl ?_
          refine r_istore dX9_bestPhase_96 (by decide) rfl ?_
          refine r_iincv (v := (x8 + (15 : Int32))) dX9_bestPhase_98 rfl rfl (by decide) rfl ?_
          refine r_goto (tgt := 40) dX9_bestPhase_101 (by decide) ?_
          exact r_widen (k2 := 0) (n2 := 0) (Nat.le_of_ble_eq_true rfl) (Nat.le_of_ble_eq_true rfl) (r_mask [true, true, true, true, true, true, true, false, true, false, false] rfl (ih x8 v71 (x8 + (15 : Int32)) (sI I (10 + 3) (Int32.toNatClampNeg a1) x8) r hf))
        · replace hf := if_f hf c79
          refine r_lload dX9_bestPhase_82 rfl ?_
          refine r_lload dX9_bestPhase_84 rfl ?_
          refine r_lcmp dX9_bestPhase_86 ?_
          refine r_if_ge (tgt := 98) dX9_bestPhase_87 (by decide) (fun c87 => ?_) (fun c87 => ?_)
          · replace hf := if_t hf c87
            refine r_iincv (v := (x8 + (15 : Int32))) dX9_bestPhase_98 rfl rfl (by decide) rfl ?_
            refine r_goto (tgt := 40) dX9_bestPhase_101 (by decide) ?_
            exact r_widen (k2 := 0) (n2 := 0) (Nat.le_of_ble_eq_true rfl) (Nat.le_of_ble_eq_true rfl) (r_mask [true, true, true, true, true, true, true, false, true, false, false] rfl (ih x5 y6 (x8 + (15 : Int32)) (sI I (10 + 3) (Int32.toNatClampNeg a1) x8) r hf))
          · replace hf := if_f hf c87
            refine r_lload dX9_bestPhase_90 rfl ?_
            refine r_lstore dX9_bestPhase_92 (by decide) rfl ?_
            refine r_iload dX9_bestPhase_94 rfl ?_
            refine r_istore dX9_bestPhase_96 (by decide) rfl ?_
            refine r_iincv (v := (x8 + (15 : Int32))) dX9_bestPhase_98 rfl rfl (by decide) rfl ?_
            refine r_goto (tgt := 40) dX9_bestPhase_101 (by decide) ?_
            exact r_widen (k2 := 0) (n2 := 0) (Nat.le_of_ble_eq_true rfl) (Nat.le_of_ble_eq_true rfl) (r_mask [true, true, true, true, true, true, true, false, true, false, false] rfl (ih x8 v71 (x8 + (15 : Int32)) (sI I (10 + 3) (Int32.toNatClampNeg a1) x8) r hf))
def F_X9_bestPhase (n : Nat) (T0 T1 : Nat) (I : gI) (a1 : Int32) (a2 : Int32) (a3 : Int32) (a4 : Int32) : Option (String ⊕ (Int32 × gI)) := bd (F_X9_needTank n T0 T1 I) (fun v1 => sm v1 (fun e => some (.inl e)) (fun v1 => bd (F_X9_needSource n T0 T1 I a1) (fun v6 => sm v6 (fun e => some (.inl e)) (fun v6 => bd (F_X9_needCell n T0 T1 I a2 a3) (fun v12 => sm v12 (fun e => some (.inl e)) (fun v12 => bd (F_X9_needTimes n a4) (fun v17 => sm v17 (fun e => some (.inl e)) (fun v17 => bd (F_X6_copyFrom n 10 2 I) (fun v28 => L_X9_bestPhase n T0 T1 a1 a2 a3 a4 n 0 (-1 : Int32) (0 : Int64) (0 : Int32) v28)))))))))
set_option maxHeartbeats 4000000 in
set_option maxRecDepth 100000 in
theorem ct_X9_bestPhase {G : gG} {lay : Nat → Nat × Nat} {T0 T1 : Nat} {Dd : Nat → Nat → UInt64} {I : gI} {J : gJ} {K : gI} {N : gJ} {sz n : Nat} {a1 : Int32} {a2 : Int32} {a3 : Int32} {a4 : Int32} (hs : G.1.stackTraces = false) (hE : gLay lay) (hT0 : gTank lay T0) (hT1 : gTank lay T1) {r : Int32 × gI} (hf : F_X9_bestPhase n T0 T1 I a1 a2 a3 a4 = some (.inr r)) : gCt G mX9_bestPhase [.ref (G.2.2.1 + 0), .int a1, .int a2, .int a3, .int a4] (fO G (lay, T0, T1, Dd) I J K N) sz (gR (some (.int r.1)) (fO G (lay, T0, T1, Dd) r.2 J K N) sz) := by
  unfold F_X9_bestPhase at hf
  refine gCt.of [some (.ref (G.2.2.1 + 0)), some (.int a1), some (.int a2), some (.int a3), some (.int a4), none, none, none, none, none, none] (by decide +kernel) rfl hs rfl (Nat.le_of_ble_eq_true rfl) ?_
  refine r_aload_n dX9_bestPhase_0 rfl ?_
  obtain ⟨v1, hc1, hf⟩ := bd_of hf
  rcases v1 with e1 | v1
  · exact (no_th hf).elim
  refine r_cVv (rest := []) (ct_X9_needTank hs hE hT0 hT1 hc1) dX9_bestPhase_1 wd_413 zX9_needTank wd_415 wd_0 rfl  rfl rfl (fo9 (hE 0 (by decide))) rfl rfl ⟨Nat.le_of_ble_eq_true rfl, Nat.le_of_ble_eq_true rfl⟩ (Nat.le_of_ble_eq_true rfl) ⟨Nat.le_of_ble_eq_true rfl, Nat.le_of_ble_eq_true rfl⟩ ?_
  refine r_aload_n dX9_bestPhase_4 rfl ?_
  refine r_iload_n dX9_bestPhase_5 rfl ?_
  obtain ⟨v6, hc6, hf⟩ := bd_of hf
  rcases v6 with e6 | v6
  · exact (no_th hf).elim
  refine r_cVv (rest := []) (ct_X9_needSource hs hE hT0 hT1 hc6) dX9_bestPhase_6 wd_512 zX9_needSource wd_514 wd_3 rfl  rfl rfl (fo9 (hE 0 (by decide))) rfl rfl ⟨Nat.le_of_ble_eq_true rfl, Nat.le_of_ble_eq_true rfl⟩ (Nat.le_of_ble_eq_true rfl) ⟨Nat.le_of_ble_eq_true rfl, Nat.le_of_ble_eq_true rfl⟩ ?_
  refine r_aload_n dX9_bestPhase_9 rfl ?_
  refine r_iload_n dX9_bestPhase_10 rfl ?_
  refine r_iload_n dX9_bestPhase_11 rfl ?_
  obtain ⟨v12, hc12, hf⟩ := bd_of hf
  rcases v12 with e12 | v12
  · exact (no_th hf).elim
  refine r_cVv (rest := []) (ct_X9_needCell hs hE hT0 hT1 hc12) dX9_bestPhase_12 wd_562 zX9_needCell wd_564 wd_4 rfl  rfl rfl (fo9 (hE 0 (by decide))) rfl rfl ⟨Nat.le_of_ble_eq_true rfl, Nat.le_of_ble_eq_true rfl⟩ (Nat.le_of_ble_eq_true rfl) ⟨Nat.le_of_ble_eq_true rfl, Nat.le_of_ble_eq_true rfl⟩ ?_
  refine r_iload dX9_bestPhase_15 rfl ?_
  obtain ⟨v17, hc17, hf⟩ := bd_of hf
  rcases v17 with e17 | v17
  · exact (no_th hf).elim
  refine r_cSv (rest := []) (ct_X9_needTimes hs hE hc17) dX9_bestPhase_17 wd_660 zX9_needTimes wd_661 rfl  rfl rfl ⟨Nat.le_of_ble_eq_true rfl, Nat.le_of_ble_eq_true rfl⟩ (Nat.le_of_ble_eq_true rfl) ⟨Nat.le_of_ble_eq_true rfl, Nat.le_of_ble_eq_true rfl⟩ ?_
  refine r_aload_n dX9_bestPhase_20 rfl ?_
  refine g9_8 dX9_bestPhase_21 wd_364 (hE 0 (by decide)) ?_
  refine r_aload_n dX9_bestPhase_24 rfl ?_
  refine g9_7 dX9_bestPhase_25 wd_363 (hE 0 (by decide)) ?_
  obtain ⟨v28, hc28, hf⟩ := bd_of hf
  refine r_cVv (rest := []) (ct_X6_copyFrom hs hE (gSt10 hE) (gSt2 hE) hc28) dX9_bestPhase_28 wd_688 zX6_copyFrom wd_689 wd_690 rfl  rfl rfl (fo6 (gSt10 hE).1) rfl rfl ⟨Nat.le_of_ble_eq_true rfl, Nat.le_of_ble_eq_true rfl⟩ (Nat.le_of_ble_eq_true rfl) ⟨Nat.le_of_ble_eq_true rfl, Nat.le_of_ble_eq_true rfl⟩ ?_
  refine r_iconst (v := (-1 : Int32)) dX9_bestPhase_31 (by decide) ?_
  refine r_istore dX9_bestPhase_32 (by decide) rfl ?_
  refine r_lconst (v := (0 : Int64)) dX9_bestPhase_34 (by decide) ?_
  refine r_lstore dX9_bestPhase_35 (by decide) rfl ?_
  refine r_iconst (v := (0 : Int32)) dX9_bestPhase_37 (by decide) ?_
  refine r_istore dX9_bestPhase_38 (by decide) rfl ?_
  exact r_widen (k2 := 0) (n2 := 0) (Nat.le_of_ble_eq_true rfl) (Nat.le_of_ble_eq_true rfl) (r_mask [true, true, true, true, true, true, true, false, true, false, false] rfl ((cL_X9_bestPhase hs hE hT0 hT1 n) (-1 : Int32) (0 : Int64) (0 : Int32) v28 r hf))
def F_X9_turnedEnergy (n : Nat) (T0 T1 : Nat) (I : gI) (a1 : Int32) (a2 : Int32) (a3 : Int32) (a4 : Int32) : Option (Int64 × gI) := (if (I T0 4) = (-1 : Int32) then some ((-1 : Int64), I) else bd (F_X6_copyFrom n 10 2 I) (fun v23 => bd (F_X6_turn n 10 v23 a3) (fun v31 => bd (F_X7_energyOf n T0 10 v31 a1 a2 a4) (fun v46 => some (v46, v31)))))
set_option maxHeartbeats 4000000 in
set_option maxRecDepth 100000 in
theorem ct_X9_turnedEnergy {G : gG} {lay : Nat → Nat × Nat} {T0 T1 : Nat} {Dd : Nat → Nat → UInt64} {I : gI} {J : gJ} {K : gI} {N : gJ} {sz n : Nat} {a1 : Int32} {a2 : Int32} {a3 : Int32} {a4 : Int32} (hs : G.1.stackTraces = false) (hE : gLay lay) (hT0 : gTank lay T0) (hT1 : gTank lay T1) {r : Int64 × gI} (hf : F_X9_turnedEnergy n T0 T1 I a1 a2 a3 a4 = some r) : gCt G mX9_turnedEnergy [.ref (G.2.2.1 + 0), .int a1, .int a2, .int a3, .int a4] (fO G (lay, T0, T1, Dd) I J K N) sz (gR (some (.long r.1)) (fO G (lay, T0, T1, Dd) r.2 J K N) sz) := by
  unfold F_X9_turnedEnergy at hf
  refine gCt.of [some (.ref (G.2.2.1 + 0)), some (.int a1), some (.int a2), some (.int a3), some (.int a4)] (by decide +kernel) rfl hs rfl (Nat.le_of_ble_eq_true rfl) ?_
  refine r_aload_n dX9_turnedEnergy_0 rfl ?_
  refine g9_5 dX9_turnedEnergy_1 wd_361 (hE 0 (by decide)) ?_
  refine g7_4 dX9_turnedEnergy_4 wd_307 hT0.1 ?_
  refine r_iconst (v := (-1 : Int32)) dX9_turnedEnergy_7 (by decide) ?_
  refine r_icmp_ne (tgt := 15) dX9_turnedEnergy_8 (by decide) (fun c8 => ?_) (fun c8 => ?_)
  · replace hf := if_f hf c8
    refine r_aload_n dX9_turnedEnergy_15 rfl ?_
    refine g9_8 dX9_turnedEnergy_16 wd_364 (hE 0 (by decide)) ?_
    refine r_aload_n dX9_turnedEnergy_19 rfl ?_
    refine g9_7 dX9_turnedEnergy_20 wd_363 (hE 0 (by decide)) ?_
    obtain ⟨v23, hc23, hf⟩ := bd_of hf
    refine r_cVv (rest := []) (ct_X6_copyFrom hs hE (gSt10 hE) (gSt2 hE) hc23) dX9_turnedEnergy_23 wd_688 zX6_copyFrom wd_689 wd_690 rfl  rfl rfl (fo6 (gSt10 hE).1) rfl rfl ⟨Nat.le_of_ble_eq_true rfl, Nat.le_of_ble_eq_true rfl⟩ (Nat.le_of_ble_eq_true rfl) ⟨Nat.le_of_ble_eq_true rfl, Nat.le_of_ble_eq_true rfl⟩ ?_
    refine r_aload_n dX9_turnedEnergy_26 rfl ?_
    refine g9_8 dX9_turnedEnergy_27 wd_364 (hE 0 (by decide)) ?_
    refine r_iload_n dX9_turnedEnergy_30 rfl ?_
    obtain ⟨v31, hc31, hf⟩ := bd_of hf
    refine r_cVv (rest := []) (ct_X6_turn hs hE (gSt10 hE) hc31) dX9_turnedEnergy_31 wd_705 zX6_turn wd_706 wd_707 rfl  rfl rfl (fo6 (gSt10 hE).1) rfl rfl ⟨Nat.le_of_ble_eq_true rfl, Nat.le_of_ble_eq_true rfl⟩ (Nat.le_of_ble_eq_true rfl) ⟨Nat.le_of_ble_eq_true rfl, Nat.le_of_ble_eq_true rfl⟩ ?_
    refine r_aload_n dX9_turnedEnergy_34 rfl ?_
    refine g9_5 dX9_turnedEnergy_35 wd_361 (hE 0 (by decide)) ?_
    refine r_aload_n dX9_turnedEnergy_38 rfl ?_
    refine g9_8 dX9_turnedEnergy_39 wd_364 (hE 0 (by decide)) ?_
    refine r_iload_n dX9_turnedEnergy_42 rfl ?_
    refine r_iload_n dX9_turnedEnergy_43 rfl ?_
    refine r_iload dX9_turnedEnergy_44 rfl ?_
    obtain ⟨v46, hc46, hf⟩ := bd_of hf
    refine r_cVi (rest := []) (ct_X7_energyOf hs hE hT0 (gSt10 hE) hc46) dX9_turnedEnergy_46 wd_680 zX7_energyOf wd_681 wd_682 rfl  rfl rfl (fo7 hT0.1) rfl rfl ⟨Nat.le_of_ble_eq_true rfl, Nat.le_of_ble_eq_true rfl⟩ (Nat.le_of_ble_eq_true rfl) ⟨Nat.le_of_ble_eq_true rfl, Nat.le_of_ble_eq_true rfl⟩ ?_
    have hr := Option.some.inj hf
    subst hr
    exact r_lret dX9_turnedEnergy_49 rfl (Nat.le_of_ble_eq_true rfl) (Nat.le_of_ble_eq_true rfl) ⟨rfl, rfl, rfl⟩
  · replace hf := if_t hf c8
    refine r_ldc2 dX9_turnedEnergy_11 wd_704 ?_
    have hr := Option.some.inj hf
    subst hr
    exact r_lret dX9_turnedEnergy_14 rfl (Nat.le_of_ble_eq_true rfl) (Nat.le_of_ble_eq_true rfl) ⟨rfl, rfl, rfl⟩
def F_X9_energyIfTurned (n : Nat) (T0 T1 : Nat) (I : gI) (a1 : Int32) (a2 : Int32) (a3 : Int32) (a4 : Int32) : Option (String ⊕ (Int64 × gI)) := bd (F_X9_needTank n T0 T1 I) (fun v1 => sm v1 (fun e => some (.inl e)) (fun v1 => bd (F_X9_needCell n T0 T1 I a1 a2) (fun v7 => sm v7 (fun e => some (.inl e)) (fun v7 => bd (F_X9_needRow n T0 T1 I a3) (fun v12 => sm v12 (fun e => some (.inl e)) (fun v12 => bd (F_X9_needTimes n a4) (fun v17 => sm v17 (fun e => some (.inl e)) (fun v17 => bd (F_X9_turnedEnergy n T0 T1 I a1 a2 a3 a4) (fun v26 => some (.inr (v26.1, v26.2)))))))))))
set_option maxHeartbeats 4000000 in
set_option maxRecDepth 100000 in
theorem ct_X9_energyIfTurned {G : gG} {lay : Nat → Nat × Nat} {T0 T1 : Nat} {Dd : Nat → Nat → UInt64} {I : gI} {J : gJ} {K : gI} {N : gJ} {sz n : Nat} {a1 : Int32} {a2 : Int32} {a3 : Int32} {a4 : Int32} (hs : G.1.stackTraces = false) (hE : gLay lay) (hT0 : gTank lay T0) (hT1 : gTank lay T1) {r : Int64 × gI} (hf : F_X9_energyIfTurned n T0 T1 I a1 a2 a3 a4 = some (.inr r)) : gCt G mX9_energyIfTurned [.ref (G.2.2.1 + 0), .int a1, .int a2, .int a3, .int a4] (fO G (lay, T0, T1, Dd) I J K N) sz (gR (some (.long r.1)) (fO G (lay, T0, T1, Dd) r.2 J K N) sz) := by
  unfold F_X9_energyIfTurned at hf
  refine gCt.of [some (.ref (G.2.2.1 + 0)), some (.int a1), some (.int a2), some (.int a3), some (.int a4)] (by decide +kernel) rfl hs rfl (Nat.le_of_ble_eq_true rfl) ?_
  refine r_aload_n dX9_energyIfTurned_0 rfl ?_
  obtain ⟨v1, hc1, hf⟩ := bd_of hf
  rcases v1 with e1 | v1
  · exact (no_th hf).elim
  refine r_cVv (rest := []) (ct_X9_needTank hs hE hT0 hT1 hc1) dX9_energyIfTurned_1 wd_413 zX9_needTank wd_415 wd_0 rfl  rfl rfl (fo9 (hE 0 (by decide))) rfl rfl ⟨Nat.le_of_ble_eq_true rfl, Nat.le_of_ble_eq_true rfl⟩ (Nat.le_of_ble_eq_true rfl) ⟨Nat.le_of_ble_eq_true rfl, Nat.le_of_ble_eq_true rfl⟩ ?_
  refine r_aload_n dX9_energyIfTurned_4 rfl ?_
  refine r_iload_n dX9_energyIfTurned_5 rfl ?_
  refine r_iload_n dX9_energyIfTurned_6 rfl ?_
  obtain ⟨v7, hc7, hf⟩ := bd_of hf
  rcases v7 with e7 | v7
  · exact (no_th hf).elim
  refine r_cVv (rest := []) (ct_X9_needCell hs hE hT0 hT1 hc7) dX9_energyIfTurned_7 wd_562 zX9_needCell wd_564 wd_4 rfl  rfl rfl (fo9 (hE 0 (by decide))) rfl rfl ⟨Nat.le_of_ble_eq_true rfl, Nat.le_of_ble_eq_true rfl⟩ (Nat.le_of_ble_eq_true rfl) ⟨Nat.le_of_ble_eq_true rfl, Nat.le_of_ble_eq_true rfl⟩ ?_
  refine r_aload_n dX9_energyIfTurned_10 rfl ?_
  refine r_iload_n dX9_energyIfTurned_11 rfl ?_
  obtain ⟨v12, hc12, hf⟩ := bd_of hf
  rcases v12 with e12 | v12
  · exact (no_th hf).elim
  refine r_cVv (rest := []) (ct_X9_needRow hs hE hT0 hT1 hc12) dX9_energyIfTurned_12 wd_484 zX9_needRow wd_486 wd_2 rfl  rfl rfl (fo9 (hE 0 (by decide))) rfl rfl ⟨Nat.le_of_ble_eq_true rfl, Nat.le_of_ble_eq_true rfl⟩ (Nat.le_of_ble_eq_true rfl) ⟨Nat.le_of_ble_eq_true rfl, Nat.le_of_ble_eq_true rfl⟩ ?_
  refine r_iload dX9_energyIfTurned_15 rfl ?_
  obtain ⟨v17, hc17, hf⟩ := bd_of hf
  rcases v17 with e17 | v17
  · exact (no_th hf).elim
  refine r_cSv (rest := []) (ct_X9_needTimes hs hE hc17) dX9_energyIfTurned_17 wd_660 zX9_needTimes wd_661 rfl  rfl rfl ⟨Nat.le_of_ble_eq_true rfl, Nat.le_of_ble_eq_true rfl⟩ (Nat.le_of_ble_eq_true rfl) ⟨Nat.le_of_ble_eq_true rfl, Nat.le_of_ble_eq_true rfl⟩ ?_
  refine r_aload_n dX9_energyIfTurned_20 rfl ?_
  refine r_iload_n dX9_energyIfTurned_21 rfl ?_
  refine r_iload_n dX9_energyIfTurned_22 rfl ?_
  refine r_iload_n dX9_energyIfTurned_23 rfl ?_
  refine r_iload dX9_energyIfTurned_24 rfl ?_
  obtain ⟨v26, hc26, hf⟩ := bd_of hf
  refine r_cVi (rest := []) (ct_X9_turnedEnergy hs hE hT0 hT1 hc26) dX9_energyIfTurned_26 wd_700 zX9_turnedEnergy wd_702 wd_7 rfl  rfl rfl (fo9 (hE 0 (by decide))) rfl rfl ⟨Nat.le_of_ble_eq_true rfl, Nat.le_of_ble_eq_true rfl⟩ (Nat.le_of_ble_eq_true rfl) ⟨Nat.le_of_ble_eq_true rfl, Nat.le_of_ble_eq_true rfl⟩ ?_
  have hr := Sum.inr.inj (Option.some.inj hf)
  subst hr
  exact r_lret dX9_energyIfTurned_29 rfl (Nat.le_of_ble_eq_true rfl) (Nat.le_of_ble_eq_true rfl) ⟨rfl, rfl, rfl⟩
def L_X9_bestRow (n : Nat) (T0 T1 : Nat) (a1 : Int32) (a2 : Int32) (a3 : Int32) : Nat → Nat → Int32 → Int64 → Int32 → gI → Option (String ⊕ (Int32 × gI))
  | 0, _, _, _, _, _ => none
  | j + 1, 0, x4, y5, x7, I => (if (I T0 2) ≤ x7 then some (.inr (x4, I)) else bd (F_X9_turnedEnergy n T0 T1 I a1 a2 x7 a3) (fun v43 => (if (lg_cmp v43.1 y5) ≤ 0 then L_X9_bestRow n T0 T1 a1 a2 a3 j 0 x4 y5 (x7 + (1 : Int32)) v43.2 else L_X9_bestRow n T0 T1 a1 a2 a3 j 0 x7 v43.1 (x7 + (1 : Int32)) v43.2)))
  | _ + 1, _, _, _, _, _ => none
theorem L_X9_bestRow_e0 (n j : Nat) (T0 T1 : Nat) (a1 : Int32) (a2 : Int32) (a3 : Int32) (x4 : Int32) (y5 : Int64) (x7 : Int32) (I : gI) : L_X9_bestRow n T0 T1 a1 a2 a3 (j + 1) 0 x4 y5 x7 I = (if (I T0 2) ≤ x7 then some (.inr (x4, I)) else bd (F_X9_turnedEnergy n T0 T1 I a1 a2 x7 a3) (fun v43 => (if (lg_cmp v43.1 y5) ≤ 0 then L_X9_bestRow n T0 T1 a1 a2 a3 j 0 x4 y5 (x7 + (1 : Int32)) v43.2 else L_X9_bestRow n T0 T1 a1 a2 a3 j 0 x7 v43.1 (x7 + (1 : Int32)) v43.2))) := rfl
set_option maxHeartbeats 4000000 in
set_option maxRecDepth 100000 in
theorem cL_X9_bestRow {G : gG} {lay : Nat → Nat × Nat} {T0 T1 : Nat} {Dd : Nat → Nat → UInt64} {J : gJ} {K : gI} {N : gJ} {sz n : Nat} {a1 : Int32} {a2 : Int32} {a3 : Int32} (hs : G.1.stackTraces = false) (hE : gLay lay) (hT0 : gTank lay T0) (hT1 : gTank lay T1) : ∀ j : Nat, (∀ (x4 : Int32) (y5 : Int64) (x7 : Int32) (I : gI) (r : Int32 × gI), L_X9_bestRow n T0 T1 a1 a2 a3 j 0 x4 y5 x7 I = some (.inr r) → gAt G mX9_bestRow (gQp G mX9_bestRow (gR (some (.int r.1)) (fO G (lay, T0, T1, Dd) r.2 J K N) sz)) 25 [some (.ref (G.2.2.1 + 0)), some (.int a1), some (.int a2), some (.int a3), some (.int x4), some (.long y5), none, some (.int x7), none, none] [] (fO G (lay, T0, T1, Dd) I J K N) sz 0 0) := by
  intro j
  induction j with
  | zero => exact fun _ _ _ _ _ hf => (by cases hf)
  | succ j ih =>
    refine ?_
    · intro x4 y5 x7 I r hf
      rw [L_X9_bestRow_e0] at hf
      refine r_iload dX9_bestRow_25 rfl ?_
      refine r_aload_n dX9_bestRow_27 rfl ?_
      refine g9_5 dX9_bestRow_28 wd_361 (hE 0 (by decide)) ?_
      refine g7_2 dX9_bestRow_31 wd_302 hT0.1 ?_
      refine r_icmp_ge (tgt := 70) dX9_bestRow_34 (by decide) (fun c34 => ?_) (fun c34 => ?_)
      · replace hf := if_t hf c34
        refine r_iload dX9_bestRow_70 rfl ?_
        have hr := Sum.inr.inj (Option.some.inj hf)
        subst hr
        exact r_iret dX9_bestRow_72 rfl (Nat.le_of_ble_eq_true rfl) (Nat.le_of_ble_eq_true rfl) ⟨rfl, rfl, rfl⟩
      · replace hf := if_f hf c34
        refine r_aload_n dX9_bestRow_37 rfl ?_
        refine r_iload_n dX9_bestRow_38 rfl ?_
        refine r_iload_n dX9_bestRow_39 rfl ?_
        refine r_iload dX9_bestRow_40 rfl ?_
        refine r_iload_n dX9_bestRow_42 rfl ?_
        obtain ⟨v43, hc43, hf⟩ := bd_of hf
        refine r_cVi (rest := []) (ct_X9_turnedEnergy hs hE hT0 hT1 hc43) dX9_bestRow_43 wd_700 zX9_turnedEnergy wd_702 wd_7 rfl  rfl rfl (fo9 (hE 0 (by decide))) rfl rfl ⟨Nat.le_of_ble_eq_true rfl, Nat.le_of_ble_eq_true rfl⟩ (Nat.le_of_ble_eq_true rfl) ⟨Nat.le_of_ble_eq_true rfl, Nat.le_of_ble_eq_true rfl⟩ ?_
        refine r_lstore dX9_bestRow_46 (by decide) rfl ?_
        refine r_lload dX9_bestRow_48 rfl ?_
        refine r_lload dX9_bestRow_50 rfl ?_
        refine r_lcmp dX9_bestRow_52 ?_
        refine r_if_le (tgt := 64) dX9_bestRow_53 (by decide) (fun c53 => ?_) (fun c53 => ?_)
        · replace hf := if_t hf c53
          refine r_iincv (v := (x7 + (1 : Int32))) dX9_bestRow_64 rfl rfl (by decide) rfl ?_
          refine r_goto (tgt := 25) dX9_bestRow_67 (by decide) ?_
          exact r_widen (k2 := 0) (n2 := 0) (Nat.le_of_ble_eq_true rfl) (Nat.le_of_ble_eq_true rfl) (r_mask [true, true, true, true, true, true, false, true, false, false] rfl (ih x4 y5 (x7 + (1 : Int32)) v43.2 r hf))
        · replace hf := if_f hf c53
          refine r_lload dX9_bestRow_56 rfl ?_
          refine r_lstore dX9_bestRow_58 (by decide) rfl ?_
          refine r_iload dX9_bestRow_60 rfl ?_
          refine r_istore dX9_bestRow_62 (by decide) rfl ?_
          refine r_iincv (v := (x7 + (1 : Int32))) dX9_bestRow_64 rfl rfl (by decide) rfl ?_
          refine r_goto (tgt := 25) dX9_bestRow_67 (by decide) ?_
          exact r_widen (k2 := 0) (n2 := 0) (Nat.le_of_ble_eq_true rfl) (Nat.le_of_ble_eq_true rfl) (r_mask [true, true, true, true, true, true, false, true, false, false] rfl (ih x7 v43.1 (x7 + (1 : Int32)) v43.2 r hf))
def F_X9_bestRow (n : Nat) (T0 T1 : Nat) (I : gI) (a1 : Int32) (a2 : Int32) (a3 : Int32) : Option (String ⊕ (Int32 × gI)) := bd (F_X9_needTank n T0 T1 I) (fun v1 => sm v1 (fun e => some (.inl e)) (fun v1 => bd (F_X9_needCell n T0 T1 I a1 a2) (fun v7 => sm v7 (fun e => some (.inl e)) (fun v7 => bd (F_X9_needTimes n a3) (fun v11 => sm v11 (fun e => some (.inl e)) (fun v11 => L_X9_bestRow n T0 T1 a1 a2 a3 n 0 (-1 : Int32) (-1 : Int64) (0 : Int32) I))))))
set_option maxHeartbeats 4000000 in
set_option maxRecDepth 100000 in
theorem ct_X9_bestRow {G : gG} {lay : Nat → Nat × Nat} {T0 T1 : Nat} {Dd : Nat → Nat → UInt64} {I : gI} {J : gJ} {K : gI} {N : gJ} {sz n : Nat} {a1 : Int32} {a2 : Int32} {a3 : Int32} (hs : G.1.stackTraces = false) (hE : gLay lay) (hT0 : gTank lay T0) (hT1 : gTank lay T1) {r : Int32 × gI} (hf : F_X9_bestRow n T0 T1 I a1 a2 a3 = some (.inr r)) : gCt G mX9_bestRow [.ref (G.2.2.1 + 0), .int a1, .int a2, .int a3] (fO G (lay, T0, T1, Dd) I J K N) sz (gR (some (.int r.1)) (fO G (lay, T0, T1, Dd) r.2 J K N) sz) := by
  unfold F_X9_bestRow at hf
  refine gCt.of [some (.ref (G.2.2.1 + 0)), some (.int a1), some (.int a2), some (.int a3), none, none, none, none, none, none] (by decide +kernel) rfl hs rfl (Nat.le_of_ble_eq_true rfl) ?_
  refine r_aload_n dX9_bestRow_0 rfl ?_
  obtain ⟨v1, hc1, hf⟩ := bd_of hf
  rcases v1 with e1 | v1
  · exact (no_th hf).elim
  refine r_cVv (rest := []) (ct_X9_needTank hs hE hT0 hT1 hc1) dX9_bestRow_1 wd_413 zX9_needTank wd_415 wd_0 rfl  rfl rfl (fo9 (hE 0 (by decide))) rfl rfl ⟨Nat.le_of_ble_eq_true rfl, Nat.le_of_ble_eq_true rfl⟩ (Nat.le_of_ble_eq_true rfl) ⟨Nat.le_of_ble_eq_true rfl, Nat.le_of_ble_eq_true rfl⟩ ?_
  refine r_aload_n dX9_bestRow_4 rfl ?_
  refine r_iload_n dX9_bestRow_5 rfl ?_
  refine r_iload_n dX9_bestRow_6 rfl ?_
  obtain ⟨v7, hc7, hf⟩ := bd_of hf
  rcases v7 with e7 | v7
  · exact (no_th hf).elim
  refine r_cVv (rest := []) (ct_X9_needCell hs hE hT0 hT1 hc7) dX9_bestRow_7 wd_562 zX9_needCell wd_564 wd_4 rfl  rfl rfl (fo9 (hE 0 (by decide))) rfl rfl ⟨Nat.le_of_ble_eq_true rfl, Nat.le_of_ble_eq_true rfl⟩ (Nat.le_of_ble_eq_true rfl) ⟨Nat.le_of_ble_eq_true rfl, Nat.le_of_ble_eq_true rfl⟩ ?_
  refine r_iload_n dX9_bestRow_10 rfl ?_
  obtain ⟨v11, hc11, hf⟩ := bd_of hf
  rcases v11 with e11 | v11
  · exact (no_th hf).elim
  refine r_cSv (rest := []) (ct_X9_needTimes hs hE hc11) dX9_bestRow_11 wd_660 zX9_needTimes wd_661 rfl  rfl rfl ⟨Nat.le_of_ble_eq_true rfl, Nat.le_of_ble_eq_true rfl⟩ (Nat.le_of_ble_eq_true rfl) ⟨Nat.le_of_ble_eq_true rfl, Nat.le_of_ble_eq_true rfl⟩ ?_
  refine r_iconst (v := (-1 : Int32)) dX9_bestRow_14 (by decide) ?_
  refine r_istore dX9_bestRow_15 (by decide) rfl ?_
  refine r_ldc2 dX9_bestRow_17 wd_704 ?_
  refine r_lstore dX9_bestRow_20 (by decide) rfl ?_
  refine r_iconst (v := (0 : Int32)) dX9_bestRow_22 (by decide) ?_
  refine r_istore dX9_bestRow_23 (by decide) rfl ?_
  exact r_widen (k2 := 0) (n2 := 0) (Nat.le_of_ble_eq_true rfl) (Nat.le_of_ble_eq_true rfl) (r_mask [true, true, true, true, true, true, false, true, false, false] rfl ((cL_X9_bestRow hs hE hT0 hT1 n) (-1 : Int32) (-1 : Int64) (0 : Int32) I r hf))
def F_X9_advance (n : Nat) (T0 T1 : Nat) (I : gI) (a1 : Int32) : Option (String ⊕ (Int32 × gI)) := bd (F_X9_needTank n T0 T1 I) (fun v1 => sm v1 (fun e => some (.inl e)) (fun v1 => bd (F_X9_needRange n a1 (1 : Int32) (999 : Int32)) (fun v9 => sm v9 (fun e => some (.inl e)) (fun v9 => bd (F_X9_needRange n ((I 2 0) + a1) (0 : Int32) (9999 : Int32)) (fun v25 => sm v25 (fun e => some (.inl e)) (fun v25 => bd (F_X0_keep n 2 I) (fun v36 => some (.inr (((sI v36 2 0 ((v36 2 0) + a1)) 2 0), (sI v36 2 0 ((v36 2 0) + a1)))))))))))
set_option maxHeartbeats 4000000 in
set_option maxRecDepth 100000 in
theorem ct_X9_advance {G : gG} {lay : Nat → Nat × Nat} {T0 T1 : Nat} {Dd : Nat → Nat → UInt64} {I : gI} {J : gJ} {K : gI} {N : gJ} {sz n : Nat} {a1 : Int32} (hs : G.1.stackTraces = false) (hE : gLay lay) (hT0 : gTank lay T0) (hT1 : gTank lay T1) {r : Int32 × gI} (hf : F_X9_advance n T0 T1 I a1 = some (.inr r)) : gCt G mX9_advance [.ref (G.2.2.1 + 0), .int a1] (fO G (lay, T0, T1, Dd) I J K N) sz (gR (some (.int r.1)) (fO G (lay, T0, T1, Dd) r.2 J K N) sz) := by
  unfold F_X9_advance at hf
  refine gCt.of [some (.ref (G.2.2.1 + 0)), some (.int a1)] (by decide +kernel) rfl hs rfl (Nat.le_of_ble_eq_true rfl) ?_
  refine r_aload_n dX9_advance_0 rfl ?_
  obtain ⟨v1, hc1, hf⟩ := bd_of hf
  rcases v1 with e1 | v1
  · exact (no_th hf).elim
  refine r_cVv (rest := []) (ct_X9_needTank hs hE hT0 hT1 hc1) dX9_advance_1 wd_413 zX9_needTank wd_415 wd_0 rfl  rfl rfl (fo9 (hE 0 (by decide))) rfl rfl ⟨Nat.le_of_ble_eq_true rfl, Nat.le_of_ble_eq_true rfl⟩ (Nat.le_of_ble_eq_true rfl) ⟨Nat.le_of_ble_eq_true rfl, Nat.le_of_ble_eq_true rfl⟩ ?_
  refine r_iload_n dX9_advance_4 rfl ?_
  refine r_iconst (v := (1 : Int32)) dX9_advance_5 (by decide) ?_
  refine r_sipush (v := (999 : Int32)) dX9_advance_6 (by decide) ?_
  obtain ⟨v9, hc9, hf⟩ := bd_of hf
  rcases v9 with e9 | v9
  · exact (no_th hf).elim
  refine r_cSv (rest := []) (ct_X9_needRange hs hE hc9) dX9_advance_9 wd_517 zX9_needRange wd_518 rfl  rfl rfl ⟨Nat.le_of_ble_eq_true rfl, Nat.le_of_ble_eq_true rfl⟩ (Nat.le_of_ble_eq_true rfl) ⟨Nat.le_of_ble_eq_true rfl, Nat.le_of_ble_eq_true rfl⟩ ?_
  refine r_aload_n dX9_advance_12 rfl ?_
  refine g9_7 dX9_advance_13 wd_363 (hE 0 (by decide)) ?_
  refine g6_0 dX9_advance_16 wd_90 (gSt2 hE).1 ?_
  refine r_iload_n dX9_advance_19 rfl ?_
  refine r_iadd dX9_advance_20 ?_
  refine r_iconst (v := (0 : Int32)) dX9_advance_21 (by decide) ?_
  refine r_sipush (v := (9999 : Int32)) dX9_advance_22 (by decide) ?_
  obtain ⟨v25, hc25, hf⟩ := bd_of hf
  rcases v25 with e25 | v25
  · exact (no_th hf).elim
  refine r_cSv (rest := []) (ct_X9_needRange hs hE hc25) dX9_advance_25 wd_517 zX9_needRange wd_518 rfl  rfl rfl ⟨Nat.le_of_ble_eq_true rfl, Nat.le_of_ble_eq_true rfl⟩ (Nat.le_of_ble_eq_true rfl) ⟨Nat.le_of_ble_eq_true rfl, Nat.le_of_ble_eq_true rfl⟩ ?_
  refine r_aload_n dX9_advance_28 rfl ?_
  refine g9_9 dX9_advance_29 wd_365 (hE 0 (by decide)) ?_
  refine r_aload_n dX9_advance_32 rfl ?_
  refine g9_7 dX9_advance_33 wd_363 (hE 0 (by decide)) ?_
  obtain ⟨v36, hc36, hf⟩ := bd_of hf
  refine r_cVv (rest := []) (ct_X0_keep hs hE (gSt2 hE) hc36) dX9_advance_36 wd_717 zX0_keep wd_718 wd_719 rfl  rfl rfl (fo0 (hE 18 (by decide))) rfl rfl ⟨Nat.le_of_ble_eq_true rfl, Nat.le_of_ble_eq_true rfl⟩ (Nat.le_of_ble_eq_true rfl) ⟨Nat.le_of_ble_eq_true rfl, Nat.le_of_ble_eq_true rfl⟩ ?_
  refine r_aload_n dX9_advance_39 rfl ?_
  refine g9_7 dX9_advance_40 wd_363 (hE 0 (by decide)) ?_
  refine r_dup dX9_advance_43 rfl ?_
  refine g6_0 dX9_advance_44 wd_90 (gSt2 hE).1 ?_
  refine r_iload_n dX9_advance_47 rfl ?_
  refine r_iadd dX9_advance_48 ?_
  refine p6_0 dX9_advance_49 wd_90 (gSt2 hE).1 ?_
  refine r_aload_n dX9_advance_52 rfl ?_
  refine g9_7 dX9_advance_53 wd_363 (hE 0 (by decide)) ?_
  refine g6_0 dX9_advance_56 wd_90 (gSt2 hE).1 ?_
  have hr := Sum.inr.inj (Option.some.inj hf)
  subst hr
  exact r_iret dX9_advance_59 rfl (Nat.le_of_ble_eq_true rfl) (Nat.le_of_ble_eq_true rfl) ⟨rfl, rfl, rfl⟩
def F_X9_setOn (n : Nat) (T0 T1 : Nat) (I : gI) (a1 : Int32) (a2 : Int32) : Option (String ⊕ (Int32 × gI)) := bd (F_X9_needTank n T0 T1 I) (fun v1 => sm v1 (fun e => some (.inl e)) (fun v1 => bd (F_X9_needSource n T0 T1 I a1) (fun v6 => sm v6 (fun e => some (.inl e)) (fun v6 => bd (F_X0_keep n 2 I) (fun v17 => gv a1 4 (gv a1 4 (gd (a2 = 0 ∨ a2 = 1) (gd ((v17 (2 + 1) (Int32.toNatClampNeg a1)) = 0 ∨ (v17 (2 + 1) (Int32.toNatClampNeg a1)) = 1) (some (.inr ((v17 (2 + 1) (Int32.toNatClampNeg a1)), (sI v17 (2 + 1) (Int32.toNatClampNeg a1) a2))))))))))))
set_option maxHeartbeats 4000000 in
set_option maxRecDepth 100000 in
theorem ct_X9_setOn {G : gG} {lay : Nat → Nat × Nat} {T0 T1 : Nat} {Dd : Nat → Nat → UInt64} {I : gI} {J : gJ} {K : gI} {N : gJ} {sz n : Nat} {a1 : Int32} {a2 : Int32} (hs : G.1.stackTraces = false) (hE : gLay lay) (hT0 : gTank lay T0) (hT1 : gTank lay T1) {r : Int32 × gI} (hf : F_X9_setOn n T0 T1 I a1 a2 = some (.inr r)) : gCt G mX9_setOn [.ref (G.2.2.1 + 0), .int a1, .int a2] (fO G (lay, T0, T1, Dd) I J K N) sz (gR (some (.int r.1)) (fO G (lay, T0, T1, Dd) r.2 J K N) sz) := by
  unfold F_X9_setOn at hf
  refine gCt.of [some (.ref (G.2.2.1 + 0)), some (.int a1), some (.int a2), none] (by decide +kernel) rfl hs rfl (Nat.le_of_ble_eq_true rfl) ?_
  refine r_aload_n dX9_setOn_0 rfl ?_
  obtain ⟨v1, hc1, hf⟩ := bd_of hf
  rcases v1 with e1 | v1
  · exact (no_th hf).elim
  refine r_cVv (rest := []) (ct_X9_needTank hs hE hT0 hT1 hc1) dX9_setOn_1 wd_413 zX9_needTank wd_415 wd_0 rfl  rfl rfl (fo9 (hE 0 (by decide))) rfl rfl ⟨Nat.le_of_ble_eq_true rfl, Nat.le_of_ble_eq_true rfl⟩ (Nat.le_of_ble_eq_true rfl) ⟨Nat.le_of_ble_eq_true rfl, Nat.le_of_ble_eq_true rfl⟩ ?_
  refine r_aload_n dX9_setOn_4 rfl ?_
  refine r_iload_n dX9_setOn_5 rfl ?_
  obtain ⟨v6, hc6, hf⟩ := bd_of hf
  rcases v6 with e6 | v6
  · exact (no_th hf).elim
  refine r_cVv (rest := []) (ct_X9_needSource hs hE hT0 hT1 hc6) dX9_setOn_6 wd_512 zX9_needSource wd_514 wd_3 rfl  rfl rfl (fo9 (hE 0 (by decide))) rfl rfl ⟨Nat.le_of_ble_eq_true rfl, Nat.le_of_ble_eq_true rfl⟩ (Nat.le_of_ble_eq_true rfl) ⟨Nat.le_of_ble_eq_true rfl, Nat.le_of_ble_eq_true rfl⟩ ?_
  refine r_aload_n dX9_setOn_9 rfl ?_
  refine g9_9 dX9_setOn_10 wd_365 (hE 0 (by decide)) ?_
  refine r_aload_n dX9_setOn_13 rfl ?_
  refine g9_7 dX9_setOn_14 wd_363 (hE 0 (by decide)) ?_
  obtain ⟨v17, hc17, hf⟩ := bd_of hf
  refine r_cVv (rest := []) (ct_X0_keep hs hE (gSt2 hE) hc17) dX9_setOn_17 wd_717 zX0_keep wd_718 wd_719 rfl  rfl rfl (fo0 (hE 18 (by decide))) rfl rfl ⟨Nat.le_of_ble_eq_true rfl, Nat.le_of_ble_eq_true rfl⟩ (Nat.le_of_ble_eq_true rfl) ⟨Nat.le_of_ble_eq_true rfl, Nat.le_of_ble_eq_true rfl⟩ ?_
  refine r_aload_n dX9_setOn_20 rfl ?_
  refine g9_7 dX9_setOn_21 wd_363 (hE 0 (by decide)) ?_
  refine g6_2 dX9_setOn_24 wd_98 (gSt2 hE).1 ?_
  refine r_iload_n dX9_setOn_27 rfl ?_
  obtain ⟨h28, hf⟩ := gv_of hf
  refine a_zald dX9_setOn_28 (gSt2 hE).2.1 h28 ?_
  refine r_istore_n dX9_setOn_29 (by decide) rfl ?_
  refine r_aload_n dX9_setOn_30 rfl ?_
  refine g9_7 dX9_setOn_31 wd_363 (hE 0 (by decide)) ?_
  refine g6_2 dX9_setOn_34 wd_98 (gSt2 hE).1 ?_
  refine r_iload_n dX9_setOn_37 rfl ?_
  refine r_iload_n dX9_setOn_38 rfl ?_
  obtain ⟨h39, hf⟩ := gv_of hf
  obtain ⟨hz39, hf⟩ := gd_of hf
  refine a_zastb dX9_setOn_39 (gSt2 hE).2.1 h39 hz39 ?_
  refine r_iload_n dX9_setOn_40 rfl ?_
  obtain ⟨hz, hf⟩ := gd_of hf
  have hr := Sum.inr.inj (Option.some.inj hf)
  subst hr
  exact r_zret dX9_setOn_41 rfl (gB_nar hz) (Nat.le_of_ble_eq_true rfl) (Nat.le_of_ble_eq_true rfl) ⟨rfl, rfl, rfl⟩
def F_X9_setPhase (n : Nat) (T0 T1 : Nat) (I : gI) (a1 : Int32) (a2 : Int32) : Option (String ⊕ (Int32 × gI)) := bd (F_X9_needTank n T0 T1 I) (fun v1 => sm v1 (fun e => some (.inl e)) (fun v1 => bd (F_X9_needSource n T0 T1 I a1) (fun v6 => sm v6 (fun e => some (.inl e)) (fun v6 => bd (F_X9_needRange n a2 (0 : Int32) (359 : Int32)) (fun v14 => sm v14 (fun e => some (.inl e)) (fun v14 => bd (F_X0_keep n 2 I) (fun v25 => gv a1 4 (gv a1 4 (some (.inr ((v25 (2 + 3) (Int32.toNatClampNeg a1)), (sI v25 (2 + 3) (Int32.toNatClampNeg a1) a2))))))))))))
set_option maxHeartbeats 4000000 in
set_option maxRecDepth 100000 in
theorem ct_X9_setPhase {G : gG} {lay : Nat → Nat × Nat} {T0 T1 : Nat} {Dd : Nat → Nat → UInt64} {I : gI} {J : gJ} {K : gI} {N : gJ} {sz n : Nat} {a1 : Int32} {a2 : Int32} (hs : G.1.stackTraces = false) (hE : gLay lay) (hT0 : gTank lay T0) (hT1 : gTank lay T1) {r : Int32 × gI} (hf : F_X9_setPhase n T0 T1 I a1 a2 = some (.inr r)) : gCt G mX9_setPhase [.ref (G.2.2.1 + 0), .int a1, .int a2] (fO G (lay, T0, T1, Dd) I J K N) sz (gR (some (.int r.1)) (fO G (lay, T0, T1, Dd) r.2 J K N) sz) := by
  unfold F_X9_setPhase at hf
  refine gCt.of [some (.ref (G.2.2.1 + 0)), some (.int a1), some (.int a2), none] (by decide +kernel) rfl hs rfl (Nat.le_of_ble_eq_true rfl) ?_
  refine r_aload_n dX9_setPhase_0 rfl ?_
  obtain ⟨v1, hc1, hf⟩ := bd_of hf
  rcases v1 with e1 | v1
  · exact (no_th hf).elim
  refine r_cVv (rest := []) (ct_X9_needTank hs hE hT0 hT1 hc1) dX9_setPhase_1 wd_413 zX9_needTank wd_415 wd_0 rfl  rfl rfl (fo9 (hE 0 (by decide))) rfl rfl ⟨Nat.le_of_ble_eq_true rfl, Nat.le_of_ble_eq_true rfl⟩ (Nat.le_of_ble_eq_true rfl) ⟨Nat.le_of_ble_eq_true rfl, Nat.le_of_ble_eq_true rfl⟩ ?_
  refine r_aload_n dX9_setPhase_4 rfl ?_
  refine r_iload_n dX9_setPhase_5 rfl ?_
  obtain ⟨v6, hc6, hf⟩ := bd_of hf
  rcases v6 with e6 | v6
  · exact (no_th hf).elim
  refine r_cVv (rest := []) (ct_X9_needSource hs hE hT0 hT1 hc6) dX9_setPhase_6 wd_512 zX9_needSource wd_514 wd_3 rfl  rfl rfl (fo9 (hE 0 (by decide))) rfl rfl ⟨Nat.le_of_ble_eq_true rfl, Nat.le_of_ble_eq_true rfl⟩ (Nat.le_of_ble_eq_true rfl) ⟨Nat.le_of_ble_eq_true rfl, Nat.le_of_ble_eq_true rfl⟩ ?_
  refine r_iload_n dX9_setPhase_9 rfl ?_
  refine r_iconst (v := (0 : Int32)) dX9_setPhase_10 (by decide) ?_
  refine r_sipush (v := (359 : Int32)) dX9_setPhase_11 (by decide) ?_
  obtain ⟨v14, hc14, hf⟩ := bd_of hf
  rcases v14 with e14 | v14
  · exact (no_th hf).elim
  refine r_cSv (rest := []) (ct_X9_needRange hs hE hc14) dX9_setPhase_14 wd_517 zX9_needRange wd_518 rfl  rfl rfl ⟨Nat.le_of_ble_eq_true rfl, Nat.le_of_ble_eq_true rfl⟩ (Nat.le_of_ble_eq_true rfl) ⟨Nat.le_of_ble_eq_true rfl, Nat.le_of_ble_eq_true rfl⟩ ?_
  refine r_aload_n dX9_setPhase_17 rfl ?_
  refine g9_9 dX9_setPhase_18 wd_365 (hE 0 (by decide)) ?_
  refine r_aload_n dX9_setPhase_21 rfl ?_
  refine g9_7 dX9_setPhase_22 wd_363 (hE 0 (by decide)) ?_
  obtain ⟨v25, hc25, hf⟩ := bd_of hf
  refine r_cVv (rest := []) (ct_X0_keep hs hE (gSt2 hE) hc25) dX9_setPhase_25 wd_717 zX0_keep wd_718 wd_719 rfl  rfl rfl (fo0 (hE 18 (by decide))) rfl rfl ⟨Nat.le_of_ble_eq_true rfl, Nat.le_of_ble_eq_true rfl⟩ (Nat.le_of_ble_eq_true rfl) ⟨Nat.le_of_ble_eq_true rfl, Nat.le_of_ble_eq_true rfl⟩ ?_
  refine r_aload_n dX9_setPhase_28 rfl ?_
  refine g9_7 dX9_setPhase_29 wd_363 (hE 0 (by decide)) ?_
  refine g6_4 dX9_setPhase_32 wd_106 (gSt2 hE).1 ?_
  refine r_iload_n dX9_setPhase_35 rfl ?_
  obtain ⟨h36, hf⟩ := gv_of hf
  refine a_iald dX9_setPhase_36 (gSt2 hE).2.2.2.1 h36 ?_
  refine r_istore_n dX9_setPhase_37 (by decide) rfl ?_
  refine r_aload_n dX9_setPhase_38 rfl ?_
  refine g9_7 dX9_setPhase_39 wd_363 (hE 0 (by decide)) ?_
  refine g6_4 dX9_setPhase_42 wd_106 (gSt2 hE).1 ?_
  refine r_iload_n dX9_setPhase_45 rfl ?_
  refine r_iload_n dX9_setPhase_46 rfl ?_
  obtain ⟨h47, hf⟩ := gv_of hf
  refine a_iast dX9_setPhase_47 (gSt2 hE).2.2.2.1 h47 ?_
  refine r_iload_n dX9_setPhase_48 rfl ?_
  have hr := Sum.inr.inj (Option.some.inj hf)
  subst hr
  exact r_iret dX9_setPhase_49 rfl (Nat.le_of_ble_eq_true rfl) (Nat.le_of_ble_eq_true rfl) ⟨rfl, rfl, rfl⟩
def F_X9_setAmp (n : Nat) (T0 T1 : Nat) (I : gI) (a1 : Int32) (a2 : Int32) : Option (String ⊕ (Int32 × gI)) := bd (F_X9_needTank n T0 T1 I) (fun v1 => sm v1 (fun e => some (.inl e)) (fun v1 => bd (F_X9_needSource n T0 T1 I a1) (fun v6 => sm v6 (fun e => some (.inl e)) (fun v6 => bd (F_X9_needRange n a2 (1 : Int32) (999 : Int32)) (fun v14 => sm v14 (fun e => some (.inl e)) (fun v14 => bd (F_X0_keep n 2 I) (fun v25 => gv a1 4 (gv a1 4 (some (.inr ((v25 (2 + 2) (Int32.toNatClampNeg a1)), (sI v25 (2 + 2) (Int32.toNatClampNeg a1) a2))))))))))))
set_option maxHeartbeats 4000000 in
set_option maxRecDepth 100000 in
theorem ct_X9_setAmp {G : gG} {lay : Nat → Nat × Nat} {T0 T1 : Nat} {Dd : Nat → Nat → UInt64} {I : gI} {J : gJ} {K : gI} {N : gJ} {sz n : Nat} {a1 : Int32} {a2 : Int32} (hs : G.1.stackTraces = false) (hE : gLay lay) (hT0 : gTank lay T0) (hT1 : gTank lay T1) {r : Int32 × gI} (hf : F_X9_setAmp n T0 T1 I a1 a2 = some (.inr r)) : gCt G mX9_setAmp [.ref (G.2.2.1 + 0), .int a1, .int a2] (fO G (lay, T0, T1, Dd) I J K N) sz (gR (some (.int r.1)) (fO G (lay, T0, T1, Dd) r.2 J K N) sz) := by
  unfold F_X9_setAmp at hf
  refine gCt.of [some (.ref (G.2.2.1 + 0)), some (.int a1), some (.int a2), none] (by decide +kernel) rfl hs rfl (Nat.le_of_ble_eq_true rfl) ?_
  refine r_aload_n dX9_setAmp_0 rfl ?_
  obtain ⟨v1, hc1, hf⟩ := bd_of hf
  rcases v1 with e1 | v1
  · exact (no_th hf).elim
  refine r_cVv (rest := []) (ct_X9_needTank hs hE hT0 hT1 hc1) dX9_setAmp_1 wd_413 zX9_needTank wd_415 wd_0 rfl  rfl rfl (fo9 (hE 0 (by decide))) rfl rfl ⟨Nat.le_of_ble_eq_true rfl, Nat.le_of_ble_eq_true rfl⟩ (Nat.le_of_ble_eq_true rfl) ⟨Nat.le_of_ble_eq_true rfl, Nat.le_of_ble_eq_true rfl⟩ ?_
  refine r_aload_n dX9_setAmp_4 rfl ?_
  refine r_iload_n dX9_setAmp_5 rfl ?_
  obtain ⟨v6, hc6, hf⟩ := bd_of hf
  rcases v6 with e6 | v6
  · exact (no_th hf).elim
  refine r_cVv (rest := []) (ct_X9_needSource hs hE hT0 hT1 hc6) dX9_setAmp_6 wd_512 zX9_needSource wd_514 wd_3 rfl  rfl rfl (fo9 (hE 0 (by decide))) rfl rfl ⟨Nat.le_of_ble_eq_true rfl, Nat.le_of_ble_eq_true rfl⟩ (Nat.le_of_ble_eq_true rfl) ⟨Nat.le_of_ble_eq_true rfl, Nat.le_of_ble_eq_true rfl⟩ ?_
  refine r_iload_n dX9_setAmp_9 rfl ?_
  refine r_iconst (v := (1 : Int32)) dX9_setAmp_10 (by decide) ?_
  refine r_sipush (v := (999 : Int32)) dX9_setAmp_11 (by decide) ?_
  obtain ⟨v14, hc14, hf⟩ := bd_of hf
  rcases v14 with e14 | v14
  · exact (no_th hf).elim
  refine r_cSv (rest := []) (ct_X9_needRange hs hE hc14) dX9_setAmp_14 wd_517 zX9_needRange wd_518 rfl  rfl rfl ⟨Nat.le_of_ble_eq_true rfl, Nat.le_of_ble_eq_true rfl⟩ (Nat.le_of_ble_eq_true rfl) ⟨Nat.le_of_ble_eq_true rfl, Nat.le_of_ble_eq_true rfl⟩ ?_
  refine r_aload_n dX9_setAmp_17 rfl ?_
  refine g9_9 dX9_setAmp_18 wd_365 (hE 0 (by decide)) ?_
  refine r_aload_n dX9_setAmp_21 rfl ?_
  refine g9_7 dX9_setAmp_22 wd_363 (hE 0 (by decide)) ?_
  obtain ⟨v25, hc25, hf⟩ := bd_of hf
  refine r_cVv (rest := []) (ct_X0_keep hs hE (gSt2 hE) hc25) dX9_setAmp_25 wd_717 zX0_keep wd_718 wd_719 rfl  rfl rfl (fo0 (hE 18 (by decide))) rfl rfl ⟨Nat.le_of_ble_eq_true rfl, Nat.le_of_ble_eq_true rfl⟩ (Nat.le_of_ble_eq_true rfl) ⟨Nat.le_of_ble_eq_true rfl, Nat.le_of_ble_eq_true rfl⟩ ?_
  refine r_aload_n dX9_setAmp_28 rfl ?_
  refine g9_7 dX9_setAmp_29 wd_363 (hE 0 (by decide)) ?_
  refine g6_3 dX9_setAmp_32 wd_102 (gSt2 hE).1 ?_
  refine r_iload_n dX9_setAmp_35 rfl ?_
  obtain ⟨h36, hf⟩ := gv_of hf
  refine a_iald dX9_setAmp_36 (gSt2 hE).2.2.1 h36 ?_
  refine r_istore_n dX9_setAmp_37 (by decide) rfl ?_
  refine r_aload_n dX9_setAmp_38 rfl ?_
  refine g9_7 dX9_setAmp_39 wd_363 (hE 0 (by decide)) ?_
  refine g6_3 dX9_setAmp_42 wd_102 (gSt2 hE).1 ?_
  refine r_iload_n dX9_setAmp_45 rfl ?_
  refine r_iload_n dX9_setAmp_46 rfl ?_
  obtain ⟨h47, hf⟩ := gv_of hf
  refine a_iast dX9_setAmp_47 (gSt2 hE).2.2.1 h47 ?_
  refine r_iload_n dX9_setAmp_48 rfl ?_
  have hr := Sum.inr.inj (Option.some.inj hf)
  subst hr
  exact r_iret dX9_setAmp_49 rfl (Nat.le_of_ble_eq_true rfl) (Nat.le_of_ble_eq_true rfl) ⟨rfl, rfl, rfl⟩
def F_X9_moveSource (n : Nat) (T0 T1 : Nat) (I : gI) (a1 : Int32) (a2 : Int32) (a3 : Int32) : Option (String ⊕ (Int32 × gI)) := bd (F_X9_needTank n T0 T1 I) (fun v1 => sm v1 (fun e => some (.inl e)) (fun v1 => bd (F_X9_needSource n T0 T1 I a1) (fun v6 => sm v6 (fun e => some (.inl e)) (fun v6 => bd (F_X9_needCell n T0 T1 I a2 a3) (fun v12 => sm v12 (fun e => some (.inl e)) (fun v12 => bd (F_X0_keep n 2 I) (fun v23 => gv a1 4 (gv a1 4 (bd (F_X7_cellOf n T0 2 (sI (sI v23 (2 + 4) (Int32.toNatClampNeg a1) a2) (2 + 5) (Int32.toNatClampNeg a1) a3) a1) (fun v55 => some (.inr (v55, (sI (sI v23 (2 + 4) (Int32.toNatClampNeg a1) a2) (2 + 5) (Int32.toNatClampNeg a1) a3)))))))))))))
set_option maxHeartbeats 4000000 in
set_option maxRecDepth 100000 in
theorem ct_X9_moveSource {G : gG} {lay : Nat → Nat × Nat} {T0 T1 : Nat} {Dd : Nat → Nat → UInt64} {I : gI} {J : gJ} {K : gI} {N : gJ} {sz n : Nat} {a1 : Int32} {a2 : Int32} {a3 : Int32} (hs : G.1.stackTraces = false) (hE : gLay lay) (hT0 : gTank lay T0) (hT1 : gTank lay T1) {r : Int32 × gI} (hf : F_X9_moveSource n T0 T1 I a1 a2 a3 = some (.inr r)) : gCt G mX9_moveSource [.ref (G.2.2.1 + 0), .int a1, .int a2, .int a3] (fO G (lay, T0, T1, Dd) I J K N) sz (gR (some (.int r.1)) (fO G (lay, T0, T1, Dd) r.2 J K N) sz) := by
  unfold F_X9_moveSource at hf
  refine gCt.of [some (.ref (G.2.2.1 + 0)), some (.int a1), some (.int a2), some (.int a3)] (by decide +kernel) rfl hs rfl (Nat.le_of_ble_eq_true rfl) ?_
  refine r_aload_n dX9_moveSource_0 rfl ?_
  obtain ⟨v1, hc1, hf⟩ := bd_of hf
  rcases v1 with e1 | v1
  · exact (no_th hf).elim
  refine r_cVv (rest := []) (ct_X9_needTank hs hE hT0 hT1 hc1) dX9_moveSource_1 wd_413 zX9_needTank wd_415 wd_0 rfl  rfl rfl (fo9 (hE 0 (by decide))) rfl rfl ⟨Nat.le_of_ble_eq_true rfl, Nat.le_of_ble_eq_true rfl⟩ (Nat.le_of_ble_eq_true rfl) ⟨Nat.le_of_ble_eq_true rfl, Nat.le_of_ble_eq_true rfl⟩ ?_
  refine r_aload_n dX9_moveSource_4 rfl ?_
  refine r_iload_n dX9_moveSource_5 rfl ?_
  obtain ⟨v6, hc6, hf⟩ := bd_of hf
  rcases v6 with e6 | v6
  · exact (no_th hf).elim
  refine r_cVv (rest := []) (ct_X9_needSource hs hE hT0 hT1 hc6) dX9_moveSource_6 wd_512 zX9_needSource wd_514 wd_3 rfl  rfl rfl (fo9 (hE 0 (by decide))) rfl rfl ⟨Nat.le_of_ble_eq_true rfl, Nat.le_of_ble_eq_true rfl⟩ (Nat.le_of_ble_eq_true rfl) ⟨Nat.le_of_ble_eq_true rfl, Nat.le_of_ble_eq_true rfl⟩ ?_
  refine r_aload_n dX9_moveSource_9 rfl ?_
  refine r_iload_n dX9_moveSource_10 rfl ?_
  refine r_iload_n dX9_moveSource_11 rfl ?_
  obtain ⟨v12, hc12, hf⟩ := bd_of hf
  rcases v12 with e12 | v12
  · exact (no_th hf).elim
  refine r_cVv (rest := []) (ct_X9_needCell hs hE hT0 hT1 hc12) dX9_moveSource_12 wd_562 zX9_needCell wd_564 wd_4 rfl  rfl rfl (fo9 (hE 0 (by decide))) rfl rfl ⟨Nat.le_of_ble_eq_true rfl, Nat.le_of_ble_eq_true rfl⟩ (Nat.le_of_ble_eq_true rfl) ⟨Nat.le_of_ble_eq_true rfl, Nat.le_of_ble_eq_true rfl⟩ ?_
  refine r_aload_n dX9_moveSource_15 rfl ?_
  refine g9_9 dX9_moveSource_16 wd_365 (hE 0 (by decide)) ?_
  refine r_aload_n dX9_moveSource_19 rfl ?_
  refine g9_7 dX9_moveSource_20 wd_363 (hE 0 (by decide)) ?_
  obtain ⟨v23, hc23, hf⟩ := bd_of hf
  refine r_cVv (rest := []) (ct_X0_keep hs hE (gSt2 hE) hc23) dX9_moveSource_23 wd_717 zX0_keep wd_718 wd_719 rfl  rfl rfl (fo0 (hE 18 (by decide))) rfl rfl ⟨Nat.le_of_ble_eq_true rfl, Nat.le_of_ble_eq_true rfl⟩ (Nat.le_of_ble_eq_true rfl) ⟨Nat.le_of_ble_eq_true rfl, Nat.le_of_ble_eq_true rfl⟩ ?_
  refine r_aload_n dX9_moveSource_26 rfl ?_
  refine g9_7 dX9_moveSource_27 wd_363 (hE 0 (by decide)) ?_
  refine g6_5 dX9_moveSource_30 wd_110 (gSt2 hE).1 ?_
  refine r_iload_n dX9_moveSource_33 rfl ?_
  refine r_iload_n dX9_moveSource_34 rfl ?_
  obtain ⟨h35, hf⟩ := gv_of hf
  refine a_iast dX9_moveSource_35 (gSt2 hE).2.2.2.2.1 h35 ?_
  refine r_aload_n dX9_moveSource_36 rfl ?_
  refine g9_7 dX9_moveSource_37 wd_363 (hE 0 (by decide)) ?_
  refine g6_6 dX9_moveSource_40 wd_114 (gSt2 hE).1 ?_
  refine r_iload_n dX9_moveSource_43 rfl ?_
  refine r_iload_n dX9_moveSource_44 rfl ?_
  obtain ⟨h45, hf⟩ := gv_of hf
  refine a_iast dX9_moveSource_45 (gSt2 hE).2.2.2.2.2.1 h45 ?_
  refine r_aload_n dX9_moveSource_46 rfl ?_
  refine g9_5 dX9_moveSource_47 wd_361 (hE 0 (by decide)) ?_
  refine r_aload_n dX9_moveSource_50 rfl ?_
  refine g9_7 dX9_moveSource_51 wd_363 (hE 0 (by decide)) ?_
  refine r_iload_n dX9_moveSource_54 rfl ?_
  obtain ⟨v55, hc55, hf⟩ := bd_of hf
  refine r_cVi (rest := []) (ct_X7_cellOf hs hE hT0 (gSt2 hE) hc55) dX9_moveSource_55 wd_734 zX7_cellOf wd_735 wd_736 rfl  rfl rfl (fo7 hT0.1) rfl rfl ⟨Nat.le_of_ble_eq_true rfl, Nat.le_of_ble_eq_true rfl⟩ (Nat.le_of_ble_eq_true rfl) ⟨Nat.le_of_ble_eq_true rfl, Nat.le_of_ble_eq_true rfl⟩ ?_
  have hr := Sum.inr.inj (Option.some.inj hf)
  subst hr
  exact r_iret dX9_moveSource_58 rfl (Nat.le_of_ble_eq_true rfl) (Nat.le_of_ble_eq_true rfl) ⟨rfl, rfl, rfl⟩
def F_X9_turnRow (n : Nat) (T0 T1 : Nat) (I : gI) (a1 : Int32) : Option (String ⊕ (Int32 × gI)) := bd (F_X9_needTank n T0 T1 I) (fun v1 => sm v1 (fun e => some (.inl e)) (fun v1 => (if (I T0 4) = (-1 : Int32) then some (.inl "java/lang/IllegalStateException") else bd (F_X9_needRow n T0 T1 I a1) (fun v28 => sm v28 (fun e => some (.inl e)) (fun v28 => bd (F_X0_keep n 2 I) (fun v39 => bd (F_X6_turn n 2 v39 a1) (fun v47 => bd (F_X6_hasOpen n 2 v47 a1) (fun v55 => gd (v55 = 0 ∨ v55 = 1) (some (.inr (v55, v47)))))))))))
set_option maxHeartbeats 4000000 in
set_option maxRecDepth 100000 in
theorem ct_X9_turnRow {G : gG} {lay : Nat → Nat × Nat} {T0 T1 : Nat} {Dd : Nat → Nat → UInt64} {I : gI} {J : gJ} {K : gI} {N : gJ} {sz n : Nat} {a1 : Int32} (hs : G.1.stackTraces = false) (hE : gLay lay) (hT0 : gTank lay T0) (hT1 : gTank lay T1) {r : Int32 × gI} (hf : F_X9_turnRow n T0 T1 I a1 = some (.inr r)) : gCt G mX9_turnRow [.ref (G.2.2.1 + 0), .int a1] (fO G (lay, T0, T1, Dd) I J K N) sz (gR (some (.int r.1)) (fO G (lay, T0, T1, Dd) r.2 J K N) sz) := by
  unfold F_X9_turnRow at hf
  refine gCt.of [some (.ref (G.2.2.1 + 0)), some (.int a1)] (by decide +kernel) rfl hs rfl (Nat.le_of_ble_eq_true rfl) ?_
  refine r_aload_n dX9_turnRow_0 rfl ?_
  obtain ⟨v1, hc1, hf⟩ := bd_of hf
  rcases v1 with e1 | v1
  · exact (no_th hf).elim
  refine r_cVv (rest := []) (ct_X9_needTank hs hE hT0 hT1 hc1) dX9_turnRow_1 wd_413 zX9_needTank wd_415 wd_0 rfl  rfl rfl (fo9 (hE 0 (by decide))) rfl rfl ⟨Nat.le_of_ble_eq_true rfl, Nat.le_of_ble_eq_true rfl⟩ (Nat.le_of_ble_eq_true rfl) ⟨Nat.le_of_ble_eq_true rfl, Nat.le_of_ble_eq_true rfl⟩ ?_
  refine r_aload_n dX9_turnRow_4 rfl ?_
  refine g9_5 dX9_turnRow_5 wd_361 (hE 0 (by decide)) ?_
  refine g7_4 dX9_turnRow_8 wd_307 hT0.1 ?_
  refine r_iconst (v := (-1 : Int32)) dX9_turnRow_11 (by decide) ?_
  refine r_icmp_ne (tgt := 26) dX9_turnRow_12 (by decide) (fun c12 => ?_) (fun c12 => ?_)
  · replace hf := if_f hf c12
    refine r_aload_n dX9_turnRow_26 rfl ?_
    refine r_iload_n dX9_turnRow_27 rfl ?_
    obtain ⟨v28, hc28, hf⟩ := bd_of hf
    rcases v28 with e28 | v28
    · exact (no_th hf).elim
    refine r_cVv (rest := []) (ct_X9_needRow hs hE hT0 hT1 hc28) dX9_turnRow_28 wd_484 zX9_needRow wd_486 wd_2 rfl  rfl rfl (fo9 (hE 0 (by decide))) rfl rfl ⟨Nat.le_of_ble_eq_true rfl, Nat.le_of_ble_eq_true rfl⟩ (Nat.le_of_ble_eq_true rfl) ⟨Nat.le_of_ble_eq_true rfl, Nat.le_of_ble_eq_true rfl⟩ ?_
    refine r_aload_n dX9_turnRow_31 rfl ?_
    refine g9_9 dX9_turnRow_32 wd_365 (hE 0 (by decide)) ?_
    refine r_aload_n dX9_turnRow_35 rfl ?_
    refine g9_7 dX9_turnRow_36 wd_363 (hE 0 (by decide)) ?_
    obtain ⟨v39, hc39, hf⟩ := bd_of hf
    refine r_cVv (rest := []) (ct_X0_keep hs hE (gSt2 hE) hc39) dX9_turnRow_39 wd_717 zX0_keep wd_718 wd_719 rfl  rfl rfl (fo0 (hE 18 (by decide))) rfl rfl ⟨Nat.le_of_ble_eq_true rfl, Nat.le_of_ble_eq_true rfl⟩ (Nat.le_of_ble_eq_true rfl) ⟨Nat.le_of_ble_eq_true rfl, Nat.le_of_ble_eq_true rfl⟩ ?_
    refine r_aload_n dX9_turnRow_42 rfl ?_
    refine g9_7 dX9_turnRow_43 wd_363 (hE 0 (by decide)) ?_
    refine r_iload_n dX9_turnRow_46 rfl ?_
    obtain ⟨v47, hc47, hf⟩ := bd_of hf
    refine r_cVv (rest := []) (ct_X6_turn hs hE (gSt2 hE) hc47) dX9_turnRow_47 wd_705 zX6_turn wd_706 wd_707 rfl  rfl rfl (fo6 (gSt2 hE).1) rfl rfl ⟨Nat.le_of_ble_eq_true rfl, Nat.le_of_ble_eq_true rfl⟩ (Nat.le_of_ble_eq_true rfl) ⟨Nat.le_of_ble_eq_true rfl, Nat.le_of_ble_eq_true rfl⟩ ?_
    refine r_aload_n dX9_turnRow_50 rfl ?_
    refine g9_7 dX9_turnRow_51 wd_363 (hE 0 (by decide)) ?_
    refine r_iload_n dX9_turnRow_54 rfl ?_
    obtain ⟨v55, hc55, hf⟩ := bd_of hf
    refine r_cVi (rest := []) (ct_X6_hasOpen hs hE (gSt2 hE) hc55) dX9_turnRow_55 wd_504 zX6_hasOpen wd_505 wd_506 rfl  rfl rfl (fo6 (gSt2 hE).1) rfl rfl ⟨Nat.le_of_ble_eq_true rfl, Nat.le_of_ble_eq_true rfl⟩ (Nat.le_of_ble_eq_true rfl) ⟨Nat.le_of_ble_eq_true rfl, Nat.le_of_ble_eq_true rfl⟩ ?_
    obtain ⟨hz, hf⟩ := gd_of hf
    have hr := Sum.inr.inj (Option.some.inj hf)
    subst hr
    exact r_zret dX9_turnRow_58 rfl (gB_nar hz) (Nat.le_of_ble_eq_true rfl) (Nat.le_of_ble_eq_true rfl) ⟨rfl, rfl, rfl⟩
  · replace hf := if_t hf c12
    exact (no_th hf).elim
def F_X9_undo (n : Nat) (T0 T1 : Nat) (I : gI) : Option (String ⊕ (Int32 × gI)) := (if (I 18 2) = 0 then some (.inl "java/lang/IllegalStateException") else bd (F_X0_takeBack n 2 I) (fun v29 => some (.inr ((v29 18 2), v29))))
set_option maxHeartbeats 4000000 in
set_option maxRecDepth 100000 in
theorem ct_X9_undo {G : gG} {lay : Nat → Nat × Nat} {T0 T1 : Nat} {Dd : Nat → Nat → UInt64} {I : gI} {J : gJ} {K : gI} {N : gJ} {sz n : Nat} (hs : G.1.stackTraces = false) (hE : gLay lay) (hT0 : gTank lay T0) (hT1 : gTank lay T1) {r : Int32 × gI} (hf : F_X9_undo n T0 T1 I = some (.inr r)) : gCt G mX9_undo [.ref (G.2.2.1 + 0)] (fO G (lay, T0, T1, Dd) I J K N) sz (gR (some (.int r.1)) (fO G (lay, T0, T1, Dd) r.2 J K N) sz) := by
  unfold F_X9_undo at hf
  refine gCt.of [some (.ref (G.2.2.1 + 0))] (by decide +kernel) rfl hs rfl (Nat.le_of_ble_eq_true rfl) ?_
  refine r_aload_n dX9_undo_0 rfl ?_
  refine g9_9 dX9_undo_1 wd_365 (hE 0 (by decide)) ?_
  refine g0_2 dX9_undo_4 wd_155 (hE 18 (by decide)) ?_
  refine r_if_ne (tgt := 21) dX9_undo_7 (by decide) (fun c7 => ?_) (fun c7 => ?_)
  · replace hf := if_f hf c7
    refine r_aload_n dX9_undo_21 rfl ?_
    refine g9_9 dX9_undo_22 wd_365 (hE 0 (by decide)) ?_
    refine r_aload_n dX9_undo_25 rfl ?_
    refine g9_7 dX9_undo_26 wd_363 (hE 0 (by decide)) ?_
    obtain ⟨v29, hc29, hf⟩ := bd_of hf
    refine r_cVv (rest := []) (ct_X0_takeBack hs hE (gSt2 hE) hc29) dX9_undo_29 wd_752 zX0_takeBack wd_753 wd_754 rfl  rfl rfl (fo0 (hE 18 (by decide))) rfl rfl ⟨Nat.le_of_ble_eq_true rfl, Nat.le_of_ble_eq_true rfl⟩ (Nat.le_of_ble_eq_true rfl) ⟨Nat.le_of_ble_eq_true rfl, Nat.le_of_ble_eq_true rfl⟩ ?_
    refine r_aload_n dX9_undo_32 rfl ?_
    refine g9_9 dX9_undo_33 wd_365 (hE 0 (by decide)) ?_
    refine g0_2 dX9_undo_36 wd_155 (hE 18 (by decide)) ?_
    have hr := Sum.inr.inj (Option.some.inj hf)
    subst hr
    exact r_iret dX9_undo_39 rfl (Nat.le_of_ble_eq_true rfl) (Nat.le_of_ble_eq_true rfl) ⟨rfl, rfl, rfl⟩
  · replace hf := if_t hf c7
    exact (no_th hf).elim
def F_X9_undoable (n : Nat) (T0 T1 : Nat) (I : gI) : Option (Int32) := some (I 18 2)
set_option maxHeartbeats 4000000 in
set_option maxRecDepth 100000 in
theorem ct_X9_undoable {G : gG} {lay : Nat → Nat × Nat} {T0 T1 : Nat} {Dd : Nat → Nat → UInt64} {I : gI} {J : gJ} {K : gI} {N : gJ} {sz n : Nat} (hs : G.1.stackTraces = false) (hE : gLay lay) (hT0 : gTank lay T0) (hT1 : gTank lay T1) {r : Int32} (hf : F_X9_undoable n T0 T1 I = some r) : gCt G mX9_undoable [.ref (G.2.2.1 + 0)] (fO G (lay, T0, T1, Dd) I J K N) sz (gR (some (.int r)) (fO G (lay, T0, T1, Dd) I J K N) sz) := by
  unfold F_X9_undoable at hf
  refine gCt.of [some (.ref (G.2.2.1 + 0))] (by decide +kernel) rfl hs rfl (Nat.le_of_ble_eq_true rfl) ?_
  refine r_aload_n dX9_undoable_0 rfl ?_
  refine g9_9 dX9_undoable_1 wd_365 (hE 0 (by decide)) ?_
  refine g0_2 dX9_undoable_4 wd_155 (hE 18 (by decide)) ?_
  have hr := Option.some.inj hf
  subst hr
  exact r_iret dX9_undoable_7 rfl (Nat.le_of_ble_eq_true rfl) (Nat.le_of_ble_eq_true rfl) ⟨rfl, rfl, rfl⟩
def F_X9_needSlot (n : Nat) (a0 : Int32) : Option (String ⊕ (Unit)) := (if a0 < 0 then some (.inl "java/lang/IndexOutOfBoundsException") else (if a0 < (2 : Int32) then some (.inr ()) else some (.inl "java/lang/IndexOutOfBoundsException")))
set_option maxHeartbeats 4000000 in
set_option maxRecDepth 100000 in
theorem ct_X9_needSlot {G : gG} {lay : Nat → Nat × Nat} {T0 T1 : Nat} {Dd : Nat → Nat → UInt64} {I : gI} {J : gJ} {K : gI} {N : gJ} {sz n : Nat} {a0 : Int32} (hs : G.1.stackTraces = false) (hE : gLay lay) {r : Unit} (hf : F_X9_needSlot n a0 = some (.inr r)) : gCt G mX9_needSlot [.int a0] (fO G (lay, T0, T1, Dd) I J K N) sz (gR none (fO G (lay, T0, T1, Dd) I J K N) sz) := by
  unfold F_X9_needSlot at hf
  refine gCt.of [some (.int a0)] (by decide +kernel) rfl hs rfl (Nat.le_of_ble_eq_true rfl) ?_
  refine r_iload_n dX9_needSlot_0 rfl ?_
  refine r_if_lt (tgt := 9) dX9_needSlot_1 (by decide) (fun c1 => ?_) (fun c1 => ?_)
  · replace hf := if_t hf c1
    exact (no_th hf).elim
  · replace hf := if_f hf c1
    refine r_iload_n dX9_needSlot_4 rfl ?_
    refine r_iconst (v := (2 : Int32)) dX9_needSlot_5 (by decide) ?_
    refine r_icmp_lt (tgt := 20) dX9_needSlot_6 (by decide) (fun c6 => ?_) (fun c6 => ?_)
    · replace hf := if_t hf c6
      have hr := Sum.inr.inj (Option.some.inj hf)
      subst hr
      exact r_vret dX9_needSlot_20 rfl (Nat.le_of_ble_eq_true rfl) (Nat.le_of_ble_eq_true rfl) ⟨rfl, rfl, rfl⟩
    · replace hf := if_f hf c6
      exact (no_th hf).elim
def F_X9_save (n : Nat) (T0 T1 : Nat) (I : gI) (a1 : Int32) : Option (String ⊕ (Int32 × gI)) := bd (F_X9_needTank n T0 T1 I) (fun v1 => sm v1 (fun e => some (.inl e)) (fun v1 => bd (F_X9_needSlot n a1) (fun v5 => sm v5 (fun e => some (.inl e)) (fun v5 => gv a1 2 (bd (F_X6_copyFrom n (137 + 8 * (Int32.toNatClampNeg a1)) 2 I) (fun v18 => gv a1 2 (some (.inr (((sI v18 85 (Int32.toNatClampNeg a1) (1 : Int32)) 2 0), (sI v18 85 (Int32.toNatClampNeg a1) (1 : Int32)))))))))))
set_option maxHeartbeats 4000000 in
set_option maxRecDepth 100000 in
theorem ct_X9_save {G : gG} {lay : Nat → Nat × Nat} {T0 T1 : Nat} {Dd : Nat → Nat → UInt64} {I : gI} {J : gJ} {K : gI} {N : gJ} {sz n : Nat} {a1 : Int32} (hs : G.1.stackTraces = false) (hE : gLay lay) (hT0 : gTank lay T0) (hT1 : gTank lay T1) {r : Int32 × gI} (hf : F_X9_save n T0 T1 I a1 = some (.inr r)) : gCt G mX9_save [.ref (G.2.2.1 + 0), .int a1] (fO G (lay, T0, T1, Dd) I J K N) sz (gR (some (.int r.1)) (fO G (lay, T0, T1, Dd) r.2 J K N) sz) := by
  unfold F_X9_save at hf
  refine gCt.of [some (.ref (G.2.2.1 + 0)), some (.int a1)] (by decide +kernel) rfl hs rfl (Nat.le_of_ble_eq_true rfl) ?_
  refine r_aload_n dX9_save_0 rfl ?_
  obtain ⟨v1, hc1, hf⟩ := bd_of hf
  rcases v1 with e1 | v1
  · exact (no_th hf).elim
  refine r_cVv (rest := []) (ct_X9_needTank hs hE hT0 hT1 hc1) dX9_save_1 wd_413 zX9_needTank wd_415 wd_0 rfl  rfl rfl (fo9 (hE 0 (by decide))) rfl rfl ⟨Nat.le_of_ble_eq_true rfl, Nat.le_of_ble_eq_true rfl⟩ (Nat.le_of_ble_eq_true rfl) ⟨Nat.le_of_ble_eq_true rfl, Nat.le_of_ble_eq_true rfl⟩ ?_
  refine r_iload_n dX9_save_4 rfl ?_
  obtain ⟨v5, hc5, hf⟩ := bd_of hf
  rcases v5 with e5 | v5
  · exact (no_th hf).elim
  refine r_cSv (rest := []) (ct_X9_needSlot hs hE hc5) dX9_save_5 wd_764 zX9_needSlot wd_765 rfl  rfl rfl ⟨Nat.le_of_ble_eq_true rfl, Nat.le_of_ble_eq_true rfl⟩ (Nat.le_of_ble_eq_true rfl) ⟨Nat.le_of_ble_eq_true rfl, Nat.le_of_ble_eq_true rfl⟩ ?_
  refine r_aload_n dX9_save_8 rfl ?_
  refine g9_10 dX9_save_9 wd_366 (hE 0 (by decide)) ?_
  refine r_iload_n dX9_save_12 rfl ?_
  obtain ⟨h13, hf⟩ := gv_of hf
  refine a_aald108 dX9_save_13 (hE 84 (by decide)) h13 ?_
  refine r_aload_n dX9_save_14 rfl ?_
  refine g9_7 dX9_save_15 wd_363 (hE 0 (by decide)) ?_
  obtain ⟨v18, hc18, hf⟩ := bd_of hf
  refine r_cVv (rest := []) (ct_X6_copyFrom hs hE (gSlot hE (vp_lt h13)) (gSt2 hE) hc18) dX9_save_18 wd_688 zX6_copyFrom wd_689 wd_690 rfl  rfl rfl (fo6 (gSlot hE (vp_lt h13)).1) rfl rfl ⟨Nat.le_of_ble_eq_true rfl, Nat.le_of_ble_eq_true rfl⟩ (Nat.le_of_ble_eq_true rfl) ⟨Nat.le_of_ble_eq_true rfl, Nat.le_of_ble_eq_true rfl⟩ ?_
  refine r_aload_n dX9_save_21 rfl ?_
  refine g9_11 dX9_save_22 wd_367 (hE 0 (by decide)) ?_
  refine r_iload_n dX9_save_25 rfl ?_
  refine r_iconst (v := (1 : Int32)) dX9_save_26 (by decide) ?_
  obtain ⟨h27, hf⟩ := gv_of hf
  refine a_zastb dX9_save_27 (hE 85 (by decide)) h27 (by decide) ?_
  refine r_aload_n dX9_save_28 rfl ?_
  refine g9_7 dX9_save_29 wd_363 (hE 0 (by decide)) ?_
  refine g6_0 dX9_save_32 wd_90 (gSt2 hE).1 ?_
  have hr := Sum.inr.inj (Option.some.inj hf)
  subst hr
  exact r_iret dX9_save_35 rfl (Nat.le_of_ble_eq_true rfl) (Nat.le_of_ble_eq_true rfl) ⟨rfl, rfl, rfl⟩
def F_X9_restore (n : Nat) (T0 T1 : Nat) (I : gI) (a1 : Int32) : Option (String ⊕ (Int32 × gI)) := bd (F_X9_needSlot n a1) (fun v1 => sm v1 (fun e => some (.inl e)) (fun v1 => gv a1 2 ((if (I 85 (Int32.toNatClampNeg a1)) = 0 then some (.inl "java/lang/IllegalStateException") else gv a1 2 (bd (F_X6_copyFrom n 2 (137 + 8 * (Int32.toNatClampNeg a1)) I) (fun v34 => bd (F_X0_clear n v34) (fun v41 => some (.inr ((v41 2 0), v41)))))))))
set_option maxHeartbeats 4000000 in
set_option maxRecDepth 100000 in
theorem ct_X9_restore {G : gG} {lay : Nat → Nat × Nat} {T0 T1 : Nat} {Dd : Nat → Nat → UInt64} {I : gI} {J : gJ} {K : gI} {N : gJ} {sz n : Nat} {a1 : Int32} (hs : G.1.stackTraces = false) (hE : gLay lay) (hT0 : gTank lay T0) (hT1 : gTank lay T1) {r : Int32 × gI} (hf : F_X9_restore n T0 T1 I a1 = some (.inr r)) : gCt G mX9_restore [.ref (G.2.2.1 + 0), .int a1] (fO G (lay, T0, T1, Dd) I J K N) sz (gR (some (.int r.1)) (fO G (lay, T0, T1, Dd) r.2 J K N) sz) := by
  unfold F_X9_restore at hf
  refine gCt.of [some (.ref (G.2.2.1 + 0)), some (.int a1)] (by decide +kernel) rfl hs rfl (Nat.le_of_ble_eq_true rfl) ?_
  refine r_iload_n dX9_restore_0 rfl ?_
  obtain ⟨v1, hc1, hf⟩ := bd_of hf
  rcases v1 with e1 | v1
  · exact (no_th hf).elim
  refine r_cSv (rest := []) (ct_X9_needSlot hs hE hc1) dX9_restore_1 wd_764 zX9_needSlot wd_765 rfl  rfl rfl ⟨Nat.le_of_ble_eq_true rfl, Nat.le_of_ble_eq_true rfl⟩ (Nat.le_of_ble_eq_true rfl) ⟨Nat.le_of_ble_eq_true rfl, Nat.le_of_ble_eq_true rfl⟩ ?_
  refine r_aload_n dX9_restore_4 rfl ?_
  refine g9_11 dX9_restore_5 wd_367 (hE 0 (by decide)) ?_
  refine r_iload_n dX9_restore_8 rfl ?_
  obtain ⟨h9, hf⟩ := gv_of hf
  refine a_zald dX9_restore_9 (hE 85 (by decide)) h9 ?_
  refine r_if_ne (tgt := 24) dX9_restore_10 (by decide) (fun c10 => ?_) (fun c10 => ?_)
  · replace hf := if_f hf c10
    refine r_aload_n dX9_restore_24 rfl ?_
    refine g9_7 dX9_restore_25 wd_363 (hE 0 (by decide)) ?_
    refine r_aload_n dX9_restore_28 rfl ?_
    refine g9_10 dX9_restore_29 wd_366 (hE 0 (by decide)) ?_
    refine r_iload_n dX9_restore_32 rfl ?_
    obtain ⟨h33, hf⟩ := gv_of hf
    refine a_aald108 dX9_restore_33 (hE 84 (by decide)) h33 ?_
    obtain ⟨v34, hc34, hf⟩ := bd_of hf
    refine r_cVv (rest := []) (ct_X6_copyFrom hs hE (gSt2 hE) (gSlot hE (vp_lt h33)) hc34) dX9_restore_34 wd_688 zX6_copyFrom wd_689 wd_690 rfl  rfl rfl (fo6 (gSt2 hE).1) rfl rfl ⟨Nat.le_of_ble_eq_true rfl, Nat.le_of_ble_eq_true rfl⟩ (Nat.le_of_ble_eq_true rfl) ⟨Nat.le_of_ble_eq_true rfl, Nat.le_of_ble_eq_true rfl⟩ ?_
    refine r_aload_n dX9_restore_37 rfl ?_
    refine g9_9 dX9_restore_38 wd_365 (hE 0 (by decide)) ?_
    obtain ⟨v41, hc41, hf⟩ := bd_of hf
    refine r_cVv (rest := []) (ct_X0_clear hs hE hc41) dX9_restore_41 wd_773 zX0_clear wd_774 wd_775 rfl  rfl rfl (fo0 (hE 18 (by decide))) rfl rfl ⟨Nat.le_of_ble_eq_true rfl, Nat.le_of_ble_eq_true rfl⟩ (Nat.le_of_ble_eq_true rfl) ⟨Nat.le_of_ble_eq_true rfl, Nat.le_of_ble_eq_true rfl⟩ ?_
    refine r_aload_n dX9_restore_44 rfl ?_
    refine g9_7 dX9_restore_45 wd_363 (hE 0 (by decide)) ?_
    refine g6_0 dX9_restore_48 wd_90 (gSt2 hE).1 ?_
    have hr := Sum.inr.inj (Option.some.inj hf)
    subst hr
    exact r_iret dX9_restore_51 rfl (Nat.le_of_ble_eq_true rfl) (Nat.le_of_ble_eq_true rfl) ⟨rfl, rfl, rfl⟩
  · replace hf := if_t hf c10
    exact (no_th hf).elim
