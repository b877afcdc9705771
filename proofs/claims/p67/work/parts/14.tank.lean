def F_J9_floorMod_7cf53 (n : Nat) (a0 : Int32) (a1 : Int32) : Option (Int32) := gd (¬ a1 = 0) ((if 0 ≤ (a0 ^^^ a1) then some (a0 - a0 / a1 * a1) else (if (a0 - a0 / a1 * a1) = 0 then some (a0 - a0 / a1 * a1) else some ((a0 - a0 / a1 * a1) + a1))))
set_option maxHeartbeats 4000000 in
set_option maxRecDepth 100000 in
theorem ct_J9_floorMod_7cf53 {G : gG} {lay : Nat → Nat × Nat} {T0 T1 : Nat} {Dd : Nat → Nat → UInt64} {I : gI} {J : gJ} {K : gI} {N : gJ} {sz n : Nat} {a0 : Int32} {a1 : Int32} (hs : G.1.stackTraces = false) (hE : gLay lay) {r : Int32} (hf : F_J9_floorMod_7cf53 n a0 a1 = some r) : gCt G mJ9_floorMod_7cf53 [.int a0, .int a1] (fO G (lay, T0, T1, Dd) I J K N) sz (gR (some (.int r)) (fO G (lay, T0, T1, Dd) I J K N) sz) := by
  unfold F_J9_floorMod_7cf53 at hf
  refine gCt.ofF [some (.int a0), some (.int a1), none] (by decide +kernel) rfl hs rfl (Nat.le_of_ble_eq_true rfl) ?_
  refine r_iload_n dJ9_floorMod_7cf53_0 rfl ?_
  refine r_iload_n dJ9_floorMod_7cf53_1 rfl ?_
  obtain ⟨h2, hf⟩ := gd_of hf
  refine r_irem dJ9_floorMod_7cf53_2 h2 ?_
  refine r_istore_n dJ9_floorMod_7cf53_3 (by decide) rfl ?_
  refine r_iload_n dJ9_floorMod_7cf53_4 rfl ?_
  refine r_iload_n dJ9_floorMod_7cf53_5 rfl ?_
  refine r_ixor dJ9_floorMod_7cf53_6 ?_
  refine r_if_ge (tgt := 18) dJ9_floorMod_7cf53_7 (by decide) (fun c7 => ?_) (fun c7 => ?_)
  · replace hf := if_t hf c7
    refine r_iload_n dJ9_floorMod_7cf53_18 rfl ?_
    have hr := Option.some.inj hf
    subst hr
    exact r_iret dJ9_floorMod_7cf53_19 rfl (Nat.le_of_ble_eq_true rfl) (Nat.le_of_ble_eq_true rfl) ⟨rfl, rfl, rfl⟩
  · replace hf := if_f hf c7
    refine r_iload_n dJ9_floorMod_7cf53_10 rfl ?_
    refine r_if_eq (tgt := 18) dJ9_floorMod_7cf53_11 (by decide) (fun c11 => ?_) (fun c11 => ?_)
    · replace hf := if_t hf c11
      refine r_iload_n dJ9_floorMod_7cf53_18 rfl ?_
      have hr := Option.some.inj hf
      subst hr
      exact r_iret dJ9_floorMod_7cf53_19 rfl (Nat.le_of_ble_eq_true rfl) (Nat.le_of_ble_eq_true rfl) ⟨rfl, rfl, rfl⟩
    · replace hf := if_f hf c11
      refine r_iload_n dJ9_floorMod_7cf53_14 rfl ?_
      refine r_iload_n dJ9_floorMod_7cf53_15 rfl ?_
      refine r_iadd dJ9_floorMod_7cf53_16 ?_
      have hr := Option.some.inj hf
      subst hr
      exact r_iret dJ9_floorMod_7cf53_17 rfl (Nat.le_of_ble_eq_true rfl) (Nat.le_of_ble_eq_true rfl) ⟨rfl, rfl, rfl⟩
def F_J6_bitCount_0f7a4 (n : Nat) (a0 : Int32) : Option (Int32) := some ((((((((a0 - (((Int32.toUInt32 a0 >>> (Int32.toUInt32 (1 : Int32) &&& Int32.toUInt32 31)).toInt32) &&& (1431655765 : Int32))) &&& (858993459 : Int32)) + (((Int32.toUInt32 (a0 - (((Int32.toUInt32 a0 >>> (Int32.toUInt32 (1 : Int32) &&& Int32.toUInt32 31)).toInt32) &&& (1431655765 : Int32))) >>> (Int32.toUInt32 (2 : Int32) &&& Int32.toUInt32 31)).toInt32) &&& (858993459 : Int32))) + ((Int32.toUInt32 (((a0 - (((Int32.toUInt32 a0 >>> (Int32.toUInt32 (1 : Int32) &&& Int32.toUInt32 31)).toInt32) &&& (1431655765 : Int32))) &&& (858993459 : Int32)) + (((Int32.toUInt32 (a0 - (((Int32.toUInt32 a0 >>> (Int32.toUInt32 (1 : Int32) &&& Int32.toUInt32 31)).toInt32) &&& (1431655765 : Int32))) >>> (Int32.toUInt32 (2 : Int32) &&& Int32.toUInt32 31)).toInt32) &&& (858993459 : Int32))) >>> (Int32.toUInt32 (4 : Int32) &&& Int32.toUInt32 31)).toInt32)) &&& (252645135 : Int32)) + ((Int32.toUInt32 (((((a0 - (((Int32.toUInt32 a0 >>> (Int32.toUInt32 (1 : Int32) &&& Int32.toUInt32 31)).toInt32) &&& (1431655765 : Int32))) &&& (858993459 : Int32)) + (((Int32.toUInt32 (a0 - (((Int32.toUInt32 a0 >>> (Int32.toUInt32 (1 : Int32) &&& Int32.toUInt32 31)).toInt32) &&& (1431655765 : Int32))) >>> (Int32.toUInt32 (2 : Int32) &&& Int32.toUInt32 31)).toInt32) &&& (858993459 : Int32))) + ((Int32.toUInt32 (((a0 - (((Int32.toUInt32 a0 >>> (Int32.toUInt32 (1 : Int32) &&& Int32.toUInt32 31)).toInt32) &&& (1431655765 : Int32))) &&& (858993459 : Int32)) + (((Int32.toUInt32 (a0 - (((Int32.toUInt32 a0 >>> (Int32.toUInt32 (1 : Int32) &&& Int32.toUInt32 31)).toInt32) &&& (1431655765 : Int32))) >>> (Int32.toUInt32 (2 : Int32) &&& Int32.toUInt32 31)).toInt32) &&& (858993459 : Int32))) >>> (Int32.toUInt32 (4 : Int32) &&& Int32.toUInt32 31)).toInt32)) &&& (252645135 : Int32)) >>> (Int32.toUInt32 (8 : Int32) &&& Int32.toUInt32 31)).toInt32)) + ((Int32.toUInt32 ((((((a0 - (((Int32.toUInt32 a0 >>> (Int32.toUInt32 (1 : Int32) &&& Int32.toUInt32 31)).toInt32) &&& (1431655765 : Int32))) &&& (858993459 : Int32)) + (((Int32.toUInt32 (a0 - (((Int32.toUInt32 a0 >>> (Int32.toUInt32 (1 : Int32) &&& Int32.toUInt32 31)).toInt32) &&& (1431655765 : Int32))) >>> (Int32.toUInt32 (2 : Int32) &&& Int32.toUInt32 31)).toInt32) &&& (858993459 : Int32))) + ((Int32.toUInt32 (((a0 - (((Int32.toUInt32 a0 >>> (Int32.toUInt32 (1 : Int32) &&& Int32.toUInt32 31)).toInt32) &&& (1431655765 : Int32))) &&& (858993459 : Int32)) + (((Int32.toUInt32 (a0 - (((Int32.toUInt32 a0 >>> (Int32.toUInt32 (1 : Int32) &&& Int32.toUInt32 31)).toInt32) &&& (1431655765 : Int32))) >>> (Int32.toUInt32 (2 : Int32) &&& Int32.toUInt32 31)).toInt32) &&& (858993459 : Int32))) >>> (Int32.toUInt32 (4 : Int32) &&& Int32.toUInt32 31)).toInt32)) &&& (252645135 : Int32)) + ((Int32.toUInt32 (((((a0 - (((Int32.toUInt32 a0 >>> (Int32.toUInt32 (1 : Int32) &&& Int32.toUInt32 31)).toInt32) &&& (1431655765 : Int32))) &&& (858993459 : Int32)) + (((Int32.toUInt32 (a0 - (((Int32.toUInt32 a0 >>> (Int32.toUInt32 (1 : Int32) &&& Int32.toUInt32 31)).toInt32) &&& (1431655765 : Int32))) >>> (Int32.toUInt32 (2 : Int32) &&& Int32.toUInt32 31)).toInt32) &&& (858993459 : Int32))) + ((Int32.toUInt32 (((a0 - (((Int32.toUInt32 a0 >>> (Int32.toUInt32 (1 : Int32) &&& Int32.toUInt32 31)).toInt32) &&& (1431655765 : Int32))) &&& (858993459 : Int32)) + (((Int32.toUInt32 (a0 - (((Int32.toUInt32 a0 >>> (Int32.toUInt32 (1 : Int32) &&& Int32.toUInt32 31)).toInt32) &&& (1431655765 : Int32))) >>> (Int32.toUInt32 (2 : Int32) &&& Int32.toUInt32 31)).toInt32) &&& (858993459 : Int32))) >>> (Int32.toUInt32 (4 : Int32) &&& Int32.toUInt32 31)).toInt32)) &&& (252645135 : Int32)) >>> (Int32.toUInt32 (8 : Int32) &&& Int32.toUInt32 31)).toInt32)) >>> (Int32.toUInt32 (16 : Int32) &&& Int32.toUInt32 31)).toInt32)) &&& (63 : Int32))
set_option maxHeartbeats 4000000 in
set_option maxRecDepth 100000 in
theorem ct_J6_bitCount_0f7a4 {G : gG} {lay : Nat → Nat × Nat} {T0 T1 : Nat} {Dd : Nat → Nat → UInt64} {I : gI} {J : gJ} {K : gI} {N : gJ} {sz n : Nat} {a0 : Int32} (hs : G.1.stackTraces = false) (hE : gLay lay) {r : Int32} (hf : F_J6_bitCount_0f7a4 n a0 = some r) : gCt G mJ6_bitCount_0f7a4 [.int a0] (fO G (lay, T0, T1, Dd) I J K N) sz (gR (some (.int r)) (fO G (lay, T0, T1, Dd) I J K N) sz) := by
  unfold F_J6_bitCount_0f7a4 at hf
  refine gCt.of [some (.int a0)] (by decide +kernel) rfl hs rfl (Nat.le_of_ble_eq_true rfl) ?_
  refine r_iload_n dJ6_bitCount_0f7a4_0 rfl ?_
  refine r_iload_n dJ6_bitCount_0f7a4_1 rfl ?_
  refine r_iconst (v := (1 : Int32)) dJ6_bitCount_0f7a4_2 (by decide) ?_
  refine r_iushr dJ6_bitCount_0f7a4_3 ?_
  refine r_ldcw dJ6_bitCount_0f7a4_4 wd_628 ?_
  refine r_iand dJ6_bitCount_0f7a4_7 ?_
  refine r_isub dJ6_bitCount_0f7a4_8 ?_
  refine r_istore_n dJ6_bitCount_0f7a4_9 (by decide) rfl ?_
  refine r_iload_n dJ6_bitCount_0f7a4_10 rfl ?_
  refine r_ldcw dJ6_bitCount_0f7a4_11 wd_629 ?_
  refine r_iand dJ6_bitCount_0f7a4_14 ?_
  refine r_iload_n dJ6_bitCount_0f7a4_15 rfl ?_
  refine r_iconst (v := (2 : Int32)) dJ6_bitCount_0f7a4_16 (by decide) ?_
  refine r_iushr dJ6_bitCount_0f7a4_17 ?_
  refine r_ldcw dJ6_bitCount_0f7a4_18 wd_629 ?_
  refine r_iand dJ6_bitCount_0f7a4_21 ?_
  refine r_iadd dJ6_bitCount_0f7a4_22 ?_
  refine r_istore_n dJ6_bitCount_0f7a4_23 (by decide) rfl ?_
  refine r_iload_n dJ6_bitCount_0f7a4_24 rfl ?_
  refine r_iload_n dJ6_bitCount_0f7a4_25 rfl ?_
  refine r_iconst (v := (4 : Int32)) dJ6_bitCount_0f7a4_26 (by decide) ?_
  refine r_iushr dJ6_bitCount_0f7a4_27 ?_
  refine r_iadd dJ6_bitCount_0f7a4_28 ?_
  refine r_ldcw dJ6_bitCount_0f7a4_29 wd_630 ?_
  refine r_iand dJ6_bitCount_0f7a4_32 ?_
  refine r_istore_n dJ6_bitCount_0f7a4_33 (by decide) rfl ?_
  refine r_iload_n dJ6_bitCount_0f7a4_34 rfl ?_
  refine r_iload_n dJ6_bitCount_0f7a4_35 rfl ?_
  refine r_bipush (v := (8 : Int32)) dJ6_bitCount_0f7a4_36 (by decide) ?_
  refine r_iushr dJ6_bitCount_0f7a4_38 ?_
  refine r_iadd dJ6_bitCount_0f7a4_39 ?_
  refine r_istore_n dJ6_bitCount_0f7a4_40 (by decide) rfl ?_
  refine r_iload_n dJ6_bitCount_0f7a4_41 rfl ?_
  refine r_iload_n dJ6_bitCount_0f7a4_42 rfl ?_
  refine r_bipush (v := (16 : Int32)) dJ6_bitCount_0f7a4_43 (by decide) ?_
  refine r_iushr dJ6_bitCount_0f7a4_45 ?_
  refine r_iadd dJ6_bitCount_0f7a4_46 ?_
  refine r_istore_n dJ6_bitCount_0f7a4_47 (by decide) rfl ?_
  refine r_iload_n dJ6_bitCount_0f7a4_48 rfl ?_
  refine r_bipush (v := (63 : Int32)) dJ6_bitCount_0f7a4_49 (by decide) ?_
  refine r_iand dJ6_bitCount_0f7a4_51 ?_
  have hr := Option.some.inj hf
  subst hr
  exact r_iret dJ6_bitCount_0f7a4_52 rfl (Nat.le_of_ble_eq_true rfl) (Nat.le_of_ble_eq_true rfl) ⟨rfl, rfl, rfl⟩
def F_X4_between (n : Nat) (I : gI) (a1 : Int32) (a2 : Int32) : Option (Int32) := gv (((jabs a1) * (20 : Int32)) + (jabs a2)) 640 (some (I (93 + 1) (Int32.toNatClampNeg (((jabs a1) * (20 : Int32)) + (jabs a2)))))
set_option maxHeartbeats 4000000 in
set_option maxRecDepth 100000 in
theorem ct_X4_between {G : gG} {lay : Nat → Nat × Nat} {T0 T1 : Nat} {Dd : Nat → Nat → UInt64} {I : gI} {J : gJ} {K : gI} {N : gJ} {sz n : Nat} {a1 : Int32} {a2 : Int32} (hs : G.1.stackTraces = false) (hE : gLay lay) {r : Int32} (hf : F_X4_between n I a1 a2 = some r) : gCt G mX4_between [.ref (G.2.2.1 + 93), .int a1, .int a2] (fO G (lay, T0, T1, Dd) I J K N) sz (gR (some (.int r)) (fO G (lay, T0, T1, Dd) I J K N) sz) := by
  unfold F_X4_between at hf
  refine gCt.of [some (.ref (G.2.2.1 + 93)), some (.int a1), some (.int a2)] (by decide +kernel) rfl hs rfl (Nat.le_of_ble_eq_true rfl) ?_
  refine r_aload_n dX4_between_0 rfl ?_
  refine g4_0 dX4_between_1 wd_201 (hE 93 (by decide)) ?_
  refine r_iload_n dX4_between_4 rfl ?_
  refine r_mabs dX4_between_5 wd_594 wd_595 wd_54 wMath_mabs (Nat.le_of_ble_eq_true rfl) (Nat.le_of_ble_eq_true rfl) (Nat.le_of_ble_eq_true rfl) (Nat.le_of_ble_eq_true rfl) ?_
  refine r_bipush (v := (20 : Int32)) dX4_between_8 (by decide) ?_
  refine r_imul dX4_between_10 ?_
  refine r_iload_n dX4_between_11 rfl ?_
  refine r_mabs dX4_between_12 wd_594 wd_595 wd_54 wMath_mabs (Nat.le_of_ble_eq_true rfl) (Nat.le_of_ble_eq_true rfl) (Nat.le_of_ble_eq_true rfl) (Nat.le_of_ble_eq_true rfl) ?_
  refine r_iadd dX4_between_15 ?_
  obtain ⟨h16, hf⟩ := gv_of hf
  refine a_iald dX4_between_16 (hE (93 + 1) (by decide)) h16 ?_
  have hr := Option.some.inj hf
  subst hr
  exact r_iret dX4_between_17 rfl (Nat.le_of_ble_eq_true rfl) (Nat.le_of_ble_eq_true rfl) ⟨rfl, rfl, rfl⟩
def L_X4_root (n : Nat) (a0 : Int32) : Nat → Nat → Int32 → Int32 → Option (Int32)
  | 0, _, _, _ => none
  | j + 1, 0, x1, x2 => (if x2 ≤ 0 then some x1 else (if a0 < ((x1 + x2) * (x1 + x2)) then L_X4_root n a0 j 0 x1 (x2 >>> ((1 : Int32) &&& 31)) else L_X4_root n a0 j 0 (x1 + x2) (x2 >>> ((1 : Int32) &&& 31))))
  | _ + 1, _, _, _ => none
theorem L_X4_root_e0 (n j : Nat) (a0 : Int32) (x1 : Int32) (x2 : Int32) : L_X4_root n a0 (j + 1) 0 x1 x2 = (if x2 ≤ 0 then some x1 else (if a0 < ((x1 + x2) * (x1 + x2)) then L_X4_root n a0 j 0 x1 (x2 >>> ((1 : Int32) &&& 31)) else L_X4_root n a0 j 0 (x1 + x2) (x2 >>> ((1 : Int32) &&& 31)))) := rfl
set_option maxHeartbeats 4000000 in
set_option maxRecDepth 100000 in
theorem cL_X4_root {G : gG} {lay : Nat → Nat × Nat} {T0 T1 : Nat} {Dd : Nat → Nat → UInt64} {I : gI} {J : gJ} {K : gI} {N : gJ} {sz n : Nat} {a0 : Int32} (hs : G.1.stackTraces = false) (hE : gLay lay) : ∀ j : Nat, (∀ (x1 : Int32) (x2 : Int32) (r : Int32), L_X4_root n a0 j 0 x1 x2 = some r → gAt G mX4_root (gQp G mX4_root (gR (some (.int r)) (fO G (lay, T0, T1, Dd) I J K N) sz)) 6 [some (.int a0), some (.int x1), some (.int x2)] [] (fO G (lay, T0, T1, Dd) I J K N) sz 0 0) := by
  intro j
  induction j with
  | zero => exact fun _ _ _ hf => (by cases hf)
  | succ j ih =>
    refine ?_
    · intro x1 x2 r hf
      rw [L_X4_root_e0] at hf
      refine r_iload_n dX4_root_6 rfl ?_
      refine r_if_le (tgt := 32) dX4_root_7 (by decide) (fun c7 => ?_) (fun c7 => ?_)
      · replace hf := if_t hf c7
        refine r_iload_n dX4_root_32 rfl ?_
        have hr := Option.some.inj hf
        subst hr
        exact r_iret dX4_root_33 rfl (Nat.le_of_ble_eq_true rfl) (Nat.le_of_ble_eq_true rfl) ⟨rfl, rfl, rfl⟩
      · replace hf := if_f hf c7
        refine r_iload_n dX4_root_10 rfl ?_
        refine r_iload_n dX4_root_11 rfl ?_
        refine r_iadd dX4_root_12 ?_
        refine r_iload_n dX4_root_13 rfl ?_
        refine r_iload_n dX4_root_14 rfl ?_
        refine r_iadd dX4_root_15 ?_
        refine r_imul dX4_root_16 ?_
        refine r_iload_n dX4_root_17 rfl ?_
        refine r_icmp_gt (tgt := 25) dX4_root_18 (by decide) (fun c18 => ?_) (fun c18 => ?_)
        · replace hf := if_t hf c18
          refine r_iload_n dX4_root_25 rfl ?_
          refine r_iconst (v := (1 : Int32)) dX4_root_26 (by decide) ?_
          refine r_ishr dX4_root_27 ?_
          refine r_istore_n dX4_root_28 (by decide) rfl ?_
          refine r_goto (tgt := 6) dX4_root_29 (by decide) ?_
          exact r_widen (k2 := 0) (n2 := 0) (Nat.le_of_ble_eq_true rfl) (Nat.le_of_ble_eq_true rfl) (r_mask [true, true, true] rfl (ih x1 (x2 >>> ((1 : Int32) &&& 31)) r hf))
        · replace hf := if_f hf c18
          refine r_iload_n dX4_root_21 rfl ?_
          refine r_iload_n dX4_root_22 rfl ?_
          refine r_iadd dX4_root_23 ?_
          refine r_istore_n dX4_root_24 (by decide) rfl ?_
          refine r_iload_n dX4_root_25 rfl ?_
          refine r_iconst (v := (1 : Int32)) dX4_root_26 (by decide) ?_
          refine r_ishr dX4_root_27 ?_
          refine r_istore_n dX4_root_28 (by decide) rfl ?_
          refine r_goto (tgt := 6) dX4_root_29 (by decide) ?_
          exact r_widen (k2 := 0) (n2 := 0) (Nat.le_of_ble_eq_true rfl) (Nat.le_of_ble_eq_true rfl) (r_mask [true, true, true] rfl (ih (x1 + x2) (x2 >>> ((1 : Int32) &&& 31)) r hf))
def F_X4_root (n : Nat) (a0 : Int32) : Option (Int32) := L_X4_root n a0 n 0 (0 : Int32) (2048 : Int32)
set_option maxHeartbeats 4000000 in
set_option maxRecDepth 100000 in
theorem ct_X4_root {G : gG} {lay : Nat → Nat × Nat} {T0 T1 : Nat} {Dd : Nat → Nat → UInt64} {I : gI} {J : gJ} {K : gI} {N : gJ} {sz n : Nat} {a0 : Int32} (hs : G.1.stackTraces = false) (hE : gLay lay) {r : Int32} (hf : F_X4_root n a0 = some r) : gCt G mX4_root [.int a0] (fO G (lay, T0, T1, Dd) I J K N) sz (gR (some (.int r)) (fO G (lay, T0, T1, Dd) I J K N) sz) := by
  unfold F_X4_root at hf
  refine gCt.of [some (.int a0), none, none] (by decide +kernel) rfl hs rfl (Nat.le_of_ble_eq_true rfl) ?_
  refine r_iconst (v := (0 : Int32)) dX4_root_0 (by decide) ?_
  refine r_istore_n dX4_root_1 (by decide) rfl ?_
  refine r_sipush (v := (2048 : Int32)) dX4_root_2 (by decide) ?_
  refine r_istore_n dX4_root_5 (by decide) rfl ?_
  exact r_widen (k2 := 0) (n2 := 0) (Nat.le_of_ble_eq_true rfl) (Nat.le_of_ble_eq_true rfl) (r_mask [true, true, true] rfl ((cL_X4_root hs hE n) (0 : Int32) (2048 : Int32) r hf))
def F_X5_holds (n : Nat) (o0 : Nat) (I : gI) (a1 : Int32) (a2 : Int32) : Option (Int32) := (if a1 < (I o0 0) then some (0 : Int32) else (if (I o0 2) < a1 then some (0 : Int32) else (if a2 < (I o0 1) then some (0 : Int32) else (if (I o0 3) < a2 then some (0 : Int32) else some (1 : Int32)))))
set_option maxHeartbeats 4000000 in
set_option maxRecDepth 100000 in
theorem ct_X5_holds {G : gG} {lay : Nat → Nat × Nat} {T0 T1 : Nat} {Dd : Nat → Nat → UInt64} {I : gI} {J : gJ} {K : gI} {N : gJ} {sz n : Nat} {o0 : Nat} {a1 : Int32} {a2 : Int32} (hs : G.1.stackTraces = false) (hE : gLay lay) (ho0 : lay o0 = (5, 0)) {r : Int32} (hf : F_X5_holds n o0 I a1 a2 = some r) : gCt G mX5_holds [.ref (G.2.2.1 + o0), .int a1, .int a2] (fO G (lay, T0, T1, Dd) I J K N) sz (gR (some (.int r)) (fO G (lay, T0, T1, Dd) I J K N) sz) := by
  unfold F_X5_holds at hf
  refine gCt.of [some (.ref (G.2.2.1 + o0)), some (.int a1), some (.int a2)] (by decide +kernel) rfl hs rfl (Nat.le_of_ble_eq_true rfl) ?_
  refine r_iload_n dX5_holds_0 rfl ?_
  refine r_aload_n dX5_holds_1 rfl ?_
  refine g5_0 dX5_holds_2 wd_274 ho0 ?_
  refine r_icmp_lt (tgt := 36) dX5_holds_5 (by decide) (fun c5 => ?_) (fun c5 => ?_)
  · replace hf := if_t hf c5
    refine r_iconst (v := (0 : Int32)) dX5_holds_36 (by decide) ?_
    have hr := Option.some.inj hf
    subst hr
    exact r_zret dX5_holds_37 rfl rfl (Nat.le_of_ble_eq_true rfl) (Nat.le_of_ble_eq_true rfl) ⟨rfl, rfl, rfl⟩
  · replace hf := if_f hf c5
    refine r_iload_n dX5_holds_8 rfl ?_
    refine r_aload_n dX5_holds_9 rfl ?_
    refine g5_2 dX5_holds_10 wd_278 ho0 ?_
    refine r_icmp_gt (tgt := 36) dX5_holds_13 (by decide) (fun c13 => ?_) (fun c13 => ?_)
    · replace hf := if_t hf c13
      refine r_iconst (v := (0 : Int32)) dX5_holds_36 (by decide) ?_
      have hr := Option.some.inj hf
      subst hr
      exact r_zret dX5_holds_37 rfl rfl (Nat.le_of_ble_eq_true rfl) (Nat.le_of_ble_eq_true rfl) ⟨rfl, rfl, rfl⟩
    · replace hf := if_f hf c13
      refine r_iload_n dX5_holds_16 rfl ?_
      refine r_aload_n dX5_holds_17 rfl ?_
      refine g5_1 dX5_holds_18 wd_276 ho0 ?_
      refine r_icmp_lt (tgt := 36) dX5_holds_21 (by decide) (fun c21 => ?_) (fun c21 => ?_)
      · replace hf := if_t hf c21
        refine r_iconst (v := (0 : Int32)) dX5_holds_36 (by decide) ?_
        have hr := Option.some.inj hf
        subst hr
        exact r_zret dX5_holds_37 rfl rfl (Nat.le_of_ble_eq_true rfl) (Nat.le_of_ble_eq_true rfl) ⟨rfl, rfl, rfl⟩
      · replace hf := if_f hf c21
        refine r_iload_n dX5_holds_24 rfl ?_
        refine r_aload_n dX5_holds_25 rfl ?_
        refine g5_3 dX5_holds_26 wd_280 ho0 ?_
        refine r_icmp_gt (tgt := 36) dX5_holds_29 (by decide) (fun c29 => ?_) (fun c29 => ?_)
        · replace hf := if_t hf c29
          refine r_iconst (v := (0 : Int32)) dX5_holds_36 (by decide) ?_
          have hr := Option.some.inj hf
          subst hr
          exact r_zret dX5_holds_37 rfl rfl (Nat.le_of_ble_eq_true rfl) (Nat.le_of_ble_eq_true rfl) ⟨rfl, rfl, rfl⟩
        · replace hf := if_f hf c29
          refine r_iconst (v := (1 : Int32)) dX5_holds_32 (by decide) ?_
          refine r_goto (tgt := 37) dX5_holds_33 (by decide) ?_
          have hr := Option.some.inj hf
          subst hr
          exact r_zret dX5_holds_37 rfl rfl (Nat.le_of_ble_eq_true rfl) (Nat.le_of_ble_eq_true rfl) ⟨rfl, rfl, rfl⟩
def L_X6_copyFrom (n : Nat) (o0 o1 : Nat) : Nat → Nat → Int32 → gI → Option (gI)
  | 0, _, _, _ => none
  | j + 1, 0, x2, I => (if (4 : Int32) ≤ x2 then some I else gv x2 4 (gv x2 4 (gd ((I (o1 + 1) (Int32.toNatClampNeg x2)) = 0 ∨ (I (o1 + 1) (Int32.toNatClampNeg x2)) = 1) (gv x2 4 (gv x2 4 (gv x2 4 (gv x2 4 (gv x2 4 (gv x2 4 (gv x2 4 (gv x2 4 (gv x2 4 (gv x2 4 (gv x2 4 (gv x2 4 (L_X6_copyFrom n o0 o1 j 0 (x2 + (1 : Int32)) (sI (sI (sI (sI (sI (sI (sI I (o0 + 1) (Int32.toNatClampNeg x2) (I (o1 + 1) (Int32.toNatClampNeg x2))) (o0 + 2) (Int32.toNatClampNeg x2) ((sI I (o0 + 1) (Int32.toNatClampNeg x2) (I (o1 + 1) (Int32.toNatClampNeg x2))) (o1 + 2) (Int32.toNatClampNeg x2))) (o0 + 3) (Int32.toNatClampNeg x2) ((sI (sI I (o0 + 1) (Int32.toNatClampNeg x2) (I (o1 + 1) (Int32.toNatClampNeg x2))) (o0 + 2) (Int32.toNatClampNeg x2) ((sI I (o0 + 1) (Int32.toNatClampNeg x2) (I (o1 + 1) (Int32.toNatClampNeg x2))) (o1 + 2) (Int32.toNatClampNeg x2))) (o1 + 3) (Int32.toNatClampNeg x2))) (o0 + 4) (Int32.toNatClampNeg x2) ((sI (sI (sI I (o0 + 1) (Int32.toNatClampNeg x2) (I (o1 + 1) (Int32.toNatClampNeg x2))) (o0 + 2) (Int32.toNatClampNeg x2) ((sI I (o0 + 1) (Int32.toNatClampNeg x2) (I (o1 + 1) (Int32.toNatClampNeg x2))) (o1 + 2) (Int32.toNatClampNeg x2))) (o0 + 3) (Int32.toNatClampNeg x2) ((sI (sI I (o0 + 1) (Int32.toNatClampNeg x2) (I (o1 + 1) (Int32.toNatClampNeg x2))) (o0 + 2) (Int32.toNatClampNeg x2) ((sI I (o0 + 1) (Int32.toNatClampNeg x2) (I (o1 + 1) (Int32.toNatClampNeg x2))) (o1 + 2) (Int32.toNatClampNeg x2))) (o1 + 3) (Int32.toNatClampNeg x2))) (o1 + 4) (Int32.toNatClampNeg x2))) (o0 + 5) (Int32.toNatClampNeg x2) ((sI (sI (sI (sI I (o0 + 1) (Int32.toNatClampNeg x2) (I (o1 + 1) (Int32.toNatClampNeg x2))) (o0 + 2) (Int32.toNatClampNeg x2) ((sI I (o0 + 1) (Int32.toNatClampNeg x2) (I (o1 + 1) (Int32.toNatClampNeg x2))) (o1 + 2) (Int32.toNatClampNeg x2))) (o0 + 3) (Int32.toNatClampNeg x2) ((sI (sI I (o0 + 1) (Int32.toNatClampNeg x2) (I (o1 + 1) (Int32.toNatClampNeg x2))) (o0 + 2) (Int32.toNatClampNeg x2) ((sI I (o0 + 1) (Int32.toNatClampNeg x2) (I (o1 + 1) (Int32.toNatClampNeg x2))) (o1 + 2) (Int32.toNatClampNeg x2))) (o1 + 3) (Int32.toNatClampNeg x2))) (o0 + 4) (Int32.toNatClampNeg x2) ((sI (sI (sI I (o0 + 1) (Int32.toNatClampNeg x2) (I (o1 + 1) (Int32.toNatClampNeg x2))) (o0 + 2) (Int32.toNatClampNeg x2) ((sI I (o0 + 1) (Int32.toNatClampNeg x2) (I (o1 + 1) (Int32.toNatClampNeg x2))) (o1 + 2) (Int32.toNatClampNeg x2))) (o0 + 3) (Int32.toNatClampNeg x2) ((sI (sI I (o0 + 1) (Int32.toNatClampNeg x2) (I (o1 + 1) (Int32.toNatClampNeg x2))) (o0 + 2) (Int32.toNatClampNeg x2) ((sI I (o0 + 1) (Int32.toNatClampNeg x2) (I (o1 + 1) (Int32.toNatClampNeg x2))) (o1 + 2) (Int32.toNatClampNeg x2))) (o1 + 3) (Int32.toNatClampNeg x2))) (o1 + 4) (Int32.toNatClampNeg x2))) (o1 + 5) (Int32.toNatClampNeg x2))) (o0 + 6) (Int32.toNatClampNeg x2) ((sI (sI (sI (sI (sI I (o0 + 1) (Int32.toNatClampNeg x2) (I (o1 + 1) (Int32.toNatClampNeg x2))) (o0 + 2) (Int32.toNatClampNeg x2) ((sI I (o0 + 1) (Int32.toNatClampNeg x2) (I (o1 + 1) (Int32.toNatClampNeg x2))) (o1 + 2) (Int32.toNatClampNeg x2))) (o0 + 3) (Int32.toNatClampNeg x2) ((sI (sI I (o0 + 1) (Int32.toNatClampNeg x2) (I (o1 + 1) (Int32.toNatClampNeg x2))) (o0 + 2) (Int32.toNatClampNeg x2) ((sI I (o0 + 1) (Int32.toNatClampNeg x2) (I (o1 + 1) (Int32.toNatClampNeg x2))) (o1 + 2) (Int32.toNatClampNeg x2))) (o1 + 3) (Int32.toNatClampNeg x2))) (o0 + 4) (Int32.toNatClampNeg x2) ((sI (sI (sI I (o0 + 1) (Int32.toNatClampNeg x2) (I (o1 + 1) (Int32.toNatClampNeg x2))) (o0 + 2) (Int32.toNatClampNeg x2) ((sI I (o0 + 1) (Int32.toNatClampNeg x2) (I (o1 + 1) (Int32.toNatClampNeg x2))) (o1 + 2) (Int32.toNatClampNeg x2))) (o0 + 3) (Int32.toNatClampNeg x2) ((sI (sI I (o0 + 1) (Int32.toNatClampNeg x2) (I (o1 + 1) (Int32.toNatClampNeg x2))) (o0 + 2) (Int32.toNatClampNeg x2) ((sI I (o0 + 1) (Int32.toNatClampNeg x2) (I (o1 + 1) (Int32.toNatClampNeg x2))) (o1 + 2) (Int32.toNatClampNeg x2))) (o1 + 3) (Int32.toNatClampNeg x2))) (o1 + 4) (Int32.toNatClampNeg x2))) (o0 + 5) (Int32.toNatClampNeg x2) ((sI (sI (sI (sI I (o0 + 1) (Int32.toNatClampNeg x2) (I (o1 + 1) (Int32.toNatClampNeg x2))) (o0 + 2) (Int32.toNatClampNeg x2) ((sI I (o0 + 1) (Int32.toNatClampNeg x2) (I (o1 + 1) (Int32.toNatClampNeg x2))) (o1 + 2) (Int32.toNatClampNeg x2))) (o0 + 3) (Int32.toNatClampNeg x2) ((sI (sI I (o0 + 1) (Int32.toNatClampNeg x2) (I (o1 + 1) (Int32.toNatClampNeg x2))) (o0 + 2) (Int32.toNatClampNeg x2) ((sI I (o0 + 1) (Int32.toNatClampNeg x2) (I (o1 + 1) (Int32.toNatClampNeg x2))) (o1 + 2) (Int32.toNatClampNeg x2))) (o1 + 3) (Int32.toNatClampNeg x2))) (o0 + 4) (Int32.toNatClampNeg x2) ((sI (sI (sI I (o0 + 1) (Int32.toNatClampNeg x2) (I (o1 + 1) (Int32.toNatClampNeg x2))) (o0 + 2) (Int32.toNatClampNeg x2) ((sI I (o0 + 1) (Int32.toNatClampNeg x2) (I (o1 + 1) (Int32.toNatClampNeg x2))) (o1 + 2) (Int32.toNatClampNeg x2))) (o0 + 3) (Int32.toNatClampNeg x2) ((sI (sI I (o0 + 1) (Int32.toNatClampNeg x2) (I (o1 + 1) (Int32.toNatClampNeg x2))) (o0 + 2) (Int32.toNatClampNeg x2) ((sI I (o0 + 1) (Int32.toNatClampNeg x2) (I (o1 + 1) (Int32.toNatClampNeg x2))) (o1 + 2) (Int32.toNatClampNeg x2))) (o1 + 3) (Int32.toNatClampNeg x2))) (o1 + 4) (Int32.toNatClampNeg x2))) (o1 + 5) (Int32.toNatClampNeg x2))) (o1 + 6) (Int32.toNatClampNeg x2))) (o0 + 7) (Int32.toNatClampNeg x2) ((sI (sI (sI (sI (sI (sI I (o0 + 1) (Int32.toNatClampNeg x2) (I (o1 + 1) (Int32.toNatClampNeg x2))) (o0 + 2) (Int32.toNatClampNeg x2) ((sI I (o0 + 1) (Int32.toNatClampNeg x2) (I (o1 + 1) (Int32.toNatClampNeg x2))) (o1 + 2) (Int32.toNatClampNeg x2))) (o0 + 3) (Int32.toNatClampNeg x2) ((sI (sI I (o0 + 1) (Int32.toNatClampNeg x2) (I (o1 + 1) (Int32.toNatClampNeg x2))) (o0 + 2) (Int32.toNatClampNeg x2) ((sI I (o0 + 1) (Int32.toNatClampNeg x2) (I (o1 + 1) (Int32.toNatClampNeg x2))) (o1 + 2) (Int32.toNatClampNeg x2))) (o1 + 3) (Int32.toNatClampNeg x2))) (o0 + 4) (Int32.toNatClampNeg x2) ((sI (sI (sI I (o0 + 1) (Int32.toNatClampNeg x2) (I (o1 + 1) (Int32.toNatClampNeg x2))) (o0 + 2) (Int32.toNatClampNeg x2) ((sI I (o0 + 1) (Int32.toNatClampNeg x2) (I (o1 + 1) (Int32.toNatClampNeg x2))) (o1 + 2) (Int32.toNatClampNeg x2))) (o0 + 3) (Int32.toNatClampNeg x2) ((sI (sI I (o0 + 1) (Int32.toNatClampNeg x2) (I (o1 + 1) (Int32.toNatClampNeg x2))) (o0 + 2) (Int32.toNatClampNeg x2) ((sI I (o0 + 1) (Int32.toNatClampNeg x2) (I (o1 + 1) (Int32.toNatClampNeg x2))) (o1 + 2) (Int32.toNatClampNeg x2))) (o1 + 3) (Int32.toNatClampNeg x2))) (o1 + 4) (Int32.toNatClampNeg x2))) (o0 + 5) (Int32.toNatClampNeg x2) ((sI (sI (sI (sI I (o0 + 1) (Int32.toNatClampNeg x2) (I (o1 + 1) (Int32.toNatClampNeg x2))) (o0 + 2) (Int32.toNatClampNeg x2) ((sI I (o0 + 1) (Int32.toNatClampNeg x2) (I (o1 + 1) (Int32.toNatClampNeg x2))) (o1 + 2) (Int32.toNatClampNeg x2))) (o0 + 3) (Int32.toNatClampNeg x2) ((sI (sI I (o0 + 1) (Int32.toNatClampNeg x2) (I (o1 + 1) (Int32.toNatClampNeg x2))) (o0 + 2) (Int32.toNatClampNeg x2) ((sI I (o0 + 1) (Int32.toNatClampNeg x2) (I (o1 + 1) (Int32.toNatClampNeg x2))) (o1 + 2) (Int32.toNatClampNeg x2))) (o1 + 3) (Int32.toNatClampNeg x2))) (o0 + 4) (Int32.toNatClampNeg x2) ((sI (sI (sI I (o0 + 1) (Int32.toNatClampNeg x2) (I (o1 + 1) (Int32.toNatClampNeg x2))) (o0 + 2) (Int32.toNatClampNeg x2) ((sI I (o0 + 1) (Int32.toNatClampNeg x2) (I (o1 + 1) (Int32.toNatClampNeg x2))) (o1 + 2) (Int32.toNatClampNeg x2))) (o0 + 3) (Int32.toNatClampNeg x2) ((sI (sI I (o0 + 1) (Int32.toNatClampNeg x2) (I (o1 + 1) (Int32.toNatClampNeg x2))) (o0 + 2) (Int32.toNatClampNeg x2) ((sI I (o0 + 1) (Int32.toNatClampNeg x2) (I (o1 + 1) (Int32.toNatClampNeg x2))) (o1 + 2) (Int32.toNatClampNeg x2))) (o1 + 3) (Int32.toNatClampNeg x2))) (o1 + 4) (Int32.toNatClampNeg x2))) (o1 + 5) (Int32.toNatClampNeg x2))) (o0 + 6) (Int32.toNatClampNeg x2) ((sI (sI (sI (sI (sI I (o0 + 1) (Int32.toNatClampNeg x2) (I (o1 + 1) (Int32.toNatClampNeg x2))) (o0 + 2) (Int32.toNatClampNeg x2) ((sI I (o0 + 1) (Int32.toNatClampNeg x2) (I (o1 + 1) (Int32.toNatClampNeg x2))) (o1 + 2) (Int32.toNatClampNeg x2))) (o0 + 3) (Int32.toNatClampNeg x2) ((sI (sI I (o0 + 1) (Int32.toNatClampNeg x2) (I (o1 + 1) (Int32.toNatClampNeg x2))) (o0 + 2) (Int32.toNatClampNeg x2) ((sI I (o0 + 1) (Int32.toNatClampNeg x2) (I (o1 + 1) (Int32.toNatClampNeg x2))) (o1 + 2) (Int32.toNatClampNeg x2))) (o1 + 3) (Int32.toNatClampNeg x2))) (o0 + 4) (Int32.toNatClampNeg x2) ((sI (sI (sI I (o0 + 1) (Int32.toNatClampNeg x2) (I (o1 + 1) (Int32.toNatClampNeg x2))) (o0 + 2) (Int32.toNatClampNeg x2) ((sI I (o0 + 1) (Int32.toNatClampNeg x2) (I (o1 + 1) (Int32.toNatClampNeg x2))) (o1 + 2) (Int32.toNatClampNeg x2))) (o0 + 3) (Int32.toNatClampNeg x2) ((sI (sI I (o0 + 1) (Int32.toNatClampNeg x2) (I (o1 + 1) (Int32.toNatClampNeg x2))) (o0 + 2) (Int32.toNatClampNeg x2) ((sI I (o0 + 1) (Int32.toNatClampNeg x2) (I (o1 + 1) (Int32.toNatClampNeg x2))) (o1 + 2) (Int32.toNatClampNeg x2))) (o1 + 3) (Int32.toNatClampNeg x2))) (o1 + 4) (Int32.toNatClampNeg x2))) (o0 + 5) (Int32.toNatClampNeg x2) ((sI (sI (sI (sI I (o0 + 1) (Int32.toNatClampNeg x2) (I (o1 + 1) (Int32.toNatClampNeg x2))) (o0 + 2) (Int32.toNatClampNeg x2) ((sI I (o0 + 1) (Int32.toNatClampNeg x2) (I (o1 + 1) (Int32.toNatClampNeg x2))) (o1 + 2) (Int32.toNatClampNeg x2))) (o0 + 3) (Int32.toNatClampNeg x2) ((sI (sI I (o0 + 1) (Int32.toNatClampNeg x2) (I (o1 + 1) (Int32.toNatClampNeg x2))) (o0 + 2) (Int32.toNatClampNeg x2) ((sI I (o0 + 1) (Int32.toNatClampNeg x2) (I (o1 + 1) (Int32.toNatClampNeg x2))) (o1 + 2) (Int32.toNatClampNeg x2))) (o1 + 3) (Int32.toNatClampNeg x2))) (o0 + 4) (Int32.toNatClampNeg x2) ((sI (sI (sI I (o0 + 1) (Int32.toNatClampNeg x2) (I (o1 + 1) (Int32.toNatClampNeg x2))) (o0 + 2) (Int32.toNatClampNeg x2) ((sI I (o0 + 1) (Int32.toNatClampNeg x2) (I (o1 + 1) (Int32.toNatClampNeg x2))) (o1 + 2) (Int32.toNatClampNeg x2))) (o0 + 3) (Int32.toNatClampNeg x2) ((sI (sI I (o0 + 1) (Int32.toNatClampNeg x2) (I (o1 + 1) (Int32.toNatClampNeg x2))) (o0 + 2) (Int32.toNatClampNeg x2) ((sI I (o0 + 1) (Int32.toNatClampNeg x2) (I (o1 + 1) (Int32.toNatClampNeg x2))) (o1 + 2) (Int32.toNatClampNeg x2))) (o1 + 3) (Int32.toNatClampNeg x2))) (o1 + 4) (Int32.toNatClampNeg x2))) (o1 + 5) (Int32.toNatClampNeg x2))) (o1 + 6) (Int32.toNatClampNeg x2))) (o1 + 7) (Int32.toNatClampNeg x2)))))))))))))))))))
  | _ + 1, _, _, _ => none
theorem L_X6_copyFrom_e0 (n j : Nat) (o0 o1 : Nat) (x2 : Int32) (I : gI) : L_X6_copyFrom n o0 o1 (j + 1) 0 x2 I = (if (4 : Int32) ≤ x2 then some I else gv x2 4 (gv x2 4 (gd ((I (o1 + 1) (Int32.toNatClampNeg x2)) = 0 ∨ (I (o1 + 1) (Int32.toNatClampNeg x2)) = 1) (gv x2 4 (gv x2 4 (gv x2 4 (gv x2 4 (gv x2 4 (gv x2 4 (gv x2 4 (gv x2 4 (gv x2 4 (gv x2 4 (gv x2 4 (gv x2 4 (L_X6_copyFrom n o0 o1 j 0 (x2 + (1 : Int32)) (sI (sI (sI (sI (sI (sI (sI I (o0 + 1) (Int32.toNatClampNeg x2) (I (o1 + 1) (Int32.toNatClampNeg x2))) (o0 + 2) (Int32.toNatClampNeg x2) ((sI I (o0 + 1) (Int32.toNatClampNeg x2) (I (o1 + 1) (Int32.toNatClampNeg x2))) (o1 + 2) (Int32.toNatClampNeg x2))) (o0 + 3) (Int32.toNatClampNeg x2) ((sI (sI I (o0 + 1) (Int32.toNatClampNeg x2) (I (o1 + 1) (Int32.toNatClampNeg x2))) (o0 + 2) (Int32.toNatClampNeg x2) ((sI I (o0 + 1) (Int32.toNatClampNeg x2) (I (o1 + 1) (Int32.toNatClampNeg x2))) (o1 + 2) (Int32.toNatClampNeg x2))) (o1 + 3) (Int32.toNatClampNeg x2))) (o0 + 4) (Int32.toNatClampNeg x2) ((sI (sI (sI I (o0 + 1) (Int32.toNatClampNeg x2) (I (o1 + 1) (Int32.toNatClampNeg x2))) (o0 + 2) (Int32.toNatClampNeg x2) ((sI I (o0 + 1) (Int32.toNatClampNeg x2) (I (o1 + 1) (Int32.toNatClampNeg x2))) (o1 + 2) (Int32.toNatClampNeg x2))) (o0 + 3) (Int32.toNatClampNeg x2) ((sI (sI I (o0 + 1) (Int32.toNatClampNeg x2) (I (o1 + 1) (Int32.toNatClampNeg x2))) (o0 + 2) (Int32.toNatClampNeg x2) ((sI I (o0 + 1) (Int32.toNatClampNeg x2) (I (o1 + 1) (Int32.toNatClampNeg x2))) (o1 + 2) (Int32.toNatClampNeg x2))) (o1 + 3) (Int32.toNatClampNeg x2))) (o1 + 4) (Int32.toNatClampNeg x2))) (o0 + 5) (Int32.toNatClampNeg x2) ((sI (sI (sI (sI I (o0 + 1) (Int32.toNatClampNeg x2) (I (o1 + 1) (Int32.toNatClampNeg x2))) (o0 + 2) (Int32.toNatClampNeg x2) ((sI I (o0 + 1) (Int32.toNatClampNeg x2) (I (o1 + 1) (Int32.toNatClampNeg x2))) (o1 + 2) (Int32.toNatClampNeg x2))) (o0 + 3) (Int32.toNatClampNeg x2) ((sI (sI I (o0 + 1) (Int32.toNatClampNeg x2) (I (o1 + 1) (Int32.toNatClampNeg x2))) (o0 + 2) (Int32.toNatClampNeg x2) ((sI I (o0 + 1) (Int32.toNatClampNeg x2) (I (o1 + 1) (Int32.toNatClampNeg x2))) (o1 + 2) (Int32.toNatClampNeg x2))) (o1 + 3) (Int32.toNatClampNeg x2))) (o0 + 4) (Int32.toNatClampNeg x2) ((sI (sI (sI I (o0 + 1) (Int32.toNatClampNeg x2) (I (o1 + 1) (Int32.toNatClampNeg x2))) (o0 + 2) (Int32.toNatClampNeg x2) ((sI I (o0 + 1) (Int32.toNatClampNeg x2) (I (o1 + 1) (Int32.toNatClampNeg x2))) (o1 + 2) (Int32.toNatClampNeg x2))) (o0 + 3) (Int32.toNatClampNeg x2) ((sI (sI I (o0 + 1) (Int32.toNatClampNeg x2) (I (o1 + 1) (Int32.toNatClampNeg x2))) (o0 + 2) (Int32.toNatClampNeg x2) ((sI I (o0 + 1) (Int32.toNatClampNeg x2) (I (o1 + 1) (Int32.toNatClampNeg x2))) (o1 + 2) (Int32.toNatClampNeg x2))) (o1 + 3) (Int32.toNatClampNeg x2))) (o1 + 4) (Int32.toNatClampNeg x2))) (o1 + 5) (Int32.toNatClampNeg x2))) (o0 + 6) (Int32.toNatClampNeg x2) ((sI (sI (sI (sI (sI I (o0 + 1) (Int32.toNatClampNeg x2) (I (o1 + 1) (Int32.toNatClampNeg x2))) (o0 + 2) (Int32.toNatClampNeg x2) ((sI I (o0 + 1) (Int32.toNatClampNeg x2) (I (o1 + 1) (Int32.toNatClampNeg x2))) (o1 + 2) (Int32.toNatClampNeg x2))) (o0 + 3) (Int32.toNatClampNeg x2) ((sI (sI I (o0 + 1) (Int32.toNatClampNeg x2) (I (o1 + 1) (Int32.toNatClampNeg x2))) (o0 + 2) (Int32.toNatClampNeg x2) ((sI I (o0 + 1) (Int32.toNatClampNeg x2) (I (o1 + 1) (Int32.toNatClampNeg x2))) (o1 + 2) (Int32.toNatClampNeg x2))) (o1 + 3) (Int32.toNatClampNeg x2))) (o0 + 4) (Int32.toNatClampNeg x2) ((sI (sI (sI I (o0 + 1) (Int32.toNatClampNeg x2) (I (o1 + 1) (Int32.toNatClampNeg x2))) (o0 + 2) (Int32.toNatClampNeg x2) ((sI I (o0 + 1) (Int32.toNatClampNeg x2) (I (o1 + 1) (Int32.toNatClampNeg x2))) (o1 + 2) (Int32.toNatClampNeg x2))) (o0 + 3) (Int32.toNatClampNeg x2) ((sI (sI I (o0 + 1) (Int32.toNatClampNeg x2) (I (o1 + 1) (Int32.toNatClampNeg x2))) (o0 + 2) (Int32.toNatClampNeg x2) ((sI I (o0 + 1) (Int32.toNatClampNeg x2) (I (o1 + 1) (Int32.toNatClampNeg x2))) (o1 + 2) (Int32.toNatClampNeg x2))) (o1 + 3) (Int32.toNatClampNeg x2))) (o1 + 4) (Int32.toNatClampNeg x2))) (o0 + 5) (Int32.toNatClampNeg x2) ((sI (sI (sI (sI I (o0 + 1) (Int32.toNatClampNeg x2) (I (o1 + 1) (Int32.toNatClampNeg x2))) (o0 + 2) (Int32.toNatClampNeg x2) ((sI I (o0 + 1) (Int32.toNatClampNeg x2) (I (o1 + 1) (Int32.toNatClampNeg x2))) (o1 + 2) (Int32.toNatClampNeg x2))) (o0 + 3) (Int32.toNatClampNeg x2) ((sI (sI I (o0 + 1) (Int32.toNatClampNeg x2) (I (o1 + 1) (Int32.toNatClampNeg x2))) (o0 + 2) (Int32.toNatClampNeg x2) ((sI I (o0 + 1) (Int32.toNatClampNeg x2) (I (o1 + 1) (Int32.toNatClampNeg x2))) (o1 + 2) (Int32.toNatClampNeg x2))) (o1 + 3) (Int32.toNatClampNeg x2))) (o0 + 4) (Int32.toNatClampNeg x2) ((sI (sI (sI I (o0 + 1) (Int32.toNatClampNeg x2) (I (o1 + 1) (Int32.toNatClampNeg x2))) (o0 + 2) (Int32.toNatClampNeg x2) ((sI I (o0 + 1) (Int32.toNatClampNeg x2) (I (o1 + 1) (Int32.toNatClampNeg x2))) (o1 + 2) (Int32.toNatClampNeg x2))) (o0 + 3) (Int32.toNatClampNeg x2) ((sI (sI I (o0 + 1) (Int32.toNatClampNeg x2) (I (o1 + 1) (Int32.toNatClampNeg x2))) (o0 + 2) (Int32.toNatClampNeg x2) ((sI I (o0 + 1) (Int32.toNatClampNeg x2) (I (o1 + 1) (Int32.toNatClampNeg x2))) (o1 + 2) (Int32.toNatClampNeg x2))) (o1 + 3) (Int32.toNatClampNeg x2))) (o1 + 4) (Int32.toNatClampNeg x2))) (o1 + 5) (Int32.toNatClampNeg x2))) (o1 + 6) (Int32.toNatClampNeg x2))) (o0 + 7) (Int32.toNatClampNeg x2) ((sI (sI (sI (sI (sI (sI I (o0 + 1) (Int32.toNatClampNeg x2) (I (o1 + 1) (Int32.toNatClampNeg x2))) (o0 + 2) (Int32.toNatClampNeg x2) ((sI I (o0 + 1) (Int32.toNatClampNeg x2) (I (o1 + 1) (Int32.toNatClampNeg x2))) (o1 + 2) (Int32.toNatClampNeg x2))) (o0 + 3) (Int32.toNatClampNeg x2) ((sI (sI I (o0 + 1) (Int32.toNatClampNeg x2) (I (o1 + 1) (Int32.toNatClampNeg x2))) (o0 + 2) (Int32.toNatClampNeg x2) ((sI I (o0 + 1) (Int32.toNatClampNeg x2) (I (o1 + 1) (Int32.toNatClampNeg x2))) (o1 + 2) (Int32.toNatClampNeg x2))) (o1 + 3) (Int32.toNatClampNeg x2))) (o0 + 4) (Int32.toNatClampNeg x2) ((sI (sI (sI I (o0 + 1) (Int32.toNatClampNeg x2) (I (o1 + 1) (Int32.toNatClampNeg x2))) (o0 + 2) (Int32.toNatClampNeg x2) ((sI I (o0 + 1) (Int32.toNatClampNeg x2) (I (o1 + 1) (Int32.toNatClampNeg x2))) (o1 + 2) (Int32.toNatClampNeg x2))) (o0 + 3) (Int32.toNatClampNeg x2) ((sI (sI I (o0 + 1) (Int32.toNatClampNeg x2) (I (o1 + 1) (Int32.toNatClampNeg x2))) (o0 + 2) (Int32.toNatClampNeg x2) ((sI I (o0 + 1) (Int32.toNatClampNeg x2) (I (o1 + 1) (Int32.toNatClampNeg x2))) (o1 + 2) (Int32.toNatClampNeg x2))) (o1 + 3) (Int32.toNatClampNeg x2))) (o1 + 4) (Int32.toNatClampNeg x2))) (o0 + 5) (Int32.toNatClampNeg x2) ((sI (sI (sI (sI I (o0 + 1) (Int32.toNatClampNeg x2) (I (o1 + 1) (Int32.toNatClampNeg x2))) (o0 + 2) (Int32.toNatClampNeg x2) ((sI I (o0 + 1) (Int32.toNatClampNeg x2) (I (o1 + 1) (Int32.toNatClampNeg x2))) (o1 + 2) (Int32.toNatClampNeg x2))) (o0 + 3) (Int32.toNatClampNeg x2) ((sI (sI I (o0 + 1) (Int32.toNatClampNeg x2) (I (o1 + 1) (Int32.toNatClampNeg x2))) (o0 + 2) (Int32.toNatClampNeg x2) ((sI I (o0 + 1) (Int32.toNatClampNeg x2) (I (o1 + 1) (Int32.toNatClampNeg x2))) (o1 + 2) (Int32.toNatClampNeg x2))) (o1 + 3) (Int32.toNatClampNeg x2))) (o0 + 4) (Int32.toNatClampNeg x2) ((sI (sI (sI I (o0 + 1) (Int32.toNatClampNeg x2) (I (o1 + 1) (Int32.toNatClampNeg x2))) (o0 + 2) (Int32.toNatClampNeg x2) ((sI I (o0 + 1) (Int32.toNatClampNeg x2) (I (o1 + 1) (Int32.toNatClampNeg x2))) (o1 + 2) (Int32.toNatClampNeg x2))) (o0 + 3) (Int32.toNatClampNeg x2) ((sI (sI I (o0 + 1) (Int32.toNatClampNeg x2) (I (o1 + 1) (Int32.toNatClampNeg x2))) (o0 + 2) (Int32.toNatClampNeg x2) ((sI I (o0 + 1) (Int32.toNatClampNeg x2) (I (o1 + 1) (Int32.toNatClampNeg x2))) (o1 + 2) (Int32.toNatClampNeg x2))) (o1 + 3) (Int32.toNatClampNeg x2))) (o1 + 4) (Int32.toNatClampNeg x2))) (o1 + 5) (Int32.toNatClampNeg x2))) (o0 + 6) (Int32.toNatClampNeg x2) ((sI (sI (sI (sI (sI I (o0 + 1) (Int32.toNatClampNeg x2) (I (o1 + 1) (Int32.toNatClampNeg x2))) (o0 + 2) (Int32.toNatClampNeg x2) ((sI I (o0 + 1) (Int32.toNatClampNeg x2) (I (o1 + 1) (Int32.toNatClampNeg x2))) (o1 + 2) (Int32.toNatClampNeg x2))) (o0 + 3) (Int32.toNatClampNeg x2) ((sI (sI I (o0 + 1) (Int32.toNatClampNeg x2) (I (o1 + 1) (Int32.toNatClampNeg x2))) (o0 + 2) (Int32.toNatClampNeg x2) ((sI I (o0 + 1) (Int32.toNatClampNeg x2) (I (o1 + 1) (Int32.toNatClampNeg x2))) (o1 + 2) (Int32.toNatClampNeg x2))) (o1 + 3) (Int32.toNatClampNeg x2))) (o0 + 4) (Int32.toNatClampNeg x2) ((sI (sI (sI I (o0 + 1) (Int32.toNatClampNeg x2) (I (o1 + 1) (Int32.toNatClampNeg x2))) (o0 + 2) (Int32.toNatClampNeg x2) ((sI I (o0 + 1) (Int32.toNatClampNeg x2) (I (o1 + 1) (Int32.toNatClampNeg x2))) (o1 + 2) (Int32.toNatClampNeg x2))) (o0 + 3) (Int32.toNatClampNeg x2) ((sI (sI I (o0 + 1) (Int32.toNatClampNeg x2) (I (o1 + 1) (Int32.toNatClampNeg x2))) (o0 + 2) (Int32.toNatClampNeg x2) ((sI I (o0 + 1) (Int32.toNatClampNeg x2) (I (o1 + 1) (Int32.toNatClampNeg x2))) (o1 + 2) (Int32.toNatClampNeg x2))) (o1 + 3) (Int32.toNatClampNeg x2))) (o1 + 4) (Int32.toNatClampNeg x2))) (o0 + 5) (Int32.toNatClampNeg x2) ((sI (sI (sI (sI I (o0 + 1) (Int32.toNatClampNeg x2) (I (o1 + 1) (Int32.toNatClampNeg x2))) (o0 + 2) (Int32.toNatClampNeg x2) ((sI I (o0 + 1) (Int32.toNatClampNeg x2) (I (o1 + 1) (Int32.toNatClampNeg x2))) (o1 + 2) (Int32.toNatClampNeg x2))) (o0 + 3) (Int32.toNatClampNeg x2) ((sI (sI I (o0 + 1) (Int32.toNatClampNeg x2) (I (o1 + 1) (Int32.toNatClampNeg x2))) (o0 + 2) (Int32.toNatClampNeg x2) ((sI I (o0 + 1) (Int32.toNatClampNeg x2) (I (o1 + 1) (Int32.toNatClampNeg x2))) (o1 + 2) (Int32.toNatClampNeg x2))) (o1 + 3) (Int32.toNatClampNeg x2))) (o0 + 4) (Int32.toNatClampNeg x2) ((sI (sI (sI I (o0 + 1) (Int32.toNatClampNeg x2) (I (o1 + 1) (Int32.toNatClampNeg x2))) (o0 + 2) (Int32.toNatClampNeg x2) ((sI I (o0 + 1) (Int32.toNatClampNeg x2) (I (o1 + 1) (Int32.toNatClampNeg x2))) (o1 + 2) (Int32.toNatClampNeg x2))) (o0 + 3) (Int32.toNatClampNeg x2) ((sI (sI I (o0 + 1) (Int32.toNatClampNeg x2) (I (o1 + 1) (Int32.toNatClampNeg x2))) (o0 + 2) (Int32.toNatClampNeg x2) ((sI I (o0 + 1) (Int32.toNatClampNeg x2) (I (o1 + 1) (Int32.toNatClampNeg x2))) (o1 + 2) (Int32.toNatClampNeg x2))) (o1 + 3) (Int32.toNatClampNeg x2))) (o1 + 4) (Int32.toNatClampNeg x2))) (o1 + 5) (Int32.toNatClampNeg x2))) (o1 + 6) (Int32.toNatClampNeg x2))) (o1 + 7) (Int32.toNatClampNeg x2))))))))))))))))))) := rfl
set_option maxHeartbeats 4000000 in
set_option maxRecDepth 100000 in
theorem cL_X6_copyFrom {G : gG} {lay : Nat → Nat × Nat} {T0 T1 : Nat} {Dd : Nat → Nat → UInt64} {J : gJ} {K : gI} {N : gJ} {sz n : Nat} {o0 o1 : Nat} (hs : G.1.stackTraces = false) (hE : gLay lay) (ho0 : gState lay o0) (ho1 : gState lay o1) : ∀ j : Nat, (∀ (x2 : Int32) (I : gI) (r : gI), L_X6_copyFrom n o0 o1 j 0 x2 I = some r → gAt G mX6_copyFrom (gQp G mX6_copyFrom (gR none (fO G (lay, T0, T1, Dd) r J K N) sz)) 18 [some (.ref (G.2.2.1 + o0)), some (.ref (G.2.2.1 + o1)), some (.int x2)] [] (fO G (lay, T0, T1, Dd) I J K N) sz 0 0) := by
  intro j
  induction j with
  | zero => exact fun _ _ _ hf => (by cases hf)
  | succ j ih =>
    refine ?_
    · intro x2 I r hf
      rw [L_X6_copyFrom_e0] at hf
      refine r_iload_n dX6_copyFrom_18 rfl ?_
      refine r_iconst (v := (4 : Int32)) dX6_copyFrom_19 (by decide) ?_
      refine r_icmp_ge (tgt := 113) dX6_copyFrom_20 (by decide) (fun c20 => ?_) (fun c20 => ?_)
      · replace hf := if_t hf c20
        have hr := Option.some.inj hf
        subst hr
        exact r_vret dX6_copyFrom_113 rfl (Nat.le_of_ble_eq_true rfl) (Nat.le_of_ble_eq_true rfl) ⟨rfl, rfl, rfl⟩
      · replace hf := if_f hf c20
        refine r_aload_n dX6_copyFrom_23 rfl ?_
        refine g6_2 dX6_copyFrom_24 wd_95 ho0.1 ?_
        refine r_iload_n dX6_copyFrom_27 rfl ?_
        refine r_aload_n dX6_copyFrom_28 rfl ?_
        refine g6_2 dX6_copyFrom_29 wd_95 ho1.1 ?_
        refine r_iload_n dX6_copyFrom_32 rfl ?_
        obtain ⟨h33, hf⟩ := gv_of hf
        refine a_zald dX6_copyFrom_33 ho1.2.1 h33 ?_
        obtain ⟨h34, hf⟩ := gv_of hf
        obtain ⟨hz34, hf⟩ := gd_of hf
        refine a_zastb dX6_copyFrom_34 ho0.2.1 h34 hz34 ?_
        refine r_aload_n dX6_copyFrom_35 rfl ?_
        refine g6_3 dX6_copyFrom_36 wd_99 ho0.1 ?_
        refine r_iload_n dX6_copyFrom_39 rfl ?_
        refine r_aload_n dX6_copyFrom_40 rfl ?_
        refine g6_3 dX6_copyFrom_41 wd_99 ho1.1 ?_
        refine r_iload_n dX6_copyFrom_44 rfl ?_
        obtain ⟨h45, hf⟩ := gv_of hf
        refine a_iald dX6_copyFrom_45 ho1.2.2.1 h45 ?_
        obtain ⟨h46, hf⟩ := gv_of hf
        refine a_iast dX6_copyFrom_46 ho0.2.2.1 h46 ?_
        refine r_aload_n dX6_copyFrom_47 rfl ?_
        refine g6_4 dX6_copyFrom_48 wd_103 ho0.1 ?_
        refine r_iload_n dX6_copyFrom_51 rfl ?_
        refine r_aload_n dX6_copyFrom_52 rfl ?_
        refine g6_4 dX6_copyFrom_53 wd_103 ho1.1 ?_
        refine r_iload_n dX6_copyFrom_56 rfl ?_
        obtain ⟨h57, hf⟩ := gv_of hf
        refine a_iald dX6_copyFrom_57 ho1.2.2.2.1 h57 ?_
        obtain ⟨h58, hf⟩ := gv_of hf
        refine a_iast dX6_copyFrom_58 ho0.2.2.2.1 h58 ?_
        refine r_aload_n dX6_copyFrom_59 rfl ?_
        refine g6_5 dX6_copyFrom_60 wd_107 ho0.1 ?_
        refine r_iload_n dX6_copyFrom_63 rfl ?_
        refine r_aload_n dX6_copyFrom_64 rfl ?_
        refine g6_5 dX6_copyFrom_65 wd_107 ho1.1 ?_
        refine r_iload_n dX6_copyFrom_68 rfl ?_
        obtain ⟨h69, hf⟩ := gv_of hf
        refine a_iald dX6_copyFrom_69 ho1.2.2.2.2.1 h69 ?_
        obtain ⟨h70, hf⟩ := gv_of hf
        refine a_iast dX6_copyFrom_70 ho0.2.2.2.2.1 h70 ?_
        refine r_aload_n dX6_copyFrom_71 rfl ?_
        refine g6_6 dX6_copyFrom_72 wd_111 ho0.1 ?_
        refine r_iload_n dX6_copyFrom_75 rfl ?_
        refine r_aload_n dX6_copyFrom_76 rfl ?_
        refine g6_6 dX6_copyFrom_77 wd_111 ho1.1 ?_
        refine r_iload_n dX6_copyFrom_80 rfl ?_
        obtain ⟨h81, hf⟩ := gv_of hf
        refine a_iald dX6_copyFrom_81 ho1.2.2.2.2.2.1 h81 ?_
        obtain ⟨h82, hf⟩ := gv_of hf
        refine a_iast dX6_copyFrom_82 ho0.2.2.2.2.2.1 h82 ?_
        refine r_aload_n dX6_copyFrom_83 rfl ?_
        refine g6_7 dX6_copyFrom_84 wd_115 ho0.1 ?_
        refine r_iload_n dX6_copyFrom_87 rfl ?_
        refine r_aload_n dX6_copyFrom_88 rfl ?_
        refine g6_7 dX6_copyFrom_89 wd_115 ho1.1 ?_
        refine r_iload_n dX6_copyFrom_92 rfl ?_
        obtain ⟨h93, hf⟩ := gv_of hf
        refine a_iald dX6_copyFrom_93 ho1.2.2.2.2.2.2.1 h93 ?_
        obtain ⟨h94, hf⟩ := gv_of hf
        refine a_iast dX6_copyFrom_94 ho0.2.2.2.2.2.2.1 h94 ?_
        refine r_aload_n dX6_copyFrom_95 rfl ?_
        refine g6_8 dX6_copyFrom_96 wd_118 ho0.1 ?_
        refine r_iload_n dX6_copyFrom_99 rfl ?_
        refine r_aload_n dX6_copyFrom_100 rfl ?_
        refine g6_8 dX6_copyFrom_101 wd_118 ho1.1 ?_
        refine r_iload_n dX6_copyFrom_104 rfl ?_
        obtain ⟨h105, hf⟩ := gv_of hf
        refine a_iald dX6_copyFrom_105 ho1.2.2.2.2.2.2.2 h105 ?_
        obtain ⟨h106, hf⟩ := gv_of hf
        refine a_iast dX6_copyFrom_106 ho0.2.2.2.2.2.2.2 h106 ?_
        refine r_iincv (v := (x2 + (1 : Int32))) dX6_copyFrom_107 rfl rfl (by decide) rfl ?_
        refine r_goto (tgt := 18) dX6_copyFrom_110 (by decide) ?_
        exact r_widen (k2 := 0) (n2 := 0) (Nat.le_of_ble_eq_true rfl) (Nat.le_of_ble_eq_true rfl) (r_mask [true, true, true] rfl (ih (x2 + (1 : Int32)) (sI (sI (sI (sI (sI (sI (sI I (o0 + 1) (Int32.toNatClampNeg x2) (I (o1 + 1) (Int32.toNatClampNeg x2))) (o0 + 2) (Int32.toNatClampNeg x2) ((sI I (o0 + 1) (Int32.toNatClampNeg x2) (I (o1 + 1) (Int32.toNatClampNeg x2))) (o1 + 2) (Int32.toNatClampNeg x2))) (o0 + 3) (Int32.toNatClampNeg x2) ((sI (sI I (o0 + 1) (Int32.toNatClampNeg x2) (I (o1 + 1) (Int32.toNatClampNeg x2))) (o0 + 2) (Int32.toNatClampNeg x2) ((sI I (o0 + 1) (Int32.toNatClampNeg x2) (I (o1 + 1) (Int32.toNatClampNeg x2))) (o1 + 2) (Int32.toNatClampNeg x2))) (o1 + 3) (Int32.toNatClampNeg x2))) (o0 + 4) (Int32.toNatClampNeg x2) ((sI (sI (sI I (o0 + 1) (Int32.toNatClampNeg x2) (I (o1 + 1) (Int32.toNatClampNeg x2))) (o0 + 2) (Int32.toNatClampNeg x2) ((sI I (o0 + 1) (Int32.toNatClampNeg x2) (I (o1 + 1) (Int32.toNatClampNeg x2))) (o1 + 2) (Int32.toNatClampNeg x2))) (o0 + 3) (Int32.toNatClampNeg x2) ((sI (sI I (o0 + 1) (Int32.toNatClampNeg x2) (I (o1 + 1) (Int32.toNatClampNeg x2))) (o0 + 2) (Int32.toNatClampNeg x2) ((sI I (o0 + 1) (Int32.toNatClampNeg x2) (I (o1 + 1) (Int32.toNatClampNeg x2))) (o1 + 2) (Int32.toNatClampNeg x2))) (o1 + 3) (Int32.toNatClampNeg x2))) (o1 + 4) (Int32.toNatClampNeg x2))) (o0 + 5) (Int32.toNatClampNeg x2) ((sI (sI (sI (sI I (o0 + 1) (Int32.toNatClampNeg x2) (I (o1 + 1) (Int32.toNatClampNeg x2))) (o0 + 2) (Int32.toNatClampNeg x2) ((sI I (o0 + 1) (Int32.toNatClampNeg x2) (I (o1 + 1) (Int32.toNatClampNeg x2))) (o1 + 2) (Int32.toNatClampNeg x2))) (o0 + 3) (Int32.toNatClampNeg x2) ((sI (sI I (o0 + 1) (Int32.toNatClampNeg x2) (I (o1 + 1) (Int32.toNatClampNeg x2))) (o0 + 2) (Int32.toNatClampNeg x2) ((sI I (o0 + 1) (Int32.toNatClampNeg x2) (I (o1 + 1) (Int32.toNatClampNeg x2))) (o1 + 2) (Int32.toNatClampNeg x2))) (o1 + 3) (Int32.toNatClampNeg x2))) (o0 + 4) (Int32.toNatClampNeg x2) ((sI (sI (sI I (o0 + 1) (Int32.toNatClampNeg x2) (I (o1 + 1) (Int32.toNatClampNeg x2))) (o0 + 2) (Int32.toNatClampNeg x2) ((sI I (o0 + 1) (Int32.toNatClampNeg x2) (I (o1 + 1) (Int32.toNatClampNeg x2))) (o1 + 2) (Int32.toNatClampNeg x2))) (o0 + 3) (Int32.toNatClampNeg x2) ((sI (sI I (o0 + 1) (Int32.toNatClampNeg x2) (I (o1 + 1) (Int32.toNatClampNeg x2))) (o0 + 2) (Int32.toNatClampNeg x2) ((sI I (o0 + 1) (Int32.toNatClampNeg x2) (I (o1 + 1) (Int32.toNatClampNeg x2))) (o1 + 2) (Int32.toNatClampNeg x2))) (o1 + 3) (Int32.toNatClampNeg x2))) (o1 + 4) (Int32.toNatClampNeg x2))) (o1 + 5) (Int32.toNatClampNeg x2))) (o0 + 6) (Int32.toNatClampNeg x2) ((sI (sI (sI (sI (sI I (o0 + 1) (Int32.toNatClampNeg x2) (I (o1 + 1) (Int32.toNatClampNeg x2))) (o0 + 2) (Int32.toNatClampNeg x2) ((sI I (o0 + 1) (Int32.toNatClampNeg x2) (I (o1 + 1) (Int32.toNatClampNeg x2))) (o1 + 2) (Int32.toNatClampNeg x2))) (o0 + 3) (Int32.toNatClampNeg x2) ((sI (sI I (o0 + 1) (Int32.toNatClampNeg x2) (I (o1 + 1) (Int32.toNatClampNeg x2))) (o0 + 2) (Int32.toNatClampNeg x2) ((sI I (o0 + 1) (Int32.toNatClampNeg x2) (I (o1 + 1) (Int32.toNatClampNeg x2))) (o1 + 2) (Int32.toNatClampNeg x2))) (o1 + 3) (Int32.toNatClampNeg x2))) (o0 + 4) (Int32.toNatClampNeg x2) ((sI (sI (sI I (o0 + 1) (Int32.toNatClampNeg x2) (I (o1 + 1) (Int32.toNatClampNeg x2))) (o0 + 2) (Int32.toNatClampNeg x2) ((sI I (o0 + 1) (Int32.toNatClampNeg x2) (I (o1 + 1) (Int32.toNatClampNeg x2))) (o1 + 2) (Int32.toNatClampNeg x2))) (o0 + 3) (Int32.toNatClampNeg x2) ((sI (sI I (o0 + 1) (Int32.toNatClampNeg x2) (I (o1 + 1) (Int32.toNatClampNeg x2))) (o0 + 2) (Int32.toNatClampNeg x2) ((sI I (o0 + 1) (Int32.toNatClampNeg x2) (I (o1 + 1) (Int32.toNatClampNeg x2))) (o1 + 2) (Int32.toNatClampNeg x2))) (o1 + 3) (Int32.toNatClampNeg x2))) (o1 + 4) (Int32.toNatClampNeg x2))) (o0 + 5) (Int32.toNatClampNeg x2) ((sI (sI (sI (sI I (o0 + 1) (Int32.toNatClampNeg x2) (I (o1 + 1) (Int32.toNatClampNeg x2))) (o0 + 2) (Int32.toNatClampNeg x2) ((sI I (o0 + 1) (Int32.toNatClampNeg x2) (I (o1 + 1) (Int32.toNatClampNeg x2))) (o1 + 2) (Int32.toNatClampNeg x2))) (o0 + 3) (Int32.toNatClampNeg x2) ((sI (sI I (o0 + 1) (Int32.toNatClampNeg x2) (I (o1 + 1) (Int32.toNatClampNeg x2))) (o0 + 2) (Int32.toNatClampNeg x2) ((sI I (o0 + 1) (Int32.toNatClampNeg x2) (I (o1 + 1) (Int32.toNatClampNeg x2))) (o1 + 2) (Int32.toNatClampNeg x2))) (o1 + 3) (Int32.toNatClampNeg x2))) (o0 + 4) (Int32.toNatClampNeg x2) ((sI (sI (sI I (o0 + 1) (Int32.toNatClampNeg x2) (I (o1 + 1) (Int32.toNatClampNeg x2))) (o0 + 2) (Int32.toNatClampNeg x2) ((sI I (o0 + 1) (Int32.toNatClampNeg x2) (I (o1 + 1) (Int32.toNatClampNeg x2))) (o1 + 2) (Int32.toNatClampNeg x2))) (o0 + 3) (Int32.toNatClampNeg x2) ((sI (sI I (o0 + 1) (Int32.toNatClampNeg x2) (I (o1 + 1) (Int32.toNatClampNeg x2))) (o0 + 2) (Int32.toNatClampNeg x2) ((sI I (o0 + 1) (Int32.toNatClampNeg x2) (I (o1 + 1) (Int32.toNatClampNeg x2))) (o1 + 2) (Int32.toNatClampNeg x2))) (o1 + 3) (Int32.toNatClampNeg x2))) (o1 + 4) (Int32.toNatClampNeg x2))) (o1 + 5) (Int32.toNatClampNeg x2))) (o1 + 6) (Int32.toNatClampNeg x2))) (o0 + 7) (Int32.toNatClampNeg x2) ((sI (sI (sI (sI (sI (sI I (o0 + 1) (Int32.toNatClampNeg x2) (I (o1 + 1) (Int32.toNatClampNeg x2))) (o0 + 2) (Int32.toNatClampNeg x2) ((sI I (o0 + 1) (Int32.toNatClampNeg x2) (I (o1 + 1) (Int32.toNatClampNeg x2))) (o1 + 2) (Int32.toNatClampNeg x2))) (o0 + 3) (Int32.toNatClampNeg x2) ((sI (sI I (o0 + 1) (Int32.toNatClampNeg x2) (I (o1 + 1) (Int32.toNatClampNeg x2))) (o0 + 2) (Int32.toNatClampNeg x2) ((sI I (o0 + 1) (Int32.toNatClampNeg x2) (I (o1 + 1) (Int32.toNatClampNeg x2))) (o1 + 2) (Int32.toNatClampNeg x2))) (o1 + 3) (Int32.toNatClampNeg x2))) (o0 + 4) (Int32.toNatClampNeg x2) ((sI (sI (sI I (o0 + 1) (Int32.toNatClampNeg x2) (I (o1 + 1) (Int32.toNatClampNeg x2))) (o0 + 2) (Int32.toNatClampNeg x2) ((sI I (o0 + 1) (Int32.toNatClampNeg x2) (I (o1 + 1) (Int32.toNatClampNeg x2))) (o1 + 2) (Int32.toNatClampNeg x2))) (o0 + 3) (Int32.toNatClampNeg x2) ((sI (sI I (o0 + 1) (Int32.toNatClampNeg x2) (I (o1 + 1) (Int32.toNatClampNeg x2))) (o0 + 2) (Int32.toNatClampNeg x2) ((sI I (o0 + 1) (Int32.toNatClampNeg x2) (I (o1 + 1) (Int32.toNatClampNeg x2))) (o1 + 2) (Int32.toNatClampNeg x2))) (o1 + 3) (Int32.toNatClampNeg x2))) (o1 + 4) (Int32.toNatClampNeg x2))) (o0 + 5) (Int32.toNatClampNeg x2) ((sI (sI (sI (sI I (o0 + 1) (Int32.toNatClampNeg x2) (I (o1 + 1) (Int32.toNatClampNeg x2))) (o0 + 2) (Int32.toNatClampNeg x2) ((sI I (o0 + 1) (Int32.toNatClampNeg x2) (I (o1 + 1) (Int32.toNatClampNeg x2))) (o1 + 2) (Int32.toNatClampNeg x2))) (o0 + 3) (Int32.toNatClampNeg x2) ((sI (sI I (o0 + 1) (Int32.toNatClampNeg x2) (I (o1 + 1) (Int32.toNatClampNeg x2))) (o0 + 2) (Int32.toNatClampNeg x2) ((sI I (o0 + 1) (Int32.toNatClampNeg x2) (I (o1 + 1) (Int32.toNatClampNeg x2))) (o1 + 2) (Int32.toNatClampNeg x2))) (o1 + 3) (Int32.toNatClampNeg x2))) (o0 + 4) (Int32.toNatClampNeg x2) ((sI (sI (sI I (o0 + 1) (Int32.toNatClampNeg x2) (I (o1 + 1) (Int32.toNatClampNeg x2))) (o0 + 2) (Int32.toNatClampNeg x2) ((sI I (o0 + 1) (Int32.toNatClampNeg x2) (I (o1 + 1) (Int32.toNatClampNeg x2))) (o1 + 2) (Int32.toNatClampNeg x2))) (o0 + 3) (Int32.toNatClampNeg x2) ((sI (sI I (o0 + 1) (Int32.toNatClampNeg x2) (I (o1 + 1) (Int32.toNatClampNeg x2))) (o0 + 2) (Int32.toNatClampNeg x2) ((sI I (o0 + 1) (Int32.toNatClampNeg x2) (I (o1 + 1) (Int32.toNatClampNeg x2))) (o1 + 2) (Int32.toNatClampNeg x2))) (o1 + 3) (Int32.toNatClampNeg x2))) (o1 + 4) (Int32.toNatClampNeg x2))) (o1 + 5) (Int32.toNatClampNeg x2))) (o0 + 6) (Int32.toNatClampNeg x2) ((sI (sI (sI (sI (sI I (o0 + 1) (Int32.toNatClampNeg x2) (I (o1 + 1) (Int32.toNatClampNeg x2))) (o0 + 2) (Int32.toNatClampNeg x2) ((sI I (o0 + 1) (Int32.toNatClampNeg x2) (I (o1 + 1) (Int32.toNatClampNeg x2))) (o1 + 2) (Int32.toNatClampNeg x2))) (o0 + 3) (Int32.toNatClampNeg x2) ((sI (sI I (o0 + 1) (Int32.toNatClampNeg x2) (I (o1 + 1) (Int32.toNatClampNeg x2))) (o0 + 2) (Int32.toNatClampNeg x2) ((sI I (o0 + 1) (Int32.toNatClampNeg x2) (I (o1 + 1) (Int32.toNatClampNeg x2))) (o1 + 2) (Int32.toNatClampNeg x2))) (o1 + 3) (Int32.toNatClampNeg x2))) (o0 + 4) (Int32.toNatClampNeg x2) ((sI (sI (sI I (o0 + 1) (Int32.toNatClampNeg x2) (I (o1 + 1) (Int32.toNatClampNeg x2))) (o0 + 2) (Int32.toNatClampNeg x2) ((sI I (o0 + 1) (Int32.toNatClampNeg x2) (I (o1 + 1) (Int32.toNatClampNeg x2))) (o1 + 2) (Int32.toNatClampNeg x2))) (o0 + 3) (Int32.toNatClampNeg x2) ((sI (sI I (o0 + 1) (Int32.toNatClampNeg x2) (I (o1 + 1) (Int32.toNatClampNeg x2))) (o0 + 2) (Int32.toNatClampNeg x2) ((sI I (o0 + 1) (Int32.toNatClampNeg x2) (I (o1 + 1) (Int32.toNatClampNeg x2))) (o1 + 2) (Int32.toNatClampNeg x2))) (o1 + 3) (Int32.toNatClampNeg x2))) (o1 + 4) (Int32.toNatClampNeg x2))) (o0 + 5) (Int32.toNatClampNeg x2) ((sI (sI (sI (sI I (o0 + 1) (Int32.toNatClampNeg x2) (I (o1 + 1) (Int32.toNatClampNeg x2))) (o0 + 2) (Int32.toNatClampNeg x2) ((sI I (o0 + 1) (Int32.toNatClampNeg x2) (I (o1 + 1) (Int32.toNatClampNeg x2))) (o1 + 2) (Int32.toNatClampNeg x2))) (o0 + 3) (Int32.toNatClampNeg x2) ((sI (sI I (o0 + 1) (Int32.toNatClampNeg x2) (I (o1 + 1) (Int32.toNatClampNeg x2))) (o0 + 2) (Int32.toNatClampNeg x2) ((sI I (o0 + 1) (Int32.toNatClampNeg x2) (I (o1 + 1) (Int32.toNatClampNeg x2))) (o1 + 2) (Int32.toNatClampNeg x2))) (o1 + 3) (Int32.toNatClampNeg x2))) (o0 + 4) (Int32.toNatClampNeg x2) ((sI (sI (sI I (o0 + 1) (Int32.toNatClampNeg x2) (I (o1 + 1) (Int32.toNatClampNeg x2))) (o0 + 2) (Int32.toNatClampNeg x2) ((sI I (o0 + 1) (Int32.toNatClampNeg x2) (I (o1 + 1) (Int32.toNatClampNeg x2))) (o1 + 2) (Int32.toNatClampNeg x2))) (o0 + 3) (Int32.toNatClampNeg x2) ((sI (sI I (o0 + 1) (Int32.toNatClampNeg x2) (I (o1 + 1) (Int32.toNatClampNeg x2))) (o0 + 2) (Int32.toNatClampNeg x2) ((sI I (o0 + 1) (Int32.toNatClampNeg x2) (I (o1 + 1) (Int32.toNatClampNeg x2))) (o1 + 2) (Int32.toNatClampNeg x2))) (o1 + 3) (Int32.toNatClampNeg x2))) (o1 + 4) (Int32.toNatClampNeg x2))) (o1 + 5) (Int32.toNatClampNeg x2))) (o1 + 6) (Int32.toNatClampNeg x2))) (o1 + 7) (Int32.toNatClampNeg x2))) r hf))
def F_X6_copyFrom (n : Nat) (o0 o1 : Nat) (I : gI) : Option (gI) := L_X6_copyFrom n o0 o1 n 0 (0 : Int32) (sI (sI I o0 0 (I o1 0)) o0 1 ((sI I o0 0 (I o1 0)) o1 1))
set_option maxHeartbeats 4000000 in
set_option maxRecDepth 100000 in
theorem ct_X6_copyFrom {G : gG} {lay : Nat → Nat × Nat} {T0 T1 : Nat} {Dd : Nat → Nat → UInt64} {I : gI} {J : gJ} {K : gI} {N : gJ} {sz n : Nat} {o0 o1 : Nat} (hs : G.1.stackTraces = false) (hE : gLay lay) (ho0 : gState lay o0) (ho1 : gState lay o1) {r : gI} (hf : F_X6_copyFrom n o0 o1 I = some r) : gCt G mX6_copyFrom [.ref (G.2.2.1 + o0), .ref (G.2.2.1 + o1)] (fO G (lay, T0, T1, Dd) I J K N) sz (gR none (fO G (lay, T0, T1, Dd) r J K N) sz) := by
  unfold F_X6_copyFrom at hf
  refine gCt.of [some (.ref (G.2.2.1 + o0)), some (.ref (G.2.2.1 + o1)), none] (by decide +kernel) rfl hs rfl (Nat.le_of_ble_eq_true rfl) ?_
  refine r_aload_n dX6_copyFrom_0 rfl ?_
  refine r_aload_n dX6_copyFrom_1 rfl ?_
  refine g6_0 dX6_copyFrom_2 wd_87 ho1.1 ?_
  refine p6_0 dX6_copyFrom_5 wd_87 ho0.1 ?_
  refine r_aload_n dX6_copyFrom_8 rfl ?_
  refine r_aload_n dX6_copyFrom_9 rfl ?_
  refine g6_1 dX6_copyFrom_10 wd_91 ho1.1 ?_
  refine p6_1 dX6_copyFrom_13 wd_91 ho0.1 ?_
  refine r_iconst (v := (0 : Int32)) dX6_copyFrom_16 (by decide) ?_
  refine r_istore_n dX6_copyFrom_17 (by decide) rfl ?_
  exact r_widen (k2 := 0) (n2 := 0) (Nat.le_of_ble_eq_true rfl) (Nat.le_of_ble_eq_true rfl) (r_mask [true, true, true] rfl ((cL_X6_copyFrom hs hE ho0 ho1 n) (0 : Int32) (sI (sI I o0 0 (I o1 0)) o0 1 ((sI I o0 0 (I o1 0)) o1 1)) r hf))
def F_X6_hasOpen (n : Nat) (o0 : Nat) (I : gI) (a1 : Int32) : Option (Int32) := (if (((I o0 1) >>> (a1 &&& 31)) &&& (1 : Int32)) = (1 : Int32) then some (1 : Int32) else some (0 : Int32))
set_option maxHeartbeats 4000000 in
set_option maxRecDepth 100000 in
theorem ct_X6_hasOpen {G : gG} {lay : Nat → Nat × Nat} {T0 T1 : Nat} {Dd : Nat → Nat → UInt64} {I : gI} {J : gJ} {K : gI} {N : gJ} {sz n : Nat} {o0 : Nat} {a1 : Int32} (hs : G.1.stackTraces = false) (hE : gLay lay) (ho0 : gState lay o0) {r : Int32} (hf : F_X6_hasOpen n o0 I a1 = some r) : gCt G mX6_hasOpen [.ref (G.2.2.1 + o0), .int a1] (fO G (lay, T0, T1, Dd) I J K N) sz (gR (some (.int r)) (fO G (lay, T0, T1, Dd) I J K N) sz) := by
  unfold F_X6_hasOpen at hf
  refine gCt.of [some (.ref (G.2.2.1 + o0)), some (.int a1)] (by decide +kernel) rfl hs rfl (Nat.le_of_ble_eq_true rfl) ?_
  refine r_aload_n dX6_hasOpen_0 rfl ?_
  refine g6_1 dX6_hasOpen_1 wd_91 ho0.1 ?_
  refine r_iload_n dX6_hasOpen_4 rfl ?_
  refine r_ishr dX6_hasOpen_5 ?_
  refine r_iconst (v := (1 : Int32)) dX6_hasOpen_6 (by decide) ?_
  refine r_iand dX6_hasOpen_7 ?_
  refine r_iconst (v := (1 : Int32)) dX6_hasOpen_8 (by decide) ?_
  refine r_icmp_ne (tgt := 16) dX6_hasOpen_9 (by decide) (fun c9 => ?_) (fun c9 => ?_)
  · replace hf := if_f hf c9
    refine r_iconst (v := (0 : Int32)) dX6_hasOpen_16 (by decide) ?_
    have hr := Option.some.inj hf
    subst hr
    exact r_zret dX6_hasOpen_17 rfl rfl (Nat.le_of_ble_eq_true rfl) (Nat.le_of_ble_eq_true rfl) ⟨rfl, rfl, rfl⟩
  · replace hf := if_t hf c9
    refine r_iconst (v := (1 : Int32)) dX6_hasOpen_12 (by decide) ?_
    refine r_goto (tgt := 17) dX6_hasOpen_13 (by decide) ?_
    have hr := Option.some.inj hf
    subst hr
    exact r_zret dX6_hasOpen_17 rfl rfl (Nat.le_of_ble_eq_true rfl) (Nat.le_of_ble_eq_true rfl) ⟨rfl, rfl, rfl⟩
def F_X6_turn (n : Nat) (o0 : Nat) (I : gI) (a1 : Int32) : Option (gI) := some (sI I o0 1 ((I o0 1) ^^^ ((1 : Int32) <<< (a1 &&& 31))))
set_option maxHeartbeats 4000000 in
set_option maxRecDepth 100000 in
theorem ct_X6_turn {G : gG} {lay : Nat → Nat × Nat} {T0 T1 : Nat} {Dd : Nat → Nat → UInt64} {I : gI} {J : gJ} {K : gI} {N : gJ} {sz n : Nat} {o0 : Nat} {a1 : Int32} (hs : G.1.stackTraces = false) (hE : gLay lay) (ho0 : gState lay o0) {r : gI} (hf : F_X6_turn n o0 I a1 = some r) : gCt G mX6_turn [.ref (G.2.2.1 + o0), .int a1] (fO G (lay, T0, T1, Dd) I J K N) sz (gR none (fO G (lay, T0, T1, Dd) r J K N) sz) := by
  unfold F_X6_turn at hf
  refine gCt.of [some (.ref (G.2.2.1 + o0)), some (.int a1)] (by decide +kernel) rfl hs rfl (Nat.le_of_ble_eq_true rfl) ?_
  refine r_aload_n dX6_turn_0 rfl ?_
  refine r_dup dX6_turn_1 rfl ?_
  refine g6_1 dX6_turn_2 wd_91 ho0.1 ?_
  refine r_iconst (v := (1 : Int32)) dX6_turn_5 (by decide) ?_
  refine r_iload_n dX6_turn_6 rfl ?_
  refine r_ishl dX6_turn_7 ?_
  refine r_ixor dX6_turn_8 ?_
  refine p6_1 dX6_turn_9 wd_91 ho0.1 ?_
  have hr := Option.some.inj hf
  subst hr
  exact r_vret dX6_turn_12 rfl (Nat.le_of_ble_eq_true rfl) (Nat.le_of_ble_eq_true rfl) ⟨rfl, rfl, rfl⟩
def L_X7_clear (n : Nat) (o0 : Nat) : Nat → Nat → Int32 → gI → Option (gI)
  | 0, _, _, _ => none
  | j + 1, 0, x1, I => (if (4 : Int32) ≤ x1 then some I else gv x1 4 (L_X7_clear n o0 j 0 (x1 + (1 : Int32)) (sI I (o0 + 5) (Int32.toNatClampNeg x1) (0 : Int32))))
  | _ + 1, _, _, _ => none
theorem L_X7_clear_e0 (n j : Nat) (o0 : Nat) (x1 : Int32) (I : gI) : L_X7_clear n o0 (j + 1) 0 x1 I = (if (4 : Int32) ≤ x1 then some I else gv x1 4 (L_X7_clear n o0 j 0 (x1 + (1 : Int32)) (sI I (o0 + 5) (Int32.toNatClampNeg x1) (0 : Int32)))) := rfl
set_option maxHeartbeats 4000000 in
set_option maxRecDepth 100000 in
theorem cL_X7_clear {G : gG} {lay : Nat → Nat × Nat} {T0 T1 : Nat} {Dd : Nat → Nat → UInt64} {J : gJ} {K : gI} {N : gJ} {sz n : Nat} {o0 : Nat} (hs : G.1.stackTraces = false) (hE : gLay lay) (ho0 : gTank lay o0) : ∀ j : Nat, (∀ (x1 : Int32) (I : gI) (r : gI), L_X7_clear n o0 j 0 x1 I = some r → gAt G mX7_clear (gQp G mX7_clear (gR none (fO G (lay, T0, T1, Dd) r J K N) sz)) 22 [some (.ref (G.2.2.1 + o0)), some (.int x1)] [] (fO G (lay, T0, T1, Dd) I J K N) sz 0 0) := by
  intro j
  induction j with
  | zero => exact fun _ _ _ hf => (by cases hf)
  | succ j ih =>
    refine ?_
    · intro x1 I r hf
      rw [L_X7_clear_e0] at hf
      refine r_iload_n dX7_clear_22 rfl ?_
      refine r_iconst (v := (4 : Int32)) dX7_clear_23 (by decide) ?_
      refine r_icmp_ge (tgt := 40) dX7_clear_24 (by decide) (fun c24 => ?_) (fun c24 => ?_)
      · replace hf := if_t hf c24
        have hr := Option.some.inj hf
        subst hr
        exact r_vret dX7_clear_40 rfl (Nat.le_of_ble_eq_true rfl) (Nat.le_of_ble_eq_true rfl) ⟨rfl, rfl, rfl⟩
      · replace hf := if_f hf c24
        refine r_aload_n dX7_clear_27 rfl ?_
        refine g7_12 dX7_clear_28 wd_327 ho0.1 ?_
        refine r_iload_n dX7_clear_31 rfl ?_
        refine r_iconst (v := (0 : Int32)) dX7_clear_32 (by decide) ?_
        obtain ⟨h33, hf⟩ := gv_of hf
        refine a_iast dX7_clear_33 ho0.2.2.2.2.2.1 h33 ?_
        refine r_iincv (v := (x1 + (1 : Int32))) dX7_clear_34 rfl rfl (by decide) rfl ?_
        refine r_goto (tgt := 22) dX7_clear_37 (by decide) ?_
        exact r_widen (k2 := 0) (n2 := 0) (Nat.le_of_ble_eq_true rfl) (Nat.le_of_ble_eq_true rfl) (r_mask [true, true] rfl (ih (x1 + (1 : Int32)) (sI I (o0 + 5) (Int32.toNatClampNeg x1) (0 : Int32)) r hf))
def F_X7_clear (n : Nat) (o0 : Nat) (I : gI) : Option (gI) := L_X7_clear n o0 n 0 (0 : Int32) (sI (sI (sI (sI I o0 4 (-1 : Int32)) o0 5 (0 : Int32)) o0 7 (0 : Int32)) o0 9 (0 : Int32))
set_option maxHeartbeats 4000000 in
set_option maxRecDepth 100000 in
theorem ct_X7_clear {G : gG} {lay : Nat → Nat × Nat} {T0 T1 : Nat} {Dd : Nat → Nat → UInt64} {I : gI} {J : gJ} {K : gI} {N : gJ} {sz n : Nat} {o0 : Nat} (hs : G.1.stackTraces = false) (hE : gLay lay) (ho0 : gTank lay o0) {r : gI} (hf : F_X7_clear n o0 I = some r) : gCt G mX7_clear [.ref (G.2.2.1 + o0)] (fO G (lay, T0, T1, Dd) I J K N) sz (gR none (fO G (lay, T0, T1, Dd) r J K N) sz) := by
  unfold F_X7_clear at hf
  refine gCt.of [some (.ref (G.2.2.1 + o0)), none] (by decide +kernel) rfl hs rfl (Nat.le_of_ble_eq_true rfl) ?_
  refine r_aload_n dX7_clear_0 rfl ?_
  refine r_iconst (v := (-1 : Int32)) dX7_clear_1 (by decide) ?_
  refine p7_4 dX7_clear_2 wd_305 ho0.1 ?_
  refine r_aload_n dX7_clear_5 rfl ?_
  refine r_iconst (v := (0 : Int32)) dX7_clear_6 (by decide) ?_
  refine p7_5 dX7_clear_7 wd_308 ho0.1 ?_
  refine r_aload_n dX7_clear_10 rfl ?_
  refine r_iconst (v := (0 : Int32)) dX7_clear_11 (by decide) ?_
  refine p7_7 dX7_clear_12 wd_314 ho0.1 ?_
  refine r_aload_n dX7_clear_15 rfl ?_
  refine r_iconst (v := (0 : Int32)) dX7_clear_16 (by decide) ?_
  refine p7_9 dX7_clear_17 wd_318 ho0.1 ?_
  refine r_iconst (v := (0 : Int32)) dX7_clear_20 (by decide) ?_
  refine r_istore_n dX7_clear_21 (by decide) rfl ?_
  exact r_widen (k2 := 0) (n2 := 0) (Nat.le_of_ble_eq_true rfl) (Nat.le_of_ble_eq_true rfl) (r_mask [true, true] rfl ((cL_X7_clear hs hE ho0 n) (0 : Int32) (sI (sI (sI (sI I o0 4 (-1 : Int32)) o0 5 (0 : Int32)) o0 7 (0 : Int32)) o0 9 (0 : Int32)) r hf))
def F_X7_cells (n : Nat) (o0 : Nat) (I : gI) : Option (Int32) := some ((I o0 1) * (I o0 2))
set_option maxHeartbeats 4000000 in
set_option maxRecDepth 100000 in
theorem ct_X7_cells {G : gG} {lay : Nat → Nat × Nat} {T0 T1 : Nat} {Dd : Nat → Nat → UInt64} {I : gI} {J : gJ} {K : gI} {N : gJ} {sz n : Nat} {o0 : Nat} (hs : G.1.stackTraces = false) (hE : gLay lay) (ho0 : gTank lay o0) {r : Int32} (hf : F_X7_cells n o0 I = some r) : gCt G mX7_cells [.ref (G.2.2.1 + o0)] (fO G (lay, T0, T1, Dd) I J K N) sz (gR (some (.int r)) (fO G (lay, T0, T1, Dd) I J K N) sz) := by
  unfold F_X7_cells at hf
  refine gCt.of [some (.ref (G.2.2.1 + o0))] (by decide +kernel) rfl hs rfl (Nat.le_of_ble_eq_true rfl) ?_
  refine r_aload_n dX7_cells_0 rfl ?_
  refine g7_1 dX7_cells_1 wd_297 ho0.1 ?_
  refine r_aload_n dX7_cells_4 rfl ?_
  refine g7_2 dX7_cells_5 wd_300 ho0.1 ?_
  refine r_imul dX7_cells_8 ?_
  have hr := Option.some.inj hf
  subst hr
  exact r_iret dX7_cells_9 rfl (Nat.le_of_ble_eq_true rfl) (Nat.le_of_ble_eq_true rfl) ⟨rfl, rfl, rfl⟩
def F_X7_cellNumber (n : Nat) (o0 : Nat) (I : gI) (a1 : Int32) (a2 : Int32) : Option (Int32) := some ((a2 * (I o0 1)) + a1)
set_option maxHeartbeats 4000000 in
set_option maxRecDepth 100000 in
theorem ct_X7_cellNumber {G : gG} {lay : Nat → Nat × Nat} {T0 T1 : Nat} {Dd : Nat → Nat → UInt64} {I : gI} {J : gJ} {K : gI} {N : gJ} {sz n : Nat} {o0 : Nat} {a1 : Int32} {a2 : Int32} (hs : G.1.stackTraces = false) (hE : gLay lay) (ho0 : gTank lay o0) {r : Int32} (hf : F_X7_cellNumber n o0 I a1 a2 = some r) : gCt G mX7_cellNumber [.ref (G.2.2.1 + o0), .int a1, .int a2] (fO G (lay, T0, T1, Dd) I J K N) sz (gR (some (.int r)) (fO G (lay, T0, T1, Dd) I J K N) sz) := by
  unfold F_X7_cellNumber at hf
  refine gCt.of [some (.ref (G.2.2.1 + o0)), some (.int a1), some (.int a2)] (by decide +kernel) rfl hs rfl (Nat.le_of_ble_eq_true rfl) ?_
  refine r_iload_n dX7_cellNumber_0 rfl ?_
  refine r_aload_n dX7_cellNumber_1 rfl ?_
  refine g7_1 dX7_cellNumber_2 wd_297 ho0.1 ?_
  refine r_imul dX7_cellNumber_5 ?_
  refine r_iload_n dX7_cellNumber_6 rfl ?_
  refine r_iadd dX7_cellNumber_7 ?_
  have hr := Option.some.inj hf
  subst hr
  exact r_iret dX7_cellNumber_8 rfl (Nat.le_of_ble_eq_true rfl) (Nat.le_of_ble_eq_true rfl) ⟨rfl, rfl, rfl⟩
def F_X7_columnOf (n : Nat) (o0 o1 : Nat) (I : gI) (a2 : Int32) (a3 : Int32) : Option (Int32) := gv a2 4 (gv a2 4 (some (jmax (0 : Int32) (jmin ((I o0 1) - (1 : Int32)) ((I (o1 + 4) (Int32.toNatClampNeg a2)) + (((I (o1 + 6) (Int32.toNatClampNeg a2)) * a3) / (100 : Int32)))))))
set_option maxHeartbeats 4000000 in
set_option maxRecDepth 100000 in
theorem ct_X7_columnOf {G : gG} {lay : Nat → Nat × Nat} {T0 T1 : Nat} {Dd : Nat → Nat → UInt64} {I : gI} {J : gJ} {K : gI} {N : gJ} {sz n : Nat} {o0 o1 : Nat} {a2 : Int32} {a3 : Int32} (hs : G.1.stackTraces = false) (hE : gLay lay) (ho0 : gTank lay o0) (ho1 : gState lay o1) {r : Int32} (hf : F_X7_columnOf n o0 o1 I a2 a3 = some r) : gCt G mX7_columnOf [.ref (G.2.2.1 + o0), .ref (G.2.2.1 + o1), .int a2, .int a3] (fO G (lay, T0, T1, Dd) I J K N) sz (gR (some (.int r)) (fO G (lay, T0, T1, Dd) I J K N) sz) := by
  unfold F_X7_columnOf at hf
  refine gCt.of [some (.ref (G.2.2.1 + o0)), some (.ref (G.2.2.1 + o1)), some (.int a2), some (.int a3), none] (by decide +kernel) rfl hs rfl (Nat.le_of_ble_eq_true rfl) ?_
  refine r_aload_n dX7_columnOf_0 rfl ?_
  refine g6_5 dX7_columnOf_1 wd_108 ho1.1 ?_
  refine r_iload_n dX7_columnOf_4 rfl ?_
  obtain ⟨h5, hf⟩ := gv_of hf
  refine a_iald dX7_columnOf_5 ho1.2.2.2.2.1 h5 ?_
  refine r_aload_n dX7_columnOf_6 rfl ?_
  refine g6_7 dX7_columnOf_7 wd_116 ho1.1 ?_
  refine r_iload_n dX7_columnOf_10 rfl ?_
  obtain ⟨h11, hf⟩ := gv_of hf
  refine a_iald dX7_columnOf_11 ho1.2.2.2.2.2.2.1 h11 ?_
  refine r_iload_n dX7_columnOf_12 rfl ?_
  refine r_imul dX7_columnOf_13 ?_
  refine r_bipush (v := (100 : Int32)) dX7_columnOf_14 (by decide) ?_
  refine r_idiv dX7_columnOf_16 (by decide) ?_
  refine r_iadd dX7_columnOf_17 ?_
  refine r_istore dX7_columnOf_18 (by decide) rfl ?_
  refine r_iconst (v := (0 : Int32)) dX7_columnOf_20 (by decide) ?_
  refine r_aload_n dX7_columnOf_21 rfl ?_
  refine g7_1 dX7_columnOf_22 wd_297 ho0.1 ?_
  refine r_iconst (v := (1 : Int32)) dX7_columnOf_25 (by decide) ?_
  refine r_isub dX7_columnOf_26 ?_
  refine r_iload dX7_columnOf_27 rfl ?_
  refine r_mmin dX7_columnOf_29 wd_540 wd_541 wd_54 wMath_mmin (Nat.le_of_ble_eq_true rfl) (Nat.le_of_ble_eq_true rfl) (Nat.le_of_ble_eq_true rfl) (Nat.le_of_ble_eq_true rfl) ?_
  refine r_mmax dX7_columnOf_32 wd_543 wd_544 wd_54 wMath_mmax (Nat.le_of_ble_eq_true rfl) (Nat.le_of_ble_eq_true rfl) (Nat.le_of_ble_eq_true rfl) (Nat.le_of_ble_eq_true rfl) ?_
  have hr := Option.some.inj hf
  subst hr
  exact r_iret dX7_columnOf_35 rfl (Nat.le_of_ble_eq_true rfl) (Nat.le_of_ble_eq_true rfl) ⟨rfl, rfl, rfl⟩
def F_X7_rowOf (n : Nat) (o0 o1 : Nat) (I : gI) (a2 : Int32) (a3 : Int32) : Option (Int32) := gv a2 4 (gv a2 4 (some (jmax (0 : Int32) (jmin ((I o0 2) - (1 : Int32)) ((I (o1 + 5) (Int32.toNatClampNeg a2)) + (((I (o1 + 7) (Int32.toNatClampNeg a2)) * a3) / (100 : Int32)))))))
set_option maxHeartbeats 4000000 in
set_option maxRecDepth 100000 in
theorem ct_X7_rowOf {G : gG} {lay : Nat → Nat × Nat} {T0 T1 : Nat} {Dd : Nat → Nat → UInt64} {I : gI} {J : gJ} {K : gI} {N : gJ} {sz n : Nat} {o0 o1 : Nat} {a2 : Int32} {a3 : Int32} (hs : G.1.stackTraces = false) (hE : gLay lay) (ho0 : gTank lay o0) (ho1 : gState lay o1) {r : Int32} (hf : F_X7_rowOf n o0 o1 I a2 a3 = some r) : gCt G mX7_rowOf [.ref (G.2.2.1 + o0), .ref (G.2.2.1 + o1), .int a2, .int a3] (fO G (lay, T0, T1, Dd) I J K N) sz (gR (some (.int r)) (fO G (lay, T0, T1, Dd) I J K N) sz) := by
  unfold F_X7_rowOf at hf
  refine gCt.of [some (.ref (G.2.2.1 + o0)), some (.ref (G.2.2.1 + o1)), some (.int a2), some (.int a3), none] (by decide +kernel) rfl hs rfl (Nat.le_of_ble_eq_true rfl) ?_
  refine r_aload_n dX7_rowOf_0 rfl ?_
  refine g6_6 dX7_rowOf_1 wd_113 ho1.1 ?_
  refine r_iload_n dX7_rowOf_4 rfl ?_
  obtain ⟨h5, hf⟩ := gv_of hf
  refine a_iald dX7_rowOf_5 ho1.2.2.2.2.2.1 h5 ?_
  refine r_aload_n dX7_rowOf_6 rfl ?_
  refine g6_8 dX7_rowOf_7 wd_120 ho1.1 ?_
  refine r_iload_n dX7_rowOf_10 rfl ?_
  obtain ⟨h11, hf⟩ := gv_of hf
  refine a_iald dX7_rowOf_11 ho1.2.2.2.2.2.2.2 h11 ?_
  refine r_iload_n dX7_rowOf_12 rfl ?_
  refine r_imul dX7_rowOf_13 ?_
  refine r_bipush (v := (100 : Int32)) dX7_rowOf_14 (by decide) ?_
  refine r_idiv dX7_rowOf_16 (by decide) ?_
  refine r_iadd dX7_rowOf_17 ?_
  refine r_istore dX7_rowOf_18 (by decide) rfl ?_
  refine r_iconst (v := (0 : Int32)) dX7_rowOf_20 (by decide) ?_
  refine r_aload_n dX7_rowOf_21 rfl ?_
  refine g7_2 dX7_rowOf_22 wd_300 ho0.1 ?_
  refine r_iconst (v := (1 : Int32)) dX7_rowOf_25 (by decide) ?_
  refine r_isub dX7_rowOf_26 ?_
  refine r_iload dX7_rowOf_27 rfl ?_
  refine r_mmin dX7_rowOf_29 wd_540 wd_541 wd_54 wMath_mmin (Nat.le_of_ble_eq_true rfl) (Nat.le_of_ble_eq_true rfl) (Nat.le_of_ble_eq_true rfl) (Nat.le_of_ble_eq_true rfl) ?_
  refine r_mmax dX7_rowOf_32 wd_543 wd_544 wd_54 wMath_mmax (Nat.le_of_ble_eq_true rfl) (Nat.le_of_ble_eq_true rfl) (Nat.le_of_ble_eq_true rfl) (Nat.le_of_ble_eq_true rfl) ?_
  have hr := Option.some.inj hf
  subst hr
  exact r_iret dX7_rowOf_35 rfl (Nat.le_of_ble_eq_true rfl) (Nat.le_of_ble_eq_true rfl) ⟨rfl, rfl, rfl⟩
def F_X7_cellOf (n : Nat) (o0 o1 : Nat) (I : gI) (a2 : Int32) : Option (Int32) := bd (F_X7_columnOf n o0 o1 I a2 (I o1 0)) (fun v8 => bd (F_X7_rowOf n o0 o1 I a2 (I o1 0)) (fun v18 => bd (F_X7_cellNumber n o0 I v8 v18) (fun v21 => some v21)))
set_option maxHeartbeats 4000000 in
set_option maxRecDepth 100000 in
theorem ct_X7_cellOf {G : gG} {lay : Nat → Nat × Nat} {T0 T1 : Nat} {Dd : Nat → Nat → UInt64} {I : gI} {J : gJ} {K : gI} {N : gJ} {sz n : Nat} {o0 o1 : Nat} {a2 : Int32} (hs : G.1.stackTraces = false) (hE : gLay lay) (ho0 : gTank lay o0) (ho1 : gState lay o1) {r : Int32} (hf : F_X7_cellOf n o0 o1 I a2 = some r) : gCt G mX7_cellOf [.ref (G.2.2.1 + o0), .ref (G.2.2.1 + o1), .int a2] (fO G (lay, T0, T1, Dd) I J K N) sz (gR (some (.int r)) (fO G (lay, T0, T1, Dd) I J K N) sz) := by
  unfold F_X7_cellOf at hf
  refine gCt.of [some (.ref (G.2.2.1 + o0)), some (.ref (G.2.2.1 + o1)), some (.int a2)] (by decide +kernel) rfl hs rfl (Nat.le_of_ble_eq_true rfl) ?_
  refine r_aload_n dX7_cellOf_0 rfl ?_
  refine r_aload_n dX7_cellOf_1 rfl ?_
  refine r_aload_n dX7_cellOf_2 rfl ?_
  refine r_iload_n dX7_cellOf_3 rfl ?_
  refine r_aload_n dX7_cellOf_4 rfl ?_
  refine g6_0 dX7_cellOf_5 wd_89 ho1.1 ?_
  obtain ⟨v8, hc8, hf⟩ := bd_of hf
  refine r_cVi (rest := [.ref (G.2.2.1 + o0)]) (ct_X7_columnOf hs hE ho0 ho1 hc8) dX7_cellOf_8 wd_580 zX7_columnOf wd_537 wd_538 rfl  rfl rfl (fo7 ho0.1) rfl rfl ⟨Nat.le_of_ble_eq_true rfl, Nat.le_of_ble_eq_true rfl⟩ (Nat.le_of_ble_eq_true rfl) ⟨Nat.le_of_ble_eq_true rfl, Nat.le_of_ble_eq_true rfl⟩ ?_
  refine r_aload_n dX7_cellOf_11 rfl ?_
  refine r_aload_n dX7_cellOf_12 rfl ?_
  refine r_iload_n dX7_cellOf_13 rfl ?_
  refine r_aload_n dX7_cellOf_14 rfl ?_
  refine g6_0 dX7_cellOf_15 wd_89 ho1.1 ?_
  obtain ⟨v18, hc18, hf⟩ := bd_of hf
  refine r_cVi (rest := [.int v8, .ref (G.2.2.1 + o0)]) (ct_X7_rowOf hs hE ho0 ho1 hc18) dX7_cellOf_18 wd_581 zX7_rowOf wd_547 wd_548 rfl  rfl rfl (fo7 ho0.1) rfl rfl ⟨Nat.le_of_ble_eq_true rfl, Nat.le_of_ble_eq_true rfl⟩ (Nat.le_of_ble_eq_true rfl) ⟨Nat.le_of_ble_eq_true rfl, Nat.le_of_ble_eq_true rfl⟩ ?_
  obtain ⟨v21, hc21, hf⟩ := bd_of hf
  refine r_cVi (rest := []) (ct_X7_cellNumber hs hE ho0 hc21) dX7_cellOf_21 wd_738 zX7_cellNumber wd_739 wd_740 rfl  rfl rfl (fo7 ho0.1) rfl rfl ⟨Nat.le_of_ble_eq_true rfl, Nat.le_of_ble_eq_true rfl⟩ (Nat.le_of_ble_eq_true rfl) ⟨Nat.le_of_ble_eq_true rfl, Nat.le_of_ble_eq_true rfl⟩ ?_
  have hr := Option.some.inj hf
  subst hr
  exact r_iret dX7_cellOf_24 rfl (Nat.le_of_ble_eq_true rfl) (Nat.le_of_ble_eq_true rfl) ⟨rfl, rfl, rfl⟩
def F_X7_isShadowed (n : Nat) (o0 : Nat) (I : gI) (a1 : Int32) (a2 : Int32) : Option (Int32) := (if (I o0 4) = (-1 : Int32) then some (0 : Int32) else (if (I o0 4) ≤ a1 then (if a1 ≤ (I o0 4) then some (0 : Int32) else (if (I o0 4) ≤ a2 then some (0 : Int32) else some (1 : Int32))) else (if (I o0 4) < a2 then some (1 : Int32) else (if a1 ≤ (I o0 4) then some (0 : Int32) else (if (I o0 4) ≤ a2 then some (0 : Int32) else some (1 : Int32))))))
set_option maxHeartbeats 4000000 in
set_option maxRecDepth 100000 in
theorem ct_X7_isShadowed {G : gG} {lay : Nat → Nat × Nat} {T0 T1 : Nat} {Dd : Nat → Nat → UInt64} {I : gI} {J : gJ} {K : gI} {N : gJ} {sz n : Nat} {o0 : Nat} {a1 : Int32} {a2 : Int32} (hs : G.1.stackTraces = false) (hE : gLay lay) (ho0 : gTank lay o0) {r : Int32} (hf : F_X7_isShadowed n o0 I a1 a2 = some r) : gCt G mX7_isShadowed [.ref (G.2.2.1 + o0), .int a1, .int a2] (fO G (lay, T0, T1, Dd) I J K N) sz (gR (some (.int r)) (fO G (lay, T0, T1, Dd) I J K N) sz) := by
  unfold F_X7_isShadowed at hf
  refine gCt.of [some (.ref (G.2.2.1 + o0)), some (.int a1), some (.int a2)] (by decide +kernel) rfl hs rfl (Nat.le_of_ble_eq_true rfl) ?_
  refine r_aload_n dX7_isShadowed_0 rfl ?_
  refine g7_4 dX7_isShadowed_1 wd_305 ho0.1 ?_
  refine r_iconst (v := (-1 : Int32)) dX7_isShadowed_4 (by decide) ?_
  refine r_icmp_ne (tgt := 10) dX7_isShadowed_5 (by decide) (fun c5 => ?_) (fun c5 => ?_)
  · replace hf := if_f hf c5
    refine r_iload_n dX7_isShadowed_10 rfl ?_
    refine r_aload_n dX7_isShadowed_11 rfl ?_
    refine g7_4 dX7_isShadowed_12 wd_305 ho0.1 ?_
    refine r_icmp_ge (tgt := 26) dX7_isShadowed_15 (by decide) (fun c15 => ?_) (fun c15 => ?_)
    · replace hf := if_t hf c15
      refine r_iload_n dX7_isShadowed_26 rfl ?_
      refine r_aload_n dX7_isShadowed_27 rfl ?_
      refine g7_4 dX7_isShadowed_28 wd_305 ho0.1 ?_
      refine r_icmp_le (tgt := 46) dX7_isShadowed_31 (by decide) (fun c31 => ?_) (fun c31 => ?_)
      · replace hf := if_t hf c31
        refine r_iconst (v := (0 : Int32)) dX7_isShadowed_46 (by decide) ?_
        have hr := Option.some.inj hf
        subst hr
        exact r_zret dX7_isShadowed_47 rfl rfl (Nat.le_of_ble_eq_true rfl) (Nat.le_of_ble_eq_true rfl) ⟨rfl, rfl, rfl⟩
      · replace hf := if_f hf c31
        refine r_iload_n dX7_isShadowed_34 rfl ?_
        refine r_aload_n dX7_isShadowed_35 rfl ?_
        refine g7_4 dX7_isShadowed_36 wd_305 ho0.1 ?_
        refine r_icmp_ge (tgt := 46) dX7_isShadowed_39 (by decide) (fun c39 => ?_) (fun c39 => ?_)
        · replace hf := if_t hf c39
          refine r_iconst (v := (0 : Int32)) dX7_isShadowed_46 (by decide) ?_
          have hr := Option.some.inj hf
          subst hr
          exact r_zret dX7_isShadowed_47 rfl rfl (Nat.le_of_ble_eq_true rfl) (Nat.le_of_ble_eq_true rfl) ⟨rfl, rfl, rfl⟩
        · replace hf := if_f hf c39
          refine r_iconst (v := (1 : Int32)) dX7_isShadowed_42 (by decide) ?_
          refine r_goto (tgt := 47) dX7_isShadowed_43 (by decide) ?_
          have hr := Option.some.inj hf
          subst hr
          exact r_zret dX7_isShadowed_47 rfl rfl (Nat.le_of_ble_eq_true rfl) (Nat.le_of_ble_eq_true rfl) ⟨rfl, rfl, rfl⟩
    · replace hf := if_f hf c15
      refine r_iload_n dX7_isShadowed_18 rfl ?_
      refine r_aload_n dX7_isShadowed_19 rfl ?_
      refine g7_4 dX7_isShadowed_20 wd_305 ho0.1 ?_
      refine r_icmp_gt (tgt := 42) dX7_isShadowed_23 (by decide) (fun c23 => ?_) (fun c23 => ?_)
      · replace hf := if_t hf c23
        refine r_iconst (v := (1 : Int32)) dX7_isShadowed_42 (by decide) ?_
        refine r_goto (tgt := 47) dX7_isShadowed_43 (by decide) ?_
        have hr := Option.some.inj hf
        subst hr
        exact r_zret dX7_isShadowed_47 rfl rfl (Nat.le_of_ble_eq_true rfl) (Nat.le_of_ble_eq_true rfl) ⟨rfl, rfl, rfl⟩
      · replace hf := if_f hf c23
        refine r_iload_n dX7_isShadowed_26 rfl ?_
        refine r_aload_n dX7_isShadowed_27 rfl ?_
        refine g7_4 dX7_isShadowed_28 wd_305 ho0.1 ?_
        refine r_icmp_le (tgt := 46) dX7_isShadowed_31 (by decide) (fun c31 => ?_) (fun c31 => ?_)
        · replace hf := if_t hf c31
          refine r_iconst (v := (0 : Int32)) dX7_isShadowed_46 (by decide) ?_
          have hr := Option.some.inj hf
          subst hr
          exact r_zret dX7_isShadowed_47 rfl rfl (Nat.le_of_ble_eq_true rfl) (Nat.le_of_ble_eq_true rfl) ⟨rfl, rfl, rfl⟩
        · replace hf := if_f hf c31
          refine r_iload_n dX7_isShadowed_34 rfl ?_
          refine r_aload_n dX7_isShadowed_35 rfl ?_
          refine g7_4 dX7_isShadowed_36 wd_305 ho0.1 ?_
          refine r_icmp_ge (tgt := 46) dX7_isShadowed_39 (by decide) (fun c39 => ?_) (fun c39 => ?_)
          · replace hf := if_t hf c39
            refine r_iconst (v := (0 : Int32)) dX7_isShadowed_46 (by decide) ?_
            have hr := Option.some.inj hf
            subst hr
            exact r_zret dX7_isShadowed_47 rfl rfl (Nat.le_of_ble_eq_true rfl) (Nat.le_of_ble_eq_true rfl) ⟨rfl, rfl, rfl⟩
          · replace hf := if_f hf c39
            refine r_iconst (v := (1 : Int32)) dX7_isShadowed_42 (by decide) ?_
            refine r_goto (tgt := 47) dX7_isShadowed_43 (by decide) ?_
            have hr := Option.some.inj hf
            subst hr
            exact r_zret dX7_isShadowed_47 rfl rfl (Nat.le_of_ble_eq_true rfl) (Nat.le_of_ble_eq_true rfl) ⟨rfl, rfl, rfl⟩
  · replace hf := if_t hf c5
    refine r_iconst (v := (0 : Int32)) dX7_isShadowed_8 (by decide) ?_
    have hr := Option.some.inj hf
    subst hr
    exact r_zret dX7_isShadowed_9 rfl rfl (Nat.le_of_ble_eq_true rfl) (Nat.le_of_ble_eq_true rfl) ⟨rfl, rfl, rfl⟩
def F_X7_isBlocked (n : Nat) (o0 o1 : Nat) (I : gI) (a2 : Int32) (a3 : Int32) : Option (Int32) := (if (I o0 4) = (-1 : Int32) then some (0 : Int32) else (if a2 = (I o0 4) then bd (F_X6_hasOpen n o1 I a3) (fun v18 => (if v18 = 0 then some (1 : Int32) else some (0 : Int32))) else some (0 : Int32)))
set_option maxHeartbeats 4000000 in
set_option maxRecDepth 100000 in
theorem ct_X7_isBlocked {G : gG} {lay : Nat → Nat × Nat} {T0 T1 : Nat} {Dd : Nat → Nat → UInt64} {I : gI} {J : gJ} {K : gI} {N : gJ} {sz n : Nat} {o0 o1 : Nat} {a2 : Int32} {a3 : Int32} (hs : G.1.stackTraces = false) (hE : gLay lay) (ho0 : gTank lay o0) (ho1 : gState lay o1) {r : Int32} (hf : F_X7_isBlocked n o0 o1 I a2 a3 = some r) : gCt G mX7_isBlocked [.ref (G.2.2.1 + o0), .ref (G.2.2.1 + o1), .int a2, .int a3] (fO G (lay, T0, T1, Dd) I J K N) sz (gR (some (.int r)) (fO G (lay, T0, T1, Dd) I J K N) sz) := by
  unfold F_X7_isBlocked at hf
  refine gCt.of [some (.ref (G.2.2.1 + o0)), some (.ref (G.2.2.1 + o1)), some (.int a2), some (.int a3)] (by decide +kernel) rfl hs rfl (Nat.le_of_ble_eq_true rfl) ?_
  refine r_aload_n dX7_isBlocked_0 rfl ?_
  refine g7_4 dX7_isBlocked_1 wd_305 ho0.1 ?_
  refine r_iconst (v := (-1 : Int32)) dX7_isBlocked_4 (by decide) ?_
  refine r_icmp_eq (tgt := 28) dX7_isBlocked_5 (by decide) (fun c5 => ?_) (fun c5 => ?_)
  · replace hf := if_t hf c5
    refine r_iconst (v := (0 : Int32)) dX7_isBlocked_28 (by decide) ?_
    have hr := Option.some.inj hf
    subst hr
    exact r_zret dX7_isBlocked_29 rfl rfl (Nat.le_of_ble_eq_true rfl) (Nat.le_of_ble_eq_true rfl) ⟨rfl, rfl, rfl⟩
  · replace hf := if_f hf c5
    refine r_iload_n dX7_isBlocked_8 rfl ?_
    refine r_aload_n dX7_isBlocked_9 rfl ?_
    refine g7_4 dX7_isBlocked_10 wd_305 ho0.1 ?_
    refine r_icmp_ne (tgt := 28) dX7_isBlocked_13 (by decide) (fun c13 => ?_) (fun c13 => ?_)
    · replace hf := if_f hf c13
      refine r_iconst (v := (0 : Int32)) dX7_isBlocked_28 (by decide) ?_
      have hr := Option.some.inj hf
      subst hr
      exact r_zret dX7_isBlocked_29 rfl rfl (Nat.le_of_ble_eq_true rfl) (Nat.le_of_ble_eq_true rfl) ⟨rfl, rfl, rfl⟩
    · replace hf := if_t hf c13
      refine r_aload_n dX7_isBlocked_16 rfl ?_
      refine r_iload_n dX7_isBlocked_17 rfl ?_
      obtain ⟨v18, hc18, hf⟩ := bd_of hf
      refine r_cVi (rest := []) (ct_X6_hasOpen hs hE ho1 hc18) dX7_isBlocked_18 wd_579 zX6_hasOpen wd_505 wd_506 rfl  rfl rfl (fo6 ho1.1) rfl rfl ⟨Nat.le_of_ble_eq_true rfl, Nat.le_of_ble_eq_true rfl⟩ (Nat.le_of_ble_eq_true rfl) ⟨Nat.le_of_ble_eq_true rfl, Nat.le_of_ble_eq_true rfl⟩ ?_
      refine r_if_ne (tgt := 28) dX7_isBlocked_21 (by decide) (fun c21 => ?_) (fun c21 => ?_)
      · replace hf := if_f hf c21
        refine r_iconst (v := (0 : Int32)) dX7_isBlocked_28 (by decide) ?_
        have hr := Option.some.inj hf
        subst hr
        exact r_zret dX7_isBlocked_29 rfl rfl (Nat.le_of_ble_eq_true rfl) (Nat.le_of_ble_eq_true rfl) ⟨rfl, rfl, rfl⟩
      · replace hf := if_t hf c21
        refine r_iconst (v := (1 : Int32)) dX7_isBlocked_24 (by decide) ?_
        refine r_goto (tgt := 29) dX7_isBlocked_25 (by decide) ?_
        have hr := Option.some.inj hf
        subst hr
        exact r_zret dX7_isBlocked_29 rfl rfl (Nat.le_of_ble_eq_true rfl) (Nat.le_of_ble_eq_true rfl) ⟨rfl, rfl, rfl⟩
def F_X7_lengthThrough (n : Nat) (o0 : Nat) (I : gI) (a1 : Int32) (a2 : Int32) (a3 : Int32) (a4 : Int32) (a5 : Int32) : Option (Int32) := bd (F_X4_between n I (a2 - (I o0 4)) (a3 - a1)) (fun v13 => bd (F_X4_between n I ((I o0 4) - a4) (a1 - a5)) (fun v31 => some (v13 + v31)))
set_option maxHeartbeats 4000000 in
set_option maxRecDepth 100000 in
theorem ct_X7_lengthThrough {G : gG} {lay : Nat → Nat × Nat} {T0 T1 : Nat} {Dd : Nat → Nat → UInt64} {I : gI} {J : gJ} {K : gI} {N : gJ} {sz n : Nat} {o0 : Nat} {a1 : Int32} {a2 : Int32} {a3 : Int32} {a4 : Int32} {a5 : Int32} (hs : G.1.stackTraces = false) (hE : gLay lay) (ho0 : gTank lay o0) {r : Int32} (hf : F_X7_lengthThrough n o0 I a1 a2 a3 a4 a5 = some r) : gCt G mX7_lengthThrough [.ref (G.2.2.1 + o0), .int a1, .int a2, .int a3, .int a4, .int a5] (fO G (lay, T0, T1, Dd) I J K N) sz (gR (some (.int r)) (fO G (lay, T0, T1, Dd) I J K N) sz) := by
  unfold F_X7_lengthThrough at hf
  refine gCt.of [some (.ref (G.2.2.1 + o0)), some (.int a1), some (.int a2), some (.int a3), some (.int a4), some (.int a5)] (by decide +kernel) rfl hs rfl (Nat.le_of_ble_eq_true rfl) ?_
  refine r_aload_n dX7_lengthThrough_0 rfl ?_
  refine g7_0 dX7_lengthThrough_1 wd_295 ho0.1 ?_
  refine r_iload_n dX7_lengthThrough_4 rfl ?_
  refine r_aload_n dX7_lengthThrough_5 rfl ?_
  refine g7_4 dX7_lengthThrough_6 wd_305 ho0.1 ?_
  refine r_isub dX7_lengthThrough_9 ?_
  refine r_iload_n dX7_lengthThrough_10 rfl ?_
  refine r_iload_n dX7_lengthThrough_11 rfl ?_
  refine r_isub dX7_lengthThrough_12 ?_
  obtain ⟨v13, hc13, hf⟩ := bd_of hf
  refine r_cVi (rest := []) (ct_X4_between hs hE hc13) dX7_lengthThrough_13 wd_590 zX4_between wd_591 wd_592 rfl  rfl rfl (fo4 (hE 93 (by decide))) rfl rfl ⟨Nat.le_of_ble_eq_true rfl, Nat.le_of_ble_eq_true rfl⟩ (Nat.le_of_ble_eq_true rfl) ⟨Nat.le_of_ble_eq_true rfl, Nat.le_of_ble_eq_true rfl⟩ ?_
  refine r_aload_n dX7_lengthThrough_16 rfl ?_
  refine g7_0 dX7_lengthThrough_17 wd_295 ho0.1 ?_
  refine r_aload_n dX7_lengthThrough_20 rfl ?_
  refine g7_4 dX7_lengthThrough_21 wd_305 ho0.1 ?_
  refine r_iload dX7_lengthThrough_24 rfl ?_
  refine r_isub dX7_lengthThrough_26 ?_
  refine r_iload_n dX7_lengthThrough_27 rfl ?_
  refine r_iload dX7_lengthThrough_28 rfl ?_
  refine r_isub dX7_lengthThrough_30 ?_
  obtain ⟨v31, hc31, hf⟩ := bd_of hf
  refine r_cVi (rest := [.int v13]) (ct_X4_between hs hE hc31) dX7_lengthThrough_31 wd_590 zX4_between wd_591 wd_592 rfl  rfl rfl (fo4 (hE 93 (by decide))) rfl rfl ⟨Nat.le_of_ble_eq_true rfl, Nat.le_of_ble_eq_true rfl⟩ (Nat.le_of_ble_eq_true rfl) ⟨Nat.le_of_ble_eq_true rfl, Nat.le_of_ble_eq_true rfl⟩ ?_
  refine r_iadd dX7_lengthThrough_34 ?_
  have hr := Option.some.inj hf
  subst hr
  exact r_iret dX7_lengthThrough_35 rfl (Nat.le_of_ble_eq_true rfl) (Nat.le_of_ble_eq_true rfl) ⟨rfl, rfl, rfl⟩
def L_X7_shortestLength (n : Nat) (o0 o1 : Nat) (I : gI) (a2 : Int32) (a3 : Int32) (a4 : Int32) : Nat → Nat → Int32 → Int32 → Int32 → Int32 → Option (Int32)
  | 0, _, _, _, _, _ => none
  | j + 1, 0, x5, x6, x7, x8 => (if (I o0 2) ≤ x8 then some x7 else bd (F_X6_hasOpen n o1 I x8) (fun v82 => (if v82 = 0 then L_X7_shortestLength n o0 o1 I a2 a3 a4 j 0 x5 x6 x7 (x8 + (1 : Int32)) else bd (F_X7_lengthThrough n o0 I x8 x5 x6 a3 a4) (fun v98 => (if x7 = (-1 : Int32) then L_X7_shortestLength n o0 o1 I a2 a3 a4 j 0 x5 x6 v98 (x8 + (1 : Int32)) else L_X7_shortestLength n o0 o1 I a2 a3 a4 j 0 x5 x6 (jmin x7 v98) (x8 + (1 : Int32)))))))
  | _ + 1, _, _, _, _, _ => none
theorem L_X7_shortestLength_e0 (n j : Nat) (o0 o1 : Nat) (I : gI) (a2 : Int32) (a3 : Int32) (a4 : Int32) (x5 : Int32) (x6 : Int32) (x7 : Int32) (x8 : Int32) : L_X7_shortestLength n o0 o1 I a2 a3 a4 (j + 1) 0 x5 x6 x7 x8 = (if (I o0 2) ≤ x8 then some x7 else bd (F_X6_hasOpen n o1 I x8) (fun v82 => (if v82 = 0 then L_X7_shortestLength n o0 o1 I a2 a3 a4 j 0 x5 x6 x7 (x8 + (1 : Int32)) else bd (F_X7_lengthThrough n o0 I x8 x5 x6 a3 a4) (fun v98 => (if x7 = (-1 : Int32) then L_X7_shortestLength n o0 o1 I a2 a3 a4 j 0 x5 x6 v98 (x8 + (1 : Int32)) else L_X7_shortestLength n o0 o1 I a2 a3 a4 j 0 x5 x6 (jmin x7 v98) (x8 + (1 : Int32))))))) := rfl
set_option maxHeartbeats 4000000 in
set_option maxRecDepth 100000 in
theorem cL_X7_shortestLength {G : gG} {lay : Nat → Nat × Nat} {T0 T1 : Nat} {Dd : Nat → Nat → UInt64} {I : gI} {J : gJ} {K : gI} {N : gJ} {sz n : Nat} {o0 o1 : Nat} {a2 : Int32} {a3 : Int32} {a4 : Int32} (hs : G.1.stackTraces = false) (hE : gLay lay) (ho0 : gTank lay o0) (ho1 : gState lay o1) : ∀ j : Nat, (∀ (x5 : Int32) (x6 : Int32) (x7 : Int32) (x8 : Int32) (r : Int32), L_X7_shortestLength n o0 o1 I a2 a3 a4 j 0 x5 x6 x7 x8 = some r → gAt G mX7_shortestLength (gQp G mX7_shortestLength (gR (some (.int r)) (fO G (lay, T0, T1, Dd) I J K N) sz)) 70 [some (.ref (G.2.2.1 + o0)), some (.ref (G.2.2.1 + o1)), some (.int a2), some (.int a3), some (.int a4), some (.int x5), some (.int x6), some (.int x7), some (.int x8), none] [] (fO G (lay, T0, T1, Dd) I J K N) sz 0 0) := by
  intro j
  induction j with
  | zero => exact fun _ _ _ _ _ hf => (by cases hf)
  | succ j ih =>
    refine ?_
    · intro x5 x6 x7 x8 r hf
      rw [L_X7_shortestLength_e0] at hf
      refine r_iload dX7_shortestLength_70 rfl ?_
      refine r_aload_n dX7_shortestLength_72 rfl ?_
      refine g7_2 dX7_shortestLength_73 wd_300 ho0.1 ?_
      refine r_icmp_ge (tgt := 129) dX7_shortestLength_76 (by decide) (fun c76 => ?_) (fun c76 => ?_)
      · replace hf := if_t hf c76
        refine r_iload dX7_shortestLength_129 rfl ?_
        have hr := Option.some.inj hf
        subst hr
        exact r_iret dX7_shortestLength_131 rfl (Nat.le_of_ble_eq_true rfl) (Nat.le_of_ble_eq_true rfl) ⟨rfl, rfl, rfl⟩
      · replace hf := if_f hf c76
        refine r_aload_n dX7_shortestLength_79 rfl ?_
        refine r_iload dX7_shortestLength_80 rfl ?_
        obtain ⟨v82, hc82, hf⟩ := bd_of hf
        refine r_cVi (rest := []) (ct_X6_hasOpen hs hE ho1 hc82) dX7_shortestLength_82 wd_579 zX6_hasOpen wd_505 wd_506 rfl  rfl rfl (fo6 ho1.1) rfl rfl ⟨Nat.le_of_ble_eq_true rfl, Nat.le_of_ble_eq_true rfl⟩ (Nat.le_of_ble_eq_true rfl) ⟨Nat.le_of_ble_eq_true rfl, Nat.le_of_ble_eq_true rfl⟩ ?_
        refine r_if_eq (tgt := 123) dX7_shortestLength_85 (by decide) (fun c85 => ?_) (fun c85 => ?_)
        · replace hf := if_t hf c85
          refine r_iincv (v := (x8 + (1 : Int32))) dX7_shortestLength_123 rfl rfl (by decide) rfl ?_
          refine r_goto (tgt := 70) dX7_shortestLength_126 (by decide) ?_
          exact r_widen (k2 := 0) (n2 := 0) (Nat.le_of_ble_eq_true rfl) (Nat.le_of_ble_eq_true rfl) (r_mask [true, true, true, true, true, true, true, true, true, false] rfl (ih x5 x6 x7 (x8 + (1 : Int32)) r hf))
        · replace hf := if_f hf c85
          refine r_aload_n dX7_shortestLength_88 rfl ?_
          refine r_iload dX7_shortestLength_89 rfl ?_
          refine r_iload dX7_shortestLength_91 rfl ?_
          refine r_iload dX7_shortestLength_93 rfl ?_
          refine r_iload_n dX7_shortestLength_95 rfl ?_
          refine r_iload dX7_shortestLength_96 rfl ?_
          obtain ⟨v98, hc98, hf⟩ := bd_of hf
          refine r_cVi (rest := []) (ct_X7_lengthThrough hs hE ho0 hc98) dX7_shortestLength_98 wd_586 zX7_lengthThrough wd_587 wd_588 rfl  rfl rfl (fo7 ho0.1) rfl rfl ⟨Nat.le_of_ble_eq_true rfl, Nat.le_of_ble_eq_true rfl⟩ (Nat.le_of_ble_eq_true rfl) ⟨Nat.le_of_ble_eq_true rfl, Nat.le_of_ble_eq_true rfl⟩ ?_
          refine r_istore dX7_shortestLength_101 (by decide) rfl ?_
          refine r_iload dX7_shortestLength_103 rfl ?_
          refine r_iconst (v := (-1 : Int32)) dX7_shortestLength_105 (by decide) ?_
          refine r_icmp_ne (tgt := 114) dX7_shortestLength_106 (by decide) (fun c106 => ?_) (fun c106 => ?_)
          · replace hf := if_f hf c106
            refine r_iload dX7_shortestLength_114 rfl ?_
            refine r_iload dX7_shortestLength_116 rfl ?_
            refine r_mmin dX7_shortestLength_118 wd_540 wd_541 wd_54 wMath_mmin (Nat.le_of_ble_eq_true rfl) (Nat.le_of_ble_eq_true rfl) (Nat.le_of_ble_eq_true rfl) (Nat.le_of_ble_eq_true rfl) ?_
            refine r_istore dX7_shortestLength_121 (by decide) rfl ?_
            refine r_iincv (v := (x8 + (1 : Int32))) dX7_shortestLength_123 rfl rfl (by decide) rfl ?_
            refine r_goto (tgt := 70) dX7_shortestLength_126 (by decide) ?_
            exact r_widen (k2 := 0) (n2 := 0) (Nat.le_of_ble_eq_true rfl) (Nat.le_of_ble_eq_true rfl) (r_mask [true, true, true, true, true, true, true, true, true, false] rfl (ih x5 x6 (jmin x7 v98) (x8 + (1 : Int32)) r hf))
          · replace hf := if_t hf c106
            refine r_iload dX7_shortestLength_109 rfl ?_
            refine r_goto (tgt := 121) dX7_shortestLength_111 (by decide) ?_
            refine r_istore dX7_shortestLength_121 (by decide) rfl ?_
            refine r_iincv (v := (x8 + (1 : Int32))) dX7_shortestLength_123 rfl rfl (by decide) rfl ?_
            refine r_goto (tgt := 70) dX7_shortestLength_126 (by decide) ?_
            exact r_widen (k2 := 0) (n2 := 0) (Nat.le_of_ble_eq_true rfl) (Nat.le_of_ble_eq_true rfl) (r_mask [true, true, true, true, true, true, true, true, true, false] rfl (ih x5 x6 v98 (x8 + (1 : Int32)) r hf))
def F_X7_shortestLength (n : Nat) (o0 o1 : Nat) (I : gI) (a2 : Int32) (a3 : Int32) (a4 : Int32) : Option (Int32) := bd (F_X7_isBlocked n o0 o1 I a3 a4) (fun v5 => (if v5 = 0 then bd (F_X7_columnOf n o0 o1 I a2 (I o1 0)) (fun v20 => bd (F_X7_rowOf n o0 o1 I a2 (I o1 0)) (fun v32 => bd (F_X7_isShadowed n o0 I v20 a3) (fun v41 => (if v41 = 0 then bd (F_X4_between n I (v20 - a3) (v32 - a4)) (fun v60 => some v60) else L_X7_shortestLength n o0 o1 I a2 a3 a4 n 0 v20 v32 (-1 : Int32) (0 : Int32))))) else some (-1 : Int32)))
set_option maxHeartbeats 4000000 in
set_option maxRecDepth 100000 in
theorem ct_X7_shortestLength {G : gG} {lay : Nat → Nat × Nat} {T0 T1 : Nat} {Dd : Nat → Nat → UInt64} {I : gI} {J : gJ} {K : gI} {N : gJ} {sz n : Nat} {o0 o1 : Nat} {a2 : Int32} {a3 : Int32} {a4 : Int32} (hs : G.1.stackTraces = false) (hE : gLay lay) (ho0 : gTank lay o0) (ho1 : gState lay o1) {r : Int32} (hf : F_X7_shortestLength n o0 o1 I a2 a3 a4 = some r) : gCt G mX7_shortestLength [.ref (G.2.2.1 + o0), .ref (G.2.2.1 + o1), .int a2, .int a3, .int a4] (fO G (lay, T0, T1, Dd) I J K N) sz (gR (some (.int r)) (fO G (lay, T0, T1, Dd) I J K N) sz) := by
  unfold F_X7_shortestLength at hf
  refine gCt.of [some (.ref (G.2.2.1 + o0)), some (.ref (G.2.2.1 + o1)), some (.int a2), some (.int a3), some (.int a4), none, none, none, none, none] (by decide +kernel) rfl hs rfl (Nat.le_of_ble_eq_true rfl) ?_
  refine r_aload_n dX7_shortestLength_0 rfl ?_
  refine r_aload_n dX7_shortestLength_1 rfl ?_
  refine r_iload_n dX7_shortestLength_2 rfl ?_
  refine r_iload dX7_shortestLength_3 rfl ?_
  obtain ⟨v5, hc5, hf⟩ := bd_of hf
  refine r_cVi (rest := []) (ct_X7_isBlocked hs hE ho0 ho1 hc5) dX7_shortestLength_5 wd_575 zX7_isBlocked wd_576 wd_577 rfl  rfl rfl (fo7 ho0.1) rfl rfl ⟨Nat.le_of_ble_eq_true rfl, Nat.le_of_ble_eq_true rfl⟩ (Nat.le_of_ble_eq_true rfl) ⟨Nat.le_of_ble_eq_true rfl, Nat.le_of_ble_eq_true rfl⟩ ?_
  refine r_if_eq (tgt := 13) dX7_shortestLength_8 (by decide) (fun c8 => ?_) (fun c8 => ?_)
  · replace hf := if_t hf c8
    refine r_aload_n dX7_shortestLength_13 rfl ?_
    refine r_aload_n dX7_shortestLength_14 rfl ?_
    refine r_iload_n dX7_shortestLength_15 rfl ?_
    refine r_aload_n dX7_shortestLength_16 rfl ?_
    refine g6_0 dX7_shortestLength_17 wd_89 ho1.1 ?_
    obtain ⟨v20, hc20, hf⟩ := bd_of hf
    refine r_cVi (rest := []) (ct_X7_columnOf hs hE ho0 ho1 hc20) dX7_shortestLength_20 wd_580 zX7_columnOf wd_537 wd_538 rfl  rfl rfl (fo7 ho0.1) rfl rfl ⟨Nat.le_of_ble_eq_true rfl, Nat.le_of_ble_eq_true rfl⟩ (Nat.le_of_ble_eq_true rfl) ⟨Nat.le_of_ble_eq_true rfl, Nat.le_of_ble_eq_true rfl⟩ ?_
    refine r_istore dX7_shortestLength_23 (by decide) rfl ?_
    refine r_aload_n dX7_shortestLength_25 rfl ?_
    refine r_aload_n dX7_shortestLength_26 rfl ?_
    refine r_iload_n dX7_shortestLength_27 rfl ?_
    refine r_aload_n dX7_shortestLength_28 rfl ?_
    refine g6_0 dX7_shortestLength_29 wd_89 ho1.1 ?_
    obtain ⟨v32, hc32, hf⟩ := bd_of hf
    refine r_cVi (rest := []) (ct_X7_rowOf hs hE ho0 ho1 hc32) dX7_shortestLength_32 wd_581 zX7_rowOf wd_547 wd_548 rfl  rfl rfl (fo7 ho0.1) rfl rfl ⟨Nat.le_of_ble_eq_true rfl, Nat.le_of_ble_eq_true rfl⟩ (Nat.le_of_ble_eq_true rfl) ⟨Nat.le_of_ble_eq_true rfl, Nat.le_of_ble_eq_true rfl⟩ ?_
    refine r_istore dX7_shortestLength_35 (by decide) rfl ?_
    refine r_aload_n dX7_shortestLength_37 rfl ?_
    refine r_iload dX7_shortestLength_38 rfl ?_
    refine r_iload_n dX7_shortestLength_40 rfl ?_
    obtain ⟨v41, hc41, hf⟩ := bd_of hf
    refine r_cVi (rest := []) (ct_X7_isShadowed hs hE ho0 hc41) dX7_shortestLength_41 wd_582 zX7_isShadowed wd_583 wd_584 rfl  rfl rfl (fo7 ho0.1) rfl rfl ⟨Nat.le_of_ble_eq_true rfl, Nat.le_of_ble_eq_true rfl⟩ (Nat.le_of_ble_eq_true rfl) ⟨Nat.le_of_ble_eq_true rfl, Nat.le_of_ble_eq_true rfl⟩ ?_
    refine r_if_ne (tgt := 64) dX7_shortestLength_44 (by decide) (fun c44 => ?_) (fun c44 => ?_)
    · replace hf := if_f hf c44
      refine r_iconst (v := (-1 : Int32)) dX7_shortestLength_64 (by decide) ?_
      refine r_istore dX7_shortestLength_65 (by decide) rfl ?_
      refine r_iconst (v := (0 : Int32)) dX7_shortestLength_67 (by decide) ?_
      refine r_istore dX7_shortestLength_68 (by decide) rfl ?_
      exact r_widen (k2 := 0) (n2 := 0) (Nat.le_of_ble_eq_true rfl) (Nat.le_of_ble_eq_true rfl) (r_mask [true, true, true, true, true, true, true, true, true, false] rfl ((cL_X7_shortestLength hs hE ho0 ho1 n) v20 v32 (-1 : Int32) (0 : Int32) r hf))
    · replace hf := if_t hf c44
      refine r_aload_n dX7_shortestLength_47 rfl ?_
      refine g7_0 dX7_shortestLength_48 wd_295 ho0.1 ?_
      refine r_iload dX7_shortestLength_51 rfl ?_
      refine r_iload_n dX7_shortestLength_53 rfl ?_
      refine r_isub dX7_shortestLength_54 ?_
      refine r_iload dX7_shortestLength_55 rfl ?_
      refine r_iload dX7_shortestLength_57 rfl ?_
      refine r_isub dX7_shortestLength_59 ?_
      obtain ⟨v60, hc60, hf⟩ := bd_of hf
      refine r_cVi (rest := []) (ct_X4_between hs hE hc60) dX7_shortestLength_60 wd_590 zX4_between wd_591 wd_592 rfl  rfl rfl (fo4 (hE 93 (by decide))) rfl rfl ⟨Nat.le_of_ble_eq_true rfl, Nat.le_of_ble_eq_true rfl⟩ (Nat.le_of_ble_eq_true rfl) ⟨Nat.le_of_ble_eq_true rfl, Nat.le_of_ble_eq_true rfl⟩ ?_
      have hr := Option.some.inj hf
      subst hr
      exact r_iret dX7_shortestLength_63 rfl (Nat.le_of_ble_eq_true rfl) (Nat.le_of_ble_eq_true rfl) ⟨rfl, rfl, rfl⟩
  · replace hf := if_f hf c8
    refine r_iconst (v := (-1 : Int32)) dX7_shortestLength_11 (by decide) ?_
    have hr := Option.some.inj hf
    subst hr
    exact r_iret dX7_shortestLength_12 rfl (Nat.le_of_ble_eq_true rfl) (Nat.le_of_ble_eq_true rfl) ⟨rfl, rfl, rfl⟩
def F_X8_delayOf (n : Nat) (o0 : Nat) (I : gI) (a1 : Int32) : Option (Int32) := gd (¬ (I o0 0) = 0) (some ((a1 * (I o0 1)) / (I o0 0)))
set_option maxHeartbeats 4000000 in
set_option maxRecDepth 100000 in
theorem ct_X8_delayOf {G : gG} {lay : Nat → Nat × Nat} {T0 T1 : Nat} {Dd : Nat → Nat → UInt64} {I : gI} {J : gJ} {K : gI} {N : gJ} {sz n : Nat} {o0 : Nat} {a1 : Int32} (hs : G.1.stackTraces = false) (hE : gLay lay) (ho0 : gTrain lay o0) {r : Int32} (hf : F_X8_delayOf n o0 I a1 = some r) : gCt G mX8_delayOf [.ref (G.2.2.1 + o0), .int a1] (fO G (lay, T0, T1, Dd) I J K N) sz (gR (some (.int r)) (fO G (lay, T0, T1, Dd) I J K N) sz) := by
  unfold F_X8_delayOf at hf
  refine gCt.of [some (.ref (G.2.2.1 + o0)), some (.int a1)] (by decide +kernel) rfl hs rfl (Nat.le_of_ble_eq_true rfl) ?_
  refine r_iload_n dX8_delayOf_0 rfl ?_
  refine r_aload_n dX8_delayOf_1 rfl ?_
  refine g8_1 dX8_delayOf_2 wd_224 ho0.1 ?_
  refine r_imul dX8_delayOf_5 ?_
  refine r_aload_n dX8_delayOf_6 rfl ?_
  refine g8_0 dX8_delayOf_7 wd_221 ho0.1 ?_
  obtain ⟨h10, hf⟩ := gd_of hf
  refine r_idiv dX8_delayOf_10 h10 ?_
  have hr := Option.some.inj hf
  subst hr
  exact r_iret dX8_delayOf_11 rfl (Nat.le_of_ble_eq_true rfl) (Nat.le_of_ble_eq_true rfl) ⟨rfl, rfl, rfl⟩
def F_X7_firstArrival (n : Nat) (o0 o1 : Nat) (I : gI) (a2 : Int32) (a3 : Int32) (a4 : Int32) : Option (Int32) := bd (F_X7_shortestLength n o0 o1 I a2 a3 a4) (fun v6 => (if v6 = (-1 : Int32) then some (-1 : Int32) else gv a2 4 (gv a2 4 (bd (F_X8_delayOf n ((o0 + 1) + 5 + 3 * (Int32.toNatClampNeg a2)) I v6) (fun v36 => some ((I ((o0 + 1) + 5 + 3 * (Int32.toNatClampNeg a2)) 2) + v36))))))
set_option maxHeartbeats 4000000 in
set_option maxRecDepth 100000 in
theorem ct_X7_firstArrival {G : gG} {lay : Nat → Nat × Nat} {T0 T1 : Nat} {Dd : Nat → Nat → UInt64} {I : gI} {J : gJ} {K : gI} {N : gJ} {sz n : Nat} {o0 o1 : Nat} {a2 : Int32} {a3 : Int32} {a4 : Int32} (hs : G.1.stackTraces = false) (hE : gLay lay) (ho0 : gTank lay o0) (ho1 : gState lay o1) {r : Int32} (hf : F_X7_firstArrival n o0 o1 I a2 a3 a4 = some r) : gCt G mX7_firstArrival [.ref (G.2.2.1 + o0), .ref (G.2.2.1 + o1), .int a2, .int a3, .int a4] (fO G (lay, T0, T1, Dd) I J K N) sz (gR (some (.int r)) (fO G (lay, T0, T1, Dd) I J K N) sz) := by
  unfold F_X7_firstArrival at hf
  refine gCt.of [some (.ref (G.2.2.1 + o0)), some (.ref (G.2.2.1 + o1)), some (.int a2), some (.int a3), some (.int a4), none] (by decide +kernel) rfl hs rfl (Nat.le_of_ble_eq_true rfl) ?_
  refine r_aload_n dX7_firstArrival_0 rfl ?_
  refine r_aload_n dX7_firstArrival_1 rfl ?_
  refine r_iload_n dX7_firstArrival_2 rfl ?_
  refine r_iload_n dX7_firstArrival_3 rfl ?_
  refine r_iload dX7_firstArrival_4 rfl ?_
  obtain ⟨v6, hc6, hf⟩ := bd_of hf
  refine r_cVi (rest := []) (ct_X7_shortestLength hs hE ho0 ho1 hc6) dX7_firstArrival_6 wd_1128 zX7_shortestLength wd_1112 wd_1113 rfl  rfl rfl (fo7 ho0.1) rfl rfl ⟨Nat.le_of_ble_eq_true rfl, Nat.le_of_ble_eq_true rfl⟩ (Nat.le_of_ble_eq_true rfl) ⟨Nat.le_of_ble_eq_true rfl, Nat.le_of_ble_eq_true rfl⟩ ?_
  refine r_istore dX7_firstArrival_9 (by decide) rfl ?_
  refine r_iload dX7_firstArrival_11 rfl ?_
  refine r_iconst (v := (-1 : Int32)) dX7_firstArrival_13 (by decide) ?_
  refine r_icmp_ne (tgt := 19) dX7_firstArrival_14 (by decide) (fun c14 => ?_) (fun c14 => ?_)
  · replace hf := if_f hf c14
    refine r_aload_n dX7_firstArrival_19 rfl ?_
    refine g7_6 dX7_firstArrival_20 wd_311 ho0.1 ?_
    refine r_iload_n dX7_firstArrival_23 rfl ?_
    obtain ⟨h24, hf⟩ := gv_of hf
    refine a_aald105 dX7_firstArrival_24 ho0.2.1 h24 ?_
    refine g8_2 dX7_firstArrival_25 wd_229 (ho0.2.2.2.2.2.2.1 _ (vp_lt h24)).1 ?_
    refine r_aload_n dX7_firstArrival_28 rfl ?_
    refine g7_6 dX7_firstArrival_29 wd_311 ho0.1 ?_
    refine r_iload_n dX7_firstArrival_32 rfl ?_
    obtain ⟨h33, hf⟩ := gv_of hf
    refine a_aald105 dX7_firstArrival_33 ho0.2.1 h33 ?_
    refine r_iload dX7_firstArrival_34 rfl ?_
    obtain ⟨v36, hc36, hf⟩ := bd_of hf
    refine r_cVi (rest := [.int (I ((o0 + 1) + 5 + 3 * (Int32.toNatClampNeg a2)) 2)]) (ct_X8_delayOf hs hE (ho0.2.2.2.2.2.2.1 _ (vp_lt h33)) hc36) dX7_firstArrival_36 wd_1129 zX8_delayOf wd_602 wd_603 rfl  rfl rfl (fo8 (ho0.2.2.2.2.2.2.1 _ (vp_lt h33)).1) rfl rfl ⟨Nat.le_of_ble_eq_true rfl, Nat.le_of_ble_eq_true rfl⟩ (Nat.le_of_ble_eq_true rfl) ⟨Nat.le_of_ble_eq_true rfl, Nat.le_of_ble_eq_true rfl⟩ ?_
    refine r_iadd dX7_firstArrival_39 ?_
    have hr := Option.some.inj hf
    subst hr
    exact r_iret dX7_firstArrival_40 rfl (Nat.le_of_ble_eq_true rfl) (Nat.le_of_ble_eq_true rfl) ⟨rfl, rfl, rfl⟩
  · replace hf := if_t hf c14
    refine r_iconst (v := (-1 : Int32)) dX7_firstArrival_17 (by decide) ?_
    have hr := Option.some.inj hf
    subst hr
    exact r_iret dX7_firstArrival_18 rfl (Nat.le_of_ble_eq_true rfl) (Nat.le_of_ble_eq_true rfl) ⟨rfl, rfl, rfl⟩
def F_X7_imageColumn (n : Nat) (o0 : Nat) (I : gI) (a1 : Int32) (a2 : Int32) : Option (Int32) := (if a1 = 0 then some ((-1 : Int32) - a2) else (if a1 = (1 : Int32) then some ((((2 : Int32) * (I o0 1)) - (1 : Int32)) - a2) else some a2))
set_option maxHeartbeats 4000000 in
set_option maxRecDepth 100000 in
theorem ct_X7_imageColumn {G : gG} {lay : Nat → Nat × Nat} {T0 T1 : Nat} {Dd : Nat → Nat → UInt64} {I : gI} {J : gJ} {K : gI} {N : gJ} {sz n : Nat} {o0 : Nat} {a1 : Int32} {a2 : Int32} (hs : G.1.stackTraces = false) (hE : gLay lay) (ho0 : gTank lay o0) {r : Int32} (hf : F_X7_imageColumn n o0 I a1 a2 = some r) : gCt G mX7_imageColumn [.ref (G.2.2.1 + o0), .int a1, .int a2] (fO G (lay, T0, T1, Dd) I J K N) sz (gR (some (.int r)) (fO G (lay, T0, T1, Dd) I J K N) sz) := by
  unfold F_X7_imageColumn at hf
  refine gCt.of [some (.ref (G.2.2.1 + o0)), some (.int a1), some (.int a2)] (by decide +kernel) rfl hs rfl (Nat.le_of_ble_eq_true rfl) ?_
  refine r_iload_n dX7_imageColumn_0 rfl ?_
  refine r_if_ne (tgt := 8) dX7_imageColumn_1 (by decide) (fun c1 => ?_) (fun c1 => ?_)
  · replace hf := if_f hf c1
    refine r_iload_n dX7_imageColumn_8 rfl ?_
    refine r_iconst (v := (1 : Int32)) dX7_imageColumn_9 (by decide) ?_
    refine r_icmp_ne (tgt := 26) dX7_imageColumn_10 (by decide) (fun c10 => ?_) (fun c10 => ?_)
    · replace hf := if_f hf c10
      refine r_iload_n dX7_imageColumn_26 rfl ?_
      have hr := Option.some.inj hf
      subst hr
      exact r_iret dX7_imageColumn_27 rfl (Nat.le_of_ble_eq_true rfl) (Nat.le_of_ble_eq_true rfl) ⟨rfl, rfl, rfl⟩
    · replace hf := if_t hf c10
      refine r_iconst (v := (2 : Int32)) dX7_imageColumn_13 (by decide) ?_
      refine r_aload_n dX7_imageColumn_14 rfl ?_
      refine g7_1 dX7_imageColumn_15 wd_297 ho0.1 ?_
      refine r_imul dX7_imageColumn_18 ?_
      refine r_iconst (v := (1 : Int32)) dX7_imageColumn_19 (by decide) ?_
      refine r_isub dX7_imageColumn_20 ?_
      refine r_iload_n dX7_imageColumn_21 rfl ?_
      refine r_isub dX7_imageColumn_22 ?_
      refine r_goto (tgt := 27) dX7_imageColumn_23 (by decide) ?_
      have hr := Option.some.inj hf
      subst hr
      exact r_iret dX7_imageColumn_27 rfl (Nat.le_of_ble_eq_true rfl) (Nat.le_of_ble_eq_true rfl) ⟨rfl, rfl, rfl⟩
  · replace hf := if_t hf c1
    refine r_iconst (v := (-1 : Int32)) dX7_imageColumn_4 (by decide) ?_
    refine r_iload_n dX7_imageColumn_5 rfl ?_
    refine r_isub dX7_imageColumn_6 ?_
    have hr := Option.some.inj hf
    subst hr
    exact r_iret dX7_imageColumn_7 rfl (Nat.le_of_ble_eq_true rfl) (Nat.le_of_ble_eq_true rfl) ⟨rfl, rfl, rfl⟩
def F_X7_imageRow (n : Nat) (o0 : Nat) (I : gI) (a1 : Int32) (a2 : Int32) : Option (Int32) := (if a1 = (2 : Int32) then some ((-1 : Int32) - a2) else (if a1 = (3 : Int32) then some ((((2 : Int32) * (I o0 2)) - (1 : Int32)) - a2) else some a2))
set_option maxHeartbeats 4000000 in
set_option maxRecDepth 100000 in
theorem ct_X7_imageRow {G : gG} {lay : Nat → Nat × Nat} {T0 T1 : Nat} {Dd : Nat → Nat → UInt64} {I : gI} {J : gJ} {K : gI} {N : gJ} {sz n : Nat} {o0 : Nat} {a1 : Int32} {a2 : Int32} (hs : G.1.stackTraces = false) (hE : gLay lay) (ho0 : gTank lay o0) {r : Int32} (hf : F_X7_imageRow n o0 I a1 a2 = some r) : gCt G mX7_imageRow [.ref (G.2.2.1 + o0), .int a1, .int a2] (fO G (lay, T0, T1, Dd) I J K N) sz (gR (some (.int r)) (fO G (lay, T0, T1, Dd) I J K N) sz) := by
  unfold F_X7_imageRow at hf
  refine gCt.of [some (.ref (G.2.2.1 + o0)), some (.int a1), some (.int a2)] (by decide +kernel) rfl hs rfl (Nat.le_of_ble_eq_true rfl) ?_
  refine r_iload_n dX7_imageRow_0 rfl ?_
  refine r_iconst (v := (2 : Int32)) dX7_imageRow_1 (by decide) ?_
  refine r_icmp_ne (tgt := 9) dX7_imageRow_2 (by decide) (fun c2 => ?_) (fun c2 => ?_)
  · replace hf := if_f hf c2
    refine r_iload_n dX7_imageRow_9 rfl ?_
    refine r_iconst (v := (3 : Int32)) dX7_imageRow_10 (by decide) ?_
    refine r_icmp_ne (tgt := 27) dX7_imageRow_11 (by decide) (fun c11 => ?_) (fun c11 => ?_)
    · replace hf := if_f hf c11
      refine r_iload_n dX7_imageRow_27 rfl ?_
      have hr := Option.some.inj hf
      subst hr
      exact r_iret dX7_imageRow_28 rfl (Nat.le_of_ble_eq_true rfl) (Nat.le_of_ble_eq_true rfl) ⟨rfl, rfl, rfl⟩
    · replace hf := if_t hf c11
      refine r_iconst (v := (2 : Int32)) dX7_imageRow_14 (by decide) ?_
      refine r_aload_n dX7_imageRow_15 rfl ?_
      refine g7_2 dX7_imageRow_16 wd_300 ho0.1 ?_
      refine r_imul dX7_imageRow_19 ?_
      refine r_iconst (v := (1 : Int32)) dX7_imageRow_20 (by decide) ?_
      refine r_isub dX7_imageRow_21 ?_
      refine r_iload_n dX7_imageRow_22 rfl ?_
      refine r_isub dX7_imageRow_23 ?_
      refine r_goto (tgt := 28) dX7_imageRow_24 (by decide) ?_
      have hr := Option.some.inj hf
      subst hr
      exact r_iret dX7_imageRow_28 rfl (Nat.le_of_ble_eq_true rfl) (Nat.le_of_ble_eq_true rfl) ⟨rfl, rfl, rfl⟩
  · replace hf := if_t hf c2
    refine r_iconst (v := (-1 : Int32)) dX7_imageRow_5 (by decide) ?_
    refine r_iload_n dX7_imageRow_6 rfl ?_
    refine r_isub dX7_imageRow_7 ?_
    have hr := Option.some.inj hf
    subst hr
    exact r_iret dX7_imageRow_8 rfl (Nat.le_of_ble_eq_true rfl) (Nat.le_of_ble_eq_true rfl) ⟨rfl, rfl, rfl⟩
def L_X8_emitted (n : Nat) (o0 : Nat) (I : gI) (a1 : Int32) (a2 : Int32) : Nat → Nat → Int32 → Option (Int32)
  | 0, _, _ => none
  | j + 1, 0, x3 => (if (I o0 8) ≤ x3 then (if (I o0 4) ≤ 0 then (if (I o0 6) ≤ 0 then some a1 else gd (¬ (I o0 6) = 0) (some ((a1 * (jmin ((a2 - (I o0 2)) + (1 : Int32)) (I o0 6))) / (I o0 6)))) else gd (¬ ((I o0 4) + (I o0 5)) = 0) ((if (I o0 4) ≤ ((a2 - (I o0 2)) - (a2 - (I o0 2)) / ((I o0 4) + (I o0 5)) * ((I o0 4) + (I o0 5))) then some (0 : Int32) else some a1))) else gv x3 6 ((if a2 < (I (o0 + 1) (Int32.toNatClampNeg x3)) then L_X8_emitted n o0 I a1 a2 j 0 (x3 + (1 : Int32)) else gv x3 6 ((if (I (o0 + 2) (Int32.toNatClampNeg x3)) < a2 then L_X8_emitted n o0 I a1 a2 j 0 (x3 + (1 : Int32)) else some (0 : Int32))))))
  | _ + 1, _, _ => none
theorem L_X8_emitted_e0 (n j : Nat) (o0 : Nat) (I : gI) (a1 : Int32) (a2 : Int32) (x3 : Int32) : L_X8_emitted n o0 I a1 a2 (j + 1) 0 x3 = (if (I o0 8) ≤ x3 then (if (I o0 4) ≤ 0 then (if (I o0 6) ≤ 0 then some a1 else gd (¬ (I o0 6) = 0) (some ((a1 * (jmin ((a2 - (I o0 2)) + (1 : Int32)) (I o0 6))) / (I o0 6)))) else gd (¬ ((I o0 4) + (I o0 5)) = 0) ((if (I o0 4) ≤ ((a2 - (I o0 2)) - (a2 - (I o0 2)) / ((I o0 4) + (I o0 5)) * ((I o0 4) + (I o0 5))) then some (0 : Int32) else some a1))) else gv x3 6 ((if a2 < (I (o0 + 1) (Int32.toNatClampNeg x3)) then L_X8_emitted n o0 I a1 a2 j 0 (x3 + (1 : Int32)) else gv x3 6 ((if (I (o0 + 2) (Int32.toNatClampNeg x3)) < a2 then L_X8_emitted n o0 I a1 a2 j 0 (x3 + (1 : Int32)) else some (0 : Int32)))))) := rfl
set_option maxHeartbeats 4000000 in
set_option maxRecDepth 100000 in
theorem cL_X8_emitted {G : gG} {lay : Nat → Nat × Nat} {T0 T1 : Nat} {Dd : Nat → Nat → UInt64} {I : gI} {J : gJ} {K : gI} {N : gJ} {sz n : Nat} {o0 : Nat} {a1 : Int32} {a2 : Int32} (hs : G.1.stackTraces = false) (hE : gLay lay) (ho0 : gTrain lay o0) : ∀ j : Nat, (∀ (x3 : Int32) (r : Int32), L_X8_emitted n o0 I a1 a2 j 0 x3 = some r → gAt G mX8_emitted (gQp G mX8_emitted (gR (some (.int r)) (fO G (lay, T0, T1, Dd) I J K N) sz)) 20 [some (.ref (G.2.2.1 + o0)), some (.int a1), some (.int a2), some (.int x3)] [] (fO G (lay, T0, T1, Dd) I J K N) sz 0 0) := by
  intro j
  induction j with
  | zero => exact fun _ _ hf => (by cases hf)
  | succ j ih =>
    refine ?_
    · intro x3 r hf
      rw [L_X8_emitted_e0] at hf
      refine r_iload_n dX8_emitted_20 rfl ?_
      refine r_aload_n dX8_emitted_21 rfl ?_
      refine g8_8 dX8_emitted_22 wd_242 ho0.1 ?_
      refine r_icmp_ge (tgt := 56) dX8_emitted_25 (by decide) (fun c25 => ?_) (fun c25 => ?_)
      · replace hf := if_t hf c25
        refine r_aload_n dX8_emitted_56 rfl ?_
        refine g8_4 dX8_emitted_57 wd_234 ho0.1 ?_
        refine r_if_le (tgt := 92) dX8_emitted_60 (by decide) (fun c60 => ?_) (fun c60 => ?_)
        · replace hf := if_t hf c60
          refine r_aload_n dX8_emitted_92 rfl ?_
          refine g8_6 dX8_emitted_93 wd_238 ho0.1 ?_
          refine r_if_le (tgt := 122) dX8_emitted_96 (by decide) (fun c96 => ?_) (fun c96 => ?_)
          · replace hf := if_t hf c96
            refine r_iload_n dX8_emitted_122 rfl ?_
            have hr := Option.some.inj hf
            subst hr
            exact r_iret dX8_emitted_123 rfl (Nat.le_of_ble_eq_true rfl) (Nat.le_of_ble_eq_true rfl) ⟨rfl, rfl, rfl⟩
          · replace hf := if_f hf c96
            refine r_iload_n dX8_emitted_99 rfl ?_
            refine r_iload_n dX8_emitted_100 rfl ?_
            refine r_aload_n dX8_emitted_101 rfl ?_
            refine g8_2 dX8_emitted_102 wd_227 ho0.1 ?_
            refine r_isub dX8_emitted_105 ?_
            refine r_iconst (v := (1 : Int32)) dX8_emitted_106 (by decide) ?_
            refine r_iadd dX8_emitted_107 ?_
            refine r_aload_n dX8_emitted_108 rfl ?_
            refine g8_6 dX8_emitted_109 wd_238 ho0.1 ?_
            refine r_mmin dX8_emitted_112 wd_609 wd_541 wd_54 wMath_mmin (Nat.le_of_ble_eq_true rfl) (Nat.le_of_ble_eq_true rfl) (Nat.le_of_ble_eq_true rfl) (Nat.le_of_ble_eq_true rfl) ?_
            refine r_imul dX8_emitted_115 ?_
            refine r_aload_n dX8_emitted_116 rfl ?_
            refine g8_6 dX8_emitted_117 wd_238 ho0.1 ?_
            obtain ⟨h120, hf⟩ := gd_of hf
            refine r_idiv dX8_emitted_120 h120 ?_
            have hr := Option.some.inj hf
            subst hr
            exact r_iret dX8_emitted_121 rfl (Nat.le_of_ble_eq_true rfl) (Nat.le_of_ble_eq_true rfl) ⟨rfl, rfl, rfl⟩
        · replace hf := if_f hf c60
          refine r_iload_n dX8_emitted_63 rfl ?_
          refine r_aload_n dX8_emitted_64 rfl ?_
          refine g8_2 dX8_emitted_65 wd_227 ho0.1 ?_
          refine r_isub dX8_emitted_68 ?_
          refine r_aload_n dX8_emitted_69 rfl ?_
          refine g8_4 dX8_emitted_70 wd_234 ho0.1 ?_
          refine r_aload_n dX8_emitted_73 rfl ?_
          refine g8_5 dX8_emitted_74 wd_236 ho0.1 ?_
          refine r_iadd dX8_emitted_77 ?_
          obtain ⟨h78, hf⟩ := gd_of hf
          refine r_irem dX8_emitted_78 h78 ?_
          refine r_aload_n dX8_emitted_79 rfl ?_
          refine g8_4 dX8_emitted_80 wd_234 ho0.1 ?_
          refine r_icmp_ge (tgt := 90) dX8_emitted_83 (by decide) (fun c83 => ?_) (fun c83 => ?_)
          · replace hf := if_t hf c83
            refine r_iconst (v := (0 : Int32)) dX8_emitted_90 (by decide) ?_
            have hr := Option.some.inj hf
            subst hr
            exact r_iret dX8_emitted_91 rfl (Nat.le_of_ble_eq_true rfl) (Nat.le_of_ble_eq_true rfl) ⟨rfl, rfl, rfl⟩
          · replace hf := if_f hf c83
            refine r_iload_n dX8_emitted_86 rfl ?_
            refine r_goto (tgt := 91) dX8_emitted_87 (by decide) ?_
            have hr := Option.some.inj hf
            subst hr
            exact r_iret dX8_emitted_91 rfl (Nat.le_of_ble_eq_true rfl) (Nat.le_of_ble_eq_true rfl) ⟨rfl, rfl, rfl⟩
      · replace hf := if_f hf c25
        refine r_iload_n dX8_emitted_28 rfl ?_
        refine r_aload_n dX8_emitted_29 rfl ?_
        refine g8_9 dX8_emitted_30 wd_244 ho0.1 ?_
        refine r_iload_n dX8_emitted_33 rfl ?_
        obtain ⟨h34, hf⟩ := gv_of hf
        refine a_iald dX8_emitted_34 ho0.2.1 h34 ?_
        refine r_icmp_lt (tgt := 50) dX8_emitted_35 (by decide) (fun c35 => ?_) (fun c35 => ?_)
        · replace hf := if_t hf c35
          refine r_iincv (v := (x3 + (1 : Int32))) dX8_emitted_50 rfl rfl (by decide) rfl ?_
          refine r_goto (tgt := 20) dX8_emitted_53 (by decide) ?_
          exact r_widen (k2 := 0) (n2 := 0) (Nat.le_of_ble_eq_true rfl) (Nat.le_of_ble_eq_true rfl) (r_mask [true, true, true, true] rfl (ih (x3 + (1 : Int32)) r hf))
        · replace hf := if_f hf c35
          refine r_iload_n dX8_emitted_38 rfl ?_
          refine r_aload_n dX8_emitted_39 rfl ?_
          refine g8_10 dX8_emitted_40 wd_245 ho0.1 ?_
          refine r_iload_n dX8_emitted_43 rfl ?_
          obtain ⟨h44, hf⟩ := gv_of hf
          refine a_iald dX8_emitted_44 ho0.2.2 h44 ?_
          refine r_icmp_gt (tgt := 50) dX8_emitted_45 (by decide) (fun c45 => ?_) (fun c45 => ?_)
          · replace hf := if_t hf c45
            refine r_iincv (v := (x3 + (1 : Int32))) dX8_emitted_50 rfl rfl (by decide) rfl ?_
            refine r_goto (tgt := 20) dX8_emitted_53 (by decide) ?_
            exact r_widen (k2 := 0) (n2 := 0) (Nat.le_of_ble_eq_true rfl) (Nat.le_of_ble_eq_true rfl) (r_mask [true, true, true, true] rfl (ih (x3 + (1 : Int32)) r hf))
          · replace hf := if_f hf c45
            refine r_iconst (v := (0 : Int32)) dX8_emitted_48 (by decide) ?_
            have hr := Option.some.inj hf
            subst hr
            exact r_iret dX8_emitted_49 rfl (Nat.le_of_ble_eq_true rfl) (Nat.le_of_ble_eq_true rfl) ⟨rfl, rfl, rfl⟩
def F_X8_emitted (n : Nat) (o0 : Nat) (I : gI) (a1 : Int32) (a2 : Int32) : Option (Int32) := (if a2 < (I o0 2) then some (0 : Int32) else (if a2 ≤ (I o0 3) then L_X8_emitted n o0 I a1 a2 n 0 (0 : Int32) else some (0 : Int32)))
set_option maxHeartbeats 4000000 in
set_option maxRecDepth 100000 in
theorem ct_X8_emitted {G : gG} {lay : Nat → Nat × Nat} {T0 T1 : Nat} {Dd : Nat → Nat → UInt64} {I : gI} {J : gJ} {K : gI} {N : gJ} {sz n : Nat} {o0 : Nat} {a1 : Int32} {a2 : Int32} (hs : G.1.stackTraces = false) (hE : gLay lay) (ho0 : gTrain lay o0) {r : Int32} (hf : F_X8_emitted n o0 I a1 a2 = some r) : gCt G mX8_emitted [.ref (G.2.2.1 + o0), .int a1, .int a2] (fO G (lay, T0, T1, Dd) I J K N) sz (gR (some (.int r)) (fO G (lay, T0, T1, Dd) I J K N) sz) := by
  unfold F_X8_emitted at hf
  refine gCt.of [some (.ref (G.2.2.1 + o0)), some (.int a1), some (.int a2), none] (by decide +kernel) rfl hs rfl (Nat.le_of_ble_eq_true rfl) ?_
  refine r_iload_n dX8_emitted_0 rfl ?_
  refine r_aload_n dX8_emitted_1 rfl ?_
  refine g8_2 dX8_emitted_2 wd_227 ho0.1 ?_
  refine r_icmp_lt (tgt := 16) dX8_emitted_5 (by decide) (fun c5 => ?_) (fun c5 => ?_)
  · replace hf := if_t hf c5
    refine r_iconst (v := (0 : Int32)) dX8_emitted_16 (by decide) ?_
    have hr := Option.some.inj hf
    subst hr
    exact r_iret dX8_emitted_17 rfl (Nat.le_of_ble_eq_true rfl) (Nat.le_of_ble_eq_true rfl) ⟨rfl, rfl, rfl⟩
  · replace hf := if_f hf c5
    refine r_iload_n dX8_emitted_8 rfl ?_
    refine r_aload_n dX8_emitted_9 rfl ?_
    refine g8_3 dX8_emitted_10 wd_231 ho0.1 ?_
    refine r_icmp_le (tgt := 18) dX8_emitted_13 (by decide) (fun c13 => ?_) (fun c13 => ?_)
    · replace hf := if_t hf c13
      refine r_iconst (v := (0 : Int32)) dX8_emitted_18 (by decide) ?_
      refine r_istore_n dX8_emitted_19 (by decide) rfl ?_
      exact r_widen (k2 := 0) (n2 := 0) (Nat.le_of_ble_eq_true rfl) (Nat.le_of_ble_eq_true rfl) (r_mask [true, true, true, true] rfl ((cL_X8_emitted hs hE ho0 n) (0 : Int32) r hf))
    · replace hf := if_f hf c13
      refine r_iconst (v := (0 : Int32)) dX8_emitted_16 (by decide) ?_
      have hr := Option.some.inj hf
      subst hr
      exact r_iret dX8_emitted_17 rfl (Nat.le_of_ble_eq_true rfl) (Nat.le_of_ble_eq_true rfl) ⟨rfl, rfl, rfl⟩
def F_X8_angleOf (n : Nat) (o0 : Nat) (I : gI) (a1 : Int32) (a2 : Int32) (a3 : Int32) : Option (Int32) := gd (¬ (I o0 1) = 0) (gd (¬ (I o0 0) = 0) (bd (F_J9_floorMod_7cf53 n ((a1 + (((360 : Int32) * a3) / (I o0 1))) - (((360 : Int32) * a2) / (I o0 0))) (360 : Int32)) (fun v30 => some v30)))
set_option maxHeartbeats 4000000 in
set_option maxRecDepth 100000 in
theorem ct_X8_angleOf {G : gG} {lay : Nat → Nat × Nat} {T0 T1 : Nat} {Dd : Nat → Nat → UInt64} {I : gI} {J : gJ} {K : gI} {N : gJ} {sz n : Nat} {o0 : Nat} {a1 : Int32} {a2 : Int32} {a3 : Int32} (hs : G.1.stackTraces = false) (hE : gLay lay) (ho0 : gTrain lay o0) {r : Int32} (hf : F_X8_angleOf n o0 I a1 a2 a3 = some r) : gCt G mX8_angleOf [.ref (G.2.2.1 + o0), .int a1, .int a2, .int a3] (fO G (lay, T0, T1, Dd) I J K N) sz (gR (some (.int r)) (fO G (lay, T0, T1, Dd) I J K N) sz) := by
  unfold F_X8_angleOf at hf
  refine gCt.of [some (.ref (G.2.2.1 + o0)), some (.int a1), some (.int a2), some (.int a3), none] (by decide +kernel) rfl hs rfl (Nat.le_of_ble_eq_true rfl) ?_
  refine r_iload_n dX8_angleOf_0 rfl ?_
  refine r_sipush (v := (360 : Int32)) dX8_angleOf_1 (by decide) ?_
  refine r_iload_n dX8_angleOf_4 rfl ?_
  refine r_imul dX8_angleOf_5 ?_
  refine r_aload_n dX8_angleOf_6 rfl ?_
  refine g8_1 dX8_angleOf_7 wd_224 ho0.1 ?_
  obtain ⟨h10, hf⟩ := gd_of hf
  refine r_idiv dX8_angleOf_10 h10 ?_
  refine r_iadd dX8_angleOf_11 ?_
  refine r_sipush (v := (360 : Int32)) dX8_angleOf_12 (by decide) ?_
  refine r_iload_n dX8_angleOf_15 rfl ?_
  refine r_imul dX8_angleOf_16 ?_
  refine r_aload_n dX8_angleOf_17 rfl ?_
  refine g8_0 dX8_angleOf_18 wd_221 ho0.1 ?_
  obtain ⟨h21, hf⟩ := gd_of hf
  refine r_idiv dX8_angleOf_21 h21 ?_
  refine r_isub dX8_angleOf_22 ?_
  refine r_istore dX8_angleOf_23 (by decide) rfl ?_
  refine r_iload dX8_angleOf_25 rfl ?_
  refine r_sipush (v := (360 : Int32)) dX8_angleOf_27 (by decide) ?_
  obtain ⟨v30, hc30, hf⟩ := bd_of hf
  refine r_cSi (rest := []) (ct_J9_floorMod_7cf53 hs hE hc30) dX8_angleOf_30 wd_614 zJ9_floorMod_7cf53 wd_615 rfl  rfl rfl ⟨Nat.le_of_ble_eq_true rfl, Nat.le_of_ble_eq_true rfl⟩ (Nat.le_of_ble_eq_true rfl) ⟨Nat.le_of_ble_eq_true rfl, Nat.le_of_ble_eq_true rfl⟩ ?_
  have hr := Option.some.inj hf
  subst hr
  exact r_iret dX8_angleOf_33 rfl (Nat.le_of_ble_eq_true rfl) (Nat.le_of_ble_eq_true rfl) ⟨rfl, rfl, rfl⟩
def F_X8_sineOf (n : Nat) (a0 : Int32) : Option (Int32) := (if (180 : Int32) ≤ a0 then gd (¬ ((40500 : Int32) - ((a0 - (180 : Int32)) * ((180 : Int32) - (a0 - (180 : Int32))))) = 0) ((if (180 : Int32) ≤ a0 then some (-(((4000 : Int32) * ((a0 - (180 : Int32)) * ((180 : Int32) - (a0 - (180 : Int32))))) / ((40500 : Int32) - ((a0 - (180 : Int32)) * ((180 : Int32) - (a0 - (180 : Int32))))))) else some (((4000 : Int32) * ((a0 - (180 : Int32)) * ((180 : Int32) - (a0 - (180 : Int32))))) / ((40500 : Int32) - ((a0 - (180 : Int32)) * ((180 : Int32) - (a0 - (180 : Int32)))))))) else gd (¬ ((40500 : Int32) - (a0 * ((180 : Int32) - a0))) = 0) ((if (180 : Int32) ≤ a0 then some (-(((4000 : Int32) * (a0 * ((180 : Int32) - a0))) / ((40500 : Int32) - (a0 * ((180 : Int32) - a0))))) else some (((4000 : Int32) * (a0 * ((180 : Int32) - a0))) / ((40500 : Int32) - (a0 * ((180 : Int32) - a0)))))))
set_option maxHeartbeats 4000000 in
set_option maxRecDepth 100000 in
theorem ct_X8_sineOf {G : gG} {lay : Nat → Nat × Nat} {T0 T1 : Nat} {Dd : Nat → Nat → UInt64} {I : gI} {J : gJ} {K : gI} {N : gJ} {sz n : Nat} {a0 : Int32} (hs : G.1.stackTraces = false) (hE : gLay lay) {r : Int32} (hf : F_X8_sineOf n a0 = some r) : gCt G mX8_sineOf [.int a0] (fO G (lay, T0, T1, Dd) I J K N) sz (gR (some (.int r)) (fO G (lay, T0, T1, Dd) I J K N) sz) := by
  unfold F_X8_sineOf at hf
  refine gCt.of [some (.int a0), none, none, none] (by decide +kernel) rfl hs rfl (Nat.le_of_ble_eq_true rfl) ?_
  refine r_iload_n dX8_sineOf_0 rfl ?_
  refine r_sipush (v := (180 : Int32)) dX8_sineOf_1 (by decide) ?_
  refine r_icmp_ge (tgt := 11) dX8_sineOf_4 (by decide) (fun c4 => ?_) (fun c4 => ?_)
  · replace hf := if_t hf c4
    refine r_iload_n dX8_sineOf_11 rfl ?_
    refine r_sipush (v := (180 : Int32)) dX8_sineOf_12 (by decide) ?_
    refine r_isub dX8_sineOf_15 ?_
    refine r_istore_n dX8_sineOf_16 (by decide) rfl ?_
    refine r_iload_n dX8_sineOf_17 rfl ?_
    refine r_sipush (v := (180 : Int32)) dX8_sineOf_18 (by decide) ?_
    refine r_iload_n dX8_sineOf_21 rfl ?_
    refine r_isub dX8_sineOf_22 ?_
    refine r_imul dX8_sineOf_23 ?_
    refine r_istore_n dX8_sineOf_24 (by decide) rfl ?_
    refine r_sipush (v := (4000 : Int32)) dX8_sineOf_25 (by decide) ?_
    refine r_iload_n dX8_sineOf_28 rfl ?_
    refine r_imul dX8_sineOf_29 ?_
    refine r_ldc dX8_sineOf_30 wd_624 ?_
    refine r_iload_n dX8_sineOf_32 rfl ?_
    refine r_isub dX8_sineOf_33 ?_
    obtain ⟨h34, hf⟩ := gd_of hf
    refine r_idiv dX8_sineOf_34 h34 ?_
    refine r_istore_n dX8_sineOf_35 (by decide) rfl ?_
    refine r_iload_n dX8_sineOf_36 rfl ?_
    refine r_sipush (v := (180 : Int32)) dX8_sineOf_37 (by decide) ?_
    refine r_icmp_ge (tgt := 47) dX8_sineOf_40 (by decide) (fun c40 => ?_) (fun c40 => ?_)
    · replace hf := if_t hf c40
      refine r_iload_n dX8_sineOf_47 rfl ?_
      refine r_ineg dX8_sineOf_48 ?_
      have hr := Option.some.inj hf
      subst hr
      exact r_iret dX8_sineOf_49 rfl (Nat.le_of_ble_eq_true rfl) (Nat.le_of_ble_eq_true rfl) ⟨rfl, rfl, rfl⟩
    · replace hf := if_f hf c40
      refine r_iload_n dX8_sineOf_43 rfl ?_
      refine r_goto (tgt := 49) dX8_sineOf_44 (by decide) ?_
      have hr := Option.some.inj hf
      subst hr
      exact r_iret dX8_sineOf_49 rfl (Nat.le_of_ble_eq_true rfl) (Nat.le_of_ble_eq_true rfl) ⟨rfl, rfl, rfl⟩
  · replace hf := if_f hf c4
    refine r_iload_n dX8_sineOf_7 rfl ?_
    refine r_goto (tgt := 16) dX8_sineOf_8 (by decide) ?_
    refine r_istore_n dX8_sineOf_16 (by decide) rfl ?_
    refine r_iload_n dX8_sineOf_17 rfl ?_
    refine r_sipush (v := (180 : Int32)) dX8_sineOf_18 (by decide) ?_
    refine r_iload_n dX8_sineOf_21 rfl ?_
    refine r_isub dX8_sineOf_22 ?_
    refine r_imul dX8_sineOf_23 ?_
    refine r_istore_n dX8_sineOf_24 (by decide) rfl ?_
    refine r_sipush (v := (4000 : Int32)) dX8_sineOf_25 (by decide) ?_
    refine r_iload_n dX8_sineOf_28 rfl ?_
    refine r_imul dX8_sineOf_29 ?_
    refine r_ldc dX8_sineOf_30 wd_624 ?_
    refine r_iload_n dX8_sineOf_32 rfl ?_
    refine r_isub dX8_sineOf_33 ?_
    obtain ⟨h34, hf⟩ := gd_of hf
    refine r_idiv dX8_sineOf_34 h34 ?_
    refine r_istore_n dX8_sineOf_35 (by decide) rfl ?_
    refine r_iload_n dX8_sineOf_36 rfl ?_
    refine r_sipush (v := (180 : Int32)) dX8_sineOf_37 (by decide) ?_
    refine r_icmp_ge (tgt := 47) dX8_sineOf_40 (by decide) (fun c40 => ?_) (fun c40 => ?_)
    · replace hf := if_t hf c40
      refine r_iload_n dX8_sineOf_47 rfl ?_
      refine r_ineg dX8_sineOf_48 ?_
      have hr := Option.some.inj hf
      subst hr
      exact r_iret dX8_sineOf_49 rfl (Nat.le_of_ble_eq_true rfl) (Nat.le_of_ble_eq_true rfl) ⟨rfl, rfl, rfl⟩
    · replace hf := if_f hf c40
      refine r_iload_n dX8_sineOf_43 rfl ?_
      refine r_goto (tgt := 49) dX8_sineOf_44 (by decide) ?_
      have hr := Option.some.inj hf
      subst hr
      exact r_iret dX8_sineOf_49 rfl (Nat.le_of_ble_eq_true rfl) (Nat.le_of_ble_eq_true rfl) ⟨rfl, rfl, rfl⟩
def F_X8_valueOf (n : Nat) (o0 : Nat) (I : gI) (a1 : Int32) : Option (Int32) := (if (I o0 7) = (1 : Int32) then (if (180 : Int32) ≤ a1 then some (-1000 : Int32) else some (1000 : Int32)) else (if (I o0 7) = (2 : Int32) then some (((a1 * (1000 : Int32)) / (180 : Int32)) - (1000 : Int32)) else bd (F_X8_sineOf n a1) (fun v48 => some v48)))
set_option maxHeartbeats 4000000 in
set_option maxRecDepth 100000 in
theorem ct_X8_valueOf {G : gG} {lay : Nat → Nat × Nat} {T0 T1 : Nat} {Dd : Nat → Nat → UInt64} {I : gI} {J : gJ} {K : gI} {N : gJ} {sz n : Nat} {o0 : Nat} {a1 : Int32} (hs : G.1.stackTraces = false) (hE : gLay lay) (ho0 : gTrain lay o0) {r : Int32} (hf : F_X8_valueOf n o0 I a1 = some r) : gCt G mX8_valueOf [.ref (G.2.2.1 + o0), .int a1] (fO G (lay, T0, T1, Dd) I J K N) sz (gR (some (.int r)) (fO G (lay, T0, T1, Dd) I J K N) sz) := by
  unfold F_X8_valueOf at hf
  refine gCt.of [some (.ref (G.2.2.1 + o0)), some (.int a1)] (by decide +kernel) rfl hs rfl (Nat.le_of_ble_eq_true rfl) ?_
  refine r_aload_n dX8_valueOf_0 rfl ?_
  refine g8_7 dX8_valueOf_1 wd_241 ho0.1 ?_
  refine r_iconst (v := (1 : Int32)) dX8_valueOf_4 (by decide) ?_
  refine r_icmp_ne (tgt := 25) dX8_valueOf_5 (by decide) (fun c5 => ?_) (fun c5 => ?_)
  · replace hf := if_f hf c5
    refine r_aload_n dX8_valueOf_25 rfl ?_
    refine g8_7 dX8_valueOf_26 wd_241 ho0.1 ?_
    refine r_iconst (v := (2 : Int32)) dX8_valueOf_29 (by decide) ?_
    refine r_icmp_ne (tgt := 47) dX8_valueOf_30 (by decide) (fun c30 => ?_) (fun c30 => ?_)
    · replace hf := if_f hf c30
      refine r_iload_n dX8_valueOf_47 rfl ?_
      obtain ⟨v48, hc48, hf⟩ := bd_of hf
      refine r_cSi (rest := []) (ct_X8_sineOf hs hE hc48) dX8_valueOf_48 wd_621 zX8_sineOf wd_622 rfl  rfl rfl ⟨Nat.le_of_ble_eq_true rfl, Nat.le_of_ble_eq_true rfl⟩ (Nat.le_of_ble_eq_true rfl) ⟨Nat.le_of_ble_eq_true rfl, Nat.le_of_ble_eq_true rfl⟩ ?_
      have hr := Option.some.inj hf
      subst hr
      exact r_iret dX8_valueOf_51 rfl (Nat.le_of_ble_eq_true rfl) (Nat.le_of_ble_eq_true rfl) ⟨rfl, rfl, rfl⟩
    · replace hf := if_t hf c30
      refine r_iload_n dX8_valueOf_33 rfl ?_
      refine r_sipush (v := (1000 : Int32)) dX8_valueOf_34 (by decide) ?_
      refine r_imul dX8_valueOf_37 ?_
      refine r_sipush (v := (180 : Int32)) dX8_valueOf_38 (by decide) ?_
      refine r_idiv dX8_valueOf_41 (by decide) ?_
      refine r_sipush (v := (1000 : Int32)) dX8_valueOf_42 (by decide) ?_
      refine r_isub dX8_valueOf_45 ?_
      have hr := Option.some.inj hf
      subst hr
      exact r_iret dX8_valueOf_46 rfl (Nat.le_of_ble_eq_true rfl) (Nat.le_of_ble_eq_true rfl) ⟨rfl, rfl, rfl⟩
  · replace hf := if_t hf c5
    refine r_iload_n dX8_valueOf_8 rfl ?_
    refine r_sipush (v := (180 : Int32)) dX8_valueOf_9 (by decide) ?_
    refine r_icmp_ge (tgt := 21) dX8_valueOf_12 (by decide) (fun c12 => ?_) (fun c12 => ?_)
    · replace hf := if_t hf c12
      refine r_sipush (v := (-1000 : Int32)) dX8_valueOf_21 (by decide) ?_
      have hr := Option.some.inj hf
      subst hr
      exact r_iret dX8_valueOf_24 rfl (Nat.le_of_ble_eq_true rfl) (Nat.le_of_ble_eq_true rfl) ⟨rfl, rfl, rfl⟩
    · replace hf := if_f hf c12
      refine r_sipush (v := (1000 : Int32)) dX8_valueOf_15 (by decide) ?_
      refine r_goto (tgt := 24) dX8_valueOf_18 (by decide) ?_
      have hr := Option.some.inj hf
      subst hr
      exact r_iret dX8_valueOf_24 rfl (Nat.le_of_ble_eq_true rfl) (Nat.le_of_ble_eq_true rfl) ⟨rfl, rfl, rfl⟩
def F_X8_brings (n : Nat) (o0 : Nat) (I : gI) (a1 : Int32) (a2 : Int32) (a3 : Int32) (a4 : Int32) (a5 : Int32) : Option (Int32) := bd (F_X8_delayOf n o0 I a3) (fun v6 => bd (F_X8_emitted n o0 I a1 (a4 - v6)) (fun v10 => (if v10 = 0 then some (0 : Int32) else (if a5 ≤ 0 then bd (F_X8_angleOf n o0 I a2 a3 a4) (fun v47 => bd (F_X8_valueOf n o0 I v47) (fun v50 => some ((v10 * v50) / (1000 : Int32)))) else gd (¬ (a5 + a3) = 0) (bd (F_X8_angleOf n o0 I a2 a3 a4) (fun v47 => bd (F_X8_valueOf n o0 I v47) (fun v50 => some ((((v10 * a5) / (a5 + a3)) * v50) / (1000 : Int32)))))))))
set_option maxHeartbeats 4000000 in
set_option maxRecDepth 100000 in
theorem ct_X8_brings {G : gG} {lay : Nat → Nat × Nat} {T0 T1 : Nat} {Dd : Nat → Nat → UInt64} {I : gI} {J : gJ} {K : gI} {N : gJ} {sz n : Nat} {o0 : Nat} {a1 : Int32} {a2 : Int32} {a3 : Int32} {a4 : Int32} {a5 : Int32} (hs : G.1.stackTraces = false) (hE : gLay lay) (ho0 : gTrain lay o0) {r : Int32} (hf : F_X8_brings n o0 I a1 a2 a3 a4 a5 = some r) : gCt G mX8_brings [.ref (G.2.2.1 + o0), .int a1, .int a2, .int a3, .int a4, .int a5] (fO G (lay, T0, T1, Dd) I J K N) sz (gR (some (.int r)) (fO G (lay, T0, T1, Dd) I J K N) sz) := by
  unfold F_X8_brings at hf
  refine gCt.of [some (.ref (G.2.2.1 + o0)), some (.int a1), some (.int a2), some (.int a3), some (.int a4), some (.int a5), none] (by decide +kernel) rfl hs rfl (Nat.le_of_ble_eq_true rfl) ?_
  refine r_aload_n dX8_brings_0 rfl ?_
  refine r_iload_n dX8_brings_1 rfl ?_
  refine r_iload dX8_brings_2 rfl ?_
  refine r_aload_n dX8_brings_4 rfl ?_
  refine r_iload_n dX8_brings_5 rfl ?_
  obtain ⟨v6, hc6, hf⟩ := bd_of hf
  refine r_cVi (rest := [.int a4, .int a1, .ref (G.2.2.1 + o0)]) (ct_X8_delayOf hs hE ho0 hc6) dX8_brings_6 wd_601 zX8_delayOf wd_602 wd_603 rfl  rfl rfl (fo8 ho0.1) rfl rfl ⟨Nat.le_of_ble_eq_true rfl, Nat.le_of_ble_eq_true rfl⟩ (Nat.le_of_ble_eq_true rfl) ⟨Nat.le_of_ble_eq_true rfl, Nat.le_of_ble_eq_true rfl⟩ ?_
  refine r_isub dX8_brings_9 ?_
  obtain ⟨v10, hc10, hf⟩ := bd_of hf
  refine r_cVi (rest := []) (ct_X8_emitted hs hE ho0 hc10) dX8_brings_10 wd_605 zX8_emitted wd_606 wd_607 rfl  rfl rfl (fo8 ho0.1) rfl rfl ⟨Nat.le_of_ble_eq_true rfl, Nat.le_of_ble_eq_true rfl⟩ (Nat.le_of_ble_eq_true rfl) ⟨Nat.le_of_ble_eq_true rfl, Nat.le_of_ble_eq_true rfl⟩ ?_
  refine r_istore dX8_brings_13 (by decide) rfl ?_
  refine r_iload dX8_brings_15 rfl ?_
  refine r_if_ne (tgt := 22) dX8_brings_17 (by decide) (fun c17 => ?_) (fun c17 => ?_)
  · replace hf := if_f hf c17
    refine r_iload dX8_brings_22 rfl ?_
    refine r_if_le (tgt := 39) dX8_brings_24 (by decide) (fun c24 => ?_) (fun c24 => ?_)
    · replace hf := if_t hf c24
      refine r_iload dX8_brings_39 rfl ?_
      refine r_aload_n dX8_brings_41 rfl ?_
      refine r_aload_n dX8_brings_42 rfl ?_
      refine r_iload_n dX8_brings_43 rfl ?_
      refine r_iload_n dX8_brings_44 rfl ?_
      refine r_iload dX8_brings_45 rfl ?_
      obtain ⟨v47, hc47, hf⟩ := bd_of hf
      refine r_cVi (rest := [.ref (G.2.2.1 + o0), .int v10]) (ct_X8_angleOf hs hE ho0 hc47) dX8_brings_47 wd_610 zX8_angleOf wd_611 wd_612 rfl  rfl rfl (fo8 ho0.1) rfl rfl ⟨Nat.le_of_ble_eq_true rfl, Nat.le_of_ble_eq_true rfl⟩ (Nat.le_of_ble_eq_true rfl) ⟨Nat.le_of_ble_eq_true rfl, Nat.le_of_ble_eq_true rfl⟩ ?_
      obtain ⟨v50, hc50, hf⟩ := bd_of hf
      refine r_cVi (rest := [.int v10]) (ct_X8_valueOf hs hE ho0 hc50) dX8_brings_50 wd_617 zX8_valueOf wd_618 wd_619 rfl  rfl rfl (fo8 ho0.1) rfl rfl ⟨Nat.le_of_ble_eq_true rfl, Nat.le_of_ble_eq_true rfl⟩ (Nat.le_of_ble_eq_true rfl) ⟨Nat.le_of_ble_eq_true rfl, Nat.le_of_ble_eq_true rfl⟩ ?_
      refine r_imul dX8_brings_53 ?_
      refine r_sipush (v := (1000 : Int32)) dX8_brings_54 (by decide) ?_
      refine r_idiv dX8_brings_57 (by decide) ?_
      have hr := Option.some.inj hf
      subst hr
      exact r_iret dX8_brings_58 rfl (Nat.le_of_ble_eq_true rfl) (Nat.le_of_ble_eq_true rfl) ⟨rfl, rfl, rfl⟩
    · replace hf := if_f hf c24
      refine r_iload dX8_brings_27 rfl ?_
      refine r_iload dX8_brings_29 rfl ?_
      refine r_imul dX8_brings_31 ?_
      refine r_iload dX8_brings_32 rfl ?_
      refine r_iload_n dX8_brings_34 rfl ?_
      refine r_iadd dX8_brings_35 ?_
      obtain ⟨h36, hf⟩ := gd_of hf
      refine r_idiv dX8_brings_36 h36 ?_
      refine r_istore dX8_brings_37 (by decide) rfl ?_
      refine r_iload dX8_brings_39 rfl ?_
      refine r_aload_n dX8_brings_41 rfl ?_
      refine r_aload_n dX8_brings_42 rfl ?_
      refine r_iload_n dX8_brings_43 rfl ?_
      refine r_iload_n dX8_brings_44 rfl ?_
      refine r_iload dX8_brings_45 rfl ?_
      obtain ⟨v47, hc47, hf⟩ := bd_of hf
      refine r_cVi (rest := [.ref (G.2.2.1 + o0), .int ((v10 * a5) / (a5 + a3))]) (ct_X8_angleOf hs hE ho0 hc47) dX8_brings_47 wd_610 zX8_angleOf wd_611 wd_612 rfl  rfl rfl (fo8 ho0.1) rfl rfl ⟨Nat.le_of_ble_eq_true rfl, Nat.le_of_ble_eq_true rfl⟩ (Nat.le_of_ble_eq_true rfl) ⟨Nat.le_of_ble_eq_true rfl, Nat.le_of_ble_eq_true rfl⟩ ?_
      obtain ⟨v50, hc50, hf⟩ := bd_of hf
      refine r_cVi (rest := [.int ((v10 * a5) / (a5 + a3))]) (ct_X8_valueOf hs hE ho0 hc50) dX8_brings_50 wd_617 zX8_valueOf wd_618 wd_619 rfl  rfl rfl (fo8 ho0.1) rfl rfl ⟨Nat.le_of_ble_eq_true rfl, Nat.le_of_ble_eq_true rfl⟩ (Nat.le_of_ble_eq_true rfl) ⟨Nat.le_of_ble_eq_true rfl, Nat.le_of_ble_eq_true rfl⟩ ?_
      refine r_imul dX8_brings_53 ?_
      refine r_sipush (v := (1000 : Int32)) dX8_brings_54 (by decide) ?_
      refine r_idiv dX8_brings_57 (by decide) ?_
      have hr := Option.some.inj hf
      subst hr
      exact r_iret dX8_brings_58 rfl (Nat.le_of_ble_eq_true rfl) (Nat.le_of_ble_eq_true rfl) ⟨rfl, rfl, rfl⟩
  · replace hf := if_t hf c17
    refine r_iconst (v := (0 : Int32)) dX8_brings_20 (by decide) ?_
    have hr := Option.some.inj hf
    subst hr
    exact r_iret dX8_brings_21 rfl (Nat.le_of_ble_eq_true rfl) (Nat.le_of_ble_eq_true rfl) ⟨rfl, rfl, rfl⟩
def L_X7_partOf (n : Nat) (o0 o1 : Nat) (I : gI) (a2 : Int32) (a3 : Int32) (a4 : Int32) (a5 : Int32) : Nat → Nat → Nat → Int32 → Int32 → Int32 → Int32 → Int32 → Int32 → Option (Int32)
  | 0, _, _, _, _, _, _, _, _ => none
  | j + 1, 0, q6, x7, x8, x9, x10, x11, x12 => (if (I o0 2) ≤ x12 then (if (I o1 1) = 0 then some (0 : Int32) else bd (F_J6_bitCount_0f7a4 n (I o1 1)) (fun v160 => gd (¬ v160 = 0) (some (x11 / v160)))) else bd (F_X6_hasOpen n o1 I x12) (fun v94 => (if v94 = 0 then L_X7_partOf n o0 o1 I a2 a3 a4 a5 j 0 q6 x7 x8 x9 x10 x11 (x12 + (1 : Int32)) else bd (F_X7_lengthThrough n o0 I x12 x9 x10 a3 a4) (fun v110 => bd (F_X8_brings n q6 I x7 x8 v110 a5 (I o0 3)) (fun v131 => L_X7_partOf n o0 o1 I a2 a3 a4 a5 j 0 q6 x7 x8 x9 x10 (x11 + v131) (x12 + (1 : Int32)))))))
  | j + 1, 1, q6, x7, x8, x9, x10, x11, x12 => (if (4 : Int32) ≤ x12 then some x11 else gv x12 4 ((if (I (o0 + 5) (Int32.toNatClampNeg x12)) ≤ 0 then L_X7_partOf n o0 o1 I a2 a3 a4 a5 j 1 q6 x7 x8 x9 x10 x11 (x12 + (1 : Int32)) else bd (F_X7_imageColumn n o0 I x12 x9) (fun v222 => bd (F_X7_imageRow n o0 I x12 x10) (fun v234 => bd (F_X4_between n I (v222 - a3) (v234 - a4)) (fun v250 => bd (F_X8_brings n q6 I x7 x8 v250 a5 (I o0 3)) (fun v271 => gv x12 4 (L_X7_partOf n o0 o1 I a2 a3 a4 a5 j 1 q6 x7 x8 x9 x10 (x11 + ((v271 * (I (o0 + 5) (Int32.toNatClampNeg x12))) / (100 : Int32))) (x12 + (1 : Int32))))))))))
  | _ + 1, _, _, _, _, _, _, _, _ => none
theorem L_X7_partOf_e0 (n j : Nat) (o0 o1 : Nat) (I : gI) (a2 : Int32) (a3 : Int32) (a4 : Int32) (a5 : Int32) (q6 : Nat) (x7 : Int32) (x8 : Int32) (x9 : Int32) (x10 : Int32) (x11 : Int32) (x12 : Int32) : L_X7_partOf n o0 o1 I a2 a3 a4 a5 (j + 1) 0 q6 x7 x8 x9 x10 x11 x12 = (if (I o0 2) ≤ x12 then (if (I o1 1) = 0 then some (0 : Int32) else bd (F_J6_bitCount_0f7a4 n (I o1 1)) (fun v160 => gd (¬ v160 = 0) (some (x11 / v160)))) else bd (F_X6_hasOpen n o1 I x12) (fun v94 => (if v94 = 0 then L_X7_partOf n o0 o1 I a2 a3 a4 a5 j 0 q6 x7 x8 x9 x10 x11 (x12 + (1 : Int32)) else bd (F_X7_lengthThrough n o0 I x12 x9 x10 a3 a4) (fun v110 => bd (F_X8_brings n q6 I x7 x8 v110 a5 (I o0 3)) (fun v131 => L_X7_partOf n o0 o1 I a2 a3 a4 a5 j 0 q6 x7 x8 x9 x10 (x11 + v131) (x12 + (1 : Int32))))))) := rfl
theorem L_X7_partOf_e1 (n j : Nat) (o0 o1 : Nat) (I : gI) (a2 : Int32) (a3 : Int32) (a4 : Int32) (a5 : Int32) (q6 : Nat) (x7 : Int32) (x8 : Int32) (x9 : Int32) (x10 : Int32) (x11 : Int32) (x12 : Int32) : L_X7_partOf n o0 o1 I a2 a3 a4 a5 (j + 1) 1 q6 x7 x8 x9 x10 x11 x12 = (if (4 : Int32) ≤ x12 then some x11 else gv x12 4 ((if (I (o0 + 5) (Int32.toNatClampNeg x12)) ≤ 0 then L_X7_partOf n o0 o1 I a2 a3 a4 a5 j 1 q6 x7 x8 x9 x10 x11 (x12 + (1 : Int32)) else bd (F_X7_imageColumn n o0 I x12 x9) (fun v222 => bd (F_X7_imageRow n o0 I x12 x10) (fun v234 => bd (F_X4_between n I (v222 - a3) (v234 - a4)) (fun v250 => bd (F_X8_brings n q6 I x7 x8 v250 a5 (I o0 3)) (fun v271 => gv x12 4 (L_X7_partOf n o0 o1 I a2 a3 a4 a5 j 1 q6 x7 x8 x9 x10 (x11 + ((v271 * (I (o0 + 5) (Int32.toNatClampNeg x12))) / (100 : Int32))) (x12 + (1 : Int32)))))))))) := rfl
set_option maxHeartbeats 4000000 in
set_option maxRecDepth 100000 in
theorem cL_X7_partOf {G : gG} {lay : Nat → Nat × Nat} {T0 T1 : Nat} {Dd : Nat → Nat → UInt64} {I : gI} {J : gJ} {K : gI} {N : gJ} {sz n : Nat} {o0 o1 : Nat} {a2 : Int32} {a3 : Int32} {a4 : Int32} {a5 : Int32} (hs : G.1.stackTraces = false) (hE : gLay lay) (ho0 : gTank lay o0) (ho1 : gState lay o1) : ∀ j : Nat, (∀ (q6 : Nat) (hq6 : gTrain lay q6) (x7 : Int32) (x8 : Int32) (x9 : Int32) (x10 : Int32) (x11 : Int32) (x12 : Int32) (r : Int32), L_X7_partOf n o0 o1 I a2 a3 a4 a5 j 0 q6 x7 x8 x9 x10 x11 x12 = some r → gAt G mX7_partOf (gQp G mX7_partOf (gR (some (.int r)) (fO G (lay, T0, T1, Dd) I J K N) sz)) 82 [some (.ref (G.2.2.1 + o0)), some (.ref (G.2.2.1 + o1)), some (.int a2), some (.int a3), some (.int a4), some (.int a5), some (.ref (G.2.2.1 + q6)), some (.int x7), some (.int x8), some (.int x9), some (.int x10), some (.int x11), some (.int x12), none, none, none] [] (fO G (lay, T0, T1, Dd) I J K N) sz 0 0) ∧ (∀ (q6 : Nat) (hq6 : gTrain lay q6) (x7 : Int32) (x8 : Int32) (x9 : Int32) (x10 : Int32) (x11 : Int32) (x12 : Int32) (r : Int32), L_X7_partOf n o0 o1 I a2 a3 a4 a5 j 1 q6 x7 x8 x9 x10 x11 x12 = some r → gAt G mX7_partOf (gQp G mX7_partOf (gR (some (.int r)) (fO G (lay, T0, T1, Dd) I J K N) sz)) 201 [some (.ref (G.2.2.1 + o0)), some (.ref (G.2.2.1 + o1)), some (.int a2), some (.int a3), some (.int a4), some (.int a5), some (.ref (G.2.2.1 + q6)), some (.int x7), some (.int x8), some (.int x9), some (.int x10), some (.int x11), some (.int x12), none, none, none] [] (fO G (lay, T0, T1, Dd) I J K N) sz 0 0) := by
  intro j
  induction j with
  | zero => exact ⟨fun _ _ _ _ _ _ _ _ _ hf => (by cases hf), fun _ _ _ _ _ _ _ _ _ hf => (by cases hf)⟩
  | succ j ih =>
    refine ⟨?_, ?_⟩
    · intro q6 hq6 x7 x8 x9 x10 x11 x12 r hf
      rw [L_X7_partOf_e0] at hf
      refine r_iload dX7_partOf_82 rfl ?_
      refine r_aload_n dX7_partOf_84 rfl ?_
      refine g7_2 dX7_partOf_85 wd_300 ho0.1 ?_
      refine r_icmp_ge (tgt := 143) dX7_partOf_88 (by decide) (fun c88 => ?_) (fun c88 => ?_)
      · replace hf := if_t hf c88
        refine r_aload_n dX7_partOf_143 rfl ?_
        refine g6_1 dX7_partOf_144 wd_94 ho1.1 ?_
        refine r_if_ne (tgt := 154) dX7_partOf_147 (by decide) (fun c147 => ?_) (fun c147 => ?_)
        · replace hf := if_f hf c147
          refine r_iload dX7_partOf_154 rfl ?_
          refine r_aload_n dX7_partOf_156 rfl ?_
          refine g6_1 dX7_partOf_157 wd_94 ho1.1 ?_
          obtain ⟨v160, hc160, hf⟩ := bd_of hf
          refine r_cSi (rest := [.int x11]) (ct_J6_bitCount_0f7a4 hs hE hc160) dX7_partOf_160 wd_625 zJ6_bitCount_0f7a4 wd_626 rfl  rfl rfl ⟨Nat.le_of_ble_eq_true rfl, Nat.le_of_ble_eq_true rfl⟩ (Nat.le_of_ble_eq_true rfl) ⟨Nat.le_of_ble_eq_true rfl, Nat.le_of_ble_eq_true rfl⟩ ?_
          obtain ⟨h163, hf⟩ := gd_of hf
          refine r_idiv dX7_partOf_163 h163 ?_
          have hr := Option.some.inj hf
          subst hr
          exact r_iret dX7_partOf_164 rfl (Nat.le_of_ble_eq_true rfl) (Nat.le_of_ble_eq_true rfl) ⟨rfl, rfl, rfl⟩
        · replace hf := if_t hf c147
          refine r_iconst (v := (0 : Int32)) dX7_partOf_150 (by decide) ?_
          refine r_goto (tgt := 164) dX7_partOf_151 (by decide) ?_
          have hr := Option.some.inj hf
          subst hr
          exact r_iret dX7_partOf_164 rfl (Nat.le_of_ble_eq_true rfl) (Nat.le_of_ble_eq_true rfl) ⟨rfl, rfl, rfl⟩
      · replace hf := if_f hf c88
        refine r_aload_n dX7_partOf_91 rfl ?_
        refine r_iload dX7_partOf_92 rfl ?_
        obtain ⟨v94, hc94, hf⟩ := bd_of hf
        refine r_cVi (rest := []) (ct_X6_hasOpen hs hE ho1 hc94) dX7_partOf_94 wd_579 zX6_hasOpen wd_505 wd_506 rfl  rfl rfl (fo6 ho1.1) rfl rfl ⟨Nat.le_of_ble_eq_true rfl, Nat.le_of_ble_eq_true rfl⟩ (Nat.le_of_ble_eq_true rfl) ⟨Nat.le_of_ble_eq_true rfl, Nat.le_of_ble_eq_true rfl⟩ ?_
        refine r_if_eq (tgt := 137) dX7_partOf_97 (by decide) (fun c97 => ?_) (fun c97 => ?_)
        · replace hf := if_t hf c97
          refine r_iincv (v := (x12 + (1 : Int32))) dX7_partOf_137 rfl rfl (by decide) rfl ?_
          refine r_goto (tgt := 82) dX7_partOf_140 (by decide) ?_
          exact r_widen (k2 := 0) (n2 := 0) (Nat.le_of_ble_eq_true rfl) (Nat.le_of_ble_eq_true rfl) (r_mask [true, true, true, true, true, true, true, true, true, true, true, true, true, false, false, false] rfl (ih.1 q6 hq6 x7 x8 x9 x10 x11 (x12 + (1 : Int32)) r hf))
        · replace hf := if_f hf c97
          refine r_aload_n dX7_partOf_100 rfl ?_
          refine r_iload dX7_partOf_101 rfl ?_
          refine r_iload dX7_partOf_103 rfl ?_
          refine r_iload dX7_partOf_105 rfl ?_
          refine r_iload_n dX7_partOf_107 rfl ?_
          refine r_iload dX7_partOf_108 rfl ?_
          obtain ⟨v110, hc110, hf⟩ := bd_of hf
          refine r_cVi (rest := []) (ct_X7_lengthThrough hs hE ho0 hc110) dX7_partOf_110 wd_586 zX7_lengthThrough wd_587 wd_588 rfl  rfl rfl (fo7 ho0.1) rfl rfl ⟨Nat.le_of_ble_eq_true rfl, Nat.le_of_ble_eq_true rfl⟩ (Nat.le_of_ble_eq_true rfl) ⟨Nat.le_of_ble_eq_true rfl, Nat.le_of_ble_eq_true rfl⟩ ?_
          refine r_istore dX7_partOf_113 (by decide) rfl ?_
          refine r_iload dX7_partOf_115 rfl ?_
          refine r_aload dX7_partOf_117 rfl ?_
          refine r_iload dX7_partOf_119 rfl ?_
          refine r_iload dX7_partOf_121 rfl ?_
          refine r_iload dX7_partOf_123 rfl ?_
          refine r_iload dX7_partOf_125 rfl ?_
          refine r_aload_n dX7_partOf_127 rfl ?_
          refine g7_3 dX7_partOf_128 wd_304 ho0.1 ?_
          obtain ⟨v131, hc131, hf⟩ := bd_of hf
          refine r_cVi (rest := [.int x11]) (ct_X8_brings hs hE hq6 hc131) dX7_partOf_131 wd_597 zX8_brings wd_598 wd_599 rfl  rfl rfl (fo8 hq6.1) rfl rfl ⟨Nat.le_of_ble_eq_true rfl, Nat.le_of_ble_eq_true rfl⟩ (Nat.le_of_ble_eq_true rfl) ⟨Nat.le_of_ble_eq_true rfl, Nat.le_of_ble_eq_true rfl⟩ ?_
          refine r_iadd dX7_partOf_134 ?_
          refine r_istore dX7_partOf_135 (by decide) rfl ?_
          refine r_iincv (v := (x12 + (1 : Int32))) dX7_partOf_137 rfl rfl (by decide) rfl ?_
          refine r_goto (tgt := 82) dX7_partOf_140 (by decide) ?_
          exact r_widen (k2 := 0) (n2 := 0) (Nat.le_of_ble_eq_true rfl) (Nat.le_of_ble_eq_true rfl) (r_mask [true, true, true, true, true, true, true, true, true, true, true, true, true, false, false, false] rfl (ih.1 q6 hq6 x7 x8 x9 x10 (x11 + v131) (x12 + (1 : Int32)) r hf))
    · intro q6 hq6 x7 x8 x9 x10 x11 x12 r hf
      rw [L_X7_partOf_e1] at hf
      refine r_iload dX7_partOf_201 rfl ?_
      refine r_iconst (v := (4 : Int32)) dX7_partOf_203 (by decide) ?_
      refine r_icmp_ge (tgt := 294) dX7_partOf_204 (by decide) (fun c204 => ?_) (fun c204 => ?_)
      · replace hf := if_t hf c204
        refine r_iload dX7_partOf_294 rfl ?_
        have hr := Option.some.inj hf
        subst hr
        exact r_iret dX7_partOf_296 rfl (Nat.le_of_ble_eq_true rfl) (Nat.le_of_ble_eq_true rfl) ⟨rfl, rfl, rfl⟩
      · replace hf := if_f hf c204
        refine r_aload_n dX7_partOf_207 rfl ?_
        refine g7_12 dX7_partOf_208 wd_327 ho0.1 ?_
        refine r_iload dX7_partOf_211 rfl ?_
        obtain ⟨h213, hf⟩ := gv_of hf
        refine a_iald dX7_partOf_213 ho0.2.2.2.2.2.1 h213 ?_
        refine r_if_le (tgt := 288) dX7_partOf_214 (by decide) (fun c214 => ?_) (fun c214 => ?_)
        · replace hf := if_t hf c214
          refine r_iincv (v := (x12 + (1 : Int32))) dX7_partOf_288 rfl rfl (by decide) rfl ?_
          refine r_goto (tgt := 201) dX7_partOf_291 (by decide) ?_
          exact r_widen (k2 := 0) (n2 := 0) (Nat.le_of_ble_eq_true rfl) (Nat.le_of_ble_eq_true rfl) (r_mask [true, true, true, true, true, true, true, true, true, true, true, true, true, false, false, false] rfl (ih.2 q6 hq6 x7 x8 x9 x10 x11 (x12 + (1 : Int32)) r hf))
        · replace hf := if_f hf c214
          refine r_aload_n dX7_partOf_217 rfl ?_
          refine r_iload dX7_partOf_218 rfl ?_
          refine r_iload dX7_partOf_220 rfl ?_
          obtain ⟨v222, hc222, hf⟩ := bd_of hf
          refine r_cVi (rest := []) (ct_X7_imageColumn hs hE ho0 hc222) dX7_partOf_222 wd_631 zX7_imageColumn wd_632 wd_633 rfl  rfl rfl (fo7 ho0.1) rfl rfl ⟨Nat.le_of_ble_eq_true rfl, Nat.le_of_ble_eq_true rfl⟩ (Nat.le_of_ble_eq_true rfl) ⟨Nat.le_of_ble_eq_true rfl, Nat.le_of_ble_eq_true rfl⟩ ?_
          refine r_iload_n dX7_partOf_225 rfl ?_
          refine r_isub dX7_partOf_226 ?_
          refine r_istore dX7_partOf_227 (by decide) rfl ?_
          refine r_aload_n dX7_partOf_229 rfl ?_
          refine r_iload dX7_partOf_230 rfl ?_
          refine r_iload dX7_partOf_232 rfl ?_
          obtain ⟨v234, hc234, hf⟩ := bd_of hf
          refine r_cVi (rest := []) (ct_X7_imageRow hs hE ho0 hc234) dX7_partOf_234 wd_635 zX7_imageRow wd_636 wd_637 rfl  rfl rfl (fo7 ho0.1) rfl rfl ⟨Nat.le_of_ble_eq_true rfl, Nat.le_of_ble_eq_true rfl⟩ (Nat.le_of_ble_eq_true rfl) ⟨Nat.le_of_ble_eq_true rfl, Nat.le_of_ble_eq_true rfl⟩ ?_
          refine r_iload dX7_partOf_237 rfl ?_
          refine r_isub dX7_partOf_239 ?_
          refine r_istore dX7_partOf_240 (by decide) rfl ?_
          refine r_aload_n dX7_partOf_242 rfl ?_
          refine g7_0 dX7_partOf_243 wd_295 ho0.1 ?_
          refine r_iload dX7_partOf_246 rfl ?_
          refine r_iload dX7_partOf_248 rfl ?_
          obtain ⟨v250, hc250, hf⟩ := bd_of hf
          refine r_cVi (rest := []) (ct_X4_between hs hE hc250) dX7_partOf_250 wd_590 zX4_between wd_591 wd_592 rfl  rfl rfl (fo4 (hE 93 (by decide))) rfl rfl ⟨Nat.le_of_ble_eq_true rfl, Nat.le_of_ble_eq_true rfl⟩ (Nat.le_of_ble_eq_true rfl) ⟨Nat.le_of_ble_eq_true rfl, Nat.le_of_ble_eq_true rfl⟩ ?_
          refine r_istore dX7_partOf_253 (by decide) rfl ?_
          refine r_iload dX7_partOf_255 rfl ?_
          refine r_aload dX7_partOf_257 rfl ?_
          refine r_iload dX7_partOf_259 rfl ?_
          refine r_iload dX7_partOf_261 rfl ?_
          refine r_iload dX7_partOf_263 rfl ?_
          refine r_iload dX7_partOf_265 rfl ?_
          refine r_aload_n dX7_partOf_267 rfl ?_
          refine g7_3 dX7_partOf_268 wd_304 ho0.1 ?_
          obtain ⟨v271, hc271, hf⟩ := bd_of hf
          refine r_cVi (rest := [.int x11]) (ct_X8_brings hs hE hq6 hc271) dX7_partOf_271 wd_597 zX8_brings wd_598 wd_599 rfl  rfl rfl (fo8 hq6.1) rfl rfl ⟨Nat.le_of_ble_eq_true rfl, Nat.le_of_ble_eq_true rfl⟩ (Nat.le_of_ble_eq_true rfl) ⟨Nat.le_of_ble_eq_true rfl, Nat.le_of_ble_eq_true rfl⟩ ?_
          refine r_aload_n dX7_partOf_274 rfl ?_
          refine g7_12 dX7_partOf_275 wd_327 ho0.1 ?_
          refine r_iload dX7_partOf_278 rfl ?_
          obtain ⟨h280, hf⟩ := gv_of hf
          refine a_iald dX7_partOf_280 ho0.2.2.2.2.2.1 h280 ?_
          refine r_imul dX7_partOf_281 ?_
          refine r_bipush (v := (100 : Int32)) dX7_partOf_282 (by decide) ?_
          refine r_idiv dX7_partOf_284 (by decide) ?_
          refine r_iadd dX7_partOf_285 ?_
          refine r_istore dX7_partOf_286 (by decide) rfl ?_
          refine r_iincv (v := (x12 + (1 : Int32))) dX7_partOf_288 rfl rfl (by decide) rfl ?_
          refine r_goto (tgt := 201) dX7_partOf_291 (by decide) ?_
          exact r_widen (k2 := 0) (n2 := 0) (Nat.le_of_ble_eq_true rfl) (Nat.le_of_ble_eq_true rfl) (r_mask [true, true, true, true, true, true, true, true, true, true, true, true, true, false, false, false] rfl (ih.2 q6 hq6 x7 x8 x9 x10 (x11 + ((v271 * (I (o0 + 5) (Int32.toNatClampNeg x12))) / (100 : Int32))) (x12 + (1 : Int32)) r hf))
def F_X7_partOf (n : Nat) (o0 o1 : Nat) (I : gI) (a2 : Int32) (a3 : Int32) (a4 : Int32) (a5 : Int32) : Option (Int32) := gv a2 4 ((if (I (o1 + 1) (Int32.toNatClampNeg a2)) = 0 then some (0 : Int32) else bd (F_X7_isBlocked n o0 o1 I a3 a4) (fun v14 => (if v14 = 0 then gv a2 4 (gv a2 4 (gv a2 4 (bd (F_X7_columnOf n o0 o1 I a2 a5) (fun v51 => bd (F_X7_rowOf n o0 o1 I a2 a5) (fun v61 => bd (F_X7_isShadowed n o0 I v51 a3) (fun v73 => (if v73 = 0 then bd (F_X4_between n I (v51 - a3) (v61 - a4)) (fun v184 => bd (F_X8_brings n ((o0 + 1) + 5 + 3 * (Int32.toNatClampNeg a2)) I (I (o1 + 2) (Int32.toNatClampNeg a2)) (I (o1 + 3) (Int32.toNatClampNeg a2)) v184 a5 (I o0 3)) (fun v193 => L_X7_partOf n o0 o1 I a2 a3 a4 a5 n 1 ((o0 + 1) + 5 + 3 * (Int32.toNatClampNeg a2)) (I (o1 + 2) (Int32.toNatClampNeg a2)) (I (o1 + 3) (Int32.toNatClampNeg a2)) v51 v61 v193 (0 : Int32))) else L_X7_partOf n o0 o1 I a2 a3 a4 a5 n 0 ((o0 + 1) + 5 + 3 * (Int32.toNatClampNeg a2)) (I (o1 + 2) (Int32.toNatClampNeg a2)) (I (o1 + 3) (Int32.toNatClampNeg a2)) v51 v61 (0 : Int32) (0 : Int32)))))))) else some (0 : Int32)))))
set_option maxHeartbeats 4000000 in
set_option maxRecDepth 100000 in
theorem ct_X7_partOf {G : gG} {lay : Nat → Nat × Nat} {T0 T1 : Nat} {Dd : Nat → Nat → UInt64} {I : gI} {J : gJ} {K : gI} {N : gJ} {sz n : Nat} {o0 o1 : Nat} {a2 : Int32} {a3 : Int32} {a4 : Int32} {a5 : Int32} (hs : G.1.stackTraces = false) (hE : gLay lay) (ho0 : gTank lay o0) (ho1 : gState lay o1) {r : Int32} (hf : F_X7_partOf n o0 o1 I a2 a3 a4 a5 = some r) : gCt G mX7_partOf [.ref (G.2.2.1 + o0), .ref (G.2.2.1 + o1), .int a2, .int a3, .int a4, .int a5] (fO G (lay, T0, T1, Dd) I J K N) sz (gR (some (.int r)) (fO G (lay, T0, T1, Dd) I J K N) sz) := by
  unfold F_X7_partOf at hf
  refine gCt.of [some (.ref (G.2.2.1 + o0)), some (.ref (G.2.2.1 + o1)), some (.int a2), some (.int a3), some (.int a4), some (.int a5), none, none, none, none, none, none, none, none, none, none] (by decide +kernel) rfl hs rfl (Nat.le_of_ble_eq_true rfl) ?_
  refine r_aload_n dX7_partOf_0 rfl ?_
  refine g6_2 dX7_partOf_1 wd_97 ho1.1 ?_
  refine r_iload_n dX7_partOf_4 rfl ?_
  obtain ⟨h5, hf⟩ := gv_of hf
  refine a_zald dX7_partOf_5 ho1.2.1 h5 ?_
  refine r_if_eq (tgt := 20) dX7_partOf_6 (by decide) (fun c6 => ?_) (fun c6 => ?_)
  · replace hf := if_t hf c6
    refine r_iconst (v := (0 : Int32)) dX7_partOf_20 (by decide) ?_
    have hr := Option.some.inj hf
    subst hr
    exact r_iret dX7_partOf_21 rfl (Nat.le_of_ble_eq_true rfl) (Nat.le_of_ble_eq_true rfl) ⟨rfl, rfl, rfl⟩
  · replace hf := if_f hf c6
    refine r_aload_n dX7_partOf_9 rfl ?_
    refine r_aload_n dX7_partOf_10 rfl ?_
    refine r_iload_n dX7_partOf_11 rfl ?_
    refine r_iload dX7_partOf_12 rfl ?_
    obtain ⟨v14, hc14, hf⟩ := bd_of hf
    refine r_cVi (rest := []) (ct_X7_isBlocked hs hE ho0 ho1 hc14) dX7_partOf_14 wd_575 zX7_isBlocked wd_576 wd_577 rfl  rfl rfl (fo7 ho0.1) rfl rfl ⟨Nat.le_of_ble_eq_true rfl, Nat.le_of_ble_eq_true rfl⟩ (Nat.le_of_ble_eq_true rfl) ⟨Nat.le_of_ble_eq_true rfl, Nat.le_of_ble_eq_true rfl⟩ ?_
    refine r_if_eq (tgt := 22) dX7_partOf_17 (by decide) (fun c17 => ?_) (fun c17 => ?_)
    · replace hf := if_t hf c17
      refine r_aload_n dX7_partOf_22 rfl ?_
      refine g7_6 dX7_partOf_23 wd_311 ho0.1 ?_
      refine r_iload_n dX7_partOf_26 rfl ?_
      obtain ⟨h27, hf⟩ := gv_of hf
      refine a_aald105 dX7_partOf_27 ho0.2.1 h27 ?_
      refine r_astore dX7_partOf_28 (by decide) rfl ?_
      refine r_aload_n dX7_partOf_30 rfl ?_
      refine g6_3 dX7_partOf_31 wd_101 ho1.1 ?_
      refine r_iload_n dX7_partOf_34 rfl ?_
      obtain ⟨h35, hf⟩ := gv_of hf
      refine a_iald dX7_partOf_35 ho1.2.2.1 h35 ?_
      refine r_istore dX7_partOf_36 (by decide) rfl ?_
      refine r_aload_n dX7_partOf_38 rfl ?_
      refine g6_4 dX7_partOf_39 wd_105 ho1.1 ?_
      refine r_iload_n dX7_partOf_42 rfl ?_
      obtain ⟨h43, hf⟩ := gv_of hf
      refine a_iald dX7_partOf_43 ho1.2.2.2.1 h43 ?_
      refine r_istore dX7_partOf_44 (by decide) rfl ?_
      refine r_aload_n dX7_partOf_46 rfl ?_
      refine r_aload_n dX7_partOf_47 rfl ?_
      refine r_iload_n dX7_partOf_48 rfl ?_
      refine r_iload dX7_partOf_49 rfl ?_
      obtain ⟨v51, hc51, hf⟩ := bd_of hf
      refine r_cVi (rest := []) (ct_X7_columnOf hs hE ho0 ho1 hc51) dX7_partOf_51 wd_580 zX7_columnOf wd_537 wd_538 rfl  rfl rfl (fo7 ho0.1) rfl rfl ⟨Nat.le_of_ble_eq_true rfl, Nat.le_of_ble_eq_true rfl⟩ (Nat.le_of_ble_eq_true rfl) ⟨Nat.le_of_ble_eq_true rfl, Nat.le_of_ble_eq_true rfl⟩ ?_
      refine r_istore dX7_partOf_54 (by decide) rfl ?_
      refine r_aload_n dX7_partOf_56 rfl ?_
      refine r_aload_n dX7_partOf_57 rfl ?_
      refine r_iload_n dX7_partOf_58 rfl ?_
      refine r_iload dX7_partOf_59 rfl ?_
      obtain ⟨v61, hc61, hf⟩ := bd_of hf
      refine r_cVi (rest := []) (ct_X7_rowOf hs hE ho0 ho1 hc61) dX7_partOf_61 wd_581 zX7_rowOf wd_547 wd_548 rfl  rfl rfl (fo7 ho0.1) rfl rfl ⟨Nat.le_of_ble_eq_true rfl, Nat.le_of_ble_eq_true rfl⟩ (Nat.le_of_ble_eq_true rfl) ⟨Nat.le_of_ble_eq_true rfl, Nat.le_of_ble_eq_true rfl⟩ ?_
      refine r_istore dX7_partOf_64 (by decide) rfl ?_
      refine r_iconst (v := (0 : Int32)) dX7_partOf_66 (by decide) ?_
      refine r_istore dX7_partOf_67 (by decide) rfl ?_
      refine r_aload_n dX7_partOf_69 rfl ?_
      refine r_iload dX7_partOf_70 rfl ?_
      refine r_iload_n dX7_partOf_72 rfl ?_
      obtain ⟨v73, hc73, hf⟩ := bd_of hf
      refine r_cVi (rest := []) (ct_X7_isShadowed hs hE ho0 hc73) dX7_partOf_73 wd_582 zX7_isShadowed wd_583 wd_584 rfl  rfl rfl (fo7 ho0.1) rfl rfl ⟨Nat.le_of_ble_eq_true rfl, Nat.le_of_ble_eq_true rfl⟩ (Nat.le_of_ble_eq_true rfl) ⟨Nat.le_of_ble_eq_true rfl, Nat.le_of_ble_eq_true rfl⟩ ?_
      refine r_if_eq (tgt := 165) dX7_partOf_76 (by decide) (fun c76 => ?_) (fun c76 => ?_)
      · replace hf := if_t hf c76
        refine r_aload dX7_partOf_165 rfl ?_
        refine r_iload dX7_partOf_167 rfl ?_
        refine r_iload dX7_partOf_169 rfl ?_
        refine r_aload_n dX7_partOf_171 rfl ?_
        refine g7_0 dX7_partOf_172 wd_295 ho0.1 ?_
        refine r_iload dX7_partOf_175 rfl ?_
        refine r_iload_n dX7_partOf_177 rfl ?_
        refine r_isub dX7_partOf_178 ?_
        refine r_iload dX7_partOf_179 rfl ?_
        refine r_iload dX7_partOf_181 rfl ?_
        refine r_isub dX7_partOf_183 ?_
        obtain ⟨v184, hc184, hf⟩ := bd_of hf
        refine r_cVi (rest := [.int (I (o1 + 3) (Int32.toNatClampNeg a2)), .int (I (o1 + 2) (Int32.toNatClampNeg a2)), .ref (G.2.2.1 + ((o0 + 1) + 5 + 3 * (Int32.toNatClampNeg a2)))]) (ct_X4_between hs hE hc184) dX7_partOf_184 wd_590 zX4_between wd_591 wd_592 rfl  rfl rfl (fo4 (hE 93 (by decide))) rfl rfl ⟨Nat.le_of_ble_eq_true rfl, Nat.le_of_ble_eq_true rfl⟩ (Nat.le_of_ble_eq_true rfl) ⟨Nat.le_of_ble_eq_true rfl, Nat.le_of_ble_eq_true rfl⟩ ?_
        refine r_iload dX7_partOf_187 rfl ?_
        refine r_aload_n dX7_partOf_189 rfl ?_
        refine g7_3 dX7_partOf_190 wd_304 ho0.1 ?_
        obtain ⟨v193, hc193, hf⟩ := bd_of hf
        refine r_cVi (rest := []) (ct_X8_brings hs hE (ho0.2.2.2.2.2.2.1 _ (vp_lt h27)) hc193) dX7_partOf_193 wd_597 zX8_brings wd_598 wd_599 rfl  rfl rfl (fo8 (ho0.2.2.2.2.2.2.1 _ (vp_lt h27)).1) rfl rfl ⟨Nat.le_of_ble_eq_true rfl, Nat.le_of_ble_eq_true rfl⟩ (Nat.le_of_ble_eq_true rfl) ⟨Nat.le_of_ble_eq_true rfl, Nat.le_of_ble_eq_true rfl⟩ ?_
        refine r_istore dX7_partOf_196 (by decide) rfl ?_
        refine r_iconst (v := (0 : Int32)) dX7_partOf_198 (by decide) ?_
        refine r_istore dX7_partOf_199 (by decide) rfl ?_
        exact r_widen (k2 := 0) (n2 := 0) (Nat.le_of_ble_eq_true rfl) (Nat.le_of_ble_eq_true rfl) (r_mask [true, true, true, true, true, true, true, true, true, true, true, true, true, false, false, false] rfl ((cL_X7_partOf hs hE ho0 ho1 n).2 ((o0 + 1) + 5 + 3 * (Int32.toNatClampNeg a2)) (ho0.2.2.2.2.2.2.1 _ (vp_lt h27)) (I (o1 + 2) (Int32.toNatClampNeg a2)) (I (o1 + 3) (Int32.toNatClampNeg a2)) v51 v61 v193 (0 : Int32) r hf))
      · replace hf := if_f hf c76
        refine r_iconst (v := (0 : Int32)) dX7_partOf_79 (by decide) ?_
        refine r_istore dX7_partOf_80 (by decide) rfl ?_
        exact r_widen (k2 := 0) (n2 := 0) (Nat.le_of_ble_eq_true rfl) (Nat.le_of_ble_eq_true rfl) (r_mask [true, true, true, true, true, true, true, true, true, true, true, true, true, false, false, false] rfl ((cL_X7_partOf hs hE ho0 ho1 n).1 ((o0 + 1) + 5 + 3 * (Int32.toNatClampNeg a2)) (ho0.2.2.2.2.2.2.1 _ (vp_lt h27)) (I (o1 + 2) (Int32.toNatClampNeg a2)) (I (o1 + 3) (Int32.toNatClampNeg a2)) v51 v61 (0 : Int32) (0 : Int32) r hf))
    · replace hf := if_f hf c17
      refine r_iconst (v := (0 : Int32)) dX7_partOf_20 (by decide) ?_
      have hr := Option.some.inj hf
      subst hr
      exact r_iret dX7_partOf_21 rfl (Nat.le_of_ble_eq_true rfl) (Nat.le_of_ble_eq_true rfl) ⟨rfl, rfl, rfl⟩
def L_X7_waveOf (n : Nat) (o0 o1 : Nat) (I : gI) (a2 : Int32) (a3 : Int32) (a4 : Int32) : Nat → Nat → Int32 → Int32 → Option (Int32)
  | 0, _, _, _ => none
  | j + 1, 0, x5, x6 => (if (I o0 5) ≤ x6 then L_X7_waveOf n o0 o1 I a2 a3 a4 j 1 x5 (0 : Int32) else bd (F_X7_partOf n o0 o1 I x6 a2 a3 a4) (fun v25 => L_X7_waveOf n o0 o1 I a2 a3 a4 j 0 (x5 + v25) (x6 + (1 : Int32))))
  | j + 1, 1, x5, x6 => (if (I o0 7) ≤ x6 then some x5 else gv x6 3 (bd (F_X5_holds n ((o0 + 2) + 16 + (Int32.toNatClampNeg x6)) I a2 a3) (fun v58 => (if v58 = 0 then L_X7_waveOf n o0 o1 I a2 a3 a4 j 1 x5 (x6 + (1 : Int32)) else gv x6 3 (L_X7_waveOf n o0 o1 I a2 a3 a4 j 1 ((x5 * (I ((o0 + 2) + 16 + (Int32.toNatClampNeg x6)) 4)) / (100 : Int32)) (x6 + (1 : Int32)))))))
  | _ + 1, _, _, _ => none
theorem L_X7_waveOf_e0 (n j : Nat) (o0 o1 : Nat) (I : gI) (a2 : Int32) (a3 : Int32) (a4 : Int32) (x5 : Int32) (x6 : Int32) : L_X7_waveOf n o0 o1 I a2 a3 a4 (j + 1) 0 x5 x6 = (if (I o0 5) ≤ x6 then L_X7_waveOf n o0 o1 I a2 a3 a4 j 1 x5 (0 : Int32) else bd (F_X7_partOf n o0 o1 I x6 a2 a3 a4) (fun v25 => L_X7_waveOf n o0 o1 I a2 a3 a4 j 0 (x5 + v25) (x6 + (1 : Int32)))) := rfl
theorem L_X7_waveOf_e1 (n j : Nat) (o0 o1 : Nat) (I : gI) (a2 : Int32) (a3 : Int32) (a4 : Int32) (x5 : Int32) (x6 : Int32) : L_X7_waveOf n o0 o1 I a2 a3 a4 (j + 1) 1 x5 x6 = (if (I o0 7) ≤ x6 then some x5 else gv x6 3 (bd (F_X5_holds n ((o0 + 2) + 16 + (Int32.toNatClampNeg x6)) I a2 a3) (fun v58 => (if v58 = 0 then L_X7_waveOf n o0 o1 I a2 a3 a4 j 1 x5 (x6 + (1 : Int32)) else gv x6 3 (L_X7_waveOf n o0 o1 I a2 a3 a4 j 1 ((x5 * (I ((o0 + 2) + 16 + (Int32.toNatClampNeg x6)) 4)) / (100 : Int32)) (x6 + (1 : Int32))))))) := rfl
set_option maxHeartbeats 4000000 in
set_option maxRecDepth 100000 in
theorem cL_X7_waveOf {G : gG} {lay : Nat → Nat × Nat} {T0 T1 : Nat} {Dd : Nat → Nat → UInt64} {I : gI} {J : gJ} {K : gI} {N : gJ} {sz n : Nat} {o0 o1 : Nat} {a2 : Int32} {a3 : Int32} {a4 : Int32} (hs : G.1.stackTraces = false) (hE : gLay lay) (ho0 : gTank lay o0) (ho1 : gState lay o1) : ∀ j : Nat, (∀ (x5 : Int32) (x6 : Int32) (r : Int32), L_X7_waveOf n o0 o1 I a2 a3 a4 j 0 x5 x6 = some r → gAt G mX7_waveOf (gQp G mX7_waveOf (gR (some (.int r)) (fO G (lay, T0, T1, Dd) I J K N) sz)) 6 [some (.ref (G.2.2.1 + o0)), some (.ref (G.2.2.1 + o1)), some (.int a2), some (.int a3), some (.int a4), some (.int x5), some (.int x6)] [] (fO G (lay, T0, T1, Dd) I J K N) sz 0 0) ∧ (∀ (x5 : Int32) (x6 : Int32) (r : Int32), L_X7_waveOf n o0 o1 I a2 a3 a4 j 1 x5 x6 = some r → gAt G mX7_waveOf (gQp G mX7_waveOf (gR (some (.int r)) (fO G (lay, T0, T1, Dd) I J K N) sz)) 40 [some (.ref (G.2.2.1 + o0)), some (.ref (G.2.2.1 + o1)), some (.int a2), some (.int a3), some (.int a4), some (.int x5), some (.int x6)] [] (fO G (lay, T0, T1, Dd) I J K N) sz 0 0) := by
  intro j
  induction j with
  | zero => exact ⟨fun _ _ _ hf => (by cases hf), fun _ _ _ hf => (by cases hf)⟩
  | succ j ih =>
    refine ⟨?_, ?_⟩
    · intro x5 x6 r hf
      rw [L_X7_waveOf_e0] at hf
      refine r_iload dX7_waveOf_6 rfl ?_
      refine r_aload_n dX7_waveOf_8 rfl ?_
      refine g7_5 dX7_waveOf_9 wd_308 ho0.1 ?_
      refine r_icmp_ge (tgt := 37) dX7_waveOf_12 (by decide) (fun c12 => ?_) (fun c12 => ?_)
      · replace hf := if_t hf c12
        refine r_iconst (v := (0 : Int32)) dX7_waveOf_37 (by decide) ?_
        refine r_istore dX7_waveOf_38 (by decide) rfl ?_
        exact r_widen (k2 := 0) (n2 := 0) (Nat.le_of_ble_eq_true rfl) (Nat.le_of_ble_eq_true rfl) (r_mask [true, true, true, true, true, true, true] rfl (ih.2 x5 (0 : Int32) r hf))
      · replace hf := if_f hf c12
        refine r_iload dX7_waveOf_15 rfl ?_
        refine r_aload_n dX7_waveOf_17 rfl ?_
        refine r_aload_n dX7_waveOf_18 rfl ?_
        refine r_iload dX7_waveOf_19 rfl ?_
        refine r_iload_n dX7_waveOf_21 rfl ?_
        refine r_iload_n dX7_waveOf_22 rfl ?_
        refine r_iload dX7_waveOf_23 rfl ?_
        obtain ⟨v25, hc25, hf⟩ := bd_of hf
        refine r_cVi (rest := [.int x5]) (ct_X7_partOf hs hE ho0 ho1 hc25) dX7_waveOf_25 wd_647 zX7_partOf wd_572 wd_573 rfl  rfl rfl (fo7 ho0.1) rfl rfl ⟨Nat.le_of_ble_eq_true rfl, Nat.le_of_ble_eq_true rfl⟩ (Nat.le_of_ble_eq_true rfl) ⟨Nat.le_of_ble_eq_true rfl, Nat.le_of_ble_eq_true rfl⟩ ?_
        refine r_iadd dX7_waveOf_28 ?_
        refine r_istore dX7_waveOf_29 (by decide) rfl ?_
        refine r_iincv (v := (x6 + (1 : Int32))) dX7_waveOf_31 rfl rfl (by decide) rfl ?_
        refine r_goto (tgt := 6) dX7_waveOf_34 (by decide) ?_
        exact r_widen (k2 := 0) (n2 := 0) (Nat.le_of_ble_eq_true rfl) (Nat.le_of_ble_eq_true rfl) (r_mask [true, true, true, true, true, true, true] rfl (ih.1 (x5 + v25) (x6 + (1 : Int32)) r hf))
    · intro x5 x6 r hf
      rw [L_X7_waveOf_e1] at hf
      refine r_iload dX7_waveOf_40 rfl ?_
      refine r_aload_n dX7_waveOf_42 rfl ?_
      refine g7_7 dX7_waveOf_43 wd_314 ho0.1 ?_
      refine r_icmp_ge (tgt := 88) dX7_waveOf_46 (by decide) (fun c46 => ?_) (fun c46 => ?_)
      · replace hf := if_t hf c46
        refine r_iload dX7_waveOf_88 rfl ?_
        have hr := Option.some.inj hf
        subst hr
        exact r_iret dX7_waveOf_90 rfl (Nat.le_of_ble_eq_true rfl) (Nat.le_of_ble_eq_true rfl) ⟨rfl, rfl, rfl⟩
      · replace hf := if_f hf c46
        refine r_aload_n dX7_waveOf_49 rfl ?_
        refine g7_8 dX7_waveOf_50 wd_316 ho0.1 ?_
        refine r_iload dX7_waveOf_53 rfl ?_
        obtain ⟨h55, hf⟩ := gv_of hf
        refine a_aald106 dX7_waveOf_55 ho0.2.2.1 h55 ?_
        refine r_iload_n dX7_waveOf_56 rfl ?_
        refine r_iload_n dX7_waveOf_57 rfl ?_
        obtain ⟨v58, hc58, hf⟩ := bd_of hf
        refine r_cVi (rest := []) (ct_X5_holds hs hE (ho0.2.2.2.2.2.2.2 _ (vp_lt h55)) hc58) dX7_waveOf_58 wd_648 zX5_holds wd_649 wd_650 rfl  rfl rfl (fo5 (ho0.2.2.2.2.2.2.2 _ (vp_lt h55))) rfl rfl ⟨Nat.le_of_ble_eq_true rfl, Nat.le_of_ble_eq_true rfl⟩ (Nat.le_of_ble_eq_true rfl) ⟨Nat.le_of_ble_eq_true rfl, Nat.le_of_ble_eq_true rfl⟩ ?_
        refine r_if_eq (tgt := 82) dX7_waveOf_61 (by decide) (fun c61 => ?_) (fun c61 => ?_)
        · replace hf := if_t hf c61
          refine r_iincv (v := (x6 + (1 : Int32))) dX7_waveOf_82 rfl rfl (by decide) rfl ?_
          refine r_goto (tgt := 40) dX7_waveOf_85 (by decide) ?_
          exact r_widen (k2 := 0) (n2 := 0) (Nat.le_of_ble_eq_true rfl) (Nat.le_of_ble_eq_true rfl) (r_mask [true, true, true, true, true, true, true] rfl (ih.2 x5 (x6 + (1 : Int32)) r hf))
        · replace hf := if_f hf c61
          refine r_iload dX7_waveOf_64 rfl ?_
          refine r_aload_n dX7_waveOf_66 rfl ?_
          refine g7_8 dX7_waveOf_67 wd_316 ho0.1 ?_
          refine r_iload dX7_waveOf_70 rfl ?_
          obtain ⟨h72, hf⟩ := gv_of hf
          refine a_aald106 dX7_waveOf_72 ho0.2.2.1 h72 ?_
          refine g5_4 dX7_waveOf_73 wd_283 (ho0.2.2.2.2.2.2.2 _ (vp_lt h72)) ?_
          refine r_imul dX7_waveOf_76 ?_
          refine r_bipush (v := (100 : Int32)) dX7_waveOf_77 (by decide) ?_
          refine r_idiv dX7_waveOf_79 (by decide) ?_
          refine r_istore dX7_waveOf_80 (by decide) rfl ?_
          refine r_iincv (v := (x6 + (1 : Int32))) dX7_waveOf_82 rfl rfl (by decide) rfl ?_
          refine r_goto (tgt := 40) dX7_waveOf_85 (by decide) ?_
          exact r_widen (k2 := 0) (n2 := 0) (Nat.le_of_ble_eq_true rfl) (Nat.le_of_ble_eq_true rfl) (r_mask [true, true, true, true, true, true, true] rfl (ih.2 ((x5 * (I ((o0 + 2) + 16 + (Int32.toNatClampNeg x6)) 4)) / (100 : Int32)) (x6 + (1 : Int32)) r hf))
def F_X7_waveOf (n : Nat) (o0 o1 : Nat) (I : gI) (a2 : Int32) (a3 : Int32) (a4 : Int32) : Option (Int32) := L_X7_waveOf n o0 o1 I a2 a3 a4 n 0 (0 : Int32) (0 : Int32)
set_option maxHeartbeats 4000000 in
set_option maxRecDepth 100000 in
theorem ct_X7_waveOf {G : gG} {lay : Nat → Nat × Nat} {T0 T1 : Nat} {Dd : Nat → Nat → UInt64} {I : gI} {J : gJ} {K : gI} {N : gJ} {sz n : Nat} {o0 o1 : Nat} {a2 : Int32} {a3 : Int32} {a4 : Int32} (hs : G.1.stackTraces = false) (hE : gLay lay) (ho0 : gTank lay o0) (ho1 : gState lay o1) {r : Int32} (hf : F_X7_waveOf n o0 o1 I a2 a3 a4 = some r) : gCt G mX7_waveOf [.ref (G.2.2.1 + o0), .ref (G.2.2.1 + o1), .int a2, .int a3, .int a4] (fO G (lay, T0, T1, Dd) I J K N) sz (gR (some (.int r)) (fO G (lay, T0, T1, Dd) I J K N) sz) := by
  unfold F_X7_waveOf at hf
  refine gCt.of [some (.ref (G.2.2.1 + o0)), some (.ref (G.2.2.1 + o1)), some (.int a2), some (.int a3), some (.int a4), none, none] (by decide +kernel) rfl hs rfl (Nat.le_of_ble_eq_true rfl) ?_
  refine r_iconst (v := (0 : Int32)) dX7_waveOf_0 (by decide) ?_
  refine r_istore dX7_waveOf_1 (by decide) rfl ?_
  refine r_iconst (v := (0 : Int32)) dX7_waveOf_3 (by decide) ?_
  refine r_istore dX7_waveOf_4 (by decide) rfl ?_
  exact r_widen (k2 := 0) (n2 := 0) (Nat.le_of_ble_eq_true rfl) (Nat.le_of_ble_eq_true rfl) (r_mask [true, true, true, true, true, true, true] rfl ((cL_X7_waveOf hs hE ho0 ho1 n).1 (0 : Int32) (0 : Int32) r hf))
def L_X7_staysCalm (n : Nat) (o0 o1 : Nat) (I : gI) (a2 : Int32) (a3 : Int32) (a4 : Int32) (a5 : Int32) : Nat → Nat → Int32 → Option (Int32)
  | 0, _, _ => none
  | j + 1, 0, x6 => (if a4 ≤ x6 then some (1 : Int32) else bd (F_X7_waveOf n o0 o1 I a2 a3 ((I o1 0) + x6)) (fun v21 => (if (jabs v21) ≤ a5 then L_X7_staysCalm n o0 o1 I a2 a3 a4 a5 j 0 (x6 + (1 : Int32)) else some (0 : Int32))))
  | _ + 1, _, _ => none
theorem L_X7_staysCalm_e0 (n j : Nat) (o0 o1 : Nat) (I : gI) (a2 : Int32) (a3 : Int32) (a4 : Int32) (a5 : Int32) (x6 : Int32) : L_X7_staysCalm n o0 o1 I a2 a3 a4 a5 (j + 1) 0 x6 = (if a4 ≤ x6 then some (1 : Int32) else bd (F_X7_waveOf n o0 o1 I a2 a3 ((I o1 0) + x6)) (fun v21 => (if (jabs v21) ≤ a5 then L_X7_staysCalm n o0 o1 I a2 a3 a4 a5 j 0 (x6 + (1 : Int32)) else some (0 : Int32)))) := rfl
set_option maxHeartbeats 4000000 in
set_option maxRecDepth 100000 in
theorem cL_X7_staysCalm {G : gG} {lay : Nat → Nat × Nat} {T0 T1 : Nat} {Dd : Nat → Nat → UInt64} {I : gI} {J : gJ} {K : gI} {N : gJ} {sz n : Nat} {o0 o1 : Nat} {a2 : Int32} {a3 : Int32} {a4 : Int32} {a5 : Int32} (hs : G.1.stackTraces = false) (hE : gLay lay) (ho0 : gTank lay o0) (ho1 : gState lay o1) : ∀ j : Nat, (∀ (x6 : Int32) (r : Int32), L_X7_staysCalm n o0 o1 I a2 a3 a4 a5 j 0 x6 = some r → gAt G mX7_staysCalm (gQp G mX7_staysCalm (gR (some (.int r)) (fO G (lay, T0, T1, Dd) I J K N) sz)) 3 [some (.ref (G.2.2.1 + o0)), some (.ref (G.2.2.1 + o1)), some (.int a2), some (.int a3), some (.int a4), some (.int a5), some (.int x6)] [] (fO G (lay, T0, T1, Dd) I J K N) sz 0 0) := by
  intro j
  induction j with
  | zero => exact fun _ _ hf => (by cases hf)
  | succ j ih =>
    refine ?_
    · intro x6 r hf
      rw [L_X7_staysCalm_e0] at hf
      refine r_iload dX7_staysCalm_3 rfl ?_
      refine r_iload dX7_staysCalm_5 rfl ?_
      refine r_icmp_ge (tgt := 40) dX7_staysCalm_7 (by decide) (fun c7 => ?_) (fun c7 => ?_)
      · replace hf := if_t hf c7
        refine r_iconst (v := (1 : Int32)) dX7_staysCalm_40 (by decide) ?_
        have hr := Option.some.inj hf
        subst hr
        exact r_zret dX7_staysCalm_41 rfl rfl (Nat.le_of_ble_eq_true rfl) (Nat.le_of_ble_eq_true rfl) ⟨rfl, rfl, rfl⟩
      · replace hf := if_f hf c7
        refine r_aload_n dX7_staysCalm_10 rfl ?_
        refine r_aload_n dX7_staysCalm_11 rfl ?_
        refine r_iload_n dX7_staysCalm_12 rfl ?_
        refine r_iload_n dX7_staysCalm_13 rfl ?_
        refine r_aload_n dX7_staysCalm_14 rfl ?_
        refine g6_0 dX7_staysCalm_15 wd_89 ho1.1 ?_
        refine r_iload dX7_staysCalm_18 rfl ?_
        refine r_iadd dX7_staysCalm_20 ?_
        obtain ⟨v21, hc21, hf⟩ := bd_of hf
        refine r_cVi (rest := []) (ct_X7_waveOf hs hE ho0 ho1 hc21) dX7_staysCalm_21 wd_674 zX7_waveOf wd_644 wd_645 rfl  rfl rfl (fo7 ho0.1) rfl rfl ⟨Nat.le_of_ble_eq_true rfl, Nat.le_of_ble_eq_true rfl⟩ (Nat.le_of_ble_eq_true rfl) ⟨Nat.le_of_ble_eq_true rfl, Nat.le_of_ble_eq_true rfl⟩ ?_
        refine r_mabs dX7_staysCalm_24 wd_675 wd_595 wd_54 wMath_mabs (Nat.le_of_ble_eq_true rfl) (Nat.le_of_ble_eq_true rfl) (Nat.le_of_ble_eq_true rfl) (Nat.le_of_ble_eq_true rfl) ?_
        refine r_iload dX7_staysCalm_27 rfl ?_
        refine r_icmp_le (tgt := 34) dX7_staysCalm_29 (by decide) (fun c29 => ?_) (fun c29 => ?_)
        · replace hf := if_t hf c29
          refine r_iincv (v := (x6 + (1 : Int32))) dX7_staysCalm_34 rfl rfl (by decide) rfl ?_
          refine r_goto (tgt := 3) dX7_staysCalm_37 (by decide) ?_
          exact r_widen (k2 := 0) (n2 := 0) (Nat.le_of_ble_eq_true rfl) (Nat.le_of_ble_eq_true rfl) (r_mask [true, true, true, true, true, true, true] rfl (ih (x6 + (1 : Int32)) r hf))
        · replace hf := if_f hf c29
          refine r_iconst (v := (0 : Int32)) dX7_staysCalm_32 (by decide) ?_
          have hr := Option.some.inj hf
          subst hr
          exact r_zret dX7_staysCalm_33 rfl rfl (Nat.le_of_ble_eq_true rfl) (Nat.le_of_ble_eq_true rfl) ⟨rfl, rfl, rfl⟩
def F_X7_staysCalm (n : Nat) (o0 o1 : Nat) (I : gI) (a2 : Int32) (a3 : Int32) (a4 : Int32) (a5 : Int32) : Option (Int32) := L_X7_staysCalm n o0 o1 I a2 a3 a4 a5 n 0 (0 : Int32)
set_option maxHeartbeats 4000000 in
set_option maxRecDepth 100000 in
theorem ct_X7_staysCalm {G : gG} {lay : Nat → Nat × Nat} {T0 T1 : Nat} {Dd : Nat → Nat → UInt64} {I : gI} {J : gJ} {K : gI} {N : gJ} {sz n : Nat} {o0 o1 : Nat} {a2 : Int32} {a3 : Int32} {a4 : Int32} {a5 : Int32} (hs : G.1.stackTraces = false) (hE : gLay lay) (ho0 : gTank lay o0) (ho1 : gState lay o1) {r : Int32} (hf : F_X7_staysCalm n o0 o1 I a2 a3 a4 a5 = some r) : gCt G mX7_staysCalm [.ref (G.2.2.1 + o0), .ref (G.2.2.1 + o1), .int a2, .int a3, .int a4, .int a5] (fO G (lay, T0, T1, Dd) I J K N) sz (gR (some (.int r)) (fO G (lay, T0, T1, Dd) I J K N) sz) := by
  unfold F_X7_staysCalm at hf
  refine gCt.of [some (.ref (G.2.2.1 + o0)), some (.ref (G.2.2.1 + o1)), some (.int a2), some (.int a3), some (.int a4), some (.int a5), none] (by decide +kernel) rfl hs rfl (Nat.le_of_ble_eq_true rfl) ?_
  refine r_iconst (v := (0 : Int32)) dX7_staysCalm_0 (by decide) ?_
  refine r_istore dX7_staysCalm_1 (by decide) rfl ?_
  exact r_widen (k2 := 0) (n2 := 0) (Nat.le_of_ble_eq_true rfl) (Nat.le_of_ble_eq_true rfl) (r_mask [true, true, true, true, true, true, true] rfl ((cL_X7_staysCalm hs hE ho0 ho1 n) (0 : Int32) r hf))
def L_X7_energyOf (n : Nat) (o0 o1 : Nat) (I : gI) (a2 : Int32) (a3 : Int32) (a4 : Int32) : Nat → Nat → Int64 → Int32 → Option (Int64)
  | 0, _, _, _ => none
  | j + 1, 0, y5, x7 => (if a4 ≤ x7 then some y5 else bd (F_X7_waveOf n o0 o1 I a2 a3 ((I o1 0) + x7)) (fun v24 => L_X7_energyOf n o0 o1 I a2 a3 a4 j 0 (y5 + ((Int32.toInt64 v24) * (Int32.toInt64 v24))) (x7 + (1 : Int32))))
  | _ + 1, _, _, _ => none
theorem L_X7_energyOf_e0 (n j : Nat) (o0 o1 : Nat) (I : gI) (a2 : Int32) (a3 : Int32) (a4 : Int32) (y5 : Int64) (x7 : Int32) : L_X7_energyOf n o0 o1 I a2 a3 a4 (j + 1) 0 y5 x7 = (if a4 ≤ x7 then some y5 else bd (F_X7_waveOf n o0 o1 I a2 a3 ((I o1 0) + x7)) (fun v24 => L_X7_energyOf n o0 o1 I a2 a3 a4 j 0 (y5 + ((Int32.toInt64 v24) * (Int32.toInt64 v24))) (x7 + (1 : Int32)))) := rfl
set_option maxHeartbeats 4000000 in
set_option maxRecDepth 100000 in
theorem cL_X7_energyOf {G : gG} {lay : Nat → Nat × Nat} {T0 T1 : Nat} {Dd : Nat → Nat → UInt64} {I : gI} {J : gJ} {K : gI} {N : gJ} {sz n : Nat} {o0 o1 : Nat} {a2 : Int32} {a3 : Int32} {a4 : Int32} (hs : G.1.stackTraces = false) (hE : gLay lay) (ho0 : gTank lay o0) (ho1 : gState lay o1) : ∀ j : Nat, (∀ (y5 : Int64) (x7 : Int32) (r : Int64), L_X7_energyOf n o0 o1 I a2 a3 a4 j 0 y5 x7 = some r → gAt G mX7_energyOf (gQp G mX7_energyOf (gR (some (.long r)) (fO G (lay, T0, T1, Dd) I J K N) sz)) 6 [some (.ref (G.2.2.1 + o0)), some (.ref (G.2.2.1 + o1)), some (.int a2), some (.int a3), some (.int a4), some (.long y5), none, some (.int x7), none, none] [] (fO G (lay, T0, T1, Dd) I J K N) sz 0 0) := by
  intro j
  induction j with
  | zero => exact fun _ _ _ hf => (by cases hf)
  | succ j ih =>
    refine ?_
    · intro y5 x7 r hf
      rw [L_X7_energyOf_e0] at hf
      refine r_iload dX7_energyOf_6 rfl ?_
      refine r_iload dX7_energyOf_8 rfl ?_
      refine r_icmp_ge (tgt := 46) dX7_energyOf_10 (by decide) (fun c10 => ?_) (fun c10 => ?_)
      · replace hf := if_t hf c10
        refine r_lload dX7_energyOf_46 rfl ?_
        have hr := Option.some.inj hf
        subst hr
        exact r_lret dX7_energyOf_48 rfl (Nat.le_of_ble_eq_true rfl) (Nat.le_of_ble_eq_true rfl) ⟨rfl, rfl, rfl⟩
      · replace hf := if_f hf c10
        refine r_aload_n dX7_energyOf_13 rfl ?_
        refine r_aload_n dX7_energyOf_14 rfl ?_
        refine r_iload_n dX7_energyOf_15 rfl ?_
        refine r_iload_n dX7_energyOf_16 rfl ?_
        refine r_aload_n dX7_energyOf_17 rfl ?_
        refine g6_0 dX7_energyOf_18 wd_89 ho1.1 ?_
        refine r_iload dX7_energyOf_21 rfl ?_
        refine r_iadd dX7_energyOf_23 ?_
        obtain ⟨v24, hc24, hf⟩ := bd_of hf
        refine r_cVi (rest := []) (ct_X7_waveOf hs hE ho0 ho1 hc24) dX7_energyOf_24 wd_674 zX7_waveOf wd_644 wd_645 rfl  rfl rfl (fo7 ho0.1) rfl rfl ⟨Nat.le_of_ble_eq_true rfl, Nat.le_of_ble_eq_true rfl⟩ (Nat.le_of_ble_eq_true rfl) ⟨Nat.le_of_ble_eq_true rfl, Nat.le_of_ble_eq_true rfl⟩ ?_
        refine r_i2l dX7_energyOf_27 ?_
        refine r_lstore dX7_energyOf_28 (by decide) rfl ?_
        refine r_lload dX7_energyOf_30 rfl ?_
        refine r_lload dX7_energyOf_32 rfl ?_
        refine r_lload dX7_energyOf_34 rfl ?_
        refine r_lmul dX7_energyOf_36 ?_
        refine r_ladd dX7_energyOf_37 ?_
        refine r_lstore dX7_energyOf_38 (by decide) rfl ?_
        refine r_iincv (v := (x7 + (1 : Int32))) dX7_energyOf_40 rfl rfl (by decide) rfl ?_
        refine r_goto (tgt := 6) dX7_energyOf_43 (by decide) ?_
        exact r_widen (k2 := 0) (n2 := 0) (Nat.le_of_ble_eq_true rfl) (Nat.le_of_ble_eq_true rfl) (r_mask [true, true, true, true, true, true, false, true, false, false] rfl (ih (y5 + ((Int32.toInt64 v24) * (Int32.toInt64 v24))) (x7 + (1 : Int32)) r hf))
def F_X7_energyOf (n : Nat) (o0 o1 : Nat) (I : gI) (a2 : Int32) (a3 : Int32) (a4 : Int32) : Option (Int64) := L_X7_energyOf n o0 o1 I a2 a3 a4 n 0 (0 : Int64) (0 : Int32)
set_option maxHeartbeats 4000000 in
set_option maxRecDepth 100000 in
theorem ct_X7_energyOf {G : gG} {lay : Nat → Nat × Nat} {T0 T1 : Nat} {Dd : Nat → Nat → UInt64} {I : gI} {J : gJ} {K : gI} {N : gJ} {sz n : Nat} {o0 o1 : Nat} {a2 : Int32} {a3 : Int32} {a4 : Int32} (hs : G.1.stackTraces = false) (hE : gLay lay) (ho0 : gTank lay o0) (ho1 : gState lay o1) {r : Int64} (hf : F_X7_energyOf n o0 o1 I a2 a3 a4 = some r) : gCt G mX7_energyOf [.ref (G.2.2.1 + o0), .ref (G.2.2.1 + o1), .int a2, .int a3, .int a4] (fO G (lay, T0, T1, Dd) I J K N) sz (gR (some (.long r)) (fO G (lay, T0, T1, Dd) I J K N) sz) := by
  unfold F_X7_energyOf at hf
  refine gCt.of [some (.ref (G.2.2.1 + o0)), some (.ref (G.2.2.1 + o1)), some (.int a2), some (.int a3), some (.int a4), none, none, none, none, none] (by decide +kernel) rfl hs rfl (Nat.le_of_ble_eq_true rfl) ?_
  refine r_lconst (v := (0 : Int64)) dX7_energyOf_0 (by decide) ?_
  refine r_lstore dX7_energyOf_1 (by decide) rfl ?_
  refine r_iconst (v := (0 : Int32)) dX7_energyOf_3 (by decide) ?_
  refine r_istore dX7_energyOf_4 (by decide) rfl ?_
  exact r_widen (k2 := 0) (n2 := 0) (Nat.le_of_ble_eq_true rfl) (Nat.le_of_ble_eq_true rfl) (r_mask [true, true, true, true, true, true, false, true, false, false] rfl ((cL_X7_energyOf hs hE ho0 ho1 n) (0 : Int64) (0 : Int32) r hf))
def F_X8_addCut (n : Nat) (o0 : Nat) (I : gI) (a1 : Int32) (a2 : Int32) : Option (gI) := (if (6 : Int32) ≤ (I o0 8) then some I else gv (I o0 8) 6 (gv ((sI I (o0 + 1) (Int32.toNatClampNeg (I o0 8)) a1) o0 8) 6 (some (sI (sI (sI I (o0 + 1) (Int32.toNatClampNeg (I o0 8)) a1) (o0 + 2) (Int32.toNatClampNeg ((sI I (o0 + 1) (Int32.toNatClampNeg (I o0 8)) a1) o0 8)) a2) o0 8 (((sI (sI I (o0 + 1) (Int32.toNatClampNeg (I o0 8)) a1) (o0 + 2) (Int32.toNatClampNeg ((sI I (o0 + 1) (Int32.toNatClampNeg (I o0 8)) a1) o0 8)) a2) o0 8) + (1 : Int32))))))
set_option maxHeartbeats 4000000 in
set_option maxRecDepth 100000 in
theorem ct_X8_addCut {G : gG} {lay : Nat → Nat × Nat} {T0 T1 : Nat} {Dd : Nat → Nat → UInt64} {I : gI} {J : gJ} {K : gI} {N : gJ} {sz n : Nat} {o0 : Nat} {a1 : Int32} {a2 : Int32} (hs : G.1.stackTraces = false) (hE : gLay lay) (ho0 : gTrain lay o0) {r : gI} (hf : F_X8_addCut n o0 I a1 a2 = some r) : gCt G mX8_addCut [.ref (G.2.2.1 + o0), .int a1, .int a2] (fO G (lay, T0, T1, Dd) I J K N) sz (gR none (fO G (lay, T0, T1, Dd) r J K N) sz) := by
  unfold F_X8_addCut at hf
  refine gCt.of [some (.ref (G.2.2.1 + o0)), some (.int a1), some (.int a2)] (by decide +kernel) rfl hs rfl (Nat.le_of_ble_eq_true rfl) ?_
  refine r_aload_n dX8_addCut_0 rfl ?_
  refine g8_8 dX8_addCut_1 wd_242 ho0.1 ?_
  refine r_bipush (v := (6 : Int32)) dX8_addCut_4 (by decide) ?_
  refine r_icmp_ge (tgt := 39) dX8_addCut_6 (by decide) (fun c6 => ?_) (fun c6 => ?_)
  · replace hf := if_t hf c6
    have hr := Option.some.inj hf
    subst hr
    exact r_vret dX8_addCut_39 rfl (Nat.le_of_ble_eq_true rfl) (Nat.le_of_ble_eq_true rfl) ⟨rfl, rfl, rfl⟩
  · replace hf := if_f hf c6
    refine r_aload_n dX8_addCut_9 rfl ?_
    refine g8_9 dX8_addCut_10 wd_244 ho0.1 ?_
    refine r_aload_n dX8_addCut_13 rfl ?_
    refine g8_8 dX8_addCut_14 wd_242 ho0.1 ?_
    refine r_iload_n dX8_addCut_17 rfl ?_
    obtain ⟨h18, hf⟩ := gv_of hf
    refine a_iast dX8_addCut_18 ho0.2.1 h18 ?_
    refine r_aload_n dX8_addCut_19 rfl ?_
    refine g8_10 dX8_addCut_20 wd_245 ho0.1 ?_
    refine r_aload_n dX8_addCut_23 rfl ?_
    refine g8_8 dX8_addCut_24 wd_242 ho0.1 ?_
    refine r_iload_n dX8_addCut_27 rfl ?_
    obtain ⟨h28, hf⟩ := gv_of hf
    refine a_iast dX8_addCut_28 ho0.2.2 h28 ?_
    refine r_aload_n dX8_addCut_29 rfl ?_
    refine r_dup dX8_addCut_30 rfl ?_
    refine g8_8 dX8_addCut_31 wd_242 ho0.1 ?_
    refine r_iconst (v := (1 : Int32)) dX8_addCut_34 (by decide) ?_
    refine r_iadd dX8_addCut_35 ?_
    refine p8_8 dX8_addCut_36 wd_242 ho0.1 ?_
    have hr := Option.some.inj hf
    subst hr
    exact r_vret dX8_addCut_39 rfl (Nat.le_of_ble_eq_true rfl) (Nat.le_of_ble_eq_true rfl) ⟨rfl, rfl, rfl⟩
