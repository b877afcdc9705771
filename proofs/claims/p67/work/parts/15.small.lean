def F_X0_clear (n : Nat) (I : gI) : Option (gI) := some (sI I 18 2 (0 : Int32))
set_option maxHeartbeats 4000000 in
set_option maxRecDepth 100000 in
theorem ct_X0_clear {G : gG} {lay : Nat → Nat × Nat} {T0 T1 : Nat} {Dd : Nat → Nat → UInt64} {I : gI} {J : gJ} {K : gI} {N : gJ} {sz n : Nat} (hs : G.1.stackTraces = false) (hE : gLay lay) {r : gI} (hf : F_X0_clear n I = some r) : gCt G mX0_clear [.ref (G.2.2.1 + 18)] (fO G (lay, T0, T1, Dd) I J K N) sz (gR none (fO G (lay, T0, T1, Dd) r J K N) sz) := by
  unfold F_X0_clear at hf
  refine gCt.of [some (.ref (G.2.2.1 + 18))] (by decide +kernel) rfl hs rfl (Nat.le_of_ble_eq_true rfl) ?_
  refine r_aload_n dX0_clear_0 rfl ?_
  refine r_iconst (v := (0 : Int32)) dX0_clear_1 (by decide) ?_
  refine p0_2 dX0_clear_2 wd_154 (hE 18 (by decide)) ?_
  have hr := Option.some.inj hf
  subst hr
  exact r_vret dX0_clear_5 rfl (Nat.le_of_ble_eq_true rfl) (Nat.le_of_ble_eq_true rfl) ⟨rfl, rfl, rfl⟩
def F_X0_keep (n : Nat) (o1 : Nat) (I : gI) : Option (gI) := gv (((I 18 1) + (I 18 2)) - ((I 18 1) + (I 18 2)) / (8 : Int32) * (8 : Int32)) 8 (bd (F_X6_copyFrom n ((18 + 1) + 1 + 8 * (Int32.toNatClampNeg (((I 18 1) + (I 18 2)) - ((I 18 1) + (I 18 2)) / (8 : Int32) * (8 : Int32)))) o1 I) (fun v18 => (if (8 : Int32) ≤ (v18 18 2) then some (sI v18 18 1 (((v18 18 1) + (1 : Int32)) - ((v18 18 1) + (1 : Int32)) / (8 : Int32) * (8 : Int32))) else some (sI v18 18 2 ((v18 18 2) + (1 : Int32))))))
set_option maxHeartbeats 4000000 in
set_option maxRecDepth 100000 in
theorem ct_X0_keep {G : gG} {lay : Nat → Nat × Nat} {T0 T1 : Nat} {Dd : Nat → Nat → UInt64} {I : gI} {J : gJ} {K : gI} {N : gJ} {sz n : Nat} {o1 : Nat} (hs : G.1.stackTraces = false) (hE : gLay lay) (ho1 : gState lay o1) {r : gI} (hf : F_X0_keep n o1 I = some r) : gCt G mX0_keep [.ref (G.2.2.1 + 18), .ref (G.2.2.1 + o1)] (fO G (lay, T0, T1, Dd) I J K N) sz (gR none (fO G (lay, T0, T1, Dd) r J K N) sz) := by
  unfold F_X0_keep at hf
  refine gCt.of [some (.ref (G.2.2.1 + 18)), some (.ref (G.2.2.1 + o1))] (by decide +kernel) rfl hs rfl (Nat.le_of_ble_eq_true rfl) ?_
  refine r_aload_n dX0_keep_0 rfl ?_
  refine g0_0 dX0_keep_1 wd_152 (hE 18 (by decide)) ?_
  refine r_aload_n dX0_keep_4 rfl ?_
  refine g0_1 dX0_keep_5 wd_153 (hE 18 (by decide)) ?_
  refine r_aload_n dX0_keep_8 rfl ?_
  refine g0_2 dX0_keep_9 wd_154 (hE 18 (by decide)) ?_
  refine r_iadd dX0_keep_12 ?_
  refine r_bipush (v := (8 : Int32)) dX0_keep_13 (by decide) ?_
  refine r_irem dX0_keep_15 (by decide) ?_
  obtain ⟨h16, hf⟩ := gv_of hf
  refine a_aald107 dX0_keep_16 (hE (18 + 1) (by decide)) h16 ?_
  refine r_aload_n dX0_keep_17 rfl ?_
  obtain ⟨v18, hc18, hf⟩ := bd_of hf
  refine r_cVv (rest := []) (ct_X6_copyFrom hs hE (gKept hE (vp_lt h16)) ho1 hc18) dX0_keep_18 wd_721 zX6_copyFrom wd_689 wd_690 rfl  rfl rfl (fo6 (gKept hE (vp_lt h16)).1) rfl rfl ⟨Nat.le_of_ble_eq_true rfl, Nat.le_of_ble_eq_true rfl⟩ (Nat.le_of_ble_eq_true rfl) ⟨Nat.le_of_ble_eq_true rfl, Nat.le_of_ble_eq_true rfl⟩ ?_
  refine r_aload_n dX0_keep_21 rfl ?_
  refine g0_2 dX0_keep_22 wd_154 (hE 18 (by decide)) ?_
  refine r_bipush (v := (8 : Int32)) dX0_keep_25 (by decide) ?_
  refine r_icmp_ge (tgt := 43) dX0_keep_27 (by decide) (fun c27 => ?_) (fun c27 => ?_)
  · replace hf := if_t hf c27
    refine r_aload_n dX0_keep_43 rfl ?_
    refine r_aload_n dX0_keep_44 rfl ?_
    refine g0_1 dX0_keep_45 wd_153 (hE 18 (by decide)) ?_
    refine r_iconst (v := (1 : Int32)) dX0_keep_48 (by decide) ?_
    refine r_iadd dX0_keep_49 ?_
    refine r_bipush (v := (8 : Int32)) dX0_keep_50 (by decide) ?_
    refine r_irem dX0_keep_52 (by decide) ?_
    refine p0_1 dX0_keep_53 wd_153 (hE 18 (by decide)) ?_
    have hr := Option.some.inj hf
    subst hr
    exact r_vret dX0_keep_56 rfl (Nat.le_of_ble_eq_true rfl) (Nat.le_of_ble_eq_true rfl) ⟨rfl, rfl, rfl⟩
  · replace hf := if_f hf c27
    refine r_aload_n dX0_keep_30 rfl ?_
    refine r_dup dX0_keep_31 rfl ?_
    refine g0_2 dX0_keep_32 wd_154 (hE 18 (by decide)) ?_
    refine r_iconst (v := (1 : Int32)) dX0_keep_35 (by decide) ?_
    refine r_iadd dX0_keep_36 ?_
    refine p0_2 dX0_keep_37 wd_154 (hE 18 (by decide)) ?_
    refine r_goto (tgt := 56) dX0_keep_40 (by decide) ?_
    have hr := Option.some.inj hf
    subst hr
    exact r_vret dX0_keep_56 rfl (Nat.le_of_ble_eq_true rfl) (Nat.le_of_ble_eq_true rfl) ⟨rfl, rfl, rfl⟩
def F_X0_takeBack (n : Nat) (o1 : Nat) (I : gI) : Option (gI) := (if (I 18 2) ≤ 0 then some I else gv ((((sI I 18 2 ((I 18 2) - (1 : Int32))) 18 1) + ((sI I 18 2 ((I 18 2) - (1 : Int32))) 18 2)) - (((sI I 18 2 ((I 18 2) - (1 : Int32))) 18 1) + ((sI I 18 2 ((I 18 2) - (1 : Int32))) 18 2)) / (8 : Int32) * (8 : Int32)) 8 (bd (F_X6_copyFrom n o1 ((18 + 1) + 1 + 8 * (Int32.toNatClampNeg ((((sI I 18 2 ((I 18 2) - (1 : Int32))) 18 1) + ((sI I 18 2 ((I 18 2) - (1 : Int32))) 18 2)) - (((sI I 18 2 ((I 18 2) - (1 : Int32))) 18 1) + ((sI I 18 2 ((I 18 2) - (1 : Int32))) 18 2)) / (8 : Int32) * (8 : Int32)))) (sI I 18 2 ((I 18 2) - (1 : Int32)))) (fun v35 => some v35)))
set_option maxHeartbeats 4000000 in
set_option maxRecDepth 100000 in
theorem ct_X0_takeBack {G : gG} {lay : Nat → Nat × Nat} {T0 T1 : Nat} {Dd : Nat → Nat → UInt64} {I : gI} {J : gJ} {K : gI} {N : gJ} {sz n : Nat} {o1 : Nat} (hs : G.1.stackTraces = false) (hE : gLay lay) (ho1 : gState lay o1) {r : gI} (hf : F_X0_takeBack n o1 I = some r) : gCt G mX0_takeBack [.ref (G.2.2.1 + 18), .ref (G.2.2.1 + o1)] (fO G (lay, T0, T1, Dd) I J K N) sz (gR none (fO G (lay, T0, T1, Dd) r J K N) sz) := by
  unfold F_X0_takeBack at hf
  refine gCt.of [some (.ref (G.2.2.1 + 18)), some (.ref (G.2.2.1 + o1))] (by decide +kernel) rfl hs rfl (Nat.le_of_ble_eq_true rfl) ?_
  refine r_aload_n dX0_takeBack_0 rfl ?_
  refine g0_2 dX0_takeBack_1 wd_154 (hE 18 (by decide)) ?_
  refine r_if_le (tgt := 38) dX0_takeBack_4 (by decide) (fun c4 => ?_) (fun c4 => ?_)
  · replace hf := if_t hf c4
    have hr := Option.some.inj hf
    subst hr
    exact r_vret dX0_takeBack_38 rfl (Nat.le_of_ble_eq_true rfl) (Nat.le_of_ble_eq_true rfl) ⟨rfl, rfl, rfl⟩
  · replace hf := if_f hf c4
    refine r_aload_n dX0_takeBack_7 rfl ?_
    refine r_dup dX0_takeBack_8 rfl ?_
    refine g0_2 dX0_takeBack_9 wd_154 (hE 18 (by decide)) ?_
    refine r_iconst (v := (1 : Int32)) dX0_takeBack_12 (by decide) ?_
    refine r_isub dX0_takeBack_13 ?_
    refine p0_2 dX0_takeBack_14 wd_154 (hE 18 (by decide)) ?_
    refine r_aload_n dX0_takeBack_17 rfl ?_
    refine r_aload_n dX0_takeBack_18 rfl ?_
    refine g0_0 dX0_takeBack_19 wd_152 (hE 18 (by decide)) ?_
    refine r_aload_n dX0_takeBack_22 rfl ?_
    refine g0_1 dX0_takeBack_23 wd_153 (hE 18 (by decide)) ?_
    refine r_aload_n dX0_takeBack_26 rfl ?_
    refine g0_2 dX0_takeBack_27 wd_154 (hE 18 (by decide)) ?_
    refine r_iadd dX0_takeBack_30 ?_
    refine r_bipush (v := (8 : Int32)) dX0_takeBack_31 (by decide) ?_
    refine r_irem dX0_takeBack_33 (by decide) ?_
    obtain ⟨h34, hf⟩ := gv_of hf
    refine a_aald107 dX0_takeBack_34 (hE (18 + 1) (by decide)) h34 ?_
    obtain ⟨v35, hc35, hf⟩ := bd_of hf
    refine r_cVv (rest := []) (ct_X6_copyFrom hs hE ho1 (gKept hE (vp_lt h34)) hc35) dX0_takeBack_35 wd_721 zX6_copyFrom wd_689 wd_690 rfl  rfl rfl (fo6 ho1.1) rfl rfl ⟨Nat.le_of_ble_eq_true rfl, Nat.le_of_ble_eq_true rfl⟩ (Nat.le_of_ble_eq_true rfl) ⟨Nat.le_of_ble_eq_true rfl, Nat.le_of_ble_eq_true rfl⟩ ?_
    have hr := Option.some.inj hf
    subst hr
    exact r_vret dX0_takeBack_38 rfl (Nat.le_of_ble_eq_true rfl) (Nat.le_of_ble_eq_true rfl) ⟨rfl, rfl, rfl⟩
def F_X1_gather (n : Nat) (I : gI) (a1 : Int32) (a2 : Int32) (a3 : Int32) (a4 : Int32) : Option (gI) := (if a1 < 0 then some I else (if a3 ≤ a1 then some I else (if a2 < 0 then some I else (if a4 ≤ a2 then some I else gv a2 10 ((if (((I (88 + 1) (Int32.toNatClampNeg a2)) >>> (a1 &&& 31)) &&& (1 : Int32)) = 0 then some I else gv a2 10 (gv a2 10 ((if (160 : Int32) ≤ ((sI I (88 + 1) (Int32.toNatClampNeg a2) ((I (88 + 1) (Int32.toNatClampNeg a2)) ^^^ ((1 : Int32) <<< (a1 &&& 31)))) 88 2) then some (sI I (88 + 1) (Int32.toNatClampNeg a2) ((I (88 + 1) (Int32.toNatClampNeg a2)) ^^^ ((1 : Int32) <<< (a1 &&& 31)))) else gv ((sI I (88 + 1) (Int32.toNatClampNeg a2) ((I (88 + 1) (Int32.toNatClampNeg a2)) ^^^ ((1 : Int32) <<< (a1 &&& 31)))) 88 2) 160 (some (sI (sI (sI I (88 + 1) (Int32.toNatClampNeg a2) ((I (88 + 1) (Int32.toNatClampNeg a2)) ^^^ ((1 : Int32) <<< (a1 &&& 31)))) (88 + 2) (Int32.toNatClampNeg ((sI I (88 + 1) (Int32.toNatClampNeg a2) ((I (88 + 1) (Int32.toNatClampNeg a2)) ^^^ ((1 : Int32) <<< (a1 &&& 31)))) 88 2)) ((a2 * a3) + a1)) 88 2 (((sI (sI I (88 + 1) (Int32.toNatClampNeg a2) ((I (88 + 1) (Int32.toNatClampNeg a2)) ^^^ ((1 : Int32) <<< (a1 &&& 31)))) (88 + 2) (Int32.toNatClampNeg ((sI I (88 + 1) (Int32.toNatClampNeg a2) ((I (88 + 1) (Int32.toNatClampNeg a2)) ^^^ ((1 : Int32) <<< (a1 &&& 31)))) 88 2)) ((a2 * a3) + a1)) 88 2) + (1 : Int32)))))))))))))
set_option maxHeartbeats 4000000 in
set_option maxRecDepth 100000 in
theorem ct_X1_gather {G : gG} {lay : Nat → Nat × Nat} {T0 T1 : Nat} {Dd : Nat → Nat → UInt64} {I : gI} {J : gJ} {K : gI} {N : gJ} {sz n : Nat} {a1 : Int32} {a2 : Int32} {a3 : Int32} {a4 : Int32} (hs : G.1.stackTraces = false) (hE : gLay lay) {r : gI} (hf : F_X1_gather n I a1 a2 a3 a4 = some r) : gCt G mX1_gather [.ref (G.2.2.1 + 88), .int a1, .int a2, .int a3, .int a4] (fO G (lay, T0, T1, Dd) I J K N) sz (gR none (fO G (lay, T0, T1, Dd) r J K N) sz) := by
  unfold F_X1_gather at hf
  refine gCt.of [some (.ref (G.2.2.1 + 88)), some (.int a1), some (.int a2), some (.int a3), some (.int a4)] (by decide +kernel) rfl hs rfl (Nat.le_of_ble_eq_true rfl) ?_
  refine r_iload_n dX1_gather_0 rfl ?_
  refine r_if_lt (tgt := 32) dX1_gather_1 (by decide) (fun c1 => ?_) (fun c1 => ?_)
  · replace hf := if_t hf c1
    have hr := Option.some.inj hf
    subst hr
    exact r_vret dX1_gather_32 rfl (Nat.le_of_ble_eq_true rfl) (Nat.le_of_ble_eq_true rfl) ⟨rfl, rfl, rfl⟩
  · replace hf := if_f hf c1
    refine r_iload_n dX1_gather_4 rfl ?_
    refine r_iload_n dX1_gather_5 rfl ?_
    refine r_icmp_ge (tgt := 32) dX1_gather_6 (by decide) (fun c6 => ?_) (fun c6 => ?_)
    · replace hf := if_t hf c6
      have hr := Option.some.inj hf
      subst hr
      exact r_vret dX1_gather_32 rfl (Nat.le_of_ble_eq_true rfl) (Nat.le_of_ble_eq_true rfl) ⟨rfl, rfl, rfl⟩
    · replace hf := if_f hf c6
      refine r_iload_n dX1_gather_9 rfl ?_
      refine r_if_lt (tgt := 32) dX1_gather_10 (by decide) (fun c10 => ?_) (fun c10 => ?_)
      · replace hf := if_t hf c10
        have hr := Option.some.inj hf
        subst hr
        exact r_vret dX1_gather_32 rfl (Nat.le_of_ble_eq_true rfl) (Nat.le_of_ble_eq_true rfl) ⟨rfl, rfl, rfl⟩
      · replace hf := if_f hf c10
        refine r_iload_n dX1_gather_13 rfl ?_
        refine r_iload dX1_gather_14 rfl ?_
        refine r_icmp_ge (tgt := 32) dX1_gather_16 (by decide) (fun c16 => ?_) (fun c16 => ?_)
        · replace hf := if_t hf c16
          have hr := Option.some.inj hf
          subst hr
          exact r_vret dX1_gather_32 rfl (Nat.le_of_ble_eq_true rfl) (Nat.le_of_ble_eq_true rfl) ⟨rfl, rfl, rfl⟩
        · replace hf := if_f hf c16
          refine r_aload_n dX1_gather_19 rfl ?_
          refine g1_0 dX1_gather_20 wd_181 (hE 88 (by decide)) ?_
          refine r_iload_n dX1_gather_23 rfl ?_
          obtain ⟨h24, hf⟩ := gv_of hf
          refine a_iald dX1_gather_24 (hE (88 + 1) (by decide)) h24 ?_
          refine r_iload_n dX1_gather_25 rfl ?_
          refine r_ishr dX1_gather_26 ?_
          refine r_iconst (v := (1 : Int32)) dX1_gather_27 (by decide) ?_
          refine r_iand dX1_gather_28 ?_
          refine r_if_ne (tgt := 33) dX1_gather_29 (by decide) (fun c29 => ?_) (fun c29 => ?_)
          · replace hf := if_f hf c29
            refine r_aload_n dX1_gather_33 rfl ?_
            refine g1_0 dX1_gather_34 wd_181 (hE 88 (by decide)) ?_
            refine r_iload_n dX1_gather_37 rfl ?_
            refine r_dup2 dX1_gather_38 rfl rfl ?_
            obtain ⟨h39, hf⟩ := gv_of hf
            refine a_iald dX1_gather_39 (hE (88 + 1) (by decide)) h39 ?_
            refine r_iconst (v := (1 : Int32)) dX1_gather_40 (by decide) ?_
            refine r_iload_n dX1_gather_41 rfl ?_
            refine r_ishl dX1_gather_42 ?_
            refine r_ixor dX1_gather_43 ?_
            obtain ⟨h44, hf⟩ := gv_of hf
            refine a_iast dX1_gather_44 (hE (88 + 1) (by decide)) h44 ?_
            refine r_aload_n dX1_gather_45 rfl ?_
            refine g1_2 dX1_gather_46 wd_184 (hE 88 (by decide)) ?_
            refine r_sipush (v := (160 : Int32)) dX1_gather_49 (by decide) ?_
            refine r_icmp_ge (tgt := 79) dX1_gather_52 (by decide) (fun c52 => ?_) (fun c52 => ?_)
            · replace hf := if_t hf c52
              have hr := Option.some.inj hf
              subst hr
              exact r_vret dX1_gather_79 rfl (Nat.le_of_ble_eq_true rfl) (Nat.le_of_ble_eq_true rfl) ⟨rfl, rfl, rfl⟩
            · replace hf := if_f hf c52
              refine r_aload_n dX1_gather_55 rfl ?_
              refine g1_1 dX1_gather_56 wd_183 (hE 88 (by decide)) ?_
              refine r_aload_n dX1_gather_59 rfl ?_
              refine g1_2 dX1_gather_60 wd_184 (hE 88 (by decide)) ?_
              refine r_iload_n dX1_gather_63 rfl ?_
              refine r_iload_n dX1_gather_64 rfl ?_
              refine r_imul dX1_gather_65 ?_
              refine r_iload_n dX1_gather_66 rfl ?_
              refine r_iadd dX1_gather_67 ?_
              obtain ⟨h68, hf⟩ := gv_of hf
              refine a_iast dX1_gather_68 (hE (88 + 2) (by decide)) h68 ?_
              refine r_aload_n dX1_gather_69 rfl ?_
              refine r_dup dX1_gather_70 rfl ?_
              refine g1_2 dX1_gather_71 wd_184 (hE 88 (by decide)) ?_
              refine r_iconst (v := (1 : Int32)) dX1_gather_74 (by decide) ?_
              refine r_iadd dX1_gather_75 ?_
              refine p1_2 dX1_gather_76 wd_184 (hE 88 (by decide)) ?_
              have hr := Option.some.inj hf
              subst hr
              exact r_vret dX1_gather_79 rfl (Nat.le_of_ble_eq_true rfl) (Nat.le_of_ble_eq_true rfl) ⟨rfl, rfl, rfl⟩
          · replace hf := if_t hf c29
            have hr := Option.some.inj hf
            subst hr
            exact r_vret dX1_gather_32 rfl (Nat.le_of_ble_eq_true rfl) (Nat.le_of_ble_eq_true rfl) ⟨rfl, rfl, rfl⟩
def L_X1_removeGroup (n : Nat) (a1 : Int32) (a2 : Int32) (a3 : Int32) (a4 : Int32) : Nat → Nat → Int32 → gI → Option (gI)
  | 0, _, _, _ => none
  | j + 1, 0, x5, I => (if (I 88 2) ≤ x5 then some I else (if (160 : Int32) ≤ x5 then some I else gv x5 160 (gd (¬ a3 = 0) (gv x5 160 (gd (¬ a3 = 0) (bd (F_X1_gather n I (((I (88 + 2) (Int32.toNatClampNeg x5)) - (I (88 + 2) (Int32.toNatClampNeg x5)) / a3 * a3) - (1 : Int32)) ((I (88 + 2) (Int32.toNatClampNeg x5)) / a3) a3 a4) (fun v66 => bd (F_X1_gather n v66 (((I (88 + 2) (Int32.toNatClampNeg x5)) - (I (88 + 2) (Int32.toNatClampNeg x5)) / a3 * a3) + (1 : Int32)) ((I (88 + 2) (Int32.toNatClampNeg x5)) / a3) a3 a4) (fun v79 => bd (F_X1_gather n v79 ((I (88 + 2) (Int32.toNatClampNeg x5)) - (I (88 + 2) (Int32.toNatClampNeg x5)) / a3 * a3) (((I (88 + 2) (Int32.toNatClampNeg x5)) / a3) - (1 : Int32)) a3 a4) (fun v92 => bd (F_X1_gather n v92 ((I (88 + 2) (Int32.toNatClampNeg x5)) - (I (88 + 2) (Int32.toNatClampNeg x5)) / a3 * a3) (((I (88 + 2) (Int32.toNatClampNeg x5)) / a3) + (1 : Int32)) a3 a4) (fun v105 => L_X1_removeGroup n a1 a2 a3 a4 j 0 (x5 + (1 : Int32)) v105))))))))))
  | _ + 1, _, _, _ => none
theorem L_X1_removeGroup_e0 (n j : Nat) (a1 : Int32) (a2 : Int32) (a3 : Int32) (a4 : Int32) (x5 : Int32) (I : gI) : L_X1_removeGroup n a1 a2 a3 a4 (j + 1) 0 x5 I = (if (I 88 2) ≤ x5 then some I else (if (160 : Int32) ≤ x5 then some I else gv x5 160 (gd (¬ a3 = 0) (gv x5 160 (gd (¬ a3 = 0) (bd (F_X1_gather n I (((I (88 + 2) (Int32.toNatClampNeg x5)) - (I (88 + 2) (Int32.toNatClampNeg x5)) / a3 * a3) - (1 : Int32)) ((I (88 + 2) (Int32.toNatClampNeg x5)) / a3) a3 a4) (fun v66 => bd (F_X1_gather n v66 (((I (88 + 2) (Int32.toNatClampNeg x5)) - (I (88 + 2) (Int32.toNatClampNeg x5)) / a3 * a3) + (1 : Int32)) ((I (88 + 2) (Int32.toNatClampNeg x5)) / a3) a3 a4) (fun v79 => bd (F_X1_gather n v79 ((I (88 + 2) (Int32.toNatClampNeg x5)) - (I (88 + 2) (Int32.toNatClampNeg x5)) / a3 * a3) (((I (88 + 2) (Int32.toNatClampNeg x5)) / a3) - (1 : Int32)) a3 a4) (fun v92 => bd (F_X1_gather n v92 ((I (88 + 2) (Int32.toNatClampNeg x5)) - (I (88 + 2) (Int32.toNatClampNeg x5)) / a3 * a3) (((I (88 + 2) (Int32.toNatClampNeg x5)) / a3) + (1 : Int32)) a3 a4) (fun v105 => L_X1_removeGroup n a1 a2 a3 a4 j 0 (x5 + (1 : Int32)) v105)))))))))) := rfl
set_option maxHeartbeats 4000000 in
set_option maxRecDepth 100000 in
theorem cL_X1_removeGroup {G : gG} {lay : Nat → Nat × Nat} {T0 T1 : Nat} {Dd : Nat → Nat → UInt64} {J : gJ} {K : gI} {N : gJ} {sz n : Nat} {a1 : Int32} {a2 : Int32} {a3 : Int32} {a4 : Int32} (hs : G.1.stackTraces = false) (hE : gLay lay) : ∀ j : Nat, (∀ (x5 : Int32) (I : gI) (r : gI), L_X1_removeGroup n a1 a2 a3 a4 j 0 x5 I = some r → gAt G mX1_removeGroup (gQp G mX1_removeGroup (gR none (fO G (lay, T0, T1, Dd) r J K N) sz)) 17 [some (.ref (G.2.2.1 + 88)), some (.int a1), some (.int a2), some (.int a3), some (.int a4), some (.int x5), none, none] [] (fO G (lay, T0, T1, Dd) I J K N) sz 0 0) := by
  intro j
  induction j with
  | zero => exact fun _ _ _ hf => (by cases hf)
  | succ j ih =>
    refine ?_
    · intro x5 I r hf
      rw [L_X1_removeGroup_e0] at hf
      refine r_iload dX1_removeGroup_17 rfl ?_
      refine r_aload_n dX1_removeGroup_19 rfl ?_
      refine g1_2 dX1_removeGroup_20 wd_184 (hE 88 (by decide)) ?_
      refine r_icmp_ge (tgt := 114) dX1_removeGroup_23 (by decide) (fun c23 => ?_) (fun c23 => ?_)
      · replace hf := if_t hf c23
        have hr := Option.some.inj hf
        subst hr
        exact r_vret dX1_removeGroup_114 rfl (Nat.le_of_ble_eq_true rfl) (Nat.le_of_ble_eq_true rfl) ⟨rfl, rfl, rfl⟩
      · replace hf := if_f hf c23
        refine r_iload dX1_removeGroup_26 rfl ?_
        refine r_sipush (v := (160 : Int32)) dX1_removeGroup_28 (by decide) ?_
        refine r_icmp_ge (tgt := 114) dX1_removeGroup_31 (by decide) (fun c31 => ?_) (fun c31 => ?_)
        · replace hf := if_t hf c31
          have hr := Option.some.inj hf
          subst hr
          exact r_vret dX1_removeGroup_114 rfl (Nat.le_of_ble_eq_true rfl) (Nat.le_of_ble_eq_true rfl) ⟨rfl, rfl, rfl⟩
        · replace hf := if_f hf c31
          refine r_aload_n dX1_removeGroup_34 rfl ?_
          refine g1_1 dX1_removeGroup_35 wd_183 (hE 88 (by decide)) ?_
          refine r_iload dX1_removeGroup_38 rfl ?_
          obtain ⟨h40, hf⟩ := gv_of hf
          refine a_iald dX1_removeGroup_40 (hE (88 + 2) (by decide)) h40 ?_
          refine r_iload_n dX1_removeGroup_41 rfl ?_
          obtain ⟨h42, hf⟩ := gd_of hf
          refine r_irem dX1_removeGroup_42 h42 ?_
          refine r_istore dX1_removeGroup_43 (by decide) rfl ?_
          refine r_aload_n dX1_removeGroup_45 rfl ?_
          refine g1_1 dX1_removeGroup_46 wd_183 (hE 88 (by decide)) ?_
          refine r_iload dX1_removeGroup_49 rfl ?_
          obtain ⟨h51, hf⟩ := gv_of hf
          refine a_iald dX1_removeGroup_51 (hE (88 + 2) (by decide)) h51 ?_
          refine r_iload_n dX1_removeGroup_52 rfl ?_
          obtain ⟨h53, hf⟩ := gd_of hf
          refine r_idiv dX1_removeGroup_53 h53 ?_
          refine r_istore dX1_removeGroup_54 (by decide) rfl ?_
          refine r_aload_n dX1_removeGroup_56 rfl ?_
          refine r_iload dX1_removeGroup_57 rfl ?_
          refine r_iconst (v := (1 : Int32)) dX1_removeGroup_59 (by decide) ?_
          refine r_isub dX1_removeGroup_60 ?_
          refine r_iload dX1_removeGroup_61 rfl ?_
          refine r_iload_n dX1_removeGroup_63 rfl ?_
          refine r_iload dX1_removeGroup_64 rfl ?_
          obtain ⟨v66, hc66, hf⟩ := bd_of hf
          refine r_cVv (rest := []) (ct_X1_gather hs hE hc66) dX1_removeGroup_66 wd_1199 zX1_gather wd_1201 wd_39 rfl  rfl rfl (fo1 (hE 88 (by decide))) rfl rfl ⟨Nat.le_of_ble_eq_true rfl, Nat.le_of_ble_eq_true rfl⟩ (Nat.le_of_ble_eq_true rfl) ⟨Nat.le_of_ble_eq_true rfl, Nat.le_of_ble_eq_true rfl⟩ ?_
          refine r_aload_n dX1_removeGroup_69 rfl ?_
          refine r_iload dX1_removeGroup_70 rfl ?_
          refine r_iconst (v := (1 : Int32)) dX1_removeGroup_72 (by decide) ?_
          refine r_iadd dX1_removeGroup_73 ?_
          refine r_iload dX1_removeGroup_74 rfl ?_
          refine r_iload_n dX1_removeGroup_76 rfl ?_
          refine r_iload dX1_removeGroup_77 rfl ?_
          obtain ⟨v79, hc79, hf⟩ := bd_of hf
          refine r_cVv (rest := []) (ct_X1_gather hs hE hc79) dX1_removeGroup_79 wd_1199 zX1_gather wd_1201 wd_39 rfl  rfl rfl (fo1 (hE 88 (by decide))) rfl rfl ⟨Nat.le_of_ble_eq_true rfl, Nat.le_of_ble_eq_true rfl⟩ (Nat.le_of_ble_eq_true rfl) ⟨Nat.le_of_ble_eq_true rfl, Nat.le_of_ble_eq_true rfl⟩ ?_
          refine r_aload_n dX1_removeGroup_82 rfl ?_
          refine r_iload dX1_removeGroup_83 rfl ?_
          refine r_iload dX1_removeGroup_85 rfl ?_
          refine r_iconst (v := (1 : Int32)) dX1_removeGroup_87 (by decide) ?_
          refine r_isub dX1_removeGroup_88 ?_
          refine r_iload_n dX1_removeGroup_89 rfl ?_
          refine r_iload dX1_removeGroup_90 rfl ?_
          obtain ⟨v92, hc92, hf⟩ := bd_of hf
          refine r_cVv (rest := []) (ct_X1_gather hs hE hc92) dX1_removeGroup_92 wd_1199 zX1_gather wd_1201 wd_39 rfl  rfl rfl (fo1 (hE 88 (by decide))) rfl rfl ⟨Nat.le_of_ble_eq_true rfl, Nat.le_of_ble_eq_true rfl⟩ (Nat.le_of_ble_eq_true rfl) ⟨Nat.le_of_ble_eq_true rfl, Nat.le_of_ble_eq_true rfl⟩ ?_
          refine r_aload_n dX1_removeGroup_95 rfl ?_
          refine r_iload dX1_removeGroup_96 rfl ?_
          refine r_iload dX1_removeGroup_98 rfl ?_
          refine r_iconst (v := (1 : Int32)) dX1_removeGroup_100 (by decide) ?_
          refine r_iadd dX1_removeGroup_101 ?_
          refine r_iload_n dX1_removeGroup_102 rfl ?_
          refine r_iload dX1_removeGroup_103 rfl ?_
          obtain ⟨v105, hc105, hf⟩ := bd_of hf
          refine r_cVv (rest := []) (ct_X1_gather hs hE hc105) dX1_removeGroup_105 wd_1199 zX1_gather wd_1201 wd_39 rfl  rfl rfl (fo1 (hE 88 (by decide))) rfl rfl ⟨Nat.le_of_ble_eq_true rfl, Nat.le_of_ble_eq_true rfl⟩ (Nat.le_of_ble_eq_true rfl) ⟨Nat.le_of_ble_eq_true rfl, Nat.le_of_ble_eq_true rfl⟩ ?_
          refine r_iincv (v := (x5 + (1 : Int32))) dX1_removeGroup_108 rfl rfl (by decide) rfl ?_
          refine r_goto (tgt := 17) dX1_removeGroup_111 (by decide) ?_
          exact r_widen (k2 := 0) (n2 := 0) (Nat.le_of_ble_eq_true rfl) (Nat.le_of_ble_eq_true rfl) (r_mask [true, true, true, true, true, true, false, false] rfl (ih (x5 + (1 : Int32)) v105 r hf))
def F_X1_removeGroup (n : Nat) (I : gI) (a1 : Int32) (a2 : Int32) (a3 : Int32) (a4 : Int32) : Option (gI) := bd (F_X1_gather n (sI I 88 2 (0 : Int32)) a1 a2 a3 a4) (fun v11 => L_X1_removeGroup n a1 a2 a3 a4 n 0 (0 : Int32) v11)
set_option maxHeartbeats 4000000 in
set_option maxRecDepth 100000 in
theorem ct_X1_removeGroup {G : gG} {lay : Nat → Nat × Nat} {T0 T1 : Nat} {Dd : Nat → Nat → UInt64} {I : gI} {J : gJ} {K : gI} {N : gJ} {sz n : Nat} {a1 : Int32} {a2 : Int32} {a3 : Int32} {a4 : Int32} (hs : G.1.stackTraces = false) (hE : gLay lay) {r : gI} (hf : F_X1_removeGroup n I a1 a2 a3 a4 = some r) : gCt G mX1_removeGroup [.ref (G.2.2.1 + 88), .int a1, .int a2, .int a3, .int a4] (fO G (lay, T0, T1, Dd) I J K N) sz (gR none (fO G (lay, T0, T1, Dd) r J K N) sz) := by
  unfold F_X1_removeGroup at hf
  refine gCt.of [some (.ref (G.2.2.1 + 88)), some (.int a1), some (.int a2), some (.int a3), some (.int a4), none, none, none] (by decide +kernel) rfl hs rfl (Nat.le_of_ble_eq_true rfl) ?_
  refine r_aload_n dX1_removeGroup_0 rfl ?_
  refine r_iconst (v := (0 : Int32)) dX1_removeGroup_1 (by decide) ?_
  refine p1_2 dX1_removeGroup_2 wd_184 (hE 88 (by decide)) ?_
  refine r_aload_n dX1_removeGroup_5 rfl ?_
  refine r_iload_n dX1_removeGroup_6 rfl ?_
  refine r_iload_n dX1_removeGroup_7 rfl ?_
  refine r_iload_n dX1_removeGroup_8 rfl ?_
  refine r_iload dX1_removeGroup_9 rfl ?_
  obtain ⟨v11, hc11, hf⟩ := bd_of hf
  refine r_cVv (rest := []) (ct_X1_gather hs hE hc11) dX1_removeGroup_11 wd_1199 zX1_gather wd_1201 wd_39 rfl  rfl rfl (fo1 (hE 88 (by decide))) rfl rfl ⟨Nat.le_of_ble_eq_true rfl, Nat.le_of_ble_eq_true rfl⟩ (Nat.le_of_ble_eq_true rfl) ⟨Nat.le_of_ble_eq_true rfl, Nat.le_of_ble_eq_true rfl⟩ ?_
  refine r_iconst (v := (0 : Int32)) dX1_removeGroup_14 (by decide) ?_
  refine r_istore dX1_removeGroup_15 (by decide) rfl ?_
  exact r_widen (k2 := 0) (n2 := 0) (Nat.le_of_ble_eq_true rfl) (Nat.le_of_ble_eq_true rfl) (r_mask [true, true, true, true, true, true, false, false] rfl ((cL_X1_removeGroup hs hE n) (0 : Int32) v11 r hf))
def L_X1_countGroups (n : Nat) (a1 : Int32) (a2 : Int32) : Nat → Nat → Int32 → Int32 → Int32 → gI → Option (Int32 × gI)
  | 0, _, _, _, _, _ => none
  | j + 1, 0, x3, x4, x5, I => (if a2 ≤ x4 then some (x3, I) else L_X1_countGroups n a1 a2 j 1 x3 x4 (0 : Int32) I)
  | j + 1, 1, x3, x4, x5, I => (if a1 ≤ x5 then L_X1_countGroups n a1 a2 j 0 x3 (x4 + (1 : Int32)) 0 I else gv x4 10 ((if (((I (88 + 1) (Int32.toNatClampNeg x4)) >>> (x5 &&& 31)) &&& (1 : Int32)) = (1 : Int32) then bd (F_X1_removeGroup n I x5 x4 a1 a2) (fun v46 => L_X1_countGroups n a1 a2 j 1 (x3 + (1 : Int32)) x4 (x5 + (1 : Int32)) v46) else L_X1_countGroups n a1 a2 j 1 x3 x4 (x5 + (1 : Int32)) I)))
  | _ + 1, _, _, _, _, _ => none
theorem L_X1_countGroups_e0 (n j : Nat) (a1 : Int32) (a2 : Int32) (x3 : Int32) (x4 : Int32) (x5 : Int32) (I : gI) : L_X1_countGroups n a1 a2 (j + 1) 0 x3 x4 x5 I = (if a2 ≤ x4 then some (x3, I) else L_X1_countGroups n a1 a2 j 1 x3 x4 (0 : Int32) I) := rfl
theorem L_X1_countGroups_e1 (n j : Nat) (a1 : Int32) (a2 : Int32) (x3 : Int32) (x4 : Int32) (x5 : Int32) (I : gI) : L_X1_countGroups n a1 a2 (j + 1) 1 x3 x4 x5 I = (if a1 ≤ x5 then L_X1_countGroups n a1 a2 j 0 x3 (x4 + (1 : Int32)) 0 I else gv x4 10 ((if (((I (88 + 1) (Int32.toNatClampNeg x4)) >>> (x5 &&& 31)) &&& (1 : Int32)) = (1 : Int32) then bd (F_X1_removeGroup n I x5 x4 a1 a2) (fun v46 => L_X1_countGroups n a1 a2 j 1 (x3 + (1 : Int32)) x4 (x5 + (1 : Int32)) v46) else L_X1_countGroups n a1 a2 j 1 x3 x4 (x5 + (1 : Int32)) I))) := rfl
set_option maxHeartbeats 4000000 in
set_option maxRecDepth 100000 in
theorem cL_X1_countGroups {G : gG} {lay : Nat → Nat × Nat} {T0 T1 : Nat} {Dd : Nat → Nat → UInt64} {J : gJ} {K : gI} {N : gJ} {sz n : Nat} {a1 : Int32} {a2 : Int32} (hs : G.1.stackTraces = false) (hE : gLay lay) : ∀ j : Nat, (∀ (x3 : Int32) (x4 : Int32) (I : gI) (r : Int32 × gI), L_X1_countGroups n a1 a2 j 0 x3 x4 0 I = some r → gAt G mX1_countGroups (gQp G mX1_countGroups (gR (some (.int r.1)) (fO G (lay, T0, T1, Dd) r.2 J K N) sz)) 5 [some (.ref (G.2.2.1 + 88)), some (.int a1), some (.int a2), some (.int x3), some (.int x4), none] [] (fO G (lay, T0, T1, Dd) I J K N) sz 0 0) ∧ (∀ (x3 : Int32) (x4 : Int32) (x5 : Int32) (I : gI) (r : Int32 × gI), L_X1_countGroups n a1 a2 j 1 x3 x4 x5 I = some r → gAt G mX1_countGroups (gQp G mX1_countGroups (gR (some (.int r.1)) (fO G (lay, T0, T1, Dd) r.2 J K N) sz)) 14 [some (.ref (G.2.2.1 + 88)), some (.int a1), some (.int a2), some (.int x3), some (.int x4), some (.int x5)] [] (fO G (lay, T0, T1, Dd) I J K N) sz 0 0) := by
  intro j
  induction j with
  | zero => exact ⟨fun _ _ _ _ hf => (by cases hf), fun _ _ _ _ _ hf => (by cases hf)⟩
  | succ j ih =>
    refine ⟨?_, ?_⟩
    · intro x3 x4 I r hf
      rw [L_X1_countGroups_e0] at hf
      refine r_iload dX1_countGroups_5 rfl ?_
      refine r_iload_n dX1_countGroups_7 rfl ?_
      refine r_icmp_ge (tgt := 61) dX1_countGroups_8 (by decide) (fun c8 => ?_) (fun c8 => ?_)
      · replace hf := if_t hf c8
        refine r_iload_n dX1_countGroups_61 rfl ?_
        have hr := Option.some.inj hf
        subst hr
        exact r_iret dX1_countGroups_62 rfl (Nat.le_of_ble_eq_true rfl) (Nat.le_of_ble_eq_true rfl) ⟨rfl, rfl, rfl⟩
      · replace hf := if_f hf c8
        refine r_iconst (v := (0 : Int32)) dX1_countGroups_11 (by decide) ?_
        refine r_istore dX1_countGroups_12 (by decide) rfl ?_
        exact r_widen (k2 := 0) (n2 := 0) (Nat.le_of_ble_eq_true rfl) (Nat.le_of_ble_eq_true rfl) (r_mask [true, true, true, true, true, true] rfl (ih.2 x3 x4 (0 : Int32) I r hf))
    · intro x3 x4 x5 I r hf
      rw [L_X1_countGroups_e1] at hf
      refine r_iload dX1_countGroups_14 rfl ?_
      refine r_iload_n dX1_countGroups_16 rfl ?_
      refine r_icmp_ge (tgt := 55) dX1_countGroups_17 (by decide) (fun c17 => ?_) (fun c17 => ?_)
      · replace hf := if_t hf c17
        refine r_iincv (v := (x4 + (1 : Int32))) dX1_countGroups_55 rfl rfl (by decide) rfl ?_
        refine r_goto (tgt := 5) dX1_countGroups_58 (by decide) ?_
        exact r_widen (k2 := 0) (n2 := 0) (Nat.le_of_ble_eq_true rfl) (Nat.le_of_ble_eq_true rfl) (r_mask [true, true, true, true, true, false] rfl (ih.1 x3 (x4 + (1 : Int32)) I r hf))
      · replace hf := if_f hf c17
        refine r_aload_n dX1_countGroups_20 rfl ?_
        refine g1_0 dX1_countGroups_21 wd_181 (hE 88 (by decide)) ?_
        refine r_iload dX1_countGroups_24 rfl ?_
        obtain ⟨h26, hf⟩ := gv_of hf
        refine a_iald dX1_countGroups_26 (hE (88 + 1) (by decide)) h26 ?_
        refine r_iload dX1_countGroups_27 rfl ?_
        refine r_ishr dX1_countGroups_29 ?_
        refine r_iconst (v := (1 : Int32)) dX1_countGroups_30 (by decide) ?_
        refine r_iand dX1_countGroups_31 ?_
        refine r_iconst (v := (1 : Int32)) dX1_countGroups_32 (by decide) ?_
        refine r_icmp_ne (tgt := 49) dX1_countGroups_33 (by decide) (fun c33 => ?_) (fun c33 => ?_)
        · replace hf := if_f hf c33
          refine r_iincv (v := (x5 + (1 : Int32))) dX1_countGroups_49 rfl rfl (by decide) rfl ?_
          refine r_goto (tgt := 14) dX1_countGroups_52 (by decide) ?_
          exact r_widen (k2 := 0) (n2 := 0) (Nat.le_of_ble_eq_true rfl) (Nat.le_of_ble_eq_true rfl) (r_mask [true, true, true, true, true, true] rfl (ih.2 x3 x4 (x5 + (1 : Int32)) I r hf))
        · replace hf := if_t hf c33
          refine r_iincv (v := (x3 + (1 : Int32))) dX1_countGroups_36 rfl rfl (by decide) rfl ?_
          refine r_aload_n dX1_countGroups_39 rfl ?_
          refine r_iload dX1_countGroups_40 rfl ?_
          refine r_iload dX1_countGroups_42 rfl ?_
          refine r_iload_n dX1_countGroups_44 rfl ?_
          refine r_iload_n dX1_countGroups_45 rfl ?_
          obtain ⟨v46, hc46, hf⟩ := bd_of hf
          refine r_cVv (rest := []) (ct_X1_removeGroup hs hE hc46) dX1_countGroups_46 wd_1195 zX1_removeGroup wd_1197 wd_38 rfl  rfl rfl (fo1 (hE 88 (by decide))) rfl rfl ⟨Nat.le_of_ble_eq_true rfl, Nat.le_of_ble_eq_true rfl⟩ (Nat.le_of_ble_eq_true rfl) ⟨Nat.le_of_ble_eq_true rfl, Nat.le_of_ble_eq_true rfl⟩ ?_
          refine r_iincv (v := (x5 + (1 : Int32))) dX1_countGroups_49 rfl rfl (by decide) rfl ?_
          refine r_goto (tgt := 14) dX1_countGroups_52 (by decide) ?_
          exact r_widen (k2 := 0) (n2 := 0) (Nat.le_of_ble_eq_true rfl) (Nat.le_of_ble_eq_true rfl) (r_mask [true, true, true, true, true, true] rfl (ih.2 (x3 + (1 : Int32)) x4 (x5 + (1 : Int32)) v46 r hf))
def F_X1_countGroups (n : Nat) (I : gI) (a1 : Int32) (a2 : Int32) : Option (Int32 × gI) := L_X1_countGroups n a1 a2 n 0 (0 : Int32) (0 : Int32) 0 I
set_option maxHeartbeats 4000000 in
set_option maxRecDepth 100000 in
theorem ct_X1_countGroups {G : gG} {lay : Nat → Nat × Nat} {T0 T1 : Nat} {Dd : Nat → Nat → UInt64} {I : gI} {J : gJ} {K : gI} {N : gJ} {sz n : Nat} {a1 : Int32} {a2 : Int32} (hs : G.1.stackTraces = false) (hE : gLay lay) {r : Int32 × gI} (hf : F_X1_countGroups n I a1 a2 = some r) : gCt G mX1_countGroups [.ref (G.2.2.1 + 88), .int a1, .int a2] (fO G (lay, T0, T1, Dd) I J K N) sz (gR (some (.int r.1)) (fO G (lay, T0, T1, Dd) r.2 J K N) sz) := by
  unfold F_X1_countGroups at hf
  refine gCt.of [some (.ref (G.2.2.1 + 88)), some (.int a1), some (.int a2), none, none, none] (by decide +kernel) rfl hs rfl (Nat.le_of_ble_eq_true rfl) ?_
  refine r_iconst (v := (0 : Int32)) dX1_countGroups_0 (by decide) ?_
  refine r_istore_n dX1_countGroups_1 (by decide) rfl ?_
  refine r_iconst (v := (0 : Int32)) dX1_countGroups_2 (by decide) ?_
  refine r_istore dX1_countGroups_3 (by decide) rfl ?_
  exact r_widen (k2 := 0) (n2 := 0) (Nat.le_of_ble_eq_true rfl) (Nat.le_of_ble_eq_true rfl) (r_mask [true, true, true, true, true, false] rfl ((cL_X1_countGroups hs hE n).1 (0 : Int32) (0 : Int32) I r hf))
