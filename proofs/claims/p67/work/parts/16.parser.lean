def L_X3_countRun (n : Nat) (T1 o0 : Nat) (I : gI) (a1 : Int32) (a2 : Int32) : Nat → Nat → Int32 → Option (Int32)
  | 0, _, _ => none
  | j + 1, 0, x3 => (if (I o0 3) ≤ x3 then some (x3 - (I o0 7)) else gv x3 900 ((if (I 1 (Int32.toNatClampNeg x3)) < a1 then some (x3 - (I o0 7)) else gv x3 900 ((if a2 < (I 1 (Int32.toNatClampNeg x3)) then some (x3 - (I o0 7)) else L_X3_countRun n T1 o0 I a1 a2 j 0 (x3 + (1 : Int32)))))))
  | _ + 1, _, _ => none
theorem L_X3_countRun_e0 (n j : Nat) (T1 o0 : Nat) (I : gI) (a1 : Int32) (a2 : Int32) (x3 : Int32) : L_X3_countRun n T1 o0 I a1 a2 (j + 1) 0 x3 = (if (I o0 3) ≤ x3 then some (x3 - (I o0 7)) else gv x3 900 ((if (I 1 (Int32.toNatClampNeg x3)) < a1 then some (x3 - (I o0 7)) else gv x3 900 ((if a2 < (I 1 (Int32.toNatClampNeg x3)) then some (x3 - (I o0 7)) else L_X3_countRun n T1 o0 I a1 a2 j 0 (x3 + (1 : Int32))))))) := rfl
set_option maxHeartbeats 4000000 in
set_option maxRecDepth 100000 in
theorem cL_X3_countRun {G : gG} {lay : Nat → Nat × Nat} {T0 T1 : Nat} {Dd : Nat → Nat → UInt64} {I : gI} {J : gJ} {K : gI} {N : gJ} {sz n : Nat} {o0 : Nat} {a1 : Int32} {a2 : Int32} (hs : G.1.stackTraces = false) (hE : gLay lay) (hT1 : gTank lay T1) (ho0 : lay o0 = (3, 0)) : ∀ j : Nat, (∀ (x3 : Int32) (r : Int32), L_X3_countRun n T1 o0 I a1 a2 j 0 x3 = some r → gAt G mX3_countRun (gQp G mX3_countRun (gR (some (.int r)) (fO G (lay, T0, T1, Dd) I J K N) sz)) 5 [some (.ref (G.2.2.1 + o0)), some (.int a1), some (.int a2), some (.int x3)] [] (fO G (lay, T0, T1, Dd) I J K N) sz 0 0) := by
  intro j
  induction j with
  | zero => exact fun _ _ hf => (by cases hf)
  | succ j ih =>
    refine ?_
    · intro x3 r hf
      rw [L_X3_countRun_e0] at hf
      refine r_iload_n dX3_countRun_5 rfl ?_
      refine r_aload_n dX3_countRun_6 rfl ?_
      refine g3_3 dX3_countRun_7 wd_862 ho0 ?_
      refine r_icmp_ge (tgt := 39) dX3_countRun_10 (by decide) (fun c10 => ?_) (fun c10 => ?_)
      · replace hf := if_t hf c10
        refine r_iload_n dX3_countRun_39 rfl ?_
        refine r_aload_n dX3_countRun_40 rfl ?_
        refine g3_7 dX3_countRun_41 wd_866 ho0 ?_
        refine r_isub dX3_countRun_44 ?_
        have hr := Option.some.inj hf
        subst hr
        exact r_iret dX3_countRun_45 rfl (Nat.le_of_ble_eq_true rfl) (Nat.le_of_ble_eq_true rfl) ⟨rfl, rfl, rfl⟩
      · replace hf := if_f hf c10
        refine r_aload_n dX3_countRun_13 rfl ?_
        refine g3_2 dX3_countRun_14 wd_861 ho0 ?_
        refine r_iload_n dX3_countRun_17 rfl ?_
        obtain ⟨h18, hf⟩ := gv_of hf
        refine a_bald dX3_countRun_18 (hE 1 (by decide)) h18 ?_
        refine r_iload_n dX3_countRun_19 rfl ?_
        refine r_icmp_lt (tgt := 39) dX3_countRun_20 (by decide) (fun c20 => ?_) (fun c20 => ?_)
        · replace hf := if_t hf c20
          refine r_iload_n dX3_countRun_39 rfl ?_
          refine r_aload_n dX3_countRun_40 rfl ?_
          refine g3_7 dX3_countRun_41 wd_866 ho0 ?_
          refine r_isub dX3_countRun_44 ?_
          have hr := Option.some.inj hf
          subst hr
          exact r_iret dX3_countRun_45 rfl (Nat.le_of_ble_eq_true rfl) (Nat.le_of_ble_eq_true rfl) ⟨rfl, rfl, rfl⟩
        · replace hf := if_f hf c20
          refine r_aload_n dX3_countRun_23 rfl ?_
          refine g3_2 dX3_countRun_24 wd_861 ho0 ?_
          refine r_iload_n dX3_countRun_27 rfl ?_
          obtain ⟨h28, hf⟩ := gv_of hf
          refine a_bald dX3_countRun_28 (hE 1 (by decide)) h28 ?_
          refine r_iload_n dX3_countRun_29 rfl ?_
          refine r_icmp_gt (tgt := 39) dX3_countRun_30 (by decide) (fun c30 => ?_) (fun c30 => ?_)
          · replace hf := if_t hf c30
            refine r_iload_n dX3_countRun_39 rfl ?_
            refine r_aload_n dX3_countRun_40 rfl ?_
            refine g3_7 dX3_countRun_41 wd_866 ho0 ?_
            refine r_isub dX3_countRun_44 ?_
            have hr := Option.some.inj hf
            subst hr
            exact r_iret dX3_countRun_45 rfl (Nat.le_of_ble_eq_true rfl) (Nat.le_of_ble_eq_true rfl) ⟨rfl, rfl, rfl⟩
          · replace hf := if_f hf c30
            refine r_iincv (v := (x3 + (1 : Int32))) dX3_countRun_33 rfl rfl (by decide) rfl ?_
            refine r_goto (tgt := 5) dX3_countRun_36 (by decide) ?_
            exact r_widen (k2 := 0) (n2 := 0) (Nat.le_of_ble_eq_true rfl) (Nat.le_of_ble_eq_true rfl) (r_mask [true, true, true, true] rfl (ih (x3 + (1 : Int32)) r hf))
def F_X3_countRun (n : Nat) (T1 o0 : Nat) (I : gI) (a1 : Int32) (a2 : Int32) : Option (Int32) := L_X3_countRun n T1 o0 I a1 a2 n 0 (I o0 7)
set_option maxHeartbeats 4000000 in
set_option maxRecDepth 100000 in
theorem ct_X3_countRun {G : gG} {lay : Nat → Nat × Nat} {T0 T1 : Nat} {Dd : Nat → Nat → UInt64} {I : gI} {J : gJ} {K : gI} {N : gJ} {sz n : Nat} {o0 : Nat} {a1 : Int32} {a2 : Int32} (hs : G.1.stackTraces = false) (hE : gLay lay) (hT1 : gTank lay T1) (ho0 : lay o0 = (3, 0)) {r : Int32} (hf : F_X3_countRun n T1 o0 I a1 a2 = some r) : gCt G mX3_countRun [.ref (G.2.2.1 + o0), .int a1, .int a2] (fO G (lay, T0, T1, Dd) I J K N) sz (gR (some (.int r)) (fO G (lay, T0, T1, Dd) I J K N) sz) := by
  unfold F_X3_countRun at hf
  refine gCt.of [some (.ref (G.2.2.1 + o0)), some (.int a1), some (.int a2), none] (by decide +kernel) rfl hs rfl (Nat.le_of_ble_eq_true rfl) ?_
  refine r_aload_n dX3_countRun_0 rfl ?_
  refine g3_7 dX3_countRun_1 wd_866 ho0 ?_
  refine r_istore_n dX3_countRun_4 (by decide) rfl ?_
  exact r_widen (k2 := 0) (n2 := 0) (Nat.le_of_ble_eq_true rfl) (Nat.le_of_ble_eq_true rfl) (r_mask [true, true, true, true] rfl ((cL_X3_countRun hs hE hT1 ho0 n) (I o0 7) r hf))
def L_X3_numberAtStart (n : Nat) (T1 o0 : Nat) (I : gI) : Nat → Nat → Int32 → Int32 → Option (Int32)
  | 0, _, _, _ => none
  | j + 1, 0, x1, x2 => (if (I o0 8) ≤ x2 then some x1 else gv x2 900 (L_X3_numberAtStart n T1 o0 I j 0 ((((10 : Int32) * x1) + (I 1 (Int32.toNatClampNeg x2))) - (48 : Int32)) (x2 + (1 : Int32))))
  | _ + 1, _, _, _ => none
theorem L_X3_numberAtStart_e0 (n j : Nat) (T1 o0 : Nat) (I : gI) (x1 : Int32) (x2 : Int32) : L_X3_numberAtStart n T1 o0 I (j + 1) 0 x1 x2 = (if (I o0 8) ≤ x2 then some x1 else gv x2 900 (L_X3_numberAtStart n T1 o0 I j 0 ((((10 : Int32) * x1) + (I 1 (Int32.toNatClampNeg x2))) - (48 : Int32)) (x2 + (1 : Int32)))) := rfl
set_option maxHeartbeats 4000000 in
set_option maxRecDepth 100000 in
theorem cL_X3_numberAtStart {G : gG} {lay : Nat → Nat × Nat} {T0 T1 : Nat} {Dd : Nat → Nat → UInt64} {I : gI} {J : gJ} {K : gI} {N : gJ} {sz n : Nat} {o0 : Nat} (hs : G.1.stackTraces = false) (hE : gLay lay) (hT1 : gTank lay T1) (ho0 : lay o0 = (3, 0)) : ∀ j : Nat, (∀ (x1 : Int32) (x2 : Int32) (r : Int32), L_X3_numberAtStart n T1 o0 I j 0 x1 x2 = some r → gAt G mX3_numberAtStart (gQp G mX3_numberAtStart (gR (some (.int r)) (fO G (lay, T0, T1, Dd) I J K N) sz)) 7 [some (.ref (G.2.2.1 + o0)), some (.int x1), some (.int x2)] [] (fO G (lay, T0, T1, Dd) I J K N) sz 0 0) := by
  intro j
  induction j with
  | zero => exact fun _ _ _ hf => (by cases hf)
  | succ j ih =>
    refine ?_
    · intro x1 x2 r hf
      rw [L_X3_numberAtStart_e0] at hf
      refine r_iload_n dX3_numberAtStart_7 rfl ?_
      refine r_aload_n dX3_numberAtStart_8 rfl ?_
      refine g3_8 dX3_numberAtStart_9 wd_867 ho0 ?_
      refine r_icmp_ge (tgt := 36) dX3_numberAtStart_12 (by decide) (fun c12 => ?_) (fun c12 => ?_)
      · replace hf := if_t hf c12
        refine r_iload_n dX3_numberAtStart_36 rfl ?_
        have hr := Option.some.inj hf
        subst hr
        exact r_iret dX3_numberAtStart_37 rfl (Nat.le_of_ble_eq_true rfl) (Nat.le_of_ble_eq_true rfl) ⟨rfl, rfl, rfl⟩
      · replace hf := if_f hf c12
        refine r_bipush (v := (10 : Int32)) dX3_numberAtStart_15 (by decide) ?_
        refine r_iload_n dX3_numberAtStart_17 rfl ?_
        refine r_imul dX3_numberAtStart_18 ?_
        refine r_aload_n dX3_numberAtStart_19 rfl ?_
        refine g3_2 dX3_numberAtStart_20 wd_861 ho0 ?_
        refine r_iload_n dX3_numberAtStart_23 rfl ?_
        obtain ⟨h24, hf⟩ := gv_of hf
        refine a_bald dX3_numberAtStart_24 (hE 1 (by decide)) h24 ?_
        refine r_iadd dX3_numberAtStart_25 ?_
        refine r_bipush (v := (48 : Int32)) dX3_numberAtStart_26 (by decide) ?_
        refine r_isub dX3_numberAtStart_28 ?_
        refine r_istore_n dX3_numberAtStart_29 (by decide) rfl ?_
        refine r_iincv (v := (x2 + (1 : Int32))) dX3_numberAtStart_30 rfl rfl (by decide) rfl ?_
        refine r_goto (tgt := 7) dX3_numberAtStart_33 (by decide) ?_
        exact r_widen (k2 := 0) (n2 := 0) (Nat.le_of_ble_eq_true rfl) (Nat.le_of_ble_eq_true rfl) (r_mask [true, true, true] rfl (ih ((((10 : Int32) * x1) + (I 1 (Int32.toNatClampNeg x2))) - (48 : Int32)) (x2 + (1 : Int32)) r hf))
def F_X3_numberAtStart (n : Nat) (T1 o0 : Nat) (I : gI) : Option (Int32) := L_X3_numberAtStart n T1 o0 I n 0 (0 : Int32) (I o0 7)
set_option maxHeartbeats 4000000 in
set_option maxRecDepth 100000 in
theorem ct_X3_numberAtStart {G : gG} {lay : Nat → Nat × Nat} {T0 T1 : Nat} {Dd : Nat → Nat → UInt64} {I : gI} {J : gJ} {K : gI} {N : gJ} {sz n : Nat} {o0 : Nat} (hs : G.1.stackTraces = false) (hE : gLay lay) (hT1 : gTank lay T1) (ho0 : lay o0 = (3, 0)) {r : Int32} (hf : F_X3_numberAtStart n T1 o0 I = some r) : gCt G mX3_numberAtStart [.ref (G.2.2.1 + o0)] (fO G (lay, T0, T1, Dd) I J K N) sz (gR (some (.int r)) (fO G (lay, T0, T1, Dd) I J K N) sz) := by
  unfold F_X3_numberAtStart at hf
  refine gCt.of [some (.ref (G.2.2.1 + o0)), none, none] (by decide +kernel) rfl hs rfl (Nat.le_of_ble_eq_true rfl) ?_
  refine r_iconst (v := (0 : Int32)) dX3_numberAtStart_0 (by decide) ?_
  refine r_istore_n dX3_numberAtStart_1 (by decide) rfl ?_
  refine r_aload_n dX3_numberAtStart_2 rfl ?_
  refine g3_7 dX3_numberAtStart_3 wd_866 ho0 ?_
  refine r_istore_n dX3_numberAtStart_6 (by decide) rfl ?_
  exact r_widen (k2 := 0) (n2 := 0) (Nat.le_of_ble_eq_true rfl) (Nat.le_of_ble_eq_true rfl) (r_mask [true, true, true] rfl ((cL_X3_numberAtStart hs hE hT1 ho0 n) (0 : Int32) (I o0 7) r hf))
def F_X3_kindOfSign (n : Nat) (T1 : Nat) (a0 : Int32) : Option (Int32) := (if a0 = (45 : Int32) then some (3 : Int32) else (if a0 = (59 : Int32) then some (4 : Int32) else some (5 : Int32)))
set_option maxHeartbeats 4000000 in
set_option maxRecDepth 100000 in
theorem ct_X3_kindOfSign {G : gG} {lay : Nat → Nat × Nat} {T0 T1 : Nat} {Dd : Nat → Nat → UInt64} {I : gI} {J : gJ} {K : gI} {N : gJ} {sz n : Nat} {a0 : Int32} (hs : G.1.stackTraces = false) (hE : gLay lay) (hT1 : gTank lay T1) {r : Int32} (hf : F_X3_kindOfSign n T1 a0 = some r) : gCt G mX3_kindOfSign [.int a0] (fO G (lay, T0, T1, Dd) I J K N) sz (gR (some (.int r)) (fO G (lay, T0, T1, Dd) I J K N) sz) := by
  unfold F_X3_kindOfSign at hf
  refine gCt.of [some (.int a0)] (by decide +kernel) rfl hs rfl (Nat.le_of_ble_eq_true rfl) ?_
  refine r_iload_n dX3_kindOfSign_0 rfl ?_
  refine r_bipush (v := (45 : Int32)) dX3_kindOfSign_1 (by decide) ?_
  refine r_icmp_ne (tgt := 8) dX3_kindOfSign_3 (by decide) (fun c3 => ?_) (fun c3 => ?_)
  · replace hf := if_f hf c3
    refine r_iload_n dX3_kindOfSign_8 rfl ?_
    refine r_bipush (v := (59 : Int32)) dX3_kindOfSign_9 (by decide) ?_
    refine r_icmp_ne (tgt := 18) dX3_kindOfSign_11 (by decide) (fun c11 => ?_) (fun c11 => ?_)
    · replace hf := if_f hf c11
      refine r_iconst (v := (5 : Int32)) dX3_kindOfSign_18 (by decide) ?_
      have hr := Option.some.inj hf
      subst hr
      exact r_iret dX3_kindOfSign_19 rfl (Nat.le_of_ble_eq_true rfl) (Nat.le_of_ble_eq_true rfl) ⟨rfl, rfl, rfl⟩
    · replace hf := if_t hf c11
      refine r_iconst (v := (4 : Int32)) dX3_kindOfSign_14 (by decide) ?_
      refine r_goto (tgt := 19) dX3_kindOfSign_15 (by decide) ?_
      have hr := Option.some.inj hf
      subst hr
      exact r_iret dX3_kindOfSign_19 rfl (Nat.le_of_ble_eq_true rfl) (Nat.le_of_ble_eq_true rfl) ⟨rfl, rfl, rfl⟩
  · replace hf := if_t hf c3
    refine r_iconst (v := (3 : Int32)) dX3_kindOfSign_6 (by decide) ?_
    have hr := Option.some.inj hf
    subst hr
    exact r_iret dX3_kindOfSign_7 rfl (Nat.le_of_ble_eq_true rfl) (Nat.le_of_ble_eq_true rfl) ⟨rfl, rfl, rfl⟩
def L_X3_nextToken (n : Nat) (T1 o0 : Nat) : Nat → Nat → gI → Option (gI)
  | 0, _, _ => none
  | j + 1, 0, I => (if (I o0 3) ≤ (I o0 7) then bd (F_X3_countRun n T1 o0 I (97 : Int32) (122 : Int32)) (fun v51 => bd (F_X3_countRun n T1 o0 I (48 : Int32) (57 : Int32)) (fun v60 => (if (I o0 7) < (I o0 3) then (if v51 ≤ 0 then (if v60 ≤ 0 then gv (I o0 7) 900 (bd (F_X3_kindOfSign n T1 (I 1 (Int32.toNatClampNeg (I o0 7)))) (fun v181 => some (sI (sI I o0 6 v181) o0 8 (((sI I o0 6 v181) o0 7) + (1 : Int32))))) else (if v60 ≤ (4 : Int32) then (if v60 ≤ (4 : Int32) then bd (F_X3_numberAtStart n T1 o0 (sI (sI I o0 6 (2 : Int32)) o0 8 (((sI I o0 6 (2 : Int32)) o0 7) + v60))) (fun v162 => some (sI (sI (sI I o0 6 (2 : Int32)) o0 8 (((sI I o0 6 (2 : Int32)) o0 7) + v60)) o0 9 v162)) else some (sI (sI (sI I o0 6 (2 : Int32)) o0 8 (((sI I o0 6 (2 : Int32)) o0 7) + v60)) o0 9 (-1 : Int32))) else (if v60 ≤ (4 : Int32) then bd (F_X3_numberAtStart n T1 o0 (sI (sI I o0 6 (5 : Int32)) o0 8 (((sI I o0 6 (5 : Int32)) o0 7) + v60))) (fun v162 => some (sI (sI (sI I o0 6 (5 : Int32)) o0 8 (((sI I o0 6 (5 : Int32)) o0 7) + v60)) o0 9 v162)) else some (sI (sI (sI I o0 6 (5 : Int32)) o0 8 (((sI I o0 6 (5 : Int32)) o0 7) + v60)) o0 9 (-1 : Int32))))) else (if v51 ≤ (8 : Int32) then some (sI (sI I o0 6 (1 : Int32)) o0 8 (((sI I o0 6 (1 : Int32)) o0 7) + v51)) else some (sI (sI I o0 6 (5 : Int32)) o0 8 (((sI I o0 6 (5 : Int32)) o0 7) + v51)))) else some (sI (sI I o0 6 (0 : Int32)) o0 8 ((sI I o0 6 (0 : Int32)) o0 3))))) else gv (I o0 7) 900 ((if (I 1 (Int32.toNatClampNeg (I o0 7))) = (32 : Int32) then L_X3_nextToken n T1 o0 j 0 (sI I o0 7 ((I o0 7) + (1 : Int32))) else bd (F_X3_countRun n T1 o0 I (97 : Int32) (122 : Int32)) (fun v51 => bd (F_X3_countRun n T1 o0 I (48 : Int32) (57 : Int32)) (fun v60 => (if (I o0 7) < (I o0 3) then (if v51 ≤ 0 then (if v60 ≤ 0 then gv (I o0 7) 900 (bd (F_X3_kindOfSign n T1 (I 1 (Int32.toNatClampNeg (I o0 7)))) (fun v181 => some (sI (sI I o0 6 v181) o0 8 (((sI I o0 6 v181) o0 7) + (1 : Int32))))) else (if v60 ≤ (4 : Int32) then (if v60 ≤ (4 : Int32) then bd (F_X3_numberAtStart n T1 o0 (sI (sI I o0 6 (2 : Int32)) o0 8 (((sI I o0 6 (2 : Int32)) o0 7) + v60))) (fun v162 => some (sI (sI (sI I o0 6 (2 : Int32)) o0 8 (((sI I o0 6 (2 : Int32)) o0 7) + v60)) o0 9 v162)) else some (sI (sI (sI I o0 6 (2 : Int32)) o0 8 (((sI I o0 6 (2 : Int32)) o0 7) + v60)) o0 9 (-1 : Int32))) else (if v60 ≤ (4 : Int32) then bd (F_X3_numberAtStart n T1 o0 (sI (sI I o0 6 (5 : Int32)) o0 8 (((sI I o0 6 (5 : Int32)) o0 7) + v60))) (fun v162 => some (sI (sI (sI I o0 6 (5 : Int32)) o0 8 (((sI I o0 6 (5 : Int32)) o0 7) + v60)) o0 9 v162)) else some (sI (sI (sI I o0 6 (5 : Int32)) o0 8 (((sI I o0 6 (5 : Int32)) o0 7) + v60)) o0 9 (-1 : Int32))))) else (if v51 ≤ (8 : Int32) then some (sI (sI I o0 6 (1 : Int32)) o0 8 (((sI I o0 6 (1 : Int32)) o0 7) + v51)) else some (sI (sI I o0 6 (5 : Int32)) o0 8 (((sI I o0 6 (5 : Int32)) o0 7) + v51)))) else some (sI (sI I o0 6 (0 : Int32)) o0 8 ((sI I o0 6 (0 : Int32)) o0 3))))))))
  | _ + 1, _, _ => none
theorem L_X3_nextToken_e0 (n j : Nat) (T1 o0 : Nat) (I : gI) : L_X3_nextToken n T1 o0 (j + 1) 0 I = (if (I o0 3) ≤ (I o0 7) then bd (F_X3_countRun n T1 o0 I (97 : Int32) (122 : Int32)) (fun v51 => bd (F_X3_countRun n T1 o0 I (48 : Int32) (57 : Int32)) (fun v60 => (if (I o0 7) < (I o0 3) then (if v51 ≤ 0 then (if v60 ≤ 0 then gv (I o0 7) 900 (bd (F_X3_kindOfSign n T1 (I 1 (Int32.toNatClampNeg (I o0 7)))) (fun v181 => some (sI (sI I o0 6 v181) o0 8 (((sI I o0 6 v181) o0 7) + (1 : Int32))))) else (if v60 ≤ (4 : Int32) then (if v60 ≤ (4 : Int32) then bd (F_X3_numberAtStart n T1 o0 (sI (sI I o0 6 (2 : Int32)) o0 8 (((sI I o0 6 (2 : Int32)) o0 7) + v60))) (fun v162 => some (sI (sI (sI I o0 6 (2 : Int32)) o0 8 (((sI I o0 6 (2 : Int32)) o0 7) + v60)) o0 9 v162)) else some (sI (sI (sI I o0 6 (2 : Int32)) o0 8 (((sI I o0 6 (2 : Int32)) o0 7) + v60)) o0 9 (-1 : Int32))) else (if v60 ≤ (4 : Int32) then bd (F_X3_numberAtStart n T1 o0 (sI (sI I o0 6 (5 : Int32)) o0 8 (((sI I o0 6 (5 : Int32)) o0 7) + v60))) (fun v162 => some (sI (sI (sI I o0 6 (5 : Int32)) o0 8 (((sI I o0 6 (5 : Int32)) o0 7) + v60)) o0 9 v162)) else some (sI (sI (sI I o0 6 (5 : Int32)) o0 8 (((sI I o0 6 (5 : Int32)) o0 7) + v60)) o0 9 (-1 : Int32))))) else (if v51 ≤ (8 : Int32) then some (sI (sI I o0 6 (1 : Int32)) o0 8 (((sI I o0 6 (1 : Int32)) o0 7) + v51)) else some (sI (sI I o0 6 (5 : Int32)) o0 8 (((sI I o0 6 (5 : Int32)) o0 7) + v51)))) else some (sI (sI I o0 6 (0 : Int32)) o0 8 ((sI I o0 6 (0 : Int32)) o0 3))))) else gv (I o0 7) 900 ((if (I 1 (Int32.toNatClampNeg (I o0 7))) = (32 : Int32) then L_X3_nextToken n T1 o0 j 0 (sI I o0 7 ((I o0 7) + (1 : Int32))) else bd (F_X3_countRun n T1 o0 I (97 : Int32) (122 : Int32)) (fun v51 => bd (F_X3_countRun n T1 o0 I (48 : Int32) (57 : Int32)) (fun v60 => (if (I o0 7) < (I o0 3) then (if v51 ≤ 0 then (if v60 ≤ 0 then gv (I o0 7) 900 (bd (F_X3_kindOfSign n T1 (I 1 (Int32.toNatClampNeg (I o0 7)))) (fun v181 => some (sI (sI I o0 6 v181) o0 8 (((sI I o0 6 v181) o0 7) + (1 : Int32))))) else (if v60 ≤ (4 : Int32) then (if v60 ≤ (4 : Int32) then bd (F_X3_numberAtStart n T1 o0 (sI (sI I o0 6 (2 : Int32)) o0 8 (((sI I o0 6 (2 : Int32)) o0 7) + v60))) (fun v162 => some (sI (sI (sI I o0 6 (2 : Int32)) o0 8 (((sI I o0 6 (2 : Int32)) o0 7) + v60)) o0 9 v162)) else some (sI (sI (sI I o0 6 (2 : Int32)) o0 8 (((sI I o0 6 (2 : Int32)) o0 7) + v60)) o0 9 (-1 : Int32))) else (if v60 ≤ (4 : Int32) then bd (F_X3_numberAtStart n T1 o0 (sI (sI I o0 6 (5 : Int32)) o0 8 (((sI I o0 6 (5 : Int32)) o0 7) + v60))) (fun v162 => some (sI (sI (sI I o0 6 (5 : Int32)) o0 8 (((sI I o0 6 (5 : Int32)) o0 7) + v60)) o0 9 v162)) else some (sI (sI (sI I o0 6 (5 : Int32)) o0 8 (((sI I o0 6 (5 : Int32)) o0 7) + v60)) o0 9 (-1 : Int32))))) else (if v51 ≤ (8 : Int32) then some (sI (sI I o0 6 (1 : Int32)) o0 8 (((sI I o0 6 (1 : Int32)) o0 7) + v51)) else some (sI (sI I o0 6 (5 : Int32)) o0 8 (((sI I o0 6 (5 : Int32)) o0 7) + v51)))) else some (sI (sI I o0 6 (0 : Int32)) o0 8 ((sI I o0 6 (0 : Int32)) o0 3)))))))) := rfl
set_option maxHeartbeats 4000000 in
set_option maxRecDepth 100000 in
theorem cL_X3_nextToken {G : gG} {lay : Nat → Nat × Nat} {T0 T1 : Nat} {Dd : Nat → Nat → UInt64} {J : gJ} {K : gI} {N : gJ} {sz n : Nat} {o0 : Nat} (hs : G.1.stackTraces = false) (hE : gLay lay) (hT1 : gTank lay T1) (ho0 : lay o0 = (3, 0)) : ∀ j : Nat, (∀ (I : gI) (r : gI), L_X3_nextToken n T1 o0 j 0 I = some r → gAt G mX3_nextToken (gQp G mX3_nextToken (gR none (fO G (lay, T0, T1, Dd) r J K N) sz)) 8 [some (.ref (G.2.2.1 + o0)), none, none] [] (fO G (lay, T0, T1, Dd) I J K N) sz 0 0) := by
  intro j
  induction j with
  | zero => exact fun _ _ hf => (by cases hf)
  | succ j ih =>
    refine ?_
    · intro I r hf
      rw [L_X3_nextToken_e0] at hf
      refine r_aload_n dX3_nextToken_8 rfl ?_
      refine g3_7 dX3_nextToken_9 wd_866 ho0 ?_
      refine r_aload_n dX3_nextToken_12 rfl ?_
      refine g3_3 dX3_nextToken_13 wd_862 ho0 ?_
      refine r_icmp_ge (tgt := 46) dX3_nextToken_16 (by decide) (fun c16 => ?_) (fun c16 => ?_)
      · replace hf := if_t hf c16
        refine r_aload_n dX3_nextToken_46 rfl ?_
        refine r_bipush (v := (97 : Int32)) dX3_nextToken_47 (by decide) ?_
        refine r_bipush (v := (122 : Int32)) dX3_nextToken_49 (by decide) ?_
        obtain ⟨v51, hc51, hf⟩ := bd_of hf
        refine r_cVi (rest := []) (ct_X3_countRun hs hE hT1 ho0 hc51) dX3_nextToken_51 wd_914 zX3_countRun wd_916 wd_10 rfl  rfl rfl (fo3 ho0) rfl rfl ⟨Nat.le_of_ble_eq_true rfl, Nat.le_of_ble_eq_true rfl⟩ (Nat.le_of_ble_eq_true rfl) ⟨Nat.le_of_ble_eq_true rfl, Nat.le_of_ble_eq_true rfl⟩ ?_
        refine r_istore_n dX3_nextToken_54 (by decide) rfl ?_
        refine r_aload_n dX3_nextToken_55 rfl ?_
        refine r_bipush (v := (48 : Int32)) dX3_nextToken_56 (by decide) ?_
        refine r_bipush (v := (57 : Int32)) dX3_nextToken_58 (by decide) ?_
        obtain ⟨v60, hc60, hf⟩ := bd_of hf
        refine r_cVi (rest := []) (ct_X3_countRun hs hE hT1 ho0 hc60) dX3_nextToken_60 wd_914 zX3_countRun wd_916 wd_10 rfl  rfl rfl (fo3 ho0) rfl rfl ⟨Nat.le_of_ble_eq_true rfl, Nat.le_of_ble_eq_true rfl⟩ (Nat.le_of_ble_eq_true rfl) ⟨Nat.le_of_ble_eq_true rfl, Nat.le_of_ble_eq_true rfl⟩ ?_
        refine r_istore_n dX3_nextToken_63 (by decide) rfl ?_
        refine r_aload_n dX3_nextToken_64 rfl ?_
        refine g3_7 dX3_nextToken_65 wd_866 ho0 ?_
        refine r_aload_n dX3_nextToken_68 rfl ?_
        refine g3_3 dX3_nextToken_69 wd_862 ho0 ?_
        refine r_icmp_lt (tgt := 91) dX3_nextToken_72 (by decide) (fun c72 => ?_) (fun c72 => ?_)
        · replace hf := if_t hf c72
          refine r_iload_n dX3_nextToken_91 rfl ?_
          refine r_if_le (tgt := 123) dX3_nextToken_92 (by decide) (fun c92 => ?_) (fun c92 => ?_)
          · replace hf := if_t hf c92
            refine r_iload_n dX3_nextToken_123 rfl ?_
            refine r_if_le (tgt := 171) dX3_nextToken_124 (by decide) (fun c124 => ?_) (fun c124 => ?_)
            · replace hf := if_t hf c124
              refine r_aload_n dX3_nextToken_171 rfl ?_
              refine r_aload_n dX3_nextToken_172 rfl ?_
              refine g3_2 dX3_nextToken_173 wd_861 ho0 ?_
              refine r_aload_n dX3_nextToken_176 rfl ?_
              refine g3_7 dX3_nextToken_177 wd_866 ho0 ?_
              obtain ⟨h180, hf⟩ := gv_of hf
              refine a_bald dX3_nextToken_180 (hE 1 (by decide)) h180 ?_
              obtain ⟨v181, hc181, hf⟩ := bd_of hf
              refine r_cSi (rest := [.ref (G.2.2.1 + o0)]) (ct_X3_kindOfSign hs hE hT1 hc181) dX3_nextToken_181 wd_922 zX3_kindOfSign wd_923 rfl  rfl rfl ⟨Nat.le_of_ble_eq_true rfl, Nat.le_of_ble_eq_true rfl⟩ (Nat.le_of_ble_eq_true rfl) ⟨Nat.le_of_ble_eq_true rfl, Nat.le_of_ble_eq_true rfl⟩ ?_
              refine p3_6 dX3_nextToken_184 wd_865 ho0 ?_
              refine r_aload_n dX3_nextToken_187 rfl ?_
              refine r_aload_n dX3_nextToken_188 rfl ?_
              refine g3_7 dX3_nextToken_189 wd_866 ho0 ?_
              refine r_iconst (v := (1 : Int32)) dX3_nextToken_192 (by decide) ?_
              refine r_iadd dX3_nextToken_193 ?_
              refine p3_8 dX3_nextToken_194 wd_867 ho0 ?_
              have hr := Option.some.inj hf
              subst hr
              exact r_vret dX3_nextToken_197 rfl (Nat.le_of_ble_eq_true rfl) (Nat.le_of_ble_eq_true rfl) ⟨rfl, rfl, rfl⟩
            · replace hf := if_f hf c124
              refine r_aload_n dX3_nextToken_127 rfl ?_
              refine r_iload_n dX3_nextToken_128 rfl ?_
              refine r_iconst (v := (4 : Int32)) dX3_nextToken_129 (by decide) ?_
              refine r_icmp_le (tgt := 137) dX3_nextToken_130 (by decide) (fun c130 => ?_) (fun c130 => ?_)
              · replace hf := if_t hf c130
                refine r_iconst (v := (2 : Int32)) dX3_nextToken_137 (by decide) ?_
                refine p3_6 dX3_nextToken_138 wd_865 ho0 ?_
                refine r_aload_n dX3_nextToken_141 rfl ?_
                refine r_aload_n dX3_nextToken_142 rfl ?_
                refine g3_7 dX3_nextToken_143 wd_866 ho0 ?_
                refine r_iload_n dX3_nextToken_146 rfl ?_
                refine r_iadd dX3_nextToken_147 ?_
                refine p3_8 dX3_nextToken_148 wd_867 ho0 ?_
                refine r_aload_n dX3_nextToken_151 rfl ?_
                refine r_iload_n dX3_nextToken_152 rfl ?_
                refine r_iconst (v := (4 : Int32)) dX3_nextToken_153 (by decide) ?_
                refine r_icmp_le (tgt := 161) dX3_nextToken_154 (by decide) (fun c154 => ?_) (fun c154 => ?_)
                · replace hf := if_t hf c154
                  refine r_aload_n dX3_nextToken_161 rfl ?_
                  obtain ⟨v162, hc162, hf⟩ := bd_of hf
                  refine r_cVi (rest := [.ref (G.2.2.1 + o0)]) (ct_X3_numberAtStart hs hE hT1 ho0 hc162) dX3_nextToken_162 wd_918 zX3_numberAtStart wd_920 wd_11 rfl  rfl rfl (fo3 ho0) rfl rfl ⟨Nat.le_of_ble_eq_true rfl, Nat.le_of_ble_eq_true rfl⟩ (Nat.le_of_ble_eq_true rfl) ⟨Nat.le_of_ble_eq_true rfl, Nat.le_of_ble_eq_true rfl⟩ ?_
                  refine p3_9 dX3_nextToken_165 wd_868 ho0 ?_
                  refine r_goto (tgt := 197) dX3_nextToken_168 (by decide) ?_
                  have hr := Option.some.inj hf
                  subst hr
                  exact r_vret dX3_nextToken_197 rfl (Nat.le_of_ble_eq_true rfl) (Nat.le_of_ble_eq_true rfl) ⟨rfl, rfl, rfl⟩
                · replace hf := if_f hf c154
                  refine r_iconst (v := (-1 : Int32)) dX3_nextToken_157 (by decide) ?_
                  refine r_goto (tgt := 165) dX3_nextToken_158 (by decide) ?_
                  refine p3_9 dX3_nextToken_165 wd_868 ho0 ?_
                  refine r_goto (tgt := 197) dX3_nextToken_168 (by decide) ?_
                  have hr := Option.some.inj hf
                  subst hr
                  exact r_vret dX3_nextToken_197 rfl (Nat.le_of_ble_eq_true rfl) (Nat.le_of_ble_eq_true rfl) ⟨rfl, rfl, rfl⟩
              · replace hf := if_f hf c130
                refine r_iconst (v := (5 : Int32)) dX3_nextToken_133 (by decide) ?_
                refine r_goto (tgt := 138) dX3_nextToken_134 (by decide) ?_
                refine p3_6 dX3_nextToken_138 wd_865 ho0 ?_
                refine r_aload_n dX3_nextToken_141 rfl ?_
                refine r_aload_n dX3_nextToken_142 rfl ?_
                refine g3_7 dX3_nextToken_143 wd_866 ho0 ?_
                refine r_iload_n dX3_nextToken_146 rfl ?_
                refine r_iadd dX3_nextToken_147 ?_
                refine p3_8 dX3_nextToken_148 wd_867 ho0 ?_
                refine r_aload_n dX3_nextToken_151 rfl ?_
                refine r_iload_n dX3_nextToken_152 rfl ?_
                refine r_iconst (v := (4 : Int32)) dX3_nextToken_153 (by decide) ?_
                refine r_icmp_le (tgt := 161) dX3_nextToken_154 (by decide) (fun c154 => ?_) (fun c154 => ?_)
                · replace hf := if_t hf c154
                  refine r_aload_n dX3_nextToken_161 rfl ?_
                  obtain ⟨v162, hc162, hf⟩ := bd_of hf
                  refine r_cVi (rest := [.ref (G.2.2.1 + o0)]) (ct_X3_numberAtStart hs hE hT1 ho0 hc162) dX3_nextToken_162 wd_918 zX3_numberAtStart wd_920 wd_11 rfl  rfl rfl (fo3 ho0) rfl rfl ⟨Nat.le_of_ble_eq_true rfl, Nat.le_of_ble_eq_true rfl⟩ (Nat.le_of_ble_eq_true rfl) ⟨Nat.le_of_ble_eq_true rfl, Nat.le_of_ble_eq_true rfl⟩ ?_
                  refine p3_9 dX3_nextToken_165 wd_868 ho0 ?_
                  refine r_goto (tgt := 197) dX3_nextToken_168 (by decide) ?_
                  have hr := Option.some.inj hf
                  subst hr
                  exact r_vret dX3_nextToken_197 rfl (Nat.le_of_ble_eq_true rfl) (Nat.le_of_ble_eq_true rfl) ⟨rfl, rfl, rfl⟩
                · replace hf := if_f hf c154
                  refine r_iconst (v := (-1 : Int32)) dX3_nextToken_157 (by decide) ?_
                  refine r_goto (tgt := 165) dX3_nextToken_158 (by decide) ?_
                  refine p3_9 dX3_nextToken_165 wd_868 ho0 ?_
                  refine r_goto (tgt := 197) dX3_nextToken_168 (by decide) ?_
                  have hr := Option.some.inj hf
                  subst hr
                  exact r_vret dX3_nextToken_197 rfl (Nat.le_of_ble_eq_true rfl) (Nat.le_of_ble_eq_true rfl) ⟨rfl, rfl, rfl⟩
          · replace hf := if_f hf c92
            refine r_aload_n dX3_nextToken_95 rfl ?_
            refine r_iload_n dX3_nextToken_96 rfl ?_
            refine r_bipush (v := (8 : Int32)) dX3_nextToken_97 (by decide) ?_
            refine r_icmp_le (tgt := 106) dX3_nextToken_99 (by decide) (fun c99 => ?_) (fun c99 => ?_)
            · replace hf := if_t hf c99
              refine r_iconst (v := (1 : Int32)) dX3_nextToken_106 (by decide) ?_
              refine p3_6 dX3_nextToken_107 wd_865 ho0 ?_
              refine r_aload_n dX3_nextToken_110 rfl ?_
              refine r_aload_n dX3_nextToken_111 rfl ?_
              refine g3_7 dX3_nextToken_112 wd_866 ho0 ?_
              refine r_iload_n dX3_nextToken_115 rfl ?_
              refine r_iadd dX3_nextToken_116 ?_
              refine p3_8 dX3_nextToken_117 wd_867 ho0 ?_
              refine r_goto (tgt := 197) dX3_nextToken_120 (by decide) ?_
              have hr := Option.some.inj hf
              subst hr
              exact r_vret dX3_nextToken_197 rfl (Nat.le_of_ble_eq_true rfl) (Nat.le_of_ble_eq_true rfl) ⟨rfl, rfl, rfl⟩
            · replace hf := if_f hf c99
              refine r_iconst (v := (5 : Int32)) dX3_nextToken_102 (by decide) ?_
              refine r_goto (tgt := 107) dX3_nextToken_103 (by decide) ?_
              refine p3_6 dX3_nextToken_107 wd_865 ho0 ?_
              refine r_aload_n dX3_nextToken_110 rfl ?_
              refine r_aload_n dX3_nextToken_111 rfl ?_
              refine g3_7 dX3_nextToken_112 wd_866 ho0 ?_
              refine r_iload_n dX3_nextToken_115 rfl ?_
              refine r_iadd dX3_nextToken_116 ?_
              refine p3_8 dX3_nextToken_117 wd_867 ho0 ?_
              refine r_goto (tgt := 197) dX3_nextToken_120 (by decide) ?_
              have hr := Option.some.inj hf
              subst hr
              exact r_vret dX3_nextToken_197 rfl (Nat.le_of_ble_eq_true rfl) (Nat.le_of_ble_eq_true rfl) ⟨rfl, rfl, rfl⟩
        · replace hf := if_f hf c72
          refine r_aload_n dX3_nextToken_75 rfl ?_
          refine r_iconst (v := (0 : Int32)) dX3_nextToken_76 (by decide) ?_
          refine p3_6 dX3_nextToken_77 wd_865 ho0 ?_
          refine r_aload_n dX3_nextToken_80 rfl ?_
          refine r_aload_n dX3_nextToken_81 rfl ?_
          refine g3_3 dX3_nextToken_82 wd_862 ho0 ?_
          refine p3_8 dX3_nextToken_85 wd_867 ho0 ?_
          refine r_goto (tgt := 197) dX3_nextToken_88 (by decide) ?_
          have hr := Option.some.inj hf
          subst hr
          exact r_vret dX3_nextToken_197 rfl (Nat.le_of_ble_eq_true rfl) (Nat.le_of_ble_eq_true rfl) ⟨rfl, rfl, rfl⟩
      · replace hf := if_f hf c16
        refine r_aload_n dX3_nextToken_19 rfl ?_
        refine g3_2 dX3_nextToken_20 wd_861 ho0 ?_
        refine r_aload_n dX3_nextToken_23 rfl ?_
        refine g3_7 dX3_nextToken_24 wd_866 ho0 ?_
        obtain ⟨h27, hf⟩ := gv_of hf
        refine a_bald dX3_nextToken_27 (hE 1 (by decide)) h27 ?_
        refine r_bipush (v := (32 : Int32)) dX3_nextToken_28 (by decide) ?_
        refine r_icmp_ne (tgt := 46) dX3_nextToken_30 (by decide) (fun c30 => ?_) (fun c30 => ?_)
        · replace hf := if_f hf c30
          refine r_aload_n dX3_nextToken_46 rfl ?_
          refine r_bipush (v := (97 : Int32)) dX3_nextToken_47 (by decide) ?_
          refine r_bipush (v := (122 : Int32)) dX3_nextToken_49 (by decide) ?_
          obtain ⟨v51, hc51, hf⟩ := bd_of hf
          refine r_cVi (rest := []) (ct_X3_countRun hs hE hT1 ho0 hc51) dX3_nextToken_51 wd_914 zX3_countRun wd_916 wd_10 rfl  rfl rfl (fo3 ho0) rfl rfl ⟨Nat.le_of_ble_eq_true rfl, Nat.le_of_ble_eq_true rfl⟩ (Nat.le_of_ble_eq_true rfl) ⟨Nat.le_of_ble_eq_true rfl, Nat.le_of_ble_eq_true rfl⟩ ?_
          refine r_istore_n dX3_nextToken_54 (by decide) rfl ?_
          refine r_aload_n dX3_nextToken_55 rfl ?_
          refine r_bipush (v := (48 : Int32)) dX3_nextToken_56 (by decide) ?_
          refine r_bipush (v := (57 : Int32)) dX3_nextToken_58 (by decide) ?_
          obtain ⟨v60, hc60, hf⟩ := bd_of hf
          refine r_cVi (rest := []) (ct_X3_countRun hs hE hT1 ho0 hc60) dX3_nextToken_60 wd_914 zX3_countRun wd_916 wd_10 rfl  rfl rfl (fo3 ho0) rfl rfl ⟨Nat.le_of_ble_eq_true rfl, Nat.le_of_ble_eq_true rfl⟩ (Nat.le_of_ble_eq_true rfl) ⟨Nat.le_of_ble_eq_true rfl, Nat.le_of_ble_eq_true rfl⟩ ?_
          refine r_istore_n dX3_nextToken_63 (by decide) rfl ?_
          refine r_aload_n dX3_nextToken_64 rfl ?_
          refine g3_7 dX3_nextToken_65 wd_866 ho0 ?_
          refine r_aload_n dX3_nextToken_68 rfl ?_
          refine g3_3 dX3_nextToken_69 wd_862 ho0 ?_
          refine r_icmp_lt (tgt := 91) dX3_nextToken_72 (by decide) (fun c72 => ?_) (fun c72 => ?_)
          · replace hf := if_t hf c72
            refine r_iload_n dX3_nextToken_91 rfl ?_
            refine r_if_le (tgt := 123) dX3_nextToken_92 (by decide) (fun c92 => ?_) (fun c92 => ?_)
            · replace hf := if_t hf c92
              refine r_iload_n dX3_nextToken_123 rfl ?_
              refine r_if_le (tgt := 171) dX3_nextToken_124 (by decide) (fun c124 => ?_) (fun c124 => ?_)
              · replace hf := if_t hf c124
                refine r_aload_n dX3_nextToken_171 rfl ?_
                refine r_aload_n dX3_nextToken_172 rfl ?_
                refine g3_2 dX3_nextToken_173 wd_861 ho0 ?_
                refine r_aload_n dX3_nextToken_176 rfl ?_
                refine g3_7 dX3_nextToken_177 wd_866 ho0 ?_
                obtain ⟨h180, hf⟩ := gv_of hf
                refine a_bald dX3_nextToken_180 (hE 1 (by decide)) h180 ?_
                obtain ⟨v181, hc181, hf⟩ := bd_of hf
                refine r_cSi (rest := [.ref (G.2.2.1 + o0)]) (ct_X3_kindOfSign hs hE hT1 hc181) dX3_nextToken_181 wd_922 zX3_kindOfSign wd_923 rfl  rfl rfl ⟨Nat.le_of_ble_eq_true rfl, Nat.le_of_ble_eq_true rfl⟩ (Nat.le_of_ble_eq_true rfl) ⟨Nat.le_of_ble_eq_true rfl, Nat.le_of_ble_eq_true rfl⟩ ?_
                refine p3_6 dX3_nextToken_184 wd_865 ho0 ?_
                refine r_aload_n dX3_nextToken_187 rfl ?_
                refine r_aload_n dX3_nextToken_188 rfl ?_
                refine g3_7 dX3_nextToken_189 wd_866 ho0 ?_
                refine r_iconst (v := (1 : Int32)) dX3_nextToken_192 (by decide) ?_
                refine r_iadd dX3_nextToken_193 ?_
                refine p3_8 dX3_nextToken_194 wd_867 ho0 ?_
                have hr := Option.some.inj hf
                subst hr
                exact r_vret dX3_nextToken_197 rfl (Nat.le_of_ble_eq_true rfl) (Nat.le_of_ble_eq_true rfl) ⟨rfl, rfl, rfl⟩
              · replace hf := if_f hf c124
                refine r_aload_n dX3_nextToken_127 rfl ?_
                refine r_iload_n dX3_nextToken_128 rfl ?_
                refine r_iconst (v := (4 : Int32)) dX3_nextToken_129 (by decide) ?_
                refine r_icmp_le (tgt := 137) dX3_nextToken_130 (by decide) (fun c130 => ?_) (fun c130 => ?_)
                · replace hf := if_t hf c130
                  refine r_iconst (v := (2 : Int32)) dX3_nextToken_137 (by decide) ?_
                  refine p3_6 dX3_nextToken_138 wd_865 ho0 ?_
                  refine r_aload_n dX3_nextToken_141 rfl ?_
                  refine r_aload_n dX3_nextToken_142 rfl ?_
                  refine g3_7 dX3_nextToken_143 wd_866 ho0 ?_
                  refine r_iload_n dX3_nextToken_146 rfl ?_
                  refine r_iadd dX3_nextToken_147 ?_
                  refine p3_8 dX3_nextToken_148 wd_867 ho0 ?_
                  refine r_aload_n dX3_nextToken_151 rfl ?_
                  refine r_iload_n dX3_nextToken_152 rfl ?_
                  refine r_iconst (v := (4 : Int32)) dX3_nextToken_153 (by decide) ?_
                  refine r_icmp_le (tgt := 161) dX3_nextToken_154 (by decide) (fun c154 => ?_) (fun c154 => ?_)
                  · replace hf := if_t hf c154
                    refine r_aload_n dX3_nextToken_161 rfl ?_
                    obtain ⟨v162, hc162, hf⟩ := bd_of hf
                    refine r_cVi (rest := [.ref (G.2.2.1 + o0)]) (ct_X3_numberAtStart hs hE hT1 ho0 hc162) dX3_nextToken_162 wd_918 zX3_numberAtStart wd_920 wd_11 rfl  rfl rfl (fo3 ho0) rfl rfl ⟨Nat.le_of_ble_eq_true rfl, Nat.le_of_ble_eq_true rfl⟩ (Nat.le_of_ble_eq_true rfl) ⟨Nat.le_of_ble_eq_true rfl, Nat.le_of_ble_eq_true rfl⟩ ?_
                    refine p3_9 dX3_nextToken_165 wd_868 ho0 ?_
                    refine r_goto (tgt := 197) dX3_nextToken_168 (by decide) ?_
                    have hr := Option.some.inj hf
                    subst hr
                    exact r_vret dX3_nextToken_197 rfl (Nat.le_of_ble_eq_true rfl) (Nat.le_of_ble_eq_true rfl) ⟨rfl, rfl, rfl⟩
                  · replace hf := if_f hf c154
                    refine r_iconst (v := (-1 : Int32)) dX3_nextToken_157 (by decide) ?_
                    refine r_goto (tgt := 165) dX3_nextToken_158 (by decide) ?_
                    refine p3_9 dX3_nextToken_165 wd_868 ho0 ?_
                    refine r_goto (tgt := 197) dX3_nextToken_168 (by decide) ?_
                    have hr := Option.some.inj hf
                    subst hr
                    exact r_vret dX3_nextToken_197 rfl (Nat.le_of_ble_eq_true rfl) (Nat.le_of_ble_eq_true rfl) ⟨rfl, rfl, rfl⟩
                · replace hf := if_f hf c130
                  refine r_iconst (v := (5 : Int32)) dX3_nextToken_133 (by decide) ?_
                  refine r_goto (tgt := 138) dX3_nextToken_134 (by decide) ?_
                  refine p3_6 dX3_nextToken_138 wd_865 ho0 ?_
                  refine r_aload_n dX3_nextToken_141 rfl ?_
                  refine r_aload_n dX3_nextToken_142 rfl ?_
                  refine g3_7 dX3_nextToken_143 wd_866 ho0 ?_
                  refine r_iload_n dX3_nextToken_146 rfl ?_
                  refine r_iadd dX3_nextToken_147 ?_
                  refine p3_8 dX3_nextToken_148 wd_867 ho0 ?_
                  refine r_aload_n dX3_nextToken_151 rfl ?_
                  refine r_iload_n dX3_nextToken_152 rfl ?_
                  refine r_iconst (v := (4 : Int32)) dX3_nextToken_153 (by decide) ?_
                  refine r_icmp_le (tgt := 161) dX3_nextToken_154 (by decide) (fun c154 => ?_) (fun c154 => ?_)
                  · replace hf := if_t hf c154
                    refine r_aload_n dX3_nextToken_161 rfl ?_
                    obtain ⟨v162, hc162, hf⟩ := bd_of hf
                    refine r_cVi (rest := [.ref (G.2.2.1 + o0)]) (ct_X3_numberAtStart hs hE hT1 ho0 hc162) dX3_nextToken_162 wd_918 zX3_numberAtStart wd_920 wd_11 rfl  rfl rfl (fo3 ho0) rfl rfl ⟨Nat.le_of_ble_eq_true rfl, Nat.le_of_ble_eq_true rfl⟩ (Nat.le_of_ble_eq_true rfl) ⟨Nat.le_of_ble_eq_true rfl, Nat.le_of_ble_eq_true rfl⟩ ?_
                    refine p3_9 dX3_nextToken_165 wd_868 ho0 ?_
                    refine r_goto (tgt := 197) dX3_nextToken_168 (by decide) ?_
                    have hr := Option.some.inj hf
                    subst hr
                    exact r_vret dX3_nextToken_197 rfl (Nat.le_of_ble_eq_true rfl) (Nat.le_of_ble_eq_true rfl) ⟨rfl, rfl, rfl⟩
                  · replace hf := if_f hf c154
                    refine r_iconst (v := (-1 : Int32)) dX3_nextToken_157 (by decide) ?_
                    refine r_goto (tgt := 165) dX3_nextToken_158 (by decide) ?_
                    refine p3_9 dX3_nextToken_165 wd_868 ho0 ?_
                    refine r_goto (tgt := 197) dX3_nextToken_168 (by decide) ?_
                    have hr := Option.some.inj hf
                    subst hr
                    exact r_vret dX3_nextToken_197 rfl (Nat.le_of_ble_eq_true rfl) (Nat.le_of_ble_eq_true rfl) ⟨rfl, rfl, rfl⟩
            · replace hf := if_f hf c92
              refine r_aload_n dX3_nextToken_95 rfl ?_
              refine r_iload_n dX3_nextToken_96 rfl ?_
              refine r_bipush (v := (8 : Int32)) dX3_nextToken_97 (by decide) ?_
              refine r_icmp_le (tgt := 106) dX3_nextToken_99 (by decide) (fun c99 => ?_) (fun c99 => ?_)
              · replace hf := if_t hf c99
                refine r_iconst (v := (1 : Int32)) dX3_nextToken_106 (by decide) ?_
                refine p3_6 dX3_nextToken_107 wd_865 ho0 ?_
                refine r_aload_n dX3_nextToken_110 rfl ?_
                refine r_aload_n dX3_nextToken_111 rfl ?_
                refine g3_7 dX3_nextToken_112 wd_866 ho0 ?_
                refine r_iload_n dX3_nextToken_115 rfl ?_
                refine r_iadd dX3_nextToken_116 ?_
                refine p3_8 dX3_nextToken_117 wd_867 ho0 ?_
                refine r_goto (tgt := 197) dX3_nextToken_120 (by decide) ?_
                have hr := Option.some.inj hf
                subst hr
                exact r_vret dX3_nextToken_197 rfl (Nat.le_of_ble_eq_true rfl) (Nat.le_of_ble_eq_true rfl) ⟨rfl, rfl, rfl⟩
              · replace hf := if_f hf c99
                refine r_iconst (v := (5 : Int32)) dX3_nextToken_102 (by decide) ?_
                refine r_goto (tgt := 107) dX3_nextToken_103 (by decide) ?_
                refine p3_6 dX3_nextToken_107 wd_865 ho0 ?_
                refine r_aload_n dX3_nextToken_110 rfl ?_
                refine r_aload_n dX3_nextToken_111 rfl ?_
                refine g3_7 dX3_nextToken_112 wd_866 ho0 ?_
                refine r_iload_n dX3_nextToken_115 rfl ?_
                refine r_iadd dX3_nextToken_116 ?_
                refine p3_8 dX3_nextToken_117 wd_867 ho0 ?_
                refine r_goto (tgt := 197) dX3_nextToken_120 (by decide) ?_
                have hr := Option.some.inj hf
                subst hr
                exact r_vret dX3_nextToken_197 rfl (Nat.le_of_ble_eq_true rfl) (Nat.le_of_ble_eq_true rfl) ⟨rfl, rfl, rfl⟩
          · replace hf := if_f hf c72
            refine r_aload_n dX3_nextToken_75 rfl ?_
            refine r_iconst (v := (0 : Int32)) dX3_nextToken_76 (by decide) ?_
            refine p3_6 dX3_nextToken_77 wd_865 ho0 ?_
            refine r_aload_n dX3_nextToken_80 rfl ?_
            refine r_aload_n dX3_nextToken_81 rfl ?_
            refine g3_3 dX3_nextToken_82 wd_862 ho0 ?_
            refine p3_8 dX3_nextToken_85 wd_867 ho0 ?_
            refine r_goto (tgt := 197) dX3_nextToken_88 (by decide) ?_
            have hr := Option.some.inj hf
            subst hr
            exact r_vret dX3_nextToken_197 rfl (Nat.le_of_ble_eq_true rfl) (Nat.le_of_ble_eq_true rfl) ⟨rfl, rfl, rfl⟩
        · replace hf := if_t hf c30
          refine r_aload_n dX3_nextToken_33 rfl ?_
          refine r_dup dX3_nextToken_34 rfl ?_
          refine g3_7 dX3_nextToken_35 wd_866 ho0 ?_
          refine r_iconst (v := (1 : Int32)) dX3_nextToken_38 (by decide) ?_
          refine r_iadd dX3_nextToken_39 ?_
          refine p3_7 dX3_nextToken_40 wd_866 ho0 ?_
          refine r_goto (tgt := 8) dX3_nextToken_43 (by decide) ?_
          exact r_widen (k2 := 0) (n2 := 0) (Nat.le_of_ble_eq_true rfl) (Nat.le_of_ble_eq_true rfl) (r_mask [true, false, false] rfl (ih (sI I o0 7 ((I o0 7) + (1 : Int32))) r hf))
def F_X3_nextToken (n : Nat) (T1 o0 : Nat) (I : gI) : Option (gI) := L_X3_nextToken n T1 o0 n 0 (sI I o0 7 (I o0 8))
set_option maxHeartbeats 4000000 in
set_option maxRecDepth 100000 in
theorem ct_X3_nextToken {G : gG} {lay : Nat → Nat × Nat} {T0 T1 : Nat} {Dd : Nat → Nat → UInt64} {I : gI} {J : gJ} {K : gI} {N : gJ} {sz n : Nat} {o0 : Nat} (hs : G.1.stackTraces = false) (hE : gLay lay) (hT1 : gTank lay T1) (ho0 : lay o0 = (3, 0)) {r : gI} (hf : F_X3_nextToken n T1 o0 I = some r) : gCt G mX3_nextToken [.ref (G.2.2.1 + o0)] (fO G (lay, T0, T1, Dd) I J K N) sz (gR none (fO G (lay, T0, T1, Dd) r J K N) sz) := by
  unfold F_X3_nextToken at hf
  refine gCt.of [some (.ref (G.2.2.1 + o0)), none, none] (by decide +kernel) rfl hs rfl (Nat.le_of_ble_eq_true rfl) ?_
  refine r_aload_n dX3_nextToken_0 rfl ?_
  refine r_aload_n dX3_nextToken_1 rfl ?_
  refine g3_8 dX3_nextToken_2 wd_867 ho0 ?_
  refine p3_7 dX3_nextToken_5 wd_866 ho0 ?_
  exact r_widen (k2 := 0) (n2 := 0) (Nat.le_of_ble_eq_true rfl) (Nat.le_of_ble_eq_true rfl) (r_mask [true, false, false] rfl ((cL_X3_nextToken hs hE hT1 ho0 n) (sI I o0 7 (I o0 8)) r hf))
def L_X3_isWord (n : Nat) (T1 o0 w1 : Nat) (I : gI) : Nat → Nat → Int32 → Option (Int32)
  | 0, _, _ => none
  | j + 1, 0, x2 => (if (nI (gLen w1)) ≤ x2 then some (1 : Int32) else gv ((I o0 7) + x2) 900 (gv x2 (gLen w1) ((if (I 1 (Int32.toNatClampNeg ((I o0 7) + x2))) = (gByt w1 (Int32.toNatClampNeg x2) &&& 255) then L_X3_isWord n T1 o0 w1 I j 0 (x2 + (1 : Int32)) else some (0 : Int32)))))
  | _ + 1, _, _ => none
theorem L_X3_isWord_e0 (n j : Nat) (T1 o0 w1 : Nat) (I : gI) (x2 : Int32) : L_X3_isWord n T1 o0 w1 I (j + 1) 0 x2 = (if (nI (gLen w1)) ≤ x2 then some (1 : Int32) else gv ((I o0 7) + x2) 900 (gv x2 (gLen w1) ((if (I 1 (Int32.toNatClampNeg ((I o0 7) + x2))) = (gByt w1 (Int32.toNatClampNeg x2) &&& 255) then L_X3_isWord n T1 o0 w1 I j 0 (x2 + (1 : Int32)) else some (0 : Int32))))) := rfl
set_option maxHeartbeats 4000000 in
set_option maxRecDepth 100000 in
theorem cL_X3_isWord {G : gG} {lay : Nat → Nat × Nat} {T0 T1 : Nat} {Dd : Nat → Nat → UInt64} {I : gI} {J : gJ} {K : gI} {N : gJ} {sz n : Nat} {o0 w1 : Nat} (hs : G.1.stackTraces = false) (hE : gLay lay) (hT1 : gTank lay T1) (ho0 : lay o0 = (3, 0)) (hw1 : w1 < 35) : ∀ j : Nat, (∀ (x2 : Int32) (r : Int32), L_X3_isWord n T1 o0 w1 I j 0 x2 = some r → gAt G mX3_isWord (gQp G mX3_isWord (gR (some (.int r)) (fO G (lay, T0, T1, Dd) I J K N) sz)) 28 [some (.ref (G.2.2.1 + o0)), some (.ref (G.2.2.2.1 w1)), some (.int x2)] [] (fO G (lay, T0, T1, Dd) I J K N) sz 0 0) := by
  intro j
  induction j with
  | zero => exact fun _ _ hf => (by cases hf)
  | succ j ih =>
    refine ?_
    · intro x2 r hf
      rw [L_X3_isWord_e0] at hf
      refine r_iload_n dX3_isWord_28 rfl ?_
      refine r_aload_n dX3_isWord_29 rfl ?_
      refine r_strlen (rest := [.int x2]) hs dX3_isWord_30 wd_942 hw1 (Nat.le_of_ble_eq_true rfl) (Nat.le_of_ble_eq_true rfl) (Nat.le_of_ble_eq_true rfl) ⟨Nat.le_of_ble_eq_true rfl, Nat.le_of_ble_eq_true rfl⟩ ?_
      refine r_icmp_ge (tgt := 63) dX3_isWord_33 (by decide) (fun c33 => ?_) (fun c33 => ?_)
      · replace hf := if_t hf c33
        refine r_iconst (v := (1 : Int32)) dX3_isWord_63 (by decide) ?_
        have hr := Option.some.inj hf
        subst hr
        exact r_zret dX3_isWord_64 rfl rfl (Nat.le_of_ble_eq_true rfl) (Nat.le_of_ble_eq_true rfl) ⟨rfl, rfl, rfl⟩
      · replace hf := if_f hf c33
        refine r_aload_n dX3_isWord_36 rfl ?_
        refine g3_2 dX3_isWord_37 wd_861 ho0 ?_
        refine r_aload_n dX3_isWord_40 rfl ?_
        refine g3_7 dX3_isWord_41 wd_866 ho0 ?_
        refine r_iload_n dX3_isWord_44 rfl ?_
        refine r_iadd dX3_isWord_45 ?_
        obtain ⟨h46, hf⟩ := gv_of hf
        refine a_bald dX3_isWord_46 (hE 1 (by decide)) h46 ?_
        refine r_aload_n dX3_isWord_47 rfl ?_
        refine r_iload_n dX3_isWord_48 rfl ?_
        obtain ⟨h49, hf⟩ := gv_of hf
        refine r_strchar (rest := [.int (I 1 (Int32.toNatClampNeg ((I o0 7) + x2)))]) hs dX3_isWord_49 wd_952 hw1 h49 (Nat.le_of_ble_eq_true rfl) (Nat.le_of_ble_eq_true rfl) (Nat.le_of_ble_eq_true rfl) ⟨Nat.le_of_ble_eq_true rfl, Nat.le_of_ble_eq_true rfl⟩ ?_
        refine r_icmp_eq (tgt := 57) dX3_isWord_52 (by decide) (fun c52 => ?_) (fun c52 => ?_)
        · replace hf := if_t hf c52
          refine r_iincv (v := (x2 + (1 : Int32))) dX3_isWord_57 rfl rfl (by decide) rfl ?_
          refine r_goto (tgt := 28) dX3_isWord_60 (by decide) ?_
          exact r_widen (k2 := 0) (n2 := 0) (Nat.le_of_ble_eq_true rfl) (Nat.le_of_ble_eq_true rfl) (r_mask [true, true, true] rfl (ih (x2 + (1 : Int32)) r hf))
        · replace hf := if_f hf c52
          refine r_iconst (v := (0 : Int32)) dX3_isWord_55 (by decide) ?_
          have hr := Option.some.inj hf
          subst hr
          exact r_zret dX3_isWord_56 rfl rfl (Nat.le_of_ble_eq_true rfl) (Nat.le_of_ble_eq_true rfl) ⟨rfl, rfl, rfl⟩
def F_X3_isWord (n : Nat) (T1 o0 w1 : Nat) (I : gI) : Option (Int32) := (if (I o0 6) = (1 : Int32) then (if ((I o0 8) - (I o0 7)) = (nI (gLen w1)) then L_X3_isWord n T1 o0 w1 I n 0 (0 : Int32) else some (0 : Int32)) else some (0 : Int32))
set_option maxHeartbeats 4000000 in
set_option maxRecDepth 100000 in
theorem ct_X3_isWord {G : gG} {lay : Nat → Nat × Nat} {T0 T1 : Nat} {Dd : Nat → Nat → UInt64} {I : gI} {J : gJ} {K : gI} {N : gJ} {sz n : Nat} {o0 w1 : Nat} (hs : G.1.stackTraces = false) (hE : gLay lay) (hT1 : gTank lay T1) (ho0 : lay o0 = (3, 0)) (hw1 : w1 < 35) {r : Int32} (hf : F_X3_isWord n T1 o0 w1 I = some r) : gCt G mX3_isWord [.ref (G.2.2.1 + o0), .ref (G.2.2.2.1 w1)] (fO G (lay, T0, T1, Dd) I J K N) sz (gR (some (.int r)) (fO G (lay, T0, T1, Dd) I J K N) sz) := by
  unfold F_X3_isWord at hf
  refine gCt.of [some (.ref (G.2.2.1 + o0)), some (.ref (G.2.2.2.1 w1)), none] (by decide +kernel) rfl hs rfl (Nat.le_of_ble_eq_true rfl) ?_
  refine r_aload_n dX3_isWord_0 rfl ?_
  refine g3_6 dX3_isWord_1 wd_865 ho0 ?_
  refine r_iconst (v := (1 : Int32)) dX3_isWord_4 (by decide) ?_
  refine r_icmp_ne (tgt := 24) dX3_isWord_5 (by decide) (fun c5 => ?_) (fun c5 => ?_)
  · replace hf := if_f hf c5
    refine r_iconst (v := (0 : Int32)) dX3_isWord_24 (by decide) ?_
    have hr := Option.some.inj hf
    subst hr
    exact r_zret dX3_isWord_25 rfl rfl (Nat.le_of_ble_eq_true rfl) (Nat.le_of_ble_eq_true rfl) ⟨rfl, rfl, rfl⟩
  · replace hf := if_t hf c5
    refine r_aload_n dX3_isWord_8 rfl ?_
    refine g3_8 dX3_isWord_9 wd_867 ho0 ?_
    refine r_aload_n dX3_isWord_12 rfl ?_
    refine g3_7 dX3_isWord_13 wd_866 ho0 ?_
    refine r_isub dX3_isWord_16 ?_
    refine r_aload_n dX3_isWord_17 rfl ?_
    refine r_strlen (rest := [.int ((I o0 8) - (I o0 7))]) hs dX3_isWord_18 wd_942 hw1 (Nat.le_of_ble_eq_true rfl) (Nat.le_of_ble_eq_true rfl) (Nat.le_of_ble_eq_true rfl) ⟨Nat.le_of_ble_eq_true rfl, Nat.le_of_ble_eq_true rfl⟩ ?_
    refine r_icmp_eq (tgt := 26) dX3_isWord_21 (by decide) (fun c21 => ?_) (fun c21 => ?_)
    · replace hf := if_t hf c21
      refine r_iconst (v := (0 : Int32)) dX3_isWord_26 (by decide) ?_
      refine r_istore_n dX3_isWord_27 (by decide) rfl ?_
      exact r_widen (k2 := 0) (n2 := 0) (Nat.le_of_ble_eq_true rfl) (Nat.le_of_ble_eq_true rfl) (r_mask [true, true, true] rfl ((cL_X3_isWord hs hE hT1 ho0 hw1 n) (0 : Int32) r hf))
    · replace hf := if_f hf c21
      refine r_iconst (v := (0 : Int32)) dX3_isWord_24 (by decide) ?_
      have hr := Option.some.inj hf
      subst hr
      exact r_zret dX3_isWord_25 rfl rfl (Nat.le_of_ble_eq_true rfl) (Nat.le_of_ble_eq_true rfl) ⟨rfl, rfl, rfl⟩
def F_X3_takeWord (n : Nat) (T1 o0 w1 : Nat) (I : gI) : Option (Int32 × gI) := (if (I o0 0) = 0 then bd (F_X3_isWord n T1 o0 w1 I) (fun v9 => (if v9 = 0 then some ((0 : Int32), I) else bd (F_X3_nextToken n T1 o0 I) (fun v18 => some ((1 : Int32), v18)))) else some ((0 : Int32), I))
set_option maxHeartbeats 4000000 in
set_option maxRecDepth 100000 in
theorem ct_X3_takeWord {G : gG} {lay : Nat → Nat × Nat} {T0 T1 : Nat} {Dd : Nat → Nat → UInt64} {I : gI} {J : gJ} {K : gI} {N : gJ} {sz n : Nat} {o0 w1 : Nat} (hs : G.1.stackTraces = false) (hE : gLay lay) (hT1 : gTank lay T1) (ho0 : lay o0 = (3, 0)) (hw1 : w1 < 35) {r : Int32 × gI} (hf : F_X3_takeWord n T1 o0 w1 I = some r) : gCt G mX3_takeWord [.ref (G.2.2.1 + o0), .ref (G.2.2.2.1 w1)] (fO G (lay, T0, T1, Dd) I J K N) sz (gR (some (.int r.1)) (fO G (lay, T0, T1, Dd) r.2 J K N) sz) := by
  unfold F_X3_takeWord at hf
  refine gCt.of [some (.ref (G.2.2.1 + o0)), some (.ref (G.2.2.2.1 w1))] (by decide +kernel) rfl hs rfl (Nat.le_of_ble_eq_true rfl) ?_
  refine r_aload_n dX3_takeWord_0 rfl ?_
  refine g3_0 dX3_takeWord_1 wd_857 ho0 ?_
  refine r_if_ne (tgt := 15) dX3_takeWord_4 (by decide) (fun c4 => ?_) (fun c4 => ?_)
  · replace hf := if_f hf c4
    refine r_iconst (v := (0 : Int32)) dX3_takeWord_15 (by decide) ?_
    have hr := Option.some.inj hf
    subst hr
    exact r_zret dX3_takeWord_16 rfl rfl (Nat.le_of_ble_eq_true rfl) (Nat.le_of_ble_eq_true rfl) ⟨rfl, rfl, rfl⟩
  · replace hf := if_t hf c4
    refine r_aload_n dX3_takeWord_7 rfl ?_
    refine r_aload_n dX3_takeWord_8 rfl ?_
    obtain ⟨v9, hc9, hf⟩ := bd_of hf
    refine r_cVi (rest := []) (ct_X3_isWord hs hE hT1 ho0 hw1 hc9) dX3_takeWord_9 wd_938 zX3_isWord wd_940 wd_15 rfl  rfl rfl (fo3 ho0) rfl rfl ⟨Nat.le_of_ble_eq_true rfl, Nat.le_of_ble_eq_true rfl⟩ (Nat.le_of_ble_eq_true rfl) ⟨Nat.le_of_ble_eq_true rfl, Nat.le_of_ble_eq_true rfl⟩ ?_
    refine r_if_ne (tgt := 17) dX3_takeWord_12 (by decide) (fun c12 => ?_) (fun c12 => ?_)
    · replace hf := if_f hf c12
      refine r_aload_n dX3_takeWord_17 rfl ?_
      obtain ⟨v18, hc18, hf⟩ := bd_of hf
      refine r_cVv (rest := []) (ct_X3_nextToken hs hE hT1 ho0 hc18) dX3_takeWord_18 wd_910 zX3_nextToken wd_912 wd_9 rfl  rfl rfl (fo3 ho0) rfl rfl ⟨Nat.le_of_ble_eq_true rfl, Nat.le_of_ble_eq_true rfl⟩ (Nat.le_of_ble_eq_true rfl) ⟨Nat.le_of_ble_eq_true rfl, Nat.le_of_ble_eq_true rfl⟩ ?_
      refine r_iconst (v := (1 : Int32)) dX3_takeWord_21 (by decide) ?_
      have hr := Option.some.inj hf
      subst hr
      exact r_zret dX3_takeWord_22 rfl rfl (Nat.le_of_ble_eq_true rfl) (Nat.le_of_ble_eq_true rfl) ⟨rfl, rfl, rfl⟩
    · replace hf := if_t hf c12
      refine r_iconst (v := (0 : Int32)) dX3_takeWord_15 (by decide) ?_
      have hr := Option.some.inj hf
      subst hr
      exact r_zret dX3_takeWord_16 rfl rfl (Nat.le_of_ble_eq_true rfl) (Nat.le_of_ble_eq_true rfl) ⟨rfl, rfl, rfl⟩
def F_X3_fail (n : Nat) (T1 o0 : Nat) (I : gI) (a1 : Int32) : Option (gI) := (if (I o0 0) = 0 then some (sI (sI I o0 0 a1) o0 1 ((sI I o0 0 a1) o0 7)) else some I)
set_option maxHeartbeats 4000000 in
set_option maxRecDepth 100000 in
theorem ct_X3_fail {G : gG} {lay : Nat → Nat × Nat} {T0 T1 : Nat} {Dd : Nat → Nat → UInt64} {I : gI} {J : gJ} {K : gI} {N : gJ} {sz n : Nat} {o0 : Nat} {a1 : Int32} (hs : G.1.stackTraces = false) (hE : gLay lay) (hT1 : gTank lay T1) (ho0 : lay o0 = (3, 0)) {r : gI} (hf : F_X3_fail n T1 o0 I a1 = some r) : gCt G mX3_fail [.ref (G.2.2.1 + o0), .int a1] (fO G (lay, T0, T1, Dd) I J K N) sz (gR none (fO G (lay, T0, T1, Dd) r J K N) sz) := by
  unfold F_X3_fail at hf
  refine gCt.of [some (.ref (G.2.2.1 + o0)), some (.int a1)] (by decide +kernel) rfl hs rfl (Nat.le_of_ble_eq_true rfl) ?_
  refine r_aload_n dX3_fail_0 rfl ?_
  refine g3_0 dX3_fail_1 wd_857 ho0 ?_
  refine r_if_ne (tgt := 20) dX3_fail_4 (by decide) (fun c4 => ?_) (fun c4 => ?_)
  · replace hf := if_f hf c4
    have hr := Option.some.inj hf
    subst hr
    exact r_vret dX3_fail_20 rfl (Nat.le_of_ble_eq_true rfl) (Nat.le_of_ble_eq_true rfl) ⟨rfl, rfl, rfl⟩
  · replace hf := if_t hf c4
    refine r_aload_n dX3_fail_7 rfl ?_
    refine r_iload_n dX3_fail_8 rfl ?_
    refine p3_0 dX3_fail_9 wd_857 ho0 ?_
    refine r_aload_n dX3_fail_12 rfl ?_
    refine r_aload_n dX3_fail_13 rfl ?_
    refine g3_7 dX3_fail_14 wd_866 ho0 ?_
    refine p3_1 dX3_fail_17 wd_859 ho0 ?_
    have hr := Option.some.inj hf
    subst hr
    exact r_vret dX3_fail_20 rfl (Nat.le_of_ble_eq_true rfl) (Nat.le_of_ble_eq_true rfl) ⟨rfl, rfl, rfl⟩
def F_X3_readWord (n : Nat) (T1 o0 w1 : Nat) (I : gI) : Option (gI) := bd (F_X3_takeWord n T1 o0 w1 I) (fun v2 => (if v2.1 = 0 then bd (F_X3_fail n T1 o0 v2.2 (1 : Int32)) (fun v10 => some v10) else some v2.2))
set_option maxHeartbeats 4000000 in
set_option maxRecDepth 100000 in
theorem ct_X3_readWord {G : gG} {lay : Nat → Nat × Nat} {T0 T1 : Nat} {Dd : Nat → Nat → UInt64} {I : gI} {J : gJ} {K : gI} {N : gJ} {sz n : Nat} {o0 w1 : Nat} (hs : G.1.stackTraces = false) (hE : gLay lay) (hT1 : gTank lay T1) (ho0 : lay o0 = (3, 0)) (hw1 : w1 < 35) {r : gI} (hf : F_X3_readWord n T1 o0 w1 I = some r) : gCt G mX3_readWord [.ref (G.2.2.1 + o0), .ref (G.2.2.2.1 w1)] (fO G (lay, T0, T1, Dd) I J K N) sz (gR none (fO G (lay, T0, T1, Dd) r J K N) sz) := by
  unfold F_X3_readWord at hf
  refine gCt.of [some (.ref (G.2.2.1 + o0)), some (.ref (G.2.2.2.1 w1))] (by decide +kernel) rfl hs rfl (Nat.le_of_ble_eq_true rfl) ?_
  refine r_aload_n dX3_readWord_0 rfl ?_
  refine r_aload_n dX3_readWord_1 rfl ?_
  obtain ⟨v2, hc2, hf⟩ := bd_of hf
  refine r_cVi (rest := []) (ct_X3_takeWord hs hE hT1 ho0 hw1 hc2) dX3_readWord_2 wd_934 zX3_takeWord wd_936 wd_14 rfl  rfl rfl (fo3 ho0) rfl rfl ⟨Nat.le_of_ble_eq_true rfl, Nat.le_of_ble_eq_true rfl⟩ (Nat.le_of_ble_eq_true rfl) ⟨Nat.le_of_ble_eq_true rfl, Nat.le_of_ble_eq_true rfl⟩ ?_
  refine r_if_ne (tgt := 13) dX3_readWord_5 (by decide) (fun c5 => ?_) (fun c5 => ?_)
  · replace hf := if_f hf c5
    have hr := Option.some.inj hf
    subst hr
    exact r_vret dX3_readWord_13 rfl (Nat.le_of_ble_eq_true rfl) (Nat.le_of_ble_eq_true rfl) ⟨rfl, rfl, rfl⟩
  · replace hf := if_t hf c5
    refine r_aload_n dX3_readWord_8 rfl ?_
    refine r_iconst (v := (1 : Int32)) dX3_readWord_9 (by decide) ?_
    obtain ⟨v10, hc10, hf⟩ := bd_of hf
    refine r_cVv (rest := []) (ct_X3_fail hs hE hT1 ho0 hc10) dX3_readWord_10 wd_990 zX3_fail wd_992 wd_16 rfl  rfl rfl (fo3 ho0) rfl rfl ⟨Nat.le_of_ble_eq_true rfl, Nat.le_of_ble_eq_true rfl⟩ (Nat.le_of_ble_eq_true rfl) ⟨Nat.le_of_ble_eq_true rfl, Nat.le_of_ble_eq_true rfl⟩ ?_
    have hr := Option.some.inj hf
    subst hr
    exact r_vret dX3_readWord_13 rfl (Nat.le_of_ble_eq_true rfl) (Nat.le_of_ble_eq_true rfl) ⟨rfl, rfl, rfl⟩
def F_X3_readNumber (n : Nat) (T1 o0 : Nat) (I : gI) (a1 : Int32) (a2 : Int32) : Option (Int32 × gI) := (if (I o0 0) = 0 then (if (I o0 6) = (2 : Int32) then (if (I o0 9) < a1 then bd (F_X3_fail n T1 o0 I (2 : Int32)) (fun v42 => some ((-1 : Int32), v42)) else (if (I o0 9) ≤ a2 then bd (F_X3_nextToken n T1 o0 I) (fun v53 => some ((I o0 9), v53)) else bd (F_X3_fail n T1 o0 I (2 : Int32)) (fun v42 => some ((-1 : Int32), v42)))) else bd (F_X3_fail n T1 o0 I (1 : Int32)) (fun v19 => some ((-1 : Int32), v19))) else some ((-1 : Int32), I))
set_option maxHeartbeats 4000000 in
set_option maxRecDepth 100000 in
theorem ct_X3_readNumber {G : gG} {lay : Nat → Nat × Nat} {T0 T1 : Nat} {Dd : Nat → Nat → UInt64} {I : gI} {J : gJ} {K : gI} {N : gJ} {sz n : Nat} {o0 : Nat} {a1 : Int32} {a2 : Int32} (hs : G.1.stackTraces = false) (hE : gLay lay) (hT1 : gTank lay T1) (ho0 : lay o0 = (3, 0)) {r : Int32 × gI} (hf : F_X3_readNumber n T1 o0 I a1 a2 = some r) : gCt G mX3_readNumber [.ref (G.2.2.1 + o0), .int a1, .int a2] (fO G (lay, T0, T1, Dd) I J K N) sz (gR (some (.int r.1)) (fO G (lay, T0, T1, Dd) r.2 J K N) sz) := by
  unfold F_X3_readNumber at hf
  refine gCt.of [some (.ref (G.2.2.1 + o0)), some (.int a1), some (.int a2), none] (by decide +kernel) rfl hs rfl (Nat.le_of_ble_eq_true rfl) ?_
  refine r_aload_n dX3_readNumber_0 rfl ?_
  refine g3_0 dX3_readNumber_1 wd_857 ho0 ?_
  refine r_if_eq (tgt := 9) dX3_readNumber_4 (by decide) (fun c4 => ?_) (fun c4 => ?_)
  · replace hf := if_t hf c4
    refine r_aload_n dX3_readNumber_9 rfl ?_
    refine g3_6 dX3_readNumber_10 wd_865 ho0 ?_
    refine r_iconst (v := (2 : Int32)) dX3_readNumber_13 (by decide) ?_
    refine r_icmp_eq (tgt := 24) dX3_readNumber_14 (by decide) (fun c14 => ?_) (fun c14 => ?_)
    · replace hf := if_t hf c14
      refine r_aload_n dX3_readNumber_24 rfl ?_
      refine g3_9 dX3_readNumber_25 wd_868 ho0 ?_
      refine r_iload_n dX3_readNumber_28 rfl ?_
      refine r_icmp_lt (tgt := 40) dX3_readNumber_29 (by decide) (fun c29 => ?_) (fun c29 => ?_)
      · replace hf := if_t hf c29
        refine r_aload_n dX3_readNumber_40 rfl ?_
        refine r_iconst (v := (2 : Int32)) dX3_readNumber_41 (by decide) ?_
        obtain ⟨v42, hc42, hf⟩ := bd_of hf
        refine r_cVv (rest := []) (ct_X3_fail hs hE hT1 ho0 hc42) dX3_readNumber_42 wd_990 zX3_fail wd_992 wd_16 rfl  rfl rfl (fo3 ho0) rfl rfl ⟨Nat.le_of_ble_eq_true rfl, Nat.le_of_ble_eq_true rfl⟩ (Nat.le_of_ble_eq_true rfl) ⟨Nat.le_of_ble_eq_true rfl, Nat.le_of_ble_eq_true rfl⟩ ?_
        refine r_iconst (v := (-1 : Int32)) dX3_readNumber_45 (by decide) ?_
        have hr := Option.some.inj hf
        subst hr
        exact r_iret dX3_readNumber_46 rfl (Nat.le_of_ble_eq_true rfl) (Nat.le_of_ble_eq_true rfl) ⟨rfl, rfl, rfl⟩
      · replace hf := if_f hf c29
        refine r_aload_n dX3_readNumber_32 rfl ?_
        refine g3_9 dX3_readNumber_33 wd_868 ho0 ?_
        refine r_iload_n dX3_readNumber_36 rfl ?_
        refine r_icmp_le (tgt := 47) dX3_readNumber_37 (by decide) (fun c37 => ?_) (fun c37 => ?_)
        · replace hf := if_t hf c37
          refine r_aload_n dX3_readNumber_47 rfl ?_
          refine g3_9 dX3_readNumber_48 wd_868 ho0 ?_
          refine r_istore_n dX3_readNumber_51 (by decide) rfl ?_
          refine r_aload_n dX3_readNumber_52 rfl ?_
          obtain ⟨v53, hc53, hf⟩ := bd_of hf
          refine r_cVv (rest := []) (ct_X3_nextToken hs hE hT1 ho0 hc53) dX3_readNumber_53 wd_910 zX3_nextToken wd_912 wd_9 rfl  rfl rfl (fo3 ho0) rfl rfl ⟨Nat.le_of_ble_eq_true rfl, Nat.le_of_ble_eq_true rfl⟩ (Nat.le_of_ble_eq_true rfl) ⟨Nat.le_of_ble_eq_true rfl, Nat.le_of_ble_eq_true rfl⟩ ?_
          refine r_iload_n dX3_readNumber_56 rfl ?_
          have hr := Option.some.inj hf
          subst hr
          exact r_iret dX3_readNumber_57 rfl (Nat.le_of_ble_eq_true rfl) (Nat.le_of_ble_eq_true rfl) ⟨rfl, rfl, rfl⟩
        · replace hf := if_f hf c37
          refine r_aload_n dX3_readNumber_40 rfl ?_
          refine r_iconst (v := (2 : Int32)) dX3_readNumber_41 (by decide) ?_
          obtain ⟨v42, hc42, hf⟩ := bd_of hf
          refine r_cVv (rest := []) (ct_X3_fail hs hE hT1 ho0 hc42) dX3_readNumber_42 wd_990 zX3_fail wd_992 wd_16 rfl  rfl rfl (fo3 ho0) rfl rfl ⟨Nat.le_of_ble_eq_true rfl, Nat.le_of_ble_eq_true rfl⟩ (Nat.le_of_ble_eq_true rfl) ⟨Nat.le_of_ble_eq_true rfl, Nat.le_of_ble_eq_true rfl⟩ ?_
          refine r_iconst (v := (-1 : Int32)) dX3_readNumber_45 (by decide) ?_
          have hr := Option.some.inj hf
          subst hr
          exact r_iret dX3_readNumber_46 rfl (Nat.le_of_ble_eq_true rfl) (Nat.le_of_ble_eq_true rfl) ⟨rfl, rfl, rfl⟩
    · replace hf := if_f hf c14
      refine r_aload_n dX3_readNumber_17 rfl ?_
      refine r_iconst (v := (1 : Int32)) dX3_readNumber_18 (by decide) ?_
      obtain ⟨v19, hc19, hf⟩ := bd_of hf
      refine r_cVv (rest := []) (ct_X3_fail hs hE hT1 ho0 hc19) dX3_readNumber_19 wd_990 zX3_fail wd_992 wd_16 rfl  rfl rfl (fo3 ho0) rfl rfl ⟨Nat.le_of_ble_eq_true rfl, Nat.le_of_ble_eq_true rfl⟩ (Nat.le_of_ble_eq_true rfl) ⟨Nat.le_of_ble_eq_true rfl, Nat.le_of_ble_eq_true rfl⟩ ?_
      refine r_iconst (v := (-1 : Int32)) dX3_readNumber_22 (by decide) ?_
      have hr := Option.some.inj hf
      subst hr
      exact r_iret dX3_readNumber_23 rfl (Nat.le_of_ble_eq_true rfl) (Nat.le_of_ble_eq_true rfl) ⟨rfl, rfl, rfl⟩
  · replace hf := if_f hf c4
    refine r_iconst (v := (-1 : Int32)) dX3_readNumber_7 (by decide) ?_
    have hr := Option.some.inj hf
    subst hr
    exact r_iret dX3_readNumber_8 rfl (Nat.le_of_ble_eq_true rfl) (Nat.le_of_ble_eq_true rfl) ⟨rfl, rfl, rfl⟩
def F_X3_readHead (n : Nat) (T1 o0 : Nat) (I : gI) : Option (gI) := bd (F_X3_readWord n T1 o0 10 I) (fun v3 => bd (F_X3_readWord n T1 o0 11 v3) (fun v9 => bd (F_X3_readNumber n T1 o0 v9 (1 : Int32) (16 : Int32)) (fun v16 => bd (F_X3_readWord n T1 o0 12 v16.2) (fun v23 => bd (F_X3_readNumber n T1 o0 v23 (1 : Int32) (10 : Int32)) (fun v30 => bd (F_X3_readWord n T1 o0 13 v30.2) (fun v37 => bd (F_X3_readNumber n T1 o0 v37 (0 : Int32) (9999 : Int32)) (fun v45 => (if (v45.2 o0 0) = 0 then bd (F_X3_takeWord n T1 o0 14 (sI (sI (sI v45.2 T1 1 v16.1) T1 2 v30.1) T1 3 v45.1)) (fun v83 => (if v83.1 = 0 then some v83.2 else bd (F_X3_readNumber n T1 o0 v83.2 (0 : Int32) (v16.1 - (1 : Int32))) (fun v98 => some (sI v98.2 T1 4 v98.1)))) else some v45.2))))))))
set_option maxHeartbeats 4000000 in
set_option maxRecDepth 100000 in
theorem ct_X3_readHead {G : gG} {lay : Nat → Nat × Nat} {T0 T1 : Nat} {Dd : Nat → Nat → UInt64} {I : gI} {J : gJ} {K : gI} {N : gJ} {sz n : Nat} {o0 : Nat} (hs : G.1.stackTraces = false) (hE : gLay lay) (hT1 : gTank lay T1) (ho0 : lay o0 = (3, 0)) {r : gI} (hf : F_X3_readHead n T1 o0 I = some r) : gCt G mX3_readHead [.ref (G.2.2.1 + o0)] (fO G (lay, T0, T1, Dd) I J K N) sz (gR none (fO G (lay, T0, T1, Dd) r J K N) sz) := by
  unfold F_X3_readHead at hf
  refine gCt.of [some (.ref (G.2.2.1 + o0)), none, none, none] (by decide +kernel) rfl hs rfl (Nat.le_of_ble_eq_true rfl) ?_
  refine r_aload_n dX3_readHead_0 rfl ?_
  refine r_ldcS (i := 10) dX3_readHead_1 (List.mem_of_getElem? (i := 10) rfl) ?_
  obtain ⟨v3, hc3, hf⟩ := bd_of hf
  refine r_cVv (rest := []) (ct_X3_readWord hs hE hT1 ho0 (by decide) hc3) dX3_readHead_3 wd_930 zX3_readWord wd_932 wd_13 rfl  rfl rfl (fo3 ho0) rfl rfl ⟨Nat.le_of_ble_eq_true rfl, Nat.le_of_ble_eq_true rfl⟩ (Nat.le_of_ble_eq_true rfl) ⟨Nat.le_of_ble_eq_true rfl, Nat.le_of_ble_eq_true rfl⟩ ?_
  refine r_aload_n dX3_readHead_6 rfl ?_
  refine r_ldcS (i := 11) dX3_readHead_7 (List.mem_of_getElem? (i := 11) rfl) ?_
  obtain ⟨v9, hc9, hf⟩ := bd_of hf
  refine r_cVv (rest := []) (ct_X3_readWord hs hE hT1 ho0 (by decide) hc9) dX3_readHead_9 wd_930 zX3_readWord wd_932 wd_13 rfl  rfl rfl (fo3 ho0) rfl rfl ⟨Nat.le_of_ble_eq_true rfl, Nat.le_of_ble_eq_true rfl⟩ (Nat.le_of_ble_eq_true rfl) ⟨Nat.le_of_ble_eq_true rfl, Nat.le_of_ble_eq_true rfl⟩ ?_
  refine r_aload_n dX3_readHead_12 rfl ?_
  refine r_iconst (v := (1 : Int32)) dX3_readHead_13 (by decide) ?_
  refine r_bipush (v := (16 : Int32)) dX3_readHead_14 (by decide) ?_
  obtain ⟨v16, hc16, hf⟩ := bd_of hf
  refine r_cVi (rest := []) (ct_X3_readNumber hs hE hT1 ho0 hc16) dX3_readHead_16 wd_995 zX3_readNumber wd_997 wd_17 rfl  rfl rfl (fo3 ho0) rfl rfl ⟨Nat.le_of_ble_eq_true rfl, Nat.le_of_ble_eq_true rfl⟩ (Nat.le_of_ble_eq_true rfl) ⟨Nat.le_of_ble_eq_true rfl, Nat.le_of_ble_eq_true rfl⟩ ?_
  refine r_istore_n dX3_readHead_19 (by decide) rfl ?_
  refine r_aload_n dX3_readHead_20 rfl ?_
  refine r_ldcS (i := 12) dX3_readHead_21 (List.mem_of_getElem? (i := 12) rfl) ?_
  obtain ⟨v23, hc23, hf⟩ := bd_of hf
  refine r_cVv (rest := []) (ct_X3_readWord hs hE hT1 ho0 (by decide) hc23) dX3_readHead_23 wd_930 zX3_readWord wd_932 wd_13 rfl  rfl rfl (fo3 ho0) rfl rfl ⟨Nat.le_of_ble_eq_true rfl, Nat.le_of_ble_eq_true rfl⟩ (Nat.le_of_ble_eq_true rfl) ⟨Nat.le_of_ble_eq_true rfl, Nat.le_of_ble_eq_true rfl⟩ ?_
  refine r_aload_n dX3_readHead_26 rfl ?_
  refine r_iconst (v := (1 : Int32)) dX3_readHead_27 (by decide) ?_
  refine r_bipush (v := (10 : Int32)) dX3_readHead_28 (by decide) ?_
  obtain ⟨v30, hc30, hf⟩ := bd_of hf
  refine r_cVi (rest := []) (ct_X3_readNumber hs hE hT1 ho0 hc30) dX3_readHead_30 wd_995 zX3_readNumber wd_997 wd_17 rfl  rfl rfl (fo3 ho0) rfl rfl ⟨Nat.le_of_ble_eq_true rfl, Nat.le_of_ble_eq_true rfl⟩ (Nat.le_of_ble_eq_true rfl) ⟨Nat.le_of_ble_eq_true rfl, Nat.le_of_ble_eq_true rfl⟩ ?_
  refine r_istore_n dX3_readHead_33 (by decide) rfl ?_
  refine r_aload_n dX3_readHead_34 rfl ?_
  refine r_ldcS (i := 13) dX3_readHead_35 (List.mem_of_getElem? (i := 13) rfl) ?_
  obtain ⟨v37, hc37, hf⟩ := bd_of hf
  refine r_cVv (rest := []) (ct_X3_readWord hs hE hT1 ho0 (by decide) hc37) dX3_readHead_37 wd_930 zX3_readWord wd_932 wd_13 rfl  rfl rfl (fo3 ho0) rfl rfl ⟨Nat.le_of_ble_eq_true rfl, Nat.le_of_ble_eq_true rfl⟩ (Nat.le_of_ble_eq_true rfl) ⟨Nat.le_of_ble_eq_true rfl, Nat.le_of_ble_eq_true rfl⟩ ?_
  refine r_aload_n dX3_readHead_40 rfl ?_
  refine r_iconst (v := (0 : Int32)) dX3_readHead_41 (by decide) ?_
  refine r_sipush (v := (9999 : Int32)) dX3_readHead_42 (by decide) ?_
  obtain ⟨v45, hc45, hf⟩ := bd_of hf
  refine r_cVi (rest := []) (ct_X3_readNumber hs hE hT1 ho0 hc45) dX3_readHead_45 wd_995 zX3_readNumber wd_997 wd_17 rfl  rfl rfl (fo3 ho0) rfl rfl ⟨Nat.le_of_ble_eq_true rfl, Nat.le_of_ble_eq_true rfl⟩ (Nat.le_of_ble_eq_true rfl) ⟨Nat.le_of_ble_eq_true rfl, Nat.le_of_ble_eq_true rfl⟩ ?_
  refine r_istore_n dX3_readHead_48 (by decide) rfl ?_
  refine r_aload_n dX3_readHead_49 rfl ?_
  refine g3_0 dX3_readHead_50 wd_857 ho0 ?_
  refine r_if_ne (tgt := 104) dX3_readHead_53 (by decide) (fun c53 => ?_) (fun c53 => ?_)
  · replace hf := if_f hf c53
    have hr := Option.some.inj hf
    subst hr
    exact r_vret dX3_readHead_104 rfl (Nat.le_of_ble_eq_true rfl) (Nat.le_of_ble_eq_true rfl) ⟨rfl, rfl, rfl⟩
  · replace hf := if_t hf c53
    refine r_aload_n dX3_readHead_56 rfl ?_
    refine g3_4 dX3_readHead_57 wd_863 ho0 ?_
    refine r_iload_n dX3_readHead_60 rfl ?_
    refine p7_1 dX3_readHead_61 wd_298 hT1.1 ?_
    refine r_aload_n dX3_readHead_64 rfl ?_
    refine g3_4 dX3_readHead_65 wd_863 ho0 ?_
    refine r_iload_n dX3_readHead_68 rfl ?_
    refine p7_2 dX3_readHead_69 wd_301 hT1.1 ?_
    refine r_aload_n dX3_readHead_72 rfl ?_
    refine g3_4 dX3_readHead_73 wd_863 ho0 ?_
    refine r_iload_n dX3_readHead_76 rfl ?_
    refine p7_3 dX3_readHead_77 wd_303 hT1.1 ?_
    refine r_aload_n dX3_readHead_80 rfl ?_
    refine r_ldcS (i := 14) dX3_readHead_81 (List.mem_of_getElem? (i := 14) rfl) ?_
    obtain ⟨v83, hc83, hf⟩ := bd_of hf
    refine r_cVi (rest := []) (ct_X3_takeWord hs hE hT1 ho0 (by decide) hc83) dX3_readHead_83 wd_934 zX3_takeWord wd_936 wd_14 rfl  rfl rfl (fo3 ho0) rfl rfl ⟨Nat.le_of_ble_eq_true rfl, Nat.le_of_ble_eq_true rfl⟩ (Nat.le_of_ble_eq_true rfl) ⟨Nat.le_of_ble_eq_true rfl, Nat.le_of_ble_eq_true rfl⟩ ?_
    refine r_if_eq (tgt := 104) dX3_readHead_86 (by decide) (fun c86 => ?_) (fun c86 => ?_)
    · replace hf := if_t hf c86
      have hr := Option.some.inj hf
      subst hr
      exact r_vret dX3_readHead_104 rfl (Nat.le_of_ble_eq_true rfl) (Nat.le_of_ble_eq_true rfl) ⟨rfl, rfl, rfl⟩
    · replace hf := if_f hf c86
      refine r_aload_n dX3_readHead_89 rfl ?_
      refine g3_4 dX3_readHead_90 wd_863 ho0 ?_
      refine r_aload_n dX3_readHead_93 rfl ?_
      refine r_iconst (v := (0 : Int32)) dX3_readHead_94 (by decide) ?_
      refine r_iload_n dX3_readHead_95 rfl ?_
      refine r_iconst (v := (1 : Int32)) dX3_readHead_96 (by decide) ?_
      refine r_isub dX3_readHead_97 ?_
      obtain ⟨v98, hc98, hf⟩ := bd_of hf
      refine r_cVi (rest := [.ref (G.2.2.1 + T1)]) (ct_X3_readNumber hs hE hT1 ho0 hc98) dX3_readHead_98 wd_995 zX3_readNumber wd_997 wd_17 rfl  rfl rfl (fo3 ho0) rfl rfl ⟨Nat.le_of_ble_eq_true rfl, Nat.le_of_ble_eq_true rfl⟩ (Nat.le_of_ble_eq_true rfl) ⟨Nat.le_of_ble_eq_true rfl, Nat.le_of_ble_eq_true rfl⟩ ?_
      refine p7_4 dX3_readHead_101 wd_306 hT1.1 ?_
      have hr := Option.some.inj hf
      subst hr
      exact r_vret dX3_readHead_104 rfl (Nat.le_of_ble_eq_true rfl) (Nat.le_of_ble_eq_true rfl) ⟨rfl, rfl, rfl⟩
def F_X3_takeSemicolon (n : Nat) (T1 o0 : Nat) (I : gI) : Option (Int32 × gI) := (if (I o0 0) = 0 then (if (I o0 6) = (4 : Int32) then bd (F_X3_nextToken n T1 o0 I) (fun v18 => some ((1 : Int32), v18)) else some ((0 : Int32), I)) else some ((0 : Int32), I))
set_option maxHeartbeats 4000000 in
set_option maxRecDepth 100000 in
theorem ct_X3_takeSemicolon {G : gG} {lay : Nat → Nat × Nat} {T0 T1 : Nat} {Dd : Nat → Nat → UInt64} {I : gI} {J : gJ} {K : gI} {N : gJ} {sz n : Nat} {o0 : Nat} (hs : G.1.stackTraces = false) (hE : gLay lay) (hT1 : gTank lay T1) (ho0 : lay o0 = (3, 0)) {r : Int32 × gI} (hf : F_X3_takeSemicolon n T1 o0 I = some r) : gCt G mX3_takeSemicolon [.ref (G.2.2.1 + o0)] (fO G (lay, T0, T1, Dd) I J K N) sz (gR (some (.int r.1)) (fO G (lay, T0, T1, Dd) r.2 J K N) sz) := by
  unfold F_X3_takeSemicolon at hf
  refine gCt.of [some (.ref (G.2.2.1 + o0))] (by decide +kernel) rfl hs rfl (Nat.le_of_ble_eq_true rfl) ?_
  refine r_aload_n dX3_takeSemicolon_0 rfl ?_
  refine g3_0 dX3_takeSemicolon_1 wd_857 ho0 ?_
  refine r_if_ne (tgt := 15) dX3_takeSemicolon_4 (by decide) (fun c4 => ?_) (fun c4 => ?_)
  · replace hf := if_f hf c4
    refine r_iconst (v := (0 : Int32)) dX3_takeSemicolon_15 (by decide) ?_
    have hr := Option.some.inj hf
    subst hr
    exact r_zret dX3_takeSemicolon_16 rfl rfl (Nat.le_of_ble_eq_true rfl) (Nat.le_of_ble_eq_true rfl) ⟨rfl, rfl, rfl⟩
  · replace hf := if_t hf c4
    refine r_aload_n dX3_takeSemicolon_7 rfl ?_
    refine g3_6 dX3_takeSemicolon_8 wd_865 ho0 ?_
    refine r_iconst (v := (4 : Int32)) dX3_takeSemicolon_11 (by decide) ?_
    refine r_icmp_eq (tgt := 17) dX3_takeSemicolon_12 (by decide) (fun c12 => ?_) (fun c12 => ?_)
    · replace hf := if_t hf c12
      refine r_aload_n dX3_takeSemicolon_17 rfl ?_
      obtain ⟨v18, hc18, hf⟩ := bd_of hf
      refine r_cVv (rest := []) (ct_X3_nextToken hs hE hT1 ho0 hc18) dX3_takeSemicolon_18 wd_910 zX3_nextToken wd_912 wd_9 rfl  rfl rfl (fo3 ho0) rfl rfl ⟨Nat.le_of_ble_eq_true rfl, Nat.le_of_ble_eq_true rfl⟩ (Nat.le_of_ble_eq_true rfl) ⟨Nat.le_of_ble_eq_true rfl, Nat.le_of_ble_eq_true rfl⟩ ?_
      refine r_iconst (v := (1 : Int32)) dX3_takeSemicolon_21 (by decide) ?_
      have hr := Option.some.inj hf
      subst hr
      exact r_zret dX3_takeSemicolon_22 rfl rfl (Nat.le_of_ble_eq_true rfl) (Nat.le_of_ble_eq_true rfl) ⟨rfl, rfl, rfl⟩
    · replace hf := if_f hf c12
      refine r_iconst (v := (0 : Int32)) dX3_takeSemicolon_15 (by decide) ?_
      have hr := Option.some.inj hf
      subst hr
      exact r_zret dX3_takeSemicolon_16 rfl rfl (Nat.le_of_ble_eq_true rfl) (Nat.le_of_ble_eq_true rfl) ⟨rfl, rfl, rfl⟩
def F_X3_startCounted (n : Nat) (T1 o0 : Nat) (I : gI) (a1 : Int32) (a2 : Int32) : Option (Int32 × gI) := (if a1 < a2 then bd (F_X3_nextToken n T1 o0 I) (fun v13 => some ((1 : Int32), v13)) else bd (F_X3_fail n T1 o0 I (4 : Int32)) (fun v7 => some ((0 : Int32), v7)))
set_option maxHeartbeats 4000000 in
set_option maxRecDepth 100000 in
theorem ct_X3_startCounted {G : gG} {lay : Nat → Nat × Nat} {T0 T1 : Nat} {Dd : Nat → Nat → UInt64} {I : gI} {J : gJ} {K : gI} {N : gJ} {sz n : Nat} {o0 : Nat} {a1 : Int32} {a2 : Int32} (hs : G.1.stackTraces = false) (hE : gLay lay) (hT1 : gTank lay T1) (ho0 : lay o0 = (3, 0)) {r : Int32 × gI} (hf : F_X3_startCounted n T1 o0 I a1 a2 = some r) : gCt G mX3_startCounted [.ref (G.2.2.1 + o0), .int a1, .int a2] (fO G (lay, T0, T1, Dd) I J K N) sz (gR (some (.int r.1)) (fO G (lay, T0, T1, Dd) r.2 J K N) sz) := by
  unfold F_X3_startCounted at hf
  refine gCt.of [some (.ref (G.2.2.1 + o0)), some (.int a1), some (.int a2)] (by decide +kernel) rfl hs rfl (Nat.le_of_ble_eq_true rfl) ?_
  refine r_iload_n dX3_startCounted_0 rfl ?_
  refine r_iload_n dX3_startCounted_1 rfl ?_
  refine r_icmp_lt (tgt := 12) dX3_startCounted_2 (by decide) (fun c2 => ?_) (fun c2 => ?_)
  · replace hf := if_t hf c2
    refine r_aload_n dX3_startCounted_12 rfl ?_
    obtain ⟨v13, hc13, hf⟩ := bd_of hf
    refine r_cVv (rest := []) (ct_X3_nextToken hs hE hT1 ho0 hc13) dX3_startCounted_13 wd_910 zX3_nextToken wd_912 wd_9 rfl  rfl rfl (fo3 ho0) rfl rfl ⟨Nat.le_of_ble_eq_true rfl, Nat.le_of_ble_eq_true rfl⟩ (Nat.le_of_ble_eq_true rfl) ⟨Nat.le_of_ble_eq_true rfl, Nat.le_of_ble_eq_true rfl⟩ ?_
    refine r_iconst (v := (1 : Int32)) dX3_startCounted_16 (by decide) ?_
    have hr := Option.some.inj hf
    subst hr
    exact r_zret dX3_startCounted_17 rfl rfl (Nat.le_of_ble_eq_true rfl) (Nat.le_of_ble_eq_true rfl) ⟨rfl, rfl, rfl⟩
  · replace hf := if_f hf c2
    refine r_aload_n dX3_startCounted_5 rfl ?_
    refine r_iconst (v := (4 : Int32)) dX3_startCounted_6 (by decide) ?_
    obtain ⟨v7, hc7, hf⟩ := bd_of hf
    refine r_cVv (rest := []) (ct_X3_fail hs hE hT1 ho0 hc7) dX3_startCounted_7 wd_990 zX3_fail wd_992 wd_16 rfl  rfl rfl (fo3 ho0) rfl rfl ⟨Nat.le_of_ble_eq_true rfl, Nat.le_of_ble_eq_true rfl⟩ (Nat.le_of_ble_eq_true rfl) ⟨Nat.le_of_ble_eq_true rfl, Nat.le_of_ble_eq_true rfl⟩ ?_
    refine r_iconst (v := (0 : Int32)) dX3_startCounted_10 (by decide) ?_
    have hr := Option.some.inj hf
    subst hr
    exact r_zret dX3_startCounted_11 rfl rfl (Nat.le_of_ble_eq_true rfl) (Nat.le_of_ble_eq_true rfl) ⟨rfl, rfl, rfl⟩
def F_X3_readColumn (n : Nat) (T1 o0 : Nat) (I : gI) (a1 : Int32) : Option (Int32 × gI) := bd (F_X3_readNumber n T1 o0 I a1 ((I T1 1) - (1 : Int32))) (fun v11 => some (v11.1, v11.2))
set_option maxHeartbeats 4000000 in
set_option maxRecDepth 100000 in
theorem ct_X3_readColumn {G : gG} {lay : Nat → Nat × Nat} {T0 T1 : Nat} {Dd : Nat → Nat → UInt64} {I : gI} {J : gJ} {K : gI} {N : gJ} {sz n : Nat} {o0 : Nat} {a1 : Int32} (hs : G.1.stackTraces = false) (hE : gLay lay) (hT1 : gTank lay T1) (ho0 : lay o0 = (3, 0)) {r : Int32 × gI} (hf : F_X3_readColumn n T1 o0 I a1 = some r) : gCt G mX3_readColumn [.ref (G.2.2.1 + o0), .int a1] (fO G (lay, T0, T1, Dd) I J K N) sz (gR (some (.int r.1)) (fO G (lay, T0, T1, Dd) r.2 J K N) sz) := by
  unfold F_X3_readColumn at hf
  refine gCt.of [some (.ref (G.2.2.1 + o0)), some (.int a1)] (by decide +kernel) rfl hs rfl (Nat.le_of_ble_eq_true rfl) ?_
  refine r_aload_n dX3_readColumn_0 rfl ?_
  refine r_iload_n dX3_readColumn_1 rfl ?_
  refine r_aload_n dX3_readColumn_2 rfl ?_
  refine g3_4 dX3_readColumn_3 wd_863 ho0 ?_
  refine g7_1 dX3_readColumn_6 wd_298 hT1.1 ?_
  refine r_iconst (v := (1 : Int32)) dX3_readColumn_9 (by decide) ?_
  refine r_isub dX3_readColumn_10 ?_
  obtain ⟨v11, hc11, hf⟩ := bd_of hf
  refine r_cVi (rest := []) (ct_X3_readNumber hs hE hT1 ho0 hc11) dX3_readColumn_11 wd_995 zX3_readNumber wd_997 wd_17 rfl  rfl rfl (fo3 ho0) rfl rfl ⟨Nat.le_of_ble_eq_true rfl, Nat.le_of_ble_eq_true rfl⟩ (Nat.le_of_ble_eq_true rfl) ⟨Nat.le_of_ble_eq_true rfl, Nat.le_of_ble_eq_true rfl⟩ ?_
  have hr := Option.some.inj hf
  subst hr
  exact r_iret dX3_readColumn_14 rfl (Nat.le_of_ble_eq_true rfl) (Nat.le_of_ble_eq_true rfl) ⟨rfl, rfl, rfl⟩
def F_X3_readRow (n : Nat) (T1 o0 : Nat) (I : gI) (a1 : Int32) : Option (Int32 × gI) := bd (F_X3_readNumber n T1 o0 I a1 ((I T1 2) - (1 : Int32))) (fun v11 => some (v11.1, v11.2))
set_option maxHeartbeats 4000000 in
set_option maxRecDepth 100000 in
theorem ct_X3_readRow {G : gG} {lay : Nat → Nat × Nat} {T0 T1 : Nat} {Dd : Nat → Nat → UInt64} {I : gI} {J : gJ} {K : gI} {N : gJ} {sz n : Nat} {o0 : Nat} {a1 : Int32} (hs : G.1.stackTraces = false) (hE : gLay lay) (hT1 : gTank lay T1) (ho0 : lay o0 = (3, 0)) {r : Int32 × gI} (hf : F_X3_readRow n T1 o0 I a1 = some r) : gCt G mX3_readRow [.ref (G.2.2.1 + o0), .int a1] (fO G (lay, T0, T1, Dd) I J K N) sz (gR (some (.int r.1)) (fO G (lay, T0, T1, Dd) r.2 J K N) sz) := by
  unfold F_X3_readRow at hf
  refine gCt.of [some (.ref (G.2.2.1 + o0)), some (.int a1)] (by decide +kernel) rfl hs rfl (Nat.le_of_ble_eq_true rfl) ?_
  refine r_aload_n dX3_readRow_0 rfl ?_
  refine r_iload_n dX3_readRow_1 rfl ?_
  refine r_aload_n dX3_readRow_2 rfl ?_
  refine g3_4 dX3_readRow_3 wd_863 ho0 ?_
  refine g7_2 dX3_readRow_6 wd_301 hT1.1 ?_
  refine r_iconst (v := (1 : Int32)) dX3_readRow_9 (by decide) ?_
  refine r_isub dX3_readRow_10 ?_
  obtain ⟨v11, hc11, hf⟩ := bd_of hf
  refine r_cVi (rest := []) (ct_X3_readNumber hs hE hT1 ho0 hc11) dX3_readRow_11 wd_995 zX3_readNumber wd_997 wd_17 rfl  rfl rfl (fo3 ho0) rfl rfl ⟨Nat.le_of_ble_eq_true rfl, Nat.le_of_ble_eq_true rfl⟩ (Nat.le_of_ble_eq_true rfl) ⟨Nat.le_of_ble_eq_true rfl, Nat.le_of_ble_eq_true rfl⟩ ?_
  have hr := Option.some.inj hf
  subst hr
  exact r_iret dX3_readRow_14 rfl (Nat.le_of_ble_eq_true rfl) (Nat.le_of_ble_eq_true rfl) ⟨rfl, rfl, rfl⟩
def F_X3_readTrain (n : Nat) (T1 o0 : Nat) (I : gI) : Option (gI) := bd (F_X3_startCounted n T1 o0 I (I T1 5) (4 : Int32)) (fun v9 => (if v9.1 = 0 then some v9.2 else gv (v9.2 T1 5) 4 (bd (F_X3_readColumn n T1 o0 v9.2 (0 : Int32)) (fun v44 => gv (v9.2 T1 5) 4 (bd (F_X3_readRow n T1 o0 (sI v44.2 (10 + 4) (Int32.toNatClampNeg (v9.2 T1 5)) v44.1) (0 : Int32)) (fun v58 => gv (v9.2 T1 5) 4 (bd (F_X3_readNumber n T1 o0 (sI v58.2 (10 + 5) (Int32.toNatClampNeg (v9.2 T1 5)) v58.1) (1 : Int32) (999 : Int32)) (fun v75 => gv (v9.2 T1 5) 4 (bd (F_X3_readNumber n T1 o0 (sI v75.2 (10 + 2) (Int32.toNatClampNeg (v9.2 T1 5)) v75.1) (50 : Int32) (9999 : Int32)) (fun v85 => bd (F_X3_readNumber n T1 o0 v85.2 (2 : Int32) (99 : Int32)) (fun v93 => bd (F_X3_readNumber n T1 o0 v93.2 (0 : Int32) (359 : Int32)) (fun v111 => gv (v9.2 T1 5) 4 (bd (F_X3_readNumber n T1 o0 (sI v111.2 (10 + 3) (Int32.toNatClampNeg (v9.2 T1 5)) v111.1) (0 : Int32) (9999 : Int32)) (fun v121 => bd (F_X3_readNumber n T1 o0 (sI v121.2 ((T1 + 1) + 5 + 3 * (Int32.toNatClampNeg (v9.2 T1 5))) 2 v121.1) ((sI v121.2 ((T1 + 1) + 5 + 3 * (Int32.toNatClampNeg (v9.2 T1 5))) 2 v121.1) ((T1 + 1) + 5 + 3 * (Int32.toNatClampNeg (v9.2 T1 5))) 2) (9999 : Int32)) (fun v136 => bd (F_X3_takeWord n T1 o0 16 (sI (sI (sI (sI v136.2 ((T1 + 1) + 5 + 3 * (Int32.toNatClampNeg (v9.2 T1 5))) 3 v136.1) ((T1 + 1) + 5 + 3 * (Int32.toNatClampNeg (v9.2 T1 5))) 4 (0 : Int32)) ((T1 + 1) + 5 + 3 * (Int32.toNatClampNeg (v9.2 T1 5))) 5 (0 : Int32)) ((T1 + 1) + 5 + 3 * (Int32.toNatClampNeg (v9.2 T1 5))) 6 (0 : Int32))) (fun v160 => (if v160.1 = 0 then bd (F_X3_takeWord n T1 o0 17 v160.2) (fun v194 => (if v194.1 = 0 then (if (v194.2 o0 0) = 0 then gv (v9.2 T1 5) 4 (gv (v9.2 T1 5) 4 (gv (v9.2 T1 5) 4 (some (sI (sI (sI (sI (sI (sI (sI (sI v194.2 ((T1 + 1) + 5 + 3 * (Int32.toNatClampNeg (v9.2 T1 5))) 0 v85.1) ((T1 + 1) + 5 + 3 * (Int32.toNatClampNeg (v9.2 T1 5))) 1 v93.1) ((T1 + 1) + 5 + 3 * (Int32.toNatClampNeg (v9.2 T1 5))) 7 (0 : Int32)) ((T1 + 1) + 5 + 3 * (Int32.toNatClampNeg (v9.2 T1 5))) 8 (0 : Int32)) (10 + 6) (Int32.toNatClampNeg (v9.2 T1 5)) (0 : Int32)) (10 + 7) (Int32.toNatClampNeg (v9.2 T1 5)) (0 : Int32)) (10 + 1) (Int32.toNatClampNeg (v9.2 T1 5)) (1 : Int32)) T1 5 (((sI (sI (sI (sI (sI (sI (sI v194.2 ((T1 + 1) + 5 + 3 * (Int32.toNatClampNeg (v9.2 T1 5))) 0 v85.1) ((T1 + 1) + 5 + 3 * (Int32.toNatClampNeg (v9.2 T1 5))) 1 v93.1) ((T1 + 1) + 5 + 3 * (Int32.toNatClampNeg (v9.2 T1 5))) 7 (0 : Int32)) ((T1 + 1) + 5 + 3 * (Int32.toNatClampNeg (v9.2 T1 5))) 8 (0 : Int32)) (10 + 6) (Int32.toNatClampNeg (v9.2 T1 5)) (0 : Int32)) (10 + 7) (Int32.toNatClampNeg (v9.2 T1 5)) (0 : Int32)) (10 + 1) (Int32.toNatClampNeg (v9.2 T1 5)) (1 : Int32)) T1 5) + (1 : Int32)))))) else some v194.2) else bd (F_X3_readNumber n T1 o0 v194.2 (1 : Int32) (99 : Int32)) (fun v205 => (if ((sI v205.2 ((T1 + 1) + 5 + 3 * (Int32.toNatClampNeg (v9.2 T1 5))) 6 v205.1) o0 0) = 0 then gv (v9.2 T1 5) 4 (gv (v9.2 T1 5) 4 (gv (v9.2 T1 5) 4 (some (sI (sI (sI (sI (sI (sI (sI (sI (sI v205.2 ((T1 + 1) + 5 + 3 * (Int32.toNatClampNeg (v9.2 T1 5))) 6 v205.1) ((T1 + 1) + 5 + 3 * (Int32.toNatClampNeg (v9.2 T1 5))) 0 v85.1) ((T1 + 1) + 5 + 3 * (Int32.toNatClampNeg (v9.2 T1 5))) 1 v93.1) ((T1 + 1) + 5 + 3 * (Int32.toNatClampNeg (v9.2 T1 5))) 7 (0 : Int32)) ((T1 + 1) + 5 + 3 * (Int32.toNatClampNeg (v9.2 T1 5))) 8 (0 : Int32)) (10 + 6) (Int32.toNatClampNeg (v9.2 T1 5)) (0 : Int32)) (10 + 7) (Int32.toNatClampNeg (v9.2 T1 5)) (0 : Int32)) (10 + 1) (Int32.toNatClampNeg (v9.2 T1 5)) (1 : Int32)) T1 5 (((sI (sI (sI (sI (sI (sI (sI (sI v205.2 ((T1 + 1) + 5 + 3 * (Int32.toNatClampNeg (v9.2 T1 5))) 6 v205.1) ((T1 + 1) + 5 + 3 * (Int32.toNatClampNeg (v9.2 T1 5))) 0 v85.1) ((T1 + 1) + 5 + 3 * (Int32.toNatClampNeg (v9.2 T1 5))) 1 v93.1) ((T1 + 1) + 5 + 3 * (Int32.toNatClampNeg (v9.2 T1 5))) 7 (0 : Int32)) ((T1 + 1) + 5 + 3 * (Int32.toNatClampNeg (v9.2 T1 5))) 8 (0 : Int32)) (10 + 6) (Int32.toNatClampNeg (v9.2 T1 5)) (0 : Int32)) (10 + 7) (Int32.toNatClampNeg (v9.2 T1 5)) (0 : Int32)) (10 + 1) (Int32.toNatClampNeg (v9.2 T1 5)) (1 : Int32)) T1 5) + (1 : Int32)))))) else some (sI v205.2 ((T1 + 1) + 5 + 3 * (Int32.toNatClampNeg (v9.2 T1 5))) 6 v205.1))))) else bd (F_X3_readNumber n T1 o0 v160.2 (1 : Int32) (99 : Int32)) (fun v171 => bd (F_X3_readNumber n T1 o0 (sI v171.2 ((T1 + 1) + 5 + 3 * (Int32.toNatClampNeg (v9.2 T1 5))) 4 v171.1) (1 : Int32) (99 : Int32)) (fun v182 => (if ((sI v182.2 ((T1 + 1) + 5 + 3 * (Int32.toNatClampNeg (v9.2 T1 5))) 5 v182.1) o0 0) = 0 then gv (v9.2 T1 5) 4 (gv (v9.2 T1 5) 4 (gv (v9.2 T1 5) 4 (some (sI (sI (sI (sI (sI (sI (sI (sI (sI v182.2 ((T1 + 1) + 5 + 3 * (Int32.toNatClampNeg (v9.2 T1 5))) 5 v182.1) ((T1 + 1) + 5 + 3 * (Int32.toNatClampNeg (v9.2 T1 5))) 0 v85.1) ((T1 + 1) + 5 + 3 * (Int32.toNatClampNeg (v9.2 T1 5))) 1 v93.1) ((T1 + 1) + 5 + 3 * (Int32.toNatClampNeg (v9.2 T1 5))) 7 (0 : Int32)) ((T1 + 1) + 5 + 3 * (Int32.toNatClampNeg (v9.2 T1 5))) 8 (0 : Int32)) (10 + 6) (Int32.toNatClampNeg (v9.2 T1 5)) (0 : Int32)) (10 + 7) (Int32.toNatClampNeg (v9.2 T1 5)) (0 : Int32)) (10 + 1) (Int32.toNatClampNeg (v9.2 T1 5)) (1 : Int32)) T1 5 (((sI (sI (sI (sI (sI (sI (sI (sI v182.2 ((T1 + 1) + 5 + 3 * (Int32.toNatClampNeg (v9.2 T1 5))) 5 v182.1) ((T1 + 1) + 5 + 3 * (Int32.toNatClampNeg (v9.2 T1 5))) 0 v85.1) ((T1 + 1) + 5 + 3 * (Int32.toNatClampNeg (v9.2 T1 5))) 1 v93.1) ((T1 + 1) + 5 + 3 * (Int32.toNatClampNeg (v9.2 T1 5))) 7 (0 : Int32)) ((T1 + 1) + 5 + 3 * (Int32.toNatClampNeg (v9.2 T1 5))) 8 (0 : Int32)) (10 + 6) (Int32.toNatClampNeg (v9.2 T1 5)) (0 : Int32)) (10 + 7) (Int32.toNatClampNeg (v9.2 T1 5)) (0 : Int32)) (10 + 1) (Int32.toNatClampNeg (v9.2 T1 5)) (1 : Int32)) T1 5) + (1 : Int32)))))) else some (sI v182.2 ((T1 + 1) + 5 + 3 * (Int32.toNatClampNeg (v9.2 T1 5))) 5 v182.1)))))))))))))))))))))
set_option maxHeartbeats 4000000 in
set_option maxRecDepth 100000 in
theorem ct_X3_readTrain {G : gG} {lay : Nat → Nat × Nat} {T0 T1 : Nat} {Dd : Nat → Nat → UInt64} {I : gI} {J : gJ} {K : gI} {N : gJ} {sz n : Nat} {o0 : Nat} (hs : G.1.stackTraces = false) (hE : gLay lay) (hT1 : gTank lay T1) (ho0 : lay o0 = (3, 0)) {r : gI} (hf : F_X3_readTrain n T1 o0 I = some r) : gCt G mX3_readTrain [.ref (G.2.2.1 + o0)] (fO G (lay, T0, T1, Dd) I J K N) sz (gR none (fO G (lay, T0, T1, Dd) r J K N) sz) := by
  unfold F_X3_readTrain at hf
  refine gCt.of [some (.ref (G.2.2.1 + o0)), none, none, none, none] (by decide +kernel) rfl hs rfl (Nat.le_of_ble_eq_true rfl) ?_
  refine r_aload_n dX3_readTrain_0 rfl ?_
  refine r_aload_n dX3_readTrain_1 rfl ?_
  refine g3_4 dX3_readTrain_2 wd_863 ho0 ?_
  refine g7_5 dX3_readTrain_5 wd_309 hT1.1 ?_
  refine r_iconst (v := (4 : Int32)) dX3_readTrain_8 (by decide) ?_
  obtain ⟨v9, hc9, hf⟩ := bd_of hf
  refine r_cVi (rest := []) (ct_X3_startCounted hs hE hT1 ho0 hc9) dX3_readTrain_9 wd_1015 zX3_startCounted wd_1017 wd_21 rfl  rfl rfl (fo3 ho0) rfl rfl ⟨Nat.le_of_ble_eq_true rfl, Nat.le_of_ble_eq_true rfl⟩ (Nat.le_of_ble_eq_true rfl) ⟨Nat.le_of_ble_eq_true rfl, Nat.le_of_ble_eq_true rfl⟩ ?_
  refine r_if_ne (tgt := 16) dX3_readTrain_12 (by decide) (fun c12 => ?_) (fun c12 => ?_)
  · replace hf := if_f hf c12
    refine r_aload_n dX3_readTrain_16 rfl ?_
    refine g3_4 dX3_readTrain_17 wd_863 ho0 ?_
    refine g7_5 dX3_readTrain_20 wd_309 hT1.1 ?_
    refine r_istore_n dX3_readTrain_23 (by decide) rfl ?_
    refine r_aload_n dX3_readTrain_24 rfl ?_
    refine g3_4 dX3_readTrain_25 wd_863 ho0 ?_
    refine g7_6 dX3_readTrain_28 wd_312 hT1.1 ?_
    refine r_iload_n dX3_readTrain_31 rfl ?_
    obtain ⟨h32, hf⟩ := gv_of hf
    refine a_aald105 dX3_readTrain_32 hT1.2.1 h32 ?_
    refine r_astore_n dX3_readTrain_33 (by decide) rfl ?_
    refine r_aload_n dX3_readTrain_34 rfl ?_
    refine g3_5 dX3_readTrain_35 wd_864 ho0 ?_
    refine g6_5 dX3_readTrain_38 wd_109 (gSt10 hE).1 ?_
    refine r_iload_n dX3_readTrain_41 rfl ?_
    refine r_aload_n dX3_readTrain_42 rfl ?_
    refine r_iconst (v := (0 : Int32)) dX3_readTrain_43 (by decide) ?_
    obtain ⟨v44, hc44, hf⟩ := bd_of hf
    refine r_cVi (rest := [.int (v9.2 T1 5), .ref (G.2.2.1 + (10 + 4))]) (ct_X3_readColumn hs hE hT1 ho0 hc44) dX3_readTrain_44 wd_1019 zX3_readColumn wd_1021 wd_22 rfl  rfl rfl (fo3 ho0) rfl rfl ⟨Nat.le_of_ble_eq_true rfl, Nat.le_of_ble_eq_true rfl⟩ (Nat.le_of_ble_eq_true rfl) ⟨Nat.le_of_ble_eq_true rfl, Nat.le_of_ble_eq_true rfl⟩ ?_
    obtain ⟨h47, hf⟩ := gv_of hf
    refine a_iast dX3_readTrain_47 (gSt10 hE).2.2.2.2.1 h47 ?_
    refine r_aload_n dX3_readTrain_48 rfl ?_
    refine g3_5 dX3_readTrain_49 wd_864 ho0 ?_
    refine g6_6 dX3_readTrain_52 wd_112 (gSt10 hE).1 ?_
    refine r_iload_n dX3_readTrain_55 rfl ?_
    refine r_aload_n dX3_readTrain_56 rfl ?_
    refine r_iconst (v := (0 : Int32)) dX3_readTrain_57 (by decide) ?_
    obtain ⟨v58, hc58, hf⟩ := bd_of hf
    refine r_cVi (rest := [.int (v9.2 T1 5), .ref (G.2.2.1 + (10 + 5))]) (ct_X3_readRow hs hE hT1 ho0 hc58) dX3_readTrain_58 wd_1023 zX3_readRow wd_1025 wd_23 rfl  rfl rfl (fo3 ho0) rfl rfl ⟨Nat.le_of_ble_eq_true rfl, Nat.le_of_ble_eq_true rfl⟩ (Nat.le_of_ble_eq_true rfl) ⟨Nat.le_of_ble_eq_true rfl, Nat.le_of_ble_eq_true rfl⟩ ?_
    obtain ⟨h61, hf⟩ := gv_of hf
    refine a_iast dX3_readTrain_61 (gSt10 hE).2.2.2.2.2.1 h61 ?_
    refine r_aload_n dX3_readTrain_62 rfl ?_
    refine g3_5 dX3_readTrain_63 wd_864 ho0 ?_
    refine g6_3 dX3_readTrain_66 wd_100 (gSt10 hE).1 ?_
    refine r_iload_n dX3_readTrain_69 rfl ?_
    refine r_aload_n dX3_readTrain_70 rfl ?_
    refine r_iconst (v := (1 : Int32)) dX3_readTrain_71 (by decide) ?_
    refine r_sipush (v := (999 : Int32)) dX3_readTrain_72 (by decide) ?_
    obtain ⟨v75, hc75, hf⟩ := bd_of hf
    refine r_cVi (rest := [.int (v9.2 T1 5), .ref (G.2.2.1 + (10 + 2))]) (ct_X3_readNumber hs hE hT1 ho0 hc75) dX3_readTrain_75 wd_995 zX3_readNumber wd_997 wd_17 rfl  rfl rfl (fo3 ho0) rfl rfl ⟨Nat.le_of_ble_eq_true rfl, Nat.le_of_ble_eq_true rfl⟩ (Nat.le_of_ble_eq_true rfl) ⟨Nat.le_of_ble_eq_true rfl, Nat.le_of_ble_eq_true rfl⟩ ?_
    obtain ⟨h78, hf⟩ := gv_of hf
    refine a_iast dX3_readTrain_78 (gSt10 hE).2.2.1 h78 ?_
    refine r_aload_n dX3_readTrain_79 rfl ?_
    refine r_bipush (v := (50 : Int32)) dX3_readTrain_80 (by decide) ?_
    refine r_sipush (v := (9999 : Int32)) dX3_readTrain_82 (by decide) ?_
    obtain ⟨v85, hc85, hf⟩ := bd_of hf
    refine r_cVi (rest := []) (ct_X3_readNumber hs hE hT1 ho0 hc85) dX3_readTrain_85 wd_995 zX3_readNumber wd_997 wd_17 rfl  rfl rfl (fo3 ho0) rfl rfl ⟨Nat.le_of_ble_eq_true rfl, Nat.le_of_ble_eq_true rfl⟩ (Nat.le_of_ble_eq_true rfl) ⟨Nat.le_of_ble_eq_true rfl, Nat.le_of_ble_eq_true rfl⟩ ?_
    refine r_istore_n dX3_readTrain_88 (by decide) rfl ?_
    refine r_aload_n dX3_readTrain_89 rfl ?_
    refine r_iconst (v := (2 : Int32)) dX3_readTrain_90 (by decide) ?_
    refine r_bipush (v := (99 : Int32)) dX3_readTrain_91 (by decide) ?_
    obtain ⟨v93, hc93, hf⟩ := bd_of hf
    refine r_cVi (rest := []) (ct_X3_readNumber hs hE hT1 ho0 hc93) dX3_readTrain_93 wd_995 zX3_readNumber wd_997 wd_17 rfl  rfl rfl (fo3 ho0) rfl rfl ⟨Nat.le_of_ble_eq_true rfl, Nat.le_of_ble_eq_true rfl⟩ (Nat.le_of_ble_eq_true rfl) ⟨Nat.le_of_ble_eq_true rfl, Nat.le_of_ble_eq_true rfl⟩ ?_
    refine r_istore dX3_readTrain_96 (by decide) rfl ?_
    refine r_aload_n dX3_readTrain_98 rfl ?_
    refine g3_5 dX3_readTrain_99 wd_864 ho0 ?_
    refine g6_4 dX3_readTrain_102 wd_104 (gSt10 hE).1 ?_
    refine r_iload_n dX3_readTrain_105 rfl ?_
    refine r_aload_n dX3_readTrain_106 rfl ?_
    refine r_iconst (v := (0 : Int32)) dX3_readTrain_107 (by decide) ?_
    refine r_sipush (v := (359 : Int32)) dX3_readTrain_108 (by decide) ?_
    obtain ⟨v111, hc111, hf⟩ := bd_of hf
    refine r_cVi (rest := [.int (v9.2 T1 5), .ref (G.2.2.1 + (10 + 3))]) (ct_X3_readNumber hs hE hT1 ho0 hc111) dX3_readTrain_111 wd_995 zX3_readNumber wd_997 wd_17 rfl  rfl rfl (fo3 ho0) rfl rfl ⟨Nat.le_of_ble_eq_true rfl, Nat.le_of_ble_eq_true rfl⟩ (Nat.le_of_ble_eq_true rfl) ⟨Nat.le_of_ble_eq_true rfl, Nat.le_of_ble_eq_true rfl⟩ ?_
    obtain ⟨h114, hf⟩ := gv_of hf
    refine a_iast dX3_readTrain_114 (gSt10 hE).2.2.2.1 h114 ?_
    refine r_aload_n dX3_readTrain_115 rfl ?_
    refine r_aload_n dX3_readTrain_116 rfl ?_
    refine r_iconst (v := (0 : Int32)) dX3_readTrain_117 (by decide) ?_
    refine r_sipush (v := (9999 : Int32)) dX3_readTrain_118 (by decide) ?_
    obtain ⟨v121, hc121, hf⟩ := bd_of hf
    refine r_cVi (rest := [.ref (G.2.2.1 + ((T1 + 1) + 5 + 3 * (Int32.toNatClampNeg (v9.2 T1 5))))]) (ct_X3_readNumber hs hE hT1 ho0 hc121) dX3_readTrain_121 wd_995 zX3_readNumber wd_997 wd_17 rfl  rfl rfl (fo3 ho0) rfl rfl ⟨Nat.le_of_ble_eq_true rfl, Nat.le_of_ble_eq_true rfl⟩ (Nat.le_of_ble_eq_true rfl) ⟨Nat.le_of_ble_eq_true rfl, Nat.le_of_ble_eq_true rfl⟩ ?_
    refine p8_2 dX3_readTrain_124 wd_228 (hT1.2.2.2.2.2.2.1 _ (vp_lt h32)).1 ?_
    refine r_aload_n dX3_readTrain_127 rfl ?_
    refine r_aload_n dX3_readTrain_128 rfl ?_
    refine r_aload_n dX3_readTrain_129 rfl ?_
    refine g8_2 dX3_readTrain_130 wd_228 (hT1.2.2.2.2.2.2.1 _ (vp_lt h32)).1 ?_
    refine r_sipush (v := (9999 : Int32)) dX3_readTrain_133 (by decide) ?_
    obtain ⟨v136, hc136, hf⟩ := bd_of hf
    refine r_cVi (rest := [.ref (G.2.2.1 + ((T1 + 1) + 5 + 3 * (Int32.toNatClampNeg (v9.2 T1 5))))]) (ct_X3_readNumber hs hE hT1 ho0 hc136) dX3_readTrain_136 wd_995 zX3_readNumber wd_997 wd_17 rfl  rfl rfl (fo3 ho0) rfl rfl ⟨Nat.le_of_ble_eq_true rfl, Nat.le_of_ble_eq_true rfl⟩ (Nat.le_of_ble_eq_true rfl) ⟨Nat.le_of_ble_eq_true rfl, Nat.le_of_ble_eq_true rfl⟩ ?_
    refine p8_3 dX3_readTrain_139 wd_232 (hT1.2.2.2.2.2.2.1 _ (vp_lt h32)).1 ?_
    refine r_aload_n dX3_readTrain_142 rfl ?_
    refine r_iconst (v := (0 : Int32)) dX3_readTrain_143 (by decide) ?_
    refine p8_4 dX3_readTrain_144 wd_235 (hT1.2.2.2.2.2.2.1 _ (vp_lt h32)).1 ?_
    refine r_aload_n dX3_readTrain_147 rfl ?_
    refine r_iconst (v := (0 : Int32)) dX3_readTrain_148 (by decide) ?_
    refine p8_5 dX3_readTrain_149 wd_237 (hT1.2.2.2.2.2.2.1 _ (vp_lt h32)).1 ?_
    refine r_aload_n dX3_readTrain_152 rfl ?_
    refine r_iconst (v := (0 : Int32)) dX3_readTrain_153 (by decide) ?_
    refine p8_6 dX3_readTrain_154 wd_239 (hT1.2.2.2.2.2.2.1 _ (vp_lt h32)).1 ?_
    refine r_aload_n dX3_readTrain_157 rfl ?_
    refine r_ldcS (i := 16) dX3_readTrain_158 (List.mem_of_getElem? (i := 16) rfl) ?_
    obtain ⟨v160, hc160, hf⟩ := bd_of hf
    refine r_cVi (rest := []) (ct_X3_takeWord hs hE hT1 ho0 (by decide) hc160) dX3_readTrain_160 wd_934 zX3_takeWord wd_936 wd_14 rfl  rfl rfl (fo3 ho0) rfl rfl ⟨Nat.le_of_ble_eq_true rfl, Nat.le_of_ble_eq_true rfl⟩ (Nat.le_of_ble_eq_true rfl) ⟨Nat.le_of_ble_eq_true rfl, Nat.le_of_ble_eq_true rfl⟩ ?_
    refine r_if_eq (tgt := 191) dX3_readTrain_163 (by decide) (fun c163 => ?_) (fun c163 => ?_)
    · replace hf := if_t hf c163
      refine r_aload_n dX3_readTrain_191 rfl ?_
      refine r_ldcS (i := 17) dX3_readTrain_192 (List.mem_of_getElem? (i := 17) rfl) ?_
      obtain ⟨v194, hc194, hf⟩ := bd_of hf
      refine r_cVi (rest := []) (ct_X3_takeWord hs hE hT1 ho0 (by decide) hc194) dX3_readTrain_194 wd_934 zX3_takeWord wd_936 wd_14 rfl  rfl rfl (fo3 ho0) rfl rfl ⟨Nat.le_of_ble_eq_true rfl, Nat.le_of_ble_eq_true rfl⟩ (Nat.le_of_ble_eq_true rfl) ⟨Nat.le_of_ble_eq_true rfl, Nat.le_of_ble_eq_true rfl⟩ ?_
      refine r_if_eq (tgt := 211) dX3_readTrain_197 (by decide) (fun c197 => ?_) (fun c197 => ?_)
      · replace hf := if_t hf c197
        refine r_aload_n dX3_readTrain_211 rfl ?_
        refine g3_0 dX3_readTrain_212 wd_857 ho0 ?_
        refine r_if_eq (tgt := 219) dX3_readTrain_215 (by decide) (fun c215 => ?_) (fun c215 => ?_)
        · replace hf := if_t hf c215
          refine r_aload_n dX3_readTrain_219 rfl ?_
          refine r_iload_n dX3_readTrain_220 rfl ?_
          refine p8_0 dX3_readTrain_221 wd_222 (hT1.2.2.2.2.2.2.1 _ (vp_lt h32)).1 ?_
          refine r_aload_n dX3_readTrain_224 rfl ?_
          refine r_iload dX3_readTrain_225 rfl ?_
          refine p8_1 dX3_readTrain_227 wd_225 (hT1.2.2.2.2.2.2.1 _ (vp_lt h32)).1 ?_
          refine r_aload_n dX3_readTrain_230 rfl ?_
          refine r_iconst (v := (0 : Int32)) dX3_readTrain_231 (by decide) ?_
          refine p8_7 dX3_readTrain_232 wd_240 (hT1.2.2.2.2.2.2.1 _ (vp_lt h32)).1 ?_
          refine r_aload_n dX3_readTrain_235 rfl ?_
          refine r_iconst (v := (0 : Int32)) dX3_readTrain_236 (by decide) ?_
          refine p8_8 dX3_readTrain_237 wd_243 (hT1.2.2.2.2.2.2.1 _ (vp_lt h32)).1 ?_
          refine r_aload_n dX3_readTrain_240 rfl ?_
          refine g3_5 dX3_readTrain_241 wd_864 ho0 ?_
          refine g6_7 dX3_readTrain_244 wd_117 (gSt10 hE).1 ?_
          refine r_iload_n dX3_readTrain_247 rfl ?_
          refine r_iconst (v := (0 : Int32)) dX3_readTrain_248 (by decide) ?_
          obtain ⟨h249, hf⟩ := gv_of hf
          refine a_iast dX3_readTrain_249 (gSt10 hE).2.2.2.2.2.2.1 h249 ?_
          refine r_aload_n dX3_readTrain_250 rfl ?_
          refine g3_5 dX3_readTrain_251 wd_864 ho0 ?_
          refine g6_8 dX3_readTrain_254 wd_119 (gSt10 hE).1 ?_
          refine r_iload_n dX3_readTrain_257 rfl ?_
          refine r_iconst (v := (0 : Int32)) dX3_readTrain_258 (by decide) ?_
          obtain ⟨h259, hf⟩ := gv_of hf
          refine a_iast dX3_readTrain_259 (gSt10 hE).2.2.2.2.2.2.2 h259 ?_
          refine r_aload_n dX3_readTrain_260 rfl ?_
          refine g3_5 dX3_readTrain_261 wd_864 ho0 ?_
          refine g6_2 dX3_readTrain_264 wd_96 (gSt10 hE).1 ?_
          refine r_iload_n dX3_readTrain_267 rfl ?_
          refine r_iconst (v := (1 : Int32)) dX3_readTrain_268 (by decide) ?_
          obtain ⟨h269, hf⟩ := gv_of hf
          refine a_zastb dX3_readTrain_269 (gSt10 hE).2.1 h269 (by decide) ?_
          refine r_aload_n dX3_readTrain_270 rfl ?_
          refine g3_4 dX3_readTrain_271 wd_863 ho0 ?_
          refine r_dup dX3_readTrain_274 rfl ?_
          refine g7_5 dX3_readTrain_275 wd_309 hT1.1 ?_
          refine r_iconst (v := (1 : Int32)) dX3_readTrain_278 (by decide) ?_
          refine r_iadd dX3_readTrain_279 ?_
          refine p7_5 dX3_readTrain_280 wd_309 hT1.1 ?_
          have hr := Option.some.inj hf
          subst hr
          exact r_vret dX3_readTrain_283 rfl (Nat.le_of_ble_eq_true rfl) (Nat.le_of_ble_eq_true rfl) ⟨rfl, rfl, rfl⟩
        · replace hf := if_f hf c215
          have hr := Option.some.inj hf
          subst hr
          exact r_vret dX3_readTrain_218 rfl (Nat.le_of_ble_eq_true rfl) (Nat.le_of_ble_eq_true rfl) ⟨rfl, rfl, rfl⟩
      · replace hf := if_f hf c197
        refine r_aload_n dX3_readTrain_200 rfl ?_
        refine r_aload_n dX3_readTrain_201 rfl ?_
        refine r_iconst (v := (1 : Int32)) dX3_readTrain_202 (by decide) ?_
        refine r_bipush (v := (99 : Int32)) dX3_readTrain_203 (by decide) ?_
        obtain ⟨v205, hc205, hf⟩ := bd_of hf
        refine r_cVi (rest := [.ref (G.2.2.1 + ((T1 + 1) + 5 + 3 * (Int32.toNatClampNeg (v9.2 T1 5))))]) (ct_X3_readNumber hs hE hT1 ho0 hc205) dX3_readTrain_205 wd_995 zX3_readNumber wd_997 wd_17 rfl  rfl rfl (fo3 ho0) rfl rfl ⟨Nat.le_of_ble_eq_true rfl, Nat.le_of_ble_eq_true rfl⟩ (Nat.le_of_ble_eq_true rfl) ⟨Nat.le_of_ble_eq_true rfl, Nat.le_of_ble_eq_true rfl⟩ ?_
        refine p8_6 dX3_readTrain_208 wd_239 (hT1.2.2.2.2.2.2.1 _ (vp_lt h32)).1 ?_
        refine r_aload_n dX3_readTrain_211 rfl ?_
        refine g3_0 dX3_readTrain_212 wd_857 ho0 ?_
        refine r_if_eq (tgt := 219) dX3_readTrain_215 (by decide) (fun c215 => ?_) (fun c215 => ?_)
        · replace hf := if_t hf c215
          refine r_aload_n dX3_readTrain_219 rfl ?_
          refine r_iload_n dX3_readTrain_220 rfl ?_
          refine p8_0 dX3_readTrain_221 wd_222 (hT1.2.2.2.2.2.2.1 _ (vp_lt h32)).1 ?_
          refine r_aload_n dX3_readTrain_224 rfl ?_
          refine r_iload dX3_readTrain_225 rfl ?_
          refine p8_1 dX3_readTrain_227 wd_225 (hT1.2.2.2.2.2.2.1 _ (vp_lt h32)).1 ?_
          refine r_aload_n dX3_readTrain_230 rfl ?_
          refine r_iconst (v := (0 : Int32)) dX3_readTrain_231 (by decide) ?_
          refine p8_7 dX3_readTrain_232 wd_240 (hT1.2.2.2.2.2.2.1 _ (vp_lt h32)).1 ?_
          refine r_aload_n dX3_readTrain_235 rfl ?_
          refine r_iconst (v := (0 : Int32)) dX3_readTrain_236 (by decide) ?_
          refine p8_8 dX3_readTrain_237 wd_243 (hT1.2.2.2.2.2.2.1 _ (vp_lt h32)).1 ?_
          refine r_aload_n dX3_readTrain_240 rfl ?_
          refine g3_5 dX3_readTrain_241 wd_864 ho0 ?_
          refine g6_7 dX3_readTrain_244 wd_117 (gSt10 hE).1 ?_
          refine r_iload_n dX3_readTrain_247 rfl ?_
          refine r_iconst (v := (0 : Int32)) dX3_readTrain_248 (by decide) ?_
          obtain ⟨h249, hf⟩ := gv_of hf
          refine a_iast dX3_readTrain_249 (gSt10 hE).2.2.2.2.2.2.1 h249 ?_
          refine r_aload_n dX3_readTrain_250 rfl ?_
          refine g3_5 dX3_readTrain_251 wd_864 ho0 ?_
          refine g6_8 dX3_readTrain_254 wd_119 (gSt10 hE).1 ?_
          refine r_iload_n dX3_readTrain_257 rfl ?_
          refine r_iconst (v := (0 : Int32)) dX3_readTrain_258 (by decide) ?_
          obtain ⟨h259, hf⟩ := gv_of hf
          refine a_iast dX3_readTrain_259 (gSt10 hE).2.2.2.2.2.2.2 h259 ?_
          refine r_aload_n dX3_readTrain_260 rfl ?_
          refine g3_5 dX3_readTrain_261 wd_864 ho0 ?_
          refine g6_2 dX3_readTrain_264 wd_96 (gSt10 hE).1 ?_
          refine r_iload_n dX3_readTrain_267 rfl ?_
          refine r_iconst (v := (1 : Int32)) dX3_readTrain_268 (by decide) ?_
          obtain ⟨h269, hf⟩ := gv_of hf
          refine a_zastb dX3_readTrain_269 (gSt10 hE).2.1 h269 (by decide) ?_
          refine r_aload_n dX3_readTrain_270 rfl ?_
          refine g3_4 dX3_readTrain_271 wd_863 ho0 ?_
          refine r_dup dX3_readTrain_274 rfl ?_
          refine g7_5 dX3_readTrain_275 wd_309 hT1.1 ?_
          refine r_iconst (v := (1 : Int32)) dX3_readTrain_278 (by decide) ?_
          refine r_iadd dX3_readTrain_279 ?_
          refine p7_5 dX3_readTrain_280 wd_309 hT1.1 ?_
          have hr := Option.some.inj hf
          subst hr
          exact r_vret dX3_readTrain_283 rfl (Nat.le_of_ble_eq_true rfl) (Nat.le_of_ble_eq_true rfl) ⟨rfl, rfl, rfl⟩
        · replace hf := if_f hf c215
          have hr := Option.some.inj hf
          subst hr
          exact r_vret dX3_readTrain_218 rfl (Nat.le_of_ble_eq_true rfl) (Nat.le_of_ble_eq_true rfl) ⟨rfl, rfl, rfl⟩
    · replace hf := if_f hf c163
      refine r_aload_n dX3_readTrain_166 rfl ?_
      refine r_aload_n dX3_readTrain_167 rfl ?_
      refine r_iconst (v := (1 : Int32)) dX3_readTrain_168 (by decide) ?_
      refine r_bipush (v := (99 : Int32)) dX3_readTrain_169 (by decide) ?_
      obtain ⟨v171, hc171, hf⟩ := bd_of hf
      refine r_cVi (rest := [.ref (G.2.2.1 + ((T1 + 1) + 5 + 3 * (Int32.toNatClampNeg (v9.2 T1 5))))]) (ct_X3_readNumber hs hE hT1 ho0 hc171) dX3_readTrain_171 wd_995 zX3_readNumber wd_997 wd_17 rfl  rfl rfl (fo3 ho0) rfl rfl ⟨Nat.le_of_ble_eq_true rfl, Nat.le_of_ble_eq_true rfl⟩ (Nat.le_of_ble_eq_true rfl) ⟨Nat.le_of_ble_eq_true rfl, Nat.le_of_ble_eq_true rfl⟩ ?_
      refine p8_4 dX3_readTrain_174 wd_235 (hT1.2.2.2.2.2.2.1 _ (vp_lt h32)).1 ?_
      refine r_aload_n dX3_readTrain_177 rfl ?_
      refine r_aload_n dX3_readTrain_178 rfl ?_
      refine r_iconst (v := (1 : Int32)) dX3_readTrain_179 (by decide) ?_
      refine r_bipush (v := (99 : Int32)) dX3_readTrain_180 (by decide) ?_
      obtain ⟨v182, hc182, hf⟩ := bd_of hf
      refine r_cVi (rest := [.ref (G.2.2.1 + ((T1 + 1) + 5 + 3 * (Int32.toNatClampNeg (v9.2 T1 5))))]) (ct_X3_readNumber hs hE hT1 ho0 hc182) dX3_readTrain_182 wd_995 zX3_readNumber wd_997 wd_17 rfl  rfl rfl (fo3 ho0) rfl rfl ⟨Nat.le_of_ble_eq_true rfl, Nat.le_of_ble_eq_true rfl⟩ (Nat.le_of_ble_eq_true rfl) ⟨Nat.le_of_ble_eq_true rfl, Nat.le_of_ble_eq_true rfl⟩ ?_
      refine p8_5 dX3_readTrain_185 wd_237 (hT1.2.2.2.2.2.2.1 _ (vp_lt h32)).1 ?_
      refine r_goto (tgt := 211) dX3_readTrain_188 (by decide) ?_
      refine r_aload_n dX3_readTrain_211 rfl ?_
      refine g3_0 dX3_readTrain_212 wd_857 ho0 ?_
      refine r_if_eq (tgt := 219) dX3_readTrain_215 (by decide) (fun c215 => ?_) (fun c215 => ?_)
      · replace hf := if_t hf c215
        refine r_aload_n dX3_readTrain_219 rfl ?_
        refine r_iload_n dX3_readTrain_220 rfl ?_
        refine p8_0 dX3_readTrain_221 wd_222 (hT1.2.2.2.2.2.2.1 _ (vp_lt h32)).1 ?_
        refine r_aload_n dX3_readTrain_224 rfl ?_
        refine r_iload dX3_readTrain_225 rfl ?_
        refine p8_1 dX3_readTrain_227 wd_225 (hT1.2.2.2.2.2.2.1 _ (vp_lt h32)).1 ?_
        refine r_aload_n dX3_readTrain_230 rfl ?_
        refine r_iconst (v := (0 : Int32)) dX3_readTrain_231 (by decide) ?_
        refine p8_7 dX3_readTrain_232 wd_240 (hT1.2.2.2.2.2.2.1 _ (vp_lt h32)).1 ?_
        refine r_aload_n dX3_readTrain_235 rfl ?_
        refine r_iconst (v := (0 : Int32)) dX3_readTrain_236 (by decide) ?_
        refine p8_8 dX3_readTrain_237 wd_243 (hT1.2.2.2.2.2.2.1 _ (vp_lt h32)).1 ?_
        refine r_aload_n dX3_readTrain_240 rfl ?_
        refine g3_5 dX3_readTrain_241 wd_864 ho0 ?_
        refine g6_7 dX3_readTrain_244 wd_117 (gSt10 hE).1 ?_
        refine r_iload_n dX3_readTrain_247 rfl ?_
        refine r_iconst (v := (0 : Int32)) dX3_readTrain_248 (by decide) ?_
        obtain ⟨h249, hf⟩ := gv_of hf
        refine a_iast dX3_readTrain_249 (gSt10 hE).2.2.2.2.2.2.1 h249 ?_
        refine r_aload_n dX3_readTrain_250 rfl ?_
        refine g3_5 dX3_readTrain_251 wd_864 ho0 ?_
        refine g6_8 dX3_readTrain_254 wd_119 (gSt10 hE).1 ?_
        refine r_iload_n dX3_readTrain_257 rfl ?_
        refine r_iconst (v := (0 : Int32)) dX3_readTrain_258 (by decide) ?_
        obtain ⟨h259, hf⟩ := gv_of hf
        refine a_iast dX3_readTrain_259 (gSt10 hE).2.2.2.2.2.2.2 h259 ?_
        refine r_aload_n dX3_readTrain_260 rfl ?_
        refine g3_5 dX3_readTrain_261 wd_864 ho0 ?_
        refine g6_2 dX3_readTrain_264 wd_96 (gSt10 hE).1 ?_
        refine r_iload_n dX3_readTrain_267 rfl ?_
        refine r_iconst (v := (1 : Int32)) dX3_readTrain_268 (by decide) ?_
        obtain ⟨h269, hf⟩ := gv_of hf
        refine a_zastb dX3_readTrain_269 (gSt10 hE).2.1 h269 (by decide) ?_
        refine r_aload_n dX3_readTrain_270 rfl ?_
        refine g3_4 dX3_readTrain_271 wd_863 ho0 ?_
        refine r_dup dX3_readTrain_274 rfl ?_
        refine g7_5 dX3_readTrain_275 wd_309 hT1.1 ?_
        refine r_iconst (v := (1 : Int32)) dX3_readTrain_278 (by decide) ?_
        refine r_iadd dX3_readTrain_279 ?_
        refine p7_5 dX3_readTrain_280 wd_309 hT1.1 ?_
        have hr := Option.some.inj hf
        subst hr
        exact r_vret dX3_readTrain_283 rfl (Nat.le_of_ble_eq_true rfl) (Nat.le_of_ble_eq_true rfl) ⟨rfl, rfl, rfl⟩
      · replace hf := if_f hf c215
        have hr := Option.some.inj hf
        subst hr
        exact r_vret dX3_readTrain_218 rfl (Nat.le_of_ble_eq_true rfl) (Nat.le_of_ble_eq_true rfl) ⟨rfl, rfl, rfl⟩
  · replace hf := if_t hf c12
    have hr := Option.some.inj hf
    subst hr
    exact r_vret dX3_readTrain_15 rfl (Nat.le_of_ble_eq_true rfl) (Nat.le_of_ble_eq_true rfl) ⟨rfl, rfl, rfl⟩
def F_X3_readSource (n : Nat) (T1 o0 : Nat) (I : gI) (a1 : Int32) : Option (Int32 × gI) := (if (I o0 6) = (2 : Int32) then (if (I T1 5) ≤ (I o0 9) then bd (F_X3_readNumber n T1 o0 I (0 : Int32) ((I T1 5) - (1 : Int32))) (fun v50 => some (v50.1, v50.2)) else (if ((a1 >>> ((I o0 9) &&& 31)) &&& (1 : Int32)) = (1 : Int32) then bd (F_X3_fail n T1 o0 I (3 : Int32)) (fun v36 => bd (F_X3_readNumber n T1 o0 v36 (0 : Int32) ((v36 T1 5) - (1 : Int32))) (fun v50 => some (v50.1, v50.2))) else bd (F_X3_readNumber n T1 o0 I (0 : Int32) ((I T1 5) - (1 : Int32))) (fun v50 => some (v50.1, v50.2)))) else bd (F_X3_readNumber n T1 o0 I (0 : Int32) ((I T1 5) - (1 : Int32))) (fun v50 => some (v50.1, v50.2)))
set_option maxHeartbeats 4000000 in
set_option maxRecDepth 100000 in
theorem ct_X3_readSource {G : gG} {lay : Nat → Nat × Nat} {T0 T1 : Nat} {Dd : Nat → Nat → UInt64} {I : gI} {J : gJ} {K : gI} {N : gJ} {sz n : Nat} {o0 : Nat} {a1 : Int32} (hs : G.1.stackTraces = false) (hE : gLay lay) (hT1 : gTank lay T1) (ho0 : lay o0 = (3, 0)) {r : Int32 × gI} (hf : F_X3_readSource n T1 o0 I a1 = some r) : gCt G mX3_readSource [.ref (G.2.2.1 + o0), .int a1] (fO G (lay, T0, T1, Dd) I J K N) sz (gR (some (.int r.1)) (fO G (lay, T0, T1, Dd) r.2 J K N) sz) := by
  unfold F_X3_readSource at hf
  refine gCt.of [some (.ref (G.2.2.1 + o0)), some (.int a1)] (by decide +kernel) rfl hs rfl (Nat.le_of_ble_eq_true rfl) ?_
  refine r_aload_n dX3_readSource_0 rfl ?_
  refine g3_6 dX3_readSource_1 wd_865 ho0 ?_
  refine r_iconst (v := (2 : Int32)) dX3_readSource_4 (by decide) ?_
  refine r_icmp_ne (tgt := 39) dX3_readSource_5 (by decide) (fun c5 => ?_) (fun c5 => ?_)
  · replace hf := if_f hf c5
    refine r_aload_n dX3_readSource_39 rfl ?_
    refine r_iconst (v := (0 : Int32)) dX3_readSource_40 (by decide) ?_
    refine r_aload_n dX3_readSource_41 rfl ?_
    refine g3_4 dX3_readSource_42 wd_863 ho0 ?_
    refine g7_5 dX3_readSource_45 wd_309 hT1.1 ?_
    refine r_iconst (v := (1 : Int32)) dX3_readSource_48 (by decide) ?_
    refine r_isub dX3_readSource_49 ?_
    obtain ⟨v50, hc50, hf⟩ := bd_of hf
    refine r_cVi (rest := []) (ct_X3_readNumber hs hE hT1 ho0 hc50) dX3_readSource_50 wd_995 zX3_readNumber wd_997 wd_17 rfl  rfl rfl (fo3 ho0) rfl rfl ⟨Nat.le_of_ble_eq_true rfl, Nat.le_of_ble_eq_true rfl⟩ (Nat.le_of_ble_eq_true rfl) ⟨Nat.le_of_ble_eq_true rfl, Nat.le_of_ble_eq_true rfl⟩ ?_
    have hr := Option.some.inj hf
    subst hr
    exact r_iret dX3_readSource_53 rfl (Nat.le_of_ble_eq_true rfl) (Nat.le_of_ble_eq_true rfl) ⟨rfl, rfl, rfl⟩
  · replace hf := if_t hf c5
    refine r_aload_n dX3_readSource_8 rfl ?_
    refine g3_9 dX3_readSource_9 wd_868 ho0 ?_
    refine r_aload_n dX3_readSource_12 rfl ?_
    refine g3_4 dX3_readSource_13 wd_863 ho0 ?_
    refine g7_5 dX3_readSource_16 wd_309 hT1.1 ?_
    refine r_icmp_ge (tgt := 39) dX3_readSource_19 (by decide) (fun c19 => ?_) (fun c19 => ?_)
    · replace hf := if_t hf c19
      refine r_aload_n dX3_readSource_39 rfl ?_
      refine r_iconst (v := (0 : Int32)) dX3_readSource_40 (by decide) ?_
      refine r_aload_n dX3_readSource_41 rfl ?_
      refine g3_4 dX3_readSource_42 wd_863 ho0 ?_
      refine g7_5 dX3_readSource_45 wd_309 hT1.1 ?_
      refine r_iconst (v := (1 : Int32)) dX3_readSource_48 (by decide) ?_
      refine r_isub dX3_readSource_49 ?_
      obtain ⟨v50, hc50, hf⟩ := bd_of hf
      refine r_cVi (rest := []) (ct_X3_readNumber hs hE hT1 ho0 hc50) dX3_readSource_50 wd_995 zX3_readNumber wd_997 wd_17 rfl  rfl rfl (fo3 ho0) rfl rfl ⟨Nat.le_of_ble_eq_true rfl, Nat.le_of_ble_eq_true rfl⟩ (Nat.le_of_ble_eq_true rfl) ⟨Nat.le_of_ble_eq_true rfl, Nat.le_of_ble_eq_true rfl⟩ ?_
      have hr := Option.some.inj hf
      subst hr
      exact r_iret dX3_readSource_53 rfl (Nat.le_of_ble_eq_true rfl) (Nat.le_of_ble_eq_true rfl) ⟨rfl, rfl, rfl⟩
    · replace hf := if_f hf c19
      refine r_iload_n dX3_readSource_22 rfl ?_
      refine r_aload_n dX3_readSource_23 rfl ?_
      refine g3_9 dX3_readSource_24 wd_868 ho0 ?_
      refine r_ishr dX3_readSource_27 ?_
      refine r_iconst (v := (1 : Int32)) dX3_readSource_28 (by decide) ?_
      refine r_iand dX3_readSource_29 ?_
      refine r_iconst (v := (1 : Int32)) dX3_readSource_30 (by decide) ?_
      refine r_icmp_ne (tgt := 39) dX3_readSource_31 (by decide) (fun c31 => ?_) (fun c31 => ?_)
      · replace hf := if_f hf c31
        refine r_aload_n dX3_readSource_39 rfl ?_
        refine r_iconst (v := (0 : Int32)) dX3_readSource_40 (by decide) ?_
        refine r_aload_n dX3_readSource_41 rfl ?_
        refine g3_4 dX3_readSource_42 wd_863 ho0 ?_
        refine g7_5 dX3_readSource_45 wd_309 hT1.1 ?_
        refine r_iconst (v := (1 : Int32)) dX3_readSource_48 (by decide) ?_
        refine r_isub dX3_readSource_49 ?_
        obtain ⟨v50, hc50, hf⟩ := bd_of hf
        refine r_cVi (rest := []) (ct_X3_readNumber hs hE hT1 ho0 hc50) dX3_readSource_50 wd_995 zX3_readNumber wd_997 wd_17 rfl  rfl rfl (fo3 ho0) rfl rfl ⟨Nat.le_of_ble_eq_true rfl, Nat.le_of_ble_eq_true rfl⟩ (Nat.le_of_ble_eq_true rfl) ⟨Nat.le_of_ble_eq_true rfl, Nat.le_of_ble_eq_true rfl⟩ ?_
        have hr := Option.some.inj hf
        subst hr
        exact r_iret dX3_readSource_53 rfl (Nat.le_of_ble_eq_true rfl) (Nat.le_of_ble_eq_true rfl) ⟨rfl, rfl, rfl⟩
      · replace hf := if_t hf c31
        refine r_aload_n dX3_readSource_34 rfl ?_
        refine r_iconst (v := (3 : Int32)) dX3_readSource_35 (by decide) ?_
        obtain ⟨v36, hc36, hf⟩ := bd_of hf
        refine r_cVv (rest := []) (ct_X3_fail hs hE hT1 ho0 hc36) dX3_readSource_36 wd_990 zX3_fail wd_992 wd_16 rfl  rfl rfl (fo3 ho0) rfl rfl ⟨Nat.le_of_ble_eq_true rfl, Nat.le_of_ble_eq_true rfl⟩ (Nat.le_of_ble_eq_true rfl) ⟨Nat.le_of_ble_eq_true rfl, Nat.le_of_ble_eq_true rfl⟩ ?_
        refine r_aload_n dX3_readSource_39 rfl ?_
        refine r_iconst (v := (0 : Int32)) dX3_readSource_40 (by decide) ?_
        refine r_aload_n dX3_readSource_41 rfl ?_
        refine g3_4 dX3_readSource_42 wd_863 ho0 ?_
        refine g7_5 dX3_readSource_45 wd_309 hT1.1 ?_
        refine r_iconst (v := (1 : Int32)) dX3_readSource_48 (by decide) ?_
        refine r_isub dX3_readSource_49 ?_
        obtain ⟨v50, hc50, hf⟩ := bd_of hf
        refine r_cVi (rest := []) (ct_X3_readNumber hs hE hT1 ho0 hc50) dX3_readSource_50 wd_995 zX3_readNumber wd_997 wd_17 rfl  rfl rfl (fo3 ho0) rfl rfl ⟨Nat.le_of_ble_eq_true rfl, Nat.le_of_ble_eq_true rfl⟩ (Nat.le_of_ble_eq_true rfl) ⟨Nat.le_of_ble_eq_true rfl, Nat.le_of_ble_eq_true rfl⟩ ?_
        have hr := Option.some.inj hf
        subst hr
        exact r_iret dX3_readSource_53 rfl (Nat.le_of_ble_eq_true rfl) (Nat.le_of_ble_eq_true rfl) ⟨rfl, rfl, rfl⟩
def L_X3_readSigned (n : Nat) (T1 o0 : Nat) : Nat → Nat → Int32 → gI → Option (Int32 × gI)
  | 0, _, _, _ => none
  | j + 1, 0, s0, I => (if s0 = 0 then bd (F_X3_readNumber n T1 o0 I (0 : Int32) (99 : Int32)) (fun v33 => (if s0 = 0 then some (v33.1, v33.2) else some ((-v33.1), v33.2))) else bd (F_X3_nextToken n T1 o0 I) (fun v26 => bd (F_X3_readNumber n T1 o0 v26 (0 : Int32) (99 : Int32)) (fun v33 => (if s0 = 0 then some (v33.1, v33.2) else some ((-v33.1), v33.2)))))
  | _ + 1, _, _, _ => none
theorem L_X3_readSigned_e0 (n j : Nat) (T1 o0 : Nat) (s0 : Int32) (I : gI) : L_X3_readSigned n T1 o0 (j + 1) 0 s0 I = (if s0 = 0 then bd (F_X3_readNumber n T1 o0 I (0 : Int32) (99 : Int32)) (fun v33 => (if s0 = 0 then some (v33.1, v33.2) else some ((-v33.1), v33.2))) else bd (F_X3_nextToken n T1 o0 I) (fun v26 => bd (F_X3_readNumber n T1 o0 v26 (0 : Int32) (99 : Int32)) (fun v33 => (if s0 = 0 then some (v33.1, v33.2) else some ((-v33.1), v33.2))))) := rfl
set_option maxHeartbeats 4000000 in
set_option maxRecDepth 100000 in
theorem cL_X3_readSigned {G : gG} {lay : Nat → Nat × Nat} {T0 T1 : Nat} {Dd : Nat → Nat → UInt64} {J : gJ} {K : gI} {N : gJ} {sz n : Nat} {o0 : Nat} (hs : G.1.stackTraces = false) (hE : gLay lay) (hT1 : gTank lay T1) (ho0 : lay o0 = (3, 0)) : ∀ j : Nat, (∀ (s0 : Int32) (I : gI) (r : Int32 × gI), L_X3_readSigned n T1 o0 j 0 s0 I = some r → gAt G mX3_readSigned (gQp G mX3_readSigned (gR (some (.int r.1)) (fO G (lay, T0, T1, Dd) r.2 J K N) sz)) 20 [some (.ref (G.2.2.1 + o0)), none, none] [.int s0] (fO G (lay, T0, T1, Dd) I J K N) sz 0 0) := by
  intro j
  induction j with
  | zero => exact fun _ _ _ hf => (by cases hf)
  | succ j ih =>
    refine ?_
    · intro s0 I r hf
      rw [L_X3_readSigned_e0] at hf
      refine r_istore_n dX3_readSigned_20 (by decide) rfl ?_
      refine r_iload_n dX3_readSigned_21 rfl ?_
      refine r_if_eq (tgt := 29) dX3_readSigned_22 (by decide) (fun c22 => ?_) (fun c22 => ?_)
      · replace hf := if_t hf c22
        refine r_aload_n dX3_readSigned_29 rfl ?_
        refine r_iconst (v := (0 : Int32)) dX3_readSigned_30 (by decide) ?_
        refine r_bipush (v := (99 : Int32)) dX3_readSigned_31 (by decide) ?_
        obtain ⟨v33, hc33, hf⟩ := bd_of hf
        refine r_cVi (rest := []) (ct_X3_readNumber hs hE hT1 ho0 hc33) dX3_readSigned_33 wd_995 zX3_readNumber wd_997 wd_17 rfl  rfl rfl (fo3 ho0) rfl rfl ⟨Nat.le_of_ble_eq_true rfl, Nat.le_of_ble_eq_true rfl⟩ (Nat.le_of_ble_eq_true rfl) ⟨Nat.le_of_ble_eq_true rfl, Nat.le_of_ble_eq_true rfl⟩ ?_
        refine r_istore_n dX3_readSigned_36 (by decide) rfl ?_
        refine r_iload_n dX3_readSigned_37 rfl ?_
        refine r_if_eq (tgt := 46) dX3_readSigned_38 (by decide) (fun c38 => ?_) (fun c38 => ?_)
        · replace hf := if_t hf c38
          refine r_iload_n dX3_readSigned_46 rfl ?_
          have hr := Option.some.inj hf
          subst hr
          exact r_iret dX3_readSigned_47 rfl (Nat.le_of_ble_eq_true rfl) (Nat.le_of_ble_eq_true rfl) ⟨rfl, rfl, rfl⟩
        · replace hf := if_f hf c38
          refine r_iload_n dX3_readSigned_41 rfl ?_
          refine r_ineg dX3_readSigned_42 ?_
          refine r_goto (tgt := 47) dX3_readSigned_43 (by decide) ?_
          have hr := Option.some.inj hf
          subst hr
          exact r_iret dX3_readSigned_47 rfl (Nat.le_of_ble_eq_true rfl) (Nat.le_of_ble_eq_true rfl) ⟨rfl, rfl, rfl⟩
      · replace hf := if_f hf c22
        refine r_aload_n dX3_readSigned_25 rfl ?_
        obtain ⟨v26, hc26, hf⟩ := bd_of hf
        refine r_cVv (rest := []) (ct_X3_nextToken hs hE hT1 ho0 hc26) dX3_readSigned_26 wd_910 zX3_nextToken wd_912 wd_9 rfl  rfl rfl (fo3 ho0) rfl rfl ⟨Nat.le_of_ble_eq_true rfl, Nat.le_of_ble_eq_true rfl⟩ (Nat.le_of_ble_eq_true rfl) ⟨Nat.le_of_ble_eq_true rfl, Nat.le_of_ble_eq_true rfl⟩ ?_
        refine r_aload_n dX3_readSigned_29 rfl ?_
        refine r_iconst (v := (0 : Int32)) dX3_readSigned_30 (by decide) ?_
        refine r_bipush (v := (99 : Int32)) dX3_readSigned_31 (by decide) ?_
        obtain ⟨v33, hc33, hf⟩ := bd_of hf
        refine r_cVi (rest := []) (ct_X3_readNumber hs hE hT1 ho0 hc33) dX3_readSigned_33 wd_995 zX3_readNumber wd_997 wd_17 rfl  rfl rfl (fo3 ho0) rfl rfl ⟨Nat.le_of_ble_eq_true rfl, Nat.le_of_ble_eq_true rfl⟩ (Nat.le_of_ble_eq_true rfl) ⟨Nat.le_of_ble_eq_true rfl, Nat.le_of_ble_eq_true rfl⟩ ?_
        refine r_istore_n dX3_readSigned_36 (by decide) rfl ?_
        refine r_iload_n dX3_readSigned_37 rfl ?_
        refine r_if_eq (tgt := 46) dX3_readSigned_38 (by decide) (fun c38 => ?_) (fun c38 => ?_)
        · replace hf := if_t hf c38
          refine r_iload_n dX3_readSigned_46 rfl ?_
          have hr := Option.some.inj hf
          subst hr
          exact r_iret dX3_readSigned_47 rfl (Nat.le_of_ble_eq_true rfl) (Nat.le_of_ble_eq_true rfl) ⟨rfl, rfl, rfl⟩
        · replace hf := if_f hf c38
          refine r_iload_n dX3_readSigned_41 rfl ?_
          refine r_ineg dX3_readSigned_42 ?_
          refine r_goto (tgt := 47) dX3_readSigned_43 (by decide) ?_
          have hr := Option.some.inj hf
          subst hr
          exact r_iret dX3_readSigned_47 rfl (Nat.le_of_ble_eq_true rfl) (Nat.le_of_ble_eq_true rfl) ⟨rfl, rfl, rfl⟩
def F_X3_readSigned (n : Nat) (T1 o0 : Nat) (I : gI) : Option (Int32 × gI) := (if (I o0 0) = 0 then (if (I o0 6) = (3 : Int32) then L_X3_readSigned n T1 o0 n 0 (1 : Int32) I else L_X3_readSigned n T1 o0 n 0 (0 : Int32) I) else L_X3_readSigned n T1 o0 n 0 (0 : Int32) I)
set_option maxHeartbeats 4000000 in
set_option maxRecDepth 100000 in
theorem ct_X3_readSigned {G : gG} {lay : Nat → Nat × Nat} {T0 T1 : Nat} {Dd : Nat → Nat → UInt64} {I : gI} {J : gJ} {K : gI} {N : gJ} {sz n : Nat} {o0 : Nat} (hs : G.1.stackTraces = false) (hE : gLay lay) (hT1 : gTank lay T1) (ho0 : lay o0 = (3, 0)) {r : Int32 × gI} (hf : F_X3_readSigned n T1 o0 I = some r) : gCt G mX3_readSigned [.ref (G.2.2.1 + o0)] (fO G (lay, T0, T1, Dd) I J K N) sz (gR (some (.int r.1)) (fO G (lay, T0, T1, Dd) r.2 J K N) sz) := by
  unfold F_X3_readSigned at hf
  refine gCt.of [some (.ref (G.2.2.1 + o0)), none, none] (by decide +kernel) rfl hs rfl (Nat.le_of_ble_eq_true rfl) ?_
  refine r_aload_n dX3_readSigned_0 rfl ?_
  refine g3_0 dX3_readSigned_1 wd_857 ho0 ?_
  refine r_if_ne (tgt := 19) dX3_readSigned_4 (by decide) (fun c4 => ?_) (fun c4 => ?_)
  · replace hf := if_f hf c4
    refine r_iconst (v := (0 : Int32)) dX3_readSigned_19 (by decide) ?_
    exact r_widen (k2 := 0) (n2 := 0) (Nat.le_of_ble_eq_true rfl) (Nat.le_of_ble_eq_true rfl) (r_mask [true, false, false] rfl ((cL_X3_readSigned hs hE hT1 ho0 n) (0 : Int32) I r hf))
  · replace hf := if_t hf c4
    refine r_aload_n dX3_readSigned_7 rfl ?_
    refine g3_6 dX3_readSigned_8 wd_865 ho0 ?_
    refine r_iconst (v := (3 : Int32)) dX3_readSigned_11 (by decide) ?_
    refine r_icmp_ne (tgt := 19) dX3_readSigned_12 (by decide) (fun c12 => ?_) (fun c12 => ?_)
    · replace hf := if_f hf c12
      refine r_iconst (v := (0 : Int32)) dX3_readSigned_19 (by decide) ?_
      exact r_widen (k2 := 0) (n2 := 0) (Nat.le_of_ble_eq_true rfl) (Nat.le_of_ble_eq_true rfl) (r_mask [true, false, false] rfl ((cL_X3_readSigned hs hE hT1 ho0 n) (0 : Int32) I r hf))
    · replace hf := if_t hf c12
      refine r_iconst (v := (1 : Int32)) dX3_readSigned_15 (by decide) ?_
      refine r_goto (tgt := 20) dX3_readSigned_16 (by decide) ?_
      exact r_widen (k2 := 0) (n2 := 0) (Nat.le_of_ble_eq_true rfl) (Nat.le_of_ble_eq_true rfl) (r_mask [true, false, false] rfl ((cL_X3_readSigned hs hE hT1 ho0 n) (1 : Int32) I r hf))
def F_X3_readDrift (n : Nat) (T1 o0 : Nat) (I : gI) : Option (gI) := bd (F_X3_nextToken n T1 o0 I) (fun v1 => bd (F_X3_readSource n T1 o0 v1 (v1 o0 11)) (fun v9 => bd (F_X3_readSigned n T1 o0 v9.2) (fun v14 => bd (F_X3_readSigned n T1 o0 v14.2) (fun v19 => (if (v19.2 o0 0) = 0 then gv v9.1 4 (gv v9.1 4 (some (sI (sI (sI v19.2 o0 11 ((v19.2 o0 11) ||| ((1 : Int32) <<< (v9.1 &&& 31)))) (10 + 6) (Int32.toNatClampNeg v9.1) v14.1) (10 + 7) (Int32.toNatClampNeg v9.1) v19.1))) else some v19.2)))))
set_option maxHeartbeats 4000000 in
set_option maxRecDepth 100000 in
theorem ct_X3_readDrift {G : gG} {lay : Nat → Nat × Nat} {T0 T1 : Nat} {Dd : Nat → Nat → UInt64} {I : gI} {J : gJ} {K : gI} {N : gJ} {sz n : Nat} {o0 : Nat} (hs : G.1.stackTraces = false) (hE : gLay lay) (hT1 : gTank lay T1) (ho0 : lay o0 = (3, 0)) {r : gI} (hf : F_X3_readDrift n T1 o0 I = some r) : gCt G mX3_readDrift [.ref (G.2.2.1 + o0)] (fO G (lay, T0, T1, Dd) I J K N) sz (gR none (fO G (lay, T0, T1, Dd) r J K N) sz) := by
  unfold F_X3_readDrift at hf
  refine gCt.of [some (.ref (G.2.2.1 + o0)), none, none, none] (by decide +kernel) rfl hs rfl (Nat.le_of_ble_eq_true rfl) ?_
  refine r_aload_n dX3_readDrift_0 rfl ?_
  obtain ⟨v1, hc1, hf⟩ := bd_of hf
  refine r_cVv (rest := []) (ct_X3_nextToken hs hE hT1 ho0 hc1) dX3_readDrift_1 wd_910 zX3_nextToken wd_912 wd_9 rfl  rfl rfl (fo3 ho0) rfl rfl ⟨Nat.le_of_ble_eq_true rfl, Nat.le_of_ble_eq_true rfl⟩ (Nat.le_of_ble_eq_true rfl) ⟨Nat.le_of_ble_eq_true rfl, Nat.le_of_ble_eq_true rfl⟩ ?_
  refine r_aload_n dX3_readDrift_4 rfl ?_
  refine r_aload_n dX3_readDrift_5 rfl ?_
  refine g3_11 dX3_readDrift_6 wd_870 ho0 ?_
  obtain ⟨v9, hc9, hf⟩ := bd_of hf
  refine r_cVi (rest := []) (ct_X3_readSource hs hE hT1 ho0 hc9) dX3_readDrift_9 wd_1034 zX3_readSource wd_1036 wd_25 rfl  rfl rfl (fo3 ho0) rfl rfl ⟨Nat.le_of_ble_eq_true rfl, Nat.le_of_ble_eq_true rfl⟩ (Nat.le_of_ble_eq_true rfl) ⟨Nat.le_of_ble_eq_true rfl, Nat.le_of_ble_eq_true rfl⟩ ?_
  refine r_istore_n dX3_readDrift_12 (by decide) rfl ?_
  refine r_aload_n dX3_readDrift_13 rfl ?_
  obtain ⟨v14, hc14, hf⟩ := bd_of hf
  refine r_cVi (rest := []) (ct_X3_readSigned hs hE hT1 ho0 hc14) dX3_readDrift_14 wd_1038 zX3_readSigned wd_1040 wd_26 rfl  rfl rfl (fo3 ho0) rfl rfl ⟨Nat.le_of_ble_eq_true rfl, Nat.le_of_ble_eq_true rfl⟩ (Nat.le_of_ble_eq_true rfl) ⟨Nat.le_of_ble_eq_true rfl, Nat.le_of_ble_eq_true rfl⟩ ?_
  refine r_istore_n dX3_readDrift_17 (by decide) rfl ?_
  refine r_aload_n dX3_readDrift_18 rfl ?_
  obtain ⟨v19, hc19, hf⟩ := bd_of hf
  refine r_cVi (rest := []) (ct_X3_readSigned hs hE hT1 ho0 hc19) dX3_readDrift_19 wd_1038 zX3_readSigned wd_1040 wd_26 rfl  rfl rfl (fo3 ho0) rfl rfl ⟨Nat.le_of_ble_eq_true rfl, Nat.le_of_ble_eq_true rfl⟩ (Nat.le_of_ble_eq_true rfl) ⟨Nat.le_of_ble_eq_true rfl, Nat.le_of_ble_eq_true rfl⟩ ?_
  refine r_istore_n dX3_readDrift_22 (by decide) rfl ?_
  refine r_aload_n dX3_readDrift_23 rfl ?_
  refine g3_0 dX3_readDrift_24 wd_857 ho0 ?_
  refine r_if_ne (tgt := 62) dX3_readDrift_27 (by decide) (fun c27 => ?_) (fun c27 => ?_)
  · replace hf := if_f hf c27
    have hr := Option.some.inj hf
    subst hr
    exact r_vret dX3_readDrift_62 rfl (Nat.le_of_ble_eq_true rfl) (Nat.le_of_ble_eq_true rfl) ⟨rfl, rfl, rfl⟩
  · replace hf := if_t hf c27
    refine r_aload_n dX3_readDrift_30 rfl ?_
    refine r_dup dX3_readDrift_31 rfl ?_
    refine g3_11 dX3_readDrift_32 wd_870 ho0 ?_
    refine r_iconst (v := (1 : Int32)) dX3_readDrift_35 (by decide) ?_
    refine r_iload_n dX3_readDrift_36 rfl ?_
    refine r_ishl dX3_readDrift_37 ?_
    refine r_ior dX3_readDrift_38 ?_
    refine p3_11 dX3_readDrift_39 wd_870 ho0 ?_
    refine r_aload_n dX3_readDrift_42 rfl ?_
    refine g3_5 dX3_readDrift_43 wd_864 ho0 ?_
    refine g6_7 dX3_readDrift_46 wd_117 (gSt10 hE).1 ?_
    refine r_iload_n dX3_readDrift_49 rfl ?_
    refine r_iload_n dX3_readDrift_50 rfl ?_
    obtain ⟨h51, hf⟩ := gv_of hf
    refine a_iast dX3_readDrift_51 (gSt10 hE).2.2.2.2.2.2.1 h51 ?_
    refine r_aload_n dX3_readDrift_52 rfl ?_
    refine g3_5 dX3_readDrift_53 wd_864 ho0 ?_
    refine g6_8 dX3_readDrift_56 wd_119 (gSt10 hE).1 ?_
    refine r_iload_n dX3_readDrift_59 rfl ?_
    refine r_iload_n dX3_readDrift_60 rfl ?_
    obtain ⟨h61, hf⟩ := gv_of hf
    refine a_iast dX3_readDrift_61 (gSt10 hE).2.2.2.2.2.2.2 h61 ?_
    have hr := Option.some.inj hf
    subst hr
    exact r_vret dX3_readDrift_62 rfl (Nat.le_of_ble_eq_true rfl) (Nat.le_of_ble_eq_true rfl) ⟨rfl, rfl, rfl⟩
def L_X3_readSlit (n : Nat) (T1 o0 : Nat) : Nat → Nat → Int32 → Int32 → Int32 → Int32 → gI → Option (gI)
  | 0, _, _, _, _, _, _ => none
  | j + 1, 0, x1, x2, x3, x4, I => (if x3 < x4 then some I else L_X3_readSlit n T1 o0 j 0 x1 x2 x3 (x4 + (1 : Int32)) (sI I 10 1 ((I 10 1) ||| ((1 : Int32) <<< (x4 &&& 31)))))
  | _ + 1, _, _, _, _, _, _ => none
theorem L_X3_readSlit_e0 (n j : Nat) (T1 o0 : Nat) (x1 : Int32) (x2 : Int32) (x3 : Int32) (x4 : Int32) (I : gI) : L_X3_readSlit n T1 o0 (j + 1) 0 x1 x2 x3 x4 I = (if x3 < x4 then some I else L_X3_readSlit n T1 o0 j 0 x1 x2 x3 (x4 + (1 : Int32)) (sI I 10 1 ((I 10 1) ||| ((1 : Int32) <<< (x4 &&& 31))))) := rfl
set_option maxHeartbeats 4000000 in
set_option maxRecDepth 100000 in
theorem cL_X3_readSlit {G : gG} {lay : Nat → Nat × Nat} {T0 T1 : Nat} {Dd : Nat → Nat → UInt64} {J : gJ} {K : gI} {N : gJ} {sz n : Nat} {o0 : Nat} (hs : G.1.stackTraces = false) (hE : gLay lay) (hT1 : gTank lay T1) (ho0 : lay o0 = (3, 0)) : ∀ j : Nat, (∀ (x1 : Int32) (x2 : Int32) (x3 : Int32) (x4 : Int32) (I : gI) (r : gI), L_X3_readSlit n T1 o0 j 0 x1 x2 x3 x4 I = some r → gAt G mX3_readSlit (gQp G mX3_readSlit (gR none (fO G (lay, T0, T1, Dd) r J K N) sz)) 53 [some (.ref (G.2.2.1 + o0)), some (.int x1), some (.int x2), some (.int x3), some (.int x4)] [] (fO G (lay, T0, T1, Dd) I J K N) sz 0 0) := by
  intro j
  induction j with
  | zero => exact fun _ _ _ _ _ _ hf => (by cases hf)
  | succ j ih =>
    refine ?_
    · intro x1 x2 x3 x4 I r hf
      rw [L_X3_readSlit_e0] at hf
      refine r_iload dX3_readSlit_53 rfl ?_
      refine r_iload_n dX3_readSlit_55 rfl ?_
      refine r_icmp_gt (tgt := 81) dX3_readSlit_56 (by decide) (fun c56 => ?_) (fun c56 => ?_)
      · replace hf := if_t hf c56
        have hr := Option.some.inj hf
        subst hr
        exact r_vret dX3_readSlit_81 rfl (Nat.le_of_ble_eq_true rfl) (Nat.le_of_ble_eq_true rfl) ⟨rfl, rfl, rfl⟩
      · replace hf := if_f hf c56
        refine r_aload_n dX3_readSlit_59 rfl ?_
        refine g3_5 dX3_readSlit_60 wd_864 ho0 ?_
        refine r_dup dX3_readSlit_63 rfl ?_
        refine g6_1 dX3_readSlit_64 wd_92 (gSt10 hE).1 ?_
        refine r_iconst (v := (1 : Int32)) dX3_readSlit_67 (by decide) ?_
        refine r_iload dX3_readSlit_68 rfl ?_
        refine r_ishl dX3_readSlit_70 ?_
        refine r_ior dX3_readSlit_71 ?_
        refine p6_1 dX3_readSlit_72 wd_92 (gSt10 hE).1 ?_
        refine r_iincv (v := (x4 + (1 : Int32))) dX3_readSlit_75 rfl rfl (by decide) rfl ?_
        refine r_goto (tgt := 53) dX3_readSlit_78 (by decide) ?_
        exact r_widen (k2 := 0) (n2 := 0) (Nat.le_of_ble_eq_true rfl) (Nat.le_of_ble_eq_true rfl) (r_mask [true, true, true, true, true] rfl (ih x1 x2 x3 (x4 + (1 : Int32)) (sI I 10 1 ((I 10 1) ||| ((1 : Int32) <<< (x4 &&& 31)))) r hf))
def F_X3_readSlit (n : Nat) (T1 o0 : Nat) (I : gI) : Option (gI) := bd (F_X3_nextToken n T1 o0 I) (fun v1 => (if (v1 T1 4) = (-1 : Int32) then bd (F_X3_readNumber n T1 o0 v1 (0 : Int32) (-1 : Int32)) (fun v32 => bd (F_X3_readNumber n T1 o0 v32.2 v32.1 (-1 : Int32)) (fun v39 => (if (v39.2 o0 0) = 0 then L_X3_readSlit n T1 o0 n 0 (-1 : Int32) v32.1 v39.1 v32.1 v39.2 else some v39.2))) else bd (F_X3_readNumber n T1 o0 v1 (0 : Int32) ((v1 T1 2) - (1 : Int32))) (fun v32 => bd (F_X3_readNumber n T1 o0 v32.2 v32.1 ((v1 T1 2) - (1 : Int32))) (fun v39 => (if (v39.2 o0 0) = 0 then L_X3_readSlit n T1 o0 n 0 ((v1 T1 2) - (1 : Int32)) v32.1 v39.1 v32.1 v39.2 else some v39.2)))))
set_option maxHeartbeats 4000000 in
set_option maxRecDepth 100000 in
theorem ct_X3_readSlit {G : gG} {lay : Nat → Nat × Nat} {T0 T1 : Nat} {Dd : Nat → Nat → UInt64} {I : gI} {J : gJ} {K : gI} {N : gJ} {sz n : Nat} {o0 : Nat} (hs : G.1.stackTraces = false) (hE : gLay lay) (hT1 : gTank lay T1) (ho0 : lay o0 = (3, 0)) {r : gI} (hf : F_X3_readSlit n T1 o0 I = some r) : gCt G mX3_readSlit [.ref (G.2.2.1 + o0)] (fO G (lay, T0, T1, Dd) I J K N) sz (gR none (fO G (lay, T0, T1, Dd) r J K N) sz) := by
  unfold F_X3_readSlit at hf
  refine gCt.of [some (.ref (G.2.2.1 + o0)), none, none, none, none] (by decide +kernel) rfl hs rfl (Nat.le_of_ble_eq_true rfl) ?_
  refine r_aload_n dX3_readSlit_0 rfl ?_
  obtain ⟨v1, hc1, hf⟩ := bd_of hf
  refine r_cVv (rest := []) (ct_X3_nextToken hs hE hT1 ho0 hc1) dX3_readSlit_1 wd_910 zX3_nextToken wd_912 wd_9 rfl  rfl rfl (fo3 ho0) rfl rfl ⟨Nat.le_of_ble_eq_true rfl, Nat.le_of_ble_eq_true rfl⟩ (Nat.le_of_ble_eq_true rfl) ⟨Nat.le_of_ble_eq_true rfl, Nat.le_of_ble_eq_true rfl⟩ ?_
  refine r_aload_n dX3_readSlit_4 rfl ?_
  refine g3_4 dX3_readSlit_5 wd_863 ho0 ?_
  refine g7_4 dX3_readSlit_8 wd_306 hT1.1 ?_
  refine r_iconst (v := (-1 : Int32)) dX3_readSlit_11 (by decide) ?_
  refine r_icmp_ne (tgt := 19) dX3_readSlit_12 (by decide) (fun c12 => ?_) (fun c12 => ?_)
  · replace hf := if_f hf c12
    refine r_aload_n dX3_readSlit_19 rfl ?_
    refine g3_4 dX3_readSlit_20 wd_863 ho0 ?_
    refine g7_2 dX3_readSlit_23 wd_301 hT1.1 ?_
    refine r_iconst (v := (1 : Int32)) dX3_readSlit_26 (by decide) ?_
    refine r_isub dX3_readSlit_27 ?_
    refine r_istore_n dX3_readSlit_28 (by decide) rfl ?_
    refine r_aload_n dX3_readSlit_29 rfl ?_
    refine r_iconst (v := (0 : Int32)) dX3_readSlit_30 (by decide) ?_
    refine r_iload_n dX3_readSlit_31 rfl ?_
    obtain ⟨v32, hc32, hf⟩ := bd_of hf
    refine r_cVi (rest := []) (ct_X3_readNumber hs hE hT1 ho0 hc32) dX3_readSlit_32 wd_995 zX3_readNumber wd_997 wd_17 rfl  rfl rfl (fo3 ho0) rfl rfl ⟨Nat.le_of_ble_eq_true rfl, Nat.le_of_ble_eq_true rfl⟩ (Nat.le_of_ble_eq_true rfl) ⟨Nat.le_of_ble_eq_true rfl, Nat.le_of_ble_eq_true rfl⟩ ?_
    refine r_istore_n dX3_readSlit_35 (by decide) rfl ?_
    refine r_aload_n dX3_readSlit_36 rfl ?_
    refine r_iload_n dX3_readSlit_37 rfl ?_
    refine r_iload_n dX3_readSlit_38 rfl ?_
    obtain ⟨v39, hc39, hf⟩ := bd_of hf
    refine r_cVi (rest := []) (ct_X3_readNumber hs hE hT1 ho0 hc39) dX3_readSlit_39 wd_995 zX3_readNumber wd_997 wd_17 rfl  rfl rfl (fo3 ho0) rfl rfl ⟨Nat.le_of_ble_eq_true rfl, Nat.le_of_ble_eq_true rfl⟩ (Nat.le_of_ble_eq_true rfl) ⟨Nat.le_of_ble_eq_true rfl, Nat.le_of_ble_eq_true rfl⟩ ?_
    refine r_istore_n dX3_readSlit_42 (by decide) rfl ?_
    refine r_aload_n dX3_readSlit_43 rfl ?_
    refine g3_0 dX3_readSlit_44 wd_857 ho0 ?_
    refine r_if_ne (tgt := 81) dX3_readSlit_47 (by decide) (fun c47 => ?_) (fun c47 => ?_)
    · replace hf := if_f hf c47
      have hr := Option.some.inj hf
      subst hr
      exact r_vret dX3_readSlit_81 rfl (Nat.le_of_ble_eq_true rfl) (Nat.le_of_ble_eq_true rfl) ⟨rfl, rfl, rfl⟩
    · replace hf := if_t hf c47
      refine r_iload_n dX3_readSlit_50 rfl ?_
      refine r_istore dX3_readSlit_51 (by decide) rfl ?_
      exact r_widen (k2 := 0) (n2 := 0) (Nat.le_of_ble_eq_true rfl) (Nat.le_of_ble_eq_true rfl) (r_mask [true, true, true, true, true] rfl ((cL_X3_readSlit hs hE hT1 ho0 n) ((v1 T1 2) - (1 : Int32)) v32.1 v39.1 v32.1 v39.2 r hf))
  · replace hf := if_t hf c12
    refine r_iconst (v := (-1 : Int32)) dX3_readSlit_15 (by decide) ?_
    refine r_goto (tgt := 28) dX3_readSlit_16 (by decide) ?_
    refine r_istore_n dX3_readSlit_28 (by decide) rfl ?_
    refine r_aload_n dX3_readSlit_29 rfl ?_
    refine r_iconst (v := (0 : Int32)) dX3_readSlit_30 (by decide) ?_
    refine r_iload_n dX3_readSlit_31 rfl ?_
    obtain ⟨v32, hc32, hf⟩ := bd_of hf
    refine r_cVi (rest := []) (ct_X3_readNumber hs hE hT1 ho0 hc32) dX3_readSlit_32 wd_995 zX3_readNumber wd_997 wd_17 rfl  rfl rfl (fo3 ho0) rfl rfl ⟨Nat.le_of_ble_eq_true rfl, Nat.le_of_ble_eq_true rfl⟩ (Nat.le_of_ble_eq_true rfl) ⟨Nat.le_of_ble_eq_true rfl, Nat.le_of_ble_eq_true rfl⟩ ?_
    refine r_istore_n dX3_readSlit_35 (by decide) rfl ?_
    refine r_aload_n dX3_readSlit_36 rfl ?_
    refine r_iload_n dX3_readSlit_37 rfl ?_
    refine r_iload_n dX3_readSlit_38 rfl ?_
    obtain ⟨v39, hc39, hf⟩ := bd_of hf
    refine r_cVi (rest := []) (ct_X3_readNumber hs hE hT1 ho0 hc39) dX3_readSlit_39 wd_995 zX3_readNumber wd_997 wd_17 rfl  rfl rfl (fo3 ho0) rfl rfl ⟨Nat.le_of_ble_eq_true rfl, Nat.le_of_ble_eq_true rfl⟩ (Nat.le_of_ble_eq_true rfl) ⟨Nat.le_of_ble_eq_true rfl, Nat.le_of_ble_eq_true rfl⟩ ?_
    refine r_istore_n dX3_readSlit_42 (by decide) rfl ?_
    refine r_aload_n dX3_readSlit_43 rfl ?_
    refine g3_0 dX3_readSlit_44 wd_857 ho0 ?_
    refine r_if_ne (tgt := 81) dX3_readSlit_47 (by decide) (fun c47 => ?_) (fun c47 => ?_)
    · replace hf := if_f hf c47
      have hr := Option.some.inj hf
      subst hr
      exact r_vret dX3_readSlit_81 rfl (Nat.le_of_ble_eq_true rfl) (Nat.le_of_ble_eq_true rfl) ⟨rfl, rfl, rfl⟩
    · replace hf := if_t hf c47
      refine r_iload_n dX3_readSlit_50 rfl ?_
      refine r_istore dX3_readSlit_51 (by decide) rfl ?_
      exact r_widen (k2 := 0) (n2 := 0) (Nat.le_of_ble_eq_true rfl) (Nat.le_of_ble_eq_true rfl) (r_mask [true, true, true, true, true] rfl ((cL_X3_readSlit hs hE hT1 ho0 n) (-1 : Int32) v32.1 v39.1 v32.1 v39.2 r hf))
def F_X3_readOff (n : Nat) (T1 o0 : Nat) (I : gI) : Option (gI) := bd (F_X3_nextToken n T1 o0 I) (fun v1 => bd (F_X3_readSource n T1 o0 v1 (v1 o0 12)) (fun v9 => (if (v9.2 o0 0) = 0 then gv v9.1 4 (some (sI (sI v9.2 o0 12 ((v9.2 o0 12) ||| ((1 : Int32) <<< (v9.1 &&& 31)))) (10 + 1) (Int32.toNatClampNeg v9.1) (0 : Int32))) else some v9.2)))
set_option maxHeartbeats 4000000 in
set_option maxRecDepth 100000 in
theorem ct_X3_readOff {G : gG} {lay : Nat → Nat × Nat} {T0 T1 : Nat} {Dd : Nat → Nat → UInt64} {I : gI} {J : gJ} {K : gI} {N : gJ} {sz n : Nat} {o0 : Nat} (hs : G.1.stackTraces = false) (hE : gLay lay) (hT1 : gTank lay T1) (ho0 : lay o0 = (3, 0)) {r : gI} (hf : F_X3_readOff n T1 o0 I = some r) : gCt G mX3_readOff [.ref (G.2.2.1 + o0)] (fO G (lay, T0, T1, Dd) I J K N) sz (gR none (fO G (lay, T0, T1, Dd) r J K N) sz) := by
  unfold F_X3_readOff at hf
  refine gCt.of [some (.ref (G.2.2.1 + o0)), none] (by decide +kernel) rfl hs rfl (Nat.le_of_ble_eq_true rfl) ?_
  refine r_aload_n dX3_readOff_0 rfl ?_
  obtain ⟨v1, hc1, hf⟩ := bd_of hf
  refine r_cVv (rest := []) (ct_X3_nextToken hs hE hT1 ho0 hc1) dX3_readOff_1 wd_910 zX3_nextToken wd_912 wd_9 rfl  rfl rfl (fo3 ho0) rfl rfl ⟨Nat.le_of_ble_eq_true rfl, Nat.le_of_ble_eq_true rfl⟩ (Nat.le_of_ble_eq_true rfl) ⟨Nat.le_of_ble_eq_true rfl, Nat.le_of_ble_eq_true rfl⟩ ?_
  refine r_aload_n dX3_readOff_4 rfl ?_
  refine r_aload_n dX3_readOff_5 rfl ?_
  refine g3_12 dX3_readOff_6 wd_871 ho0 ?_
  obtain ⟨v9, hc9, hf⟩ := bd_of hf
  refine r_cVi (rest := []) (ct_X3_readSource hs hE hT1 ho0 hc9) dX3_readOff_9 wd_1034 zX3_readSource wd_1036 wd_25 rfl  rfl rfl (fo3 ho0) rfl rfl ⟨Nat.le_of_ble_eq_true rfl, Nat.le_of_ble_eq_true rfl⟩ (Nat.le_of_ble_eq_true rfl) ⟨Nat.le_of_ble_eq_true rfl, Nat.le_of_ble_eq_true rfl⟩ ?_
  refine r_istore_n dX3_readOff_12 (by decide) rfl ?_
  refine r_aload_n dX3_readOff_13 rfl ?_
  refine g3_0 dX3_readOff_14 wd_857 ho0 ?_
  refine r_if_ne (tgt := 42) dX3_readOff_17 (by decide) (fun c17 => ?_) (fun c17 => ?_)
  · replace hf := if_f hf c17
    have hr := Option.some.inj hf
    subst hr
    exact r_vret dX3_readOff_42 rfl (Nat.le_of_ble_eq_true rfl) (Nat.le_of_ble_eq_true rfl) ⟨rfl, rfl, rfl⟩
  · replace hf := if_t hf c17
    refine r_aload_n dX3_readOff_20 rfl ?_
    refine r_dup dX3_readOff_21 rfl ?_
    refine g3_12 dX3_readOff_22 wd_871 ho0 ?_
    refine r_iconst (v := (1 : Int32)) dX3_readOff_25 (by decide) ?_
    refine r_iload_n dX3_readOff_26 rfl ?_
    refine r_ishl dX3_readOff_27 ?_
    refine r_ior dX3_readOff_28 ?_
    refine p3_12 dX3_readOff_29 wd_871 ho0 ?_
    refine r_aload_n dX3_readOff_32 rfl ?_
    refine g3_5 dX3_readOff_33 wd_864 ho0 ?_
    refine g6_2 dX3_readOff_36 wd_96 (gSt10 hE).1 ?_
    refine r_iload_n dX3_readOff_39 rfl ?_
    refine r_iconst (v := (0 : Int32)) dX3_readOff_40 (by decide) ?_
    obtain ⟨h41, hf⟩ := gv_of hf
    refine a_zastb dX3_readOff_41 (gSt10 hE).2.1 h41 (by decide) ?_
    have hr := Option.some.inj hf
    subst hr
    exact r_vret dX3_readOff_42 rfl (Nat.le_of_ble_eq_true rfl) (Nat.le_of_ble_eq_true rfl) ⟨rfl, rfl, rfl⟩
def L_X3_readSide (n : Nat) (T1 o0 : Nat) : Nat → Nat → Int32 → gI → Option (Int32 × gI)
  | 0, _, _, _ => none
  | j + 1, 0, x1, I => (if x1 = (-1 : Int32) then bd (F_X3_fail n T1 o0 I (1 : Int32)) (fun v66 => some (x1, v66)) else gv x1 4 ((if (I (T1 + 5) (Int32.toNatClampNeg x1)) ≤ 0 then bd (F_X3_nextToken n T1 o0 I) (fun v93 => some (x1, v93)) else bd (F_X3_fail n T1 o0 I (3 : Int32)) (fun v86 => some (x1, v86)))))
  | _ + 1, _, _, _ => none
theorem L_X3_readSide_e0 (n j : Nat) (T1 o0 : Nat) (x1 : Int32) (I : gI) : L_X3_readSide n T1 o0 (j + 1) 0 x1 I = (if x1 = (-1 : Int32) then bd (F_X3_fail n T1 o0 I (1 : Int32)) (fun v66 => some (x1, v66)) else gv x1 4 ((if (I (T1 + 5) (Int32.toNatClampNeg x1)) ≤ 0 then bd (F_X3_nextToken n T1 o0 I) (fun v93 => some (x1, v93)) else bd (F_X3_fail n T1 o0 I (3 : Int32)) (fun v86 => some (x1, v86))))) := rfl
set_option maxHeartbeats 4000000 in
set_option maxRecDepth 100000 in
theorem cL_X3_readSide {G : gG} {lay : Nat → Nat × Nat} {T0 T1 : Nat} {Dd : Nat → Nat → UInt64} {J : gJ} {K : gI} {N : gJ} {sz n : Nat} {o0 : Nat} (hs : G.1.stackTraces = false) (hE : gLay lay) (hT1 : gTank lay T1) (ho0 : lay o0 = (3, 0)) : ∀ j : Nat, (∀ (x1 : Int32) (I : gI) (r : Int32 × gI), L_X3_readSide n T1 o0 j 0 x1 I = some r → gAt G mX3_readSide (gQp G mX3_readSide (gR (some (.int r.1)) (fO G (lay, T0, T1, Dd) r.2 J K N) sz)) 59 [some (.ref (G.2.2.1 + o0)), some (.int x1)] [] (fO G (lay, T0, T1, Dd) I J K N) sz 0 0) := by
  intro j
  induction j with
  | zero => exact fun _ _ _ hf => (by cases hf)
  | succ j ih =>
    refine ?_
    · intro x1 I r hf
      rw [L_X3_readSide_e0] at hf
      refine r_iload_n dX3_readSide_59 rfl ?_
      refine r_iconst (v := (-1 : Int32)) dX3_readSide_60 (by decide) ?_
      refine r_icmp_ne (tgt := 72) dX3_readSide_61 (by decide) (fun c61 => ?_) (fun c61 => ?_)
      · replace hf := if_f hf c61
        refine r_aload_n dX3_readSide_72 rfl ?_
        refine g3_4 dX3_readSide_73 wd_863 ho0 ?_
        refine g7_12 dX3_readSide_76 wd_328 hT1.1 ?_
        refine r_iload_n dX3_readSide_79 rfl ?_
        obtain ⟨h80, hf⟩ := gv_of hf
        refine a_iald dX3_readSide_80 hT1.2.2.2.2.2.1 h80 ?_
        refine r_if_le (tgt := 92) dX3_readSide_81 (by decide) (fun c81 => ?_) (fun c81 => ?_)
        · replace hf := if_t hf c81
          refine r_aload_n dX3_readSide_92 rfl ?_
          obtain ⟨v93, hc93, hf⟩ := bd_of hf
          refine r_cVv (rest := []) (ct_X3_nextToken hs hE hT1 ho0 hc93) dX3_readSide_93 wd_910 zX3_nextToken wd_912 wd_9 rfl  rfl rfl (fo3 ho0) rfl rfl ⟨Nat.le_of_ble_eq_true rfl, Nat.le_of_ble_eq_true rfl⟩ (Nat.le_of_ble_eq_true rfl) ⟨Nat.le_of_ble_eq_true rfl, Nat.le_of_ble_eq_true rfl⟩ ?_
          refine r_iload_n dX3_readSide_96 rfl ?_
          have hr := Option.some.inj hf
          subst hr
          exact r_iret dX3_readSide_97 rfl (Nat.le_of_ble_eq_true rfl) (Nat.le_of_ble_eq_true rfl) ⟨rfl, rfl, rfl⟩
        · replace hf := if_f hf c81
          refine r_aload_n dX3_readSide_84 rfl ?_
          refine r_iconst (v := (3 : Int32)) dX3_readSide_85 (by decide) ?_
          obtain ⟨v86, hc86, hf⟩ := bd_of hf
          refine r_cVv (rest := []) (ct_X3_fail hs hE hT1 ho0 hc86) dX3_readSide_86 wd_990 zX3_fail wd_992 wd_16 rfl  rfl rfl (fo3 ho0) rfl rfl ⟨Nat.le_of_ble_eq_true rfl, Nat.le_of_ble_eq_true rfl⟩ (Nat.le_of_ble_eq_true rfl) ⟨Nat.le_of_ble_eq_true rfl, Nat.le_of_ble_eq_true rfl⟩ ?_
          refine r_goto (tgt := 96) dX3_readSide_89 (by decide) ?_
          refine r_iload_n dX3_readSide_96 rfl ?_
          have hr := Option.some.inj hf
          subst hr
          exact r_iret dX3_readSide_97 rfl (Nat.le_of_ble_eq_true rfl) (Nat.le_of_ble_eq_true rfl) ⟨rfl, rfl, rfl⟩
      · replace hf := if_t hf c61
        refine r_aload_n dX3_readSide_64 rfl ?_
        refine r_iconst (v := (1 : Int32)) dX3_readSide_65 (by decide) ?_
        obtain ⟨v66, hc66, hf⟩ := bd_of hf
        refine r_cVv (rest := []) (ct_X3_fail hs hE hT1 ho0 hc66) dX3_readSide_66 wd_990 zX3_fail wd_992 wd_16 rfl  rfl rfl (fo3 ho0) rfl rfl ⟨Nat.le_of_ble_eq_true rfl, Nat.le_of_ble_eq_true rfl⟩ (Nat.le_of_ble_eq_true rfl) ⟨Nat.le_of_ble_eq_true rfl, Nat.le_of_ble_eq_true rfl⟩ ?_
        refine r_goto (tgt := 96) dX3_readSide_69 (by decide) ?_
        refine r_iload_n dX3_readSide_96 rfl ?_
        have hr := Option.some.inj hf
        subst hr
        exact r_iret dX3_readSide_97 rfl (Nat.le_of_ble_eq_true rfl) (Nat.le_of_ble_eq_true rfl) ⟨rfl, rfl, rfl⟩
def F_X3_readSide (n : Nat) (T1 o0 : Nat) (I : gI) : Option (Int32 × gI) := bd (F_X3_isWord n T1 o0 22 I) (fun v6 => (if v6 = 0 then bd (F_X3_isWord n T1 o0 23 I) (fun v21 => (if v21 = 0 then bd (F_X3_isWord n T1 o0 24 I) (fun v36 => (if v36 = 0 then bd (F_X3_isWord n T1 o0 25 I) (fun v51 => (if v51 = 0 then L_X3_readSide n T1 o0 n 0 (-1 : Int32) I else L_X3_readSide n T1 o0 n 0 (3 : Int32) I)) else L_X3_readSide n T1 o0 n 0 (2 : Int32) I)) else L_X3_readSide n T1 o0 n 0 (1 : Int32) I)) else L_X3_readSide n T1 o0 n 0 (0 : Int32) I))
set_option maxHeartbeats 4000000 in
set_option maxRecDepth 100000 in
theorem ct_X3_readSide {G : gG} {lay : Nat → Nat × Nat} {T0 T1 : Nat} {Dd : Nat → Nat → UInt64} {I : gI} {J : gJ} {K : gI} {N : gJ} {sz n : Nat} {o0 : Nat} (hs : G.1.stackTraces = false) (hE : gLay lay) (hT1 : gTank lay T1) (ho0 : lay o0 = (3, 0)) {r : Int32 × gI} (hf : F_X3_readSide n T1 o0 I = some r) : gCt G mX3_readSide [.ref (G.2.2.1 + o0)] (fO G (lay, T0, T1, Dd) I J K N) sz (gR (some (.int r.1)) (fO G (lay, T0, T1, Dd) r.2 J K N) sz) := by
  unfold F_X3_readSide at hf
  refine gCt.of [some (.ref (G.2.2.1 + o0)), none] (by decide +kernel) rfl hs rfl (Nat.le_of_ble_eq_true rfl) ?_
  refine r_iconst (v := (-1 : Int32)) dX3_readSide_0 (by decide) ?_
  refine r_istore_n dX3_readSide_1 (by decide) rfl ?_
  refine r_aload_n dX3_readSide_2 rfl ?_
  refine r_ldcSW (i := 22) dX3_readSide_3 (List.mem_of_getElem? (i := 22) rfl) ?_
  obtain ⟨v6, hc6, hf⟩ := bd_of hf
  refine r_cVi (rest := []) (ct_X3_isWord hs hE hT1 ho0 (by decide) hc6) dX3_readSide_6 wd_938 zX3_isWord wd_940 wd_15 rfl  rfl rfl (fo3 ho0) rfl rfl ⟨Nat.le_of_ble_eq_true rfl, Nat.le_of_ble_eq_true rfl⟩ (Nat.le_of_ble_eq_true rfl) ⟨Nat.le_of_ble_eq_true rfl, Nat.le_of_ble_eq_true rfl⟩ ?_
  refine r_if_eq (tgt := 17) dX3_readSide_9 (by decide) (fun c9 => ?_) (fun c9 => ?_)
  · replace hf := if_t hf c9
    refine r_aload_n dX3_readSide_17 rfl ?_
    refine r_ldcSW (i := 23) dX3_readSide_18 (List.mem_of_getElem? (i := 23) rfl) ?_
    obtain ⟨v21, hc21, hf⟩ := bd_of hf
    refine r_cVi (rest := []) (ct_X3_isWord hs hE hT1 ho0 (by decide) hc21) dX3_readSide_21 wd_938 zX3_isWord wd_940 wd_15 rfl  rfl rfl (fo3 ho0) rfl rfl ⟨Nat.le_of_ble_eq_true rfl, Nat.le_of_ble_eq_true rfl⟩ (Nat.le_of_ble_eq_true rfl) ⟨Nat.le_of_ble_eq_true rfl, Nat.le_of_ble_eq_true rfl⟩ ?_
    refine r_if_eq (tgt := 32) dX3_readSide_24 (by decide) (fun c24 => ?_) (fun c24 => ?_)
    · replace hf := if_t hf c24
      refine r_aload_n dX3_readSide_32 rfl ?_
      refine r_ldcSW (i := 24) dX3_readSide_33 (List.mem_of_getElem? (i := 24) rfl) ?_
      obtain ⟨v36, hc36, hf⟩ := bd_of hf
      refine r_cVi (rest := []) (ct_X3_isWord hs hE hT1 ho0 (by decide) hc36) dX3_readSide_36 wd_938 zX3_isWord wd_940 wd_15 rfl  rfl rfl (fo3 ho0) rfl rfl ⟨Nat.le_of_ble_eq_true rfl, Nat.le_of_ble_eq_true rfl⟩ (Nat.le_of_ble_eq_true rfl) ⟨Nat.le_of_ble_eq_true rfl, Nat.le_of_ble_eq_true rfl⟩ ?_
      refine r_if_eq (tgt := 47) dX3_readSide_39 (by decide) (fun c39 => ?_) (fun c39 => ?_)
      · replace hf := if_t hf c39
        refine r_aload_n dX3_readSide_47 rfl ?_
        refine r_ldcSW (i := 25) dX3_readSide_48 (List.mem_of_getElem? (i := 25) rfl) ?_
        obtain ⟨v51, hc51, hf⟩ := bd_of hf
        refine r_cVi (rest := []) (ct_X3_isWord hs hE hT1 ho0 (by decide) hc51) dX3_readSide_51 wd_938 zX3_isWord wd_940 wd_15 rfl  rfl rfl (fo3 ho0) rfl rfl ⟨Nat.le_of_ble_eq_true rfl, Nat.le_of_ble_eq_true rfl⟩ (Nat.le_of_ble_eq_true rfl) ⟨Nat.le_of_ble_eq_true rfl, Nat.le_of_ble_eq_true rfl⟩ ?_
        refine r_if_eq (tgt := 59) dX3_readSide_54 (by decide) (fun c54 => ?_) (fun c54 => ?_)
        · replace hf := if_t hf c54
          exact r_widen (k2 := 0) (n2 := 0) (Nat.le_of_ble_eq_true rfl) (Nat.le_of_ble_eq_true rfl) (r_mask [true, true] rfl ((cL_X3_readSide hs hE hT1 ho0 n) (-1 : Int32) I r hf))
        · replace hf := if_f hf c54
          refine r_iconst (v := (3 : Int32)) dX3_readSide_57 (by decide) ?_
          refine r_istore_n dX3_readSide_58 (by decide) rfl ?_
          exact r_widen (k2 := 0) (n2 := 0) (Nat.le_of_ble_eq_true rfl) (Nat.le_of_ble_eq_true rfl) (r_mask [true, true] rfl ((cL_X3_readSide hs hE hT1 ho0 n) (3 : Int32) I r hf))
      · replace hf := if_f hf c39
        refine r_iconst (v := (2 : Int32)) dX3_readSide_42 (by decide) ?_
        refine r_istore_n dX3_readSide_43 (by decide) rfl ?_
        refine r_goto (tgt := 59) dX3_readSide_44 (by decide) ?_
        exact r_widen (k2 := 0) (n2 := 0) (Nat.le_of_ble_eq_true rfl) (Nat.le_of_ble_eq_true rfl) (r_mask [true, true] rfl ((cL_X3_readSide hs hE hT1 ho0 n) (2 : Int32) I r hf))
    · replace hf := if_f hf c24
      refine r_iconst (v := (1 : Int32)) dX3_readSide_27 (by decide) ?_
      refine r_istore_n dX3_readSide_28 (by decide) rfl ?_
      refine r_goto (tgt := 59) dX3_readSide_29 (by decide) ?_
      exact r_widen (k2 := 0) (n2 := 0) (Nat.le_of_ble_eq_true rfl) (Nat.le_of_ble_eq_true rfl) (r_mask [true, true] rfl ((cL_X3_readSide hs hE hT1 ho0 n) (1 : Int32) I r hf))
  · replace hf := if_f hf c9
    refine r_iconst (v := (0 : Int32)) dX3_readSide_12 (by decide) ?_
    refine r_istore_n dX3_readSide_13 (by decide) rfl ?_
    refine r_goto (tgt := 59) dX3_readSide_14 (by decide) ?_
    exact r_widen (k2 := 0) (n2 := 0) (Nat.le_of_ble_eq_true rfl) (Nat.le_of_ble_eq_true rfl) (r_mask [true, true] rfl ((cL_X3_readSide hs hE hT1 ho0 n) (0 : Int32) I r hf))
def F_X3_readMirror (n : Nat) (T1 o0 : Nat) (I : gI) : Option (gI) := bd (F_X3_nextToken n T1 o0 I) (fun v1 => bd (F_X3_readSide n T1 o0 v1) (fun v5 => bd (F_X3_readNumber n T1 o0 v5.2 (1 : Int32) (100 : Int32)) (fun v13 => (if (v13.2 o0 0) = 0 then gv v5.1 4 (some (sI v13.2 (T1 + 5) (Int32.toNatClampNeg v5.1) v13.1)) else some v13.2))))
set_option maxHeartbeats 4000000 in
set_option maxRecDepth 100000 in
theorem ct_X3_readMirror {G : gG} {lay : Nat → Nat × Nat} {T0 T1 : Nat} {Dd : Nat → Nat → UInt64} {I : gI} {J : gJ} {K : gI} {N : gJ} {sz n : Nat} {o0 : Nat} (hs : G.1.stackTraces = false) (hE : gLay lay) (hT1 : gTank lay T1) (ho0 : lay o0 = (3, 0)) {r : gI} (hf : F_X3_readMirror n T1 o0 I = some r) : gCt G mX3_readMirror [.ref (G.2.2.1 + o0)] (fO G (lay, T0, T1, Dd) I J K N) sz (gR none (fO G (lay, T0, T1, Dd) r J K N) sz) := by
  unfold F_X3_readMirror at hf
  refine gCt.of [some (.ref (G.2.2.1 + o0)), none, none] (by decide +kernel) rfl hs rfl (Nat.le_of_ble_eq_true rfl) ?_
  refine r_aload_n dX3_readMirror_0 rfl ?_
  obtain ⟨v1, hc1, hf⟩ := bd_of hf
  refine r_cVv (rest := []) (ct_X3_nextToken hs hE hT1 ho0 hc1) dX3_readMirror_1 wd_910 zX3_nextToken wd_912 wd_9 rfl  rfl rfl (fo3 ho0) rfl rfl ⟨Nat.le_of_ble_eq_true rfl, Nat.le_of_ble_eq_true rfl⟩ (Nat.le_of_ble_eq_true rfl) ⟨Nat.le_of_ble_eq_true rfl, Nat.le_of_ble_eq_true rfl⟩ ?_
  refine r_aload_n dX3_readMirror_4 rfl ?_
  obtain ⟨v5, hc5, hf⟩ := bd_of hf
  refine r_cVi (rest := []) (ct_X3_readSide hs hE hT1 ho0 hc5) dX3_readMirror_5 wd_1057 zX3_readSide wd_1059 wd_30 rfl  rfl rfl (fo3 ho0) rfl rfl ⟨Nat.le_of_ble_eq_true rfl, Nat.le_of_ble_eq_true rfl⟩ (Nat.le_of_ble_eq_true rfl) ⟨Nat.le_of_ble_eq_true rfl, Nat.le_of_ble_eq_true rfl⟩ ?_
  refine r_istore_n dX3_readMirror_8 (by decide) rfl ?_
  refine r_aload_n dX3_readMirror_9 rfl ?_
  refine r_iconst (v := (1 : Int32)) dX3_readMirror_10 (by decide) ?_
  refine r_bipush (v := (100 : Int32)) dX3_readMirror_11 (by decide) ?_
  obtain ⟨v13, hc13, hf⟩ := bd_of hf
  refine r_cVi (rest := []) (ct_X3_readNumber hs hE hT1 ho0 hc13) dX3_readMirror_13 wd_995 zX3_readNumber wd_997 wd_17 rfl  rfl rfl (fo3 ho0) rfl rfl ⟨Nat.le_of_ble_eq_true rfl, Nat.le_of_ble_eq_true rfl⟩ (Nat.le_of_ble_eq_true rfl) ⟨Nat.le_of_ble_eq_true rfl, Nat.le_of_ble_eq_true rfl⟩ ?_
  refine r_istore_n dX3_readMirror_16 (by decide) rfl ?_
  refine r_aload_n dX3_readMirror_17 rfl ?_
  refine g3_0 dX3_readMirror_18 wd_857 ho0 ?_
  refine r_if_ne (tgt := 34) dX3_readMirror_21 (by decide) (fun c21 => ?_) (fun c21 => ?_)
  · replace hf := if_f hf c21
    have hr := Option.some.inj hf
    subst hr
    exact r_vret dX3_readMirror_34 rfl (Nat.le_of_ble_eq_true rfl) (Nat.le_of_ble_eq_true rfl) ⟨rfl, rfl, rfl⟩
  · replace hf := if_t hf c21
    refine r_aload_n dX3_readMirror_24 rfl ?_
    refine g3_4 dX3_readMirror_25 wd_863 ho0 ?_
    refine g7_12 dX3_readMirror_28 wd_328 hT1.1 ?_
    refine r_iload_n dX3_readMirror_31 rfl ?_
    refine r_iload_n dX3_readMirror_32 rfl ?_
    obtain ⟨h33, hf⟩ := gv_of hf
    refine a_iast dX3_readMirror_33 hT1.2.2.2.2.2.1 h33 ?_
    have hr := Option.some.inj hf
    subst hr
    exact r_vret dX3_readMirror_34 rfl (Nat.le_of_ble_eq_true rfl) (Nat.le_of_ble_eq_true rfl) ⟨rfl, rfl, rfl⟩
def F_X3_readCut (n : Nat) (T1 o0 : Nat) (I : gI) : Option (gI) := bd (F_X3_startCounted n T1 o0 I (I o0 10) (6 : Int32)) (fun v7 => (if v7.1 = 0 then some v7.2 else bd (F_X3_readSource n T1 o0 v7.2 (0 : Int32)) (fun v16 => bd (F_X3_readNumber n T1 o0 v16.2 (0 : Int32) (9999 : Int32)) (fun v25 => bd (F_X3_readNumber n T1 o0 v25.2 v25.1 (9999 : Int32)) (fun v34 => (if (v34.2 o0 0) = 0 then gv v16.1 4 (bd (F_X8_addCut n ((T1 + 1) + 5 + 3 * (Int32.toNatClampNeg v16.1)) v34.2 v25.1 v34.1) (fun v56 => some (sI v56 o0 10 ((v56 o0 10) + (1 : Int32))))) else some v34.2))))))
set_option maxHeartbeats 4000000 in
set_option maxRecDepth 100000 in
theorem ct_X3_readCut {G : gG} {lay : Nat → Nat × Nat} {T0 T1 : Nat} {Dd : Nat → Nat → UInt64} {I : gI} {J : gJ} {K : gI} {N : gJ} {sz n : Nat} {o0 : Nat} (hs : G.1.stackTraces = false) (hE : gLay lay) (hT1 : gTank lay T1) (ho0 : lay o0 = (3, 0)) {r : gI} (hf : F_X3_readCut n T1 o0 I = some r) : gCt G mX3_readCut [.ref (G.2.2.1 + o0)] (fO G (lay, T0, T1, Dd) I J K N) sz (gR none (fO G (lay, T0, T1, Dd) r J K N) sz) := by
  unfold F_X3_readCut at hf
  refine gCt.of [some (.ref (G.2.2.1 + o0)), none, none, none] (by decide +kernel) rfl hs rfl (Nat.le_of_ble_eq_true rfl) ?_
  refine r_aload_n dX3_readCut_0 rfl ?_
  refine r_aload_n dX3_readCut_1 rfl ?_
  refine g3_10 dX3_readCut_2 wd_869 ho0 ?_
  refine r_bipush (v := (6 : Int32)) dX3_readCut_5 (by decide) ?_
  obtain ⟨v7, hc7, hf⟩ := bd_of hf
  refine r_cVi (rest := []) (ct_X3_startCounted hs hE hT1 ho0 hc7) dX3_readCut_7 wd_1015 zX3_startCounted wd_1017 wd_21 rfl  rfl rfl (fo3 ho0) rfl rfl ⟨Nat.le_of_ble_eq_true rfl, Nat.le_of_ble_eq_true rfl⟩ (Nat.le_of_ble_eq_true rfl) ⟨Nat.le_of_ble_eq_true rfl, Nat.le_of_ble_eq_true rfl⟩ ?_
  refine r_if_ne (tgt := 14) dX3_readCut_10 (by decide) (fun c10 => ?_) (fun c10 => ?_)
  · replace hf := if_f hf c10
    refine r_aload_n dX3_readCut_14 rfl ?_
    refine r_iconst (v := (0 : Int32)) dX3_readCut_15 (by decide) ?_
    obtain ⟨v16, hc16, hf⟩ := bd_of hf
    refine r_cVi (rest := []) (ct_X3_readSource hs hE hT1 ho0 hc16) dX3_readCut_16 wd_1034 zX3_readSource wd_1036 wd_25 rfl  rfl rfl (fo3 ho0) rfl rfl ⟨Nat.le_of_ble_eq_true rfl, Nat.le_of_ble_eq_true rfl⟩ (Nat.le_of_ble_eq_true rfl) ⟨Nat.le_of_ble_eq_true rfl, Nat.le_of_ble_eq_true rfl⟩ ?_
    refine r_istore_n dX3_readCut_19 (by decide) rfl ?_
    refine r_aload_n dX3_readCut_20 rfl ?_
    refine r_iconst (v := (0 : Int32)) dX3_readCut_21 (by decide) ?_
    refine r_sipush (v := (9999 : Int32)) dX3_readCut_22 (by decide) ?_
    obtain ⟨v25, hc25, hf⟩ := bd_of hf
    refine r_cVi (rest := []) (ct_X3_readNumber hs hE hT1 ho0 hc25) dX3_readCut_25 wd_995 zX3_readNumber wd_997 wd_17 rfl  rfl rfl (fo3 ho0) rfl rfl ⟨Nat.le_of_ble_eq_true rfl, Nat.le_of_ble_eq_true rfl⟩ (Nat.le_of_ble_eq_true rfl) ⟨Nat.le_of_ble_eq_true rfl, Nat.le_of_ble_eq_true rfl⟩ ?_
    refine r_istore_n dX3_readCut_28 (by decide) rfl ?_
    refine r_aload_n dX3_readCut_29 rfl ?_
    refine r_iload_n dX3_readCut_30 rfl ?_
    refine r_sipush (v := (9999 : Int32)) dX3_readCut_31 (by decide) ?_
    obtain ⟨v34, hc34, hf⟩ := bd_of hf
    refine r_cVi (rest := []) (ct_X3_readNumber hs hE hT1 ho0 hc34) dX3_readCut_34 wd_995 zX3_readNumber wd_997 wd_17 rfl  rfl rfl (fo3 ho0) rfl rfl ⟨Nat.le_of_ble_eq_true rfl, Nat.le_of_ble_eq_true rfl⟩ (Nat.le_of_ble_eq_true rfl) ⟨Nat.le_of_ble_eq_true rfl, Nat.le_of_ble_eq_true rfl⟩ ?_
    refine r_istore_n dX3_readCut_37 (by decide) rfl ?_
    refine r_aload_n dX3_readCut_38 rfl ?_
    refine g3_0 dX3_readCut_39 wd_857 ho0 ?_
    refine r_if_ne (tgt := 69) dX3_readCut_42 (by decide) (fun c42 => ?_) (fun c42 => ?_)
    · replace hf := if_f hf c42
      have hr := Option.some.inj hf
      subst hr
      exact r_vret dX3_readCut_69 rfl (Nat.le_of_ble_eq_true rfl) (Nat.le_of_ble_eq_true rfl) ⟨rfl, rfl, rfl⟩
    · replace hf := if_t hf c42
      refine r_aload_n dX3_readCut_45 rfl ?_
      refine g3_4 dX3_readCut_46 wd_863 ho0 ?_
      refine g7_6 dX3_readCut_49 wd_312 hT1.1 ?_
      refine r_iload_n dX3_readCut_52 rfl ?_
      obtain ⟨h53, hf⟩ := gv_of hf
      refine a_aald105 dX3_readCut_53 hT1.2.1 h53 ?_
      refine r_iload_n dX3_readCut_54 rfl ?_
      refine r_iload_n dX3_readCut_55 rfl ?_
      obtain ⟨v56, hc56, hf⟩ := bd_of hf
      refine r_cVv (rest := []) (ct_X8_addCut hs hE (hT1.2.2.2.2.2.2.1 _ (vp_lt h53)) hc56) dX3_readCut_56 wd_1070 zX8_addCut wd_1071 wd_1072 rfl  rfl rfl (fo8 (hT1.2.2.2.2.2.2.1 _ (vp_lt h53)).1) rfl rfl ⟨Nat.le_of_ble_eq_true rfl, Nat.le_of_ble_eq_true rfl⟩ (Nat.le_of_ble_eq_true rfl) ⟨Nat.le_of_ble_eq_true rfl, Nat.le_of_ble_eq_true rfl⟩ ?_
      refine r_aload_n dX3_readCut_59 rfl ?_
      refine r_dup dX3_readCut_60 rfl ?_
      refine g3_10 dX3_readCut_61 wd_869 ho0 ?_
      refine r_iconst (v := (1 : Int32)) dX3_readCut_64 (by decide) ?_
      refine r_iadd dX3_readCut_65 ?_
      refine p3_10 dX3_readCut_66 wd_869 ho0 ?_
      have hr := Option.some.inj hf
      subst hr
      exact r_vret dX3_readCut_69 rfl (Nat.le_of_ble_eq_true rfl) (Nat.le_of_ble_eq_true rfl) ⟨rfl, rfl, rfl⟩
  · replace hf := if_t hf c10
    have hr := Option.some.inj hf
    subst hr
    exact r_vret dX3_readCut_13 rfl (Nat.le_of_ble_eq_true rfl) (Nat.le_of_ble_eq_true rfl) ⟨rfl, rfl, rfl⟩
def F_X3_readShape (n : Nat) (T1 o0 : Nat) (I : gI) : Option (gI) := bd (F_X3_nextToken n T1 o0 I) (fun v1 => bd (F_X3_readSource n T1 o0 v1 (v1 o0 13)) (fun v9 => bd (F_X3_takeWord n T1 o0 28 v9.2) (fun v18 => (if v18.1 = 0 then bd (F_X3_takeWord n T1 o0 29 v18.2) (fun v32 => (if v32.1 = 0 then bd (F_X3_fail n T1 o0 v32.2 (1 : Int32)) (fun v45 => (if (v45 o0 0) = 0 then gv v9.1 4 (some (sI (sI v45 o0 13 ((v45 o0 13) ||| ((1 : Int32) <<< (v9.1 &&& 31)))) ((T1 + 1) + 5 + 3 * (Int32.toNatClampNeg v9.1)) 7 (0 : Int32))) else some v45)) else (if (v32.2 o0 0) = 0 then gv v9.1 4 (some (sI (sI v32.2 o0 13 ((v32.2 o0 13) ||| ((1 : Int32) <<< (v9.1 &&& 31)))) ((T1 + 1) + 5 + 3 * (Int32.toNatClampNeg v9.1)) 7 (2 : Int32))) else some v32.2))) else (if (v18.2 o0 0) = 0 then gv v9.1 4 (some (sI (sI v18.2 o0 13 ((v18.2 o0 13) ||| ((1 : Int32) <<< (v9.1 &&& 31)))) ((T1 + 1) + 5 + 3 * (Int32.toNatClampNeg v9.1)) 7 (1 : Int32))) else some v18.2)))))
set_option maxHeartbeats 4000000 in
set_option maxRecDepth 100000 in
theorem ct_X3_readShape {G : gG} {lay : Nat → Nat × Nat} {T0 T1 : Nat} {Dd : Nat → Nat → UInt64} {I : gI} {J : gJ} {K : gI} {N : gJ} {sz n : Nat} {o0 : Nat} (hs : G.1.stackTraces = false) (hE : gLay lay) (hT1 : gTank lay T1) (ho0 : lay o0 = (3, 0)) {r : gI} (hf : F_X3_readShape n T1 o0 I = some r) : gCt G mX3_readShape [.ref (G.2.2.1 + o0)] (fO G (lay, T0, T1, Dd) I J K N) sz (gR none (fO G (lay, T0, T1, Dd) r J K N) sz) := by
  unfold F_X3_readShape at hf
  refine gCt.of [some (.ref (G.2.2.1 + o0)), none, none] (by decide +kernel) rfl hs rfl (Nat.le_of_ble_eq_true rfl) ?_
  refine r_aload_n dX3_readShape_0 rfl ?_
  obtain ⟨v1, hc1, hf⟩ := bd_of hf
  refine r_cVv (rest := []) (ct_X3_nextToken hs hE hT1 ho0 hc1) dX3_readShape_1 wd_910 zX3_nextToken wd_912 wd_9 rfl  rfl rfl (fo3 ho0) rfl rfl ⟨Nat.le_of_ble_eq_true rfl, Nat.le_of_ble_eq_true rfl⟩ (Nat.le_of_ble_eq_true rfl) ⟨Nat.le_of_ble_eq_true rfl, Nat.le_of_ble_eq_true rfl⟩ ?_
  refine r_aload_n dX3_readShape_4 rfl ?_
  refine r_aload_n dX3_readShape_5 rfl ?_
  refine g3_13 dX3_readShape_6 wd_872 ho0 ?_
  obtain ⟨v9, hc9, hf⟩ := bd_of hf
  refine r_cVi (rest := []) (ct_X3_readSource hs hE hT1 ho0 hc9) dX3_readShape_9 wd_1034 zX3_readSource wd_1036 wd_25 rfl  rfl rfl (fo3 ho0) rfl rfl ⟨Nat.le_of_ble_eq_true rfl, Nat.le_of_ble_eq_true rfl⟩ (Nat.le_of_ble_eq_true rfl) ⟨Nat.le_of_ble_eq_true rfl, Nat.le_of_ble_eq_true rfl⟩ ?_
  refine r_istore_n dX3_readShape_12 (by decide) rfl ?_
  refine r_iconst (v := (0 : Int32)) dX3_readShape_13 (by decide) ?_
  refine r_istore_n dX3_readShape_14 (by decide) rfl ?_
  refine r_aload_n dX3_readShape_15 rfl ?_
  refine r_ldcS (i := 28) dX3_readShape_16 (List.mem_of_getElem? (i := 28) rfl) ?_
  obtain ⟨v18, hc18, hf⟩ := bd_of hf
  refine r_cVi (rest := []) (ct_X3_takeWord hs hE hT1 ho0 (by decide) hc18) dX3_readShape_18 wd_934 zX3_takeWord wd_936 wd_14 rfl  rfl rfl (fo3 ho0) rfl rfl ⟨Nat.le_of_ble_eq_true rfl, Nat.le_of_ble_eq_true rfl⟩ (Nat.le_of_ble_eq_true rfl) ⟨Nat.le_of_ble_eq_true rfl, Nat.le_of_ble_eq_true rfl⟩ ?_
  refine r_if_eq (tgt := 29) dX3_readShape_21 (by decide) (fun c21 => ?_) (fun c21 => ?_)
  · replace hf := if_t hf c21
    refine r_aload_n dX3_readShape_29 rfl ?_
    refine r_ldcS (i := 29) dX3_readShape_30 (List.mem_of_getElem? (i := 29) rfl) ?_
    obtain ⟨v32, hc32, hf⟩ := bd_of hf
    refine r_cVi (rest := []) (ct_X3_takeWord hs hE hT1 ho0 (by decide) hc32) dX3_readShape_32 wd_934 zX3_takeWord wd_936 wd_14 rfl  rfl rfl (fo3 ho0) rfl rfl ⟨Nat.le_of_ble_eq_true rfl, Nat.le_of_ble_eq_true rfl⟩ (Nat.le_of_ble_eq_true rfl) ⟨Nat.le_of_ble_eq_true rfl, Nat.le_of_ble_eq_true rfl⟩ ?_
    refine r_if_eq (tgt := 43) dX3_readShape_35 (by decide) (fun c35 => ?_) (fun c35 => ?_)
    · replace hf := if_t hf c35
      refine r_aload_n dX3_readShape_43 rfl ?_
      refine r_iconst (v := (1 : Int32)) dX3_readShape_44 (by decide) ?_
      obtain ⟨v45, hc45, hf⟩ := bd_of hf
      refine r_cVv (rest := []) (ct_X3_fail hs hE hT1 ho0 hc45) dX3_readShape_45 wd_990 zX3_fail wd_992 wd_16 rfl  rfl rfl (fo3 ho0) rfl rfl ⟨Nat.le_of_ble_eq_true rfl, Nat.le_of_ble_eq_true rfl⟩ (Nat.le_of_ble_eq_true rfl) ⟨Nat.le_of_ble_eq_true rfl, Nat.le_of_ble_eq_true rfl⟩ ?_
      refine r_aload_n dX3_readShape_48 rfl ?_
      refine g3_0 dX3_readShape_49 wd_857 ho0 ?_
      refine r_if_ne (tgt := 80) dX3_readShape_52 (by decide) (fun c52 => ?_) (fun c52 => ?_)
      · replace hf := if_f hf c52
        have hr := Option.some.inj hf
        subst hr
        exact r_vret dX3_readShape_80 rfl (Nat.le_of_ble_eq_true rfl) (Nat.le_of_ble_eq_true rfl) ⟨rfl, rfl, rfl⟩
      · replace hf := if_t hf c52
        refine r_aload_n dX3_readShape_55 rfl ?_
        refine r_dup dX3_readShape_56 rfl ?_
        refine g3_13 dX3_readShape_57 wd_872 ho0 ?_
        refine r_iconst (v := (1 : Int32)) dX3_readShape_60 (by decide) ?_
        refine r_iload_n dX3_readShape_61 rfl ?_
        refine r_ishl dX3_readShape_62 ?_
        refine r_ior dX3_readShape_63 ?_
        refine p3_13 dX3_readShape_64 wd_872 ho0 ?_
        refine r_aload_n dX3_readShape_67 rfl ?_
        refine g3_4 dX3_readShape_68 wd_863 ho0 ?_
        refine g7_6 dX3_readShape_71 wd_312 hT1.1 ?_
        refine r_iload_n dX3_readShape_74 rfl ?_
        obtain ⟨h75, hf⟩ := gv_of hf
        refine a_aald105 dX3_readShape_75 hT1.2.1 h75 ?_
        refine r_iload_n dX3_readShape_76 rfl ?_
        refine p8_7 dX3_readShape_77 wd_240 (hT1.2.2.2.2.2.2.1 _ (vp_lt h75)).1 ?_
        have hr := Option.some.inj hf
        subst hr
        exact r_vret dX3_readShape_80 rfl (Nat.le_of_ble_eq_true rfl) (Nat.le_of_ble_eq_true rfl) ⟨rfl, rfl, rfl⟩
    · replace hf := if_f hf c35
      refine r_iconst (v := (2 : Int32)) dX3_readShape_38 (by decide) ?_
      refine r_istore_n dX3_readShape_39 (by decide) rfl ?_
      refine r_goto (tgt := 48) dX3_readShape_40 (by decide) ?_
      refine r_aload_n dX3_readShape_48 rfl ?_
      refine g3_0 dX3_readShape_49 wd_857 ho0 ?_
      refine r_if_ne (tgt := 80) dX3_readShape_52 (by decide) (fun c52 => ?_) (fun c52 => ?_)
      · replace hf := if_f hf c52
        have hr := Option.some.inj hf
        subst hr
        exact r_vret dX3_readShape_80 rfl (Nat.le_of_ble_eq_true rfl) (Nat.le_of_ble_eq_true rfl) ⟨rfl, rfl, rfl⟩
      · replace hf := if_t hf c52
        refine r_aload_n dX3_readShape_55 rfl ?_
        refine r_dup dX3_readShape_56 rfl ?_
        refine g3_13 dX3_readShape_57 wd_872 ho0 ?_
        refine r_iconst (v := (1 : Int32)) dX3_readShape_60 (by decide) ?_
        refine r_iload_n dX3_readShape_61 rfl ?_
        refine r_ishl dX3_readShape_62 ?_
        refine r_ior dX3_readShape_63 ?_
        refine p3_13 dX3_readShape_64 wd_872 ho0 ?_
        refine r_aload_n dX3_readShape_67 rfl ?_
        refine g3_4 dX3_readShape_68 wd_863 ho0 ?_
        refine g7_6 dX3_readShape_71 wd_312 hT1.1 ?_
        refine r_iload_n dX3_readShape_74 rfl ?_
        obtain ⟨h75, hf⟩ := gv_of hf
        refine a_aald105 dX3_readShape_75 hT1.2.1 h75 ?_
        refine r_iload_n dX3_readShape_76 rfl ?_
        refine p8_7 dX3_readShape_77 wd_240 (hT1.2.2.2.2.2.2.1 _ (vp_lt h75)).1 ?_
        have hr := Option.some.inj hf
        subst hr
        exact r_vret dX3_readShape_80 rfl (Nat.le_of_ble_eq_true rfl) (Nat.le_of_ble_eq_true rfl) ⟨rfl, rfl, rfl⟩
  · replace hf := if_f hf c21
    refine r_iconst (v := (1 : Int32)) dX3_readShape_24 (by decide) ?_
    refine r_istore_n dX3_readShape_25 (by decide) rfl ?_
    refine r_goto (tgt := 48) dX3_readShape_26 (by decide) ?_
    refine r_aload_n dX3_readShape_48 rfl ?_
    refine g3_0 dX3_readShape_49 wd_857 ho0 ?_
    refine r_if_ne (tgt := 80) dX3_readShape_52 (by decide) (fun c52 => ?_) (fun c52 => ?_)
    · replace hf := if_f hf c52
      have hr := Option.some.inj hf
      subst hr
      exact r_vret dX3_readShape_80 rfl (Nat.le_of_ble_eq_true rfl) (Nat.le_of_ble_eq_true rfl) ⟨rfl, rfl, rfl⟩
    · replace hf := if_t hf c52
      refine r_aload_n dX3_readShape_55 rfl ?_
      refine r_dup dX3_readShape_56 rfl ?_
      refine g3_13 dX3_readShape_57 wd_872 ho0 ?_
      refine r_iconst (v := (1 : Int32)) dX3_readShape_60 (by decide) ?_
      refine r_iload_n dX3_readShape_61 rfl ?_
      refine r_ishl dX3_readShape_62 ?_
      refine r_ior dX3_readShape_63 ?_
      refine p3_13 dX3_readShape_64 wd_872 ho0 ?_
      refine r_aload_n dX3_readShape_67 rfl ?_
      refine g3_4 dX3_readShape_68 wd_863 ho0 ?_
      refine g7_6 dX3_readShape_71 wd_312 hT1.1 ?_
      refine r_iload_n dX3_readShape_74 rfl ?_
      obtain ⟨h75, hf⟩ := gv_of hf
      refine a_aald105 dX3_readShape_75 hT1.2.1 h75 ?_
      refine r_iload_n dX3_readShape_76 rfl ?_
      refine p8_7 dX3_readShape_77 wd_240 (hT1.2.2.2.2.2.2.1 _ (vp_lt h75)).1 ?_
      have hr := Option.some.inj hf
      subst hr
      exact r_vret dX3_readShape_80 rfl (Nat.le_of_ble_eq_true rfl) (Nat.le_of_ble_eq_true rfl) ⟨rfl, rfl, rfl⟩
def F_X3_readShoal (n : Nat) (T1 o0 : Nat) (I : gI) : Option (gI) := bd (F_X3_startCounted n T1 o0 I (I T1 7) (3 : Int32)) (fun v9 => (if v9.1 = 0 then some v9.2 else gv (v9.2 T1 7) 3 (bd (F_X3_readColumn n T1 o0 v9.2 (0 : Int32)) (fun v35 => bd (F_X3_readRow n T1 o0 (sI v35.2 ((T1 + 2) + 16 + (Int32.toNatClampNeg (v9.2 T1 7))) 0 v35.1) (0 : Int32)) (fun v44 => bd (F_X3_readColumn n T1 o0 (sI v44.2 ((T1 + 2) + 16 + (Int32.toNatClampNeg (v9.2 T1 7))) 1 v44.1) ((sI v44.2 ((T1 + 2) + 16 + (Int32.toNatClampNeg (v9.2 T1 7))) 1 v44.1) ((T1 + 2) + 16 + (Int32.toNatClampNeg (v9.2 T1 7))) 0)) (fun v56 => bd (F_X3_readRow n T1 o0 (sI v56.2 ((T1 + 2) + 16 + (Int32.toNatClampNeg (v9.2 T1 7))) 2 v56.1) ((sI v56.2 ((T1 + 2) + 16 + (Int32.toNatClampNeg (v9.2 T1 7))) 2 v56.1) ((T1 + 2) + 16 + (Int32.toNatClampNeg (v9.2 T1 7))) 1)) (fun v68 => bd (F_X3_readNumber n T1 o0 (sI v68.2 ((T1 + 2) + 16 + (Int32.toNatClampNeg (v9.2 T1 7))) 3 v68.1) (0 : Int32) (200 : Int32)) (fun v80 => (if ((sI v80.2 ((T1 + 2) + 16 + (Int32.toNatClampNeg (v9.2 T1 7))) 4 v80.1) o0 0) = 0 then some (sI (sI v80.2 ((T1 + 2) + 16 + (Int32.toNatClampNeg (v9.2 T1 7))) 4 v80.1) T1 7 (((sI v80.2 ((T1 + 2) + 16 + (Int32.toNatClampNeg (v9.2 T1 7))) 4 v80.1) T1 7) + (1 : Int32))) else some (sI v80.2 ((T1 + 2) + 16 + (Int32.toNatClampNeg (v9.2 T1 7))) 4 v80.1))))))))))
set_option maxHeartbeats 4000000 in
set_option maxRecDepth 100000 in
theorem ct_X3_readShoal {G : gG} {lay : Nat → Nat × Nat} {T0 T1 : Nat} {Dd : Nat → Nat → UInt64} {I : gI} {J : gJ} {K : gI} {N : gJ} {sz n : Nat} {o0 : Nat} (hs : G.1.stackTraces = false) (hE : gLay lay) (hT1 : gTank lay T1) (ho0 : lay o0 = (3, 0)) {r : gI} (hf : F_X3_readShoal n T1 o0 I = some r) : gCt G mX3_readShoal [.ref (G.2.2.1 + o0)] (fO G (lay, T0, T1, Dd) I J K N) sz (gR none (fO G (lay, T0, T1, Dd) r J K N) sz) := by
  unfold F_X3_readShoal at hf
  refine gCt.of [some (.ref (G.2.2.1 + o0)), none] (by decide +kernel) rfl hs rfl (Nat.le_of_ble_eq_true rfl) ?_
  refine r_aload_n dX3_readShoal_0 rfl ?_
  refine r_aload_n dX3_readShoal_1 rfl ?_
  refine g3_4 dX3_readShoal_2 wd_863 ho0 ?_
  refine g7_7 dX3_readShoal_5 wd_315 hT1.1 ?_
  refine r_iconst (v := (3 : Int32)) dX3_readShoal_8 (by decide) ?_
  obtain ⟨v9, hc9, hf⟩ := bd_of hf
  refine r_cVi (rest := []) (ct_X3_startCounted hs hE hT1 ho0 hc9) dX3_readShoal_9 wd_1015 zX3_startCounted wd_1017 wd_21 rfl  rfl rfl (fo3 ho0) rfl rfl ⟨Nat.le_of_ble_eq_true rfl, Nat.le_of_ble_eq_true rfl⟩ (Nat.le_of_ble_eq_true rfl) ⟨Nat.le_of_ble_eq_true rfl, Nat.le_of_ble_eq_true rfl⟩ ?_
  refine r_if_ne (tgt := 16) dX3_readShoal_12 (by decide) (fun c12 => ?_) (fun c12 => ?_)
  · replace hf := if_f hf c12
    refine r_aload_n dX3_readShoal_16 rfl ?_
    refine g3_4 dX3_readShoal_17 wd_863 ho0 ?_
    refine g7_8 dX3_readShoal_20 wd_317 hT1.1 ?_
    refine r_aload_n dX3_readShoal_23 rfl ?_
    refine g3_4 dX3_readShoal_24 wd_863 ho0 ?_
    refine g7_7 dX3_readShoal_27 wd_315 hT1.1 ?_
    obtain ⟨h30, hf⟩ := gv_of hf
    refine a_aald106 dX3_readShoal_30 hT1.2.2.1 h30 ?_
    refine r_astore_n dX3_readShoal_31 (by decide) rfl ?_
    refine r_aload_n dX3_readShoal_32 rfl ?_
    refine r_aload_n dX3_readShoal_33 rfl ?_
    refine r_iconst (v := (0 : Int32)) dX3_readShoal_34 (by decide) ?_
    obtain ⟨v35, hc35, hf⟩ := bd_of hf
    refine r_cVi (rest := [.ref (G.2.2.1 + ((T1 + 2) + 16 + (Int32.toNatClampNeg (v9.2 T1 7))))]) (ct_X3_readColumn hs hE hT1 ho0 hc35) dX3_readShoal_35 wd_1019 zX3_readColumn wd_1021 wd_22 rfl  rfl rfl (fo3 ho0) rfl rfl ⟨Nat.le_of_ble_eq_true rfl, Nat.le_of_ble_eq_true rfl⟩ (Nat.le_of_ble_eq_true rfl) ⟨Nat.le_of_ble_eq_true rfl, Nat.le_of_ble_eq_true rfl⟩ ?_
    refine p5_0 dX3_readShoal_38 wd_275 (hT1.2.2.2.2.2.2.2 _ (vp_lt h30)) ?_
    refine r_aload_n dX3_readShoal_41 rfl ?_
    refine r_aload_n dX3_readShoal_42 rfl ?_
    refine r_iconst (v := (0 : Int32)) dX3_readShoal_43 (by decide) ?_
    obtain ⟨v44, hc44, hf⟩ := bd_of hf
    refine r_cVi (rest := [.ref (G.2.2.1 + ((T1 + 2) + 16 + (Int32.toNatClampNeg (v9.2 T1 7))))]) (ct_X3_readRow hs hE hT1 ho0 hc44) dX3_readShoal_44 wd_1023 zX3_readRow wd_1025 wd_23 rfl  rfl rfl (fo3 ho0) rfl rfl ⟨Nat.le_of_ble_eq_true rfl, Nat.le_of_ble_eq_true rfl⟩ (Nat.le_of_ble_eq_true rfl) ⟨Nat.le_of_ble_eq_true rfl, Nat.le_of_ble_eq_true rfl⟩ ?_
    refine p5_1 dX3_readShoal_47 wd_277 (hT1.2.2.2.2.2.2.2 _ (vp_lt h30)) ?_
    refine r_aload_n dX3_readShoal_50 rfl ?_
    refine r_aload_n dX3_readShoal_51 rfl ?_
    refine r_aload_n dX3_readShoal_52 rfl ?_
    refine g5_0 dX3_readShoal_53 wd_275 (hT1.2.2.2.2.2.2.2 _ (vp_lt h30)) ?_
    obtain ⟨v56, hc56, hf⟩ := bd_of hf
    refine r_cVi (rest := [.ref (G.2.2.1 + ((T1 + 2) + 16 + (Int32.toNatClampNeg (v9.2 T1 7))))]) (ct_X3_readColumn hs hE hT1 ho0 hc56) dX3_readShoal_56 wd_1019 zX3_readColumn wd_1021 wd_22 rfl  rfl rfl (fo3 ho0) rfl rfl ⟨Nat.le_of_ble_eq_true rfl, Nat.le_of_ble_eq_true rfl⟩ (Nat.le_of_ble_eq_true rfl) ⟨Nat.le_of_ble_eq_true rfl, Nat.le_of_ble_eq_true rfl⟩ ?_
    refine p5_2 dX3_readShoal_59 wd_279 (hT1.2.2.2.2.2.2.2 _ (vp_lt h30)) ?_
    refine r_aload_n dX3_readShoal_62 rfl ?_
    refine r_aload_n dX3_readShoal_63 rfl ?_
    refine r_aload_n dX3_readShoal_64 rfl ?_
    refine g5_1 dX3_readShoal_65 wd_277 (hT1.2.2.2.2.2.2.2 _ (vp_lt h30)) ?_
    obtain ⟨v68, hc68, hf⟩ := bd_of hf
    refine r_cVi (rest := [.ref (G.2.2.1 + ((T1 + 2) + 16 + (Int32.toNatClampNeg (v9.2 T1 7))))]) (ct_X3_readRow hs hE hT1 ho0 hc68) dX3_readShoal_68 wd_1023 zX3_readRow wd_1025 wd_23 rfl  rfl rfl (fo3 ho0) rfl rfl ⟨Nat.le_of_ble_eq_true rfl, Nat.le_of_ble_eq_true rfl⟩ (Nat.le_of_ble_eq_true rfl) ⟨Nat.le_of_ble_eq_true rfl, Nat.le_of_ble_eq_true rfl⟩ ?_
    refine p5_3 dX3_readShoal_71 wd_281 (hT1.2.2.2.2.2.2.2 _ (vp_lt h30)) ?_
    refine r_aload_n dX3_readShoal_74 rfl ?_
    refine r_aload_n dX3_readShoal_75 rfl ?_
    refine r_iconst (v := (0 : Int32)) dX3_readShoal_76 (by decide) ?_
    refine r_sipush (v := (200 : Int32)) dX3_readShoal_77 (by decide) ?_
    obtain ⟨v80, hc80, hf⟩ := bd_of hf
    refine r_cVi (rest := [.ref (G.2.2.1 + ((T1 + 2) + 16 + (Int32.toNatClampNeg (v9.2 T1 7))))]) (ct_X3_readNumber hs hE hT1 ho0 hc80) dX3_readShoal_80 wd_995 zX3_readNumber wd_997 wd_17 rfl  rfl rfl (fo3 ho0) rfl rfl ⟨Nat.le_of_ble_eq_true rfl, Nat.le_of_ble_eq_true rfl⟩ (Nat.le_of_ble_eq_true rfl) ⟨Nat.le_of_ble_eq_true rfl, Nat.le_of_ble_eq_true rfl⟩ ?_
    refine p5_4 dX3_readShoal_83 wd_282 (hT1.2.2.2.2.2.2.2 _ (vp_lt h30)) ?_
    refine r_aload_n dX3_readShoal_86 rfl ?_
    refine g3_0 dX3_readShoal_87 wd_857 ho0 ?_
    refine r_if_ne (tgt := 106) dX3_readShoal_90 (by decide) (fun c90 => ?_) (fun c90 => ?_)
    · replace hf := if_f hf c90
      have hr := Option.some.inj hf
      subst hr
      exact r_vret dX3_readShoal_106 rfl (Nat.le_of_ble_eq_true rfl) (Nat.le_of_ble_eq_true rfl) ⟨rfl, rfl, rfl⟩
    · replace hf := if_t hf c90
      refine r_aload_n dX3_readShoal_93 rfl ?_
      refine g3_4 dX3_readShoal_94 wd_863 ho0 ?_
      refine r_dup dX3_readShoal_97 rfl ?_
      refine g7_7 dX3_readShoal_98 wd_315 hT1.1 ?_
      refine r_iconst (v := (1 : Int32)) dX3_readShoal_101 (by decide) ?_
      refine r_iadd dX3_readShoal_102 ?_
      refine p7_7 dX3_readShoal_103 wd_315 hT1.1 ?_
      have hr := Option.some.inj hf
      subst hr
      exact r_vret dX3_readShoal_106 rfl (Nat.le_of_ble_eq_true rfl) (Nat.le_of_ble_eq_true rfl) ⟨rfl, rfl, rfl⟩
  · replace hf := if_t hf c12
    have hr := Option.some.inj hf
    subst hr
    exact r_vret dX3_readShoal_15 rfl (Nat.le_of_ble_eq_true rfl) (Nat.le_of_ble_eq_true rfl) ⟨rfl, rfl, rfl⟩
def F_X3_readGauge (n : Nat) (T1 o0 : Nat) (I : gI) : Option (gI) := bd (F_X3_startCounted n T1 o0 I (I T1 9) (4 : Int32)) (fun v9 => (if v9.1 = 0 then some v9.2 else bd (F_X3_readColumn n T1 o0 v9.2 (0 : Int32)) (fun v32 => gv (v9.2 T1 9) 4 (bd (F_X3_readRow n T1 o0 (sI v32.2 (T1 + 3) (Int32.toNatClampNeg (v9.2 T1 9)) v32.1) (0 : Int32)) (fun v52 => gv ((sI v32.2 (T1 + 3) (Int32.toNatClampNeg (v9.2 T1 9)) v32.1) T1 9) 4 ((if ((sI v52.2 (T1 + 4) (Int32.toNatClampNeg ((sI v32.2 (T1 + 3) (Int32.toNatClampNeg (v9.2 T1 9)) v32.1) T1 9)) v52.1) o0 0) = 0 then some (sI (sI v52.2 (T1 + 4) (Int32.toNatClampNeg ((sI v32.2 (T1 + 3) (Int32.toNatClampNeg (v9.2 T1 9)) v32.1) T1 9)) v52.1) T1 9 (((sI v52.2 (T1 + 4) (Int32.toNatClampNeg ((sI v32.2 (T1 + 3) (Int32.toNatClampNeg (v9.2 T1 9)) v32.1) T1 9)) v52.1) T1 9) + (1 : Int32))) else some (sI v52.2 (T1 + 4) (Int32.toNatClampNeg ((sI v32.2 (T1 + 3) (Int32.toNatClampNeg (v9.2 T1 9)) v32.1) T1 9)) v52.1))))))))
set_option maxHeartbeats 4000000 in
set_option maxRecDepth 100000 in
theorem ct_X3_readGauge {G : gG} {lay : Nat → Nat × Nat} {T0 T1 : Nat} {Dd : Nat → Nat → UInt64} {I : gI} {J : gJ} {K : gI} {N : gJ} {sz n : Nat} {o0 : Nat} (hs : G.1.stackTraces = false) (hE : gLay lay) (hT1 : gTank lay T1) (ho0 : lay o0 = (3, 0)) {r : gI} (hf : F_X3_readGauge n T1 o0 I = some r) : gCt G mX3_readGauge [.ref (G.2.2.1 + o0)] (fO G (lay, T0, T1, Dd) I J K N) sz (gR none (fO G (lay, T0, T1, Dd) r J K N) sz) := by
  unfold F_X3_readGauge at hf
  refine gCt.of [some (.ref (G.2.2.1 + o0))] (by decide +kernel) rfl hs rfl (Nat.le_of_ble_eq_true rfl) ?_
  refine r_aload_n dX3_readGauge_0 rfl ?_
  refine r_aload_n dX3_readGauge_1 rfl ?_
  refine g3_4 dX3_readGauge_2 wd_863 ho0 ?_
  refine g7_9 dX3_readGauge_5 wd_319 hT1.1 ?_
  refine r_iconst (v := (4 : Int32)) dX3_readGauge_8 (by decide) ?_
  obtain ⟨v9, hc9, hf⟩ := bd_of hf
  refine r_cVi (rest := []) (ct_X3_startCounted hs hE hT1 ho0 hc9) dX3_readGauge_9 wd_1015 zX3_startCounted wd_1017 wd_21 rfl  rfl rfl (fo3 ho0) rfl rfl ⟨Nat.le_of_ble_eq_true rfl, Nat.le_of_ble_eq_true rfl⟩ (Nat.le_of_ble_eq_true rfl) ⟨Nat.le_of_ble_eq_true rfl, Nat.le_of_ble_eq_true rfl⟩ ?_
  refine r_if_ne (tgt := 16) dX3_readGauge_12 (by decide) (fun c12 => ?_) (fun c12 => ?_)
  · replace hf := if_f hf c12
    refine r_aload_n dX3_readGauge_16 rfl ?_
    refine g3_4 dX3_readGauge_17 wd_863 ho0 ?_
    refine g7_10 dX3_readGauge_20 wd_322 hT1.1 ?_
    refine r_aload_n dX3_readGauge_23 rfl ?_
    refine g3_4 dX3_readGauge_24 wd_863 ho0 ?_
    refine g7_9 dX3_readGauge_27 wd_319 hT1.1 ?_
    refine r_aload_n dX3_readGauge_30 rfl ?_
    refine r_iconst (v := (0 : Int32)) dX3_readGauge_31 (by decide) ?_
    obtain ⟨v32, hc32, hf⟩ := bd_of hf
    refine r_cVi (rest := [.int (v9.2 T1 9), .ref (G.2.2.1 + (T1 + 3))]) (ct_X3_readColumn hs hE hT1 ho0 hc32) dX3_readGauge_32 wd_1019 zX3_readColumn wd_1021 wd_22 rfl  rfl rfl (fo3 ho0) rfl rfl ⟨Nat.le_of_ble_eq_true rfl, Nat.le_of_ble_eq_true rfl⟩ (Nat.le_of_ble_eq_true rfl) ⟨Nat.le_of_ble_eq_true rfl, Nat.le_of_ble_eq_true rfl⟩ ?_
    obtain ⟨h35, hf⟩ := gv_of hf
    refine a_iast dX3_readGauge_35 hT1.2.2.2.1 h35 ?_
    refine r_aload_n dX3_readGauge_36 rfl ?_
    refine g3_4 dX3_readGauge_37 wd_863 ho0 ?_
    refine g7_11 dX3_readGauge_40 wd_325 hT1.1 ?_
    refine r_aload_n dX3_readGauge_43 rfl ?_
    refine g3_4 dX3_readGauge_44 wd_863 ho0 ?_
    refine g7_9 dX3_readGauge_47 wd_319 hT1.1 ?_
    refine r_aload_n dX3_readGauge_50 rfl ?_
    refine r_iconst (v := (0 : Int32)) dX3_readGauge_51 (by decide) ?_
    obtain ⟨v52, hc52, hf⟩ := bd_of hf
    refine r_cVi (rest := [.int ((sI v32.2 (T1 + 3) (Int32.toNatClampNeg (v9.2 T1 9)) v32.1) T1 9), .ref (G.2.2.1 + (T1 + 4))]) (ct_X3_readRow hs hE hT1 ho0 hc52) dX3_readGauge_52 wd_1023 zX3_readRow wd_1025 wd_23 rfl  rfl rfl (fo3 ho0) rfl rfl ⟨Nat.le_of_ble_eq_true rfl, Nat.le_of_ble_eq_true rfl⟩ (Nat.le_of_ble_eq_true rfl) ⟨Nat.le_of_ble_eq_true rfl, Nat.le_of_ble_eq_true rfl⟩ ?_
    obtain ⟨h55, hf⟩ := gv_of hf
    refine a_iast dX3_readGauge_55 hT1.2.2.2.2.1 h55 ?_
    refine r_aload_n dX3_readGauge_56 rfl ?_
    refine g3_0 dX3_readGauge_57 wd_857 ho0 ?_
    refine r_if_ne (tgt := 76) dX3_readGauge_60 (by decide) (fun c60 => ?_) (fun c60 => ?_)
    · replace hf := if_f hf c60
      have hr := Option.some.inj hf
      subst hr
      exact r_vret dX3_readGauge_76 rfl (Nat.le_of_ble_eq_true rfl) (Nat.le_of_ble_eq_true rfl) ⟨rfl, rfl, rfl⟩
    · replace hf := if_t hf c60
      refine r_aload_n dX3_readGauge_63 rfl ?_
      refine g3_4 dX3_readGauge_64 wd_863 ho0 ?_
      refine r_dup dX3_readGauge_67 rfl ?_
      refine g7_9 dX3_readGauge_68 wd_319 hT1.1 ?_
      refine r_iconst (v := (1 : Int32)) dX3_readGauge_71 (by decide) ?_
      refine r_iadd dX3_readGauge_72 ?_
      refine p7_9 dX3_readGauge_73 wd_319 hT1.1 ?_
      have hr := Option.some.inj hf
      subst hr
      exact r_vret dX3_readGauge_76 rfl (Nat.le_of_ble_eq_true rfl) (Nat.le_of_ble_eq_true rfl) ⟨rfl, rfl, rfl⟩
  · replace hf := if_t hf c12
    have hr := Option.some.inj hf
    subst hr
    exact r_vret dX3_readGauge_15 rfl (Nat.le_of_ble_eq_true rfl) (Nat.le_of_ble_eq_true rfl) ⟨rfl, rfl, rfl⟩
def F_X3_readLine (n : Nat) (T1 o0 : Nat) (I : gI) : Option (gI) := bd (F_X3_isWord n T1 o0 15 I) (fun v3 => (if v3 = 0 then bd (F_X3_isWord n T1 o0 18 I) (fun v19 => (if v19 = 0 then bd (F_X3_isWord n T1 o0 19 I) (fun v35 => (if v35 = 0 then bd (F_X3_isWord n T1 o0 20 I) (fun v51 => (if v51 = 0 then bd (F_X3_isWord n T1 o0 21 I) (fun v67 => (if v67 = 0 then bd (F_X3_isWord n T1 o0 26 I) (fun v83 => (if v83 = 0 then bd (F_X3_isWord n T1 o0 27 I) (fun v99 => (if v99 = 0 then bd (F_X3_isWord n T1 o0 30 I) (fun v115 => (if v115 = 0 then bd (F_X3_isWord n T1 o0 31 I) (fun v131 => (if v131 = 0 then bd (F_X3_fail n T1 o0 I (1 : Int32)) (fun v146 => some v146) else bd (F_X3_readGauge n T1 o0 I) (fun v138 => some v138))) else bd (F_X3_readShoal n T1 o0 I) (fun v122 => some v122))) else bd (F_X3_readShape n T1 o0 I) (fun v106 => some v106))) else bd (F_X3_readCut n T1 o0 I) (fun v90 => some v90))) else bd (F_X3_readMirror n T1 o0 I) (fun v74 => some v74))) else bd (F_X3_readOff n T1 o0 I) (fun v58 => some v58))) else bd (F_X3_readSlit n T1 o0 I) (fun v42 => some v42))) else bd (F_X3_readDrift n T1 o0 I) (fun v26 => some v26))) else bd (F_X3_readTrain n T1 o0 I) (fun v10 => some v10)))
set_option maxHeartbeats 4000000 in
set_option maxRecDepth 100000 in
theorem ct_X3_readLine {G : gG} {lay : Nat → Nat × Nat} {T0 T1 : Nat} {Dd : Nat → Nat → UInt64} {I : gI} {J : gJ} {K : gI} {N : gJ} {sz n : Nat} {o0 : Nat} (hs : G.1.stackTraces = false) (hE : gLay lay) (hT1 : gTank lay T1) (ho0 : lay o0 = (3, 0)) {r : gI} (hf : F_X3_readLine n T1 o0 I = some r) : gCt G mX3_readLine [.ref (G.2.2.1 + o0)] (fO G (lay, T0, T1, Dd) I J K N) sz (gR none (fO G (lay, T0, T1, Dd) r J K N) sz) := by
  unfold F_X3_readLine at hf
  refine gCt.of [some (.ref (G.2.2.1 + o0))] (by decide +kernel) rfl hs rfl (Nat.le_of_ble_eq_true rfl) ?_
  refine r_aload_n dX3_readLine_0 rfl ?_
  refine r_ldcS (i := 15) dX3_readLine_1 (List.mem_of_getElem? (i := 15) rfl) ?_
  obtain ⟨v3, hc3, hf⟩ := bd_of hf
  refine r_cVi (rest := []) (ct_X3_isWord hs hE hT1 ho0 (by decide) hc3) dX3_readLine_3 wd_938 zX3_isWord wd_940 wd_15 rfl  rfl rfl (fo3 ho0) rfl rfl ⟨Nat.le_of_ble_eq_true rfl, Nat.le_of_ble_eq_true rfl⟩ (Nat.le_of_ble_eq_true rfl) ⟨Nat.le_of_ble_eq_true rfl, Nat.le_of_ble_eq_true rfl⟩ ?_
  refine r_if_eq (tgt := 16) dX3_readLine_6 (by decide) (fun c6 => ?_) (fun c6 => ?_)
  · replace hf := if_t hf c6
    refine r_aload_n dX3_readLine_16 rfl ?_
    refine r_ldcS (i := 18) dX3_readLine_17 (List.mem_of_getElem? (i := 18) rfl) ?_
    obtain ⟨v19, hc19, hf⟩ := bd_of hf
    refine r_cVi (rest := []) (ct_X3_isWord hs hE hT1 ho0 (by decide) hc19) dX3_readLine_19 wd_938 zX3_isWord wd_940 wd_15 rfl  rfl rfl (fo3 ho0) rfl rfl ⟨Nat.le_of_ble_eq_true rfl, Nat.le_of_ble_eq_true rfl⟩ (Nat.le_of_ble_eq_true rfl) ⟨Nat.le_of_ble_eq_true rfl, Nat.le_of_ble_eq_true rfl⟩ ?_
    refine r_if_eq (tgt := 32) dX3_readLine_22 (by decide) (fun c22 => ?_) (fun c22 => ?_)
    · replace hf := if_t hf c22
      refine r_aload_n dX3_readLine_32 rfl ?_
      refine r_ldcS (i := 19) dX3_readLine_33 (List.mem_of_getElem? (i := 19) rfl) ?_
      obtain ⟨v35, hc35, hf⟩ := bd_of hf
      refine r_cVi (rest := []) (ct_X3_isWord hs hE hT1 ho0 (by decide) hc35) dX3_readLine_35 wd_938 zX3_isWord wd_940 wd_15 rfl  rfl rfl (fo3 ho0) rfl rfl ⟨Nat.le_of_ble_eq_true rfl, Nat.le_of_ble_eq_true rfl⟩ (Nat.le_of_ble_eq_true rfl) ⟨Nat.le_of_ble_eq_true rfl, Nat.le_of_ble_eq_true rfl⟩ ?_
      refine r_if_eq (tgt := 48) dX3_readLine_38 (by decide) (fun c38 => ?_) (fun c38 => ?_)
      · replace hf := if_t hf c38
        refine r_aload_n dX3_readLine_48 rfl ?_
        refine r_ldcS (i := 20) dX3_readLine_49 (List.mem_of_getElem? (i := 20) rfl) ?_
        obtain ⟨v51, hc51, hf⟩ := bd_of hf
        refine r_cVi (rest := []) (ct_X3_isWord hs hE hT1 ho0 (by decide) hc51) dX3_readLine_51 wd_938 zX3_isWord wd_940 wd_15 rfl  rfl rfl (fo3 ho0) rfl rfl ⟨Nat.le_of_ble_eq_true rfl, Nat.le_of_ble_eq_true rfl⟩ (Nat.le_of_ble_eq_true rfl) ⟨Nat.le_of_ble_eq_true rfl, Nat.le_of_ble_eq_true rfl⟩ ?_
        refine r_if_eq (tgt := 64) dX3_readLine_54 (by decide) (fun c54 => ?_) (fun c54 => ?_)
        · replace hf := if_t hf c54
          refine r_aload_n dX3_readLine_64 rfl ?_
          refine r_ldcS (i := 21) dX3_readLine_65 (List.mem_of_getElem? (i := 21) rfl) ?_
          obtain ⟨v67, hc67, hf⟩ := bd_of hf
          refine r_cVi (rest := []) (ct_X3_isWord hs hE hT1 ho0 (by decide) hc67) dX3_readLine_67 wd_938 zX3_isWord wd_940 wd_15 rfl  rfl rfl (fo3 ho0) rfl rfl ⟨Nat.le_of_ble_eq_true rfl, Nat.le_of_ble_eq_true rfl⟩ (Nat.le_of_ble_eq_true rfl) ⟨Nat.le_of_ble_eq_true rfl, Nat.le_of_ble_eq_true rfl⟩ ?_
          refine r_if_eq (tgt := 80) dX3_readLine_70 (by decide) (fun c70 => ?_) (fun c70 => ?_)
          · replace hf := if_t hf c70
            refine r_aload_n dX3_readLine_80 rfl ?_
            refine r_ldcS (i := 26) dX3_readLine_81 (List.mem_of_getElem? (i := 26) rfl) ?_
            obtain ⟨v83, hc83, hf⟩ := bd_of hf
            refine r_cVi (rest := []) (ct_X3_isWord hs hE hT1 ho0 (by decide) hc83) dX3_readLine_83 wd_938 zX3_isWord wd_940 wd_15 rfl  rfl rfl (fo3 ho0) rfl rfl ⟨Nat.le_of_ble_eq_true rfl, Nat.le_of_ble_eq_true rfl⟩ (Nat.le_of_ble_eq_true rfl) ⟨Nat.le_of_ble_eq_true rfl, Nat.le_of_ble_eq_true rfl⟩ ?_
            refine r_if_eq (tgt := 96) dX3_readLine_86 (by decide) (fun c86 => ?_) (fun c86 => ?_)
            · replace hf := if_t hf c86
              refine r_aload_n dX3_readLine_96 rfl ?_
              refine r_ldcS (i := 27) dX3_readLine_97 (List.mem_of_getElem? (i := 27) rfl) ?_
              obtain ⟨v99, hc99, hf⟩ := bd_of hf
              refine r_cVi (rest := []) (ct_X3_isWord hs hE hT1 ho0 (by decide) hc99) dX3_readLine_99 wd_938 zX3_isWord wd_940 wd_15 rfl  rfl rfl (fo3 ho0) rfl rfl ⟨Nat.le_of_ble_eq_true rfl, Nat.le_of_ble_eq_true rfl⟩ (Nat.le_of_ble_eq_true rfl) ⟨Nat.le_of_ble_eq_true rfl, Nat.le_of_ble_eq_true rfl⟩ ?_
              refine r_if_eq (tgt := 112) dX3_readLine_102 (by decide) (fun c102 => ?_) (fun c102 => ?_)
              · replace hf := if_t hf c102
                refine r_aload_n dX3_readLine_112 rfl ?_
                refine r_ldcS (i := 30) dX3_readLine_113 (List.mem_of_getElem? (i := 30) rfl) ?_
                obtain ⟨v115, hc115, hf⟩ := bd_of hf
                refine r_cVi (rest := []) (ct_X3_isWord hs hE hT1 ho0 (by decide) hc115) dX3_readLine_115 wd_938 zX3_isWord wd_940 wd_15 rfl  rfl rfl (fo3 ho0) rfl rfl ⟨Nat.le_of_ble_eq_true rfl, Nat.le_of_ble_eq_true rfl⟩ (Nat.le_of_ble_eq_true rfl) ⟨Nat.le_of_ble_eq_true rfl, Nat.le_of_ble_eq_true rfl⟩ ?_
                refine r_if_eq (tgt := 128) dX3_readLine_118 (by decide) (fun c118 => ?_) (fun c118 => ?_)
                · replace hf := if_t hf c118
                  refine r_aload_n dX3_readLine_128 rfl ?_
                  refine r_ldcS (i := 31) dX3_readLine_129 (List.mem_of_getElem? (i := 31) rfl) ?_
                  obtain ⟨v131, hc131, hf⟩ := bd_of hf
                  refine r_cVi (rest := []) (ct_X3_isWord hs hE hT1 ho0 (by decide) hc131) dX3_readLine_131 wd_938 zX3_isWord wd_940 wd_15 rfl  rfl rfl (fo3 ho0) rfl rfl ⟨Nat.le_of_ble_eq_true rfl, Nat.le_of_ble_eq_true rfl⟩ (Nat.le_of_ble_eq_true rfl) ⟨Nat.le_of_ble_eq_true rfl, Nat.le_of_ble_eq_true rfl⟩ ?_
                  refine r_if_eq (tgt := 144) dX3_readLine_134 (by decide) (fun c134 => ?_) (fun c134 => ?_)
                  · replace hf := if_t hf c134
                    refine r_aload_n dX3_readLine_144 rfl ?_
                    refine r_iconst (v := (1 : Int32)) dX3_readLine_145 (by decide) ?_
                    obtain ⟨v146, hc146, hf⟩ := bd_of hf
                    refine r_cVv (rest := []) (ct_X3_fail hs hE hT1 ho0 hc146) dX3_readLine_146 wd_990 zX3_fail wd_992 wd_16 rfl  rfl rfl (fo3 ho0) rfl rfl ⟨Nat.le_of_ble_eq_true rfl, Nat.le_of_ble_eq_true rfl⟩ (Nat.le_of_ble_eq_true rfl) ⟨Nat.le_of_ble_eq_true rfl, Nat.le_of_ble_eq_true rfl⟩ ?_
                    have hr := Option.some.inj hf
                    subst hr
                    exact r_vret dX3_readLine_149 rfl (Nat.le_of_ble_eq_true rfl) (Nat.le_of_ble_eq_true rfl) ⟨rfl, rfl, rfl⟩
                  · replace hf := if_f hf c134
                    refine r_aload_n dX3_readLine_137 rfl ?_
                    obtain ⟨v138, hc138, hf⟩ := bd_of hf
                    refine r_cVv (rest := []) (ct_X3_readGauge hs hE hT1 ho0 hc138) dX3_readLine_138 wd_1087 zX3_readGauge wd_1089 wd_34 rfl  rfl rfl (fo3 ho0) rfl rfl ⟨Nat.le_of_ble_eq_true rfl, Nat.le_of_ble_eq_true rfl⟩ (Nat.le_of_ble_eq_true rfl) ⟨Nat.le_of_ble_eq_true rfl, Nat.le_of_ble_eq_true rfl⟩ ?_
                    refine r_goto (tgt := 149) dX3_readLine_141 (by decide) ?_
                    have hr := Option.some.inj hf
                    subst hr
                    exact r_vret dX3_readLine_149 rfl (Nat.le_of_ble_eq_true rfl) (Nat.le_of_ble_eq_true rfl) ⟨rfl, rfl, rfl⟩
                · replace hf := if_f hf c118
                  refine r_aload_n dX3_readLine_121 rfl ?_
                  obtain ⟨v122, hc122, hf⟩ := bd_of hf
                  refine r_cVv (rest := []) (ct_X3_readShoal hs hE hT1 ho0 hc122) dX3_readLine_122 wd_1082 zX3_readShoal wd_1084 wd_33 rfl  rfl rfl (fo3 ho0) rfl rfl ⟨Nat.le_of_ble_eq_true rfl, Nat.le_of_ble_eq_true rfl⟩ (Nat.le_of_ble_eq_true rfl) ⟨Nat.le_of_ble_eq_true rfl, Nat.le_of_ble_eq_true rfl⟩ ?_
                  refine r_goto (tgt := 149) dX3_readLine_125 (by decide) ?_
                  have hr := Option.some.inj hf
                  subst hr
                  exact r_vret dX3_readLine_149 rfl (Nat.le_of_ble_eq_true rfl) (Nat.le_of_ble_eq_true rfl) ⟨rfl, rfl, rfl⟩
              · replace hf := if_f hf c102
                refine r_aload_n dX3_readLine_105 rfl ?_
                obtain ⟨v106, hc106, hf⟩ := bd_of hf
                refine r_cVv (rest := []) (ct_X3_readShape hs hE hT1 ho0 hc106) dX3_readLine_106 wd_1075 zX3_readShape wd_1077 wd_32 rfl  rfl rfl (fo3 ho0) rfl rfl ⟨Nat.le_of_ble_eq_true rfl, Nat.le_of_ble_eq_true rfl⟩ (Nat.le_of_ble_eq_true rfl) ⟨Nat.le_of_ble_eq_true rfl, Nat.le_of_ble_eq_true rfl⟩ ?_
                refine r_goto (tgt := 149) dX3_readLine_109 (by decide) ?_
                have hr := Option.some.inj hf
                subst hr
                exact r_vret dX3_readLine_149 rfl (Nat.le_of_ble_eq_true rfl) (Nat.le_of_ble_eq_true rfl) ⟨rfl, rfl, rfl⟩
            · replace hf := if_f hf c86
              refine r_aload_n dX3_readLine_89 rfl ?_
              obtain ⟨v90, hc90, hf⟩ := bd_of hf
              refine r_cVv (rest := []) (ct_X3_readCut hs hE hT1 ho0 hc90) dX3_readLine_90 wd_1066 zX3_readCut wd_1068 wd_31 rfl  rfl rfl (fo3 ho0) rfl rfl ⟨Nat.le_of_ble_eq_true rfl, Nat.le_of_ble_eq_true rfl⟩ (Nat.le_of_ble_eq_true rfl) ⟨Nat.le_of_ble_eq_true rfl, Nat.le_of_ble_eq_true rfl⟩ ?_
              refine r_goto (tgt := 149) dX3_readLine_93 (by decide) ?_
              have hr := Option.some.inj hf
              subst hr
              exact r_vret dX3_readLine_149 rfl (Nat.le_of_ble_eq_true rfl) (Nat.le_of_ble_eq_true rfl) ⟨rfl, rfl, rfl⟩
          · replace hf := if_f hf c70
            refine r_aload_n dX3_readLine_73 rfl ?_
            obtain ⟨v74, hc74, hf⟩ := bd_of hf
            refine r_cVv (rest := []) (ct_X3_readMirror hs hE hT1 ho0 hc74) dX3_readLine_74 wd_1053 zX3_readMirror wd_1055 wd_29 rfl  rfl rfl (fo3 ho0) rfl rfl ⟨Nat.le_of_ble_eq_true rfl, Nat.le_of_ble_eq_true rfl⟩ (Nat.le_of_ble_eq_true rfl) ⟨Nat.le_of_ble_eq_true rfl, Nat.le_of_ble_eq_true rfl⟩ ?_
            refine r_goto (tgt := 149) dX3_readLine_77 (by decide) ?_
            have hr := Option.some.inj hf
            subst hr
            exact r_vret dX3_readLine_149 rfl (Nat.le_of_ble_eq_true rfl) (Nat.le_of_ble_eq_true rfl) ⟨rfl, rfl, rfl⟩
        · replace hf := if_f hf c54
          refine r_aload_n dX3_readLine_57 rfl ?_
          obtain ⟨v58, hc58, hf⟩ := bd_of hf
          refine r_cVv (rest := []) (ct_X3_readOff hs hE hT1 ho0 hc58) dX3_readLine_58 wd_1048 zX3_readOff wd_1050 wd_28 rfl  rfl rfl (fo3 ho0) rfl rfl ⟨Nat.le_of_ble_eq_true rfl, Nat.le_of_ble_eq_true rfl⟩ (Nat.le_of_ble_eq_true rfl) ⟨Nat.le_of_ble_eq_true rfl, Nat.le_of_ble_eq_true rfl⟩ ?_
          refine r_goto (tgt := 149) dX3_readLine_61 (by decide) ?_
          have hr := Option.some.inj hf
          subst hr
          exact r_vret dX3_readLine_149 rfl (Nat.le_of_ble_eq_true rfl) (Nat.le_of_ble_eq_true rfl) ⟨rfl, rfl, rfl⟩
      · replace hf := if_f hf c38
        refine r_aload_n dX3_readLine_41 rfl ?_
        obtain ⟨v42, hc42, hf⟩ := bd_of hf
        refine r_cVv (rest := []) (ct_X3_readSlit hs hE hT1 ho0 hc42) dX3_readLine_42 wd_1043 zX3_readSlit wd_1045 wd_27 rfl  rfl rfl (fo3 ho0) rfl rfl ⟨Nat.le_of_ble_eq_true rfl, Nat.le_of_ble_eq_true rfl⟩ (Nat.le_of_ble_eq_true rfl) ⟨Nat.le_of_ble_eq_true rfl, Nat.le_of_ble_eq_true rfl⟩ ?_
        refine r_goto (tgt := 149) dX3_readLine_45 (by decide) ?_
        have hr := Option.some.inj hf
        subst hr
        exact r_vret dX3_readLine_149 rfl (Nat.le_of_ble_eq_true rfl) (Nat.le_of_ble_eq_true rfl) ⟨rfl, rfl, rfl⟩
    · replace hf := if_f hf c22
      refine r_aload_n dX3_readLine_25 rfl ?_
      obtain ⟨v26, hc26, hf⟩ := bd_of hf
      refine r_cVv (rest := []) (ct_X3_readDrift hs hE hT1 ho0 hc26) dX3_readLine_26 wd_1030 zX3_readDrift wd_1032 wd_24 rfl  rfl rfl (fo3 ho0) rfl rfl ⟨Nat.le_of_ble_eq_true rfl, Nat.le_of_ble_eq_true rfl⟩ (Nat.le_of_ble_eq_true rfl) ⟨Nat.le_of_ble_eq_true rfl, Nat.le_of_ble_eq_true rfl⟩ ?_
      refine r_goto (tgt := 149) dX3_readLine_29 (by decide) ?_
      have hr := Option.some.inj hf
      subst hr
      exact r_vret dX3_readLine_149 rfl (Nat.le_of_ble_eq_true rfl) (Nat.le_of_ble_eq_true rfl) ⟨rfl, rfl, rfl⟩
  · replace hf := if_f hf c6
    refine r_aload_n dX3_readLine_9 rfl ?_
    obtain ⟨v10, hc10, hf⟩ := bd_of hf
    refine r_cVv (rest := []) (ct_X3_readTrain hs hE hT1 ho0 hc10) dX3_readLine_10 wd_1011 zX3_readTrain wd_1013 wd_20 rfl  rfl rfl (fo3 ho0) rfl rfl ⟨Nat.le_of_ble_eq_true rfl, Nat.le_of_ble_eq_true rfl⟩ (Nat.le_of_ble_eq_true rfl) ⟨Nat.le_of_ble_eq_true rfl, Nat.le_of_ble_eq_true rfl⟩ ?_
    refine r_goto (tgt := 149) dX3_readLine_13 (by decide) ?_
    have hr := Option.some.inj hf
    subst hr
    exact r_vret dX3_readLine_149 rfl (Nat.le_of_ble_eq_true rfl) (Nat.le_of_ble_eq_true rfl) ⟨rfl, rfl, rfl⟩
def L_X3_readText (n : Nat) (T1 o0 : Nat) : Nat → Nat → Int32 → gI → Option (gI)
  | 0, _, _, _ => none
  | j + 1, 0, x1, I => (if (900 : Int32) ≤ x1 then (if (I o0 0) = 0 then (if (I o0 6) = 0 then (if (I o0 0) = 0 then (if (I T1 5) = 0 then bd (F_X3_fail n T1 o0 I (5 : Int32)) (fun v95 => some v95) else some I) else some I) else bd (F_X3_fail n T1 o0 I (1 : Int32)) (fun v73 => (if (v73 o0 0) = 0 then (if (v73 T1 5) = 0 then bd (F_X3_fail n T1 o0 v73 (5 : Int32)) (fun v95 => some v95) else some v73) else some v73))) else (if (I o0 0) = 0 then (if (I T1 5) = 0 then bd (F_X3_fail n T1 o0 I (5 : Int32)) (fun v95 => some v95) else some I) else some I)) else bd (F_X3_takeSemicolon n T1 o0 I) (fun v41 => (if v41.1 = 0 then (if (v41.2 o0 0) = 0 then (if (v41.2 o0 6) = 0 then (if (v41.2 o0 0) = 0 then (if (v41.2 T1 5) = 0 then bd (F_X3_fail n T1 o0 v41.2 (5 : Int32)) (fun v95 => some v95) else some v41.2) else some v41.2) else bd (F_X3_fail n T1 o0 v41.2 (1 : Int32)) (fun v73 => (if (v73 o0 0) = 0 then (if (v73 T1 5) = 0 then bd (F_X3_fail n T1 o0 v73 (5 : Int32)) (fun v95 => some v95) else some v73) else some v73))) else (if (v41.2 o0 0) = 0 then (if (v41.2 T1 5) = 0 then bd (F_X3_fail n T1 o0 v41.2 (5 : Int32)) (fun v95 => some v95) else some v41.2) else some v41.2)) else bd (F_X3_readLine n T1 o0 v41.2) (fun v48 => L_X3_readText n T1 o0 j 0 (x1 + (1 : Int32)) v48))))
  | _ + 1, _, _, _ => none
theorem L_X3_readText_e0 (n j : Nat) (T1 o0 : Nat) (x1 : Int32) (I : gI) : L_X3_readText n T1 o0 (j + 1) 0 x1 I = (if (900 : Int32) ≤ x1 then (if (I o0 0) = 0 then (if (I o0 6) = 0 then (if (I o0 0) = 0 then (if (I T1 5) = 0 then bd (F_X3_fail n T1 o0 I (5 : Int32)) (fun v95 => some v95) else some I) else some I) else bd (F_X3_fail n T1 o0 I (1 : Int32)) (fun v73 => (if (v73 o0 0) = 0 then (if (v73 T1 5) = 0 then bd (F_X3_fail n T1 o0 v73 (5 : Int32)) (fun v95 => some v95) else some v73) else some v73))) else (if (I o0 0) = 0 then (if (I T1 5) = 0 then bd (F_X3_fail n T1 o0 I (5 : Int32)) (fun v95 => some v95) else some I) else some I)) else bd (F_X3_takeSemicolon n T1 o0 I) (fun v41 => (if v41.1 = 0 then (if (v41.2 o0 0) = 0 then (if (v41.2 o0 6) = 0 then (if (v41.2 o0 0) = 0 then (if (v41.2 T1 5) = 0 then bd (F_X3_fail n T1 o0 v41.2 (5 : Int32)) (fun v95 => some v95) else some v41.2) else some v41.2) else bd (F_X3_fail n T1 o0 v41.2 (1 : Int32)) (fun v73 => (if (v73 o0 0) = 0 then (if (v73 T1 5) = 0 then bd (F_X3_fail n T1 o0 v73 (5 : Int32)) (fun v95 => some v95) else some v73) else some v73))) else (if (v41.2 o0 0) = 0 then (if (v41.2 T1 5) = 0 then bd (F_X3_fail n T1 o0 v41.2 (5 : Int32)) (fun v95 => some v95) else some v41.2) else some v41.2)) else bd (F_X3_readLine n T1 o0 v41.2) (fun v48 => L_X3_readText n T1 o0 j 0 (x1 + (1 : Int32)) v48)))) := rfl
set_option maxHeartbeats 4000000 in
set_option maxRecDepth 100000 in
theorem cL_X3_readText {G : gG} {lay : Nat → Nat × Nat} {T0 T1 : Nat} {Dd : Nat → Nat → UInt64} {J : gJ} {K : gI} {N : gJ} {sz n : Nat} {o0 : Nat} (hs : G.1.stackTraces = false) (hE : gLay lay) (hT1 : gTank lay T1) (ho0 : lay o0 = (3, 0)) : ∀ j : Nat, (∀ (x1 : Int32) (I : gI) (r : gI), L_X3_readText n T1 o0 j 0 x1 I = some r → gAt G mX3_readText (gQp G mX3_readText (gR none (fO G (lay, T0, T1, Dd) r J K N) sz)) 33 [some (.ref (G.2.2.1 + o0)), some (.int x1)] [] (fO G (lay, T0, T1, Dd) I J K N) sz 0 0) := by
  intro j
  induction j with
  | zero => exact fun _ _ _ hf => (by cases hf)
  | succ j ih =>
    refine ?_
    · intro x1 I r hf
      rw [L_X3_readText_e0] at hf
      refine r_iload_n dX3_readText_33 rfl ?_
      refine r_sipush (v := (900 : Int32)) dX3_readText_34 (by decide) ?_
      refine r_icmp_ge (tgt := 57) dX3_readText_37 (by decide) (fun c37 => ?_) (fun c37 => ?_)
      · replace hf := if_t hf c37
        refine r_aload_n dX3_readText_57 rfl ?_
        refine g3_0 dX3_readText_58 wd_857 ho0 ?_
        refine r_if_ne (tgt := 76) dX3_readText_61 (by decide) (fun c61 => ?_) (fun c61 => ?_)
        · replace hf := if_f hf c61
          refine r_aload_n dX3_readText_76 rfl ?_
          refine g3_0 dX3_readText_77 wd_857 ho0 ?_
          refine r_if_ne (tgt := 98) dX3_readText_80 (by decide) (fun c80 => ?_) (fun c80 => ?_)
          · replace hf := if_f hf c80
            have hr := Option.some.inj hf
            subst hr
            exact r_vret dX3_readText_98 rfl (Nat.le_of_ble_eq_true rfl) (Nat.le_of_ble_eq_true rfl) ⟨rfl, rfl, rfl⟩
          · replace hf := if_t hf c80
            refine r_aload_n dX3_readText_83 rfl ?_
            refine g3_4 dX3_readText_84 wd_863 ho0 ?_
            refine g7_5 dX3_readText_87 wd_309 hT1.1 ?_
            refine r_if_ne (tgt := 98) dX3_readText_90 (by decide) (fun c90 => ?_) (fun c90 => ?_)
            · replace hf := if_f hf c90
              have hr := Option.some.inj hf
              subst hr
              exact r_vret dX3_readText_98 rfl (Nat.le_of_ble_eq_true rfl) (Nat.le_of_ble_eq_true rfl) ⟨rfl, rfl, rfl⟩
            · replace hf := if_t hf c90
              refine r_aload_n dX3_readText_93 rfl ?_
              refine r_iconst (v := (5 : Int32)) dX3_readText_94 (by decide) ?_
              obtain ⟨v95, hc95, hf⟩ := bd_of hf
              refine r_cVv (rest := []) (ct_X3_fail hs hE hT1 ho0 hc95) dX3_readText_95 wd_990 zX3_fail wd_992 wd_16 rfl  rfl rfl (fo3 ho0) rfl rfl ⟨Nat.le_of_ble_eq_true rfl, Nat.le_of_ble_eq_true rfl⟩ (Nat.le_of_ble_eq_true rfl) ⟨Nat.le_of_ble_eq_true rfl, Nat.le_of_ble_eq_true rfl⟩ ?_
              have hr := Option.some.inj hf
              subst hr
              exact r_vret dX3_readText_98 rfl (Nat.le_of_ble_eq_true rfl) (Nat.le_of_ble_eq_true rfl) ⟨rfl, rfl, rfl⟩
        · replace hf := if_t hf c61
          refine r_aload_n dX3_readText_64 rfl ?_
          refine g3_6 dX3_readText_65 wd_865 ho0 ?_
          refine r_if_eq (tgt := 76) dX3_readText_68 (by decide) (fun c68 => ?_) (fun c68 => ?_)
          · replace hf := if_t hf c68
            refine r_aload_n dX3_readText_76 rfl ?_
            refine g3_0 dX3_readText_77 wd_857 ho0 ?_
            refine r_if_ne (tgt := 98) dX3_readText_80 (by decide) (fun c80 => ?_) (fun c80 => ?_)
            · replace hf := if_f hf c80
              have hr := Option.some.inj hf
              subst hr
              exact r_vret dX3_readText_98 rfl (Nat.le_of_ble_eq_true rfl) (Nat.le_of_ble_eq_true rfl) ⟨rfl, rfl, rfl⟩
            · replace hf := if_t hf c80
              refine r_aload_n dX3_readText_83 rfl ?_
              refine g3_4 dX3_readText_84 wd_863 ho0 ?_
              refine g7_5 dX3_readText_87 wd_309 hT1.1 ?_
              refine r_if_ne (tgt := 98) dX3_readText_90 (by decide) (fun c90 => ?_) (fun c90 => ?_)
              · replace hf := if_f hf c90
                have hr := Option.some.inj hf
                subst hr
                exact r_vret dX3_readText_98 rfl (Nat.le_of_ble_eq_true rfl) (Nat.le_of_ble_eq_true rfl) ⟨rfl, rfl, rfl⟩
              · replace hf := if_t hf c90
                refine r_aload_n dX3_readText_93 rfl ?_
                refine r_iconst (v := (5 : Int32)) dX3_readText_94 (by decide) ?_
                obtain ⟨v95, hc95, hf⟩ := bd_of hf
                refine r_cVv (rest := []) (ct_X3_fail hs hE hT1 ho0 hc95) dX3_readText_95 wd_990 zX3_fail wd_992 wd_16 rfl  rfl rfl (fo3 ho0) rfl rfl ⟨Nat.le_of_ble_eq_true rfl, Nat.le_of_ble_eq_true rfl⟩ (Nat.le_of_ble_eq_true rfl) ⟨Nat.le_of_ble_eq_true rfl, Nat.le_of_ble_eq_true rfl⟩ ?_
                have hr := Option.some.inj hf
                subst hr
                exact r_vret dX3_readText_98 rfl (Nat.le_of_ble_eq_true rfl) (Nat.le_of_ble_eq_true rfl) ⟨rfl, rfl, rfl⟩
          · replace hf := if_f hf c68
            refine r_aload_n dX3_readText_71 rfl ?_
            refine r_iconst (v := (1 : Int32)) dX3_readText_72 (by decide) ?_
            obtain ⟨v73, hc73, hf⟩ := bd_of hf
            refine r_cVv (rest := []) (ct_X3_fail hs hE hT1 ho0 hc73) dX3_readText_73 wd_990 zX3_fail wd_992 wd_16 rfl  rfl rfl (fo3 ho0) rfl rfl ⟨Nat.le_of_ble_eq_true rfl, Nat.le_of_ble_eq_true rfl⟩ (Nat.le_of_ble_eq_true rfl) ⟨Nat.le_of_ble_eq_true rfl, Nat.le_of_ble_eq_true rfl⟩ ?_
            refine r_aload_n dX3_readText_76 rfl ?_
            refine g3_0 dX3_readText_77 wd_857 ho0 ?_
            refine r_if_ne (tgt := 98) dX3_readText_80 (by decide) (fun c80 => ?_) (fun c80 => ?_)
            · replace hf := if_f hf c80
              have hr := Option.some.inj hf
              subst hr
              exact r_vret dX3_readText_98 rfl (Nat.le_of_ble_eq_true rfl) (Nat.le_of_ble_eq_true rfl) ⟨rfl, rfl, rfl⟩
            · replace hf := if_t hf c80
              refine r_aload_n dX3_readText_83 rfl ?_
              refine g3_4 dX3_readText_84 wd_863 ho0 ?_
              refine g7_5 dX3_readText_87 wd_309 hT1.1 ?_
              refine r_if_ne (tgt := 98) dX3_readText_90 (by decide) (fun c90 => ?_) (fun c90 => ?_)
              · replace hf := if_f hf c90
                have hr := Option.some.inj hf
                subst hr
                exact r_vret dX3_readText_98 rfl (Nat.le_of_ble_eq_true rfl) (Nat.le_of_ble_eq_true rfl) ⟨rfl, rfl, rfl⟩
              · replace hf := if_t hf c90
                refine r_aload_n dX3_readText_93 rfl ?_
                refine r_iconst (v := (5 : Int32)) dX3_readText_94 (by decide) ?_
                obtain ⟨v95, hc95, hf⟩ := bd_of hf
                refine r_cVv (rest := []) (ct_X3_fail hs hE hT1 ho0 hc95) dX3_readText_95 wd_990 zX3_fail wd_992 wd_16 rfl  rfl rfl (fo3 ho0) rfl rfl ⟨Nat.le_of_ble_eq_true rfl, Nat.le_of_ble_eq_true rfl⟩ (Nat.le_of_ble_eq_true rfl) ⟨Nat.le_of_ble_eq_true rfl, Nat.le_of_ble_eq_true rfl⟩ ?_
                have hr := Option.some.inj hf
                subst hr
                exact r_vret dX3_readText_98 rfl (Nat.le_of_ble_eq_true rfl) (Nat.le_of_ble_eq_true rfl) ⟨rfl, rfl, rfl⟩
      · replace hf := if_f hf c37
        refine r_aload_n dX3_readText_40 rfl ?_
        obtain ⟨v41, hc41, hf⟩ := bd_of hf
        refine r_cVi (rest := []) (ct_X3_takeSemicolon hs hE hT1 ho0 hc41) dX3_readText_41 wd_1002 zX3_takeSemicolon wd_1004 wd_18 rfl  rfl rfl (fo3 ho0) rfl rfl ⟨Nat.le_of_ble_eq_true rfl, Nat.le_of_ble_eq_true rfl⟩ (Nat.le_of_ble_eq_true rfl) ⟨Nat.le_of_ble_eq_true rfl, Nat.le_of_ble_eq_true rfl⟩ ?_
        refine r_if_eq (tgt := 57) dX3_readText_44 (by decide) (fun c44 => ?_) (fun c44 => ?_)
        · replace hf := if_t hf c44
          refine r_aload_n dX3_readText_57 rfl ?_
          refine g3_0 dX3_readText_58 wd_857 ho0 ?_
          refine r_if_ne (tgt := 76) dX3_readText_61 (by decide) (fun c61 => ?_) (fun c61 => ?_)
          · replace hf := if_f hf c61
            refine r_aload_n dX3_readText_76 rfl ?_
            refine g3_0 dX3_readText_77 wd_857 ho0 ?_
            refine r_if_ne (tgt := 98) dX3_readText_80 (by decide) (fun c80 => ?_) (fun c80 => ?_)
            · replace hf := if_f hf c80
              have hr := Option.some.inj hf
              subst hr
              exact r_vret dX3_readText_98 rfl (Nat.le_of_ble_eq_true rfl) (Nat.le_of_ble_eq_true rfl) ⟨rfl, rfl, rfl⟩
            · replace hf := if_t hf c80
              refine r_aload_n dX3_readText_83 rfl ?_
              refine g3_4 dX3_readText_84 wd_863 ho0 ?_
              refine g7_5 dX3_readText_87 wd_309 hT1.1 ?_
              refine r_if_ne (tgt := 98) dX3_readText_90 (by decide) (fun c90 => ?_) (fun c90 => ?_)
              · replace hf := if_f hf c90
                have hr := Option.some.inj hf
                subst hr
                exact r_vret dX3_readText_98 rfl (Nat.le_of_ble_eq_true rfl) (Nat.le_of_ble_eq_true rfl) ⟨rfl, rfl, rfl⟩
              · replace hf := if_t hf c90
                refine r_aload_n dX3_readText_93 rfl ?_
                refine r_iconst (v := (5 : Int32)) dX3_readText_94 (by decide) ?_
                obtain ⟨v95, hc95, hf⟩ := bd_of hf
                refine r_cVv (rest := []) (ct_X3_fail hs hE hT1 ho0 hc95) dX3_readText_95 wd_990 zX3_fail wd_992 wd_16 rfl  rfl rfl (fo3 ho0) rfl rfl ⟨Nat.le_of_ble_eq_true rfl, Nat.le_of_ble_eq_true rfl⟩ (Nat.le_of_ble_eq_true rfl) ⟨Nat.le_of_ble_eq_true rfl, Nat.le_of_ble_eq_true rfl⟩ ?_
                have hr := Option.some.inj hf
                subst hr
                exact r_vret dX3_readText_98 rfl (Nat.le_of_ble_eq_true rfl) (Nat.le_of_ble_eq_true rfl) ⟨rfl, rfl, rfl⟩
          · replace hf := if_t hf c61
            refine r_aload_n dX3_readText_64 rfl ?_
            refine g3_6 dX3_readText_65 wd_865 ho0 ?_
            refine r_if_eq (tgt := 76) dX3_readText_68 (by decide) (fun c68 => ?_) (fun c68 => ?_)
            · replace hf := if_t hf c68
              refine r_aload_n dX3_readText_76 rfl ?_
              refine g3_0 dX3_readText_77 wd_857 ho0 ?_
              refine r_if_ne (tgt := 98) dX3_readText_80 (by decide) (fun c80 => ?_) (fun c80 => ?_)
              · replace hf := if_f hf c80
                have hr := Option.some.inj hf
                subst hr
                exact r_vret dX3_readText_98 rfl (Nat.le_of_ble_eq_true rfl) (Nat.le_of_ble_eq_true rfl) ⟨rfl, rfl, rfl⟩
              · replace hf := if_t hf c80
                refine r_aload_n dX3_readText_83 rfl ?_
                refine g3_4 dX3_readText_84 wd_863 ho0 ?_
                refine g7_5 dX3_readText_87 wd_309 hT1.1 ?_
                refine r_if_ne (tgt := 98) dX3_readText_90 (by decide) (fun c90 => ?_) (fun c90 => ?_)
                · replace hf := if_f hf c90
                  have hr := Option.some.inj hf
                  subst hr
                  exact r_vret dX3_readText_98 rfl (Nat.le_of_ble_eq_true rfl) (Nat.le_of_ble_eq_true rfl) ⟨rfl, rfl, rfl⟩
                · replace hf := if_t hf c90
                  refine r_aload_n dX3_readText_93 rfl ?_
                  refine r_iconst (v := (5 : Int32)) dX3_readText_94 (by decide) ?_
                  obtain ⟨v95, hc95, hf⟩ := bd_of hf
                  refine r_cVv (rest := []) (ct_X3_fail hs hE hT1 ho0 hc95) dX3_readText_95 wd_990 zX3_fail wd_992 wd_16 rfl  rfl rfl (fo3 ho0) rfl rfl ⟨Nat.le_of_ble_eq_true rfl, Nat.le_of_ble_eq_true rfl⟩ (Nat.le_of_ble_eq_true rfl) ⟨Nat.le_of_ble_eq_true rfl, Nat.le_of_ble_eq_true rfl⟩ ?_
                  have hr := Option.some.inj hf
                  subst hr
                  exact r_vret dX3_readText_98 rfl (Nat.le_of_ble_eq_true rfl) (Nat.le_of_ble_eq_true rfl) ⟨rfl, rfl, rfl⟩
            · replace hf := if_f hf c68
              refine r_aload_n dX3_readText_71 rfl ?_
              refine r_iconst (v := (1 : Int32)) dX3_readText_72 (by decide) ?_
              obtain ⟨v73, hc73, hf⟩ := bd_of hf
              refine r_cVv (rest := []) (ct_X3_fail hs hE hT1 ho0 hc73) dX3_readText_73 wd_990 zX3_fail wd_992 wd_16 rfl  rfl rfl (fo3 ho0) rfl rfl ⟨Nat.le_of_ble_eq_true rfl, Nat.le_of_ble_eq_true rfl⟩ (Nat.le_of_ble_eq_true rfl) ⟨Nat.le_of_ble_eq_true rfl, Nat.le_of_ble_eq_true rfl⟩ ?_
              refine r_aload_n dX3_readText_76 rfl ?_
              refine g3_0 dX3_readText_77 wd_857 ho0 ?_
              refine r_if_ne (tgt := 98) dX3_readText_80 (by decide) (fun c80 => ?_) (fun c80 => ?_)
              · replace hf := if_f hf c80
                have hr := Option.some.inj hf
                subst hr
                exact r_vret dX3_readText_98 rfl (Nat.le_of_ble_eq_true rfl) (Nat.le_of_ble_eq_true rfl) ⟨rfl, rfl, rfl⟩
              · replace hf := if_t hf c80
                refine r_aload_n dX3_readText_83 rfl ?_
                refine g3_4 dX3_readText_84 wd_863 ho0 ?_
                refine g7_5 dX3_readText_87 wd_309 hT1.1 ?_
                refine r_if_ne (tgt := 98) dX3_readText_90 (by decide) (fun c90 => ?_) (fun c90 => ?_)
                · replace hf := if_f hf c90
                  have hr := Option.some.inj hf
                  subst hr
                  exact r_vret dX3_readText_98 rfl (Nat.le_of_ble_eq_true rfl) (Nat.le_of_ble_eq_true rfl) ⟨rfl, rfl, rfl⟩
                · replace hf := if_t hf c90
                  refine r_aload_n dX3_readText_93 rfl ?_
                  refine r_iconst (v := (5 : Int32)) dX3_readText_94 (by decide) ?_
                  obtain ⟨v95, hc95, hf⟩ := bd_of hf
                  refine r_cVv (rest := []) (ct_X3_fail hs hE hT1 ho0 hc95) dX3_readText_95 wd_990 zX3_fail wd_992 wd_16 rfl  rfl rfl (fo3 ho0) rfl rfl ⟨Nat.le_of_ble_eq_true rfl, Nat.le_of_ble_eq_true rfl⟩ (Nat.le_of_ble_eq_true rfl) ⟨Nat.le_of_ble_eq_true rfl, Nat.le_of_ble_eq_true rfl⟩ ?_
                  have hr := Option.some.inj hf
                  subst hr
                  exact r_vret dX3_readText_98 rfl (Nat.le_of_ble_eq_true rfl) (Nat.le_of_ble_eq_true rfl) ⟨rfl, rfl, rfl⟩
        · replace hf := if_f hf c44
          refine r_aload_n dX3_readText_47 rfl ?_
          obtain ⟨v48, hc48, hf⟩ := bd_of hf
          refine r_cVv (rest := []) (ct_X3_readLine hs hE hT1 ho0 hc48) dX3_readText_48 wd_1006 zX3_readLine wd_1008 wd_19 rfl  rfl rfl (fo3 ho0) rfl rfl ⟨Nat.le_of_ble_eq_true rfl, Nat.le_of_ble_eq_true rfl⟩ (Nat.le_of_ble_eq_true rfl) ⟨Nat.le_of_ble_eq_true rfl, Nat.le_of_ble_eq_true rfl⟩ ?_
          refine r_iincv (v := (x1 + (1 : Int32))) dX3_readText_51 rfl rfl (by decide) rfl ?_
          refine r_goto (tgt := 33) dX3_readText_54 (by decide) ?_
          exact r_widen (k2 := 0) (n2 := 0) (Nat.le_of_ble_eq_true rfl) (Nat.le_of_ble_eq_true rfl) (r_mask [true, true] rfl (ih (x1 + (1 : Int32)) v48 r hf))
def F_X3_readText (n : Nat) (T1 o0 : Nat) (I : gI) : Option (gI) := bd (F_X7_clear n T1 I) (fun v4 => bd (F_X3_nextToken n T1 o0 (sI (sI v4 10 0 (0 : Int32)) 10 1 (0 : Int32))) (fun v24 => bd (F_X3_readHead n T1 o0 v24) (fun v28 => L_X3_readText n T1 o0 n 0 (0 : Int32) v28)))
set_option maxHeartbeats 4000000 in
set_option maxRecDepth 100000 in
theorem ct_X3_readText {G : gG} {lay : Nat → Nat × Nat} {T0 T1 : Nat} {Dd : Nat → Nat → UInt64} {I : gI} {J : gJ} {K : gI} {N : gJ} {sz n : Nat} {o0 : Nat} (hs : G.1.stackTraces = false) (hE : gLay lay) (hT1 : gTank lay T1) (ho0 : lay o0 = (3, 0)) {r : gI} (hf : F_X3_readText n T1 o0 I = some r) : gCt G mX3_readText [.ref (G.2.2.1 + o0)] (fO G (lay, T0, T1, Dd) I J K N) sz (gR none (fO G (lay, T0, T1, Dd) r J K N) sz) := by
  unfold F_X3_readText at hf
  refine gCt.of [some (.ref (G.2.2.1 + o0)), none] (by decide +kernel) rfl hs rfl (Nat.le_of_ble_eq_true rfl) ?_
  refine r_aload_n dX3_readText_0 rfl ?_
  refine g3_4 dX3_readText_1 wd_863 ho0 ?_
  obtain ⟨v4, hc4, hf⟩ := bd_of hf
  refine r_cVv (rest := []) (ct_X7_clear hs hE hT1 hc4) dX3_readText_4 wd_906 zX7_clear wd_907 wd_908 rfl  rfl rfl (fo7 hT1.1) rfl rfl ⟨Nat.le_of_ble_eq_true rfl, Nat.le_of_ble_eq_true rfl⟩ (Nat.le_of_ble_eq_true rfl) ⟨Nat.le_of_ble_eq_true rfl, Nat.le_of_ble_eq_true rfl⟩ ?_
  refine r_aload_n dX3_readText_7 rfl ?_
  refine g3_5 dX3_readText_8 wd_864 ho0 ?_
  refine r_iconst (v := (0 : Int32)) dX3_readText_11 (by decide) ?_
  refine p6_0 dX3_readText_12 wd_88 (gSt10 hE).1 ?_
  refine r_aload_n dX3_readText_15 rfl ?_
  refine g3_5 dX3_readText_16 wd_864 ho0 ?_
  refine r_iconst (v := (0 : Int32)) dX3_readText_19 (by decide) ?_
  refine p6_1 dX3_readText_20 wd_92 (gSt10 hE).1 ?_
  refine r_aload_n dX3_readText_23 rfl ?_
  obtain ⟨v24, hc24, hf⟩ := bd_of hf
  refine r_cVv (rest := []) (ct_X3_nextToken hs hE hT1 ho0 hc24) dX3_readText_24 wd_910 zX3_nextToken wd_912 wd_9 rfl  rfl rfl (fo3 ho0) rfl rfl ⟨Nat.le_of_ble_eq_true rfl, Nat.le_of_ble_eq_true rfl⟩ (Nat.le_of_ble_eq_true rfl) ⟨Nat.le_of_ble_eq_true rfl, Nat.le_of_ble_eq_true rfl⟩ ?_
  refine r_aload_n dX3_readText_27 rfl ?_
  obtain ⟨v28, hc28, hf⟩ := bd_of hf
  refine r_cVv (rest := []) (ct_X3_readHead hs hE hT1 ho0 hc28) dX3_readText_28 wd_925 zX3_readHead wd_927 wd_12 rfl  rfl rfl (fo3 ho0) rfl rfl ⟨Nat.le_of_ble_eq_true rfl, Nat.le_of_ble_eq_true rfl⟩ (Nat.le_of_ble_eq_true rfl) ⟨Nat.le_of_ble_eq_true rfl, Nat.le_of_ble_eq_true rfl⟩ ?_
  refine r_iconst (v := (0 : Int32)) dX3_readText_31 (by decide) ?_
  refine r_istore_n dX3_readText_32 (by decide) rfl ?_
  exact r_widen (k2 := 0) (n2 := 0) (Nat.le_of_ble_eq_true rfl) (Nat.le_of_ble_eq_true rfl) (r_mask [true, true] rfl ((cL_X3_readText hs hE hT1 ho0 n) (0 : Int32) v28 r hf))
