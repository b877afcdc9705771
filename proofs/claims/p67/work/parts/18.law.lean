def F_L_flush (n : Nat) (T0 T1 : Nat) (I : gI) (K : gI) : Option (gI × gI) := bd (F_X9_append n T0 T1 I (K 153 0) (K 153 1) (K 153 2) (K 153 3) (K 153 4)) (fun v16 => lt (sI K 153 5 (0 : Int32)) (fun K23 => some (v16.2, K23)))
set_option maxHeartbeats 4000000 in
set_option maxRecDepth 100000 in
theorem ct_L_flush {G : gG} {lay : Nat → Nat × Nat} {T0 T1 : Nat} {Dd : Nat → Nat → UInt64} {I : gI} {J : gJ} {K : gI} {N : gJ} {sz n : Nat} (hs : G.1.stackTraces = false) (hE : gLay lay) (hT0 : gTank lay T0) (hT1 : gTank lay T1) {r : gI × gI} (hf : F_L_flush n T0 T1 I K = some r) : gCt G mL_flush [.ref (G.2.2.1 + 0), .ref (G.2.2.1 + 153)] (fO G (lay, T0, T1, Dd) I J K N) sz (gR none (fO G (lay, T0, T1, Dd) r.1 J r.2 N) sz) := by
  unfold F_L_flush at hf
  refine gCt.of [some (.ref (G.2.2.1 + 0)), some (.ref (G.2.2.1 + 153)), none] (by decide +kernel) rfl hs rfl (Nat.le_of_ble_eq_true rfl) ?_
  refine r_aload_n dL_flush_0 rfl ?_
  refine r_aload_n dL_flush_1 rfl ?_
  refine r_iconst (v := (0 : Int32)) dL_flush_2 (by decide) ?_
  refine m_ialdc 0 dL_flush_3 (hE 153 (by decide)) (vpc rfl) rfl ?_
  refine r_aload_n dL_flush_4 rfl ?_
  refine r_iconst (v := (1 : Int32)) dL_flush_5 (by decide) ?_
  refine m_ialdc 1 dL_flush_6 (hE 153 (by decide)) (vpc rfl) rfl ?_
  refine r_aload_n dL_flush_7 rfl ?_
  refine r_iconst (v := (2 : Int32)) dL_flush_8 (by decide) ?_
  refine m_ialdc 2 dL_flush_9 (hE 153 (by decide)) (vpc rfl) rfl ?_
  refine r_aload_n dL_flush_10 rfl ?_
  refine r_iconst (v := (3 : Int32)) dL_flush_11 (by decide) ?_
  refine m_ialdc 3 dL_flush_12 (hE 153 (by decide)) (vpc rfl) rfl ?_
  refine r_aload_n dL_flush_13 rfl ?_
  refine r_iconst (v := (4 : Int32)) dL_flush_14 (by decide) ?_
  refine m_ialdc 4 dL_flush_15 (hE 153 (by decide)) (vpc rfl) rfl ?_
  obtain ⟨v16, hc16, hf⟩ := bd_of hf
  refine r_cVi (rest := []) (ct_X9_append hs hE hT0 hT1 hc16) dL_flush_16 wd_800 zX9_append wd_801 wd_802 rfl  rfl rfl (fo9 (hE 0 (by decide))) rfl rfl ⟨Nat.le_of_ble_eq_true rfl, Nat.le_of_ble_eq_true rfl⟩ (Nat.le_of_ble_eq_true rfl) ⟨Nat.le_of_ble_eq_true rfl, Nat.le_of_ble_eq_true rfl⟩ ?_
  refine r_istore_n dL_flush_19 (by decide) rfl ?_
  refine r_aload_n dL_flush_20 rfl ?_
  refine r_iconst (v := (5 : Int32)) dL_flush_21 (by decide) ?_
  refine r_iconst (v := (0 : Int32)) dL_flush_22 (by decide) ?_
  obtain ⟨K23, hK23, hf⟩ := lt_of hf
  refine m_iastc 5 dL_flush_23 (hE 153 (by decide)) (vpc rfl) rfl ?_
  rw [hK23]
  have hr := Option.some.inj hf
  subst hr
  exact r_vret dL_flush_24 rfl (Nat.le_of_ble_eq_true rfl) (Nat.le_of_ble_eq_true rfl) ⟨rfl, rfl, rfl⟩
def F_L_put (n : Nat) (T0 T1 : Nat) (I : gI) (K : gI) (a2 : Int32) : Option (gI × gI) := gv ((K 153 5) / (4 : Int32)) 7 (gv ((K 153 5) / (4 : Int32)) 7 (lt (sI K 153 (Int32.toNatClampNeg ((K 153 5) / (4 : Int32))) (((K 153 (Int32.toNatClampNeg ((K 153 5) / (4 : Int32)))) <<< ((8 : Int32) &&& 31)) ||| a2)) (fun K18 => lt (sI K18 153 5 ((K18 153 5) + (1 : Int32))) (fun K25 => lt (sI K25 153 6 ((K25 153 6) + (1 : Int32))) (fun K33 => (if (K33 153 5) = (20 : Int32) then bd (F_L_flush n T0 T1 I K33) (fun v44 => some (v44.1, v44.2)) else some (I, K33)))))))
set_option maxHeartbeats 4000000 in
set_option maxRecDepth 100000 in
theorem ct_L_put {G : gG} {lay : Nat → Nat × Nat} {T0 T1 : Nat} {Dd : Nat → Nat → UInt64} {I : gI} {J : gJ} {K : gI} {N : gJ} {sz n : Nat} {a2 : Int32} (hs : G.1.stackTraces = false) (hE : gLay lay) (hT0 : gTank lay T0) (hT1 : gTank lay T1) {r : gI × gI} (hf : F_L_put n T0 T1 I K a2 = some r) : gCt G mL_put [.ref (G.2.2.1 + 0), .ref (G.2.2.1 + 153), .int a2] (fO G (lay, T0, T1, Dd) I J K N) sz (gR none (fO G (lay, T0, T1, Dd) r.1 J r.2 N) sz) := by
  unfold F_L_put at hf
  refine gCt.of [some (.ref (G.2.2.1 + 0)), some (.ref (G.2.2.1 + 153)), some (.int a2), none] (by decide +kernel) rfl hs rfl (Nat.le_of_ble_eq_true rfl) ?_
  refine r_aload_n dL_put_0 rfl ?_
  refine r_iconst (v := (5 : Int32)) dL_put_1 (by decide) ?_
  refine m_ialdc 5 dL_put_2 (hE 153 (by decide)) (vpc rfl) rfl ?_
  refine r_istore_n dL_put_3 (by decide) rfl ?_
  refine r_aload_n dL_put_4 rfl ?_
  refine r_iload_n dL_put_5 rfl ?_
  refine r_iconst (v := (4 : Int32)) dL_put_6 (by decide) ?_
  refine r_idiv dL_put_7 (by decide) ?_
  refine r_aload_n dL_put_8 rfl ?_
  refine r_iload_n dL_put_9 rfl ?_
  refine r_iconst (v := (4 : Int32)) dL_put_10 (by decide) ?_
  refine r_idiv dL_put_11 (by decide) ?_
  obtain ⟨h12, hf⟩ := gv_of hf
  refine m_iald dL_put_12 (hE 153 (by decide)) h12 ?_
  refine r_bipush (v := (8 : Int32)) dL_put_13 (by decide) ?_
  refine r_ishl dL_put_15 ?_
  refine r_iload_n dL_put_16 rfl ?_
  refine r_ior dL_put_17 ?_
  obtain ⟨h18, hf⟩ := gv_of hf
  obtain ⟨K18, hK18, hf⟩ := lt_of hf
  refine m_iast dL_put_18 (hE 153 (by decide)) h18 ?_
  rw [hK18]
  refine r_aload_n dL_put_19 rfl ?_
  refine r_iconst (v := (5 : Int32)) dL_put_20 (by decide) ?_
  refine r_dup2 dL_put_21 rfl rfl ?_
  refine m_ialdc 5 dL_put_22 (hE 153 (by decide)) (vpc rfl) rfl ?_
  refine r_iconst (v := (1 : Int32)) dL_put_23 (by decide) ?_
  refine r_iadd dL_put_24 ?_
  obtain ⟨K25, hK25, hf⟩ := lt_of hf
  refine m_iastc 5 dL_put_25 (hE 153 (by decide)) (vpc rfl) rfl ?_
  rw [hK25]
  refine r_aload_n dL_put_26 rfl ?_
  refine r_bipush (v := (6 : Int32)) dL_put_27 (by decide) ?_
  refine r_dup2 dL_put_29 rfl rfl ?_
  refine m_ialdc 6 dL_put_30 (hE 153 (by decide)) (vpc rfl) rfl ?_
  refine r_iconst (v := (1 : Int32)) dL_put_31 (by decide) ?_
  refine r_iadd dL_put_32 ?_
  obtain ⟨K33, hK33, hf⟩ := lt_of hf
  refine m_iastc 6 dL_put_33 (hE 153 (by decide)) (vpc rfl) rfl ?_
  rw [hK33]
  refine r_aload_n dL_put_34 rfl ?_
  refine r_iconst (v := (5 : Int32)) dL_put_35 (by decide) ?_
  refine m_ialdc 5 dL_put_36 (hE 153 (by decide)) (vpc rfl) rfl ?_
  refine r_bipush (v := (20 : Int32)) dL_put_37 (by decide) ?_
  refine r_icmp_ne (tgt := 47) dL_put_39 (by decide) (fun c39 => ?_) (fun c39 => ?_)
  · replace hf := if_f hf c39
    have hr := Option.some.inj hf
    subst hr
    exact r_vret dL_put_47 rfl (Nat.le_of_ble_eq_true rfl) (Nat.le_of_ble_eq_true rfl) ⟨rfl, rfl, rfl⟩
  · replace hf := if_t hf c39
    refine r_aload_n dL_put_42 rfl ?_
    refine r_aload_n dL_put_43 rfl ?_
    obtain ⟨v44, hc44, hf⟩ := bd_of hf
    refine r_cSv (rest := []) (ct_L_flush hs hE hT0 hT1 hc44) dL_put_44 wd_797 zL_flush wd_798 rfl  rfl rfl ⟨Nat.le_of_ble_eq_true rfl, Nat.le_of_ble_eq_true rfl⟩ (Nat.le_of_ble_eq_true rfl) ⟨Nat.le_of_ble_eq_true rfl, Nat.le_of_ble_eq_true rfl⟩ ?_
    have hr := Option.some.inj hf
    subst hr
    exact r_vret dL_put_47 rfl (Nat.le_of_ble_eq_true rfl) (Nat.le_of_ble_eq_true rfl) ⟨rfl, rfl, rfl⟩
def L_L_say (n : Nat) (T0 T1 : Nat) (a2 : Int64) : Nat → Nat → Int32 → gI → gI → Option (gI × gI)
  | 0, _, _, _, _ => none
  | j + 1, 0, x4, I, K => (if x4 < 0 then some (I, K) else (if (lg_cmp ((a2 >>> (Int32.toInt64 x4 &&& 63)) &&& (255 : Int64)) (0 : Int64)) = 0 then L_L_say n T0 T1 a2 j 0 (x4 + (-8 : Int32)) I K else bd (F_L_put n T0 T1 I K (Int64.toInt32 ((a2 >>> (Int32.toInt64 x4 &&& 63)) &&& (255 : Int64)))) (fun v33 => L_L_say n T0 T1 a2 j 0 (x4 + (-8 : Int32)) v33.1 v33.2)))
  | _ + 1, _, _, _, _ => none
theorem L_L_say_e0 (n j : Nat) (T0 T1 : Nat) (a2 : Int64) (x4 : Int32) (I : gI) (K : gI) : L_L_say n T0 T1 a2 (j + 1) 0 x4 I K = (if x4 < 0 then some (I, K) else (if (lg_cmp ((a2 >>> (Int32.toInt64 x4 &&& 63)) &&& (255 : Int64)) (0 : Int64)) = 0 then L_L_say n T0 T1 a2 j 0 (x4 + (-8 : Int32)) I K else bd (F_L_put n T0 T1 I K (Int64.toInt32 ((a2 >>> (Int32.toInt64 x4 &&& 63)) &&& (255 : Int64)))) (fun v33 => L_L_say n T0 T1 a2 j 0 (x4 + (-8 : Int32)) v33.1 v33.2))) := rfl
set_option maxHeartbeats 4000000 in
set_option maxRecDepth 100000 in
theorem cL_L_say {G : gG} {lay : Nat → Nat × Nat} {T0 T1 : Nat} {Dd : Nat → Nat → UInt64} {J : gJ} {N : gJ} {sz n : Nat} {a2 : Int64} (hs : G.1.stackTraces = false) (hE : gLay lay) (hT0 : gTank lay T0) (hT1 : gTank lay T1) : ∀ j : Nat, (∀ (x4 : Int32) (I : gI) (K : gI) (r : gI × gI), L_L_say n T0 T1 a2 j 0 x4 I K = some r → gAt G mL_say (gQp G mL_say (gR none (fO G (lay, T0, T1, Dd) r.1 J r.2 N) sz)) 4 [some (.ref (G.2.2.1 + 0)), some (.ref (G.2.2.1 + 153)), some (.long a2), none, some (.int x4)] [] (fO G (lay, T0, T1, Dd) I J K N) sz 0 0) := by
  intro j
  induction j with
  | zero => exact fun _ _ _ _ hf => (by cases hf)
  | succ j ih =>
    refine ?_
    · intro x4 I K r hf
      rw [L_L_say_e0] at hf
      refine r_iload dL_say_4 rfl ?_
      refine r_if_lt (tgt := 42) dL_say_6 (by decide) (fun c6 => ?_) (fun c6 => ?_)
      · replace hf := if_t hf c6
        have hr := Option.some.inj hf
        subst hr
        exact r_vret dL_say_42 rfl (Nat.le_of_ble_eq_true rfl) (Nat.le_of_ble_eq_true rfl) ⟨rfl, rfl, rfl⟩
      · replace hf := if_f hf c6
        refine r_lload_n dL_say_9 rfl ?_
        refine r_iload dL_say_10 rfl ?_
        refine r_lshr dL_say_12 ?_
        refine r_ldc2 dL_say_13 wd_793 ?_
        refine r_land dL_say_16 ?_
        refine r_lconst (v := (0 : Int64)) dL_say_17 (by decide) ?_
        refine r_lcmp dL_say_18 ?_
        refine r_if_eq (tgt := 36) dL_say_19 (by decide) (fun c19 => ?_) (fun c19 => ?_)
        · replace hf := if_t hf c19
          refine r_iincv (v := (x4 + (-8 : Int32))) dL_say_36 rfl rfl (by decide) rfl ?_
          refine r_goto (tgt := 4) dL_say_39 (by decide) ?_
          exact r_widen (k2 := 0) (n2 := 0) (Nat.le_of_ble_eq_true rfl) (Nat.le_of_ble_eq_true rfl) (r_mask [true, true, true, false, true] rfl (ih (x4 + (-8 : Int32)) I K r hf))
        · replace hf := if_f hf c19
          refine r_aload_n dL_say_22 rfl ?_
          refine r_aload_n dL_say_23 rfl ?_
          refine r_lload_n dL_say_24 rfl ?_
          refine r_iload dL_say_25 rfl ?_
          refine r_lshr dL_say_27 ?_
          refine r_ldc2 dL_say_28 wd_793 ?_
          refine r_land dL_say_31 ?_
          refine r_l2i dL_say_32 ?_
          obtain ⟨v33, hc33, hf⟩ := bd_of hf
          refine r_cSv (rest := []) (ct_L_put hs hE hT0 hT1 hc33) dL_say_33 wd_794 zL_put wd_795 rfl  rfl rfl ⟨Nat.le_of_ble_eq_true rfl, Nat.le_of_ble_eq_true rfl⟩ (Nat.le_of_ble_eq_true rfl) ⟨Nat.le_of_ble_eq_true rfl, Nat.le_of_ble_eq_true rfl⟩ ?_
          refine r_iincv (v := (x4 + (-8 : Int32))) dL_say_36 rfl rfl (by decide) rfl ?_
          refine r_goto (tgt := 4) dL_say_39 (by decide) ?_
          exact r_widen (k2 := 0) (n2 := 0) (Nat.le_of_ble_eq_true rfl) (Nat.le_of_ble_eq_true rfl) (r_mask [true, true, true, false, true] rfl (ih (x4 + (-8 : Int32)) v33.1 v33.2 r hf))
def F_L_say (n : Nat) (T0 T1 : Nat) (I : gI) (K : gI) (a2 : Int64) : Option (gI × gI) := L_L_say n T0 T1 a2 n 0 (56 : Int32) I K
set_option maxHeartbeats 4000000 in
set_option maxRecDepth 100000 in
theorem ct_L_say {G : gG} {lay : Nat → Nat × Nat} {T0 T1 : Nat} {Dd : Nat → Nat → UInt64} {I : gI} {J : gJ} {K : gI} {N : gJ} {sz n : Nat} {a2 : Int64} (hs : G.1.stackTraces = false) (hE : gLay lay) (hT0 : gTank lay T0) (hT1 : gTank lay T1) {r : gI × gI} (hf : F_L_say n T0 T1 I K a2 = some r) : gCt G mL_say [.ref (G.2.2.1 + 0), .ref (G.2.2.1 + 153), .long a2] (fO G (lay, T0, T1, Dd) I J K N) sz (gR none (fO G (lay, T0, T1, Dd) r.1 J r.2 N) sz) := by
  unfold F_L_say at hf
  refine gCt.of [some (.ref (G.2.2.1 + 0)), some (.ref (G.2.2.1 + 153)), some (.long a2), none, none] (by decide +kernel) rfl hs rfl (Nat.le_of_ble_eq_true rfl) ?_
  refine r_bipush (v := (56 : Int32)) dL_say_0 (by decide) ?_
  refine r_istore dL_say_2 (by decide) rfl ?_
  exact r_widen (k2 := 0) (n2 := 0) (Nat.le_of_ble_eq_true rfl) (Nat.le_of_ble_eq_true rfl) (r_mask [true, true, true, false, true] rfl ((cL_L_say hs hE hT0 hT1 n) (56 : Int32) I K r hf))
def L_L_said (n : Nat) (T0 T1 : Nat) : Nat → Nat → Int32 → gI → gI → Option (Int32 × gI × gI)
  | 0, _, _, _, _ => none
  | j + 1, 0, x2, I, K => (if (K 153 5) ≤ 0 then lt (sI K 153 6 (0 : Int32)) (fun K25 => some (x2, I, K25)) else bd (F_L_put n T0 T1 I K (32 : Int32)) (fun v15 => L_L_said n T0 T1 j 0 x2 v15.1 v15.2))
  | _ + 1, _, _, _, _ => none
theorem L_L_said_e0 (n j : Nat) (T0 T1 : Nat) (x2 : Int32) (I : gI) (K : gI) : L_L_said n T0 T1 (j + 1) 0 x2 I K = (if (K 153 5) ≤ 0 then lt (sI K 153 6 (0 : Int32)) (fun K25 => some (x2, I, K25)) else bd (F_L_put n T0 T1 I K (32 : Int32)) (fun v15 => L_L_said n T0 T1 j 0 x2 v15.1 v15.2)) := rfl
set_option maxHeartbeats 4000000 in
set_option maxRecDepth 100000 in
theorem cL_L_said {G : gG} {lay : Nat → Nat × Nat} {T0 T1 : Nat} {Dd : Nat → Nat → UInt64} {J : gJ} {N : gJ} {sz n : Nat} (hs : G.1.stackTraces = false) (hE : gLay lay) (hT0 : gTank lay T0) (hT1 : gTank lay T1) : ∀ j : Nat, (∀ (x2 : Int32) (I : gI) (K : gI) (r : Int32 × gI × gI), L_L_said n T0 T1 j 0 x2 I K = some r → gAt G mL_said (gQp G mL_said (gR (some (.int r.1)) (fO G (lay, T0, T1, Dd) r.2.1 J r.2.2 N) sz)) 5 [some (.ref (G.2.2.1 + 0)), some (.ref (G.2.2.1 + 153)), some (.int x2)] [] (fO G (lay, T0, T1, Dd) I J K N) sz 0 0) := by
  intro j
  induction j with
  | zero => exact fun _ _ _ _ hf => (by cases hf)
  | succ j ih =>
    refine ?_
    · intro x2 I K r hf
      rw [L_L_said_e0] at hf
      refine r_aload_n dL_said_5 rfl ?_
      refine r_iconst (v := (5 : Int32)) dL_said_6 (by decide) ?_
      refine m_ialdc 5 dL_said_7 (hE 153 (by decide)) (vpc rfl) rfl ?_
      refine r_if_le (tgt := 21) dL_said_8 (by decide) (fun c8 => ?_) (fun c8 => ?_)
      · replace hf := if_t hf c8
        refine r_aload_n dL_said_21 rfl ?_
        refine r_bipush (v := (6 : Int32)) dL_said_22 (by decide) ?_
        refine r_iconst (v := (0 : Int32)) dL_said_24 (by decide) ?_
        obtain ⟨K25, hK25, hf⟩ := lt_of hf
        refine m_iastc 6 dL_said_25 (hE 153 (by decide)) (vpc rfl) rfl ?_
        rw [hK25]
        refine r_iload_n dL_said_26 rfl ?_
        have hr := Option.some.inj hf
        subst hr
        exact r_iret dL_said_27 rfl (Nat.le_of_ble_eq_true rfl) (Nat.le_of_ble_eq_true rfl) ⟨rfl, rfl, rfl⟩
      · replace hf := if_f hf c8
        refine r_aload_n dL_said_11 rfl ?_
        refine r_aload_n dL_said_12 rfl ?_
        refine r_bipush (v := (32 : Int32)) dL_said_13 (by decide) ?_
        obtain ⟨v15, hc15, hf⟩ := bd_of hf
        refine r_cSv (rest := []) (ct_L_put hs hE hT0 hT1 hc15) dL_said_15 wd_794 zL_put wd_795 rfl  rfl rfl ⟨Nat.le_of_ble_eq_true rfl, Nat.le_of_ble_eq_true rfl⟩ (Nat.le_of_ble_eq_true rfl) ⟨Nat.le_of_ble_eq_true rfl, Nat.le_of_ble_eq_true rfl⟩ ?_
        refine r_goto (tgt := 5) dL_said_18 (by decide) ?_
        exact r_widen (k2 := 0) (n2 := 0) (Nat.le_of_ble_eq_true rfl) (Nat.le_of_ble_eq_true rfl) (r_mask [true, true, true] rfl (ih x2 v15.1 v15.2 r hf))
def F_L_said (n : Nat) (T0 T1 : Nat) (I : gI) (K : gI) : Option (Int32 × gI × gI) := L_L_said n T0 T1 n 0 (K 153 6) I K
set_option maxHeartbeats 4000000 in
set_option maxRecDepth 100000 in
theorem ct_L_said {G : gG} {lay : Nat → Nat × Nat} {T0 T1 : Nat} {Dd : Nat → Nat → UInt64} {I : gI} {J : gJ} {K : gI} {N : gJ} {sz n : Nat} (hs : G.1.stackTraces = false) (hE : gLay lay) (hT0 : gTank lay T0) (hT1 : gTank lay T1) {r : Int32 × gI × gI} (hf : F_L_said n T0 T1 I K = some r) : gCt G mL_said [.ref (G.2.2.1 + 0), .ref (G.2.2.1 + 153)] (fO G (lay, T0, T1, Dd) I J K N) sz (gR (some (.int r.1)) (fO G (lay, T0, T1, Dd) r.2.1 J r.2.2 N) sz) := by
  unfold F_L_said at hf
  refine gCt.of [some (.ref (G.2.2.1 + 0)), some (.ref (G.2.2.1 + 153)), none] (by decide +kernel) rfl hs rfl (Nat.le_of_ble_eq_true rfl) ?_
  refine r_aload_n dL_said_0 rfl ?_
  refine r_bipush (v := (6 : Int32)) dL_said_1 (by decide) ?_
  refine m_ialdc 6 dL_said_3 (hE 153 (by decide)) (vpc rfl) rfl ?_
  refine r_istore_n dL_said_4 (by decide) rfl ?_
  exact r_widen (k2 := 0) (n2 := 0) (Nat.le_of_ble_eq_true rfl) (Nat.le_of_ble_eq_true rfl) (r_mask [true, true, true] rfl ((cL_L_said hs hE hT0 hT1 n) (K 153 6) I K r hf))
def L_L_number (n : Nat) (T0 T1 : Nat) (a2 : Int32) : Nat → Nat → Int32 → Int32 → gI → gI → Option (gI × gI)
  | 0, _, _, _, _, _ => none
  | j + 1, 0, x3, x4, I, K => (if x4 ≤ (1 : Int32) then L_L_number n T0 T1 a2 j 1 x3 x4 I K else (if x4 ≤ x3 then L_L_number n T0 T1 a2 j 1 x3 x4 I K else L_L_number n T0 T1 a2 j 0 x3 (x4 / (10 : Int32)) I K))
  | j + 1, 1, x3, x4, I, K => (if x4 ≤ 0 then some (I, K) else gd (¬ x4 = 0) (bd (F_L_put n T0 T1 I K ((48 : Int32) + ((x3 / x4) - (x3 / x4) / (10 : Int32) * (10 : Int32)))) (fun v59 => L_L_number n T0 T1 a2 j 1 x3 (x4 / (10 : Int32)) v59.1 v59.2)))
  | _ + 1, _, _, _, _, _ => none
theorem L_L_number_e0 (n j : Nat) (T0 T1 : Nat) (a2 : Int32) (x3 : Int32) (x4 : Int32) (I : gI) (K : gI) : L_L_number n T0 T1 a2 (j + 1) 0 x3 x4 I K = (if x4 ≤ (1 : Int32) then L_L_number n T0 T1 a2 j 1 x3 x4 I K else (if x4 ≤ x3 then L_L_number n T0 T1 a2 j 1 x3 x4 I K else L_L_number n T0 T1 a2 j 0 x3 (x4 / (10 : Int32)) I K)) := rfl
theorem L_L_number_e1 (n j : Nat) (T0 T1 : Nat) (a2 : Int32) (x3 : Int32) (x4 : Int32) (I : gI) (K : gI) : L_L_number n T0 T1 a2 (j + 1) 1 x3 x4 I K = (if x4 ≤ 0 then some (I, K) else gd (¬ x4 = 0) (bd (F_L_put n T0 T1 I K ((48 : Int32) + ((x3 / x4) - (x3 / x4) / (10 : Int32) * (10 : Int32)))) (fun v59 => L_L_number n T0 T1 a2 j 1 x3 (x4 / (10 : Int32)) v59.1 v59.2))) := rfl
set_option maxHeartbeats 4000000 in
set_option maxRecDepth 100000 in
theorem cL_L_number {G : gG} {lay : Nat → Nat × Nat} {T0 T1 : Nat} {Dd : Nat → Nat → UInt64} {J : gJ} {N : gJ} {sz n : Nat} {a2 : Int32} (hs : G.1.stackTraces = false) (hE : gLay lay) (hT0 : gTank lay T0) (hT1 : gTank lay T1) : ∀ j : Nat, (∀ (x3 : Int32) (x4 : Int32) (I : gI) (K : gI) (r : gI × gI), L_L_number n T0 T1 a2 j 0 x3 x4 I K = some r → gAt G mL_number (gQp G mL_number (gR none (fO G (lay, T0, T1, Dd) r.1 J r.2 N) sz)) 20 [some (.ref (G.2.2.1 + 0)), some (.ref (G.2.2.1 + 153)), some (.int a2), some (.int x3), some (.int x4)] [] (fO G (lay, T0, T1, Dd) I J K N) sz 0 0) ∧ (∀ (x3 : Int32) (x4 : Int32) (I : gI) (K : gI) (r : gI × gI), L_L_number n T0 T1 a2 j 1 x3 x4 I K = some r → gAt G mL_number (gQp G mL_number (gR none (fO G (lay, T0, T1, Dd) r.1 J r.2 N) sz)) 42 [some (.ref (G.2.2.1 + 0)), some (.ref (G.2.2.1 + 153)), some (.int a2), some (.int x3), some (.int x4)] [] (fO G (lay, T0, T1, Dd) I J K N) sz 0 0) := by
  intro j
  induction j with
  | zero => exact ⟨fun _ _ _ _ _ hf => (by cases hf), fun _ _ _ _ _ hf => (by cases hf)⟩
  | succ j ih =>
    refine ⟨?_, ?_⟩
    · intro x3 x4 I K r hf
      rw [L_L_number_e0] at hf
      refine r_iload dL_number_20 rfl ?_
      refine r_iconst (v := (1 : Int32)) dL_number_22 (by decide) ?_
      refine r_icmp_le (tgt := 42) dL_number_23 (by decide) (fun c23 => ?_) (fun c23 => ?_)
      · replace hf := if_t hf c23
        exact r_widen (k2 := 0) (n2 := 0) (Nat.le_of_ble_eq_true rfl) (Nat.le_of_ble_eq_true rfl) (r_mask [true, true, true, true, true] rfl (ih.2 x3 x4 I K r hf))
      · replace hf := if_f hf c23
        refine r_iload_n dL_number_26 rfl ?_
        refine r_iload dL_number_27 rfl ?_
        refine r_icmp_ge (tgt := 42) dL_number_29 (by decide) (fun c29 => ?_) (fun c29 => ?_)
        · replace hf := if_t hf c29
          exact r_widen (k2 := 0) (n2 := 0) (Nat.le_of_ble_eq_true rfl) (Nat.le_of_ble_eq_true rfl) (r_mask [true, true, true, true, true] rfl (ih.2 x3 x4 I K r hf))
        · replace hf := if_f hf c29
          refine r_iload dL_number_32 rfl ?_
          refine r_bipush (v := (10 : Int32)) dL_number_34 (by decide) ?_
          refine r_idiv dL_number_36 (by decide) ?_
          refine r_istore dL_number_37 (by decide) rfl ?_
          refine r_goto (tgt := 20) dL_number_39 (by decide) ?_
          exact r_widen (k2 := 0) (n2 := 0) (Nat.le_of_ble_eq_true rfl) (Nat.le_of_ble_eq_true rfl) (r_mask [true, true, true, true, true] rfl (ih.1 x3 (x4 / (10 : Int32)) I K r hf))
    · intro x3 x4 I K r hf
      rw [L_L_number_e1] at hf
      refine r_iload dL_number_42 rfl ?_
      refine r_if_le (tgt := 72) dL_number_44 (by decide) (fun c44 => ?_) (fun c44 => ?_)
      · replace hf := if_t hf c44
        have hr := Option.some.inj hf
        subst hr
        exact r_vret dL_number_72 rfl (Nat.le_of_ble_eq_true rfl) (Nat.le_of_ble_eq_true rfl) ⟨rfl, rfl, rfl⟩
      · replace hf := if_f hf c44
        refine r_aload_n dL_number_47 rfl ?_
        refine r_aload_n dL_number_48 rfl ?_
        refine r_bipush (v := (48 : Int32)) dL_number_49 (by decide) ?_
        refine r_iload_n dL_number_51 rfl ?_
        refine r_iload dL_number_52 rfl ?_
        obtain ⟨h54, hf⟩ := gd_of hf
        refine r_idiv dL_number_54 h54 ?_
        refine r_bipush (v := (10 : Int32)) dL_number_55 (by decide) ?_
        refine r_irem dL_number_57 (by decide) ?_
        refine r_iadd dL_number_58 ?_
        obtain ⟨v59, hc59, hf⟩ := bd_of hf
        refine r_cSv (rest := []) (ct_L_put hs hE hT0 hT1 hc59) dL_number_59 wd_794 zL_put wd_795 rfl  rfl rfl ⟨Nat.le_of_ble_eq_true rfl, Nat.le_of_ble_eq_true rfl⟩ (Nat.le_of_ble_eq_true rfl) ⟨Nat.le_of_ble_eq_true rfl, Nat.le_of_ble_eq_true rfl⟩ ?_
        refine r_iload dL_number_62 rfl ?_
        refine r_bipush (v := (10 : Int32)) dL_number_64 (by decide) ?_
        refine r_idiv dL_number_66 (by decide) ?_
        refine r_istore dL_number_67 (by decide) rfl ?_
        refine r_goto (tgt := 42) dL_number_69 (by decide) ?_
        exact r_widen (k2 := 0) (n2 := 0) (Nat.le_of_ble_eq_true rfl) (Nat.le_of_ble_eq_true rfl) (r_mask [true, true, true, true, true] rfl (ih.2 x3 (x4 / (10 : Int32)) v59.1 v59.2 r hf))
def F_L_number (n : Nat) (T0 T1 : Nat) (I : gI) (K : gI) (a2 : Int32) : Option (gI × gI) := (if 0 ≤ a2 then L_L_number n T0 T1 a2 n 0 (jabs a2) (100000 : Int32) I K else bd (F_L_put n T0 T1 I K (45 : Int32)) (fun v8 => L_L_number n T0 T1 a2 n 0 (jabs a2) (100000 : Int32) v8.1 v8.2))
set_option maxHeartbeats 4000000 in
set_option maxRecDepth 100000 in
theorem ct_L_number {G : gG} {lay : Nat → Nat × Nat} {T0 T1 : Nat} {Dd : Nat → Nat → UInt64} {I : gI} {J : gJ} {K : gI} {N : gJ} {sz n : Nat} {a2 : Int32} (hs : G.1.stackTraces = false) (hE : gLay lay) (hT0 : gTank lay T0) (hT1 : gTank lay T1) {r : gI × gI} (hf : F_L_number n T0 T1 I K a2 = some r) : gCt G mL_number [.ref (G.2.2.1 + 0), .ref (G.2.2.1 + 153), .int a2] (fO G (lay, T0, T1, Dd) I J K N) sz (gR none (fO G (lay, T0, T1, Dd) r.1 J r.2 N) sz) := by
  unfold F_L_number at hf
  refine gCt.of [some (.ref (G.2.2.1 + 0)), some (.ref (G.2.2.1 + 153)), some (.int a2), none, none] (by decide +kernel) rfl hs rfl (Nat.le_of_ble_eq_true rfl) ?_
  refine r_iload_n dL_number_0 rfl ?_
  refine r_if_ge (tgt := 11) dL_number_1 (by decide) (fun c1 => ?_) (fun c1 => ?_)
  · replace hf := if_t hf c1
    refine r_iload_n dL_number_11 rfl ?_
    refine r_mabs dL_number_12 wd_815 wd_595 wd_54 wMath_mabs (Nat.le_of_ble_eq_true rfl) (Nat.le_of_ble_eq_true rfl) (Nat.le_of_ble_eq_true rfl) (Nat.le_of_ble_eq_true rfl) ?_
    refine r_istore_n dL_number_15 (by decide) rfl ?_
    refine r_ldc dL_number_16 wd_816 ?_
    refine r_istore dL_number_18 (by decide) rfl ?_
    exact r_widen (k2 := 0) (n2 := 0) (Nat.le_of_ble_eq_true rfl) (Nat.le_of_ble_eq_true rfl) (r_mask [true, true, true, true, true] rfl ((cL_L_number hs hE hT0 hT1 n).1 (jabs a2) (100000 : Int32) I K r hf))
  · replace hf := if_f hf c1
    refine r_aload_n dL_number_4 rfl ?_
    refine r_aload_n dL_number_5 rfl ?_
    refine r_bipush (v := (45 : Int32)) dL_number_6 (by decide) ?_
    obtain ⟨v8, hc8, hf⟩ := bd_of hf
    refine r_cSv (rest := []) (ct_L_put hs hE hT0 hT1 hc8) dL_number_8 wd_794 zL_put wd_795 rfl  rfl rfl ⟨Nat.le_of_ble_eq_true rfl, Nat.le_of_ble_eq_true rfl⟩ (Nat.le_of_ble_eq_true rfl) ⟨Nat.le_of_ble_eq_true rfl, Nat.le_of_ble_eq_true rfl⟩ ?_
    refine r_iload_n dL_number_11 rfl ?_
    refine r_mabs dL_number_12 wd_815 wd_595 wd_54 wMath_mabs (Nat.le_of_ble_eq_true rfl) (Nat.le_of_ble_eq_true rfl) (Nat.le_of_ble_eq_true rfl) (Nat.le_of_ble_eq_true rfl) ?_
    refine r_istore_n dL_number_15 (by decide) rfl ?_
    refine r_ldc dL_number_16 wd_816 ?_
    refine r_istore dL_number_18 (by decide) rfl ?_
    exact r_widen (k2 := 0) (n2 := 0) (Nat.le_of_ble_eq_true rfl) (Nat.le_of_ble_eq_true rfl) (r_mask [true, true, true, true, true] rfl ((cL_L_number hs hE hT0 hT1 n).1 (jabs a2) (100000 : Int32) v8.1 v8.2 r hf))
def F_L_cell (n : Nat) (zS : Nat) (S : Nat → Int32) (a1 : Int32) : Option (Int32) := (if (nI zS) ≤ a1 then some (0 : Int32) else gv a1 zS (some (S (Int32.toNatClampNeg a1))))
set_option maxHeartbeats 4000000 in
set_option maxRecDepth 100000 in
theorem ct_L_cell {G : gG} {lay : Nat → Nat × Nat} {T0 T1 : Nat} {Dd : Nat → Nat → UInt64} {I : gI} {J : gJ} {K : gI} {N : gJ} {sz n : Nat} {zS : Nat} {S : Nat → Int32} {a1 : Int32} (hs : G.1.stackTraces = false) (hE : gLay lay) (hS : gScr G zS S) {r : Int32} (hf : F_L_cell n zS S a1 = some r) : gCt G mL_cell [.ref (gsA G), .int a1] (fO G (lay, T0, T1, Dd) I J K N) sz (gR (some (.int r)) (fO G (lay, T0, T1, Dd) I J K N) sz) := by
  unfold F_L_cell at hf
  refine gCt.of [some (.ref (gsA G)), some (.int a1)] (by decide +kernel) rfl hs rfl (Nat.le_of_ble_eq_true rfl) ?_
  refine r_iload_n dL_cell_0 rfl ?_
  refine r_aload_n dL_cell_1 rfl ?_
  refine r_slen hS dL_cell_2 ?_
  refine r_icmp_ge (tgt := 12) dL_cell_3 (by decide) (fun c3 => ?_) (fun c3 => ?_)
  · replace hf := if_t hf c3
    refine r_iconst (v := (0 : Int32)) dL_cell_12 (by decide) ?_
    have hr := Option.some.inj hf
    subst hr
    exact r_iret dL_cell_13 rfl (Nat.le_of_ble_eq_true rfl) (Nat.le_of_ble_eq_true rfl) ⟨rfl, rfl, rfl⟩
  · replace hf := if_f hf c3
    refine r_aload_n dL_cell_6 rfl ?_
    refine r_iload_n dL_cell_7 rfl ?_
    obtain ⟨h8, hf⟩ := gv_of hf
    refine r_sld hS dL_cell_8 h8 ?_
    refine r_goto (tgt := 13) dL_cell_9 (by decide) ?_
    have hr := Option.some.inj hf
    subst hr
    exact r_iret dL_cell_13 rfl (Nat.le_of_ble_eq_true rfl) (Nat.le_of_ble_eq_true rfl) ⟨rfl, rfl, rfl⟩
def L_L_furnished (n : Nat) (zS : Nat) (S : Nat → Int32) : Nat → Nat → Int32 → Int32 → gI → Option (gI)
  | 0, _, _, _, _ => none
  | j + 1, 0, x2, x3, K => (if (4 : Int32) ≤ x3 then lt (sI K 154 64 (((x2 >>> ((24 : Int32) &&& 31)) &&& (3 : Int32)) - ((x2 >>> ((24 : Int32) &&& 31)) &&& (3 : Int32)) / (3 : Int32) * (3 : Int32))) (fun K57 => lt (sI K57 154 71 (((x2 >>> ((26 : Int32) &&& 31)) &&& (3 : Int32)) - ((x2 >>> ((26 : Int32) &&& 31)) &&& (3 : Int32)) / (3 : Int32) * (3 : Int32))) (fun K69 => lt (sI K69 154 82 (((x2 >>> ((28 : Int32) &&& 31)) &&& (3 : Int32)) - ((x2 >>> ((28 : Int32) &&& 31)) &&& (3 : Int32)) / (3 : Int32) * (3 : Int32))) (fun K81 => L_L_furnished n zS S j 1 x2 (0 : Int32) K81))) else gv ((60 : Int32) + x3) 90 (lt (sI K 154 (Int32.toNatClampNeg ((60 : Int32) + x3)) (((x2 >>> (x3 &&& 31)) &&& (1 : Int32)) * ((1 : Int32) + (((x2 >>> (((4 : Int32) + ((5 : Int32) * x3)) &&& 31)) &&& (31 : Int32)) * (3 : Int32))))) (fun K39 => L_L_furnished n zS S j 0 x2 (x3 + (1 : Int32)) K39)))
  | j + 1, 1, x2, x3, K => (if (2 : Int32) ≤ x3 then some K else bd (F_L_cell n zS S ((23 : Int32) + ((2 : Int32) * x3))) (fun v96 => gd (¬ (K 154 6) = 0) (gv ((65 : Int32) + ((3 : Int32) * x3)) 90 (lt (sI K 154 (Int32.toNatClampNeg ((65 : Int32) + ((3 : Int32) * x3))) ((v96 &&& (3 : Int32)) - (v96 &&& (3 : Int32)) / (K 154 6) * (K 154 6))) (fun K115 => gv ((66 : Int32) + ((3 : Int32) * x3)) 90 (lt (sI K115 154 (Int32.toNatClampNeg ((66 : Int32) + ((3 : Int32) * x3))) ((v96 >>> ((2 : Int32) &&& 31)) &&& (31 : Int32))) (fun K129 => gv ((66 : Int32) + ((3 : Int32) * x3)) 90 (gv ((67 : Int32) + ((3 : Int32) * x3)) 90 (lt (sI K129 154 (Int32.toNatClampNeg ((67 : Int32) + ((3 : Int32) * x3))) ((K129 154 (Int32.toNatClampNeg ((66 : Int32) + ((3 : Int32) * x3)))) + ((v96 >>> ((7 : Int32) &&& 31)) &&& (15 : Int32)))) (fun K153 => gd (¬ (K153 154 1) = 0) (gv ((83 : Int32) + ((2 : Int32) * x3)) 90 (lt (sI K153 154 (Int32.toNatClampNeg ((83 : Int32) + ((2 : Int32) * x3))) (((v96 >>> ((11 : Int32) &&& 31)) &&& (7 : Int32)) - ((v96 >>> ((11 : Int32) &&& 31)) &&& (7 : Int32)) / (K153 154 1) * (K153 154 1))) (fun K172 => gd (¬ (K172 154 2) = 0) (gv ((84 : Int32) + ((2 : Int32) * x3)) 90 (lt (sI K172 154 (Int32.toNatClampNeg ((84 : Int32) + ((2 : Int32) * x3))) (((v96 >>> ((14 : Int32) &&& 31)) &&& (7 : Int32)) - ((v96 >>> ((14 : Int32) &&& 31)) &&& (7 : Int32)) / (K172 154 2) * (K172 154 2))) (fun K191 => bd (F_L_cell n zS S ((24 : Int32) + ((2 : Int32) * x3))) (fun v199 => gd (¬ (K191 154 1) = 0) (gv ((72 : Int32) + ((5 : Int32) * x3)) 90 (lt (sI K191 154 (Int32.toNatClampNeg ((72 : Int32) + ((5 : Int32) * x3))) ((v199 &&& (7 : Int32)) - (v199 &&& (7 : Int32)) / (K191 154 1) * (K191 154 1))) (fun K222 => gd (¬ (K222 154 2) = 0) (gv (((72 : Int32) + ((5 : Int32) * x3)) + (1 : Int32)) 90 (lt (sI K222 154 (Int32.toNatClampNeg (((72 : Int32) + ((5 : Int32) * x3)) + (1 : Int32))) (((v199 >>> ((3 : Int32) &&& 31)) &&& (7 : Int32)) - ((v199 >>> ((3 : Int32) &&& 31)) &&& (7 : Int32)) / (K222 154 2) * (K222 154 2))) (fun K238 => gv ((72 : Int32) + ((5 : Int32) * x3)) 90 (gv ((72 : Int32) + ((5 : Int32) * x3)) 90 (gd (¬ ((K238 154 1) - (K238 154 (Int32.toNatClampNeg ((72 : Int32) + ((5 : Int32) * x3))))) = 0) (gv (((72 : Int32) + ((5 : Int32) * x3)) + (2 : Int32)) 90 (lt (sI K238 154 (Int32.toNatClampNeg (((72 : Int32) + ((5 : Int32) * x3)) + (2 : Int32))) ((K238 154 (Int32.toNatClampNeg ((72 : Int32) + ((5 : Int32) * x3)))) + (((v199 >>> ((6 : Int32) &&& 31)) &&& (7 : Int32)) - ((v199 >>> ((6 : Int32) &&& 31)) &&& (7 : Int32)) / ((K238 154 1) - (K238 154 (Int32.toNatClampNeg ((72 : Int32) + ((5 : Int32) * x3))))) * ((K238 154 1) - (K238 154 (Int32.toNatClampNeg ((72 : Int32) + ((5 : Int32) * x3)))))))) (fun K265 => gv (((72 : Int32) + ((5 : Int32) * x3)) + (1 : Int32)) 90 (gv (((72 : Int32) + ((5 : Int32) * x3)) + (1 : Int32)) 90 (gd (¬ ((K265 154 2) - (K265 154 (Int32.toNatClampNeg (((72 : Int32) + ((5 : Int32) * x3)) + (1 : Int32))))) = 0) (gv (((72 : Int32) + ((5 : Int32) * x3)) + (3 : Int32)) 90 (lt (sI K265 154 (Int32.toNatClampNeg (((72 : Int32) + ((5 : Int32) * x3)) + (3 : Int32))) ((K265 154 (Int32.toNatClampNeg (((72 : Int32) + ((5 : Int32) * x3)) + (1 : Int32)))) + (((v199 >>> ((9 : Int32) &&& 31)) &&& (7 : Int32)) - ((v199 >>> ((9 : Int32) &&& 31)) &&& (7 : Int32)) / ((K265 154 2) - (K265 154 (Int32.toNatClampNeg (((72 : Int32) + ((5 : Int32) * x3)) + (1 : Int32))))) * ((K265 154 2) - (K265 154 (Int32.toNatClampNeg (((72 : Int32) + ((5 : Int32) * x3)) + (1 : Int32)))))))) (fun K296 => gv (((72 : Int32) + ((5 : Int32) * x3)) + (4 : Int32)) 90 (lt (sI K296 154 (Int32.toNatClampNeg (((72 : Int32) + ((5 : Int32) * x3)) + (4 : Int32))) (((v199 >>> ((12 : Int32) &&& 31)) &&& (255 : Int32)) - ((v199 >>> ((12 : Int32) &&& 31)) &&& (255 : Int32)) / (201 : Int32) * (201 : Int32))) (fun K314 => L_L_furnished n zS S j 1 v199 (x3 + (1 : Int32)) K314)))))))))))))))))))))))))))))))))))
  | _ + 1, _, _, _, _ => none
theorem L_L_furnished_e0 (n j : Nat) (zS : Nat) (S : Nat → Int32) (x2 : Int32) (x3 : Int32) (K : gI) : L_L_furnished n zS S (j + 1) 0 x2 x3 K = (if (4 : Int32) ≤ x3 then lt (sI K 154 64 (((x2 >>> ((24 : Int32) &&& 31)) &&& (3 : Int32)) - ((x2 >>> ((24 : Int32) &&& 31)) &&& (3 : Int32)) / (3 : Int32) * (3 : Int32))) (fun K57 => lt (sI K57 154 71 (((x2 >>> ((26 : Int32) &&& 31)) &&& (3 : Int32)) - ((x2 >>> ((26 : Int32) &&& 31)) &&& (3 : Int32)) / (3 : Int32) * (3 : Int32))) (fun K69 => lt (sI K69 154 82 (((x2 >>> ((28 : Int32) &&& 31)) &&& (3 : Int32)) - ((x2 >>> ((28 : Int32) &&& 31)) &&& (3 : Int32)) / (3 : Int32) * (3 : Int32))) (fun K81 => L_L_furnished n zS S j 1 x2 (0 : Int32) K81))) else gv ((60 : Int32) + x3) 90 (lt (sI K 154 (Int32.toNatClampNeg ((60 : Int32) + x3)) (((x2 >>> (x3 &&& 31)) &&& (1 : Int32)) * ((1 : Int32) + (((x2 >>> (((4 : Int32) + ((5 : Int32) * x3)) &&& 31)) &&& (31 : Int32)) * (3 : Int32))))) (fun K39 => L_L_furnished n zS S j 0 x2 (x3 + (1 : Int32)) K39))) := rfl
theorem L_L_furnished_e1 (n j : Nat) (zS : Nat) (S : Nat → Int32) (x2 : Int32) (x3 : Int32) (K : gI) : L_L_furnished n zS S (j + 1) 1 x2 x3 K = (if (2 : Int32) ≤ x3 then some K else bd (F_L_cell n zS S ((23 : Int32) + ((2 : Int32) * x3))) (fun v96 => gd (¬ (K 154 6) = 0) (gv ((65 : Int32) + ((3 : Int32) * x3)) 90 (lt (sI K 154 (Int32.toNatClampNeg ((65 : Int32) + ((3 : Int32) * x3))) ((v96 &&& (3 : Int32)) - (v96 &&& (3 : Int32)) / (K 154 6) * (K 154 6))) (fun K115 => gv ((66 : Int32) + ((3 : Int32) * x3)) 90 (lt (sI K115 154 (Int32.toNatClampNeg ((66 : Int32) + ((3 : Int32) * x3))) ((v96 >>> ((2 : Int32) &&& 31)) &&& (31 : Int32))) (fun K129 => gv ((66 : Int32) + ((3 : Int32) * x3)) 90 (gv ((67 : Int32) + ((3 : Int32) * x3)) 90 (lt (sI K129 154 (Int32.toNatClampNeg ((67 : Int32) + ((3 : Int32) * x3))) ((K129 154 (Int32.toNatClampNeg ((66 : Int32) + ((3 : Int32) * x3)))) + ((v96 >>> ((7 : Int32) &&& 31)) &&& (15 : Int32)))) (fun K153 => gd (¬ (K153 154 1) = 0) (gv ((83 : Int32) + ((2 : Int32) * x3)) 90 (lt (sI K153 154 (Int32.toNatClampNeg ((83 : Int32) + ((2 : Int32) * x3))) (((v96 >>> ((11 : Int32) &&& 31)) &&& (7 : Int32)) - ((v96 >>> ((11 : Int32) &&& 31)) &&& (7 : Int32)) / (K153 154 1) * (K153 154 1))) (fun K172 => gd (¬ (K172 154 2) = 0) (gv ((84 : Int32) + ((2 : Int32) * x3)) 90 (lt (sI K172 154 (Int32.toNatClampNeg ((84 : Int32) + ((2 : Int32) * x3))) (((v96 >>> ((14 : Int32) &&& 31)) &&& (7 : Int32)) - ((v96 >>> ((14 : Int32) &&& 31)) &&& (7 : Int32)) / (K172 154 2) * (K172 154 2))) (fun K191 => bd (F_L_cell n zS S ((24 : Int32) + ((2 : Int32) * x3))) (fun v199 => gd (¬ (K191 154 1) = 0) (gv ((72 : Int32) + ((5 : Int32) * x3)) 90 (lt (sI K191 154 (Int32.toNatClampNeg ((72 : Int32) + ((5 : Int32) * x3))) ((v199 &&& (7 : Int32)) - (v199 &&& (7 : Int32)) / (K191 154 1) * (K191 154 1))) (fun K222 => gd (¬ (K222 154 2) = 0) (gv (((72 : Int32) + ((5 : Int32) * x3)) + (1 : Int32)) 90 (lt (sI K222 154 (Int32.toNatClampNeg (((72 : Int32) + ((5 : Int32) * x3)) + (1 : Int32))) (((v199 >>> ((3 : Int32) &&& 31)) &&& (7 : Int32)) - ((v199 >>> ((3 : Int32) &&& 31)) &&& (7 : Int32)) / (K222 154 2) * (K222 154 2))) (fun K238 => gv ((72 : Int32) + ((5 : Int32) * x3)) 90 (gv ((72 : Int32) + ((5 : Int32) * x3)) 90 (gd (¬ ((K238 154 1) - (K238 154 (Int32.toNatClampNeg ((72 : Int32) + ((5 : Int32) * x3))))) = 0) (gv (((72 : Int32) + ((5 : Int32) * x3)) + (2 : Int32)) 90 (lt (sI K238 154 (Int32.toNatClampNeg (((72 : Int32) + ((5 : Int32) * x3)) + (2 : Int32))) ((K238 154 (Int32.toNatClampNeg ((72 : Int32) + ((5 : Int32) * x3)))) + (((v199 >>> ((6 : Int32) &&& 31)) &&& (7 : Int32)) - ((v199 >>> ((6 : Int32) &&& 31)) &&& (7 : Int32)) / ((K238 154 1) - (K238 154 (Int32.toNatClampNeg ((72 : Int32) + ((5 : Int32) * x3))))) * ((K238 154 1) - (K238 154 (Int32.toNatClampNeg ((72 : Int32) + ((5 : Int32) * x3)))))))) (fun K265 => gv (((72 : Int32) + ((5 : Int32) * x3)) + (1 : Int32)) 90 (gv (((72 : Int32) + ((5 : Int32) * x3)) + (1 : Int32)) 90 (gd (¬ ((K265 154 2) - (K265 154 (Int32.toNatClampNeg (((72 : Int32) + ((5 : Int32) * x3)) + (1 : Int32))))) = 0) (gv (((72 : Int32) + ((5 : Int32) * x3)) + (3 : Int32)) 90 (lt (sI K265 154 (Int32.toNatClampNeg (((72 : Int32) + ((5 : Int32) * x3)) + (3 : Int32))) ((K265 154 (Int32.toNatClampNeg (((72 : Int32) + ((5 : Int32) * x3)) + (1 : Int32)))) + (((v199 >>> ((9 : Int32) &&& 31)) &&& (7 : Int32)) - ((v199 >>> ((9 : Int32) &&& 31)) &&& (7 : Int32)) / ((K265 154 2) - (K265 154 (Int32.toNatClampNeg (((72 : Int32) + ((5 : Int32) * x3)) + (1 : Int32))))) * ((K265 154 2) - (K265 154 (Int32.toNatClampNeg (((72 : Int32) + ((5 : Int32) * x3)) + (1 : Int32)))))))) (fun K296 => gv (((72 : Int32) + ((5 : Int32) * x3)) + (4 : Int32)) 90 (lt (sI K296 154 (Int32.toNatClampNeg (((72 : Int32) + ((5 : Int32) * x3)) + (4 : Int32))) (((v199 >>> ((12 : Int32) &&& 31)) &&& (255 : Int32)) - ((v199 >>> ((12 : Int32) &&& 31)) &&& (255 : Int32)) / (201 : Int32) * (201 : Int32))) (fun K314 => L_L_furnished n zS S j 1 v199 (x3 + (1 : Int32)) K314))))))))))))))))))))))))))))))))))) := rfl
set_option maxHeartbeats 4000000 in
set_option maxRecDepth 100000 in
theorem cL_L_furnished {G : gG} {lay : Nat → Nat × Nat} {T0 T1 : Nat} {Dd : Nat → Nat → UInt64} {I : gI} {J : gJ} {N : gJ} {sz n : Nat} {zS : Nat} {S : Nat → Int32} (hs : G.1.stackTraces = false) (hE : gLay lay) (hS : gScr G zS S) : ∀ j : Nat, (∀ (x2 : Int32) (x3 : Int32) (K : gI) (r : gI), L_L_furnished n zS S j 0 x2 x3 K = some r → gAt G mL_furnished (gQp G mL_furnished (gR (some (.ref (G.2.2.1 + 154))) (fO G (lay, T0, T1, Dd) I J r N) sz)) 9 [some (.ref (gsA G)), some (.ref (G.2.2.1 + 154)), some (.int x2), some (.int x3), none] [] (fO G (lay, T0, T1, Dd) I J K N) sz 0 0) ∧ (∀ (x2 : Int32) (x3 : Int32) (K : gI) (r : gI), L_L_furnished n zS S j 1 x2 x3 K = some r → gAt G mL_furnished (gQp G mL_furnished (gR (some (.ref (G.2.2.1 + 154))) (fO G (lay, T0, T1, Dd) I J r N) sz)) 84 [some (.ref (gsA G)), some (.ref (G.2.2.1 + 154)), some (.int x2), some (.int x3), none] [] (fO G (lay, T0, T1, Dd) I J K N) sz 0 0) := by
  intro j
  induction j with
  | zero => exact ⟨fun _ _ _ _ hf => (by cases hf), fun _ _ _ _ hf => (by cases hf)⟩
  | succ j ih =>
    refine ⟨?_, ?_⟩
    · intro x2 x3 K r hf
      rw [L_L_furnished_e0] at hf
      refine r_iload_n dL_furnished_9 rfl ?_
      refine r_iconst (v := (4 : Int32)) dL_furnished_10 (by decide) ?_
      refine r_icmp_ge (tgt := 46) dL_furnished_11 (by decide) (fun c11 => ?_) (fun c11 => ?_)
      · replace hf := if_t hf c11
        refine r_aload_n dL_furnished_46 rfl ?_
        refine r_bipush (v := (64 : Int32)) dL_furnished_47 (by decide) ?_
        refine r_iload_n dL_furnished_49 rfl ?_
        refine r_bipush (v := (24 : Int32)) dL_furnished_50 (by decide) ?_
        refine r_ishr dL_furnished_52 ?_
        refine r_iconst (v := (3 : Int32)) dL_furnished_53 (by decide) ?_
        refine r_iand dL_furnished_54 ?_
        refine r_iconst (v := (3 : Int32)) dL_furnished_55 (by decide) ?_
        refine r_irem dL_furnished_56 (by decide) ?_
        obtain ⟨K57, hK57, hf⟩ := lt_of hf
        refine m_iastc 64 dL_furnished_57 (hE 154 (by decide)) (vpc rfl) rfl ?_
        rw [hK57]
        refine r_aload_n dL_furnished_58 rfl ?_
        refine r_bipush (v := (71 : Int32)) dL_furnished_59 (by decide) ?_
        refine r_iload_n dL_furnished_61 rfl ?_
        refine r_bipush (v := (26 : Int32)) dL_furnished_62 (by decide) ?_
        refine r_ishr dL_furnished_64 ?_
        refine r_iconst (v := (3 : Int32)) dL_furnished_65 (by decide) ?_
        refine r_iand dL_furnished_66 ?_
        refine r_iconst (v := (3 : Int32)) dL_furnished_67 (by decide) ?_
        refine r_irem dL_furnished_68 (by decide) ?_
        obtain ⟨K69, hK69, hf⟩ := lt_of hf
        refine m_iastc 71 dL_furnished_69 (hE 154 (by decide)) (vpc rfl) rfl ?_
        rw [hK69]
        refine r_aload_n dL_furnished_70 rfl ?_
        refine r_bipush (v := (82 : Int32)) dL_furnished_71 (by decide) ?_
        refine r_iload_n dL_furnished_73 rfl ?_
        refine r_bipush (v := (28 : Int32)) dL_furnished_74 (by decide) ?_
        refine r_ishr dL_furnished_76 ?_
        refine r_iconst (v := (3 : Int32)) dL_furnished_77 (by decide) ?_
        refine r_iand dL_furnished_78 ?_
        refine r_iconst (v := (3 : Int32)) dL_furnished_79 (by decide) ?_
        refine r_irem dL_furnished_80 (by decide) ?_
        obtain ⟨K81, hK81, hf⟩ := lt_of hf
        refine m_iastc 82 dL_furnished_81 (hE 154 (by decide)) (vpc rfl) rfl ?_
        rw [hK81]
        refine r_iconst (v := (0 : Int32)) dL_furnished_82 (by decide) ?_
        refine r_istore_n dL_furnished_83 (by decide) rfl ?_
        exact r_widen (k2 := 0) (n2 := 0) (Nat.le_of_ble_eq_true rfl) (Nat.le_of_ble_eq_true rfl) (r_mask [true, true, true, true, false] rfl (ih.2 x2 (0 : Int32) K81 r hf))
      · replace hf := if_f hf c11
        refine r_aload_n dL_furnished_14 rfl ?_
        refine r_bipush (v := (60 : Int32)) dL_furnished_15 (by decide) ?_
        refine r_iload_n dL_furnished_17 rfl ?_
        refine r_iadd dL_furnished_18 ?_
        refine r_iload_n dL_furnished_19 rfl ?_
        refine r_iload_n dL_furnished_20 rfl ?_
        refine r_ishr dL_furnished_21 ?_
        refine r_iconst (v := (1 : Int32)) dL_furnished_22 (by decide) ?_
        refine r_iand dL_furnished_23 ?_
        refine r_iconst (v := (1 : Int32)) dL_furnished_24 (by decide) ?_
        refine r_iload_n dL_furnished_25 rfl ?_
        refine r_iconst (v := (4 : Int32)) dL_furnished_26 (by decide) ?_
        refine r_iconst (v := (5 : Int32)) dL_furnished_27 (by decide) ?_
        refine r_iload_n dL_furnished_28 rfl ?_
        refine r_imul dL_furnished_29 ?_
        refine r_iadd dL_furnished_30 ?_
        refine r_ishr dL_furnished_31 ?_
        refine r_bipush (v := (31 : Int32)) dL_furnished_32 (by decide) ?_
        refine r_iand dL_furnished_34 ?_
        refine r_iconst (v := (3 : Int32)) dL_furnished_35 (by decide) ?_
        refine r_imul dL_furnished_36 ?_
        refine r_iadd dL_furnished_37 ?_
        refine r_imul dL_furnished_38 ?_
        obtain ⟨h39, hf⟩ := gv_of hf
        obtain ⟨K39, hK39, hf⟩ := lt_of hf
        refine m_iast dL_furnished_39 (hE 154 (by decide)) h39 ?_
        rw [hK39]
        refine r_iincv (v := (x3 + (1 : Int32))) dL_furnished_40 rfl rfl (by decide) rfl ?_
        refine r_goto (tgt := 9) dL_furnished_43 (by decide) ?_
        exact r_widen (k2 := 0) (n2 := 0) (Nat.le_of_ble_eq_true rfl) (Nat.le_of_ble_eq_true rfl) (r_mask [true, true, true, true, false] rfl (ih.1 x2 (x3 + (1 : Int32)) K39 r hf))
    · intro x2 x3 K r hf
      rw [L_L_furnished_e1] at hf
      refine r_iload_n dL_furnished_84 rfl ?_
      refine r_iconst (v := (2 : Int32)) dL_furnished_85 (by decide) ?_
      refine r_icmp_ge (tgt := 321) dL_furnished_86 (by decide) (fun c86 => ?_) (fun c86 => ?_)
      · replace hf := if_t hf c86
        refine r_aload_n dL_furnished_321 rfl ?_
        have hr := Option.some.inj hf
        subst hr
        exact r_aret dL_furnished_322 rfl (Nat.le_of_ble_eq_true rfl) (Nat.le_of_ble_eq_true rfl) ⟨rfl, rfl, rfl⟩
      · replace hf := if_f hf c86
        refine r_aload_n dL_furnished_89 rfl ?_
        refine r_bipush (v := (23 : Int32)) dL_furnished_90 (by decide) ?_
        refine r_iconst (v := (2 : Int32)) dL_furnished_92 (by decide) ?_
        refine r_iload_n dL_furnished_93 rfl ?_
        refine r_imul dL_furnished_94 ?_
        refine r_iadd dL_furnished_95 ?_
        obtain ⟨v96, hc96, hf⟩ := bd_of hf
        refine r_cSi (rest := []) (ct_L_cell hs hE hS hc96) dL_furnished_96 wd_777 zL_cell wd_778 rfl  rfl rfl ⟨Nat.le_of_ble_eq_true rfl, Nat.le_of_ble_eq_true rfl⟩ (Nat.le_of_ble_eq_true rfl) ⟨Nat.le_of_ble_eq_true rfl, Nat.le_of_ble_eq_true rfl⟩ ?_
        refine r_istore_n dL_furnished_99 (by decide) rfl ?_
        refine r_aload_n dL_furnished_100 rfl ?_
        refine r_bipush (v := (65 : Int32)) dL_furnished_101 (by decide) ?_
        refine r_iconst (v := (3 : Int32)) dL_furnished_103 (by decide) ?_
        refine r_iload_n dL_furnished_104 rfl ?_
        refine r_imul dL_furnished_105 ?_
        refine r_iadd dL_furnished_106 ?_
        refine r_iload_n dL_furnished_107 rfl ?_
        refine r_iconst (v := (3 : Int32)) dL_furnished_108 (by decide) ?_
        refine r_iand dL_furnished_109 ?_
        refine r_aload_n dL_furnished_110 rfl ?_
        refine r_bipush (v := (6 : Int32)) dL_furnished_111 (by decide) ?_
        refine m_ialdc 6 dL_furnished_113 (hE 154 (by decide)) (vpc rfl) rfl ?_
        obtain ⟨h114, hf⟩ := gd_of hf
        refine r_irem dL_furnished_114 h114 ?_
        obtain ⟨h115, hf⟩ := gv_of hf
        obtain ⟨K115, hK115, hf⟩ := lt_of hf
        refine m_iast dL_furnished_115 (hE 154 (by decide)) h115 ?_
        rw [hK115]
        refine r_aload_n dL_furnished_116 rfl ?_
        refine r_bipush (v := (66 : Int32)) dL_furnished_117 (by decide) ?_
        refine r_iconst (v := (3 : Int32)) dL_furnished_119 (by decide) ?_
        refine r_iload_n dL_furnished_120 rfl ?_
        refine r_imul dL_furnished_121 ?_
        refine r_iadd dL_furnished_122 ?_
        refine r_iload_n dL_furnished_123 rfl ?_
        refine r_iconst (v := (2 : Int32)) dL_furnished_124 (by decide) ?_
        refine r_ishr dL_furnished_125 ?_
        refine r_bipush (v := (31 : Int32)) dL_furnished_126 (by decide) ?_
        refine r_iand dL_furnished_128 ?_
        obtain ⟨h129, hf⟩ := gv_of hf
        obtain ⟨K129, hK129, hf⟩ := lt_of hf
        refine m_iast dL_furnished_129 (hE 154 (by decide)) h129 ?_
        rw [hK129]
        refine r_aload_n dL_furnished_130 rfl ?_
        refine r_bipush (v := (67 : Int32)) dL_furnished_131 (by decide) ?_
        refine r_iconst (v := (3 : Int32)) dL_furnished_133 (by decide) ?_
        refine r_iload_n dL_furnished_134 rfl ?_
        refine r_imul dL_furnished_135 ?_
        refine r_iadd dL_furnished_136 ?_
        refine r_aload_n dL_furnished_137 rfl ?_
        refine r_bipush (v := (66 : Int32)) dL_furnished_138 (by decide) ?_
        refine r_iconst (v := (3 : Int32)) dL_furnished_140 (by decide) ?_
        refine r_iload_n dL_furnished_141 rfl ?_
        refine r_imul dL_furnished_142 ?_
        refine r_iadd dL_furnished_143 ?_
        obtain ⟨h144, hf⟩ := gv_of hf
        refine m_iald dL_furnished_144 (hE 154 (by decide)) h144 ?_
        refine r_iload_n dL_furnished_145 rfl ?_
        refine r_bipush (v := (7 : Int32)) dL_furnished_146 (by decide) ?_
        refine r_ishr dL_furnished_148 ?_
        refine r_bipush (v := (15 : Int32)) dL_furnished_149 (by decide) ?_
        refine r_iand dL_furnished_151 ?_
        refine r_iadd dL_furnished_152 ?_
        obtain ⟨h153, hf⟩ := gv_of hf
        obtain ⟨K153, hK153, hf⟩ := lt_of hf
        refine m_iast dL_furnished_153 (hE 154 (by decide)) h153 ?_
        rw [hK153]
        refine r_aload_n dL_furnished_154 rfl ?_
        refine r_bipush (v := (83 : Int32)) dL_furnished_155 (by decide) ?_
        refine r_iconst (v := (2 : Int32)) dL_furnished_157 (by decide) ?_
        refine r_iload_n dL_furnished_158 rfl ?_
        refine r_imul dL_furnished_159 ?_
        refine r_iadd dL_furnished_160 ?_
        refine r_iload_n dL_furnished_161 rfl ?_
        refine r_bipush (v := (11 : Int32)) dL_furnished_162 (by decide) ?_
        refine r_ishr dL_furnished_164 ?_
        refine r_bipush (v := (7 : Int32)) dL_furnished_165 (by decide) ?_
        refine r_iand dL_furnished_167 ?_
        refine r_aload_n dL_furnished_168 rfl ?_
        refine r_iconst (v := (1 : Int32)) dL_furnished_169 (by decide) ?_
        refine m_ialdc 1 dL_furnished_170 (hE 154 (by decide)) (vpc rfl) rfl ?_
        obtain ⟨h171, hf⟩ := gd_of hf
        refine r_irem dL_furnished_171 h171 ?_
        obtain ⟨h172, hf⟩ := gv_of hf
        obtain ⟨K172, hK172, hf⟩ := lt_of hf
        refine m_iast dL_furnished_172 (hE 154 (by decide)) h172 ?_
        rw [hK172]
        refine r_aload_n dL_furnished_173 rfl ?_
        refine r_bipush (v := (84 : Int32)) dL_furnished_174 (by decide) ?_
        refine r_iconst (v := (2 : Int32)) dL_furnished_176 (by decide) ?_
        refine r_iload_n dL_furnished_177 rfl ?_
        refine r_imul dL_furnished_178 ?_
        refine r_iadd dL_furnished_179 ?_
        refine r_iload_n dL_furnished_180 rfl ?_
        refine r_bipush (v := (14 : Int32)) dL_furnished_181 (by decide) ?_
        refine r_ishr dL_furnished_183 ?_
        refine r_bipush (v := (7 : Int32)) dL_furnished_184 (by decide) ?_
        refine r_iand dL_furnished_186 ?_
        refine r_aload_n dL_furnished_187 rfl ?_
        refine r_iconst (v := (2 : Int32)) dL_furnished_188 (by decide) ?_
        refine m_ialdc 2 dL_furnished_189 (hE 154 (by decide)) (vpc rfl) rfl ?_
        obtain ⟨h190, hf⟩ := gd_of hf
        refine r_irem dL_furnished_190 h190 ?_
        obtain ⟨h191, hf⟩ := gv_of hf
        obtain ⟨K191, hK191, hf⟩ := lt_of hf
        refine m_iast dL_furnished_191 (hE 154 (by decide)) h191 ?_
        rw [hK191]
        refine r_aload_n dL_furnished_192 rfl ?_
        refine r_bipush (v := (24 : Int32)) dL_furnished_193 (by decide) ?_
        refine r_iconst (v := (2 : Int32)) dL_furnished_195 (by decide) ?_
        refine r_iload_n dL_furnished_196 rfl ?_
        refine r_imul dL_furnished_197 ?_
        refine r_iadd dL_furnished_198 ?_
        obtain ⟨v199, hc199, hf⟩ := bd_of hf
        refine r_cSi (rest := []) (ct_L_cell hs hE hS hc199) dL_furnished_199 wd_777 zL_cell wd_778 rfl  rfl rfl ⟨Nat.le_of_ble_eq_true rfl, Nat.le_of_ble_eq_true rfl⟩ (Nat.le_of_ble_eq_true rfl) ⟨Nat.le_of_ble_eq_true rfl, Nat.le_of_ble_eq_true rfl⟩ ?_
        refine r_istore_n dL_furnished_202 (by decide) rfl ?_
        refine r_bipush (v := (72 : Int32)) dL_furnished_203 (by decide) ?_
        refine r_iconst (v := (5 : Int32)) dL_furnished_205 (by decide) ?_
        refine r_iload_n dL_furnished_206 rfl ?_
        refine r_imul dL_furnished_207 ?_
        refine r_iadd dL_furnished_208 ?_
        refine r_istore dL_furnished_209 (by decide) rfl ?_
        refine r_aload_n dL_furnished_211 rfl ?_
        refine r_iload dL_furnished_212 rfl ?_
        refine r_iload_n dL_furnished_214 rfl ?_
        refine r_bipush (v := (7 : Int32)) dL_furnished_215 (by decide) ?_
        refine r_iand dL_furnished_217 ?_
        refine r_aload_n dL_furnished_218 rfl ?_
        refine r_iconst (v := (1 : Int32)) dL_furnished_219 (by decide) ?_
        refine m_ialdc 1 dL_furnished_220 (hE 154 (by decide)) (vpc rfl) rfl ?_
        obtain ⟨h221, hf⟩ := gd_of hf
        refine r_irem dL_furnished_221 h221 ?_
        obtain ⟨h222, hf⟩ := gv_of hf
        obtain ⟨K222, hK222, hf⟩ := lt_of hf
        refine m_iast dL_furnished_222 (hE 154 (by decide)) h222 ?_
        rw [hK222]
        refine r_aload_n dL_furnished_223 rfl ?_
        refine r_iload dL_furnished_224 rfl ?_
        refine r_iconst (v := (1 : Int32)) dL_furnished_226 (by decide) ?_
        refine r_iadd dL_furnished_227 ?_
        refine r_iload_n dL_furnished_228 rfl ?_
        refine r_iconst (v := (3 : Int32)) dL_furnished_229 (by decide) ?_
        refine r_ishr dL_furnished_230 ?_
        refine r_bipush (v := (7 : Int32)) dL_furnished_231 (by decide) ?_
        refine r_iand dL_furnished_233 ?_
        refine r_aload_n dL_furnished_234 rfl ?_
        refine r_iconst (v := (2 : Int32)) dL_furnished_235 (by decide) ?_
        refine m_ialdc 2 dL_furnished_236 (hE 154 (by decide)) (vpc rfl) rfl ?_
        obtain ⟨h237, hf⟩ := gd_of hf
        refine r_irem dL_furnished_237 h237 ?_
        obtain ⟨h238, hf⟩ := gv_of hf
        obtain ⟨K238, hK238, hf⟩ := lt_of hf
        refine m_iast dL_furnished_238 (hE 154 (by decide)) h238 ?_
        rw [hK238]
        refine r_aload_n dL_furnished_239 rfl ?_
        refine r_iload dL_furnished_240 rfl ?_
        refine r_iconst (v := (2 : Int32)) dL_furnished_242 (by decide) ?_
        refine r_iadd dL_furnished_243 ?_
        refine r_aload_n dL_furnished_244 rfl ?_
        refine r_iload dL_furnished_245 rfl ?_
        obtain ⟨h247, hf⟩ := gv_of hf
        refine m_iald dL_furnished_247 (hE 154 (by decide)) h247 ?_
        refine r_iload_n dL_furnished_248 rfl ?_
        refine r_bipush (v := (6 : Int32)) dL_furnished_249 (by decide) ?_
        refine r_ishr dL_furnished_251 ?_
        refine r_bipush (v := (7 : Int32)) dL_furnished_252 (by decide) ?_
        refine r_iand dL_furnished_254 ?_
        refine r_aload_n dL_furnished_255 rfl ?_
        refine r_iconst (v := (1 : Int32)) dL_furnished_256 (by decide) ?_
        refine m_ialdc 1 dL_furnished_257 (hE 154 (by decide)) (vpc rfl) rfl ?_
        refine r_aload_n dL_furnished_258 rfl ?_
        refine r_iload dL_furnished_259 rfl ?_
        obtain ⟨h261, hf⟩ := gv_of hf
        refine m_iald dL_furnished_261 (hE 154 (by decide)) h261 ?_
        refine r_isub dL_furnished_262 ?_
        obtain ⟨h263, hf⟩ := gd_of hf
        refine r_irem dL_furnished_263 h263 ?_
        refine r_iadd dL_furnished_264 ?_
        obtain ⟨h265, hf⟩ := gv_of hf
        obtain ⟨K265, hK265, hf⟩ := lt_of hf
        refine m_iast dL_furnished_265 (hE 154 (by decide)) h265 ?_
        rw [hK265]
        refine r_aload_n dL_furnished_266 rfl ?_
        refine r_iload dL_furnished_267 rfl ?_
        refine r_iconst (v := (3 : Int32)) dL_furnished_269 (by decide) ?_
        refine r_iadd dL_furnished_270 ?_
        refine r_aload_n dL_furnished_271 rfl ?_
        refine r_iload dL_furnished_272 rfl ?_
        refine r_iconst (v := (1 : Int32)) dL_furnished_274 (by decide) ?_
        refine r_iadd dL_furnished_275 ?_
        obtain ⟨h276, hf⟩ := gv_of hf
        refine m_iald dL_furnished_276 (hE 154 (by decide)) h276 ?_
        refine r_iload_n dL_furnished_277 rfl ?_
        refine r_bipush (v := (9 : Int32)) dL_furnished_278 (by decide) ?_
        refine r_ishr dL_furnished_280 ?_
        refine r_bipush (v := (7 : Int32)) dL_furnished_281 (by decide) ?_
        refine r_iand dL_furnished_283 ?_
        refine r_aload_n dL_furnished_284 rfl ?_
        refine r_iconst (v := (2 : Int32)) dL_furnished_285 (by decide) ?_
        refine m_ialdc 2 dL_furnished_286 (hE 154 (by decide)) (vpc rfl) rfl ?_
        refine r_aload_n dL_furnished_287 rfl ?_
        refine r_iload dL_furnished_288 rfl ?_
        refine r_iconst (v := (1 : Int32)) dL_furnished_290 (by decide) ?_
        refine r_iadd dL_furnished_291 ?_
        obtain ⟨h292, hf⟩ := gv_of hf
        refine m_iald dL_furnished_292 (hE 154 (by decide)) h292 ?_
        refine r_isub dL_furnished_293 ?_
        obtain ⟨h294, hf⟩ := gd_of hf
        refine r_irem dL_furnished_294 h294 ?_
        refine r_iadd dL_furnished_295 ?_
        obtain ⟨h296, hf⟩ := gv_of hf
        obtain ⟨K296, hK296, hf⟩ := lt_of hf
        refine m_iast dL_furnished_296 (hE 154 (by decide)) h296 ?_
        rw [hK296]
        refine r_aload_n dL_furnished_297 rfl ?_
        refine r_iload dL_furnished_298 rfl ?_
        refine r_iconst (v := (4 : Int32)) dL_furnished_300 (by decide) ?_
        refine r_iadd dL_furnished_301 ?_
        refine r_iload_n dL_furnished_302 rfl ?_
        refine r_bipush (v := (12 : Int32)) dL_furnished_303 (by decide) ?_
        refine r_ishr dL_furnished_305 ?_
        refine r_sipush (v := (255 : Int32)) dL_furnished_306 (by decide) ?_
        refine r_iand dL_furnished_309 ?_
        refine r_sipush (v := (201 : Int32)) dL_furnished_310 (by decide) ?_
        refine r_irem dL_furnished_313 (by decide) ?_
        obtain ⟨h314, hf⟩ := gv_of hf
        obtain ⟨K314, hK314, hf⟩ := lt_of hf
        refine m_iast dL_furnished_314 (hE 154 (by decide)) h314 ?_
        rw [hK314]
        refine r_iincv (v := (x3 + (1 : Int32))) dL_furnished_315 rfl rfl (by decide) rfl ?_
        refine r_goto (tgt := 84) dL_furnished_318 (by decide) ?_
        exact r_widen (k2 := 0) (n2 := 0) (Nat.le_of_ble_eq_true rfl) (Nat.le_of_ble_eq_true rfl) (r_mask [true, true, true, true, false] rfl (ih.2 v199 (x3 + (1 : Int32)) K314 r hf))
def F_L_furnished (n : Nat) (zS : Nat) (S : Nat → Int32) (K : gI) : Option (gI) := bd (F_L_cell n zS S (22 : Int32)) (fun v3 => L_L_furnished n zS S n 0 v3 (0 : Int32) K)
set_option maxHeartbeats 4000000 in
set_option maxRecDepth 100000 in
theorem ct_L_furnished {G : gG} {lay : Nat → Nat × Nat} {T0 T1 : Nat} {Dd : Nat → Nat → UInt64} {I : gI} {J : gJ} {K : gI} {N : gJ} {sz n : Nat} {zS : Nat} {S : Nat → Int32} (hs : G.1.stackTraces = false) (hE : gLay lay) (hS : gScr G zS S) {r : gI} (hf : F_L_furnished n zS S K = some r) : gCt G mL_furnished [.ref (gsA G), .ref (G.2.2.1 + 154)] (fO G (lay, T0, T1, Dd) I J K N) sz (gR (some (.ref (G.2.2.1 + 154))) (fO G (lay, T0, T1, Dd) I J r N) sz) := by
  unfold F_L_furnished at hf
  refine gCt.of [some (.ref (gsA G)), some (.ref (G.2.2.1 + 154)), none, none, none] (by decide +kernel) rfl hs rfl (Nat.le_of_ble_eq_true rfl) ?_
  refine r_aload_n dL_furnished_0 rfl ?_
  refine r_bipush (v := (22 : Int32)) dL_furnished_1 (by decide) ?_
  obtain ⟨v3, hc3, hf⟩ := bd_of hf
  refine r_cSi (rest := []) (ct_L_cell hs hE hS hc3) dL_furnished_3 wd_777 zL_cell wd_778 rfl  rfl rfl ⟨Nat.le_of_ble_eq_true rfl, Nat.le_of_ble_eq_true rfl⟩ (Nat.le_of_ble_eq_true rfl) ⟨Nat.le_of_ble_eq_true rfl, Nat.le_of_ble_eq_true rfl⟩ ?_
  refine r_istore_n dL_furnished_6 (by decide) rfl ?_
  refine r_iconst (v := (0 : Int32)) dL_furnished_7 (by decide) ?_
  refine r_istore_n dL_furnished_8 (by decide) rfl ?_
  exact r_widen (k2 := 0) (n2 := 0) (Nat.le_of_ble_eq_true rfl) (Nat.le_of_ble_eq_true rfl) (r_mask [true, true, true, true, false] rfl ((cL_L_furnished hs hE hS n).1 v3 (0 : Int32) K r hf))
def L_L_drawn (n : Nat) (zS : Nat) (S : Nat → Int32) : Nat → Nat → Int32 → Int32 → gI → Option (gI)
  | 0, _, _, _, _ => none
  | j + 1, 0, x2, x3, K => (if (K 154 6) ≤ x3 then bd (F_L_furnished n zS S K) (fun v450 => some v450) else bd (F_L_cell n zS S ((1 : Int32) + ((2 : Int32) * x3))) (fun v142 => gd (¬ (K 154 1) = 0) (gv ((10 : Int32) + ((16 : Int32) * x3)) 90 (lt (sI K 154 (Int32.toNatClampNeg ((10 : Int32) + ((16 : Int32) * x3))) ((v142 &&& (7 : Int32)) - (v142 &&& (7 : Int32)) / (K 154 1) * (K 154 1))) (fun K157 => gd (¬ (K157 154 2) = 0) (gv (((10 : Int32) + ((16 : Int32) * x3)) + (1 : Int32)) 90 (lt (sI K157 154 (Int32.toNatClampNeg (((10 : Int32) + ((16 : Int32) * x3)) + (1 : Int32))) (((v142 >>> ((3 : Int32) &&& 31)) &&& (7 : Int32)) - ((v142 >>> ((3 : Int32) &&& 31)) &&& (7 : Int32)) / (K157 154 2) * (K157 154 2))) (fun K173 => gv (((10 : Int32) + ((16 : Int32) * x3)) + (2 : Int32)) 90 (lt (sI K173 154 (Int32.toNatClampNeg (((10 : Int32) + ((16 : Int32) * x3)) + (2 : Int32))) ((1 : Int32) + ((v142 >>> ((6 : Int32) &&& 31)) &&& (511 : Int32)))) (fun K189 => gv (((10 : Int32) + ((16 : Int32) * x3)) + (3 : Int32)) 90 (lt (sI K189 154 (Int32.toNatClampNeg (((10 : Int32) + ((16 : Int32) * x3)) + (3 : Int32))) ((50 : Int32) + ((v142 >>> ((15 : Int32) &&& 31)) &&& (511 : Int32)))) (fun K206 => gv (((10 : Int32) + ((16 : Int32) * x3)) + (4 : Int32)) 90 (lt (sI K206 154 (Int32.toNatClampNeg (((10 : Int32) + ((16 : Int32) * x3)) + (4 : Int32))) ((2 : Int32) + ((v142 >>> ((24 : Int32) &&& 31)) &&& (31 : Int32)))) (fun K221 => gv (((10 : Int32) + ((16 : Int32) * x3)) + (8 : Int32)) 90 (lt (sI K221 154 (Int32.toNatClampNeg (((10 : Int32) + ((16 : Int32) * x3)) + (8 : Int32))) (((v142 >>> ((29 : Int32) &&& 31)) &&& (3 : Int32)) - ((v142 >>> ((29 : Int32) &&& 31)) &&& (3 : Int32)) / (3 : Int32) * (3 : Int32))) (fun K236 => bd (F_L_cell n zS S ((2 : Int32) + ((2 : Int32) * x3))) (fun v243 => gv (((10 : Int32) + ((16 : Int32) * x3)) + (5 : Int32)) 90 (lt (sI K236 154 (Int32.toNatClampNeg (((10 : Int32) + ((16 : Int32) * x3)) + (5 : Int32))) ((v243 &&& (511 : Int32)) - (v243 &&& (511 : Int32)) / (360 : Int32) * (360 : Int32))) (fun K261 => gv (((10 : Int32) + ((16 : Int32) * x3)) + (6 : Int32)) 90 (lt (sI K261 154 (Int32.toNatClampNeg (((10 : Int32) + ((16 : Int32) * x3)) + (6 : Int32))) ((v243 >>> ((9 : Int32) &&& 31)) &&& (7 : Int32))) (fun K275 => gv (((10 : Int32) + ((16 : Int32) * x3)) + (6 : Int32)) 90 (gv (((10 : Int32) + ((16 : Int32) * x3)) + (7 : Int32)) 90 (lt (sI K275 154 (Int32.toNatClampNeg (((10 : Int32) + ((16 : Int32) * x3)) + (7 : Int32))) ((K275 154 (Int32.toNatClampNeg (((10 : Int32) + ((16 : Int32) * x3)) + (6 : Int32)))) + ((v243 >>> ((12 : Int32) &&& 31)) &&& (127 : Int32)))) (fun K297 => gv (((10 : Int32) + ((16 : Int32) * x3)) + (8 : Int32)) 90 ((if (K297 154 (Int32.toNatClampNeg (((10 : Int32) + ((16 : Int32) * x3)) + (8 : Int32)))) = 0 then gv (((10 : Int32) + ((16 : Int32) * x3)) + (9 : Int32)) 90 (lt (sI K297 154 (Int32.toNatClampNeg (((10 : Int32) + ((16 : Int32) * x3)) + (9 : Int32))) (0 : Int32)) (fun K327 => gv (((10 : Int32) + ((16 : Int32) * x3)) + (8 : Int32)) 90 ((if (K327 154 (Int32.toNatClampNeg (((10 : Int32) + ((16 : Int32) * x3)) + (8 : Int32)))) = (1 : Int32) then gv (((10 : Int32) + ((16 : Int32) * x3)) + (10 : Int32)) 90 (lt (sI K327 154 (Int32.toNatClampNeg (((10 : Int32) + ((16 : Int32) * x3)) + (10 : Int32))) ((1 : Int32) + ((v243 >>> ((22 : Int32) &&& 31)) &&& (3 : Int32)))) (fun K357 => gv (((10 : Int32) + ((16 : Int32) * x3)) + (11 : Int32)) 90 (lt (sI K357 154 (Int32.toNatClampNeg (((10 : Int32) + ((16 : Int32) * x3)) + (11 : Int32))) (((v243 >>> ((24 : Int32) &&& 31)) &&& (1 : Int32)) * (((v243 >>> ((25 : Int32) &&& 31)) &&& (63 : Int32)) - (32 : Int32)))) (fun K381 => gv (((10 : Int32) + ((16 : Int32) * x3)) + (12 : Int32)) 90 (lt (sI K381 154 (Int32.toNatClampNeg (((10 : Int32) + ((16 : Int32) * x3)) + (12 : Int32))) (((v243 >>> ((24 : Int32) &&& 31)) &&& (1 : Int32)) * (((v243 >>> ((19 : Int32) &&& 31)) &&& (63 : Int32)) - (32 : Int32)))) (fun K405 => (if ((v243 >>> ((26 : Int32) &&& 31)) &&& (3 : Int32)) = 0 then gv (((10 : Int32) + ((16 : Int32) * x3)) + (13 : Int32)) 90 (lt (sI K405 154 (Int32.toNatClampNeg (((10 : Int32) + ((16 : Int32) * x3)) + (13 : Int32))) (0 : Int32)) (fun K426 => gv (((10 : Int32) + ((16 : Int32) * x3)) + (14 : Int32)) 90 (lt (sI K426 154 (Int32.toNatClampNeg (((10 : Int32) + ((16 : Int32) * x3)) + (14 : Int32))) (((v243 >>> ((28 : Int32) &&& 31)) &&& (3 : Int32)) - ((v243 >>> ((28 : Int32) &&& 31)) &&& (3 : Int32)) / (3 : Int32) * (3 : Int32))) (fun K441 => L_L_drawn n zS S j 0 v243 (x3 + (1 : Int32)) K441)))) else gv (((10 : Int32) + ((16 : Int32) * x3)) + (13 : Int32)) 90 (lt (sI K405 154 (Int32.toNatClampNeg (((10 : Int32) + ((16 : Int32) * x3)) + (13 : Int32))) (1 : Int32)) (fun K426 => gv (((10 : Int32) + ((16 : Int32) * x3)) + (14 : Int32)) 90 (lt (sI K426 154 (Int32.toNatClampNeg (((10 : Int32) + ((16 : Int32) * x3)) + (14 : Int32))) (((v243 >>> ((28 : Int32) &&& 31)) &&& (3 : Int32)) - ((v243 >>> ((28 : Int32) &&& 31)) &&& (3 : Int32)) / (3 : Int32) * (3 : Int32))) (fun K441 => L_L_drawn n zS S j 0 v243 (x3 + (1 : Int32)) K441))))))))))) else gv (((10 : Int32) + ((16 : Int32) * x3)) + (10 : Int32)) 90 (lt (sI K327 154 (Int32.toNatClampNeg (((10 : Int32) + ((16 : Int32) * x3)) + (10 : Int32))) (0 : Int32)) (fun K357 => gv (((10 : Int32) + ((16 : Int32) * x3)) + (11 : Int32)) 90 (lt (sI K357 154 (Int32.toNatClampNeg (((10 : Int32) + ((16 : Int32) * x3)) + (11 : Int32))) (((v243 >>> ((24 : Int32) &&& 31)) &&& (1 : Int32)) * (((v243 >>> ((25 : Int32) &&& 31)) &&& (63 : Int32)) - (32 : Int32)))) (fun K381 => gv (((10 : Int32) + ((16 : Int32) * x3)) + (12 : Int32)) 90 (lt (sI K381 154 (Int32.toNatClampNeg (((10 : Int32) + ((16 : Int32) * x3)) + (12 : Int32))) (((v243 >>> ((24 : Int32) &&& 31)) &&& (1 : Int32)) * (((v243 >>> ((19 : Int32) &&& 31)) &&& (63 : Int32)) - (32 : Int32)))) (fun K405 => (if ((v243 >>> ((26 : Int32) &&& 31)) &&& (3 : Int32)) = 0 then gv (((10 : Int32) + ((16 : Int32) * x3)) + (13 : Int32)) 90 (lt (sI K405 154 (Int32.toNatClampNeg (((10 : Int32) + ((16 : Int32) * x3)) + (13 : Int32))) (0 : Int32)) (fun K426 => gv (((10 : Int32) + ((16 : Int32) * x3)) + (14 : Int32)) 90 (lt (sI K426 154 (Int32.toNatClampNeg (((10 : Int32) + ((16 : Int32) * x3)) + (14 : Int32))) (((v243 >>> ((28 : Int32) &&& 31)) &&& (3 : Int32)) - ((v243 >>> ((28 : Int32) &&& 31)) &&& (3 : Int32)) / (3 : Int32) * (3 : Int32))) (fun K441 => L_L_drawn n zS S j 0 v243 (x3 + (1 : Int32)) K441)))) else gv (((10 : Int32) + ((16 : Int32) * x3)) + (13 : Int32)) 90 (lt (sI K405 154 (Int32.toNatClampNeg (((10 : Int32) + ((16 : Int32) * x3)) + (13 : Int32))) (1 : Int32)) (fun K426 => gv (((10 : Int32) + ((16 : Int32) * x3)) + (14 : Int32)) 90 (lt (sI K426 154 (Int32.toNatClampNeg (((10 : Int32) + ((16 : Int32) * x3)) + (14 : Int32))) (((v243 >>> ((28 : Int32) &&& 31)) &&& (3 : Int32)) - ((v243 >>> ((28 : Int32) &&& 31)) &&& (3 : Int32)) / (3 : Int32) * (3 : Int32))) (fun K441 => L_L_drawn n zS S j 0 v243 (x3 + (1 : Int32)) K441))))))))))))))) else gv (((10 : Int32) + ((16 : Int32) * x3)) + (9 : Int32)) 90 (lt (sI K297 154 (Int32.toNatClampNeg (((10 : Int32) + ((16 : Int32) * x3)) + (9 : Int32))) ((1 : Int32) + ((v243 >>> ((19 : Int32) &&& 31)) &&& (7 : Int32)))) (fun K327 => gv (((10 : Int32) + ((16 : Int32) * x3)) + (8 : Int32)) 90 ((if (K327 154 (Int32.toNatClampNeg (((10 : Int32) + ((16 : Int32) * x3)) + (8 : Int32)))) = (1 : Int32) then gv (((10 : Int32) + ((16 : Int32) * x3)) + (10 : Int32)) 90 (lt (sI K327 154 (Int32.toNatClampNeg (((10 : Int32) + ((16 : Int32) * x3)) + (10 : Int32))) ((1 : Int32) + ((v243 >>> ((22 : Int32) &&& 31)) &&& (3 : Int32)))) (fun K357 => gv (((10 : Int32) + ((16 : Int32) * x3)) + (11 : Int32)) 90 (lt (sI K357 154 (Int32.toNatClampNeg (((10 : Int32) + ((16 : Int32) * x3)) + (11 : Int32))) (((v243 >>> ((24 : Int32) &&& 31)) &&& (1 : Int32)) * (((v243 >>> ((25 : Int32) &&& 31)) &&& (63 : Int32)) - (32 : Int32)))) (fun K381 => gv (((10 : Int32) + ((16 : Int32) * x3)) + (12 : Int32)) 90 (lt (sI K381 154 (Int32.toNatClampNeg (((10 : Int32) + ((16 : Int32) * x3)) + (12 : Int32))) (((v243 >>> ((24 : Int32) &&& 31)) &&& (1 : Int32)) * (((v243 >>> ((19 : Int32) &&& 31)) &&& (63 : Int32)) - (32 : Int32)))) (fun K405 => (if ((v243 >>> ((26 : Int32) &&& 31)) &&& (3 : Int32)) = 0 then gv (((10 : Int32) + ((16 : Int32) * x3)) + (13 : Int32)) 90 (lt (sI K405 154 (Int32.toNatClampNeg (((10 : Int32) + ((16 : Int32) * x3)) + (13 : Int32))) (0 : Int32)) (fun K426 => gv (((10 : Int32) + ((16 : Int32) * x3)) + (14 : Int32)) 90 (lt (sI K426 154 (Int32.toNatClampNeg (((10 : Int32) + ((16 : Int32) * x3)) + (14 : Int32))) (((v243 >>> ((28 : Int32) &&& 31)) &&& (3 : Int32)) - ((v243 >>> ((28 : Int32) &&& 31)) &&& (3 : Int32)) / (3 : Int32) * (3 : Int32))) (fun K441 => L_L_drawn n zS S j 0 v243 (x3 + (1 : Int32)) K441)))) else gv (((10 : Int32) + ((16 : Int32) * x3)) + (13 : Int32)) 90 (lt (sI K405 154 (Int32.toNatClampNeg (((10 : Int32) + ((16 : Int32) * x3)) + (13 : Int32))) (1 : Int32)) (fun K426 => gv (((10 : Int32) + ((16 : Int32) * x3)) + (14 : Int32)) 90 (lt (sI K426 154 (Int32.toNatClampNeg (((10 : Int32) + ((16 : Int32) * x3)) + (14 : Int32))) (((v243 >>> ((28 : Int32) &&& 31)) &&& (3 : Int32)) - ((v243 >>> ((28 : Int32) &&& 31)) &&& (3 : Int32)) / (3 : Int32) * (3 : Int32))) (fun K441 => L_L_drawn n zS S j 0 v243 (x3 + (1 : Int32)) K441))))))))))) else gv (((10 : Int32) + ((16 : Int32) * x3)) + (10 : Int32)) 90 (lt (sI K327 154 (Int32.toNatClampNeg (((10 : Int32) + ((16 : Int32) * x3)) + (10 : Int32))) (0 : Int32)) (fun K357 => gv (((10 : Int32) + ((16 : Int32) * x3)) + (11 : Int32)) 90 (lt (sI K357 154 (Int32.toNatClampNeg (((10 : Int32) + ((16 : Int32) * x3)) + (11 : Int32))) (((v243 >>> ((24 : Int32) &&& 31)) &&& (1 : Int32)) * (((v243 >>> ((25 : Int32) &&& 31)) &&& (63 : Int32)) - (32 : Int32)))) (fun K381 => gv (((10 : Int32) + ((16 : Int32) * x3)) + (12 : Int32)) 90 (lt (sI K381 154 (Int32.toNatClampNeg (((10 : Int32) + ((16 : Int32) * x3)) + (12 : Int32))) (((v243 >>> ((24 : Int32) &&& 31)) &&& (1 : Int32)) * (((v243 >>> ((19 : Int32) &&& 31)) &&& (63 : Int32)) - (32 : Int32)))) (fun K405 => (if ((v243 >>> ((26 : Int32) &&& 31)) &&& (3 : Int32)) = 0 then gv (((10 : Int32) + ((16 : Int32) * x3)) + (13 : Int32)) 90 (lt (sI K405 154 (Int32.toNatClampNeg (((10 : Int32) + ((16 : Int32) * x3)) + (13 : Int32))) (0 : Int32)) (fun K426 => gv (((10 : Int32) + ((16 : Int32) * x3)) + (14 : Int32)) 90 (lt (sI K426 154 (Int32.toNatClampNeg (((10 : Int32) + ((16 : Int32) * x3)) + (14 : Int32))) (((v243 >>> ((28 : Int32) &&& 31)) &&& (3 : Int32)) - ((v243 >>> ((28 : Int32) &&& 31)) &&& (3 : Int32)) / (3 : Int32) * (3 : Int32))) (fun K441 => L_L_drawn n zS S j 0 v243 (x3 + (1 : Int32)) K441)))) else gv (((10 : Int32) + ((16 : Int32) * x3)) + (13 : Int32)) 90 (lt (sI K405 154 (Int32.toNatClampNeg (((10 : Int32) + ((16 : Int32) * x3)) + (13 : Int32))) (1 : Int32)) (fun K426 => gv (((10 : Int32) + ((16 : Int32) * x3)) + (14 : Int32)) 90 (lt (sI K426 154 (Int32.toNatClampNeg (((10 : Int32) + ((16 : Int32) * x3)) + (14 : Int32))) (((v243 >>> ((28 : Int32) &&& 31)) &&& (3 : Int32)) - ((v243 >>> ((28 : Int32) &&& 31)) &&& (3 : Int32)) / (3 : Int32) * (3 : Int32))) (fun K441 => L_L_drawn n zS S j 0 v243 (x3 + (1 : Int32)) K441)))))))))))))))))))))))))))))))))))))))))
  | _ + 1, _, _, _, _ => none
theorem L_L_drawn_e0 (n j : Nat) (zS : Nat) (S : Nat → Int32) (x2 : Int32) (x3 : Int32) (K : gI) : L_L_drawn n zS S (j + 1) 0 x2 x3 K = (if (K 154 6) ≤ x3 then bd (F_L_furnished n zS S K) (fun v450 => some v450) else bd (F_L_cell n zS S ((1 : Int32) + ((2 : Int32) * x3))) (fun v142 => gd (¬ (K 154 1) = 0) (gv ((10 : Int32) + ((16 : Int32) * x3)) 90 (lt (sI K 154 (Int32.toNatClampNeg ((10 : Int32) + ((16 : Int32) * x3))) ((v142 &&& (7 : Int32)) - (v142 &&& (7 : Int32)) / (K 154 1) * (K 154 1))) (fun K157 => gd (¬ (K157 154 2) = 0) (gv (((10 : Int32) + ((16 : Int32) * x3)) + (1 : Int32)) 90 (lt (sI K157 154 (Int32.toNatClampNeg (((10 : Int32) + ((16 : Int32) * x3)) + (1 : Int32))) (((v142 >>> ((3 : Int32) &&& 31)) &&& (7 : Int32)) - ((v142 >>> ((3 : Int32) &&& 31)) &&& (7 : Int32)) / (K157 154 2) * (K157 154 2))) (fun K173 => gv (((10 : Int32) + ((16 : Int32) * x3)) + (2 : Int32)) 90 (lt (sI K173 154 (Int32.toNatClampNeg (((10 : Int32) + ((16 : Int32) * x3)) + (2 : Int32))) ((1 : Int32) + ((v142 >>> ((6 : Int32) &&& 31)) &&& (511 : Int32)))) (fun K189 => gv (((10 : Int32) + ((16 : Int32) * x3)) + (3 : Int32)) 90 (lt (sI K189 154 (Int32.toNatClampNeg (((10 : Int32) + ((16 : Int32) * x3)) + (3 : Int32))) ((50 : Int32) + ((v142 >>> ((15 : Int32) &&& 31)) &&& (511 : Int32)))) (fun K206 => gv (((10 : Int32) + ((16 : Int32) * x3)) + (4 : Int32)) 90 (lt (sI K206 154 (Int32.toNatClampNeg (((10 : Int32) + ((16 : Int32) * x3)) + (4 : Int32))) ((2 : Int32) + ((v142 >>> ((24 : Int32) &&& 31)) &&& (31 : Int32)))) (fun K221 => gv (((10 : Int32) + ((16 : Int32) * x3)) + (8 : Int32)) 90 (lt (sI K221 154 (Int32.toNatClampNeg (((10 : Int32) + ((16 : Int32) * x3)) + (8 : Int32))) (((v142 >>> ((29 : Int32) &&& 31)) &&& (3 : Int32)) - ((v142 >>> ((29 : Int32) &&& 31)) &&& (3 : Int32)) / (3 : Int32) * (3 : Int32))) (fun K236 => bd (F_L_cell n zS S ((2 : Int32) + ((2 : Int32) * x3))) (fun v243 => gv (((10 : Int32) + ((16 : Int32) * x3)) + (5 : Int32)) 90 (lt (sI K236 154 (Int32.toNatClampNeg (((10 : Int32) + ((16 : Int32) * x3)) + (5 : Int32))) ((v243 &&& (511 : Int32)) - (v243 &&& (511 : Int32)) / (360 : Int32) * (360 : Int32))) (fun K261 => gv (((10 : Int32) + ((16 : Int32) * x3)) + (6 : Int32)) 90 (lt (sI K261 154 (Int32.toNatClampNeg (((10 : Int32) + ((16 : Int32) * x3)) + (6 : Int32))) ((v243 >>> ((9 : Int32) &&& 31)) &&& (7 : Int32))) (fun K275 => gv (((10 : Int32) + ((16 : Int32) * x3)) + (6 : Int32)) 90 (gv (((10 : Int32) + ((16 : Int32) * x3)) + (7 : Int32)) 90 (lt (sI K275 154 (Int32.toNatClampNeg (((10 : Int32) + ((16 : Int32) * x3)) + (7 : Int32))) ((K275 154 (Int32.toNatClampNeg (((10 : Int32) + ((16 : Int32) * x3)) + (6 : Int32)))) + ((v243 >>> ((12 : Int32) &&& 31)) &&& (127 : Int32)))) (fun K297 => gv (((10 : Int32) + ((16 : Int32) * x3)) + (8 : Int32)) 90 ((if (K297 154 (Int32.toNatClampNeg (((10 : Int32) + ((16 : Int32) * x3)) + (8 : Int32)))) = 0 then gv (((10 : Int32) + ((16 : Int32) * x3)) + (9 : Int32)) 90 (lt (sI K297 154 (Int32.toNatClampNeg (((10 : Int32) + ((16 : Int32) * x3)) + (9 : Int32))) (0 : Int32)) (fun K327 => gv (((10 : Int32) + ((16 : Int32) * x3)) + (8 : Int32)) 90 ((if (K327 154 (Int32.toNatClampNeg (((10 : Int32) + ((16 : Int32) * x3)) + (8 : Int32)))) = (1 : Int32) then gv (((10 : Int32) + ((16 : Int32) * x3)) + (10 : Int32)) 90 (lt (sI K327 154 (Int32.toNatClampNeg (((10 : Int32) + ((16 : Int32) * x3)) + (10 : Int32))) ((1 : Int32) + ((v243 >>> ((22 : Int32) &&& 31)) &&& (3 : Int32)))) (fun K357 => gv (((10 : Int32) + ((16 : Int32) * x3)) + (11 : Int32)) 90 (lt (sI K357 154 (Int32.toNatClampNeg (((10 : Int32) + ((16 : Int32) * x3)) + (11 : Int32))) (((v243 >>> ((24 : Int32) &&& 31)) &&& (1 : Int32)) * (((v243 >>> ((25 : Int32) &&& 31)) &&& (63 : Int32)) - (32 : Int32)))) (fun K381 => gv (((10 : Int32) + ((16 : Int32) * x3)) + (12 : Int32)) 90 (lt (sI K381 154 (Int32.toNatClampNeg (((10 : Int32) + ((16 : Int32) * x3)) + (12 : Int32))) (((v243 >>> ((24 : Int32) &&& 31)) &&& (1 : Int32)) * (((v243 >>> ((19 : Int32) &&& 31)) &&& (63 : Int32)) - (32 : Int32)))) (fun K405 => (if ((v243 >>> ((26 : Int32) &&& 31)) &&& (3 : Int32)) = 0 then gv (((10 : Int32) + ((16 : Int32) * x3)) + (13 : Int32)) 90 (lt (sI K405 154 (Int32.toNatClampNeg (((10 : Int32) + ((16 : Int32) * x3)) + (13 : Int32))) (0 : Int32)) (fun K426 => gv (((10 : Int32) + ((16 : Int32) * x3)) + (14 : Int32)) 90 (lt (sI K426 154 (Int32.toNatClampNeg (((10 : Int32) + ((16 : Int32) * x3)) + (14 : Int32))) (((v243 >>> ((28 : Int32) &&& 31)) &&& (3 : Int32)) - ((v243 >>> ((28 : Int32) &&& 31)) &&& (3 : Int32)) / (3 : Int32) * (3 : Int32))) (fun K441 => L_L_drawn n zS S j 0 v243 (x3 + (1 : Int32)) K441)))) else gv (((10 : Int32) + ((16 : Int32) * x3)) + (13 : Int32)) 90 (lt (sI K405 154 (Int32.toNatClampNeg (((10 : Int32) + ((16 : Int32) * x3)) + (13 : Int32))) (1 : Int32)) (fun K426 => gv (((10 : Int32) + ((16 : Int32) * x3)) + (14 : Int32)) 90 (lt (sI K426 154 (Int32.toNatClampNeg (((10 : Int32) + ((16 : Int32) * x3)) + (14 : Int32))) (((v243 >>> ((28 : Int32) &&& 31)) &&& (3 : Int32)) - ((v243 >>> ((28 : Int32) &&& 31)) &&& (3 : Int32)) / (3 : Int32) * (3 : Int32))) (fun K441 => L_L_drawn n zS S j 0 v243 (x3 + (1 : Int32)) K441))))))))))) else gv (((10 : Int32) + ((16 : Int32) * x3)) + (10 : Int32)) 90 (lt (sI K327 154 (Int32.toNatClampNeg (((10 : Int32) + ((16 : Int32) * x3)) + (10 : Int32))) (0 : Int32)) (fun K357 => gv (((10 : Int32) + ((16 : Int32) * x3)) + (11 : Int32)) 90 (lt (sI K357 154 (Int32.toNatClampNeg (((10 : Int32) + ((16 : Int32) * x3)) + (11 : Int32))) (((v243 >>> ((24 : Int32) &&& 31)) &&& (1 : Int32)) * (((v243 >>> ((25 : Int32) &&& 31)) &&& (63 : Int32)) - (32 : Int32)))) (fun K381 => gv (((10 : Int32) + ((16 : Int32) * x3)) + (12 : Int32)) 90 (lt (sI K381 154 (Int32.toNatClampNeg (((10 : Int32) + ((16 : Int32) * x3)) + (12 : Int32))) (((v243 >>> ((24 : Int32) &&& 31)) &&& (1 : Int32)) * (((v243 >>> ((19 : Int32) &&& 31)) &&& (63 : Int32)) - (32 : Int32)))) (fun K405 => (if ((v243 >>> ((26 : Int32) &&& 31)) &&& (3 : Int32)) = 0 then gv (((10 : Int32) + ((16 : Int32) * x3)) + (13 : Int32)) 90 (lt (sI K405 154 (Int32.toNatClampNeg (((10 : Int32) + ((16 : Int32) * x3)) + (13 : Int32))) (0 : Int32)) (fun K426 => gv (((10 : Int32) + ((16 : Int32) * x3)) + (14 : Int32)) 90 (lt (sI K426 154 (Int32.toNatClampNeg (((10 : Int32) + ((16 : Int32) * x3)) + (14 : Int32))) (((v243 >>> ((28 : Int32) &&& 31)) &&& (3 : Int32)) - ((v243 >>> ((28 : Int32) &&& 31)) &&& (3 : Int32)) / (3 : Int32) * (3 : Int32))) (fun K441 => L_L_drawn n zS S j 0 v243 (x3 + (1 : Int32)) K441)))) else gv (((10 : Int32) + ((16 : Int32) * x3)) + (13 : Int32)) 90 (lt (sI K405 154 (Int32.toNatClampNeg (((10 : Int32) + ((16 : Int32) * x3)) + (13 : Int32))) (1 : Int32)) (fun K426 => gv (((10 : Int32) + ((16 : Int32) * x3)) + (14 : Int32)) 90 (lt (sI K426 154 (Int32.toNatClampNeg (((10 : Int32) + ((16 : Int32) * x3)) + (14 : Int32))) (((v243 >>> ((28 : Int32) &&& 31)) &&& (3 : Int32)) - ((v243 >>> ((28 : Int32) &&& 31)) &&& (3 : Int32)) / (3 : Int32) * (3 : Int32))) (fun K441 => L_L_drawn n zS S j 0 v243 (x3 + (1 : Int32)) K441))))))))))))))) else gv (((10 : Int32) + ((16 : Int32) * x3)) + (9 : Int32)) 90 (lt (sI K297 154 (Int32.toNatClampNeg (((10 : Int32) + ((16 : Int32) * x3)) + (9 : Int32))) ((1 : Int32) + ((v243 >>> ((19 : Int32) &&& 31)) &&& (7 : Int32)))) (fun K327 => gv (((10 : Int32) + ((16 : Int32) * x3)) + (8 : Int32)) 90 ((if (K327 154 (Int32.toNatClampNeg (((10 : Int32) + ((16 : Int32) * x3)) + (8 : Int32)))) = (1 : Int32) then gv (((10 : Int32) + ((16 : Int32) * x3)) + (10 : Int32)) 90 (lt (sI K327 154 (Int32.toNatClampNeg (((10 : Int32) + ((16 : Int32) * x3)) + (10 : Int32))) ((1 : Int32) + ((v243 >>> ((22 : Int32) &&& 31)) &&& (3 : Int32)))) (fun K357 => gv (((10 : Int32) + ((16 : Int32) * x3)) + (11 : Int32)) 90 (lt (sI K357 154 (Int32.toNatClampNeg (((10 : Int32) + ((16 : Int32) * x3)) + (11 : Int32))) (((v243 >>> ((24 : Int32) &&& 31)) &&& (1 : Int32)) * (((v243 >>> ((25 : Int32) &&& 31)) &&& (63 : Int32)) - (32 : Int32)))) (fun K381 => gv (((10 : Int32) + ((16 : Int32) * x3)) + (12 : Int32)) 90 (lt (sI K381 154 (Int32.toNatClampNeg (((10 : Int32) + ((16 : Int32) * x3)) + (12 : Int32))) (((v243 >>> ((24 : Int32) &&& 31)) &&& (1 : Int32)) * (((v243 >>> ((19 : Int32) &&& 31)) &&& (63 : Int32)) - (32 : Int32)))) (fun K405 => (if ((v243 >>> ((26 : Int32) &&& 31)) &&& (3 : Int32)) = 0 then gv (((10 : Int32) + ((16 : Int32) * x3)) + (13 : Int32)) 90 (lt (sI K405 154 (Int32.toNatClampNeg (((10 : Int32) + ((16 : Int32) * x3)) + (13 : Int32))) (0 : Int32)) (fun K426 => gv (((10 : Int32) + ((16 : Int32) * x3)) + (14 : Int32)) 90 (lt (sI K426 154 (Int32.toNatClampNeg (((10 : Int32) + ((16 : Int32) * x3)) + (14 : Int32))) (((v243 >>> ((28 : Int32) &&& 31)) &&& (3 : Int32)) - ((v243 >>> ((28 : Int32) &&& 31)) &&& (3 : Int32)) / (3 : Int32) * (3 : Int32))) (fun K441 => L_L_drawn n zS S j 0 v243 (x3 + (1 : Int32)) K441)))) else gv (((10 : Int32) + ((16 : Int32) * x3)) + (13 : Int32)) 90 (lt (sI K405 154 (Int32.toNatClampNeg (((10 : Int32) + ((16 : Int32) * x3)) + (13 : Int32))) (1 : Int32)) (fun K426 => gv (((10 : Int32) + ((16 : Int32) * x3)) + (14 : Int32)) 90 (lt (sI K426 154 (Int32.toNatClampNeg (((10 : Int32) + ((16 : Int32) * x3)) + (14 : Int32))) (((v243 >>> ((28 : Int32) &&& 31)) &&& (3 : Int32)) - ((v243 >>> ((28 : Int32) &&& 31)) &&& (3 : Int32)) / (3 : Int32) * (3 : Int32))) (fun K441 => L_L_drawn n zS S j 0 v243 (x3 + (1 : Int32)) K441))))))))))) else gv (((10 : Int32) + ((16 : Int32) * x3)) + (10 : Int32)) 90 (lt (sI K327 154 (Int32.toNatClampNeg (((10 : Int32) + ((16 : Int32) * x3)) + (10 : Int32))) (0 : Int32)) (fun K357 => gv (((10 : Int32) + ((16 : Int32) * x3)) + (11 : Int32)) 90 (lt (sI K357 154 (Int32.toNatClampNeg (((10 : Int32) + ((16 : Int32) * x3)) + (11 : Int32))) (((v243 >>> ((24 : Int32) &&& 31)) &&& (1 : Int32)) * (((v243 >>> ((25 : Int32) &&& 31)) &&& (63 : Int32)) - (32 : Int32)))) (fun K381 => gv (((10 : Int32) + ((16 : Int32) * x3)) + (12 : Int32)) 90 (lt (sI K381 154 (Int32.toNatClampNeg (((10 : Int32) + ((16 : Int32) * x3)) + (12 : Int32))) (((v243 >>> ((24 : Int32) &&& 31)) &&& (1 : Int32)) * (((v243 >>> ((19 : Int32) &&& 31)) &&& (63 : Int32)) - (32 : Int32)))) (fun K405 => (if ((v243 >>> ((26 : Int32) &&& 31)) &&& (3 : Int32)) = 0 then gv (((10 : Int32) + ((16 : Int32) * x3)) + (13 : Int32)) 90 (lt (sI K405 154 (Int32.toNatClampNeg (((10 : Int32) + ((16 : Int32) * x3)) + (13 : Int32))) (0 : Int32)) (fun K426 => gv (((10 : Int32) + ((16 : Int32) * x3)) + (14 : Int32)) 90 (lt (sI K426 154 (Int32.toNatClampNeg (((10 : Int32) + ((16 : Int32) * x3)) + (14 : Int32))) (((v243 >>> ((28 : Int32) &&& 31)) &&& (3 : Int32)) - ((v243 >>> ((28 : Int32) &&& 31)) &&& (3 : Int32)) / (3 : Int32) * (3 : Int32))) (fun K441 => L_L_drawn n zS S j 0 v243 (x3 + (1 : Int32)) K441)))) else gv (((10 : Int32) + ((16 : Int32) * x3)) + (13 : Int32)) 90 (lt (sI K405 154 (Int32.toNatClampNeg (((10 : Int32) + ((16 : Int32) * x3)) + (13 : Int32))) (1 : Int32)) (fun K426 => gv (((10 : Int32) + ((16 : Int32) * x3)) + (14 : Int32)) 90 (lt (sI K426 154 (Int32.toNatClampNeg (((10 : Int32) + ((16 : Int32) * x3)) + (14 : Int32))) (((v243 >>> ((28 : Int32) &&& 31)) &&& (3 : Int32)) - ((v243 >>> ((28 : Int32) &&& 31)) &&& (3 : Int32)) / (3 : Int32) * (3 : Int32))) (fun K441 => L_L_drawn n zS S j 0 v243 (x3 + (1 : Int32)) K441))))))))))))))))))))))))))))))))))))))))) := rfl
set_option maxHeartbeats 4000000 in
set_option maxRecDepth 100000 in
theorem cL_L_drawn {G : gG} {lay : Nat → Nat × Nat} {T0 T1 : Nat} {Dd : Nat → Nat → UInt64} {I : gI} {J : gJ} {N : gJ} {sz n : Nat} {zS : Nat} {S : Nat → Int32} (hs : G.1.stackTraces = false) (hE : gLay lay) (hS : gScr G zS S) : ∀ j : Nat, (∀ (x2 : Int32) (x3 : Int32) (K : gI) (r : gI), L_L_drawn n zS S j 0 x2 x3 K = some r → gAt G mL_drawn (gQp G mL_drawn (gR (some (.ref (G.2.2.1 + 154))) (fO G (lay, T0, T1, Dd) I J r N) sz)) 119 [some (.ref (gsA G)), some (.ref (G.2.2.1 + 154)), some (.int x2), some (.int x3), none] [] (fO G (lay, T0, T1, Dd) I J K N) sz 1 90) := by
  intro j
  induction j with
  | zero => exact fun _ _ _ _ hf => (by cases hf)
  | succ j ih =>
    refine ?_
    · intro x2 x3 K r hf
      rw [L_L_drawn_e0] at hf
      refine r_iload_n dL_drawn_119 rfl ?_
      refine r_aload_n dL_drawn_120 rfl ?_
      refine r_bipush (v := (6 : Int32)) dL_drawn_121 (by decide) ?_
      refine m_ialdc 6 dL_drawn_123 (hE 154 (by decide)) (vpc rfl) rfl ?_
      refine r_icmp_ge (tgt := 448) dL_drawn_124 (by decide) (fun c124 => ?_) (fun c124 => ?_)
      · replace hf := if_t hf c124
        refine r_aload_n dL_drawn_448 rfl ?_
        refine r_aload_n dL_drawn_449 rfl ?_
        obtain ⟨v450, hc450, hf⟩ := bd_of hf
        refine r_cSi (rest := []) (ct_L_furnished hs hE hS hc450) dL_drawn_450 wd_783 zL_furnished wd_784 rfl  rfl rfl ⟨Nat.le_of_ble_eq_true rfl, Nat.le_of_ble_eq_true rfl⟩ (Nat.le_of_ble_eq_true rfl) ⟨Nat.le_of_ble_eq_true rfl, Nat.le_of_ble_eq_true rfl⟩ ?_
        have hr := Option.some.inj hf
        subst hr
        exact r_aret dL_drawn_453 rfl (Nat.le_of_ble_eq_true rfl) (Nat.le_of_ble_eq_true rfl) ⟨rfl, rfl, rfl⟩
      · replace hf := if_f hf c124
        refine r_bipush (v := (10 : Int32)) dL_drawn_127 (by decide) ?_
        refine r_bipush (v := (16 : Int32)) dL_drawn_129 (by decide) ?_
        refine r_iload_n dL_drawn_131 rfl ?_
        refine r_imul dL_drawn_132 ?_
        refine r_iadd dL_drawn_133 ?_
        refine r_istore dL_drawn_134 (by decide) rfl ?_
        refine r_aload_n dL_drawn_136 rfl ?_
        refine r_iconst (v := (1 : Int32)) dL_drawn_137 (by decide) ?_
        refine r_iconst (v := (2 : Int32)) dL_drawn_138 (by decide) ?_
        refine r_iload_n dL_drawn_139 rfl ?_
        refine r_imul dL_drawn_140 ?_
        refine r_iadd dL_drawn_141 ?_
        obtain ⟨v142, hc142, hf⟩ := bd_of hf
        refine r_cSi (rest := []) (ct_L_cell hs hE hS hc142) dL_drawn_142 wd_777 zL_cell wd_778 rfl  rfl rfl ⟨Nat.le_of_ble_eq_true rfl, Nat.le_of_ble_eq_true rfl⟩ (Nat.le_of_ble_eq_true rfl) ⟨Nat.le_of_ble_eq_true rfl, Nat.le_of_ble_eq_true rfl⟩ ?_
        refine r_istore_n dL_drawn_145 (by decide) rfl ?_
        refine r_aload_n dL_drawn_146 rfl ?_
        refine r_iload dL_drawn_147 rfl ?_
        refine r_iload_n dL_drawn_149 rfl ?_
        refine r_bipush (v := (7 : Int32)) dL_drawn_150 (by decide) ?_
        refine r_iand dL_drawn_152 ?_
        refine r_aload_n dL_drawn_153 rfl ?_
        refine r_iconst (v := (1 : Int32)) dL_drawn_154 (by decide) ?_
        refine m_ialdc 1 dL_drawn_155 (hE 154 (by decide)) (vpc rfl) rfl ?_
        obtain ⟨h156, hf⟩ := gd_of hf
        refine r_irem dL_drawn_156 h156 ?_
        obtain ⟨h157, hf⟩ := gv_of hf
        obtain ⟨K157, hK157, hf⟩ := lt_of hf
        refine m_iast dL_drawn_157 (hE 154 (by decide)) h157 ?_
        rw [hK157]
        refine r_aload_n dL_drawn_158 rfl ?_
        refine r_iload dL_drawn_159 rfl ?_
        refine r_iconst (v := (1 : Int32)) dL_drawn_161 (by decide) ?_
        refine r_iadd dL_drawn_162 ?_
        refine r_iload_n dL_drawn_163 rfl ?_
        refine r_iconst (v := (3 : Int32)) dL_drawn_164 (by decide) ?_
        refine r_ishr dL_drawn_165 ?_
        refine r_bipush (v := (7 : Int32)) dL_drawn_166 (by decide) ?_
        refine r_iand dL_drawn_168 ?_
        refine r_aload_n dL_drawn_169 rfl ?_
        refine r_iconst (v := (2 : Int32)) dL_drawn_170 (by decide) ?_
        refine m_ialdc 2 dL_drawn_171 (hE 154 (by decide)) (vpc rfl) rfl ?_
        obtain ⟨h172, hf⟩ := gd_of hf
        refine r_irem dL_drawn_172 h172 ?_
        obtain ⟨h173, hf⟩ := gv_of hf
        obtain ⟨K173, hK173, hf⟩ := lt_of hf
        refine m_iast dL_drawn_173 (hE 154 (by decide)) h173 ?_
        rw [hK173]
        refine r_aload_n dL_drawn_174 rfl ?_
        refine r_iload dL_drawn_175 rfl ?_
        refine r_iconst (v := (2 : Int32)) dL_drawn_177 (by decide) ?_
        refine r_iadd dL_drawn_178 ?_
        refine r_iconst (v := (1 : Int32)) dL_drawn_179 (by decide) ?_
        refine r_iload_n dL_drawn_180 rfl ?_
        refine r_bipush (v := (6 : Int32)) dL_drawn_181 (by decide) ?_
        refine r_ishr dL_drawn_183 ?_
        refine r_sipush (v := (511 : Int32)) dL_drawn_184 (by decide) ?_
        refine r_iand dL_drawn_187 ?_
        refine r_iadd dL_drawn_188 ?_
        obtain ⟨h189, hf⟩ := gv_of hf
        obtain ⟨K189, hK189, hf⟩ := lt_of hf
        refine m_iast dL_drawn_189 (hE 154 (by decide)) h189 ?_
        rw [hK189]
        refine r_aload_n dL_drawn_190 rfl ?_
        refine r_iload dL_drawn_191 rfl ?_
        refine r_iconst (v := (3 : Int32)) dL_drawn_193 (by decide) ?_
        refine r_iadd dL_drawn_194 ?_
        refine r_bipush (v := (50 : Int32)) dL_drawn_195 (by decide) ?_
        refine r_iload_n dL_drawn_197 rfl ?_
        refine r_bipush (v := (15 : Int32)) dL_drawn_198 (by decide) ?_
        refine r_ishr dL_drawn_200 ?_
        refine r_sipush (v := (511 : Int32)) dL_drawn_201 (by decide) ?_
        refine r_iand dL_drawn_204 ?_
        refine r_iadd dL_drawn_205 ?_
        obtain ⟨h206, hf⟩ := gv_of hf
        obtain ⟨K206, hK206, hf⟩ := lt_of hf
        refine m_iast dL_drawn_206 (hE 154 (by decide)) h206 ?_
        rw [hK206]
        refine r_aload_n dL_drawn_207 rfl ?_
        refine r_iload dL_drawn_208 rfl ?_
        refine r_iconst (v := (4 : Int32)) dL_drawn_210 (by decide) ?_
        refine r_iadd dL_drawn_211 ?_
        refine r_iconst (v := (2 : Int32)) dL_drawn_212 (by decide) ?_
        refine r_iload_n dL_drawn_213 rfl ?_
        refine r_bipush (v := (24 : Int32)) dL_drawn_214 (by decide) ?_
        refine r_ishr dL_drawn_216 ?_
        refine r_bipush (v := (31 : Int32)) dL_drawn_217 (by decide) ?_
        refine r_iand dL_drawn_219 ?_
        refine r_iadd dL_drawn_220 ?_
        obtain ⟨h221, hf⟩ := gv_of hf
        obtain ⟨K221, hK221, hf⟩ := lt_of hf
        refine m_iast dL_drawn_221 (hE 154 (by decide)) h221 ?_
        rw [hK221]
        refine r_aload_n dL_drawn_222 rfl ?_
        refine r_iload dL_drawn_223 rfl ?_
        refine r_bipush (v := (8 : Int32)) dL_drawn_225 (by decide) ?_
        refine r_iadd dL_drawn_227 ?_
        refine r_iload_n dL_drawn_228 rfl ?_
        refine r_bipush (v := (29 : Int32)) dL_drawn_229 (by decide) ?_
        refine r_ishr dL_drawn_231 ?_
        refine r_iconst (v := (3 : Int32)) dL_drawn_232 (by decide) ?_
        refine r_iand dL_drawn_233 ?_
        refine r_iconst (v := (3 : Int32)) dL_drawn_234 (by decide) ?_
        refine r_irem dL_drawn_235 (by decide) ?_
        obtain ⟨h236, hf⟩ := gv_of hf
        obtain ⟨K236, hK236, hf⟩ := lt_of hf
        refine m_iast dL_drawn_236 (hE 154 (by decide)) h236 ?_
        rw [hK236]
        refine r_aload_n dL_drawn_237 rfl ?_
        refine r_iconst (v := (2 : Int32)) dL_drawn_238 (by decide) ?_
        refine r_iconst (v := (2 : Int32)) dL_drawn_239 (by decide) ?_
        refine r_iload_n dL_drawn_240 rfl ?_
        refine r_imul dL_drawn_241 ?_
        refine r_iadd dL_drawn_242 ?_
        obtain ⟨v243, hc243, hf⟩ := bd_of hf
        refine r_cSi (rest := []) (ct_L_cell hs hE hS hc243) dL_drawn_243 wd_777 zL_cell wd_778 rfl  rfl rfl ⟨Nat.le_of_ble_eq_true rfl, Nat.le_of_ble_eq_true rfl⟩ (Nat.le_of_ble_eq_true rfl) ⟨Nat.le_of_ble_eq_true rfl, Nat.le_of_ble_eq_true rfl⟩ ?_
        refine r_istore_n dL_drawn_246 (by decide) rfl ?_
        refine r_aload_n dL_drawn_247 rfl ?_
        refine r_iload dL_drawn_248 rfl ?_
        refine r_iconst (v := (5 : Int32)) dL_drawn_250 (by decide) ?_
        refine r_iadd dL_drawn_251 ?_
        refine r_iload_n dL_drawn_252 rfl ?_
        refine r_sipush (v := (511 : Int32)) dL_drawn_253 (by decide) ?_
        refine r_iand dL_drawn_256 ?_
        refine r_sipush (v := (360 : Int32)) dL_drawn_257 (by decide) ?_
        refine r_irem dL_drawn_260 (by decide) ?_
        obtain ⟨h261, hf⟩ := gv_of hf
        obtain ⟨K261, hK261, hf⟩ := lt_of hf
        refine m_iast dL_drawn_261 (hE 154 (by decide)) h261 ?_
        rw [hK261]
        refine r_aload_n dL_drawn_262 rfl ?_
        refine r_iload dL_drawn_263 rfl ?_
        refine r_bipush (v := (6 : Int32)) dL_drawn_265 (by decide) ?_
        refine r_iadd dL_drawn_267 ?_
        refine r_iload_n dL_drawn_268 rfl ?_
        refine r_bipush (v := (9 : Int32)) dL_drawn_269 (by decide) ?_
        refine r_ishr dL_drawn_271 ?_
        refine r_bipush (v := (7 : Int32)) dL_drawn_272 (by decide) ?_
        refine r_iand dL_drawn_274 ?_
        obtain ⟨h275, hf⟩ := gv_of hf
        obtain ⟨K275, hK275, hf⟩ := lt_of hf
        refine m_iast dL_drawn_275 (hE 154 (by decide)) h275 ?_
        rw [hK275]
        refine r_aload_n dL_drawn_276 rfl ?_
        refine r_iload dL_drawn_277 rfl ?_
        refine r_bipush (v := (7 : Int32)) dL_drawn_279 (by decide) ?_
        refine r_iadd dL_drawn_281 ?_
        refine r_aload_n dL_drawn_282 rfl ?_
        refine r_iload dL_drawn_283 rfl ?_
        refine r_bipush (v := (6 : Int32)) dL_drawn_285 (by decide) ?_
        refine r_iadd dL_drawn_287 ?_
        obtain ⟨h288, hf⟩ := gv_of hf
        refine m_iald dL_drawn_288 (hE 154 (by decide)) h288 ?_
        refine r_iload_n dL_drawn_289 rfl ?_
        refine r_bipush (v := (12 : Int32)) dL_drawn_290 (by decide) ?_
        refine r_ishr dL_drawn_292 ?_
        refine r_bipush (v := (127 : Int32)) dL_drawn_293 (by decide) ?_
        refine r_iand dL_drawn_295 ?_
        refine r_iadd dL_drawn_296 ?_
        obtain ⟨h297, hf⟩ := gv_of hf
        obtain ⟨K297, hK297, hf⟩ := lt_of hf
        refine m_iast dL_drawn_297 (hE 154 (by decide)) h297 ?_
        rw [hK297]
        refine r_aload_n dL_drawn_298 rfl ?_
        refine r_iload dL_drawn_299 rfl ?_
        refine r_bipush (v := (9 : Int32)) dL_drawn_301 (by decide) ?_
        refine r_iadd dL_drawn_303 ?_
        refine r_aload_n dL_drawn_304 rfl ?_
        refine r_iload dL_drawn_305 rfl ?_
        refine r_bipush (v := (8 : Int32)) dL_drawn_307 (by decide) ?_
        refine r_iadd dL_drawn_309 ?_
        obtain ⟨h310, hf⟩ := gv_of hf
        refine m_iald dL_drawn_310 (hE 154 (by decide)) h310 ?_
        refine r_if_ne (tgt := 318) dL_drawn_311 (by decide) (fun c311 => ?_) (fun c311 => ?_)
        · replace hf := if_f hf c311
          refine r_iconst (v := (1 : Int32)) dL_drawn_318 (by decide) ?_
          refine r_iload_n dL_drawn_319 rfl ?_
          refine r_bipush (v := (19 : Int32)) dL_drawn_320 (by decide) ?_
          refine r_ishr dL_drawn_322 ?_
          refine r_bipush (v := (7 : Int32)) dL_drawn_323 (by decide) ?_
          refine r_iand dL_drawn_325 ?_
          refine r_iadd dL_drawn_326 ?_
          obtain ⟨h327, hf⟩ := gv_of hf
          obtain ⟨K327, hK327, hf⟩ := lt_of hf
          refine m_iast dL_drawn_327 (hE 154 (by decide)) h327 ?_
          rw [hK327]
          refine r_aload_n dL_drawn_328 rfl ?_
          refine r_iload dL_drawn_329 rfl ?_
          refine r_bipush (v := (10 : Int32)) dL_drawn_331 (by decide) ?_
          refine r_iadd dL_drawn_333 ?_
          refine r_aload_n dL_drawn_334 rfl ?_
          refine r_iload dL_drawn_335 rfl ?_
          refine r_bipush (v := (8 : Int32)) dL_drawn_337 (by decide) ?_
          refine r_iadd dL_drawn_339 ?_
          obtain ⟨h340, hf⟩ := gv_of hf
          refine m_iald dL_drawn_340 (hE 154 (by decide)) h340 ?_
          refine r_iconst (v := (1 : Int32)) dL_drawn_341 (by decide) ?_
          refine r_icmp_ne (tgt := 356) dL_drawn_342 (by decide) (fun c342 => ?_) (fun c342 => ?_)
          · replace hf := if_f hf c342
            refine r_iconst (v := (0 : Int32)) dL_drawn_356 (by decide) ?_
            obtain ⟨h357, hf⟩ := gv_of hf
            obtain ⟨K357, hK357, hf⟩ := lt_of hf
            refine m_iast dL_drawn_357 (hE 154 (by decide)) h357 ?_
            rw [hK357]
            refine r_aload_n dL_drawn_358 rfl ?_
            refine r_iload dL_drawn_359 rfl ?_
            refine r_bipush (v := (11 : Int32)) dL_drawn_361 (by decide) ?_
            refine r_iadd dL_drawn_363 ?_
            refine r_iload_n dL_drawn_364 rfl ?_
            refine r_bipush (v := (24 : Int32)) dL_drawn_365 (by decide) ?_
            refine r_ishr dL_drawn_367 ?_
            refine r_iconst (v := (1 : Int32)) dL_drawn_368 (by decide) ?_
            refine r_iand dL_drawn_369 ?_
            refine r_iload_n dL_drawn_370 rfl ?_
            refine r_bipush (v := (25 : Int32)) dL_drawn_371 (by decide) ?_
            refine r_ishr dL_drawn_373 ?_
            refine r_bipush (v := (63 : Int32)) dL_drawn_374 (by decide) ?_
            refine r_iand dL_drawn_376 ?_
            refine r_bipush (v := (32 : Int32)) dL_drawn_377 (by decide) ?_
            refine r_isub dL_drawn_379 ?_
            refine r_imul dL_drawn_380 ?_
            obtain ⟨h381, hf⟩ := gv_of hf
            obtain ⟨K381, hK381, hf⟩ := lt_of hf
            refine m_iast dL_drawn_381 (hE 154 (by decide)) h381 ?_
            rw [hK381]
            refine r_aload_n dL_drawn_382 rfl ?_
            refine r_iload dL_drawn_383 rfl ?_
            refine r_bipush (v := (12 : Int32)) dL_drawn_385 (by decide) ?_
            refine r_iadd dL_drawn_387 ?_
            refine r_iload_n dL_drawn_388 rfl ?_
            refine r_bipush (v := (24 : Int32)) dL_drawn_389 (by decide) ?_
            refine r_ishr dL_drawn_391 ?_
            refine r_iconst (v := (1 : Int32)) dL_drawn_392 (by decide) ?_
            refine r_iand dL_drawn_393 ?_
            refine r_iload_n dL_drawn_394 rfl ?_
            refine r_bipush (v := (19 : Int32)) dL_drawn_395 (by decide) ?_
            refine r_ishr dL_drawn_397 ?_
            refine r_bipush (v := (63 : Int32)) dL_drawn_398 (by decide) ?_
            refine r_iand dL_drawn_400 ?_
            refine r_bipush (v := (32 : Int32)) dL_drawn_401 (by decide) ?_
            refine r_isub dL_drawn_403 ?_
            refine r_imul dL_drawn_404 ?_
            obtain ⟨h405, hf⟩ := gv_of hf
            obtain ⟨K405, hK405, hf⟩ := lt_of hf
            refine m_iast dL_drawn_405 (hE 154 (by decide)) h405 ?_
            rw [hK405]
            refine r_aload_n dL_drawn_406 rfl ?_
            refine r_iload dL_drawn_407 rfl ?_
            refine r_bipush (v := (13 : Int32)) dL_drawn_409 (by decide) ?_
            refine r_iadd dL_drawn_411 ?_
            refine r_iload_n dL_drawn_412 rfl ?_
            refine r_bipush (v := (26 : Int32)) dL_drawn_413 (by decide) ?_
            refine r_ishr dL_drawn_415 ?_
            refine r_iconst (v := (3 : Int32)) dL_drawn_416 (by decide) ?_
            refine r_iand dL_drawn_417 ?_
            refine r_if_ne (tgt := 425) dL_drawn_418 (by decide) (fun c418 => ?_) (fun c418 => ?_)
            · replace hf := if_f hf c418
              refine r_iconst (v := (1 : Int32)) dL_drawn_425 (by decide) ?_
              obtain ⟨h426, hf⟩ := gv_of hf
              obtain ⟨K426, hK426, hf⟩ := lt_of hf
              refine m_iast dL_drawn_426 (hE 154 (by decide)) h426 ?_
              rw [hK426]
              refine r_aload_n dL_drawn_427 rfl ?_
              refine r_iload dL_drawn_428 rfl ?_
              refine r_bipush (v := (14 : Int32)) dL_drawn_430 (by decide) ?_
              refine r_iadd dL_drawn_432 ?_
              refine r_iload_n dL_drawn_433 rfl ?_
              refine r_bipush (v := (28 : Int32)) dL_drawn_434 (by decide) ?_
              refine r_ishr dL_drawn_436 ?_
              refine r_iconst (v := (3 : Int32)) dL_drawn_437 (by decide) ?_
              refine r_iand dL_drawn_438 ?_
              refine r_iconst (v := (3 : Int32)) dL_drawn_439 (by decide) ?_
              refine r_irem dL_drawn_440 (by decide) ?_
              obtain ⟨h441, hf⟩ := gv_of hf
              obtain ⟨K441, hK441, hf⟩ := lt_of hf
              refine m_iast dL_drawn_441 (hE 154 (by decide)) h441 ?_
              rw [hK441]
              refine r_iincv (v := (x3 + (1 : Int32))) dL_drawn_442 rfl rfl (by decide) rfl ?_
              refine r_goto (tgt := 119) dL_drawn_445 (by decide) ?_
              exact r_widen (k2 := 1) (n2 := 90) (Nat.le_of_ble_eq_true rfl) (Nat.le_of_ble_eq_true rfl) (r_mask [true, true, true, true, false] rfl (ih v243 (x3 + (1 : Int32)) K441 r hf))
            · replace hf := if_t hf c418
              refine r_iconst (v := (0 : Int32)) dL_drawn_421 (by decide) ?_
              refine r_goto (tgt := 426) dL_drawn_422 (by decide) ?_
              obtain ⟨h426, hf⟩ := gv_of hf
              obtain ⟨K426, hK426, hf⟩ := lt_of hf
              refine m_iast dL_drawn_426 (hE 154 (by decide)) h426 ?_
              rw [hK426]
              refine r_aload_n dL_drawn_427 rfl ?_
              refine r_iload dL_drawn_428 rfl ?_
              refine r_bipush (v := (14 : Int32)) dL_drawn_430 (by decide) ?_
              refine r_iadd dL_drawn_432 ?_
              refine r_iload_n dL_drawn_433 rfl ?_
              refine r_bipush (v := (28 : Int32)) dL_drawn_434 (by decide) ?_
              refine r_ishr dL_drawn_436 ?_
              refine r_iconst (v := (3 : Int32)) dL_drawn_437 (by decide) ?_
              refine r_iand dL_drawn_438 ?_
              refine r_iconst (v := (3 : Int32)) dL_drawn_439 (by decide) ?_
              refine r_irem dL_drawn_440 (by decide) ?_
              obtain ⟨h441, hf⟩ := gv_of hf
              obtain ⟨K441, hK441, hf⟩ := lt_of hf
              refine m_iast dL_drawn_441 (hE 154 (by decide)) h441 ?_
              rw [hK441]
              refine r_iincv (v := (x3 + (1 : Int32))) dL_drawn_442 rfl rfl (by decide) rfl ?_
              refine r_goto (tgt := 119) dL_drawn_445 (by decide) ?_
              exact r_widen (k2 := 1) (n2 := 90) (Nat.le_of_ble_eq_true rfl) (Nat.le_of_ble_eq_true rfl) (r_mask [true, true, true, true, false] rfl (ih v243 (x3 + (1 : Int32)) K441 r hf))
          · replace hf := if_t hf c342
            refine r_iconst (v := (1 : Int32)) dL_drawn_345 (by decide) ?_
            refine r_iload_n dL_drawn_346 rfl ?_
            refine r_bipush (v := (22 : Int32)) dL_drawn_347 (by decide) ?_
            refine r_ishr dL_drawn_349 ?_
            refine r_iconst (v := (3 : Int32)) dL_drawn_350 (by decide) ?_
            refine r_iand dL_drawn_351 ?_
            refine r_iadd dL_drawn_352 ?_
            refine r_goto (tgt := 357) dL_drawn_353 (by decide) ?_
            obtain ⟨h357, hf⟩ := gv_of hf
            obtain ⟨K357, hK357, hf⟩ := lt_of hf
            refine m_iast dL_drawn_357 (hE 154 (by decide)) h357 ?_
            rw [hK357]
            refine r_aload_n dL_drawn_358 rfl ?_
            refine r_iload dL_drawn_359 rfl ?_
            refine r_bipush (v := (11 : Int32)) dL_drawn_361 (by decide) ?_
            refine r_iadd dL_drawn_363 ?_
            refine r_iload_n dL_drawn_364 rfl ?_
            refine r_bipush (v := (24 : Int32)) dL_drawn_365 (by decide) ?_
            refine r_ishr dL_drawn_367 ?_
            refine r_iconst (v := (1 : Int32)) dL_drawn_368 (by decide) ?_
            refine r_iand dL_drawn_369 ?_
            refine r_iload_n dL_drawn_370 rfl ?_
            refine r_bipush (v := (25 : Int32)) dL_drawn_371 (by decide) ?_
            refine r_ishr dL_drawn_373 ?_
            refine r_bipush (v := (63 : Int32)) dL_drawn_374 (by decide) ?_
            refine r_iand dL_drawn_376 ?_
            refine r_bipush (v := (32 : Int32)) dL_drawn_377 (by decide) ?_
            refine r_isub dL_drawn_379 ?_
            refine r_imul dL_drawn_380 ?_
            obtain ⟨h381, hf⟩ := gv_of hf
            obtain ⟨K381, hK381, hf⟩ := lt_of hf
            refine m_iast dL_drawn_381 (hE 154 (by decide)) h381 ?_
            rw [hK381]
            refine r_aload_n dL_drawn_382 rfl ?_
            refine r_iload dL_drawn_383 rfl ?_
            refine r_bipush (v := (12 : Int32)) dL_drawn_385 (by decide) ?_
            refine r_iadd dL_drawn_387 ?_
            refine r_iload_n dL_drawn_388 rfl ?_
            refine r_bipush (v := (24 : Int32)) dL_drawn_389 (by decide) ?_
            refine r_ishr dL_drawn_391 ?_
            refine r_iconst (v := (1 : Int32)) dL_drawn_392 (by decide) ?_
            refine r_iand dL_drawn_393 ?_
            refine r_iload_n dL_drawn_394 rfl ?_
            refine r_bipush (v := (19 : Int32)) dL_drawn_395 (by decide) ?_
            refine r_ishr dL_drawn_397 ?_
            refine r_bipush (v := (63 : Int32)) dL_drawn_398 (by decide) ?_
            refine r_iand dL_drawn_400 ?_
            refine r_bipush (v := (32 : Int32)) dL_drawn_401 (by decide) ?_
            refine r_isub dL_drawn_403 ?_
            refine r_imul dL_drawn_404 ?_
            obtain ⟨h405, hf⟩ := gv_of hf
            obtain ⟨K405, hK405, hf⟩ := lt_of hf
            refine m_iast dL_drawn_405 (hE 154 (by decide)) h405 ?_
            rw [hK405]
            refine r_aload_n dL_drawn_406 rfl ?_
            refine r_iload dL_drawn_407 rfl ?_
            refine r_bipush (v := (13 : Int32)) dL_drawn_409 (by decide) ?_
            refine r_iadd dL_drawn_411 ?_
            refine r_iload_n dL_drawn_412 rfl ?_
            refine r_bipush (v := (26 : Int32)) dL_drawn_413 (by decide) ?_
            refine r_ishr dL_drawn_415 ?_
            refine r_iconst (v := (3 : Int32)) dL_drawn_416 (by decide) ?_
            refine r_iand dL_drawn_417 ?_
            refine r_if_ne (tgt := 425) dL_drawn_418 (by decide) (fun c418 => ?_) (fun c418 => ?_)
            · replace hf := if_f hf c418
              refine r_iconst (v := (1 : Int32)) dL_drawn_425 (by decide) ?_
              obtain ⟨h426, hf⟩ := gv_of hf
              obtain ⟨K426, hK426, hf⟩ := lt_of hf
              refine m_iast dL_drawn_426 (hE 154 (by decide)) h426 ?_
              rw [hK426]
              refine r_aload_n dL_drawn_427 rfl ?_
              refine r_iload dL_drawn_428 rfl ?_
              refine r_bipush (v := (14 : Int32)) dL_drawn_430 (by decide) ?_
              refine r_iadd dL_drawn_432 ?_
              refine r_iload_n dL_drawn_433 rfl ?_
              refine r_bipush (v := (28 : Int32)) dL_drawn_434 (by decide) ?_
              refine r_ishr dL_drawn_436 ?_
              refine r_iconst (v := (3 : Int32)) dL_drawn_437 (by decide) ?_
              refine r_iand dL_drawn_438 ?_
              refine r_iconst (v := (3 : Int32)) dL_drawn_439 (by decide) ?_
              refine r_irem dL_drawn_440 (by decide) ?_
              obtain ⟨h441, hf⟩ := gv_of hf
              obtain ⟨K441, hK441, hf⟩ := lt_of hf
              refine m_iast dL_drawn_441 (hE 154 (by decide)) h441 ?_
              rw [hK441]
              refine r_iincv (v := (x3 + (1 : Int32))) dL_drawn_442 rfl rfl (by decide) rfl ?_
              refine r_goto (tgt := 119) dL_drawn_445 (by decide) ?_
              exact r_widen (k2 := 1) (n2 := 90) (Nat.le_of_ble_eq_true rfl) (Nat.le_of_ble_eq_true rfl) (r_mask [true, true, true, true, false] rfl (ih v243 (x3 + (1 : Int32)) K441 r hf))
            · replace hf := if_t hf c418
              refine r_iconst (v := (0 : Int32)) dL_drawn_421 (by decide) ?_
              refine r_goto (tgt := 426) dL_drawn_422 (by decide) ?_
              obtain ⟨h426, hf⟩ := gv_of hf
              obtain ⟨K426, hK426, hf⟩ := lt_of hf
              refine m_iast dL_drawn_426 (hE 154 (by decide)) h426 ?_
              rw [hK426]
              refine r_aload_n dL_drawn_427 rfl ?_
              refine r_iload dL_drawn_428 rfl ?_
              refine r_bipush (v := (14 : Int32)) dL_drawn_430 (by decide) ?_
              refine r_iadd dL_drawn_432 ?_
              refine r_iload_n dL_drawn_433 rfl ?_
              refine r_bipush (v := (28 : Int32)) dL_drawn_434 (by decide) ?_
              refine r_ishr dL_drawn_436 ?_
              refine r_iconst (v := (3 : Int32)) dL_drawn_437 (by decide) ?_
              refine r_iand dL_drawn_438 ?_
              refine r_iconst (v := (3 : Int32)) dL_drawn_439 (by decide) ?_
              refine r_irem dL_drawn_440 (by decide) ?_
              obtain ⟨h441, hf⟩ := gv_of hf
              obtain ⟨K441, hK441, hf⟩ := lt_of hf
              refine m_iast dL_drawn_441 (hE 154 (by decide)) h441 ?_
              rw [hK441]
              refine r_iincv (v := (x3 + (1 : Int32))) dL_drawn_442 rfl rfl (by decide) rfl ?_
              refine r_goto (tgt := 119) dL_drawn_445 (by decide) ?_
              exact r_widen (k2 := 1) (n2 := 90) (Nat.le_of_ble_eq_true rfl) (Nat.le_of_ble_eq_true rfl) (r_mask [true, true, true, true, false] rfl (ih v243 (x3 + (1 : Int32)) K441 r hf))
        · replace hf := if_t hf c311
          refine r_iconst (v := (0 : Int32)) dL_drawn_314 (by decide) ?_
          refine r_goto (tgt := 327) dL_drawn_315 (by decide) ?_
          obtain ⟨h327, hf⟩ := gv_of hf
          obtain ⟨K327, hK327, hf⟩ := lt_of hf
          refine m_iast dL_drawn_327 (hE 154 (by decide)) h327 ?_
          rw [hK327]
          refine r_aload_n dL_drawn_328 rfl ?_
          refine r_iload dL_drawn_329 rfl ?_
          refine r_bipush (v := (10 : Int32)) dL_drawn_331 (by decide) ?_
          refine r_iadd dL_drawn_333 ?_
          refine r_aload_n dL_drawn_334 rfl ?_
          refine r_iload dL_drawn_335 rfl ?_
          refine r_bipush (v := (8 : Int32)) dL_drawn_337 (by decide) ?_
          refine r_iadd dL_drawn_339 ?_
          obtain ⟨h340, hf⟩ := gv_of hf
          refine m_iald dL_drawn_340 (hE 154 (by decide)) h340 ?_
          refine r_iconst (v := (1 : Int32)) dL_drawn_341 (by decide) ?_
          refine r_icmp_ne (tgt := 356) dL_drawn_342 (by decide) (fun c342 => ?_) (fun c342 => ?_)
          · replace hf := if_f hf c342
            refine r_iconst (v := (0 : Int32)) dL_drawn_356 (by decide) ?_
            obtain ⟨h357, hf⟩ := gv_of hf
            obtain ⟨K357, hK357, hf⟩ := lt_of hf
            refine m_iast dL_drawn_357 (hE 154 (by decide)) h357 ?_
            rw [hK357]
            refine r_aload_n dL_drawn_358 rfl ?_
            refine r_iload dL_drawn_359 rfl ?_
            refine r_bipush (v := (11 : Int32)) dL_drawn_361 (by decide) ?_
            refine r_iadd dL_drawn_363 ?_
            refine r_iload_n dL_drawn_364 rfl ?_
            refine r_bipush (v := (24 : Int32)) dL_drawn_365 (by decide) ?_
            refine r_ishr dL_drawn_367 ?_
            refine r_iconst (v := (1 : Int32)) dL_drawn_368 (by decide) ?_
            refine r_iand dL_drawn_369 ?_
            refine r_iload_n dL_drawn_370 rfl ?_
            refine r_bipush (v := (25 : Int32)) dL_drawn_371 (by decide) ?_
            refine r_ishr dL_drawn_373 ?_
            refine r_bipush (v := (63 : Int32)) dL_drawn_374 (by decide) ?_
            refine r_iand dL_drawn_376 ?_
            refine r_bipush (v := (32 : Int32)) dL_drawn_377 (by decide) ?_
            refine r_isub dL_drawn_379 ?_
            refine r_imul dL_drawn_380 ?_
            obtain ⟨h381, hf⟩ := gv_of hf
            obtain ⟨K381, hK381, hf⟩ := lt_of hf
            refine m_iast dL_drawn_381 (hE 154 (by decide)) h381 ?_
            rw [hK381]
            refine r_aload_n dL_drawn_382 rfl ?_
            refine r_iload dL_drawn_383 rfl ?_
            refine r_bipush (v := (12 : Int32)) dL_drawn_385 (by decide) ?_
            refine r_iadd dL_drawn_387 ?_
            refine r_iload_n dL_drawn_388 rfl ?_
            refine r_bipush (v := (24 : Int32)) dL_drawn_389 (by decide) ?_
            refine r_ishr dL_drawn_391 ?_
            refine r_iconst (v := (1 : Int32)) dL_drawn_392 (by decide) ?_
            refine r_iand dL_drawn_393 ?_
            refine r_iload_n dL_drawn_394 rfl ?_
            refine r_bipush (v := (19 : Int32)) dL_drawn_395 (by decide) ?_
            refine r_ishr dL_drawn_397 ?_
            refine r_bipush (v := (63 : Int32)) dL_drawn_398 (by decide) ?_
            refine r_iand dL_drawn_400 ?_
            refine r_bipush (v := (32 : Int32)) dL_drawn_401 (by decide) ?_
            refine r_isub dL_drawn_403 ?_
            refine r_imul dL_drawn_404 ?_
            obtain ⟨h405, hf⟩ := gv_of hf
            obtain ⟨K405, hK405, hf⟩ := lt_of hf
            refine m_iast dL_drawn_405 (hE 154 (by decide)) h405 ?_
            rw [hK405]
            refine r_aload_n dL_drawn_406 rfl ?_
            refine r_iload dL_drawn_407 rfl ?_
            refine r_bipush (v := (13 : Int32)) dL_drawn_409 (by decide) ?_
            refine r_iadd dL_drawn_411 ?_
            refine r_iload_n dL_drawn_412 rfl ?_
            refine r_bipush (v := (26 : Int32)) dL_drawn_413 (by decide) ?_
            refine r_ishr dL_drawn_415 ?_
            refine r_iconst (v := (3 : Int32)) dL_drawn_416 (by decide) ?_
            refine r_iand dL_drawn_417 ?_
            refine r_if_ne (tgt := 425) dL_drawn_418 (by decide) (fun c418 => ?_) (fun c418 => ?_)
            · replace hf := if_f hf c418
              refine r_iconst (v := (1 : Int32)) dL_drawn_425 (by decide) ?_
              obtain ⟨h426, hf⟩ := gv_of hf
              obtain ⟨K426, hK426, hf⟩ := lt_of hf
              refine m_iast dL_drawn_426 (hE 154 (by decide)) h426 ?_
              rw [hK426]
              refine r_aload_n dL_drawn_427 rfl ?_
              refine r_iload dL_drawn_428 rfl ?_
              refine r_bipush (v := (14 : Int32)) dL_drawn_430 (by decide) ?_
              refine r_iadd dL_drawn_432 ?_
              refine r_iload_n dL_drawn_433 rfl ?_
              refine r_bipush (v := (28 : Int32)) dL_drawn_434 (by decide) ?_
              refine r_ishr dL_drawn_436 ?_
              refine r_iconst (v := (3 : Int32)) dL_drawn_437 (by decide) ?_
              refine r_iand dL_drawn_438 ?_
              refine r_iconst (v := (3 : Int32)) dL_drawn_439 (by decide) ?_
              refine r_irem dL_drawn_440 (by decide) ?_
              obtain ⟨h441, hf⟩ := gv_of hf
              obtain ⟨K441, hK441, hf⟩ := lt_of hf
              refine m_iast dL_drawn_441 (hE 154 (by decide)) h441 ?_
              rw [hK441]
              refine r_iincv (v := (x3 + (1 : Int32))) dL_drawn_442 rfl rfl (by decide) rfl ?_
              refine r_goto (tgt := 119) dL_drawn_445 (by decide) ?_
              exact r_widen (k2 := 1) (n2 := 90) (Nat.le_of_ble_eq_true rfl) (Nat.le_of_ble_eq_true rfl) (r_mask [true, true, true, true, false] rfl (ih v243 (x3 + (1 : Int32)) K441 r hf))
            · replace hf := if_t hf c418
              refine r_iconst (v := (0 : Int32)) dL_drawn_421 (by decide) ?_
              refine r_goto (tgt := 426) dL_drawn_422 (by decide) ?_
              obtain ⟨h426, hf⟩ := gv_of hf
              obtain ⟨K426, hK426, hf⟩ := lt_of hf
              refine m_iast dL_drawn_426 (hE 154 (by decide)) h426 ?_
              rw [hK426]
              refine r_aload_n dL_drawn_427 rfl ?_
              refine r_iload dL_drawn_428 rfl ?_
              refine r_bipush (v := (14 : Int32)) dL_drawn_430 (by decide) ?_
              refine r_iadd dL_drawn_432 ?_
              refine r_iload_n dL_drawn_433 rfl ?_
              refine r_bipush (v := (28 : Int32)) dL_drawn_434 (by decide) ?_
              refine r_ishr dL_drawn_436 ?_
              refine r_iconst (v := (3 : Int32)) dL_drawn_437 (by decide) ?_
              refine r_iand dL_drawn_438 ?_
              refine r_iconst (v := (3 : Int32)) dL_drawn_439 (by decide) ?_
              refine r_irem dL_drawn_440 (by decide) ?_
              obtain ⟨h441, hf⟩ := gv_of hf
              obtain ⟨K441, hK441, hf⟩ := lt_of hf
              refine m_iast dL_drawn_441 (hE 154 (by decide)) h441 ?_
              rw [hK441]
              refine r_iincv (v := (x3 + (1 : Int32))) dL_drawn_442 rfl rfl (by decide) rfl ?_
              refine r_goto (tgt := 119) dL_drawn_445 (by decide) ?_
              exact r_widen (k2 := 1) (n2 := 90) (Nat.le_of_ble_eq_true rfl) (Nat.le_of_ble_eq_true rfl) (r_mask [true, true, true, true, false] rfl (ih v243 (x3 + (1 : Int32)) K441 r hf))
          · replace hf := if_t hf c342
            refine r_iconst (v := (1 : Int32)) dL_drawn_345 (by decide) ?_
            refine r_iload_n dL_drawn_346 rfl ?_
            refine r_bipush (v := (22 : Int32)) dL_drawn_347 (by decide) ?_
            refine r_ishr dL_drawn_349 ?_
            refine r_iconst (v := (3 : Int32)) dL_drawn_350 (by decide) ?_
            refine r_iand dL_drawn_351 ?_
            refine r_iadd dL_drawn_352 ?_
            refine r_goto (tgt := 357) dL_drawn_353 (by decide) ?_
            obtain ⟨h357, hf⟩ := gv_of hf
            obtain ⟨K357, hK357, hf⟩ := lt_of hf
            refine m_iast dL_drawn_357 (hE 154 (by decide)) h357 ?_
            rw [hK357]
            refine r_aload_n dL_drawn_358 rfl ?_
            refine r_iload dL_drawn_359 rfl ?_
            refine r_bipush (v := (11 : Int32)) dL_drawn_361 (by decide) ?_
            refine r_iadd dL_drawn_363 ?_
            refine r_iload_n dL_drawn_364 rfl ?_
            refine r_bipush (v := (24 : Int32)) dL_drawn_365 (by decide) ?_
            refine r_ishr dL_drawn_367 ?_
            refine r_iconst (v := (1 : Int32)) dL_drawn_368 (by decide) ?_
            refine r_iand dL_drawn_369 ?_
            refine r_iload_n dL_drawn_370 rfl ?_
            refine r_bipush (v := (25 : Int32)) dL_drawn_371 (by decide) ?_
            refine r_ishr dL_drawn_373 ?_
            refine r_bipush (v := (63 : Int32)) dL_drawn_374 (by decide) ?_
            refine r_iand dL_drawn_376 ?_
            refine r_bipush (v := (32 : Int32)) dL_drawn_377 (by decide) ?_
            refine r_isub dL_drawn_379 ?_
            refine r_imul dL_drawn_380 ?_
            obtain ⟨h381, hf⟩ := gv_of hf
            obtain ⟨K381, hK381, hf⟩ := lt_of hf
            refine m_iast dL_drawn_381 (hE 154 (by decide)) h381 ?_
            rw [hK381]
            refine r_aload_n dL_drawn_382 rfl ?_
            refine r_iload dL_drawn_383 rfl ?_
            refine r_bipush (v := (12 : Int32)) dL_drawn_385 (by decide) ?_
            refine r_iadd dL_drawn_387 ?_
            refine r_iload_n dL_drawn_388 rfl ?_
            refine r_bipush (v := (24 : Int32)) dL_drawn_389 (by decide) ?_
            refine r_ishr dL_drawn_391 ?_
            refine r_iconst (v := (1 : Int32)) dL_drawn_392 (by decide) ?_
            refine r_iand dL_drawn_393 ?_
            refine r_iload_n dL_drawn_394 rfl ?_
            refine r_bipush (v := (19 : Int32)) dL_drawn_395 (by decide) ?_
            refine r_ishr dL_drawn_397 ?_
            refine r_bipush (v := (63 : Int32)) dL_drawn_398 (by decide) ?_
            refine r_iand dL_drawn_400 ?_
            refine r_bipush (v := (32 : Int32)) dL_drawn_401 (by decide) ?_
            refine r_isub dL_drawn_403 ?_
            refine r_imul dL_drawn_404 ?_
            obtain ⟨h405, hf⟩ := gv_of hf
            obtain ⟨K405, hK405, hf⟩ := lt_of hf
            refine m_iast dL_drawn_405 (hE 154 (by decide)) h405 ?_
            rw [hK405]
            refine r_aload_n dL_drawn_406 rfl ?_
            refine r_iload dL_drawn_407 rfl ?_
            refine r_bipush (v := (13 : Int32)) dL_drawn_409 (by decide) ?_
            refine r_iadd dL_drawn_411 ?_
            refine r_iload_n dL_drawn_412 rfl ?_
            refine r_bipush (v := (26 : Int32)) dL_drawn_413 (by decide) ?_
            refine r_ishr dL_drawn_415 ?_
            refine r_iconst (v := (3 : Int32)) dL_drawn_416 (by decide) ?_
            refine r_iand dL_drawn_417 ?_
            refine r_if_ne (tgt := 425) dL_drawn_418 (by decide) (fun c418 => ?_) (fun c418 => ?_)
            · replace hf := if_f hf c418
              refine r_iconst (v := (1 : Int32)) dL_drawn_425 (by decide) ?_
              obtain ⟨h426, hf⟩ := gv_of hf
              obtain ⟨K426, hK426, hf⟩ := lt_of hf
              refine m_iast dL_drawn_426 (hE 154 (by decide)) h426 ?_
              rw [hK426]
              refine r_aload_n dL_drawn_427 rfl ?_
              refine r_iload dL_drawn_428 rfl ?_
              refine r_bipush (v := (14 : Int32)) dL_drawn_430 (by decide) ?_
              refine r_iadd dL_drawn_432 ?_
              refine r_iload_n dL_drawn_433 rfl ?_
              refine r_bipush (v := (28 : Int32)) dL_drawn_434 (by decide) ?_
              refine r_ishr dL_drawn_436 ?_
              refine r_iconst (v := (3 : Int32)) dL_drawn_437 (by decide) ?_
              refine r_iand dL_drawn_438 ?_
              refine r_iconst (v := (3 : Int32)) dL_drawn_439 (by decide) ?_
              refine r_irem dL_drawn_440 (by decide) ?_
              obtain ⟨h441, hf⟩ := gv_of hf
              obtain ⟨K441, hK441, hf⟩ := lt_of hf
              refine m_iast dL_drawn_441 (hE 154 (by decide)) h441 ?_
              rw [hK441]
              refine r_iincv (v := (x3 + (1 : Int32))) dL_drawn_442 rfl rfl (by decide) rfl ?_
              refine r_goto (tgt := 119) dL_drawn_445 (by decide) ?_
              exact r_widen (k2 := 1) (n2 := 90) (Nat.le_of_ble_eq_true rfl) (Nat.le_of_ble_eq_true rfl) (r_mask [true, true, true, true, false] rfl (ih v243 (x3 + (1 : Int32)) K441 r hf))
            · replace hf := if_t hf c418
              refine r_iconst (v := (0 : Int32)) dL_drawn_421 (by decide) ?_
              refine r_goto (tgt := 426) dL_drawn_422 (by decide) ?_
              obtain ⟨h426, hf⟩ := gv_of hf
              obtain ⟨K426, hK426, hf⟩ := lt_of hf
              refine m_iast dL_drawn_426 (hE 154 (by decide)) h426 ?_
              rw [hK426]
              refine r_aload_n dL_drawn_427 rfl ?_
              refine r_iload dL_drawn_428 rfl ?_
              refine r_bipush (v := (14 : Int32)) dL_drawn_430 (by decide) ?_
              refine r_iadd dL_drawn_432 ?_
              refine r_iload_n dL_drawn_433 rfl ?_
              refine r_bipush (v := (28 : Int32)) dL_drawn_434 (by decide) ?_
              refine r_ishr dL_drawn_436 ?_
              refine r_iconst (v := (3 : Int32)) dL_drawn_437 (by decide) ?_
              refine r_iand dL_drawn_438 ?_
              refine r_iconst (v := (3 : Int32)) dL_drawn_439 (by decide) ?_
              refine r_irem dL_drawn_440 (by decide) ?_
              obtain ⟨h441, hf⟩ := gv_of hf
              obtain ⟨K441, hK441, hf⟩ := lt_of hf
              refine m_iast dL_drawn_441 (hE 154 (by decide)) h441 ?_
              rw [hK441]
              refine r_iincv (v := (x3 + (1 : Int32))) dL_drawn_442 rfl rfl (by decide) rfl ?_
              refine r_goto (tgt := 119) dL_drawn_445 (by decide) ?_
              exact r_widen (k2 := 1) (n2 := 90) (Nat.le_of_ble_eq_true rfl) (Nat.le_of_ble_eq_true rfl) (r_mask [true, true, true, true, false] rfl (ih v243 (x3 + (1 : Int32)) K441 r hf))
def F_L_drawn (n : Nat) (zS : Nat) (S : Nat → Int32) (K : gI) : Option (gI) := bd (F_L_cell n zS S (0 : Int32)) (fun v7 => lt (sI K 154 1 ((1 : Int32) + (v7 &&& (7 : Int32)))) (fun K19 => lt (sI K19 154 2 ((1 : Int32) + (((v7 >>> ((3 : Int32) &&& 31)) &&& (7 : Int32)) - ((v7 >>> ((3 : Int32) &&& 31)) &&& (7 : Int32)) / (5 : Int32) * (5 : Int32)))) (fun K32 => lt (sI K32 154 3 (((v7 >>> ((6 : Int32) &&& 31)) &&& (1 : Int32)) * ((v7 >>> ((7 : Int32) &&& 31)) &&& (2047 : Int32)))) (fun K50 => (if ((v7 >>> ((18 : Int32) &&& 31)) &&& (3 : Int32)) = 0 then lt (sI K50 154 4 (-1 : Int32)) (fun K77 => (if 0 ≤ (K77 154 4) then lt (sI K77 154 5 ((v7 >>> ((23 : Int32) &&& 31)) &&& (((1 : Int32) <<< ((K77 154 2) &&& 31)) - (1 : Int32)))) (fun K102 => lt (sI K102 154 6 ((1 : Int32) + (((v7 >>> ((28 : Int32) &&& 31)) &&& (3 : Int32)) - ((v7 >>> ((28 : Int32) &&& 31)) &&& (3 : Int32)) / (3 : Int32) * (3 : Int32)))) (fun K116 => L_L_drawn n zS S n 0 v7 (0 : Int32) K116)) else lt (sI K77 154 5 (0 : Int32)) (fun K102 => lt (sI K102 154 6 ((1 : Int32) + (((v7 >>> ((28 : Int32) &&& 31)) &&& (3 : Int32)) - ((v7 >>> ((28 : Int32) &&& 31)) &&& (3 : Int32)) / (3 : Int32) * (3 : Int32)))) (fun K116 => L_L_drawn n zS S n 0 v7 (0 : Int32) K116)))) else gd (¬ (K50 154 1) = 0) (lt (sI K50 154 4 (((v7 >>> ((20 : Int32) &&& 31)) &&& (7 : Int32)) - ((v7 >>> ((20 : Int32) &&& 31)) &&& (7 : Int32)) / (K50 154 1) * (K50 154 1))) (fun K77 => (if 0 ≤ (K77 154 4) then lt (sI K77 154 5 ((v7 >>> ((23 : Int32) &&& 31)) &&& (((1 : Int32) <<< ((K77 154 2) &&& 31)) - (1 : Int32)))) (fun K102 => lt (sI K102 154 6 ((1 : Int32) + (((v7 >>> ((28 : Int32) &&& 31)) &&& (3 : Int32)) - ((v7 >>> ((28 : Int32) &&& 31)) &&& (3 : Int32)) / (3 : Int32) * (3 : Int32)))) (fun K116 => L_L_drawn n zS S n 0 v7 (0 : Int32) K116)) else lt (sI K77 154 5 (0 : Int32)) (fun K102 => lt (sI K102 154 6 ((1 : Int32) + (((v7 >>> ((28 : Int32) &&& 31)) &&& (3 : Int32)) - ((v7 >>> ((28 : Int32) &&& 31)) &&& (3 : Int32)) / (3 : Int32) * (3 : Int32)))) (fun K116 => L_L_drawn n zS S n 0 v7 (0 : Int32) K116))))))))))
set_option maxHeartbeats 4000000 in
set_option maxRecDepth 100000 in
theorem at_L_drawn {G : gG} {lay : Nat → Nat × Nat} {T0 T1 : Nat} {Dd : Nat → Nat → UInt64} {I : gI} {J : gJ} {K : gI} {N : gJ} {sz n : Nat} {zS : Nat} {S : Nat → Int32} (hs : G.1.stackTraces = false) (hE : gLay lay) (hS : gScr G zS S) {r : gI} (hf : F_L_drawn n zS S K = some r) : gAt G mL_drawn (gQp G mL_drawn (gR (some (.ref (G.2.2.1 + 154))) (fO G (lay, T0, T1, Dd) I J r N) sz)) 5 [some (.ref (gsA G)), some (.ref (G.2.2.1 + 154)), none, none, none] [] (fO G (lay, T0, T1, Dd) I J K N) sz 1 90 := by
  unfold F_L_drawn at hf
  refine r_aload_n dL_drawn_5 rfl ?_
  refine r_iconst (v := (0 : Int32)) dL_drawn_6 (by decide) ?_
  obtain ⟨v7, hc7, hf⟩ := bd_of hf
  refine r_cSi (rest := []) (ct_L_cell hs hE hS hc7) dL_drawn_7 wd_777 zL_cell wd_778 rfl  rfl rfl ⟨Nat.le_of_ble_eq_true rfl, Nat.le_of_ble_eq_true rfl⟩ (Nat.le_of_ble_eq_true rfl) ⟨Nat.le_of_ble_eq_true rfl, Nat.le_of_ble_eq_true rfl⟩ ?_
  refine r_istore_n dL_drawn_10 (by decide) rfl ?_
  refine r_aload_n dL_drawn_11 rfl ?_
  refine r_iconst (v := (1 : Int32)) dL_drawn_12 (by decide) ?_
  refine r_iconst (v := (1 : Int32)) dL_drawn_13 (by decide) ?_
  refine r_iload_n dL_drawn_14 rfl ?_
  refine r_bipush (v := (7 : Int32)) dL_drawn_15 (by decide) ?_
  refine r_iand dL_drawn_17 ?_
  refine r_iadd dL_drawn_18 ?_
  obtain ⟨K19, hK19, hf⟩ := lt_of hf
  refine m_iastc 1 dL_drawn_19 (hE 154 (by decide)) (vpc rfl) rfl ?_
  rw [hK19]
  refine r_aload_n dL_drawn_20 rfl ?_
  refine r_iconst (v := (2 : Int32)) dL_drawn_21 (by decide) ?_
  refine r_iconst (v := (1 : Int32)) dL_drawn_22 (by decide) ?_
  refine r_iload_n dL_drawn_23 rfl ?_
  refine r_iconst (v := (3 : Int32)) dL_drawn_24 (by decide) ?_
  refine r_ishr dL_drawn_25 ?_
  refine r_bipush (v := (7 : Int32)) dL_drawn_26 (by decide) ?_
  refine r_iand dL_drawn_28 ?_
  refine r_iconst (v := (5 : Int32)) dL_drawn_29 (by decide) ?_
  refine r_irem dL_drawn_30 (by decide) ?_
  refine r_iadd dL_drawn_31 ?_
  obtain ⟨K32, hK32, hf⟩ := lt_of hf
  refine m_iastc 2 dL_drawn_32 (hE 154 (by decide)) (vpc rfl) rfl ?_
  rw [hK32]
  refine r_aload_n dL_drawn_33 rfl ?_
  refine r_iconst (v := (3 : Int32)) dL_drawn_34 (by decide) ?_
  refine r_iload_n dL_drawn_35 rfl ?_
  refine r_bipush (v := (6 : Int32)) dL_drawn_36 (by decide) ?_
  refine r_ishr dL_drawn_38 ?_
  refine r_iconst (v := (1 : Int32)) dL_drawn_39 (by decide) ?_
  refine r_iand dL_drawn_40 ?_
  refine r_iload_n dL_drawn_41 rfl ?_
  refine r_bipush (v := (7 : Int32)) dL_drawn_42 (by decide) ?_
  refine r_ishr dL_drawn_44 ?_
  refine r_sipush (v := (2047 : Int32)) dL_drawn_45 (by decide) ?_
  refine r_iand dL_drawn_48 ?_
  refine r_imul dL_drawn_49 ?_
  obtain ⟨K50, hK50, hf⟩ := lt_of hf
  refine m_iastc 3 dL_drawn_50 (hE 154 (by decide)) (vpc rfl) rfl ?_
  rw [hK50]
  refine r_aload_n dL_drawn_51 rfl ?_
  refine r_iconst (v := (4 : Int32)) dL_drawn_52 (by decide) ?_
  refine r_iload_n dL_drawn_53 rfl ?_
  refine r_bipush (v := (18 : Int32)) dL_drawn_54 (by decide) ?_
  refine r_ishr dL_drawn_56 ?_
  refine r_iconst (v := (3 : Int32)) dL_drawn_57 (by decide) ?_
  refine r_iand dL_drawn_58 ?_
  refine r_if_ne (tgt := 66) dL_drawn_59 (by decide) (fun c59 => ?_) (fun c59 => ?_)
  · replace hf := if_f hf c59
    refine r_iload_n dL_drawn_66 rfl ?_
    refine r_bipush (v := (20 : Int32)) dL_drawn_67 (by decide) ?_
    refine r_ishr dL_drawn_69 ?_
    refine r_bipush (v := (7 : Int32)) dL_drawn_70 (by decide) ?_
    refine r_iand dL_drawn_72 ?_
    refine r_aload_n dL_drawn_73 rfl ?_
    refine r_iconst (v := (1 : Int32)) dL_drawn_74 (by decide) ?_
    refine m_ialdc 1 dL_drawn_75 (hE 154 (by decide)) (vpc rfl) rfl ?_
    obtain ⟨h76, hf⟩ := gd_of hf
    refine r_irem dL_drawn_76 h76 ?_
    obtain ⟨K77, hK77, hf⟩ := lt_of hf
    refine m_iastc 4 dL_drawn_77 (hE 154 (by decide)) (vpc rfl) rfl ?_
    rw [hK77]
    refine r_aload_n dL_drawn_78 rfl ?_
    refine r_iconst (v := (5 : Int32)) dL_drawn_79 (by decide) ?_
    refine r_aload_n dL_drawn_80 rfl ?_
    refine r_iconst (v := (4 : Int32)) dL_drawn_81 (by decide) ?_
    refine m_ialdc 4 dL_drawn_82 (hE 154 (by decide)) (vpc rfl) rfl ?_
    refine r_if_ge (tgt := 90) dL_drawn_83 (by decide) (fun c83 => ?_) (fun c83 => ?_)
    · replace hf := if_t hf c83
      refine r_iload_n dL_drawn_90 rfl ?_
      refine r_bipush (v := (23 : Int32)) dL_drawn_91 (by decide) ?_
      refine r_ishr dL_drawn_93 ?_
      refine r_iconst (v := (1 : Int32)) dL_drawn_94 (by decide) ?_
      refine r_aload_n dL_drawn_95 rfl ?_
      refine r_iconst (v := (2 : Int32)) dL_drawn_96 (by decide) ?_
      refine m_ialdc 2 dL_drawn_97 (hE 154 (by decide)) (vpc rfl) rfl ?_
      refine r_ishl dL_drawn_98 ?_
      refine r_iconst (v := (1 : Int32)) dL_drawn_99 (by decide) ?_
      refine r_isub dL_drawn_100 ?_
      refine r_iand dL_drawn_101 ?_
      obtain ⟨K102, hK102, hf⟩ := lt_of hf
      refine m_iastc 5 dL_drawn_102 (hE 154 (by decide)) (vpc rfl) rfl ?_
      rw [hK102]
      refine r_aload_n dL_drawn_103 rfl ?_
      refine r_bipush (v := (6 : Int32)) dL_drawn_104 (by decide) ?_
      refine r_iconst (v := (1 : Int32)) dL_drawn_106 (by decide) ?_
      refine r_iload_n dL_drawn_107 rfl ?_
      refine r_bipush (v := (28 : Int32)) dL_drawn_108 (by decide) ?_
      refine r_ishr dL_drawn_110 ?_
      refine r_iconst (v := (3 : Int32)) dL_drawn_111 (by decide) ?_
      refine r_iand dL_drawn_112 ?_
      refine r_iconst (v := (3 : Int32)) dL_drawn_113 (by decide) ?_
      refine r_irem dL_drawn_114 (by decide) ?_
      refine r_iadd dL_drawn_115 ?_
      obtain ⟨K116, hK116, hf⟩ := lt_of hf
      refine m_iastc 6 dL_drawn_116 (hE 154 (by decide)) (vpc rfl) rfl ?_
      rw [hK116]
      refine r_iconst (v := (0 : Int32)) dL_drawn_117 (by decide) ?_
      refine r_istore_n dL_drawn_118 (by decide) rfl ?_
      exact r_widen (k2 := 1) (n2 := 90) (Nat.le_of_ble_eq_true rfl) (Nat.le_of_ble_eq_true rfl) (r_mask [true, true, true, true, false] rfl ((cL_L_drawn hs hE hS n) v7 (0 : Int32) K116 r hf))
    · replace hf := if_f hf c83
      refine r_iconst (v := (0 : Int32)) dL_drawn_86 (by decide) ?_
      refine r_goto (tgt := 102) dL_drawn_87 (by decide) ?_
      obtain ⟨K102, hK102, hf⟩ := lt_of hf
      refine m_iastc 5 dL_drawn_102 (hE 154 (by decide)) (vpc rfl) rfl ?_
      rw [hK102]
      refine r_aload_n dL_drawn_103 rfl ?_
      refine r_bipush (v := (6 : Int32)) dL_drawn_104 (by decide) ?_
      refine r_iconst (v := (1 : Int32)) dL_drawn_106 (by decide) ?_
      refine r_iload_n dL_drawn_107 rfl ?_
      refine r_bipush (v := (28 : Int32)) dL_drawn_108 (by decide) ?_
      refine r_ishr dL_drawn_110 ?_
      refine r_iconst (v := (3 : Int32)) dL_drawn_111 (by decide) ?_
      refine r_iand dL_drawn_112 ?_
      refine r_iconst (v := (3 : Int32)) dL_drawn_113 (by decide) ?_
      refine r_irem dL_drawn_114 (by decide) ?_
      refine r_iadd dL_drawn_115 ?_
      obtain ⟨K116, hK116, hf⟩ := lt_of hf
      refine m_iastc 6 dL_drawn_116 (hE 154 (by decide)) (vpc rfl) rfl ?_
      rw [hK116]
      refine r_iconst (v := (0 : Int32)) dL_drawn_117 (by decide) ?_
      refine r_istore_n dL_drawn_118 (by decide) rfl ?_
      exact r_widen (k2 := 1) (n2 := 90) (Nat.le_of_ble_eq_true rfl) (Nat.le_of_ble_eq_true rfl) (r_mask [true, true, true, true, false] rfl ((cL_L_drawn hs hE hS n) v7 (0 : Int32) K116 r hf))
  · replace hf := if_t hf c59
    refine r_iconst (v := (-1 : Int32)) dL_drawn_62 (by decide) ?_
    refine r_goto (tgt := 77) dL_drawn_63 (by decide) ?_
    obtain ⟨K77, hK77, hf⟩ := lt_of hf
    refine m_iastc 4 dL_drawn_77 (hE 154 (by decide)) (vpc rfl) rfl ?_
    rw [hK77]
    refine r_aload_n dL_drawn_78 rfl ?_
    refine r_iconst (v := (5 : Int32)) dL_drawn_79 (by decide) ?_
    refine r_aload_n dL_drawn_80 rfl ?_
    refine r_iconst (v := (4 : Int32)) dL_drawn_81 (by decide) ?_
    refine m_ialdc 4 dL_drawn_82 (hE 154 (by decide)) (vpc rfl) rfl ?_
    refine r_if_ge (tgt := 90) dL_drawn_83 (by decide) (fun c83 => ?_) (fun c83 => ?_)
    · replace hf := if_t hf c83
      refine r_iload_n dL_drawn_90 rfl ?_
      refine r_bipush (v := (23 : Int32)) dL_drawn_91 (by decide) ?_
      refine r_ishr dL_drawn_93 ?_
      refine r_iconst (v := (1 : Int32)) dL_drawn_94 (by decide) ?_
      refine r_aload_n dL_drawn_95 rfl ?_
      refine r_iconst (v := (2 : Int32)) dL_drawn_96 (by decide) ?_
      refine m_ialdc 2 dL_drawn_97 (hE 154 (by decide)) (vpc rfl) rfl ?_
      refine r_ishl dL_drawn_98 ?_
      refine r_iconst (v := (1 : Int32)) dL_drawn_99 (by decide) ?_
      refine r_isub dL_drawn_100 ?_
      refine r_iand dL_drawn_101 ?_
      obtain ⟨K102, hK102, hf⟩ := lt_of hf
      refine m_iastc 5 dL_drawn_102 (hE 154 (by decide)) (vpc rfl) rfl ?_
      rw [hK102]
      refine r_aload_n dL_drawn_103 rfl ?_
      refine r_bipush (v := (6 : Int32)) dL_drawn_104 (by decide) ?_
      refine r_iconst (v := (1 : Int32)) dL_drawn_106 (by decide) ?_
      refine r_iload_n dL_drawn_107 rfl ?_
      refine r_bipush (v := (28 : Int32)) dL_drawn_108 (by decide) ?_
      refine r_ishr dL_drawn_110 ?_
      refine r_iconst (v := (3 : Int32)) dL_drawn_111 (by decide) ?_
      refine r_iand dL_drawn_112 ?_
      refine r_iconst (v := (3 : Int32)) dL_drawn_113 (by decide) ?_
      refine r_irem dL_drawn_114 (by decide) ?_
      refine r_iadd dL_drawn_115 ?_
      obtain ⟨K116, hK116, hf⟩ := lt_of hf
      refine m_iastc 6 dL_drawn_116 (hE 154 (by decide)) (vpc rfl) rfl ?_
      rw [hK116]
      refine r_iconst (v := (0 : Int32)) dL_drawn_117 (by decide) ?_
      refine r_istore_n dL_drawn_118 (by decide) rfl ?_
      exact r_widen (k2 := 1) (n2 := 90) (Nat.le_of_ble_eq_true rfl) (Nat.le_of_ble_eq_true rfl) (r_mask [true, true, true, true, false] rfl ((cL_L_drawn hs hE hS n) v7 (0 : Int32) K116 r hf))
    · replace hf := if_f hf c83
      refine r_iconst (v := (0 : Int32)) dL_drawn_86 (by decide) ?_
      refine r_goto (tgt := 102) dL_drawn_87 (by decide) ?_
      obtain ⟨K102, hK102, hf⟩ := lt_of hf
      refine m_iastc 5 dL_drawn_102 (hE 154 (by decide)) (vpc rfl) rfl ?_
      rw [hK102]
      refine r_aload_n dL_drawn_103 rfl ?_
      refine r_bipush (v := (6 : Int32)) dL_drawn_104 (by decide) ?_
      refine r_iconst (v := (1 : Int32)) dL_drawn_106 (by decide) ?_
      refine r_iload_n dL_drawn_107 rfl ?_
      refine r_bipush (v := (28 : Int32)) dL_drawn_108 (by decide) ?_
      refine r_ishr dL_drawn_110 ?_
      refine r_iconst (v := (3 : Int32)) dL_drawn_111 (by decide) ?_
      refine r_iand dL_drawn_112 ?_
      refine r_iconst (v := (3 : Int32)) dL_drawn_113 (by decide) ?_
      refine r_irem dL_drawn_114 (by decide) ?_
      refine r_iadd dL_drawn_115 ?_
      obtain ⟨K116, hK116, hf⟩ := lt_of hf
      refine m_iastc 6 dL_drawn_116 (hE 154 (by decide)) (vpc rfl) rfl ?_
      rw [hK116]
      refine r_iconst (v := (0 : Int32)) dL_drawn_117 (by decide) ?_
      refine r_istore_n dL_drawn_118 (by decide) rfl ?_
      exact r_widen (k2 := 1) (n2 := 90) (Nat.le_of_ble_eq_true rfl) (Nat.le_of_ble_eq_true rfl) (r_mask [true, true, true, true, false] rfl ((cL_L_drawn hs hE hS n) v7 (0 : Int32) K116 r hf))
def F_L_part (n : Nat) (T0 T1 : Nat) (I : gI) (K : gI) (a2 : Int32) : Option (gI × gI) := bd (F_L_put n T0 T1 I K (32 : Int32)) (fun v4 => bd (F_L_number n T0 T1 v4.1 v4.2 a2) (fun v10 => some (v10.1, v10.2)))
set_option maxHeartbeats 4000000 in
set_option maxRecDepth 100000 in
theorem ct_L_part {G : gG} {lay : Nat → Nat × Nat} {T0 T1 : Nat} {Dd : Nat → Nat → UInt64} {I : gI} {J : gJ} {K : gI} {N : gJ} {sz n : Nat} {a2 : Int32} (hs : G.1.stackTraces = false) (hE : gLay lay) (hT0 : gTank lay T0) (hT1 : gTank lay T1) {r : gI × gI} (hf : F_L_part n T0 T1 I K a2 = some r) : gCt G mL_part [.ref (G.2.2.1 + 0), .ref (G.2.2.1 + 153), .int a2] (fO G (lay, T0, T1, Dd) I J K N) sz (gR none (fO G (lay, T0, T1, Dd) r.1 J r.2 N) sz) := by
  unfold F_L_part at hf
  refine gCt.of [some (.ref (G.2.2.1 + 0)), some (.ref (G.2.2.1 + 153)), some (.int a2)] (by decide +kernel) rfl hs rfl (Nat.le_of_ble_eq_true rfl) ?_
  refine r_aload_n dL_part_0 rfl ?_
  refine r_aload_n dL_part_1 rfl ?_
  refine r_bipush (v := (32 : Int32)) dL_part_2 (by decide) ?_
  obtain ⟨v4, hc4, hf⟩ := bd_of hf
  refine r_cSv (rest := []) (ct_L_put hs hE hT0 hT1 hc4) dL_part_4 wd_794 zL_put wd_795 rfl  rfl rfl ⟨Nat.le_of_ble_eq_true rfl, Nat.le_of_ble_eq_true rfl⟩ (Nat.le_of_ble_eq_true rfl) ⟨Nat.le_of_ble_eq_true rfl, Nat.le_of_ble_eq_true rfl⟩ ?_
  refine r_aload_n dL_part_7 rfl ?_
  refine r_aload_n dL_part_8 rfl ?_
  refine r_iload_n dL_part_9 rfl ?_
  obtain ⟨v10, hc10, hf⟩ := bd_of hf
  refine r_cSv (rest := []) (ct_L_number hs hE hT0 hT1 hc10) dL_part_10 wd_812 zL_number wd_813 rfl  rfl rfl ⟨Nat.le_of_ble_eq_true rfl, Nat.le_of_ble_eq_true rfl⟩ (Nat.le_of_ble_eq_true rfl) ⟨Nat.le_of_ble_eq_true rfl, Nat.le_of_ble_eq_true rfl⟩ ?_
  have hr := Option.some.inj hf
  subst hr
  exact r_vret dL_part_13 rfl (Nat.le_of_ble_eq_true rfl) (Nat.le_of_ble_eq_true rfl) ⟨rfl, rfl, rfl⟩
def L_L_furniture (n : Nat) (T0 T1 : Nat) : Nat → Nat → Int32 → Int32 → gI → gI → Option (gI × gI)
  | 0, _, _, _, _, _ => none
  | j + 1, 0, x3, x4, I, K => (if (4 : Int32) ≤ x3 then L_L_furniture n T0 T1 j 1 (0 : Int32) 0 I K else gv ((60 : Int32) + x3) 90 ((if (K 154 (Int32.toNatClampNeg ((60 : Int32) + x3))) = 0 then L_L_furniture n T0 T1 j 0 (x3 + (1 : Int32)) 0 I K else bd (F_L_say n T0 T1 I K (16727323285024626 : Int64)) (fun v24 => (if x3 = 0 then bd (F_L_say n T0 T1 v24.1 v24.2 (139257538164 : Int64)) (fun v36 => gv ((60 : Int32) + x3) 90 (bd (F_L_part n T0 T1 v36.1 v36.2 (v36.2 154 (Int32.toNatClampNeg ((60 : Int32) + x3)))) (fun v90 => L_L_furniture n T0 T1 j 0 (x3 + (1 : Int32)) 0 v90.1 v90.2))) else (if x3 = (1 : Int32) then bd (F_L_say n T0 T1 v24.1 v24.2 (35675766745204 : Int64)) (fun v52 => gv ((60 : Int32) + x3) 90 (bd (F_L_part n T0 T1 v52.1 v52.2 (v52.2 154 (Int32.toNatClampNeg ((60 : Int32) + x3)))) (fun v90 => L_L_furniture n T0 T1 j 0 (x3 + (1 : Int32)) 0 v90.1 v90.2))) else (if x3 = (2 : Int32) then bd (F_L_say n T0 T1 v24.1 v24.2 (544501616 : Int64)) (fun v68 => gv ((60 : Int32) + x3) 90 (bd (F_L_part n T0 T1 v68.1 v68.2 (v68.2 154 (Int32.toNatClampNeg ((60 : Int32) + x3)))) (fun v90 => L_L_furniture n T0 T1 j 0 (x3 + (1 : Int32)) 0 v90.1 v90.2))) else bd (F_L_say n T0 T1 v24.1 v24.2 (9115430089420653 : Int64)) (fun v79 => gv ((60 : Int32) + x3) 90 (bd (F_L_part n T0 T1 v79.1 v79.2 (v79.2 154 (Int32.toNatClampNeg ((60 : Int32) + x3)))) (fun v90 => L_L_furniture n T0 T1 j 0 (x3 + (1 : Int32)) 0 v90.1 v90.2))))))))))
  | j + 1, 1, x3, x4, I, K => (if (K 154 64) ≤ x3 then L_L_furniture n T0 T1 j 3 (0 : Int32) 0 I K else bd (F_L_say n T0 T1 I K (996373876 : Int64)) (fun v114 => L_L_furniture n T0 T1 j 2 x3 (0 : Int32) v114.1 v114.2))
  | j + 1, 2, x3, x4, I, K => (if (3 : Int32) ≤ x4 then L_L_furniture n T0 T1 j 1 (x3 + (1 : Int32)) 0 I K else gv (((65 : Int32) + ((3 : Int32) * x3)) + x4) 90 (bd (F_L_part n T0 T1 I K (K 154 (Int32.toNatClampNeg (((65 : Int32) + ((3 : Int32) * x3)) + x4)))) (fun v139 => L_L_furniture n T0 T1 j 2 x3 (x4 + (1 : Int32)) v139.1 v139.2)))
  | j + 1, 3, x3, x4, I, K => (if (K 154 71) ≤ x3 then L_L_furniture n T0 T1 j 5 (0 : Int32) 0 I K else bd (F_L_say n T0 T1 I K (65366859407724 : Int64)) (fun v169 => L_L_furniture n T0 T1 j 4 x3 (0 : Int32) v169.1 v169.2))
  | j + 1, 4, x3, x4, I, K => (if (5 : Int32) ≤ x4 then L_L_furniture n T0 T1 j 3 (x3 + (1 : Int32)) 0 I K else gv (((72 : Int32) + ((5 : Int32) * x3)) + x4) 90 (bd (F_L_part n T0 T1 I K (K 154 (Int32.toNatClampNeg (((72 : Int32) + ((5 : Int32) * x3)) + x4)))) (fun v194 => L_L_furniture n T0 T1 j 4 x3 (x4 + (1 : Int32)) v194.1 v194.2)))
  | j + 1, 5, x3, x4, I, K => (if (K 154 82) ≤ x3 then some (I, K) else bd (F_L_say n T0 T1 I K (65315202754405 : Int64)) (fun v224 => L_L_furniture n T0 T1 j 6 x3 (0 : Int32) v224.1 v224.2))
  | j + 1, 6, x3, x4, I, K => (if (2 : Int32) ≤ x4 then L_L_furniture n T0 T1 j 5 (x3 + (1 : Int32)) 0 I K else gv (((83 : Int32) + ((2 : Int32) * x3)) + x4) 90 (bd (F_L_part n T0 T1 I K (K 154 (Int32.toNatClampNeg (((83 : Int32) + ((2 : Int32) * x3)) + x4)))) (fun v249 => L_L_furniture n T0 T1 j 6 x3 (x4 + (1 : Int32)) v249.1 v249.2)))
  | _ + 1, _, _, _, _, _ => none
theorem L_L_furniture_e0 (n j : Nat) (T0 T1 : Nat) (x3 : Int32) (x4 : Int32) (I : gI) (K : gI) : L_L_furniture n T0 T1 (j + 1) 0 x3 x4 I K = (if (4 : Int32) ≤ x3 then L_L_furniture n T0 T1 j 1 (0 : Int32) 0 I K else gv ((60 : Int32) + x3) 90 ((if (K 154 (Int32.toNatClampNeg ((60 : Int32) + x3))) = 0 then L_L_furniture n T0 T1 j 0 (x3 + (1 : Int32)) 0 I K else bd (F_L_say n T0 T1 I K (16727323285024626 : Int64)) (fun v24 => (if x3 = 0 then bd (F_L_say n T0 T1 v24.1 v24.2 (139257538164 : Int64)) (fun v36 => gv ((60 : Int32) + x3) 90 (bd (F_L_part n T0 T1 v36.1 v36.2 (v36.2 154 (Int32.toNatClampNeg ((60 : Int32) + x3)))) (fun v90 => L_L_furniture n T0 T1 j 0 (x3 + (1 : Int32)) 0 v90.1 v90.2))) else (if x3 = (1 : Int32) then bd (F_L_say n T0 T1 v24.1 v24.2 (35675766745204 : Int64)) (fun v52 => gv ((60 : Int32) + x3) 90 (bd (F_L_part n T0 T1 v52.1 v52.2 (v52.2 154 (Int32.toNatClampNeg ((60 : Int32) + x3)))) (fun v90 => L_L_furniture n T0 T1 j 0 (x3 + (1 : Int32)) 0 v90.1 v90.2))) else (if x3 = (2 : Int32) then bd (F_L_say n T0 T1 v24.1 v24.2 (544501616 : Int64)) (fun v68 => gv ((60 : Int32) + x3) 90 (bd (F_L_part n T0 T1 v68.1 v68.2 (v68.2 154 (Int32.toNatClampNeg ((60 : Int32) + x3)))) (fun v90 => L_L_furniture n T0 T1 j 0 (x3 + (1 : Int32)) 0 v90.1 v90.2))) else bd (F_L_say n T0 T1 v24.1 v24.2 (9115430089420653 : Int64)) (fun v79 => gv ((60 : Int32) + x3) 90 (bd (F_L_part n T0 T1 v79.1 v79.2 (v79.2 154 (Int32.toNatClampNeg ((60 : Int32) + x3)))) (fun v90 => L_L_furniture n T0 T1 j 0 (x3 + (1 : Int32)) 0 v90.1 v90.2)))))))))) := rfl
theorem L_L_furniture_e1 (n j : Nat) (T0 T1 : Nat) (x3 : Int32) (x4 : Int32) (I : gI) (K : gI) : L_L_furniture n T0 T1 (j + 1) 1 x3 x4 I K = (if (K 154 64) ≤ x3 then L_L_furniture n T0 T1 j 3 (0 : Int32) 0 I K else bd (F_L_say n T0 T1 I K (996373876 : Int64)) (fun v114 => L_L_furniture n T0 T1 j 2 x3 (0 : Int32) v114.1 v114.2)) := rfl
theorem L_L_furniture_e2 (n j : Nat) (T0 T1 : Nat) (x3 : Int32) (x4 : Int32) (I : gI) (K : gI) : L_L_furniture n T0 T1 (j + 1) 2 x3 x4 I K = (if (3 : Int32) ≤ x4 then L_L_furniture n T0 T1 j 1 (x3 + (1 : Int32)) 0 I K else gv (((65 : Int32) + ((3 : Int32) * x3)) + x4) 90 (bd (F_L_part n T0 T1 I K (K 154 (Int32.toNatClampNeg (((65 : Int32) + ((3 : Int32) * x3)) + x4)))) (fun v139 => L_L_furniture n T0 T1 j 2 x3 (x4 + (1 : Int32)) v139.1 v139.2))) := rfl
theorem L_L_furniture_e3 (n j : Nat) (T0 T1 : Nat) (x3 : Int32) (x4 : Int32) (I : gI) (K : gI) : L_L_furniture n T0 T1 (j + 1) 3 x3 x4 I K = (if (K 154 71) ≤ x3 then L_L_furniture n T0 T1 j 5 (0 : Int32) 0 I K else bd (F_L_say n T0 T1 I K (65366859407724 : Int64)) (fun v169 => L_L_furniture n T0 T1 j 4 x3 (0 : Int32) v169.1 v169.2)) := rfl
theorem L_L_furniture_e4 (n j : Nat) (T0 T1 : Nat) (x3 : Int32) (x4 : Int32) (I : gI) (K : gI) : L_L_furniture n T0 T1 (j + 1) 4 x3 x4 I K = (if (5 : Int32) ≤ x4 then L_L_furniture n T0 T1 j 3 (x3 + (1 : Int32)) 0 I K else gv (((72 : Int32) + ((5 : Int32) * x3)) + x4) 90 (bd (F_L_part n T0 T1 I K (K 154 (Int32.toNatClampNeg (((72 : Int32) + ((5 : Int32) * x3)) + x4)))) (fun v194 => L_L_furniture n T0 T1 j 4 x3 (x4 + (1 : Int32)) v194.1 v194.2))) := rfl
theorem L_L_furniture_e5 (n j : Nat) (T0 T1 : Nat) (x3 : Int32) (x4 : Int32) (I : gI) (K : gI) : L_L_furniture n T0 T1 (j + 1) 5 x3 x4 I K = (if (K 154 82) ≤ x3 then some (I, K) else bd (F_L_say n T0 T1 I K (65315202754405 : Int64)) (fun v224 => L_L_furniture n T0 T1 j 6 x3 (0 : Int32) v224.1 v224.2)) := rfl
theorem L_L_furniture_e6 (n j : Nat) (T0 T1 : Nat) (x3 : Int32) (x4 : Int32) (I : gI) (K : gI) : L_L_furniture n T0 T1 (j + 1) 6 x3 x4 I K = (if (2 : Int32) ≤ x4 then L_L_furniture n T0 T1 j 5 (x3 + (1 : Int32)) 0 I K else gv (((83 : Int32) + ((2 : Int32) * x3)) + x4) 90 (bd (F_L_part n T0 T1 I K (K 154 (Int32.toNatClampNeg (((83 : Int32) + ((2 : Int32) * x3)) + x4)))) (fun v249 => L_L_furniture n T0 T1 j 6 x3 (x4 + (1 : Int32)) v249.1 v249.2))) := rfl
set_option maxHeartbeats 4000000 in
set_option maxRecDepth 100000 in
theorem cL_L_furniture {G : gG} {lay : Nat → Nat × Nat} {T0 T1 : Nat} {Dd : Nat → Nat → UInt64} {J : gJ} {N : gJ} {sz n : Nat} (hs : G.1.stackTraces = false) (hE : gLay lay) (hT0 : gTank lay T0) (hT1 : gTank lay T1) : ∀ j : Nat, (∀ (x3 : Int32) (I : gI) (K : gI) (r : gI × gI), L_L_furniture n T0 T1 j 0 x3 0 I K = some r → gAt G mL_furniture (gQp G mL_furniture (gR none (fO G (lay, T0, T1, Dd) r.1 J r.2 N) sz)) 2 [some (.ref (G.2.2.1 + 0)), some (.ref (G.2.2.1 + 153)), some (.ref (G.2.2.1 + 154)), some (.int x3), none] [] (fO G (lay, T0, T1, Dd) I J K N) sz 0 0) ∧ (∀ (x3 : Int32) (I : gI) (K : gI) (r : gI × gI), L_L_furniture n T0 T1 j 1 x3 0 I K = some r → gAt G mL_furniture (gQp G mL_furniture (gR none (fO G (lay, T0, T1, Dd) r.1 J r.2 N) sz)) 101 [some (.ref (G.2.2.1 + 0)), some (.ref (G.2.2.1 + 153)), some (.ref (G.2.2.1 + 154)), some (.int x3), none] [] (fO G (lay, T0, T1, Dd) I J K N) sz 0 0) ∧ (∀ (x3 : Int32) (x4 : Int32) (I : gI) (K : gI) (r : gI × gI), L_L_furniture n T0 T1 j 2 x3 x4 I K = some r → gAt G mL_furniture (gQp G mL_furniture (gR none (fO G (lay, T0, T1, Dd) r.1 J r.2 N) sz)) 120 [some (.ref (G.2.2.1 + 0)), some (.ref (G.2.2.1 + 153)), some (.ref (G.2.2.1 + 154)), some (.int x3), some (.int x4)] [] (fO G (lay, T0, T1, Dd) I J K N) sz 0 0) ∧ (∀ (x3 : Int32) (I : gI) (K : gI) (r : gI × gI), L_L_furniture n T0 T1 j 3 x3 0 I K = some r → gAt G mL_furniture (gQp G mL_furniture (gR none (fO G (lay, T0, T1, Dd) r.1 J r.2 N) sz)) 156 [some (.ref (G.2.2.1 + 0)), some (.ref (G.2.2.1 + 153)), some (.ref (G.2.2.1 + 154)), some (.int x3), none] [] (fO G (lay, T0, T1, Dd) I J K N) sz 0 0) ∧ (∀ (x3 : Int32) (x4 : Int32) (I : gI) (K : gI) (r : gI × gI), L_L_furniture n T0 T1 j 4 x3 x4 I K = some r → gAt G mL_furniture (gQp G mL_furniture (gR none (fO G (lay, T0, T1, Dd) r.1 J r.2 N) sz)) 175 [some (.ref (G.2.2.1 + 0)), some (.ref (G.2.2.1 + 153)), some (.ref (G.2.2.1 + 154)), some (.int x3), some (.int x4)] [] (fO G (lay, T0, T1, Dd) I J K N) sz 0 0) ∧ (∀ (x3 : Int32) (I : gI) (K : gI) (r : gI × gI), L_L_furniture n T0 T1 j 5 x3 0 I K = some r → gAt G mL_furniture (gQp G mL_furniture (gR none (fO G (lay, T0, T1, Dd) r.1 J r.2 N) sz)) 211 [some (.ref (G.2.2.1 + 0)), some (.ref (G.2.2.1 + 153)), some (.ref (G.2.2.1 + 154)), some (.int x3), none] [] (fO G (lay, T0, T1, Dd) I J K N) sz 0 0) ∧ (∀ (x3 : Int32) (x4 : Int32) (I : gI) (K : gI) (r : gI × gI), L_L_furniture n T0 T1 j 6 x3 x4 I K = some r → gAt G mL_furniture (gQp G mL_furniture (gR none (fO G (lay, T0, T1, Dd) r.1 J r.2 N) sz)) 230 [some (.ref (G.2.2.1 + 0)), some (.ref (G.2.2.1 + 153)), some (.ref (G.2.2.1 + 154)), some (.int x3), some (.int x4)] [] (fO G (lay, T0, T1, Dd) I J K N) sz 0 0) := by
  intro j
  induction j with
  | zero => exact ⟨fun _ _ _ _ hf => (by cases hf), fun _ _ _ _ hf => (by cases hf), fun _ _ _ _ _ hf => (by cases hf), fun _ _ _ _ hf => (by cases hf), fun _ _ _ _ _ hf => (by cases hf), fun _ _ _ _ hf => (by cases hf), fun _ _ _ _ _ hf => (by cases hf)⟩
  | succ j ih =>
    refine ⟨?_, ?_, ?_, ?_, ?_, ?_, ?_⟩
    · intro x3 I K r hf
      rw [L_L_furniture_e0] at hf
      refine r_iload_n dL_furniture_2 rfl ?_
      refine r_iconst (v := (4 : Int32)) dL_furniture_3 (by decide) ?_
      refine r_icmp_ge (tgt := 99) dL_furniture_4 (by decide) (fun c4 => ?_) (fun c4 => ?_)
      · replace hf := if_t hf c4
        refine r_iconst (v := (0 : Int32)) dL_furniture_99 (by decide) ?_
        refine r_istore_n dL_furniture_100 (by decide) rfl ?_
        exact r_widen (k2 := 0) (n2 := 0) (Nat.le_of_ble_eq_true rfl) (Nat.le_of_ble_eq_true rfl) (r_mask [true, true, true, true, false] rfl (ih.2.1 (0 : Int32) I K r hf))
      · replace hf := if_f hf c4
        refine r_aload_n dL_furniture_7 rfl ?_
        refine r_bipush (v := (60 : Int32)) dL_furniture_8 (by decide) ?_
        refine r_iload_n dL_furniture_10 rfl ?_
        refine r_iadd dL_furniture_11 ?_
        obtain ⟨h12, hf⟩ := gv_of hf
        refine m_iald dL_furniture_12 (hE 154 (by decide)) h12 ?_
        refine r_if_ne (tgt := 19) dL_furniture_13 (by decide) (fun c13 => ?_) (fun c13 => ?_)
        · replace hf := if_f hf c13
          refine r_aload_n dL_furniture_19 rfl ?_
          refine r_aload_n dL_furniture_20 rfl ?_
          refine r_ldc2 dL_furniture_21 wd_835 ?_
          obtain ⟨v24, hc24, hf⟩ := bd_of hf
          refine r_cSv (rest := []) (ct_L_say hs hE hT0 hT1 hc24) dL_furniture_24 wd_790 zL_say wd_791 rfl  rfl rfl ⟨Nat.le_of_ble_eq_true rfl, Nat.le_of_ble_eq_true rfl⟩ (Nat.le_of_ble_eq_true rfl) ⟨Nat.le_of_ble_eq_true rfl, Nat.le_of_ble_eq_true rfl⟩ ?_
          refine r_iload_n dL_furniture_27 rfl ?_
          refine r_if_ne (tgt := 42) dL_furniture_28 (by decide) (fun c28 => ?_) (fun c28 => ?_)
          · replace hf := if_f hf c28
            refine r_iload_n dL_furniture_42 rfl ?_
            refine r_iconst (v := (1 : Int32)) dL_furniture_43 (by decide) ?_
            refine r_icmp_ne (tgt := 58) dL_furniture_44 (by decide) (fun c44 => ?_) (fun c44 => ?_)
            · replace hf := if_f hf c44
              refine r_iload_n dL_furniture_58 rfl ?_
              refine r_iconst (v := (2 : Int32)) dL_furniture_59 (by decide) ?_
              refine r_icmp_ne (tgt := 74) dL_furniture_60 (by decide) (fun c60 => ?_) (fun c60 => ?_)
              · replace hf := if_f hf c60
                refine r_aload_n dL_furniture_74 rfl ?_
                refine r_aload_n dL_furniture_75 rfl ?_
                refine r_ldc2 dL_furniture_76 wd_839 ?_
                obtain ⟨v79, hc79, hf⟩ := bd_of hf
                refine r_cSv (rest := []) (ct_L_say hs hE hT0 hT1 hc79) dL_furniture_79 wd_790 zL_say wd_791 rfl  rfl rfl ⟨Nat.le_of_ble_eq_true rfl, Nat.le_of_ble_eq_true rfl⟩ (Nat.le_of_ble_eq_true rfl) ⟨Nat.le_of_ble_eq_true rfl, Nat.le_of_ble_eq_true rfl⟩ ?_
                refine r_aload_n dL_furniture_82 rfl ?_
                refine r_aload_n dL_furniture_83 rfl ?_
                refine r_aload_n dL_furniture_84 rfl ?_
                refine r_bipush (v := (60 : Int32)) dL_furniture_85 (by decide) ?_
                refine r_iload_n dL_furniture_87 rfl ?_
                refine r_iadd dL_furniture_88 ?_
                obtain ⟨h89, hf⟩ := gv_of hf
                refine m_iald dL_furniture_89 (hE 154 (by decide)) h89 ?_
                obtain ⟨v90, hc90, hf⟩ := bd_of hf
                refine r_cSv (rest := []) (ct_L_part hs hE hT0 hT1 hc90) dL_furniture_90 wd_809 zL_part wd_810 rfl  rfl rfl ⟨Nat.le_of_ble_eq_true rfl, Nat.le_of_ble_eq_true rfl⟩ (Nat.le_of_ble_eq_true rfl) ⟨Nat.le_of_ble_eq_true rfl, Nat.le_of_ble_eq_true rfl⟩ ?_
                refine r_iincv (v := (x3 + (1 : Int32))) dL_furniture_93 rfl rfl (by decide) rfl ?_
                refine r_goto (tgt := 2) dL_furniture_96 (by decide) ?_
                exact r_widen (k2 := 0) (n2 := 0) (Nat.le_of_ble_eq_true rfl) (Nat.le_of_ble_eq_true rfl) (r_mask [true, true, true, true, false] rfl (ih.1 (x3 + (1 : Int32)) v90.1 v90.2 r hf))
              · replace hf := if_t hf c60
                refine r_aload_n dL_furniture_63 rfl ?_
                refine r_aload_n dL_furniture_64 rfl ?_
                refine r_ldc2 dL_furniture_65 wd_838 ?_
                obtain ⟨v68, hc68, hf⟩ := bd_of hf
                refine r_cSv (rest := []) (ct_L_say hs hE hT0 hT1 hc68) dL_furniture_68 wd_790 zL_say wd_791 rfl  rfl rfl ⟨Nat.le_of_ble_eq_true rfl, Nat.le_of_ble_eq_true rfl⟩ (Nat.le_of_ble_eq_true rfl) ⟨Nat.le_of_ble_eq_true rfl, Nat.le_of_ble_eq_true rfl⟩ ?_
                refine r_goto (tgt := 82) dL_furniture_71 (by decide) ?_
                refine r_aload_n dL_furniture_82 rfl ?_
                refine r_aload_n dL_furniture_83 rfl ?_
                refine r_aload_n dL_furniture_84 rfl ?_
                refine r_bipush (v := (60 : Int32)) dL_furniture_85 (by decide) ?_
                refine r_iload_n dL_furniture_87 rfl ?_
                refine r_iadd dL_furniture_88 ?_
                obtain ⟨h89, hf⟩ := gv_of hf
                refine m_iald dL_furniture_89 (hE 154 (by decide)) h89 ?_
                obtain ⟨v90, hc90, hf⟩ := bd_of hf
                refine r_cSv (rest := []) (ct_L_part hs hE hT0 hT1 hc90) dL_furniture_90 wd_809 zL_part wd_810 rfl  rfl rfl ⟨Nat.le_of_ble_eq_true rfl, Nat.le_of_ble_eq_true rfl⟩ (Nat.le_of_ble_eq_true rfl) ⟨Nat.le_of_ble_eq_true rfl, Nat.le_of_ble_eq_true rfl⟩ ?_
                refine r_iincv (v := (x3 + (1 : Int32))) dL_furniture_93 rfl rfl (by decide) rfl ?_
                refine r_goto (tgt := 2) dL_furniture_96 (by decide) ?_
                exact r_widen (k2 := 0) (n2 := 0) (Nat.le_of_ble_eq_true rfl) (Nat.le_of_ble_eq_true rfl) (r_mask [true, true, true, true, false] rfl (ih.1 (x3 + (1 : Int32)) v90.1 v90.2 r hf))
            · replace hf := if_t hf c44
              refine r_aload_n dL_furniture_47 rfl ?_
              refine r_aload_n dL_furniture_48 rfl ?_
              refine r_ldc2 dL_furniture_49 wd_837 ?_
              obtain ⟨v52, hc52, hf⟩ := bd_of hf
              refine r_cSv (rest := []) (ct_L_say hs hE hT0 hT1 hc52) dL_furniture_52 wd_790 zL_say wd_791 rfl  rfl rfl ⟨Nat.le_of_ble_eq_true rfl, Nat.le_of_ble_eq_true rfl⟩ (Nat.le_of_ble_eq_true rfl) ⟨Nat.le_of_ble_eq_true rfl, Nat.le_of_ble_eq_true rfl⟩ ?_
              refine r_goto (tgt := 82) dL_furniture_55 (by decide) ?_
              refine r_aload_n dL_furniture_82 rfl ?_
              refine r_aload_n dL_furniture_83 rfl ?_
              refine r_aload_n dL_furniture_84 rfl ?_
              refine r_bipush (v := (60 : Int32)) dL_furniture_85 (by decide) ?_
              refine r_iload_n dL_furniture_87 rfl ?_
              refine r_iadd dL_furniture_88 ?_
              obtain ⟨h89, hf⟩ := gv_of hf
              refine m_iald dL_furniture_89 (hE 154 (by decide)) h89 ?_
              obtain ⟨v90, hc90, hf⟩ := bd_of hf
              refine r_cSv (rest := []) (ct_L_part hs hE hT0 hT1 hc90) dL_furniture_90 wd_809 zL_part wd_810 rfl  rfl rfl ⟨Nat.le_of_ble_eq_true rfl, Nat.le_of_ble_eq_true rfl⟩ (Nat.le_of_ble_eq_true rfl) ⟨Nat.le_of_ble_eq_true rfl, Nat.le_of_ble_eq_true rfl⟩ ?_
              refine r_iincv (v := (x3 + (1 : Int32))) dL_furniture_93 rfl rfl (by decide) rfl ?_
              refine r_goto (tgt := 2) dL_furniture_96 (by decide) ?_
              exact r_widen (k2 := 0) (n2 := 0) (Nat.le_of_ble_eq_true rfl) (Nat.le_of_ble_eq_true rfl) (r_mask [true, true, true, true, false] rfl (ih.1 (x3 + (1 : Int32)) v90.1 v90.2 r hf))
          · replace hf := if_t hf c28
            refine r_aload_n dL_furniture_31 rfl ?_
            refine r_aload_n dL_furniture_32 rfl ?_
            refine r_ldc2 dL_furniture_33 wd_836 ?_
            obtain ⟨v36, hc36, hf⟩ := bd_of hf
            refine r_cSv (rest := []) (ct_L_say hs hE hT0 hT1 hc36) dL_furniture_36 wd_790 zL_say wd_791 rfl  rfl rfl ⟨Nat.le_of_ble_eq_true rfl, Nat.le_of_ble_eq_true rfl⟩ (Nat.le_of_ble_eq_true rfl) ⟨Nat.le_of_ble_eq_true rfl, Nat.le_of_ble_eq_true rfl⟩ ?_
            refine r_goto (tgt := 82) dL_furniture_39 (by decide) ?_
            refine r_aload_n dL_furniture_82 rfl ?_
            refine r_aload_n dL_furniture_83 rfl ?_
            refine r_aload_n dL_furniture_84 rfl ?_
            refine r_bipush (v := (60 : Int32)) dL_furniture_85 (by decide) ?_
            refine r_iload_n dL_furniture_87 rfl ?_
            refine r_iadd dL_furniture_88 ?_
            obtain ⟨h89, hf⟩ := gv_of hf
            refine m_iald dL_furniture_89 (hE 154 (by decide)) h89 ?_
            obtain ⟨v90, hc90, hf⟩ := bd_of hf
            refine r_cSv (rest := []) (ct_L_part hs hE hT0 hT1 hc90) dL_furniture_90 wd_809 zL_part wd_810 rfl  rfl rfl ⟨Nat.le_of_ble_eq_true rfl, Nat.le_of_ble_eq_true rfl⟩ (Nat.le_of_ble_eq_true rfl) ⟨Nat.le_of_ble_eq_true rfl, Nat.le_of_ble_eq_true rfl⟩ ?_
            refine r_iincv (v := (x3 + (1 : Int32))) dL_furniture_93 rfl rfl (by decide) rfl ?_
            refine r_goto (tgt := 2) dL_furniture_96 (by decide) ?_
            exact r_widen (k2 := 0) (n2 := 0) (Nat.le_of_ble_eq_true rfl) (Nat.le_of_ble_eq_true rfl) (r_mask [true, true, true, true, false] rfl (ih.1 (x3 + (1 : Int32)) v90.1 v90.2 r hf))
        · replace hf := if_t hf c13
          refine r_goto (tgt := 93) dL_furniture_16 (by decide) ?_
          refine r_iincv (v := (x3 + (1 : Int32))) dL_furniture_93 rfl rfl (by decide) rfl ?_
          refine r_goto (tgt := 2) dL_furniture_96 (by decide) ?_
          exact r_widen (k2 := 0) (n2 := 0) (Nat.le_of_ble_eq_true rfl) (Nat.le_of_ble_eq_true rfl) (r_mask [true, true, true, true, false] rfl (ih.1 (x3 + (1 : Int32)) I K r hf))
    · intro x3 I K r hf
      rw [L_L_furniture_e1] at hf
      refine r_iload_n dL_furniture_101 rfl ?_
      refine r_aload_n dL_furniture_102 rfl ?_
      refine r_bipush (v := (64 : Int32)) dL_furniture_103 (by decide) ?_
      refine m_ialdc 64 dL_furniture_105 (hE 154 (by decide)) (vpc rfl) rfl ?_
      refine r_icmp_ge (tgt := 154) dL_furniture_106 (by decide) (fun c106 => ?_) (fun c106 => ?_)
      · replace hf := if_t hf c106
        refine r_iconst (v := (0 : Int32)) dL_furniture_154 (by decide) ?_
        refine r_istore_n dL_furniture_155 (by decide) rfl ?_
        exact r_widen (k2 := 0) (n2 := 0) (Nat.le_of_ble_eq_true rfl) (Nat.le_of_ble_eq_true rfl) (r_mask [true, true, true, true, false] rfl (ih.2.2.2.1 (0 : Int32) I K r hf))
      · replace hf := if_f hf c106
        refine r_aload_n dL_furniture_109 rfl ?_
        refine r_aload_n dL_furniture_110 rfl ?_
        refine r_ldc2 dL_furniture_111 wd_840 ?_
        obtain ⟨v114, hc114, hf⟩ := bd_of hf
        refine r_cSv (rest := []) (ct_L_say hs hE hT0 hT1 hc114) dL_furniture_114 wd_790 zL_say wd_791 rfl  rfl rfl ⟨Nat.le_of_ble_eq_true rfl, Nat.le_of_ble_eq_true rfl⟩ (Nat.le_of_ble_eq_true rfl) ⟨Nat.le_of_ble_eq_true rfl, Nat.le_of_ble_eq_true rfl⟩ ?_
        refine r_iconst (v := (0 : Int32)) dL_furniture_117 (by decide) ?_
        refine r_istore dL_furniture_118 (by decide) rfl ?_
        exact r_widen (k2 := 0) (n2 := 0) (Nat.le_of_ble_eq_true rfl) (Nat.le_of_ble_eq_true rfl) (r_mask [true, true, true, true, true] rfl (ih.2.2.1 x3 (0 : Int32) v114.1 v114.2 r hf))
    · intro x3 x4 I K r hf
      rw [L_L_furniture_e2] at hf
      refine r_iload dL_furniture_120 rfl ?_
      refine r_iconst (v := (3 : Int32)) dL_furniture_122 (by decide) ?_
      refine r_icmp_ge (tgt := 148) dL_furniture_123 (by decide) (fun c123 => ?_) (fun c123 => ?_)
      · replace hf := if_t hf c123
        refine r_iincv (v := (x3 + (1 : Int32))) dL_furniture_148 rfl rfl (by decide) rfl ?_
        refine r_goto (tgt := 101) dL_furniture_151 (by decide) ?_
        exact r_widen (k2 := 0) (n2 := 0) (Nat.le_of_ble_eq_true rfl) (Nat.le_of_ble_eq_true rfl) (r_mask [true, true, true, true, false] rfl (ih.2.1 (x3 + (1 : Int32)) I K r hf))
      · replace hf := if_f hf c123
        refine r_aload_n dL_furniture_126 rfl ?_
        refine r_aload_n dL_furniture_127 rfl ?_
        refine r_aload_n dL_furniture_128 rfl ?_
        refine r_bipush (v := (65 : Int32)) dL_furniture_129 (by decide) ?_
        refine r_iconst (v := (3 : Int32)) dL_furniture_131 (by decide) ?_
        refine r_iload_n dL_furniture_132 rfl ?_
        refine r_imul dL_furniture_133 ?_
        refine r_iadd dL_furniture_134 ?_
        refine r_iload dL_furniture_135 rfl ?_
        refine r_iadd dL_furniture_137 ?_
        obtain ⟨h138, hf⟩ := gv_of hf
        refine m_iald dL_furniture_138 (hE 154 (by decide)) h138 ?_
        obtain ⟨v139, hc139, hf⟩ := bd_of hf
        refine r_cSv (rest := []) (ct_L_part hs hE hT0 hT1 hc139) dL_furniture_139 wd_809 zL_part wd_810 rfl  rfl rfl ⟨Nat.le_of_ble_eq_true rfl, Nat.le_of_ble_eq_true rfl⟩ (Nat.le_of_ble_eq_true rfl) ⟨Nat.le_of_ble_eq_true rfl, Nat.le_of_ble_eq_true rfl⟩ ?_
        refine r_iincv (v := (x4 + (1 : Int32))) dL_furniture_142 rfl rfl (by decide) rfl ?_
        refine r_goto (tgt := 120) dL_furniture_145 (by decide) ?_
        exact r_widen (k2 := 0) (n2 := 0) (Nat.le_of_ble_eq_true rfl) (Nat.le_of_ble_eq_true rfl) (r_mask [true, true, true, true, true] rfl (ih.2.2.1 x3 (x4 + (1 : Int32)) v139.1 v139.2 r hf))
    · intro x3 I K r hf
      rw [L_L_furniture_e3] at hf
      refine r_iload_n dL_furniture_156 rfl ?_
      refine r_aload_n dL_furniture_157 rfl ?_
      refine r_bipush (v := (71 : Int32)) dL_furniture_158 (by decide) ?_
      refine m_ialdc 71 dL_furniture_160 (hE 154 (by decide)) (vpc rfl) rfl ?_
      refine r_icmp_ge (tgt := 209) dL_furniture_161 (by decide) (fun c161 => ?_) (fun c161 => ?_)
      · replace hf := if_t hf c161
        refine r_iconst (v := (0 : Int32)) dL_furniture_209 (by decide) ?_
        refine r_istore_n dL_furniture_210 (by decide) rfl ?_
        exact r_widen (k2 := 0) (n2 := 0) (Nat.le_of_ble_eq_true rfl) (Nat.le_of_ble_eq_true rfl) (r_mask [true, true, true, true, false] rfl (ih.2.2.2.2.2.1 (0 : Int32) I K r hf))
      · replace hf := if_f hf c161
        refine r_aload_n dL_furniture_164 rfl ?_
        refine r_aload_n dL_furniture_165 rfl ?_
        refine r_ldc2 dL_furniture_166 wd_841 ?_
        obtain ⟨v169, hc169, hf⟩ := bd_of hf
        refine r_cSv (rest := []) (ct_L_say hs hE hT0 hT1 hc169) dL_furniture_169 wd_790 zL_say wd_791 rfl  rfl rfl ⟨Nat.le_of_ble_eq_true rfl, Nat.le_of_ble_eq_true rfl⟩ (Nat.le_of_ble_eq_true rfl) ⟨Nat.le_of_ble_eq_true rfl, Nat.le_of_ble_eq_true rfl⟩ ?_
        refine r_iconst (v := (0 : Int32)) dL_furniture_172 (by decide) ?_
        refine r_istore dL_furniture_173 (by decide) rfl ?_
        exact r_widen (k2 := 0) (n2 := 0) (Nat.le_of_ble_eq_true rfl) (Nat.le_of_ble_eq_true rfl) (r_mask [true, true, true, true, true] rfl (ih.2.2.2.2.1 x3 (0 : Int32) v169.1 v169.2 r hf))
    · intro x3 x4 I K r hf
      rw [L_L_furniture_e4] at hf
      refine r_iload dL_furniture_175 rfl ?_
      refine r_iconst (v := (5 : Int32)) dL_furniture_177 (by decide) ?_
      refine r_icmp_ge (tgt := 203) dL_furniture_178 (by decide) (fun c178 => ?_) (fun c178 => ?_)
      · replace hf := if_t hf c178
        refine r_iincv (v := (x3 + (1 : Int32))) dL_furniture_203 rfl rfl (by decide) rfl ?_
        refine r_goto (tgt := 156) dL_furniture_206 (by decide) ?_
        exact r_widen (k2 := 0) (n2 := 0) (Nat.le_of_ble_eq_true rfl) (Nat.le_of_ble_eq_true rfl) (r_mask [true, true, true, true, false] rfl (ih.2.2.2.1 (x3 + (1 : Int32)) I K r hf))
      · replace hf := if_f hf c178
        refine r_aload_n dL_furniture_181 rfl ?_
        refine r_aload_n dL_furniture_182 rfl ?_
        refine r_aload_n dL_furniture_183 rfl ?_
        refine r_bipush (v := (72 : Int32)) dL_furniture_184 (by decide) ?_
        refine r_iconst (v := (5 : Int32)) dL_furniture_186 (by decide) ?_
        refine r_iload_n dL_furniture_187 rfl ?_
        refine r_imul dL_furniture_188 ?_
        refine r_iadd dL_furniture_189 ?_
        refine r_iload dL_furniture_190 rfl ?_
        refine r_iadd dL_furniture_192 ?_
        obtain ⟨h193, hf⟩ := gv_of hf
        refine m_iald dL_furniture_193 (hE 154 (by decide)) h193 ?_
        obtain ⟨v194, hc194, hf⟩ := bd_of hf
        refine r_cSv (rest := []) (ct_L_part hs hE hT0 hT1 hc194) dL_furniture_194 wd_809 zL_part wd_810 rfl  rfl rfl ⟨Nat.le_of_ble_eq_true rfl, Nat.le_of_ble_eq_true rfl⟩ (Nat.le_of_ble_eq_true rfl) ⟨Nat.le_of_ble_eq_true rfl, Nat.le_of_ble_eq_true rfl⟩ ?_
        refine r_iincv (v := (x4 + (1 : Int32))) dL_furniture_197 rfl rfl (by decide) rfl ?_
        refine r_goto (tgt := 175) dL_furniture_200 (by decide) ?_
        exact r_widen (k2 := 0) (n2 := 0) (Nat.le_of_ble_eq_true rfl) (Nat.le_of_ble_eq_true rfl) (r_mask [true, true, true, true, true] rfl (ih.2.2.2.2.1 x3 (x4 + (1 : Int32)) v194.1 v194.2 r hf))
    · intro x3 I K r hf
      rw [L_L_furniture_e5] at hf
      refine r_iload_n dL_furniture_211 rfl ?_
      refine r_aload_n dL_furniture_212 rfl ?_
      refine r_bipush (v := (82 : Int32)) dL_furniture_213 (by decide) ?_
      refine m_ialdc 82 dL_furniture_215 (hE 154 (by decide)) (vpc rfl) rfl ?_
      refine r_icmp_ge (tgt := 264) dL_furniture_216 (by decide) (fun c216 => ?_) (fun c216 => ?_)
      · replace hf := if_t hf c216
        have hr := Option.some.inj hf
        subst hr
        exact r_vret dL_furniture_264 rfl (Nat.le_of_ble_eq_true rfl) (Nat.le_of_ble_eq_true rfl) ⟨rfl, rfl, rfl⟩
      · replace hf := if_f hf c216
        refine r_aload_n dL_furniture_219 rfl ?_
        refine r_aload_n dL_furniture_220 rfl ?_
        refine r_ldc2 dL_furniture_221 wd_842 ?_
        obtain ⟨v224, hc224, hf⟩ := bd_of hf
        refine r_cSv (rest := []) (ct_L_say hs hE hT0 hT1 hc224) dL_furniture_224 wd_790 zL_say wd_791 rfl  rfl rfl ⟨Nat.le_of_ble_eq_true rfl, Nat.le_of_ble_eq_true rfl⟩ (Nat.le_of_ble_eq_true rfl) ⟨Nat.le_of_ble_eq_true rfl, Nat.le_of_ble_eq_true rfl⟩ ?_
        refine r_iconst (v := (0 : Int32)) dL_furniture_227 (by decide) ?_
        refine r_istore dL_furniture_228 (by decide) rfl ?_
        exact r_widen (k2 := 0) (n2 := 0) (Nat.le_of_ble_eq_true rfl) (Nat.le_of_ble_eq_true rfl) (r_mask [true, true, true, true, true] rfl (ih.2.2.2.2.2.2 x3 (0 : Int32) v224.1 v224.2 r hf))
    · intro x3 x4 I K r hf
      rw [L_L_furniture_e6] at hf
      refine r_iload dL_furniture_230 rfl ?_
      refine r_iconst (v := (2 : Int32)) dL_furniture_232 (by decide) ?_
      refine r_icmp_ge (tgt := 258) dL_furniture_233 (by decide) (fun c233 => ?_) (fun c233 => ?_)
      · replace hf := if_t hf c233
        refine r_iincv (v := (x3 + (1 : Int32))) dL_furniture_258 rfl rfl (by decide) rfl ?_
        refine r_goto (tgt := 211) dL_furniture_261 (by decide) ?_
        exact r_widen (k2 := 0) (n2 := 0) (Nat.le_of_ble_eq_true rfl) (Nat.le_of_ble_eq_true rfl) (r_mask [true, true, true, true, false] rfl (ih.2.2.2.2.2.1 (x3 + (1 : Int32)) I K r hf))
      · replace hf := if_f hf c233
        refine r_aload_n dL_furniture_236 rfl ?_
        refine r_aload_n dL_furniture_237 rfl ?_
        refine r_aload_n dL_furniture_238 rfl ?_
        refine r_bipush (v := (83 : Int32)) dL_furniture_239 (by decide) ?_
        refine r_iconst (v := (2 : Int32)) dL_furniture_241 (by decide) ?_
        refine r_iload_n dL_furniture_242 rfl ?_
        refine r_imul dL_furniture_243 ?_
        refine r_iadd dL_furniture_244 ?_
        refine r_iload dL_furniture_245 rfl ?_
        refine r_iadd dL_furniture_247 ?_
        obtain ⟨h248, hf⟩ := gv_of hf
        refine m_iald dL_furniture_248 (hE 154 (by decide)) h248 ?_
        obtain ⟨v249, hc249, hf⟩ := bd_of hf
        refine r_cSv (rest := []) (ct_L_part hs hE hT0 hT1 hc249) dL_furniture_249 wd_809 zL_part wd_810 rfl  rfl rfl ⟨Nat.le_of_ble_eq_true rfl, Nat.le_of_ble_eq_true rfl⟩ (Nat.le_of_ble_eq_true rfl) ⟨Nat.le_of_ble_eq_true rfl, Nat.le_of_ble_eq_true rfl⟩ ?_
        refine r_iincv (v := (x4 + (1 : Int32))) dL_furniture_252 rfl rfl (by decide) rfl ?_
        refine r_goto (tgt := 230) dL_furniture_255 (by decide) ?_
        exact r_widen (k2 := 0) (n2 := 0) (Nat.le_of_ble_eq_true rfl) (Nat.le_of_ble_eq_true rfl) (r_mask [true, true, true, true, true] rfl (ih.2.2.2.2.2.2 x3 (x4 + (1 : Int32)) v249.1 v249.2 r hf))
def F_L_furniture (n : Nat) (T0 T1 : Nat) (I : gI) (K : gI) : Option (gI × gI) := L_L_furniture n T0 T1 n 0 (0 : Int32) 0 I K
set_option maxHeartbeats 4000000 in
set_option maxRecDepth 100000 in
theorem ct_L_furniture {G : gG} {lay : Nat → Nat × Nat} {T0 T1 : Nat} {Dd : Nat → Nat → UInt64} {I : gI} {J : gJ} {K : gI} {N : gJ} {sz n : Nat} (hs : G.1.stackTraces = false) (hE : gLay lay) (hT0 : gTank lay T0) (hT1 : gTank lay T1) {r : gI × gI} (hf : F_L_furniture n T0 T1 I K = some r) : gCt G mL_furniture [.ref (G.2.2.1 + 0), .ref (G.2.2.1 + 153), .ref (G.2.2.1 + 154)] (fO G (lay, T0, T1, Dd) I J K N) sz (gR none (fO G (lay, T0, T1, Dd) r.1 J r.2 N) sz) := by
  unfold F_L_furniture at hf
  refine gCt.of [some (.ref (G.2.2.1 + 0)), some (.ref (G.2.2.1 + 153)), some (.ref (G.2.2.1 + 154)), none, none] (by decide +kernel) rfl hs rfl (Nat.le_of_ble_eq_true rfl) ?_
  refine r_iconst (v := (0 : Int32)) dL_furniture_0 (by decide) ?_
  refine r_istore_n dL_furniture_1 (by decide) rfl ?_
  exact r_widen (k2 := 0) (n2 := 0) (Nat.le_of_ble_eq_true rfl) (Nat.le_of_ble_eq_true rfl) (r_mask [true, true, true, true, false] rfl ((cL_L_furniture hs hE hT0 hT1 n).1 (0 : Int32) I K r hf))
def L_L_train (n : Nat) (T0 T1 : Nat) (a3 : Int32) : Nat → Nat → Int32 → Int32 → gI → gI → Option (gI × gI)
  | 0, _, _, _, _, _ => none
  | j + 1, 0, x4, x5, I, K => (if (8 : Int32) ≤ x5 then gv (x4 + (8 : Int32)) 90 ((if (K 154 (Int32.toNatClampNeg (x4 + (8 : Int32)))) = (1 : Int32) then bd (F_L_say n T0 T1 I K (35607249318772 : Int64)) (fun v61 => gv (x4 + (9 : Int32)) 90 (bd (F_L_part n T0 T1 v61.1 v61.2 (v61.2 154 (Int32.toNatClampNeg (x4 + (9 : Int32))))) (fun v73 => gv (x4 + (10 : Int32)) 90 (bd (F_L_part n T0 T1 v73.1 v73.2 (v73.2 154 (Int32.toNatClampNeg (x4 + (10 : Int32))))) (fun v85 => gv (x4 + (11 : Int32)) 90 ((if (v85.2 154 (Int32.toNatClampNeg (x4 + (11 : Int32)))) = 0 then gv (x4 + (12 : Int32)) 90 ((if (v85.2 154 (Int32.toNatClampNeg (x4 + (12 : Int32)))) = 0 then L_L_train n T0 T1 a3 j 1 x4 x5 v85.1 v85.2 else bd (F_L_say n T0 T1 v85.1 v85.2 (65302602278516 : Int64)) (fun v147 => bd (F_L_part n T0 T1 v147.1 v147.2 a3) (fun v153 => gv (x4 + (11 : Int32)) 90 (bd (F_L_part n T0 T1 v153.1 v153.2 (v153.2 154 (Int32.toNatClampNeg (x4 + (11 : Int32))))) (fun v165 => gv (x4 + (12 : Int32)) 90 (bd (F_L_part n T0 T1 v165.1 v165.2 (v165.2 154 (Int32.toNatClampNeg (x4 + (12 : Int32))))) (fun v177 => L_L_train n T0 T1 a3 j 1 x4 x5 v177.1 v177.2)))))))) else bd (F_L_say n T0 T1 v85.1 v85.2 (65302602278516 : Int64)) (fun v147 => bd (F_L_part n T0 T1 v147.1 v147.2 a3) (fun v153 => gv (x4 + (11 : Int32)) 90 (bd (F_L_part n T0 T1 v153.1 v153.2 (v153.2 154 (Int32.toNatClampNeg (x4 + (11 : Int32))))) (fun v165 => gv (x4 + (12 : Int32)) 90 (bd (F_L_part n T0 T1 v165.1 v165.2 (v165.2 154 (Int32.toNatClampNeg (x4 + (12 : Int32))))) (fun v177 => L_L_train n T0 T1 a3 j 1 x4 x5 v177.1 v177.2))))))))))))) else gv (x4 + (8 : Int32)) 90 ((if (K 154 (Int32.toNatClampNeg (x4 + (8 : Int32)))) = (2 : Int32) then bd (F_L_say n T0 T1 I K (9132996488162919 : Int64)) (fun v107 => gv (x4 + (9 : Int32)) 90 (bd (F_L_part n T0 T1 v107.1 v107.2 (v107.2 154 (Int32.toNatClampNeg (x4 + (9 : Int32))))) (fun v119 => gv (x4 + (11 : Int32)) 90 ((if (v119.2 154 (Int32.toNatClampNeg (x4 + (11 : Int32)))) = 0 then gv (x4 + (12 : Int32)) 90 ((if (v119.2 154 (Int32.toNatClampNeg (x4 + (12 : Int32)))) = 0 then L_L_train n T0 T1 a3 j 1 x4 x5 v119.1 v119.2 else bd (F_L_say n T0 T1 v119.1 v119.2 (65302602278516 : Int64)) (fun v147 => bd (F_L_part n T0 T1 v147.1 v147.2 a3) (fun v153 => gv (x4 + (11 : Int32)) 90 (bd (F_L_part n T0 T1 v153.1 v153.2 (v153.2 154 (Int32.toNatClampNeg (x4 + (11 : Int32))))) (fun v165 => gv (x4 + (12 : Int32)) 90 (bd (F_L_part n T0 T1 v165.1 v165.2 (v165.2 154 (Int32.toNatClampNeg (x4 + (12 : Int32))))) (fun v177 => L_L_train n T0 T1 a3 j 1 x4 x5 v177.1 v177.2)))))))) else bd (F_L_say n T0 T1 v119.1 v119.2 (65302602278516 : Int64)) (fun v147 => bd (F_L_part n T0 T1 v147.1 v147.2 a3) (fun v153 => gv (x4 + (11 : Int32)) 90 (bd (F_L_part n T0 T1 v153.1 v153.2 (v153.2 154 (Int32.toNatClampNeg (x4 + (11 : Int32))))) (fun v165 => gv (x4 + (12 : Int32)) 90 (bd (F_L_part n T0 T1 v165.1 v165.2 (v165.2 154 (Int32.toNatClampNeg (x4 + (12 : Int32))))) (fun v177 => L_L_train n T0 T1 a3 j 1 x4 x5 v177.1 v177.2))))))))))) else gv (x4 + (11 : Int32)) 90 ((if (K 154 (Int32.toNatClampNeg (x4 + (11 : Int32)))) = 0 then gv (x4 + (12 : Int32)) 90 ((if (K 154 (Int32.toNatClampNeg (x4 + (12 : Int32)))) = 0 then L_L_train n T0 T1 a3 j 1 x4 x5 I K else bd (F_L_say n T0 T1 I K (65302602278516 : Int64)) (fun v147 => bd (F_L_part n T0 T1 v147.1 v147.2 a3) (fun v153 => gv (x4 + (11 : Int32)) 90 (bd (F_L_part n T0 T1 v153.1 v153.2 (v153.2 154 (Int32.toNatClampNeg (x4 + (11 : Int32))))) (fun v165 => gv (x4 + (12 : Int32)) 90 (bd (F_L_part n T0 T1 v165.1 v165.2 (v165.2 154 (Int32.toNatClampNeg (x4 + (12 : Int32))))) (fun v177 => L_L_train n T0 T1 a3 j 1 x4 x5 v177.1 v177.2)))))))) else bd (F_L_say n T0 T1 I K (65302602278516 : Int64)) (fun v147 => bd (F_L_part n T0 T1 v147.1 v147.2 a3) (fun v153 => gv (x4 + (11 : Int32)) 90 (bd (F_L_part n T0 T1 v153.1 v153.2 (v153.2 154 (Int32.toNatClampNeg (x4 + (11 : Int32))))) (fun v165 => gv (x4 + (12 : Int32)) 90 (bd (F_L_part n T0 T1 v165.1 v165.2 (v165.2 154 (Int32.toNatClampNeg (x4 + (12 : Int32))))) (fun v177 => L_L_train n T0 T1 a3 j 1 x4 x5 v177.1 v177.2)))))))))))) else gv (x4 + x5) 90 (bd (F_L_part n T0 T1 I K (K 154 (Int32.toNatClampNeg (x4 + x5)))) (fun v36 => L_L_train n T0 T1 a3 j 0 x4 (x5 + (1 : Int32)) v36.1 v36.2)))
  | j + 1, 1, x4, x5, I, K => gv (x4 + (13 : Int32)) 90 ((if (K 154 (Int32.toNatClampNeg (x4 + (13 : Int32)))) = 0 then bd (F_L_say n T0 T1 I K (997156454 : Int64)) (fun v195 => bd (F_L_part n T0 T1 v195.1 v195.2 a3) (fun v201 => gv (x4 + (14 : Int32)) 90 ((if (v201.2 154 (Int32.toNatClampNeg (x4 + (14 : Int32)))) = 0 then some (v201.1, v201.2) else bd (F_L_say n T0 T1 v201.1 v201.2 (65366858494053 : Int64)) (fun v220 => bd (F_L_part n T0 T1 v220.1 v220.2 a3) (fun v226 => gv (x4 + (14 : Int32)) 90 ((if (v226.2 154 (Int32.toNatClampNeg (x4 + (14 : Int32)))) = (1 : Int32) then bd (F_L_say n T0 T1 v226.1 v226.2 (9134130392560229 : Int64)) (fun v245 => some (v245.1, v245.2)) else bd (F_L_say n T0 T1 v226.1 v226.2 (544432503 : Int64)) (fun v256 => some (v256.1, v256.2)))))))))) else gv (x4 + (14 : Int32)) 90 ((if (K 154 (Int32.toNatClampNeg (x4 + (14 : Int32)))) = 0 then some (I, K) else bd (F_L_say n T0 T1 I K (65366858494053 : Int64)) (fun v220 => bd (F_L_part n T0 T1 v220.1 v220.2 a3) (fun v226 => gv (x4 + (14 : Int32)) 90 ((if (v226.2 154 (Int32.toNatClampNeg (x4 + (14 : Int32)))) = (1 : Int32) then bd (F_L_say n T0 T1 v226.1 v226.2 (9134130392560229 : Int64)) (fun v245 => some (v245.1, v245.2)) else bd (F_L_say n T0 T1 v226.1 v226.2 (544432503 : Int64)) (fun v256 => some (v256.1, v256.2))))))))))
  | _ + 1, _, _, _, _, _ => none
theorem L_L_train_e0 (n j : Nat) (T0 T1 : Nat) (a3 : Int32) (x4 : Int32) (x5 : Int32) (I : gI) (K : gI) : L_L_train n T0 T1 a3 (j + 1) 0 x4 x5 I K = (if (8 : Int32) ≤ x5 then gv (x4 + (8 : Int32)) 90 ((if (K 154 (Int32.toNatClampNeg (x4 + (8 : Int32)))) = (1 : Int32) then bd (F_L_say n T0 T1 I K (35607249318772 : Int64)) (fun v61 => gv (x4 + (9 : Int32)) 90 (bd (F_L_part n T0 T1 v61.1 v61.2 (v61.2 154 (Int32.toNatClampNeg (x4 + (9 : Int32))))) (fun v73 => gv (x4 + (10 : Int32)) 90 (bd (F_L_part n T0 T1 v73.1 v73.2 (v73.2 154 (Int32.toNatClampNeg (x4 + (10 : Int32))))) (fun v85 => gv (x4 + (11 : Int32)) 90 ((if (v85.2 154 (Int32.toNatClampNeg (x4 + (11 : Int32)))) = 0 then gv (x4 + (12 : Int32)) 90 ((if (v85.2 154 (Int32.toNatClampNeg (x4 + (12 : Int32)))) = 0 then L_L_train n T0 T1 a3 j 1 x4 x5 v85.1 v85.2 else bd (F_L_say n T0 T1 v85.1 v85.2 (65302602278516 : Int64)) (fun v147 => bd (F_L_part n T0 T1 v147.1 v147.2 a3) (fun v153 => gv (x4 + (11 : Int32)) 90 (bd (F_L_part n T0 T1 v153.1 v153.2 (v153.2 154 (Int32.toNatClampNeg (x4 + (11 : Int32))))) (fun v165 => gv (x4 + (12 : Int32)) 90 (bd (F_L_part n T0 T1 v165.1 v165.2 (v165.2 154 (Int32.toNatClampNeg (x4 + (12 : Int32))))) (fun v177 => L_L_train n T0 T1 a3 j 1 x4 x5 v177.1 v177.2)))))))) else bd (F_L_say n T0 T1 v85.1 v85.2 (65302602278516 : Int64)) (fun v147 => bd (F_L_part n T0 T1 v147.1 v147.2 a3) (fun v153 => gv (x4 + (11 : Int32)) 90 (bd (F_L_part n T0 T1 v153.1 v153.2 (v153.2 154 (Int32.toNatClampNeg (x4 + (11 : Int32))))) (fun v165 => gv (x4 + (12 : Int32)) 90 (bd (F_L_part n T0 T1 v165.1 v165.2 (v165.2 154 (Int32.toNatClampNeg (x4 + (12 : Int32))))) (fun v177 => L_L_train n T0 T1 a3 j 1 x4 x5 v177.1 v177.2))))))))))))) else gv (x4 + (8 : Int32)) 90 ((if (K 154 (Int32.toNatClampNeg (x4 + (8 : Int32)))) = (2 : Int32) then bd (F_L_say n T0 T1 I K (9132996488162919 : Int64)) (fun v107 => gv (x4 + (9 : Int32)) 90 (bd (F_L_part n T0 T1 v107.1 v107.2 (v107.2 154 (Int32.toNatClampNeg (x4 + (9 : Int32))))) (fun v119 => gv (x4 + (11 : Int32)) 90 ((if (v119.2 154 (Int32.toNatClampNeg (x4 + (11 : Int32)))) = 0 then gv (x4 + (12 : Int32)) 90 ((if (v119.2 154 (Int32.toNatClampNeg (x4 + (12 : Int32)))) = 0 then L_L_train n T0 T1 a3 j 1 x4 x5 v119.1 v119.2 else bd (F_L_say n T0 T1 v119.1 v119.2 (65302602278516 : Int64)) (fun v147 => bd (F_L_part n T0 T1 v147.1 v147.2 a3) (fun v153 => gv (x4 + (11 : Int32)) 90 (bd (F_L_part n T0 T1 v153.1 v153.2 (v153.2 154 (Int32.toNatClampNeg (x4 + (11 : Int32))))) (fun v165 => gv (x4 + (12 : Int32)) 90 (bd (F_L_part n T0 T1 v165.1 v165.2 (v165.2 154 (Int32.toNatClampNeg (x4 + (12 : Int32))))) (fun v177 => L_L_train n T0 T1 a3 j 1 x4 x5 v177.1 v177.2)))))))) else bd (F_L_say n T0 T1 v119.1 v119.2 (65302602278516 : Int64)) (fun v147 => bd (F_L_part n T0 T1 v147.1 v147.2 a3) (fun v153 => gv (x4 + (11 : Int32)) 90 (bd (F_L_part n T0 T1 v153.1 v153.2 (v153.2 154 (Int32.toNatClampNeg (x4 + (11 : Int32))))) (fun v165 => gv (x4 + (12 : Int32)) 90 (bd (F_L_part n T0 T1 v165.1 v165.2 (v165.2 154 (Int32.toNatClampNeg (x4 + (12 : Int32))))) (fun v177 => L_L_train n T0 T1 a3 j 1 x4 x5 v177.1 v177.2))))))))))) else gv (x4 + (11 : Int32)) 90 ((if (K 154 (Int32.toNatClampNeg (x4 + (11 : Int32)))) = 0 then gv (x4 + (12 : Int32)) 90 ((if (K 154 (Int32.toNatClampNeg (x4 + (12 : Int32)))) = 0 then L_L_train n T0 T1 a3 j 1 x4 x5 I K else bd (F_L_say n T0 T1 I K (65302602278516 : Int64)) (fun v147 => bd (F_L_part n T0 T1 v147.1 v147.2 a3) (fun v153 => gv (x4 + (11 : Int32)) 90 (bd (F_L_part n T0 T1 v153.1 v153.2 (v153.2 154 (Int32.toNatClampNeg (x4 + (11 : Int32))))) (fun v165 => gv (x4 + (12 : Int32)) 90 (bd (F_L_part n T0 T1 v165.1 v165.2 (v165.2 154 (Int32.toNatClampNeg (x4 + (12 : Int32))))) (fun v177 => L_L_train n T0 T1 a3 j 1 x4 x5 v177.1 v177.2)))))))) else bd (F_L_say n T0 T1 I K (65302602278516 : Int64)) (fun v147 => bd (F_L_part n T0 T1 v147.1 v147.2 a3) (fun v153 => gv (x4 + (11 : Int32)) 90 (bd (F_L_part n T0 T1 v153.1 v153.2 (v153.2 154 (Int32.toNatClampNeg (x4 + (11 : Int32))))) (fun v165 => gv (x4 + (12 : Int32)) 90 (bd (F_L_part n T0 T1 v165.1 v165.2 (v165.2 154 (Int32.toNatClampNeg (x4 + (12 : Int32))))) (fun v177 => L_L_train n T0 T1 a3 j 1 x4 x5 v177.1 v177.2)))))))))))) else gv (x4 + x5) 90 (bd (F_L_part n T0 T1 I K (K 154 (Int32.toNatClampNeg (x4 + x5)))) (fun v36 => L_L_train n T0 T1 a3 j 0 x4 (x5 + (1 : Int32)) v36.1 v36.2))) := rfl
theorem L_L_train_e1 (n j : Nat) (T0 T1 : Nat) (a3 : Int32) (x4 : Int32) (x5 : Int32) (I : gI) (K : gI) : L_L_train n T0 T1 a3 (j + 1) 1 x4 x5 I K = gv (x4 + (13 : Int32)) 90 ((if (K 154 (Int32.toNatClampNeg (x4 + (13 : Int32)))) = 0 then bd (F_L_say n T0 T1 I K (997156454 : Int64)) (fun v195 => bd (F_L_part n T0 T1 v195.1 v195.2 a3) (fun v201 => gv (x4 + (14 : Int32)) 90 ((if (v201.2 154 (Int32.toNatClampNeg (x4 + (14 : Int32)))) = 0 then some (v201.1, v201.2) else bd (F_L_say n T0 T1 v201.1 v201.2 (65366858494053 : Int64)) (fun v220 => bd (F_L_part n T0 T1 v220.1 v220.2 a3) (fun v226 => gv (x4 + (14 : Int32)) 90 ((if (v226.2 154 (Int32.toNatClampNeg (x4 + (14 : Int32)))) = (1 : Int32) then bd (F_L_say n T0 T1 v226.1 v226.2 (9134130392560229 : Int64)) (fun v245 => some (v245.1, v245.2)) else bd (F_L_say n T0 T1 v226.1 v226.2 (544432503 : Int64)) (fun v256 => some (v256.1, v256.2)))))))))) else gv (x4 + (14 : Int32)) 90 ((if (K 154 (Int32.toNatClampNeg (x4 + (14 : Int32)))) = 0 then some (I, K) else bd (F_L_say n T0 T1 I K (65366858494053 : Int64)) (fun v220 => bd (F_L_part n T0 T1 v220.1 v220.2 a3) (fun v226 => gv (x4 + (14 : Int32)) 90 ((if (v226.2 154 (Int32.toNatClampNeg (x4 + (14 : Int32)))) = (1 : Int32) then bd (F_L_say n T0 T1 v226.1 v226.2 (9134130392560229 : Int64)) (fun v245 => some (v245.1, v245.2)) else bd (F_L_say n T0 T1 v226.1 v226.2 (544432503 : Int64)) (fun v256 => some (v256.1, v256.2)))))))))) := rfl
set_option maxHeartbeats 4000000 in
set_option maxRecDepth 100000 in
theorem cL_L_train {G : gG} {lay : Nat → Nat × Nat} {T0 T1 : Nat} {Dd : Nat → Nat → UInt64} {J : gJ} {N : gJ} {sz n : Nat} {a3 : Int32} (hs : G.1.stackTraces = false) (hE : gLay lay) (hT0 : gTank lay T0) (hT1 : gTank lay T1) : ∀ j : Nat, (∀ (x4 : Int32) (x5 : Int32) (I : gI) (K : gI) (r : gI × gI), L_L_train n T0 T1 a3 j 0 x4 x5 I K = some r → gAt G mL_train (gQp G mL_train (gR none (fO G (lay, T0, T1, Dd) r.1 J r.2 N) sz)) 20 [some (.ref (G.2.2.1 + 0)), some (.ref (G.2.2.1 + 153)), some (.ref (G.2.2.1 + 154)), some (.int a3), some (.int x4), some (.int x5)] [] (fO G (lay, T0, T1, Dd) I J K N) sz 0 0) ∧ (∀ (x4 : Int32) (x5 : Int32) (I : gI) (K : gI) (r : gI × gI), L_L_train n T0 T1 a3 j 1 x4 x5 I K = some r → gAt G mL_train (gQp G mL_train (gR none (fO G (lay, T0, T1, Dd) r.1 J r.2 N) sz)) 180 [some (.ref (G.2.2.1 + 0)), some (.ref (G.2.2.1 + 153)), some (.ref (G.2.2.1 + 154)), some (.int a3), some (.int x4), some (.int x5)] [] (fO G (lay, T0, T1, Dd) I J K N) sz 0 0) := by
  intro j
  induction j with
  | zero => exact ⟨fun _ _ _ _ _ hf => (by cases hf), fun _ _ _ _ _ hf => (by cases hf)⟩
  | succ j ih =>
    refine ⟨?_, ?_⟩
    · intro x4 x5 I K r hf
      rw [L_L_train_e0] at hf
      refine r_iload dL_train_20 rfl ?_
      refine r_bipush (v := (8 : Int32)) dL_train_22 (by decide) ?_
      refine r_icmp_ge (tgt := 45) dL_train_24 (by decide) (fun c24 => ?_) (fun c24 => ?_)
      · replace hf := if_t hf c24
        refine r_aload_n dL_train_45 rfl ?_
        refine r_iload dL_train_46 rfl ?_
        refine r_bipush (v := (8 : Int32)) dL_train_48 (by decide) ?_
        refine r_iadd dL_train_50 ?_
        obtain ⟨h51, hf⟩ := gv_of hf
        refine m_iald dL_train_51 (hE 154 (by decide)) h51 ?_
        refine r_iconst (v := (1 : Int32)) dL_train_52 (by decide) ?_
        refine r_icmp_ne (tgt := 91) dL_train_53 (by decide) (fun c53 => ?_) (fun c53 => ?_)
        · replace hf := if_f hf c53
          refine r_aload_n dL_train_91 rfl ?_
          refine r_iload dL_train_92 rfl ?_
          refine r_bipush (v := (8 : Int32)) dL_train_94 (by decide) ?_
          refine r_iadd dL_train_96 ?_
          obtain ⟨h97, hf⟩ := gv_of hf
          refine m_iald dL_train_97 (hE 154 (by decide)) h97 ?_
          refine r_iconst (v := (2 : Int32)) dL_train_98 (by decide) ?_
          refine r_icmp_ne (tgt := 122) dL_train_99 (by decide) (fun c99 => ?_) (fun c99 => ?_)
          · replace hf := if_f hf c99
            refine r_aload_n dL_train_122 rfl ?_
            refine r_iload dL_train_123 rfl ?_
            refine r_bipush (v := (11 : Int32)) dL_train_125 (by decide) ?_
            refine r_iadd dL_train_127 ?_
            obtain ⟨h128, hf⟩ := gv_of hf
            refine m_iald dL_train_128 (hE 154 (by decide)) h128 ?_
            refine r_if_ne (tgt := 142) dL_train_129 (by decide) (fun c129 => ?_) (fun c129 => ?_)
            · replace hf := if_f hf c129
              refine r_aload_n dL_train_142 rfl ?_
              refine r_aload_n dL_train_143 rfl ?_
              refine r_ldc2 dL_train_144 wd_827 ?_
              obtain ⟨v147, hc147, hf⟩ := bd_of hf
              refine r_cSv (rest := []) (ct_L_say hs hE hT0 hT1 hc147) dL_train_147 wd_790 zL_say wd_791 rfl  rfl rfl ⟨Nat.le_of_ble_eq_true rfl, Nat.le_of_ble_eq_true rfl⟩ (Nat.le_of_ble_eq_true rfl) ⟨Nat.le_of_ble_eq_true rfl, Nat.le_of_ble_eq_true rfl⟩ ?_
              refine r_aload_n dL_train_150 rfl ?_
              refine r_aload_n dL_train_151 rfl ?_
              refine r_iload_n dL_train_152 rfl ?_
              obtain ⟨v153, hc153, hf⟩ := bd_of hf
              refine r_cSv (rest := []) (ct_L_part hs hE hT0 hT1 hc153) dL_train_153 wd_809 zL_part wd_810 rfl  rfl rfl ⟨Nat.le_of_ble_eq_true rfl, Nat.le_of_ble_eq_true rfl⟩ (Nat.le_of_ble_eq_true rfl) ⟨Nat.le_of_ble_eq_true rfl, Nat.le_of_ble_eq_true rfl⟩ ?_
              refine r_aload_n dL_train_156 rfl ?_
              refine r_aload_n dL_train_157 rfl ?_
              refine r_aload_n dL_train_158 rfl ?_
              refine r_iload dL_train_159 rfl ?_
              refine r_bipush (v := (11 : Int32)) dL_train_161 (by decide) ?_
              refine r_iadd dL_train_163 ?_
              obtain ⟨h164, hf⟩ := gv_of hf
              refine m_iald dL_train_164 (hE 154 (by decide)) h164 ?_
              obtain ⟨v165, hc165, hf⟩ := bd_of hf
              refine r_cSv (rest := []) (ct_L_part hs hE hT0 hT1 hc165) dL_train_165 wd_809 zL_part wd_810 rfl  rfl rfl ⟨Nat.le_of_ble_eq_true rfl, Nat.le_of_ble_eq_true rfl⟩ (Nat.le_of_ble_eq_true rfl) ⟨Nat.le_of_ble_eq_true rfl, Nat.le_of_ble_eq_true rfl⟩ ?_
              refine r_aload_n dL_train_168 rfl ?_
              refine r_aload_n dL_train_169 rfl ?_
              refine r_aload_n dL_train_170 rfl ?_
              refine r_iload dL_train_171 rfl ?_
              refine r_bipush (v := (12 : Int32)) dL_train_173 (by decide) ?_
              refine r_iadd dL_train_175 ?_
              obtain ⟨h176, hf⟩ := gv_of hf
              refine m_iald dL_train_176 (hE 154 (by decide)) h176 ?_
              obtain ⟨v177, hc177, hf⟩ := bd_of hf
              refine r_cSv (rest := []) (ct_L_part hs hE hT0 hT1 hc177) dL_train_177 wd_809 zL_part wd_810 rfl  rfl rfl ⟨Nat.le_of_ble_eq_true rfl, Nat.le_of_ble_eq_true rfl⟩ (Nat.le_of_ble_eq_true rfl) ⟨Nat.le_of_ble_eq_true rfl, Nat.le_of_ble_eq_true rfl⟩ ?_
              exact r_widen (k2 := 0) (n2 := 0) (Nat.le_of_ble_eq_true rfl) (Nat.le_of_ble_eq_true rfl) (r_mask [true, true, true, true, true, true] rfl (ih.2 x4 x5 v177.1 v177.2 r hf))
            · replace hf := if_t hf c129
              refine r_aload_n dL_train_132 rfl ?_
              refine r_iload dL_train_133 rfl ?_
              refine r_bipush (v := (12 : Int32)) dL_train_135 (by decide) ?_
              refine r_iadd dL_train_137 ?_
              obtain ⟨h138, hf⟩ := gv_of hf
              refine m_iald dL_train_138 (hE 154 (by decide)) h138 ?_
              refine r_if_eq (tgt := 180) dL_train_139 (by decide) (fun c139 => ?_) (fun c139 => ?_)
              · replace hf := if_t hf c139
                exact r_widen (k2 := 0) (n2 := 0) (Nat.le_of_ble_eq_true rfl) (Nat.le_of_ble_eq_true rfl) (r_mask [true, true, true, true, true, true] rfl (ih.2 x4 x5 I K r hf))
              · replace hf := if_f hf c139
                refine r_aload_n dL_train_142 rfl ?_
                refine r_aload_n dL_train_143 rfl ?_
                refine r_ldc2 dL_train_144 wd_827 ?_
                obtain ⟨v147, hc147, hf⟩ := bd_of hf
                refine r_cSv (rest := []) (ct_L_say hs hE hT0 hT1 hc147) dL_train_147 wd_790 zL_say wd_791 rfl  rfl rfl ⟨Nat.le_of_ble_eq_true rfl, Nat.le_of_ble_eq_true rfl⟩ (Nat.le_of_ble_eq_true rfl) ⟨Nat.le_of_ble_eq_true rfl, Nat.le_of_ble_eq_true rfl⟩ ?_
                refine r_aload_n dL_train_150 rfl ?_
                refine r_aload_n dL_train_151 rfl ?_
                refine r_iload_n dL_train_152 rfl ?_
                obtain ⟨v153, hc153, hf⟩ := bd_of hf
                refine r_cSv (rest := []) (ct_L_part hs hE hT0 hT1 hc153) dL_train_153 wd_809 zL_part wd_810 rfl  rfl rfl ⟨Nat.le_of_ble_eq_true rfl, Nat.le_of_ble_eq_true rfl⟩ (Nat.le_of_ble_eq_true rfl) ⟨Nat.le_of_ble_eq_true rfl, Nat.le_of_ble_eq_true rfl⟩ ?_
                refine r_aload_n dL_train_156 rfl ?_
                refine r_aload_n dL_train_157 rfl ?_
                refine r_aload_n dL_train_158 rfl ?_
                refine r_iload dL_train_159 rfl ?_
                refine r_bipush (v := (11 : Int32)) dL_train_161 (by decide) ?_
                refine r_iadd dL_train_163 ?_
                obtain ⟨h164, hf⟩ := gv_of hf
                refine m_iald dL_train_164 (hE 154 (by decide)) h164 ?_
                obtain ⟨v165, hc165, hf⟩ := bd_of hf
                refine r_cSv (rest := []) (ct_L_part hs hE hT0 hT1 hc165) dL_train_165 wd_809 zL_part wd_810 rfl  rfl rfl ⟨Nat.le_of_ble_eq_true rfl, Nat.le_of_ble_eq_true rfl⟩ (Nat.le_of_ble_eq_true rfl) ⟨Nat.le_of_ble_eq_true rfl, Nat.le_of_ble_eq_true rfl⟩ ?_
                refine r_aload_n dL_train_168 rfl ?_
                refine r_aload_n dL_train_169 rfl ?_
                refine r_aload_n dL_train_170 rfl ?_
                refine r_iload dL_train_171 rfl ?_
                refine r_bipush (v := (12 : Int32)) dL_train_173 (by decide) ?_
                refine r_iadd dL_train_175 ?_
                obtain ⟨h176, hf⟩ := gv_of hf
                refine m_iald dL_train_176 (hE 154 (by decide)) h176 ?_
                obtain ⟨v177, hc177, hf⟩ := bd_of hf
                refine r_cSv (rest := []) (ct_L_part hs hE hT0 hT1 hc177) dL_train_177 wd_809 zL_part wd_810 rfl  rfl rfl ⟨Nat.le_of_ble_eq_true rfl, Nat.le_of_ble_eq_true rfl⟩ (Nat.le_of_ble_eq_true rfl) ⟨Nat.le_of_ble_eq_true rfl, Nat.le_of_ble_eq_true rfl⟩ ?_
                exact r_widen (k2 := 0) (n2 := 0) (Nat.le_of_ble_eq_true rfl) (Nat.le_of_ble_eq_true rfl) (r_mask [true, true, true, true, true, true] rfl (ih.2 x4 x5 v177.1 v177.2 r hf))
          · replace hf := if_t hf c99
            refine r_aload_n dL_train_102 rfl ?_
            refine r_aload_n dL_train_103 rfl ?_
            refine r_ldc2 dL_train_104 wd_826 ?_
            obtain ⟨v107, hc107, hf⟩ := bd_of hf
            refine r_cSv (rest := []) (ct_L_say hs hE hT0 hT1 hc107) dL_train_107 wd_790 zL_say wd_791 rfl  rfl rfl ⟨Nat.le_of_ble_eq_true rfl, Nat.le_of_ble_eq_true rfl⟩ (Nat.le_of_ble_eq_true rfl) ⟨Nat.le_of_ble_eq_true rfl, Nat.le_of_ble_eq_true rfl⟩ ?_
            refine r_aload_n dL_train_110 rfl ?_
            refine r_aload_n dL_train_111 rfl ?_
            refine r_aload_n dL_train_112 rfl ?_
            refine r_iload dL_train_113 rfl ?_
            refine r_bipush (v := (9 : Int32)) dL_train_115 (by decide) ?_
            refine r_iadd dL_train_117 ?_
            obtain ⟨h118, hf⟩ := gv_of hf
            refine m_iald dL_train_118 (hE 154 (by decide)) h118 ?_
            obtain ⟨v119, hc119, hf⟩ := bd_of hf
            refine r_cSv (rest := []) (ct_L_part hs hE hT0 hT1 hc119) dL_train_119 wd_809 zL_part wd_810 rfl  rfl rfl ⟨Nat.le_of_ble_eq_true rfl, Nat.le_of_ble_eq_true rfl⟩ (Nat.le_of_ble_eq_true rfl) ⟨Nat.le_of_ble_eq_true rfl, Nat.le_of_ble_eq_true rfl⟩ ?_
            refine r_aload_n dL_train_122 rfl ?_
            refine r_iload dL_train_123 rfl ?_
            refine r_bipush (v := (11 : Int32)) dL_train_125 (by decide) ?_
            refine r_iadd dL_train_127 ?_
            obtain ⟨h128, hf⟩ := gv_of hf
            refine m_iald dL_train_128 (hE 154 (by decide)) h128 ?_
            refine r_if_ne (tgt := 142) dL_train_129 (by decide) (fun c129 => ?_) (fun c129 => ?_)
            · replace hf := if_f hf c129
              refine r_aload_n dL_train_142 rfl ?_
              refine r_aload_n dL_train_143 rfl ?_
              refine r_ldc2 dL_train_144 wd_827 ?_
              obtain ⟨v147, hc147, hf⟩ := bd_of hf
              refine r_cSv (rest := []) (ct_L_say hs hE hT0 hT1 hc147) dL_train_147 wd_790 zL_say wd_791 rfl  rfl rfl ⟨Nat.le_of_ble_eq_true rfl, Nat.le_of_ble_eq_true rfl⟩ (Nat.le_of_ble_eq_true rfl) ⟨Nat.le_of_ble_eq_true rfl, Nat.le_of_ble_eq_true rfl⟩ ?_
              refine r_aload_n dL_train_150 rfl ?_
              refine r_aload_n dL_train_151 rfl ?_
              refine r_iload_n dL_train_152 rfl ?_
              obtain ⟨v153, hc153, hf⟩ := bd_of hf
              refine r_cSv (rest := []) (ct_L_part hs hE hT0 hT1 hc153) dL_train_153 wd_809 zL_part wd_810 rfl  rfl rfl ⟨Nat.le_of_ble_eq_true rfl, Nat.le_of_ble_eq_true rfl⟩ (Nat.le_of_ble_eq_true rfl) ⟨Nat.le_of_ble_eq_true rfl, Nat.le_of_ble_eq_true rfl⟩ ?_
              refine r_aload_n dL_train_156 rfl ?_
              refine r_aload_n dL_train_157 rfl ?_
              refine r_aload_n dL_train_158 rfl ?_
              refine r_iload dL_train_159 rfl ?_
              refine r_bipush (v := (11 : Int32)) dL_train_161 (by decide) ?_
              refine r_iadd dL_train_163 ?_
              obtain ⟨h164, hf⟩ := gv_of hf
              refine m_iald dL_train_164 (hE 154 (by decide)) h164 ?_
              obtain ⟨v165, hc165, hf⟩ := bd_of hf
              refine r_cSv (rest := []) (ct_L_part hs hE hT0 hT1 hc165) dL_train_165 wd_809 zL_part wd_810 rfl  rfl rfl ⟨Nat.le_of_ble_eq_true rfl, Nat.le_of_ble_eq_true rfl⟩ (Nat.le_of_ble_eq_true rfl) ⟨Nat.le_of_ble_eq_true rfl, Nat.le_of_ble_eq_true rfl⟩ ?_
              refine r_aload_n dL_train_168 rfl ?_
              refine r_aload_n dL_train_169 rfl ?_
              refine r_aload_n dL_train_170 rfl ?_
              refine r_iload dL_train_171 rfl ?_
              refine r_bipush (v := (12 : Int32)) dL_train_173 (by decide) ?_
              refine r_iadd dL_train_175 ?_
              obtain ⟨h176, hf⟩ := gv_of hf
              refine m_iald dL_train_176 (hE 154 (by decide)) h176 ?_
              obtain ⟨v177, hc177, hf⟩ := bd_of hf
              refine r_cSv (rest := []) (ct_L_part hs hE hT0 hT1 hc177) dL_train_177 wd_809 zL_part wd_810 rfl  rfl rfl ⟨Nat.le_of_ble_eq_true rfl, Nat.le_of_ble_eq_true rfl⟩ (Nat.le_of_ble_eq_true rfl) ⟨Nat.le_of_ble_eq_true rfl, Nat.le_of_ble_eq_true rfl⟩ ?_
              exact r_widen (k2 := 0) (n2 := 0) (Nat.le_of_ble_eq_true rfl) (Nat.le_of_ble_eq_true rfl) (r_mask [true, true, true, true, true, true] rfl (ih.2 x4 x5 v177.1 v177.2 r hf))
            · replace hf := if_t hf c129
              refine r_aload_n dL_train_132 rfl ?_
              refine r_iload dL_train_133 rfl ?_
              refine r_bipush (v := (12 : Int32)) dL_train_135 (by decide) ?_
              refine r_iadd dL_train_137 ?_
              obtain ⟨h138, hf⟩ := gv_of hf
              refine m_iald dL_train_138 (hE 154 (by decide)) h138 ?_
              refine r_if_eq (tgt := 180) dL_train_139 (by decide) (fun c139 => ?_) (fun c139 => ?_)
              · replace hf := if_t hf c139
                exact r_widen (k2 := 0) (n2 := 0) (Nat.le_of_ble_eq_true rfl) (Nat.le_of_ble_eq_true rfl) (r_mask [true, true, true, true, true, true] rfl (ih.2 x4 x5 v119.1 v119.2 r hf))
              · replace hf := if_f hf c139
                refine r_aload_n dL_train_142 rfl ?_
                refine r_aload_n dL_train_143 rfl ?_
                refine r_ldc2 dL_train_144 wd_827 ?_
                obtain ⟨v147, hc147, hf⟩ := bd_of hf
                refine r_cSv (rest := []) (ct_L_say hs hE hT0 hT1 hc147) dL_train_147 wd_790 zL_say wd_791 rfl  rfl rfl ⟨Nat.le_of_ble_eq_true rfl, Nat.le_of_ble_eq_true rfl⟩ (Nat.le_of_ble_eq_true rfl) ⟨Nat.le_of_ble_eq_true rfl, Nat.le_of_ble_eq_true rfl⟩ ?_
                refine r_aload_n dL_train_150 rfl ?_
                refine r_aload_n dL_train_151 rfl ?_
                refine r_iload_n dL_train_152 rfl ?_
                obtain ⟨v153, hc153, hf⟩ := bd_of hf
                refine r_cSv (rest := []) (ct_L_part hs hE hT0 hT1 hc153) dL_train_153 wd_809 zL_part wd_810 rfl  rfl rfl ⟨Nat.le_of_ble_eq_true rfl, Nat.le_of_ble_eq_true rfl⟩ (Nat.le_of_ble_eq_true rfl) ⟨Nat.le_of_ble_eq_true rfl, Nat.le_of_ble_eq_true rfl⟩ ?_
                refine r_aload_n dL_train_156 rfl ?_
                refine r_aload_n dL_train_157 rfl ?_
                refine r_aload_n dL_train_158 rfl ?_
                refine r_iload dL_train_159 rfl ?_
                refine r_bipush (v := (11 : Int32)) dL_train_161 (by decide) ?_
                refine r_iadd dL_train_163 ?_
                obtain ⟨h164, hf⟩ := gv_of hf
                refine m_iald dL_train_164 (hE 154 (by decide)) h164 ?_
                obtain ⟨v165, hc165, hf⟩ := bd_of hf
                refine r_cSv (rest := []) (ct_L_part hs hE hT0 hT1 hc165) dL_train_165 wd_809 zL_part wd_810 rfl  rfl rfl ⟨Nat.le_of_ble_eq_true rfl, Nat.le_of_ble_eq_true rfl⟩ (Nat.le_of_ble_eq_true rfl) ⟨Nat.le_of_ble_eq_true rfl, Nat.le_of_ble_eq_true rfl⟩ ?_
                refine r_aload_n dL_train_168 rfl ?_
                refine r_aload_n dL_train_169 rfl ?_
                refine r_aload_n dL_train_170 rfl ?_
                refine r_iload dL_train_171 rfl ?_
                refine r_bipush (v := (12 : Int32)) dL_train_173 (by decide) ?_
                refine r_iadd dL_train_175 ?_
                obtain ⟨h176, hf⟩ := gv_of hf
                refine m_iald dL_train_176 (hE 154 (by decide)) h176 ?_
                obtain ⟨v177, hc177, hf⟩ := bd_of hf
                refine r_cSv (rest := []) (ct_L_part hs hE hT0 hT1 hc177) dL_train_177 wd_809 zL_part wd_810 rfl  rfl rfl ⟨Nat.le_of_ble_eq_true rfl, Nat.le_of_ble_eq_true rfl⟩ (Nat.le_of_ble_eq_true rfl) ⟨Nat.le_of_ble_eq_true rfl, Nat.le_of_ble_eq_true rfl⟩ ?_
                exact r_widen (k2 := 0) (n2 := 0) (Nat.le_of_ble_eq_true rfl) (Nat.le_of_ble_eq_true rfl) (r_mask [true, true, true, true, true, true] rfl (ih.2 x4 x5 v177.1 v177.2 r hf))
        · replace hf := if_t hf c53
          refine r_aload_n dL_train_56 rfl ?_
          refine r_aload_n dL_train_57 rfl ?_
          refine r_ldc2 dL_train_58 wd_825 ?_
          obtain ⟨v61, hc61, hf⟩ := bd_of hf
          refine r_cSv (rest := []) (ct_L_say hs hE hT0 hT1 hc61) dL_train_61 wd_790 zL_say wd_791 rfl  rfl rfl ⟨Nat.le_of_ble_eq_true rfl, Nat.le_of_ble_eq_true rfl⟩ (Nat.le_of_ble_eq_true rfl) ⟨Nat.le_of_ble_eq_true rfl, Nat.le_of_ble_eq_true rfl⟩ ?_
          refine r_aload_n dL_train_64 rfl ?_
          refine r_aload_n dL_train_65 rfl ?_
          refine r_aload_n dL_train_66 rfl ?_
          refine r_iload dL_train_67 rfl ?_
          refine r_bipush (v := (9 : Int32)) dL_train_69 (by decide) ?_
          refine r_iadd dL_train_71 ?_
          obtain ⟨h72, hf⟩ := gv_of hf
          refine m_iald dL_train_72 (hE 154 (by decide)) h72 ?_
          obtain ⟨v73, hc73, hf⟩ := bd_of hf
          refine r_cSv (rest := []) (ct_L_part hs hE hT0 hT1 hc73) dL_train_73 wd_809 zL_part wd_810 rfl  rfl rfl ⟨Nat.le_of_ble_eq_true rfl, Nat.le_of_ble_eq_true rfl⟩ (Nat.le_of_ble_eq_true rfl) ⟨Nat.le_of_ble_eq_true rfl, Nat.le_of_ble_eq_true rfl⟩ ?_
          refine r_aload_n dL_train_76 rfl ?_
          refine r_aload_n dL_train_77 rfl ?_
          refine r_aload_n dL_train_78 rfl ?_
          refine r_iload dL_train_79 rfl ?_
          refine r_bipush (v := (10 : Int32)) dL_train_81 (by decide) ?_
          refine r_iadd dL_train_83 ?_
          obtain ⟨h84, hf⟩ := gv_of hf
          refine m_iald dL_train_84 (hE 154 (by decide)) h84 ?_
          obtain ⟨v85, hc85, hf⟩ := bd_of hf
          refine r_cSv (rest := []) (ct_L_part hs hE hT0 hT1 hc85) dL_train_85 wd_809 zL_part wd_810 rfl  rfl rfl ⟨Nat.le_of_ble_eq_true rfl, Nat.le_of_ble_eq_true rfl⟩ (Nat.le_of_ble_eq_true rfl) ⟨Nat.le_of_ble_eq_true rfl, Nat.le_of_ble_eq_true rfl⟩ ?_
          refine r_goto (tgt := 122) dL_train_88 (by decide) ?_
          refine r_aload_n dL_train_122 rfl ?_
          refine r_iload dL_train_123 rfl ?_
          refine r_bipush (v := (11 : Int32)) dL_train_125 (by decide) ?_
          refine r_iadd dL_train_127 ?_
          obtain ⟨h128, hf⟩ := gv_of hf
          refine m_iald dL_train_128 (hE 154 (by decide)) h128 ?_
          refine r_if_ne (tgt := 142) dL_train_129 (by decide) (fun c129 => ?_) (fun c129 => ?_)
          · replace hf := if_f hf c129
            refine r_aload_n dL_train_142 rfl ?_
            refine r_aload_n dL_train_143 rfl ?_
            refine r_ldc2 dL_train_144 wd_827 ?_
            obtain ⟨v147, hc147, hf⟩ := bd_of hf
            refine r_cSv (rest := []) (ct_L_say hs hE hT0 hT1 hc147) dL_train_147 wd_790 zL_say wd_791 rfl  rfl rfl ⟨Nat.le_of_ble_eq_true rfl, Nat.le_of_ble_eq_true rfl⟩ (Nat.le_of_ble_eq_true rfl) ⟨Nat.le_of_ble_eq_true rfl, Nat.le_of_ble_eq_true rfl⟩ ?_
            refine r_aload_n dL_train_150 rfl ?_
            refine r_aload_n dL_train_151 rfl ?_
            refine r_iload_n dL_train_152 rfl ?_
            obtain ⟨v153, hc153, hf⟩ := bd_of hf
            refine r_cSv (rest := []) (ct_L_part hs hE hT0 hT1 hc153) dL_train_153 wd_809 zL_part wd_810 rfl  rfl rfl ⟨Nat.le_of_ble_eq_true rfl, Nat.le_of_ble_eq_true rfl⟩ (Nat.le_of_ble_eq_true rfl) ⟨Nat.le_of_ble_eq_true rfl, Nat.le_of_ble_eq_true rfl⟩ ?_
            refine r_aload_n dL_train_156 rfl ?_
            refine r_aload_n dL_train_157 rfl ?_
            refine r_aload_n dL_train_158 rfl ?_
            refine r_iload dL_train_159 rfl ?_
            refine r_bipush (v := (11 : Int32)) dL_train_161 (by decide) ?_
            refine r_iadd dL_train_163 ?_
            obtain ⟨h164, hf⟩ := gv_of hf
            refine m_iald dL_train_164 (hE 154 (by decide)) h164 ?_
            obtain ⟨v165, hc165, hf⟩ := bd_of hf
            refine r_cSv (rest := []) (ct_L_part hs hE hT0 hT1 hc165) dL_train_165 wd_809 zL_part wd_810 rfl  rfl rfl ⟨Nat.le_of_ble_eq_true rfl, Nat.le_of_ble_eq_true rfl⟩ (Nat.le_of_ble_eq_true rfl) ⟨Nat.le_of_ble_eq_true rfl, Nat.le_of_ble_eq_true rfl⟩ ?_
            refine r_aload_n dL_train_168 rfl ?_
            refine r_aload_n dL_train_169 rfl ?_
            refine r_aload_n dL_train_170 rfl ?_
            refine r_iload dL_train_171 rfl ?_
            refine r_bipush (v := (12 : Int32)) dL_train_173 (by decide) ?_
            refine r_iadd dL_train_175 ?_
            obtain ⟨h176, hf⟩ := gv_of hf
            refine m_iald dL_train_176 (hE 154 (by decide)) h176 ?_
            obtain ⟨v177, hc177, hf⟩ := bd_of hf
            refine r_cSv (rest := []) (ct_L_part hs hE hT0 hT1 hc177) dL_train_177 wd_809 zL_part wd_810 rfl  rfl rfl ⟨Nat.le_of_ble_eq_true rfl, Nat.le_of_ble_eq_true rfl⟩ (Nat.le_of_ble_eq_true rfl) ⟨Nat.le_of_ble_eq_true rfl, Nat.le_of_ble_eq_true rfl⟩ ?_
            exact r_widen (k2 := 0) (n2 := 0) (Nat.le_of_ble_eq_true rfl) (Nat.le_of_ble_eq_true rfl) (r_mask [true, true, true, true, true, true] rfl (ih.2 x4 x5 v177.1 v177.2 r hf))
          · replace hf := if_t hf c129
            refine r_aload_n dL_train_132 rfl ?_
            refine r_iload dL_train_133 rfl ?_
            refine r_bipush (v := (12 : Int32)) dL_train_135 (by decide) ?_
            refine r_iadd dL_train_137 ?_
            obtain ⟨h138, hf⟩ := gv_of hf
            refine m_iald dL_train_138 (hE 154 (by decide)) h138 ?_
            refine r_if_eq (tgt := 180) dL_train_139 (by decide) (fun c139 => ?_) (fun c139 => ?_)
            · replace hf := if_t hf c139
              exact r_widen (k2 := 0) (n2 := 0) (Nat.le_of_ble_eq_true rfl) (Nat.le_of_ble_eq_true rfl) (r_mask [true, true, true, true, true, true] rfl (ih.2 x4 x5 v85.1 v85.2 r hf))
            · replace hf := if_f hf c139
              refine r_aload_n dL_train_142 rfl ?_
              refine r_aload_n dL_train_143 rfl ?_
              refine r_ldc2 dL_train_144 wd_827 ?_
              obtain ⟨v147, hc147, hf⟩ := bd_of hf
              refine r_cSv (rest := []) (ct_L_say hs hE hT0 hT1 hc147) dL_train_147 wd_790 zL_say wd_791 rfl  rfl rfl ⟨Nat.le_of_ble_eq_true rfl, Nat.le_of_ble_eq_true rfl⟩ (Nat.le_of_ble_eq_true rfl) ⟨Nat.le_of_ble_eq_true rfl, Nat.le_of_ble_eq_true rfl⟩ ?_
              refine r_aload_n dL_train_150 rfl ?_
              refine r_aload_n dL_train_151 rfl ?_
              refine r_iload_n dL_train_152 rfl ?_
              obtain ⟨v153, hc153, hf⟩ := bd_of hf
              refine r_cSv (rest := []) (ct_L_part hs hE hT0 hT1 hc153) dL_train_153 wd_809 zL_part wd_810 rfl  rfl rfl ⟨Nat.le_of_ble_eq_true rfl, Nat.le_of_ble_eq_true rfl⟩ (Nat.le_of_ble_eq_true rfl) ⟨Nat.le_of_ble_eq_true rfl, Nat.le_of_ble_eq_true rfl⟩ ?_
              refine r_aload_n dL_train_156 rfl ?_
              refine r_aload_n dL_train_157 rfl ?_
              refine r_aload_n dL_train_158 rfl ?_
              refine r_iload dL_train_159 rfl ?_
              refine r_bipush (v := (11 : Int32)) dL_train_161 (by decide) ?_
              refine r_iadd dL_train_163 ?_
              obtain ⟨h164, hf⟩ := gv_of hf
              refine m_iald dL_train_164 (hE 154 (by decide)) h164 ?_
              obtain ⟨v165, hc165, hf⟩ := bd_of hf
              refine r_cSv (rest := []) (ct_L_part hs hE hT0 hT1 hc165) dL_train_165 wd_809 zL_part wd_810 rfl  rfl rfl ⟨Nat.le_of_ble_eq_true rfl, Nat.le_of_ble_eq_true rfl⟩ (Nat.le_of_ble_eq_true rfl) ⟨Nat.le_of_ble_eq_true rfl, Nat.le_of_ble_eq_true rfl⟩ ?_
              refine r_aload_n dL_train_168 rfl ?_
              refine r_aload_n dL_train_169 rfl ?_
              refine r_aload_n dL_train_170 rfl ?_
              refine r_iload dL_train_171 rfl ?_
              refine r_bipush (v := (12 : Int32)) dL_train_173 (by decide) ?_
              refine r_iadd dL_train_175 ?_
              obtain ⟨h176, hf⟩ := gv_of hf
              refine m_iald dL_train_176 (hE 154 (by decide)) h176 ?_
              obtain ⟨v177, hc177, hf⟩ := bd_of hf
              refine r_cSv (rest := []) (ct_L_part hs hE hT0 hT1 hc177) dL_train_177 wd_809 zL_part wd_810 rfl  rfl rfl ⟨Nat.le_of_ble_eq_true rfl, Nat.le_of_ble_eq_true rfl⟩ (Nat.le_of_ble_eq_true rfl) ⟨Nat.le_of_ble_eq_true rfl, Nat.le_of_ble_eq_true rfl⟩ ?_
              exact r_widen (k2 := 0) (n2 := 0) (Nat.le_of_ble_eq_true rfl) (Nat.le_of_ble_eq_true rfl) (r_mask [true, true, true, true, true, true] rfl (ih.2 x4 x5 v177.1 v177.2 r hf))
      · replace hf := if_f hf c24
        refine r_aload_n dL_train_27 rfl ?_
        refine r_aload_n dL_train_28 rfl ?_
        refine r_aload_n dL_train_29 rfl ?_
        refine r_iload dL_train_30 rfl ?_
        refine r_iload dL_train_32 rfl ?_
        refine r_iadd dL_train_34 ?_
        obtain ⟨h35, hf⟩ := gv_of hf
        refine m_iald dL_train_35 (hE 154 (by decide)) h35 ?_
        obtain ⟨v36, hc36, hf⟩ := bd_of hf
        refine r_cSv (rest := []) (ct_L_part hs hE hT0 hT1 hc36) dL_train_36 wd_809 zL_part wd_810 rfl  rfl rfl ⟨Nat.le_of_ble_eq_true rfl, Nat.le_of_ble_eq_true rfl⟩ (Nat.le_of_ble_eq_true rfl) ⟨Nat.le_of_ble_eq_true rfl, Nat.le_of_ble_eq_true rfl⟩ ?_
        refine r_iincv (v := (x5 + (1 : Int32))) dL_train_39 rfl rfl (by decide) rfl ?_
        refine r_goto (tgt := 20) dL_train_42 (by decide) ?_
        exact r_widen (k2 := 0) (n2 := 0) (Nat.le_of_ble_eq_true rfl) (Nat.le_of_ble_eq_true rfl) (r_mask [true, true, true, true, true, true] rfl (ih.1 x4 (x5 + (1 : Int32)) v36.1 v36.2 r hf))
    · intro x4 x5 I K r hf
      rw [L_L_train_e1] at hf
      refine r_aload_n dL_train_180 rfl ?_
      refine r_iload dL_train_181 rfl ?_
      refine r_bipush (v := (13 : Int32)) dL_train_183 (by decide) ?_
      refine r_iadd dL_train_185 ?_
      obtain ⟨h186, hf⟩ := gv_of hf
      refine m_iald dL_train_186 (hE 154 (by decide)) h186 ?_
      refine r_if_ne (tgt := 204) dL_train_187 (by decide) (fun c187 => ?_) (fun c187 => ?_)
      · replace hf := if_f hf c187
        refine r_aload_n dL_train_204 rfl ?_
        refine r_iload dL_train_205 rfl ?_
        refine r_bipush (v := (14 : Int32)) dL_train_207 (by decide) ?_
        refine r_iadd dL_train_209 ?_
        obtain ⟨h210, hf⟩ := gv_of hf
        refine m_iald dL_train_210 (hE 154 (by decide)) h210 ?_
        refine r_if_ne (tgt := 215) dL_train_211 (by decide) (fun c211 => ?_) (fun c211 => ?_)
        · replace hf := if_f hf c211
          refine r_aload_n dL_train_215 rfl ?_
          refine r_aload_n dL_train_216 rfl ?_
          refine r_ldc2 dL_train_217 wd_829 ?_
          obtain ⟨v220, hc220, hf⟩ := bd_of hf
          refine r_cSv (rest := []) (ct_L_say hs hE hT0 hT1 hc220) dL_train_220 wd_790 zL_say wd_791 rfl  rfl rfl ⟨Nat.le_of_ble_eq_true rfl, Nat.le_of_ble_eq_true rfl⟩ (Nat.le_of_ble_eq_true rfl) ⟨Nat.le_of_ble_eq_true rfl, Nat.le_of_ble_eq_true rfl⟩ ?_
          refine r_aload_n dL_train_223 rfl ?_
          refine r_aload_n dL_train_224 rfl ?_
          refine r_iload_n dL_train_225 rfl ?_
          obtain ⟨v226, hc226, hf⟩ := bd_of hf
          refine r_cSv (rest := []) (ct_L_part hs hE hT0 hT1 hc226) dL_train_226 wd_809 zL_part wd_810 rfl  rfl rfl ⟨Nat.le_of_ble_eq_true rfl, Nat.le_of_ble_eq_true rfl⟩ (Nat.le_of_ble_eq_true rfl) ⟨Nat.le_of_ble_eq_true rfl, Nat.le_of_ble_eq_true rfl⟩ ?_
          refine r_aload_n dL_train_229 rfl ?_
          refine r_iload dL_train_230 rfl ?_
          refine r_bipush (v := (14 : Int32)) dL_train_232 (by decide) ?_
          refine r_iadd dL_train_234 ?_
          obtain ⟨h235, hf⟩ := gv_of hf
          refine m_iald dL_train_235 (hE 154 (by decide)) h235 ?_
          refine r_iconst (v := (1 : Int32)) dL_train_236 (by decide) ?_
          refine r_icmp_ne (tgt := 251) dL_train_237 (by decide) (fun c237 => ?_) (fun c237 => ?_)
          · replace hf := if_f hf c237
            refine r_aload_n dL_train_251 rfl ?_
            refine r_aload_n dL_train_252 rfl ?_
            refine r_ldc2 dL_train_253 wd_831 ?_
            obtain ⟨v256, hc256, hf⟩ := bd_of hf
            refine r_cSv (rest := []) (ct_L_say hs hE hT0 hT1 hc256) dL_train_256 wd_790 zL_say wd_791 rfl  rfl rfl ⟨Nat.le_of_ble_eq_true rfl, Nat.le_of_ble_eq_true rfl⟩ (Nat.le_of_ble_eq_true rfl) ⟨Nat.le_of_ble_eq_true rfl, Nat.le_of_ble_eq_true rfl⟩ ?_
            have hr := Option.some.inj hf
            subst hr
            exact r_vret dL_train_259 rfl (Nat.le_of_ble_eq_true rfl) (Nat.le_of_ble_eq_true rfl) ⟨rfl, rfl, rfl⟩
          · replace hf := if_t hf c237
            refine r_aload_n dL_train_240 rfl ?_
            refine r_aload_n dL_train_241 rfl ?_
            refine r_ldc2 dL_train_242 wd_830 ?_
            obtain ⟨v245, hc245, hf⟩ := bd_of hf
            refine r_cSv (rest := []) (ct_L_say hs hE hT0 hT1 hc245) dL_train_245 wd_790 zL_say wd_791 rfl  rfl rfl ⟨Nat.le_of_ble_eq_true rfl, Nat.le_of_ble_eq_true rfl⟩ (Nat.le_of_ble_eq_true rfl) ⟨Nat.le_of_ble_eq_true rfl, Nat.le_of_ble_eq_true rfl⟩ ?_
            refine r_goto (tgt := 259) dL_train_248 (by decide) ?_
            have hr := Option.some.inj hf
            subst hr
            exact r_vret dL_train_259 rfl (Nat.le_of_ble_eq_true rfl) (Nat.le_of_ble_eq_true rfl) ⟨rfl, rfl, rfl⟩
        · replace hf := if_t hf c211
          have hr := Option.some.inj hf
          subst hr
          exact r_vret dL_train_214 rfl (Nat.le_of_ble_eq_true rfl) (Nat.le_of_ble_eq_true rfl) ⟨rfl, rfl, rfl⟩
      · replace hf := if_t hf c187
        refine r_aload_n dL_train_190 rfl ?_
        refine r_aload_n dL_train_191 rfl ?_
        refine r_ldc2 dL_train_192 wd_828 ?_
        obtain ⟨v195, hc195, hf⟩ := bd_of hf
        refine r_cSv (rest := []) (ct_L_say hs hE hT0 hT1 hc195) dL_train_195 wd_790 zL_say wd_791 rfl  rfl rfl ⟨Nat.le_of_ble_eq_true rfl, Nat.le_of_ble_eq_true rfl⟩ (Nat.le_of_ble_eq_true rfl) ⟨Nat.le_of_ble_eq_true rfl, Nat.le_of_ble_eq_true rfl⟩ ?_
        refine r_aload_n dL_train_198 rfl ?_
        refine r_aload_n dL_train_199 rfl ?_
        refine r_iload_n dL_train_200 rfl ?_
        obtain ⟨v201, hc201, hf⟩ := bd_of hf
        refine r_cSv (rest := []) (ct_L_part hs hE hT0 hT1 hc201) dL_train_201 wd_809 zL_part wd_810 rfl  rfl rfl ⟨Nat.le_of_ble_eq_true rfl, Nat.le_of_ble_eq_true rfl⟩ (Nat.le_of_ble_eq_true rfl) ⟨Nat.le_of_ble_eq_true rfl, Nat.le_of_ble_eq_true rfl⟩ ?_
        refine r_aload_n dL_train_204 rfl ?_
        refine r_iload dL_train_205 rfl ?_
        refine r_bipush (v := (14 : Int32)) dL_train_207 (by decide) ?_
        refine r_iadd dL_train_209 ?_
        obtain ⟨h210, hf⟩ := gv_of hf
        refine m_iald dL_train_210 (hE 154 (by decide)) h210 ?_
        refine r_if_ne (tgt := 215) dL_train_211 (by decide) (fun c211 => ?_) (fun c211 => ?_)
        · replace hf := if_f hf c211
          refine r_aload_n dL_train_215 rfl ?_
          refine r_aload_n dL_train_216 rfl ?_
          refine r_ldc2 dL_train_217 wd_829 ?_
          obtain ⟨v220, hc220, hf⟩ := bd_of hf
          refine r_cSv (rest := []) (ct_L_say hs hE hT0 hT1 hc220) dL_train_220 wd_790 zL_say wd_791 rfl  rfl rfl ⟨Nat.le_of_ble_eq_true rfl, Nat.le_of_ble_eq_true rfl⟩ (Nat.le_of_ble_eq_true rfl) ⟨Nat.le_of_ble_eq_true rfl, Nat.le_of_ble_eq_true rfl⟩ ?_
          refine r_aload_n dL_train_223 rfl ?_
          refine r_aload_n dL_train_224 rfl ?_
          refine r_iload_n dL_train_225 rfl ?_
          obtain ⟨v226, hc226, hf⟩ := bd_of hf
          refine r_cSv (rest := []) (ct_L_part hs hE hT0 hT1 hc226) dL_train_226 wd_809 zL_part wd_810 rfl  rfl rfl ⟨Nat.le_of_ble_eq_true rfl, Nat.le_of_ble_eq_true rfl⟩ (Nat.le_of_ble_eq_true rfl) ⟨Nat.le_of_ble_eq_true rfl, Nat.le_of_ble_eq_true rfl⟩ ?_
          refine r_aload_n dL_train_229 rfl ?_
          refine r_iload dL_train_230 rfl ?_
          refine r_bipush (v := (14 : Int32)) dL_train_232 (by decide) ?_
          refine r_iadd dL_train_234 ?_
          obtain ⟨h235, hf⟩ := gv_of hf
          refine m_iald dL_train_235 (hE 154 (by decide)) h235 ?_
          refine r_iconst (v := (1 : Int32)) dL_train_236 (by decide) ?_
          refine r_icmp_ne (tgt := 251) dL_train_237 (by decide) (fun c237 => ?_) (fun c237 => ?_)
          · replace hf := if_f hf c237
            refine r_aload_n dL_train_251 rfl ?_
            refine r_aload_n dL_train_252 rfl ?_
            refine r_ldc2 dL_train_253 wd_831 ?_
            obtain ⟨v256, hc256, hf⟩ := bd_of hf
            refine r_cSv (rest := []) (ct_L_say hs hE hT0 hT1 hc256) dL_train_256 wd_790 zL_say wd_791 rfl  rfl rfl ⟨Nat.le_of_ble_eq_true rfl, Nat.le_of_ble_eq_true rfl⟩ (Nat.le_of_ble_eq_true rfl) ⟨Nat.le_of_ble_eq_true rfl, Nat.le_of_ble_eq_true rfl⟩ ?_
            have hr := Option.some.inj hf
            subst hr
            exact r_vret dL_train_259 rfl (Nat.le_of_ble_eq_true rfl) (Nat.le_of_ble_eq_true rfl) ⟨rfl, rfl, rfl⟩
          · replace hf := if_t hf c237
            refine r_aload_n dL_train_240 rfl ?_
            refine r_aload_n dL_train_241 rfl ?_
            refine r_ldc2 dL_train_242 wd_830 ?_
            obtain ⟨v245, hc245, hf⟩ := bd_of hf
            refine r_cSv (rest := []) (ct_L_say hs hE hT0 hT1 hc245) dL_train_245 wd_790 zL_say wd_791 rfl  rfl rfl ⟨Nat.le_of_ble_eq_true rfl, Nat.le_of_ble_eq_true rfl⟩ (Nat.le_of_ble_eq_true rfl) ⟨Nat.le_of_ble_eq_true rfl, Nat.le_of_ble_eq_true rfl⟩ ?_
            refine r_goto (tgt := 259) dL_train_248 (by decide) ?_
            have hr := Option.some.inj hf
            subst hr
            exact r_vret dL_train_259 rfl (Nat.le_of_ble_eq_true rfl) (Nat.le_of_ble_eq_true rfl) ⟨rfl, rfl, rfl⟩
        · replace hf := if_t hf c211
          have hr := Option.some.inj hf
          subst hr
          exact r_vret dL_train_214 rfl (Nat.le_of_ble_eq_true rfl) (Nat.le_of_ble_eq_true rfl) ⟨rfl, rfl, rfl⟩
def F_L_train (n : Nat) (T0 T1 : Nat) (I : gI) (K : gI) (a3 : Int32) : Option (gI × gI) := bd (F_L_say n T0 T1 I K (65371321231726 : Int64)) (fun v14 => L_L_train n T0 T1 a3 n 0 ((10 : Int32) + ((16 : Int32) * a3)) (0 : Int32) v14.1 v14.2)
set_option maxHeartbeats 4000000 in
set_option maxRecDepth 100000 in
theorem ct_L_train {G : gG} {lay : Nat → Nat × Nat} {T0 T1 : Nat} {Dd : Nat → Nat → UInt64} {I : gI} {J : gJ} {K : gI} {N : gJ} {sz n : Nat} {a3 : Int32} (hs : G.1.stackTraces = false) (hE : gLay lay) (hT0 : gTank lay T0) (hT1 : gTank lay T1) {r : gI × gI} (hf : F_L_train n T0 T1 I K a3 = some r) : gCt G mL_train [.ref (G.2.2.1 + 0), .ref (G.2.2.1 + 153), .ref (G.2.2.1 + 154), .int a3] (fO G (lay, T0, T1, Dd) I J K N) sz (gR none (fO G (lay, T0, T1, Dd) r.1 J r.2 N) sz) := by
  unfold F_L_train at hf
  refine gCt.of [some (.ref (G.2.2.1 + 0)), some (.ref (G.2.2.1 + 153)), some (.ref (G.2.2.1 + 154)), some (.int a3), none, none] (by decide +kernel) rfl hs rfl (Nat.le_of_ble_eq_true rfl) ?_
  refine r_bipush (v := (10 : Int32)) dL_train_0 (by decide) ?_
  refine r_bipush (v := (16 : Int32)) dL_train_2 (by decide) ?_
  refine r_iload_n dL_train_4 rfl ?_
  refine r_imul dL_train_5 ?_
  refine r_iadd dL_train_6 ?_
  refine r_istore dL_train_7 (by decide) rfl ?_
  refine r_aload_n dL_train_9 rfl ?_
  refine r_aload_n dL_train_10 rfl ?_
  refine r_ldc2 dL_train_11 wd_824 ?_
  obtain ⟨v14, hc14, hf⟩ := bd_of hf
  refine r_cSv (rest := []) (ct_L_say hs hE hT0 hT1 hc14) dL_train_14 wd_790 zL_say wd_791 rfl  rfl rfl ⟨Nat.le_of_ble_eq_true rfl, Nat.le_of_ble_eq_true rfl⟩ (Nat.le_of_ble_eq_true rfl) ⟨Nat.le_of_ble_eq_true rfl, Nat.le_of_ble_eq_true rfl⟩ ?_
  refine r_iconst (v := (0 : Int32)) dL_train_17 (by decide) ?_
  refine r_istore dL_train_18 (by decide) rfl ?_
  exact r_widen (k2 := 0) (n2 := 0) (Nat.le_of_ble_eq_true rfl) (Nat.le_of_ble_eq_true rfl) (r_mask [true, true, true, true, true, true] rfl ((cL_L_train hs hE hT0 hT1 n).1 ((10 : Int32) + ((16 : Int32) * a3)) (0 : Int32) v14.1 v14.2 r hf))
def L_L_shoaled (n : Nat) (K : gI) (a1 : Int32) (a2 : Int32) (a3 : Int32) : Nat → Nat → Int32 → Int32 → Option (Int32)
  | 0, _, _, _ => none
  | j + 1, 0, x4, x5 => (if ((72 : Int32) + ((5 : Int32) * (K 154 71))) ≤ x5 then some x4 else gv x5 90 ((if a1 < (K 154 (Int32.toNatClampNeg x5)) then L_L_shoaled n K a1 a2 a3 j 0 x4 (x5 + (5 : Int32)) else gv (x5 + (1 : Int32)) 90 ((if a2 < (K 154 (Int32.toNatClampNeg (x5 + (1 : Int32)))) then L_L_shoaled n K a1 a2 a3 j 0 x4 (x5 + (5 : Int32)) else gv (x5 + (2 : Int32)) 90 ((if (K 154 (Int32.toNatClampNeg (x5 + (2 : Int32)))) < a1 then L_L_shoaled n K a1 a2 a3 j 0 x4 (x5 + (5 : Int32)) else gv (x5 + (3 : Int32)) 90 ((if (K 154 (Int32.toNatClampNeg (x5 + (3 : Int32)))) < a2 then L_L_shoaled n K a1 a2 a3 j 0 x4 (x5 + (5 : Int32)) else gv (x5 + (4 : Int32)) 90 (L_L_shoaled n K a1 a2 a3 j 0 ((x4 * (K 154 (Int32.toNatClampNeg (x5 + (4 : Int32))))) / (100 : Int32)) (x5 + (5 : Int32))))))))))))
  | _ + 1, _, _, _ => none
theorem L_L_shoaled_e0 (n j : Nat) (K : gI) (a1 : Int32) (a2 : Int32) (a3 : Int32) (x4 : Int32) (x5 : Int32) : L_L_shoaled n K a1 a2 a3 (j + 1) 0 x4 x5 = (if ((72 : Int32) + ((5 : Int32) * (K 154 71))) ≤ x5 then some x4 else gv x5 90 ((if a1 < (K 154 (Int32.toNatClampNeg x5)) then L_L_shoaled n K a1 a2 a3 j 0 x4 (x5 + (5 : Int32)) else gv (x5 + (1 : Int32)) 90 ((if a2 < (K 154 (Int32.toNatClampNeg (x5 + (1 : Int32)))) then L_L_shoaled n K a1 a2 a3 j 0 x4 (x5 + (5 : Int32)) else gv (x5 + (2 : Int32)) 90 ((if (K 154 (Int32.toNatClampNeg (x5 + (2 : Int32)))) < a1 then L_L_shoaled n K a1 a2 a3 j 0 x4 (x5 + (5 : Int32)) else gv (x5 + (3 : Int32)) 90 ((if (K 154 (Int32.toNatClampNeg (x5 + (3 : Int32)))) < a2 then L_L_shoaled n K a1 a2 a3 j 0 x4 (x5 + (5 : Int32)) else gv (x5 + (4 : Int32)) 90 (L_L_shoaled n K a1 a2 a3 j 0 ((x4 * (K 154 (Int32.toNatClampNeg (x5 + (4 : Int32))))) / (100 : Int32)) (x5 + (5 : Int32)))))))))))) := rfl
set_option maxHeartbeats 4000000 in
set_option maxRecDepth 100000 in
theorem cL_L_shoaled {G : gG} {lay : Nat → Nat × Nat} {T0 T1 : Nat} {Dd : Nat → Nat → UInt64} {I : gI} {J : gJ} {K : gI} {N : gJ} {sz n : Nat} {a1 : Int32} {a2 : Int32} {a3 : Int32} (hs : G.1.stackTraces = false) (hE : gLay lay) : ∀ j : Nat, (∀ (x4 : Int32) (x5 : Int32) (r : Int32), L_L_shoaled n K a1 a2 a3 j 0 x4 x5 = some r → gAt G mL_shoaled (gQp G mL_shoaled (gR (some (.int r)) (fO G (lay, T0, T1, Dd) I J K N) sz)) 7 [some (.ref (G.2.2.1 + 154)), some (.int a1), some (.int a2), some (.int a3), some (.int x4), some (.int x5)] [] (fO G (lay, T0, T1, Dd) I J K N) sz 0 0) := by
  intro j
  induction j with
  | zero => exact fun _ _ _ hf => (by cases hf)
  | succ j ih =>
    refine ?_
    · intro x4 x5 r hf
      rw [L_L_shoaled_e0] at hf
      refine r_iload dL_shoaled_7 rfl ?_
      refine r_bipush (v := (72 : Int32)) dL_shoaled_9 (by decide) ?_
      refine r_iconst (v := (5 : Int32)) dL_shoaled_11 (by decide) ?_
      refine r_aload_n dL_shoaled_12 rfl ?_
      refine r_bipush (v := (71 : Int32)) dL_shoaled_13 (by decide) ?_
      refine m_ialdc 71 dL_shoaled_15 (hE 154 (by decide)) (vpc rfl) rfl ?_
      refine r_imul dL_shoaled_16 ?_
      refine r_iadd dL_shoaled_17 ?_
      refine r_icmp_ge (tgt := 79) dL_shoaled_18 (by decide) (fun c18 => ?_) (fun c18 => ?_)
      · replace hf := if_t hf c18
        refine r_iload dL_shoaled_79 rfl ?_
        have hr := Option.some.inj hf
        subst hr
        exact r_iret dL_shoaled_81 rfl (Nat.le_of_ble_eq_true rfl) (Nat.le_of_ble_eq_true rfl) ⟨rfl, rfl, rfl⟩
      · replace hf := if_f hf c18
        refine r_iload_n dL_shoaled_21 rfl ?_
        refine r_aload_n dL_shoaled_22 rfl ?_
        refine r_iload dL_shoaled_23 rfl ?_
        obtain ⟨h25, hf⟩ := gv_of hf
        refine m_iald dL_shoaled_25 (hE 154 (by decide)) h25 ?_
        refine r_icmp_lt (tgt := 73) dL_shoaled_26 (by decide) (fun c26 => ?_) (fun c26 => ?_)
        · replace hf := if_t hf c26
          refine r_iincv (v := (x5 + (5 : Int32))) dL_shoaled_73 rfl rfl (by decide) rfl ?_
          refine r_goto (tgt := 7) dL_shoaled_76 (by decide) ?_
          exact r_widen (k2 := 0) (n2 := 0) (Nat.le_of_ble_eq_true rfl) (Nat.le_of_ble_eq_true rfl) (r_mask [true, true, true, true, true, true] rfl (ih x4 (x5 + (5 : Int32)) r hf))
        · replace hf := if_f hf c26
          refine r_iload_n dL_shoaled_29 rfl ?_
          refine r_aload_n dL_shoaled_30 rfl ?_
          refine r_iload dL_shoaled_31 rfl ?_
          refine r_iconst (v := (1 : Int32)) dL_shoaled_33 (by decide) ?_
          refine r_iadd dL_shoaled_34 ?_
          obtain ⟨h35, hf⟩ := gv_of hf
          refine m_iald dL_shoaled_35 (hE 154 (by decide)) h35 ?_
          refine r_icmp_lt (tgt := 73) dL_shoaled_36 (by decide) (fun c36 => ?_) (fun c36 => ?_)
          · replace hf := if_t hf c36
            refine r_iincv (v := (x5 + (5 : Int32))) dL_shoaled_73 rfl rfl (by decide) rfl ?_
            refine r_goto (tgt := 7) dL_shoaled_76 (by decide) ?_
            exact r_widen (k2 := 0) (n2 := 0) (Nat.le_of_ble_eq_true rfl) (Nat.le_of_ble_eq_true rfl) (r_mask [true, true, true, true, true, true] rfl (ih x4 (x5 + (5 : Int32)) r hf))
          · replace hf := if_f hf c36
            refine r_iload_n dL_shoaled_39 rfl ?_
            refine r_aload_n dL_shoaled_40 rfl ?_
            refine r_iload dL_shoaled_41 rfl ?_
            refine r_iconst (v := (2 : Int32)) dL_shoaled_43 (by decide) ?_
            refine r_iadd dL_shoaled_44 ?_
            obtain ⟨h45, hf⟩ := gv_of hf
            refine m_iald dL_shoaled_45 (hE 154 (by decide)) h45 ?_
            refine r_icmp_gt (tgt := 73) dL_shoaled_46 (by decide) (fun c46 => ?_) (fun c46 => ?_)
            · replace hf := if_t hf c46
              refine r_iincv (v := (x5 + (5 : Int32))) dL_shoaled_73 rfl rfl (by decide) rfl ?_
              refine r_goto (tgt := 7) dL_shoaled_76 (by decide) ?_
              exact r_widen (k2 := 0) (n2 := 0) (Nat.le_of_ble_eq_true rfl) (Nat.le_of_ble_eq_true rfl) (r_mask [true, true, true, true, true, true] rfl (ih x4 (x5 + (5 : Int32)) r hf))
            · replace hf := if_f hf c46
              refine r_iload_n dL_shoaled_49 rfl ?_
              refine r_aload_n dL_shoaled_50 rfl ?_
              refine r_iload dL_shoaled_51 rfl ?_
              refine r_iconst (v := (3 : Int32)) dL_shoaled_53 (by decide) ?_
              refine r_iadd dL_shoaled_54 ?_
              obtain ⟨h55, hf⟩ := gv_of hf
              refine m_iald dL_shoaled_55 (hE 154 (by decide)) h55 ?_
              refine r_icmp_gt (tgt := 73) dL_shoaled_56 (by decide) (fun c56 => ?_) (fun c56 => ?_)
              · replace hf := if_t hf c56
                refine r_iincv (v := (x5 + (5 : Int32))) dL_shoaled_73 rfl rfl (by decide) rfl ?_
                refine r_goto (tgt := 7) dL_shoaled_76 (by decide) ?_
                exact r_widen (k2 := 0) (n2 := 0) (Nat.le_of_ble_eq_true rfl) (Nat.le_of_ble_eq_true rfl) (r_mask [true, true, true, true, true, true] rfl (ih x4 (x5 + (5 : Int32)) r hf))
              · replace hf := if_f hf c56
                refine r_iload dL_shoaled_59 rfl ?_
                refine r_aload_n dL_shoaled_61 rfl ?_
                refine r_iload dL_shoaled_62 rfl ?_
                refine r_iconst (v := (4 : Int32)) dL_shoaled_64 (by decide) ?_
                refine r_iadd dL_shoaled_65 ?_
                obtain ⟨h66, hf⟩ := gv_of hf
                refine m_iald dL_shoaled_66 (hE 154 (by decide)) h66 ?_
                refine r_imul dL_shoaled_67 ?_
                refine r_bipush (v := (100 : Int32)) dL_shoaled_68 (by decide) ?_
                refine r_idiv dL_shoaled_70 (by decide) ?_
                refine r_istore dL_shoaled_71 (by decide) rfl ?_
                refine r_iincv (v := (x5 + (5 : Int32))) dL_shoaled_73 rfl rfl (by decide) rfl ?_
                refine r_goto (tgt := 7) dL_shoaled_76 (by decide) ?_
                exact r_widen (k2 := 0) (n2 := 0) (Nat.le_of_ble_eq_true rfl) (Nat.le_of_ble_eq_true rfl) (r_mask [true, true, true, true, true, true] rfl (ih ((x4 * (K 154 (Int32.toNatClampNeg (x5 + (4 : Int32))))) / (100 : Int32)) (x5 + (5 : Int32)) r hf))
def F_L_shoaled (n : Nat) (K : gI) (a1 : Int32) (a2 : Int32) (a3 : Int32) : Option (Int32) := L_L_shoaled n K a1 a2 a3 n 0 a3 (72 : Int32)
set_option maxHeartbeats 4000000 in
set_option maxRecDepth 100000 in
theorem ct_L_shoaled {G : gG} {lay : Nat → Nat × Nat} {T0 T1 : Nat} {Dd : Nat → Nat → UInt64} {I : gI} {J : gJ} {K : gI} {N : gJ} {sz n : Nat} {a1 : Int32} {a2 : Int32} {a3 : Int32} (hs : G.1.stackTraces = false) (hE : gLay lay) {r : Int32} (hf : F_L_shoaled n K a1 a2 a3 = some r) : gCt G mL_shoaled [.ref (G.2.2.1 + 154), .int a1, .int a2, .int a3] (fO G (lay, T0, T1, Dd) I J K N) sz (gR (some (.int r)) (fO G (lay, T0, T1, Dd) I J K N) sz) := by
  unfold F_L_shoaled at hf
  refine gCt.of [some (.ref (G.2.2.1 + 154)), some (.int a1), some (.int a2), some (.int a3), none, none] (by decide +kernel) rfl hs rfl (Nat.le_of_ble_eq_true rfl) ?_
  refine r_iload_n dL_shoaled_0 rfl ?_
  refine r_istore dL_shoaled_1 (by decide) rfl ?_
  refine r_bipush (v := (72 : Int32)) dL_shoaled_3 (by decide) ?_
  refine r_istore dL_shoaled_5 (by decide) rfl ?_
  exact r_widen (k2 := 0) (n2 := 0) (Nat.le_of_ble_eq_true rfl) (Nat.le_of_ble_eq_true rfl) (r_mask [true, true, true, true, true, true] rfl ((cL_L_shoaled hs hE n) a3 (72 : Int32) r hf))
def L_L_isBest (n : Nat) (T0 T1 : Nat) (a1 : Int32) (a2 : Int32) (a3 : Int32) (a4 : Int32) (a5 : Int32) : Nat → Nat → Int32 → Int64 → Int32 → gI → Option (Int32 × gI)
  | 0, _, _, _, _, _ => none
  | j + 1, 0, x6, y7, x9, I => (if (360 : Int32) ≤ x9 then bd (F_X9_setPhase n T0 T1 I a1 x6) (fun v87 => sm v87 (fun _ => none) (fun v87 => (if v87.1 = (345 : Int32) then some ((1 : Int32), v87.2) else some ((0 : Int32), v87.2)))) else bd (F_X9_setPhase n T0 T1 I a1 x9) (fun v34 => sm v34 (fun _ => none) (fun v34 => (if 0 ≤ v34.1 then bd (F_X9_energy n T0 T1 v34.2 a2 a3 a4) (fun v47 => sm v47 (fun _ => none) (fun v47 => (if (lg_cmp v47 y7) < 0 then some ((0 : Int32), v34.2) else (if (lg_cmp v47 y7) = 0 then (if a5 ≤ x9 then L_L_isBest n T0 T1 a1 a2 a3 a4 a5 j 0 x6 y7 (x9 + (15 : Int32)) v34.2 else some ((0 : Int32), v34.2)) else L_L_isBest n T0 T1 a1 a2 a3 a4 a5 j 0 x6 y7 (x9 + (15 : Int32)) v34.2)))) else some ((0 : Int32), v34.2)))))
  | _ + 1, _, _, _, _, _ => none
theorem L_L_isBest_e0 (n j : Nat) (T0 T1 : Nat) (a1 : Int32) (a2 : Int32) (a3 : Int32) (a4 : Int32) (a5 : Int32) (x6 : Int32) (y7 : Int64) (x9 : Int32) (I : gI) : L_L_isBest n T0 T1 a1 a2 a3 a4 a5 (j + 1) 0 x6 y7 x9 I = (if (360 : Int32) ≤ x9 then bd (F_X9_setPhase n T0 T1 I a1 x6) (fun v87 => sm v87 (fun _ => none) (fun v87 => (if v87.1 = (345 : Int32) then some ((1 : Int32), v87.2) else some ((0 : Int32), v87.2)))) else bd (F_X9_setPhase n T0 T1 I a1 x9) (fun v34 => sm v34 (fun _ => none) (fun v34 => (if 0 ≤ v34.1 then bd (F_X9_energy n T0 T1 v34.2 a2 a3 a4) (fun v47 => sm v47 (fun _ => none) (fun v47 => (if (lg_cmp v47 y7) < 0 then some ((0 : Int32), v34.2) else (if (lg_cmp v47 y7) = 0 then (if a5 ≤ x9 then L_L_isBest n T0 T1 a1 a2 a3 a4 a5 j 0 x6 y7 (x9 + (15 : Int32)) v34.2 else some ((0 : Int32), v34.2)) else L_L_isBest n T0 T1 a1 a2 a3 a4 a5 j 0 x6 y7 (x9 + (15 : Int32)) v34.2)))) else some ((0 : Int32), v34.2))))) := rfl
set_option maxHeartbeats 4000000 in
set_option maxRecDepth 100000 in
theorem cL_L_isBest {G : gG} {lay : Nat → Nat × Nat} {T0 T1 : Nat} {Dd : Nat → Nat → UInt64} {J : gJ} {K : gI} {N : gJ} {sz n : Nat} {a1 : Int32} {a2 : Int32} {a3 : Int32} {a4 : Int32} {a5 : Int32} (hs : G.1.stackTraces = false) (hE : gLay lay) (hT0 : gTank lay T0) (hT1 : gTank lay T1) : ∀ j : Nat, (∀ (x6 : Int32) (y7 : Int64) (x9 : Int32) (I : gI) (r : Int32 × gI), L_L_isBest n T0 T1 a1 a2 a3 a4 a5 j 0 x6 y7 x9 I = some r → gAt G mL_isBest (gQp G mL_isBest (gR (some (.int r.1)) (fO G (lay, T0, T1, Dd) r.2 J K N) sz)) 22 [some (.ref (G.2.2.1 + 0)), some (.int a1), some (.int a2), some (.int a3), some (.int a4), some (.int a5), some (.int x6), some (.long y7), none, some (.int x9), none, none] [] (fO G (lay, T0, T1, Dd) I J K N) sz 0 0) := by
  intro j
  induction j with
  | zero => exact fun _ _ _ _ _ hf => (by cases hf)
  | succ j ih =>
    refine ?_
    · intro x6 y7 x9 I r hf
      rw [L_L_isBest_e0] at hf
      refine r_iload dL_isBest_22 rfl ?_
      refine r_sipush (v := (360 : Int32)) dL_isBest_24 (by decide) ?_
      refine r_icmp_ge (tgt := 83) dL_isBest_27 (by decide) (fun c27 => ?_) (fun c27 => ?_)
      · replace hf := if_t hf c27
        refine r_aload_n dL_isBest_83 rfl ?_
        refine r_iload_n dL_isBest_84 rfl ?_
        refine r_iload dL_isBest_85 rfl ?_
        obtain ⟨v87, hc87, hf⟩ := bd_of hf
        rcases v87 with e87 | v87
        · exact (no_no hf).elim
        refine r_cVi (rest := []) (ct_X9_setPhase hs hE hT0 hT1 hc87) dL_isBest_87 wd_1095 zX9_setPhase wd_1096 wd_1097 rfl  rfl rfl (fo9 (hE 0 (by decide))) rfl rfl ⟨Nat.le_of_ble_eq_true rfl, Nat.le_of_ble_eq_true rfl⟩ (Nat.le_of_ble_eq_true rfl) ⟨Nat.le_of_ble_eq_true rfl, Nat.le_of_ble_eq_true rfl⟩ ?_
        refine r_sipush (v := (345 : Int32)) dL_isBest_90 (by decide) ?_
        refine r_icmp_ne (tgt := 100) dL_isBest_93 (by decide) (fun c93 => ?_) (fun c93 => ?_)
        · replace hf := if_f hf c93
          refine r_iconst (v := (0 : Int32)) dL_isBest_100 (by decide) ?_
          have hr := Option.some.inj hf
          subst hr
          exact r_zret dL_isBest_101 rfl rfl (Nat.le_of_ble_eq_true rfl) (Nat.le_of_ble_eq_true rfl) ⟨rfl, rfl, rfl⟩
        · replace hf := if_t hf c93
          refine r_iconst (v := (1 : Int32)) dL_isBest_96 (by decide) ?_
          refine r_goto (tgt := 101) dL_isBest_97 (by decide) ?_
          have hr := Option.some.inj hf
          subst hr
          exact r_zret dL_isBest_101 rfl rfl (Nat.le_of_ble_eq_true rfl) (Nat.le_of_ble_eq_true rfl) ⟨rfl, rfl, rfl⟩
      · replace hf := if_f hf c27
        refine r_aload_n dL_isBest_30 rfl ?_
        refine r_iload_n dL_isBest_31 rfl ?_
        refine r_iload dL_isBest_32 rfl ?_
        obtain ⟨v34, hc34, hf⟩ := bd_of hf
        rcases v34 with e34 | v34
        · exact (no_no hf).elim
        refine r_cVi (rest := []) (ct_X9_setPhase hs hE hT0 hT1 hc34) dL_isBest_34 wd_1095 zX9_setPhase wd_1096 wd_1097 rfl  rfl rfl (fo9 (hE 0 (by decide))) rfl rfl ⟨Nat.le_of_ble_eq_true rfl, Nat.le_of_ble_eq_true rfl⟩ (Nat.le_of_ble_eq_true rfl) ⟨Nat.le_of_ble_eq_true rfl, Nat.le_of_ble_eq_true rfl⟩ ?_
        refine r_if_ge (tgt := 42) dL_isBest_37 (by decide) (fun c37 => ?_) (fun c37 => ?_)
        · replace hf := if_t hf c37
          refine r_aload_n dL_isBest_42 rfl ?_
          refine r_iload_n dL_isBest_43 rfl ?_
          refine r_iload_n dL_isBest_44 rfl ?_
          refine r_iload dL_isBest_45 rfl ?_
          obtain ⟨v47, hc47, hf⟩ := bd_of hf
          rcases v47 with e47 | v47
          · exact (no_no hf).elim
          refine r_cVi (rest := []) (ct_X9_energy hs hE hT0 hT1 hc47) dL_isBest_47 wd_676 zX9_energy wd_677 wd_678 rfl  rfl rfl (fo9 (hE 0 (by decide))) rfl rfl ⟨Nat.le_of_ble_eq_true rfl, Nat.le_of_ble_eq_true rfl⟩ (Nat.le_of_ble_eq_true rfl) ⟨Nat.le_of_ble_eq_true rfl, Nat.le_of_ble_eq_true rfl⟩ ?_
          refine r_lstore dL_isBest_50 (by decide) rfl ?_
          refine r_lload dL_isBest_52 rfl ?_
          refine r_lload dL_isBest_54 rfl ?_
          refine r_lcmp dL_isBest_56 ?_
          refine r_if_lt (tgt := 75) dL_isBest_57 (by decide) (fun c57 => ?_) (fun c57 => ?_)
          · replace hf := if_t hf c57
            refine r_iconst (v := (0 : Int32)) dL_isBest_75 (by decide) ?_
            have hr := Option.some.inj hf
            subst hr
            exact r_zret dL_isBest_76 rfl rfl (Nat.le_of_ble_eq_true rfl) (Nat.le_of_ble_eq_true rfl) ⟨rfl, rfl, rfl⟩
          · replace hf := if_f hf c57
            refine r_lload dL_isBest_60 rfl ?_
            refine r_lload dL_isBest_62 rfl ?_
            refine r_lcmp dL_isBest_64 ?_
            refine r_if_ne (tgt := 77) dL_isBest_65 (by decide) (fun c65 => ?_) (fun c65 => ?_)
            · replace hf := if_f hf c65
              refine r_iincv (v := (x9 + (15 : Int32))) dL_isBest_77 rfl rfl (by decide) rfl ?_
              refine r_goto (tgt := 22) dL_isBest_80 (by decide) ?_
              exact r_widen (k2 := 0) (n2 := 0) (Nat.le_of_ble_eq_true rfl) (Nat.le_of_ble_eq_true rfl) (r_mask [true, true, true, true, true, true, true, true, false, true, false, false] rfl (ih x6 y7 (x9 + (15 : Int32)) v34.2 r hf))
            · replace hf := if_t hf c65
              refine r_iload dL_isBest_68 rfl ?_
              refine r_iload dL_isBest_70 rfl ?_
              refine r_icmp_ge (tgt := 77) dL_isBest_72 (by decide) (fun c72 => ?_) (fun c72 => ?_)
              · replace hf := if_t hf c72
                refine r_iincv (v := (x9 + (15 : Int32))) dL_isBest_77 rfl rfl (by decide) rfl ?_
                refine r_goto (tgt := 22) dL_isBest_80 (by decide) ?_
                exact r_widen (k2 := 0) (n2 := 0) (Nat.le_of_ble_eq_true rfl) (Nat.le_of_ble_eq_true rfl) (r_mask [true, true, true, true, true, true, true, true, false, true, false, false] rfl (ih x6 y7 (x9 + (15 : Int32)) v34.2 r hf))
              · replace hf := if_f hf c72
                refine r_iconst (v := (0 : Int32)) dL_isBest_75 (by decide) ?_
                have hr := Option.some.inj hf
                subst hr
                exact r_zret dL_isBest_76 rfl rfl (Nat.le_of_ble_eq_true rfl) (Nat.le_of_ble_eq_true rfl) ⟨rfl, rfl, rfl⟩
        · replace hf := if_f hf c37
          refine r_iconst (v := (0 : Int32)) dL_isBest_40 (by decide) ?_
          have hr := Option.some.inj hf
          subst hr
          exact r_zret dL_isBest_41 rfl rfl (Nat.le_of_ble_eq_true rfl) (Nat.le_of_ble_eq_true rfl) ⟨rfl, rfl, rfl⟩
def F_L_isBest (n : Nat) (T0 T1 : Nat) (I : gI) (a1 : Int32) (a2 : Int32) (a3 : Int32) (a4 : Int32) (a5 : Int32) : Option (Int32 × gI) := bd (F_X9_setPhase n T0 T1 I a1 a5) (fun v4 => sm v4 (fun _ => none) (fun v4 => bd (F_X9_energy n T0 T1 v4.2 a2 a3 a4) (fun v14 => sm v14 (fun _ => none) (fun v14 => L_L_isBest n T0 T1 a1 a2 a3 a4 a5 n 0 v4.1 v14 (0 : Int32) v4.2))))
set_option maxHeartbeats 4000000 in
set_option maxRecDepth 100000 in
theorem ct_L_isBest {G : gG} {lay : Nat → Nat × Nat} {T0 T1 : Nat} {Dd : Nat → Nat → UInt64} {I : gI} {J : gJ} {K : gI} {N : gJ} {sz n : Nat} {a1 : Int32} {a2 : Int32} {a3 : Int32} {a4 : Int32} {a5 : Int32} (hs : G.1.stackTraces = false) (hE : gLay lay) (hT0 : gTank lay T0) (hT1 : gTank lay T1) {r : Int32 × gI} (hf : F_L_isBest n T0 T1 I a1 a2 a3 a4 a5 = some r) : gCt G mL_isBest [.ref (G.2.2.1 + 0), .int a1, .int a2, .int a3, .int a4, .int a5] (fO G (lay, T0, T1, Dd) I J K N) sz (gR (some (.int r.1)) (fO G (lay, T0, T1, Dd) r.2 J K N) sz) := by
  unfold F_L_isBest at hf
  refine gCt.of [some (.ref (G.2.2.1 + 0)), some (.int a1), some (.int a2), some (.int a3), some (.int a4), some (.int a5), none, none, none, none, none, none] (by decide +kernel) rfl hs rfl (Nat.le_of_ble_eq_true rfl) ?_
  refine r_aload_n dL_isBest_0 rfl ?_
  refine r_iload_n dL_isBest_1 rfl ?_
  refine r_iload dL_isBest_2 rfl ?_
  obtain ⟨v4, hc4, hf⟩ := bd_of hf
  rcases v4 with e4 | v4
  · exact (no_no hf).elim
  refine r_cVi (rest := []) (ct_X9_setPhase hs hE hT0 hT1 hc4) dL_isBest_4 wd_1095 zX9_setPhase wd_1096 wd_1097 rfl  rfl rfl (fo9 (hE 0 (by decide))) rfl rfl ⟨Nat.le_of_ble_eq_true rfl, Nat.le_of_ble_eq_true rfl⟩ (Nat.le_of_ble_eq_true rfl) ⟨Nat.le_of_ble_eq_true rfl, Nat.le_of_ble_eq_true rfl⟩ ?_
  refine r_istore dL_isBest_7 (by decide) rfl ?_
  refine r_aload_n dL_isBest_9 rfl ?_
  refine r_iload_n dL_isBest_10 rfl ?_
  refine r_iload_n dL_isBest_11 rfl ?_
  refine r_iload dL_isBest_12 rfl ?_
  obtain ⟨v14, hc14, hf⟩ := bd_of hf
  rcases v14 with e14 | v14
  · exact (no_no hf).elim
  refine r_cVi (rest := []) (ct_X9_energy hs hE hT0 hT1 hc14) dL_isBest_14 wd_676 zX9_energy wd_677 wd_678 rfl  rfl rfl (fo9 (hE 0 (by decide))) rfl rfl ⟨Nat.le_of_ble_eq_true rfl, Nat.le_of_ble_eq_true rfl⟩ (Nat.le_of_ble_eq_true rfl) ⟨Nat.le_of_ble_eq_true rfl, Nat.le_of_ble_eq_true rfl⟩ ?_
  refine r_lstore dL_isBest_17 (by decide) rfl ?_
  refine r_iconst (v := (0 : Int32)) dL_isBest_19 (by decide) ?_
  refine r_istore dL_isBest_20 (by decide) rfl ?_
  exact r_widen (k2 := 0) (n2 := 0) (Nat.le_of_ble_eq_true rfl) (Nat.le_of_ble_eq_true rfl) (r_mask [true, true, true, true, true, true, true, true, false, true, false, false] rfl ((cL_L_isBest hs hE hT0 hT1 n) v4.1 v14 (0 : Int32) v4.2 r hf))
def L_L_isRight (n : Nat) (T0 T1 : Nat) (K : gI) (a2 : Int32) : Nat → Nat → Int32 → Int32 → Int64 → Int32 → Int64 → Int32 → Int32 → Int32 → Int64 → Int32 → Int32 → Int32 → Int32 → Int32 → Int32 → gI → gJ → Option (Int32 × gI × gJ)
  | 0, _, _, _, _, _, _, _, _, _, _, _, _, _, _, _, _, _, _ => none
  | j + 1, 0, x3, x4, y5, x7, y8, x10, x11, x12, y12, x13, x14, x15, x16, x17, x18, I, J => (if (K 154 2) ≤ x7 then bd (F_X9_allEnergy n T0 T1 I J a2) (fun v578 => sm v578 (fun _ => none) (fun v578 => (if (lg_cmp v578.1 y5) = 0 then bd (F_X9_nodes n T0 T1 I a2 (20 : Int32)) (fun v591 => sm v591 (fun _ => none) (fun v591 => (if v591 = x3 then bd (F_X9_marks n T0 T1 I v578.2 a2 (50 : Int32)) (fun v602 => sm v602 (fun _ => none) (fun v602 => (if v602.1 = x4 then bd (F_X9_nodeGroups n T0 T1 I a2 (20 : Int32)) (fun v614 => sm v614 (fun _ => none) (fun v614 => (if x3 < v614.1 then some ((0 : Int32), v614.2, v602.2) else bd (F_X9_nodeGroups n T0 T1 v614.2 a2 (20 : Int32)) (fun v625 => sm v625 (fun _ => none) (fun v625 => (if v625.1 = 0 then (if x3 = 0 then L_L_isRight n T0 T1 K a2 j 6 x3 x4 y5 (0 : Int32) 0 0 0 0 0 0 0 0 0 0 0 v625.2 v602.2 else some ((0 : Int32), v625.2, v602.2)) else (if x3 = 0 then some ((0 : Int32), v625.2, v602.2) else L_L_isRight n T0 T1 K a2 j 6 x3 x4 y5 (0 : Int32) 0 0 0 0 0 0 0 0 0 0 0 v625.2 v602.2))))))) else some ((0 : Int32), I, v602.2)))) else some ((0 : Int32), I, v578.2)))) else some ((0 : Int32), I, v578.2)))) else L_L_isRight n T0 T1 K a2 j 1 x3 x4 y5 x7 (0 : Int64) (0 : Int32) 0 0 0 0 0 0 0 0 0 I J)
  | j + 1, 1, x3, x4, y5, x7, y8, x10, x11, x12, y12, x13, x14, x15, x16, x17, x18, I, J => (if (K 154 1) ≤ x10 then bd (F_X9_rowEnergy n T0 T1 I x7 a2) (fun v552 => sm v552 (fun _ => none) (fun v552 => (if (lg_cmp v552 y8) = 0 then L_L_isRight n T0 T1 K a2 j 0 x3 x4 (y5 + y8) (x7 + (1 : Int32)) 0 0 0 0 0 0 0 0 0 0 0 I J else some ((0 : Int32), I, J)))) else L_L_isRight n T0 T1 K a2 j 2 x3 x4 y5 x7 y8 x10 (0 : Int32) (0 : Int32) 0 0 0 0 0 0 0 I J)
  | j + 1, 2, x3, x4, y5, x7, y8, x10, x11, x12, y12, x13, x14, x15, x16, x17, x18, I, J => (if (K 154 6) ≤ x12 then bd (F_X9_energy n T0 T1 I x10 x7 a2) (fun v377 => sm v377 (fun _ => none) (fun v377 => bd (F_L_shoaled n K x10 x7 x11) (fun v396 => bd (F_X9_wave n T0 T1 I x10 x7) (fun v406 => sm v406 (fun _ => none) (fun v406 => (if v406 = v396 then bd (F_X9_time n T0 T1 I) (fun v420 => bd (F_X9_waveAt n T0 T1 I x10 x7 v420) (fun v423 => sm v423 (fun _ => none) (fun v423 => (if v423 = v396 then (if a2 = (1 : Int32) then (if (lg_cmp v377 ((Int32.toInt64 v396) * (Int32.toInt64 v396))) = 0 then bd (F_X9_isNode n T0 T1 I x10 x7 a2 (0 : Int32)) (fun v456 => sm v456 (fun _ => none) (fun v456 => (if (lg_cmp v377 (0 : Int64)) = 0 then (if v456 = (1 : Int32) then (if (lg_cmp v377 (0 : Int64)) = 0 then bd (F_X9_isMark n T0 T1 I J x10 x7 a2 (1 : Int32)) (fun v488 => sm v488 (fun _ => none) (fun v488 => (if v488.1 = 0 then L_L_isRight n T0 T1 K a2 j 5 x3 x4 y5 x7 (y8 + v377) x10 v396 0 v377 0 0 0 0 0 0 I v488.2 else some ((0 : Int32), I, v488.2)))) else L_L_isRight n T0 T1 K a2 j 5 x3 x4 y5 x7 (y8 + v377) x10 v396 0 v377 0 0 0 0 0 0 I J) else some ((0 : Int32), I, J)) else (if v456 = (0 : Int32) then (if (lg_cmp v377 (0 : Int64)) = 0 then bd (F_X9_isMark n T0 T1 I J x10 x7 a2 (1 : Int32)) (fun v488 => sm v488 (fun _ => none) (fun v488 => (if v488.1 = 0 then L_L_isRight n T0 T1 K a2 j 5 x3 x4 y5 x7 (y8 + v377) x10 v396 0 v377 0 0 0 0 0 0 I v488.2 else some ((0 : Int32), I, v488.2)))) else L_L_isRight n T0 T1 K a2 j 5 x3 x4 y5 x7 (y8 + v377) x10 v396 0 v377 0 0 0 0 0 0 I J) else some ((0 : Int32), I, J))))) else some ((0 : Int32), I, J)) else bd (F_X9_isNode n T0 T1 I x10 x7 a2 (0 : Int32)) (fun v456 => sm v456 (fun _ => none) (fun v456 => (if (lg_cmp v377 (0 : Int64)) = 0 then (if v456 = (1 : Int32) then (if (lg_cmp v377 (0 : Int64)) = 0 then bd (F_X9_isMark n T0 T1 I J x10 x7 a2 (1 : Int32)) (fun v488 => sm v488 (fun _ => none) (fun v488 => (if v488.1 = 0 then L_L_isRight n T0 T1 K a2 j 5 x3 x4 y5 x7 (y8 + v377) x10 v396 0 v377 0 0 0 0 0 0 I v488.2 else some ((0 : Int32), I, v488.2)))) else L_L_isRight n T0 T1 K a2 j 5 x3 x4 y5 x7 (y8 + v377) x10 v396 0 v377 0 0 0 0 0 0 I J) else some ((0 : Int32), I, J)) else (if v456 = (0 : Int32) then (if (lg_cmp v377 (0 : Int64)) = 0 then bd (F_X9_isMark n T0 T1 I J x10 x7 a2 (1 : Int32)) (fun v488 => sm v488 (fun _ => none) (fun v488 => (if v488.1 = 0 then L_L_isRight n T0 T1 K a2 j 5 x3 x4 y5 x7 (y8 + v377) x10 v396 0 v377 0 0 0 0 0 0 I v488.2 else some ((0 : Int32), I, v488.2)))) else L_L_isRight n T0 T1 K a2 j 5 x3 x4 y5 x7 (y8 + v377) x10 v396 0 v377 0 0 0 0 0 0 I J) else some ((0 : Int32), I, J)))))) else some ((0 : Int32), I, J))))) else some ((0 : Int32), I, J))))))) else bd (F_X9_part n T0 T1 I x12 x10 x7) (fun v55 => sm v55 (fun _ => none) (fun v55 => bd (F_X9_time n T0 T1 I) (fun v72 => bd (F_X9_sourceAt n T0 T1 I x12 (0 : Int32) v72) (fun v75 => sm v75 (fun _ => none) (fun v75 => bd (F_X9_time n T0 T1 I) (fun v85 => bd (F_X9_sourceAt n T0 T1 I x12 (1 : Int32) v85) (fun v88 => sm v88 (fun _ => none) (fun v88 => bd (F_X9_distance n T0 T1 I (jabs (v75 - x10)) (jabs (v88 - x7))) (fun v110 => sm v110 (fun _ => none) (fun v110 => bd (F_X9_shortest n T0 T1 I x12 x10 x7) (fun v122 => sm v122 (fun _ => none) (fun v122 => bd (F_X9_property n T0 T1 I x12 (0 : Int32)) (fun v137 => sm v137 (fun _ => none) (fun v137 => (if ((5 : Int32) * v137) < (jabs v55) then some ((0 : Int32), I, J) else bd (F_X9_isBehind n T0 T1 I x12 x10 x7) (fun v151 => sm v151 (fun _ => none) (fun v151 => (if v151 = 0 then bd (F_X9_isOn n T0 T1 I x12) (fun v175 => sm v175 (fun _ => none) (fun v175 => (if v175 = 0 then (if v55 = 0 then (if 0 ≤ v122 then L_L_isRight n T0 T1 K a2 j 3 x3 x4 y5 x7 y8 x10 (x11 + v55) x12 0 v55 v75 v88 v110 v122 0 I J else (if v55 = 0 then bd (F_X9_arrival n T0 T1 I x12 x10 x7) (fun v203 => sm v203 (fun _ => none) (fun v203 => (if v203 = (-1 : Int32) then bd (F_X9_phase n T0 T1 I x12 x10 x7) (fun v217 => sm v217 (fun _ => none) (fun v217 => (if v217 = (-1 : Int32) then L_L_isRight n T0 T1 K a2 j 3 x3 x4 y5 x7 y8 x10 (x11 + v55) x12 0 v55 v75 v88 v110 v122 0 I J else some ((0 : Int32), I, J)))) else some ((0 : Int32), I, J)))) else some ((0 : Int32), I, J))) else some ((0 : Int32), I, J)) else (if 0 ≤ v122 then L_L_isRight n T0 T1 K a2 j 3 x3 x4 y5 x7 y8 x10 (x11 + v55) x12 0 v55 v75 v88 v110 v122 0 I J else (if v55 = 0 then bd (F_X9_arrival n T0 T1 I x12 x10 x7) (fun v203 => sm v203 (fun _ => none) (fun v203 => (if v203 = (-1 : Int32) then bd (F_X9_phase n T0 T1 I x12 x10 x7) (fun v217 => sm v217 (fun _ => none) (fun v217 => (if v217 = (-1 : Int32) then L_L_isRight n T0 T1 K a2 j 3 x3 x4 y5 x7 y8 x10 (x11 + v55) x12 0 v55 v75 v88 v110 v122 0 I J else some ((0 : Int32), I, J)))) else some ((0 : Int32), I, J)))) else some ((0 : Int32), I, J)))))) else bd (F_X9_property n T0 T1 I x12 (0 : Int32)) (fun v166 => sm v166 (fun _ => none) (fun v166 => (if v166 < (jabs v55) then some ((0 : Int32), I, J) else bd (F_X9_isOn n T0 T1 I x12) (fun v175 => sm v175 (fun _ => none) (fun v175 => (if v175 = 0 then (if v55 = 0 then (if 0 ≤ v122 then L_L_isRight n T0 T1 K a2 j 3 x3 x4 y5 x7 y8 x10 (x11 + v55) x12 0 v55 v75 v88 v110 v122 0 I J else (if v55 = 0 then bd (F_X9_arrival n T0 T1 I x12 x10 x7) (fun v203 => sm v203 (fun _ => none) (fun v203 => (if v203 = (-1 : Int32) then bd (F_X9_phase n T0 T1 I x12 x10 x7) (fun v217 => sm v217 (fun _ => none) (fun v217 => (if v217 = (-1 : Int32) then L_L_isRight n T0 T1 K a2 j 3 x3 x4 y5 x7 y8 x10 (x11 + v55) x12 0 v55 v75 v88 v110 v122 0 I J else some ((0 : Int32), I, J)))) else some ((0 : Int32), I, J)))) else some ((0 : Int32), I, J))) else some ((0 : Int32), I, J)) else (if 0 ≤ v122 then L_L_isRight n T0 T1 K a2 j 3 x3 x4 y5 x7 y8 x10 (x11 + v55) x12 0 v55 v75 v88 v110 v122 0 I J else (if v55 = 0 then bd (F_X9_arrival n T0 T1 I x12 x10 x7) (fun v203 => sm v203 (fun _ => none) (fun v203 => (if v203 = (-1 : Int32) then bd (F_X9_phase n T0 T1 I x12 x10 x7) (fun v217 => sm v217 (fun _ => none) (fun v217 => (if v217 = (-1 : Int32) then L_L_isRight n T0 T1 K a2 j 3 x3 x4 y5 x7 y8 x10 (x11 + v55) x12 0 v55 v75 v88 v110 v122 0 I J else some ((0 : Int32), I, J)))) else some ((0 : Int32), I, J)))) else some ((0 : Int32), I, J))))))))))))))))))))))))))))
  | j + 1, 3, x3, x4, y5, x7, y8, x10, x11, x12, y12, x13, x14, x15, x16, x17, x18, I, J => (if x17 < 0 then L_L_isRight n T0 T1 K a2 j 4 x3 x4 y5 x7 y8 x10 x11 x12 0 x13 x14 x15 x16 x17 (0 : Int32) I J else bd (F_X9_isBehind n T0 T1 I x12 x10 x7) (fun v238 => sm v238 (fun _ => none) (fun v238 => (if v238 = 0 then (if x17 = x16 then bd (F_X9_arrival n T0 T1 I x12 x10 x7) (fun v258 => sm v258 (fun _ => none) (fun v258 => bd (F_X9_property n T0 T1 I x12 (4 : Int32)) (fun v265 => sm v265 (fun _ => none) (fun v265 => (if v258 < v265 then some ((0 : Int32), I, J) else bd (F_X9_phase n T0 T1 I x12 x10 x7) (fun v278 => sm v278 (fun _ => none) (fun v278 => (if v278 < 0 then some ((0 : Int32), I, J) else bd (F_X9_phase n T0 T1 I x12 x10 x7) (fun v291 => sm v291 (fun _ => none) (fun v291 => (if v291 ≤ (359 : Int32) then L_L_isRight n T0 T1 K a2 j 4 x3 x4 y5 x7 y8 x10 x11 x12 0 x13 x14 x15 x16 x17 (0 : Int32) I J else some ((0 : Int32), I, J)))))))))))) else some ((0 : Int32), I, J)) else bd (F_X9_arrival n T0 T1 I x12 x10 x7) (fun v258 => sm v258 (fun _ => none) (fun v258 => bd (F_X9_property n T0 T1 I x12 (4 : Int32)) (fun v265 => sm v265 (fun _ => none) (fun v265 => (if v258 < v265 then some ((0 : Int32), I, J) else bd (F_X9_phase n T0 T1 I x12 x10 x7) (fun v278 => sm v278 (fun _ => none) (fun v278 => (if v278 < 0 then some ((0 : Int32), I, J) else bd (F_X9_phase n T0 T1 I x12 x10 x7) (fun v291 => sm v291 (fun _ => none) (fun v291 => (if v291 ≤ (359 : Int32) then L_L_isRight n T0 T1 K a2 j 4 x3 x4 y5 x7 y8 x10 x11 x12 0 x13 x14 x15 x16 x17 (0 : Int32) I J else some ((0 : Int32), I, J))))))))))))))))
  | j + 1, 4, x3, x4, y5, x7, y8, x10, x11, x12, y12, x13, x14, x15, x16, x17, x18, I, J => (if (K 154 2) ≤ x18 then L_L_isRight n T0 T1 K a2 j 2 x3 x4 y5 x7 y8 x10 x11 (x12 + (1 : Int32)) 0 0 0 0 0 0 0 I J else bd (F_X9_isBehind n T0 T1 I x12 x10 x7) (fun v320 => sm v320 (fun _ => none) (fun v320 => (if v320 = 0 then L_L_isRight n T0 T1 K a2 j 2 x3 x4 y5 x7 y8 x10 x11 (x12 + (1 : Int32)) 0 0 0 0 0 0 0 I J else (if x17 < 0 then L_L_isRight n T0 T1 K a2 j 2 x3 x4 y5 x7 y8 x10 x11 (x12 + (1 : Int32)) 0 0 0 0 0 0 0 I J else bd (F_X9_isOpen n T0 T1 I x18) (fun v334 => sm v334 (fun _ => none) (fun v334 => (if v334 = 0 then L_L_isRight n T0 T1 K a2 j 4 x3 x4 y5 x7 y8 x10 x11 x12 0 x13 x14 x15 x16 x17 (x18 + (1 : Int32)) I J else bd (F_X9_path n T0 T1 I x12 x10 x7 x18) (fun v349 => sm v349 (fun _ => none) (fun v349 => (if x17 ≤ v349 then L_L_isRight n T0 T1 K a2 j 4 x3 x4 y5 x7 y8 x10 x11 x12 0 x13 x14 x15 x16 x17 (x18 + (1 : Int32)) I J else some ((0 : Int32), I, J))))))))))))
  | j + 1, 5, x3, x4, y5, x7, y8, x10, x11, x12, y12, x13, x14, x15, x16, x17, x18, I, J => bd (F_X9_isNode n T0 T1 I x10 x7 a2 (20 : Int32)) (fun v505 => sm v505 (fun _ => none) (fun v505 => (if v505 = 0 then bd (F_X9_isMark n T0 T1 I J x10 x7 a2 (50 : Int32)) (fun v528 => sm v528 (fun _ => none) (fun v528 => (if v528.1 = 0 then L_L_isRight n T0 T1 K a2 j 1 (x3 + (0 : Int32)) (x4 + (0 : Int32)) y5 x7 y8 (x10 + (1 : Int32)) 0 0 0 0 0 0 0 0 0 I v528.2 else L_L_isRight n T0 T1 K a2 j 1 (x3 + (0 : Int32)) (x4 + (1 : Int32)) y5 x7 y8 (x10 + (1 : Int32)) 0 0 0 0 0 0 0 0 0 I v528.2))) else bd (F_X9_isMark n T0 T1 I J x10 x7 a2 (50 : Int32)) (fun v528 => sm v528 (fun _ => none) (fun v528 => (if v528.1 = 0 then L_L_isRight n T0 T1 K a2 j 1 (x3 + (1 : Int32)) (x4 + (0 : Int32)) y5 x7 y8 (x10 + (1 : Int32)) 0 0 0 0 0 0 0 0 0 I v528.2 else L_L_isRight n T0 T1 K a2 j 1 (x3 + (1 : Int32)) (x4 + (1 : Int32)) y5 x7 y8 (x10 + (1 : Int32)) 0 0 0 0 0 0 0 0 0 I v528.2))))))
  | j + 1, 6, x3, x4, y5, x7, y8, x10, x11, x12, y12, x13, x14, x15, x16, x17, x18, I, J => (if (K 154 82) ≤ x7 then bd (F_X9_strongest n T0 T1 I J (0 : Int32) a2) (fun v726 => sm v726 (fun _ => none) (fun v726 => (if (lg_cmp y5 (0 : Int64)) = 0 then gd (¬ (K 154 1) = 0) (gd (¬ (K 154 1) = 0) (bd (F_X9_energy n T0 T1 I (v726.1 - v726.1 / (K 154 1) * (K 154 1)) (v726.1 / (K 154 1)) a2) (fun v757 => sm v757 (fun _ => none) (fun v757 => (if (lg_cmp v757 (0 : Int64)) = 0 then (if (lg_cmp y5 (0 : Int64)) = 0 then some ((1 : Int32), I, v726.2) else gd (¬ (K 154 1) = 0) (gd (¬ (K 154 1) = 0) (bd (F_X9_isMark n T0 T1 I v726.2 (v726.1 - v726.1 / (K 154 1) * (K 154 1)) (v726.1 / (K 154 1)) a2 (100 : Int32)) (fun v796 => sm v796 (fun _ => none) (fun v796 => (if v796.1 = 0 then some ((0 : Int32), I, v796.2) else some ((1 : Int32), I, v796.2))))))) else some ((0 : Int32), I, v726.2)))))) else gd (¬ (K 154 1) = 0) (gd (¬ (K 154 1) = 0) (bd (F_X9_energy n T0 T1 I (v726.1 - v726.1 / (K 154 1) * (K 154 1)) (v726.1 / (K 154 1)) a2) (fun v757 => sm v757 (fun _ => none) (fun v757 => (if (lg_cmp v757 (0 : Int64)) = 0 then some ((0 : Int32), I, v726.2) else (if (lg_cmp y5 (0 : Int64)) = 0 then some ((1 : Int32), I, v726.2) else gd (¬ (K 154 1) = 0) (gd (¬ (K 154 1) = 0) (bd (F_X9_isMark n T0 T1 I v726.2 (v726.1 - v726.1 / (K 154 1) * (K 154 1)) (v726.1 / (K 154 1)) a2 (100 : Int32)) (fun v796 => sm v796 (fun _ => none) (fun v796 => (if v796.1 = 0 then some ((0 : Int32), I, v796.2) else some ((1 : Int32), I, v796.2))))))))))))))) else bd (F_X9_peak n T0 T1 I x7 a2) (fun v666 => sm v666 (fun _ => none) (fun v666 => bd (F_X9_gaugeAt n T0 T1 v666.2 x7 (0 : Int32)) (fun v674 => sm v674 (fun _ => none) (fun v674 => bd (F_X9_gaugeAt n T0 T1 v666.2 x7 (1 : Int32)) (fun v681 => sm v681 (fun _ => none) (fun v681 => bd (F_X9_wave n T0 T1 v666.2 v674 v681) (fun v684 => sm v684 (fun _ => none) (fun v684 => (if v666.1 < (jabs v684) then some ((0 : Int32), v666.2, J) else bd (F_X9_crossings n T0 T1 v666.2 x7 a2) (fun v697 => sm v697 (fun _ => none) (fun v697 => (if a2 ≤ v697.1 then some ((0 : Int32), v697.2, J) else bd (F_X9_rhythm n T0 T1 v697.2 x7 a2) (fun v708 => sm v708 (fun _ => none) (fun v708 => (if (1 : Int32) ≤ v708.1 then L_L_isRight n T0 T1 K a2 j 6 x3 x4 y5 (x7 + (1 : Int32)) 0 0 0 0 0 0 0 0 0 0 0 v708.2 J else some ((0 : Int32), v708.2, J)))))))))))))))))
  | _ + 1, _, _, _, _, _, _, _, _, _, _, _, _, _, _, _, _, _, _ => none
theorem L_L_isRight_e0 (n j : Nat) (T0 T1 : Nat) (K : gI) (a2 : Int32) (x3 : Int32) (x4 : Int32) (y5 : Int64) (x7 : Int32) (y8 : Int64) (x10 : Int32) (x11 : Int32) (x12 : Int32) (y12 : Int64) (x13 : Int32) (x14 : Int32) (x15 : Int32) (x16 : Int32) (x17 : Int32) (x18 : Int32) (I : gI) (J : gJ) : L_L_isRight n T0 T1 K a2 (j + 1) 0 x3 x4 y5 x7 y8 x10 x11 x12 y12 x13 x14 x15 x16 x17 x18 I J = (if (K 154 2) ≤ x7 then bd (F_X9_allEnergy n T0 T1 I J a2) (fun v578 => sm v578 (fun _ => none) (fun v578 => (if (lg_cmp v578.1 y5) = 0 then bd (F_X9_nodes n T0 T1 I a2 (20 : Int32)) (fun v591 => sm v591 (fun _ => none) (fun v591 => (if v591 = x3 then bd (F_X9_marks n T0 T1 I v578.2 a2 (50 : Int32)) (fun v602 => sm v602 (fun _ => none) (fun v602 => (if v602.1 = x4 then bd (F_X9_nodeGroups n T0 T1 I a2 (20 : Int32)) (fun v614 => sm v614 (fun _ => none) (fun v614 => (if x3 < v614.1 then some ((0 : Int32), v614.2, v602.2) else bd (F_X9_nodeGroups n T0 T1 v614.2 a2 (20 : Int32)) (fun v625 => sm v625 (fun _ => none) (fun v625 => (if v625.1 = 0 then (if x3 = 0 then L_L_isRight n T0 T1 K a2 j 6 x3 x4 y5 (0 : Int32) 0 0 0 0 0 0 0 0 0 0 0 v625.2 v602.2 else some ((0 : Int32), v625.2, v602.2)) else (if x3 = 0 then some ((0 : Int32), v625.2, v602.2) else L_L_isRight n T0 T1 K a2 j 6 x3 x4 y5 (0 : Int32) 0 0 0 0 0 0 0 0 0 0 0 v625.2 v602.2))))))) else some ((0 : Int32), I, v602.2)))) else some ((0 : Int32), I, v578.2)))) else some ((0 : Int32), I, v578.2)))) else L_L_isRight n T0 T1 K a2 j 1 x3 x4 y5 x7 (0 : Int64) (0 : Int32) 0 0 0 0 0 0 0 0 0 I J) := rfl
theorem L_L_isRight_e1 (n j : Nat) (T0 T1 : Nat) (K : gI) (a2 : Int32) (x3 : Int32) (x4 : Int32) (y5 : Int64) (x7 : Int32) (y8 : Int64) (x10 : Int32) (x11 : Int32) (x12 : Int32) (y12 : Int64) (x13 : Int32) (x14 : Int32) (x15 : Int32) (x16 : Int32) (x17 : Int32) (x18 : Int32) (I : gI) (J : gJ) : L_L_isRight n T0 T1 K a2 (j + 1) 1 x3 x4 y5 x7 y8 x10 x11 x12 y12 x13 x14 x15 x16 x17 x18 I J = (if (K 154 1) ≤ x10 then bd (F_X9_rowEnergy n T0 T1 I x7 a2) (fun v552 => sm v552 (fun _ => none) (fun v552 => (if (lg_cmp v552 y8) = 0 then L_L_isRight n T0 T1 K a2 j 0 x3 x4 (y5 + y8) (x7 + (1 : Int32)) 0 0 0 0 0 0 0 0 0 0 0 I J else some ((0 : Int32), I, J)))) else L_L_isRight n T0 T1 K a2 j 2 x3 x4 y5 x7 y8 x10 (0 : Int32) (0 : Int32) 0 0 0 0 0 0 0 I J) := rfl
theorem L_L_isRight_e2 (n j : Nat) (T0 T1 : Nat) (K : gI) (a2 : Int32) (x3 : Int32) (x4 : Int32) (y5 : Int64) (x7 : Int32) (y8 : Int64) (x10 : Int32) (x11 : Int32) (x12 : Int32) (y12 : Int64) (x13 : Int32) (x14 : Int32) (x15 : Int32) (x16 : Int32) (x17 : Int32) (x18 : Int32) (I : gI) (J : gJ) : L_L_isRight n T0 T1 K a2 (j + 1) 2 x3 x4 y5 x7 y8 x10 x11 x12 y12 x13 x14 x15 x16 x17 x18 I J = (if (K 154 6) ≤ x12 then bd (F_X9_energy n T0 T1 I x10 x7 a2) (fun v377 => sm v377 (fun _ => none) (fun v377 => bd (F_L_shoaled n K x10 x7 x11) (fun v396 => bd (F_X9_wave n T0 T1 I x10 x7) (fun v406 => sm v406 (fun _ => none) (fun v406 => (if v406 = v396 then bd (F_X9_time n T0 T1 I) (fun v420 => bd (F_X9_waveAt n T0 T1 I x10 x7 v420) (fun v423 => sm v423 (fun _ => none) (fun v423 => (if v423 = v396 then (if a2 = (1 : Int32) then (if (lg_cmp v377 ((Int32.toInt64 v396) * (Int32.toInt64 v396))) = 0 then bd (F_X9_isNode n T0 T1 I x10 x7 a2 (0 : Int32)) (fun v456 => sm v456 (fun _ => none) (fun v456 => (if (lg_cmp v377 (0 : Int64)) = 0 then (if v456 = (1 : Int32) then (if (lg_cmp v377 (0 : Int64)) = 0 then bd (F_X9_isMark n T0 T1 I J x10 x7 a2 (1 : Int32)) (fun v488 => sm v488 (fun _ => none) (fun v488 => (if v488.1 = 0 then L_L_isRight n T0 T1 K a2 j 5 x3 x4 y5 x7 (y8 + v377) x10 v396 0 v377 0 0 0 0 0 0 I v488.2 else some ((0 : Int32), I, v488.2)))) else L_L_isRight n T0 T1 K a2 j 5 x3 x4 y5 x7 (y8 + v377) x10 v396 0 v377 0 0 0 0 0 0 I J) else some ((0 : Int32), I, J)) else (if v456 = (0 : Int32) then (if (lg_cmp v377 (0 : Int64)) = 0 then bd (F_X9_isMark n T0 T1 I J x10 x7 a2 (1 : Int32)) (fun v488 => sm v488 (fun _ => none) (fun v488 => (if v488.1 = 0 then L_L_isRight n T0 T1 K a2 j 5 x3 x4 y5 x7 (y8 + v377) x10 v396 0 v377 0 0 0 0 0 0 I v488.2 else some ((0 : Int32), I, v488.2)))) else L_L_isRight n T0 T1 K a2 j 5 x3 x4 y5 x7 (y8 + v377) x10 v396 0 v377 0 0 0 0 0 0 I J) else some ((0 : Int32), I, J))))) else some ((0 : Int32), I, J)) else bd (F_X9_isNode n T0 T1 I x10 x7 a2 (0 : Int32)) (fun v456 => sm v456 (fun _ => none) (fun v456 => (if (lg_cmp v377 (0 : Int64)) = 0 then (if v456 = (1 : Int32) then (if (lg_cmp v377 (0 : Int64)) = 0 then bd (F_X9_isMark n T0 T1 I J x10 x7 a2 (1 : Int32)) (fun v488 => sm v488 (fun _ => none) (fun v488 => (if v488.1 = 0 then L_L_isRight n T0 T1 K a2 j 5 x3 x4 y5 x7 (y8 + v377) x10 v396 0 v377 0 0 0 0 0 0 I v488.2 else some ((0 : Int32), I, v488.2)))) else L_L_isRight n T0 T1 K a2 j 5 x3 x4 y5 x7 (y8 + v377) x10 v396 0 v377 0 0 0 0 0 0 I J) else some ((0 : Int32), I, J)) else (if v456 = (0 : Int32) then (if (lg_cmp v377 (0 : Int64)) = 0 then bd (F_X9_isMark n T0 T1 I J x10 x7 a2 (1 : Int32)) (fun v488 => sm v488 (fun _ => none) (fun v488 => (if v488.1 = 0 then L_L_isRight n T0 T1 K a2 j 5 x3 x4 y5 x7 (y8 + v377) x10 v396 0 v377 0 0 0 0 0 0 I v488.2 else some ((0 : Int32), I, v488.2)))) else L_L_isRight n T0 T1 K a2 j 5 x3 x4 y5 x7 (y8 + v377) x10 v396 0 v377 0 0 0 0 0 0 I J) else some ((0 : Int32), I, J)))))) else some ((0 : Int32), I, J))))) else some ((0 : Int32), I, J))))))) else bd (F_X9_part n T0 T1 I x12 x10 x7) (fun v55 => sm v55 (fun _ => none) (fun v55 => bd (F_X9_time n T0 T1 I) (fun v72 => bd (F_X9_sourceAt n T0 T1 I x12 (0 : Int32) v72) (fun v75 => sm v75 (fun _ => none) (fun v75 => bd (F_X9_time n T0 T1 I) (fun v85 => bd (F_X9_sourceAt n T0 T1 I x12 (1 : Int32) v85) (fun v88 => sm v88 (fun _ => none) (fun v88 => bd (F_X9_distance n T0 T1 I (jabs (v75 - x10)) (jabs (v88 - x7))) (fun v110 => sm v110 (fun _ => none) (fun v110 => bd (F_X9_shortest n T0 T1 I x12 x10 x7) (fun v122 => sm v122 (fun _ => none) (fun v122 => bd (F_X9_property n T0 T1 I x12 (0 : Int32)) (fun v137 => sm v137 (fun _ => none) (fun v137 => (if ((5 : Int32) * v137) < (jabs v55) then some ((0 : Int32), I, J) else bd (F_X9_isBehind n T0 T1 I x12 x10 x7) (fun v151 => sm v151 (fun _ => none) (fun v151 => (if v151 = 0 then bd (F_X9_isOn n T0 T1 I x12) (fun v175 => sm v175 (fun _ => none) (fun v175 => (if v175 = 0 then (if v55 = 0 then (if 0 ≤ v122 then L_L_isRight n T0 T1 K a2 j 3 x3 x4 y5 x7 y8 x10 (x11 + v55) x12 0 v55 v75 v88 v110 v122 0 I J else (if v55 = 0 then bd (F_X9_arrival n T0 T1 I x12 x10 x7) (fun v203 => sm v203 (fun _ => none) (fun v203 => (if v203 = (-1 : Int32) then bd (F_X9_phase n T0 T1 I x12 x10 x7) (fun v217 => sm v217 (fun _ => none) (fun v217 => (if v217 = (-1 : Int32) then L_L_isRight n T0 T1 K a2 j 3 x3 x4 y5 x7 y8 x10 (x11 + v55) x12 0 v55 v75 v88 v110 v122 0 I J else some ((0 : Int32), I, J)))) else some ((0 : Int32), I, J)))) else some ((0 : Int32), I, J))) else some ((0 : Int32), I, J)) else (if 0 ≤ v122 then L_L_isRight n T0 T1 K a2 j 3 x3 x4 y5 x7 y8 x10 (x11 + v55) x12 0 v55 v75 v88 v110 v122 0 I J else (if v55 = 0 then bd (F_X9_arrival n T0 T1 I x12 x10 x7) (fun v203 => sm v203 (fun _ => none) (fun v203 => (if v203 = (-1 : Int32) then bd (F_X9_phase n T0 T1 I x12 x10 x7) (fun v217 => sm v217 (fun _ => none) (fun v217 => (if v217 = (-1 : Int32) then L_L_isRight n T0 T1 K a2 j 3 x3 x4 y5 x7 y8 x10 (x11 + v55) x12 0 v55 v75 v88 v110 v122 0 I J else some ((0 : Int32), I, J)))) else some ((0 : Int32), I, J)))) else some ((0 : Int32), I, J)))))) else bd (F_X9_property n T0 T1 I x12 (0 : Int32)) (fun v166 => sm v166 (fun _ => none) (fun v166 => (if v166 < (jabs v55) then some ((0 : Int32), I, J) else bd (F_X9_isOn n T0 T1 I x12) (fun v175 => sm v175 (fun _ => none) (fun v175 => (if v175 = 0 then (if v55 = 0 then (if 0 ≤ v122 then L_L_isRight n T0 T1 K a2 j 3 x3 x4 y5 x7 y8 x10 (x11 + v55) x12 0 v55 v75 v88 v110 v122 0 I J else (if v55 = 0 then bd (F_X9_arrival n T0 T1 I x12 x10 x7) (fun v203 => sm v203 (fun _ => none) (fun v203 => (if v203 = (-1 : Int32) then bd (F_X9_phase n T0 T1 I x12 x10 x7) (fun v217 => sm v217 (fun _ => none) (fun v217 => (if v217 = (-1 : Int32) then L_L_isRight n T0 T1 K a2 j 3 x3 x4 y5 x7 y8 x10 (x11 + v55) x12 0 v55 v75 v88 v110 v122 0 I J else some ((0 : Int32), I, J)))) else some ((0 : Int32), I, J)))) else some ((0 : Int32), I, J))) else some ((0 : Int32), I, J)) else (if 0 ≤ v122 then L_L_isRight n T0 T1 K a2 j 3 x3 x4 y5 x7 y8 x10 (x11 + v55) x12 0 v55 v75 v88 v110 v122 0 I J else (if v55 = 0 then bd (F_X9_arrival n T0 T1 I x12 x10 x7) (fun v203 => sm v203 (fun _ => none) (fun v203 => (if v203 = (-1 : Int32) then bd (F_X9_phase n T0 T1 I x12 x10 x7) (fun v217 => sm v217 (fun _ => none) (fun v217 => (if v217 = (-1 : Int32) then L_L_isRight n T0 T1 K a2 j 3 x3 x4 y5 x7 y8 x10 (x11 + v55) x12 0 v55 v75 v88 v110 v122 0 I J else some ((0 : Int32), I, J)))) else some ((0 : Int32), I, J)))) else some ((0 : Int32), I, J)))))))))))))))))))))))))))) := rfl
theorem L_L_isRight_e3 (n j : Nat) (T0 T1 : Nat) (K : gI) (a2 : Int32) (x3 : Int32) (x4 : Int32) (y5 : Int64) (x7 : Int32) (y8 : Int64) (x10 : Int32) (x11 : Int32) (x12 : Int32) (y12 : Int64) (x13 : Int32) (x14 : Int32) (x15 : Int32) (x16 : Int32) (x17 : Int32) (x18 : Int32) (I : gI) (J : gJ) : L_L_isRight n T0 T1 K a2 (j + 1) 3 x3 x4 y5 x7 y8 x10 x11 x12 y12 x13 x14 x15 x16 x17 x18 I J = (if x17 < 0 then L_L_isRight n T0 T1 K a2 j 4 x3 x4 y5 x7 y8 x10 x11 x12 0 x13 x14 x15 x16 x17 (0 : Int32) I J else bd (F_X9_isBehind n T0 T1 I x12 x10 x7) (fun v238 => sm v238 (fun _ => none) (fun v238 => (if v238 = 0 then (if x17 = x16 then bd (F_X9_arrival n T0 T1 I x12 x10 x7) (fun v258 => sm v258 (fun _ => none) (fun v258 => bd (F_X9_property n T0 T1 I x12 (4 : Int32)) (fun v265 => sm v265 (fun _ => none) (fun v265 => (if v258 < v265 then some ((0 : Int32), I, J) else bd (F_X9_phase n T0 T1 I x12 x10 x7) (fun v278 => sm v278 (fun _ => none) (fun v278 => (if v278 < 0 then some ((0 : Int32), I, J) else bd (F_X9_phase n T0 T1 I x12 x10 x7) (fun v291 => sm v291 (fun _ => none) (fun v291 => (if v291 ≤ (359 : Int32) then L_L_isRight n T0 T1 K a2 j 4 x3 x4 y5 x7 y8 x10 x11 x12 0 x13 x14 x15 x16 x17 (0 : Int32) I J else some ((0 : Int32), I, J)))))))))))) else some ((0 : Int32), I, J)) else bd (F_X9_arrival n T0 T1 I x12 x10 x7) (fun v258 => sm v258 (fun _ => none) (fun v258 => bd (F_X9_property n T0 T1 I x12 (4 : Int32)) (fun v265 => sm v265 (fun _ => none) (fun v265 => (if v258 < v265 then some ((0 : Int32), I, J) else bd (F_X9_phase n T0 T1 I x12 x10 x7) (fun v278 => sm v278 (fun _ => none) (fun v278 => (if v278 < 0 then some ((0 : Int32), I, J) else bd (F_X9_phase n T0 T1 I x12 x10 x7) (fun v291 => sm v291 (fun _ => none) (fun v291 => (if v291 ≤ (359 : Int32) then L_L_isRight n T0 T1 K a2 j 4 x3 x4 y5 x7 y8 x10 x11 x12 0 x13 x14 x15 x16 x17 (0 : Int32) I J else some ((0 : Int32), I, J)))))))))))))))) := rfl
theorem L_L_isRight_e4 (n j : Nat) (T0 T1 : Nat) (K : gI) (a2 : Int32) (x3 : Int32) (x4 : Int32) (y5 : Int64) (x7 : Int32) (y8 : Int64) (x10 : Int32) (x11 : Int32) (x12 : Int32) (y12 : Int64) (x13 : Int32) (x14 : Int32) (x15 : Int32) (x16 : Int32) (x17 : Int32) (x18 : Int32) (I : gI) (J : gJ) : L_L_isRight n T0 T1 K a2 (j + 1) 4 x3 x4 y5 x7 y8 x10 x11 x12 y12 x13 x14 x15 x16 x17 x18 I J = (if (K 154 2) ≤ x18 then L_L_isRight n T0 T1 K a2 j 2 x3 x4 y5 x7 y8 x10 x11 (x12 + (1 : Int32)) 0 0 0 0 0 0 0 I J else bd (F_X9_isBehind n T0 T1 I x12 x10 x7) (fun v320 => sm v320 (fun _ => none) (fun v320 => (if v320 = 0 then L_L_isRight n T0 T1 K a2 j 2 x3 x4 y5 x7 y8 x10 x11 (x12 + (1 : Int32)) 0 0 0 0 0 0 0 I J else (if x17 < 0 then L_L_isRight n T0 T1 K a2 j 2 x3 x4 y5 x7 y8 x10 x11 (x12 + (1 : Int32)) 0 0 0 0 0 0 0 I J else bd (F_X9_isOpen n T0 T1 I x18) (fun v334 => sm v334 (fun _ => none) (fun v334 => (if v334 = 0 then L_L_isRight n T0 T1 K a2 j 4 x3 x4 y5 x7 y8 x10 x11 x12 0 x13 x14 x15 x16 x17 (x18 + (1 : Int32)) I J else bd (F_X9_path n T0 T1 I x12 x10 x7 x18) (fun v349 => sm v349 (fun _ => none) (fun v349 => (if x17 ≤ v349 then L_L_isRight n T0 T1 K a2 j 4 x3 x4 y5 x7 y8 x10 x11 x12 0 x13 x14 x15 x16 x17 (x18 + (1 : Int32)) I J else some ((0 : Int32), I, J)))))))))))) := rfl
theorem L_L_isRight_e5 (n j : Nat) (T0 T1 : Nat) (K : gI) (a2 : Int32) (x3 : Int32) (x4 : Int32) (y5 : Int64) (x7 : Int32) (y8 : Int64) (x10 : Int32) (x11 : Int32) (x12 : Int32) (y12 : Int64) (x13 : Int32) (x14 : Int32) (x15 : Int32) (x16 : Int32) (x17 : Int32) (x18 : Int32) (I : gI) (J : gJ) : L_L_isRight n T0 T1 K a2 (j + 1) 5 x3 x4 y5 x7 y8 x10 x11 x12 y12 x13 x14 x15 x16 x17 x18 I J = bd (F_X9_isNode n T0 T1 I x10 x7 a2 (20 : Int32)) (fun v505 => sm v505 (fun _ => none) (fun v505 => (if v505 = 0 then bd (F_X9_isMark n T0 T1 I J x10 x7 a2 (50 : Int32)) (fun v528 => sm v528 (fun _ => none) (fun v528 => (if v528.1 = 0 then L_L_isRight n T0 T1 K a2 j 1 (x3 + (0 : Int32)) (x4 + (0 : Int32)) y5 x7 y8 (x10 + (1 : Int32)) 0 0 0 0 0 0 0 0 0 I v528.2 else L_L_isRight n T0 T1 K a2 j 1 (x3 + (0 : Int32)) (x4 + (1 : Int32)) y5 x7 y8 (x10 + (1 : Int32)) 0 0 0 0 0 0 0 0 0 I v528.2))) else bd (F_X9_isMark n T0 T1 I J x10 x7 a2 (50 : Int32)) (fun v528 => sm v528 (fun _ => none) (fun v528 => (if v528.1 = 0 then L_L_isRight n T0 T1 K a2 j 1 (x3 + (1 : Int32)) (x4 + (0 : Int32)) y5 x7 y8 (x10 + (1 : Int32)) 0 0 0 0 0 0 0 0 0 I v528.2 else L_L_isRight n T0 T1 K a2 j 1 (x3 + (1 : Int32)) (x4 + (1 : Int32)) y5 x7 y8 (x10 + (1 : Int32)) 0 0 0 0 0 0 0 0 0 I v528.2)))))) := rfl
theorem L_L_isRight_e6 (n j : Nat) (T0 T1 : Nat) (K : gI) (a2 : Int32) (x3 : Int32) (x4 : Int32) (y5 : Int64) (x7 : Int32) (y8 : Int64) (x10 : Int32) (x11 : Int32) (x12 : Int32) (y12 : Int64) (x13 : Int32) (x14 : Int32) (x15 : Int32) (x16 : Int32) (x17 : Int32) (x18 : Int32) (I : gI) (J : gJ) : L_L_isRight n T0 T1 K a2 (j + 1) 6 x3 x4 y5 x7 y8 x10 x11 x12 y12 x13 x14 x15 x16 x17 x18 I J = (if (K 154 82) ≤ x7 then bd (F_X9_strongest n T0 T1 I J (0 : Int32) a2) (fun v726 => sm v726 (fun _ => none) (fun v726 => (if (lg_cmp y5 (0 : Int64)) = 0 then gd (¬ (K 154 1) = 0) (gd (¬ (K 154 1) = 0) (bd (F_X9_energy n T0 T1 I (v726.1 - v726.1 / (K 154 1) * (K 154 1)) (v726.1 / (K 154 1)) a2) (fun v757 => sm v757 (fun _ => none) (fun v757 => (if (lg_cmp v757 (0 : Int64)) = 0 then (if (lg_cmp y5 (0 : Int64)) = 0 then some ((1 : Int32), I, v726.2) else gd (¬ (K 154 1) = 0) (gd (¬ (K 154 1) = 0) (bd (F_X9_isMark n T0 T1 I v726.2 (v726.1 - v726.1 / (K 154 1) * (K 154 1)) (v726.1 / (K 154 1)) a2 (100 : Int32)) (fun v796 => sm v796 (fun _ => none) (fun v796 => (if v796.1 = 0 then some ((0 : Int32), I, v796.2) else some ((1 : Int32), I, v796.2))))))) else some ((0 : Int32), I, v726.2)))))) else gd (¬ (K 154 1) = 0) (gd (¬ (K 154 1) = 0) (bd (F_X9_energy n T0 T1 I (v726.1 - v726.1 / (K 154 1) * (K 154 1)) (v726.1 / (K 154 1)) a2) (fun v757 => sm v757 (fun _ => none) (fun v757 => (if (lg_cmp v757 (0 : Int64)) = 0 then some ((0 : Int32), I, v726.2) else (if (lg_cmp y5 (0 : Int64)) = 0 then some ((1 : Int32), I, v726.2) else gd (¬ (K 154 1) = 0) (gd (¬ (K 154 1) = 0) (bd (F_X9_isMark n T0 T1 I v726.2 (v726.1 - v726.1 / (K 154 1) * (K 154 1)) (v726.1 / (K 154 1)) a2 (100 : Int32)) (fun v796 => sm v796 (fun _ => none) (fun v796 => (if v796.1 = 0 then some ((0 : Int32), I, v796.2) else some ((1 : Int32), I, v796.2))))))))))))))) else bd (F_X9_peak n T0 T1 I x7 a2) (fun v666 => sm v666 (fun _ => none) (fun v666 => bd (F_X9_gaugeAt n T0 T1 v666.2 x7 (0 : Int32)) (fun v674 => sm v674 (fun _ => none) (fun v674 => bd (F_X9_gaugeAt n T0 T1 v666.2 x7 (1 : Int32)) (fun v681 => sm v681 (fun _ => none) (fun v681 => bd (F_X9_wave n T0 T1 v666.2 v674 v681) (fun v684 => sm v684 (fun _ => none) (fun v684 => (if v666.1 < (jabs v684) then some ((0 : Int32), v666.2, J) else bd (F_X9_crossings n T0 T1 v666.2 x7 a2) (fun v697 => sm v697 (fun _ => none) (fun v697 => (if a2 ≤ v697.1 then some ((0 : Int32), v697.2, J) else bd (F_X9_rhythm n T0 T1 v697.2 x7 a2) (fun v708 => sm v708 (fun _ => none) (fun v708 => (if (1 : Int32) ≤ v708.1 then L_L_isRight n T0 T1 K a2 j 6 x3 x4 y5 (x7 + (1 : Int32)) 0 0 0 0 0 0 0 0 0 0 0 v708.2 J else some ((0 : Int32), v708.2, J))))))))))))))))) := rfl
set_option maxHeartbeats 4000000 in
set_option maxRecDepth 100000 in
theorem cL_L_isRight {G : gG} {lay : Nat → Nat × Nat} {T0 T1 : Nat} {Dd : Nat → Nat → UInt64} {K : gI} {N : gJ} {sz n : Nat} {a2 : Int32} (hs : G.1.stackTraces = false) (hE : gLay lay) (hT0 : gTank lay T0) (hT1 : gTank lay T1) : ∀ j : Nat, (∀ (x3 : Int32) (x4 : Int32) (y5 : Int64) (x7 : Int32) (I : gI) (J : gJ) (r : Int32 × gI × gJ), L_L_isRight n T0 T1 K a2 j 0 x3 x4 y5 x7 0 0 0 0 0 0 0 0 0 0 0 I J = some r → gAt G mL_isRight (gQp G mL_isRight (gR (some (.int r.1)) (fO G (lay, T0, T1, Dd) r.2.1 r.2.2 K N) sz)) 11 [some (.ref (G.2.2.1 + 0)), some (.ref (G.2.2.1 + 154)), some (.int a2), some (.int x3), some (.int x4), some (.long y5), none, some (.int x7), none, none, none, none, none, none, none, none, none, none, none] [] (fO G (lay, T0, T1, Dd) I J K N) sz 0 0) ∧ (∀ (x3 : Int32) (x4 : Int32) (y5 : Int64) (x7 : Int32) (y8 : Int64) (x10 : Int32) (I : gI) (J : gJ) (r : Int32 × gI × gJ), L_L_isRight n T0 T1 K a2 j 1 x3 x4 y5 x7 y8 x10 0 0 0 0 0 0 0 0 0 I J = some r → gAt G mL_isRight (gQp G mL_isRight (gR (some (.int r.1)) (fO G (lay, T0, T1, Dd) r.2.1 r.2.2 K N) sz)) 25 [some (.ref (G.2.2.1 + 0)), some (.ref (G.2.2.1 + 154)), some (.int a2), some (.int x3), some (.int x4), some (.long y5), none, some (.int x7), some (.long y8), none, some (.int x10), none, none, none, none, none, none, none, none] [] (fO G (lay, T0, T1, Dd) I J K N) sz 0 0) ∧ (∀ (x3 : Int32) (x4 : Int32) (y5 : Int64) (x7 : Int32) (y8 : Int64) (x10 : Int32) (x11 : Int32) (x12 : Int32) (I : gI) (J : gJ) (r : Int32 × gI × gJ), L_L_isRight n T0 T1 K a2 j 2 x3 x4 y5 x7 y8 x10 x11 x12 0 0 0 0 0 0 0 I J = some r → gAt G mL_isRight (gQp G mL_isRight (gR (some (.int r.1)) (fO G (lay, T0, T1, Dd) r.2.1 r.2.2 K N) sz)) 39 [some (.ref (G.2.2.1 + 0)), some (.ref (G.2.2.1 + 154)), some (.int a2), some (.int x3), some (.int x4), some (.long y5), none, some (.int x7), some (.long y8), none, some (.int x10), some (.int x11), some (.int x12), none, none, none, none, none, none] [] (fO G (lay, T0, T1, Dd) I J K N) sz 0 0) ∧ (∀ (x3 : Int32) (x4 : Int32) (y5 : Int64) (x7 : Int32) (y8 : Int64) (x10 : Int32) (x11 : Int32) (x12 : Int32) (x13 : Int32) (x14 : Int32) (x15 : Int32) (x16 : Int32) (x17 : Int32) (I : gI) (J : gJ) (r : Int32 × gI × gJ), L_L_isRight n T0 T1 K a2 j 3 x3 x4 y5 x7 y8 x10 x11 x12 0 x13 x14 x15 x16 x17 0 I J = some r → gAt G mL_isRight (gQp G mL_isRight (gR (some (.int r.1)) (fO G (lay, T0, T1, Dd) r.2.1 r.2.2 K N) sz)) 226 [some (.ref (G.2.2.1 + 0)), some (.ref (G.2.2.1 + 154)), some (.int a2), some (.int x3), some (.int x4), some (.long y5), none, some (.int x7), some (.long y8), none, some (.int x10), some (.int x11), some (.int x12), some (.int x13), some (.int x14), some (.int x15), some (.int x16), some (.int x17), none] [] (fO G (lay, T0, T1, Dd) I J K N) sz 0 0) ∧ (∀ (x3 : Int32) (x4 : Int32) (y5 : Int64) (x7 : Int32) (y8 : Int64) (x10 : Int32) (x11 : Int32) (x12 : Int32) (x13 : Int32) (x14 : Int32) (x15 : Int32) (x16 : Int32) (x17 : Int32) (x18 : Int32) (I : gI) (J : gJ) (r : Int32 × gI × gJ), L_L_isRight n T0 T1 K a2 j 4 x3 x4 y5 x7 y8 x10 x11 x12 0 x13 x14 x15 x16 x17 x18 I J = some r → gAt G mL_isRight (gQp G mL_isRight (gR (some (.int r.1)) (fO G (lay, T0, T1, Dd) r.2.1 r.2.2 K N) sz)) 305 [some (.ref (G.2.2.1 + 0)), some (.ref (G.2.2.1 + 154)), some (.int a2), some (.int x3), some (.int x4), some (.long y5), none, some (.int x7), some (.long y8), none, some (.int x10), some (.int x11), some (.int x12), some (.int x13), some (.int x14), some (.int x15), some (.int x16), some (.int x17), some (.int x18)] [] (fO G (lay, T0, T1, Dd) I J K N) sz 0 0) ∧ (∀ (x3 : Int32) (x4 : Int32) (y5 : Int64) (x7 : Int32) (y8 : Int64) (x10 : Int32) (x11 : Int32) (y12 : Int64) (I : gI) (J : gJ) (r : Int32 × gI × gJ), L_L_isRight n T0 T1 K a2 j 5 x3 x4 y5 x7 y8 x10 x11 0 y12 0 0 0 0 0 0 I J = some r → gAt G mL_isRight (gQp G mL_isRight (gR (some (.int r.1)) (fO G (lay, T0, T1, Dd) r.2.1 r.2.2 K N) sz)) 496 [some (.ref (G.2.2.1 + 0)), some (.ref (G.2.2.1 + 154)), some (.int a2), some (.int x3), some (.int x4), some (.long y5), none, some (.int x7), some (.long y8), none, some (.int x10), some (.int x11), some (.long y12), none, none, none, none, none, none] [] (fO G (lay, T0, T1, Dd) I J K N) sz 0 0) ∧ (∀ (x3 : Int32) (x4 : Int32) (y5 : Int64) (x7 : Int32) (I : gI) (J : gJ) (r : Int32 × gI × gJ), L_L_isRight n T0 T1 K a2 j 6 x3 x4 y5 x7 0 0 0 0 0 0 0 0 0 0 0 I J = some r → gAt G mL_isRight (gQp G mL_isRight (gR (some (.int r.1)) (fO G (lay, T0, T1, Dd) r.2.1 r.2.2 K N) sz)) 653 [some (.ref (G.2.2.1 + 0)), some (.ref (G.2.2.1 + 154)), some (.int a2), some (.int x3), some (.int x4), some (.long y5), none, some (.int x7), none, none, none, none, none, none, none, none, none, none, none] [] (fO G (lay, T0, T1, Dd) I J K N) sz 0 0) := by
  intro j
  induction j with
  | zero => exact ⟨fun _ _ _ _ _ _ _ hf => (by cases hf), fun _ _ _ _ _ _ _ _ _ hf => (by cases hf), fun _ _ _ _ _ _ _ _ _ _ _ hf => (by cases hf), fun _ _ _ _ _ _ _ _ _ _ _ _ _ _ _ _ hf => (by cases hf), fun _ _ _ _ _ _ _ _ _ _ _ _ _ _ _ _ _ hf => (by cases hf), fun _ _ _ _ _ _ _ _ _ _ _ hf => (by cases hf), fun _ _ _ _ _ _ _ hf => (by cases hf)⟩
  | succ j ih =>
    refine ⟨?_, ?_, ?_, ?_, ?_, ?_, ?_⟩
    · intro x3 x4 y5 x7 I J r hf
      rw [L_L_isRight_e0] at hf
      refine r_iload dL_isRight_11 rfl ?_
      refine r_aload_n dL_isRight_13 rfl ?_
      refine r_iconst (v := (2 : Int32)) dL_isRight_14 (by decide) ?_
      refine m_ialdc 2 dL_isRight_15 (hE 154 (by decide)) (vpc rfl) rfl ?_
      refine r_icmp_ge (tgt := 576) dL_isRight_16 (by decide) (fun c16 => ?_) (fun c16 => ?_)
      · replace hf := if_t hf c16
        refine r_aload_n dL_isRight_576 rfl ?_
        refine r_iload_n dL_isRight_577 rfl ?_
        obtain ⟨v578, hc578, hf⟩ := bd_of hf
        rcases v578 with e578 | v578
        · exact (no_no hf).elim
        refine r_cVi (rest := []) (ct_X9_allEnergy hs hE hT0 hT1 hc578) dL_isRight_578 wd_1175 zX9_allEnergy wd_1176 wd_1177 rfl  rfl rfl (fo9 (hE 0 (by decide))) rfl rfl ⟨Nat.le_of_ble_eq_true rfl, Nat.le_of_ble_eq_true rfl⟩ (Nat.le_of_ble_eq_true rfl) ⟨Nat.le_of_ble_eq_true rfl, Nat.le_of_ble_eq_true rfl⟩ ?_
        refine r_lload dL_isRight_581 rfl ?_
        refine r_lcmp dL_isRight_583 ?_
        refine r_if_ne (tgt := 648) dL_isRight_584 (by decide) (fun c584 => ?_) (fun c584 => ?_)
        · replace hf := if_f hf c584
          refine r_iconst (v := (0 : Int32)) dL_isRight_648 (by decide) ?_
          have hr := Option.some.inj hf
          subst hr
          exact r_zret dL_isRight_649 rfl rfl (Nat.le_of_ble_eq_true rfl) (Nat.le_of_ble_eq_true rfl) ⟨rfl, rfl, rfl⟩
        · replace hf := if_t hf c584
          refine r_aload_n dL_isRight_587 rfl ?_
          refine r_iload_n dL_isRight_588 rfl ?_
          refine r_bipush (v := (20 : Int32)) dL_isRight_589 (by decide) ?_
          obtain ⟨v591, hc591, hf⟩ := bd_of hf
          rcases v591 with e591 | v591
          · exact (no_no hf).elim
          refine r_cVi (rest := []) (ct_X9_nodes hs hE hT0 hT1 hc591) dL_isRight_591 wd_656 zX9_nodes wd_657 wd_658 rfl  rfl rfl (fo9 (hE 0 (by decide))) rfl rfl ⟨Nat.le_of_ble_eq_true rfl, Nat.le_of_ble_eq_true rfl⟩ (Nat.le_of_ble_eq_true rfl) ⟨Nat.le_of_ble_eq_true rfl, Nat.le_of_ble_eq_true rfl⟩ ?_
          refine r_iload_n dL_isRight_594 rfl ?_
          refine r_icmp_ne (tgt := 648) dL_isRight_595 (by decide) (fun c595 => ?_) (fun c595 => ?_)
          · replace hf := if_f hf c595
            refine r_iconst (v := (0 : Int32)) dL_isRight_648 (by decide) ?_
            have hr := Option.some.inj hf
            subst hr
            exact r_zret dL_isRight_649 rfl rfl (Nat.le_of_ble_eq_true rfl) (Nat.le_of_ble_eq_true rfl) ⟨rfl, rfl, rfl⟩
          · replace hf := if_t hf c595
            refine r_aload_n dL_isRight_598 rfl ?_
            refine r_iload_n dL_isRight_599 rfl ?_
            refine r_bipush (v := (50 : Int32)) dL_isRight_600 (by decide) ?_
            obtain ⟨v602, hc602, hf⟩ := bd_of hf
            rcases v602 with e602 | v602
            · exact (no_no hf).elim
            refine r_cVi (rest := []) (ct_X9_marks hs hE hT0 hT1 hc602) dL_isRight_602 wd_1179 zX9_marks wd_1180 wd_1181 rfl  rfl rfl (fo9 (hE 0 (by decide))) rfl rfl ⟨Nat.le_of_ble_eq_true rfl, Nat.le_of_ble_eq_true rfl⟩ (Nat.le_of_ble_eq_true rfl) ⟨Nat.le_of_ble_eq_true rfl, Nat.le_of_ble_eq_true rfl⟩ ?_
            refine r_iload dL_isRight_605 rfl ?_
            refine r_icmp_ne (tgt := 648) dL_isRight_607 (by decide) (fun c607 => ?_) (fun c607 => ?_)
            · replace hf := if_f hf c607
              refine r_iconst (v := (0 : Int32)) dL_isRight_648 (by decide) ?_
              have hr := Option.some.inj hf
              subst hr
              exact r_zret dL_isRight_649 rfl rfl (Nat.le_of_ble_eq_true rfl) (Nat.le_of_ble_eq_true rfl) ⟨rfl, rfl, rfl⟩
            · replace hf := if_t hf c607
              refine r_aload_n dL_isRight_610 rfl ?_
              refine r_iload_n dL_isRight_611 rfl ?_
              refine r_bipush (v := (20 : Int32)) dL_isRight_612 (by decide) ?_
              obtain ⟨v614, hc614, hf⟩ := bd_of hf
              rcases v614 with e614 | v614
              · exact (no_no hf).elim
              refine r_cVi (rest := []) (ct_X9_nodeGroups hs hE hT0 hT1 hc614) dL_isRight_614 wd_1183 zX9_nodeGroups wd_1184 wd_1185 rfl  rfl rfl (fo9 (hE 0 (by decide))) rfl rfl ⟨Nat.le_of_ble_eq_true rfl, Nat.le_of_ble_eq_true rfl⟩ (Nat.le_of_ble_eq_true rfl) ⟨Nat.le_of_ble_eq_true rfl, Nat.le_of_ble_eq_true rfl⟩ ?_
              refine r_iload_n dL_isRight_617 rfl ?_
              refine r_icmp_gt (tgt := 648) dL_isRight_618 (by decide) (fun c618 => ?_) (fun c618 => ?_)
              · replace hf := if_t hf c618
                refine r_iconst (v := (0 : Int32)) dL_isRight_648 (by decide) ?_
                have hr := Option.some.inj hf
                subst hr
                exact r_zret dL_isRight_649 rfl rfl (Nat.le_of_ble_eq_true rfl) (Nat.le_of_ble_eq_true rfl) ⟨rfl, rfl, rfl⟩
              · replace hf := if_f hf c618
                refine r_aload_n dL_isRight_621 rfl ?_
                refine r_iload_n dL_isRight_622 rfl ?_
                refine r_bipush (v := (20 : Int32)) dL_isRight_623 (by decide) ?_
                obtain ⟨v625, hc625, hf⟩ := bd_of hf
                rcases v625 with e625 | v625
                · exact (no_no hf).elim
                refine r_cVi (rest := []) (ct_X9_nodeGroups hs hE hT0 hT1 hc625) dL_isRight_625 wd_1183 zX9_nodeGroups wd_1184 wd_1185 rfl  rfl rfl (fo9 (hE 0 (by decide))) rfl rfl ⟨Nat.le_of_ble_eq_true rfl, Nat.le_of_ble_eq_true rfl⟩ (Nat.le_of_ble_eq_true rfl) ⟨Nat.le_of_ble_eq_true rfl, Nat.le_of_ble_eq_true rfl⟩ ?_
                refine r_if_ne (tgt := 635) dL_isRight_628 (by decide) (fun c628 => ?_) (fun c628 => ?_)
                · replace hf := if_f hf c628
                  refine r_iconst (v := (0 : Int32)) dL_isRight_635 (by decide) ?_
                  refine r_iload_n dL_isRight_636 rfl ?_
                  refine r_if_ne (tgt := 644) dL_isRight_637 (by decide) (fun c637 => ?_) (fun c637 => ?_)
                  · replace hf := if_f hf c637
                    refine r_iconst (v := (0 : Int32)) dL_isRight_644 (by decide) ?_
                    refine r_icmp_eq (tgt := 650) dL_isRight_645 (by decide) (fun _ => ?_) (fun c645 => absurd c645 (by decide))
                    refine r_iconst (v := (0 : Int32)) dL_isRight_650 (by decide) ?_
                    refine r_istore dL_isRight_651 (by decide) rfl ?_
                    exact r_widen (k2 := 0) (n2 := 0) (Nat.le_of_ble_eq_true rfl) (Nat.le_of_ble_eq_true rfl) (r_mask [true, true, true, true, true, true, false, true, false, false, false, false, false, false, false, false, false, false, false] rfl (ih.2.2.2.2.2.2 x3 x4 y5 (0 : Int32) v625.2 v602.2 r hf))
                  · replace hf := if_t hf c637
                    refine r_iconst (v := (1 : Int32)) dL_isRight_640 (by decide) ?_
                    refine r_goto (tgt := 645) dL_isRight_641 (by decide) ?_
                    refine r_icmp_eq (tgt := 650) dL_isRight_645 (by decide) (fun c645 => absurd c645 (by decide)) (fun _ => ?_)
                    refine r_iconst (v := (0 : Int32)) dL_isRight_648 (by decide) ?_
                    have hr := Option.some.inj hf
                    subst hr
                    exact r_zret dL_isRight_649 rfl rfl (Nat.le_of_ble_eq_true rfl) (Nat.le_of_ble_eq_true rfl) ⟨rfl, rfl, rfl⟩
                · replace hf := if_t hf c628
                  refine r_iconst (v := (1 : Int32)) dL_isRight_631 (by decide) ?_
                  refine r_goto (tgt := 636) dL_isRight_632 (by decide) ?_
                  refine r_iload_n dL_isRight_636 rfl ?_
                  refine r_if_ne (tgt := 644) dL_isRight_637 (by decide) (fun c637 => ?_) (fun c637 => ?_)
                  · replace hf := if_f hf c637
                    refine r_iconst (v := (0 : Int32)) dL_isRight_644 (by decide) ?_
                    refine r_icmp_eq (tgt := 650) dL_isRight_645 (by decide) (fun c645 => absurd c645 (by decide)) (fun _ => ?_)
                    refine r_iconst (v := (0 : Int32)) dL_isRight_648 (by decide) ?_
                    have hr := Option.some.inj hf
                    subst hr
                    exact r_zret dL_isRight_649 rfl rfl (Nat.le_of_ble_eq_true rfl) (Nat.le_of_ble_eq_true rfl) ⟨rfl, rfl, rfl⟩
                  · replace hf := if_t hf c637
                    refine r_iconst (v := (1 : Int32)) dL_isRight_640 (by decide) ?_
                    refine r_goto (tgt := 645) dL_isRight_641 (by decide) ?_
                    refine r_icmp_eq (tgt := 650) dL_isRight_645 (by decide) (fun _ => ?_) (fun c645 => absurd c645 (by decide))
                    refine r_iconst (v := (0 : Int32)) dL_isRight_650 (by decide) ?_
                    refine r_istore dL_isRight_651 (by decide) rfl ?_
                    exact r_widen (k2 := 0) (n2 := 0) (Nat.le_of_ble_eq_true rfl) (Nat.le_of_ble_eq_true rfl) (r_mask [true, true, true, true, true, true, false, true, false, false, false, false, false, false, false, false, false, false, false] rfl (ih.2.2.2.2.2.2 x3 x4 y5 (0 : Int32) v625.2 v602.2 r hf))
      · replace hf := if_f hf c16
        refine r_lconst (v := (0 : Int64)) dL_isRight_19 (by decide) ?_
        refine r_lstore dL_isRight_20 (by decide) rfl ?_
        refine r_iconst (v := (0 : Int32)) dL_isRight_22 (by decide) ?_
        refine r_istore dL_isRight_23 (by decide) rfl ?_
        exact r_widen (k2 := 0) (n2 := 0) (Nat.le_of_ble_eq_true rfl) (Nat.le_of_ble_eq_true rfl) (r_mask [true, true, true, true, true, true, false, true, true, false, true, false, false, false, false, false, false, false, false] rfl (ih.2.1 x3 x4 y5 x7 (0 : Int64) (0 : Int32) I J r hf))
    · intro x3 x4 y5 x7 y8 x10 I J r hf
      rw [L_L_isRight_e1] at hf
      refine r_iload dL_isRight_25 rfl ?_
      refine r_aload_n dL_isRight_27 rfl ?_
      refine r_iconst (v := (1 : Int32)) dL_isRight_28 (by decide) ?_
      refine m_ialdc 1 dL_isRight_29 (hE 154 (by decide)) (vpc rfl) rfl ?_
      refine r_icmp_ge (tgt := 548) dL_isRight_30 (by decide) (fun c30 => ?_) (fun c30 => ?_)
      · replace hf := if_t hf c30
        refine r_aload_n dL_isRight_548 rfl ?_
        refine r_iload dL_isRight_549 rfl ?_
        refine r_iload_n dL_isRight_551 rfl ?_
        obtain ⟨v552, hc552, hf⟩ := bd_of hf
        rcases v552 with e552 | v552
        · exact (no_no hf).elim
        refine r_cVi (rest := []) (ct_X9_rowEnergy hs hE hT0 hT1 hc552) dL_isRight_552 wd_1171 zX9_rowEnergy wd_1172 wd_1173 rfl  rfl rfl (fo9 (hE 0 (by decide))) rfl rfl ⟨Nat.le_of_ble_eq_true rfl, Nat.le_of_ble_eq_true rfl⟩ (Nat.le_of_ble_eq_true rfl) ⟨Nat.le_of_ble_eq_true rfl, Nat.le_of_ble_eq_true rfl⟩ ?_
        refine r_lload dL_isRight_555 rfl ?_
        refine r_lcmp dL_isRight_557 ?_
        refine r_if_eq (tgt := 563) dL_isRight_558 (by decide) (fun c558 => ?_) (fun c558 => ?_)
        · replace hf := if_t hf c558
          refine r_lload dL_isRight_563 rfl ?_
          refine r_lload dL_isRight_565 rfl ?_
          refine r_ladd dL_isRight_567 ?_
          refine r_lstore dL_isRight_568 (by decide) rfl ?_
          refine r_iincv (v := (x7 + (1 : Int32))) dL_isRight_570 rfl rfl (by decide) rfl ?_
          refine r_goto (tgt := 11) dL_isRight_573 (by decide) ?_
          exact r_widen (k2 := 0) (n2 := 0) (Nat.le_of_ble_eq_true rfl) (Nat.le_of_ble_eq_true rfl) (r_mask [true, true, true, true, true, true, false, true, false, false, false, false, false, false, false, false, false, false, false] rfl (ih.1 x3 x4 (y5 + y8) (x7 + (1 : Int32)) I J r hf))
        · replace hf := if_f hf c558
          refine r_iconst (v := (0 : Int32)) dL_isRight_561 (by decide) ?_
          have hr := Option.some.inj hf
          subst hr
          exact r_zret dL_isRight_562 rfl rfl (Nat.le_of_ble_eq_true rfl) (Nat.le_of_ble_eq_true rfl) ⟨rfl, rfl, rfl⟩
      · replace hf := if_f hf c30
        refine r_iconst (v := (0 : Int32)) dL_isRight_33 (by decide) ?_
        refine r_istore dL_isRight_34 (by decide) rfl ?_
        refine r_iconst (v := (0 : Int32)) dL_isRight_36 (by decide) ?_
        refine r_istore dL_isRight_37 (by decide) rfl ?_
        exact r_widen (k2 := 0) (n2 := 0) (Nat.le_of_ble_eq_true rfl) (Nat.le_of_ble_eq_true rfl) (r_mask [true, true, true, true, true, true, false, true, true, false, true, true, true, false, false, false, false, false, false] rfl (ih.2.2.1 x3 x4 y5 x7 y8 x10 (0 : Int32) (0 : Int32) I J r hf))
    · intro x3 x4 y5 x7 y8 x10 x11 x12 I J r hf
      rw [L_L_isRight_e2] at hf
      refine r_iload dL_isRight_39 rfl ?_
      refine r_aload_n dL_isRight_41 rfl ?_
      refine r_bipush (v := (6 : Int32)) dL_isRight_42 (by decide) ?_
      refine m_ialdc 6 dL_isRight_44 (hE 154 (by decide)) (vpc rfl) rfl ?_
      refine r_icmp_ge (tgt := 371) dL_isRight_45 (by decide) (fun c45 => ?_) (fun c45 => ?_)
      · replace hf := if_t hf c45
        refine r_aload_n dL_isRight_371 rfl ?_
        refine r_iload dL_isRight_372 rfl ?_
        refine r_iload dL_isRight_374 rfl ?_
        refine r_iload_n dL_isRight_376 rfl ?_
        obtain ⟨v377, hc377, hf⟩ := bd_of hf
        rcases v377 with e377 | v377
        · exact (no_no hf).elim
        refine r_cVi (rest := []) (ct_X9_energy hs hE hT0 hT1 hc377) dL_isRight_377 wd_676 zX9_energy wd_677 wd_678 rfl  rfl rfl (fo9 (hE 0 (by decide))) rfl rfl ⟨Nat.le_of_ble_eq_true rfl, Nat.le_of_ble_eq_true rfl⟩ (Nat.le_of_ble_eq_true rfl) ⟨Nat.le_of_ble_eq_true rfl, Nat.le_of_ble_eq_true rfl⟩ ?_
        refine r_lstore dL_isRight_380 (by decide) rfl ?_
        refine r_lload dL_isRight_382 rfl ?_
        refine r_lload dL_isRight_384 rfl ?_
        refine r_ladd dL_isRight_386 ?_
        refine r_lstore dL_isRight_387 (by decide) rfl ?_
        refine r_aload_n dL_isRight_389 rfl ?_
        refine r_iload dL_isRight_390 rfl ?_
        refine r_iload dL_isRight_392 rfl ?_
        refine r_iload dL_isRight_394 rfl ?_
        obtain ⟨v396, hc396, hf⟩ := bd_of hf
        refine r_cSi (rest := []) (ct_L_shoaled hs hE hc396) dL_isRight_396 wd_1140 zL_shoaled wd_1141 rfl  rfl rfl ⟨Nat.le_of_ble_eq_true rfl, Nat.le_of_ble_eq_true rfl⟩ (Nat.le_of_ble_eq_true rfl) ⟨Nat.le_of_ble_eq_true rfl, Nat.le_of_ble_eq_true rfl⟩ ?_
        refine r_istore dL_isRight_399 (by decide) rfl ?_
        refine r_aload_n dL_isRight_401 rfl ?_
        refine r_iload dL_isRight_402 rfl ?_
        refine r_iload dL_isRight_404 rfl ?_
        obtain ⟨v406, hc406, hf⟩ := bd_of hf
        rcases v406 with e406 | v406
        · exact (no_no hf).elim
        refine r_cVi (rest := []) (ct_X9_wave hs hE hT0 hT1 hc406) dL_isRight_406 wd_639 zX9_wave wd_640 wd_641 rfl  rfl rfl (fo9 (hE 0 (by decide))) rfl rfl ⟨Nat.le_of_ble_eq_true rfl, Nat.le_of_ble_eq_true rfl⟩ (Nat.le_of_ble_eq_true rfl) ⟨Nat.le_of_ble_eq_true rfl, Nat.le_of_ble_eq_true rfl⟩ ?_
        refine r_iload dL_isRight_409 rfl ?_
        refine r_icmp_ne (tgt := 494) dL_isRight_411 (by decide) (fun c411 => ?_) (fun c411 => ?_)
        · replace hf := if_f hf c411
          refine r_iconst (v := (0 : Int32)) dL_isRight_494 (by decide) ?_
          have hr := Option.some.inj hf
          subst hr
          exact r_zret dL_isRight_495 rfl rfl (Nat.le_of_ble_eq_true rfl) (Nat.le_of_ble_eq_true rfl) ⟨rfl, rfl, rfl⟩
        · replace hf := if_t hf c411
          refine r_aload_n dL_isRight_414 rfl ?_
          refine r_iload dL_isRight_415 rfl ?_
          refine r_iload dL_isRight_417 rfl ?_
          refine r_aload_n dL_isRight_419 rfl ?_
          obtain ⟨v420, hc420, hf⟩ := bd_of hf
          refine r_cVi (rest := [.int x7, .int x10, .ref (G.2.2.1 + 0)]) (ct_X9_time hs hE hT0 hT1 hc420) dL_isRight_420 wd_405 zX9_time wd_406 wd_407 rfl  rfl rfl (fo9 (hE 0 (by decide))) rfl rfl ⟨Nat.le_of_ble_eq_true rfl, Nat.le_of_ble_eq_true rfl⟩ (Nat.le_of_ble_eq_true rfl) ⟨Nat.le_of_ble_eq_true rfl, Nat.le_of_ble_eq_true rfl⟩ ?_
          obtain ⟨v423, hc423, hf⟩ := bd_of hf
          rcases v423 with e423 | v423
          · exact (no_no hf).elim
          refine r_cVi (rest := []) (ct_X9_waveAt hs hE hT0 hT1 hc423) dL_isRight_423 wd_652 zX9_waveAt wd_653 wd_654 rfl  rfl rfl (fo9 (hE 0 (by decide))) rfl rfl ⟨Nat.le_of_ble_eq_true rfl, Nat.le_of_ble_eq_true rfl⟩ (Nat.le_of_ble_eq_true rfl) ⟨Nat.le_of_ble_eq_true rfl, Nat.le_of_ble_eq_true rfl⟩ ?_
          refine r_iload dL_isRight_426 rfl ?_
          refine r_icmp_ne (tgt := 494) dL_isRight_428 (by decide) (fun c428 => ?_) (fun c428 => ?_)
          · replace hf := if_f hf c428
            refine r_iconst (v := (0 : Int32)) dL_isRight_494 (by decide) ?_
            have hr := Option.some.inj hf
            subst hr
            exact r_zret dL_isRight_495 rfl rfl (Nat.le_of_ble_eq_true rfl) (Nat.le_of_ble_eq_true rfl) ⟨rfl, rfl, rfl⟩
          · replace hf := if_t hf c428
            refine r_iload_n dL_isRight_431 rfl ?_
            refine r_iconst (v := (1 : Int32)) dL_isRight_432 (by decide) ?_
            refine r_icmp_ne (tgt := 449) dL_isRight_433 (by decide) (fun c433 => ?_) (fun c433 => ?_)
            · replace hf := if_f hf c433
              refine r_aload_n dL_isRight_449 rfl ?_
              refine r_iload dL_isRight_450 rfl ?_
              refine r_iload dL_isRight_452 rfl ?_
              refine r_iload_n dL_isRight_454 rfl ?_
              refine r_iconst (v := (0 : Int32)) dL_isRight_455 (by decide) ?_
              obtain ⟨v456, hc456, hf⟩ := bd_of hf
              rcases v456 with e456 | v456
              · exact (no_no hf).elim
              refine r_cVi (rest := []) (ct_X9_isNode hs hE hT0 hT1 hc456) dL_isRight_456 wd_1143 zX9_isNode wd_1144 wd_1145 rfl  rfl rfl (fo9 (hE 0 (by decide))) rfl rfl ⟨Nat.le_of_ble_eq_true rfl, Nat.le_of_ble_eq_true rfl⟩ (Nat.le_of_ble_eq_true rfl) ⟨Nat.le_of_ble_eq_true rfl, Nat.le_of_ble_eq_true rfl⟩ ?_
              refine r_lload dL_isRight_459 rfl ?_
              refine r_lconst (v := (0 : Int64)) dL_isRight_461 (by decide) ?_
              refine r_lcmp dL_isRight_462 ?_
              refine r_if_ne (tgt := 470) dL_isRight_463 (by decide) (fun c463 => ?_) (fun c463 => ?_)
              · replace hf := if_f hf c463
                refine r_iconst (v := (0 : Int32)) dL_isRight_470 (by decide) ?_
                refine r_icmp_ne (tgt := 494) dL_isRight_471 (by decide) (fun c471 => ?_) (fun c471 => ?_)
                · replace hf := if_f hf c471
                  refine r_iconst (v := (0 : Int32)) dL_isRight_494 (by decide) ?_
                  have hr := Option.some.inj hf
                  subst hr
                  exact r_zret dL_isRight_495 rfl rfl (Nat.le_of_ble_eq_true rfl) (Nat.le_of_ble_eq_true rfl) ⟨rfl, rfl, rfl⟩
                · replace hf := if_t hf c471
                  refine r_lload dL_isRight_474 rfl ?_
                  refine r_lconst (v := (0 : Int64)) dL_isRight_476 (by decide) ?_
                  refine r_lcmp dL_isRight_477 ?_
                  refine r_if_ne (tgt := 496) dL_isRight_478 (by decide) (fun c478 => ?_) (fun c478 => ?_)
                  · replace hf := if_f hf c478
                    exact r_widen (k2 := 0) (n2 := 0) (Nat.le_of_ble_eq_true rfl) (Nat.le_of_ble_eq_true rfl) (r_mask [true, true, true, true, true, true, false, true, true, false, true, true, true, false, false, false, false, false, false] rfl (ih.2.2.2.2.2.1 x3 x4 y5 x7 (y8 + v377) x10 v396 v377 I J r hf))
                  · replace hf := if_t hf c478
                    refine r_aload_n dL_isRight_481 rfl ?_
                    refine r_iload dL_isRight_482 rfl ?_
                    refine r_iload dL_isRight_484 rfl ?_
                    refine r_iload_n dL_isRight_486 rfl ?_
                    refine r_iconst (v := (1 : Int32)) dL_isRight_487 (by decide) ?_
                    obtain ⟨v488, hc488, hf⟩ := bd_of hf
                    rcases v488 with e488 | v488
                    · exact (no_no hf).elim
                    refine r_cVi (rest := []) (ct_X9_isMark hs hE hT0 hT1 hc488) dL_isRight_488 wd_1147 zX9_isMark wd_1148 wd_1149 rfl  rfl rfl (fo9 (hE 0 (by decide))) rfl rfl ⟨Nat.le_of_ble_eq_true rfl, Nat.le_of_ble_eq_true rfl⟩ (Nat.le_of_ble_eq_true rfl) ⟨Nat.le_of_ble_eq_true rfl, Nat.le_of_ble_eq_true rfl⟩ ?_
                    refine r_if_eq (tgt := 496) dL_isRight_491 (by decide) (fun c491 => ?_) (fun c491 => ?_)
                    · replace hf := if_t hf c491
                      exact r_widen (k2 := 0) (n2 := 0) (Nat.le_of_ble_eq_true rfl) (Nat.le_of_ble_eq_true rfl) (r_mask [true, true, true, true, true, true, false, true, true, false, true, true, true, false, false, false, false, false, false] rfl (ih.2.2.2.2.2.1 x3 x4 y5 x7 (y8 + v377) x10 v396 v377 I v488.2 r hf))
                    · replace hf := if_f hf c491
                      refine r_iconst (v := (0 : Int32)) dL_isRight_494 (by decide) ?_
                      have hr := Option.some.inj hf
                      subst hr
                      exact r_zret dL_isRight_495 rfl rfl (Nat.le_of_ble_eq_true rfl) (Nat.le_of_ble_eq_true rfl) ⟨rfl, rfl, rfl⟩
              · replace hf := if_t hf c463
                refine r_iconst (v := (1 : Int32)) dL_isRight_466 (by decide) ?_
                refine r_goto (tgt := 471) dL_isRight_467 (by decide) ?_
                refine r_icmp_ne (tgt := 494) dL_isRight_471 (by decide) (fun c471 => ?_) (fun c471 => ?_)
                · replace hf := if_f hf c471
                  refine r_iconst (v := (0 : Int32)) dL_isRight_494 (by decide) ?_
                  have hr := Option.some.inj hf
                  subst hr
                  exact r_zret dL_isRight_495 rfl rfl (Nat.le_of_ble_eq_true rfl) (Nat.le_of_ble_eq_true rfl) ⟨rfl, rfl, rfl⟩
                · replace hf := if_t hf c471
                  refine r_lload dL_isRight_474 rfl ?_
                  refine r_lconst (v := (0 : Int64)) dL_isRight_476 (by decide) ?_
                  refine r_lcmp dL_isRight_477 ?_
                  refine r_if_ne (tgt := 496) dL_isRight_478 (by decide) (fun c478 => ?_) (fun c478 => ?_)
                  · replace hf := if_f hf c478
                    exact r_widen (k2 := 0) (n2 := 0) (Nat.le_of_ble_eq_true rfl) (Nat.le_of_ble_eq_true rfl) (r_mask [true, true, true, true, true, true, false, true, true, false, true, true, true, false, false, false, false, false, false] rfl (ih.2.2.2.2.2.1 x3 x4 y5 x7 (y8 + v377) x10 v396 v377 I J r hf))
                  · replace hf := if_t hf c478
                    refine r_aload_n dL_isRight_481 rfl ?_
                    refine r_iload dL_isRight_482 rfl ?_
                    refine r_iload dL_isRight_484 rfl ?_
                    refine r_iload_n dL_isRight_486 rfl ?_
                    refine r_iconst (v := (1 : Int32)) dL_isRight_487 (by decide) ?_
                    obtain ⟨v488, hc488, hf⟩ := bd_of hf
                    rcases v488 with e488 | v488
                    · exact (no_no hf).elim
                    refine r_cVi (rest := []) (ct_X9_isMark hs hE hT0 hT1 hc488) dL_isRight_488 wd_1147 zX9_isMark wd_1148 wd_1149 rfl  rfl rfl (fo9 (hE 0 (by decide))) rfl rfl ⟨Nat.le_of_ble_eq_true rfl, Nat.le_of_ble_eq_true rfl⟩ (Nat.le_of_ble_eq_true rfl) ⟨Nat.le_of_ble_eq_true rfl, Nat.le_of_ble_eq_true rfl⟩ ?_
                    refine r_if_eq (tgt := 496) dL_isRight_491 (by decide) (fun c491 => ?_) (fun c491 => ?_)
                    · replace hf := if_t hf c491
                      exact r_widen (k2 := 0) (n2 := 0) (Nat.le_of_ble_eq_true rfl) (Nat.le_of_ble_eq_true rfl) (r_mask [true, true, true, true, true, true, false, true, true, false, true, true, true, false, false, false, false, false, false] rfl (ih.2.2.2.2.2.1 x3 x4 y5 x7 (y8 + v377) x10 v396 v377 I v488.2 r hf))
                    · replace hf := if_f hf c491
                      refine r_iconst (v := (0 : Int32)) dL_isRight_494 (by decide) ?_
                      have hr := Option.some.inj hf
                      subst hr
                      exact r_zret dL_isRight_495 rfl rfl (Nat.le_of_ble_eq_true rfl) (Nat.le_of_ble_eq_true rfl) ⟨rfl, rfl, rfl⟩
            · replace hf := if_t hf c433
              refine r_lload dL_isRight_436 rfl ?_
              refine r_iload dL_isRight_438 rfl ?_
              refine r_i2l dL_isRight_440 ?_
              refine r_iload dL_isRight_441 rfl ?_
              refine r_i2l dL_isRight_443 ?_
              refine r_lmul dL_isRight_444 ?_
              refine r_lcmp dL_isRight_445 ?_
              refine r_if_ne (tgt := 494) dL_isRight_446 (by decide) (fun c446 => ?_) (fun c446 => ?_)
              · replace hf := if_f hf c446
                refine r_iconst (v := (0 : Int32)) dL_isRight_494 (by decide) ?_
                have hr := Option.some.inj hf
                subst hr
                exact r_zret dL_isRight_495 rfl rfl (Nat.le_of_ble_eq_true rfl) (Nat.le_of_ble_eq_true rfl) ⟨rfl, rfl, rfl⟩
              · replace hf := if_t hf c446
                refine r_aload_n dL_isRight_449 rfl ?_
                refine r_iload dL_isRight_450 rfl ?_
                refine r_iload dL_isRight_452 rfl ?_
                refine r_iload_n dL_isRight_454 rfl ?_
                refine r_iconst (v := (0 : Int32)) dL_isRight_455 (by decide) ?_
                obtain ⟨v456, hc456, hf⟩ := bd_of hf
                rcases v456 with e456 | v456
                · exact (no_no hf).elim
                refine r_cVi (rest := []) (ct_X9_isNode hs hE hT0 hT1 hc456) dL_isRight_456 wd_1143 zX9_isNode wd_1144 wd_1145 rfl  rfl rfl (fo9 (hE 0 (by decide))) rfl rfl ⟨Nat.le_of_ble_eq_true rfl, Nat.le_of_ble_eq_true rfl⟩ (Nat.le_of_ble_eq_true rfl) ⟨Nat.le_of_ble_eq_true rfl, Nat.le_of_ble_eq_true rfl⟩ ?_
                refine r_lload dL_isRight_459 rfl ?_
                refine r_lconst (v := (0 : Int64)) dL_isRight_461 (by decide) ?_
                refine r_lcmp dL_isRight_462 ?_
                refine r_if_ne (tgt := 470) dL_isRight_463 (by decide) (fun c463 => ?_) (fun c463 => ?_)
                · replace hf := if_f hf c463
                  refine r_iconst (v := (0 : Int32)) dL_isRight_470 (by decide) ?_
                  refine r_icmp_ne (tgt := 494) dL_isRight_471 (by decide) (fun c471 => ?_) (fun c471 => ?_)
                  · replace hf := if_f hf c471
                    refine r_iconst (v := (0 : Int32)) dL_isRight_494 (by decide) ?_
                    have hr := Option.some.inj hf
                    subst hr
                    exact r_zret dL_isRight_495 rfl rfl (Nat.le_of_ble_eq_true rfl) (Nat.le_of_ble_eq_true rfl) ⟨rfl, rfl, rfl⟩
                  · replace hf := if_t hf c471
                    refine r_lload dL_isRight_474 rfl ?_
                    refine r_lconst (v := (0 : Int64)) dL_isRight_476 (by decide) ?_
                    refine r_lcmp dL_isRight_477 ?_
                    refine r_if_ne (tgt := 496) dL_isRight_478 (by decide) (fun c478 => ?_) (fun c478 => ?_)
                    · replace hf := if_f hf c478
                      exact r_widen (k2 := 0) (n2 := 0) (Nat.le_of_ble_eq_true rfl) (Nat.le_of_ble_eq_true rfl) (r_mask [true, true, true, true, true, true, false, true, true, false, true, true, true, false, false, false, false, false, false] rfl (ih.2.2.2.2.2.1 x3 x4 y5 x7 (y8 + v377) x10 v396 v377 I J r hf))
                    · replace hf := if_t hf c478
                      refine r_aload_n dL_isRight_481 rfl ?_
                      refine r_iload dL_isRight_482 rfl ?_
                      refine r_iload dL_isRight_484 rfl ?_
                      refine r_iload_n dL_isRight_486 rfl ?_
                      refine r_iconst (v := (1 : Int32)) dL_isRight_487 (by decide) ?_
                      obtain ⟨v488, hc488, hf⟩ := bd_of hf
                      rcases v488 with e488 | v488
                      · exact (no_no hf).elim
                      refine r_cVi (rest := []) (ct_X9_isMark hs hE hT0 hT1 hc488) dL_isRight_488 wd_1147 zX9_isMark wd_1148 wd_1149 rfl  rfl rfl (fo9 (hE 0 (by decide))) rfl rfl ⟨Nat.le_of_ble_eq_true rfl, Nat.le_of_ble_eq_true rfl⟩ (Nat.le_of_ble_eq_true rfl) ⟨Nat.le_of_ble_eq_true rfl, Nat.le_of_ble_eq_true rfl⟩ ?_
                      refine r_if_eq (tgt := 496) dL_isRight_491 (by decide) (fun c491 => ?_) (fun c491 => ?_)
                      · replace hf := if_t hf c491
                        exact r_widen (k2 := 0) (n2 := 0) (Nat.le_of_ble_eq_true rfl) (Nat.le_of_ble_eq_true rfl) (r_mask [true, true, true, true, true, true, false, true, true, false, true, true, true, false, false, false, false, false, false] rfl (ih.2.2.2.2.2.1 x3 x4 y5 x7 (y8 + v377) x10 v396 v377 I v488.2 r hf))
                      · replace hf := if_f hf c491
                        refine r_iconst (v := (0 : Int32)) dL_isRight_494 (by decide) ?_
                        have hr := Option.some.inj hf
                        subst hr
                        exact r_zret dL_isRight_495 rfl rfl (Nat.le_of_ble_eq_true rfl) (Nat.le_of_ble_eq_true rfl) ⟨rfl, rfl, rfl⟩
                · replace hf := if_t hf c463
                  refine r_iconst (v := (1 : Int32)) dL_isRight_466 (by decide) ?_
                  refine r_goto (tgt := 471) dL_isRight_467 (by decide) ?_
                  refine r_icmp_ne (tgt := 494) dL_isRight_471 (by decide) (fun c471 => ?_) (fun c471 => ?_)
                  · replace hf := if_f hf c471
                    refine r_iconst (v := (0 : Int32)) dL_isRight_494 (by decide) ?_
                    have hr := Option.some.inj hf
                    subst hr
                    exact r_zret dL_isRight_495 rfl rfl (Nat.le_of_ble_eq_true rfl) (Nat.le_of_ble_eq_true rfl) ⟨rfl, rfl, rfl⟩
                  · replace hf := if_t hf c471
                    refine r_lload dL_isRight_474 rfl ?_
                    refine r_lconst (v := (0 : Int64)) dL_isRight_476 (by decide) ?_
                    refine r_lcmp dL_isRight_477 ?_
                    refine r_if_ne (tgt := 496) dL_isRight_478 (by decide) (fun c478 => ?_) (fun c478 => ?_)
                    · replace hf := if_f hf c478
                      exact r_widen (k2 := 0) (n2 := 0) (Nat.le_of_ble_eq_true rfl) (Nat.le_of_ble_eq_true rfl) (r_mask [true, true, true, true, true, true, false, true, true, false, true, true, true, false, false, false, false, false, false] rfl (ih.2.2.2.2.2.1 x3 x4 y5 x7 (y8 + v377) x10 v396 v377 I J r hf))
                    · replace hf := if_t hf c478
                      refine r_aload_n dL_isRight_481 rfl ?_
                      refine r_iload dL_isRight_482 rfl ?_
                      refine r_iload dL_isRight_484 rfl ?_
                      refine r_iload_n dL_isRight_486 rfl ?_
                      refine r_iconst (v := (1 : Int32)) dL_isRight_487 (by decide) ?_
                      obtain ⟨v488, hc488, hf⟩ := bd_of hf
                      rcases v488 with e488 | v488
                      · exact (no_no hf).elim
                      refine r_cVi (rest := []) (ct_X9_isMark hs hE hT0 hT1 hc488) dL_isRight_488 wd_1147 zX9_isMark wd_1148 wd_1149 rfl  rfl rfl (fo9 (hE 0 (by decide))) rfl rfl ⟨Nat.le_of_ble_eq_true rfl, Nat.le_of_ble_eq_true rfl⟩ (Nat.le_of_ble_eq_true rfl) ⟨Nat.le_of_ble_eq_true rfl, Nat.le_of_ble_eq_true rfl⟩ ?_
                      refine r_if_eq (tgt := 496) dL_isRight_491 (by decide) (fun c491 => ?_) (fun c491 => ?_)
                      · replace hf := if_t hf c491
                        exact r_widen (k2 := 0) (n2 := 0) (Nat.le_of_ble_eq_true rfl) (Nat.le_of_ble_eq_true rfl) (r_mask [true, true, true, true, true, true, false, true, true, false, true, true, true, false, false, false, false, false, false] rfl (ih.2.2.2.2.2.1 x3 x4 y5 x7 (y8 + v377) x10 v396 v377 I v488.2 r hf))
                      · replace hf := if_f hf c491
                        refine r_iconst (v := (0 : Int32)) dL_isRight_494 (by decide) ?_
                        have hr := Option.some.inj hf
                        subst hr
                        exact r_zret dL_isRight_495 rfl rfl (Nat.le_of_ble_eq_true rfl) (Nat.le_of_ble_eq_true rfl) ⟨rfl, rfl, rfl⟩
      · replace hf := if_f hf c45
        refine r_aload_n dL_isRight_48 rfl ?_
        refine r_iload dL_isRight_49 rfl ?_
        refine r_iload dL_isRight_51 rfl ?_
        refine r_iload dL_isRight_53 rfl ?_
        obtain ⟨v55, hc55, hf⟩ := bd_of hf
        rcases v55 with e55 | v55
        · exact (no_no hf).elim
        refine r_cVi (rest := []) (ct_X9_part hs hE hT0 hT1 hc55) dL_isRight_55 wd_558 zX9_part wd_559 wd_560 rfl  rfl rfl (fo9 (hE 0 (by decide))) rfl rfl ⟨Nat.le_of_ble_eq_true rfl, Nat.le_of_ble_eq_true rfl⟩ (Nat.le_of_ble_eq_true rfl) ⟨Nat.le_of_ble_eq_true rfl, Nat.le_of_ble_eq_true rfl⟩ ?_
        refine r_istore dL_isRight_58 (by decide) rfl ?_
        refine r_iload dL_isRight_60 rfl ?_
        refine r_iload dL_isRight_62 rfl ?_
        refine r_iadd dL_isRight_64 ?_
        refine r_istore dL_isRight_65 (by decide) rfl ?_
        refine r_aload_n dL_isRight_67 rfl ?_
        refine r_iload dL_isRight_68 rfl ?_
        refine r_iconst (v := (0 : Int32)) dL_isRight_70 (by decide) ?_
        refine r_aload_n dL_isRight_71 rfl ?_
        obtain ⟨v72, hc72, hf⟩ := bd_of hf
        refine r_cVi (rest := [.int (0 : Int32), .int x12, .ref (G.2.2.1 + 0)]) (ct_X9_time hs hE hT0 hT1 hc72) dL_isRight_72 wd_405 zX9_time wd_406 wd_407 rfl  rfl rfl (fo9 (hE 0 (by decide))) rfl rfl ⟨Nat.le_of_ble_eq_true rfl, Nat.le_of_ble_eq_true rfl⟩ (Nat.le_of_ble_eq_true rfl) ⟨Nat.le_of_ble_eq_true rfl, Nat.le_of_ble_eq_true rfl⟩ ?_
        obtain ⟨v75, hc75, hf⟩ := bd_of hf
        rcases v75 with e75 | v75
        · exact (no_no hf).elim
        refine r_cVi (rest := []) (ct_X9_sourceAt hs hE hT0 hT1 hc75) dL_isRight_75 wd_508 zX9_sourceAt wd_509 wd_510 rfl  rfl rfl (fo9 (hE 0 (by decide))) rfl rfl ⟨Nat.le_of_ble_eq_true rfl, Nat.le_of_ble_eq_true rfl⟩ (Nat.le_of_ble_eq_true rfl) ⟨Nat.le_of_ble_eq_true rfl, Nat.le_of_ble_eq_true rfl⟩ ?_
        refine r_istore dL_isRight_78 (by decide) rfl ?_
        refine r_aload_n dL_isRight_80 rfl ?_
        refine r_iload dL_isRight_81 rfl ?_
        refine r_iconst (v := (1 : Int32)) dL_isRight_83 (by decide) ?_
        refine r_aload_n dL_isRight_84 rfl ?_
        obtain ⟨v85, hc85, hf⟩ := bd_of hf
        refine r_cVi (rest := [.int (1 : Int32), .int x12, .ref (G.2.2.1 + 0)]) (ct_X9_time hs hE hT0 hT1 hc85) dL_isRight_85 wd_405 zX9_time wd_406 wd_407 rfl  rfl rfl (fo9 (hE 0 (by decide))) rfl rfl ⟨Nat.le_of_ble_eq_true rfl, Nat.le_of_ble_eq_true rfl⟩ (Nat.le_of_ble_eq_true rfl) ⟨Nat.le_of_ble_eq_true rfl, Nat.le_of_ble_eq_true rfl⟩ ?_
        obtain ⟨v88, hc88, hf⟩ := bd_of hf
        rcases v88 with e88 | v88
        · exact (no_no hf).elim
        refine r_cVi (rest := []) (ct_X9_sourceAt hs hE hT0 hT1 hc88) dL_isRight_88 wd_508 zX9_sourceAt wd_509 wd_510 rfl  rfl rfl (fo9 (hE 0 (by decide))) rfl rfl ⟨Nat.le_of_ble_eq_true rfl, Nat.le_of_ble_eq_true rfl⟩ (Nat.le_of_ble_eq_true rfl) ⟨Nat.le_of_ble_eq_true rfl, Nat.le_of_ble_eq_true rfl⟩ ?_
        refine r_istore dL_isRight_91 (by decide) rfl ?_
        refine r_aload_n dL_isRight_93 rfl ?_
        refine r_iload dL_isRight_94 rfl ?_
        refine r_iload dL_isRight_96 rfl ?_
        refine r_isub dL_isRight_98 ?_
        refine r_mabs dL_isRight_99 wd_815 wd_595 wd_54 wMath_mabs (Nat.le_of_ble_eq_true rfl) (Nat.le_of_ble_eq_true rfl) (Nat.le_of_ble_eq_true rfl) (Nat.le_of_ble_eq_true rfl) ?_
        refine r_iload dL_isRight_102 rfl ?_
        refine r_iload dL_isRight_104 rfl ?_
        refine r_isub dL_isRight_106 ?_
        refine r_mabs dL_isRight_107 wd_815 wd_595 wd_54 wMath_mabs (Nat.le_of_ble_eq_true rfl) (Nat.le_of_ble_eq_true rfl) (Nat.le_of_ble_eq_true rfl) (Nat.le_of_ble_eq_true rfl) ?_
        obtain ⟨v110, hc110, hf⟩ := bd_of hf
        rcases v110 with e110 | v110
        · exact (no_no hf).elim
        refine r_cVi (rest := []) (ct_X9_distance hs hE hT0 hT1 hc110) dL_isRight_110 wd_1102 zX9_distance wd_1103 wd_1104 rfl  rfl rfl (fo9 (hE 0 (by decide))) rfl rfl ⟨Nat.le_of_ble_eq_true rfl, Nat.le_of_ble_eq_true rfl⟩ (Nat.le_of_ble_eq_true rfl) ⟨Nat.le_of_ble_eq_true rfl, Nat.le_of_ble_eq_true rfl⟩ ?_
        refine r_istore dL_isRight_113 (by decide) rfl ?_
        refine r_aload_n dL_isRight_115 rfl ?_
        refine r_iload dL_isRight_116 rfl ?_
        refine r_iload dL_isRight_118 rfl ?_
        refine r_iload dL_isRight_120 rfl ?_
        obtain ⟨v122, hc122, hf⟩ := bd_of hf
        rcases v122 with e122 | v122
        · exact (no_no hf).elim
        refine r_cVi (rest := []) (ct_X9_shortest hs hE hT0 hT1 hc122) dL_isRight_122 wd_1107 zX9_shortest wd_1108 wd_1109 rfl  rfl rfl (fo9 (hE 0 (by decide))) rfl rfl ⟨Nat.le_of_ble_eq_true rfl, Nat.le_of_ble_eq_true rfl⟩ (Nat.le_of_ble_eq_true rfl) ⟨Nat.le_of_ble_eq_true rfl, Nat.le_of_ble_eq_true rfl⟩ ?_
        refine r_istore dL_isRight_125 (by decide) rfl ?_
        refine r_iload dL_isRight_127 rfl ?_
        refine r_mabs dL_isRight_129 wd_815 wd_595 wd_54 wMath_mabs (Nat.le_of_ble_eq_true rfl) (Nat.le_of_ble_eq_true rfl) (Nat.le_of_ble_eq_true rfl) (Nat.le_of_ble_eq_true rfl) ?_
        refine r_iconst (v := (5 : Int32)) dL_isRight_132 (by decide) ?_
        refine r_aload_n dL_isRight_133 rfl ?_
        refine r_iload dL_isRight_134 rfl ?_
        refine r_iconst (v := (0 : Int32)) dL_isRight_136 (by decide) ?_
        obtain ⟨v137, hc137, hf⟩ := bd_of hf
        rcases v137 with e137 | v137
        · exact (no_no hf).elim
        refine r_cVi (rest := [.int (5 : Int32), .int (jabs v55)]) (ct_X9_property hs hE hT0 hT1 hc137) dL_isRight_137 wd_550 zX9_property wd_551 wd_552 rfl  rfl rfl (fo9 (hE 0 (by decide))) rfl rfl ⟨Nat.le_of_ble_eq_true rfl, Nat.le_of_ble_eq_true rfl⟩ (Nat.le_of_ble_eq_true rfl) ⟨Nat.le_of_ble_eq_true rfl, Nat.le_of_ble_eq_true rfl⟩ ?_
        refine r_imul dL_isRight_140 ?_
        refine r_icmp_gt (tgt := 224) dL_isRight_141 (by decide) (fun c141 => ?_) (fun c141 => ?_)
        · replace hf := if_t hf c141
          refine r_iconst (v := (0 : Int32)) dL_isRight_224 (by decide) ?_
          have hr := Option.some.inj hf
          subst hr
          exact r_zret dL_isRight_225 rfl rfl (Nat.le_of_ble_eq_true rfl) (Nat.le_of_ble_eq_true rfl) ⟨rfl, rfl, rfl⟩
        · replace hf := if_f hf c141
          refine r_aload_n dL_isRight_144 rfl ?_
          refine r_iload dL_isRight_145 rfl ?_
          refine r_iload dL_isRight_147 rfl ?_
          refine r_iload dL_isRight_149 rfl ?_
          obtain ⟨v151, hc151, hf⟩ := bd_of hf
          rcases v151 with e151 | v151
          · exact (no_no hf).elim
          refine r_cVi (rest := []) (ct_X9_isBehind hs hE hT0 hT1 hc151) dL_isRight_151 wd_1115 zX9_isBehind wd_1116 wd_1117 rfl  rfl rfl (fo9 (hE 0 (by decide))) rfl rfl ⟨Nat.le_of_ble_eq_true rfl, Nat.le_of_ble_eq_true rfl⟩ (Nat.le_of_ble_eq_true rfl) ⟨Nat.le_of_ble_eq_true rfl, Nat.le_of_ble_eq_true rfl⟩ ?_
          refine r_if_eq (tgt := 172) dL_isRight_154 (by decide) (fun c154 => ?_) (fun c154 => ?_)
          · replace hf := if_t hf c154
            refine r_aload_n dL_isRight_172 rfl ?_
            refine r_iload dL_isRight_173 rfl ?_
            obtain ⟨v175, hc175, hf⟩ := bd_of hf
            rcases v175 with e175 | v175
            · exact (no_no hf).elim
            refine r_cVi (rest := []) (ct_X9_isOn hs hE hT0 hT1 hc175) dL_isRight_175 wd_554 zX9_isOn wd_555 wd_556 rfl  rfl rfl (fo9 (hE 0 (by decide))) rfl rfl ⟨Nat.le_of_ble_eq_true rfl, Nat.le_of_ble_eq_true rfl⟩ (Nat.le_of_ble_eq_true rfl) ⟨Nat.le_of_ble_eq_true rfl, Nat.le_of_ble_eq_true rfl⟩ ?_
            refine r_if_ne (tgt := 186) dL_isRight_178 (by decide) (fun c178 => ?_) (fun c178 => ?_)
            · replace hf := if_f hf c178
              refine r_iload dL_isRight_186 rfl ?_
              refine r_if_ge (tgt := 226) dL_isRight_188 (by decide) (fun c188 => ?_) (fun c188 => ?_)
              · replace hf := if_t hf c188
                exact r_widen (k2 := 0) (n2 := 0) (Nat.le_of_ble_eq_true rfl) (Nat.le_of_ble_eq_true rfl) (r_mask [true, true, true, true, true, true, false, true, true, false, true, true, true, true, true, true, true, true, false] rfl (ih.2.2.2.1 x3 x4 y5 x7 y8 x10 (x11 + v55) x12 v55 v75 v88 v110 v122 I J r hf))
              · replace hf := if_f hf c188
                refine r_iload dL_isRight_191 rfl ?_
                refine r_if_ne (tgt := 224) dL_isRight_193 (by decide) (fun c193 => ?_) (fun c193 => ?_)
                · replace hf := if_f hf c193
                  refine r_iconst (v := (0 : Int32)) dL_isRight_224 (by decide) ?_
                  have hr := Option.some.inj hf
                  subst hr
                  exact r_zret dL_isRight_225 rfl rfl (Nat.le_of_ble_eq_true rfl) (Nat.le_of_ble_eq_true rfl) ⟨rfl, rfl, rfl⟩
                · replace hf := if_t hf c193
                  refine r_aload_n dL_isRight_196 rfl ?_
                  refine r_iload dL_isRight_197 rfl ?_
                  refine r_iload dL_isRight_199 rfl ?_
                  refine r_iload dL_isRight_201 rfl ?_
                  obtain ⟨v203, hc203, hf⟩ := bd_of hf
                  rcases v203 with e203 | v203
                  · exact (no_no hf).elim
                  refine r_cVi (rest := []) (ct_X9_arrival hs hE hT0 hT1 hc203) dL_isRight_203 wd_1120 zX9_arrival wd_1121 wd_1122 rfl  rfl rfl (fo9 (hE 0 (by decide))) rfl rfl ⟨Nat.le_of_ble_eq_true rfl, Nat.le_of_ble_eq_true rfl⟩ (Nat.le_of_ble_eq_true rfl) ⟨Nat.le_of_ble_eq_true rfl, Nat.le_of_ble_eq_true rfl⟩ ?_
                  refine r_iconst (v := (-1 : Int32)) dL_isRight_206 (by decide) ?_
                  refine r_icmp_ne (tgt := 224) dL_isRight_207 (by decide) (fun c207 => ?_) (fun c207 => ?_)
                  · replace hf := if_f hf c207
                    refine r_iconst (v := (0 : Int32)) dL_isRight_224 (by decide) ?_
                    have hr := Option.some.inj hf
                    subst hr
                    exact r_zret dL_isRight_225 rfl rfl (Nat.le_of_ble_eq_true rfl) (Nat.le_of_ble_eq_true rfl) ⟨rfl, rfl, rfl⟩
                  · replace hf := if_t hf c207
                    refine r_aload_n dL_isRight_210 rfl ?_
                    refine r_iload dL_isRight_211 rfl ?_
                    refine r_iload dL_isRight_213 rfl ?_
                    refine r_iload dL_isRight_215 rfl ?_
                    obtain ⟨v217, hc217, hf⟩ := bd_of hf
                    rcases v217 with e217 | v217
                    · exact (no_no hf).elim
                    refine r_cVi (rest := []) (ct_X9_phase hs hE hT0 hT1 hc217) dL_isRight_217 wd_1130 zX9_phase wd_1131 wd_1132 rfl  rfl rfl (fo9 (hE 0 (by decide))) rfl rfl ⟨Nat.le_of_ble_eq_true rfl, Nat.le_of_ble_eq_true rfl⟩ (Nat.le_of_ble_eq_true rfl) ⟨Nat.le_of_ble_eq_true rfl, Nat.le_of_ble_eq_true rfl⟩ ?_
                    refine r_iconst (v := (-1 : Int32)) dL_isRight_220 (by decide) ?_
                    refine r_icmp_eq (tgt := 226) dL_isRight_221 (by decide) (fun c221 => ?_) (fun c221 => ?_)
                    · replace hf := if_t hf c221
                      exact r_widen (k2 := 0) (n2 := 0) (Nat.le_of_ble_eq_true rfl) (Nat.le_of_ble_eq_true rfl) (r_mask [true, true, true, true, true, true, false, true, true, false, true, true, true, true, true, true, true, true, false] rfl (ih.2.2.2.1 x3 x4 y5 x7 y8 x10 (x11 + v55) x12 v55 v75 v88 v110 v122 I J r hf))
                    · replace hf := if_f hf c221
                      refine r_iconst (v := (0 : Int32)) dL_isRight_224 (by decide) ?_
                      have hr := Option.some.inj hf
                      subst hr
                      exact r_zret dL_isRight_225 rfl rfl (Nat.le_of_ble_eq_true rfl) (Nat.le_of_ble_eq_true rfl) ⟨rfl, rfl, rfl⟩
            · replace hf := if_t hf c178
              refine r_iload dL_isRight_181 rfl ?_
              refine r_if_ne (tgt := 224) dL_isRight_183 (by decide) (fun c183 => ?_) (fun c183 => ?_)
              · replace hf := if_f hf c183
                refine r_iconst (v := (0 : Int32)) dL_isRight_224 (by decide) ?_
                have hr := Option.some.inj hf
                subst hr
                exact r_zret dL_isRight_225 rfl rfl (Nat.le_of_ble_eq_true rfl) (Nat.le_of_ble_eq_true rfl) ⟨rfl, rfl, rfl⟩
              · replace hf := if_t hf c183
                refine r_iload dL_isRight_186 rfl ?_
                refine r_if_ge (tgt := 226) dL_isRight_188 (by decide) (fun c188 => ?_) (fun c188 => ?_)
                · replace hf := if_t hf c188
                  exact r_widen (k2 := 0) (n2 := 0) (Nat.le_of_ble_eq_true rfl) (Nat.le_of_ble_eq_true rfl) (r_mask [true, true, true, true, true, true, false, true, true, false, true, true, true, true, true, true, true, true, false] rfl (ih.2.2.2.1 x3 x4 y5 x7 y8 x10 (x11 + v55) x12 v55 v75 v88 v110 v122 I J r hf))
                · replace hf := if_f hf c188
                  refine r_iload dL_isRight_191 rfl ?_
                  refine r_if_ne (tgt := 224) dL_isRight_193 (by decide) (fun c193 => ?_) (fun c193 => ?_)
                  · replace hf := if_f hf c193
                    refine r_iconst (v := (0 : Int32)) dL_isRight_224 (by decide) ?_
                    have hr := Option.some.inj hf
                    subst hr
                    exact r_zret dL_isRight_225 rfl rfl (Nat.le_of_ble_eq_true rfl) (Nat.le_of_ble_eq_true rfl) ⟨rfl, rfl, rfl⟩
                  · replace hf := if_t hf c193
                    refine r_aload_n dL_isRight_196 rfl ?_
                    refine r_iload dL_isRight_197 rfl ?_
                    refine r_iload dL_isRight_199 rfl ?_
                    refine r_iload dL_isRight_201 rfl ?_
                    obtain ⟨v203, hc203, hf⟩ := bd_of hf
                    rcases v203 with e203 | v203
                    · exact (no_no hf).elim
                    refine r_cVi (rest := []) (ct_X9_arrival hs hE hT0 hT1 hc203) dL_isRight_203 wd_1120 zX9_arrival wd_1121 wd_1122 rfl  rfl rfl (fo9 (hE 0 (by decide))) rfl rfl ⟨Nat.le_of_ble_eq_true rfl, Nat.le_of_ble_eq_true rfl⟩ (Nat.le_of_ble_eq_true rfl) ⟨Nat.le_of_ble_eq_true rfl, Nat.le_of_ble_eq_true rfl⟩ ?_
                    refine r_iconst (v := (-1 : Int32)) dL_isRight_206 (by decide) ?_
                    refine r_icmp_ne (tgt := 224) dL_isRight_207 (by decide) (fun c207 => ?_) (fun c207 => ?_)
                    · replace hf := if_f hf c207
                      refine r_iconst (v := (0 : Int32)) dL_isRight_224 (by decide) ?_
                      have hr := Option.some.inj hf
                      subst hr
                      exact r_zret dL_isRight_225 rfl rfl (Nat.le_of_ble_eq_true rfl) (Nat.le_of_ble_eq_true rfl) ⟨rfl, rfl, rfl⟩
                    · replace hf := if_t hf c207
                      refine r_aload_n dL_isRight_210 rfl ?_
                      refine r_iload dL_isRight_211 rfl ?_
                      refine r_iload dL_isRight_213 rfl ?_
                      refine r_iload dL_isRight_215 rfl ?_
                      obtain ⟨v217, hc217, hf⟩ := bd_of hf
                      rcases v217 with e217 | v217
                      · exact (no_no hf).elim
                      refine r_cVi (rest := []) (ct_X9_phase hs hE hT0 hT1 hc217) dL_isRight_217 wd_1130 zX9_phase wd_1131 wd_1132 rfl  rfl rfl (fo9 (hE 0 (by decide))) rfl rfl ⟨Nat.le_of_ble_eq_true rfl, Nat.le_of_ble_eq_true rfl⟩ (Nat.le_of_ble_eq_true rfl) ⟨Nat.le_of_ble_eq_true rfl, Nat.le_of_ble_eq_true rfl⟩ ?_
                      refine r_iconst (v := (-1 : Int32)) dL_isRight_220 (by decide) ?_
                      refine r_icmp_eq (tgt := 226) dL_isRight_221 (by decide) (fun c221 => ?_) (fun c221 => ?_)
                      · replace hf := if_t hf c221
                        exact r_widen (k2 := 0) (n2 := 0) (Nat.le_of_ble_eq_true rfl) (Nat.le_of_ble_eq_true rfl) (r_mask [true, true, true, true, true, true, false, true, true, false, true, true, true, true, true, true, true, true, false] rfl (ih.2.2.2.1 x3 x4 y5 x7 y8 x10 (x11 + v55) x12 v55 v75 v88 v110 v122 I J r hf))
                      · replace hf := if_f hf c221
                        refine r_iconst (v := (0 : Int32)) dL_isRight_224 (by decide) ?_
                        have hr := Option.some.inj hf
                        subst hr
                        exact r_zret dL_isRight_225 rfl rfl (Nat.le_of_ble_eq_true rfl) (Nat.le_of_ble_eq_true rfl) ⟨rfl, rfl, rfl⟩
          · replace hf := if_f hf c154
            refine r_iload dL_isRight_157 rfl ?_
            refine r_mabs dL_isRight_159 wd_815 wd_595 wd_54 wMath_mabs (Nat.le_of_ble_eq_true rfl) (Nat.le_of_ble_eq_true rfl) (Nat.le_of_ble_eq_true rfl) (Nat.le_of_ble_eq_true rfl) ?_
            refine r_aload_n dL_isRight_162 rfl ?_
            refine r_iload dL_isRight_163 rfl ?_
            refine r_iconst (v := (0 : Int32)) dL_isRight_165 (by decide) ?_
            obtain ⟨v166, hc166, hf⟩ := bd_of hf
            rcases v166 with e166 | v166
            · exact (no_no hf).elim
            refine r_cVi (rest := [.int (jabs v55)]) (ct_X9_property hs hE hT0 hT1 hc166) dL_isRight_166 wd_550 zX9_property wd_551 wd_552 rfl  rfl rfl (fo9 (hE 0 (by decide))) rfl rfl ⟨Nat.le_of_ble_eq_true rfl, Nat.le_of_ble_eq_true rfl⟩ (Nat.le_of_ble_eq_true rfl) ⟨Nat.le_of_ble_eq_true rfl, Nat.le_of_ble_eq_true rfl⟩ ?_
            refine r_icmp_gt (tgt := 224) dL_isRight_169 (by decide) (fun c169 => ?_) (fun c169 => ?_)
            · replace hf := if_t hf c169
              refine r_iconst (v := (0 : Int32)) dL_isRight_224 (by decide) ?_
              have hr := Option.some.inj hf
              subst hr
              exact r_zret dL_isRight_225 rfl rfl (Nat.le_of_ble_eq_true rfl) (Nat.le_of_ble_eq_true rfl) ⟨rfl, rfl, rfl⟩
            · replace hf := if_f hf c169
              refine r_aload_n dL_isRight_172 rfl ?_
              refine r_iload dL_isRight_173 rfl ?_
              obtain ⟨v175, hc175, hf⟩ := bd_of hf
              rcases v175 with e175 | v175
              · exact (no_no hf).elim
              refine r_cVi (rest := []) (ct_X9_isOn hs hE hT0 hT1 hc175) dL_isRight_175 wd_554 zX9_isOn wd_555 wd_556 rfl  rfl rfl (fo9 (hE 0 (by decide))) rfl rfl ⟨Nat.le_of_ble_eq_true rfl, Nat.le_of_ble_eq_true rfl⟩ (Nat.le_of_ble_eq_true rfl) ⟨Nat.le_of_ble_eq_true rfl, Nat.le_of_ble_eq_true rfl⟩ ?_
              refine r_if_ne (tgt := 186) dL_isRight_178 (by decide) (fun c178 => ?_) (fun c178 => ?_)
              · replace hf := if_f hf c178
                refine r_iload dL_isRight_186 rfl ?_
                refine r_if_ge (tgt := 226) dL_isRight_188 (by decide) (fun c188 => ?_) (fun c188 => ?_)
                · replace hf := if_t hf c188
                  exact r_widen (k2 := 0) (n2 := 0) (Nat.le_of_ble_eq_true rfl) (Nat.le_of_ble_eq_true rfl) (r_mask [true, true, true, true, true, true, false, true, true, false, true, true, true, true, true, true, true, true, false] rfl (ih.2.2.2.1 x3 x4 y5 x7 y8 x10 (x11 + v55) x12 v55 v75 v88 v110 v122 I J r hf))
                · replace hf := if_f hf c188
                  refine r_iload dL_isRight_191 rfl ?_
                  refine r_if_ne (tgt := 224) dL_isRight_193 (by decide) (fun c193 => ?_) (fun c193 => ?_)
                  · replace hf := if_f hf c193
                    refine r_iconst (v := (0 : Int32)) dL_isRight_224 (by decide) ?_
                    have hr := Option.some.inj hf
                    subst hr
                    exact r_zret dL_isRight_225 rfl rfl (Nat.le_of_ble_eq_true rfl) (Nat.le_of_ble_eq_true rfl) ⟨rfl, rfl, rfl⟩
                  · replace hf := if_t hf c193
                    refine r_aload_n dL_isRight_196 rfl ?_
                    refine r_iload dL_isRight_197 rfl ?_
                    refine r_iload dL_isRight_199 rfl ?_
                    refine r_iload dL_isRight_201 rfl ?_
                    obtain ⟨v203, hc203, hf⟩ := bd_of hf
                    rcases v203 with e203 | v203
                    · exact (no_no hf).elim
                    refine r_cVi (rest := []) (ct_X9_arrival hs hE hT0 hT1 hc203) dL_isRight_203 wd_1120 zX9_arrival wd_1121 wd_1122 rfl  rfl rfl (fo9 (hE 0 (by decide))) rfl rfl ⟨Nat.le_of_ble_eq_true rfl, Nat.le_of_ble_eq_true rfl⟩ (Nat.le_of_ble_eq_true rfl) ⟨Nat.le_of_ble_eq_true rfl, Nat.le_of_ble_eq_true rfl⟩ ?_
                    refine r_iconst (v := (-1 : Int32)) dL_isRight_206 (by decide) ?_
                    refine r_icmp_ne (tgt := 224) dL_isRight_207 (by decide) (fun c207 => ?_) (fun c207 => ?_)
                    · replace hf := if_f hf c207
                      refine r_iconst (v := (0 : Int32)) dL_isRight_224 (by decide) ?_
                      have hr := Option.some.inj hf
                      subst hr
                      exact r_zret dL_isRight_225 rfl rfl (Nat.le_of_ble_eq_true rfl) (Nat.le_of_ble_eq_true rfl) ⟨rfl, rfl, rfl⟩
                    · replace hf := if_t hf c207
                      refine r_aload_n dL_isRight_210 rfl ?_
                      refine r_iload dL_isRight_211 rfl ?_
                      refine r_iload dL_isRight_213 rfl ?_
                      refine r_iload dL_isRight_215 rfl ?_
                      obtain ⟨v217, hc217, hf⟩ := bd_of hf
                      rcases v217 with e217 | v217
                      · exact (no_no hf).elim
                      refine r_cVi (rest := []) (ct_X9_phase hs hE hT0 hT1 hc217) dL_isRight_217 wd_1130 zX9_phase wd_1131 wd_1132 rfl  rfl rfl (fo9 (hE 0 (by decide))) rfl rfl ⟨Nat.le_of_ble_eq_true rfl, Nat.le_of_ble_eq_true rfl⟩ (Nat.le_of_ble_eq_true rfl) ⟨Nat.le_of_ble_eq_true rfl, Nat.le_of_ble_eq_true rfl⟩ ?_
                      refine r_iconst (v := (-1 : Int32)) dL_isRight_220 (by decide) ?_
                      refine r_icmp_eq (tgt := 226) dL_isRight_221 (by decide) (fun c221 => ?_) (fun c221 => ?_)
                      · replace hf := if_t hf c221
                        exact r_widen (k2 := 0) (n2 := 0) (Nat.le_of_ble_eq_true rfl) (Nat.le_of_ble_eq_true rfl) (r_mask [true, true, true, true, true, true, false, true, true, false, true, true, true, true, true, true, true, true, false] rfl (ih.2.2.2.1 x3 x4 y5 x7 y8 x10 (x11 + v55) x12 v55 v75 v88 v110 v122 I J r hf))
                      · replace hf := if_f hf c221
                        refine r_iconst (v := (0 : Int32)) dL_isRight_224 (by decide) ?_
                        have hr := Option.some.inj hf
                        subst hr
                        exact r_zret dL_isRight_225 rfl rfl (Nat.le_of_ble_eq_true rfl) (Nat.le_of_ble_eq_true rfl) ⟨rfl, rfl, rfl⟩
              · replace hf := if_t hf c178
                refine r_iload dL_isRight_181 rfl ?_
                refine r_if_ne (tgt := 224) dL_isRight_183 (by decide) (fun c183 => ?_) (fun c183 => ?_)
                · replace hf := if_f hf c183
                  refine r_iconst (v := (0 : Int32)) dL_isRight_224 (by decide) ?_
                  have hr := Option.some.inj hf
                  subst hr
                  exact r_zret dL_isRight_225 rfl rfl (Nat.le_of_ble_eq_true rfl) (Nat.le_of_ble_eq_true rfl) ⟨rfl, rfl, rfl⟩
                · replace hf := if_t hf c183
                  refine r_iload dL_isRight_186 rfl ?_
                  refine r_if_ge (tgt := 226) dL_isRight_188 (by decide) (fun c188 => ?_) (fun c188 => ?_)
                  · replace hf := if_t hf c188
                    exact r_widen (k2 := 0) (n2 := 0) (Nat.le_of_ble_eq_true rfl) (Nat.le_of_ble_eq_true rfl) (r_mask [true, true, true, true, true, true, false, true, true, false, true, true, true, true, true, true, true, true, false] rfl (ih.2.2.2.1 x3 x4 y5 x7 y8 x10 (x11 + v55) x12 v55 v75 v88 v110 v122 I J r hf))
                  · replace hf := if_f hf c188
                    refine r_iload dL_isRight_191 rfl ?_
                    refine r_if_ne (tgt := 224) dL_isRight_193 (by decide) (fun c193 => ?_) (fun c193 => ?_)
                    · replace hf := if_f hf c193
                      refine r_iconst (v := (0 : Int32)) dL_isRight_224 (by decide) ?_
                      have hr := Option.some.inj hf
                      subst hr
                      exact r_zret dL_isRight_225 rfl rfl (Nat.le_of_ble_eq_true rfl) (Nat.le_of_ble_eq_true rfl) ⟨rfl, rfl, rfl⟩
                    · replace hf := if_t hf c193
                      refine r_aload_n dL_isRight_196 rfl ?_
                      refine r_iload dL_isRight_197 rfl ?_
                      refine r_iload dL_isRight_199 rfl ?_
                      refine r_iload dL_isRight_201 rfl ?_
                      obtain ⟨v203, hc203, hf⟩ := bd_of hf
                      rcases v203 with e203 | v203
                      · exact (no_no hf).elim
                      refine r_cVi (rest := []) (ct_X9_arrival hs hE hT0 hT1 hc203) dL_isRight_203 wd_1120 zX9_arrival wd_1121 wd_1122 rfl  rfl rfl (fo9 (hE 0 (by decide))) rfl rfl ⟨Nat.le_of_ble_eq_true rfl, Nat.le_of_ble_eq_true rfl⟩ (Nat.le_of_ble_eq_true rfl) ⟨Nat.le_of_ble_eq_true rfl, Nat.le_of_ble_eq_true rfl⟩ ?_
                      refine r_iconst (v := (-1 : Int32)) dL_isRight_206 (by decide) ?_
                      refine r_icmp_ne (tgt := 224) dL_isRight_207 (by decide) (fun c207 => ?_) (fun c207 => ?_)
                      · replace hf := if_f hf c207
                        refine r_iconst (v := (0 : Int32)) dL_isRight_224 (by decide) ?_
                        have hr := Option.some.inj hf
                        subst hr
                        exact r_zret dL_isRight_225 rfl rfl (Nat.le_of_ble_eq_true rfl) (Nat.le_of_ble_eq_true rfl) ⟨rfl, rfl, rfl⟩
                      · replace hf := if_t hf c207
                        refine r_aload_n dL_isRight_210 rfl ?_
                        refine r_iload dL_isRight_211 rfl ?_
                        refine r_iload dL_isRight_213 rfl ?_
                        refine r_iload dL_isRight_215 rfl ?_
                        obtain ⟨v217, hc217, hf⟩ := bd_of hf
                        rcases v217 with e217 | v217
                        · exact (no_no hf).elim
                        refine r_cVi (rest := []) (ct_X9_phase hs hE hT0 hT1 hc217) dL_isRight_217 wd_1130 zX9_phase wd_1131 wd_1132 rfl  rfl rfl (fo9 (hE 0 (by decide))) rfl rfl ⟨Nat.le_of_ble_eq_true rfl, Nat.le_of_ble_eq_true rfl⟩ (Nat.le_of_ble_eq_true rfl) ⟨Nat.le_of_ble_eq_true rfl, Nat.le_of_ble_eq_true rfl⟩ ?_
                        refine r_iconst (v := (-1 : Int32)) dL_isRight_220 (by decide) ?_
                        refine r_icmp_eq (tgt := 226) dL_isRight_221 (by decide) (fun c221 => ?_) (fun c221 => ?_)
                        · replace hf := if_t hf c221
                          exact r_widen (k2 := 0) (n2 := 0) (Nat.le_of_ble_eq_true rfl) (Nat.le_of_ble_eq_true rfl) (r_mask [true, true, true, true, true, true, false, true, true, false, true, true, true, true, true, true, true, true, false] rfl (ih.2.2.2.1 x3 x4 y5 x7 y8 x10 (x11 + v55) x12 v55 v75 v88 v110 v122 I J r hf))
                        · replace hf := if_f hf c221
                          refine r_iconst (v := (0 : Int32)) dL_isRight_224 (by decide) ?_
                          have hr := Option.some.inj hf
                          subst hr
                          exact r_zret dL_isRight_225 rfl rfl (Nat.le_of_ble_eq_true rfl) (Nat.le_of_ble_eq_true rfl) ⟨rfl, rfl, rfl⟩
    · intro x3 x4 y5 x7 y8 x10 x11 x12 x13 x14 x15 x16 x17 I J r hf
      rw [L_L_isRight_e3] at hf
      refine r_iload dL_isRight_226 rfl ?_
      refine r_if_lt (tgt := 302) dL_isRight_228 (by decide) (fun c228 => ?_) (fun c228 => ?_)
      · replace hf := if_t hf c228
        refine r_iconst (v := (0 : Int32)) dL_isRight_302 (by decide) ?_
        refine r_istore dL_isRight_303 (by decide) rfl ?_
        exact r_widen (k2 := 0) (n2 := 0) (Nat.le_of_ble_eq_true rfl) (Nat.le_of_ble_eq_true rfl) (r_mask [true, true, true, true, true, true, false, true, true, false, true, true, true, true, true, true, true, true, true] rfl (ih.2.2.2.2.1 x3 x4 y5 x7 y8 x10 x11 x12 x13 x14 x15 x16 x17 (0 : Int32) I J r hf))
      · replace hf := if_f hf c228
        refine r_aload_n dL_isRight_231 rfl ?_
        refine r_iload dL_isRight_232 rfl ?_
        refine r_iload dL_isRight_234 rfl ?_
        refine r_iload dL_isRight_236 rfl ?_
        obtain ⟨v238, hc238, hf⟩ := bd_of hf
        rcases v238 with e238 | v238
        · exact (no_no hf).elim
        refine r_cVi (rest := []) (ct_X9_isBehind hs hE hT0 hT1 hc238) dL_isRight_238 wd_1115 zX9_isBehind wd_1116 wd_1117 rfl  rfl rfl (fo9 (hE 0 (by decide))) rfl rfl ⟨Nat.le_of_ble_eq_true rfl, Nat.le_of_ble_eq_true rfl⟩ (Nat.le_of_ble_eq_true rfl) ⟨Nat.le_of_ble_eq_true rfl, Nat.le_of_ble_eq_true rfl⟩ ?_
        refine r_if_ne (tgt := 251) dL_isRight_241 (by decide) (fun c241 => ?_) (fun c241 => ?_)
        · replace hf := if_f hf c241
          refine r_aload_n dL_isRight_251 rfl ?_
          refine r_iload dL_isRight_252 rfl ?_
          refine r_iload dL_isRight_254 rfl ?_
          refine r_iload dL_isRight_256 rfl ?_
          obtain ⟨v258, hc258, hf⟩ := bd_of hf
          rcases v258 with e258 | v258
          · exact (no_no hf).elim
          refine r_cVi (rest := []) (ct_X9_arrival hs hE hT0 hT1 hc258) dL_isRight_258 wd_1120 zX9_arrival wd_1121 wd_1122 rfl  rfl rfl (fo9 (hE 0 (by decide))) rfl rfl ⟨Nat.le_of_ble_eq_true rfl, Nat.le_of_ble_eq_true rfl⟩ (Nat.le_of_ble_eq_true rfl) ⟨Nat.le_of_ble_eq_true rfl, Nat.le_of_ble_eq_true rfl⟩ ?_
          refine r_aload_n dL_isRight_261 rfl ?_
          refine r_iload dL_isRight_262 rfl ?_
          refine r_iconst (v := (4 : Int32)) dL_isRight_264 (by decide) ?_
          obtain ⟨v265, hc265, hf⟩ := bd_of hf
          rcases v265 with e265 | v265
          · exact (no_no hf).elim
          refine r_cVi (rest := [.int v258]) (ct_X9_property hs hE hT0 hT1 hc265) dL_isRight_265 wd_550 zX9_property wd_551 wd_552 rfl  rfl rfl (fo9 (hE 0 (by decide))) rfl rfl ⟨Nat.le_of_ble_eq_true rfl, Nat.le_of_ble_eq_true rfl⟩ (Nat.le_of_ble_eq_true rfl) ⟨Nat.le_of_ble_eq_true rfl, Nat.le_of_ble_eq_true rfl⟩ ?_
          refine r_icmp_lt (tgt := 300) dL_isRight_268 (by decide) (fun c268 => ?_) (fun c268 => ?_)
          · replace hf := if_t hf c268
            refine r_iconst (v := (0 : Int32)) dL_isRight_300 (by decide) ?_
            have hr := Option.some.inj hf
            subst hr
            exact r_zret dL_isRight_301 rfl rfl (Nat.le_of_ble_eq_true rfl) (Nat.le_of_ble_eq_true rfl) ⟨rfl, rfl, rfl⟩
          · replace hf := if_f hf c268
            refine r_aload_n dL_isRight_271 rfl ?_
            refine r_iload dL_isRight_272 rfl ?_
            refine r_iload dL_isRight_274 rfl ?_
            refine r_iload dL_isRight_276 rfl ?_
            obtain ⟨v278, hc278, hf⟩ := bd_of hf
            rcases v278 with e278 | v278
            · exact (no_no hf).elim
            refine r_cVi (rest := []) (ct_X9_phase hs hE hT0 hT1 hc278) dL_isRight_278 wd_1130 zX9_phase wd_1131 wd_1132 rfl  rfl rfl (fo9 (hE 0 (by decide))) rfl rfl ⟨Nat.le_of_ble_eq_true rfl, Nat.le_of_ble_eq_true rfl⟩ (Nat.le_of_ble_eq_true rfl) ⟨Nat.le_of_ble_eq_true rfl, Nat.le_of_ble_eq_true rfl⟩ ?_
            refine r_if_lt (tgt := 300) dL_isRight_281 (by decide) (fun c281 => ?_) (fun c281 => ?_)
            · replace hf := if_t hf c281
              refine r_iconst (v := (0 : Int32)) dL_isRight_300 (by decide) ?_
              have hr := Option.some.inj hf
              subst hr
              exact r_zret dL_isRight_301 rfl rfl (Nat.le_of_ble_eq_true rfl) (Nat.le_of_ble_eq_true rfl) ⟨rfl, rfl, rfl⟩
            · replace hf := if_f hf c281
              refine r_aload_n dL_isRight_284 rfl ?_
              refine r_iload dL_isRight_285 rfl ?_
              refine r_iload dL_isRight_287 rfl ?_
              refine r_iload dL_isRight_289 rfl ?_
              obtain ⟨v291, hc291, hf⟩ := bd_of hf
              rcases v291 with e291 | v291
              · exact (no_no hf).elim
              refine r_cVi (rest := []) (ct_X9_phase hs hE hT0 hT1 hc291) dL_isRight_291 wd_1130 zX9_phase wd_1131 wd_1132 rfl  rfl rfl (fo9 (hE 0 (by decide))) rfl rfl ⟨Nat.le_of_ble_eq_true rfl, Nat.le_of_ble_eq_true rfl⟩ (Nat.le_of_ble_eq_true rfl) ⟨Nat.le_of_ble_eq_true rfl, Nat.le_of_ble_eq_true rfl⟩ ?_
              refine r_sipush (v := (359 : Int32)) dL_isRight_294 (by decide) ?_
              refine r_icmp_le (tgt := 302) dL_isRight_297 (by decide) (fun c297 => ?_) (fun c297 => ?_)
              · replace hf := if_t hf c297
                refine r_iconst (v := (0 : Int32)) dL_isRight_302 (by decide) ?_
                refine r_istore dL_isRight_303 (by decide) rfl ?_
                exact r_widen (k2 := 0) (n2 := 0) (Nat.le_of_ble_eq_true rfl) (Nat.le_of_ble_eq_true rfl) (r_mask [true, true, true, true, true, true, false, true, true, false, true, true, true, true, true, true, true, true, true] rfl (ih.2.2.2.2.1 x3 x4 y5 x7 y8 x10 x11 x12 x13 x14 x15 x16 x17 (0 : Int32) I J r hf))
              · replace hf := if_f hf c297
                refine r_iconst (v := (0 : Int32)) dL_isRight_300 (by decide) ?_
                have hr := Option.some.inj hf
                subst hr
                exact r_zret dL_isRight_301 rfl rfl (Nat.le_of_ble_eq_true rfl) (Nat.le_of_ble_eq_true rfl) ⟨rfl, rfl, rfl⟩
        · replace hf := if_t hf c241
          refine r_iload dL_isRight_244 rfl ?_
          refine r_iload dL_isRight_246 rfl ?_
          refine r_icmp_ne (tgt := 300) dL_isRight_248 (by decide) (fun c248 => ?_) (fun c248 => ?_)
          · replace hf := if_f hf c248
            refine r_iconst (v := (0 : Int32)) dL_isRight_300 (by decide) ?_
            have hr := Option.some.inj hf
            subst hr
            exact r_zret dL_isRight_301 rfl rfl (Nat.le_of_ble_eq_true rfl) (Nat.le_of_ble_eq_true rfl) ⟨rfl, rfl, rfl⟩
          · replace hf := if_t hf c248
            refine r_aload_n dL_isRight_251 rfl ?_
            refine r_iload dL_isRight_252 rfl ?_
            refine r_iload dL_isRight_254 rfl ?_
            refine r_iload dL_isRight_256 rfl ?_
            obtain ⟨v258, hc258, hf⟩ := bd_of hf
            rcases v258 with e258 | v258
            · exact (no_no hf).elim
            refine r_cVi (rest := []) (ct_X9_arrival hs hE hT0 hT1 hc258) dL_isRight_258 wd_1120 zX9_arrival wd_1121 wd_1122 rfl  rfl rfl (fo9 (hE 0 (by decide))) rfl rfl ⟨Nat.le_of_ble_eq_true rfl, Nat.le_of_ble_eq_true rfl⟩ (Nat.le_of_ble_eq_true rfl) ⟨Nat.le_of_ble_eq_true rfl, Nat.le_of_ble_eq_true rfl⟩ ?_
            refine r_aload_n dL_isRight_261 rfl ?_
            refine r_iload dL_isRight_262 rfl ?_
            refine r_iconst (v := (4 : Int32)) dL_isRight_264 (by decide) ?_
            obtain ⟨v265, hc265, hf⟩ := bd_of hf
            rcases v265 with e265 | v265
            · exact (no_no hf).elim
            refine r_cVi (rest := [.int v258]) (ct_X9_property hs hE hT0 hT1 hc265) dL_isRight_265 wd_550 zX9_property wd_551 wd_552 rfl  rfl rfl (fo9 (hE 0 (by decide))) rfl rfl ⟨Nat.le_of_ble_eq_true rfl, Nat.le_of_ble_eq_true rfl⟩ (Nat.le_of_ble_eq_true rfl) ⟨Nat.le_of_ble_eq_true rfl, Nat.le_of_ble_eq_true rfl⟩ ?_
            refine r_icmp_lt (tgt := 300) dL_isRight_268 (by decide) (fun c268 => ?_) (fun c268 => ?_)
            · replace hf := if_t hf c268
              refine r_iconst (v := (0 : Int32)) dL_isRight_300 (by decide) ?_
              have hr := Option.some.inj hf
              subst hr
              exact r_zret dL_isRight_301 rfl rfl (Nat.le_of_ble_eq_true rfl) (Nat.le_of_ble_eq_true rfl) ⟨rfl, rfl, rfl⟩
            · replace hf := if_f hf c268
              refine r_aload_n dL_isRight_271 rfl ?_
              refine r_iload dL_isRight_272 rfl ?_
              refine r_iload dL_isRight_274 rfl ?_
              refine r_iload dL_isRight_276 rfl ?_
              obtain ⟨v278, hc278, hf⟩ := bd_of hf
              rcases v278 with e278 | v278
              · exact (no_no hf).elim
              refine r_cVi (rest := []) (ct_X9_phase hs hE hT0 hT1 hc278) dL_isRight_278 wd_1130 zX9_phase wd_1131 wd_1132 rfl  rfl rfl (fo9 (hE 0 (by decide))) rfl rfl ⟨Nat.le_of_ble_eq_true rfl, Nat.le_of_ble_eq_true rfl⟩ (Nat.le_of_ble_eq_true rfl) ⟨Nat.le_of_ble_eq_true rfl, Nat.le_of_ble_eq_true rfl⟩ ?_
              refine r_if_lt (tgt := 300) dL_isRight_281 (by decide) (fun c281 => ?_) (fun c281 => ?_)
              · replace hf := if_t hf c281
                refine r_iconst (v := (0 : Int32)) dL_isRight_300 (by decide) ?_
                have hr := Option.some.inj hf
                subst hr
                exact r_zret dL_isRight_301 rfl rfl (Nat.le_of_ble_eq_true rfl) (Nat.le_of_ble_eq_true rfl) ⟨rfl, rfl, rfl⟩
              · replace hf := if_f hf c281
                refine r_aload_n dL_isRight_284 rfl ?_
                refine r_iload dL_isRight_285 rfl ?_
                refine r_iload dL_isRight_287 rfl ?_
                refine r_iload dL_isRight_289 rfl ?_
                obtain ⟨v291, hc291, hf⟩ := bd_of hf
                rcases v291 with e291 | v291
                · exact (no_no hf).elim
                refine r_cVi (rest := []) (ct_X9_phase hs hE hT0 hT1 hc291) dL_isRight_291 wd_1130 zX9_phase wd_1131 wd_1132 rfl  rfl rfl (fo9 (hE 0 (by decide))) rfl rfl ⟨Nat.le_of_ble_eq_true rfl, Nat.le_of_ble_eq_true rfl⟩ (Nat.le_of_ble_eq_true rfl) ⟨Nat.le_of_ble_eq_true rfl, Nat.le_of_ble_eq_true rfl⟩ ?_
                refine r_sipush (v := (359 : Int32)) dL_isRight_294 (by decide) ?_
                refine r_icmp_le (tgt := 302) dL_isRight_297 (by decide) (fun c297 => ?_) (fun c297 => ?_)
                · replace hf := if_t hf c297
                  refine r_iconst (v := (0 : Int32)) dL_isRight_302 (by decide) ?_
                  refine r_istore dL_isRight_303 (by decide) rfl ?_
                  exact r_widen (k2 := 0) (n2 := 0) (Nat.le_of_ble_eq_true rfl) (Nat.le_of_ble_eq_true rfl) (r_mask [true, true, true, true, true, true, false, true, true, false, true, true, true, true, true, true, true, true, true] rfl (ih.2.2.2.2.1 x3 x4 y5 x7 y8 x10 x11 x12 x13 x14 x15 x16 x17 (0 : Int32) I J r hf))
                · replace hf := if_f hf c297
                  refine r_iconst (v := (0 : Int32)) dL_isRight_300 (by decide) ?_
                  have hr := Option.some.inj hf
                  subst hr
                  exact r_zret dL_isRight_301 rfl rfl (Nat.le_of_ble_eq_true rfl) (Nat.le_of_ble_eq_true rfl) ⟨rfl, rfl, rfl⟩
    · intro x3 x4 y5 x7 y8 x10 x11 x12 x13 x14 x15 x16 x17 x18 I J r hf
      rw [L_L_isRight_e4] at hf
      refine r_iload dL_isRight_305 rfl ?_
      refine r_aload_n dL_isRight_307 rfl ?_
      refine r_iconst (v := (2 : Int32)) dL_isRight_308 (by decide) ?_
      refine m_ialdc 2 dL_isRight_309 (hE 154 (by decide)) (vpc rfl) rfl ?_
      refine r_icmp_ge (tgt := 365) dL_isRight_310 (by decide) (fun c310 => ?_) (fun c310 => ?_)
      · replace hf := if_t hf c310
        refine r_iincv (v := (x12 + (1 : Int32))) dL_isRight_365 rfl rfl (by decide) rfl ?_
        refine r_goto (tgt := 39) dL_isRight_368 (by decide) ?_
        exact r_widen (k2 := 0) (n2 := 0) (Nat.le_of_ble_eq_true rfl) (Nat.le_of_ble_eq_true rfl) (r_mask [true, true, true, true, true, true, false, true, true, false, true, true, true, false, false, false, false, false, false] rfl (ih.2.2.1 x3 x4 y5 x7 y8 x10 x11 (x12 + (1 : Int32)) I J r hf))
      · replace hf := if_f hf c310
        refine r_aload_n dL_isRight_313 rfl ?_
        refine r_iload dL_isRight_314 rfl ?_
        refine r_iload dL_isRight_316 rfl ?_
        refine r_iload dL_isRight_318 rfl ?_
        obtain ⟨v320, hc320, hf⟩ := bd_of hf
        rcases v320 with e320 | v320
        · exact (no_no hf).elim
        refine r_cVi (rest := []) (ct_X9_isBehind hs hE hT0 hT1 hc320) dL_isRight_320 wd_1115 zX9_isBehind wd_1116 wd_1117 rfl  rfl rfl (fo9 (hE 0 (by decide))) rfl rfl ⟨Nat.le_of_ble_eq_true rfl, Nat.le_of_ble_eq_true rfl⟩ (Nat.le_of_ble_eq_true rfl) ⟨Nat.le_of_ble_eq_true rfl, Nat.le_of_ble_eq_true rfl⟩ ?_
        refine r_if_eq (tgt := 365) dL_isRight_323 (by decide) (fun c323 => ?_) (fun c323 => ?_)
        · replace hf := if_t hf c323
          refine r_iincv (v := (x12 + (1 : Int32))) dL_isRight_365 rfl rfl (by decide) rfl ?_
          refine r_goto (tgt := 39) dL_isRight_368 (by decide) ?_
          exact r_widen (k2 := 0) (n2 := 0) (Nat.le_of_ble_eq_true rfl) (Nat.le_of_ble_eq_true rfl) (r_mask [true, true, true, true, true, true, false, true, true, false, true, true, true, false, false, false, false, false, false] rfl (ih.2.2.1 x3 x4 y5 x7 y8 x10 x11 (x12 + (1 : Int32)) I J r hf))
        · replace hf := if_f hf c323
          refine r_iload dL_isRight_326 rfl ?_
          refine r_if_lt (tgt := 365) dL_isRight_328 (by decide) (fun c328 => ?_) (fun c328 => ?_)
          · replace hf := if_t hf c328
            refine r_iincv (v := (x12 + (1 : Int32))) dL_isRight_365 rfl rfl (by decide) rfl ?_
            refine r_goto (tgt := 39) dL_isRight_368 (by decide) ?_
            exact r_widen (k2 := 0) (n2 := 0) (Nat.le_of_ble_eq_true rfl) (Nat.le_of_ble_eq_true rfl) (r_mask [true, true, true, true, true, true, false, true, true, false, true, true, true, false, false, false, false, false, false] rfl (ih.2.2.1 x3 x4 y5 x7 y8 x10 x11 (x12 + (1 : Int32)) I J r hf))
          · replace hf := if_f hf c328
            refine r_aload_n dL_isRight_331 rfl ?_
            refine r_iload dL_isRight_332 rfl ?_
            obtain ⟨v334, hc334, hf⟩ := bd_of hf
            rcases v334 with e334 | v334
            · exact (no_no hf).elim
            refine r_cVi (rest := []) (ct_X9_isOpen hs hE hT0 hT1 hc334) dL_isRight_334 wd_409 zX9_isOpen wd_410 wd_411 rfl  rfl rfl (fo9 (hE 0 (by decide))) rfl rfl ⟨Nat.le_of_ble_eq_true rfl, Nat.le_of_ble_eq_true rfl⟩ (Nat.le_of_ble_eq_true rfl) ⟨Nat.le_of_ble_eq_true rfl, Nat.le_of_ble_eq_true rfl⟩ ?_
            refine r_if_eq (tgt := 359) dL_isRight_337 (by decide) (fun c337 => ?_) (fun c337 => ?_)
            · replace hf := if_t hf c337
              refine r_iincv (v := (x18 + (1 : Int32))) dL_isRight_359 rfl rfl (by decide) rfl ?_
              refine r_goto (tgt := 305) dL_isRight_362 (by decide) ?_
              exact r_widen (k2 := 0) (n2 := 0) (Nat.le_of_ble_eq_true rfl) (Nat.le_of_ble_eq_true rfl) (r_mask [true, true, true, true, true, true, false, true, true, false, true, true, true, true, true, true, true, true, true] rfl (ih.2.2.2.2.1 x3 x4 y5 x7 y8 x10 x11 x12 x13 x14 x15 x16 x17 (x18 + (1 : Int32)) I J r hf))
            · replace hf := if_f hf c337
              refine r_aload_n dL_isRight_340 rfl ?_
              refine r_iload dL_isRight_341 rfl ?_
              refine r_iload dL_isRight_343 rfl ?_
              refine r_iload dL_isRight_345 rfl ?_
              refine r_iload dL_isRight_347 rfl ?_
              obtain ⟨v349, hc349, hf⟩ := bd_of hf
              rcases v349 with e349 | v349
              · exact (no_no hf).elim
              refine r_cVi (rest := []) (ct_X9_path hs hE hT0 hT1 hc349) dL_isRight_349 wd_1135 zX9_path wd_1136 wd_1137 rfl  rfl rfl (fo9 (hE 0 (by decide))) rfl rfl ⟨Nat.le_of_ble_eq_true rfl, Nat.le_of_ble_eq_true rfl⟩ (Nat.le_of_ble_eq_true rfl) ⟨Nat.le_of_ble_eq_true rfl, Nat.le_of_ble_eq_true rfl⟩ ?_
              refine r_iload dL_isRight_352 rfl ?_
              refine r_icmp_ge (tgt := 359) dL_isRight_354 (by decide) (fun c354 => ?_) (fun c354 => ?_)
              · replace hf := if_t hf c354
                refine r_iincv (v := (x18 + (1 : Int32))) dL_isRight_359 rfl rfl (by decide) rfl ?_
                refine r_goto (tgt := 305) dL_isRight_362 (by decide) ?_
                exact r_widen (k2 := 0) (n2 := 0) (Nat.le_of_ble_eq_true rfl) (Nat.le_of_ble_eq_true rfl) (r_mask [true, true, true, true, true, true, false, true, true, false, true, true, true, true, true, true, true, true, true] rfl (ih.2.2.2.2.1 x3 x4 y5 x7 y8 x10 x11 x12 x13 x14 x15 x16 x17 (x18 + (1 : Int32)) I J r hf))
              · replace hf := if_f hf c354
                refine r_iconst (v := (0 : Int32)) dL_isRight_357 (by decide) ?_
                have hr := Option.some.inj hf
                subst hr
                exact r_zret dL_isRight_358 rfl rfl (Nat.le_of_ble_eq_true rfl) (Nat.le_of_ble_eq_true rfl) ⟨rfl, rfl, rfl⟩
    · intro x3 x4 y5 x7 y8 x10 x11 y12 I J r hf
      rw [L_L_isRight_e5] at hf
      refine r_iload_n dL_isRight_496 rfl ?_
      refine r_aload_n dL_isRight_497 rfl ?_
      refine r_iload dL_isRight_498 rfl ?_
      refine r_iload dL_isRight_500 rfl ?_
      refine r_iload_n dL_isRight_502 rfl ?_
      refine r_bipush (v := (20 : Int32)) dL_isRight_503 (by decide) ?_
      obtain ⟨v505, hc505, hf⟩ := bd_of hf
      rcases v505 with e505 | v505
      · exact (no_no hf).elim
      refine r_cVi (rest := [.int x3]) (ct_X9_isNode hs hE hT0 hT1 hc505) dL_isRight_505 wd_1143 zX9_isNode wd_1144 wd_1145 rfl  rfl rfl (fo9 (hE 0 (by decide))) rfl rfl ⟨Nat.le_of_ble_eq_true rfl, Nat.le_of_ble_eq_true rfl⟩ (Nat.le_of_ble_eq_true rfl) ⟨Nat.le_of_ble_eq_true rfl, Nat.le_of_ble_eq_true rfl⟩ ?_
      refine r_if_eq (tgt := 515) dL_isRight_508 (by decide) (fun c508 => ?_) (fun c508 => ?_)
      · replace hf := if_t hf c508
        refine r_iconst (v := (0 : Int32)) dL_isRight_515 (by decide) ?_
        refine r_iadd dL_isRight_516 ?_
        refine r_istore_n dL_isRight_517 (by decide) rfl ?_
        refine r_iload dL_isRight_518 rfl ?_
        refine r_aload_n dL_isRight_520 rfl ?_
        refine r_iload dL_isRight_521 rfl ?_
        refine r_iload dL_isRight_523 rfl ?_
        refine r_iload_n dL_isRight_525 rfl ?_
        refine r_bipush (v := (50 : Int32)) dL_isRight_526 (by decide) ?_
        obtain ⟨v528, hc528, hf⟩ := bd_of hf
        rcases v528 with e528 | v528
        · exact (no_no hf).elim
        refine r_cVi (rest := [.int x4]) (ct_X9_isMark hs hE hT0 hT1 hc528) dL_isRight_528 wd_1147 zX9_isMark wd_1148 wd_1149 rfl  rfl rfl (fo9 (hE 0 (by decide))) rfl rfl ⟨Nat.le_of_ble_eq_true rfl, Nat.le_of_ble_eq_true rfl⟩ (Nat.le_of_ble_eq_true rfl) ⟨Nat.le_of_ble_eq_true rfl, Nat.le_of_ble_eq_true rfl⟩ ?_
        refine r_if_eq (tgt := 538) dL_isRight_531 (by decide) (fun c531 => ?_) (fun c531 => ?_)
        · replace hf := if_t hf c531
          refine r_iconst (v := (0 : Int32)) dL_isRight_538 (by decide) ?_
          refine r_iadd dL_isRight_539 ?_
          refine r_istore dL_isRight_540 (by decide) rfl ?_
          refine r_iincv (v := (x10 + (1 : Int32))) dL_isRight_542 rfl rfl (by decide) rfl ?_
          refine r_goto (tgt := 25) dL_isRight_545 (by decide) ?_
          exact r_widen (k2 := 0) (n2 := 0) (Nat.le_of_ble_eq_true rfl) (Nat.le_of_ble_eq_true rfl) (r_mask [true, true, true, true, true, true, false, true, true, false, true, false, false, false, false, false, false, false, false] rfl (ih.2.1 (x3 + (0 : Int32)) (x4 + (0 : Int32)) y5 x7 y8 (x10 + (1 : Int32)) I v528.2 r hf))
        · replace hf := if_f hf c531
          refine r_iconst (v := (1 : Int32)) dL_isRight_534 (by decide) ?_
          refine r_goto (tgt := 539) dL_isRight_535 (by decide) ?_
          refine r_iadd dL_isRight_539 ?_
          refine r_istore dL_isRight_540 (by decide) rfl ?_
          refine r_iincv (v := (x10 + (1 : Int32))) dL_isRight_542 rfl rfl (by decide) rfl ?_
          refine r_goto (tgt := 25) dL_isRight_545 (by decide) ?_
          exact r_widen (k2 := 0) (n2 := 0) (Nat.le_of_ble_eq_true rfl) (Nat.le_of_ble_eq_true rfl) (r_mask [true, true, true, true, true, true, false, true, true, false, true, false, false, false, false, false, false, false, false] rfl (ih.2.1 (x3 + (0 : Int32)) (x4 + (1 : Int32)) y5 x7 y8 (x10 + (1 : Int32)) I v528.2 r hf))
      · replace hf := if_f hf c508
        refine r_iconst (v := (1 : Int32)) dL_isRight_511 (by decide) ?_
        refine r_goto (tgt := 516) dL_isRight_512 (by decide) ?_
        refine r_iadd dL_isRight_516 ?_
        refine r_istore_n dL_isRight_517 (by decide) rfl ?_
        refine r_iload dL_isRight_518 rfl ?_
        refine r_aload_n dL_isRight_520 rfl ?_
        refine r_iload dL_isRight_521 rfl ?_
        refine r_iload dL_isRight_523 rfl ?_
        refine r_iload_n dL_isRight_525 rfl ?_
        refine r_bipush (v := (50 : Int32)) dL_isRight_526 (by decide) ?_
        obtain ⟨v528, hc528, hf⟩ := bd_of hf
        rcases v528 with e528 | v528
        · exact (no_no hf).elim
        refine r_cVi (rest := [.int x4]) (ct_X9_isMark hs hE hT0 hT1 hc528) dL_isRight_528 wd_1147 zX9_isMark wd_1148 wd_1149 rfl  rfl rfl (fo9 (hE 0 (by decide))) rfl rfl ⟨Nat.le_of_ble_eq_true rfl, Nat.le_of_ble_eq_true rfl⟩ (Nat.le_of_ble_eq_true rfl) ⟨Nat.le_of_ble_eq_true rfl, Nat.le_of_ble_eq_true rfl⟩ ?_
        refine r_if_eq (tgt := 538) dL_isRight_531 (by decide) (fun c531 => ?_) (fun c531 => ?_)
        · replace hf := if_t hf c531
          refine r_iconst (v := (0 : Int32)) dL_isRight_538 (by decide) ?_
          refine r_iadd dL_isRight_539 ?_
          refine r_istore dL_isRight_540 (by decide) rfl ?_
          refine r_iincv (v := (x10 + (1 : Int32))) dL_isRight_542 rfl rfl (by decide) rfl ?_
          refine r_goto (tgt := 25) dL_isRight_545 (by decide) ?_
          exact r_widen (k2 := 0) (n2 := 0) (Nat.le_of_ble_eq_true rfl) (Nat.le_of_ble_eq_true rfl) (r_mask [true, true, true, true, true, true, false, true, true, false, true, false, false, false, false, false, false, false, false] rfl (ih.2.1 (x3 + (1 : Int32)) (x4 + (0 : Int32)) y5 x7 y8 (x10 + (1 : Int32)) I v528.2 r hf))
        · replace hf := if_f hf c531
          refine r_iconst (v := (1 : Int32)) dL_isRight_534 (by decide) ?_
          refine r_goto (tgt := 539) dL_isRight_535 (by decide) ?_
          refine r_iadd dL_isRight_539 ?_
          refine r_istore dL_isRight_540 (by decide) rfl ?_
          refine r_iincv (v := (x10 + (1 : Int32))) dL_isRight_542 rfl rfl (by decide) rfl ?_
          refine r_goto (tgt := 25) dL_isRight_545 (by decide) ?_
          exact r_widen (k2 := 0) (n2 := 0) (Nat.le_of_ble_eq_true rfl) (Nat.le_of_ble_eq_true rfl) (r_mask [true, true, true, true, true, true, false, true, true, false, true, false, false, false, false, false, false, false, false] rfl (ih.2.1 (x3 + (1 : Int32)) (x4 + (1 : Int32)) y5 x7 y8 (x10 + (1 : Int32)) I v528.2 r hf))
    · intro x3 x4 y5 x7 I J r hf
      rw [L_L_isRight_e6] at hf
      refine r_iload dL_isRight_653 rfl ?_
      refine r_aload_n dL_isRight_655 rfl ?_
      refine r_bipush (v := (82 : Int32)) dL_isRight_656 (by decide) ?_
      refine m_ialdc 82 dL_isRight_658 (hE 154 (by decide)) (vpc rfl) rfl ?_
      refine r_icmp_ge (tgt := 723) dL_isRight_659 (by decide) (fun c659 => ?_) (fun c659 => ?_)
      · replace hf := if_t hf c659
        refine r_aload_n dL_isRight_723 rfl ?_
        refine r_iconst (v := (0 : Int32)) dL_isRight_724 (by decide) ?_
        refine r_iload_n dL_isRight_725 rfl ?_
        obtain ⟨v726, hc726, hf⟩ := bd_of hf
        rcases v726 with e726 | v726
        · exact (no_no hf).elim
        refine r_cVi (rest := []) (ct_X9_strongest hs hE hT0 hT1 hc726) dL_isRight_726 wd_1234 zX9_strongest wd_1235 wd_1236 rfl  rfl rfl (fo9 (hE 0 (by decide))) rfl rfl ⟨Nat.le_of_ble_eq_true rfl, Nat.le_of_ble_eq_true rfl⟩ (Nat.le_of_ble_eq_true rfl) ⟨Nat.le_of_ble_eq_true rfl, Nat.le_of_ble_eq_true rfl⟩ ?_
        refine r_istore dL_isRight_729 (by decide) rfl ?_
        refine r_lload dL_isRight_731 rfl ?_
        refine r_lconst (v := (0 : Int64)) dL_isRight_733 (by decide) ?_
        refine r_lcmp dL_isRight_734 ?_
        refine r_if_ne (tgt := 742) dL_isRight_735 (by decide) (fun c735 => ?_) (fun c735 => ?_)
        · replace hf := if_f hf c735
          refine r_iconst (v := (0 : Int32)) dL_isRight_742 (by decide) ?_
          refine r_aload_n dL_isRight_743 rfl ?_
          refine r_iload dL_isRight_744 rfl ?_
          refine r_aload_n dL_isRight_746 rfl ?_
          refine r_iconst (v := (1 : Int32)) dL_isRight_747 (by decide) ?_
          refine m_ialdc 1 dL_isRight_748 (hE 154 (by decide)) (vpc rfl) rfl ?_
          obtain ⟨h749, hf⟩ := gd_of hf
          refine r_irem dL_isRight_749 h749 ?_
          refine r_iload dL_isRight_750 rfl ?_
          refine r_aload_n dL_isRight_752 rfl ?_
          refine r_iconst (v := (1 : Int32)) dL_isRight_753 (by decide) ?_
          refine m_ialdc 1 dL_isRight_754 (hE 154 (by decide)) (vpc rfl) rfl ?_
          obtain ⟨h755, hf⟩ := gd_of hf
          refine r_idiv dL_isRight_755 h755 ?_
          refine r_iload_n dL_isRight_756 rfl ?_
          obtain ⟨v757, hc757, hf⟩ := bd_of hf
          rcases v757 with e757 | v757
          · exact (no_no hf).elim
          refine r_cVi (rest := [.int (0 : Int32)]) (ct_X9_energy hs hE hT0 hT1 hc757) dL_isRight_757 wd_676 zX9_energy wd_677 wd_678 rfl  rfl rfl (fo9 (hE 0 (by decide))) rfl rfl ⟨Nat.le_of_ble_eq_true rfl, Nat.le_of_ble_eq_true rfl⟩ (Nat.le_of_ble_eq_true rfl) ⟨Nat.le_of_ble_eq_true rfl, Nat.le_of_ble_eq_true rfl⟩ ?_
          refine r_lconst (v := (0 : Int64)) dL_isRight_760 (by decide) ?_
          refine r_lcmp dL_isRight_761 ?_
          refine r_if_ne (tgt := 769) dL_isRight_762 (by decide) (fun c762 => ?_) (fun c762 => ?_)
          · replace hf := if_f hf c762
            refine r_iconst (v := (0 : Int32)) dL_isRight_769 (by decide) ?_
            refine r_icmp_ne (tgt := 806) dL_isRight_770 (by decide) (fun c770 => absurd c770 (by decide)) (fun _ => ?_)
            refine r_lload dL_isRight_773 rfl ?_
            refine r_lconst (v := (0 : Int64)) dL_isRight_775 (by decide) ?_
            refine r_lcmp dL_isRight_776 ?_
            refine r_if_eq (tgt := 802) dL_isRight_777 (by decide) (fun c777 => ?_) (fun c777 => ?_)
            · replace hf := if_t hf c777
              refine r_iconst (v := (1 : Int32)) dL_isRight_802 (by decide) ?_
              refine r_goto (tgt := 807) dL_isRight_803 (by decide) ?_
              have hr := Option.some.inj hf
              subst hr
              exact r_zret dL_isRight_807 rfl rfl (Nat.le_of_ble_eq_true rfl) (Nat.le_of_ble_eq_true rfl) ⟨rfl, rfl, rfl⟩
            · replace hf := if_f hf c777
              refine r_aload_n dL_isRight_780 rfl ?_
              refine r_iload dL_isRight_781 rfl ?_
              refine r_aload_n dL_isRight_783 rfl ?_
              refine r_iconst (v := (1 : Int32)) dL_isRight_784 (by decide) ?_
              refine m_ialdc 1 dL_isRight_785 (hE 154 (by decide)) (vpc rfl) rfl ?_
              obtain ⟨h786, hf⟩ := gd_of hf
              refine r_irem dL_isRight_786 h786 ?_
              refine r_iload dL_isRight_787 rfl ?_
              refine r_aload_n dL_isRight_789 rfl ?_
              refine r_iconst (v := (1 : Int32)) dL_isRight_790 (by decide) ?_
              refine m_ialdc 1 dL_isRight_791 (hE 154 (by decide)) (vpc rfl) rfl ?_
              obtain ⟨h792, hf⟩ := gd_of hf
              refine r_idiv dL_isRight_792 h792 ?_
              refine r_iload_n dL_isRight_793 rfl ?_
              refine r_bipush (v := (100 : Int32)) dL_isRight_794 (by decide) ?_
              obtain ⟨v796, hc796, hf⟩ := bd_of hf
              rcases v796 with e796 | v796
              · exact (no_no hf).elim
              refine r_cVi (rest := []) (ct_X9_isMark hs hE hT0 hT1 hc796) dL_isRight_796 wd_1147 zX9_isMark wd_1148 wd_1149 rfl  rfl rfl (fo9 (hE 0 (by decide))) rfl rfl ⟨Nat.le_of_ble_eq_true rfl, Nat.le_of_ble_eq_true rfl⟩ (Nat.le_of_ble_eq_true rfl) ⟨Nat.le_of_ble_eq_true rfl, Nat.le_of_ble_eq_true rfl⟩ ?_
              refine r_if_eq (tgt := 806) dL_isRight_799 (by decide) (fun c799 => ?_) (fun c799 => ?_)
              · replace hf := if_t hf c799
                refine r_iconst (v := (0 : Int32)) dL_isRight_806 (by decide) ?_
                have hr := Option.some.inj hf
                subst hr
                exact r_zret dL_isRight_807 rfl rfl (Nat.le_of_ble_eq_true rfl) (Nat.le_of_ble_eq_true rfl) ⟨rfl, rfl, rfl⟩
              · replace hf := if_f hf c799
                refine r_iconst (v := (1 : Int32)) dL_isRight_802 (by decide) ?_
                refine r_goto (tgt := 807) dL_isRight_803 (by decide) ?_
                have hr := Option.some.inj hf
                subst hr
                exact r_zret dL_isRight_807 rfl rfl (Nat.le_of_ble_eq_true rfl) (Nat.le_of_ble_eq_true rfl) ⟨rfl, rfl, rfl⟩
          · replace hf := if_t hf c762
            refine r_iconst (v := (1 : Int32)) dL_isRight_765 (by decide) ?_
            refine r_goto (tgt := 770) dL_isRight_766 (by decide) ?_
            refine r_icmp_ne (tgt := 806) dL_isRight_770 (by decide) (fun _ => ?_) (fun c770 => absurd c770 (by decide))
            refine r_iconst (v := (0 : Int32)) dL_isRight_806 (by decide) ?_
            have hr := Option.some.inj hf
            subst hr
            exact r_zret dL_isRight_807 rfl rfl (Nat.le_of_ble_eq_true rfl) (Nat.le_of_ble_eq_true rfl) ⟨rfl, rfl, rfl⟩
        · replace hf := if_t hf c735
          refine r_iconst (v := (1 : Int32)) dL_isRight_738 (by decide) ?_
          refine r_goto (tgt := 743) dL_isRight_739 (by decide) ?_
          refine r_aload_n dL_isRight_743 rfl ?_
          refine r_iload dL_isRight_744 rfl ?_
          refine r_aload_n dL_isRight_746 rfl ?_
          refine r_iconst (v := (1 : Int32)) dL_isRight_747 (by decide) ?_
          refine m_ialdc 1 dL_isRight_748 (hE 154 (by decide)) (vpc rfl) rfl ?_
          obtain ⟨h749, hf⟩ := gd_of hf
          refine r_irem dL_isRight_749 h749 ?_
          refine r_iload dL_isRight_750 rfl ?_
          refine r_aload_n dL_isRight_752 rfl ?_
          refine r_iconst (v := (1 : Int32)) dL_isRight_753 (by decide) ?_
          refine m_ialdc 1 dL_isRight_754 (hE 154 (by decide)) (vpc rfl) rfl ?_
          obtain ⟨h755, hf⟩ := gd_of hf
          refine r_idiv dL_isRight_755 h755 ?_
          refine r_iload_n dL_isRight_756 rfl ?_
          obtain ⟨v757, hc757, hf⟩ := bd_of hf
          rcases v757 with e757 | v757
          · exact (no_no hf).elim
          refine r_cVi (rest := [.int (1 : Int32)]) (ct_X9_energy hs hE hT0 hT1 hc757) dL_isRight_757 wd_676 zX9_energy wd_677 wd_678 rfl  rfl rfl (fo9 (hE 0 (by decide))) rfl rfl ⟨Nat.le_of_ble_eq_true rfl, Nat.le_of_ble_eq_true rfl⟩ (Nat.le_of_ble_eq_true rfl) ⟨Nat.le_of_ble_eq_true rfl, Nat.le_of_ble_eq_true rfl⟩ ?_
          refine r_lconst (v := (0 : Int64)) dL_isRight_760 (by decide) ?_
          refine r_lcmp dL_isRight_761 ?_
          refine r_if_ne (tgt := 769) dL_isRight_762 (by decide) (fun c762 => ?_) (fun c762 => ?_)
          · replace hf := if_f hf c762
            refine r_iconst (v := (0 : Int32)) dL_isRight_769 (by decide) ?_
            refine r_icmp_ne (tgt := 806) dL_isRight_770 (by decide) (fun _ => ?_) (fun c770 => absurd c770 (by decide))
            refine r_iconst (v := (0 : Int32)) dL_isRight_806 (by decide) ?_
            have hr := Option.some.inj hf
            subst hr
            exact r_zret dL_isRight_807 rfl rfl (Nat.le_of_ble_eq_true rfl) (Nat.le_of_ble_eq_true rfl) ⟨rfl, rfl, rfl⟩
          · replace hf := if_t hf c762
            refine r_iconst (v := (1 : Int32)) dL_isRight_765 (by decide) ?_
            refine r_goto (tgt := 770) dL_isRight_766 (by decide) ?_
            refine r_icmp_ne (tgt := 806) dL_isRight_770 (by decide) (fun c770 => absurd c770 (by decide)) (fun _ => ?_)
            refine r_lload dL_isRight_773 rfl ?_
            refine r_lconst (v := (0 : Int64)) dL_isRight_775 (by decide) ?_
            refine r_lcmp dL_isRight_776 ?_
            refine r_if_eq (tgt := 802) dL_isRight_777 (by decide) (fun c777 => ?_) (fun c777 => ?_)
            · replace hf := if_t hf c777
              refine r_iconst (v := (1 : Int32)) dL_isRight_802 (by decide) ?_
              refine r_goto (tgt := 807) dL_isRight_803 (by decide) ?_
              have hr := Option.some.inj hf
              subst hr
              exact r_zret dL_isRight_807 rfl rfl (Nat.le_of_ble_eq_true rfl) (Nat.le_of_ble_eq_true rfl) ⟨rfl, rfl, rfl⟩
            · replace hf := if_f hf c777
              refine r_aload_n dL_isRight_780 rfl ?_
              refine r_iload dL_isRight_781 rfl ?_
              refine r_aload_n dL_isRight_783 rfl ?_
              refine r_iconst (v := (1 : Int32)) dL_isRight_784 (by decide) ?_
              refine m_ialdc 1 dL_isRight_785 (hE 154 (by decide)) (vpc rfl) rfl ?_
              obtain ⟨h786, hf⟩ := gd_of hf
              refine r_irem dL_isRight_786 h786 ?_
              refine r_iload dL_isRight_787 rfl ?_
              refine r_aload_n dL_isRight_789 rfl ?_
              refine r_iconst (v := (1 : Int32)) dL_isRight_790 (by decide) ?_
              refine m_ialdc 1 dL_isRight_791 (hE 154 (by decide)) (vpc rfl) rfl ?_
              obtain ⟨h792, hf⟩ := gd_of hf
              refine r_idiv dL_isRight_792 h792 ?_
              refine r_iload_n dL_isRight_793 rfl ?_
              refine r_bipush (v := (100 : Int32)) dL_isRight_794 (by decide) ?_
              obtain ⟨v796, hc796, hf⟩ := bd_of hf
              rcases v796 with e796 | v796
              · exact (no_no hf).elim
              refine r_cVi (rest := []) (ct_X9_isMark hs hE hT0 hT1 hc796) dL_isRight_796 wd_1147 zX9_isMark wd_1148 wd_1149 rfl  rfl rfl (fo9 (hE 0 (by decide))) rfl rfl ⟨Nat.le_of_ble_eq_true rfl, Nat.le_of_ble_eq_true rfl⟩ (Nat.le_of_ble_eq_true rfl) ⟨Nat.le_of_ble_eq_true rfl, Nat.le_of_ble_eq_true rfl⟩ ?_
              refine r_if_eq (tgt := 806) dL_isRight_799 (by decide) (fun c799 => ?_) (fun c799 => ?_)
              · replace hf := if_t hf c799
                refine r_iconst (v := (0 : Int32)) dL_isRight_806 (by decide) ?_
                have hr := Option.some.inj hf
                subst hr
                exact r_zret dL_isRight_807 rfl rfl (Nat.le_of_ble_eq_true rfl) (Nat.le_of_ble_eq_true rfl) ⟨rfl, rfl, rfl⟩
              · replace hf := if_f hf c799
                refine r_iconst (v := (1 : Int32)) dL_isRight_802 (by decide) ?_
                refine r_goto (tgt := 807) dL_isRight_803 (by decide) ?_
                have hr := Option.some.inj hf
                subst hr
                exact r_zret dL_isRight_807 rfl rfl (Nat.le_of_ble_eq_true rfl) (Nat.le_of_ble_eq_true rfl) ⟨rfl, rfl, rfl⟩
      · replace hf := if_f hf c659
        refine r_aload_n dL_isRight_662 rfl ?_
        refine r_iload dL_isRight_663 rfl ?_
        refine r_iload_n dL_isRight_665 rfl ?_
        obtain ⟨v666, hc666, hf⟩ := bd_of hf
        rcases v666 with e666 | v666
        · exact (no_no hf).elim
        refine r_cVi (rest := []) (ct_X9_peak hs hE hT0 hT1 hc666) dL_isRight_666 wd_1203 zX9_peak wd_1204 wd_1205 rfl  rfl rfl (fo9 (hE 0 (by decide))) rfl rfl ⟨Nat.le_of_ble_eq_true rfl, Nat.le_of_ble_eq_true rfl⟩ (Nat.le_of_ble_eq_true rfl) ⟨Nat.le_of_ble_eq_true rfl, Nat.le_of_ble_eq_true rfl⟩ ?_
        refine r_aload_n dL_isRight_669 rfl ?_
        refine r_aload_n dL_isRight_670 rfl ?_
        refine r_iload dL_isRight_671 rfl ?_
        refine r_iconst (v := (0 : Int32)) dL_isRight_673 (by decide) ?_
        obtain ⟨v674, hc674, hf⟩ := bd_of hf
        rcases v674 with e674 | v674
        · exact (no_no hf).elim
        refine r_cVi (rest := [.ref (G.2.2.1 + 0), .int v666.1]) (ct_X9_gaugeAt hs hE hT0 hT1 hc674) dL_isRight_674 wd_1218 zX9_gaugeAt wd_1219 wd_1220 rfl  rfl rfl (fo9 (hE 0 (by decide))) rfl rfl ⟨Nat.le_of_ble_eq_true rfl, Nat.le_of_ble_eq_true rfl⟩ (Nat.le_of_ble_eq_true rfl) ⟨Nat.le_of_ble_eq_true rfl, Nat.le_of_ble_eq_true rfl⟩ ?_
        refine r_aload_n dL_isRight_677 rfl ?_
        refine r_iload dL_isRight_678 rfl ?_
        refine r_iconst (v := (1 : Int32)) dL_isRight_680 (by decide) ?_
        obtain ⟨v681, hc681, hf⟩ := bd_of hf
        rcases v681 with e681 | v681
        · exact (no_no hf).elim
        refine r_cVi (rest := [.int v674, .ref (G.2.2.1 + 0), .int v666.1]) (ct_X9_gaugeAt hs hE hT0 hT1 hc681) dL_isRight_681 wd_1218 zX9_gaugeAt wd_1219 wd_1220 rfl  rfl rfl (fo9 (hE 0 (by decide))) rfl rfl ⟨Nat.le_of_ble_eq_true rfl, Nat.le_of_ble_eq_true rfl⟩ (Nat.le_of_ble_eq_true rfl) ⟨Nat.le_of_ble_eq_true rfl, Nat.le_of_ble_eq_true rfl⟩ ?_
        obtain ⟨v684, hc684, hf⟩ := bd_of hf
        rcases v684 with e684 | v684
        · exact (no_no hf).elim
        refine r_cVi (rest := [.int v666.1]) (ct_X9_wave hs hE hT0 hT1 hc684) dL_isRight_684 wd_639 zX9_wave wd_640 wd_641 rfl  rfl rfl (fo9 (hE 0 (by decide))) rfl rfl ⟨Nat.le_of_ble_eq_true rfl, Nat.le_of_ble_eq_true rfl⟩ (Nat.le_of_ble_eq_true rfl) ⟨Nat.le_of_ble_eq_true rfl, Nat.le_of_ble_eq_true rfl⟩ ?_
        refine r_mabs dL_isRight_687 wd_815 wd_595 wd_54 wMath_mabs (Nat.le_of_ble_eq_true rfl) (Nat.le_of_ble_eq_true rfl) (Nat.le_of_ble_eq_true rfl) (Nat.le_of_ble_eq_true rfl) ?_
        refine r_icmp_lt (tgt := 715) dL_isRight_690 (by decide) (fun c690 => ?_) (fun c690 => ?_)
        · replace hf := if_t hf c690
          refine r_iconst (v := (0 : Int32)) dL_isRight_715 (by decide) ?_
          have hr := Option.some.inj hf
          subst hr
          exact r_zret dL_isRight_716 rfl rfl (Nat.le_of_ble_eq_true rfl) (Nat.le_of_ble_eq_true rfl) ⟨rfl, rfl, rfl⟩
        · replace hf := if_f hf c690
          refine r_aload_n dL_isRight_693 rfl ?_
          refine r_iload dL_isRight_694 rfl ?_
          refine r_iload_n dL_isRight_696 rfl ?_
          obtain ⟨v697, hc697, hf⟩ := bd_of hf
          rcases v697 with e697 | v697
          · exact (no_no hf).elim
          refine r_cVi (rest := []) (ct_X9_crossings hs hE hT0 hT1 hc697) dL_isRight_697 wd_1222 zX9_crossings wd_1223 wd_1224 rfl  rfl rfl (fo9 (hE 0 (by decide))) rfl rfl ⟨Nat.le_of_ble_eq_true rfl, Nat.le_of_ble_eq_true rfl⟩ (Nat.le_of_ble_eq_true rfl) ⟨Nat.le_of_ble_eq_true rfl, Nat.le_of_ble_eq_true rfl⟩ ?_
          refine r_iload_n dL_isRight_700 rfl ?_
          refine r_icmp_ge (tgt := 715) dL_isRight_701 (by decide) (fun c701 => ?_) (fun c701 => ?_)
          · replace hf := if_t hf c701
            refine r_iconst (v := (0 : Int32)) dL_isRight_715 (by decide) ?_
            have hr := Option.some.inj hf
            subst hr
            exact r_zret dL_isRight_716 rfl rfl (Nat.le_of_ble_eq_true rfl) (Nat.le_of_ble_eq_true rfl) ⟨rfl, rfl, rfl⟩
          · replace hf := if_f hf c701
            refine r_aload_n dL_isRight_704 rfl ?_
            refine r_iload dL_isRight_705 rfl ?_
            refine r_iload_n dL_isRight_707 rfl ?_
            obtain ⟨v708, hc708, hf⟩ := bd_of hf
            rcases v708 with e708 | v708
            · exact (no_no hf).elim
            refine r_cVi (rest := []) (ct_X9_rhythm hs hE hT0 hT1 hc708) dL_isRight_708 wd_1226 zX9_rhythm wd_1227 wd_1228 rfl  rfl rfl (fo9 (hE 0 (by decide))) rfl rfl ⟨Nat.le_of_ble_eq_true rfl, Nat.le_of_ble_eq_true rfl⟩ (Nat.le_of_ble_eq_true rfl) ⟨Nat.le_of_ble_eq_true rfl, Nat.le_of_ble_eq_true rfl⟩ ?_
            refine r_iconst (v := (1 : Int32)) dL_isRight_711 (by decide) ?_
            refine r_icmp_ge (tgt := 717) dL_isRight_712 (by decide) (fun c712 => ?_) (fun c712 => ?_)
            · replace hf := if_t hf c712
              refine r_iincv (v := (x7 + (1 : Int32))) dL_isRight_717 rfl rfl (by decide) rfl ?_
              refine r_goto (tgt := 653) dL_isRight_720 (by decide) ?_
              exact r_widen (k2 := 0) (n2 := 0) (Nat.le_of_ble_eq_true rfl) (Nat.le_of_ble_eq_true rfl) (r_mask [true, true, true, true, true, true, false, true, false, false, false, false, false, false, false, false, false, false, false] rfl (ih.2.2.2.2.2.2 x3 x4 y5 (x7 + (1 : Int32)) v708.2 J r hf))
            · replace hf := if_f hf c712
              refine r_iconst (v := (0 : Int32)) dL_isRight_715 (by decide) ?_
              have hr := Option.some.inj hf
              subst hr
              exact r_zret dL_isRight_716 rfl rfl (Nat.le_of_ble_eq_true rfl) (Nat.le_of_ble_eq_true rfl) ⟨rfl, rfl, rfl⟩
def F_L_isRight (n : Nat) (T0 T1 : Nat) (I : gI) (J : gJ) (K : gI) (a2 : Int32) : Option (Int32 × gI × gJ) := L_L_isRight n T0 T1 K a2 n 0 (0 : Int32) (0 : Int32) (0 : Int64) (0 : Int32) 0 0 0 0 0 0 0 0 0 0 0 I J
set_option maxHeartbeats 4000000 in
set_option maxRecDepth 100000 in
theorem ct_L_isRight {G : gG} {lay : Nat → Nat × Nat} {T0 T1 : Nat} {Dd : Nat → Nat → UInt64} {I : gI} {J : gJ} {K : gI} {N : gJ} {sz n : Nat} {a2 : Int32} (hs : G.1.stackTraces = false) (hE : gLay lay) (hT0 : gTank lay T0) (hT1 : gTank lay T1) {r : Int32 × gI × gJ} (hf : F_L_isRight n T0 T1 I J K a2 = some r) : gCt G mL_isRight [.ref (G.2.2.1 + 0), .ref (G.2.2.1 + 154), .int a2] (fO G (lay, T0, T1, Dd) I J K N) sz (gR (some (.int r.1)) (fO G (lay, T0, T1, Dd) r.2.1 r.2.2 K N) sz) := by
  unfold F_L_isRight at hf
  refine gCt.of [some (.ref (G.2.2.1 + 0)), some (.ref (G.2.2.1 + 154)), some (.int a2), none, none, none, none, none, none, none, none, none, none, none, none, none, none, none, none] (by decide +kernel) rfl hs rfl (Nat.le_of_ble_eq_true rfl) ?_
  refine r_iconst (v := (0 : Int32)) dL_isRight_0 (by decide) ?_
  refine r_istore_n dL_isRight_1 (by decide) rfl ?_
  refine r_iconst (v := (0 : Int32)) dL_isRight_2 (by decide) ?_
  refine r_istore dL_isRight_3 (by decide) rfl ?_
  refine r_lconst (v := (0 : Int64)) dL_isRight_5 (by decide) ?_
  refine r_lstore dL_isRight_6 (by decide) rfl ?_
  refine r_iconst (v := (0 : Int32)) dL_isRight_8 (by decide) ?_
  refine r_istore dL_isRight_9 (by decide) rfl ?_
  exact r_widen (k2 := 0) (n2 := 0) (Nat.le_of_ble_eq_true rfl) (Nat.le_of_ble_eq_true rfl) (r_mask [true, true, true, true, true, true, false, true, false, false, false, false, false, false, false, false, false, false, false] rfl ((cL_L_isRight hs hE hT0 hT1 n).1 (0 : Int32) (0 : Int32) (0 : Int64) (0 : Int32) I J r hf))
def L_L_seen (n : Nat) (T0 T1 o2 : Nat) (I : gI) (K : gI) : Nat → Nat → Int32 → Int32 → gJ → gJ → Option (gJ × gJ)
  | 0, _, _, _, _, _ => none
  | j + 1, 0, x3, x4, J, N => (if (K 154 6) ≤ x4 then L_L_seen n T0 T1 o2 I K j 1 x3 (0 : Int32) J N else bd (F_X9_isOn n T0 T1 I x4) (fun v60 => sm v60 (fun _ => none) (fun v60 => (if v60 = 0 then gv x3 80 (lt (sJ N o2 (Int32.toNatClampNeg x3) (0 : Int64)) (fun N71 => bd (F_X9_property n T0 T1 I x4 (0 : Int32)) (fun v81 => sm v81 (fun _ => none) (fun v81 => gv (x3 + (1 : Int32)) 80 (lt (sJ N71 o2 (Int32.toNatClampNeg (x3 + (1 : Int32))) (Int32.toInt64 v81)) (fun N85 => bd (F_X9_property n T0 T1 I x4 (3 : Int32)) (fun v95 => sm v95 (fun _ => none) (fun v95 => gv ((x3 + (1 : Int32)) + (1 : Int32)) 80 (lt (sJ N85 o2 (Int32.toNatClampNeg ((x3 + (1 : Int32)) + (1 : Int32))) (Int32.toInt64 v95)) (fun N99 => bd (F_X9_sourceAt n T0 T1 I x4 (0 : Int32) (500 : Int32)) (fun v112 => sm v112 (fun _ => none) (fun v112 => gv (((x3 + (1 : Int32)) + (1 : Int32)) + (1 : Int32)) 80 (lt (sJ N99 o2 (Int32.toNatClampNeg (((x3 + (1 : Int32)) + (1 : Int32)) + (1 : Int32))) (Int32.toInt64 v112)) (fun N116 => bd (F_X9_sourceAt n T0 T1 I x4 (1 : Int32) (500 : Int32)) (fun v129 => sm v129 (fun _ => none) (fun v129 => gv ((((x3 + (1 : Int32)) + (1 : Int32)) + (1 : Int32)) + (1 : Int32)) 80 (lt (sJ N116 o2 (Int32.toNatClampNeg ((((x3 + (1 : Int32)) + (1 : Int32)) + (1 : Int32)) + (1 : Int32))) (Int32.toInt64 v129)) (fun N133 => L_L_seen n T0 T1 o2 I K j 0 (((((x3 + (1 : Int32)) + (1 : Int32)) + (1 : Int32)) + (1 : Int32)) + (1 : Int32)) (x4 + (1 : Int32)) J N133)))))))))))))))))) else gv x3 80 (lt (sJ N o2 (Int32.toNatClampNeg x3) (1 : Int64)) (fun N71 => bd (F_X9_property n T0 T1 I x4 (0 : Int32)) (fun v81 => sm v81 (fun _ => none) (fun v81 => gv (x3 + (1 : Int32)) 80 (lt (sJ N71 o2 (Int32.toNatClampNeg (x3 + (1 : Int32))) (Int32.toInt64 v81)) (fun N85 => bd (F_X9_property n T0 T1 I x4 (3 : Int32)) (fun v95 => sm v95 (fun _ => none) (fun v95 => gv ((x3 + (1 : Int32)) + (1 : Int32)) 80 (lt (sJ N85 o2 (Int32.toNatClampNeg ((x3 + (1 : Int32)) + (1 : Int32))) (Int32.toInt64 v95)) (fun N99 => bd (F_X9_sourceAt n T0 T1 I x4 (0 : Int32) (500 : Int32)) (fun v112 => sm v112 (fun _ => none) (fun v112 => gv (((x3 + (1 : Int32)) + (1 : Int32)) + (1 : Int32)) 80 (lt (sJ N99 o2 (Int32.toNatClampNeg (((x3 + (1 : Int32)) + (1 : Int32)) + (1 : Int32))) (Int32.toInt64 v112)) (fun N116 => bd (F_X9_sourceAt n T0 T1 I x4 (1 : Int32) (500 : Int32)) (fun v129 => sm v129 (fun _ => none) (fun v129 => gv ((((x3 + (1 : Int32)) + (1 : Int32)) + (1 : Int32)) + (1 : Int32)) 80 (lt (sJ N116 o2 (Int32.toNatClampNeg ((((x3 + (1 : Int32)) + (1 : Int32)) + (1 : Int32)) + (1 : Int32))) (Int32.toInt64 v129)) (fun N133 => L_L_seen n T0 T1 o2 I K j 0 (((((x3 + (1 : Int32)) + (1 : Int32)) + (1 : Int32)) + (1 : Int32)) + (1 : Int32)) (x4 + (1 : Int32)) J N133))))))))))))))))))))))
  | j + 1, 1, x3, x4, J, N => (if ((K 154 1) * (K 154 2)) ≤ x4 then some (J, N) else gd (¬ (K 154 1) = 0) (gd (¬ (K 154 1) = 0) (bd (F_X9_wave n T0 T1 I (x4 - x4 / (K 154 1) * (K 154 1)) (x4 / (K 154 1))) (fun v173 => sm v173 (fun _ => none) (fun v173 => gv x3 80 (lt (sJ N o2 (Int32.toNatClampNeg x3) (Int32.toInt64 v173)) (fun N177 => L_L_seen n T0 T1 o2 I K j 1 (x3 + (1 : Int32)) (x4 + (1 : Int32)) J N177)))))))
  | _ + 1, _, _, _, _, _ => none
theorem L_L_seen_e0 (n j : Nat) (T0 T1 o2 : Nat) (I : gI) (K : gI) (x3 : Int32) (x4 : Int32) (J : gJ) (N : gJ) : L_L_seen n T0 T1 o2 I K (j + 1) 0 x3 x4 J N = (if (K 154 6) ≤ x4 then L_L_seen n T0 T1 o2 I K j 1 x3 (0 : Int32) J N else bd (F_X9_isOn n T0 T1 I x4) (fun v60 => sm v60 (fun _ => none) (fun v60 => (if v60 = 0 then gv x3 80 (lt (sJ N o2 (Int32.toNatClampNeg x3) (0 : Int64)) (fun N71 => bd (F_X9_property n T0 T1 I x4 (0 : Int32)) (fun v81 => sm v81 (fun _ => none) (fun v81 => gv (x3 + (1 : Int32)) 80 (lt (sJ N71 o2 (Int32.toNatClampNeg (x3 + (1 : Int32))) (Int32.toInt64 v81)) (fun N85 => bd (F_X9_property n T0 T1 I x4 (3 : Int32)) (fun v95 => sm v95 (fun _ => none) (fun v95 => gv ((x3 + (1 : Int32)) + (1 : Int32)) 80 (lt (sJ N85 o2 (Int32.toNatClampNeg ((x3 + (1 : Int32)) + (1 : Int32))) (Int32.toInt64 v95)) (fun N99 => bd (F_X9_sourceAt n T0 T1 I x4 (0 : Int32) (500 : Int32)) (fun v112 => sm v112 (fun _ => none) (fun v112 => gv (((x3 + (1 : Int32)) + (1 : Int32)) + (1 : Int32)) 80 (lt (sJ N99 o2 (Int32.toNatClampNeg (((x3 + (1 : Int32)) + (1 : Int32)) + (1 : Int32))) (Int32.toInt64 v112)) (fun N116 => bd (F_X9_sourceAt n T0 T1 I x4 (1 : Int32) (500 : Int32)) (fun v129 => sm v129 (fun _ => none) (fun v129 => gv ((((x3 + (1 : Int32)) + (1 : Int32)) + (1 : Int32)) + (1 : Int32)) 80 (lt (sJ N116 o2 (Int32.toNatClampNeg ((((x3 + (1 : Int32)) + (1 : Int32)) + (1 : Int32)) + (1 : Int32))) (Int32.toInt64 v129)) (fun N133 => L_L_seen n T0 T1 o2 I K j 0 (((((x3 + (1 : Int32)) + (1 : Int32)) + (1 : Int32)) + (1 : Int32)) + (1 : Int32)) (x4 + (1 : Int32)) J N133)))))))))))))))))) else gv x3 80 (lt (sJ N o2 (Int32.toNatClampNeg x3) (1 : Int64)) (fun N71 => bd (F_X9_property n T0 T1 I x4 (0 : Int32)) (fun v81 => sm v81 (fun _ => none) (fun v81 => gv (x3 + (1 : Int32)) 80 (lt (sJ N71 o2 (Int32.toNatClampNeg (x3 + (1 : Int32))) (Int32.toInt64 v81)) (fun N85 => bd (F_X9_property n T0 T1 I x4 (3 : Int32)) (fun v95 => sm v95 (fun _ => none) (fun v95 => gv ((x3 + (1 : Int32)) + (1 : Int32)) 80 (lt (sJ N85 o2 (Int32.toNatClampNeg ((x3 + (1 : Int32)) + (1 : Int32))) (Int32.toInt64 v95)) (fun N99 => bd (F_X9_sourceAt n T0 T1 I x4 (0 : Int32) (500 : Int32)) (fun v112 => sm v112 (fun _ => none) (fun v112 => gv (((x3 + (1 : Int32)) + (1 : Int32)) + (1 : Int32)) 80 (lt (sJ N99 o2 (Int32.toNatClampNeg (((x3 + (1 : Int32)) + (1 : Int32)) + (1 : Int32))) (Int32.toInt64 v112)) (fun N116 => bd (F_X9_sourceAt n T0 T1 I x4 (1 : Int32) (500 : Int32)) (fun v129 => sm v129 (fun _ => none) (fun v129 => gv ((((x3 + (1 : Int32)) + (1 : Int32)) + (1 : Int32)) + (1 : Int32)) 80 (lt (sJ N116 o2 (Int32.toNatClampNeg ((((x3 + (1 : Int32)) + (1 : Int32)) + (1 : Int32)) + (1 : Int32))) (Int32.toInt64 v129)) (fun N133 => L_L_seen n T0 T1 o2 I K j 0 (((((x3 + (1 : Int32)) + (1 : Int32)) + (1 : Int32)) + (1 : Int32)) + (1 : Int32)) (x4 + (1 : Int32)) J N133)))))))))))))))))))))) := rfl
theorem L_L_seen_e1 (n j : Nat) (T0 T1 o2 : Nat) (I : gI) (K : gI) (x3 : Int32) (x4 : Int32) (J : gJ) (N : gJ) : L_L_seen n T0 T1 o2 I K (j + 1) 1 x3 x4 J N = (if ((K 154 1) * (K 154 2)) ≤ x4 then some (J, N) else gd (¬ (K 154 1) = 0) (gd (¬ (K 154 1) = 0) (bd (F_X9_wave n T0 T1 I (x4 - x4 / (K 154 1) * (K 154 1)) (x4 / (K 154 1))) (fun v173 => sm v173 (fun _ => none) (fun v173 => gv x3 80 (lt (sJ N o2 (Int32.toNatClampNeg x3) (Int32.toInt64 v173)) (fun N177 => L_L_seen n T0 T1 o2 I K j 1 (x3 + (1 : Int32)) (x4 + (1 : Int32)) J N177))))))) := rfl
set_option maxHeartbeats 4000000 in
set_option maxRecDepth 100000 in
theorem cL_L_seen {G : gG} {lay : Nat → Nat × Nat} {T0 T1 : Nat} {Dd : Nat → Nat → UInt64} {I : gI} {K : gI} {sz n : Nat} {o2 : Nat} (hs : G.1.stackTraces = false) (hE : gLay lay) (hT0 : gTank lay T0) (hT1 : gTank lay T1) (ho2 : lay o2 = (203, 80)) : ∀ j : Nat, (∀ (x3 : Int32) (x4 : Int32) (J : gJ) (N : gJ) (r : gJ × gJ), L_L_seen n T0 T1 o2 I K j 0 x3 x4 J N = some r → gAt G mL_seen (gQp G mL_seen (gR (some (.ref (G.2.2.1 + o2))) (fO G (lay, T0, T1, Dd) I r.1 K r.2) sz)) 43 [some (.ref (G.2.2.1 + 0)), some (.ref (G.2.2.1 + 154)), some (.ref (G.2.2.1 + o2)), some (.int x3), some (.int x4)] [] (fO G (lay, T0, T1, Dd) I J K N) sz 1 80) ∧ (∀ (x3 : Int32) (x4 : Int32) (J : gJ) (N : gJ) (r : gJ × gJ), L_L_seen n T0 T1 o2 I K j 1 x3 x4 J N = some r → gAt G mL_seen (gQp G mL_seen (gR (some (.ref (G.2.2.1 + o2))) (fO G (lay, T0, T1, Dd) I r.1 K r.2) sz)) 143 [some (.ref (G.2.2.1 + 0)), some (.ref (G.2.2.1 + 154)), some (.ref (G.2.2.1 + o2)), some (.int x3), some (.int x4)] [] (fO G (lay, T0, T1, Dd) I J K N) sz 1 80) := by
  intro j
  induction j with
  | zero => exact ⟨fun _ _ _ _ _ hf => (by cases hf), fun _ _ _ _ _ hf => (by cases hf)⟩
  | succ j ih =>
    refine ⟨?_, ?_⟩
    · intro x3 x4 J N r hf
      rw [L_L_seen_e0] at hf
      refine r_iload dL_seen_43 rfl ?_
      refine r_aload_n dL_seen_45 rfl ?_
      refine r_bipush (v := (6 : Int32)) dL_seen_46 (by decide) ?_
      refine m_ialdc 6 dL_seen_48 (hE 154 (by decide)) (vpc rfl) rfl ?_
      refine r_icmp_ge (tgt := 140) dL_seen_49 (by decide) (fun c49 => ?_) (fun c49 => ?_)
      · replace hf := if_t hf c49
        refine r_iconst (v := (0 : Int32)) dL_seen_140 (by decide) ?_
        refine r_istore dL_seen_141 (by decide) rfl ?_
        exact r_widen (k2 := 1) (n2 := 80) (Nat.le_of_ble_eq_true rfl) (Nat.le_of_ble_eq_true rfl) (r_mask [true, true, true, true, true] rfl (ih.2 x3 (0 : Int32) J N r hf))
      · replace hf := if_f hf c49
        refine r_aload_n dL_seen_52 rfl ?_
        refine r_iload_n dL_seen_53 rfl ?_
        refine r_iincv (v := (x3 + (1 : Int32))) dL_seen_54 rfl rfl (by decide) rfl ?_
        refine r_aload_n dL_seen_57 rfl ?_
        refine r_iload dL_seen_58 rfl ?_
        obtain ⟨v60, hc60, hf⟩ := bd_of hf
        rcases v60 with e60 | v60
        · exact (no_no hf).elim
        refine r_cVi (rest := [.int x3, .ref (G.2.2.1 + o2)]) (ct_X9_isOn hs hE hT0 hT1 hc60) dL_seen_60 wd_554 zX9_isOn wd_555 wd_556 rfl  rfl rfl (fo9 (hE 0 (by decide))) rfl rfl ⟨Nat.le_of_ble_eq_true rfl, Nat.le_of_ble_eq_true rfl⟩ (Nat.le_of_ble_eq_true rfl) ⟨Nat.le_of_ble_eq_true rfl, Nat.le_of_ble_eq_true rfl⟩ ?_
        refine r_if_eq (tgt := 70) dL_seen_63 (by decide) (fun c63 => ?_) (fun c63 => ?_)
        · replace hf := if_t hf c63
          refine r_lconst (v := (0 : Int64)) dL_seen_70 (by decide) ?_
          obtain ⟨h71, hf⟩ := gv_of hf
          obtain ⟨N71, hN71, hf⟩ := lt_of hf
          refine m_last dL_seen_71 ho2 h71 ?_
          rw [hN71]
          refine r_aload_n dL_seen_72 rfl ?_
          refine r_iload_n dL_seen_73 rfl ?_
          refine r_iincv (v := ((x3 + (1 : Int32)) + (1 : Int32))) dL_seen_74 rfl rfl (by decide) rfl ?_
          refine r_aload_n dL_seen_77 rfl ?_
          refine r_iload dL_seen_78 rfl ?_
          refine r_iconst (v := (0 : Int32)) dL_seen_80 (by decide) ?_
          obtain ⟨v81, hc81, hf⟩ := bd_of hf
          rcases v81 with e81 | v81
          · exact (no_no hf).elim
          refine r_cVi (rest := [.int (x3 + (1 : Int32)), .ref (G.2.2.1 + o2)]) (ct_X9_property hs hE hT0 hT1 hc81) dL_seen_81 wd_550 zX9_property wd_551 wd_552 rfl  rfl rfl (fo9 (hE 0 (by decide))) rfl rfl ⟨Nat.le_of_ble_eq_true rfl, Nat.le_of_ble_eq_true rfl⟩ (Nat.le_of_ble_eq_true rfl) ⟨Nat.le_of_ble_eq_true rfl, Nat.le_of_ble_eq_true rfl⟩ ?_
          refine r_i2l dL_seen_84 ?_
          obtain ⟨h85, hf⟩ := gv_of hf
          obtain ⟨N85, hN85, hf⟩ := lt_of hf
          refine m_last dL_seen_85 ho2 h85 ?_
          rw [hN85]
          refine r_aload_n dL_seen_86 rfl ?_
          refine r_iload_n dL_seen_87 rfl ?_
          refine r_iincv (v := (((x3 + (1 : Int32)) + (1 : Int32)) + (1 : Int32))) dL_seen_88 rfl rfl (by decide) rfl ?_
          refine r_aload_n dL_seen_91 rfl ?_
          refine r_iload dL_seen_92 rfl ?_
          refine r_iconst (v := (3 : Int32)) dL_seen_94 (by decide) ?_
          obtain ⟨v95, hc95, hf⟩ := bd_of hf
          rcases v95 with e95 | v95
          · exact (no_no hf).elim
          refine r_cVi (rest := [.int ((x3 + (1 : Int32)) + (1 : Int32)), .ref (G.2.2.1 + o2)]) (ct_X9_property hs hE hT0 hT1 hc95) dL_seen_95 wd_550 zX9_property wd_551 wd_552 rfl  rfl rfl (fo9 (hE 0 (by decide))) rfl rfl ⟨Nat.le_of_ble_eq_true rfl, Nat.le_of_ble_eq_true rfl⟩ (Nat.le_of_ble_eq_true rfl) ⟨Nat.le_of_ble_eq_true rfl, Nat.le_of_ble_eq_true rfl⟩ ?_
          refine r_i2l dL_seen_98 ?_
          obtain ⟨h99, hf⟩ := gv_of hf
          obtain ⟨N99, hN99, hf⟩ := lt_of hf
          refine m_last dL_seen_99 ho2 h99 ?_
          rw [hN99]
          refine r_aload_n dL_seen_100 rfl ?_
          refine r_iload_n dL_seen_101 rfl ?_
          refine r_iincv (v := ((((x3 + (1 : Int32)) + (1 : Int32)) + (1 : Int32)) + (1 : Int32))) dL_seen_102 rfl rfl (by decide) rfl ?_
          refine r_aload_n dL_seen_105 rfl ?_
          refine r_iload dL_seen_106 rfl ?_
          refine r_iconst (v := (0 : Int32)) dL_seen_108 (by decide) ?_
          refine r_sipush (v := (500 : Int32)) dL_seen_109 (by decide) ?_
          obtain ⟨v112, hc112, hf⟩ := bd_of hf
          rcases v112 with e112 | v112
          · exact (no_no hf).elim
          refine r_cVi (rest := [.int (((x3 + (1 : Int32)) + (1 : Int32)) + (1 : Int32)), .ref (G.2.2.1 + o2)]) (ct_X9_sourceAt hs hE hT0 hT1 hc112) dL_seen_112 wd_508 zX9_sourceAt wd_509 wd_510 rfl  rfl rfl (fo9 (hE 0 (by decide))) rfl rfl ⟨Nat.le_of_ble_eq_true rfl, Nat.le_of_ble_eq_true rfl⟩ (Nat.le_of_ble_eq_true rfl) ⟨Nat.le_of_ble_eq_true rfl, Nat.le_of_ble_eq_true rfl⟩ ?_
          refine r_i2l dL_seen_115 ?_
          obtain ⟨h116, hf⟩ := gv_of hf
          obtain ⟨N116, hN116, hf⟩ := lt_of hf
          refine m_last dL_seen_116 ho2 h116 ?_
          rw [hN116]
          refine r_aload_n dL_seen_117 rfl ?_
          refine r_iload_n dL_seen_118 rfl ?_
          refine r_iincv (v := (((((x3 + (1 : Int32)) + (1 : Int32)) + (1 : Int32)) + (1 : Int32)) + (1 : Int32))) dL_seen_119 rfl rfl (by decide) rfl ?_
          refine r_aload_n dL_seen_122 rfl ?_
          refine r_iload dL_seen_123 rfl ?_
          refine r_iconst (v := (1 : Int32)) dL_seen_125 (by decide) ?_
          refine r_sipush (v := (500 : Int32)) dL_seen_126 (by decide) ?_
          obtain ⟨v129, hc129, hf⟩ := bd_of hf
          rcases v129 with e129 | v129
          · exact (no_no hf).elim
          refine r_cVi (rest := [.int ((((x3 + (1 : Int32)) + (1 : Int32)) + (1 : Int32)) + (1 : Int32)), .ref (G.2.2.1 + o2)]) (ct_X9_sourceAt hs hE hT0 hT1 hc129) dL_seen_129 wd_508 zX9_sourceAt wd_509 wd_510 rfl  rfl rfl (fo9 (hE 0 (by decide))) rfl rfl ⟨Nat.le_of_ble_eq_true rfl, Nat.le_of_ble_eq_true rfl⟩ (Nat.le_of_ble_eq_true rfl) ⟨Nat.le_of_ble_eq_true rfl, Nat.le_of_ble_eq_true rfl⟩ ?_
          refine r_i2l dL_seen_132 ?_
          obtain ⟨h133, hf⟩ := gv_of hf
          obtain ⟨N133, hN133, hf⟩ := lt_of hf
          refine m_last dL_seen_133 ho2 h133 ?_
          rw [hN133]
          refine r_iincv (v := (x4 + (1 : Int32))) dL_seen_134 rfl rfl (by decide) rfl ?_
          refine r_goto (tgt := 43) dL_seen_137 (by decide) ?_
          exact r_widen (k2 := 1) (n2 := 80) (Nat.le_of_ble_eq_true rfl) (Nat.le_of_ble_eq_true rfl) (r_mask [true, true, true, true, true] rfl (ih.1 (((((x3 + (1 : Int32)) + (1 : Int32)) + (1 : Int32)) + (1 : Int32)) + (1 : Int32)) (x4 + (1 : Int32)) J N133 r hf))
        · replace hf := if_f hf c63
          refine r_lconst (v := (1 : Int64)) dL_seen_66 (by decide) ?_
          refine r_goto (tgt := 71) dL_seen_67 (by decide) ?_
          obtain ⟨h71, hf⟩ := gv_of hf
          obtain ⟨N71, hN71, hf⟩ := lt_of hf
          refine m_last dL_seen_71 ho2 h71 ?_
          rw [hN71]
          refine r_aload_n dL_seen_72 rfl ?_
          refine r_iload_n dL_seen_73 rfl ?_
          refine r_iincv (v := ((x3 + (1 : Int32)) + (1 : Int32))) dL_seen_74 rfl rfl (by decide) rfl ?_
          refine r_aload_n dL_seen_77 rfl ?_
          refine r_iload dL_seen_78 rfl ?_
          refine r_iconst (v := (0 : Int32)) dL_seen_80 (by decide) ?_
          obtain ⟨v81, hc81, hf⟩ := bd_of hf
          rcases v81 with e81 | v81
          · exact (no_no hf).elim
          refine r_cVi (rest := [.int (x3 + (1 : Int32)), .ref (G.2.2.1 + o2)]) (ct_X9_property hs hE hT0 hT1 hc81) dL_seen_81 wd_550 zX9_property wd_551 wd_552 rfl  rfl rfl (fo9 (hE 0 (by decide))) rfl rfl ⟨Nat.le_of_ble_eq_true rfl, Nat.le_of_ble_eq_true rfl⟩ (Nat.le_of_ble_eq_true rfl) ⟨Nat.le_of_ble_eq_true rfl, Nat.le_of_ble_eq_true rfl⟩ ?_
          refine r_i2l dL_seen_84 ?_
          obtain ⟨h85, hf⟩ := gv_of hf
          obtain ⟨N85, hN85, hf⟩ := lt_of hf
          refine m_last dL_seen_85 ho2 h85 ?_
          rw [hN85]
          refine r_aload_n dL_seen_86 rfl ?_
          refine r_iload_n dL_seen_87 rfl ?_
          refine r_iincv (v := (((x3 + (1 : Int32)) + (1 : Int32)) + (1 : Int32))) dL_seen_88 rfl rfl (by decide) rfl ?_
          refine r_aload_n dL_seen_91 rfl ?_
          refine r_iload dL_seen_92 rfl ?_
          refine r_iconst (v := (3 : Int32)) dL_seen_94 (by decide) ?_
          obtain ⟨v95, hc95, hf⟩ := bd_of hf
          rcases v95 with e95 | v95
          · exact (no_no hf).elim
          refine r_cVi (rest := [.int ((x3 + (1 : Int32)) + (1 : Int32)), .ref (G.2.2.1 + o2)]) (ct_X9_property hs hE hT0 hT1 hc95) dL_seen_95 wd_550 zX9_property wd_551 wd_552 rfl  rfl rfl (fo9 (hE 0 (by decide))) rfl rfl ⟨Nat.le_of_ble_eq_true rfl, Nat.le_of_ble_eq_true rfl⟩ (Nat.le_of_ble_eq_true rfl) ⟨Nat.le_of_ble_eq_true rfl, Nat.le_of_ble_eq_true rfl⟩ ?_
          refine r_i2l dL_seen_98 ?_
          obtain ⟨h99, hf⟩ := gv_of hf
          obtain ⟨N99, hN99, hf⟩ := lt_of hf
          refine m_last dL_seen_99 ho2 h99 ?_
          rw [hN99]
          refine r_aload_n dL_seen_100 rfl ?_
          refine r_iload_n dL_seen_101 rfl ?_
          refine r_iincv (v := ((((x3 + (1 : Int32)) + (1 : Int32)) + (1 : Int32)) + (1 : Int32))) dL_seen_102 rfl rfl (by decide) rfl ?_
          refine r_aload_n dL_seen_105 rfl ?_
          refine r_iload dL_seen_106 rfl ?_
          refine r_iconst (v := (0 : Int32)) dL_seen_108 (by decide) ?_
          refine r_sipush (v := (500 : Int32)) dL_seen_109 (by decide) ?_
          obtain ⟨v112, hc112, hf⟩ := bd_of hf
          rcases v112 with e112 | v112
          · exact (no_no hf).elim
          refine r_cVi (rest := [.int (((x3 + (1 : Int32)) + (1 : Int32)) + (1 : Int32)), .ref (G.2.2.1 + o2)]) (ct_X9_sourceAt hs hE hT0 hT1 hc112) dL_seen_112 wd_508 zX9_sourceAt wd_509 wd_510 rfl  rfl rfl (fo9 (hE 0 (by decide))) rfl rfl ⟨Nat.le_of_ble_eq_true rfl, Nat.le_of_ble_eq_true rfl⟩ (Nat.le_of_ble_eq_true rfl) ⟨Nat.le_of_ble_eq_true rfl, Nat.le_of_ble_eq_true rfl⟩ ?_
          refine r_i2l dL_seen_115 ?_
          obtain ⟨h116, hf⟩ := gv_of hf
          obtain ⟨N116, hN116, hf⟩ := lt_of hf
          refine m_last dL_seen_116 ho2 h116 ?_
          rw [hN116]
          refine r_aload_n dL_seen_117 rfl ?_
          refine r_iload_n dL_seen_118 rfl ?_
          refine r_iincv (v := (((((x3 + (1 : Int32)) + (1 : Int32)) + (1 : Int32)) + (1 : Int32)) + (1 : Int32))) dL_seen_119 rfl rfl (by decide) rfl ?_
          refine r_aload_n dL_seen_122 rfl ?_
          refine r_iload dL_seen_123 rfl ?_
          refine r_iconst (v := (1 : Int32)) dL_seen_125 (by decide) ?_
          refine r_sipush (v := (500 : Int32)) dL_seen_126 (by decide) ?_
          obtain ⟨v129, hc129, hf⟩ := bd_of hf
          rcases v129 with e129 | v129
          · exact (no_no hf).elim
          refine r_cVi (rest := [.int ((((x3 + (1 : Int32)) + (1 : Int32)) + (1 : Int32)) + (1 : Int32)), .ref (G.2.2.1 + o2)]) (ct_X9_sourceAt hs hE hT0 hT1 hc129) dL_seen_129 wd_508 zX9_sourceAt wd_509 wd_510 rfl  rfl rfl (fo9 (hE 0 (by decide))) rfl rfl ⟨Nat.le_of_ble_eq_true rfl, Nat.le_of_ble_eq_true rfl⟩ (Nat.le_of_ble_eq_true rfl) ⟨Nat.le_of_ble_eq_true rfl, Nat.le_of_ble_eq_true rfl⟩ ?_
          refine r_i2l dL_seen_132 ?_
          obtain ⟨h133, hf⟩ := gv_of hf
          obtain ⟨N133, hN133, hf⟩ := lt_of hf
          refine m_last dL_seen_133 ho2 h133 ?_
          rw [hN133]
          refine r_iincv (v := (x4 + (1 : Int32))) dL_seen_134 rfl rfl (by decide) rfl ?_
          refine r_goto (tgt := 43) dL_seen_137 (by decide) ?_
          exact r_widen (k2 := 1) (n2 := 80) (Nat.le_of_ble_eq_true rfl) (Nat.le_of_ble_eq_true rfl) (r_mask [true, true, true, true, true] rfl (ih.1 (((((x3 + (1 : Int32)) + (1 : Int32)) + (1 : Int32)) + (1 : Int32)) + (1 : Int32)) (x4 + (1 : Int32)) J N133 r hf))
    · intro x3 x4 J N r hf
      rw [L_L_seen_e1] at hf
      refine r_iload dL_seen_143 rfl ?_
      refine r_aload_n dL_seen_145 rfl ?_
      refine r_iconst (v := (1 : Int32)) dL_seen_146 (by decide) ?_
      refine m_ialdc 1 dL_seen_147 (hE 154 (by decide)) (vpc rfl) rfl ?_
      refine r_aload_n dL_seen_148 rfl ?_
      refine r_iconst (v := (2 : Int32)) dL_seen_149 (by decide) ?_
      refine m_ialdc 2 dL_seen_150 (hE 154 (by decide)) (vpc rfl) rfl ?_
      refine r_imul dL_seen_151 ?_
      refine r_icmp_ge (tgt := 184) dL_seen_152 (by decide) (fun c152 => ?_) (fun c152 => ?_)
      · replace hf := if_t hf c152
        refine r_aload_n dL_seen_184 rfl ?_
        have hr := Option.some.inj hf
        subst hr
        exact r_aret dL_seen_185 rfl (Nat.le_of_ble_eq_true rfl) (Nat.le_of_ble_eq_true rfl) ⟨rfl, rfl, rfl⟩
      · replace hf := if_f hf c152
        refine r_aload_n dL_seen_155 rfl ?_
        refine r_iload_n dL_seen_156 rfl ?_
        refine r_iincv (v := (x3 + (1 : Int32))) dL_seen_157 rfl rfl (by decide) rfl ?_
        refine r_aload_n dL_seen_160 rfl ?_
        refine r_iload dL_seen_161 rfl ?_
        refine r_aload_n dL_seen_163 rfl ?_
        refine r_iconst (v := (1 : Int32)) dL_seen_164 (by decide) ?_
        refine m_ialdc 1 dL_seen_165 (hE 154 (by decide)) (vpc rfl) rfl ?_
        obtain ⟨h166, hf⟩ := gd_of hf
        refine r_irem dL_seen_166 h166 ?_
        refine r_iload dL_seen_167 rfl ?_
        refine r_aload_n dL_seen_169 rfl ?_
        refine r_iconst (v := (1 : Int32)) dL_seen_170 (by decide) ?_
        refine m_ialdc 1 dL_seen_171 (hE 154 (by decide)) (vpc rfl) rfl ?_
        obtain ⟨h172, hf⟩ := gd_of hf
        refine r_idiv dL_seen_172 h172 ?_
        obtain ⟨v173, hc173, hf⟩ := bd_of hf
        rcases v173 with e173 | v173
        · exact (no_no hf).elim
        refine r_cVi (rest := [.int x3, .ref (G.2.2.1 + o2)]) (ct_X9_wave hs hE hT0 hT1 hc173) dL_seen_173 wd_639 zX9_wave wd_640 wd_641 rfl  rfl rfl (fo9 (hE 0 (by decide))) rfl rfl ⟨Nat.le_of_ble_eq_true rfl, Nat.le_of_ble_eq_true rfl⟩ (Nat.le_of_ble_eq_true rfl) ⟨Nat.le_of_ble_eq_true rfl, Nat.le_of_ble_eq_true rfl⟩ ?_
        refine r_i2l dL_seen_176 ?_
        obtain ⟨h177, hf⟩ := gv_of hf
        obtain ⟨N177, hN177, hf⟩ := lt_of hf
        refine m_last dL_seen_177 ho2 h177 ?_
        rw [hN177]
        refine r_iincv (v := (x4 + (1 : Int32))) dL_seen_178 rfl rfl (by decide) rfl ?_
        refine r_goto (tgt := 143) dL_seen_181 (by decide) ?_
        exact r_widen (k2 := 1) (n2 := 80) (Nat.le_of_ble_eq_true rfl) (Nat.le_of_ble_eq_true rfl) (r_mask [true, true, true, true, true] rfl (ih.2 (x3 + (1 : Int32)) (x4 + (1 : Int32)) J N177 r hf))
def F_L_seen (n : Nat) (T0 T1 o2 : Nat) (I : gI) (J : gJ) (K : gI) (N : gJ) : Option (gJ × gJ) := bd (F_X9_time n T0 T1 I) (fun v13 => lt (sJ N o2 0 (Int32.toInt64 v13)) (fun N17 => bd (F_X9_openRows n T0 T1 I) (fun v24 => sm v24 (fun _ => none) (fun v24 => gv ((0 : Int32) + (1 : Int32)) 80 (lt (sJ N17 o2 (Int32.toNatClampNeg ((0 : Int32) + (1 : Int32))) (Int32.toInt64 v24)) (fun N28 => bd (F_X9_allEnergy n T0 T1 I J (3 : Int32)) (fun v36 => sm v36 (fun _ => none) (fun v36 => gv (((0 : Int32) + (1 : Int32)) + (1 : Int32)) 80 (lt (sJ N28 o2 (Int32.toNatClampNeg (((0 : Int32) + (1 : Int32)) + (1 : Int32))) v36.1) (fun N39 => L_L_seen n T0 T1 o2 I K n 0 ((((0 : Int32) + (1 : Int32)) + (1 : Int32)) + (1 : Int32)) (0 : Int32) v36.2 N39))))))))))
set_option maxHeartbeats 4000000 in
set_option maxRecDepth 100000 in
theorem at_L_seen {G : gG} {lay : Nat → Nat × Nat} {T0 T1 : Nat} {Dd : Nat → Nat → UInt64} {I : gI} {J : gJ} {K : gI} {N : gJ} {sz n : Nat} {o2 : Nat} (hs : G.1.stackTraces = false) (hE : gLay lay) (hT0 : gTank lay T0) (hT1 : gTank lay T1) (ho2 : lay o2 = (203, 80)) {r : gJ × gJ} (hf : F_L_seen n T0 T1 o2 I J K N = some r) : gAt G mL_seen (gQp G mL_seen (gR (some (.ref (G.2.2.1 + o2))) (fO G (lay, T0, T1, Dd) I r.1 K r.2) sz)) 5 [some (.ref (G.2.2.1 + 0)), some (.ref (G.2.2.1 + 154)), some (.ref (G.2.2.1 + o2)), none, none] [] (fO G (lay, T0, T1, Dd) I J K N) sz 1 80 := by
  unfold F_L_seen at hf
  refine r_iconst (v := (0 : Int32)) dL_seen_5 (by decide) ?_
  refine r_istore_n dL_seen_6 (by decide) rfl ?_
  refine r_aload_n dL_seen_7 rfl ?_
  refine r_iload_n dL_seen_8 rfl ?_
  refine r_iincv (v := ((0 : Int32) + (1 : Int32))) dL_seen_9 rfl rfl (by decide) rfl ?_
  refine r_aload_n dL_seen_12 rfl ?_
  obtain ⟨v13, hc13, hf⟩ := bd_of hf
  refine r_cVi (rest := [.int (0 : Int32), .ref (G.2.2.1 + o2)]) (ct_X9_time hs hE hT0 hT1 hc13) dL_seen_13 wd_405 zX9_time wd_406 wd_407 rfl  rfl rfl (fo9 (hE 0 (by decide))) rfl rfl ⟨Nat.le_of_ble_eq_true rfl, Nat.le_of_ble_eq_true rfl⟩ (Nat.le_of_ble_eq_true rfl) ⟨Nat.le_of_ble_eq_true rfl, Nat.le_of_ble_eq_true rfl⟩ ?_
  refine r_i2l dL_seen_16 ?_
  obtain ⟨N17, hN17, hf⟩ := lt_of hf
  refine m_lastc 0 dL_seen_17 ho2 (vpc rfl) rfl ?_
  rw [hN17]
  refine r_aload_n dL_seen_18 rfl ?_
  refine r_iload_n dL_seen_19 rfl ?_
  refine r_iincv (v := (((0 : Int32) + (1 : Int32)) + (1 : Int32))) dL_seen_20 rfl rfl (by decide) rfl ?_
  refine r_aload_n dL_seen_23 rfl ?_
  obtain ⟨v24, hc24, hf⟩ := bd_of hf
  rcases v24 with e24 | v24
  · exact (no_no hf).elim
  refine r_cVi (rest := [.int ((0 : Int32) + (1 : Int32)), .ref (G.2.2.1 + o2)]) (ct_X9_openRows hs hE hT0 hT1 hc24) dL_seen_24 wd_1246 zX9_openRows wd_1247 wd_1248 rfl  rfl rfl (fo9 (hE 0 (by decide))) rfl rfl ⟨Nat.le_of_ble_eq_true rfl, Nat.le_of_ble_eq_true rfl⟩ (Nat.le_of_ble_eq_true rfl) ⟨Nat.le_of_ble_eq_true rfl, Nat.le_of_ble_eq_true rfl⟩ ?_
  refine r_i2l dL_seen_27 ?_
  obtain ⟨h28, hf⟩ := gv_of hf
  obtain ⟨N28, hN28, hf⟩ := lt_of hf
  refine m_last dL_seen_28 ho2 h28 ?_
  rw [hN28]
  refine r_aload_n dL_seen_29 rfl ?_
  refine r_iload_n dL_seen_30 rfl ?_
  refine r_iincv (v := ((((0 : Int32) + (1 : Int32)) + (1 : Int32)) + (1 : Int32))) dL_seen_31 rfl rfl (by decide) rfl ?_
  refine r_aload_n dL_seen_34 rfl ?_
  refine r_iconst (v := (3 : Int32)) dL_seen_35 (by decide) ?_
  obtain ⟨v36, hc36, hf⟩ := bd_of hf
  rcases v36 with e36 | v36
  · exact (no_no hf).elim
  refine r_cVi (rest := [.int (((0 : Int32) + (1 : Int32)) + (1 : Int32)), .ref (G.2.2.1 + o2)]) (ct_X9_allEnergy hs hE hT0 hT1 hc36) dL_seen_36 wd_1175 zX9_allEnergy wd_1176 wd_1177 rfl  rfl rfl (fo9 (hE 0 (by decide))) rfl rfl ⟨Nat.le_of_ble_eq_true rfl, Nat.le_of_ble_eq_true rfl⟩ (Nat.le_of_ble_eq_true rfl) ⟨Nat.le_of_ble_eq_true rfl, Nat.le_of_ble_eq_true rfl⟩ ?_
  obtain ⟨h39, hf⟩ := gv_of hf
  obtain ⟨N39, hN39, hf⟩ := lt_of hf
  refine m_last dL_seen_39 ho2 h39 ?_
  rw [hN39]
  refine r_iconst (v := (0 : Int32)) dL_seen_40 (by decide) ?_
  refine r_istore dL_seen_41 (by decide) rfl ?_
  exact r_widen (k2 := 1) (n2 := 80) (Nat.le_of_ble_eq_true rfl) (Nat.le_of_ble_eq_true rfl) (r_mask [true, true, true, true, true] rfl ((cL_L_seen hs hE hT0 hT1 ho2 n).1 ((((0 : Int32) + (1 : Int32)) + (1 : Int32)) + (1 : Int32)) (0 : Int32) v36.2 N39 r hf))
