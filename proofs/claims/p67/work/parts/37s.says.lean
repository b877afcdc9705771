/-! says, up to load -/
def L_L_says (n : Nat) (T0 T1 : Nat) : Nat → Nat → Int32 → gI → gI → Option (Int32 × gI × gI)
  | 0, _, _, _, _ => none
  | j + 1, 0, x3, I, K => (if (K 154 2) ≤ x3 then L_L_says n T0 T1 j 1 (0 : Int32) I K else (if (((K 154 5) >>> (x3 &&& 31)) &&& (1 : Int32)) = 0 then L_L_says n T0 T1 j 0 (x3 + (1 : Int32)) I K else bd (F_L_say n T0 T1 I K (255339555188 : Int64)) (fun v105 => bd (F_L_part n T0 T1 v105.1 v105.2 x3) (fun v111 => bd (F_L_part n T0 T1 v111.1 v111.2 x3) (fun v117 => L_L_says n T0 T1 j 0 (x3 + (1 : Int32)) v117.1 v117.2)))))
  | j + 1, 1, x3, I, K => (if (K 154 6) ≤ x3 then bd (F_L_furniture n T0 T1 I K) (fun v152 => bd (F_L_said n T0 T1 v152.1 v152.2) (fun v158 => some (v158.1, v158.2.1, v158.2.2))) else bd (F_L_train n T0 T1 I K x3) (fun v140 => L_L_says n T0 T1 j 1 (x3 + (1 : Int32)) v140.1 v140.2))
  | _ + 1, _, _, _, _ => none
theorem L_L_says_e0 (n j : Nat) (T0 T1 : Nat) (x3 : Int32) (I : gI) (K : gI) : L_L_says n T0 T1 (j + 1) 0 x3 I K = (if (K 154 2) ≤ x3 then L_L_says n T0 T1 j 1 (0 : Int32) I K else (if (((K 154 5) >>> (x3 &&& 31)) &&& (1 : Int32)) = 0 then L_L_says n T0 T1 j 0 (x3 + (1 : Int32)) I K else bd (F_L_say n T0 T1 I K (255339555188 : Int64)) (fun v105 => bd (F_L_part n T0 T1 v105.1 v105.2 x3) (fun v111 => bd (F_L_part n T0 T1 v111.1 v111.2 x3) (fun v117 => L_L_says n T0 T1 j 0 (x3 + (1 : Int32)) v117.1 v117.2))))) := rfl
theorem L_L_says_e1 (n j : Nat) (T0 T1 : Nat) (x3 : Int32) (I : gI) (K : gI) : L_L_says n T0 T1 (j + 1) 1 x3 I K = (if (K 154 6) ≤ x3 then bd (F_L_furniture n T0 T1 I K) (fun v152 => bd (F_L_said n T0 T1 v152.1 v152.2) (fun v158 => some (v158.1, v158.2.1, v158.2.2))) else bd (F_L_train n T0 T1 I K x3) (fun v140 => L_L_says n T0 T1 j 1 (x3 + (1 : Int32)) v140.1 v140.2)) := rfl
set_option maxHeartbeats 4000000 in
set_option maxRecDepth 100000 in
theorem cL_L_says {G : gG} {lay : Nat → Nat × Nat} {T0 T1 : Nat} {Dd : Nat → Nat → UInt64} {J : gJ} {N : gJ} {sz n : Nat} {Qp : List Frame → Array Value → State → State → Prop} (hs : G.1.stackTraces = false) (hE : gLay lay) (hT0 : gTank lay T0) (hT1 : gTank lay T1) : ∀ j : Nat, (∀ (x3 : Int32) (I : gI) (K : gI) (r : Int32 × gI × gI), L_L_says n T0 T1 j 0 x3 I K = some r → gAt G mL_says Qp 161 [some (.ref (G.2.2.1 + 0)), some (.ref (G.2.2.1 + 153)), some (.ref (G.2.2.1 + 154)), none] [.int r.1, .ref (G.2.2.1 + 0)] (fO G (lay, T0, T1, Dd) r.2.1 J r.2.2 N) sz 0 0 → gAt G mL_says Qp 80 [some (.ref (G.2.2.1 + 0)), some (.ref (G.2.2.1 + 153)), some (.ref (G.2.2.1 + 154)), some (.int x3)] [] (fO G (lay, T0, T1, Dd) I J K N) sz 0 0) ∧ (∀ (x3 : Int32) (I : gI) (K : gI) (r : Int32 × gI × gI), L_L_says n T0 T1 j 1 x3 I K = some r → gAt G mL_says Qp 161 [some (.ref (G.2.2.1 + 0)), some (.ref (G.2.2.1 + 153)), some (.ref (G.2.2.1 + 154)), none] [.int r.1, .ref (G.2.2.1 + 0)] (fO G (lay, T0, T1, Dd) r.2.1 J r.2.2 N) sz 0 0 → gAt G mL_says Qp 128 [some (.ref (G.2.2.1 + 0)), some (.ref (G.2.2.1 + 153)), some (.ref (G.2.2.1 + 154)), some (.int x3)] [] (fO G (lay, T0, T1, Dd) I J K N) sz 0 0) := by
  intro j
  induction j with
  | zero => exact ⟨fun _ _ _ _ hf _ => (by cases hf), fun _ _ _ _ hf _ => (by cases hf)⟩
  | succ j ih =>
    refine ⟨?_, ?_⟩
    · intro x3 I K r hf kk
      rw [L_L_says_e0] at hf
      refine r_iload_n dL_says_80 rfl ?_
      refine r_aload_n dL_says_81 rfl ?_
      refine r_iconst (v := (2 : Int32)) dL_says_82 (by decide) ?_
      refine m_ialdc 2 dL_says_83 (hE 154 (by decide)) (vpc rfl) rfl ?_
      refine r_icmp_ge (tgt := 126) dL_says_84 (by decide) (fun c84 => ?_) (fun c84 => ?_)
      · replace hf := if_t hf c84
        refine r_iconst (v := (0 : Int32)) dL_says_126 (by decide) ?_
        refine r_istore_n dL_says_127 (by decide) rfl ?_
        exact r_widen (k2 := 0) (n2 := 0) (Nat.le_of_ble_eq_true rfl) (Nat.le_of_ble_eq_true rfl) (r_mask [true, true, true, true] rfl (ih.2 (0 : Int32) I K r hf kk))
      · replace hf := if_f hf c84
        refine r_aload_n dL_says_87 rfl ?_
        refine r_iconst (v := (5 : Int32)) dL_says_88 (by decide) ?_
        refine m_ialdc 5 dL_says_89 (hE 154 (by decide)) (vpc rfl) rfl ?_
        refine r_iload_n dL_says_90 rfl ?_
        refine r_ishr dL_says_91 ?_
        refine r_iconst (v := (1 : Int32)) dL_says_92 (by decide) ?_
        refine r_iand dL_says_93 ?_
        refine r_if_ne (tgt := 100) dL_says_94 (by decide) (fun c94 => ?_) (fun c94 => ?_)
        · replace hf := if_f hf c94
          refine r_aload_n dL_says_100 rfl ?_
          refine r_aload_n dL_says_101 rfl ?_
          refine r_ldc2 dL_says_102 wd_820 ?_
          obtain ⟨v105, hc105, hf⟩ := bd_of hf
          refine r_cSv (rest := []) (ct_L_say hs hE hT0 hT1 hc105) dL_says_105 wd_790 zL_say wd_791 rfl  rfl rfl ⟨Nat.le_of_ble_eq_true rfl, Nat.le_of_ble_eq_true rfl⟩ (Nat.le_of_ble_eq_true rfl) ⟨Nat.le_of_ble_eq_true rfl, Nat.le_of_ble_eq_true rfl⟩ ?_
          refine r_aload_n dL_says_108 rfl ?_
          refine r_aload_n dL_says_109 rfl ?_
          refine r_iload_n dL_says_110 rfl ?_
          obtain ⟨v111, hc111, hf⟩ := bd_of hf
          refine r_cSv (rest := []) (ct_L_part hs hE hT0 hT1 hc111) dL_says_111 wd_809 zL_part wd_810 rfl  rfl rfl ⟨Nat.le_of_ble_eq_true rfl, Nat.le_of_ble_eq_true rfl⟩ (Nat.le_of_ble_eq_true rfl) ⟨Nat.le_of_ble_eq_true rfl, Nat.le_of_ble_eq_true rfl⟩ ?_
          refine r_aload_n dL_says_114 rfl ?_
          refine r_aload_n dL_says_115 rfl ?_
          refine r_iload_n dL_says_116 rfl ?_
          obtain ⟨v117, hc117, hf⟩ := bd_of hf
          refine r_cSv (rest := []) (ct_L_part hs hE hT0 hT1 hc117) dL_says_117 wd_809 zL_part wd_810 rfl  rfl rfl ⟨Nat.le_of_ble_eq_true rfl, Nat.le_of_ble_eq_true rfl⟩ (Nat.le_of_ble_eq_true rfl) ⟨Nat.le_of_ble_eq_true rfl, Nat.le_of_ble_eq_true rfl⟩ ?_
          refine r_iincv (v := (x3 + (1 : Int32))) dL_says_120 rfl rfl (by decide) rfl ?_
          refine r_goto (tgt := 80) dL_says_123 (by decide) ?_
          exact r_widen (k2 := 0) (n2 := 0) (Nat.le_of_ble_eq_true rfl) (Nat.le_of_ble_eq_true rfl) (r_mask [true, true, true, true] rfl (ih.1 (x3 + (1 : Int32)) v117.1 v117.2 r hf kk))
        · replace hf := if_t hf c94
          refine r_goto (tgt := 120) dL_says_97 (by decide) ?_
          refine r_iincv (v := (x3 + (1 : Int32))) dL_says_120 rfl rfl (by decide) rfl ?_
          refine r_goto (tgt := 80) dL_says_123 (by decide) ?_
          exact r_widen (k2 := 0) (n2 := 0) (Nat.le_of_ble_eq_true rfl) (Nat.le_of_ble_eq_true rfl) (r_mask [true, true, true, true] rfl (ih.1 (x3 + (1 : Int32)) I K r hf kk))
    · intro x3 I K r hf kk
      rw [L_L_says_e1] at hf
      refine r_iload_n dL_says_128 rfl ?_
      refine r_aload_n dL_says_129 rfl ?_
      refine r_bipush (v := (6 : Int32)) dL_says_130 (by decide) ?_
      refine m_ialdc 6 dL_says_132 (hE 154 (by decide)) (vpc rfl) rfl ?_
      refine r_icmp_ge (tgt := 149) dL_says_133 (by decide) (fun c133 => ?_) (fun c133 => ?_)
      · replace hf := if_t hf c133
        refine r_aload_n dL_says_149 rfl ?_
        refine r_aload_n dL_says_150 rfl ?_
        refine r_aload_n dL_says_151 rfl ?_
        obtain ⟨v152, hc152, hf⟩ := bd_of hf
        refine r_cSv (rest := []) (ct_L_furniture hs hE hT0 hT1 hc152) dL_says_152 wd_832 zL_furniture wd_833 rfl  rfl rfl ⟨Nat.le_of_ble_eq_true rfl, Nat.le_of_ble_eq_true rfl⟩ (Nat.le_of_ble_eq_true rfl) ⟨Nat.le_of_ble_eq_true rfl, Nat.le_of_ble_eq_true rfl⟩ ?_
        refine r_aload_n dL_says_155 rfl ?_
        refine r_aload_n dL_says_156 rfl ?_
        refine r_aload_n dL_says_157 rfl ?_
        obtain ⟨v158, hc158, hf⟩ := bd_of hf
        refine r_cSi (rest := [.ref (G.2.2.1 + 0)]) (ct_L_said hs hE hT0 hT1 hc158) dL_says_158 wd_843 zL_said wd_844 rfl  rfl rfl ⟨Nat.le_of_ble_eq_true rfl, Nat.le_of_ble_eq_true rfl⟩ (Nat.le_of_ble_eq_true rfl) ⟨Nat.le_of_ble_eq_true rfl, Nat.le_of_ble_eq_true rfl⟩ ?_
        have hr := Option.some.inj hf
        subst hr
        exact r_widen (k2 := 0) (n2 := 0) (Nat.le_of_ble_eq_true rfl) (Nat.le_of_ble_eq_true rfl) (r_mask [true, true, true, false] rfl kk)
      · replace hf := if_f hf c133
        refine r_aload_n dL_says_136 rfl ?_
        refine r_aload_n dL_says_137 rfl ?_
        refine r_aload_n dL_says_138 rfl ?_
        refine r_iload_n dL_says_139 rfl ?_
        obtain ⟨v140, hc140, hf⟩ := bd_of hf
        refine r_cSv (rest := []) (ct_L_train hs hE hT0 hT1 hc140) dL_says_140 wd_821 zL_train wd_822 rfl  rfl rfl ⟨Nat.le_of_ble_eq_true rfl, Nat.le_of_ble_eq_true rfl⟩ (Nat.le_of_ble_eq_true rfl) ⟨Nat.le_of_ble_eq_true rfl, Nat.le_of_ble_eq_true rfl⟩ ?_
        refine r_iincv (v := (x3 + (1 : Int32))) dL_says_143 rfl rfl (by decide) rfl ?_
        refine r_goto (tgt := 128) dL_says_146 (by decide) ?_
        exact r_widen (k2 := 0) (n2 := 0) (Nat.le_of_ble_eq_true rfl) (Nat.le_of_ble_eq_true rfl) (r_mask [true, true, true, true] rfl (ih.2 (x3 + (1 : Int32)) v140.1 v140.2 r hf kk))
def F_L_says (n : Nat) (T0 T1 : Nat) (I : gI) (K : gI) : Option (Int32 × gI × gI) := bd (F_L_say n T0 T1 I K (8386105387525826916 : Int64)) (fun v5 => bd (F_L_say n T0 T1 v5.1 v5.2 (29800 : Int64)) (fun v13 => bd (F_L_part n T0 T1 v13.1 v13.2 (v13.2 154 1)) (fun v21 => bd (F_L_say n T0 T1 v21.1 v21.2 (9121984024111220 : Int64)) (fun v29 => bd (F_L_part n T0 T1 v29.1 v29.2 (v29.2 154 2)) (fun v37 => bd (F_L_say n T0 T1 v37.1 v37.2 (139156612197 : Int64)) (fun v45 => bd (F_L_part n T0 T1 v45.1 v45.2 (v45.2 154 3)) (fun v53 => (if (v53.2 154 4) < 0 then L_L_says n T0 T1 n 0 (0 : Int32) v53.1 v53.2 else bd (F_L_say n T0 T1 v53.1 v53.2 (139441826924 : Int64)) (fun v67 => bd (F_L_part n T0 T1 v67.1 v67.2 (v67.2 154 4)) (fun v75 => L_L_says n T0 T1 n 0 (0 : Int32) v75.1 v75.2))))))))))
set_option maxHeartbeats 4000000 in
set_option maxRecDepth 100000 in
theorem at_L_says {G : gG} {lay : Nat → Nat × Nat} {T0 T1 : Nat} {Dd : Nat → Nat → UInt64} {I : gI} {J : gJ} {K : gI} {N : gJ} {sz n : Nat} {Qp : List Frame → Array Value → State → State → Prop} (hs : G.1.stackTraces = false) (hE : gLay lay) (hT0 : gTank lay T0) (hT1 : gTank lay T1) {r : Int32 × gI × gI} (hf : F_L_says n T0 T1 I K = some r) (kk : gAt G mL_says Qp 161 [some (.ref (G.2.2.1 + 0)), some (.ref (G.2.2.1 + 153)), some (.ref (G.2.2.1 + 154)), none] [.int r.1, .ref (G.2.2.1 + 0)] (fO G (lay, T0, T1, Dd) r.2.1 J r.2.2 N) sz 0 0) : gAt G mL_says Qp 0 [some (.ref (G.2.2.1 + 0)), some (.ref (G.2.2.1 + 153)), some (.ref (G.2.2.1 + 154)), none] [] (fO G (lay, T0, T1, Dd) I J K N) sz 0 0 := by
  unfold F_L_says at hf
  refine r_aload_n dL_says_0 rfl ?_
  refine r_aload_n dL_says_1 rfl ?_
  refine r_ldc2 dL_says_2 wd_789 ?_
  obtain ⟨v5, hc5, hf⟩ := bd_of hf
  refine r_cSv (rest := []) (ct_L_say hs hE hT0 hT1 hc5) dL_says_5 wd_790 zL_say wd_791 rfl  rfl rfl ⟨Nat.le_of_ble_eq_true rfl, Nat.le_of_ble_eq_true rfl⟩ (Nat.le_of_ble_eq_true rfl) ⟨Nat.le_of_ble_eq_true rfl, Nat.le_of_ble_eq_true rfl⟩ ?_
  refine r_aload_n dL_says_8 rfl ?_
  refine r_aload_n dL_says_9 rfl ?_
  refine r_ldc2 dL_says_10 wd_808 ?_
  obtain ⟨v13, hc13, hf⟩ := bd_of hf
  refine r_cSv (rest := []) (ct_L_say hs hE hT0 hT1 hc13) dL_says_13 wd_790 zL_say wd_791 rfl  rfl rfl ⟨Nat.le_of_ble_eq_true rfl, Nat.le_of_ble_eq_true rfl⟩ (Nat.le_of_ble_eq_true rfl) ⟨Nat.le_of_ble_eq_true rfl, Nat.le_of_ble_eq_true rfl⟩ ?_
  refine r_aload_n dL_says_16 rfl ?_
  refine r_aload_n dL_says_17 rfl ?_
  refine r_aload_n dL_says_18 rfl ?_
  refine r_iconst (v := (1 : Int32)) dL_says_19 (by decide) ?_
  refine m_ialdc 1 dL_says_20 (hE 154 (by decide)) (vpc rfl) rfl ?_
  obtain ⟨v21, hc21, hf⟩ := bd_of hf
  refine r_cSv (rest := []) (ct_L_part hs hE hT0 hT1 hc21) dL_says_21 wd_809 zL_part wd_810 rfl  rfl rfl ⟨Nat.le_of_ble_eq_true rfl, Nat.le_of_ble_eq_true rfl⟩ (Nat.le_of_ble_eq_true rfl) ⟨Nat.le_of_ble_eq_true rfl, Nat.le_of_ble_eq_true rfl⟩ ?_
  refine r_aload_n dL_says_24 rfl ?_
  refine r_aload_n dL_says_25 rfl ?_
  refine r_ldc2 dL_says_26 wd_817 ?_
  obtain ⟨v29, hc29, hf⟩ := bd_of hf
  refine r_cSv (rest := []) (ct_L_say hs hE hT0 hT1 hc29) dL_says_29 wd_790 zL_say wd_791 rfl  rfl rfl ⟨Nat.le_of_ble_eq_true rfl, Nat.le_of_ble_eq_true rfl⟩ (Nat.le_of_ble_eq_true rfl) ⟨Nat.le_of_ble_eq_true rfl, Nat.le_of_ble_eq_true rfl⟩ ?_
  refine r_aload_n dL_says_32 rfl ?_
  refine r_aload_n dL_says_33 rfl ?_
  refine r_aload_n dL_says_34 rfl ?_
  refine r_iconst (v := (2 : Int32)) dL_says_35 (by decide) ?_
  refine m_ialdc 2 dL_says_36 (hE 154 (by decide)) (vpc rfl) rfl ?_
  obtain ⟨v37, hc37, hf⟩ := bd_of hf
  refine r_cSv (rest := []) (ct_L_part hs hE hT0 hT1 hc37) dL_says_37 wd_809 zL_part wd_810 rfl  rfl rfl ⟨Nat.le_of_ble_eq_true rfl, Nat.le_of_ble_eq_true rfl⟩ (Nat.le_of_ble_eq_true rfl) ⟨Nat.le_of_ble_eq_true rfl, Nat.le_of_ble_eq_true rfl⟩ ?_
  refine r_aload_n dL_says_40 rfl ?_
  refine r_aload_n dL_says_41 rfl ?_
  refine r_ldc2 dL_says_42 wd_818 ?_
  obtain ⟨v45, hc45, hf⟩ := bd_of hf
  refine r_cSv (rest := []) (ct_L_say hs hE hT0 hT1 hc45) dL_says_45 wd_790 zL_say wd_791 rfl  rfl rfl ⟨Nat.le_of_ble_eq_true rfl, Nat.le_of_ble_eq_true rfl⟩ (Nat.le_of_ble_eq_true rfl) ⟨Nat.le_of_ble_eq_true rfl, Nat.le_of_ble_eq_true rfl⟩ ?_
  refine r_aload_n dL_says_48 rfl ?_
  refine r_aload_n dL_says_49 rfl ?_
  refine r_aload_n dL_says_50 rfl ?_
  refine r_iconst (v := (3 : Int32)) dL_says_51 (by decide) ?_
  refine m_ialdc 3 dL_says_52 (hE 154 (by decide)) (vpc rfl) rfl ?_
  obtain ⟨v53, hc53, hf⟩ := bd_of hf
  refine r_cSv (rest := []) (ct_L_part hs hE hT0 hT1 hc53) dL_says_53 wd_809 zL_part wd_810 rfl  rfl rfl ⟨Nat.le_of_ble_eq_true rfl, Nat.le_of_ble_eq_true rfl⟩ (Nat.le_of_ble_eq_true rfl) ⟨Nat.le_of_ble_eq_true rfl, Nat.le_of_ble_eq_true rfl⟩ ?_
  refine r_aload_n dL_says_56 rfl ?_
  refine r_iconst (v := (4 : Int32)) dL_says_57 (by decide) ?_
  refine m_ialdc 4 dL_says_58 (hE 154 (by decide)) (vpc rfl) rfl ?_
  refine r_if_lt (tgt := 78) dL_says_59 (by decide) (fun c59 => ?_) (fun c59 => ?_)
  · replace hf := if_t hf c59
    refine r_iconst (v := (0 : Int32)) dL_says_78 (by decide) ?_
    refine r_istore_n dL_says_79 (by decide) rfl ?_
    exact r_widen (k2 := 0) (n2 := 0) (Nat.le_of_ble_eq_true rfl) (Nat.le_of_ble_eq_true rfl) (r_mask [true, true, true, true] rfl ((cL_L_says hs hE hT0 hT1 n).1 (0 : Int32) v53.1 v53.2 r hf kk))
  · replace hf := if_f hf c59
    refine r_aload_n dL_says_62 rfl ?_
    refine r_aload_n dL_says_63 rfl ?_
    refine r_ldc2 dL_says_64 wd_819 ?_
    obtain ⟨v67, hc67, hf⟩ := bd_of hf
    refine r_cSv (rest := []) (ct_L_say hs hE hT0 hT1 hc67) dL_says_67 wd_790 zL_say wd_791 rfl  rfl rfl ⟨Nat.le_of_ble_eq_true rfl, Nat.le_of_ble_eq_true rfl⟩ (Nat.le_of_ble_eq_true rfl) ⟨Nat.le_of_ble_eq_true rfl, Nat.le_of_ble_eq_true rfl⟩ ?_
    refine r_aload_n dL_says_70 rfl ?_
    refine r_aload_n dL_says_71 rfl ?_
    refine r_aload_n dL_says_72 rfl ?_
    refine r_iconst (v := (4 : Int32)) dL_says_73 (by decide) ?_
    refine m_ialdc 4 dL_says_74 (hE 154 (by decide)) (vpc rfl) rfl ?_
    obtain ⟨v75, hc75, hf⟩ := bd_of hf
    refine r_cSv (rest := []) (ct_L_part hs hE hT0 hT1 hc75) dL_says_75 wd_809 zL_part wd_810 rfl  rfl rfl ⟨Nat.le_of_ble_eq_true rfl, Nat.le_of_ble_eq_true rfl⟩ (Nat.le_of_ble_eq_true rfl) ⟨Nat.le_of_ble_eq_true rfl, Nat.le_of_ble_eq_true rfl⟩ ?_
    refine r_iconst (v := (0 : Int32)) dL_says_78 (by decide) ?_
    refine r_istore_n dL_says_79 (by decide) rfl ?_
    exact r_widen (k2 := 0) (n2 := 0) (Nat.le_of_ble_eq_true rfl) (Nat.le_of_ble_eq_true rfl) (r_mask [true, true, true, true] rfl ((cL_L_says hs hE hT0 hT1 n).1 (0 : Int32) v75.1 v75.2 r hf kk))
