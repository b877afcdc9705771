/-! THE LAW, piece by piece -/
def mL_law : gM := (x, code, 22, ret, room_1, [])
def F_lw1 (n : Nat) (zS : Nat) (S : Nat → Int32) (T0 T1 : Nat) (I : gI) (J : gJ) (K : gI) (N : gJ) (a4 : Int32) : Option (Int32 × Int32 × Int32 × Int32 × Int32 × Int32 × Int32 × gI × gJ × gI × gJ) := bd (F_L_cell n zS S ((7 : Int32) + a4)) (fun v49 => bd (F_L_isRight n T0 T1 I J K ((1 : Int32) + (v49 &&& (7 : Int32)))) (fun v67 => (if v67.1 = 0 then none else gd (¬ (K 154 6) = 0) (gd (¬ (K 154 1) = 0) (gd (¬ (K 154 2) = 0) (gd (¬ (K 154 2) = 0) (some (v49, ((1 : Int32) + (v49 &&& (7 : Int32))), (((v49 >>> ((3 : Int32) &&& 31)) &&& (3 : Int32)) - ((v49 >>> ((3 : Int32) &&& 31)) &&& (3 : Int32)) / (K 154 6) * (K 154 6)), (((v49 >>> ((5 : Int32) &&& 31)) &&& (7 : Int32)) - ((v49 >>> ((5 : Int32) &&& 31)) &&& (7 : Int32)) / (K 154 1) * (K 154 1)), (((v49 >>> ((8 : Int32) &&& 31)) &&& (7 : Int32)) - ((v49 >>> ((8 : Int32) &&& 31)) &&& (7 : Int32)) / (K 154 2) * (K 154 2)), (((v49 >>> ((11 : Int32) &&& 31)) &&& (7 : Int32)) - ((v49 >>> ((11 : Int32) &&& 31)) &&& (7 : Int32)) / (K 154 2) * (K 154 2)), ((v49 >>> ((14 : Int32) &&& 31)) &&& (127 : Int32)), v67.2.1, v67.2.2, K, N))))))))
set_option maxHeartbeats 4000000 in
set_option maxRecDepth 100000 in
theorem at_lw1 {G : gG} {lay : Nat → Nat × Nat} {T0 T1 : Nat} {Dd : Nat → Nat → UInt64} {I : gI} {J : gJ} {K : gI} {N : gJ} {sz n : Nat} {Qp : List Frame → Array Value → State → State → Prop} {kc nc : Nat} {zS : Nat} {S : Nat → Int32} {a4 : Int32} (hkc : kc ≤ 600086) (hnc : nc ≤ 7301442) (hs : G.1.stackTraces = false) (hE : gLay lay) (hS : gScr G zS S) (hT0 : gTank lay T0) (hT1 : gTank lay T1) {r : Int32 × Int32 × Int32 × Int32 × Int32 × Int32 × Int32 × gI × gJ × gI × gJ} (hf : F_lw1 n zS S T0 T1 I J K N a4 = some r) (kk : gAt G mL_law Qp 141 [some (.ref (gsA G)), some (.ref (G.2.2.1 + 0)), some (.ref (G.2.2.1 + 153)), some (.ref (G.2.2.1 + 154)), some (.int a4), some (.int r.1), some (.int r.2.1), some (.int r.2.2.1), some (.int r.2.2.2.1), some (.int r.2.2.2.2.1), some (.int r.2.2.2.2.2.1), some (.int r.2.2.2.2.2.2.1), none, none, none, none, none, none, none, none, none, none] [.ref (G.2.2.1 + 154), .ref (G.2.2.1 + 0)] (fO G (lay, T0, T1, Dd) r.2.2.2.2.2.2.2.1 r.2.2.2.2.2.2.2.2.1 r.2.2.2.2.2.2.2.2.2.1 r.2.2.2.2.2.2.2.2.2.2) sz kc nc) : gAt G mL_law Qp 43 [some (.ref (gsA G)), some (.ref (G.2.2.1 + 0)), some (.ref (G.2.2.1 + 153)), some (.ref (G.2.2.1 + 154)), some (.int a4), none, none, none, none, none, none, none, none, none, none, none, none, none, none, none, none, none] [] (fO G (lay, T0, T1, Dd) I J K N) sz kc nc := by
  unfold F_lw1 at hf
  refine r_aload_n dL_law_43 rfl ?_
  refine r_bipush (v := (7 : Int32)) dL_law_44 (by decide) ?_
  refine r_iload dL_law_46 rfl ?_
  refine r_iadd dL_law_48 ?_
  obtain ⟨v49, hc49, hf⟩ := bd_of hf
  refine r_cSi (rest := []) (ct_L_cell hs hE hS hc49) dL_law_49 wd_777 zL_cell wd_778 rfl  rfl rfl ⟨Nat.le_of_ble_eq_true rfl, Nat.le_of_ble_eq_true rfl⟩ (Nat.le_of_ble_eq_true rfl) ⟨hkc, hnc⟩ ?_
  refine r_istore dL_law_52 (by decide) rfl ?_
  refine r_iconst (v := (1 : Int32)) dL_law_54 (by decide) ?_
  refine r_iload dL_law_55 rfl ?_
  refine r_bipush (v := (7 : Int32)) dL_law_57 (by decide) ?_
  refine r_iand dL_law_59 ?_
  refine r_iadd dL_law_60 ?_
  refine r_istore dL_law_61 (by decide) rfl ?_
  refine r_aload_n dL_law_63 rfl ?_
  refine r_aload_n dL_law_64 rfl ?_
  refine r_iload dL_law_65 rfl ?_
  obtain ⟨v67, hc67, hf⟩ := bd_of hf
  refine r_cSi (rest := []) (ct_L_isRight hs hE hT0 hT1 hc67) dL_law_67 wd_1099 zL_isRight wd_1100 rfl  rfl rfl ⟨Nat.le_of_ble_eq_true rfl, Nat.le_of_ble_eq_true rfl⟩ (Nat.le_of_ble_eq_true rfl) ⟨hkc, hnc⟩ ?_
  refine r_if_ne (tgt := 75) dL_law_70 (by decide) (fun c70 => ?_) (fun c70 => ?_)
  · replace hf := if_f hf c70
    refine r_iload dL_law_75 rfl ?_
    refine r_iconst (v := (3 : Int32)) dL_law_77 (by decide) ?_
    refine r_ishr dL_law_78 ?_
    refine r_iconst (v := (3 : Int32)) dL_law_79 (by decide) ?_
    refine r_iand dL_law_80 ?_
    refine r_aload_n dL_law_81 rfl ?_
    refine r_bipush (v := (6 : Int32)) dL_law_82 (by decide) ?_
    refine m_ialdc 6 dL_law_84 (hE 154 (by decide)) (vpc rfl) rfl ?_
    obtain ⟨h85, hf⟩ := gd_of hf
    refine r_irem dL_law_85 h85 ?_
    refine r_istore dL_law_86 (by decide) rfl ?_
    refine r_iload dL_law_88 rfl ?_
    refine r_iconst (v := (5 : Int32)) dL_law_90 (by decide) ?_
    refine r_ishr dL_law_91 ?_
    refine r_bipush (v := (7 : Int32)) dL_law_92 (by decide) ?_
    refine r_iand dL_law_94 ?_
    refine r_aload_n dL_law_95 rfl ?_
    refine r_iconst (v := (1 : Int32)) dL_law_96 (by decide) ?_
    refine m_ialdc 1 dL_law_97 (hE 154 (by decide)) (vpc rfl) rfl ?_
    obtain ⟨h98, hf⟩ := gd_of hf
    refine r_irem dL_law_98 h98 ?_
    refine r_istore dL_law_99 (by decide) rfl ?_
    refine r_iload dL_law_101 rfl ?_
    refine r_bipush (v := (8 : Int32)) dL_law_103 (by decide) ?_
    refine r_ishr dL_law_105 ?_
    refine r_bipush (v := (7 : Int32)) dL_law_106 (by decide) ?_
    refine r_iand dL_law_108 ?_
    refine r_aload_n dL_law_109 rfl ?_
    refine r_iconst (v := (2 : Int32)) dL_law_110 (by decide) ?_
    refine m_ialdc 2 dL_law_111 (hE 154 (by decide)) (vpc rfl) rfl ?_
    obtain ⟨h112, hf⟩ := gd_of hf
    refine r_irem dL_law_112 h112 ?_
    refine r_istore dL_law_113 (by decide) rfl ?_
    refine r_iload dL_law_115 rfl ?_
    refine r_bipush (v := (11 : Int32)) dL_law_117 (by decide) ?_
    refine r_ishr dL_law_119 ?_
    refine r_bipush (v := (7 : Int32)) dL_law_120 (by decide) ?_
    refine r_iand dL_law_122 ?_
    refine r_aload_n dL_law_123 rfl ?_
    refine r_iconst (v := (2 : Int32)) dL_law_124 (by decide) ?_
    refine m_ialdc 2 dL_law_125 (hE 154 (by decide)) (vpc rfl) rfl ?_
    obtain ⟨h126, hf⟩ := gd_of hf
    refine r_irem dL_law_126 h126 ?_
    refine r_istore dL_law_127 (by decide) rfl ?_
    refine r_iload dL_law_129 rfl ?_
    refine r_bipush (v := (14 : Int32)) dL_law_131 (by decide) ?_
    refine r_ishr dL_law_133 ?_
    refine r_bipush (v := (127 : Int32)) dL_law_134 (by decide) ?_
    refine r_iand dL_law_136 ?_
    refine r_istore dL_law_137 (by decide) rfl ?_
    refine r_aload_n dL_law_139 rfl ?_
    refine r_aload_n dL_law_140 rfl ?_
    have hr := Option.some.inj hf
    subst hr
    exact r_widen (k2 := kc) (n2 := nc) (Nat.le_refl _) (Nat.le_refl _) (r_mask [true, true, true, true, true, true, true, true, true, true, true, true, false, false, false, false, false, false, false, false, false, false] rfl kk)
  · replace hf := if_t hf c70
    refine r_iconst (v := (0 : Int32)) dL_law_73 (by decide) ?_
    exact (no_no hf).elim
def F_lw2 (n : Nat) (zS : Nat) (S : Nat → Int32) (T0 T1 q12 : Nat) (I : gI) (J : gJ) (K : gI) (N : gJ) (a4 : Int32) (a5 : Int32) (a6 : Int32) (a7 : Int32) (a8 : Int32) (a9 : Int32) (a10 : Int32) (a11 : Int32) : Option (Int32 × Int32 × Int64 × Int32 × gI × gJ × gI × gJ) := bd (F_X9_nodesIfOff n T0 T1 I a7 a6 a11) (fun v153 => sm v153 (fun _ => none) (fun v153 => bd (F_X9_bestPhase n T0 T1 v153.2 a7 a8 a9 a6) (fun v167 => sm v167 (fun _ => none) (fun v167 => bd (F_X9_energyIfTurned n T0 T1 v167.2 a8 a9 a10 a6) (fun v181 => sm v181 (fun _ => none) (fun v181 => bd (F_X9_bestRow n T0 T1 v181.2 a8 a9 a6) (fun v193 => sm v193 (fun _ => none) (fun v193 => some (v153.1, v167.1, v181.1, v193.1, v193.2, J, K, N)))))))))
set_option maxHeartbeats 4000000 in
set_option maxRecDepth 100000 in
theorem at_lw2 {G : gG} {lay : Nat → Nat × Nat} {T0 T1 : Nat} {Dd : Nat → Nat → UInt64} {I : gI} {J : gJ} {K : gI} {N : gJ} {sz n : Nat} {Qp : List Frame → Array Value → State → State → Prop} {kc nc : Nat} {zS : Nat} {S : Nat → Int32} {q12 : Nat} {a4 : Int32} {a5 : Int32} {a6 : Int32} {a7 : Int32} {a8 : Int32} {a9 : Int32} {a10 : Int32} {a11 : Int32} (hkc : kc ≤ 600086) (hnc : nc ≤ 7301442) (hs : G.1.stackTraces = false) (hE : gLay lay) (hS : gScr G zS S) (hT0 : gTank lay T0) (hT1 : gTank lay T1) (hq12 : lay q12 = (203, 80)) {r : Int32 × Int32 × Int64 × Int32 × gI × gJ × gI × gJ} (hf : F_lw2 n zS S T0 T1 q12 I J K N a4 a5 a6 a7 a8 a9 a10 a11 = some r) (kk : gAt G mL_law Qp 202 [some (.ref (gsA G)), some (.ref (G.2.2.1 + 0)), some (.ref (G.2.2.1 + 153)), some (.ref (G.2.2.1 + 154)), some (.int a4), some (.int a5), some (.int a6), some (.int a7), some (.int a8), some (.int a9), some (.int a10), some (.int a11), some (.ref (G.2.2.1 + q12)), some (.int r.1), some (.int r.2.1), some (.long r.2.2.1), none, some (.int r.2.2.2.1), none, none, none, none] [.ref (G.2.2.1 + 154), .ref (G.2.2.1 + 0), .ref (G.2.2.1 + q12)] (fO G (lay, T0, T1, Dd) r.2.2.2.2.1 r.2.2.2.2.2.1 r.2.2.2.2.2.2.1 r.2.2.2.2.2.2.2) sz kc nc) : gAt G mL_law Qp 146 [some (.ref (gsA G)), some (.ref (G.2.2.1 + 0)), some (.ref (G.2.2.1 + 153)), some (.ref (G.2.2.1 + 154)), some (.int a4), some (.int a5), some (.int a6), some (.int a7), some (.int a8), some (.int a9), some (.int a10), some (.int a11), some (.ref (G.2.2.1 + q12)), none, none, none, none, none, none, none, none, none] [] (fO G (lay, T0, T1, Dd) I J K N) sz kc nc := by
  unfold F_lw2 at hf
  refine r_aload_n dL_law_146 rfl ?_
  refine r_iload dL_law_147 rfl ?_
  refine r_iload dL_law_149 rfl ?_
  refine r_iload dL_law_151 rfl ?_
  obtain ⟨v153, hc153, hf⟩ := bd_of hf
  rcases v153 with e153 | v153
  · exact (no_no hf).elim
  refine r_cVi (rest := []) (ct_X9_nodesIfOff hs hE hT0 hT1 hc153) dL_law_153 wd_684 zX9_nodesIfOff wd_685 wd_686 rfl  rfl rfl (fo9 (hE 0 (by decide))) rfl rfl ⟨Nat.le_of_ble_eq_true rfl, Nat.le_of_ble_eq_true rfl⟩ (Nat.le_of_ble_eq_true rfl) ⟨hkc, hnc⟩ ?_
  refine r_istore dL_law_156 (by decide) rfl ?_
  refine r_aload_n dL_law_158 rfl ?_
  refine r_iload dL_law_159 rfl ?_
  refine r_iload dL_law_161 rfl ?_
  refine r_iload dL_law_163 rfl ?_
  refine r_iload dL_law_165 rfl ?_
  obtain ⟨v167, hc167, hf⟩ := bd_of hf
  rcases v167 with e167 | v167
  · exact (no_no hf).elim
  refine r_cVi (rest := []) (ct_X9_bestPhase hs hE hT0 hT1 hc167) dL_law_167 wd_692 zX9_bestPhase wd_693 wd_694 rfl  rfl rfl (fo9 (hE 0 (by decide))) rfl rfl ⟨Nat.le_of_ble_eq_true rfl, Nat.le_of_ble_eq_true rfl⟩ (Nat.le_of_ble_eq_true rfl) ⟨hkc, hnc⟩ ?_
  refine r_istore dL_law_170 (by decide) rfl ?_
  refine r_aload_n dL_law_172 rfl ?_
  refine r_iload dL_law_173 rfl ?_
  refine r_iload dL_law_175 rfl ?_
  refine r_iload dL_law_177 rfl ?_
  refine r_iload dL_law_179 rfl ?_
  obtain ⟨v181, hc181, hf⟩ := bd_of hf
  rcases v181 with e181 | v181
  · exact (no_no hf).elim
  refine r_cVi (rest := []) (ct_X9_energyIfTurned hs hE hT0 hT1 hc181) dL_law_181 wd_696 zX9_energyIfTurned wd_697 wd_698 rfl  rfl rfl (fo9 (hE 0 (by decide))) rfl rfl ⟨Nat.le_of_ble_eq_true rfl, Nat.le_of_ble_eq_true rfl⟩ (Nat.le_of_ble_eq_true rfl) ⟨hkc, hnc⟩ ?_
  refine r_lstore dL_law_184 (by decide) rfl ?_
  refine r_aload_n dL_law_186 rfl ?_
  refine r_iload dL_law_187 rfl ?_
  refine r_iload dL_law_189 rfl ?_
  refine r_iload dL_law_191 rfl ?_
  obtain ⟨v193, hc193, hf⟩ := bd_of hf
  rcases v193 with e193 | v193
  · exact (no_no hf).elim
  refine r_cVi (rest := []) (ct_X9_bestRow hs hE hT0 hT1 hc193) dL_law_193 wd_709 zX9_bestRow wd_710 wd_711 rfl  rfl rfl (fo9 (hE 0 (by decide))) rfl rfl ⟨Nat.le_of_ble_eq_true rfl, Nat.le_of_ble_eq_true rfl⟩ (Nat.le_of_ble_eq_true rfl) ⟨hkc, hnc⟩ ?_
  refine r_istore dL_law_196 (by decide) rfl ?_
  refine r_aload dL_law_198 rfl ?_
  refine r_aload_n dL_law_200 rfl ?_
  refine r_aload_n dL_law_201 rfl ?_
  have hr := Option.some.inj hf
  subst hr
  exact r_widen (k2 := kc) (n2 := nc) (Nat.le_refl _) (Nat.le_refl _) (r_mask [true, true, true, true, true, true, true, true, true, true, true, true, true, true, true, true, false, true, false, false, false, false] rfl kk)
def F_lw3 (n : Nat) (zS : Nat) (S : Nat → Int32) (T0 T1 q12 : Nat) (I : gI) (J : gJ) (K : gI) (N : gJ) (a4 : Int32) (a5 : Int32) (a6 : Int32) (a7 : Int32) (a8 : Int32) (a9 : Int32) (a10 : Int32) (a11 : Int32) (a13 : Int32) (a14 : Int32) (a17 : Int32) (a15 : Int64) : Option (gI × gJ × gI × gJ) := bd (F_X9_setOn n T0 T1 I a7 (0 : Int32)) (fun v217 => sm v217 (fun _ => none) (fun v217 => bd (F_X9_nodes n T0 T1 v217.2 a6 a11) (fun v227 => sm v227 (fun _ => none) (fun v227 => (if v227 = a13 then bd (F_X9_part n T0 T1 v217.2 a7 a8 a9) (fun v242 => sm v242 (fun _ => none) (fun v242 => (if v242 = 0 then bd (F_X9_undo n T0 T1 v217.2) (fun v249 => sm v249 (fun _ => none) (fun v249 => (if v249.1 < 0 then none else bd (F_X9_isOn n T0 T1 v249.2 a7) (fun v258 => sm v258 (fun _ => none) (fun v258 => (if v258 = v217.1 then bd (F_L_isBest n T0 T1 v249.2 a7 a8 a9 a6 a14) (fun v279 => (if v279.1 = 0 then none else (if 0 ≤ (K 154 4) then bd (F_X9_turnRow n T0 T1 v279.2 a10) (fun v314 => sm v314 (fun _ => none) (fun v314 => bd (F_X9_isOpen n T0 T1 v314.2 a10) (fun v320 => sm v320 (fun _ => none) (fun v320 => (if v314.1 = v320 then bd (F_X9_energy n T0 T1 v314.2 a8 a9 a6) (fun v333 => sm v333 (fun _ => none) (fun v333 => (if (lg_cmp v333 a15) = 0 then bd (F_X9_undo n T0 T1 v314.2) (fun v343 => sm v343 (fun _ => none) (fun v343 => (if v343.1 < 0 then none else bd (F_X9_energyIfTurned n T0 T1 v343.2 a8 a9 a17 a6) (fun v358 => sm v358 (fun _ => none) (fun v358 => (if 0 ≤ (lg_cmp v358.1 a15) then some (v358.2, J, K, N) else none)))))) else none))) else none))))) else (if (lg_cmp a15 (-1 : Int64)) = 0 then (if a17 = (-1 : Int32) then some (v279.2, J, K, N) else none) else none)))) else none)))))) else none))) else none)))))
set_option maxHeartbeats 4000000 in
set_option maxRecDepth 100000 in
theorem at_lw3 {G : gG} {lay : Nat → Nat × Nat} {T0 T1 : Nat} {Dd : Nat → Nat → UInt64} {I : gI} {J : gJ} {K : gI} {N : gJ} {sz n : Nat} {Qp : List Frame → Array Value → State → State → Prop} {kc nc : Nat} {zS : Nat} {S : Nat → Int32} {q12 : Nat} {a4 : Int32} {a5 : Int32} {a6 : Int32} {a7 : Int32} {a8 : Int32} {a9 : Int32} {a10 : Int32} {a11 : Int32} {a13 : Int32} {a14 : Int32} {a17 : Int32} {a15 : Int64} (hkc : kc ≤ 600086) (hnc : nc ≤ 7301442) (hs : G.1.stackTraces = false) (hE : gLay lay) (hS : gScr G zS S) (hT0 : gTank lay T0) (hT1 : gTank lay T1) (hq12 : lay q12 = (203, 80)) {r : gI × gJ × gI × gJ} (hf : F_lw3 n zS S T0 T1 q12 I J K N a4 a5 a6 a7 a8 a9 a10 a11 a13 a14 a17 a15 = some r) (kk : gAt G mL_law Qp 373 [some (.ref (gsA G)), some (.ref (G.2.2.1 + 0)), some (.ref (G.2.2.1 + 153)), some (.ref (G.2.2.1 + 154)), some (.int a4), some (.int a5), some (.int a6), some (.int a7), some (.int a8), some (.int a9), some (.int a10), some (.int a11), some (.ref (G.2.2.1 + q12)), some (.int a13), some (.int a14), some (.long a15), none, some (.int a17), none, none, none, none] [.ref (G.2.2.1 + 154), .ref (G.2.2.1 + 0), .ref (G.2.2.1 + q12)] (fO G (lay, T0, T1, Dd) r.1 r.2.1 r.2.2.1 r.2.2.2) sz kc nc) : gAt G mL_law Qp 213 [some (.ref (gsA G)), some (.ref (G.2.2.1 + 0)), some (.ref (G.2.2.1 + 153)), some (.ref (G.2.2.1 + 154)), some (.int a4), some (.int a5), some (.int a6), some (.int a7), some (.int a8), some (.int a9), some (.int a10), some (.int a11), some (.ref (G.2.2.1 + q12)), some (.int a13), some (.int a14), some (.long a15), none, some (.int a17), none, none, none, none] [] (fO G (lay, T0, T1, Dd) I J K N) sz kc nc := by
  unfold F_lw3 at hf
  refine r_aload_n dL_law_213 rfl ?_
  refine r_iload dL_law_214 rfl ?_
  refine r_iconst (v := (0 : Int32)) dL_law_216 (by decide) ?_
  obtain ⟨v217, hc217, hf⟩ := bd_of hf
  rcases v217 with e217 | v217
  · exact (no_no hf).elim
  refine r_cVi (rest := []) (ct_X9_setOn hs hE hT0 hT1 hc217) dL_law_217 wd_722 zX9_setOn wd_723 wd_724 rfl  rfl rfl (fo9 (hE 0 (by decide))) rfl rfl ⟨Nat.le_of_ble_eq_true rfl, Nat.le_of_ble_eq_true rfl⟩ (Nat.le_of_ble_eq_true rfl) ⟨hkc, hnc⟩ ?_
  refine r_istore dL_law_220 (by decide) rfl ?_
  refine r_aload_n dL_law_222 rfl ?_
  refine r_iload dL_law_223 rfl ?_
  refine r_iload dL_law_225 rfl ?_
  obtain ⟨v227, hc227, hf⟩ := bd_of hf
  rcases v227 with e227 | v227
  · exact (no_no hf).elim
  refine r_cVi (rest := []) (ct_X9_nodes hs hE hT0 hT1 hc227) dL_law_227 wd_656 zX9_nodes wd_657 wd_658 rfl  rfl rfl (fo9 (hE 0 (by decide))) rfl rfl ⟨Nat.le_of_ble_eq_true rfl, Nat.le_of_ble_eq_true rfl⟩ (Nat.le_of_ble_eq_true rfl) ⟨hkc, hnc⟩ ?_
  refine r_iload dL_law_230 rfl ?_
  refine r_icmp_ne (tgt := 266) dL_law_232 (by decide) (fun c232 => ?_) (fun c232 => ?_)
  · replace hf := if_f hf c232
    refine r_iconst (v := (0 : Int32)) dL_law_266 (by decide) ?_
    exact (no_no hf).elim
  · replace hf := if_t hf c232
    refine r_aload_n dL_law_235 rfl ?_
    refine r_iload dL_law_236 rfl ?_
    refine r_iload dL_law_238 rfl ?_
    refine r_iload dL_law_240 rfl ?_
    obtain ⟨v242, hc242, hf⟩ := bd_of hf
    rcases v242 with e242 | v242
    · exact (no_no hf).elim
    refine r_cVi (rest := []) (ct_X9_part hs hE hT0 hT1 hc242) dL_law_242 wd_558 zX9_part wd_559 wd_560 rfl  rfl rfl (fo9 (hE 0 (by decide))) rfl rfl ⟨Nat.le_of_ble_eq_true rfl, Nat.le_of_ble_eq_true rfl⟩ (Nat.le_of_ble_eq_true rfl) ⟨hkc, hnc⟩ ?_
    refine r_if_ne (tgt := 266) dL_law_245 (by decide) (fun c245 => ?_) (fun c245 => ?_)
    · replace hf := if_f hf c245
      refine r_iconst (v := (0 : Int32)) dL_law_266 (by decide) ?_
      exact (no_no hf).elim
    · replace hf := if_t hf c245
      refine r_aload_n dL_law_248 rfl ?_
      obtain ⟨v249, hc249, hf⟩ := bd_of hf
      rcases v249 with e249 | v249
      · exact (no_no hf).elim
      refine r_cVi (rest := []) (ct_X9_undo hs hE hT0 hT1 hc249) dL_law_249 wd_747 zX9_undo wd_748 wd_749 rfl  rfl rfl (fo9 (hE 0 (by decide))) rfl rfl ⟨Nat.le_of_ble_eq_true rfl, Nat.le_of_ble_eq_true rfl⟩ (Nat.le_of_ble_eq_true rfl) ⟨hkc, hnc⟩ ?_
      refine r_if_lt (tgt := 266) dL_law_252 (by decide) (fun c252 => ?_) (fun c252 => ?_)
      · replace hf := if_t hf c252
        refine r_iconst (v := (0 : Int32)) dL_law_266 (by decide) ?_
        exact (no_no hf).elim
      · replace hf := if_f hf c252
        refine r_aload_n dL_law_255 rfl ?_
        refine r_iload dL_law_256 rfl ?_
        obtain ⟨v258, hc258, hf⟩ := bd_of hf
        rcases v258 with e258 | v258
        · exact (no_no hf).elim
        refine r_cVi (rest := []) (ct_X9_isOn hs hE hT0 hT1 hc258) dL_law_258 wd_554 zX9_isOn wd_555 wd_556 rfl  rfl rfl (fo9 (hE 0 (by decide))) rfl rfl ⟨Nat.le_of_ble_eq_true rfl, Nat.le_of_ble_eq_true rfl⟩ (Nat.le_of_ble_eq_true rfl) ⟨hkc, hnc⟩ ?_
        refine r_iload dL_law_261 rfl ?_
        refine r_icmp_eq (tgt := 268) dL_law_263 (by decide) (fun c263 => ?_) (fun c263 => ?_)
        · replace hf := if_t hf c263
          refine r_aload_n dL_law_268 rfl ?_
          refine r_iload dL_law_269 rfl ?_
          refine r_iload dL_law_271 rfl ?_
          refine r_iload dL_law_273 rfl ?_
          refine r_iload dL_law_275 rfl ?_
          refine r_iload dL_law_277 rfl ?_
          obtain ⟨v279, hc279, hf⟩ := bd_of hf
          refine r_cSi (rest := []) (ct_L_isBest hs hE hT0 hT1 hc279) dL_law_279 wd_1092 zL_isBest wd_1093 rfl  rfl rfl ⟨Nat.le_of_ble_eq_true rfl, Nat.le_of_ble_eq_true rfl⟩ (Nat.le_of_ble_eq_true rfl) ⟨hkc, hnc⟩ ?_
          refine r_if_ne (tgt := 287) dL_law_282 (by decide) (fun c282 => ?_) (fun c282 => ?_)
          · replace hf := if_f hf c282
            refine r_aload_n dL_law_287 rfl ?_
            refine r_iconst (v := (4 : Int32)) dL_law_288 (by decide) ?_
            refine m_ialdc 4 dL_law_289 (hE 154 (by decide)) (vpc rfl) rfl ?_
            refine r_if_ge (tgt := 311) dL_law_290 (by decide) (fun c290 => ?_) (fun c290 => ?_)
            · replace hf := if_t hf c290
              refine r_aload_n dL_law_311 rfl ?_
              refine r_iload dL_law_312 rfl ?_
              obtain ⟨v314, hc314, hf⟩ := bd_of hf
              rcases v314 with e314 | v314
              · exact (no_no hf).elim
              refine r_cVi (rest := []) (ct_X9_turnRow hs hE hT0 hT1 hc314) dL_law_314 wd_742 zX9_turnRow wd_743 wd_744 rfl  rfl rfl (fo9 (hE 0 (by decide))) rfl rfl ⟨Nat.le_of_ble_eq_true rfl, Nat.le_of_ble_eq_true rfl⟩ (Nat.le_of_ble_eq_true rfl) ⟨hkc, hnc⟩ ?_
              refine r_aload_n dL_law_317 rfl ?_
              refine r_iload dL_law_318 rfl ?_
              obtain ⟨v320, hc320, hf⟩ := bd_of hf
              rcases v320 with e320 | v320
              · exact (no_no hf).elim
              refine r_cVi (rest := [.int v314.1]) (ct_X9_isOpen hs hE hT0 hT1 hc320) dL_law_320 wd_409 zX9_isOpen wd_410 wd_411 rfl  rfl rfl (fo9 (hE 0 (by decide))) rfl rfl ⟨Nat.le_of_ble_eq_true rfl, Nat.le_of_ble_eq_true rfl⟩ (Nat.le_of_ble_eq_true rfl) ⟨hkc, hnc⟩ ?_
              refine r_icmp_ne (tgt := 367) dL_law_323 (by decide) (fun c323 => ?_) (fun c323 => ?_)
              · replace hf := if_f hf c323
                refine r_iconst (v := (0 : Int32)) dL_law_367 (by decide) ?_
                exact (no_no hf).elim
              · replace hf := if_t hf c323
                refine r_aload_n dL_law_326 rfl ?_
                refine r_iload dL_law_327 rfl ?_
                refine r_iload dL_law_329 rfl ?_
                refine r_iload dL_law_331 rfl ?_
                obtain ⟨v333, hc333, hf⟩ := bd_of hf
                rcases v333 with e333 | v333
                · exact (no_no hf).elim
                refine r_cVi (rest := []) (ct_X9_energy hs hE hT0 hT1 hc333) dL_law_333 wd_676 zX9_energy wd_677 wd_678 rfl  rfl rfl (fo9 (hE 0 (by decide))) rfl rfl ⟨Nat.le_of_ble_eq_true rfl, Nat.le_of_ble_eq_true rfl⟩ (Nat.le_of_ble_eq_true rfl) ⟨hkc, hnc⟩ ?_
                refine r_lload dL_law_336 rfl ?_
                refine r_lcmp dL_law_338 ?_
                refine r_if_ne (tgt := 367) dL_law_339 (by decide) (fun c339 => ?_) (fun c339 => ?_)
                · replace hf := if_f hf c339
                  refine r_iconst (v := (0 : Int32)) dL_law_367 (by decide) ?_
                  exact (no_no hf).elim
                · replace hf := if_t hf c339
                  refine r_aload_n dL_law_342 rfl ?_
                  obtain ⟨v343, hc343, hf⟩ := bd_of hf
                  rcases v343 with e343 | v343
                  · exact (no_no hf).elim
                  refine r_cVi (rest := []) (ct_X9_undo hs hE hT0 hT1 hc343) dL_law_343 wd_747 zX9_undo wd_748 wd_749 rfl  rfl rfl (fo9 (hE 0 (by decide))) rfl rfl ⟨Nat.le_of_ble_eq_true rfl, Nat.le_of_ble_eq_true rfl⟩ (Nat.le_of_ble_eq_true rfl) ⟨hkc, hnc⟩ ?_
                  refine r_if_lt (tgt := 367) dL_law_346 (by decide) (fun c346 => ?_) (fun c346 => ?_)
                  · replace hf := if_t hf c346
                    refine r_iconst (v := (0 : Int32)) dL_law_367 (by decide) ?_
                    exact (no_no hf).elim
                  · replace hf := if_f hf c346
                    refine r_aload_n dL_law_349 rfl ?_
                    refine r_iload dL_law_350 rfl ?_
                    refine r_iload dL_law_352 rfl ?_
                    refine r_iload dL_law_354 rfl ?_
                    refine r_iload dL_law_356 rfl ?_
                    obtain ⟨v358, hc358, hf⟩ := bd_of hf
                    rcases v358 with e358 | v358
                    · exact (no_no hf).elim
                    refine r_cVi (rest := []) (ct_X9_energyIfTurned hs hE hT0 hT1 hc358) dL_law_358 wd_696 zX9_energyIfTurned wd_697 wd_698 rfl  rfl rfl (fo9 (hE 0 (by decide))) rfl rfl ⟨Nat.le_of_ble_eq_true rfl, Nat.le_of_ble_eq_true rfl⟩ (Nat.le_of_ble_eq_true rfl) ⟨hkc, hnc⟩ ?_
                    refine r_lload dL_law_361 rfl ?_
                    refine r_lcmp dL_law_363 ?_
                    refine r_if_ge (tgt := 369) dL_law_364 (by decide) (fun c364 => ?_) (fun c364 => ?_)
                    · replace hf := if_t hf c364
                      refine r_aload dL_law_369 rfl ?_
                      refine r_aload_n dL_law_371 rfl ?_
                      refine r_aload_n dL_law_372 rfl ?_
                      have hr := Option.some.inj hf
                      subst hr
                      exact r_widen (k2 := kc) (n2 := nc) (Nat.le_refl _) (Nat.le_refl _) (r_mask [true, true, true, true, true, true, true, true, true, true, true, true, true, true, true, true, false, true, false, false, false, false] rfl kk)
                    · replace hf := if_f hf c364
                      refine r_iconst (v := (0 : Int32)) dL_law_367 (by decide) ?_
                      exact (no_no hf).elim
            · replace hf := if_f hf c290
              refine r_lload dL_law_293 rfl ?_
              refine r_ldc2 dL_law_295 wd_1355 ?_
              refine r_lcmp dL_law_298 ?_
              refine r_if_ne (tgt := 367) dL_law_299 (by decide) (fun c299 => ?_) (fun c299 => ?_)
              · replace hf := if_f hf c299
                refine r_iconst (v := (0 : Int32)) dL_law_367 (by decide) ?_
                exact (no_no hf).elim
              · replace hf := if_t hf c299
                refine r_iload dL_law_302 rfl ?_
                refine r_iconst (v := (-1 : Int32)) dL_law_304 (by decide) ?_
                refine r_icmp_eq (tgt := 369) dL_law_305 (by decide) (fun c305 => ?_) (fun c305 => ?_)
                · replace hf := if_t hf c305
                  refine r_aload dL_law_369 rfl ?_
                  refine r_aload_n dL_law_371 rfl ?_
                  refine r_aload_n dL_law_372 rfl ?_
                  have hr := Option.some.inj hf
                  subst hr
                  exact r_widen (k2 := kc) (n2 := nc) (Nat.le_refl _) (Nat.le_refl _) (r_mask [true, true, true, true, true, true, true, true, true, true, true, true, true, true, true, true, false, true, false, false, false, false] rfl kk)
                · replace hf := if_f hf c305
                  refine r_goto (tgt := 367) dL_law_308 (by decide) ?_
                  refine r_iconst (v := (0 : Int32)) dL_law_367 (by decide) ?_
                  exact (no_no hf).elim
          · replace hf := if_t hf c282
            refine r_iconst (v := (0 : Int32)) dL_law_285 (by decide) ?_
            exact (no_no hf).elim
        · replace hf := if_f hf c263
          refine r_iconst (v := (0 : Int32)) dL_law_266 (by decide) ?_
          exact (no_no hf).elim
def F_lw4 (n : Nat) (zS : Nat) (S : Nat → Int32) (T0 T1 q12 : Nat) (I : gI) (J : gJ) (K : gI) (N : gJ) (a4 : Int32) (a5 : Int32) (a6 : Int32) (a7 : Int32) (a8 : Int32) (a9 : Int32) (a10 : Int32) (a11 : Int32) : Option (Int32 × Int32 × gI × gJ × gI × gJ) := bd (F_X9_save n T0 T1 I ((a5 >>> ((21 : Int32) &&& 31)) &&& (1 : Int32))) (fun v396 => sm v396 (fun _ => none) (fun v396 => bd (F_X9_time n T0 T1 v396.2) (fun v400 => (if v396.1 = v400 then bd (F_X9_time n T0 T1 v396.2) (fun v409 => bd (F_X9_waveAt n T0 T1 v396.2 a8 a9 (v409 + a6)) (fun v424 => sm v424 (fun _ => none) (fun v424 => bd (F_X9_advance n T0 T1 v396.2 a6) (fun v432 => sm v432 (fun _ => none) (fun v432 => (if v432.1 = (v409 + a6) then bd (F_X9_wave n T0 T1 v432.2 a8 a9) (fun v448 => sm v448 (fun _ => none) (fun v448 => (if v448 = v424 then some (((a5 >>> ((21 : Int32) &&& 31)) &&& (1 : Int32)), v409, v432.2, J, K, N) else none))) else none)))))) else none))))
set_option maxHeartbeats 4000000 in
set_option maxRecDepth 100000 in
theorem at_lw4 {G : gG} {lay : Nat → Nat × Nat} {T0 T1 : Nat} {Dd : Nat → Nat → UInt64} {I : gI} {J : gJ} {K : gI} {N : gJ} {sz n : Nat} {Qp : List Frame → Array Value → State → State → Prop} {kc nc : Nat} {zS : Nat} {S : Nat → Int32} {q12 : Nat} {a4 : Int32} {a5 : Int32} {a6 : Int32} {a7 : Int32} {a8 : Int32} {a9 : Int32} {a10 : Int32} {a11 : Int32} (hkc : kc ≤ 600086) (hnc : nc ≤ 7301442) (hs : G.1.stackTraces = false) (hE : gLay lay) (hS : gScr G zS S) (hT0 : gTank lay T0) (hT1 : gTank lay T1) (hq12 : lay q12 = (203, 80)) {r : Int32 × Int32 × gI × gJ × gI × gJ} (hf : F_lw4 n zS S T0 T1 q12 I J K N a4 a5 a6 a7 a8 a9 a10 a11 = some r) (kk : gAt G mL_law Qp 458 [some (.ref (gsA G)), some (.ref (G.2.2.1 + 0)), some (.ref (G.2.2.1 + 153)), some (.ref (G.2.2.1 + 154)), some (.int a4), some (.int a5), some (.int a6), some (.int a7), some (.int a8), some (.int a9), some (.int a10), some (.int a11), some (.ref (G.2.2.1 + q12)), none, none, none, none, none, none, some (.int r.1), some (.int r.2.1), none] [] (fO G (lay, T0, T1, Dd) r.2.2.1 r.2.2.2.1 r.2.2.2.2.1 r.2.2.2.2.2) sz kc nc) : gAt G mL_law Qp 384 [some (.ref (gsA G)), some (.ref (G.2.2.1 + 0)), some (.ref (G.2.2.1 + 153)), some (.ref (G.2.2.1 + 154)), some (.int a4), some (.int a5), some (.int a6), some (.int a7), some (.int a8), some (.int a9), some (.int a10), some (.int a11), some (.ref (G.2.2.1 + q12)), none, none, none, none, none, none, none, none, none] [] (fO G (lay, T0, T1, Dd) I J K N) sz kc nc := by
  unfold F_lw4 at hf
  refine r_iload dL_law_384 rfl ?_
  refine r_bipush (v := (21 : Int32)) dL_law_386 (by decide) ?_
  refine r_ishr dL_law_388 ?_
  refine r_iconst (v := (1 : Int32)) dL_law_389 (by decide) ?_
  refine r_iand dL_law_390 ?_
  refine r_istore dL_law_391 (by decide) rfl ?_
  refine r_aload_n dL_law_393 rfl ?_
  refine r_iload dL_law_394 rfl ?_
  obtain ⟨v396, hc396, hf⟩ := bd_of hf
  rcases v396 with e396 | v396
  · exact (no_no hf).elim
  refine r_cVi (rest := []) (ct_X9_save hs hE hT0 hT1 hc396) dL_law_396 wd_760 zX9_save wd_761 wd_762 rfl  rfl rfl (fo9 (hE 0 (by decide))) rfl rfl ⟨Nat.le_of_ble_eq_true rfl, Nat.le_of_ble_eq_true rfl⟩ (Nat.le_of_ble_eq_true rfl) ⟨hkc, hnc⟩ ?_
  refine r_aload_n dL_law_399 rfl ?_
  obtain ⟨v400, hc400, hf⟩ := bd_of hf
  refine r_cVi (rest := [.int v396.1]) (ct_X9_time hs hE hT0 hT1 hc400) dL_law_400 wd_405 zX9_time wd_406 wd_407 rfl  rfl rfl (fo9 (hE 0 (by decide))) rfl rfl ⟨Nat.le_of_ble_eq_true rfl, Nat.le_of_ble_eq_true rfl⟩ (Nat.le_of_ble_eq_true rfl) ⟨hkc, hnc⟩ ?_
  refine r_icmp_eq (tgt := 408) dL_law_403 (by decide) (fun c403 => ?_) (fun c403 => ?_)
  · replace hf := if_t hf c403
    refine r_aload_n dL_law_408 rfl ?_
    obtain ⟨v409, hc409, hf⟩ := bd_of hf
    refine r_cVi (rest := []) (ct_X9_time hs hE hT0 hT1 hc409) dL_law_409 wd_405 zX9_time wd_406 wd_407 rfl  rfl rfl (fo9 (hE 0 (by decide))) rfl rfl ⟨Nat.le_of_ble_eq_true rfl, Nat.le_of_ble_eq_true rfl⟩ (Nat.le_of_ble_eq_true rfl) ⟨hkc, hnc⟩ ?_
    refine r_istore dL_law_412 (by decide) rfl ?_
    refine r_aload_n dL_law_414 rfl ?_
    refine r_iload dL_law_415 rfl ?_
    refine r_iload dL_law_417 rfl ?_
    refine r_iload dL_law_419 rfl ?_
    refine r_iload dL_law_421 rfl ?_
    refine r_iadd dL_law_423 ?_
    obtain ⟨v424, hc424, hf⟩ := bd_of hf
    rcases v424 with e424 | v424
    · exact (no_no hf).elim
    refine r_cVi (rest := []) (ct_X9_waveAt hs hE hT0 hT1 hc424) dL_law_424 wd_652 zX9_waveAt wd_653 wd_654 rfl  rfl rfl (fo9 (hE 0 (by decide))) rfl rfl ⟨Nat.le_of_ble_eq_true rfl, Nat.le_of_ble_eq_true rfl⟩ (Nat.le_of_ble_eq_true rfl) ⟨hkc, hnc⟩ ?_
    refine r_istore dL_law_427 (by decide) rfl ?_
    refine r_aload_n dL_law_429 rfl ?_
    refine r_iload dL_law_430 rfl ?_
    obtain ⟨v432, hc432, hf⟩ := bd_of hf
    rcases v432 with e432 | v432
    · exact (no_no hf).elim
    refine r_cVi (rest := []) (ct_X9_advance hs hE hT0 hT1 hc432) dL_law_432 wd_713 zX9_advance wd_714 wd_715 rfl  rfl rfl (fo9 (hE 0 (by decide))) rfl rfl ⟨Nat.le_of_ble_eq_true rfl, Nat.le_of_ble_eq_true rfl⟩ (Nat.le_of_ble_eq_true rfl) ⟨hkc, hnc⟩ ?_
    refine r_iload dL_law_435 rfl ?_
    refine r_iload dL_law_437 rfl ?_
    refine r_iadd dL_law_439 ?_
    refine r_icmp_ne (tgt := 456) dL_law_440 (by decide) (fun c440 => ?_) (fun c440 => ?_)
    · replace hf := if_f hf c440
      refine r_iconst (v := (0 : Int32)) dL_law_456 (by decide) ?_
      exact (no_no hf).elim
    · replace hf := if_t hf c440
      refine r_aload_n dL_law_443 rfl ?_
      refine r_iload dL_law_444 rfl ?_
      refine r_iload dL_law_446 rfl ?_
      obtain ⟨v448, hc448, hf⟩ := bd_of hf
      rcases v448 with e448 | v448
      · exact (no_no hf).elim
      refine r_cVi (rest := []) (ct_X9_wave hs hE hT0 hT1 hc448) dL_law_448 wd_639 zX9_wave wd_640 wd_641 rfl  rfl rfl (fo9 (hE 0 (by decide))) rfl rfl ⟨Nat.le_of_ble_eq_true rfl, Nat.le_of_ble_eq_true rfl⟩ (Nat.le_of_ble_eq_true rfl) ⟨hkc, hnc⟩ ?_
      refine r_iload dL_law_451 rfl ?_
      refine r_icmp_eq (tgt := 458) dL_law_453 (by decide) (fun c453 => ?_) (fun c453 => ?_)
      · replace hf := if_t hf c453
        have hr := Option.some.inj hf
        subst hr
        exact r_widen (k2 := kc) (n2 := nc) (Nat.le_refl _) (Nat.le_refl _) (r_mask [true, true, true, true, true, true, true, true, true, true, true, true, true, false, false, false, false, false, false, true, true, false] rfl kk)
      · replace hf := if_f hf c453
        refine r_iconst (v := (0 : Int32)) dL_law_456 (by decide) ?_
        exact (no_no hf).elim
  · replace hf := if_f hf c403
    refine r_iconst (v := (0 : Int32)) dL_law_406 (by decide) ?_
    exact (no_no hf).elim
def F_lw5 (n : Nat) (zS : Nat) (S : Nat → Int32) (T0 T1 q12 : Nat) (I : gI) (J : gJ) (K : gI) (N : gJ) (a4 : Int32) (a5 : Int32) (a6 : Int32) (a7 : Int32) (a8 : Int32) (a9 : Int32) (a10 : Int32) (a11 : Int32) (a19 : Int32) (a20 : Int32) : Option (gI × gJ × gI × gJ) := bd (F_X9_restore n T0 T1 I a19) (fun v472 => sm v472 (fun _ => none) (fun v472 => (if v472.1 = a20 then bd (F_X9_undoable n T0 T1 v472.2) (fun v481 => (if v481 = 0 then some (v472.2, J, K, N) else none)) else none)))
set_option maxHeartbeats 4000000 in
set_option maxRecDepth 100000 in
theorem at_lw5 {G : gG} {lay : Nat → Nat × Nat} {T0 T1 : Nat} {Dd : Nat → Nat → UInt64} {I : gI} {J : gJ} {K : gI} {N : gJ} {sz n : Nat} {Qp : List Frame → Array Value → State → State → Prop} {kc nc : Nat} {zS : Nat} {S : Nat → Int32} {q12 : Nat} {a4 : Int32} {a5 : Int32} {a6 : Int32} {a7 : Int32} {a8 : Int32} {a9 : Int32} {a10 : Int32} {a11 : Int32} {a19 : Int32} {a20 : Int32} (hkc : kc ≤ 600086) (hnc : nc ≤ 7301442) (hs : G.1.stackTraces = false) (hE : gLay lay) (hS : gScr G zS S) (hT0 : gTank lay T0) (hT1 : gTank lay T1) (hq12 : lay q12 = (203, 80)) {r : gI × gJ × gI × gJ} (hf : F_lw5 n zS S T0 T1 q12 I J K N a4 a5 a6 a7 a8 a9 a10 a11 a19 a20 = some r) (kk : gAt G mL_law Qp 491 [some (.ref (gsA G)), some (.ref (G.2.2.1 + 0)), some (.ref (G.2.2.1 + 153)), some (.ref (G.2.2.1 + 154)), some (.int a4), some (.int a5), some (.int a6), some (.int a7), some (.int a8), some (.int a9), some (.int a10), some (.int a11), some (.ref (G.2.2.1 + q12)), none, none, none, none, none, none, some (.int a19), some (.int a20), none] [.ref (G.2.2.1 + 154), .ref (G.2.2.1 + 0), .ref (G.2.2.1 + q12)] (fO G (lay, T0, T1, Dd) r.1 r.2.1 r.2.2.1 r.2.2.2) sz kc nc) : gAt G mL_law Qp 469 [some (.ref (gsA G)), some (.ref (G.2.2.1 + 0)), some (.ref (G.2.2.1 + 153)), some (.ref (G.2.2.1 + 154)), some (.int a4), some (.int a5), some (.int a6), some (.int a7), some (.int a8), some (.int a9), some (.int a10), some (.int a11), some (.ref (G.2.2.1 + q12)), none, none, none, none, none, none, some (.int a19), some (.int a20), none] [] (fO G (lay, T0, T1, Dd) I J K N) sz kc nc := by
  unfold F_lw5 at hf
  refine r_aload_n dL_law_469 rfl ?_
  refine r_iload dL_law_470 rfl ?_
  obtain ⟨v472, hc472, hf⟩ := bd_of hf
  rcases v472 with e472 | v472
  · exact (no_no hf).elim
  refine r_cVi (rest := []) (ct_X9_restore hs hE hT0 hT1 hc472) dL_law_472 wd_768 zX9_restore wd_769 wd_770 rfl  rfl rfl (fo9 (hE 0 (by decide))) rfl rfl ⟨Nat.le_of_ble_eq_true rfl, Nat.le_of_ble_eq_true rfl⟩ (Nat.le_of_ble_eq_true rfl) ⟨hkc, hnc⟩ ?_
  refine r_iload dL_law_475 rfl ?_
  refine r_icmp_ne (tgt := 500) dL_law_477 (by decide) (fun c477 => ?_) (fun c477 => ?_)
  · replace hf := if_f hf c477
    refine r_iconst (v := (0 : Int32)) dL_law_500 (by decide) ?_
    exact (no_no hf).elim
  · replace hf := if_t hf c477
    refine r_aload_n dL_law_480 rfl ?_
    obtain ⟨v481, hc481, hf⟩ := bd_of hf
    refine r_cVi (rest := []) (ct_X9_undoable hs hE hT0 hT1 hc481) dL_law_481 wd_756 zX9_undoable wd_757 wd_758 rfl  rfl rfl (fo9 (hE 0 (by decide))) rfl rfl ⟨Nat.le_of_ble_eq_true rfl, Nat.le_of_ble_eq_true rfl⟩ (Nat.le_of_ble_eq_true rfl) ⟨hkc, hnc⟩ ?_
    refine r_if_ne (tgt := 500) dL_law_484 (by decide) (fun c484 => ?_) (fun c484 => ?_)
    · replace hf := if_f hf c484
      refine r_iconst (v := (0 : Int32)) dL_law_500 (by decide) ?_
      exact (no_no hf).elim
    · replace hf := if_t hf c484
      refine r_aload dL_law_487 rfl ?_
      refine r_aload_n dL_law_489 rfl ?_
      refine r_aload_n dL_law_490 rfl ?_
      have hr := Option.some.inj hf
      subst hr
      exact r_widen (k2 := kc) (n2 := nc) (Nat.le_refl _) (Nat.le_refl _) (r_mask [true, true, true, true, true, true, true, true, true, true, true, true, true, false, false, false, false, false, false, true, true, false] rfl kk)
def F_lw6 (n : Nat) (zS : Nat) (S : Nat → Int32) (T0 T1 : Nat) (I : gI) (J : gJ) (K : gI) (N : gJ) (a4 : Int32) (a5 : Int32) (a6 : Int32) (a7 : Int32) (a8 : Int32) (a9 : Int32) (a10 : Int32) (a11 : Int32) : Option (gI × gJ × gI × gJ) := (if ((a5 >>> ((23 : Int32) &&& 31)) &&& (3 : Int32)) = 0 then bd (F_X9_setAmp n T0 T1 I a7 ((1 : Int32) + ((a5 >>> ((25 : Int32) &&& 31)) &&& (31 : Int32)))) (fun v525 => sm v525 (fun _ => none) (fun v525 => (if v525.1 < (1 : Int32) then none else bd (F_X9_property n T0 T1 v525.2 a7 (0 : Int32)) (fun v536 => sm v536 (fun _ => none) (fun v536 => (if v536 = ((1 : Int32) + ((a5 >>> ((25 : Int32) &&& 31)) &&& (31 : Int32))) then (if ((a5 >>> ((23 : Int32) &&& 31)) &&& (3 : Int32)) = (1 : Int32) then bd (F_X9_moveSource n T0 T1 v525.2 a7 a8 a9) (fun v572 => sm v572 (fun _ => none) (fun v572 => bd (F_X9_time n T0 T1 v572.2) (fun v580 => bd (F_X9_sourceAt n T0 T1 v572.2 a7 (1 : Int32) v580) (fun v583 => sm v583 (fun _ => none) (fun v583 => bd (F_X9_time n T0 T1 v572.2) (fun v595 => bd (F_X9_sourceAt n T0 T1 v572.2 a7 (0 : Int32) v595) (fun v598 => sm v598 (fun _ => none) (fun v598 => (if v572.1 = ((v583 * (K 154 1)) + v598) then some (v572.2, J, K, N) else none))))))))) else some (v525.2, J, K, N)) else none)))))) else (if ((a5 >>> ((23 : Int32) &&& 31)) &&& (3 : Int32)) = (1 : Int32) then bd (F_X9_moveSource n T0 T1 I a7 a8 a9) (fun v572 => sm v572 (fun _ => none) (fun v572 => bd (F_X9_time n T0 T1 v572.2) (fun v580 => bd (F_X9_sourceAt n T0 T1 v572.2 a7 (1 : Int32) v580) (fun v583 => sm v583 (fun _ => none) (fun v583 => bd (F_X9_time n T0 T1 v572.2) (fun v595 => bd (F_X9_sourceAt n T0 T1 v572.2 a7 (0 : Int32) v595) (fun v598 => sm v598 (fun _ => none) (fun v598 => (if v572.1 = ((v583 * (K 154 1)) + v598) then some (v572.2, J, K, N) else none))))))))) else some (I, J, K, N)))
set_option maxHeartbeats 4000000 in
set_option maxRecDepth 100000 in
theorem at_lw6 {G : gG} {lay : Nat → Nat × Nat} {T0 T1 : Nat} {Dd : Nat → Nat → UInt64} {I : gI} {J : gJ} {K : gI} {N : gJ} {sz n : Nat} {Qp : List Frame → Array Value → State → State → Prop} {kc nc : Nat} {zS : Nat} {S : Nat → Int32} {a4 : Int32} {a5 : Int32} {a6 : Int32} {a7 : Int32} {a8 : Int32} {a9 : Int32} {a10 : Int32} {a11 : Int32} (hkc : kc ≤ 600086) (hnc : nc ≤ 7301442) (hs : G.1.stackTraces = false) (hE : gLay lay) (hS : gScr G zS S) (hT0 : gTank lay T0) (hT1 : gTank lay T1) {r : gI × gJ × gI × gJ} (hf : F_lw6 n zS S T0 T1 I J K N a4 a5 a6 a7 a8 a9 a10 a11 = some r) (kk : gAt G mL_law Qp 607 [some (.ref (gsA G)), some (.ref (G.2.2.1 + 0)), some (.ref (G.2.2.1 + 153)), some (.ref (G.2.2.1 + 154)), some (.int a4), some (.int a5), some (.int a6), some (.int a7), some (.int a8), some (.int a9), some (.int a10), some (.int a11), none, none, none, none, none, none, none, none, none, none] [] (fO G (lay, T0, T1, Dd) r.1 r.2.1 r.2.2.1 r.2.2.2) sz kc nc) : gAt G mL_law Qp 502 [some (.ref (gsA G)), some (.ref (G.2.2.1 + 0)), some (.ref (G.2.2.1 + 153)), some (.ref (G.2.2.1 + 154)), some (.int a4), some (.int a5), some (.int a6), some (.int a7), some (.int a8), some (.int a9), some (.int a10), some (.int a11), none, none, none, none, none, none, none, none, none, none] [] (fO G (lay, T0, T1, Dd) I J K N) sz kc nc := by
  unfold F_lw6 at hf
  refine r_iload dL_law_502 rfl ?_
  refine r_bipush (v := (23 : Int32)) dL_law_504 (by decide) ?_
  refine r_ishr dL_law_506 ?_
  refine r_iconst (v := (3 : Int32)) dL_law_507 (by decide) ?_
  refine r_iand dL_law_508 ?_
  refine r_if_ne (tgt := 554) dL_law_509 (by decide) (fun c509 => ?_) (fun c509 => ?_)
  · replace hf := if_f hf c509
    refine r_iload dL_law_554 rfl ?_
    refine r_bipush (v := (23 : Int32)) dL_law_556 (by decide) ?_
    refine r_ishr dL_law_558 ?_
    refine r_iconst (v := (3 : Int32)) dL_law_559 (by decide) ?_
    refine r_iand dL_law_560 ?_
    refine r_iconst (v := (1 : Int32)) dL_law_561 (by decide) ?_
    refine r_icmp_ne (tgt := 607) dL_law_562 (by decide) (fun c562 => ?_) (fun c562 => ?_)
    · replace hf := if_f hf c562
      have hr := Option.some.inj hf
      subst hr
      exact r_widen (k2 := kc) (n2 := nc) (Nat.le_refl _) (Nat.le_refl _) (r_mask [true, true, true, true, true, true, true, true, true, true, true, true, false, false, false, false, false, false, false, false, false, false] rfl kk)
    · replace hf := if_t hf c562
      refine r_aload_n dL_law_565 rfl ?_
      refine r_iload dL_law_566 rfl ?_
      refine r_iload dL_law_568 rfl ?_
      refine r_iload dL_law_570 rfl ?_
      obtain ⟨v572, hc572, hf⟩ := bd_of hf
      rcases v572 with e572 | v572
      · exact (no_no hf).elim
      refine r_cVi (rest := []) (ct_X9_moveSource hs hE hT0 hT1 hc572) dL_law_572 wd_730 zX9_moveSource wd_731 wd_732 rfl  rfl rfl (fo9 (hE 0 (by decide))) rfl rfl ⟨Nat.le_of_ble_eq_true rfl, Nat.le_of_ble_eq_true rfl⟩ (Nat.le_of_ble_eq_true rfl) ⟨hkc, hnc⟩ ?_
      refine r_aload_n dL_law_575 rfl ?_
      refine r_iload dL_law_576 rfl ?_
      refine r_iconst (v := (1 : Int32)) dL_law_578 (by decide) ?_
      refine r_aload_n dL_law_579 rfl ?_
      obtain ⟨v580, hc580, hf⟩ := bd_of hf
      refine r_cVi (rest := [.int (1 : Int32), .int a7, .ref (G.2.2.1 + 0), .int v572.1]) (ct_X9_time hs hE hT0 hT1 hc580) dL_law_580 wd_405 zX9_time wd_406 wd_407 rfl  rfl rfl (fo9 (hE 0 (by decide))) rfl rfl ⟨Nat.le_of_ble_eq_true rfl, Nat.le_of_ble_eq_true rfl⟩ (Nat.le_of_ble_eq_true rfl) ⟨hkc, hnc⟩ ?_
      obtain ⟨v583, hc583, hf⟩ := bd_of hf
      rcases v583 with e583 | v583
      · exact (no_no hf).elim
      refine r_cVi (rest := [.int v572.1]) (ct_X9_sourceAt hs hE hT0 hT1 hc583) dL_law_583 wd_508 zX9_sourceAt wd_509 wd_510 rfl  rfl rfl (fo9 (hE 0 (by decide))) rfl rfl ⟨Nat.le_of_ble_eq_true rfl, Nat.le_of_ble_eq_true rfl⟩ (Nat.le_of_ble_eq_true rfl) ⟨hkc, hnc⟩ ?_
      refine r_aload_n dL_law_586 rfl ?_
      refine r_iconst (v := (1 : Int32)) dL_law_587 (by decide) ?_
      refine m_ialdc 1 dL_law_588 (hE 154 (by decide)) (vpc rfl) rfl ?_
      refine r_imul dL_law_589 ?_
      refine r_aload_n dL_law_590 rfl ?_
      refine r_iload dL_law_591 rfl ?_
      refine r_iconst (v := (0 : Int32)) dL_law_593 (by decide) ?_
      refine r_aload_n dL_law_594 rfl ?_
      obtain ⟨v595, hc595, hf⟩ := bd_of hf
      refine r_cVi (rest := [.int (0 : Int32), .int a7, .ref (G.2.2.1 + 0), .int (v583 * (K 154 1)), .int v572.1]) (ct_X9_time hs hE hT0 hT1 hc595) dL_law_595 wd_405 zX9_time wd_406 wd_407 rfl  rfl rfl (fo9 (hE 0 (by decide))) rfl rfl ⟨Nat.le_of_ble_eq_true rfl, Nat.le_of_ble_eq_true rfl⟩ (Nat.le_of_ble_eq_true rfl) ⟨hkc, hnc⟩ ?_
      obtain ⟨v598, hc598, hf⟩ := bd_of hf
      rcases v598 with e598 | v598
      · exact (no_no hf).elim
      refine r_cVi (rest := [.int (v583 * (K 154 1)), .int v572.1]) (ct_X9_sourceAt hs hE hT0 hT1 hc598) dL_law_598 wd_508 zX9_sourceAt wd_509 wd_510 rfl  rfl rfl (fo9 (hE 0 (by decide))) rfl rfl ⟨Nat.le_of_ble_eq_true rfl, Nat.le_of_ble_eq_true rfl⟩ (Nat.le_of_ble_eq_true rfl) ⟨hkc, hnc⟩ ?_
      refine r_iadd dL_law_601 ?_
      refine r_icmp_eq (tgt := 607) dL_law_602 (by decide) (fun c602 => ?_) (fun c602 => ?_)
      · replace hf := if_t hf c602
        have hr := Option.some.inj hf
        subst hr
        exact r_widen (k2 := kc) (n2 := nc) (Nat.le_refl _) (Nat.le_refl _) (r_mask [true, true, true, true, true, true, true, true, true, true, true, true, false, false, false, false, false, false, false, false, false, false] rfl kk)
      · replace hf := if_f hf c602
        refine r_iconst (v := (0 : Int32)) dL_law_605 (by decide) ?_
        exact (no_no hf).elim
  · replace hf := if_t hf c509
    refine r_aload_n dL_law_512 rfl ?_
    refine r_iload dL_law_513 rfl ?_
    refine r_iconst (v := (1 : Int32)) dL_law_515 (by decide) ?_
    refine r_iload dL_law_516 rfl ?_
    refine r_bipush (v := (25 : Int32)) dL_law_518 (by decide) ?_
    refine r_ishr dL_law_520 ?_
    refine r_bipush (v := (31 : Int32)) dL_law_521 (by decide) ?_
    refine r_iand dL_law_523 ?_
    refine r_iadd dL_law_524 ?_
    obtain ⟨v525, hc525, hf⟩ := bd_of hf
    rcases v525 with e525 | v525
    · exact (no_no hf).elim
    refine r_cVi (rest := []) (ct_X9_setAmp hs hE hT0 hT1 hc525) dL_law_525 wd_726 zX9_setAmp wd_727 wd_728 rfl  rfl rfl (fo9 (hE 0 (by decide))) rfl rfl ⟨Nat.le_of_ble_eq_true rfl, Nat.le_of_ble_eq_true rfl⟩ (Nat.le_of_ble_eq_true rfl) ⟨hkc, hnc⟩ ?_
    refine r_iconst (v := (1 : Int32)) dL_law_528 (by decide) ?_
    refine r_icmp_lt (tgt := 552) dL_law_529 (by decide) (fun c529 => ?_) (fun c529 => ?_)
    · replace hf := if_t hf c529
      refine r_iconst (v := (0 : Int32)) dL_law_552 (by decide) ?_
      exact (no_no hf).elim
    · replace hf := if_f hf c529
      refine r_aload_n dL_law_532 rfl ?_
      refine r_iload dL_law_533 rfl ?_
      refine r_iconst (v := (0 : Int32)) dL_law_535 (by decide) ?_
      obtain ⟨v536, hc536, hf⟩ := bd_of hf
      rcases v536 with e536 | v536
      · exact (no_no hf).elim
      refine r_cVi (rest := []) (ct_X9_property hs hE hT0 hT1 hc536) dL_law_536 wd_550 zX9_property wd_551 wd_552 rfl  rfl rfl (fo9 (hE 0 (by decide))) rfl rfl ⟨Nat.le_of_ble_eq_true rfl, Nat.le_of_ble_eq_true rfl⟩ (Nat.le_of_ble_eq_true rfl) ⟨hkc, hnc⟩ ?_
      refine r_iconst (v := (1 : Int32)) dL_law_539 (by decide) ?_
      refine r_iload dL_law_540 rfl ?_
      refine r_bipush (v := (25 : Int32)) dL_law_542 (by decide) ?_
      refine r_ishr dL_law_544 ?_
      refine r_bipush (v := (31 : Int32)) dL_law_545 (by decide) ?_
      refine r_iand dL_law_547 ?_
      refine r_iadd dL_law_548 ?_
      refine r_icmp_eq (tgt := 554) dL_law_549 (by decide) (fun c549 => ?_) (fun c549 => ?_)
      · replace hf := if_t hf c549
        refine r_iload dL_law_554 rfl ?_
        refine r_bipush (v := (23 : Int32)) dL_law_556 (by decide) ?_
        refine r_ishr dL_law_558 ?_
        refine r_iconst (v := (3 : Int32)) dL_law_559 (by decide) ?_
        refine r_iand dL_law_560 ?_
        refine r_iconst (v := (1 : Int32)) dL_law_561 (by decide) ?_
        refine r_icmp_ne (tgt := 607) dL_law_562 (by decide) (fun c562 => ?_) (fun c562 => ?_)
        · replace hf := if_f hf c562
          have hr := Option.some.inj hf
          subst hr
          exact r_widen (k2 := kc) (n2 := nc) (Nat.le_refl _) (Nat.le_refl _) (r_mask [true, true, true, true, true, true, true, true, true, true, true, true, false, false, false, false, false, false, false, false, false, false] rfl kk)
        · replace hf := if_t hf c562
          refine r_aload_n dL_law_565 rfl ?_
          refine r_iload dL_law_566 rfl ?_
          refine r_iload dL_law_568 rfl ?_
          refine r_iload dL_law_570 rfl ?_
          obtain ⟨v572, hc572, hf⟩ := bd_of hf
          rcases v572 with e572 | v572
          · exact (no_no hf).elim
          refine r_cVi (rest := []) (ct_X9_moveSource hs hE hT0 hT1 hc572) dL_law_572 wd_730 zX9_moveSource wd_731 wd_732 rfl  rfl rfl (fo9 (hE 0 (by decide))) rfl rfl ⟨Nat.le_of_ble_eq_true rfl, Nat.le_of_ble_eq_true rfl⟩ (Nat.le_of_ble_eq_true rfl) ⟨hkc, hnc⟩ ?_
          refine r_aload_n dL_law_575 rfl ?_
          refine r_iload dL_law_576 rfl ?_
          refine r_iconst (v := (1 : Int32)) dL_law_578 (by decide) ?_
          refine r_aload_n dL_law_579 rfl ?_
          obtain ⟨v580, hc580, hf⟩ := bd_of hf
          refine r_cVi (rest := [.int (1 : Int32), .int a7, .ref (G.2.2.1 + 0), .int v572.1]) (ct_X9_time hs hE hT0 hT1 hc580) dL_law_580 wd_405 zX9_time wd_406 wd_407 rfl  rfl rfl (fo9 (hE 0 (by decide))) rfl rfl ⟨Nat.le_of_ble_eq_true rfl, Nat.le_of_ble_eq_true rfl⟩ (Nat.le_of_ble_eq_true rfl) ⟨hkc, hnc⟩ ?_
          obtain ⟨v583, hc583, hf⟩ := bd_of hf
          rcases v583 with e583 | v583
          · exact (no_no hf).elim
          refine r_cVi (rest := [.int v572.1]) (ct_X9_sourceAt hs hE hT0 hT1 hc583) dL_law_583 wd_508 zX9_sourceAt wd_509 wd_510 rfl  rfl rfl (fo9 (hE 0 (by decide))) rfl rfl ⟨Nat.le_of_ble_eq_true rfl, Nat.le_of_ble_eq_true rfl⟩ (Nat.le_of_ble_eq_true rfl) ⟨hkc, hnc⟩ ?_
          refine r_aload_n dL_law_586 rfl ?_
          refine r_iconst (v := (1 : Int32)) dL_law_587 (by decide) ?_
          refine m_ialdc 1 dL_law_588 (hE 154 (by decide)) (vpc rfl) rfl ?_
          refine r_imul dL_law_589 ?_
          refine r_aload_n dL_law_590 rfl ?_
          refine r_iload dL_law_591 rfl ?_
          refine r_iconst (v := (0 : Int32)) dL_law_593 (by decide) ?_
          refine r_aload_n dL_law_594 rfl ?_
          obtain ⟨v595, hc595, hf⟩ := bd_of hf
          refine r_cVi (rest := [.int (0 : Int32), .int a7, .ref (G.2.2.1 + 0), .int (v583 * (K 154 1)), .int v572.1]) (ct_X9_time hs hE hT0 hT1 hc595) dL_law_595 wd_405 zX9_time wd_406 wd_407 rfl  rfl rfl (fo9 (hE 0 (by decide))) rfl rfl ⟨Nat.le_of_ble_eq_true rfl, Nat.le_of_ble_eq_true rfl⟩ (Nat.le_of_ble_eq_true rfl) ⟨hkc, hnc⟩ ?_
          obtain ⟨v598, hc598, hf⟩ := bd_of hf
          rcases v598 with e598 | v598
          · exact (no_no hf).elim
          refine r_cVi (rest := [.int (v583 * (K 154 1)), .int v572.1]) (ct_X9_sourceAt hs hE hT0 hT1 hc598) dL_law_598 wd_508 zX9_sourceAt wd_509 wd_510 rfl  rfl rfl (fo9 (hE 0 (by decide))) rfl rfl ⟨Nat.le_of_ble_eq_true rfl, Nat.le_of_ble_eq_true rfl⟩ (Nat.le_of_ble_eq_true rfl) ⟨hkc, hnc⟩ ?_
          refine r_iadd dL_law_601 ?_
          refine r_icmp_eq (tgt := 607) dL_law_602 (by decide) (fun c602 => ?_) (fun c602 => ?_)
          · replace hf := if_t hf c602
            have hr := Option.some.inj hf
            subst hr
            exact r_widen (k2 := kc) (n2 := nc) (Nat.le_refl _) (Nat.le_refl _) (r_mask [true, true, true, true, true, true, true, true, true, true, true, true, false, false, false, false, false, false, false, false, false, false] rfl kk)
          · replace hf := if_f hf c602
            refine r_iconst (v := (0 : Int32)) dL_law_605 (by decide) ?_
            exact (no_no hf).elim
      · replace hf := if_f hf c549
        refine r_iconst (v := (0 : Int32)) dL_law_552 (by decide) ?_
        exact (no_no hf).elim
