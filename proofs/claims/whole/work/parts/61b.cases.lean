/-! the cases of the law -/
set_option maxHeartbeats 4000000 in
set_option maxRecDepth 100000 in
theorem lc_distance {G : gG} {b Lx i : Nat} {xs : Nat → Int32} {lay : Nat → Nat × Nat} {T0 T1 : Nat} {Dd : Nat → Nat → UInt64} {I : gI} {J : gJ} {K : gI} {N : gJ} {sz k n : Nat} (hs : G.1.stackTraces = false) (hE : gLay lay) (R : Rel T0 T1 I K) (hL : Lx ≤ 3072) (hi : i + 6 ≤ Lx) (hk : k + 64 ≤ 601024) (hn : n + 64 ≤ 7293034) (hx : lNx G b Lx xs lay i k n) : gAt G mL_law (lQ G b Lx xs) 1022 (lLL G b i) [] (fO G (lay, T0, T1, Dd) I J K N) sz k n := by
  have hT0 : gTank lay T0 := gTk hE (R.tt.elim (fun h => Or.inl h.1) (fun h => Or.inr h.1))
  have hT1 : gTank lay T1 := gTk hE (R.tt.elim (fun h => Or.inr h.2) (fun h => Or.inl h.2))
  obtain ⟨r9, b9, g1, g2, g3⟩ := e_distance (n := 30000) (by decide) R (xs (i + 1)) (xs (i + 2))
  rcases r9 with E9 | v9
  · have g3 : Tt K (thC E9) b9.2 := g3
    refine r_aload_n dL_law_1022 rfl ?_
    refine s_arg (kq := 1) hL hi (by decide) (by decide) dL_law_1023 dL_law_1024 dL_law_1026 dL_law_1027 dL_law_1028 rfl rfl ?_
    refine s_arg (kq := 2) hL hi (by decide) (by decide) dL_law_1029 dL_law_1030 dL_law_1032 dL_law_1033 dL_law_1034 rfl rfl ?_
    refine r_aload_n dL_law_1035 rfl ?_
    refine r_cSWs (rest := []) (we_distance hs hE hT0 hT1 g1) dL_law_1036 wd_979 zL_distance wd_980 rfl rfl rfl ⟨Nat.le_of_ble_eq_true rfl, Nat.le_of_ble_eq_true rfl⟩ (Nat.le_of_ble_eq_true rfl) ⟨lk hk rfl, lk hn rfl⟩ (fun sz9 => ?_)
    refine r_widen (k2 := k + 64) (n2 := n + 64) (Nat.add_le_add_left (Nat.le_of_ble_eq_true rfl) _) (Nat.add_le_add_left (Nat.le_of_ble_eq_true rfl) _) ?_
    refine r_istore dL_law_1039 (by decide) rfl ?_
    refine r_aload_n dL_law_1041 rfl ?_
    refine s_arg (kq := 1) hL hi (by decide) (by decide) dL_law_1042 dL_law_1043 dL_law_1045 dL_law_1046 dL_law_1047 rfl rfl ?_
    refine s_arg (kq := 2) hL hi (by decide) (by decide) dL_law_1048 dL_law_1049 dL_law_1051 dL_law_1052 dL_law_1053 rfl rfl ?_
    refine r_cV0 (rest := []) (ct_X10_distance hs hE g2) dL_law_1054 wd_1883 zX10_distance wd_1884 wd_1885 rfl rfl rfl (fo10 (hE 153 (by decide))) rfl rfl ⟨Nat.le_of_ble_eq_true rfl, Nat.le_of_ble_eq_true rfl⟩ (Nat.le_of_ble_eq_true rfl) ⟨rfl, rfl⟩ (lkk hk hn) ?_
    refine r_istore dL_law_1057 (by decide) rfl ?_
    refine r_aload_n dL_law_1059 rfl ?_
    have t9 := g3.t
    refine r_cV0 (rest := []) (ct_X10_thrown (n := 0) hs hE rfl) dL_law_1060 wd_1621 zX10_thrown wd_1622 wd_1623 rfl rfl rfl (fo10 (hE 153 (by decide))) rfl rfl ⟨Nat.le_of_ble_eq_true rfl, Nat.le_of_ble_eq_true rfl⟩ (Nat.le_of_ble_eq_true rfl) ⟨rfl, rfl⟩ (lkk hk hn) ?_
    refine r_iload dL_law_1063 rfl ?_
    refine r_icmp_eq (tgt := 1070) dL_law_1065 (by decide) (fun _ => ?_) (fun q => absurd t9 q)
    refine r_iload dL_law_1070 rfl ?_
    refine r_if_ne (tgt := 1087) dL_law_1072 (by decide) (fun _ => ?_) (fun q => absurd q (thC_ne E9))
    refine r_goto (tgt := 4357) dL_law_1087 (by decide) ?_
    exact r_mask [true, true, true, true, true, true, false, false, false] rfl (hx _ _ _ _ _ _ _ _ (R.tt' g3))
  · have g3 : v9 = b9.1 ∧ Tt K 0 b9.2 := g3
    refine r_aload_n dL_law_1022 rfl ?_
    refine s_arg (kq := 1) hL hi (by decide) (by decide) dL_law_1023 dL_law_1024 dL_law_1026 dL_law_1027 dL_law_1028 rfl rfl ?_
    refine s_arg (kq := 2) hL hi (by decide) (by decide) dL_law_1029 dL_law_1030 dL_law_1032 dL_law_1033 dL_law_1034 rfl rfl ?_
    refine r_aload_n dL_law_1035 rfl ?_
    refine r_cSW1 (rest := []) (wo_distance hs hE hT0 hT1 g1) dL_law_1036 wd_979 zL_distance wd_980 rfl rfl rfl ⟨Nat.le_of_ble_eq_true rfl, Nat.le_of_ble_eq_true rfl⟩ (Nat.le_of_ble_eq_true rfl) ⟨lk hk rfl, lk hn rfl⟩ ?_
    refine r_widen (k2 := k + 64) (n2 := n + 64) (Nat.add_le_add_left (Nat.le_of_ble_eq_true rfl) _) (Nat.add_le_add_left (Nat.le_of_ble_eq_true rfl) _) ?_
    refine r_istore dL_law_1039 (by decide) rfl ?_
    refine r_aload_n dL_law_1041 rfl ?_
    refine s_arg (kq := 1) hL hi (by decide) (by decide) dL_law_1042 dL_law_1043 dL_law_1045 dL_law_1046 dL_law_1047 rfl rfl ?_
    refine s_arg (kq := 2) hL hi (by decide) (by decide) dL_law_1048 dL_law_1049 dL_law_1051 dL_law_1052 dL_law_1053 rfl rfl ?_
    refine r_cV0 (rest := []) (ct_X10_distance hs hE g2) dL_law_1054 wd_1883 zX10_distance wd_1884 wd_1885 rfl rfl rfl (fo10 (hE 153 (by decide))) rfl rfl ⟨Nat.le_of_ble_eq_true rfl, Nat.le_of_ble_eq_true rfl⟩ (Nat.le_of_ble_eq_true rfl) ⟨rfl, rfl⟩ (lkk hk hn) ?_
    refine r_istore dL_law_1057 (by decide) rfl ?_
    refine r_aload_n dL_law_1059 rfl ?_
    have t9 := g3.2.t
    refine r_cV0 (rest := []) (ct_X10_thrown (n := 0) hs hE rfl) dL_law_1060 wd_1621 zX10_thrown wd_1622 wd_1623 rfl rfl rfl (fo10 (hE 153 (by decide))) rfl rfl ⟨Nat.le_of_ble_eq_true rfl, Nat.le_of_ble_eq_true rfl⟩ (Nat.le_of_ble_eq_true rfl) ⟨rfl, rfl⟩ (lkk hk hn) ?_
    refine r_iload dL_law_1063 rfl ?_
    refine r_icmp_eq (tgt := 1070) dL_law_1065 (by decide) (fun _ => ?_) (fun q => absurd t9 q)
    refine r_iload dL_law_1070 rfl ?_
    refine r_if_ne (tgt := 1087) dL_law_1072 (by decide) (fun q => absurd rfl q) (fun _ => ?_)
    refine r_aload_n dL_law_1075 rfl ?_
    refine r_iconst (v := (0 : Int32)) dL_law_1076 (by decide) ?_
    refine a_laldc 0 dL_law_1077 (hE 170 (by decide)) (vpc rfl) rfl ?_
    refine r_tl sJ_self ?_
    refine r_iload dL_law_1078 rfl ?_
    refine r_i2l dL_law_1080 ?_
    refine r_lcmp dL_law_1081 ?_
    refine r_ti (y := 0) ((lg_cmp_eq _ _).mpr (congrArg Int32.toInt64 g3.1)) ?_
    refine r_if_eq (tgt := 1087) dL_law_1082 (by decide) (fun _ => ?_) (fun q => absurd rfl q)
    refine r_goto (tgt := 4357) dL_law_1087 (by decide) ?_
    exact r_mask [true, true, true, true, true, true, false, false, false] rfl (hx _ _ _ _ _ _ _ _ (R.tt' g3.2))
set_option maxHeartbeats 4000000 in
set_option maxRecDepth 100000 in
theorem lc_isBehind {G : gG} {b Lx i : Nat} {xs : Nat → Int32} {lay : Nat → Nat × Nat} {T0 T1 : Nat} {Dd : Nat → Nat → UInt64} {I : gI} {J : gJ} {K : gI} {N : gJ} {sz k n : Nat} (hs : G.1.stackTraces = false) (hE : gLay lay) (R : Rel T0 T1 I K) (hL : Lx ≤ 3072) (hi : i + 6 ≤ Lx) (hk : k + 64 ≤ 601024) (hn : n + 64 ≤ 7293034) (hx : lNx G b Lx xs lay i k n) : gAt G mL_law (lQ G b Lx xs) 1090 (lLL G b i) [] (fO G (lay, T0, T1, Dd) I J K N) sz k n := by
  have hT0 : gTank lay T0 := gTk hE (R.tt.elim (fun h => Or.inl h.1) (fun h => Or.inr h.1))
  have hT1 : gTank lay T1 := gTk hE (R.tt.elim (fun h => Or.inr h.2) (fun h => Or.inl h.2))
  obtain ⟨r9, b9, g1, g2, g3⟩ := e_isBehind (n := 30000) (by decide) R (xs (i + 1)) (xs (i + 2)) (xs (i + 3))
  rcases r9 with E9 | v9
  · have g3 : Tt K (thA E9) b9.2 := g3
    refine r_aload_n dL_law_1090 rfl ?_
    refine s_arg (kq := 1) hL hi (by decide) (by decide) dL_law_1091 dL_law_1092 dL_law_1094 dL_law_1095 dL_law_1096 rfl rfl ?_
    refine s_arg (kq := 2) hL hi (by decide) (by decide) dL_law_1097 dL_law_1098 dL_law_1100 dL_law_1101 dL_law_1102 rfl rfl ?_
    refine s_arg (kq := 3) hL hi (by decide) (by decide) dL_law_1103 dL_law_1104 dL_law_1106 dL_law_1107 dL_law_1108 rfl rfl ?_
    refine r_aload_n dL_law_1109 rfl ?_
    refine r_cSWs (rest := []) (we_isBehind hs hE hT0 hT1 g1) dL_law_1110 wd_993 zL_isBehind wd_994 rfl rfl rfl ⟨Nat.le_of_ble_eq_true rfl, Nat.le_of_ble_eq_true rfl⟩ (Nat.le_of_ble_eq_true rfl) ⟨lk hk rfl, lk hn rfl⟩ (fun sz9 => ?_)
    refine r_widen (k2 := k + 64) (n2 := n + 64) (Nat.add_le_add_left (Nat.le_of_ble_eq_true rfl) _) (Nat.add_le_add_left (Nat.le_of_ble_eq_true rfl) _) ?_
    refine r_istore dL_law_1113 (by decide) rfl ?_
    refine r_aload_n dL_law_1115 rfl ?_
    refine s_arg (kq := 1) hL hi (by decide) (by decide) dL_law_1116 dL_law_1117 dL_law_1119 dL_law_1120 dL_law_1121 rfl rfl ?_
    refine s_arg (kq := 2) hL hi (by decide) (by decide) dL_law_1122 dL_law_1123 dL_law_1125 dL_law_1126 dL_law_1127 rfl rfl ?_
    refine s_arg (kq := 3) hL hi (by decide) (by decide) dL_law_1128 dL_law_1129 dL_law_1131 dL_law_1132 dL_law_1133 rfl rfl ?_
    refine r_cV0 (rest := []) (ct_X10_isBehind hs hE g2) dL_law_1134 wd_1895 zX10_isBehind wd_1896 wd_1897 rfl rfl rfl (fo10 (hE 153 (by decide))) rfl rfl ⟨Nat.le_of_ble_eq_true rfl, Nat.le_of_ble_eq_true rfl⟩ (Nat.le_of_ble_eq_true rfl) ⟨rfl, rfl⟩ (lkk hk hn) ?_
    refine r_istore dL_law_1137 (by decide) rfl ?_
    refine r_aload_n dL_law_1139 rfl ?_
    have t9 := g3.t
    refine r_cV0 (rest := []) (ct_X10_thrown (n := 0) hs hE rfl) dL_law_1140 wd_1621 zX10_thrown wd_1622 wd_1623 rfl rfl rfl (fo10 (hE 153 (by decide))) rfl rfl ⟨Nat.le_of_ble_eq_true rfl, Nat.le_of_ble_eq_true rfl⟩ (Nat.le_of_ble_eq_true rfl) ⟨rfl, rfl⟩ (lkk hk hn) ?_
    refine r_iload dL_law_1143 rfl ?_
    refine r_icmp_eq (tgt := 1150) dL_law_1145 (by decide) (fun _ => ?_) (fun q => absurd t9 q)
    refine r_iload dL_law_1150 rfl ?_
    refine r_if_ne (tgt := 1174) dL_law_1152 (by decide) (fun _ => ?_) (fun q => absurd q (thA_ne E9))
    refine r_goto (tgt := 4357) dL_law_1174 (by decide) ?_
    exact r_mask [true, true, true, true, true, true, false, false, false] rfl (hx _ _ _ _ _ _ _ _ (R.tt' g3))
  · have g3 : v9 = b9.1 ∧ Tt K 0 b9.2 := g3
    refine r_aload_n dL_law_1090 rfl ?_
    refine s_arg (kq := 1) hL hi (by decide) (by decide) dL_law_1091 dL_law_1092 dL_law_1094 dL_law_1095 dL_law_1096 rfl rfl ?_
    refine s_arg (kq := 2) hL hi (by decide) (by decide) dL_law_1097 dL_law_1098 dL_law_1100 dL_law_1101 dL_law_1102 rfl rfl ?_
    refine s_arg (kq := 3) hL hi (by decide) (by decide) dL_law_1103 dL_law_1104 dL_law_1106 dL_law_1107 dL_law_1108 rfl rfl ?_
    refine r_aload_n dL_law_1109 rfl ?_
    refine r_cSW1 (rest := []) (wo_isBehind hs hE hT0 hT1 g1) dL_law_1110 wd_993 zL_isBehind wd_994 rfl rfl rfl ⟨Nat.le_of_ble_eq_true rfl, Nat.le_of_ble_eq_true rfl⟩ (Nat.le_of_ble_eq_true rfl) ⟨lk hk rfl, lk hn rfl⟩ ?_
    refine r_widen (k2 := k + 64) (n2 := n + 64) (Nat.add_le_add_left (Nat.le_of_ble_eq_true rfl) _) (Nat.add_le_add_left (Nat.le_of_ble_eq_true rfl) _) ?_
    refine r_istore dL_law_1113 (by decide) rfl ?_
    refine r_aload_n dL_law_1115 rfl ?_
    refine s_arg (kq := 1) hL hi (by decide) (by decide) dL_law_1116 dL_law_1117 dL_law_1119 dL_law_1120 dL_law_1121 rfl rfl ?_
    refine s_arg (kq := 2) hL hi (by decide) (by decide) dL_law_1122 dL_law_1123 dL_law_1125 dL_law_1126 dL_law_1127 rfl rfl ?_
    refine s_arg (kq := 3) hL hi (by decide) (by decide) dL_law_1128 dL_law_1129 dL_law_1131 dL_law_1132 dL_law_1133 rfl rfl ?_
    refine r_cV0 (rest := []) (ct_X10_isBehind hs hE g2) dL_law_1134 wd_1895 zX10_isBehind wd_1896 wd_1897 rfl rfl rfl (fo10 (hE 153 (by decide))) rfl rfl ⟨Nat.le_of_ble_eq_true rfl, Nat.le_of_ble_eq_true rfl⟩ (Nat.le_of_ble_eq_true rfl) ⟨rfl, rfl⟩ (lkk hk hn) ?_
    refine r_istore dL_law_1137 (by decide) rfl ?_
    refine r_aload_n dL_law_1139 rfl ?_
    have t9 := g3.2.t
    refine r_cV0 (rest := []) (ct_X10_thrown (n := 0) hs hE rfl) dL_law_1140 wd_1621 zX10_thrown wd_1622 wd_1623 rfl rfl rfl (fo10 (hE 153 (by decide))) rfl rfl ⟨Nat.le_of_ble_eq_true rfl, Nat.le_of_ble_eq_true rfl⟩ (Nat.le_of_ble_eq_true rfl) ⟨rfl, rfl⟩ (lkk hk hn) ?_
    refine r_iload dL_law_1143 rfl ?_
    refine r_icmp_eq (tgt := 1150) dL_law_1145 (by decide) (fun _ => ?_) (fun q => absurd t9 q)
    refine r_iload dL_law_1150 rfl ?_
    refine r_if_ne (tgt := 1174) dL_law_1152 (by decide) (fun q => absurd rfl q) (fun _ => ?_)
    refine r_aload_n dL_law_1155 rfl ?_
    refine r_iconst (v := (0 : Int32)) dL_law_1156 (by decide) ?_
    refine a_laldc 0 dL_law_1157 (hE 170 (by decide)) (vpc rfl) rfl ?_
    refine r_tl sJ_self ?_
    refine r_iload dL_law_1158 rfl ?_
    refine r_if_eq (tgt := 1167) dL_law_1160 (by decide) (fun z => ?_) (fun z => ?_)
    · refine r_lconst (v := (0 : Int64)) dL_law_1167 (by decide) ?_
      refine r_lcmp dL_law_1168 ?_
      refine r_ti (y := 0) ((lg_cmp_eq _ _).mpr (if_pos (g3.1.trans z))) ?_
      refine r_if_eq (tgt := 1174) dL_law_1169 (by decide) (fun _ => ?_) (fun q => absurd rfl q)
      refine r_goto (tgt := 4357) dL_law_1174 (by decide) ?_
      exact r_mask [true, true, true, true, true, true, false, false, false] rfl (hx _ _ _ _ _ _ _ _ (R.tt' g3.2))
    · refine r_lconst (v := (1 : Int64)) dL_law_1163 (by decide) ?_
      refine r_goto (tgt := 1168) dL_law_1164 (by decide) ?_
      refine r_lcmp dL_law_1168 ?_
      refine r_ti (y := 0) ((lg_cmp_eq _ _).mpr (if_neg (fun q => z (g3.1.symm.trans q)))) ?_
      refine r_if_eq (tgt := 1174) dL_law_1169 (by decide) (fun _ => ?_) (fun q => absurd rfl q)
      refine r_goto (tgt := 4357) dL_law_1174 (by decide) ?_
      exact r_mask [true, true, true, true, true, true, false, false, false] rfl (hx _ _ _ _ _ _ _ _ (R.tt' g3.2))
set_option maxHeartbeats 4000000 in
set_option maxRecDepth 100000 in
theorem lc_path {G : gG} {b Lx i : Nat} {xs : Nat → Int32} {lay : Nat → Nat × Nat} {T0 T1 : Nat} {Dd : Nat → Nat → UInt64} {I : gI} {J : gJ} {K : gI} {N : gJ} {sz k n : Nat} (hs : G.1.stackTraces = false) (hE : gLay lay) (R : Rel T0 T1 I K) (hL : Lx ≤ 3072) (hi : i + 6 ≤ Lx) (hk : k + 64 ≤ 601024) (hn : n + 64 ≤ 7293034) (hx : lNx G b Lx xs lay i k n) : gAt G mL_law (lQ G b Lx xs) 1177 (lLL G b i) [] (fO G (lay, T0, T1, Dd) I J K N) sz k n := by
  have hT0 : gTank lay T0 := gTk hE (R.tt.elim (fun h => Or.inl h.1) (fun h => Or.inr h.1))
  have hT1 : gTank lay T1 := gTk hE (R.tt.elim (fun h => Or.inr h.2) (fun h => Or.inl h.2))
  obtain ⟨r9, b9, g1, g2, g3⟩ := e_path (n := 30000) (by decide) R (xs (i + 1)) (xs (i + 2)) (xs (i + 3)) (xs (i + 4))
  rcases r9 with E9 | v9
  · have g3 : Tt K (thA E9) b9.2 := g3
    refine r_aload_n dL_law_1177 rfl ?_
    refine s_arg (kq := 1) hL hi (by decide) (by decide) dL_law_1178 dL_law_1179 dL_law_1181 dL_law_1182 dL_law_1183 rfl rfl ?_
    refine s_arg (kq := 2) hL hi (by decide) (by decide) dL_law_1184 dL_law_1185 dL_law_1187 dL_law_1188 dL_law_1189 rfl rfl ?_
    refine s_arg (kq := 3) hL hi (by decide) (by decide) dL_law_1190 dL_law_1191 dL_law_1193 dL_law_1194 dL_law_1195 rfl rfl ?_
    refine s_arg (kq := 4) hL hi (by decide) (by decide) dL_law_1196 dL_law_1197 dL_law_1199 dL_law_1200 dL_law_1201 rfl rfl ?_
    refine r_aload_n dL_law_1202 rfl ?_
    refine r_cSWs (rest := []) (we_path hs hE hT0 hT1 g1) dL_law_1203 wd_1013 zL_path wd_1014 rfl rfl rfl ⟨Nat.le_of_ble_eq_true rfl, Nat.le_of_ble_eq_true rfl⟩ (Nat.le_of_ble_eq_true rfl) ⟨lk hk rfl, lk hn rfl⟩ (fun sz9 => ?_)
    refine r_widen (k2 := k + 64) (n2 := n + 64) (Nat.add_le_add_left (Nat.le_of_ble_eq_true rfl) _) (Nat.add_le_add_left (Nat.le_of_ble_eq_true rfl) _) ?_
    refine r_istore dL_law_1206 (by decide) rfl ?_
    refine r_aload_n dL_law_1208 rfl ?_
    refine s_arg (kq := 1) hL hi (by decide) (by decide) dL_law_1209 dL_law_1210 dL_law_1212 dL_law_1213 dL_law_1214 rfl rfl ?_
    refine s_arg (kq := 2) hL hi (by decide) (by decide) dL_law_1215 dL_law_1216 dL_law_1218 dL_law_1219 dL_law_1220 rfl rfl ?_
    refine s_arg (kq := 3) hL hi (by decide) (by decide) dL_law_1221 dL_law_1222 dL_law_1224 dL_law_1225 dL_law_1226 rfl rfl ?_
    refine s_arg (kq := 4) hL hi (by decide) (by decide) dL_law_1227 dL_law_1228 dL_law_1230 dL_law_1231 dL_law_1232 rfl rfl ?_
    refine r_cV0 (rest := []) (ct_X10_path hs hE g2) dL_law_1233 wd_1915 zX10_path wd_1916 wd_1917 rfl rfl rfl (fo10 (hE 153 (by decide))) rfl rfl ⟨Nat.le_of_ble_eq_true rfl, Nat.le_of_ble_eq_true rfl⟩ (Nat.le_of_ble_eq_true rfl) ⟨rfl, rfl⟩ (lkk hk hn) ?_
    refine r_istore dL_law_1236 (by decide) rfl ?_
    refine r_aload_n dL_law_1238 rfl ?_
    have t9 := g3.t
    refine r_cV0 (rest := []) (ct_X10_thrown (n := 0) hs hE rfl) dL_law_1239 wd_1621 zX10_thrown wd_1622 wd_1623 rfl rfl rfl (fo10 (hE 153 (by decide))) rfl rfl ⟨Nat.le_of_ble_eq_true rfl, Nat.le_of_ble_eq_true rfl⟩ (Nat.le_of_ble_eq_true rfl) ⟨rfl, rfl⟩ (lkk hk hn) ?_
    refine r_iload dL_law_1242 rfl ?_
    refine r_icmp_eq (tgt := 1249) dL_law_1244 (by decide) (fun _ => ?_) (fun q => absurd t9 q)
    refine r_iload dL_law_1249 rfl ?_
    refine r_if_ne (tgt := 1266) dL_law_1251 (by decide) (fun _ => ?_) (fun q => absurd q (thA_ne E9))
    refine r_goto (tgt := 4357) dL_law_1266 (by decide) ?_
    exact r_mask [true, true, true, true, true, true, false, false, false] rfl (hx _ _ _ _ _ _ _ _ (R.tt' g3))
  · have g3 : v9 = b9.1 ∧ Tt K 0 b9.2 := g3
    refine r_aload_n dL_law_1177 rfl ?_
    refine s_arg (kq := 1) hL hi (by decide) (by decide) dL_law_1178 dL_law_1179 dL_law_1181 dL_law_1182 dL_law_1183 rfl rfl ?_
    refine s_arg (kq := 2) hL hi (by decide) (by decide) dL_law_1184 dL_law_1185 dL_law_1187 dL_law_1188 dL_law_1189 rfl rfl ?_
    refine s_arg (kq := 3) hL hi (by decide) (by decide) dL_law_1190 dL_law_1191 dL_law_1193 dL_law_1194 dL_law_1195 rfl rfl ?_
    refine s_arg (kq := 4) hL hi (by decide) (by decide) dL_law_1196 dL_law_1197 dL_law_1199 dL_law_1200 dL_law_1201 rfl rfl ?_
    refine r_aload_n dL_law_1202 rfl ?_
    refine r_cSW1 (rest := []) (wo_path hs hE hT0 hT1 g1) dL_law_1203 wd_1013 zL_path wd_1014 rfl rfl rfl ⟨Nat.le_of_ble_eq_true rfl, Nat.le_of_ble_eq_true rfl⟩ (Nat.le_of_ble_eq_true rfl) ⟨lk hk rfl, lk hn rfl⟩ ?_
    refine r_widen (k2 := k + 64) (n2 := n + 64) (Nat.add_le_add_left (Nat.le_of_ble_eq_true rfl) _) (Nat.add_le_add_left (Nat.le_of_ble_eq_true rfl) _) ?_
    refine r_istore dL_law_1206 (by decide) rfl ?_
    refine r_aload_n dL_law_1208 rfl ?_
    refine s_arg (kq := 1) hL hi (by decide) (by decide) dL_law_1209 dL_law_1210 dL_law_1212 dL_law_1213 dL_law_1214 rfl rfl ?_
    refine s_arg (kq := 2) hL hi (by decide) (by decide) dL_law_1215 dL_law_1216 dL_law_1218 dL_law_1219 dL_law_1220 rfl rfl ?_
    refine s_arg (kq := 3) hL hi (by decide) (by decide) dL_law_1221 dL_law_1222 dL_law_1224 dL_law_1225 dL_law_1226 rfl rfl ?_
    refine s_arg (kq := 4) hL hi (by decide) (by decide) dL_law_1227 dL_law_1228 dL_law_1230 dL_law_1231 dL_law_1232 rfl rfl ?_
    refine r_cV0 (rest := []) (ct_X10_path hs hE g2) dL_law_1233 wd_1915 zX10_path wd_1916 wd_1917 rfl rfl rfl (fo10 (hE 153 (by decide))) rfl rfl ⟨Nat.le_of_ble_eq_true rfl, Nat.le_of_ble_eq_true rfl⟩ (Nat.le_of_ble_eq_true rfl) ⟨rfl, rfl⟩ (lkk hk hn) ?_
    refine r_istore dL_law_1236 (by decide) rfl ?_
    refine r_aload_n dL_law_1238 rfl ?_
    have t9 := g3.2.t
    refine r_cV0 (rest := []) (ct_X10_thrown (n := 0) hs hE rfl) dL_law_1239 wd_1621 zX10_thrown wd_1622 wd_1623 rfl rfl rfl (fo10 (hE 153 (by decide))) rfl rfl ⟨Nat.le_of_ble_eq_true rfl, Nat.le_of_ble_eq_true rfl⟩ (Nat.le_of_ble_eq_true rfl) ⟨rfl, rfl⟩ (lkk hk hn) ?_
    refine r_iload dL_law_1242 rfl ?_
    refine r_icmp_eq (tgt := 1249) dL_law_1244 (by decide) (fun _ => ?_) (fun q => absurd t9 q)
    refine r_iload dL_law_1249 rfl ?_
    refine r_if_ne (tgt := 1266) dL_law_1251 (by decide) (fun q => absurd rfl q) (fun _ => ?_)
    refine r_aload_n dL_law_1254 rfl ?_
    refine r_iconst (v := (0 : Int32)) dL_law_1255 (by decide) ?_
    refine a_laldc 0 dL_law_1256 (hE 170 (by decide)) (vpc rfl) rfl ?_
    refine r_tl sJ_self ?_
    refine r_iload dL_law_1257 rfl ?_
    refine r_i2l dL_law_1259 ?_
    refine r_lcmp dL_law_1260 ?_
    refine r_ti (y := 0) ((lg_cmp_eq _ _).mpr (congrArg Int32.toInt64 g3.1)) ?_
    refine r_if_eq (tgt := 1266) dL_law_1261 (by decide) (fun _ => ?_) (fun q => absurd rfl q)
    refine r_goto (tgt := 4357) dL_law_1266 (by decide) ?_
    exact r_mask [true, true, true, true, true, true, false, false, false] rfl (hx _ _ _ _ _ _ _ _ (R.tt' g3.2))
set_option maxHeartbeats 4000000 in
set_option maxRecDepth 100000 in
theorem lc_shortest {G : gG} {b Lx i : Nat} {xs : Nat → Int32} {lay : Nat → Nat × Nat} {T0 T1 : Nat} {Dd : Nat → Nat → UInt64} {I : gI} {J : gJ} {K : gI} {N : gJ} {sz k n : Nat} (hs : G.1.stackTraces = false) (hE : gLay lay) (R : Rel T0 T1 I K) (hL : Lx ≤ 3072) (hi : i + 6 ≤ Lx) (hk : k + 64 ≤ 601024) (hn : n + 64 ≤ 7293034) (hx : lNx G b Lx xs lay i k n) : gAt G mL_law (lQ G b Lx xs) 1269 (lLL G b i) [] (fO G (lay, T0, T1, Dd) I J K N) sz k n := by
  have hT0 : gTank lay T0 := gTk hE (R.tt.elim (fun h => Or.inl h.1) (fun h => Or.inr h.1))
  have hT1 : gTank lay T1 := gTk hE (R.tt.elim (fun h => Or.inr h.2) (fun h => Or.inl h.2))
  obtain ⟨r9, b9, g1, g2, g3⟩ := e_shortest (n := 30000) (by decide) R (xs (i + 1)) (xs (i + 2)) (xs (i + 3))
  rcases r9 with E9 | v9
  · have g3 : Tt K (thA E9) b9.2 := g3
    refine r_aload_n dL_law_1269 rfl ?_
    refine s_arg (kq := 1) hL hi (by decide) (by decide) dL_law_1270 dL_law_1271 dL_law_1273 dL_law_1274 dL_law_1275 rfl rfl ?_
    refine s_arg (kq := 2) hL hi (by decide) (by decide) dL_law_1276 dL_law_1277 dL_law_1279 dL_law_1280 dL_law_1281 rfl rfl ?_
    refine s_arg (kq := 3) hL hi (by decide) (by decide) dL_law_1282 dL_law_1283 dL_law_1285 dL_law_1286 dL_law_1287 rfl rfl ?_
    refine r_aload_n dL_law_1288 rfl ?_
    refine r_cSWs (rest := []) (we_shortest hs hE hT0 hT1 g1) dL_law_1289 wd_1025 zL_shortest wd_1026 rfl rfl rfl ⟨Nat.le_of_ble_eq_true rfl, Nat.le_of_ble_eq_true rfl⟩ (Nat.le_of_ble_eq_true rfl) ⟨lk hk rfl, lk hn rfl⟩ (fun sz9 => ?_)
    refine r_widen (k2 := k + 64) (n2 := n + 64) (Nat.add_le_add_left (Nat.le_of_ble_eq_true rfl) _) (Nat.add_le_add_left (Nat.le_of_ble_eq_true rfl) _) ?_
    refine r_istore dL_law_1292 (by decide) rfl ?_
    refine r_aload_n dL_law_1294 rfl ?_
    refine s_arg (kq := 1) hL hi (by decide) (by decide) dL_law_1295 dL_law_1296 dL_law_1298 dL_law_1299 dL_law_1300 rfl rfl ?_
    refine s_arg (kq := 2) hL hi (by decide) (by decide) dL_law_1301 dL_law_1302 dL_law_1304 dL_law_1305 dL_law_1306 rfl rfl ?_
    refine s_arg (kq := 3) hL hi (by decide) (by decide) dL_law_1307 dL_law_1308 dL_law_1310 dL_law_1311 dL_law_1312 rfl rfl ?_
    refine r_cV0 (rest := []) (ct_X10_shortest hs hE g2) dL_law_1313 wd_1923 zX10_shortest wd_1924 wd_1925 rfl rfl rfl (fo10 (hE 153 (by decide))) rfl rfl ⟨Nat.le_of_ble_eq_true rfl, Nat.le_of_ble_eq_true rfl⟩ (Nat.le_of_ble_eq_true rfl) ⟨rfl, rfl⟩ (lkk hk hn) ?_
    refine r_istore dL_law_1316 (by decide) rfl ?_
    refine r_aload_n dL_law_1318 rfl ?_
    have t9 := g3.t
    refine r_cV0 (rest := []) (ct_X10_thrown (n := 0) hs hE rfl) dL_law_1319 wd_1621 zX10_thrown wd_1622 wd_1623 rfl rfl rfl (fo10 (hE 153 (by decide))) rfl rfl ⟨Nat.le_of_ble_eq_true rfl, Nat.le_of_ble_eq_true rfl⟩ (Nat.le_of_ble_eq_true rfl) ⟨rfl, rfl⟩ (lkk hk hn) ?_
    refine r_iload dL_law_1322 rfl ?_
    refine r_icmp_eq (tgt := 1329) dL_law_1324 (by decide) (fun _ => ?_) (fun q => absurd t9 q)
    refine r_iload dL_law_1329 rfl ?_
    refine r_if_ne (tgt := 1346) dL_law_1331 (by decide) (fun _ => ?_) (fun q => absurd q (thA_ne E9))
    refine r_goto (tgt := 4357) dL_law_1346 (by decide) ?_
    exact r_mask [true, true, true, true, true, true, false, false, false] rfl (hx _ _ _ _ _ _ _ _ (R.tt' g3))
  · have g3 : v9 = b9.1 ∧ Tt K 0 b9.2 := g3
    refine r_aload_n dL_law_1269 rfl ?_
    refine s_arg (kq := 1) hL hi (by decide) (by decide) dL_law_1270 dL_law_1271 dL_law_1273 dL_law_1274 dL_law_1275 rfl rfl ?_
    refine s_arg (kq := 2) hL hi (by decide) (by decide) dL_law_1276 dL_law_1277 dL_law_1279 dL_law_1280 dL_law_1281 rfl rfl ?_
    refine s_arg (kq := 3) hL hi (by decide) (by decide) dL_law_1282 dL_law_1283 dL_law_1285 dL_law_1286 dL_law_1287 rfl rfl ?_
    refine r_aload_n dL_law_1288 rfl ?_
    refine r_cSW1 (rest := []) (wo_shortest hs hE hT0 hT1 g1) dL_law_1289 wd_1025 zL_shortest wd_1026 rfl rfl rfl ⟨Nat.le_of_ble_eq_true rfl, Nat.le_of_ble_eq_true rfl⟩ (Nat.le_of_ble_eq_true rfl) ⟨lk hk rfl, lk hn rfl⟩ ?_
    refine r_widen (k2 := k + 64) (n2 := n + 64) (Nat.add_le_add_left (Nat.le_of_ble_eq_true rfl) _) (Nat.add_le_add_left (Nat.le_of_ble_eq_true rfl) _) ?_
    refine r_istore dL_law_1292 (by decide) rfl ?_
    refine r_aload_n dL_law_1294 rfl ?_
    refine s_arg (kq := 1) hL hi (by decide) (by decide) dL_law_1295 dL_law_1296 dL_law_1298 dL_law_1299 dL_law_1300 rfl rfl ?_
    refine s_arg (kq := 2) hL hi (by decide) (by decide) dL_law_1301 dL_law_1302 dL_law_1304 dL_law_1305 dL_law_1306 rfl rfl ?_
    refine s_arg (kq := 3) hL hi (by decide) (by decide) dL_law_1307 dL_law_1308 dL_law_1310 dL_law_1311 dL_law_1312 rfl rfl ?_
    refine r_cV0 (rest := []) (ct_X10_shortest hs hE g2) dL_law_1313 wd_1923 zX10_shortest wd_1924 wd_1925 rfl rfl rfl (fo10 (hE 153 (by decide))) rfl rfl ⟨Nat.le_of_ble_eq_true rfl, Nat.le_of_ble_eq_true rfl⟩ (Nat.le_of_ble_eq_true rfl) ⟨rfl, rfl⟩ (lkk hk hn) ?_
    refine r_istore dL_law_1316 (by decide) rfl ?_
    refine r_aload_n dL_law_1318 rfl ?_
    have t9 := g3.2.t
    refine r_cV0 (rest := []) (ct_X10_thrown (n := 0) hs hE rfl) dL_law_1319 wd_1621 zX10_thrown wd_1622 wd_1623 rfl rfl rfl (fo10 (hE 153 (by decide))) rfl rfl ⟨Nat.le_of_ble_eq_true rfl, Nat.le_of_ble_eq_true rfl⟩ (Nat.le_of_ble_eq_true rfl) ⟨rfl, rfl⟩ (lkk hk hn) ?_
    refine r_iload dL_law_1322 rfl ?_
    refine r_icmp_eq (tgt := 1329) dL_law_1324 (by decide) (fun _ => ?_) (fun q => absurd t9 q)
    refine r_iload dL_law_1329 rfl ?_
    refine r_if_ne (tgt := 1346) dL_law_1331 (by decide) (fun q => absurd rfl q) (fun _ => ?_)
    refine r_aload_n dL_law_1334 rfl ?_
    refine r_iconst (v := (0 : Int32)) dL_law_1335 (by decide) ?_
    refine a_laldc 0 dL_law_1336 (hE 170 (by decide)) (vpc rfl) rfl ?_
    refine r_tl sJ_self ?_
    refine r_iload dL_law_1337 rfl ?_
    refine r_i2l dL_law_1339 ?_
    refine r_lcmp dL_law_1340 ?_
    refine r_ti (y := 0) ((lg_cmp_eq _ _).mpr (congrArg Int32.toInt64 g3.1)) ?_
    refine r_if_eq (tgt := 1346) dL_law_1341 (by decide) (fun _ => ?_) (fun q => absurd rfl q)
    refine r_goto (tgt := 4357) dL_law_1346 (by decide) ?_
    exact r_mask [true, true, true, true, true, true, false, false, false] rfl (hx _ _ _ _ _ _ _ _ (R.tt' g3.2))
set_option maxHeartbeats 4000000 in
set_option maxRecDepth 100000 in
theorem lc_phase {G : gG} {b Lx i : Nat} {xs : Nat → Int32} {lay : Nat → Nat × Nat} {T0 T1 : Nat} {Dd : Nat → Nat → UInt64} {I : gI} {J : gJ} {K : gI} {N : gJ} {sz k n : Nat} (hs : G.1.stackTraces = false) (hE : gLay lay) (R : Rel T0 T1 I K) (hL : Lx ≤ 3072) (hi : i + 6 ≤ Lx) (hk : k + 64 ≤ 601024) (hn : n + 64 ≤ 7293034) (hx : lNx G b Lx xs lay i k n) : gAt G mL_law (lQ G b Lx xs) 1349 (lLL G b i) [] (fO G (lay, T0, T1, Dd) I J K N) sz k n := by
  have hT0 : gTank lay T0 := gTk hE (R.tt.elim (fun h => Or.inl h.1) (fun h => Or.inr h.1))
  have hT1 : gTank lay T1 := gTk hE (R.tt.elim (fun h => Or.inr h.2) (fun h => Or.inl h.2))
  obtain ⟨r9, b9, g1, g2, g3⟩ := e_phase (n := 30000) (by decide) R (xs (i + 1)) (xs (i + 2)) (xs (i + 3))
  rcases r9 with E9 | v9
  · have g3 : Tt K (thA E9) b9.2 := g3
    refine r_aload_n dL_law_1349 rfl ?_
    refine s_arg (kq := 1) hL hi (by decide) (by decide) dL_law_1350 dL_law_1351 dL_law_1353 dL_law_1354 dL_law_1355 rfl rfl ?_
    refine s_arg (kq := 2) hL hi (by decide) (by decide) dL_law_1356 dL_law_1357 dL_law_1359 dL_law_1360 dL_law_1361 rfl rfl ?_
    refine s_arg (kq := 3) hL hi (by decide) (by decide) dL_law_1362 dL_law_1363 dL_law_1365 dL_law_1366 dL_law_1367 rfl rfl ?_
    refine r_aload_n dL_law_1368 rfl ?_
    refine r_cSWs (rest := []) (we_phase hs hE hT0 hT1 g1) dL_law_1369 wd_1045 zL_phase wd_1046 rfl rfl rfl ⟨Nat.le_of_ble_eq_true rfl, Nat.le_of_ble_eq_true rfl⟩ (Nat.le_of_ble_eq_true rfl) ⟨lk hk rfl, lk hn rfl⟩ (fun sz9 => ?_)
    refine r_widen (k2 := k + 64) (n2 := n + 64) (Nat.add_le_add_left (Nat.le_of_ble_eq_true rfl) _) (Nat.add_le_add_left (Nat.le_of_ble_eq_true rfl) _) ?_
    refine r_istore dL_law_1372 (by decide) rfl ?_
    refine r_aload_n dL_law_1374 rfl ?_
    refine s_arg (kq := 1) hL hi (by decide) (by decide) dL_law_1375 dL_law_1376 dL_law_1378 dL_law_1379 dL_law_1380 rfl rfl ?_
    refine s_arg (kq := 2) hL hi (by decide) (by decide) dL_law_1381 dL_law_1382 dL_law_1384 dL_law_1385 dL_law_1386 rfl rfl ?_
    refine s_arg (kq := 3) hL hi (by decide) (by decide) dL_law_1387 dL_law_1388 dL_law_1390 dL_law_1391 dL_law_1392 rfl rfl ?_
    refine r_cV0 (rest := []) (ct_X10_phase hs hE g2) dL_law_1393 wd_1935 zX10_phase wd_1936 wd_1937 rfl rfl rfl (fo10 (hE 153 (by decide))) rfl rfl ⟨Nat.le_of_ble_eq_true rfl, Nat.le_of_ble_eq_true rfl⟩ (Nat.le_of_ble_eq_true rfl) ⟨rfl, rfl⟩ (lkk hk hn) ?_
    refine r_istore dL_law_1396 (by decide) rfl ?_
    refine r_aload_n dL_law_1398 rfl ?_
    have t9 := g3.t
    refine r_cV0 (rest := []) (ct_X10_thrown (n := 0) hs hE rfl) dL_law_1399 wd_1621 zX10_thrown wd_1622 wd_1623 rfl rfl rfl (fo10 (hE 153 (by decide))) rfl rfl ⟨Nat.le_of_ble_eq_true rfl, Nat.le_of_ble_eq_true rfl⟩ (Nat.le_of_ble_eq_true rfl) ⟨rfl, rfl⟩ (lkk hk hn) ?_
    refine r_iload dL_law_1402 rfl ?_
    refine r_icmp_eq (tgt := 1409) dL_law_1404 (by decide) (fun _ => ?_) (fun q => absurd t9 q)
    refine r_iload dL_law_1409 rfl ?_
    refine r_if_ne (tgt := 1426) dL_law_1411 (by decide) (fun _ => ?_) (fun q => absurd q (thA_ne E9))
    refine r_goto (tgt := 4357) dL_law_1426 (by decide) ?_
    exact r_mask [true, true, true, true, true, true, false, false, false] rfl (hx _ _ _ _ _ _ _ _ (R.tt' g3))
  · have g3 : v9 = b9.1 ∧ Tt K 0 b9.2 := g3
    refine r_aload_n dL_law_1349 rfl ?_
    refine s_arg (kq := 1) hL hi (by decide) (by decide) dL_law_1350 dL_law_1351 dL_law_1353 dL_law_1354 dL_law_1355 rfl rfl ?_
    refine s_arg (kq := 2) hL hi (by decide) (by decide) dL_law_1356 dL_law_1357 dL_law_1359 dL_law_1360 dL_law_1361 rfl rfl ?_
    refine s_arg (kq := 3) hL hi (by decide) (by decide) dL_law_1362 dL_law_1363 dL_law_1365 dL_law_1366 dL_law_1367 rfl rfl ?_
    refine r_aload_n dL_law_1368 rfl ?_
    refine r_cSW1 (rest := []) (wo_phase hs hE hT0 hT1 g1) dL_law_1369 wd_1045 zL_phase wd_1046 rfl rfl rfl ⟨Nat.le_of_ble_eq_true rfl, Nat.le_of_ble_eq_true rfl⟩ (Nat.le_of_ble_eq_true rfl) ⟨lk hk rfl, lk hn rfl⟩ ?_
    refine r_widen (k2 := k + 64) (n2 := n + 64) (Nat.add_le_add_left (Nat.le_of_ble_eq_true rfl) _) (Nat.add_le_add_left (Nat.le_of_ble_eq_true rfl) _) ?_
    refine r_istore dL_law_1372 (by decide) rfl ?_
    refine r_aload_n dL_law_1374 rfl ?_
    refine s_arg (kq := 1) hL hi (by decide) (by decide) dL_law_1375 dL_law_1376 dL_law_1378 dL_law_1379 dL_law_1380 rfl rfl ?_
    refine s_arg (kq := 2) hL hi (by decide) (by decide) dL_law_1381 dL_law_1382 dL_law_1384 dL_law_1385 dL_law_1386 rfl rfl ?_
    refine s_arg (kq := 3) hL hi (by decide) (by decide) dL_law_1387 dL_law_1388 dL_law_1390 dL_law_1391 dL_law_1392 rfl rfl ?_
    refine r_cV0 (rest := []) (ct_X10_phase hs hE g2) dL_law_1393 wd_1935 zX10_phase wd_1936 wd_1937 rfl rfl rfl (fo10 (hE 153 (by decide))) rfl rfl ⟨Nat.le_of_ble_eq_true rfl, Nat.le_of_ble_eq_true rfl⟩ (Nat.le_of_ble_eq_true rfl) ⟨rfl, rfl⟩ (lkk hk hn) ?_
    refine r_istore dL_law_1396 (by decide) rfl ?_
    refine r_aload_n dL_law_1398 rfl ?_
    have t9 := g3.2.t
    refine r_cV0 (rest := []) (ct_X10_thrown (n := 0) hs hE rfl) dL_law_1399 wd_1621 zX10_thrown wd_1622 wd_1623 rfl rfl rfl (fo10 (hE 153 (by decide))) rfl rfl ⟨Nat.le_of_ble_eq_true rfl, Nat.le_of_ble_eq_true rfl⟩ (Nat.le_of_ble_eq_true rfl) ⟨rfl, rfl⟩ (lkk hk hn) ?_
    refine r_iload dL_law_1402 rfl ?_
    refine r_icmp_eq (tgt := 1409) dL_law_1404 (by decide) (fun _ => ?_) (fun q => absurd t9 q)
    refine r_iload dL_law_1409 rfl ?_
    refine r_if_ne (tgt := 1426) dL_law_1411 (by decide) (fun q => absurd rfl q) (fun _ => ?_)
    refine r_aload_n dL_law_1414 rfl ?_
    refine r_iconst (v := (0 : Int32)) dL_law_1415 (by decide) ?_
    refine a_laldc 0 dL_law_1416 (hE 170 (by decide)) (vpc rfl) rfl ?_
    refine r_tl sJ_self ?_
    refine r_iload dL_law_1417 rfl ?_
    refine r_i2l dL_law_1419 ?_
    refine r_lcmp dL_law_1420 ?_
    refine r_ti (y := 0) ((lg_cmp_eq _ _).mpr (congrArg Int32.toInt64 g3.1)) ?_
    refine r_if_eq (tgt := 1426) dL_law_1421 (by decide) (fun _ => ?_) (fun q => absurd rfl q)
    refine r_goto (tgt := 4357) dL_law_1426 (by decide) ?_
    exact r_mask [true, true, true, true, true, true, false, false, false] rfl (hx _ _ _ _ _ _ _ _ (R.tt' g3.2))
set_option maxHeartbeats 4000000 in
set_option maxRecDepth 100000 in
theorem lc_arrival {G : gG} {b Lx i : Nat} {xs : Nat → Int32} {lay : Nat → Nat × Nat} {T0 T1 : Nat} {Dd : Nat → Nat → UInt64} {I : gI} {J : gJ} {K : gI} {N : gJ} {sz k n : Nat} (hs : G.1.stackTraces = false) (hE : gLay lay) (R : Rel T0 T1 I K) (hL : Lx ≤ 3072) (hi : i + 6 ≤ Lx) (hk : k + 64 ≤ 601024) (hn : n + 64 ≤ 7293034) (hx : lNx G b Lx xs lay i k n) : gAt G mL_law (lQ G b Lx xs) 1429 (lLL G b i) [] (fO G (lay, T0, T1, Dd) I J K N) sz k n := by
  have hT0 : gTank lay T0 := gTk hE (R.tt.elim (fun h => Or.inl h.1) (fun h => Or.inr h.1))
  have hT1 : gTank lay T1 := gTk hE (R.tt.elim (fun h => Or.inr h.2) (fun h => Or.inl h.2))
  obtain ⟨r9, b9, g1, g2, g3⟩ := e_arrival (n := 30000) (by decide) R (xs (i + 1)) (xs (i + 2)) (xs (i + 3))
  rcases r9 with E9 | v9
  · have g3 : Tt K (thA E9) b9.2 := g3
    refine r_aload_n dL_law_1429 rfl ?_
    refine s_arg (kq := 1) hL hi (by decide) (by decide) dL_law_1430 dL_law_1431 dL_law_1433 dL_law_1434 dL_law_1435 rfl rfl ?_
    refine s_arg (kq := 2) hL hi (by decide) (by decide) dL_law_1436 dL_law_1437 dL_law_1439 dL_law_1440 dL_law_1441 rfl rfl ?_
    refine s_arg (kq := 3) hL hi (by decide) (by decide) dL_law_1442 dL_law_1443 dL_law_1445 dL_law_1446 dL_law_1447 rfl rfl ?_
    refine r_aload_n dL_law_1448 rfl ?_
    refine r_cSWs (rest := []) (we_arrival hs hE hT0 hT1 g1) dL_law_1449 wd_1059 zL_arrival wd_1060 rfl rfl rfl ⟨Nat.le_of_ble_eq_true rfl, Nat.le_of_ble_eq_true rfl⟩ (Nat.le_of_ble_eq_true rfl) ⟨lk hk rfl, lk hn rfl⟩ (fun sz9 => ?_)
    refine r_widen (k2 := k + 64) (n2 := n + 64) (Nat.add_le_add_left (Nat.le_of_ble_eq_true rfl) _) (Nat.add_le_add_left (Nat.le_of_ble_eq_true rfl) _) ?_
    refine r_istore dL_law_1452 (by decide) rfl ?_
    refine r_aload_n dL_law_1454 rfl ?_
    refine s_arg (kq := 1) hL hi (by decide) (by decide) dL_law_1455 dL_law_1456 dL_law_1458 dL_law_1459 dL_law_1460 rfl rfl ?_
    refine s_arg (kq := 2) hL hi (by decide) (by decide) dL_law_1461 dL_law_1462 dL_law_1464 dL_law_1465 dL_law_1466 rfl rfl ?_
    refine s_arg (kq := 3) hL hi (by decide) (by decide) dL_law_1467 dL_law_1468 dL_law_1470 dL_law_1471 dL_law_1472 rfl rfl ?_
    refine r_cV0 (rest := []) (ct_X10_arrival hs hE g2) dL_law_1473 wd_1943 zX10_arrival wd_1944 wd_1945 rfl rfl rfl (fo10 (hE 153 (by decide))) rfl rfl ⟨Nat.le_of_ble_eq_true rfl, Nat.le_of_ble_eq_true rfl⟩ (Nat.le_of_ble_eq_true rfl) ⟨rfl, rfl⟩ (lkk hk hn) ?_
    refine r_istore dL_law_1476 (by decide) rfl ?_
    refine r_aload_n dL_law_1478 rfl ?_
    have t9 := g3.t
    refine r_cV0 (rest := []) (ct_X10_thrown (n := 0) hs hE rfl) dL_law_1479 wd_1621 zX10_thrown wd_1622 wd_1623 rfl rfl rfl (fo10 (hE 153 (by decide))) rfl rfl ⟨Nat.le_of_ble_eq_true rfl, Nat.le_of_ble_eq_true rfl⟩ (Nat.le_of_ble_eq_true rfl) ⟨rfl, rfl⟩ (lkk hk hn) ?_
    refine r_iload dL_law_1482 rfl ?_
    refine r_icmp_eq (tgt := 1489) dL_law_1484 (by decide) (fun _ => ?_) (fun q => absurd t9 q)
    refine r_iload dL_law_1489 rfl ?_
    refine r_if_ne (tgt := 1506) dL_law_1491 (by decide) (fun _ => ?_) (fun q => absurd q (thA_ne E9))
    refine r_goto (tgt := 4357) dL_law_1506 (by decide) ?_
    exact r_mask [true, true, true, true, true, true, false, false, false] rfl (hx _ _ _ _ _ _ _ _ (R.tt' g3))
  · have g3 : v9 = b9.1 ∧ Tt K 0 b9.2 := g3
    refine r_aload_n dL_law_1429 rfl ?_
    refine s_arg (kq := 1) hL hi (by decide) (by decide) dL_law_1430 dL_law_1431 dL_law_1433 dL_law_1434 dL_law_1435 rfl rfl ?_
    refine s_arg (kq := 2) hL hi (by decide) (by decide) dL_law_1436 dL_law_1437 dL_law_1439 dL_law_1440 dL_law_1441 rfl rfl ?_
    refine s_arg (kq := 3) hL hi (by decide) (by decide) dL_law_1442 dL_law_1443 dL_law_1445 dL_law_1446 dL_law_1447 rfl rfl ?_
    refine r_aload_n dL_law_1448 rfl ?_
    refine r_cSW1 (rest := []) (wo_arrival hs hE hT0 hT1 g1) dL_law_1449 wd_1059 zL_arrival wd_1060 rfl rfl rfl ⟨Nat.le_of_ble_eq_true rfl, Nat.le_of_ble_eq_true rfl⟩ (Nat.le_of_ble_eq_true rfl) ⟨lk hk rfl, lk hn rfl⟩ ?_
    refine r_widen (k2 := k + 64) (n2 := n + 64) (Nat.add_le_add_left (Nat.le_of_ble_eq_true rfl) _) (Nat.add_le_add_left (Nat.le_of_ble_eq_true rfl) _) ?_
    refine r_istore dL_law_1452 (by decide) rfl ?_
    refine r_aload_n dL_law_1454 rfl ?_
    refine s_arg (kq := 1) hL hi (by decide) (by decide) dL_law_1455 dL_law_1456 dL_law_1458 dL_law_1459 dL_law_1460 rfl rfl ?_
    refine s_arg (kq := 2) hL hi (by decide) (by decide) dL_law_1461 dL_law_1462 dL_law_1464 dL_law_1465 dL_law_1466 rfl rfl ?_
    refine s_arg (kq := 3) hL hi (by decide) (by decide) dL_law_1467 dL_law_1468 dL_law_1470 dL_law_1471 dL_law_1472 rfl rfl ?_
    refine r_cV0 (rest := []) (ct_X10_arrival hs hE g2) dL_law_1473 wd_1943 zX10_arrival wd_1944 wd_1945 rfl rfl rfl (fo10 (hE 153 (by decide))) rfl rfl ⟨Nat.le_of_ble_eq_true rfl, Nat.le_of_ble_eq_true rfl⟩ (Nat.le_of_ble_eq_true rfl) ⟨rfl, rfl⟩ (lkk hk hn) ?_
    refine r_istore dL_law_1476 (by decide) rfl ?_
    refine r_aload_n dL_law_1478 rfl ?_
    have t9 := g3.2.t
    refine r_cV0 (rest := []) (ct_X10_thrown (n := 0) hs hE rfl) dL_law_1479 wd_1621 zX10_thrown wd_1622 wd_1623 rfl rfl rfl (fo10 (hE 153 (by decide))) rfl rfl ⟨Nat.le_of_ble_eq_true rfl, Nat.le_of_ble_eq_true rfl⟩ (Nat.le_of_ble_eq_true rfl) ⟨rfl, rfl⟩ (lkk hk hn) ?_
    refine r_iload dL_law_1482 rfl ?_
    refine r_icmp_eq (tgt := 1489) dL_law_1484 (by decide) (fun _ => ?_) (fun q => absurd t9 q)
    refine r_iload dL_law_1489 rfl ?_
    refine r_if_ne (tgt := 1506) dL_law_1491 (by decide) (fun q => absurd rfl q) (fun _ => ?_)
    refine r_aload_n dL_law_1494 rfl ?_
    refine r_iconst (v := (0 : Int32)) dL_law_1495 (by decide) ?_
    refine a_laldc 0 dL_law_1496 (hE 170 (by decide)) (vpc rfl) rfl ?_
    refine r_tl sJ_self ?_
    refine r_iload dL_law_1497 rfl ?_
    refine r_i2l dL_law_1499 ?_
    refine r_lcmp dL_law_1500 ?_
    refine r_ti (y := 0) ((lg_cmp_eq _ _).mpr (congrArg Int32.toInt64 g3.1)) ?_
    refine r_if_eq (tgt := 1506) dL_law_1501 (by decide) (fun _ => ?_) (fun q => absurd rfl q)
    refine r_goto (tgt := 4357) dL_law_1506 (by decide) ?_
    exact r_mask [true, true, true, true, true, true, false, false, false] rfl (hx _ _ _ _ _ _ _ _ (R.tt' g3.2))
set_option maxHeartbeats 4000000 in
set_option maxRecDepth 100000 in
theorem lc_reached {G : gG} {b Lx i : Nat} {xs : Nat → Int32} {lay : Nat → Nat × Nat} {T0 T1 : Nat} {Dd : Nat → Nat → UInt64} {I : gI} {J : gJ} {K : gI} {N : gJ} {sz k n : Nat} (hs : G.1.stackTraces = false) (hE : gLay lay) (R : Rel T0 T1 I K) (hL : Lx ≤ 3072) (hi : i + 6 ≤ Lx) (hk : k + 64 ≤ 601024) (hn : n + 64 ≤ 7293034) (hx : lNx G b Lx xs lay i k n) : gAt G mL_law (lQ G b Lx xs) 1509 (lLL G b i) [] (fO G (lay, T0, T1, Dd) I J K N) sz k n := by
  have hT0 : gTank lay T0 := gTk hE (R.tt.elim (fun h => Or.inl h.1) (fun h => Or.inr h.1))
  have hT1 : gTank lay T1 := gTk hE (R.tt.elim (fun h => Or.inr h.2) (fun h => Or.inl h.2))
  obtain ⟨r9, b9, g1, g2, g3⟩ := e_reached (n := 30000) (by decide) R (xs (i + 1))
  rcases r9 with E9 | v9
  · have g3 : Tt K (thA E9) b9.2 := g3
    refine r_aload_n dL_law_1509 rfl ?_
    refine s_arg (kq := 1) hL hi (by decide) (by decide) dL_law_1510 dL_law_1511 dL_law_1513 dL_law_1514 dL_law_1515 rfl rfl ?_
    refine r_aload_n dL_law_1516 rfl ?_
    refine r_cSWs (rest := []) (we_reached hs hE hT0 hT1 g1) dL_law_1517 wd_1075 zL_reached wd_1076 rfl rfl rfl ⟨Nat.le_of_ble_eq_true rfl, Nat.le_of_ble_eq_true rfl⟩ (Nat.le_of_ble_eq_true rfl) ⟨lk hk rfl, lk hn rfl⟩ (fun sz9 => ?_)
    refine r_widen (k2 := k + 64) (n2 := n + 64) (Nat.add_le_add_left (Nat.le_of_ble_eq_true rfl) _) (Nat.add_le_add_left (Nat.le_of_ble_eq_true rfl) _) ?_
    refine r_istore dL_law_1520 (by decide) rfl ?_
    refine r_aload_n dL_law_1522 rfl ?_
    refine s_arg (kq := 1) hL hi (by decide) (by decide) dL_law_1523 dL_law_1524 dL_law_1526 dL_law_1527 dL_law_1528 rfl rfl ?_
    refine r_cV0 (rest := []) (ct_X10_reached hs hE g2) dL_law_1529 wd_1955 zX10_reached wd_1956 wd_1957 rfl rfl rfl (fo10 (hE 153 (by decide))) rfl rfl ⟨Nat.le_of_ble_eq_true rfl, Nat.le_of_ble_eq_true rfl⟩ (Nat.le_of_ble_eq_true rfl) ⟨rfl, rfl⟩ (lkk hk hn) ?_
    refine r_istore dL_law_1532 (by decide) rfl ?_
    refine r_aload_n dL_law_1534 rfl ?_
    have t9 := g3.t
    refine r_cV0 (rest := []) (ct_X10_thrown (n := 0) hs hE rfl) dL_law_1535 wd_1621 zX10_thrown wd_1622 wd_1623 rfl rfl rfl (fo10 (hE 153 (by decide))) rfl rfl ⟨Nat.le_of_ble_eq_true rfl, Nat.le_of_ble_eq_true rfl⟩ (Nat.le_of_ble_eq_true rfl) ⟨rfl, rfl⟩ (lkk hk hn) ?_
    refine r_iload dL_law_1538 rfl ?_
    refine r_icmp_eq (tgt := 1545) dL_law_1540 (by decide) (fun _ => ?_) (fun q => absurd t9 q)
    refine r_iload dL_law_1545 rfl ?_
    refine r_if_ne (tgt := 1562) dL_law_1547 (by decide) (fun _ => ?_) (fun q => absurd q (thA_ne E9))
    refine r_goto (tgt := 4357) dL_law_1562 (by decide) ?_
    exact r_mask [true, true, true, true, true, true, false, false, false] rfl (hx _ _ _ _ _ _ _ _ (R.tt' g3))
  · have g3 : v9 = b9.1 ∧ Tt K 0 b9.2 := g3
    refine r_aload_n dL_law_1509 rfl ?_
    refine s_arg (kq := 1) hL hi (by decide) (by decide) dL_law_1510 dL_law_1511 dL_law_1513 dL_law_1514 dL_law_1515 rfl rfl ?_
    refine r_aload_n dL_law_1516 rfl ?_
    refine r_cSW1 (rest := []) (wo_reached hs hE hT0 hT1 g1) dL_law_1517 wd_1075 zL_reached wd_1076 rfl rfl rfl ⟨Nat.le_of_ble_eq_true rfl, Nat.le_of_ble_eq_true rfl⟩ (Nat.le_of_ble_eq_true rfl) ⟨lk hk rfl, lk hn rfl⟩ ?_
    refine r_widen (k2 := k + 64) (n2 := n + 64) (Nat.add_le_add_left (Nat.le_of_ble_eq_true rfl) _) (Nat.add_le_add_left (Nat.le_of_ble_eq_true rfl) _) ?_
    refine r_istore dL_law_1520 (by decide) rfl ?_
    refine r_aload_n dL_law_1522 rfl ?_
    refine s_arg (kq := 1) hL hi (by decide) (by decide) dL_law_1523 dL_law_1524 dL_law_1526 dL_law_1527 dL_law_1528 rfl rfl ?_
    refine r_cV0 (rest := []) (ct_X10_reached hs hE g2) dL_law_1529 wd_1955 zX10_reached wd_1956 wd_1957 rfl rfl rfl (fo10 (hE 153 (by decide))) rfl rfl ⟨Nat.le_of_ble_eq_true rfl, Nat.le_of_ble_eq_true rfl⟩ (Nat.le_of_ble_eq_true rfl) ⟨rfl, rfl⟩ (lkk hk hn) ?_
    refine r_istore dL_law_1532 (by decide) rfl ?_
    refine r_aload_n dL_law_1534 rfl ?_
    have t9 := g3.2.t
    refine r_cV0 (rest := []) (ct_X10_thrown (n := 0) hs hE rfl) dL_law_1535 wd_1621 zX10_thrown wd_1622 wd_1623 rfl rfl rfl (fo10 (hE 153 (by decide))) rfl rfl ⟨Nat.le_of_ble_eq_true rfl, Nat.le_of_ble_eq_true rfl⟩ (Nat.le_of_ble_eq_true rfl) ⟨rfl, rfl⟩ (lkk hk hn) ?_
    refine r_iload dL_law_1538 rfl ?_
    refine r_icmp_eq (tgt := 1545) dL_law_1540 (by decide) (fun _ => ?_) (fun q => absurd t9 q)
    refine r_iload dL_law_1545 rfl ?_
    refine r_if_ne (tgt := 1562) dL_law_1547 (by decide) (fun q => absurd rfl q) (fun _ => ?_)
    refine r_aload_n dL_law_1550 rfl ?_
    refine r_iconst (v := (0 : Int32)) dL_law_1551 (by decide) ?_
    refine a_laldc 0 dL_law_1552 (hE 170 (by decide)) (vpc rfl) rfl ?_
    refine r_tl sJ_self ?_
    refine r_iload dL_law_1553 rfl ?_
    refine r_i2l dL_law_1555 ?_
    refine r_lcmp dL_law_1556 ?_
    refine r_ti (y := 0) ((lg_cmp_eq _ _).mpr (congrArg Int32.toInt64 g3.1)) ?_
    refine r_if_eq (tgt := 1562) dL_law_1557 (by decide) (fun _ => ?_) (fun q => absurd rfl q)
    refine r_goto (tgt := 4357) dL_law_1562 (by decide) ?_
    exact r_mask [true, true, true, true, true, true, false, false, false] rfl (hx _ _ _ _ _ _ _ _ (R.tt' g3.2))
set_option maxHeartbeats 4000000 in
set_option maxRecDepth 100000 in
theorem lc_part {G : gG} {b Lx i : Nat} {xs : Nat → Int32} {lay : Nat → Nat × Nat} {T0 T1 : Nat} {Dd : Nat → Nat → UInt64} {I : gI} {J : gJ} {K : gI} {N : gJ} {sz k n : Nat} (hs : G.1.stackTraces = false) (hE : gLay lay) (R : Rel T0 T1 I K) (hL : Lx ≤ 3072) (hi : i + 6 ≤ Lx) (hk : k + 64 ≤ 601024) (hn : n + 64 ≤ 7293034) (hx : lNx G b Lx xs lay i k n) : gAt G mL_law (lQ G b Lx xs) 1565 (lLL G b i) [] (fO G (lay, T0, T1, Dd) I J K N) sz k n := by
  have hT0 : gTank lay T0 := gTk hE (R.tt.elim (fun h => Or.inl h.1) (fun h => Or.inr h.1))
  have hT1 : gTank lay T1 := gTk hE (R.tt.elim (fun h => Or.inr h.2) (fun h => Or.inl h.2))
  obtain ⟨r9, b9, g1, g2, g3⟩ := e_part (n := 30000) (by decide) R (xs (i + 1)) (xs (i + 2)) (xs (i + 3))
  rcases r9 with E9 | v9
  · have g3 : Tt K (thA E9) b9.2 := g3
    refine r_aload_n dL_law_1565 rfl ?_
    refine s_arg (kq := 1) hL hi (by decide) (by decide) dL_law_1566 dL_law_1567 dL_law_1569 dL_law_1570 dL_law_1571 rfl rfl ?_
    refine s_arg (kq := 2) hL hi (by decide) (by decide) dL_law_1572 dL_law_1573 dL_law_1575 dL_law_1576 dL_law_1577 rfl rfl ?_
    refine s_arg (kq := 3) hL hi (by decide) (by decide) dL_law_1578 dL_law_1579 dL_law_1581 dL_law_1582 dL_law_1583 rfl rfl ?_
    refine r_aload_n dL_law_1584 rfl ?_
    refine r_cSWs (rest := []) (we_part hs hE hT0 hT1 g1) dL_law_1585 wd_1082 zL_part wd_1083 rfl rfl rfl ⟨Nat.le_of_ble_eq_true rfl, Nat.le_of_ble_eq_true rfl⟩ (Nat.le_of_ble_eq_true rfl) ⟨lk hk rfl, lk hn rfl⟩ (fun sz9 => ?_)
    refine r_widen (k2 := k + 64) (n2 := n + 64) (Nat.add_le_add_left (Nat.le_of_ble_eq_true rfl) _) (Nat.add_le_add_left (Nat.le_of_ble_eq_true rfl) _) ?_
    refine r_istore dL_law_1588 (by decide) rfl ?_
    refine r_aload_n dL_law_1590 rfl ?_
    refine s_arg (kq := 1) hL hi (by decide) (by decide) dL_law_1591 dL_law_1592 dL_law_1594 dL_law_1595 dL_law_1596 rfl rfl ?_
    refine s_arg (kq := 2) hL hi (by decide) (by decide) dL_law_1597 dL_law_1598 dL_law_1600 dL_law_1601 dL_law_1602 rfl rfl ?_
    refine s_arg (kq := 3) hL hi (by decide) (by decide) dL_law_1603 dL_law_1604 dL_law_1606 dL_law_1607 dL_law_1608 rfl rfl ?_
    refine r_cV0 (rest := []) (ct_X10_part hs hE g2) dL_law_1609 wd_2017 zX10_part wd_2018 wd_2019 rfl rfl rfl (fo10 (hE 153 (by decide))) rfl rfl ⟨Nat.le_of_ble_eq_true rfl, Nat.le_of_ble_eq_true rfl⟩ (Nat.le_of_ble_eq_true rfl) ⟨rfl, rfl⟩ (lkk hk hn) ?_
    refine r_istore dL_law_1612 (by decide) rfl ?_
    refine r_aload_n dL_law_1614 rfl ?_
    have t9 := g3.t
    refine r_cV0 (rest := []) (ct_X10_thrown (n := 0) hs hE rfl) dL_law_1615 wd_1621 zX10_thrown wd_1622 wd_1623 rfl rfl rfl (fo10 (hE 153 (by decide))) rfl rfl ⟨Nat.le_of_ble_eq_true rfl, Nat.le_of_ble_eq_true rfl⟩ (Nat.le_of_ble_eq_true rfl) ⟨rfl, rfl⟩ (lkk hk hn) ?_
    refine r_iload dL_law_1618 rfl ?_
    refine r_icmp_eq (tgt := 1625) dL_law_1620 (by decide) (fun _ => ?_) (fun q => absurd t9 q)
    refine r_iload dL_law_1625 rfl ?_
    refine r_if_ne (tgt := 1642) dL_law_1627 (by decide) (fun _ => ?_) (fun q => absurd q (thA_ne E9))
    refine r_goto (tgt := 4357) dL_law_1642 (by decide) ?_
    exact r_mask [true, true, true, true, true, true, false, false, false] rfl (hx _ _ _ _ _ _ _ _ (R.tt' g3))
  · have g3 : v9 = b9.1 ∧ Tt K 0 b9.2 := g3
    refine r_aload_n dL_law_1565 rfl ?_
    refine s_arg (kq := 1) hL hi (by decide) (by decide) dL_law_1566 dL_law_1567 dL_law_1569 dL_law_1570 dL_law_1571 rfl rfl ?_
    refine s_arg (kq := 2) hL hi (by decide) (by decide) dL_law_1572 dL_law_1573 dL_law_1575 dL_law_1576 dL_law_1577 rfl rfl ?_
    refine s_arg (kq := 3) hL hi (by decide) (by decide) dL_law_1578 dL_law_1579 dL_law_1581 dL_law_1582 dL_law_1583 rfl rfl ?_
    refine r_aload_n dL_law_1584 rfl ?_
    refine r_cSW1 (rest := []) (wo_part hs hE hT0 hT1 g1) dL_law_1585 wd_1082 zL_part wd_1083 rfl rfl rfl ⟨Nat.le_of_ble_eq_true rfl, Nat.le_of_ble_eq_true rfl⟩ (Nat.le_of_ble_eq_true rfl) ⟨lk hk rfl, lk hn rfl⟩ ?_
    refine r_widen (k2 := k + 64) (n2 := n + 64) (Nat.add_le_add_left (Nat.le_of_ble_eq_true rfl) _) (Nat.add_le_add_left (Nat.le_of_ble_eq_true rfl) _) ?_
    refine r_istore dL_law_1588 (by decide) rfl ?_
    refine r_aload_n dL_law_1590 rfl ?_
    refine s_arg (kq := 1) hL hi (by decide) (by decide) dL_law_1591 dL_law_1592 dL_law_1594 dL_law_1595 dL_law_1596 rfl rfl ?_
    refine s_arg (kq := 2) hL hi (by decide) (by decide) dL_law_1597 dL_law_1598 dL_law_1600 dL_law_1601 dL_law_1602 rfl rfl ?_
    refine s_arg (kq := 3) hL hi (by decide) (by decide) dL_law_1603 dL_law_1604 dL_law_1606 dL_law_1607 dL_law_1608 rfl rfl ?_
    refine r_cV0 (rest := []) (ct_X10_part hs hE g2) dL_law_1609 wd_2017 zX10_part wd_2018 wd_2019 rfl rfl rfl (fo10 (hE 153 (by decide))) rfl rfl ⟨Nat.le_of_ble_eq_true rfl, Nat.le_of_ble_eq_true rfl⟩ (Nat.le_of_ble_eq_true rfl) ⟨rfl, rfl⟩ (lkk hk hn) ?_
    refine r_istore dL_law_1612 (by decide) rfl ?_
    refine r_aload_n dL_law_1614 rfl ?_
    have t9 := g3.2.t
    refine r_cV0 (rest := []) (ct_X10_thrown (n := 0) hs hE rfl) dL_law_1615 wd_1621 zX10_thrown wd_1622 wd_1623 rfl rfl rfl (fo10 (hE 153 (by decide))) rfl rfl ⟨Nat.le_of_ble_eq_true rfl, Nat.le_of_ble_eq_true rfl⟩ (Nat.le_of_ble_eq_true rfl) ⟨rfl, rfl⟩ (lkk hk hn) ?_
    refine r_iload dL_law_1618 rfl ?_
    refine r_icmp_eq (tgt := 1625) dL_law_1620 (by decide) (fun _ => ?_) (fun q => absurd t9 q)
    refine r_iload dL_law_1625 rfl ?_
    refine r_if_ne (tgt := 1642) dL_law_1627 (by decide) (fun q => absurd rfl q) (fun _ => ?_)
    refine r_aload_n dL_law_1630 rfl ?_
    refine r_iconst (v := (0 : Int32)) dL_law_1631 (by decide) ?_
    refine a_laldc 0 dL_law_1632 (hE 170 (by decide)) (vpc rfl) rfl ?_
    refine r_tl sJ_self ?_
    refine r_iload dL_law_1633 rfl ?_
    refine r_i2l dL_law_1635 ?_
    refine r_lcmp dL_law_1636 ?_
    refine r_ti (y := 0) ((lg_cmp_eq _ _).mpr (congrArg Int32.toInt64 g3.1)) ?_
    refine r_if_eq (tgt := 1642) dL_law_1637 (by decide) (fun _ => ?_) (fun q => absurd rfl q)
    refine r_goto (tgt := 4357) dL_law_1642 (by decide) ?_
    exact r_mask [true, true, true, true, true, true, false, false, false] rfl (hx _ _ _ _ _ _ _ _ (R.tt' g3.2))
set_option maxHeartbeats 4000000 in
set_option maxRecDepth 100000 in
theorem lc_wave {G : gG} {b Lx i : Nat} {xs : Nat → Int32} {lay : Nat → Nat × Nat} {T0 T1 : Nat} {Dd : Nat → Nat → UInt64} {I : gI} {J : gJ} {K : gI} {N : gJ} {sz k n : Nat} (hs : G.1.stackTraces = false) (hE : gLay lay) (R : Rel T0 T1 I K) (hL : Lx ≤ 3072) (hi : i + 6 ≤ Lx) (hk : k + 64 ≤ 601024) (hn : n + 64 ≤ 7293034) (hx : lNx G b Lx xs lay i k n) : gAt G mL_law (lQ G b Lx xs) 1645 (lLL G b i) [] (fO G (lay, T0, T1, Dd) I J K N) sz k n := by
  have hT0 : gTank lay T0 := gTk hE (R.tt.elim (fun h => Or.inl h.1) (fun h => Or.inr h.1))
  have hT1 : gTank lay T1 := gTk hE (R.tt.elim (fun h => Or.inr h.2) (fun h => Or.inl h.2))
  obtain ⟨r9, b9, g1, g2, g3⟩ := e_wave (n := 30000) (by decide) R (xs (i + 1)) (xs (i + 2))
  rcases r9 with E9 | v9
  · have g3 : Tt K (thA E9) b9.2 := g3
    refine r_aload_n dL_law_1645 rfl ?_
    refine s_arg (kq := 1) hL hi (by decide) (by decide) dL_law_1646 dL_law_1647 dL_law_1649 dL_law_1650 dL_law_1651 rfl rfl ?_
    refine s_arg (kq := 2) hL hi (by decide) (by decide) dL_law_1652 dL_law_1653 dL_law_1655 dL_law_1656 dL_law_1657 rfl rfl ?_
    refine r_aload_n dL_law_1658 rfl ?_
    refine r_cSWs (rest := []) (we_wave hs hE hT0 hT1 g1) dL_law_1659 wd_1119 zL_wave wd_1120 rfl rfl rfl ⟨Nat.le_of_ble_eq_true rfl, Nat.le_of_ble_eq_true rfl⟩ (Nat.le_of_ble_eq_true rfl) ⟨lk hk rfl, lk hn rfl⟩ (fun sz9 => ?_)
    refine r_widen (k2 := k + 64) (n2 := n + 64) (Nat.add_le_add_left (Nat.le_of_ble_eq_true rfl) _) (Nat.add_le_add_left (Nat.le_of_ble_eq_true rfl) _) ?_
    refine r_istore dL_law_1662 (by decide) rfl ?_
    refine r_aload_n dL_law_1664 rfl ?_
    refine s_arg (kq := 1) hL hi (by decide) (by decide) dL_law_1665 dL_law_1666 dL_law_1668 dL_law_1669 dL_law_1670 rfl rfl ?_
    refine s_arg (kq := 2) hL hi (by decide) (by decide) dL_law_1671 dL_law_1672 dL_law_1674 dL_law_1675 dL_law_1676 rfl rfl ?_
    refine r_cV0 (rest := []) (ct_X10_wave hs hE g2) dL_law_1677 wd_2021 zX10_wave wd_2022 wd_2023 rfl rfl rfl (fo10 (hE 153 (by decide))) rfl rfl ⟨Nat.le_of_ble_eq_true rfl, Nat.le_of_ble_eq_true rfl⟩ (Nat.le_of_ble_eq_true rfl) ⟨rfl, rfl⟩ (lkk hk hn) ?_
    refine r_istore dL_law_1680 (by decide) rfl ?_
    refine r_aload_n dL_law_1682 rfl ?_
    have t9 := g3.t
    refine r_cV0 (rest := []) (ct_X10_thrown (n := 0) hs hE rfl) dL_law_1683 wd_1621 zX10_thrown wd_1622 wd_1623 rfl rfl rfl (fo10 (hE 153 (by decide))) rfl rfl ⟨Nat.le_of_ble_eq_true rfl, Nat.le_of_ble_eq_true rfl⟩ (Nat.le_of_ble_eq_true rfl) ⟨rfl, rfl⟩ (lkk hk hn) ?_
    refine r_iload dL_law_1686 rfl ?_
    refine r_icmp_eq (tgt := 1693) dL_law_1688 (by decide) (fun _ => ?_) (fun q => absurd t9 q)
    refine r_iload dL_law_1693 rfl ?_
    refine r_if_ne (tgt := 1710) dL_law_1695 (by decide) (fun _ => ?_) (fun q => absurd q (thA_ne E9))
    refine r_goto (tgt := 4357) dL_law_1710 (by decide) ?_
    exact r_mask [true, true, true, true, true, true, false, false, false] rfl (hx _ _ _ _ _ _ _ _ (R.tt' g3))
  · have g3 : v9 = b9.1 ∧ Tt K 0 b9.2 := g3
    refine r_aload_n dL_law_1645 rfl ?_
    refine s_arg (kq := 1) hL hi (by decide) (by decide) dL_law_1646 dL_law_1647 dL_law_1649 dL_law_1650 dL_law_1651 rfl rfl ?_
    refine s_arg (kq := 2) hL hi (by decide) (by decide) dL_law_1652 dL_law_1653 dL_law_1655 dL_law_1656 dL_law_1657 rfl rfl ?_
    refine r_aload_n dL_law_1658 rfl ?_
    refine r_cSW1 (rest := []) (wo_wave hs hE hT0 hT1 g1) dL_law_1659 wd_1119 zL_wave wd_1120 rfl rfl rfl ⟨Nat.le_of_ble_eq_true rfl, Nat.le_of_ble_eq_true rfl⟩ (Nat.le_of_ble_eq_true rfl) ⟨lk hk rfl, lk hn rfl⟩ ?_
    refine r_widen (k2 := k + 64) (n2 := n + 64) (Nat.add_le_add_left (Nat.le_of_ble_eq_true rfl) _) (Nat.add_le_add_left (Nat.le_of_ble_eq_true rfl) _) ?_
    refine r_istore dL_law_1662 (by decide) rfl ?_
    refine r_aload_n dL_law_1664 rfl ?_
    refine s_arg (kq := 1) hL hi (by decide) (by decide) dL_law_1665 dL_law_1666 dL_law_1668 dL_law_1669 dL_law_1670 rfl rfl ?_
    refine s_arg (kq := 2) hL hi (by decide) (by decide) dL_law_1671 dL_law_1672 dL_law_1674 dL_law_1675 dL_law_1676 rfl rfl ?_
    refine r_cV0 (rest := []) (ct_X10_wave hs hE g2) dL_law_1677 wd_2021 zX10_wave wd_2022 wd_2023 rfl rfl rfl (fo10 (hE 153 (by decide))) rfl rfl ⟨Nat.le_of_ble_eq_true rfl, Nat.le_of_ble_eq_true rfl⟩ (Nat.le_of_ble_eq_true rfl) ⟨rfl, rfl⟩ (lkk hk hn) ?_
    refine r_istore dL_law_1680 (by decide) rfl ?_
    refine r_aload_n dL_law_1682 rfl ?_
    have t9 := g3.2.t
    refine r_cV0 (rest := []) (ct_X10_thrown (n := 0) hs hE rfl) dL_law_1683 wd_1621 zX10_thrown wd_1622 wd_1623 rfl rfl rfl (fo10 (hE 153 (by decide))) rfl rfl ⟨Nat.le_of_ble_eq_true rfl, Nat.le_of_ble_eq_true rfl⟩ (Nat.le_of_ble_eq_true rfl) ⟨rfl, rfl⟩ (lkk hk hn) ?_
    refine r_iload dL_law_1686 rfl ?_
    refine r_icmp_eq (tgt := 1693) dL_law_1688 (by decide) (fun _ => ?_) (fun q => absurd t9 q)
    refine r_iload dL_law_1693 rfl ?_
    refine r_if_ne (tgt := 1710) dL_law_1695 (by decide) (fun q => absurd rfl q) (fun _ => ?_)
    refine r_aload_n dL_law_1698 rfl ?_
    refine r_iconst (v := (0 : Int32)) dL_law_1699 (by decide) ?_
    refine a_laldc 0 dL_law_1700 (hE 170 (by decide)) (vpc rfl) rfl ?_
    refine r_tl sJ_self ?_
    refine r_iload dL_law_1701 rfl ?_
    refine r_i2l dL_law_1703 ?_
    refine r_lcmp dL_law_1704 ?_
    refine r_ti (y := 0) ((lg_cmp_eq _ _).mpr (congrArg Int32.toInt64 g3.1)) ?_
    refine r_if_eq (tgt := 1710) dL_law_1705 (by decide) (fun _ => ?_) (fun q => absurd rfl q)
    refine r_goto (tgt := 4357) dL_law_1710 (by decide) ?_
    exact r_mask [true, true, true, true, true, true, false, false, false] rfl (hx _ _ _ _ _ _ _ _ (R.tt' g3.2))
set_option maxHeartbeats 4000000 in
set_option maxRecDepth 100000 in
theorem lc_waveAt {G : gG} {b Lx i : Nat} {xs : Nat → Int32} {lay : Nat → Nat × Nat} {T0 T1 : Nat} {Dd : Nat → Nat → UInt64} {I : gI} {J : gJ} {K : gI} {N : gJ} {sz k n : Nat} (hs : G.1.stackTraces = false) (hE : gLay lay) (R : Rel T0 T1 I K) (hL : Lx ≤ 3072) (hi : i + 6 ≤ Lx) (hk : k + 64 ≤ 601024) (hn : n + 64 ≤ 7293034) (hx : lNx G b Lx xs lay i k n) : gAt G mL_law (lQ G b Lx xs) 1713 (lLL G b i) [] (fO G (lay, T0, T1, Dd) I J K N) sz k n := by
  have hT0 : gTank lay T0 := gTk hE (R.tt.elim (fun h => Or.inl h.1) (fun h => Or.inr h.1))
  have hT1 : gTank lay T1 := gTk hE (R.tt.elim (fun h => Or.inr h.2) (fun h => Or.inl h.2))
  obtain ⟨r9, b9, g1, g2, g3⟩ := e_waveAt (n := 30000) (by decide) R (xs (i + 1)) (xs (i + 2)) (xs (i + 3))
  rcases r9 with E9 | v9
  · have g3 : Tt K (thA E9) b9.2 := g3
    refine r_aload_n dL_law_1713 rfl ?_
    refine s_arg (kq := 1) hL hi (by decide) (by decide) dL_law_1714 dL_law_1715 dL_law_1717 dL_law_1718 dL_law_1719 rfl rfl ?_
    refine s_arg (kq := 2) hL hi (by decide) (by decide) dL_law_1720 dL_law_1721 dL_law_1723 dL_law_1724 dL_law_1725 rfl rfl ?_
    refine s_arg (kq := 3) hL hi (by decide) (by decide) dL_law_1726 dL_law_1727 dL_law_1729 dL_law_1730 dL_law_1731 rfl rfl ?_
    refine r_aload_n dL_law_1732 rfl ?_
    refine r_cSWs (rest := []) (we_waveAt hs hE hT0 hT1 g1) dL_law_1733 wd_1135 zL_waveAt wd_1136 rfl rfl rfl ⟨Nat.le_of_ble_eq_true rfl, Nat.le_of_ble_eq_true rfl⟩ (Nat.le_of_ble_eq_true rfl) ⟨lk hk rfl, lk hn rfl⟩ (fun sz9 => ?_)
    refine r_widen (k2 := k + 64) (n2 := n + 64) (Nat.add_le_add_left (Nat.le_of_ble_eq_true rfl) _) (Nat.add_le_add_left (Nat.le_of_ble_eq_true rfl) _) ?_
    refine r_istore dL_law_1736 (by decide) rfl ?_
    refine r_aload_n dL_law_1738 rfl ?_
    refine s_arg (kq := 1) hL hi (by decide) (by decide) dL_law_1739 dL_law_1740 dL_law_1742 dL_law_1743 dL_law_1744 rfl rfl ?_
    refine s_arg (kq := 2) hL hi (by decide) (by decide) dL_law_1745 dL_law_1746 dL_law_1748 dL_law_1749 dL_law_1750 rfl rfl ?_
    refine s_arg (kq := 3) hL hi (by decide) (by decide) dL_law_1751 dL_law_1752 dL_law_1754 dL_law_1755 dL_law_1756 rfl rfl ?_
    refine r_cV0 (rest := []) (ct_X10_waveAt hs hE g2) dL_law_1757 wd_2025 zX10_waveAt wd_2026 wd_2027 rfl rfl rfl (fo10 (hE 153 (by decide))) rfl rfl ⟨Nat.le_of_ble_eq_true rfl, Nat.le_of_ble_eq_true rfl⟩ (Nat.le_of_ble_eq_true rfl) ⟨rfl, rfl⟩ (lkk hk hn) ?_
    refine r_istore dL_law_1760 (by decide) rfl ?_
    refine r_aload_n dL_law_1762 rfl ?_
    have t9 := g3.t
    refine r_cV0 (rest := []) (ct_X10_thrown (n := 0) hs hE rfl) dL_law_1763 wd_1621 zX10_thrown wd_1622 wd_1623 rfl rfl rfl (fo10 (hE 153 (by decide))) rfl rfl ⟨Nat.le_of_ble_eq_true rfl, Nat.le_of_ble_eq_true rfl⟩ (Nat.le_of_ble_eq_true rfl) ⟨rfl, rfl⟩ (lkk hk hn) ?_
    refine r_iload dL_law_1766 rfl ?_
    refine r_icmp_eq (tgt := 1773) dL_law_1768 (by decide) (fun _ => ?_) (fun q => absurd t9 q)
    refine r_iload dL_law_1773 rfl ?_
    refine r_if_ne (tgt := 1790) dL_law_1775 (by decide) (fun _ => ?_) (fun q => absurd q (thA_ne E9))
    refine r_goto (tgt := 4357) dL_law_1790 (by decide) ?_
    exact r_mask [true, true, true, true, true, true, false, false, false] rfl (hx _ _ _ _ _ _ _ _ (R.tt' g3))
  · have g3 : v9 = b9.1 ∧ Tt K 0 b9.2 := g3
    refine r_aload_n dL_law_1713 rfl ?_
    refine s_arg (kq := 1) hL hi (by decide) (by decide) dL_law_1714 dL_law_1715 dL_law_1717 dL_law_1718 dL_law_1719 rfl rfl ?_
    refine s_arg (kq := 2) hL hi (by decide) (by decide) dL_law_1720 dL_law_1721 dL_law_1723 dL_law_1724 dL_law_1725 rfl rfl ?_
    refine s_arg (kq := 3) hL hi (by decide) (by decide) dL_law_1726 dL_law_1727 dL_law_1729 dL_law_1730 dL_law_1731 rfl rfl ?_
    refine r_aload_n dL_law_1732 rfl ?_
    refine r_cSW1 (rest := []) (wo_waveAt hs hE hT0 hT1 g1) dL_law_1733 wd_1135 zL_waveAt wd_1136 rfl rfl rfl ⟨Nat.le_of_ble_eq_true rfl, Nat.le_of_ble_eq_true rfl⟩ (Nat.le_of_ble_eq_true rfl) ⟨lk hk rfl, lk hn rfl⟩ ?_
    refine r_widen (k2 := k + 64) (n2 := n + 64) (Nat.add_le_add_left (Nat.le_of_ble_eq_true rfl) _) (Nat.add_le_add_left (Nat.le_of_ble_eq_true rfl) _) ?_
    refine r_istore dL_law_1736 (by decide) rfl ?_
    refine r_aload_n dL_law_1738 rfl ?_
    refine s_arg (kq := 1) hL hi (by decide) (by decide) dL_law_1739 dL_law_1740 dL_law_1742 dL_law_1743 dL_law_1744 rfl rfl ?_
    refine s_arg (kq := 2) hL hi (by decide) (by decide) dL_law_1745 dL_law_1746 dL_law_1748 dL_law_1749 dL_law_1750 rfl rfl ?_
    refine s_arg (kq := 3) hL hi (by decide) (by decide) dL_law_1751 dL_law_1752 dL_law_1754 dL_law_1755 dL_law_1756 rfl rfl ?_
    refine r_cV0 (rest := []) (ct_X10_waveAt hs hE g2) dL_law_1757 wd_2025 zX10_waveAt wd_2026 wd_2027 rfl rfl rfl (fo10 (hE 153 (by decide))) rfl rfl ⟨Nat.le_of_ble_eq_true rfl, Nat.le_of_ble_eq_true rfl⟩ (Nat.le_of_ble_eq_true rfl) ⟨rfl, rfl⟩ (lkk hk hn) ?_
    refine r_istore dL_law_1760 (by decide) rfl ?_
    refine r_aload_n dL_law_1762 rfl ?_
    have t9 := g3.2.t
    refine r_cV0 (rest := []) (ct_X10_thrown (n := 0) hs hE rfl) dL_law_1763 wd_1621 zX10_thrown wd_1622 wd_1623 rfl rfl rfl (fo10 (hE 153 (by decide))) rfl rfl ⟨Nat.le_of_ble_eq_true rfl, Nat.le_of_ble_eq_true rfl⟩ (Nat.le_of_ble_eq_true rfl) ⟨rfl, rfl⟩ (lkk hk hn) ?_
    refine r_iload dL_law_1766 rfl ?_
    refine r_icmp_eq (tgt := 1773) dL_law_1768 (by decide) (fun _ => ?_) (fun q => absurd t9 q)
    refine r_iload dL_law_1773 rfl ?_
    refine r_if_ne (tgt := 1790) dL_law_1775 (by decide) (fun q => absurd rfl q) (fun _ => ?_)
    refine r_aload_n dL_law_1778 rfl ?_
    refine r_iconst (v := (0 : Int32)) dL_law_1779 (by decide) ?_
    refine a_laldc 0 dL_law_1780 (hE 170 (by decide)) (vpc rfl) rfl ?_
    refine r_tl sJ_self ?_
    refine r_iload dL_law_1781 rfl ?_
    refine r_i2l dL_law_1783 ?_
    refine r_lcmp dL_law_1784 ?_
    refine r_ti (y := 0) ((lg_cmp_eq _ _).mpr (congrArg Int32.toInt64 g3.1)) ?_
    refine r_if_eq (tgt := 1790) dL_law_1785 (by decide) (fun _ => ?_) (fun q => absurd rfl q)
    refine r_goto (tgt := 4357) dL_law_1790 (by decide) ?_
    exact r_mask [true, true, true, true, true, true, false, false, false] rfl (hx _ _ _ _ _ _ _ _ (R.tt' g3.2))
set_option maxHeartbeats 4000000 in
set_option maxRecDepth 100000 in
theorem lc_quietIn {G : gG} {b Lx i : Nat} {xs : Nat → Int32} {lay : Nat → Nat × Nat} {T0 T1 : Nat} {Dd : Nat → Nat → UInt64} {I : gI} {J : gJ} {K : gI} {N : gJ} {sz k n : Nat} (hs : G.1.stackTraces = false) (hE : gLay lay) (R : Rel T0 T1 I K) (hL : Lx ≤ 3072) (hi : i + 6 ≤ Lx) (hk : k + 64 ≤ 601024) (hn : n + 64 ≤ 7293034) (hx : lNx G b Lx xs lay i k n) : gAt G mL_law (lQ G b Lx xs) 1793 (lLL G b i) [] (fO G (lay, T0, T1, Dd) I J K N) sz k n := by
  have hT0 : gTank lay T0 := gTk hE (R.tt.elim (fun h => Or.inl h.1) (fun h => Or.inr h.1))
  have hT1 : gTank lay T1 := gTk hE (R.tt.elim (fun h => Or.inr h.2) (fun h => Or.inl h.2))
  obtain ⟨r9, b9, g1, g2, g3⟩ := e_quietIn (n := 30000) (by decide) R (xs (i + 1)) (xs (i + 2)) (xs (i + 3)) (xs (i + 4))
  rcases r9 with E9 | v9
  · have g3 : Tt K (thA E9) b9.2 := g3
    refine r_aload_n dL_law_1793 rfl ?_
    refine s_arg (kq := 1) hL hi (by decide) (by decide) dL_law_1794 dL_law_1795 dL_law_1797 dL_law_1798 dL_law_1799 rfl rfl ?_
    refine s_arg (kq := 2) hL hi (by decide) (by decide) dL_law_1800 dL_law_1801 dL_law_1803 dL_law_1804 dL_law_1805 rfl rfl ?_
    refine s_arg (kq := 3) hL hi (by decide) (by decide) dL_law_1806 dL_law_1807 dL_law_1809 dL_law_1810 dL_law_1811 rfl rfl ?_
    refine s_arg (kq := 4) hL hi (by decide) (by decide) dL_law_1812 dL_law_1813 dL_law_1815 dL_law_1816 dL_law_1817 rfl rfl ?_
    refine r_aload_n dL_law_1818 rfl ?_
    refine r_cSWs (rest := []) (we_quietIn hs hE hT0 hT1 g1) dL_law_1819 wd_1142 zL_quietIn wd_1143 rfl rfl rfl ⟨Nat.le_of_ble_eq_true rfl, Nat.le_of_ble_eq_true rfl⟩ (Nat.le_of_ble_eq_true rfl) ⟨lk hk rfl, lk hn rfl⟩ (fun sz9 => ?_)
    refine r_widen (k2 := k + 64) (n2 := n + 64) (Nat.add_le_add_left (Nat.le_of_ble_eq_true rfl) _) (Nat.add_le_add_left (Nat.le_of_ble_eq_true rfl) _) ?_
    refine r_istore dL_law_1822 (by decide) rfl ?_
    refine r_aload_n dL_law_1824 rfl ?_
    refine s_arg (kq := 1) hL hi (by decide) (by decide) dL_law_1825 dL_law_1826 dL_law_1828 dL_law_1829 dL_law_1830 rfl rfl ?_
    refine s_arg (kq := 2) hL hi (by decide) (by decide) dL_law_1831 dL_law_1832 dL_law_1834 dL_law_1835 dL_law_1836 rfl rfl ?_
    refine s_arg (kq := 3) hL hi (by decide) (by decide) dL_law_1837 dL_law_1838 dL_law_1840 dL_law_1841 dL_law_1842 rfl rfl ?_
    refine s_arg (kq := 4) hL hi (by decide) (by decide) dL_law_1843 dL_law_1844 dL_law_1846 dL_law_1847 dL_law_1848 rfl rfl ?_
    refine r_cV0 (rest := []) (ct_X10_quietIn hs hE g2) dL_law_1849 wd_2029 zX10_quietIn wd_2030 wd_2031 rfl rfl rfl (fo10 (hE 153 (by decide))) rfl rfl ⟨Nat.le_of_ble_eq_true rfl, Nat.le_of_ble_eq_true rfl⟩ (Nat.le_of_ble_eq_true rfl) ⟨rfl, rfl⟩ (lkk hk hn) ?_
    refine r_istore dL_law_1852 (by decide) rfl ?_
    refine r_aload_n dL_law_1854 rfl ?_
    have t9 := g3.t
    refine r_cV0 (rest := []) (ct_X10_thrown (n := 0) hs hE rfl) dL_law_1855 wd_1621 zX10_thrown wd_1622 wd_1623 rfl rfl rfl (fo10 (hE 153 (by decide))) rfl rfl ⟨Nat.le_of_ble_eq_true rfl, Nat.le_of_ble_eq_true rfl⟩ (Nat.le_of_ble_eq_true rfl) ⟨rfl, rfl⟩ (lkk hk hn) ?_
    refine r_iload dL_law_1858 rfl ?_
    refine r_icmp_eq (tgt := 1865) dL_law_1860 (by decide) (fun _ => ?_) (fun q => absurd t9 q)
    refine r_iload dL_law_1865 rfl ?_
    refine r_if_ne (tgt := 1882) dL_law_1867 (by decide) (fun _ => ?_) (fun q => absurd q (thA_ne E9))
    refine r_goto (tgt := 4357) dL_law_1882 (by decide) ?_
    exact r_mask [true, true, true, true, true, true, false, false, false] rfl (hx _ _ _ _ _ _ _ _ (R.tt' g3))
  · have g3 : v9 = b9.1 ∧ Tt K 0 b9.2 := g3
    refine r_aload_n dL_law_1793 rfl ?_
    refine s_arg (kq := 1) hL hi (by decide) (by decide) dL_law_1794 dL_law_1795 dL_law_1797 dL_law_1798 dL_law_1799 rfl rfl ?_
    refine s_arg (kq := 2) hL hi (by decide) (by decide) dL_law_1800 dL_law_1801 dL_law_1803 dL_law_1804 dL_law_1805 rfl rfl ?_
    refine s_arg (kq := 3) hL hi (by decide) (by decide) dL_law_1806 dL_law_1807 dL_law_1809 dL_law_1810 dL_law_1811 rfl rfl ?_
    refine s_arg (kq := 4) hL hi (by decide) (by decide) dL_law_1812 dL_law_1813 dL_law_1815 dL_law_1816 dL_law_1817 rfl rfl ?_
    refine r_aload_n dL_law_1818 rfl ?_
    refine r_cSW1 (rest := []) (wo_quietIn hs hE hT0 hT1 g1) dL_law_1819 wd_1142 zL_quietIn wd_1143 rfl rfl rfl ⟨Nat.le_of_ble_eq_true rfl, Nat.le_of_ble_eq_true rfl⟩ (Nat.le_of_ble_eq_true rfl) ⟨lk hk rfl, lk hn rfl⟩ ?_
    refine r_widen (k2 := k + 64) (n2 := n + 64) (Nat.add_le_add_left (Nat.le_of_ble_eq_true rfl) _) (Nat.add_le_add_left (Nat.le_of_ble_eq_true rfl) _) ?_
    refine r_istore dL_law_1822 (by decide) rfl ?_
    refine r_aload_n dL_law_1824 rfl ?_
    refine s_arg (kq := 1) hL hi (by decide) (by decide) dL_law_1825 dL_law_1826 dL_law_1828 dL_law_1829 dL_law_1830 rfl rfl ?_
    refine s_arg (kq := 2) hL hi (by decide) (by decide) dL_law_1831 dL_law_1832 dL_law_1834 dL_law_1835 dL_law_1836 rfl rfl ?_
    refine s_arg (kq := 3) hL hi (by decide) (by decide) dL_law_1837 dL_law_1838 dL_law_1840 dL_law_1841 dL_law_1842 rfl rfl ?_
    refine s_arg (kq := 4) hL hi (by decide) (by decide) dL_law_1843 dL_law_1844 dL_law_1846 dL_law_1847 dL_law_1848 rfl rfl ?_
    refine r_cV0 (rest := []) (ct_X10_quietIn hs hE g2) dL_law_1849 wd_2029 zX10_quietIn wd_2030 wd_2031 rfl rfl rfl (fo10 (hE 153 (by decide))) rfl rfl ⟨Nat.le_of_ble_eq_true rfl, Nat.le_of_ble_eq_true rfl⟩ (Nat.le_of_ble_eq_true rfl) ⟨rfl, rfl⟩ (lkk hk hn) ?_
    refine r_istore dL_law_1852 (by decide) rfl ?_
    refine r_aload_n dL_law_1854 rfl ?_
    have t9 := g3.2.t
    refine r_cV0 (rest := []) (ct_X10_thrown (n := 0) hs hE rfl) dL_law_1855 wd_1621 zX10_thrown wd_1622 wd_1623 rfl rfl rfl (fo10 (hE 153 (by decide))) rfl rfl ⟨Nat.le_of_ble_eq_true rfl, Nat.le_of_ble_eq_true rfl⟩ (Nat.le_of_ble_eq_true rfl) ⟨rfl, rfl⟩ (lkk hk hn) ?_
    refine r_iload dL_law_1858 rfl ?_
    refine r_icmp_eq (tgt := 1865) dL_law_1860 (by decide) (fun _ => ?_) (fun q => absurd t9 q)
    refine r_iload dL_law_1865 rfl ?_
    refine r_if_ne (tgt := 1882) dL_law_1867 (by decide) (fun q => absurd rfl q) (fun _ => ?_)
    refine r_aload_n dL_law_1870 rfl ?_
    refine r_iconst (v := (0 : Int32)) dL_law_1871 (by decide) ?_
    refine a_laldc 0 dL_law_1872 (hE 170 (by decide)) (vpc rfl) rfl ?_
    refine r_tl sJ_self ?_
    refine r_iload dL_law_1873 rfl ?_
    refine r_i2l dL_law_1875 ?_
    refine r_lcmp dL_law_1876 ?_
    refine r_ti (y := 0) ((lg_cmp_eq _ _).mpr (congrArg Int32.toInt64 g3.1)) ?_
    refine r_if_eq (tgt := 1882) dL_law_1877 (by decide) (fun _ => ?_) (fun q => absurd rfl q)
    refine r_goto (tgt := 4357) dL_law_1882 (by decide) ?_
    exact r_mask [true, true, true, true, true, true, false, false, false] rfl (hx _ _ _ _ _ _ _ _ (R.tt' g3.2))
set_option maxHeartbeats 4000000 in
set_option maxRecDepth 100000 in
theorem lc_gauges {G : gG} {b Lx i : Nat} {xs : Nat → Int32} {lay : Nat → Nat × Nat} {T0 T1 : Nat} {Dd : Nat → Nat → UInt64} {I : gI} {J : gJ} {K : gI} {N : gJ} {sz k n : Nat} (hs : G.1.stackTraces = false) (hE : gLay lay) (R : Rel T0 T1 I K) (hL : Lx ≤ 3072) (hi : i + 6 ≤ Lx) (hk : k + 64 ≤ 601024) (hn : n + 64 ≤ 7293034) (hx : lNx G b Lx xs lay i k n) : gAt G mL_law (lQ G b Lx xs) 1885 (lLL G b i) [] (fO G (lay, T0, T1, Dd) I J K N) sz k n := by
  have hT0 : gTank lay T0 := gTk hE (R.tt.elim (fun h => Or.inl h.1) (fun h => Or.inr h.1))
  have hT1 : gTank lay T1 := gTk hE (R.tt.elim (fun h => Or.inr h.2) (fun h => Or.inl h.2))
  obtain ⟨a9, b9, g1, g2, g3⟩ := e_gauges (n := 30000) R
  refine r_widen (k2 := k + 64) (n2 := n + 64) (Nat.le_add_right _ _) (Nat.le_add_right _ _) ?_
  refine r_aload_n dL_law_1885 rfl ?_
  refine r_cV0 (rest := []) (ct_X9_gauges hs hE hT0 hT1 g1) dL_law_1886 wd_513 zX9_gauges wd_514 wd_515 rfl rfl rfl (fo9 (hE 0 (by decide))) rfl rfl ⟨Nat.le_of_ble_eq_true rfl, Nat.le_of_ble_eq_true rfl⟩ (Nat.le_of_ble_eq_true rfl) ⟨rfl, rfl⟩ (lkk hk hn) ?_
  refine r_aload_n dL_law_1889 rfl ?_
  refine r_cV0 (rest := [.int a9]) (ct_X10_gauges hs hE g2) dL_law_1890 wd_1963 zX10_gauges wd_1964 wd_1965 rfl rfl rfl (fo10 (hE 153 (by decide))) rfl rfl ⟨Nat.le_of_ble_eq_true rfl, Nat.le_of_ble_eq_true rfl⟩ (Nat.le_of_ble_eq_true rfl) ⟨rfl, rfl⟩ (lkk hk hn) ?_
  refine r_icmp_eq (tgt := 4357) dL_law_1893 (by decide) (fun _ => ?_) (fun q => absurd g3.1 q)
  exact r_mask [true, true, true, true, true, true, false, false, false] rfl (hx _ _ _ _ _ _ _ _ (R.tt' g3.2))
set_option maxHeartbeats 4000000 in
set_option maxRecDepth 100000 in
theorem lc_gaugeAt {G : gG} {b Lx i : Nat} {xs : Nat → Int32} {lay : Nat → Nat × Nat} {T0 T1 : Nat} {Dd : Nat → Nat → UInt64} {I : gI} {J : gJ} {K : gI} {N : gJ} {sz k n : Nat} (hs : G.1.stackTraces = false) (hE : gLay lay) (R : Rel T0 T1 I K) (hL : Lx ≤ 3072) (hi : i + 6 ≤ Lx) (hk : k + 64 ≤ 601024) (hn : n + 64 ≤ 7293034) (hx : lNx G b Lx xs lay i k n) : gAt G mL_law (lQ G b Lx xs) 1898 (lLL G b i) [] (fO G (lay, T0, T1, Dd) I J K N) sz k n := by
  have hT0 : gTank lay T0 := gTk hE (R.tt.elim (fun h => Or.inl h.1) (fun h => Or.inr h.1))
  have hT1 : gTank lay T1 := gTk hE (R.tt.elim (fun h => Or.inr h.2) (fun h => Or.inl h.2))
  obtain ⟨r9, b9, g1, g2, g3⟩ := e_gaugeAt (n := 30000) (by decide) R (xs (i + 1)) (xs (i + 2))
  rcases r9 with E9 | v9
  · have g3 : Tt K (thA E9) b9.2 := g3
    refine r_aload_n dL_law_1898 rfl ?_
    refine s_arg (kq := 1) hL hi (by decide) (by decide) dL_law_1899 dL_law_1900 dL_law_1902 dL_law_1903 dL_law_1904 rfl rfl ?_
    refine s_arg (kq := 2) hL hi (by decide) (by decide) dL_law_1905 dL_law_1906 dL_law_1908 dL_law_1909 dL_law_1910 rfl rfl ?_
    refine r_aload_n dL_law_1911 rfl ?_
    refine r_cSWs (rest := []) (we_gaugeAt hs hE hT0 hT1 g1) dL_law_1912 wd_1153 zL_gaugeAt wd_1154 rfl rfl rfl ⟨Nat.le_of_ble_eq_true rfl, Nat.le_of_ble_eq_true rfl⟩ (Nat.le_of_ble_eq_true rfl) ⟨lk hk rfl, lk hn rfl⟩ (fun sz9 => ?_)
    refine r_widen (k2 := k + 64) (n2 := n + 64) (Nat.add_le_add_left (Nat.le_of_ble_eq_true rfl) _) (Nat.add_le_add_left (Nat.le_of_ble_eq_true rfl) _) ?_
    refine r_istore dL_law_1915 (by decide) rfl ?_
    refine r_aload_n dL_law_1917 rfl ?_
    refine s_arg (kq := 1) hL hi (by decide) (by decide) dL_law_1918 dL_law_1919 dL_law_1921 dL_law_1922 dL_law_1923 rfl rfl ?_
    refine s_arg (kq := 2) hL hi (by decide) (by decide) dL_law_1924 dL_law_1925 dL_law_1927 dL_law_1928 dL_law_1929 rfl rfl ?_
    refine r_cV0 (rest := []) (ct_X10_gaugeAt hs hE g2) dL_law_1930 wd_1967 zX10_gaugeAt wd_1968 wd_1969 rfl rfl rfl (fo10 (hE 153 (by decide))) rfl rfl ⟨Nat.le_of_ble_eq_true rfl, Nat.le_of_ble_eq_true rfl⟩ (Nat.le_of_ble_eq_true rfl) ⟨rfl, rfl⟩ (lkk hk hn) ?_
    refine r_istore dL_law_1933 (by decide) rfl ?_
    refine r_aload_n dL_law_1935 rfl ?_
    have t9 := g3.t
    refine r_cV0 (rest := []) (ct_X10_thrown (n := 0) hs hE rfl) dL_law_1936 wd_1621 zX10_thrown wd_1622 wd_1623 rfl rfl rfl (fo10 (hE 153 (by decide))) rfl rfl ⟨Nat.le_of_ble_eq_true rfl, Nat.le_of_ble_eq_true rfl⟩ (Nat.le_of_ble_eq_true rfl) ⟨rfl, rfl⟩ (lkk hk hn) ?_
    refine r_iload dL_law_1939 rfl ?_
    refine r_icmp_eq (tgt := 1946) dL_law_1941 (by decide) (fun _ => ?_) (fun q => absurd t9 q)
    refine r_iload dL_law_1946 rfl ?_
    refine r_if_ne (tgt := 1963) dL_law_1948 (by decide) (fun _ => ?_) (fun q => absurd q (thA_ne E9))
    refine r_goto (tgt := 4357) dL_law_1963 (by decide) ?_
    exact r_mask [true, true, true, true, true, true, false, false, false] rfl (hx _ _ _ _ _ _ _ _ (R.tt' g3))
  · have g3 : v9 = b9.1 ∧ Tt K 0 b9.2 := g3
    refine r_aload_n dL_law_1898 rfl ?_
    refine s_arg (kq := 1) hL hi (by decide) (by decide) dL_law_1899 dL_law_1900 dL_law_1902 dL_law_1903 dL_law_1904 rfl rfl ?_
    refine s_arg (kq := 2) hL hi (by decide) (by decide) dL_law_1905 dL_law_1906 dL_law_1908 dL_law_1909 dL_law_1910 rfl rfl ?_
    refine r_aload_n dL_law_1911 rfl ?_
    refine r_cSW1 (rest := []) (wo_gaugeAt hs hE hT0 hT1 g1) dL_law_1912 wd_1153 zL_gaugeAt wd_1154 rfl rfl rfl ⟨Nat.le_of_ble_eq_true rfl, Nat.le_of_ble_eq_true rfl⟩ (Nat.le_of_ble_eq_true rfl) ⟨lk hk rfl, lk hn rfl⟩ ?_
    refine r_widen (k2 := k + 64) (n2 := n + 64) (Nat.add_le_add_left (Nat.le_of_ble_eq_true rfl) _) (Nat.add_le_add_left (Nat.le_of_ble_eq_true rfl) _) ?_
    refine r_istore dL_law_1915 (by decide) rfl ?_
    refine r_aload_n dL_law_1917 rfl ?_
    refine s_arg (kq := 1) hL hi (by decide) (by decide) dL_law_1918 dL_law_1919 dL_law_1921 dL_law_1922 dL_law_1923 rfl rfl ?_
    refine s_arg (kq := 2) hL hi (by decide) (by decide) dL_law_1924 dL_law_1925 dL_law_1927 dL_law_1928 dL_law_1929 rfl rfl ?_
    refine r_cV0 (rest := []) (ct_X10_gaugeAt hs hE g2) dL_law_1930 wd_1967 zX10_gaugeAt wd_1968 wd_1969 rfl rfl rfl (fo10 (hE 153 (by decide))) rfl rfl ⟨Nat.le_of_ble_eq_true rfl, Nat.le_of_ble_eq_true rfl⟩ (Nat.le_of_ble_eq_true rfl) ⟨rfl, rfl⟩ (lkk hk hn) ?_
    refine r_istore dL_law_1933 (by decide) rfl ?_
    refine r_aload_n dL_law_1935 rfl ?_
    have t9 := g3.2.t
    refine r_cV0 (rest := []) (ct_X10_thrown (n := 0) hs hE rfl) dL_law_1936 wd_1621 zX10_thrown wd_1622 wd_1623 rfl rfl rfl (fo10 (hE 153 (by decide))) rfl rfl ⟨Nat.le_of_ble_eq_true rfl, Nat.le_of_ble_eq_true rfl⟩ (Nat.le_of_ble_eq_true rfl) ⟨rfl, rfl⟩ (lkk hk hn) ?_
    refine r_iload dL_law_1939 rfl ?_
    refine r_icmp_eq (tgt := 1946) dL_law_1941 (by decide) (fun _ => ?_) (fun q => absurd t9 q)
    refine r_iload dL_law_1946 rfl ?_
    refine r_if_ne (tgt := 1963) dL_law_1948 (by decide) (fun q => absurd rfl q) (fun _ => ?_)
    refine r_aload_n dL_law_1951 rfl ?_
    refine r_iconst (v := (0 : Int32)) dL_law_1952 (by decide) ?_
    refine a_laldc 0 dL_law_1953 (hE 170 (by decide)) (vpc rfl) rfl ?_
    refine r_tl sJ_self ?_
    refine r_iload dL_law_1954 rfl ?_
    refine r_i2l dL_law_1956 ?_
    refine r_lcmp dL_law_1957 ?_
    refine r_ti (y := 0) ((lg_cmp_eq _ _).mpr (congrArg Int32.toInt64 g3.1)) ?_
    refine r_if_eq (tgt := 1963) dL_law_1958 (by decide) (fun _ => ?_) (fun q => absurd rfl q)
    refine r_goto (tgt := 4357) dL_law_1963 (by decide) ?_
    exact r_mask [true, true, true, true, true, true, false, false, false] rfl (hx _ _ _ _ _ _ _ _ (R.tt' g3.2))
set_option maxHeartbeats 4000000 in
set_option maxRecDepth 100000 in
theorem lc_peak {G : gG} {b Lx i : Nat} {xs : Nat → Int32} {lay : Nat → Nat × Nat} {T0 T1 : Nat} {Dd : Nat → Nat → UInt64} {I : gI} {J : gJ} {K : gI} {N : gJ} {sz k n : Nat} (hs : G.1.stackTraces = false) (hE : gLay lay) (R : Rel T0 T1 I K) (hL : Lx ≤ 3072) (hi : i + 6 ≤ Lx) (hk : k + 64 ≤ 601024) (hn : n + 64 ≤ 7293034) (hx : lNx G b Lx xs lay i k n) : gAt G mL_law (lQ G b Lx xs) 1966 (lLL G b i) [] (fO G (lay, T0, T1, Dd) I J K N) sz k n := by
  have hT0 : gTank lay T0 := gTk hE (R.tt.elim (fun h => Or.inl h.1) (fun h => Or.inr h.1))
  have hT1 : gTank lay T1 := gTk hE (R.tt.elim (fun h => Or.inr h.2) (fun h => Or.inl h.2))
  obtain ⟨r9, b9, g1, g2, g3⟩ := e_peak (n := 30000) (by decide) R (xs (i + 1)) (xs (i + 2))
  rcases r9 with E9 | v9
  · have g3 : Tt K (thA E9) b9.2 := g3
    refine r_aload_n dL_law_1966 rfl ?_
    refine s_arg (kq := 1) hL hi (by decide) (by decide) dL_law_1967 dL_law_1968 dL_law_1970 dL_law_1971 dL_law_1972 rfl rfl ?_
    refine s_arg (kq := 2) hL hi (by decide) (by decide) dL_law_1973 dL_law_1974 dL_law_1976 dL_law_1977 dL_law_1978 rfl rfl ?_
    refine r_aload_n dL_law_1979 rfl ?_
    refine r_cSWs (rest := []) (we_peak hs hE hT0 hT1 g1) dL_law_1980 wd_1165 zL_peak wd_1166 rfl rfl rfl ⟨Nat.le_of_ble_eq_true rfl, Nat.le_of_ble_eq_true rfl⟩ (Nat.le_of_ble_eq_true rfl) ⟨lk hk rfl, lk hn rfl⟩ (fun sz9 => ?_)
    refine r_widen (k2 := k + 64) (n2 := n + 64) (Nat.add_le_add_left (Nat.le_of_ble_eq_true rfl) _) (Nat.add_le_add_left (Nat.le_of_ble_eq_true rfl) _) ?_
    refine r_istore dL_law_1983 (by decide) rfl ?_
    refine r_aload_n dL_law_1985 rfl ?_
    refine s_arg (kq := 1) hL hi (by decide) (by decide) dL_law_1986 dL_law_1987 dL_law_1989 dL_law_1990 dL_law_1991 rfl rfl ?_
    refine s_arg (kq := 2) hL hi (by decide) (by decide) dL_law_1992 dL_law_1993 dL_law_1995 dL_law_1996 dL_law_1997 rfl rfl ?_
    refine r_cV0 (rest := []) (ct_X10_peak hs hE g2) dL_law_1998 wd_1975 zX10_peak wd_1976 wd_1977 rfl rfl rfl (fo10 (hE 153 (by decide))) rfl rfl ⟨Nat.le_of_ble_eq_true rfl, Nat.le_of_ble_eq_true rfl⟩ (Nat.le_of_ble_eq_true rfl) ⟨rfl, rfl⟩ (lkk hk hn) ?_
    refine r_istore dL_law_2001 (by decide) rfl ?_
    refine r_aload_n dL_law_2003 rfl ?_
    have t9 := g3.t
    refine r_cV0 (rest := []) (ct_X10_thrown (n := 0) hs hE rfl) dL_law_2004 wd_1621 zX10_thrown wd_1622 wd_1623 rfl rfl rfl (fo10 (hE 153 (by decide))) rfl rfl ⟨Nat.le_of_ble_eq_true rfl, Nat.le_of_ble_eq_true rfl⟩ (Nat.le_of_ble_eq_true rfl) ⟨rfl, rfl⟩ (lkk hk hn) ?_
    refine r_iload dL_law_2007 rfl ?_
    refine r_icmp_eq (tgt := 2014) dL_law_2009 (by decide) (fun _ => ?_) (fun q => absurd t9 q)
    refine r_iload dL_law_2014 rfl ?_
    refine r_if_ne (tgt := 2031) dL_law_2016 (by decide) (fun _ => ?_) (fun q => absurd q (thA_ne E9))
    refine r_goto (tgt := 4357) dL_law_2031 (by decide) ?_
    exact r_mask [true, true, true, true, true, true, false, false, false] rfl (hx _ _ _ _ _ _ _ _ (R.tt' g3))
  · have g3 : v9.1 = b9.1 ∧ Rel T0 T1 v9.2 b9.2 ∧ b9.2 153 0 = 0 := g3
    refine r_aload_n dL_law_1966 rfl ?_
    refine s_arg (kq := 1) hL hi (by decide) (by decide) dL_law_1967 dL_law_1968 dL_law_1970 dL_law_1971 dL_law_1972 rfl rfl ?_
    refine s_arg (kq := 2) hL hi (by decide) (by decide) dL_law_1973 dL_law_1974 dL_law_1976 dL_law_1977 dL_law_1978 rfl rfl ?_
    refine r_aload_n dL_law_1979 rfl ?_
    refine r_cSW1 (rest := []) (wo_peak hs hE hT0 hT1 g1) dL_law_1980 wd_1165 zL_peak wd_1166 rfl rfl rfl ⟨Nat.le_of_ble_eq_true rfl, Nat.le_of_ble_eq_true rfl⟩ (Nat.le_of_ble_eq_true rfl) ⟨lk hk rfl, lk hn rfl⟩ ?_
    refine r_widen (k2 := k + 64) (n2 := n + 64) (Nat.add_le_add_left (Nat.le_of_ble_eq_true rfl) _) (Nat.add_le_add_left (Nat.le_of_ble_eq_true rfl) _) ?_
    refine r_istore dL_law_1983 (by decide) rfl ?_
    refine r_aload_n dL_law_1985 rfl ?_
    refine s_arg (kq := 1) hL hi (by decide) (by decide) dL_law_1986 dL_law_1987 dL_law_1989 dL_law_1990 dL_law_1991 rfl rfl ?_
    refine s_arg (kq := 2) hL hi (by decide) (by decide) dL_law_1992 dL_law_1993 dL_law_1995 dL_law_1996 dL_law_1997 rfl rfl ?_
    refine r_cV0 (rest := []) (ct_X10_peak hs hE g2) dL_law_1998 wd_1975 zX10_peak wd_1976 wd_1977 rfl rfl rfl (fo10 (hE 153 (by decide))) rfl rfl ⟨Nat.le_of_ble_eq_true rfl, Nat.le_of_ble_eq_true rfl⟩ (Nat.le_of_ble_eq_true rfl) ⟨rfl, rfl⟩ (lkk hk hn) ?_
    refine r_istore dL_law_2001 (by decide) rfl ?_
    refine r_aload_n dL_law_2003 rfl ?_
    have t9 := g3.2.2
    refine r_cV0 (rest := []) (ct_X10_thrown (n := 0) hs hE rfl) dL_law_2004 wd_1621 zX10_thrown wd_1622 wd_1623 rfl rfl rfl (fo10 (hE 153 (by decide))) rfl rfl ⟨Nat.le_of_ble_eq_true rfl, Nat.le_of_ble_eq_true rfl⟩ (Nat.le_of_ble_eq_true rfl) ⟨rfl, rfl⟩ (lkk hk hn) ?_
    refine r_iload dL_law_2007 rfl ?_
    refine r_icmp_eq (tgt := 2014) dL_law_2009 (by decide) (fun _ => ?_) (fun q => absurd t9 q)
    refine r_iload dL_law_2014 rfl ?_
    refine r_if_ne (tgt := 2031) dL_law_2016 (by decide) (fun q => absurd rfl q) (fun _ => ?_)
    refine r_aload_n dL_law_2019 rfl ?_
    refine r_iconst (v := (0 : Int32)) dL_law_2020 (by decide) ?_
    refine a_laldc 0 dL_law_2021 (hE 170 (by decide)) (vpc rfl) rfl ?_
    refine r_tl sJ_self ?_
    refine r_iload dL_law_2022 rfl ?_
    refine r_i2l dL_law_2024 ?_
    refine r_lcmp dL_law_2025 ?_
    refine r_ti (y := 0) ((lg_cmp_eq _ _).mpr (congrArg Int32.toInt64 g3.1)) ?_
    refine r_if_eq (tgt := 2031) dL_law_2026 (by decide) (fun _ => ?_) (fun q => absurd rfl q)
    refine r_goto (tgt := 4357) dL_law_2031 (by decide) ?_
    exact r_mask [true, true, true, true, true, true, false, false, false] rfl (hx _ _ _ _ _ _ _ _ (g3.2.1))
set_option maxHeartbeats 4000000 in
set_option maxRecDepth 100000 in
theorem lc_crossings {G : gG} {b Lx i : Nat} {xs : Nat → Int32} {lay : Nat → Nat × Nat} {T0 T1 : Nat} {Dd : Nat → Nat → UInt64} {I : gI} {J : gJ} {K : gI} {N : gJ} {sz k n : Nat} (hs : G.1.stackTraces = false) (hE : gLay lay) (R : Rel T0 T1 I K) (hL : Lx ≤ 3072) (hi : i + 6 ≤ Lx) (hk : k + 64 ≤ 601024) (hn : n + 64 ≤ 7293034) (hx : lNx G b Lx xs lay i k n) : gAt G mL_law (lQ G b Lx xs) 2034 (lLL G b i) [] (fO G (lay, T0, T1, Dd) I J K N) sz k n := by
  have hT0 : gTank lay T0 := gTk hE (R.tt.elim (fun h => Or.inl h.1) (fun h => Or.inr h.1))
  have hT1 : gTank lay T1 := gTk hE (R.tt.elim (fun h => Or.inr h.2) (fun h => Or.inl h.2))
  obtain ⟨r9, b9, g1, g2, g3⟩ := e_crossings (n := 30000) (by decide) R (xs (i + 1)) (xs (i + 2))
  rcases r9 with E9 | v9
  · have g3 : Tt K (thA E9) b9.2 := g3
    refine r_aload_n dL_law_2034 rfl ?_
    refine s_arg (kq := 1) hL hi (by decide) (by decide) dL_law_2035 dL_law_2036 dL_law_2038 dL_law_2039 dL_law_2040 rfl rfl ?_
    refine s_arg (kq := 2) hL hi (by decide) (by decide) dL_law_2041 dL_law_2042 dL_law_2044 dL_law_2045 dL_law_2046 rfl rfl ?_
    refine r_aload_n dL_law_2047 rfl ?_
    refine r_cSWs (rest := []) (we_crossings hs hE hT0 hT1 g1) dL_law_2048 wd_1180 zL_crossings wd_1181 rfl rfl rfl ⟨Nat.le_of_ble_eq_true rfl, Nat.le_of_ble_eq_true rfl⟩ (Nat.le_of_ble_eq_true rfl) ⟨lk hk rfl, lk hn rfl⟩ (fun sz9 => ?_)
    refine r_widen (k2 := k + 64) (n2 := n + 64) (Nat.add_le_add_left (Nat.le_of_ble_eq_true rfl) _) (Nat.add_le_add_left (Nat.le_of_ble_eq_true rfl) _) ?_
    refine r_istore dL_law_2051 (by decide) rfl ?_
    refine r_aload_n dL_law_2053 rfl ?_
    refine s_arg (kq := 1) hL hi (by decide) (by decide) dL_law_2054 dL_law_2055 dL_law_2057 dL_law_2058 dL_law_2059 rfl rfl ?_
    refine s_arg (kq := 2) hL hi (by decide) (by decide) dL_law_2060 dL_law_2061 dL_law_2063 dL_law_2064 dL_law_2065 rfl rfl ?_
    refine r_cV0 (rest := []) (ct_X10_crossings hs hE g2) dL_law_2066 wd_2009 zX10_crossings wd_2010 wd_2011 rfl rfl rfl (fo10 (hE 153 (by decide))) rfl rfl ⟨Nat.le_of_ble_eq_true rfl, Nat.le_of_ble_eq_true rfl⟩ (Nat.le_of_ble_eq_true rfl) ⟨rfl, rfl⟩ (lkk hk hn) ?_
    refine r_istore dL_law_2069 (by decide) rfl ?_
    refine r_aload_n dL_law_2071 rfl ?_
    have t9 := g3.t
    refine r_cV0 (rest := []) (ct_X10_thrown (n := 0) hs hE rfl) dL_law_2072 wd_1621 zX10_thrown wd_1622 wd_1623 rfl rfl rfl (fo10 (hE 153 (by decide))) rfl rfl ⟨Nat.le_of_ble_eq_true rfl, Nat.le_of_ble_eq_true rfl⟩ (Nat.le_of_ble_eq_true rfl) ⟨rfl, rfl⟩ (lkk hk hn) ?_
    refine r_iload dL_law_2075 rfl ?_
    refine r_icmp_eq (tgt := 2082) dL_law_2077 (by decide) (fun _ => ?_) (fun q => absurd t9 q)
    refine r_iload dL_law_2082 rfl ?_
    refine r_if_ne (tgt := 2099) dL_law_2084 (by decide) (fun _ => ?_) (fun q => absurd q (thA_ne E9))
    refine r_goto (tgt := 4357) dL_law_2099 (by decide) ?_
    exact r_mask [true, true, true, true, true, true, false, false, false] rfl (hx _ _ _ _ _ _ _ _ (R.tt' g3))
  · have g3 : v9.1 = b9.1 ∧ Rel T0 T1 v9.2 b9.2 ∧ b9.2 153 0 = 0 := g3
    refine r_aload_n dL_law_2034 rfl ?_
    refine s_arg (kq := 1) hL hi (by decide) (by decide) dL_law_2035 dL_law_2036 dL_law_2038 dL_law_2039 dL_law_2040 rfl rfl ?_
    refine s_arg (kq := 2) hL hi (by decide) (by decide) dL_law_2041 dL_law_2042 dL_law_2044 dL_law_2045 dL_law_2046 rfl rfl ?_
    refine r_aload_n dL_law_2047 rfl ?_
    refine r_cSW1 (rest := []) (wo_crossings hs hE hT0 hT1 g1) dL_law_2048 wd_1180 zL_crossings wd_1181 rfl rfl rfl ⟨Nat.le_of_ble_eq_true rfl, Nat.le_of_ble_eq_true rfl⟩ (Nat.le_of_ble_eq_true rfl) ⟨lk hk rfl, lk hn rfl⟩ ?_
    refine r_widen (k2 := k + 64) (n2 := n + 64) (Nat.add_le_add_left (Nat.le_of_ble_eq_true rfl) _) (Nat.add_le_add_left (Nat.le_of_ble_eq_true rfl) _) ?_
    refine r_istore dL_law_2051 (by decide) rfl ?_
    refine r_aload_n dL_law_2053 rfl ?_
    refine s_arg (kq := 1) hL hi (by decide) (by decide) dL_law_2054 dL_law_2055 dL_law_2057 dL_law_2058 dL_law_2059 rfl rfl ?_
    refine s_arg (kq := 2) hL hi (by decide) (by decide) dL_law_2060 dL_law_2061 dL_law_2063 dL_law_2064 dL_law_2065 rfl rfl ?_
    refine r_cV0 (rest := []) (ct_X10_crossings hs hE g2) dL_law_2066 wd_2009 zX10_crossings wd_2010 wd_2011 rfl rfl rfl (fo10 (hE 153 (by decide))) rfl rfl ⟨Nat.le_of_ble_eq_true rfl, Nat.le_of_ble_eq_true rfl⟩ (Nat.le_of_ble_eq_true rfl) ⟨rfl, rfl⟩ (lkk hk hn) ?_
    refine r_istore dL_law_2069 (by decide) rfl ?_
    refine r_aload_n dL_law_2071 rfl ?_
    have t9 := g3.2.2
    refine r_cV0 (rest := []) (ct_X10_thrown (n := 0) hs hE rfl) dL_law_2072 wd_1621 zX10_thrown wd_1622 wd_1623 rfl rfl rfl (fo10 (hE 153 (by decide))) rfl rfl ⟨Nat.le_of_ble_eq_true rfl, Nat.le_of_ble_eq_true rfl⟩ (Nat.le_of_ble_eq_true rfl) ⟨rfl, rfl⟩ (lkk hk hn) ?_
    refine r_iload dL_law_2075 rfl ?_
    refine r_icmp_eq (tgt := 2082) dL_law_2077 (by decide) (fun _ => ?_) (fun q => absurd t9 q)
    refine r_iload dL_law_2082 rfl ?_
    refine r_if_ne (tgt := 2099) dL_law_2084 (by decide) (fun q => absurd rfl q) (fun _ => ?_)
    refine r_aload_n dL_law_2087 rfl ?_
    refine r_iconst (v := (0 : Int32)) dL_law_2088 (by decide) ?_
    refine a_laldc 0 dL_law_2089 (hE 170 (by decide)) (vpc rfl) rfl ?_
    refine r_tl sJ_self ?_
    refine r_iload dL_law_2090 rfl ?_
    refine r_i2l dL_law_2092 ?_
    refine r_lcmp dL_law_2093 ?_
    refine r_ti (y := 0) ((lg_cmp_eq _ _).mpr (congrArg Int32.toInt64 g3.1)) ?_
    refine r_if_eq (tgt := 2099) dL_law_2094 (by decide) (fun _ => ?_) (fun q => absurd rfl q)
    refine r_goto (tgt := 4357) dL_law_2099 (by decide) ?_
    exact r_mask [true, true, true, true, true, true, false, false, false] rfl (hx _ _ _ _ _ _ _ _ (g3.2.1))
set_option maxHeartbeats 4000000 in
set_option maxRecDepth 100000 in
theorem lc_rhythm {G : gG} {b Lx i : Nat} {xs : Nat → Int32} {lay : Nat → Nat × Nat} {T0 T1 : Nat} {Dd : Nat → Nat → UInt64} {I : gI} {J : gJ} {K : gI} {N : gJ} {sz k n : Nat} (hs : G.1.stackTraces = false) (hE : gLay lay) (R : Rel T0 T1 I K) (hL : Lx ≤ 3072) (hi : i + 6 ≤ Lx) (hk : k + 64 ≤ 601024) (hn : n + 64 ≤ 7293034) (hx : lNx G b Lx xs lay i k n) : gAt G mL_law (lQ G b Lx xs) 2102 (lLL G b i) [] (fO G (lay, T0, T1, Dd) I J K N) sz k n := by
  have hT0 : gTank lay T0 := gTk hE (R.tt.elim (fun h => Or.inl h.1) (fun h => Or.inr h.1))
  have hT1 : gTank lay T1 := gTk hE (R.tt.elim (fun h => Or.inr h.2) (fun h => Or.inl h.2))
  obtain ⟨r9, b9, g1, g2, g3⟩ := e_rhythm (n := 30000) (by decide) R (xs (i + 1)) (xs (i + 2))
  rcases r9 with E9 | v9
  · have g3 : Tt K (thA E9) b9.2 := g3
    refine r_aload_n dL_law_2102 rfl ?_
    refine s_arg (kq := 1) hL hi (by decide) (by decide) dL_law_2103 dL_law_2104 dL_law_2106 dL_law_2107 dL_law_2108 rfl rfl ?_
    refine s_arg (kq := 2) hL hi (by decide) (by decide) dL_law_2109 dL_law_2110 dL_law_2112 dL_law_2113 dL_law_2114 rfl rfl ?_
    refine r_aload_n dL_law_2115 rfl ?_
    refine r_cSWs (rest := []) (we_rhythm hs hE hT0 hT1 g1) dL_law_2116 wd_1187 zL_rhythm wd_1188 rfl rfl rfl ⟨Nat.le_of_ble_eq_true rfl, Nat.le_of_ble_eq_true rfl⟩ (Nat.le_of_ble_eq_true rfl) ⟨lk hk rfl, lk hn rfl⟩ (fun sz9 => ?_)
    refine r_widen (k2 := k + 64) (n2 := n + 64) (Nat.add_le_add_left (Nat.le_of_ble_eq_true rfl) _) (Nat.add_le_add_left (Nat.le_of_ble_eq_true rfl) _) ?_
    refine r_istore dL_law_2119 (by decide) rfl ?_
    refine r_aload_n dL_law_2121 rfl ?_
    refine s_arg (kq := 1) hL hi (by decide) (by decide) dL_law_2122 dL_law_2123 dL_law_2125 dL_law_2126 dL_law_2127 rfl rfl ?_
    refine s_arg (kq := 2) hL hi (by decide) (by decide) dL_law_2128 dL_law_2129 dL_law_2131 dL_law_2132 dL_law_2133 rfl rfl ?_
    refine r_cV0 (rest := []) (ct_X10_rhythm hs hE g2) dL_law_2134 wd_2013 zX10_rhythm wd_2014 wd_2015 rfl rfl rfl (fo10 (hE 153 (by decide))) rfl rfl ⟨Nat.le_of_ble_eq_true rfl, Nat.le_of_ble_eq_true rfl⟩ (Nat.le_of_ble_eq_true rfl) ⟨rfl, rfl⟩ (lkk hk hn) ?_
    refine r_istore dL_law_2137 (by decide) rfl ?_
    refine r_aload_n dL_law_2139 rfl ?_
    have t9 := g3.t
    refine r_cV0 (rest := []) (ct_X10_thrown (n := 0) hs hE rfl) dL_law_2140 wd_1621 zX10_thrown wd_1622 wd_1623 rfl rfl rfl (fo10 (hE 153 (by decide))) rfl rfl ⟨Nat.le_of_ble_eq_true rfl, Nat.le_of_ble_eq_true rfl⟩ (Nat.le_of_ble_eq_true rfl) ⟨rfl, rfl⟩ (lkk hk hn) ?_
    refine r_iload dL_law_2143 rfl ?_
    refine r_icmp_eq (tgt := 2150) dL_law_2145 (by decide) (fun _ => ?_) (fun q => absurd t9 q)
    refine r_iload dL_law_2150 rfl ?_
    refine r_if_ne (tgt := 2167) dL_law_2152 (by decide) (fun _ => ?_) (fun q => absurd q (thA_ne E9))
    refine r_goto (tgt := 4357) dL_law_2167 (by decide) ?_
    exact r_mask [true, true, true, true, true, true, false, false, false] rfl (hx _ _ _ _ _ _ _ _ (R.tt' g3))
  · have g3 : v9.1 = b9.1 ∧ Rel T0 T1 v9.2 b9.2 ∧ b9.2 153 0 = 0 := g3
    refine r_aload_n dL_law_2102 rfl ?_
    refine s_arg (kq := 1) hL hi (by decide) (by decide) dL_law_2103 dL_law_2104 dL_law_2106 dL_law_2107 dL_law_2108 rfl rfl ?_
    refine s_arg (kq := 2) hL hi (by decide) (by decide) dL_law_2109 dL_law_2110 dL_law_2112 dL_law_2113 dL_law_2114 rfl rfl ?_
    refine r_aload_n dL_law_2115 rfl ?_
    refine r_cSW1 (rest := []) (wo_rhythm hs hE hT0 hT1 g1) dL_law_2116 wd_1187 zL_rhythm wd_1188 rfl rfl rfl ⟨Nat.le_of_ble_eq_true rfl, Nat.le_of_ble_eq_true rfl⟩ (Nat.le_of_ble_eq_true rfl) ⟨lk hk rfl, lk hn rfl⟩ ?_
    refine r_widen (k2 := k + 64) (n2 := n + 64) (Nat.add_le_add_left (Nat.le_of_ble_eq_true rfl) _) (Nat.add_le_add_left (Nat.le_of_ble_eq_true rfl) _) ?_
    refine r_istore dL_law_2119 (by decide) rfl ?_
    refine r_aload_n dL_law_2121 rfl ?_
    refine s_arg (kq := 1) hL hi (by decide) (by decide) dL_law_2122 dL_law_2123 dL_law_2125 dL_law_2126 dL_law_2127 rfl rfl ?_
    refine s_arg (kq := 2) hL hi (by decide) (by decide) dL_law_2128 dL_law_2129 dL_law_2131 dL_law_2132 dL_law_2133 rfl rfl ?_
    refine r_cV0 (rest := []) (ct_X10_rhythm hs hE g2) dL_law_2134 wd_2013 zX10_rhythm wd_2014 wd_2015 rfl rfl rfl (fo10 (hE 153 (by decide))) rfl rfl ⟨Nat.le_of_ble_eq_true rfl, Nat.le_of_ble_eq_true rfl⟩ (Nat.le_of_ble_eq_true rfl) ⟨rfl, rfl⟩ (lkk hk hn) ?_
    refine r_istore dL_law_2137 (by decide) rfl ?_
    refine r_aload_n dL_law_2139 rfl ?_
    have t9 := g3.2.2
    refine r_cV0 (rest := []) (ct_X10_thrown (n := 0) hs hE rfl) dL_law_2140 wd_1621 zX10_thrown wd_1622 wd_1623 rfl rfl rfl (fo10 (hE 153 (by decide))) rfl rfl ⟨Nat.le_of_ble_eq_true rfl, Nat.le_of_ble_eq_true rfl⟩ (Nat.le_of_ble_eq_true rfl) ⟨rfl, rfl⟩ (lkk hk hn) ?_
    refine r_iload dL_law_2143 rfl ?_
    refine r_icmp_eq (tgt := 2150) dL_law_2145 (by decide) (fun _ => ?_) (fun q => absurd t9 q)
    refine r_iload dL_law_2150 rfl ?_
    refine r_if_ne (tgt := 2167) dL_law_2152 (by decide) (fun q => absurd rfl q) (fun _ => ?_)
    refine r_aload_n dL_law_2155 rfl ?_
    refine r_iconst (v := (0 : Int32)) dL_law_2156 (by decide) ?_
    refine a_laldc 0 dL_law_2157 (hE 170 (by decide)) (vpc rfl) rfl ?_
    refine r_tl sJ_self ?_
    refine r_iload dL_law_2158 rfl ?_
    refine r_i2l dL_law_2160 ?_
    refine r_lcmp dL_law_2161 ?_
    refine r_ti (y := 0) ((lg_cmp_eq _ _).mpr (congrArg Int32.toInt64 g3.1)) ?_
    refine r_if_eq (tgt := 2167) dL_law_2162 (by decide) (fun _ => ?_) (fun q => absurd rfl q)
    refine r_goto (tgt := 4357) dL_law_2167 (by decide) ?_
    exact r_mask [true, true, true, true, true, true, false, false, false] rfl (hx _ _ _ _ _ _ _ _ (g3.2.1))
