theorem lX0 {G : gG} {b : Nat} : (eX0 G b).length = 66 := rfl
theorem lX1 {G : gG} {b : Nat} : (eX1 G b).length = 3 := rfl
theorem lX2 {G : gG} {b : Nat} : (eX2 G b).length = 2 := rfl
theorem lX4 {G : gG} {b : Nat} : (eX4 G b).length = 2 := rfl
theorem lX6 {G : gG} {b : Nat} : (eX6 G b).length = 8 := rfl
theorem lX7 {G : gG} {b rl : Nat} : (eX7 G b rl).length = 21 := rfl
def eX9 (G : gG) (b : Nat) : List va_E := [.inr (9, [.ref (b + 1), .int 0, .int 0, .int (-1 : Int32), .int 0, .ref (b + 95), .ref (b + 116), .ref (b + 2), .ref (b + 10), .ref (b + 18), .ref (b + 84), .ref (b + 85), .ref (b + 86), .ref (b + 88), .ref (b + 91), .ref (b + 92)]), .inl (G.2.1.1 101, 900, .inl (fun _ => 0))] ++ eX6 G (b + 2) ++ eX6 G (b + 10) ++ eX0 G (b + 18) ++ [.inl (G.2.1.1 107, 2, .inr (.inr (.inr (.inr (va_up (va_up (fun _ => none) 0 (some (b + 137))) 1 (some (b + 145))))))), .inl (G.2.1.1 100, 2, .inl (fun _ => 0))] ++ eX2 G (b + 86) ++ eX1 G (b + 88) ++ [.inl (G.2.1.1 103, 160, .inr (.inl (fun _ => 0))), .inl (G.2.1.1 102, 60, .inl (fun _ => 0))] ++ eX4 G (b + 93) ++ eX7 G (b + 95) (b + 93) ++ eX7 G (b + 116) (b + 93) ++ eX6 G (b + 137) ++ eX6 G (b + 145)
set_option maxHeartbeats 40000000 in
set_option maxRecDepth 100000 in
theorem ct_X9_init {G : gG} (hs : G.1.stackTraces = false) {b : Nat} {f : gF} : gCt G mX9_init [.ref b] (fA b f [.inr (9, dfX9)]) (b + 1) (gR none (fA b f (eX9 G b)) (b + 153)) := by
  refine gCt.of [some (.ref b), none, none] (by decide +kernel) rfl hs rfl (Nat.le_of_ble_eq_true rfl) ?_
  refine r_aload_n dX9_init_0 rfl ?_
  refine r_objInit dX9_init_1 wd_145 wd_146 cd_147 (Nat.le_of_ble_eq_true rfl) (Nat.le_of_ble_eq_true rfl) ?_
  refine r_aload_n dX9_init_4 rfl ?_
  refine r_sipush (v := (900 : Int32)) dX9_init_5 (by decide) ?_
  refine k_newa (ty := FieldType.byte) (m := 1) (N := 900) (a0 := (900, .inl (fun _ => 0))) 1 rfl rfl ⟨rfl, fun _ _ h => h⟩ na_b wd_209 (by decide) (by decide) (by decide) (Nat.le_of_ble_eq_true rfl) (Nat.le_of_ble_eq_true rfl) dX9_init_8 (by simp only [List.length_append, List.length_set, List.length_cons, List.length_nil, lX0, lX1, lX2, lX4, lX6, lX7, Nat.reduceAdd]) ?_
  refine k_putF (k0 := 0) tyX9 tyX9_ok nmX9 uX9 rfl dX9_init_10 wd_428 (by decide) rfl rfl rfl rfl rfl (Nat.le_of_ble_eq_true rfl) ?_
  refine r_aload_n dX9_init_13 rfl ?_
  refine r_iconst (v := (-1 : Int32)) dX9_init_14 (by decide) ?_
  refine k_put (k0 := 3) tyX9 tyX9_ok nmX9 uX9 rfl dX9_init_15 wd_431 (by decide) rfl rfl rfl (Nat.le_of_ble_eq_true rfl) ?_
  refine r_aload_n dX9_init_18 rfl ?_
  refine k_new (ci := 6) (m := 2) tyX6 tyX6_ok uX6 rfl dX9_init_19 wd_148 wd_149 wd_118 dfX6_ok (Nat.le_of_ble_eq_true rfl) (Nat.le_of_ble_eq_true rfl) (by simp only [List.length_append, List.length_set, List.length_cons, List.length_nil, lX0, lX1, lX2, lX4, lX6, lX7, Nat.reduceAdd]) ?_
  refine r_dup dX9_init_22 rfl ?_
  refine k_callIN (host := "RippleTank") (m := 2) (w := 8) (rest := [.ref (b + 2), .ref b]) (ct_X6_init hs) dX9_init_23 (gN_of 150 (by decide +kernel) rfl) zX6_init wd_151 rfl rfl rfl rfl rfl ⟨(Nat.le_of_ble_eq_true rfl), (Nat.le_of_ble_eq_true rfl)⟩ (Nat.le_of_ble_eq_true rfl) ⟨(Nat.le_of_ble_eq_true rfl), (Nat.le_of_ble_eq_true rfl)⟩ (by simp only [List.length_append, List.length_set, List.length_cons, List.length_nil, lX0, lX1, lX2, lX4, lX6, lX7, Nat.reduceAdd]) ?_
  refine k_putF (k0 := 7) tyX9 tyX9_ok nmX9 uX9 rfl dX9_init_26 wd_435 (by decide) rfl rfl rfl rfl rfl (Nat.le_of_ble_eq_true rfl) ?_
  refine r_aload_n dX9_init_29 rfl ?_
  refine k_new (ci := 6) (m := 10) tyX6 tyX6_ok uX6 rfl dX9_init_30 wd_148 wd_149 wd_118 dfX6_ok (Nat.le_of_ble_eq_true rfl) (Nat.le_of_ble_eq_true rfl) (by simp only [List.length_append, List.length_set, List.length_cons, List.length_nil, lX0, lX1, lX2, lX4, lX6, lX7, Nat.reduceAdd]) ?_
  refine r_dup dX9_init_33 rfl ?_
  refine k_callIN (host := "RippleTank") (m := 10) (w := 8) (rest := [.ref (b + 10), .ref b]) (ct_X6_init hs) dX9_init_34 (gN_of 150 (by decide +kernel) rfl) zX6_init wd_151 rfl rfl rfl rfl rfl ⟨(Nat.le_of_ble_eq_true rfl), (Nat.le_of_ble_eq_true rfl)⟩ (Nat.le_of_ble_eq_true rfl) ⟨(Nat.le_of_ble_eq_true rfl), (Nat.le_of_ble_eq_true rfl)⟩ (by simp only [List.length_append, List.length_set, List.length_cons, List.length_nil, lX0, lX1, lX2, lX4, lX6, lX7, Nat.reduceAdd]) ?_
  refine k_putF (k0 := 8) tyX9 tyX9_ok nmX9 uX9 rfl dX9_init_37 wd_436 (by decide) rfl rfl rfl rfl rfl (Nat.le_of_ble_eq_true rfl) ?_
  refine r_aload_n dX9_init_40 rfl ?_
  refine k_new (ci := 0) (m := 18) tyX0 tyX0_ok uX0 rfl dX9_init_41 wd_212 wd_213 wd_119 dfX0_ok (Nat.le_of_ble_eq_true rfl) (Nat.le_of_ble_eq_true rfl) (by simp only [List.length_append, List.length_set, List.length_cons, List.length_nil, lX0, lX1, lX2, lX4, lX6, lX7, Nat.reduceAdd]) ?_
  refine r_dup dX9_init_44 rfl ?_
  refine k_callI (m := 18) (w := 66) (rest := [.ref (b + 18), .ref b]) (ct_X0_init hs) dX9_init_45 wd_214 zX0_init wd_215 rfl rfl rfl rfl rfl ⟨(Nat.le_of_ble_eq_true rfl), (Nat.le_of_ble_eq_true rfl)⟩ (Nat.le_of_ble_eq_true rfl) ⟨(Nat.le_of_ble_eq_true rfl), (Nat.le_of_ble_eq_true rfl)⟩ (by simp only [List.length_append, List.length_set, List.length_cons, List.length_nil, lX0, lX1, lX2, lX4, lX6, lX7, Nat.reduceAdd]) ?_
  refine k_putF (k0 := 9) tyX9 tyX9_ok nmX9 uX9 rfl dX9_init_48 wd_437 (by decide) rfl rfl rfl rfl rfl (Nat.le_of_ble_eq_true rfl) ?_
  refine r_aload_n dX9_init_51 rfl ?_
  refine r_iconst (v := (2 : Int32)) dX9_init_52 (by decide) ?_
  refine k_newq (m := 84) (N := 2) 7 rfl wd_148 (gN_of 219 (by decide +kernel) rfl) (by decide) rfl (by decide) (Nat.le_of_ble_eq_true rfl) (Nat.le_of_ble_eq_true rfl) dX9_init_53 (by simp only [List.length_append, List.length_set, List.length_cons, List.length_nil, lX0, lX1, lX2, lX4, lX6, lX7, Nat.reduceAdd]) ?_
  refine k_putF (k0 := 10) tyX9 tyX9_ok nmX9 uX9 rfl dX9_init_56 wd_438 (by decide) rfl rfl rfl rfl rfl (Nat.le_of_ble_eq_true rfl) ?_
  refine r_aload_n dX9_init_59 rfl ?_
  refine r_iconst (v := (2 : Int32)) dX9_init_60 (by decide) ?_
  refine k_newa (ty := FieldType.boolean) (m := 85) (N := 2) (a0 := (2, .inl (fun _ => 0))) 0 rfl rfl ⟨rfl, fun _ _ h => h⟩ na_z wd_210 (by decide) (by decide) (by decide) (Nat.le_of_ble_eq_true rfl) (Nat.le_of_ble_eq_true rfl) dX9_init_61 (by simp only [List.length_append, List.length_set, List.length_cons, List.length_nil, lX0, lX1, lX2, lX4, lX6, lX7, Nat.reduceAdd]) ?_
  refine k_putF (k0 := 11) tyX9 tyX9_ok nmX9 uX9 rfl dX9_init_63 wd_439 (by decide) rfl rfl rfl rfl rfl (Nat.le_of_ble_eq_true rfl) ?_
  refine r_aload_n dX9_init_66 rfl ?_
  refine k_new (ci := 2) (m := 86) tyX2 tyX2_ok uX2 rfl dX9_init_67 wd_232 wd_233 wd_120 dfX2_ok (Nat.le_of_ble_eq_true rfl) (Nat.le_of_ble_eq_true rfl) (by simp only [List.length_append, List.length_set, List.length_cons, List.length_nil, lX0, lX1, lX2, lX4, lX6, lX7, Nat.reduceAdd]) ?_
  refine r_dup dX9_init_70 rfl ?_
  refine k_callIN (host := "RippleTank") (m := 86) (w := 2) (rest := [.ref (b + 86), .ref b]) (ct_X2_init hs) dX9_init_71 (gN_of 234 (by decide +kernel) rfl) zX2_init wd_235 rfl rfl rfl rfl rfl ⟨(Nat.le_of_ble_eq_true rfl), (Nat.le_of_ble_eq_true rfl)⟩ (Nat.le_of_ble_eq_true rfl) ⟨(Nat.le_of_ble_eq_true rfl), (Nat.le_of_ble_eq_true rfl)⟩ (by simp only [List.length_append, List.length_set, List.length_cons, List.length_nil, lX0, lX1, lX2, lX4, lX6, lX7, Nat.reduceAdd]) ?_
  refine k_putF (k0 := 12) tyX9 tyX9_ok nmX9 uX9 rfl dX9_init_74 wd_440 (by decide) rfl rfl rfl rfl rfl (Nat.le_of_ble_eq_true rfl) ?_
  refine r_aload_n dX9_init_77 rfl ?_
  refine k_new (ci := 1) (m := 88) tyX1 tyX1_ok uX1 rfl dX9_init_78 wd_247 wd_248 wd_121 dfX1_ok (Nat.le_of_ble_eq_true rfl) (Nat.le_of_ble_eq_true rfl) (by simp only [List.length_append, List.length_set, List.length_cons, List.length_nil, lX0, lX1, lX2, lX4, lX6, lX7, Nat.reduceAdd]) ?_
  refine r_dup dX9_init_81 rfl ?_
  refine k_callIN (host := "RippleTank") (m := 88) (w := 3) (rest := [.ref (b + 88), .ref b]) (ct_X1_init hs) dX9_init_82 (gN_of 249 (by decide +kernel) rfl) zX1_init wd_250 rfl rfl rfl rfl rfl ⟨(Nat.le_of_ble_eq_true rfl), (Nat.le_of_ble_eq_true rfl)⟩ (Nat.le_of_ble_eq_true rfl) ⟨(Nat.le_of_ble_eq_true rfl), (Nat.le_of_ble_eq_true rfl)⟩ (by simp only [List.length_append, List.length_set, List.length_cons, List.length_nil, lX0, lX1, lX2, lX4, lX6, lX7, Nat.reduceAdd]) ?_
  refine k_putF (k0 := 13) tyX9 tyX9_ok nmX9 uX9 rfl dX9_init_85 wd_441 (by decide) rfl rfl rfl rfl rfl (Nat.le_of_ble_eq_true rfl) ?_
  refine r_aload_n dX9_init_88 rfl ?_
  refine r_sipush (v := (160 : Int32)) dX9_init_89 (by decide) ?_
  refine k_newa (ty := FieldType.long) (m := 91) (N := 160) (a0 := (160, .inr (.inl (fun _ => 0)))) 3 rfl rfl ⟨rfl, fun _ _ h => h⟩ na_l wd_277 (by decide) (by decide) (by decide) (Nat.le_of_ble_eq_true rfl) (Nat.le_of_ble_eq_true rfl) dX9_init_92 (by simp only [List.length_append, List.length_set, List.length_cons, List.length_nil, lX0, lX1, lX2, lX4, lX6, lX7, Nat.reduceAdd]) ?_
  refine k_putF (k0 := 14) tyX9 tyX9_ok nmX9 uX9 rfl dX9_init_94 wd_442 (by decide) rfl rfl rfl rfl rfl (Nat.le_of_ble_eq_true rfl) ?_
  refine r_aload_n dX9_init_97 rfl ?_
  refine r_bipush (v := (60 : Int32)) dX9_init_98 (by decide) ?_
  refine k_newa (ty := FieldType.int) (m := 92) (N := 60) (a0 := (60, .inl (fun _ => 0))) 2 rfl rfl ⟨rfl, fun _ _ h => h⟩ na_i wd_211 (by decide) (by decide) (by decide) (Nat.le_of_ble_eq_true rfl) (Nat.le_of_ble_eq_true rfl) dX9_init_100 (by simp only [List.length_append, List.length_set, List.length_cons, List.length_nil, lX0, lX1, lX2, lX4, lX6, lX7, Nat.reduceAdd]) ?_
  refine k_putF (k0 := 15) tyX9 tyX9_ok nmX9 uX9 rfl dX9_init_102 wd_443 (by decide) rfl rfl rfl rfl rfl (Nat.le_of_ble_eq_true rfl) ?_
  refine k_new (ci := 4) (m := 93) tyX4 tyX4_ok uX4 rfl dX9_init_105 wd_264 wd_265 wd_122 dfX4_ok (Nat.le_of_ble_eq_true rfl) (Nat.le_of_ble_eq_true rfl) (by simp only [List.length_append, List.length_set, List.length_cons, List.length_nil, lX0, lX1, lX2, lX4, lX6, lX7, Nat.reduceAdd]) ?_
  refine r_dup dX9_init_108 rfl ?_
  refine k_callI (m := 93) (w := 2) (rest := [.ref (b + 93)]) (ct_X4_init hs) dX9_init_109 wd_266 zX4_init wd_267 rfl rfl rfl rfl rfl ⟨(Nat.le_of_ble_eq_true rfl), (Nat.le_of_ble_eq_true rfl)⟩ (Nat.le_of_ble_eq_true rfl) ⟨(Nat.le_of_ble_eq_true rfl), (Nat.le_of_ble_eq_true rfl)⟩ (by simp only [List.length_append, List.length_set, List.length_cons, List.length_nil, lX0, lX1, lX2, lX4, lX6, lX7, Nat.reduceAdd]) ?_
  refine r_astore_n dX9_init_112 (by decide) rfl ?_
  refine r_aload_n dX9_init_113 rfl ?_
  refine k_new (ci := 7) (m := 95) tyX7 tyX7_ok uX7 rfl dX9_init_114 wd_278 wd_279 wd_123 dfX7_ok (Nat.le_of_ble_eq_true rfl) (Nat.le_of_ble_eq_true rfl) (by simp only [List.length_append, List.length_set, List.length_cons, List.length_nil, lX0, lX1, lX2, lX4, lX6, lX7, Nat.reduceAdd]) ?_
  refine r_dup dX9_init_117 rfl ?_
  refine r_aload_n dX9_init_118 rfl ?_
  refine k_callI (m := 95) (w := 21) (rest := [.ref (b + 95), .ref b]) (ct_X7_init hs (rl := (b + 93))) dX9_init_119 wd_280 zX7_init wd_281 rfl rfl rfl rfl rfl ⟨(Nat.le_of_ble_eq_true rfl), (Nat.le_of_ble_eq_true rfl)⟩ (Nat.le_of_ble_eq_true rfl) ⟨(Nat.le_of_ble_eq_true rfl), (Nat.le_of_ble_eq_true rfl)⟩ (by simp only [List.length_append, List.length_set, List.length_cons, List.length_nil, lX0, lX1, lX2, lX4, lX6, lX7, Nat.reduceAdd]) ?_
  refine k_put (k0 := 5) tyX9 tyX9_ok nmX9 uX9 rfl dX9_init_122 wd_433 (by decide) rfl rfl rfl (Nat.le_of_ble_eq_true rfl) ?_
  refine r_aload_n dX9_init_125 rfl ?_
  refine k_new (ci := 7) (m := 116) tyX7 tyX7_ok uX7 rfl dX9_init_126 wd_278 wd_279 wd_123 dfX7_ok (Nat.le_of_ble_eq_true rfl) (Nat.le_of_ble_eq_true rfl) (by simp only [List.length_append, List.length_set, List.length_cons, List.length_nil, lX0, lX1, lX2, lX4, lX6, lX7, Nat.reduceAdd]) ?_
  refine r_dup dX9_init_129 rfl ?_
  refine r_aload_n dX9_init_130 rfl ?_
  refine k_callI (m := 116) (w := 21) (rest := [.ref (b + 116), .ref b]) (ct_X7_init hs (rl := (b + 93))) dX9_init_131 wd_280 zX7_init wd_281 rfl rfl rfl rfl rfl ⟨(Nat.le_of_ble_eq_true rfl), (Nat.le_of_ble_eq_true rfl)⟩ (Nat.le_of_ble_eq_true rfl) ⟨(Nat.le_of_ble_eq_true rfl), (Nat.le_of_ble_eq_true rfl)⟩ (by simp only [List.length_append, List.length_set, List.length_cons, List.length_nil, lX0, lX1, lX2, lX4, lX6, lX7, Nat.reduceAdd]) ?_
  refine k_put (k0 := 6) tyX9 tyX9_ok nmX9 uX9 rfl dX9_init_134 wd_434 (by decide) rfl rfl rfl (Nat.le_of_ble_eq_true rfl) ?_
  refine r_iconst (v := (0 : Int32)) dX9_init_137 (by decide) ?_
  refine r_istore_n dX9_init_138 (by decide) rfl ?_
  refine r_iload_n dX9_init_139 rfl ?_
  refine r_iconst (v := (2 : Int32)) dX9_init_140 (by decide) ?_
  refine r_icmp_ge (tgt := 163) dX9_init_141 (by decide) (fun c => absurd c (by decide)) (fun _ => ?_)
  refine r_aload_n dX9_init_144 rfl ?_
  refine k_get (k0 := 10) uX9 rfl dX9_init_145 wd_438 (by decide) rfl ?_
  refine r_iload_n dX9_init_148 rfl ?_
  refine k_new (ci := 6) (m := 137) tyX6 tyX6_ok uX6 rfl dX9_init_149 wd_148 wd_149 wd_118 dfX6_ok (Nat.le_of_ble_eq_true rfl) (Nat.le_of_ble_eq_true rfl) (by simp only [List.length_append, List.length_set, List.length_cons, List.length_nil, lX0, lX1, lX2, lX4, lX6, lX7, Nat.reduceAdd]) ?_
  refine r_dup dX9_init_152 rfl ?_
  refine k_callIN (host := "RippleTank") (m := 137) (w := 8) (rest := [.ref (b + 137), .int (0 : Int32), .ref (b + 84)]) (ct_X6_init hs) dX9_init_153 (gN_of 150 (by decide +kernel) rfl) zX6_init wd_151 rfl rfl rfl rfl rfl ⟨(Nat.le_of_ble_eq_true rfl), (Nat.le_of_ble_eq_true rfl)⟩ (Nat.le_of_ble_eq_true rfl) ⟨(Nat.le_of_ble_eq_true rfl), (Nat.le_of_ble_eq_true rfl)⟩ (by simp only [List.length_append, List.length_set, List.length_cons, List.length_nil, lX0, lX1, lX2, lX4, lX6, lX7, Nat.reduceAdd]) ?_
  refine k_aast (x := 83) (y := 136) 0 7 rfl dX9_init_156 rfl (Nat.le_of_ble_eq_true rfl) rfl rfl (vpc rfl) (by decide) ?_
  refine r_iincv (v := (1 : Int32)) dX9_init_157 rfl (by decide) (by decide) rfl ?_
  refine r_goto (tgt := 139) dX9_init_160 (by decide) ?_
  refine r_iload_n dX9_init_139 rfl ?_
  refine r_iconst (v := (2 : Int32)) dX9_init_140 (by decide) ?_
  refine r_icmp_ge (tgt := 163) dX9_init_141 (by decide) (fun c => absurd c (by decide)) (fun _ => ?_)
  refine r_aload_n dX9_init_144 rfl ?_
  refine k_get (k0 := 10) uX9 rfl dX9_init_145 wd_438 (by decide) rfl ?_
  refine r_iload_n dX9_init_148 rfl ?_
  refine k_new (ci := 6) (m := 145) tyX6 tyX6_ok uX6 rfl dX9_init_149 wd_148 wd_149 wd_118 dfX6_ok (Nat.le_of_ble_eq_true rfl) (Nat.le_of_ble_eq_true rfl) (by simp only [List.length_append, List.length_set, List.length_cons, List.length_nil, lX0, lX1, lX2, lX4, lX6, lX7, Nat.reduceAdd]) ?_
  refine r_dup dX9_init_152 rfl ?_
  refine k_callIN (host := "RippleTank") (m := 145) (w := 8) (rest := [.ref (b + 145), .int (1 : Int32), .ref (b + 84)]) (ct_X6_init hs) dX9_init_153 (gN_of 150 (by decide +kernel) rfl) zX6_init wd_151 rfl rfl rfl rfl rfl ⟨(Nat.le_of_ble_eq_true rfl), (Nat.le_of_ble_eq_true rfl)⟩ (Nat.le_of_ble_eq_true rfl) ⟨(Nat.le_of_ble_eq_true rfl), (Nat.le_of_ble_eq_true rfl)⟩ (by simp only [List.length_append, List.length_set, List.length_cons, List.length_nil, lX0, lX1, lX2, lX4, lX6, lX7, Nat.reduceAdd]) ?_
  refine k_aast (x := 83) (y := 144) 1 7 rfl dX9_init_156 rfl (Nat.le_of_ble_eq_true rfl) rfl rfl (vpc rfl) (by decide) ?_
  refine r_iincv (v := (2 : Int32)) dX9_init_157 rfl (by decide) (by decide) rfl ?_
  refine r_goto (tgt := 139) dX9_init_160 (by decide) ?_
  refine r_iload_n dX9_init_139 rfl ?_
  refine r_iconst (v := (2 : Int32)) dX9_init_140 (by decide) ?_
  refine r_icmp_ge (tgt := 163) dX9_init_141 (by decide) (fun _ => ?_) (fun c => absurd c (by decide))
  exact k_end (f1 := fA b f (eX9 G b)) (sz1 := b + 153) ⟨rfl, rfl, rfl⟩ dX9_init_163 rfl (Nat.le_of_ble_eq_true rfl) (Nat.le_of_ble_eq_true rfl) rfl rfl
