/-! TWO LONG ROWS WITH THE SAME CONTENT ARE EQUAL, by Arrays.equals -/
section EQR
variable {G : gG} {mi : gM} {Qp : List Frame → Array Value → State → State → Prop} {pc : Nat} {L : List (Option Value)} {st : List Value} {f f1 : gF} {sz k n : Nat}
theorem r_alenL {a N : Nat} {g : Nat → Int64} {v : Int32} (hd : decode mi.2.1 pc = .ok (.arraylength, 1)) (ha : f a = .inl (G.2.1.1 103, N, .inr (.inl g))) (hv : Int32.ofNat N = v) (kk : gAt G mi Qp (pc + 1) L (.int v :: st) f sz k n) : gAt G mi Qp pc L (.ref a :: st) f sz k n := by
  intro p e s m args below meth c F H locs ls hl hw
  obtain ⟨hP, hA⟩ := gRep.one hw.1 ha (fun h => by cases h)
  refine W.alen (n := v) F.1 F.2.1 (hP 0 _ rfl) ((hw.2.1.1.2 3 _ rfl).1 N (fun j => .long (g j))) ?_ rfl rfl hd (kk p e s m args below meth c F H locs ls hl hw)
  show (arrV _ _ _).slots.size.toInt32 = v
  rw [arrV_size]
  exact hv
theorem r_nul {a : Nat} {off : Int} (hd : decode mi.2.1 pc = .ok (.ifnull off, 3)) (kk : gAt G mi Qp (pc + 3) L st f sz k n) : gAt G mi Qp pc L (.ref a :: st) f sz k n := by
  intro p e s m args below meth c F H locs ls hl hw
  exact lv_ifnull F.1 F.2.1 hd (kk p e s m args below meth c F H locs ls hl hw)
theorem r_nnul {a : Nat} {off : Int} {tgt : Nat} (hd : decode mi.2.1 pc = .ok (.ifnonnull off, 3)) (ht : (pc : Int) + off = (tgt : Int)) (kk : gAt G mi Qp tgt L st f sz k n) : gAt G mi Qp pc L (.ref a :: st) f sz k n := by
  intro p e s m args below meth c F H locs ls hl hw
  exact lv_ifnonnull F.1 F.2.1 hd ht (kk p e s m args below meth c F H locs ls hl hw)
theorem r_acne {a b : Nat} {off : Int} {tgt : Nat} (hab : a ≠ b) (hd : decode mi.2.1 pc = .ok (.if_acmp .ne off, 3)) (ht : (pc : Int) + off = (tgt : Int)) (kk : gAt G mi Qp tgt L st f sz k n) : gAt G mi Qp pc L (.ref b :: .ref a :: st) f sz k n := by
  intro p e s m args below meth c F H locs ls hl hw
  exact lv_acmp_ne (rx := some a) (ry := some b) F.1 F.2.1 hd ht (fun _ => kk p e s m args below meth c F H locs ls hl hw) (fun z => absurd (Option.some.inj z) hab)
theorem r_lshl {x : Int64} {y : Int32} (hd : decode mi.2.1 pc = .ok (.lshl, 1)) (kk : gAt G mi Qp (pc + 1) L (.long (x <<< (y.toInt64 &&& 63)) :: st) f sz k n) : gAt G mi Qp pc L (.int y :: .long x :: st) f sz k n := by
  intro p e s m args below meth c F H locs ls hl hw
  exact lv_lshl F.1 F.2.1 hd rfl (kk p e s m args below meth c F H locs ls hl hw)
theorem r_gets3 {index : Nat} (hd : decode mi.2.1 pc = .ok (.getstatic index, 3)) (hl : Cond.fieldLink mi.1.cls index "jdk/internal/util/ArraysSupport" "LOG2_ARRAY_LONG_INDEX_SCALE" "I" ∈ gW) (kk : gAt G mi Qp (pc + 3) L (.int 3 :: st) f sz k n) : gAt G mi Qp pc L st f sz k n := by
  intro p e s m args below meth c F H locs ls hl2 hh
  exact va_gets F.1 F.2.1 hh.2.1.2.2.2.2.2.2.2.2.2.2.2.1 hh.2.2.2.2 F.2.2.2.1 (F.2.2.2.2.1 _ hl) (fun _ h => h) hd (kk p e s m args below meth c F H locs ls hl2 hh)
theorem r_gets16 {index : Nat} (hd : decode mi.2.1 pc = .ok (.getstatic index, 3)) (hl : Cond.fieldLink mi.1.cls index "jdk/internal/misc/Unsafe" "ARRAY_LONG_BASE_OFFSET" "I" ∈ gW) (kk : gAt G mi Qp (pc + 3) L (.int 16 :: st) f sz k n) : gAt G mi Qp pc L st f sz k n := by
  intro p e s m args below meth c F H locs ls hl2 hh
  exact va_gets F.1 F.2.1 hh.2.1.2.2.2.2.2.2.2.2.2.2.2.2.1 hh.2.2.2.2 F.2.2.2.1 (F.2.2.2.2.1 _ hl) (fun _ h => h) hd (kk p e s m args below meth c F H locs ls hl2 hh)
theorem r_gets2 {index : Nat} (hd : decode mi.2.1 pc = .ok (.getstatic index, 3)) (hl : Cond.fieldLink mi.1.cls index "jdk/internal/util/ArraysSupport" "LOG2_ARRAY_INT_INDEX_SCALE" "I" ∈ gW) (kk : gAt G mi Qp (pc + 3) L (.int 2 :: st) f sz k n) : gAt G mi Qp pc L st f sz k n := by
  intro p e s m args below meth c F H locs ls hl2 hh
  exact va_gets F.1 F.2.1 hh.2.1.2.2.2.2.2.2.2.2.2.2.2.2.2.1 hh.2.2.2.2 F.2.2.2.1 (F.2.2.2.2.1 _ hl) (fun _ h => h) hd (kk p e s m args below meth c F H locs ls hl2 hh)
theorem r_getsU {index : Nat} (hd : decode mi.2.1 pc = .ok (.getstatic index, 3)) (hl : Cond.fieldLink mi.1.cls index "jdk/internal/util/ArraysSupport" "U" "Ljdk/internal/misc/Unsafe;" ∈ gW) (kk : gAt G mi Qp (pc + 3) L (.ref (guA G) :: st) f sz k n) : gAt G mi Qp pc L st f sz k n := by
  intro p e s m args below meth c F H locs ls hl2 hh
  exact va_gets F.1 F.2.1 hh.2.1.2.2.2.2.2.2.2.2.2.2.2.2.2.2.1 hh.2.2.2.2 F.2.2.2.1 (F.2.2.2.2.1 _ hl) (fun _ h => h) hd (kk p e s m args below meth c F H locs ls hl2 hh)
/-- a call on the Unsafe object -/
theorem r_callU {mz : gM} {index na : Nat} {As rest st0 : List Value} {u : Value} (hC : gCt G mz (.ref (guA G) :: As) f sz (gR (some u) f1 sz)) (hd : decode mi.2.1 pc = .ok (.invokevirtual index, 3)) (hl : Cond.methodLink mi.1.cls index mz.1 ∈ gW) (hz : gZ mz na) (hi : Cond.instanceMethod mz.1 ∈ gW) (hse : Cond.selects mz.1.cls mz.1 mz.1 ∈ gW) (hcs : mz.1.cls = "jdk/internal/misc/Unsafe") (hT : mz.2.2.2.2.2 = [])
    (hst : st0 = As.reverse ++ .ref (guA G) :: rest) (hna : As.length = na) (hR : mz.2.2.2.2.1.frames + 1 ≤ mi.2.2.2.2.1.frames ∧ 8 + (mz.2.2.1 + 11) + mz.2.2.2.2.1.locals ≤ mi.2.2.2.2.1.locals) (hW : (rest.map fun v => v.category).sum ≤ 8) (hk : k + mz.2.2.2.2.1.cells ≤ mi.2.2.2.2.1.cells ∧ n + mz.2.2.2.2.1.slots ≤ mi.2.2.2.2.1.slots)
    (kk : gAt G mi Qp (pc + 3) L (u :: rest) f1 sz (k + mz.2.2.2.2.1.cells) (n + mz.2.2.2.2.1.slots)) : gAt G mi Qp pc L st0 f sz k n := by
  intro p e s m args below meth c F H locs ls hl2 hh
  refine g_call (vx_runV (As := As) (rest := rest) (C := mz.1.cls) (g_fix F) hC ⟨g_callB F hz hT hl hR, F.2.2.2.2.1 _ hi, F.2.2.2.2.1 _ hse⟩ ⟨gBlind, hcs ▸ va_Orecv hh.2.1.2.2.2.2.2.2.2.2.2.2.2.2.2.2.2 hh.2.2.2.2, fun U hU hWm => ⟨rfl, hh.wd hU hWm⟩⟩ rfl hna hl2.1 hst (lv_room hW) hd hk) hh ?_ ?_
  · intro E f' sz' ce q9 H1 locs1 h1 h2 h3 h4 h5
    cases h1.1
  · intro v f' sz' H1 locs1 h1 h2
    obtain ⟨h3, h4, h5⟩ := h1
    cases h3; subst h4; subst h5
    exact kk p e s m args below meth c F H1 locs1 ls hl2 h2
end EQR
/-- where the i-th long of a row lies -/
def offL (i : Nat) : Int64 := (16 : Int32).toInt64 + ((Int32.ofNat i).toInt64 <<< ((3 : Int32).toInt64 &&& 63))
section EQC
variable {G : gG} {f : gF} {sz a b : Nat} {g : Nat → Int64}
/-- what getLongUnaligned answers on a row -/
def gUn (G : gG) (f : gF) (sz a : Nat) (g : Nat → Int64) : Prop := ∀ i, i < 80 → gCt G mJx9a822_getLongUnaligned_f02c6 [.ref (guA G), .ref a, .long (offL i)] f sz (gR (some (.long (g i))) f sz)
set_option maxHeartbeats 4000000 in
set_option maxRecDepth 100000 in
theorem vm_loop (hs : G.1.stackTraces = false) (ha : gUn G f sz a g) (hb : gUn G f sz b g) : ∀ d i : Nat, i + d = 80 → gAt G mJ8_vectorizedMismatch_456ae (gQp G mJ8_vectorizedMismatch_456ae (gR (some (.int (-1))) f sz)) 11 [some (.ref a), some (.long (16 : Int32).toInt64), none, some (.ref b), some (.long (16 : Int32).toInt64), none, some (.int 80), some (.int 3), some (.int 0), some (.int (Int32.ofNat i)), none, none, none, none, none, none, none, none, none] [] f sz 0 0 := by
  have e80 : (80 : Int32) >>> ((0 : Int32) &&& 31) = Int32.ofNat 80 := by decide
  intro d
  induction d with
  | zero =>
    intro i hi
    have h80 : i = 80 := by omega
    subst h80
    refine r_iload dJ8_vectorizedMismatch_456ae_11 rfl ?_
    refine r_iload dJ8_vectorizedMismatch_456ae_13 rfl ?_
    refine r_iload dJ8_vectorizedMismatch_456ae_15 rfl ?_
    refine r_ishr dJ8_vectorizedMismatch_456ae_17 ?_
    refine r_icmp_ge (tgt := 122) dJ8_vectorizedMismatch_456ae_18 (by decide) (fun _ => ?_) (fun c => absurd (show (80 : Int32) >>> ((0 : Int32) &&& 31) ≤ Int32.ofNat 80 by decide) c)
    refine r_iload dJ8_vectorizedMismatch_456ae_122 rfl ?_
    refine r_iload dJ8_vectorizedMismatch_456ae_124 rfl ?_
    refine r_iload dJ8_vectorizedMismatch_456ae_126 rfl ?_
    refine r_ishl dJ8_vectorizedMismatch_456ae_128 ?_
    refine r_isub dJ8_vectorizedMismatch_456ae_129 ?_
    refine r_istore dJ8_vectorizedMismatch_456ae_130 (by decide) rfl ?_
    refine r_iload dJ8_vectorizedMismatch_456ae_132 rfl ?_
    refine r_gets2 dJ8_vectorizedMismatch_456ae_134 wd_1334 ?_
    refine r_icmp_ge (tgt := 263) dJ8_vectorizedMismatch_456ae_137 (by decide) (fun _ => ?_) (fun c => absurd (show (2 : Int32) ≤ 3 by decide) c)
    refine r_iload dJ8_vectorizedMismatch_456ae_263 rfl ?_
    refine r_iconst (v := (-1 : Int32)) dJ8_vectorizedMismatch_456ae_265 (by decide) ?_
    refine r_ixor dJ8_vectorizedMismatch_456ae_266 ?_
    exact r_iret dJ8_vectorizedMismatch_456ae_267 rfl (Nat.le_of_ble_eq_true rfl) (Nat.le_of_ble_eq_true rfl) ⟨by decide, rfl, rfl⟩
  | succ d ih =>
    intro i hi
    refine r_iload dJ8_vectorizedMismatch_456ae_11 rfl ?_
    refine r_iload dJ8_vectorizedMismatch_456ae_13 rfl ?_
    refine r_iload dJ8_vectorizedMismatch_456ae_15 rfl ?_
    refine r_ishr dJ8_vectorizedMismatch_456ae_17 ?_
    refine r_icmp_ge (tgt := 122) dJ8_vectorizedMismatch_456ae_18 (by decide) (fun c => absurd c (by rw [e80, i_ole (by omega) (by omega)]; omega)) (fun _ => ?_)
    refine r_iload dJ8_vectorizedMismatch_456ae_21 rfl ?_
    refine r_i2l dJ8_vectorizedMismatch_456ae_23 ?_
    refine r_gets3 dJ8_vectorizedMismatch_456ae_24 wd_1258 ?_
    refine r_lshl dJ8_vectorizedMismatch_456ae_27 ?_
    refine r_lstore dJ8_vectorizedMismatch_456ae_28 (by decide) rfl ?_
    refine r_getsU dJ8_vectorizedMismatch_456ae_30 wd_1263 ?_
    refine r_aload_n dJ8_vectorizedMismatch_456ae_33 rfl ?_
    refine r_lload_n dJ8_vectorizedMismatch_456ae_34 rfl ?_
    refine r_lload dJ8_vectorizedMismatch_456ae_35 rfl ?_
    refine r_ladd dJ8_vectorizedMismatch_456ae_37 ?_
    refine r_callU (rest := []) (ha i (by omega)) dJ8_vectorizedMismatch_456ae_38 wd_1265 zJx9a822_getLongUnaligned_f02c6 wd_1266 wd_1267 rfl rfl rfl rfl ⟨Nat.le_of_ble_eq_true rfl, Nat.le_of_ble_eq_true rfl⟩ (Nat.le_of_ble_eq_true rfl) ⟨Nat.le_of_ble_eq_true rfl, Nat.le_of_ble_eq_true rfl⟩ ?_
    refine r_lstore dJ8_vectorizedMismatch_456ae_41 (by decide) rfl ?_
    refine r_getsU dJ8_vectorizedMismatch_456ae_43 wd_1263 ?_
    refine r_aload_n dJ8_vectorizedMismatch_456ae_46 rfl ?_
    refine r_lload dJ8_vectorizedMismatch_456ae_47 rfl ?_
    refine r_lload dJ8_vectorizedMismatch_456ae_49 rfl ?_
    refine r_ladd dJ8_vectorizedMismatch_456ae_51 ?_
    refine r_callU (rest := []) (hb i (by omega)) dJ8_vectorizedMismatch_456ae_52 wd_1265 zJx9a822_getLongUnaligned_f02c6 wd_1266 wd_1267 rfl rfl rfl rfl ⟨Nat.le_of_ble_eq_true rfl, Nat.le_of_ble_eq_true rfl⟩ (Nat.le_of_ble_eq_true rfl) ⟨Nat.le_of_ble_eq_true rfl, Nat.le_of_ble_eq_true rfl⟩ ?_
    refine r_lstore dJ8_vectorizedMismatch_456ae_55 (by decide) rfl ?_
    refine r_lload dJ8_vectorizedMismatch_456ae_57 rfl ?_
    refine r_lload dJ8_vectorizedMismatch_456ae_59 rfl ?_
    refine r_lcmp dJ8_vectorizedMismatch_456ae_61 ?_
    refine r_if_eq (tgt := 116) dJ8_vectorizedMismatch_456ae_62 (by decide) (fun _ => ?_) (fun c => absurd ((cmp_0 _ _).mpr rfl) c)
    refine r_iincv (v := Int32.ofNat (i + 1)) dJ8_vectorizedMismatch_456ae_116 rfl (ixp_1 i) (by decide) rfl ?_
    refine r_goto (tgt := 11) dJ8_vectorizedMismatch_456ae_119 (by decide) ?_
    exact r_widen (k2 := 0) (n2 := 0) (Nat.le_of_ble_eq_true rfl) (Nat.le_of_ble_eq_true rfl) (r_mask [true, true, false, true, true, false, true, true, true, true, false, false, false, false, false, false, false, false, false] rfl (ih (i + 1) (by omega)))
set_option maxHeartbeats 4000000 in
set_option maxRecDepth 100000 in
theorem ct_vm (hs : G.1.stackTraces = false) (ha : gUn G f sz a g) (hb : gUn G f sz b g) : gCt G mJ8_vectorizedMismatch_456ae [.ref a, .long (16 : Int32).toInt64, .ref b, .long (16 : Int32).toInt64, .int 80, .int 3] f sz (gR (some (.int (-1))) f sz) := by
  refine gCt.of [some (.ref a), some (.long (16 : Int32).toInt64), none, some (.ref b), some (.long (16 : Int32).toInt64), none, some (.int 80), some (.int 3), none, none, none, none, none, none, none, none, none, none, none] (by decide +kernel) rfl hs rfl (Nat.le_of_ble_eq_true rfl) ?_
  refine r_gets3 dJ8_vectorizedMismatch_456ae_0 wd_1258 ?_
  refine r_iload dJ8_vectorizedMismatch_456ae_3 rfl ?_
  refine r_isub dJ8_vectorizedMismatch_456ae_5 ?_
  refine r_istore dJ8_vectorizedMismatch_456ae_6 (by decide) rfl ?_
  refine r_iconst (v := (0 : Int32)) dJ8_vectorizedMismatch_456ae_8 (by decide) ?_
  refine r_istore dJ8_vectorizedMismatch_456ae_9 (by decide) rfl ?_
  exact vm_loop hs ha hb 80 0 rfl
set_option maxHeartbeats 4000000 in
set_option maxRecDepth 100000 in
theorem ct_mm (hs : G.1.stackTraces = false) (fa : f a = .inl (G.2.1.1 103, 80, .inr (.inl g))) (fb : f b = .inl (G.2.1.1 103, 80, .inr (.inl g))) (ha : gUn G f sz a g) (hb : gUn G f sz b g) : gCt G mJ8_mismatch_974f6 [.ref a, .ref b, .int 80] f sz (gR (some (.int (-1))) f sz) := by
  refine gCt.of [some (.ref a), some (.ref b), some (.int 80), none] (by decide +kernel) rfl hs rfl (Nat.le_of_ble_eq_true rfl) ?_
  refine r_iload_n dJ8_mismatch_974f6_0 rfl ?_
  refine r_if_ne (tgt := 6) dJ8_mismatch_974f6_1 (by decide) (fun _ => ?_) (fun c => absurd c (by decide))
  refine r_aload_n dJ8_mismatch_974f6_6 rfl ?_
  refine r_iconst (v := (0 : Int32)) dJ8_mismatch_974f6_7 (by decide) ?_
  refine r_lald dJ8_mismatch_974f6_8 fa (vpc rfl) ?_
  refine r_aload_n dJ8_mismatch_974f6_9 rfl ?_
  refine r_iconst (v := (0 : Int32)) dJ8_mismatch_974f6_10 (by decide) ?_
  refine r_lald dJ8_mismatch_974f6_11 fb (vpc rfl) ?_
  refine r_lcmp dJ8_mismatch_974f6_12 ?_
  refine r_if_eq (tgt := 18) dJ8_mismatch_974f6_13 (by decide) (fun _ => ?_) (fun c => absurd ((cmp_0 _ _).mpr rfl) c)
  refine r_aload_n dJ8_mismatch_974f6_18 rfl ?_
  refine r_gets16 dJ8_mismatch_974f6_19 wd_1256 ?_
  refine r_i2l dJ8_mismatch_974f6_22 ?_
  refine r_aload_n dJ8_mismatch_974f6_23 rfl ?_
  refine r_gets16 dJ8_mismatch_974f6_24 wd_1256 ?_
  refine r_i2l dJ8_mismatch_974f6_27 ?_
  refine r_iload_n dJ8_mismatch_974f6_28 rfl ?_
  refine r_gets3 dJ8_mismatch_974f6_29 wd_1258 ?_
  refine r_cSi (rest := []) (ct_vm hs ha hb) dJ8_mismatch_974f6_32 wd_1260 zJ8_vectorizedMismatch_456ae wd_1261 rfl rfl rfl ⟨Nat.le_of_ble_eq_true rfl, Nat.le_of_ble_eq_true rfl⟩ (Nat.le_of_ble_eq_true rfl) ⟨Nat.le_of_ble_eq_true rfl, Nat.le_of_ble_eq_true rfl⟩ ?_
  refine r_istore_n dJ8_mismatch_974f6_35 (by decide) rfl ?_
  refine r_iload_n dJ8_mismatch_974f6_36 rfl ?_
  refine r_if_lt (tgt := 44) dJ8_mismatch_974f6_37 (by decide) (fun _ => ?_) (fun c => absurd (show (-1 : Int32) < 0 by decide) c)
  refine r_iconst (v := (-1 : Int32)) dJ8_mismatch_974f6_44 (by decide) ?_
  exact r_iret dJ8_mismatch_974f6_45 rfl (Nat.le_of_ble_eq_true rfl) (Nat.le_of_ble_eq_true rfl) ⟨rfl, rfl, rfl⟩
set_option maxHeartbeats 4000000 in
set_option maxRecDepth 100000 in
theorem ct_eq (hs : G.1.stackTraces = false) (hab : a ≠ b) (fa : f a = .inl (G.2.1.1 103, 80, .inr (.inl g))) (fb : f b = .inl (G.2.1.1 103, 80, .inr (.inl g))) (ha : gUn G f sz a g) (hb : gUn G f sz b g) : gCt G mJ7_equals_331f6 [.ref a, .ref b] f sz (gR (some (.int 1)) f sz) := by
  refine gCt.of [some (.ref a), some (.ref b), none] (by decide +kernel) rfl hs rfl (Nat.le_of_ble_eq_true rfl) ?_
  refine r_aload_n dJ7_equals_331f6_0 rfl ?_
  refine r_aload_n dJ7_equals_331f6_1 rfl ?_
  refine r_acne (tgt := 7) hab dJ7_equals_331f6_2 (by decide) ?_
  refine r_aload_n dJ7_equals_331f6_7 rfl ?_
  refine r_nul dJ7_equals_331f6_8 ?_
  refine r_aload_n dJ7_equals_331f6_11 rfl ?_
  refine r_nnul (tgt := 17) dJ7_equals_331f6_12 (by decide) ?_
  refine r_aload_n dJ7_equals_331f6_17 rfl ?_
  refine r_alenL (v := (80 : Int32)) dJ7_equals_331f6_18 fa rfl ?_
  refine r_istore_n dJ7_equals_331f6_19 (by decide) rfl ?_
  refine r_aload_n dJ7_equals_331f6_20 rfl ?_
  refine r_alenL (v := (80 : Int32)) dJ7_equals_331f6_21 fb rfl ?_
  refine r_iload_n dJ7_equals_331f6_22 rfl ?_
  refine r_icmp_eq (tgt := 28) dJ7_equals_331f6_23 (by decide) (fun _ => ?_) (fun c => absurd rfl c)
  refine r_aload_n dJ7_equals_331f6_28 rfl ?_
  refine r_aload_n dJ7_equals_331f6_29 rfl ?_
  refine r_iload_n dJ7_equals_331f6_30 rfl ?_
  refine r_cSi (rest := []) (ct_mm hs fa fb ha hb) dJ7_equals_331f6_31 wd_1253 zJ8_mismatch_974f6 wd_1254 rfl rfl rfl ⟨Nat.le_of_ble_eq_true rfl, Nat.le_of_ble_eq_true rfl⟩ (Nat.le_of_ble_eq_true rfl) ⟨Nat.le_of_ble_eq_true rfl, Nat.le_of_ble_eq_true rfl⟩ ?_
  refine r_if_ge (tgt := 41) dJ7_equals_331f6_34 (by decide) (fun c => absurd c (by decide)) (fun _ => ?_)
  refine r_iconst (v := (1 : Int32)) dJ7_equals_331f6_37 (by decide) ?_
  refine r_goto (tgt := 42) dJ7_equals_331f6_38 (by decide) ?_
  exact r_zret dJ7_equals_331f6_42 rfl rfl (Nat.le_of_ble_eq_true rfl) (Nat.le_of_ble_eq_true rfl) ⟨rfl, rfl, rfl⟩
end EQC
