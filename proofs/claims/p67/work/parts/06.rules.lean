section GR
variable {G : gG} {mi : gM} {Qp : List Frame → Array Value → State → State → Prop} {pc : Nat} {L : List (Option Value)} {st : List Value} {f : gF} {sz k n : Nat}
theorem r_iconst {i : Int} {v : Int32} (hd : decode mi.2.1 pc = .ok (.iconst i, 1)) (hv : Int32.ofInt i = v) (kk : gAt G mi Qp (pc + 1) L (.int v :: st) f sz k n) : gAt G mi Qp pc L st f sz k n := by
  intro p e s m args below meth c F H locs ls hl hw
  exact lv_iconst F.1 F.2.1 hd hv (kk p e s m args below meth c F H locs ls hl hw)
theorem r_bipush {i : Int} {v : Int32} (hd : decode mi.2.1 pc = .ok (.bipush i, 2)) (hv : (Int8.ofInt i).toInt32 = v) (kk : gAt G mi Qp (pc + 2) L (.int v :: st) f sz k n) : gAt G mi Qp pc L st f sz k n := by
  intro p e s m args below meth c F H locs ls hl hw
  exact lv_bipush F.1 F.2.1 hd hv (kk p e s m args below meth c F H locs ls hl hw)
theorem r_sipush {i : Int} {v : Int32} (hd : decode mi.2.1 pc = .ok (.sipush i, 3)) (hv : (Int16.ofInt i).toInt32 = v) (kk : gAt G mi Qp (pc + 3) L (.int v :: st) f sz k n) : gAt G mi Qp pc L st f sz k n := by
  intro p e s m args below meth c F H locs ls hl hw
  exact lv_sipush F.1 F.2.1 hd hv (kk p e s m args below meth c F H locs ls hl hw)
theorem r_lconst {i : Fin 2} {v : Int64} (hd : decode mi.2.1 pc = .ok (.lconst i, 1)) (hv : Int64.ofNat (i : Nat) = v) (kk : gAt G mi Qp (pc + 1) L (.long v :: st) f sz k n) : gAt G mi Qp pc L st f sz k n := by
  intro p e s m args below meth c F H locs ls hl hw
  exact lv_lconst F.1 F.2.1 hd hv (kk p e s m args below meth c F H locs ls hl hw)
theorem r_iload {i : Nat} {x : Int32} (hd : decode mi.2.1 pc = .ok (.iload i, 2)) (hi : L[i]? = some (some (.int x))) (kk : gAt G mi Qp (pc + 2) L (.int x :: st) f sz k n) : gAt G mi Qp pc L st f sz k n := by
  intro p e s m args below meth c F H locs ls hl hw
  exact lv_iload F.1 F.2.1 hd (gL_at hl hi) (kk p e s m args below meth c F H locs ls hl hw)
theorem r_iload_n {j : Fin 4} {x : Int32} (hd : decode mi.2.1 pc = .ok (.iload_n j, 1)) (hi : L[(j : Nat)]? = some (some (.int x))) (kk : gAt G mi Qp (pc + 1) L (.int x :: st) f sz k n) : gAt G mi Qp pc L st f sz k n := by
  intro p e s m args below meth c F H locs ls hl hw
  exact lv_iload_n F.1 F.2.1 hd rfl (gL_at hl hi) (kk p e s m args below meth c F H locs ls hl hw)
theorem r_lload {i : Nat} {x : Int64} (hd : decode mi.2.1 pc = .ok (.lload i, 2)) (hi : L[i]? = some (some (.long x))) (kk : gAt G mi Qp (pc + 2) L (.long x :: st) f sz k n) : gAt G mi Qp pc L st f sz k n := by
  intro p e s m args below meth c F H locs ls hl hw
  exact lv_lload F.1 F.2.1 hd (gL_at hl hi) (kk p e s m args below meth c F H locs ls hl hw)
theorem r_lload_n {j : Fin 4} {x : Int64} (hd : decode mi.2.1 pc = .ok (.lload_n j, 1)) (hi : L[(j : Nat)]? = some (some (.long x))) (kk : gAt G mi Qp (pc + 1) L (.long x :: st) f sz k n) : gAt G mi Qp pc L st f sz k n := by
  intro p e s m args below meth c F H locs ls hl hw
  exact lv_lload_n F.1 F.2.1 hd rfl (gL_at hl hi) (kk p e s m args below meth c F H locs ls hl hw)
theorem r_aload {i : Nat} {x : Nat} (hd : decode mi.2.1 pc = .ok (.aload i, 2)) (hi : L[i]? = some (some (.ref x))) (kk : gAt G mi Qp (pc + 2) L (.ref x :: st) f sz k n) : gAt G mi Qp pc L st f sz k n := by
  intro p e s m args below meth c F H locs ls hl hw
  exact lv_aload F.1 F.2.1 hd (gL_at hl hi) (kk p e s m args below meth c F H locs ls hl hw)
theorem r_aload_n {j : Fin 4} {x : Nat} (hd : decode mi.2.1 pc = .ok (.aload_n j, 1)) (hi : L[(j : Nat)]? = some (some (.ref x))) (kk : gAt G mi Qp (pc + 1) L (.ref x :: st) f sz k n) : gAt G mi Qp pc L st f sz k n := by
  intro p e s m args below meth c F H locs ls hl hw
  exact lv_aload_n F.1 F.2.1 hd rfl (gL_at hl hi) (kk p e s m args below meth c F H locs ls hl hw)
theorem r_fload {i : Nat} {x : UInt32} (hd : decode mi.2.1 pc = .ok (.fload i, 2)) (hi : L[i]? = some (some (.float x))) (kk : gAt G mi Qp (pc + 2) L (.float x :: st) f sz k n) : gAt G mi Qp pc L st f sz k n := by
  intro p e s m args below meth c F H locs ls hl hw
  exact lv_fload F.1 F.2.1 hd (gL_at hl hi) (kk p e s m args below meth c F H locs ls hl hw)
theorem r_fload_n {j : Fin 4} {x : UInt32} (hd : decode mi.2.1 pc = .ok (.fload_n j, 1)) (hi : L[(j : Nat)]? = some (some (.float x))) (kk : gAt G mi Qp (pc + 1) L (.float x :: st) f sz k n) : gAt G mi Qp pc L st f sz k n := by
  intro p e s m args below meth c F H locs ls hl hw
  exact lv_fload_n F.1 F.2.1 hd rfl (gL_at hl hi) (kk p e s m args below meth c F H locs ls hl hw)
theorem r_istore {i : Nat} {x : Int32} (hd : decode mi.2.1 pc = .ok (.istore i, 2)) (hi : i < mi.2.2.1) (hc : gNo L i = true) (kk : gAt G mi Qp (pc + 2) (L.set i (some (.int x))) st f sz k n) : gAt G mi Qp pc L (.int x :: st) f sz k n := by
  intro p e s m args below meth c F H locs ls hl hw
  exact lv_istore F.1 F.2.1 hd hl hi rfl (fun ls2 h2 => kk p e s m args below meth c F H locs ls2 (gL_set1 hc h2) hw)
theorem r_istore_n {j : Fin 4} {x : Int32} (hd : decode mi.2.1 pc = .ok (.istore_n j, 1)) (hi : (j : Nat) < mi.2.2.1) (hc : gNo L (j : Nat) = true) (kk : gAt G mi Qp (pc + 1) (L.set (j : Nat) (some (.int x))) st f sz k n) : gAt G mi Qp pc L (.int x :: st) f sz k n := by
  intro p e s m args below meth c F H locs ls hl hw
  exact lv_istore_n F.1 F.2.1 hd rfl hl hi rfl (fun ls2 h2 => kk p e s m args below meth c F H locs ls2 (gL_set1 hc h2) hw)
theorem r_astore {i : Nat} {x : Nat} (hd : decode mi.2.1 pc = .ok (.astore i, 2)) (hi : i < mi.2.2.1) (hc : gNo L i = true) (kk : gAt G mi Qp (pc + 2) (L.set i (some (.ref x))) st f sz k n) : gAt G mi Qp pc L (.ref x :: st) f sz k n := by
  intro p e s m args below meth c F H locs ls hl hw
  exact lv_astore F.1 F.2.1 hd hl hi rfl (fun ls2 h2 => kk p e s m args below meth c F H locs ls2 (gL_set1 hc h2) hw)
theorem r_astore_n {j : Fin 4} {x : Nat} (hd : decode mi.2.1 pc = .ok (.astore_n j, 1)) (hi : (j : Nat) < mi.2.2.1) (hc : gNo L (j : Nat) = true) (kk : gAt G mi Qp (pc + 1) (L.set (j : Nat) (some (.ref x))) st f sz k n) : gAt G mi Qp pc L (.ref x :: st) f sz k n := by
  intro p e s m args below meth c F H locs ls hl hw
  exact lv_astore_n F.1 F.2.1 hd rfl hl hi rfl (fun ls2 h2 => kk p e s m args below meth c F H locs ls2 (gL_set1 hc h2) hw)
theorem r_fstore {i : Nat} {x : UInt32} (hd : decode mi.2.1 pc = .ok (.fstore i, 2)) (hi : i < mi.2.2.1) (hc : gNo L i = true) (kk : gAt G mi Qp (pc + 2) (L.set i (some (.float x))) st f sz k n) : gAt G mi Qp pc L (.float x :: st) f sz k n := by
  intro p e s m args below meth c F H locs ls hl hw
  exact lv_fstore F.1 F.2.1 hd hl hi rfl (fun ls2 h2 => kk p e s m args below meth c F H locs ls2 (gL_set1 hc h2) hw)
theorem r_fstore_n {j : Fin 4} {x : UInt32} (hd : decode mi.2.1 pc = .ok (.fstore_n j, 1)) (hi : (j : Nat) < mi.2.2.1) (hc : gNo L (j : Nat) = true) (kk : gAt G mi Qp (pc + 1) (L.set (j : Nat) (some (.float x))) st f sz k n) : gAt G mi Qp pc L (.float x :: st) f sz k n := by
  intro p e s m args below meth c F H locs ls hl hw
  exact lv_fstore_n F.1 F.2.1 hd rfl hl hi rfl (fun ls2 h2 => kk p e s m args below meth c F H locs ls2 (gL_set1 hc h2) hw)
theorem r_lstore {i : Nat} {x : Int64} (hd : decode mi.2.1 pc = .ok (.lstore i, 2)) (hi : i + 1 < mi.2.2.1) (hc : gNo L i = true) (kk : gAt G mi Qp (pc + 2) ((L.set i (some (.long x))).set (i + 1) none) st f sz k n) : gAt G mi Qp pc L (.long x :: st) f sz k n := by
  intro p e s m args below meth c F H locs ls hl hw
  exact lv_lstore F.1 F.2.1 hd hl hi rfl (fun ls2 h2 => kk p e s m args below meth c F H locs ls2 (gL_set2 hc h2) hw)
theorem r_lstore_n {j : Fin 4} {x : Int64} (hd : decode mi.2.1 pc = .ok (.lstore_n j, 1)) (hi : (j : Nat) + 1 < mi.2.2.1) (hc : gNo L (j : Nat) = true) (kk : gAt G mi Qp (pc + 1) ((L.set (j : Nat) (some (.long x))).set ((j : Nat) + 1) none) st f sz k n) : gAt G mi Qp pc L (.long x :: st) f sz k n := by
  intro p e s m args below meth c F H locs ls hl hw
  exact lv_lstore_n F.1 F.2.1 hd rfl hl hi rfl (fun ls2 h2 => kk p e s m args below meth c F H locs ls2 (gL_set2 hc h2) hw)
theorem r_iinc {i : Nat} {d : Int} {x : Int32} (hd : decode mi.2.1 pc = .ok (.iinc i d, 3)) (hx : L[i]? = some (some (.int x))) (hi : i < mi.2.2.1) (hc : gNo L i = true) (kk : gAt G mi Qp (pc + 3) (L.set i (some (.int (x + Int32.ofInt d)))) st f sz k n) : gAt G mi Qp pc L st f sz k n := by
  intro p e s m args below meth c F H locs ls hl hw
  obtain ⟨j, hj⟩ := List.getElem?_of_mem (gLp_mem.mpr ⟨Nat.zero_le _, by simpa using hx⟩ : (i, Value.int x) ∈ gLp 0 L)
  exact lv_iinc F.1 F.2.1 hd hl hj rfl hi rfl (fun ls2 h2 => kk p e s m args below meth c F H locs ls2 (gL_set1 hc h2) hw)
theorem r_iadd {x y : Int32} (hd : decode mi.2.1 pc = .ok (.iadd, 1)) (kk : gAt G mi Qp (pc + 1) L (.int (x + y) :: st) f sz k n) : gAt G mi Qp pc L (.int y :: .int x :: st) f sz k n := by
  intro p e s m args below meth c F H locs ls hl hw
  exact lv_iadd F.1 F.2.1 hd (kk p e s m args below meth c F H locs ls hl hw)
theorem r_isub {x y : Int32} (hd : decode mi.2.1 pc = .ok (.isub, 1)) (kk : gAt G mi Qp (pc + 1) L (.int (x - y) :: st) f sz k n) : gAt G mi Qp pc L (.int y :: .int x :: st) f sz k n := by
  intro p e s m args below meth c F H locs ls hl hw
  exact lv_isub F.1 F.2.1 hd (kk p e s m args below meth c F H locs ls hl hw)
theorem r_imul {x y : Int32} (hd : decode mi.2.1 pc = .ok (.imul, 1)) (kk : gAt G mi Qp (pc + 1) L (.int (x * y) :: st) f sz k n) : gAt G mi Qp pc L (.int y :: .int x :: st) f sz k n := by
  intro p e s m args below meth c F H locs ls hl hw
  exact lv_imul F.1 F.2.1 hd (kk p e s m args below meth c F H locs ls hl hw)
theorem r_iand {x y : Int32} (hd : decode mi.2.1 pc = .ok (.iand, 1)) (kk : gAt G mi Qp (pc + 1) L (.int (x &&& y) :: st) f sz k n) : gAt G mi Qp pc L (.int y :: .int x :: st) f sz k n := by
  intro p e s m args below meth c F H locs ls hl hw
  exact lv_iand F.1 F.2.1 hd (kk p e s m args below meth c F H locs ls hl hw)
theorem r_ior {x y : Int32} (hd : decode mi.2.1 pc = .ok (.ior, 1)) (kk : gAt G mi Qp (pc + 1) L (.int (x ||| y) :: st) f sz k n) : gAt G mi Qp pc L (.int y :: .int x :: st) f sz k n := by
  intro p e s m args below meth c F H locs ls hl hw
  exact lv_ior F.1 F.2.1 hd (kk p e s m args below meth c F H locs ls hl hw)
theorem r_ixor {x y : Int32} (hd : decode mi.2.1 pc = .ok (.ixor, 1)) (kk : gAt G mi Qp (pc + 1) L (.int (x ^^^ y) :: st) f sz k n) : gAt G mi Qp pc L (.int y :: .int x :: st) f sz k n := by
  intro p e s m args below meth c F H locs ls hl hw
  exact lv_ixor F.1 F.2.1 hd (kk p e s m args below meth c F H locs ls hl hw)
theorem r_ishl {x y : Int32} (hd : decode mi.2.1 pc = .ok (.ishl, 1)) (kk : gAt G mi Qp (pc + 1) L (.int (x <<< (y &&& 31)) :: st) f sz k n) : gAt G mi Qp pc L (.int y :: .int x :: st) f sz k n := by
  intro p e s m args below meth c F H locs ls hl hw
  exact lv_ishl F.1 F.2.1 hd (kk p e s m args below meth c F H locs ls hl hw)
theorem r_ishr {x y : Int32} (hd : decode mi.2.1 pc = .ok (.ishr, 1)) (kk : gAt G mi Qp (pc + 1) L (.int (x >>> (y &&& 31)) :: st) f sz k n) : gAt G mi Qp pc L (.int y :: .int x :: st) f sz k n := by
  intro p e s m args below meth c F H locs ls hl hw
  exact lv_ishr F.1 F.2.1 hd (kk p e s m args below meth c F H locs ls hl hw)
theorem r_idiv {x y : Int32} (hd : decode mi.2.1 pc = .ok (.idiv, 1)) (hne : ¬ y = 0) (kk : gAt G mi Qp (pc + 1) L (.int (x / y) :: st) f sz k n) : gAt G mi Qp pc L (.int y :: .int x :: st) f sz k n := by
  intro p e s m args below meth c F H locs ls hl hw
  exact lv_idiv F.1 F.2.1 hd hne (kk p e s m args below meth c F H locs ls hl hw)
theorem r_irem {x y : Int32} (hd : decode mi.2.1 pc = .ok (.irem, 1)) (hne : ¬ y = 0) (kk : gAt G mi Qp (pc + 1) L (.int (x - x / y * y) :: st) f sz k n) : gAt G mi Qp pc L (.int y :: .int x :: st) f sz k n := by
  intro p e s m args below meth c F H locs ls hl hw
  exact lv_irem F.1 F.2.1 hd hne (kk p e s m args below meth c F H locs ls hl hw)
theorem r_iushr {x y : Int32} (hd : decode mi.2.1 pc = .ok (.iushr, 1)) (kk : gAt G mi Qp (pc + 1) L (.int ((x.toUInt32 >>> (y.toUInt32 &&& Int32.toUInt32 31)).toInt32) :: st) f sz k n) : gAt G mi Qp pc L (.int y :: .int x :: st) f sz k n := by
  intro p e s m args below meth c F H locs ls hl hw
  exact lv_iushr F.1 F.2.1 hd rfl (kk p e s m args below meth c F H locs ls hl hw)
theorem r_ineg {x : Int32} (hd : decode mi.2.1 pc = .ok (.ineg, 1)) (kk : gAt G mi Qp (pc + 1) L (.int (-x) :: st) f sz k n) : gAt G mi Qp pc L (.int x :: st) f sz k n := by
  intro p e s m args below meth c F H locs ls hl hw
  exact lv_ineg F.1 F.2.1 hd (kk p e s m args below meth c F H locs ls hl hw)
theorem r_ladd {x y : Int64} (hd : decode mi.2.1 pc = .ok (.ladd, 1)) (kk : gAt G mi Qp (pc + 1) L (.long (x + y) :: st) f sz k n) : gAt G mi Qp pc L (.long y :: .long x :: st) f sz k n := by
  intro p e s m args below meth c F H locs ls hl hw
  exact lv_ladd F.1 F.2.1 hd (kk p e s m args below meth c F H locs ls hl hw)
theorem r_lsub {x y : Int64} (hd : decode mi.2.1 pc = .ok (.lsub, 1)) (kk : gAt G mi Qp (pc + 1) L (.long (x - y) :: st) f sz k n) : gAt G mi Qp pc L (.long y :: .long x :: st) f sz k n := by
  intro p e s m args below meth c F H locs ls hl hw
  exact lv_lsub F.1 F.2.1 hd (kk p e s m args below meth c F H locs ls hl hw)
theorem r_lmul {x y : Int64} (hd : decode mi.2.1 pc = .ok (.lmul, 1)) (kk : gAt G mi Qp (pc + 1) L (.long (x * y) :: st) f sz k n) : gAt G mi Qp pc L (.long y :: .long x :: st) f sz k n := by
  intro p e s m args below meth c F H locs ls hl hw
  exact lv_lmul F.1 F.2.1 hd (kk p e s m args below meth c F H locs ls hl hw)
theorem r_ldiv {x y : Int64} (hd : decode mi.2.1 pc = .ok (.ldiv, 1)) (hne : ¬ y = 0) (kk : gAt G mi Qp (pc + 1) L (.long (x / y) :: st) f sz k n) : gAt G mi Qp pc L (.long y :: .long x :: st) f sz k n := by
  intro p e s m args below meth c F H locs ls hl hw
  exact lv_ldiv F.1 F.2.1 hd hne (kk p e s m args below meth c F H locs ls hl hw)
theorem r_lcmp {x y : Int64} (hd : decode mi.2.1 pc = .ok (.lcmp, 1)) (kk : gAt G mi Qp (pc + 1) L (.int (lg_cmp x y) :: st) f sz k n) : gAt G mi Qp pc L (.long y :: .long x :: st) f sz k n := by
  intro p e s m args below meth c F H locs ls hl hw
  exact W.lcmp F.1 F.2.1 hd (kk p e s m args below meth c F H locs ls hl hw)
theorem r_i2l {x : Int32} (hd : decode mi.2.1 pc = .ok (.i2l, 1)) (kk : gAt G mi Qp (pc + 1) L (.long x.toInt64 :: st) f sz k n) : gAt G mi Qp pc L (.int x :: st) f sz k n := by
  intro p e s m args below meth c F H locs ls hl hw
  exact lv_i2l F.1 F.2.1 hd rfl (kk p e s m args below meth c F H locs ls hl hw)
theorem r_l2i {x : Int64} (hd : decode mi.2.1 pc = .ok (.l2i, 1)) (kk : gAt G mi Qp (pc + 1) L (.int x.toInt32 :: st) f sz k n) : gAt G mi Qp pc L (.long x :: st) f sz k n := by
  intro p e s m args below meth c F H locs ls hl hw
  exact lv_l2i F.1 F.2.1 hd rfl (kk p e s m args below meth c F H locs ls hl hw)
theorem r_i2b {x : Int32} (hd : decode mi.2.1 pc = .ok (.i2b, 1)) (kk : gAt G mi Qp (pc + 1) L (.int x.toInt8.toInt32 :: st) f sz k n) : gAt G mi Qp pc L (.int x :: st) f sz k n := by
  intro p e s m args below meth c F H locs ls hl hw
  exact lv_i2b F.1 F.2.1 hd rfl (kk p e s m args below meth c F H locs ls hl hw)
theorem r_l2f {x : Int64} (hd : decode mi.2.1 pc = .ok (.l2f, 1)) (kk : gAt G mi Qp (pc + 1) L (.float (FP.l2f x) :: st) f sz k n) : gAt G mi Qp pc L (.long x :: st) f sz k n := by
  intro p e s m args below meth c F H locs ls hl hw
  exact lv_l2f F.1 F.2.1 hd (kk p e s m args below meth c F H locs ls hl hw)
theorem r_fdiv {x y : UInt32} (hd : decode mi.2.1 pc = .ok (.fdiv, 1)) (hne : vf_n32 (FP.fdiv x y)) (kk : gAt G mi Qp (pc + 1) L (.float (FP.fdiv x y) :: st) f sz k n) : gAt G mi Qp pc L (.float y :: .float x :: st) f sz k n := by
  intro p e s m args below meth c F H locs ls hl hw
  exact lv_fdiv F.1 F.2.1 hd hne (kk p e s m args below meth c F H locs ls hl hw)
theorem r_f2d {x : UInt32} (hd : decode mi.2.1 pc = .ok (.f2d, 1)) (hne : vf_n64 (FP.f2d x)) (kk : gAt G mi Qp (pc + 1) L (.double (FP.f2d x) :: st) f sz k n) : gAt G mi Qp pc L (.float x :: st) f sz k n := by
  intro p e s m args below meth c F H locs ls hl hw
  exact lv_f2d F.1 F.2.1 hd hne (kk p e s m args below meth c F H locs ls hl hw)
theorem r_fcmp {x y : UInt32} {op : CmpOp} (hd : decode mi.2.1 pc = .ok (.fcmp op, 1)) (kk : gAt G mi Qp (pc + 1) L (.int (Op.cmpValue (FP.fcmp x y) op) :: st) f sz k n) : gAt G mi Qp pc L (.float y :: .float x :: st) f sz k n := by
  intro p e s m args below meth c F H locs ls hl hw
  exact lv_fcmp F.1 F.2.1 hd (kk p e s m args below meth c F H locs ls hl hw)
theorem r_dcmp {x y : UInt64} {op : CmpOp} (hd : decode mi.2.1 pc = .ok (.dcmp op, 1)) (kk : gAt G mi Qp (pc + 1) L (.int (Op.cmpValue (FP.dcmp x y) op) :: st) f sz k n) : gAt G mi Qp pc L (.double y :: .double x :: st) f sz k n := by
  intro p e s m args below meth c F H locs ls hl hw
  exact lv_dcmp F.1 F.2.1 hd (kk p e s m args below meth c F H locs ls hl hw)
theorem r_fconst0 (hd : decode mi.2.1 pc = .ok (.fconst 0, 1)) (kk : gAt G mi Qp (pc + 1) L (.float FP.fconst0 :: st) f sz k n) : gAt G mi Qp pc L st f sz k n := by
  intro p e s m args below meth c F H locs ls hl hw
  exact lv_fconst0 F.1 F.2.1 hd (kk p e s m args below meth c F H locs ls hl hw)
theorem r_dup {v : Value} (hd : decode mi.2.1 pc = .ok (.dup, 1)) (hv : v.category = 1) (kk : gAt G mi Qp (pc + 1) L (v :: v :: st) f sz k n) : gAt G mi Qp pc L (v :: st) f sz k n := by
  intro p e s m args below meth c F H locs ls hl hw
  exact lv_dup F.1 F.2.1 hd hv (kk p e s m args below meth c F H locs ls hl hw)
theorem r_dup2 {v w : Value} (hd : decode mi.2.1 pc = .ok (.dup2, 1)) (hv : v.category = 1) (hu : w.category = 1) (kk : gAt G mi Qp (pc + 1) L (v :: w :: v :: w :: st) f sz k n) : gAt G mi Qp pc L (v :: w :: st) f sz k n := by
  intro p e s m args below meth c F H locs ls hl hw
  exact lv_dup2_11 F.1 F.2.1 hd hv hu (kk p e s m args below meth c F H locs ls hl hw)
theorem r_if_eq {x : Int32} {off : Int} {tgt : Nat} (hd : decode mi.2.1 pc = .ok (.ifCond .eq off, 3)) (ht : (pc : Int) + off = (tgt : Int)) (kt : x = 0 → gAt G mi Qp tgt L st f sz k n) (kf : ¬ (x = 0) → gAt G mi Qp (pc + 3) L st f sz k n) : gAt G mi Qp pc L (.int x :: st) f sz k n := by
  intro p e s m args below meth c F H locs ls hl hw
  exact lv_if_eq F.1 F.2.1 hd ht (fun h => kt h p e s m args below meth c F H locs ls hl hw) (fun h => kf h p e s m args below meth c F H locs ls hl hw)
theorem r_icmp_eq {x y : Int32} {off : Int} {tgt : Nat} (hd : decode mi.2.1 pc = .ok (.if_icmp .eq off, 3)) (ht : (pc : Int) + off = (tgt : Int)) (kt : x = y → gAt G mi Qp tgt L st f sz k n) (kf : ¬ (x = y) → gAt G mi Qp (pc + 3) L st f sz k n) : gAt G mi Qp pc L (.int y :: .int x :: st) f sz k n := by
  intro p e s m args below meth c F H locs ls hl hw
  exact lv_icmp_eq F.1 F.2.1 hd ht (fun h => kt h p e s m args below meth c F H locs ls hl hw) (fun h => kf h p e s m args below meth c F H locs ls hl hw)
theorem r_if_ne {x : Int32} {off : Int} {tgt : Nat} (hd : decode mi.2.1 pc = .ok (.ifCond .ne off, 3)) (ht : (pc : Int) + off = (tgt : Int)) (kt : ¬ x = 0 → gAt G mi Qp tgt L st f sz k n) (kf : (x = 0) → gAt G mi Qp (pc + 3) L st f sz k n) : gAt G mi Qp pc L (.int x :: st) f sz k n := by
  intro p e s m args below meth c F H locs ls hl hw
  exact lv_if_ne F.1 F.2.1 hd ht (fun h => kt h p e s m args below meth c F H locs ls hl hw) (fun h => kf h p e s m args below meth c F H locs ls hl hw)
theorem r_icmp_ne {x y : Int32} {off : Int} {tgt : Nat} (hd : decode mi.2.1 pc = .ok (.if_icmp .ne off, 3)) (ht : (pc : Int) + off = (tgt : Int)) (kt : ¬ x = y → gAt G mi Qp tgt L st f sz k n) (kf : (x = y) → gAt G mi Qp (pc + 3) L st f sz k n) : gAt G mi Qp pc L (.int y :: .int x :: st) f sz k n := by
  intro p e s m args below meth c F H locs ls hl hw
  exact lv_icmp_ne F.1 F.2.1 hd ht (fun h => kt h p e s m args below meth c F H locs ls hl hw) (fun h => kf h p e s m args below meth c F H locs ls hl hw)
theorem r_if_lt {x : Int32} {off : Int} {tgt : Nat} (hd : decode mi.2.1 pc = .ok (.ifCond .lt off, 3)) (ht : (pc : Int) + off = (tgt : Int)) (kt : x < 0 → gAt G mi Qp tgt L st f sz k n) (kf : ¬ (x < 0) → gAt G mi Qp (pc + 3) L st f sz k n) : gAt G mi Qp pc L (.int x :: st) f sz k n := by
  intro p e s m args below meth c F H locs ls hl hw
  exact lv_if_lt F.1 F.2.1 hd ht (fun h => kt h p e s m args below meth c F H locs ls hl hw) (fun h => kf h p e s m args below meth c F H locs ls hl hw)
theorem r_icmp_lt {x y : Int32} {off : Int} {tgt : Nat} (hd : decode mi.2.1 pc = .ok (.if_icmp .lt off, 3)) (ht : (pc : Int) + off = (tgt : Int)) (kt : x < y → gAt G mi Qp tgt L st f sz k n) (kf : ¬ (x < y) → gAt G mi Qp (pc + 3) L st f sz k n) : gAt G mi Qp pc L (.int y :: .int x :: st) f sz k n := by
  intro p e s m args below meth c F H locs ls hl hw
  exact lv_icmp_lt F.1 F.2.1 hd ht (fun h => kt h p e s m args below meth c F H locs ls hl hw) (fun h => kf h p e s m args below meth c F H locs ls hl hw)
theorem r_if_ge {x : Int32} {off : Int} {tgt : Nat} (hd : decode mi.2.1 pc = .ok (.ifCond .ge off, 3)) (ht : (pc : Int) + off = (tgt : Int)) (kt : 0 ≤ x → gAt G mi Qp tgt L st f sz k n) (kf : ¬ (0 ≤ x) → gAt G mi Qp (pc + 3) L st f sz k n) : gAt G mi Qp pc L (.int x :: st) f sz k n := by
  intro p e s m args below meth c F H locs ls hl hw
  exact lv_if_ge F.1 F.2.1 hd ht (fun h => kt h p e s m args below meth c F H locs ls hl hw) (fun h => kf h p e s m args below meth c F H locs ls hl hw)
theorem r_icmp_ge {x y : Int32} {off : Int} {tgt : Nat} (hd : decode mi.2.1 pc = .ok (.if_icmp .ge off, 3)) (ht : (pc : Int) + off = (tgt : Int)) (kt : y ≤ x → gAt G mi Qp tgt L st f sz k n) (kf : ¬ (y ≤ x) → gAt G mi Qp (pc + 3) L st f sz k n) : gAt G mi Qp pc L (.int y :: .int x :: st) f sz k n := by
  intro p e s m args below meth c F H locs ls hl hw
  exact lv_icmp_ge F.1 F.2.1 hd ht (fun h => kt h p e s m args below meth c F H locs ls hl hw) (fun h => kf h p e s m args below meth c F H locs ls hl hw)
theorem r_if_gt {x : Int32} {off : Int} {tgt : Nat} (hd : decode mi.2.1 pc = .ok (.ifCond .gt off, 3)) (ht : (pc : Int) + off = (tgt : Int)) (kt : 0 < x → gAt G mi Qp tgt L st f sz k n) (kf : ¬ (0 < x) → gAt G mi Qp (pc + 3) L st f sz k n) : gAt G mi Qp pc L (.int x :: st) f sz k n := by
  intro p e s m args below meth c F H locs ls hl hw
  exact lv_if_gt F.1 F.2.1 hd ht (fun h => kt h p e s m args below meth c F H locs ls hl hw) (fun h => kf h p e s m args below meth c F H locs ls hl hw)
theorem r_icmp_gt {x y : Int32} {off : Int} {tgt : Nat} (hd : decode mi.2.1 pc = .ok (.if_icmp .gt off, 3)) (ht : (pc : Int) + off = (tgt : Int)) (kt : y < x → gAt G mi Qp tgt L st f sz k n) (kf : ¬ (y < x) → gAt G mi Qp (pc + 3) L st f sz k n) : gAt G mi Qp pc L (.int y :: .int x :: st) f sz k n := by
  intro p e s m args below meth c F H locs ls hl hw
  exact lv_icmp_gt F.1 F.2.1 hd ht (fun h => kt h p e s m args below meth c F H locs ls hl hw) (fun h => kf h p e s m args below meth c F H locs ls hl hw)
theorem r_if_le {x : Int32} {off : Int} {tgt : Nat} (hd : decode mi.2.1 pc = .ok (.ifCond .le off, 3)) (ht : (pc : Int) + off = (tgt : Int)) (kt : x ≤ 0 → gAt G mi Qp tgt L st f sz k n) (kf : ¬ (x ≤ 0) → gAt G mi Qp (pc + 3) L st f sz k n) : gAt G mi Qp pc L (.int x :: st) f sz k n := by
  intro p e s m args below meth c F H locs ls hl hw
  exact lv_if_le F.1 F.2.1 hd ht (fun h => kt h p e s m args below meth c F H locs ls hl hw) (fun h => kf h p e s m args below meth c F H locs ls hl hw)
theorem r_icmp_le {x y : Int32} {off : Int} {tgt : Nat} (hd : decode mi.2.1 pc = .ok (.if_icmp .le off, 3)) (ht : (pc : Int) + off = (tgt : Int)) (kt : x ≤ y → gAt G mi Qp tgt L st f sz k n) (kf : ¬ (x ≤ y) → gAt G mi Qp (pc + 3) L st f sz k n) : gAt G mi Qp pc L (.int y :: .int x :: st) f sz k n := by
  intro p e s m args below meth c F H locs ls hl hw
  exact lv_icmp_le F.1 F.2.1 hd ht (fun h => kt h p e s m args below meth c F H locs ls hl hw) (fun h => kf h p e s m args below meth c F H locs ls hl hw)
theorem r_goto {off : Int} {tgt : Nat} (hd : decode mi.2.1 pc = .ok (.goto off, 3)) (ht : (pc : Int) + off = (tgt : Int)) (kk : gAt G mi Qp tgt L st f sz k n) : gAt G mi Qp pc L st f sz k n := by
  intro p e s m args below meth c F H locs ls hl hw
  exact lv_goto F.1 F.2.1 hd ht (kk p e s m args below meth c F H locs ls hl hw)
theorem r_tableOut {dflt lo hi : Int} {offs : Array Int} {len : Nat} {x : Int32} {tgt : Nat} (hd : decode mi.2.1 pc = .ok (.tableswitch dflt lo hi offs, len)) (h : x.toInt < lo ∨ hi < x.toInt) (ht : (pc : Int) + dflt = (tgt : Int)) (kk : gAt G mi Qp tgt L st f sz k n) : gAt G mi Qp pc L (.int x :: st) f sz k n := by
  intro p e s m args below meth c F H locs ls hl hw
  exact lv_tableOut F.1 F.2.1 hd h ht (kk p e s m args below meth c F H locs ls hl hw)
theorem r_tableIn {dflt lo hi : Int} {offs : Array Int} {len : Nat} {x : Int32} {off : Int} {tgt : Nat} (hd : decode mi.2.1 pc = .ok (.tableswitch dflt lo hi offs, len)) (h1 : ¬ x.toInt < lo) (h2 : ¬ hi < x.toInt) (ho : offs[(x.toInt - lo).toNat]? = some off) (ht : (pc : Int) + off = (tgt : Int)) (kk : gAt G mi Qp tgt L st f sz k n) : gAt G mi Qp pc L (.int x :: st) f sz k n := by
  intro p e s m args below meth c F H locs ls hl hw
  exact lv_tableIn F.1 F.2.1 hd h1 h2 ho ht (kk p e s m args below meth c F H locs ls hl hw)
theorem r_lookup {dflt : Int} {ps : Array (Int × Int)} {len : Nat} {x : Int32} {off : Int} {tgt : Nat} (hd : decode mi.2.1 pc = .ok (.lookupswitch dflt ps, len)) (hp : (ps.toList.zip (ps.toList.drop 1)).all (fun (a, next) => a.1 < next.1) = true) (ho : Op.lookupswitch.offset ps.toList dflt x.toInt = off) (ht : (pc : Int) + off = (tgt : Int)) (kk : gAt G mi Qp tgt L st f sz k n) : gAt G mi Qp pc L (.int x :: st) f sz k n := by
  intro p e s m args below meth c F H locs ls hl hw
  exact lv_lookup F.1 F.2.1 hd hp ho ht (kk p e s m args below meth c F H locs ls hl hw)
theorem r_ldc {index : Nat} {v : Int32} (hd : decode mi.2.1 pc = .ok (.ldc index, 2)) (hc : Cond.constant mi.1.cls index v ∈ gW) (kk : gAt G mi Qp (pc + 2) L (.int v :: st) f sz k n) : gAt G mi Qp pc L st f sz k n := by
  intro p e s m args below meth c F H locs ls hl hw
  exact lv_ldc F.1 F.2.1 F.2.2.2.1 (F.2.2.2.2.1 _ hc) hd (kk p e s m args below meth c F H locs ls hl hw)
theorem r_ldcw {index : Nat} {v : Int32} (hd : decode mi.2.1 pc = .ok (.ldc_w index, 3)) (hc : Cond.constant mi.1.cls index v ∈ gW) (kk : gAt G mi Qp (pc + 3) L (.int v :: st) f sz k n) : gAt G mi Qp pc L st f sz k n := by
  intro p e s m args below meth c F H locs ls hl hw
  exact lv_ldcw F.1 F.2.1 F.2.2.2.1 (F.2.2.2.2.1 _ hc) hd (kk p e s m args below meth c F H locs ls hl hw)
theorem r_ldc2 {index : Nat} {v : Int64} (hd : decode mi.2.1 pc = .ok (.ldc2_w index, 3)) (hc : Cond.constantLong mi.1.cls index v ∈ gW) (kk : gAt G mi Qp (pc + 3) L (.long v :: st) f sz k n) : gAt G mi Qp pc L st f sz k n := by
  intro p e s m args below meth c F H locs ls hl hw
  exact lv_ldc2 F.1 F.2.1 F.2.2.2.1 (F.2.2.2.2.1 _ hc) hd (kk p e s m args below meth c F H locs ls hl hw)
theorem r_ldcS {index : Nat} {tx : String} {i : Nat} (hd : decode mi.2.1 pc = .ok (.ldc index, 2)) (hs : (mi.1.cls, index, tx, i) ∈ gStr) (kk : gAt G mi Qp (pc + 2) L (.ref (G.2.2.2.1 i) :: st) f sz k n) : gAt G mi Qp pc L st f sz k n := by
  intro p e s m args below meth c F H locs ls hl hw
  exact va_ldcS F.1 F.2.1 F.2.2.2.1 (hw.2.1.2.2.2.1 _ hs) hd (kk p e s m args below meth c F H locs ls hl hw)
theorem r_widen {k2 n2 : Nat} (h1 : k ≤ k2) (h2 : n ≤ n2) (kk : gAt G mi Qp pc L st f sz k2 n2) : gAt G mi Qp pc L st f sz k n := by
  intro p e s m args below meth c F H locs ls hl hw
  exact W.widen h1 h2 (kk p e s m args below meth c F H locs ls hl hw)
theorem r_eq {L2 : List (Option Value)} {st2 : List Value} (h1 : L = L2) (h2 : st = st2) (kk : gAt G mi Qp pc L2 st2 f sz k n) : gAt G mi Qp pc L st f sz k n := by
  subst h1; subst h2; exact kk
theorem r_ti {x y : Int32} (h : x = y) (kk : gAt G mi Qp pc L (.int y :: st) f sz k n) : gAt G mi Qp pc L (.int x :: st) f sz k n := by
  subst h; exact kk
theorem r_iald {a N : Nat} {g : Nat → Int32} {i : Int32} (hd : decode mi.2.1 pc = .ok (.iaload, 1)) (ha : f a = .inl (G.2.1.1 102, N, .inl g)) (hin : vp_in i N) (kk : gAt G mi Qp (pc + 1) L (.int (g i.toNatClampNeg) :: st) f sz k n) : gAt G mi Qp pc L (.int i :: .ref a :: st) f sz k n := by
  intro p e s m args below meth c F H locs ls hl hw
  obtain ⟨hP, hA⟩ := gRep.one hw.1 ha (fun h => by cases h)
  exact va_iald F.1 F.2.1 hw.2.1.1 hP 0 2 rfl rfl hin hd (kk p e s m args below meth c F H locs ls hl hw)
theorem r_bald {a N : Nat} {g : Nat → Int32} {i : Int32} (hd : decode mi.2.1 pc = .ok (.baload, 1)) (ha : f a = .inl (G.2.1.1 101, N, .inl g)) (hin : vp_in i N) (kk : gAt G mi Qp (pc + 1) L (.int (g i.toNatClampNeg) :: st) f sz k n) : gAt G mi Qp pc L (.int i :: .ref a :: st) f sz k n := by
  intro p e s m args below meth c F H locs ls hl hw
  obtain ⟨hP, hA⟩ := gRep.one hw.1 ha (fun h => by cases h)
  exact va_bald F.1 F.2.1 hw.2.1.1 hP 0 1 rfl rfl hin hd (kk p e s m args below meth c F H locs ls hl hw)
theorem r_zald {a N : Nat} {g : Nat → Int32} {i : Int32} (hd : decode mi.2.1 pc = .ok (.baload, 1)) (ha : f a = .inl (G.2.1.1 100, N, .inl g)) (hin : vp_in i N) (kk : gAt G mi Qp (pc + 1) L (.int (g i.toNatClampNeg) :: st) f sz k n) : gAt G mi Qp pc L (.int i :: .ref a :: st) f sz k n := by
  intro p e s m args below meth c F H locs ls hl hw
  obtain ⟨hP, hA⟩ := gRep.one hw.1 ha (fun h => by cases h)
  exact va_zald F.1 F.2.1 hw.2.1.1 hP 0 0 rfl rfl hin hd (kk p e s m args below meth c F H locs ls hl hw)
theorem r_lald {a N : Nat} {g : Nat → Int64} {i : Int32} (hd : decode mi.2.1 pc = .ok (.laload, 1)) (ha : f a = .inl (G.2.1.1 103, N, .inr (.inl g))) (hin : vp_in i N) (kk : gAt G mi Qp (pc + 1) L (.long (g i.toNatClampNeg) :: st) f sz k n) : gAt G mi Qp pc L (.int i :: .ref a :: st) f sz k n := by
  intro p e s m args below meth c F H locs ls hl hw
  obtain ⟨hP, hA⟩ := gRep.one hw.1 ha (fun h => by cases h)
  exact va_lald F.1 F.2.1 hw.2.1.1 hP 0 3 rfl rfl hin hd (kk p e s m args below meth c F H locs ls hl hw)
theorem r_aald {a N : Nat} {g : Nat → Option Nat} {i : Int32} {b : Nat} (t : Nat) {C : String} (hd : decode mi.2.1 pc = .ok (.aaload, 1)) (ha : f a = .inl (G.2.1.1 (100 + t), N, .inr (.inr (.inr (.inr g))))) (ht : (gTys G.2.1)[t]? = some (G.2.1.1 (100 + t), .object C)) (hin : vp_in i N) (hg : g i.toNatClampNeg = some b) (kk : gAt G mi Qp (pc + 1) L (.ref b :: st) f sz k n) : gAt G mi Qp pc L (.int i :: .ref a :: st) f sz k n := by
  intro p e s m args below meth c F H locs ls hl hw
  obtain ⟨hP, hA⟩ := gRep.one hw.1 ha (fun h => by cases h)
  refine va_aldq F.1 F.2.1 hw.2.1.1 hP 0 t rfl ht hin hd ?_
  rw [hg]
  exact (kk p e s m args below meth c F H locs ls hl hw)
theorem r_iast {a N : Nat} {g : Nat → Int32} {i : Int32} {x : Int32} (hd : decode mi.2.1 pc = .ok (.iastore, 1)) (ha : f a = .inl (G.2.1.1 102, N, .inl g)) (hin : vp_in i N) (kk : gAt G mi Qp (pc + 1) L st (va_up f a (.inl (G.2.1.1 102, N, .inl (upd g i.toNatClampNeg x)))) sz k n) : gAt G mi Qp pc L (.int x :: .int i :: .ref a :: st) f sz k n := by
  intro p e s m args below meth c F H locs ls hl hw
  obtain ⟨hP, hA⟩ := gRep.one hw.1 ha (fun h => by cases h)
  refine W.iast F.1 F.2.1 (hP 0 _ rfl) ((hw.2.1.1.2 2 _ rfl).1 N (fun j => .int (g j))) (fun q => by cases q) (by show ¬ (i < 0 ∨ (arrV _ _ _).slots.size ≤ _); rw [arrV_size]; exact hin) rfl rfl hd fun H1 e1 z oq => ?_
  refine kk p e s m args below meth c F H1 _ ls hl ⟨gRep.set hw.1 hA ?_ oq, hw.2.1, z.trans hw.2.2.1, hw.2.2.2.1, hw.2.2.2.2.put z oq hA⟩
  show H1[a]? = some (vp_cell _ _)
  rw [e1]
  rw [vp_cell_i, vp_cell_i, arrV_store]
  congr 2
  funext q
  by_cases hq : q = i.toNatClampNeg
  · subst hq
    simp [updV, upd]
  · simp [updV, upd, hq]
theorem r_bast {a N : Nat} {g : Nat → Int32} {i : Int32} {x : Int32} (hd : decode mi.2.1 pc = .ok (.bastore, 1)) (ha : f a = .inl (G.2.1.1 101, N, .inl g)) (hin : vp_in i N) (kk : gAt G mi Qp (pc + 1) L st (va_up f a (.inl (G.2.1.1 101, N, .inl (upd g i.toNatClampNeg (vp_nar .byte x))))) sz k n) : gAt G mi Qp pc L (.int x :: .int i :: .ref a :: st) f sz k n := by
  intro p e s m args below meth c F H locs ls hl hw
  obtain ⟨hP, hA⟩ := gRep.one hw.1 ha (fun h => by cases h)
  refine W.bast F.1 F.2.1 (hP 0 _ rfl) ((hw.2.1.1.2 1 _ rfl).1 N (fun j => .int (g j))) (fun q => by cases q) (by show ¬ (i < 0 ∨ (arrV _ _ _).slots.size ≤ _); rw [arrV_size]; exact hin) rfl rfl hd fun H1 e1 z oq => ?_
  refine kk p e s m args below meth c F H1 _ ls hl ⟨gRep.set hw.1 hA ?_ oq, hw.2.1, z.trans hw.2.2.1, hw.2.2.2.1, hw.2.2.2.2.put z oq hA⟩
  show H1[a]? = some (vp_cell _ _)
  rw [e1]
  rw [vp_cell_i, vp_cell_i, arrV_store]
  congr 2
  funext q
  by_cases hq : q = i.toNatClampNeg
  · subst hq
    simp [updV, upd, vp_nar]
    try rfl
  · simp [updV, upd, hq]
theorem r_zast {a N : Nat} {g : Nat → Int32} {i : Int32} {x : Int32} (hd : decode mi.2.1 pc = .ok (.bastore, 1)) (ha : f a = .inl (G.2.1.1 100, N, .inl g)) (hin : vp_in i N) (kk : gAt G mi Qp (pc + 1) L st (va_up f a (.inl (G.2.1.1 100, N, .inl (upd g i.toNatClampNeg (vp_nar .boolean x))))) sz k n) : gAt G mi Qp pc L (.int x :: .int i :: .ref a :: st) f sz k n := by
  intro p e s m args below meth c F H locs ls hl hw
  obtain ⟨hP, hA⟩ := gRep.one hw.1 ha (fun h => by cases h)
  refine W.zast F.1 F.2.1 (hP 0 _ rfl) ((hw.2.1.1.2 0 _ rfl).1 N (fun j => .int (g j))) (fun q => by cases q) (by show ¬ (i < 0 ∨ (arrV _ _ _).slots.size ≤ _); rw [arrV_size]; exact hin) rfl rfl hd fun H1 e1 z oq => ?_
  refine kk p e s m args below meth c F H1 _ ls hl ⟨gRep.set hw.1 hA ?_ oq, hw.2.1, z.trans hw.2.2.1, hw.2.2.2.1, hw.2.2.2.2.put z oq hA⟩
  show H1[a]? = some (vp_cell _ _)
  rw [e1]
  rw [vp_cell_i, vp_cell_i, arrV_store]
  congr 2
  funext q
  by_cases hq : q = i.toNatClampNeg
  · subst hq
    simp [updV, upd, vp_nar]
    try rfl
  · simp [updV, upd, hq]
theorem r_last {a N : Nat} {g : Nat → Int64} {i : Int32} {x : Int64} (hd : decode mi.2.1 pc = .ok (.lastore, 1)) (ha : f a = .inl (G.2.1.1 103, N, .inr (.inl g))) (hin : vp_in i N) (kk : gAt G mi Qp (pc + 1) L st (va_up f a (.inl (G.2.1.1 103, N, .inr (.inl (vp_updL g i.toNatClampNeg x))))) sz k n) : gAt G mi Qp pc L (.long x :: .int i :: .ref a :: st) f sz k n := by
  intro p e s m args below meth c F H locs ls hl hw
  obtain ⟨hP, hA⟩ := gRep.one hw.1 ha (fun h => by cases h)
  refine W.last F.1 F.2.1 (hP 0 _ rfl) ((hw.2.1.1.2 3 _ rfl).1 N (fun j => .long (g j))) (fun q => by cases q) (by show ¬ (i < 0 ∨ (arrV _ _ _).slots.size ≤ _); rw [arrV_size]; exact hin) rfl rfl hd fun H1 e1 z oq => ?_
  refine kk p e s m args below meth c F H1 _ ls hl ⟨gRep.set hw.1 hA ?_ oq, hw.2.1, z.trans hw.2.2.1, hw.2.2.2.1, hw.2.2.2.2.put z oq hA⟩
  show H1[a]? = some (vp_cell _ _)
  rw [e1]
  rw [vp_cell_l, vp_cell_l, arrV_store]
  congr 2
  funext q
  by_cases hq : q = i.toNatClampNeg
  · subst hq
    simp [updV, vp_updL]
  · simp [updV, vp_updL, hq]
theorem r_alen {a N : Nat} {g : Nat → Int32} {v : Int32} (hd : decode mi.2.1 pc = .ok (.arraylength, 1)) (ha : f a = .inl (G.2.1.1 102, N, .inl g)) (hv : Int32.ofNat N = v) (kk : gAt G mi Qp (pc + 1) L (.int v :: st) f sz k n) : gAt G mi Qp pc L (.ref a :: st) f sz k n := by
  intro p e s m args below meth c F H locs ls hl hw
  obtain ⟨hP, hA⟩ := gRep.one hw.1 ha (fun h => by cases h)
  refine W.alen (n := v) F.1 F.2.1 (hP 0 _ rfl) ((hw.2.1.1.2 2 _ rfl).1 N (fun j => .int (g j))) ?_ rfl rfl hd (kk p e s m args below meth c F H locs ls hl hw)
  show (arrV _ _ _).slots.size.toInt32 = v
  rw [arrV_size]
  exact hv
end GR
