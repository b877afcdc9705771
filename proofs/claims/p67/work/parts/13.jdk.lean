section GJ
variable {G : gG} {mi : gM} {f : gF} {sz : Nat} {Φ : gO → gF → Nat → Prop}
theorem gx_ofW {l : Launch} {y : MethodName} {ws ws' : List Cond} {rm : Room} {Pc : Array Value → State → Prop} {Qc : Array Value → State → Outcome → State → Prop} {XC : String → State → State → Prop} {mc ms : Nat} {free : Addr → Prop} {cc : ByteArray} {maxL : Nat} {ret : Option FieldType}
    (hy : plainFor y = true) (hw : ws = Cond.code y cc maxL ret :: ws')
    (body : ∀ p e s m args below meth c s₁, BodyLoose p l y (headSpec ws rm) cc maxL ret e s m args below meth c s₁ → c.maxLocals = maxL → (∀ x ∈ c.exceptionTable.toList, False) → Pc args s →
      W p l e (headSpec ws rm).room s m args below meth c s.heap [] 0 0 (vx_MQ below Qc XC args s mc ms free) (entryFrame m args maxL)) : vx_Met l y ws rm Pc Qc XC mc ms free := by
  refine MetFree.of_bodySF (code := cc) (maxLocals := maxL) (ret := ret) hy ?_ ?_
  · intro args s m h hn
    obtain ⟨meth, c, h1, h2, h3, h4, h5, h6, -, -⟩ := Cond.code_spec hn (atoms_spec (ws := ws) h _ (by rw [hw]; exact List.mem_cons_self))
    exact ⟨meth, c, h1, h2, h3, h4, h5, h6⟩
  · intro p e s m args below meth c s₁ B hml hP _
    have hh0 : s₁.heap = s.heap := by rw [B.state]; rfl
    have ht : ∀ x ∈ c.exceptionTable.toList, False := by
      obtain ⟨meth9, c9, h1, h2, -, -, -, -, h7, -⟩ := Cond.code_spec B.named (atoms_spec (ws := ws) B.pre _ (by rw [hw]; exact List.mem_cons_self))
      cases Option.some.inj (h1.symm.trans B.method)
      cases Option.some.inj (h2.symm.trans (Stand.of_body B).code)
      intro x hx
      rw [Array.isEmpty_iff.mp h7] at hx
      cases hx
    obtain ⟨t, a1, o, b1, b2, b3⟩ := body p e s m args below meth c s₁ B hml ht hP s₁ hh0 (Stand.of_body B)
    exact ⟨t, o, a1, b1, b2, b3⟩
theorem gCt.ofF {av : List Value} (L0 : List (Option Value)) (hp : plainFor mi.1 = true) (hT : mi.2.2.2.2.2 = []) (hs : G.1.stackTraces = false) (hL : gLp 0 L0 = lv_args 0 av) (hn : (lg_sl av).length ≤ mi.2.2.1) (h : gAt G mi (gQp G mi Φ) 0 L0 [] f sz 0 0) : gCt G mi av f sz Φ := by
  unfold gCt
  refine gx_ofW (cc := mi.2.1) (maxL := mi.2.2.1) (ret := mi.2.2.2.1) hp (by unfold gCode; rw [hT]) ?_
  intro p e s m args below meth c s₁ B hml hne hv
  obtain ⟨rfl, h1, h2, h3, h4⟩ := hv
  have hts := atoms_spec (ws := gCode mi :: gW) B.pre
  have hl := lv_entry av (n := mi.2.2.1) hn
  rw [← hL] at hl
  rw [lg_entry_eq]
  exact h p e s m _ below meth c ⟨B.exec, B.bytes, hml, findClass_of_methodNamed B.named, fun w hw => hts w (List.mem_cons_of_mem _ hw), B.returns, B.notSynchronized, (name_of_methodNamed B.named B.method).1, by rw [hT]; exact List.eq_nil_iff_forall_not_mem.mpr (fun x hx => hne x hx), hs⟩ s.heap [] _ hl ⟨h1, h2, h3, by rw [h3]; exact h4, va_S.rf⟩
end GJ
section GSTR
variable {G : gG} {mi : gM} {Qp : List Frame → Array Value → State → State → Prop} {pc : Nat} {L : List (Option Value)} {st : List Value} {f f1 : gF} {sz k n w : Nat} {Φ : gO → gF → Nat → Prop}
theorem r_strval {index : Nat} (hw : w < 35) (hd : decode mi.2.1 pc = .ok (.getfield index, 3)) (hl : Cond.fieldLink mi.1.cls index "java/lang/String" "value" "[B" ∈ gW) (kk : gAt G mi Qp (pc + 3) L (.ref (G.2.2.2.2.1 w) :: st) f sz k n) : gAt G mi Qp pc L (.ref (G.2.2.2.1 w) :: st) f sz k n := by
  intro p e s m args below meth c F H locs ls hl2 hh
  exact va_getX (N := 35) (v := fun i => .ref (G.2.2.2.2.1 i)) (ad := G.2.2.2.1) F.1 F.2.1 (fun i hi => (hh.2.1.2.2.2.2.1 i hi).2.2.1) hw hh.2.2.2.2 F.2.2.2.1 (F.2.2.2.2.1 _ hl) (fun _ h => h) hd (kk p e s m args below meth c F H locs ls hl2 hh)
theorem r_strcod {index : Nat} (hw : w < 35) (hd : decode mi.2.1 pc = .ok (.getfield index, 3)) (hl : Cond.fieldLink mi.1.cls index "java/lang/String" "coder" "B" ∈ gW) (kk : gAt G mi Qp (pc + 3) L (.int 0 :: st) f sz k n) : gAt G mi Qp pc L (.ref (G.2.2.2.1 w) :: st) f sz k n := by
  intro p e s m args below meth c F H locs ls hl2 hh
  exact va_getX (N := 35) (v := fun _ => .int 0) (ad := G.2.2.2.1) F.1 F.2.1 (fun i hi => (hh.2.1.2.2.2.2.1 i hi).2.1) hw hh.2.2.2.2 F.2.2.2.1 (F.2.2.2.2.1 _ hl) (fun _ h => h) hd (kk p e s m args below meth c F H locs ls hl2 hh)
theorem r_getsC {index : Nat} (hd : decode mi.2.1 pc = .ok (.getstatic index, 3)) (hl : Cond.fieldLink mi.1.cls index "java/lang/String" "COMPACT_STRINGS" "Z" ∈ gW) (kk : gAt G mi Qp (pc + 3) L (.int 1 :: st) f sz k n) : gAt G mi Qp pc L st f sz k n := by
  intro p e s m args below meth c F H locs ls hl2 hh
  exact va_gets F.1 F.2.1 hh.2.1.2.2.2.2.2.2.2.1 hh.2.2.2.2 F.2.2.2.1 (F.2.2.2.2.1 _ hl) (fun _ h => h) hd (kk p e s m args below meth c F H locs ls hl2 hh)
theorem r_getsB {index : Nat} (hd : decode mi.2.1 pc = .ok (.getstatic index, 3)) (hl : Cond.fieldLink mi.1.cls index "jdk/internal/util/Preconditions" "SIOOBE_FORMATTER" "Ljava/util/function/BiFunction;" ∈ gW) (kk : ∀ v : Value, (v = .null ∨ ∃ t, v = .ref t) → gAt G mi Qp (pc + 3) L (v :: st) f sz k n) : gAt G mi Qp pc L st f sz k n := by
  intro p e s m args below meth c F H locs ls hl2 hh
  rcases hh.2.1.2.2.2.2.2.2.2.2.1 with h | ⟨t, h⟩
  · exact va_gets F.1 F.2.1 h hh.2.2.2.2 F.2.2.2.1 (F.2.2.2.2.1 _ hl) (fun _ h => h) hd (kk _ (Or.inl rfl) p e s m args below meth c F H locs ls hl2 hh)
  · exact va_gets F.1 F.2.1 h hh.2.2.2.2 F.2.2.2.1 (F.2.2.2.2.1 _ hl) (fun _ h => h) hd (kk _ (Or.inr ⟨t, rfl⟩) p e s m args below meth c F H locs ls hl2 hh)
theorem r_tlen {v : Int32} (hw : w < 35) (hd : decode mi.2.1 pc = .ok (.arraylength, 1)) (hv : Int32.ofNat (gLen w) = v) (kk : gAt G mi Qp (pc + 1) L (.int v :: st) f sz k n) : gAt G mi Qp pc L (.ref (G.2.2.2.2.1 w) :: st) f sz k n := by
  intro p e s m args below meth c F H locs ls hl2 hh
  exact va_tlen F.1 F.2.1 (hh.2.1.2.2.2.2.1 w hw).2.2.2 hh.2.2.2.2 hv hd (kk p e s m args below meth c F H locs ls hl2 hh)
theorem r_tb {i : Int32} (hw : w < 35) (hd : decode mi.2.1 pc = .ok (.baload, 1)) (hin : vp_in i (gLen w)) (kk : gAt G mi Qp (pc + 1) L (.int (gByt w i.toNatClampNeg) :: st) f sz k n) : gAt G mi Qp pc L (.int i :: .ref (G.2.2.2.2.1 w) :: st) f sz k n := by
  intro p e s m args below meth c F H locs ls hl2 hh
  exact va_tb F.1 F.2.1 (hh.2.1.2.2.2.2.1 w hw).2.2.2 hh.2.2.2.2 hin rfl hd (kk p e s m args below meth c F H locs ls hl2 hh)
theorem r_i2c {x v : Int32} (hd : decode mi.2.1 pc = .ok (.i2c, 1)) (hv : (x.toUInt32 % 65536).toInt32 = v) (kk : gAt G mi Qp (pc + 1) L (.int v :: st) f sz k n) : gAt G mi Qp pc L (.int x :: st) f sz k n := by
  intro p e s m args below meth c F H locs ls hl2 hh
  exact lv_i2c F.1 F.2.1 hd hv (kk p e s m args below meth c F H locs ls hl2 hh)
theorem r_pop {v : Value} (hd : decode mi.2.1 pc = .ok (.pop, 1)) (hv : v.category = 1) (kk : gAt G mi Qp (pc + 1) L st f sz k n) : gAt G mi Qp pc L (v :: st) f sz k n := by
  intro p e s m args below meth c F H locs ls hl2 hh
  exact lv_pop F.1 F.2.1 hd hv (kk p e s m args below meth c F H locs ls hl2 hh)
theorem r_xret {v : Int32} {ty : FieldType} (hd : decode mi.2.1 pc = .ok (.ireturn, 1)) (hr : mi.2.2.2.1 = some ty) (hz : narrow ty (.int v) = .int v) (hk : k ≤ mi.2.2.2.2.1.cells) (hn : n ≤ mi.2.2.2.2.1.slots) (hΦ : Φ (.inl (some (.int v))) f sz) : gAt G mi (gQp G mi Φ) pc L [.int v] f sz k n := by
  intro p e s m args below meth c F H locs ls hl hw
  refine W.widen hk hn (vx_ret ?_)
  exact W.zret F.1 F.2.1 (F.2.2.2.2.2.1.trans hr) hz (fun t ht hW => ⟨⟨_, f, sz, rfl, hΦ, by rw [ht]; exact hw.1, by rw [ht]; exact hw.2.2.1⟩, hw.2.2.2.2.F ht⟩) hw.2.2.2.2.2.2 hd F.2.2.2.2.2.2.1
theorem r_callVs {mz : gM} {index na : Nat} {As rest st0 : List Value} {u : Value} (hw : w < 35) (hC : gCt G mz (.ref (G.2.2.2.1 w) :: As) f sz (gR (some u) f1 sz)) (hd : decode mi.2.1 pc = .ok (.invokevirtual index, 3)) (hl : Cond.methodLink mi.1.cls index mz.1 ∈ gW) (hz : gZ mz na) (hi : Cond.instanceMethod mz.1 ∈ gW) (hse : Cond.selects mz.1.cls mz.1 mz.1 ∈ gW) (hcs : mz.1.cls = "java/lang/String") (hT : mz.2.2.2.2.2 = [])
    (hst : st0 = As.reverse ++ .ref (G.2.2.2.1 w) :: rest) (hna : As.length = na) (hR : mz.2.2.2.2.1.frames + 1 ≤ mi.2.2.2.2.1.frames ∧ 8 + (mz.2.2.1 + 11) + mz.2.2.2.2.1.locals ≤ mi.2.2.2.2.1.locals) (hW : (rest.map fun v => v.category).sum ≤ 8) (hk : k + mz.2.2.2.2.1.cells ≤ mi.2.2.2.2.1.cells ∧ n + mz.2.2.2.2.1.slots ≤ mi.2.2.2.2.1.slots)
    (kk : gAt G mi Qp (pc + 3) L (u :: rest) f1 sz (k + mz.2.2.2.2.1.cells) (n + mz.2.2.2.2.1.slots)) : gAt G mi Qp pc L st0 f sz k n := by
  intro p e s m args below meth c F H locs ls hl2 hh
  refine g_call (vx_runV (As := As) (rest := rest) (C := mz.1.cls) (g_fix F) hC ⟨g_callB F hz hT hl hR, F.2.2.2.2.1 _ hi, F.2.2.2.2.1 _ hse⟩ ⟨gBlind, hcs ▸ va_Orecv (hh.2.1.2.2.2.2.1 w hw).1 hh.2.2.2.2, fun U hU hWm => ⟨rfl, hh.wd hU hWm⟩⟩ rfl hna hl2.1 hst (lv_room hW) hd hk) hh ?_ ?_
  · intro E f' sz' ce q9 H1 locs1 h1 h2 h3 h4 h5
    cases h1.1
  · intro v f' sz' H1 locs1 h1 h2
    obtain ⟨h3, h4, h5⟩ := h1
    cases h3; subst h4; subst h5
    exact kk p e s m args below meth c F H1 locs1 ls hl2 h2
end GSTR
section GSTC
variable {G : gG} {f : gF} {sz w : Nat}
theorem ct_J0_coder_7d493 (hs : G.1.stackTraces = false) (hw : w < 35) : gCt G mJ0_coder_7d493 [.ref (G.2.2.2.1 w)] f sz (gR (some (.int 0)) f sz) := by
  refine gCt.of [some (.ref (G.2.2.2.1 w))] (by decide +kernel) rfl hs rfl (Nat.le_of_ble_eq_true rfl) ?_
  refine r_getsC dJ0_coder_7d493_0 wd_950 ?_
  refine r_if_eq (tgt := 13) dJ0_coder_7d493_3 (by decide) (fun c => absurd c (by decide)) (fun _ => ?_)
  refine r_aload_n dJ0_coder_7d493_6 rfl ?_
  refine r_strcod hw dJ0_coder_7d493_7 wd_1358 ?_
  refine r_goto (tgt := 14) dJ0_coder_7d493_10 (by decide) ?_
  exact r_xret dJ0_coder_7d493_14 rfl rfl (Nat.le_of_ble_eq_true rfl) (Nat.le_of_ble_eq_true rfl) ⟨rfl, rfl, rfl⟩
theorem ct_J0_isLatin1_aae02 (hs : G.1.stackTraces = false) (hw : w < 35) : gCt G mJ0_isLatin1_aae02 [.ref (G.2.2.2.1 w)] f sz (gR (some (.int 1)) f sz) := by
  refine gCt.of [some (.ref (G.2.2.2.1 w))] (by decide +kernel) rfl hs rfl (Nat.le_of_ble_eq_true rfl) ?_
  refine r_getsC dJ0_isLatin1_aae02_0 wd_950 ?_
  refine r_if_eq (tgt := 17) dJ0_isLatin1_aae02_3 (by decide) (fun c => absurd c (by decide)) (fun _ => ?_)
  refine r_aload_n dJ0_isLatin1_aae02_6 rfl ?_
  refine r_strcod hw dJ0_isLatin1_aae02_7 wd_1358 ?_
  refine r_if_ne (tgt := 17) dJ0_isLatin1_aae02_10 (by decide) (fun c => absurd rfl c) (fun _ => ?_)
  refine r_iconst (v := 1) dJ0_isLatin1_aae02_13 (by decide) ?_
  refine r_goto (tgt := 18) dJ0_isLatin1_aae02_14 (by decide) ?_
  exact r_xret dJ0_isLatin1_aae02_18 rfl rfl (Nat.le_of_ble_eq_true rfl) (Nat.le_of_ble_eq_true rfl) ⟨rfl, rfl, rfl⟩
theorem ct_J0_length_8abf5 (hs : G.1.stackTraces = false) (hw : w < 35) : gCt G mJ0_length_8abf5 [.ref (G.2.2.2.1 w)] f sz (gR (some (.int (nI (gLen w)))) f sz) := by
  refine gCt.of [some (.ref (G.2.2.2.1 w))] (by decide +kernel) rfl hs rfl (Nat.le_of_ble_eq_true rfl) ?_
  refine r_aload_n dJ0_length_8abf5_0 rfl ?_
  refine r_strval hw dJ0_length_8abf5_1 wd_1357 ?_
  refine r_tlen (v := nI (gLen w)) hw dJ0_length_8abf5_4 rfl ?_
  refine r_aload_n dJ0_length_8abf5_5 rfl ?_
  refine r_callVs (rest := [.int (nI (gLen w))]) hw (ct_J0_coder_7d493 hs hw) dJ0_length_8abf5_6 wd_946 zJ0_coder_7d493 wd_947 wd_948 rfl rfl rfl rfl ⟨Nat.le_of_ble_eq_true rfl, Nat.le_of_ble_eq_true rfl⟩ (Nat.le_of_ble_eq_true rfl) ⟨Nat.le_of_ble_eq_true rfl, Nat.le_of_ble_eq_true rfl⟩ ?_
  refine r_ishr dJ0_length_8abf5_9 ?_
  refine r_ti (y := nI (gLen w)) (sb_shr0 _) ?_
  exact r_iret dJ0_length_8abf5_10 rfl (Nat.le_of_ble_eq_true rfl) (Nat.le_of_ble_eq_true rfl) ⟨rfl, rfl, rfl⟩
theorem ct_J3_checkIndex_8e157 (hs : G.1.stackTraces = false) {i : Int32} {z : Nat} (hz : z < 2 ^ 31) (hin : vp_in i z) {v : Value} (hv : v = .null ∨ ∃ t, v = .ref t) : gCt G mJ3_checkIndex_8e157 [.int i, .int (nI z), v] f sz (gR (some (.int i)) f sz) := by
  have hv1 : v.category = 1 := by rcases hv with rfl | ⟨t, rfl⟩ <;> rfl
  refine gCt.of [some (.int i), some (.int (nI z)), some v] (by decide +kernel) rfl hs rfl (by rcases hv with rfl | ⟨t, rfl⟩ <;> exact Nat.le_of_ble_eq_true rfl) ?_
  obtain ⟨j, hj, rfl⟩ := vp_in_of hin hz
  refine r_iload_n dJ3_checkIndex_8e157_0 rfl ?_
  refine r_if_lt (tgt := 9) dJ3_checkIndex_8e157_1 (by decide) (fun c => absurd c (nI_pos (by omega))) (fun _ => ?_)
  refine r_iload_n dJ3_checkIndex_8e157_4 rfl ?_
  refine r_iload_n dJ3_checkIndex_8e157_5 rfl ?_
  refine r_icmp_lt (tgt := 16) dJ3_checkIndex_8e157_6 (by decide) (fun _ => ?_) (fun c => absurd (nI_lt hj hz) c)
  refine r_iload_n dJ3_checkIndex_8e157_16 rfl ?_
  exact r_iret dJ3_checkIndex_8e157_17 rfl (Nat.le_of_ble_eq_true rfl) (Nat.le_of_ble_eq_true rfl) ⟨rfl, rfl, rfl⟩
theorem ct_J0_checkIndex_df160 (hs : G.1.stackTraces = false) {i : Int32} {z : Nat} (hz : z < 2 ^ 31) (hin : vp_in i z) : gCt G mJ0_checkIndex_df160 [.int i, .int (nI z)] f sz (gR none f sz) := by
  refine gCt.of [some (.int i), some (.int (nI z))] (by decide +kernel) rfl hs rfl (Nat.le_of_ble_eq_true rfl) ?_
  refine r_iload_n dJ0_checkIndex_df160_0 rfl ?_
  refine r_iload_n dJ0_checkIndex_df160_1 rfl ?_
  refine r_getsB dJ0_checkIndex_df160_2 wd_966 (fun v hv => ?_)
  refine r_cSi (rest := []) (ct_J3_checkIndex_8e157 hs hz hin hv) dJ0_checkIndex_df160_5 wd_968 zJ3_checkIndex_8e157 wd_969 rfl rfl rfl ⟨Nat.le_of_ble_eq_true rfl, Nat.le_of_ble_eq_true rfl⟩ (Nat.le_of_ble_eq_true rfl) ⟨Nat.le_of_ble_eq_true rfl, Nat.le_of_ble_eq_true rfl⟩ ?_
  refine r_pop dJ0_checkIndex_df160_8 rfl ?_
  exact r_vret dJ0_checkIndex_df160_9 rfl (Nat.le_of_ble_eq_true rfl) (Nat.le_of_ble_eq_true rfl) ⟨rfl, rfl, rfl⟩
theorem gLen_lt (w : Nat) (hw : w < 35) : gLen w < 2 ^ 31 := by
  have h : ∀ i : Fin 35, gLen i < 2 ^ 31 := by decide +kernel
  exact h ⟨w, hw⟩
theorem ct_J1_charAt_3b067 (hs : G.1.stackTraces = false) (hw : w < 35) {i : Int32} (hin : vp_in i (gLen w)) : gCt G mJ1_charAt_3b067 [.ref (G.2.2.2.2.1 w), .int i] f sz (gR (some (.int (gByt w i.toNatClampNeg &&& 255))) f sz) := by
  refine gCt.of [some (.ref (G.2.2.2.2.1 w)), some (.int i)] (by decide +kernel) rfl hs rfl (Nat.le_of_ble_eq_true rfl) ?_
  refine r_iload_n dJ1_charAt_3b067_0 rfl ?_
  refine r_aload_n dJ1_charAt_3b067_1 rfl ?_
  refine r_tlen (v := nI (gLen w)) hw dJ1_charAt_3b067_2 rfl ?_
  refine r_cSv (rest := []) (ct_J0_checkIndex_df160 hs (gLen_lt w hw) hin) dJ1_charAt_3b067_3 wd_963 zJ0_checkIndex_df160 wd_964 rfl rfl rfl ⟨Nat.le_of_ble_eq_true rfl, Nat.le_of_ble_eq_true rfl⟩ (Nat.le_of_ble_eq_true rfl) ⟨Nat.le_of_ble_eq_true rfl, Nat.le_of_ble_eq_true rfl⟩ ?_
  refine r_aload_n dJ1_charAt_3b067_6 rfl ?_
  refine r_iload_n dJ1_charAt_3b067_7 rfl ?_
  refine r_tb hw dJ1_charAt_3b067_8 hin ?_
  refine r_sipush (v := 255) dJ1_charAt_3b067_9 (by decide) ?_
  refine r_iand dJ1_charAt_3b067_12 ?_
  refine r_i2c (v := gByt w i.toNatClampNeg &&& 255) dJ1_charAt_3b067_13 (sc_c2 _) ?_
  exact r_xret dJ1_charAt_3b067_14 rfl (sc_nar _) (Nat.le_of_ble_eq_true rfl) (Nat.le_of_ble_eq_true rfl) ⟨rfl, rfl, rfl⟩
theorem ct_J0_charAt_5068e (hs : G.1.stackTraces = false) (hw : w < 35) {i : Int32} (hin : vp_in i (gLen w)) : gCt G mJ0_charAt_5068e [.ref (G.2.2.2.1 w), .int i] f sz (gR (some (.int (gByt w i.toNatClampNeg &&& 255))) f sz) := by
  refine gCt.of [some (.ref (G.2.2.2.1 w)), some (.int i)] (by decide +kernel) rfl hs rfl (Nat.le_of_ble_eq_true rfl) ?_
  refine r_aload_n dJ0_charAt_5068e_0 rfl ?_
  refine r_callVs (rest := []) hw (ct_J0_isLatin1_aae02 hs hw) dJ0_charAt_5068e_1 wd_956 zJ0_isLatin1_aae02 wd_957 wd_958 rfl rfl rfl rfl ⟨Nat.le_of_ble_eq_true rfl, Nat.le_of_ble_eq_true rfl⟩ (Nat.le_of_ble_eq_true rfl) ⟨Nat.le_of_ble_eq_true rfl, Nat.le_of_ble_eq_true rfl⟩ ?_
  refine r_if_eq (tgt := 16) dJ0_charAt_5068e_4 (by decide) (fun c => absurd c (by decide)) (fun _ => ?_)
  refine r_aload_n dJ0_charAt_5068e_7 rfl ?_
  refine r_strval hw dJ0_charAt_5068e_8 wd_1357 ?_
  refine r_iload_n dJ0_charAt_5068e_11 rfl ?_
  refine r_cSi (rest := []) (ct_J1_charAt_3b067 hs hw hin) dJ0_charAt_5068e_12 wd_960 zJ1_charAt_3b067 wd_961 rfl rfl rfl ⟨Nat.le_of_ble_eq_true rfl, Nat.le_of_ble_eq_true rfl⟩ (Nat.le_of_ble_eq_true rfl) ⟨Nat.le_of_ble_eq_true rfl, Nat.le_of_ble_eq_true rfl⟩ ?_
  exact r_xret dJ0_charAt_5068e_15 rfl (sc_nar _) (Nat.le_of_ble_eq_true rfl) (Nat.le_of_ble_eq_true rfl) ⟨rfl, rfl, rfl⟩
end GSTC
section GSTU
variable {G : gG} {mi : gM} {Qp : List Frame → Array Value → State → State → Prop} {pc : Nat} {L : List (Option Value)} {f : gF} {sz k n w : Nat}
theorem r_strlen {index : Nat} {rest : List Value} (hs : G.1.stackTraces = false) (hd : decode mi.2.1 pc = .ok (.invokevirtual index, 3)) (hl : Cond.methodLink mi.1.cls index mJ0_length_8abf5.1 ∈ gW) (hw : w < 35) (h1 : mJ0_length_8abf5.2.2.2.2.1.frames + 1 ≤ mi.2.2.2.2.1.frames) (h2 : 8 + (mJ0_length_8abf5.2.2.1 + 11) + mJ0_length_8abf5.2.2.2.2.1.locals ≤ mi.2.2.2.2.1.locals) (hW : (rest.map fun v => v.category).sum ≤ 8) (hk : k ≤ mi.2.2.2.2.1.cells ∧ n ≤ mi.2.2.2.2.1.slots) (kk : gAt G mi Qp (pc + 3) L ((.int (nI (gLen w))) :: rest) f sz k n) : gAt G mi Qp pc L (.ref (G.2.2.2.1 w) :: rest) f sz k n :=
  r_callVs (rest := rest) hw (ct_J0_length_8abf5 hs hw) hd hl zJ0_length_8abf5 wd_943 wd_944 rfl rfl rfl rfl ⟨h1, h2⟩ hW hk kk
theorem r_strchar {i : Int32} {index : Nat} {rest : List Value} (hs : G.1.stackTraces = false) (hd : decode mi.2.1 pc = .ok (.invokevirtual index, 3)) (hl : Cond.methodLink mi.1.cls index mJ0_charAt_5068e.1 ∈ gW) (hw : w < 35) (hin : vp_in i (gLen w)) (h1 : mJ0_charAt_5068e.2.2.2.2.1.frames + 1 ≤ mi.2.2.2.2.1.frames) (h2 : 8 + (mJ0_charAt_5068e.2.2.1 + 11) + mJ0_charAt_5068e.2.2.2.2.1.locals ≤ mi.2.2.2.2.1.locals) (hW : (rest.map fun v => v.category).sum ≤ 8) (hk : k ≤ mi.2.2.2.2.1.cells ∧ n ≤ mi.2.2.2.2.1.slots) (kk : gAt G mi Qp (pc + 3) L ((.int (gByt w i.toNatClampNeg &&& 255)) :: rest) f sz k n) : gAt G mi Qp pc L (.int i :: .ref (G.2.2.2.1 w) :: rest) f sz k n :=
  r_callVs (rest := rest) hw (ct_J0_charAt_5068e hs hw hin) hd hl zJ0_charAt_5068e wd_953 wd_954 rfl rfl rfl rfl ⟨h1, h2⟩ hW hk kk
end GSTU
