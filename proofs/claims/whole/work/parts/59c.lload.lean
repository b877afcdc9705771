/-! the law's load -/
section LLD
variable {G : gG} {lay : Nat → Nat × Nat} {T0 T1 : Nat} {Dd : Nat → Nat → UInt64} {I : gI} {J : gJ} {K : gI} {N : gJ} {sz o : Nat} {a1 : Int32}
theorem r_cVz {mi : gM} {Qp : List Frame → Array Value → State → State → Prop} {pc : Nat} {L : List (Option Value)} {f f1 : gF} {sz1 k n : Nat} {mz : gM} {index na : Nat} {As rest st0 : List Value} {ci b : Nat} {fs : List Value} {q : vw_C} {u : Value} (hC : gCt G mz (.ref b :: As) f sz (gR (some u) f1 sz1)) (hd : decode mi.2.1 pc = .ok (.invokevirtual index, 3)) (hl : Cond.methodLink mi.1.cls index mz.1 ∈ gW) (hz : gZ mz na) (hi : Cond.instanceMethod mz.1 ∈ gW) (hse : Cond.selects mz.1.cls mz.1 mz.1 ∈ gW) (hT : mz.2.2.2.2.2 = []) (hst : st0 = As.reverse ++ .ref b :: rest) (hna : As.length = na) (hb : f b = .inr (ci, fs)) (hq : vwCl[ci]? = some q) (hqc : q.1 = mz.1.cls) (hR : mz.2.2.2.2.1.frames + 1 ≤ mi.2.2.2.2.1.frames ∧ 8 + (mz.2.2.1 + 11) + mz.2.2.2.2.1.locals ≤ mi.2.2.2.2.1.locals) (hW : (rest.map fun v => v.category).sum ≤ 8) (hk : k + mz.2.2.2.2.1.cells ≤ mi.2.2.2.2.1.cells ∧ n + mz.2.2.2.2.1.slots ≤ mi.2.2.2.2.1.slots) (kk : gAt G mi Qp (pc + 3) L (u :: rest) f1 sz1 (k + mz.2.2.2.2.1.cells) (n + mz.2.2.2.2.1.slots)) : gAt G mi Qp pc L st0 f sz k n :=
  r_callV hC hd hl hz hi hse hT hst hna hb hq hqc hR hW hk (fun E' f' sz' h => by cases h.1) (fun v f' sz' h => by
    obtain ⟨h1, h2, h3⟩ := h
    cases h1
    subst h2
    subst h3
    exact kk)
set_option maxHeartbeats 4000000 in
set_option maxRecDepth 100000 in
theorem wo_load (hs : G.1.stackTraces = false) (hE : gLay lay) (hj : gEnd lay) (hT0 : T0 = 95 ∨ T0 = 116) (hT1 : T1 = 95 ∨ T1 = 116) (ho : 172 ≤ o) {m : Nat} {I3 : gI} (hr : F_X3_readText m T1 o (PI I o a1) = some I3) (h : 0 ≤ a1.toInt ∧ a1.toInt ≤ (I 0 1).toInt) (ok : I3 o 0 = 0) (hc : F_X6_copyFrom m 2 10 (IcL I3 o) = some (cp (IcL I3 o) 2 10)) : gCt G mL_load [.ref (G.2.2.1 + 0), .int a1, .ref (G.2.2.1 + 170)] (fO G (lay, T0, T1, Dd) I J K N) (G.2.2.1 + o) (gVs (.int 0) (fO G (lay, T1, T0, Dd) (IfL I3 o) (sJ J 170 0 (I3 T1 5).toInt64) K N)) := by
  refine gCt.ofH [some (.ref (G.2.2.1 + 0)), some (.int a1), some (.ref (G.2.2.1 + 170)), none] (h0 := (0, 9, 12, 13)) (ht := [(0, 9, 15, 15)]) (by decide +kernel) rfl hs rfl (Nat.le_of_ble_eq_true rfl) ?_
  refine r_aload_n dL_load_0 rfl ?_
  refine r_iconst (v := (0 : Int32)) dL_load_1 (by decide) ?_
  refine r_aload_n dL_load_2 rfl ?_
  refine r_iload_n dL_load_3 rfl ?_
  refine r_cVz (rest := [.int 0, .ref (G.2.2.1 + 170)]) (ct_loadS hs hE hj hT0 hT1 ho hr h ok hc) dL_load_4 wd_526 zX9_load wd_527 wd_528 rfl rfl rfl (fo9 (hE 0 (by decide))) rfl rfl ⟨Nat.le_of_ble_eq_true rfl, Nat.le_of_ble_eq_true rfl⟩ (Nat.le_of_ble_eq_true rfl) ⟨Nat.le_of_ble_eq_true rfl, Nat.le_of_ble_eq_true rfl⟩ ?_
  refine r_i2l dL_load_7 ?_
  refine a_lastc 0 dL_load_8 (hE 170 (by decide)) (vpc rfl) rfl ?_
  refine r_goto (tgt := 18) dL_load_9 (by decide) ?_
  refine r_iconst (v := (0 : Int32)) dL_load_18 (by decide) ?_
  exact r_iret dL_load_19 rfl (Nat.le_of_ble_eq_true rfl) (Nat.le_of_ble_eq_true rfl) ⟨rfl, rfl⟩
set_option maxHeartbeats 4000000 in
set_option maxRecDepth 100000 in
theorem we_load0 (hs : G.1.stackTraces = false) (hE : gLay lay) (h : ¬ (0 ≤ a1.toInt ∧ a1.toInt ≤ (I 0 1).toInt)) : gCt G mL_load [.ref (G.2.2.1 + 0), .int a1, .ref (G.2.2.1 + 170)] (fO G (lay, T0, T1, Dd) I J K N) sz (gVs (.int 1) (fO G (lay, T0, T1, Dd) I J K N)) := by
  refine gCt.ofH [some (.ref (G.2.2.1 + 0)), some (.int a1), some (.ref (G.2.2.1 + 170)), none] (h0 := (0, 9, 12, 13)) (ht := [(0, 9, 15, 15)]) (by decide +kernel) rfl hs rfl (Nat.le_of_ble_eq_true rfl) ?_
  refine r_aload_n dL_load_0 rfl ?_
  refine r_iconst (v := (0 : Int32)) dL_load_1 (by decide) ?_
  refine r_aload_n dL_load_2 rfl ?_
  refine r_iload_n dL_load_3 rfl ?_
  refine r_callVX (rest := [.int 0, .ref (G.2.2.1 + 170)]) (ct_load0 hs hE h) dL_load_4 wd_526 zX9_load wd_527 wd_528 rfl rfl rfl (fo9 (hE 0 (by decide))) rfl rfl ⟨Nat.le_of_ble_eq_true rfl, Nat.le_of_ble_eq_true rfl⟩ (Nat.le_of_ble_eq_true rfl) ⟨Nat.le_of_ble_eq_true rfl, Nat.le_of_ble_eq_true rfl⟩ (fun sz9 => ?_)
  refine x_catch (name := "java/lang/IndexOutOfBoundsException") [] (0, 9, 12, 13) [(0, 9, 15, 15)] rfl hp0 (by decide) (by decide) wd_524 wd_532 (fun q9 => ?_)
  refine r_astore_n dL_load_12 (by decide) rfl ?_
  refine r_iconst (v := (1 : Int32)) dL_load_13 (by decide) ?_
  exact r_iret dL_load_14 rfl (Nat.le_of_ble_eq_true rfl) (Nat.le_of_ble_eq_true rfl) ⟨rfl, rfl⟩
set_option maxHeartbeats 4000000 in
set_option maxRecDepth 100000 in
theorem we_loadE (hs : G.1.stackTraces = false) (hE : gLay lay) (hj : gEnd lay) (hT1 : T1 = 95 ∨ T1 = 116) (ho : 172 ≤ o) {m : Nat} {I3 : gI} (hr : F_X3_readText m T1 o (PI I o a1) = some I3) (h : 0 ≤ a1.toInt ∧ a1.toInt ≤ (I 0 1).toInt) (er : ¬ I3 o 0 = 0) : gCt G mL_load [.ref (G.2.2.1 + 0), .int a1, .ref (G.2.2.1 + 170)] (fO G (lay, T0, T1, Dd) I J K N) (G.2.2.1 + o) (gVs (.int 2) (fO G (lay, T0, T1, Dd) (IcL I3 o) J K N)) := by
  refine gCt.ofH [some (.ref (G.2.2.1 + 0)), some (.int a1), some (.ref (G.2.2.1 + 170)), none] (h0 := (0, 9, 12, 13)) (ht := [(0, 9, 15, 15)]) (by decide +kernel) rfl hs rfl (Nat.le_of_ble_eq_true rfl) ?_
  refine r_aload_n dL_load_0 rfl ?_
  refine r_iconst (v := (0 : Int32)) dL_load_1 (by decide) ?_
  refine r_aload_n dL_load_2 rfl ?_
  refine r_iload_n dL_load_3 rfl ?_
  refine r_callVX (rest := [.int 0, .ref (G.2.2.1 + 170)]) (ct_loadE hs hE hj hT1 ho hr h er) dL_load_4 wd_526 zX9_load wd_527 wd_528 rfl rfl rfl (fo9 (hE 0 (by decide))) rfl rfl ⟨Nat.le_of_ble_eq_true rfl, Nat.le_of_ble_eq_true rfl⟩ (Nat.le_of_ble_eq_true rfl) ⟨Nat.le_of_ble_eq_true rfl, Nat.le_of_ble_eq_true rfl⟩ (fun sz9 => ?_)
  refine x_catch (name := "java/lang/IllegalArgumentException") [(0, 9, 12, 13)] (0, 9, 15, 15) [] rfl (hp1 (Or.inr ⟨by decide, "java/lang/IndexOutOfBoundsException", wd_524, nc_23⟩)) (by decide) (by decide) wd_525 wd_839 (fun q9 => ?_)
  refine r_astore_n dL_load_15 (by decide) rfl ?_
  refine r_iconst (v := (2 : Int32)) dL_load_16 (by decide) ?_
  exact r_iret dL_load_17 rfl (Nat.le_of_ble_eq_true rfl) (Nat.le_of_ble_eq_true rfl) ⟨rfl, rfl⟩
end LLD
