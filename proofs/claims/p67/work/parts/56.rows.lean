/-! ROWS OF THE LAW'S OWN: made by it, by drawn, by seen; says, whole -/
section ROW
variable {G : gG} {lay : Nat → Nat × Nat} {T0 T1 : Nat} {Dd : Nat → Nat → UInt64} {I : gI} {J : gJ} {K : gI} {N : gJ} {sz n : Nat}
theorem fO_r2 {o z : Nat} : va_up (fO G (lay, T0, T1, Dd) I J K N) (G.2.2.1 + o) (.inl (G.2.1.1 (100 + 2), z, .inl (fun _ => 0))) = fO G (va_up lay o (202, z), T0, T1, Dd) I J (va_up K o (fun _ => 0)) N := by
  refine fO_up ?_ ?_
  · unfold cO
    simp only [va_up_self, cE]
  · intro o' h
    unfold cO
    simp only [va_up_ne _ _ h]
    unfold cE
    split <;> rfl
theorem fO_r3 {o z : Nat} : va_up (fO G (lay, T0, T1, Dd) I J K N) (G.2.2.1 + o) (.inl (G.2.1.1 (100 + 3), z, .inr (.inl (fun _ => 0)))) = fO G (va_up lay o (203, z), T0, T1, Dd) I J K (va_up N o (fun _ => 0)) := by
  refine fO_up ?_ ?_
  · unfold cO
    simp only [va_up_self, cE]
  · intro o' h
    unfold cO
    simp only [va_up_ne _ _ h]
    unfold cE
    split <;> rfl
theorem lay_row (hE : gLay lay) {o : Nat} (ho : 155 ≤ o) (q : Nat × Nat) : gLay (va_up lay o q) := fun a ha => by
  rw [va_up_ne _ _ (by omega)]; exact hE a ha
end ROW
section CX
variable {G : gG} {mi : gM} {Qp : List Frame → Array Value → State → State → Prop} {pc : Nat} {L : List (Option Value)} {st : List Value} {f f1 : gF} {sz sz1 k n : Nat}
theorem r_cVx {mz : gM} {index na ci b : Nat} {As rest st0 fs : List Value} {q : vw_C} {v : Option Value} (hC : gCt G mz (.ref b :: As) f sz (gR v f1 sz1)) (hd : decode mi.2.1 pc = .ok (.invokevirtual index, 3)) (hl : Cond.methodLink mi.1.cls index mz.1 ∈ gW) (hz : gZ mz na) (hi : Cond.instanceMethod mz.1 ∈ gW) (hse : Cond.selects mz.1.cls mz.1 mz.1 ∈ gW) (hT : mz.2.2.2.2.2 = [])
    (hst : st0 = As.reverse ++ .ref b :: rest) (hna : As.length = na) (hb : f b = .inr (ci, fs)) (hq : vwCl[ci]? = some q) (hqc : q.1 = mz.1.cls) (hR : mz.2.2.2.2.1.frames + 1 ≤ mi.2.2.2.2.1.frames ∧ 8 + (mz.2.2.1 + 11) + mz.2.2.2.2.1.locals ≤ mi.2.2.2.2.1.locals) (hW : (rest.map fun v => v.category).sum ≤ 8) (hk : k + mz.2.2.2.2.1.cells ≤ mi.2.2.2.2.1.cells ∧ n + mz.2.2.2.2.1.slots ≤ mi.2.2.2.2.1.slots)
    (kk : gAt G mi Qp (pc + 3) L (v.toList ++ rest) f1 sz1 (k + mz.2.2.2.2.1.cells) (n + mz.2.2.2.2.1.slots)) : gAt G mi Qp pc L st0 f sz k n :=
  r_callV hC hd hl hz hi hse hT hst hna hb hq hqc hR hW hk (fun E f' sz' h => by cases h.1) (fun v' f' sz' h => by
    obtain ⟨h1, h2, h3⟩ := h
    cases h1; subst h2; subst h3
    exact kk)
theorem r_cSx {mz : gM} {index na : Nat} {As rest st0 : List Value} {v : Option Value} (hC : gCt G mz As f sz (gR v f1 sz1)) (hd : decode mi.2.1 pc = .ok (.invokestatic index, 3)) (hl : Cond.methodLink mi.1.cls index mz.1 ∈ gW) (hz : gZ mz na) (hs : Cond.static mz.1 ∈ gW) (hT : mz.2.2.2.2.2 = [])
    (hst : st0 = As.reverse ++ rest) (hna : As.length = na) (hR : mz.2.2.2.2.1.frames + 1 ≤ mi.2.2.2.2.1.frames ∧ 8 + (mz.2.2.1 + 11) + mz.2.2.2.2.1.locals ≤ mi.2.2.2.2.1.locals) (hW : (rest.map fun v => v.category).sum ≤ 8) (hk : k + mz.2.2.2.2.1.cells ≤ mi.2.2.2.2.1.cells ∧ n + mz.2.2.2.2.1.slots ≤ mi.2.2.2.2.1.slots)
    (kk : gAt G mi Qp (pc + 3) L (v.toList ++ rest) f1 sz1 (k + mz.2.2.2.2.1.cells) (n + mz.2.2.2.2.1.slots)) : gAt G mi Qp pc L st0 f sz k n :=
  r_callS hC hd hl hz hs hT hst hna hR hW hk (fun E f' sz' h => by cases h.1) (fun v' f' sz' h => by
    obtain ⟨h1, h2, h3⟩ := h
    cases h1; subst h2; subst h3
    exact kk)
end CX
section ROW2
variable {G : gG} {lay : Nat → Nat × Nat} {T0 T1 : Nat} {Dd : Nat → Nat → UInt64} {I : gI} {J : gJ} {K : gI} {N : gJ} {sz n : Nat}
set_option maxHeartbeats 4000000 in
set_option maxRecDepth 100000 in
theorem ct_L_drawn {zS : Nat} {S : Nat → Int32} (hs : G.1.stackTraces = false) (hE : gLay (va_up lay 154 (202, 90))) (hS : gScr G zS S) {r : gI} (hf : F_L_drawn n zS S (va_up K 154 (fun _ => 0)) = some r) : gCt G mL_drawn [.ref (gsA G)] (fO G (lay, T0, T1, Dd) I J K N) (G.2.2.1 + 154) (gR (some (.ref (G.2.2.1 + 154))) (fO G (va_up lay 154 (202, 90), T0, T1, Dd) I J r N) (G.2.2.1 + 155)) := by
  refine gCt.of [some (.ref (gsA G)), none, none, none, none] (by decide +kernel) rfl hs rfl (Nat.le_of_ble_eq_true rfl) ?_
  refine r_bipush (v := (90 : Int32)) dL_drawn_0 (by decide) ?_
  refine r_newa (ty := FieldType.int) (N := 90) (a0 := (90, .inl (fun _ => 0))) 2 rfl rfl ⟨rfl, fun _ _ h => h⟩ na_i wd_142 (by decide) (by decide) (by decide) (Nat.le_of_ble_eq_true rfl) (Nat.le_of_ble_eq_true rfl) dL_drawn_2 ?_
  rw [fO_r2]
  refine r_astore_n dL_drawn_4 (by decide) rfl ?_
  exact at_L_drawn hs hE hS hf
set_option maxHeartbeats 4000000 in
set_option maxRecDepth 100000 in
theorem ct_L_seen {o2 : Nat} (hs : G.1.stackTraces = false) (hE : gLay lay) (ho : 155 ≤ o2) (hT0 : T0 = 95 ∨ T0 = 116) (hT1 : T1 = 95 ∨ T1 = 116) {r : gJ × gJ} (hf : F_L_seen n T0 T1 o2 I J K (va_up N o2 (fun _ => 0)) = some r) : gCt G mL_seen [.ref (G.2.2.1 + 0), .ref (G.2.2.1 + 154)] (fO G (lay, T0, T1, Dd) I J K N) (G.2.2.1 + o2) (gR (some (.ref (G.2.2.1 + o2))) (fO G (va_up lay o2 (203, 80), T0, T1, Dd) I r.1 K r.2) (G.2.2.1 + (o2 + 1))) := by
  have hE2 := lay_row hE ho (203, 80)
  refine gCt.of [some (.ref (G.2.2.1 + 0)), some (.ref (G.2.2.1 + 154)), none, none, none] (by decide +kernel) rfl hs rfl (Nat.le_of_ble_eq_true rfl) ?_
  refine r_bipush (v := (80 : Int32)) dL_seen_0 (by decide) ?_
  refine r_newa (ty := FieldType.long) (N := 80) (a0 := (80, .inr (.inl (fun _ => 0)))) 3 rfl rfl ⟨rfl, fun _ _ h => h⟩ na_l wd_205 (by decide) (by decide) (by decide) (Nat.le_of_ble_eq_true rfl) (Nat.le_of_ble_eq_true rfl) dL_seen_2 ?_
  rw [fO_r3]
  refine r_astore_n dL_seen_4 (by decide) rfl ?_
  exact at_L_seen hs hE2 (gTk hE2 hT0) (gTk hE2 hT1) (va_up_self _ _ _) hf
set_option maxHeartbeats 4000000 in
set_option maxRecDepth 100000 in
theorem ct_L_says {o : Nat} {v : Int32} {I1 K1 : gI} (hs : G.1.stackTraces = false) (hE : gLay lay) (hj : gEnd lay) (hT0 : T0 = 95 ∨ T0 = 116) (hT1 : T1 = 95 ∨ T1 = 116) (ho : 155 ≤ o) (hf : F_L_says n T0 T1 I K = some (v, I1, K1)) {m : Nat} {I3 : gI} (hr : F_X3_readText m T1 o (PrI I1 o v) = some I3) (h : 0 ≤ v.toInt ∧ v.toInt ≤ (I1 0 1).toInt) (ok : I3 o 0 = 0) (hc : F_X6_copyFrom m 2 10 (IcL I3 o) = some (cp (IcL I3 o) 2 10)) : gCt G mL_says [.ref (G.2.2.1 + 0), .ref (G.2.2.1 + 153), .ref (G.2.2.1 + 154)] (fO G (lay, T0, T1, Dd) I J K N) (G.2.2.1 + o) (gR (some (.int (I3 T1 5))) (fO G (lay, T1, T0, Dd) (IfL I3 o) J K1 N) (G.2.2.1 + (o + 1))) := by
  refine gCt.of [some (.ref (G.2.2.1 + 0)), some (.ref (G.2.2.1 + 153)), some (.ref (G.2.2.1 + 154)), none] (by decide +kernel) rfl hs rfl (Nat.le_of_ble_eq_true rfl) ?_
  refine at_L_says hs hE (gTk hE hT0) (gTk hE hT1) hf ?_
  have hC := ct_loadS (J := J) (K := K1) (N := N) (Dd := Dd) (T0 := T0) hs hE hj hT0 hT1 ho hr h ok hc
  refine r_cVx (mz := mX9_load) (As := [.int v]) (rest := []) hC dL_says_161 wd_846 zX9_load wd_847 wd_848 rfl rfl rfl (fo9 (hE 0 (by decide))) rfl rfl ⟨Nat.le_of_ble_eq_true rfl, Nat.le_of_ble_eq_true rfl⟩ (Nat.le_of_ble_eq_true rfl) ⟨Nat.le_of_ble_eq_true rfl, Nat.le_of_ble_eq_true rfl⟩ ?_
  exact r_iret dL_says_164 rfl (Nat.le_of_ble_eq_true rfl) (Nat.le_of_ble_eq_true rfl) ⟨rfl, rfl, rfl⟩
end ROW2
