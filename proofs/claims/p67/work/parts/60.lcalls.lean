/-! THE LAW'S CALLS of seen and of Arrays.equals -/
section LCL
variable {G : gG} {Qp : List Frame → Array Value → State → State → Prop} {pc : Nat} {L : List (Option Value)} {rest : List Value} {lay : Nat → Nat × Nat} {T0 T1 : Nat} {Dd : Nat → Nat → UInt64} {I : gI} {J : gJ} {K : gI} {N : gJ} {sz n kc nc o : Nat} {p s : gP}
/-- the content of a row that is seen -/
def sR0 (p s : gP) : Nat → Int64 := sRw p s (fun _ => 0)
/-- what getLongUnaligned answers on every row of the law's own -/
def gUA (G : gG) (Dd : Nat → Nat → UInt64) : Prop := ∀ (lay : Nat → Nat × Nat) (T0 T1 : Nat) (I : gI) (J : gJ) (K : gI) (N : gJ) (sz q : Nat), lay q = (203, 80) → gUn G (fO G (lay, T0, T1, Dd) I J K N) sz (G.2.2.1 + q) (N q)
theorem l_seen {idx : Nat} (hs : G.1.stackTraces = false) (hE : gLay lay) (ho : 155 ≤ o) (hn : 2000 ≤ n) (C : CI T0 T1 I p s) (w : WK K p) (hsm : SM p) (hkc : kc + 1 ≤ 600086) (hnc : nc + 80 ≤ 7301442) (hd : decode mL_law.2.1 pc = .ok (.invokestatic idx, 3)) (hl : Cond.methodLink mL_law.1.cls idx mL_seen.1 ∈ gW) (hr : (rest.map fun v => v.category).sum ≤ 8)
    (kk : ∀ (J' : gJ) (N' : gJ), N' o = sR0 p s → (∀ q, q ≠ o → N' q = N q) → gAt G mL_law Qp (pc + 3) L (.ref (G.2.2.1 + o) :: rest) (fO G (va_up lay o (203, 80), T0, T1, Dd) I J' K N') (G.2.2.1 + (o + 1)) (kc + 1) (nc + 80)) : gAt G mL_law Qp pc L (.ref (G.2.2.1 + 154) :: .ref (G.2.2.1 + 0) :: rest) (fO G (lay, T0, T1, Dd) I J K N) (G.2.2.1 + o) kc nc := by
  obtain ⟨J', N', e, h1, h2⟩ := seen_s (n := n) (J := J) (N := va_up N o (fun _ => 0)) (o2 := o) hn C w hsm (va_up_self _ _ _)
  have hT := C.tt
  have hC := ct_L_seen (Dd := Dd) (n := n) (lay := lay) (T0 := T0) (T1 := T1) (I := I) (J := J) (K := K) (N := N) (o2 := o) hs hE ho (by omega) (by omega) e
  refine r_cSx (mz := mL_seen) (As := [.ref (G.2.2.1 + 0), .ref (G.2.2.1 + 154)]) (rest := rest) hC hd hl zL_seen wd_1244 rfl rfl rfl ⟨Nat.le_of_ble_eq_true rfl, Nat.le_of_ble_eq_true rfl⟩ hr ⟨hkc, hnc⟩ ?_
  exact kk J' N' h1 fun q hq => by rw [h2 q hq, va_up_ne _ _ hq]
theorem l_equal {idx q q' : Nat} (hs : G.1.stackTraces = false) (hU : gUA G Dd) (hq : lay q = (203, 80)) (hq' : lay q' = (203, 80)) (hqq : q ≠ q') (hN : N q = N q') (hkc : kc ≤ 600086) (hnc : nc ≤ 7301442) (hd : decode mL_law.2.1 pc = .ok (.invokestatic idx, 3)) (hl : Cond.methodLink mL_law.1.cls idx mJ7_equals_331f6.1 ∈ gW) (hr : (rest.map fun v => v.category).sum ≤ 8)
    (kk : gAt G mL_law Qp (pc + 3) L (.int 1 :: rest) (fO G (lay, T0, T1, Dd) I J K N) sz kc nc) : gAt G mL_law Qp pc L (.ref (G.2.2.1 + q') :: .ref (G.2.2.1 + q) :: rest) (fO G (lay, T0, T1, Dd) I J K N) sz kc nc := by
  have ua := hU lay T0 T1 I J K N sz q hq
  have ub := hU lay T0 T1 I J K N sz q' hq'
  have fa := fo203 (G := G) (E := (lay, T0, T1, Dd)) (I := I) (J := J) (K := K) (N := N) hq
  have fb := fo203 (G := G) (E := (lay, T0, T1, Dd)) (I := I) (J := J) (K := K) (N := N) hq'
  rw [← hN] at ub fb
  have hC := ct_eq hs (show G.2.2.1 + q ≠ G.2.2.1 + q' by omega) fa fb ua ub
  exact r_cSi (mz := mJ7_equals_331f6) (As := [.ref (G.2.2.1 + q), .ref (G.2.2.1 + q')]) (rest := rest) hC hd hl zJ7_equals_331f6 wd_1251 rfl rfl rfl ⟨Nat.le_of_ble_eq_true rfl, Nat.le_of_ble_eq_true rfl⟩ hr ⟨hkc, hnc⟩ kk
end LCL
