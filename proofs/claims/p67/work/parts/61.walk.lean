/-! THE LAW'S SIX STEPS -/
section WLK
variable {G : gG} {Qp : List Frame → Array Value → State → State → Prop} {Dd : Nat → Nat → UInt64} {zS : Nat} {S : Nat → Int32} {n : Nat}
abbrev lwL (G : gG) (i : Nat) : List (Option Value) := [some (.ref (gsA G)), some (.ref (G.2.2.1 + 0)), some (.ref (G.2.2.1 + 153)), some (.ref (G.2.2.1 + 154)), some (.int (Int32.ofNat i)), none, none, none, none, none, none, none, none, none, none, none, none, none, none, none, none, none]
/-- the end of the loop is reached whatever the memory -/
def lwEnd (G : gG) (Qp : List Frame → Array Value → State → State → Prop) (Dd : Nat → Nat → UInt64) : Prop := ∀ (lay : Nat → Nat × Nat) (T0 T1 : Nat) (I : gI) (J : gJ) (K : gI) (N : gJ) (o kc nc : Nat), 155 ≤ o → kc ≤ 500 → nc ≤ 60000 → gAt G mL_law Qp 613 (lwL G 6) [] (fO G (lay, T0, T1, Dd) I J K N) (G.2.2.1 + o) kc nc
set_option maxHeartbeats 4000000 in
set_option maxRecDepth 100000 in
theorem lw_tail (hs : G.1.stackTraces = false) (hn : 20000 ≤ n) (hS : gScr G zS S) {i o kc nc T0 T1 : Nat} {lay : Nat → Nat × Nat} {I : gI} {J : gJ} {K : gI} {N : gJ} {p s : gP} (hE : gLay lay) (C : CI T0 T1 I p s) (w : WK K p) (hph : PH p s) (ham : AM p s) {c m : Int32} {k : Nat} {x y row tol : Int32} (A : AK p c m k x y row tol) (hkc : kc ≤ 600086) (hnc : nc ≤ 7301442)
    (kk : ∀ (I' : gI) (s' : gP), CI T0 T1 I' p s' → PH p s' → AM p s' → s' 0 = s 0 → gAt G mL_law Qp 36 (lwL G (i + 1)) [] (fO G (lay, T0, T1, Dd) I' J K N) (G.2.2.1 + o) kc nc) : gAt G mL_law Qp 502 [some (.ref (gsA G)), some (.ref (G.2.2.1 + 0)), some (.ref (G.2.2.1 + 153)), some (.ref (G.2.2.1 + 154)), some (.int (Int32.ofNat i)), some (.int c), some (.int m), some (.int (Int32.ofNat k)), some (.int x), some (.int y), some (.int row), some (.int tol), none, none, none, none, none, none, none, none, none, none] [] (fO G (lay, T0, T1, Dd) I J K N) (G.2.2.1 + o) kc nc := by
  obtain ⟨I', s', e, C', h1, h2, h3⟩ := lw6_s (n := n) (zS := zS) (S := S) (J := J) (N := N) (a4 := Int32.ofNat i) hn C w hph ham A
  have hT := C.tt
  refine at_lw6 hkc hnc hs hE hS (gTk hE (by omega)) (gTk hE (by omega)) e ?_
  refine r_iincv (v := Int32.ofNat (i + 1)) dL_law_607 rfl (ixp_1 i) (by decide) rfl ?_
  refine r_goto (tgt := 36) dL_law_610 (by decide) ?_
  exact r_mask [true, true, true, true, true, false, false, false, false, false, false, false, false, false, false, false, false, false, false, false, false, false] rfl (kk I' s' C' h1 h2 h3)
set_option maxHeartbeats 8000000 in
set_option maxRecDepth 100000 in
theorem lw_loop (hs : G.1.stackTraces = false) (hn : 20000 ≤ n) (hz : zS < 2147483648) (hS : gScr G zS S) (hU : gUA G Dd) (hend : lwEnd G Qp Dd) : ∀ (d i : Nat) (o kc nc T0 T1 : Nat) (lay : Nat → Nat × Nat) (I : gI) (J : gJ) (K : gI) (N : gJ) (p s : gP), i + d = 6 → 155 ≤ o → kc + 4 * d ≤ 500 → nc + 320 * d ≤ 60000 → gLay lay → CI T0 T1 I p s → WK K p → SM p → PH p s → AM p s → (s 0).toInt ≤ 8 * i → gAt G mL_law Qp 36 (lwL G i) [] (fO G (lay, T0, T1, Dd) I J K N) (G.2.2.1 + o) kc nc := by
  intro d
  induction d with
  | zero =>
    intro i o kc nc T0 T1 lay I J K N p s hi ho hkc hnc hE C w hsm hph ham ht
    have h6 : i = 6 := by omega
    subst h6
    refine r_iload dL_law_36 rfl ?_
    refine r_bipush (v := (6 : Int32)) dL_law_38 (by decide) ?_
    refine r_icmp_ge (tgt := 613) dL_law_40 (by decide) (fun _ => ?_) (fun c => absurd (show (6 : Int32) ≤ Int32.ofNat 6 by decide) c)
    exact hend lay T0 T1 I J K N o kc nc ho (by omega) (by omega)
  | succ d ih =>
    intro i o kc nc T0 T1 lay I J K N p s hi ho hkc hnc hE C w hsm hph ham ht
    have hT := C.tt
    have hn2 : 2000 ≤ n := by omega
    refine r_iload dL_law_36 rfl ?_
    refine r_bipush (v := (6 : Int32)) dL_law_38 (by decide) ?_
    refine r_icmp_ge (tgt := 613) dL_law_40 (by decide) (fun c => absurd c (fun z => absurd ((i_ole (a := 6) (by omega) (by omega)).mp z) (by omega))) (fun _ => ?_)
    obtain ⟨c, m, k, x, y, row, tol, I1, J1, e1, A, C1⟩ := lw1_s (n := n) (S := S) (J := J) (N := N) hn hz C w (i := i) (by omega)
    refine at_lw1 (n := n) (by omega) (by omega) hs hE hS (gTk hE (by omega)) (gTk hE (by omega)) e1 ?_
    dsimp only
    refine l_seen (rest := []) hs hE ho hn2 C1 w hsm (by omega) (by omega) dL_law_141 wd_1243 (Nat.zero_le _) fun J2 N2 r2 q2 => ?_
    have E2 := lay_row hE ho (203, 80)
    have y2 : va_up lay o (203, 80) o = (203, 80) := va_up_self _ _ _
    refine r_astore dL_law_144 (by decide) rfl ?_
    obtain ⟨q, best, I3, e3, C3, hb, h1, h2⟩ := lw2_s (n := n) (zS := zS) (S := S) (J := J2) (K := K) (N := N2) (q12 := o) (a4 := Int32.ofNat i) hn C1 A
    refine at_lw2 (n := n) (q12 := o) (by omega) (by omega) hs E2 hS (gTk E2 (by omega)) (gTk E2 (by omega)) y2 e3 ?_
    dsimp only
    refine l_seen (rest := [.ref (G.2.2.1 + o)]) (o := o + 1) hs E2 (by omega) hn2 C3 w hsm (by omega) (by omega) dL_law_202 wd_1243 (Nat.le_of_ble_eq_true rfl) fun J4 N4 r4 q4 => ?_
    have E4 := lay_row E2 (show 155 ≤ o + 1 by omega) (203, 80)
    have y4 : va_up (va_up lay o (203, 80)) (o + 1) (203, 80) o = (203, 80) := by rw [va_up_ne _ _ (by omega)]; exact y2
    have z4 : va_up (va_up lay o (203, 80)) (o + 1) (203, 80) (o + 1) = (203, 80) := va_up_self _ _ _
    have n4 : N4 o = sR0 p s := by rw [q4 o (by omega), r2]
    refine l_equal (rest := []) hs hU y4 z4 (by omega) (by rw [n4, r4]) (by omega) (by omega) dL_law_205 wd_1250 (Nat.zero_le _) ?_
    refine r_if_ne (tgt := 213) dL_law_208 (by decide) (fun _ => ?_) (fun c => absurd c (by decide))
    obtain ⟨I5, e5, C5⟩ := lw3_s (n := n) (zS := zS) (S := S) (J := J4) (N := N4) (q12 := o) (a4 := Int32.ofNat i) hn C3 w hph A hb h1 h2
    refine at_lw3 (n := n) (q12 := o) (by omega) (by omega) hs E4 hS (gTk E4 (by omega)) (gTk E4 (by omega)) y4 e5 ?_
    dsimp only
    refine l_seen (rest := [.ref (G.2.2.1 + o)]) (o := o + 2) hs E4 (by omega) hn2 C5 w hsm (by omega) (by omega) dL_law_373 wd_1243 (Nat.le_of_ble_eq_true rfl) fun J6 N6 r6 q6 => ?_
    have E6 := lay_row E4 (show 155 ≤ o + 2 by omega) (203, 80)
    have y6 : va_up (va_up (va_up lay o (203, 80)) (o + 1) (203, 80)) (o + 2) (203, 80) o = (203, 80) := by rw [va_up_ne _ _ (by omega)]; exact y4
    have z6 : va_up (va_up (va_up lay o (203, 80)) (o + 1) (203, 80)) (o + 2) (203, 80) (o + 2) = (203, 80) := va_up_self _ _ _
    have n6 : N6 o = sR0 p s := by rw [q6 o (by omega), n4]
    refine l_equal (rest := []) hs hU y6 z6 (by omega) (by rw [n6, r6]) (by omega) (by omega) dL_law_376 wd_1250 (Nat.zero_le _) ?_
    refine r_if_ne (tgt := 384) dL_law_379 (by decide) (fun _ => ?_) (fun c => absurd c (by decide))
    have hm2 := A.2.1
    obtain ⟨b, I7, e7, hb2, C7, sv⟩ := lw4_s (n := n) (zS := zS) (S := S) (J := J6) (K := K) (N := N6) (q12 := o) (a4 := Int32.ofNat i) hn C5 A (by omega)
    refine r_mask [true, true, true, true, true, true, true, true, true, true, true, true, true, false, false, false, false, false, false, false, false, false] rfl ?_
    refine at_lw4 (n := n) (q12 := o) (by omega) (by omega) hs E6 hS (gTk E6 (by omega)) (gTk E6 (by omega)) y6 e7 ?_
    dsimp only
    have t0 := C.sv.t
    have et : (s 0 + m).toInt = (s 0).toInt + m.toInt := i_add (by omega) (by omega)
    refine r_iload dL_law_458 rfl ?_
    refine r_bipush (v := (22 : Int32)) dL_law_460 (by decide) ?_
    refine r_ishr dL_law_462 ?_
    refine r_iconst (v := (1 : Int32)) dL_law_463 (by decide) ?_
    refine r_iand dL_law_464 ?_
    refine r_iconst (v := (1 : Int32)) dL_law_465 (by decide) ?_
    refine r_icmp_ne (tgt := 502) dL_law_466 (by decide) (fun _ => ?_) (fun _ => ?_)
    · refine r_mask [true, true, true, true, true, true, true, true, true, true, true, true, false, false, false, false, false, false, false, false, false, false] rfl ?_
      refine lw_tail (o := o + 3) hs hn hS E6 C7 w (fun a ha => by rw [up_o (by omega)]; exact hph a ha) (fun a ha => by rw [up_o (by omega)]; exact ham a ha) A (by omega) (by omega) fun I' s' C' p' a' h0 => ?_
      exact ih (i + 1) (o + 3) _ _ T0 T1 _ I' J6 K N6 p s' (by omega) (by omega) (by omega) (by omega) E6 C' w hsm p' a' (by rw [h0, up_t, et]; omega)
    · obtain ⟨I8, e8, C8⟩ := lw5_s (n := n) (zS := zS) (S := S) (J := J6) (K := K) (N := N6) (q12 := o) (a4 := Int32.ofNat i) (c := c) (m := m) (k := k) (x := x) (y := y) (row := row) (tol := tol) hn C7 hb2 sv
      refine at_lw5 (n := n) (q12 := o) (by omega) (by omega) hs E6 hS (gTk E6 (by omega)) (gTk E6 (by omega)) y6 e8 ?_
      dsimp only
      refine l_seen (rest := [.ref (G.2.2.1 + o)]) (o := o + 3) hs E6 (by omega) hn2 C8 w hsm (by omega) (by omega) dL_law_491 wd_1243 (Nat.le_of_ble_eq_true rfl) fun J9 N9 r9 q9 => ?_
      have E9 := lay_row E6 (show 155 ≤ o + 3 by omega) (203, 80)
      have n9 : N9 o = sR0 p s := by rw [q9 o (by omega), n6]
      refine l_equal (rest := []) (q := o) (q' := o + 3) hs hU (by rw [va_up_ne _ _ (by omega)]; exact y6) (va_up_self _ _ _) (by omega) (by rw [n9, r9]) (by omega) (by omega) dL_law_494 wd_1250 (Nat.zero_le _) ?_
      refine r_if_ne (tgt := 502) dL_law_497 (by decide) (fun _ => ?_) (fun c => absurd c (by decide))
      refine r_mask [true, true, true, true, true, true, true, true, true, true, true, true, false, false, false, false, false, false, false, false, false, false] rfl ?_
      refine lw_tail (o := o + 4) hs hn hS E9 C8 w hph ham A (by omega) (by omega) fun I' s' C' p' a' h0 => ?_
      exact ih (i + 1) (o + 4) _ _ T0 T1 _ I' J9 K N9 p s' (by omega) (by omega) (by omega) (by omega) E9 C' w hsm p' a' (by rw [h0]; omega)
end WLK
