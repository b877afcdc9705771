/-! A TRAIN IS READ -/
def trF (T1 o x k' : Nat) (i u v : Int32) (X : gI) : Option gI := (if (X o 0) = 0 then gv i 4 (gv i 4 (gv i 4 (some (sI (sI (sI (sI (sI (sI (sI (sI X x 0 u) x 1 v) x 7 (0 : Int32)) x 8 (0 : Int32)) (10 + 6) k' (0 : Int32)) (10 + 7) k' (0 : Int32)) (10 + 1) k' (1 : Int32)) T1 5 (((sI (sI (sI (sI (sI (sI (sI X x 0 u) x 1 v) x 7 (0 : Int32)) x 8 (0 : Int32)) (10 + 6) k' (0 : Int32)) (10 + 7) k' (0 : Int32)) (10 + 1) k' (1 : Int32)) T1 5) + (1 : Int32)))))) else some X)
theorem pas8 (W : gP) (b : Nat) (X : List Nat) : pas W b 8 0 ++ X = pa (W (b + 0)) ++ (pa (W (b + 1)) ++ (pa (W (b + 2)) ++ (pa (W (b + 3)) ++ (pa (W (b + 4)) ++ (pa (W (b + 5)) ++ (pa (W (b + 6)) ++ (pa (W (b + 7)) ++ X))))))) := by
  rw [show pas W b 8 0 = pa (W (b + 0)) ++ (pa (W (b + 1)) ++ (pa (W (b + 2)) ++ (pa (W (b + 3)) ++ (pa (W (b + 4)) ++ (pa (W (b + 5)) ++ (pa (W (b + 6)) ++ (pa (W (b + 7)) ++ []))))))) from rfl]
  simp only [List.append_assoc, List.nil_append]
section LTR
variable {n T1 o : Nat} {I : gI} {T R : List Nat} {W : gP} {nt ns ng nc nm t1 t2 t3 : Nat}
theorem tKind_hd (W : gP) (b : Nat) {R : List Nat} (h : Nx R) : Hd (tKind W b ++ R) := by
  unfold tKind
  by_cases q : W (b + 8) = 1
  · rw [if_pos q]; exact Hd.c32 _
  rw [if_neg q]
  by_cases q : W (b + 8) = 2
  · rw [if_pos q]; exact Hd.c32 _
  · rw [if_neg q]; exact h.hd
theorem ln_train (hn : 2000 ≤ n) (E : EV T1 o) {b : Nat} (hb : b = 10 + 16 * nt) (C : CUR T I o ([116, 114, 97, 105, 110] ++ (pas W b 8 0 ++ (tKind W b ++ R)))) (hR : Nx R) (h : PI T1 o W I nt ns ng nc nm t1 t2 t3) (H : TG W nt) (hw1 : (W 1).toInt ≤ 16) (hw2 : (W 2).toInt ≤ 16) (hnt : nt ≤ 3) (hs : ns ≤ 3) : OKp (F_X3_readTrain n T1 o I) (fun I' => CUR T I' o R ∧ PI T1 o W I' (nt + 1) ns ng nc nm t1 t2 t3) := by
  obtain ⟨E1, E2, E3⟩ := E
  unfold TG at H
  rw [← hb] at H
  obtain ⟨c0, c1, c2, c3, c4, c5, c6, c7, c8, c9, c10, c11, c12, c13, c14, c15, c16⟩ := H
  have l1 : (1 : Int32).toInt = 1 := rfl
  have l2 : (2 : Int32).toInt = 2 := rfl
  have l50 : (50 : Int32).toInt = 50 := rfl
  have l99 : (99 : Int32).toInt = 99 := rfl
  have l359 : (359 : Int32).toInt = 359 := rfl
  have l999 : (999 : Int32).toInt = 999 := rfl
  have l9 : (9999 : Int32).toInt = 9999 := rfl
  rw [pas8] at C
  have D := cur_w (w := [116, 114, 97, 105, 110]) C (Or.inl rfl) (by decide) (Hd.pa _ _)
  unfold F_X3_readTrain
  rw [h.2.1.1]
  refine r_sc hn (by omega) (show Int32.ofNat nt < (4 : Int32) from (i_olt (b := 4) (by omega) (by omega)).mpr (by omega)) D.2.1 fun r1 v1 C1 f1 => ?_
  have P1 := h.fr f1 E2 (by omega) hs (by omega)
  have e5 : r1.2 T1 5 = Int32.ofNat nt := P1.2.1.1
  rw [if_neg (show ¬ r1.1 = 0 by rw [v1]; decide)]
  obtain ⟨x, hx0⟩ : ∃ x, x = T1 + 1 + 5 + 3 * Int32.toNatClampNeg (r1.2 T1 5) := ⟨_, rfl⟩
  rw [← hx0]
  obtain ⟨k', hk0⟩ : ∃ k', k' = Int32.toNatClampNeg (r1.2 T1 5) := ⟨_, rfl⟩
  rw [← hk0]
  rw [← hk0] at hx0
  rw [e5, i_tno (by omega)] at hk0
  have hx : x = T1 + 6 + 3 * nt := by omega
  have st : ∀ (J I2 : gI) (X : List Nat) (a c : Nat) (v : Int32), FR J I2 o → CUR T I2 o X → PI T1 o W J nt ns ng nc nm t1 t2 t3 → (a = x ∨ ((a = 12 ∨ a = 13) ∧ c = nt) ∨ (14 ≤ a ∧ a ≤ 17)) → ∃ J', J' = sI I2 a c v ∧ CUR T J' o X ∧ PI T1 o W J' nt ns ng nc nm t1 t2 t3 ∧ J' a c = v ∧ (∀ a' i', a' ≠ o → ¬ (a' = a ∧ i' = c) → J' a' i' = J a' i') := fun J I2 X a c v f CC PP q =>
    ⟨_, rfl, CC.st (by omega) (by omega), (PP.fr f E2 (by omega) hs (by omega)).new E2 (by omega) (by omega) hs hnt (by rw [← hx]; exact q), sI_self _ _ _ _, fun a' i' h1 h2 => by rw [sI_get, if_neg h2]; exact f a' i' (Or.inl h1)⟩
  refine g_gv e5 (by omega) (by decide) ?_
  refine r_col hn (by omega) C1 c0.1 P1.1.1 (Hd.pa _ _) (by rw [ii_0]; exact c0.1) c0.2 hw1 fun r2 v2 C2 f2 => ?_
  refine g_gv e5 (by omega) (by decide) ?_
  obtain ⟨J2, hJ2, CJ2, PJ2, w2, u2⟩ := st r1.2 r2.2 _ (10 + 4) k' r2.1 f2 C2 P1 (Or.inr (Or.inr (by omega)))
  rw [← hJ2]
  refine r_row hn (by omega) CJ2 c1.1 PJ2.1.2.1 (Hd.pa _ _) (by rw [ii_0]; exact c1.1) c1.2 hw2 fun r3 v3 C3 f3 => ?_
  refine g_gv e5 (by omega) (by decide) ?_
  obtain ⟨J3, hJ3, CJ3, PJ3, w3, u3⟩ := st J2 r3.2 _ (10 + 5) k' r3.1 f3 C3 PJ2 (Or.inr (Or.inr (by omega)))
  rw [← hJ3]
  refine r_num hn (by omega) CJ3 (by omega) (by omega) (Hd.pa _ _) (by rw [l1]; omega) (by rw [l999]; omega) fun r4 v4 C4 f4 => ?_
  refine g_gv e5 (by omega) (by decide) ?_
  obtain ⟨J4, hJ4, CJ4, PJ4, w4, u4⟩ := st J3 r4.2 _ (10 + 2) k' r4.1 f4 C4 PJ3 (Or.inr (Or.inl ⟨by omega, hk0⟩))
  rw [← hJ4]
  refine r_num hn (by omega) CJ4 (by omega) (by omega) (Hd.pa _ _) (by rw [l50]; omega) (by rw [l9]; omega) fun r5 v5 C5 f5 => ?_
  refine r_num hn (by omega) C5 (by omega) (by omega) (Hd.pa _ _) (by rw [l2]; omega) (by rw [l99]; omega) fun r6 v6 C6 f6 => ?_
  refine r_num hn (by omega) C6 (by omega) (by omega) (Hd.pa _ _) (by rw [ii_0]; omega) (by rw [l359]; omega) fun r7 v7 C7 f7 => ?_
  refine g_gv e5 (by omega) (by decide) ?_
  obtain ⟨J7, hJ7, CJ7, PJ7, w7, u7⟩ := st J4 r7.2 _ (10 + 3) k' r7.1 ((f5.trans f6).trans f7) C7 PJ4 (Or.inr (Or.inl ⟨by omega, hk0⟩))
  rw [← hJ7]
  refine r_num hn (by omega) CJ7 (by omega) (by omega) (Hd.pa _ _) (by rw [ii_0]; omega) (by rw [l9]; omega) fun r8 v8 C8 f8 => ?_
  obtain ⟨J8, hJ8, CJ8, PJ8, w8, u8⟩ := st J7 r8.2 _ x 2 r8.1 f8 C8 PJ7 (Or.inl rfl)
  rw [← hJ8]
  refine r_num hn (by omega) CJ8 (by omega) (by omega) (tKind_hd W b hR) (by rw [w8, v8]; omega) (by rw [l9]; omega) fun r9 v9 C9 f9 => ?_
  obtain ⟨J9, hJ9, CJ9, PJ9, w9, u9⟩ := st J8 r9.2 _ x 3 r9.1 f9 C9 PJ8 (Or.inl rfl)
  rw [← hJ9]
  obtain ⟨J10, hJ10, CJ10, PJ10, w10, u10⟩ := st J9 J9 _ x 4 0 FR.rfl' CJ9 PJ9 (Or.inl rfl)
  rw [← hJ10]
  obtain ⟨J11, hJ11, CJ11, PJ11, w11, u11⟩ := st J10 J10 _ x 5 0 FR.rfl' CJ10 PJ10 (Or.inl rfl)
  rw [← hJ11]
  obtain ⟨J12, hJ12, CJ12, PJ12, w12, u12⟩ := st J11 J11 _ x 6 0 FR.rfl' CJ11 PJ11 (Or.inl rfl)
  rw [← hJ12]
  have m2 : J12 x 2 = W (b + 6) := by rw [u12 x 2 (by omega) (by omega), u11 x 2 (by omega) (by omega), u10 x 2 (by omega) (by omega), u9 x 2 (by omega) (by omega), w8, v8]
  have m3 : J12 x 3 = W (b + 7) := by rw [u12 x 3 (by omega) (by omega), u11 x 3 (by omega) (by omega), u10 x 3 (by omega) (by omega), w9, v9]
  have m4 : J12 x 4 = 0 := by rw [u12 x 4 (by omega) (by omega), u11 x 4 (by omega) (by omega), w10]
  have ma : J12 12 nt = W (b + 2) := by rw [u12 12 nt (by omega) (by omega), u11 12 nt (by omega) (by omega), u10 12 nt (by omega) (by omega), u9 12 nt (by omega) (by omega), u8 12 nt (by omega) (by omega), u7 12 nt (by omega) (by omega), ← hk0, w4, v4]
  have mp : J12 13 nt = W (b + 5) := by rw [u12 13 nt (by omega) (by omega), u11 13 nt (by omega) (by omega), u10 13 nt (by omega) (by omega), u9 13 nt (by omega) (by omega), u8 13 nt (by omega) (by omega), ← hk0, w7, v7]
  have fin : ∀ (X : gI), CUR T X o R → PI T1 o W X nt ns ng nc nm t1 t2 t3 → X x 2 = W (b + 6) → X x 3 = W (b + 7) → X 12 nt = W (b + 2) → X 13 nt = W (b + 5) → ((X x 4 = 0 ∧ X x 6 = 0) ∨ (1 ≤ (X x 4).toInt ∧ (X x 4).toInt ≤ 99 ∧ 1 ≤ (X x 5).toInt ∧ (X x 5).toInt ≤ 99) ∨ (X x 4 = 0 ∧ 1 ≤ (X x 6).toInt ∧ (X x 6).toInt ≤ 99)) → OKp (trF T1 o x k' (r1.2 T1 5) r5.1 r6.1 X) (fun I' => CUR T I' o R ∧ PI T1 o W I' (nt + 1) ns ng nc nm t1 t2 t3) := fun X CX PX x2 x3 xa xp x456 => by
    unfold trF
    rw [if_pos CX.e0]
    refine g_gv e5 (by omega) (by decide) (g_gv e5 (by omega) (by decide) (g_gv e5 (by omega) (by decide) ?_))
    obtain ⟨Y1, hY1, CY1, PY1, y1, z1⟩ := st X X _ x 0 r5.1 FR.rfl' CX PX (Or.inl rfl)
    rw [← hY1]
    obtain ⟨Y2, hY2, CY2, PY2, y2, z2⟩ := st Y1 Y1 _ x 1 r6.1 FR.rfl' CY1 PY1 (Or.inl rfl)
    rw [← hY2]
    obtain ⟨Y3, hY3, CY3, PY3, y3, z3⟩ := st Y2 Y2 _ x 7 0 FR.rfl' CY2 PY2 (Or.inl rfl)
    rw [← hY3]
    obtain ⟨Y4, hY4, CY4, PY4, y4, z4⟩ := st Y3 Y3 _ x 8 0 FR.rfl' CY3 PY3 (Or.inl rfl)
    rw [← hY4]
    obtain ⟨Y5, hY5, CY5, PY5, y5, z5⟩ := st Y4 Y4 _ (10 + 6) k' 0 FR.rfl' CY4 PY4 (Or.inr (Or.inr (by omega)))
    rw [← hY5]
    obtain ⟨Y6, hY6, CY6, PY6, y6, z6⟩ := st Y5 Y5 _ (10 + 7) k' 0 FR.rfl' CY5 PY5 (Or.inr (Or.inr (by omega)))
    rw [← hY6]
    obtain ⟨Y7, hY7⟩ : ∃ Y7, Y7 = sI Y6 (10 + 1) k' 1 := ⟨_, rfl⟩
    have CY7 : CUR T Y7 o R := by rw [hY7]; exact CY6.st (by omega) (by omega)
    have PY7 : PI T1 o W Y7 nt ns ng nc nm t1 t2 t3 := by rw [hY7]; exact PY6.on E2 (by omega) (by omega) (Or.inr rfl)
    have z7 : ∀ a i, a ≠ 11 → Y7 a i = Y6 a i := fun a i q => by rw [hY7]; exact sI_o q
    rw [← hY7, PY7.2.1.1, ixp_1]
    have gx : ∀ i, i ≠ 0 → i ≠ 1 → i ≠ 7 → i ≠ 8 → Y7 x i = X x i := fun i q0 q1 q7 q8 => by
      rw [z7 x i (by omega), z6 x i (by omega) (by omega), z5 x i (by omega) (by omega), z4 x i (by omega) (by omega), z3 x i (by omega) (by omega), z2 x i (by omega) (by omega), z1 x i (by omega) (by omega)]
    have g0 : Y7 x 0 = W (b + 3) := by
      rw [z7 x 0 (by omega), z6 x 0 (by omega) (by omega), z5 x 0 (by omega) (by omega), z4 x 0 (by omega) (by omega), z3 x 0 (by omega) (by omega), z2 x 0 (by omega) (by omega), y1, v5]
    have g1 : Y7 x 1 = W (b + 4) := by
      rw [z7 x 1 (by omega), z6 x 1 (by omega) (by omega), z5 x 1 (by omega) (by omega), z4 x 1 (by omega) (by omega), z3 x 1 (by omega) (by omega), y2, v6]
    have g8 : Y7 x 8 = 0 := by
      rw [z7 x 8 (by omega), z6 x 8 (by omega) (by omega), z5 x 8 (by omega) (by omega), y4]
    have gs : ∀ a, (a = 12 ∨ a = 13) → Y7 a nt = X a nt := fun a q => by
      rw [z7 a nt (by omega), z6 a nt (by omega) (by omega), z5 a nt (by omega) (by omega), z4 a nt (by omega) (by omega), z3 a nt (by omega) (by omega), z2 a nt (by omega) (by omega), z1 a nt (by omega) (by omega)]
    refine ⟨_, rfl, CY7.st (by omega) (by omega), PY7.cnt E2 (by omega) (by omega) hs hnt ?_ ?_ ?_⟩
    · rw [← hx]
      unfold TI
      rw [g0, g1, g8, gx 2 (by decide) (by decide) (by decide) (by decide), gx 3 (by decide) (by decide) (by decide) (by decide), gx 4 (by decide) (by decide) (by decide) (by decide), gx 5 (by decide) (by decide) (by decide) (by decide), gx 6 (by decide) (by decide) (by decide) (by decide), x2, x3]
      exact ⟨⟨c3.1, by omega⟩, ⟨c4.1, by omega⟩, ⟨c6.1, by omega⟩, ⟨c7.1, by omega⟩, x456, by rw [ii_0]; omega, by rw [ii_0]; omega⟩
    · rw [gs 12 (Or.inl rfl), xa]; omega
    · rw [gs 13 (Or.inr rfl), xp]; omega
  unfold tKind at CJ12
  by_cases q1 : W (b + 8) = 1
  · rw [if_pos q1, List.append_assoc, List.append_assoc] at CJ12
    obtain ⟨d9, d9'⟩ := c9 (by rw [q1]; decide)
    obtain ⟨d10, d10'⟩ := c10 q1
    refine r_tw (w := [98, 117, 114, 115, 116]) hn (by omega) CJ12 (Or.inr rfl) (by decide) (Hd.pa _ _) (by decide +kernel) fun ra va Ca fa => ?_
    rw [if_neg (show ¬ ra.1 = 0 by rw [va]; decide)]
    refine r_num hn (by omega) Ca (by omega) (by omega) (Hd.pa _ _) (by rw [l1]; omega) (by rw [l99]; omega) fun rb vb Cb fb => ?_
    obtain ⟨Ja, hJa, CJa, PJa, wa, ua⟩ := st J12 rb.2 _ x 4 rb.1 (fa.trans fb) Cb PJ12 (Or.inl rfl)
    rw [← hJa]
    refine r_num hn (by omega) CJa (by omega) (by omega) hR.hd (by rw [l1]; omega) (by rw [l99]; omega) fun rc vc Cc fc => ?_
    obtain ⟨Jb, hJb, CJb, PJb, wb, ub⟩ := st Ja rc.2 _ x 5 rc.1 fc Cc PJa (Or.inl rfl)
    rw [← hJb]
    have hh : ∀ a i, a ≠ o → ¬ (a = x ∧ (i = 4 ∨ i = 5)) → Jb a i = J12 a i := fun a i z z' => by rw [ub a i z (by omega), ua a i z (by omega)]
    refine fin Jb CJb PJb (by rw [hh _ _ (by omega) (by omega), m2]) (by rw [hh _ _ (by omega) (by omega), m3]) (by rw [hh _ _ (by omega) (by omega), ma]) (by rw [hh _ _ (by omega) (by omega), mp]) (Or.inr (Or.inl ?_))
    rw [wb, vc, ub x 4 (by omega) (by omega), wa, vb]
    omega
  · rw [if_neg q1] at CJ12
    by_cases q2 : W (b + 8) = 2
    · rw [if_pos q2, List.append_assoc] at CJ12
      obtain ⟨d9, d9'⟩ := c9 (by rw [q2]; decide)
      have Dk := cur_w (w := [114, 105, 115, 105, 110, 103]) CJ12 (Or.inr rfl) (by decide) (Hd.pa _ _)
      have ek := isw_s (n := n) (T1 := T1) (w1 := 16) (l := [98, 117, 114, 115, 116]) hn Dk (by decide +kernel)
      rw [show decide ([114, 105, 115, 105, 110, 103] = [98, 117, 114, 115, 116]) = false from by decide] at ek
      refine r_tn ek fun ra va Ca => ?_
      rw [if_pos va, Ca]
      refine r_tw (w := [114, 105, 115, 105, 110, 103]) hn (by omega) CJ12 (Or.inr rfl) (by decide) (Hd.pa _ _) (by decide +kernel) fun rb vb Cb fb => ?_
      rw [if_neg (show ¬ rb.1 = 0 by rw [vb]; decide)]
      refine r_num hn (by omega) Cb (by omega) (by omega) hR.hd (by rw [l1]; omega) (by rw [l99]; omega) fun rc vc Cc fc => ?_
      obtain ⟨Jb, hJb, CJb, PJb, wb, ub⟩ := st J12 rc.2 _ x 6 rc.1 (fb.trans fc) Cc PJ12 (Or.inl rfl)
      rw [← hJb]
      refine fin Jb CJb PJb (by rw [ub _ _ (by omega) (by omega), m2]) (by rw [ub _ _ (by omega) (by omega), m3]) (by rw [ub _ _ (by omega) (by omega), ma]) (by rw [ub _ _ (by omega) (by omega), mp]) (Or.inr (Or.inr ?_))
      rw [wb, vc, ub x 4 (by omega) (by omega), m4]
      exact ⟨rfl, by omega, by omega⟩
    · rw [if_neg q2, List.nil_append] at CJ12
      have nw := cur_x CJ12 hR
      refine r_tn (isw_f n 16 nw) fun ra va Ca => ?_
      rw [if_pos va, Ca]
      refine r_tn (isw_f n 17 nw) fun rb vb Cb => ?_
      rw [if_pos vb, Cb]
      exact fin J12 CJ12 PJ12 m2 m3 ma mp (Or.inl ⟨m4, w12⟩)
end LTR
