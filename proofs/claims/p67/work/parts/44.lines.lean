/-! LINES: slit, drift, off, shape, mirror -/
def EV (T1 o : Nat) : Prop := 95 ≤ T1 ∧ T1 + 20 < o ∧ 150 ≤ o
section LNS
variable {n T1 o : Nat} {I : gI} {T R : List Nat} {W : gP} {nt ns ng nc nm t1 t2 t3 : Nat}
theorem PI.c5 (h : PI T1 o W I nt ns ng nc nm t1 t2 t3) : I T1 5 = Int32.ofNat nt := h.2.1.1
theorem ln_off (hn : 2000 ≤ n) (E : EV T1 o) {k : Nat} (C : CUR T I o ([111, 102, 102] ++ (pa (Int32.ofNat k) ++ R))) (hR : Hd R) (h : PI T1 o W I nt ns ng nc nm t1 k t3) (hk : k < nt) (hnt : nt ≤ 3) (hs : ns ≤ 3) : OKp (F_X3_readOff n T1 o I) (fun I' => CUR T I' o R ∧ PI T1 o W I' nt ns ng nc nm t1 (k + 1) t3) := by
  obtain ⟨E1, E2, E3⟩ := E
  have D := cur_w (w := [111, 102, 102]) C (Or.inl rfl) (by decide) (Hd.pa _ _)
  unfold F_X3_readOff
  refine k_nt hn (by omega) D.2.1 fun I1 C1 f1 => ?_
  have P1 := h.fr f1 E2 (by omega) hs (by omega)
  have q := P1.2.2.2.2.2.2.2.2.2.2.1
  refine k_src hn (by omega) C1 hR P1.c5 hk (by omega) (told_bt (by omega) q) fun I2 C2 f2 => ?_
  have P2 := P1.fr f2 E2 (by omega) hs (by omega)
  have q2 := P2.2.2.2.2.2.2.2.2.2.2.1
  dsimp only
  rw [if_pos C2.e0, gv_o (by omega), i_tno (by omega)]
  exact ⟨_, rfl, (C2.sto (by omega) (by decide)).st (by omega) (by decide), (P2.to2 E2 (by omega) (by omega) hs (told_or (by omega) q2)).on E2 (by omega) (by omega) (Or.inl rfl)⟩
theorem ln_drift (hn : 2000 ≤ n) (E : EV T1 o) {k : Nat} {v v' : Int32} (C : CUR T I o ([100, 114, 105, 102, 116] ++ (pa (Int32.ofNat k) ++ (pa v ++ (pa v' ++ R))))) (hR : Hd R) (h : PI T1 o W I nt ns ng nc nm k t2 t3) (hk : k < nt) (hnt : nt ≤ 3) (hs : ns ≤ 3) (hv : -99 ≤ v.toInt ∧ v.toInt ≤ 99) (hv' : -99 ≤ v'.toInt ∧ v'.toInt ≤ 99) : OKp (F_X3_readDrift n T1 o I) (fun I' => CUR T I' o R ∧ PI T1 o W I' nt ns ng nc nm (k + 1) t2 t3) := by
  obtain ⟨E1, E2, E3⟩ := E
  have D := cur_w (w := [100, 114, 105, 102, 116]) C (Or.inl rfl) (by decide) (Hd.pa _ _)
  unfold F_X3_readDrift
  refine k_nt hn (by omega) D.2.1 fun I1 C1 f1 => ?_
  have P1 := h.fr f1 E2 (by omega) hs (by omega)
  have q := P1.2.2.2.2.2.2.2.2.2.1
  refine k_src hn (by omega) C1 (Hd.pa _ _) P1.c5 hk (by omega) (told_bt (by omega) q) fun I2 C2 f2 => ?_
  have P2 := P1.fr f2 E2 (by omega) hs (by omega)
  refine k_sgn hn (by omega) C2 hv.1 hv.2 (Hd.pa _ _) fun I3 C3 f3 => ?_
  have P3 := P2.fr f3 E2 (by omega) hs (by omega)
  refine k_sgn hn (by omega) C3 hv'.1 hv'.2 hR fun I4 C4 f4 => ?_
  have P4 := P3.fr f4 E2 (by omega) hs (by omega)
  have q2 := P4.2.2.2.2.2.2.2.2.2.1
  dsimp only
  rw [if_pos C4.e0, gv_o (by omega), gv_o (by omega), i_tno (by omega)]
  have P5 := P4.to1 (v := (I4 o 11) ||| ((1 : Int32) <<< (Int32.ofNat k &&& 31))) (t := k + 1) E2 (by omega) (by omega) hs (told_or (by omega) q2)
  exact ⟨_, rfl, ((C4.sto (by omega) (by decide)).st (by omega) (by decide)).st (by omega) (by decide), (P5.cg (I' := sI (sI (sI I4 o 11 ((I4 o 11) ||| ((1 : Int32) <<< (Int32.ofNat k &&& 31)))) 16 k v) 17 k v') (fun a i _ _ => by rw [sI_o (by omega), sI_o (by omega)]) (fun a i _ _ => by rw [sI_o (by omega), sI_o (by omega)]) (fun i _ _ => by rw [sI_o (by omega), sI_o (by omega)]) hs (by omega))⟩
theorem ln_shape (hn : 2000 ≤ n) (E : EV T1 o) {k : Nat} {f : Int32} (hX : CUR T I o ([115, 104, 97, 112, 101] ++ (pa (Int32.ofNat k) ++ ((if f = 1 then [32, 115, 113, 117, 97, 114, 101] else [32, 115, 97, 119]) ++ R)))) (hR : Hd R) (h : PI T1 o W I nt ns ng nc nm t1 t2 k) (hk : k < nt) (hnt : nt ≤ 3) (hs : ns ≤ 3) : OKp (F_X3_readShape n T1 o I) (fun I' => CUR T I' o R ∧ PI T1 o W I' nt ns ng nc nm t1 t2 (k + 1)) := by
  obtain ⟨E1, E2, E3⟩ := E
  have D := cur_w (w := [115, 104, 97, 112, 101]) hX (Or.inl rfl) (by decide) (Hd.pa _ _)
  have hd2 : Hd ((if f = 1 then [32, 115, 113, 117, 97, 114, 101] else [32, 115, 97, 119]) ++ R) := by
    by_cases z : f = 1
    · rw [if_pos z]; exact Hd.c32 _
    · rw [if_neg z]; exact Hd.c32 _
  unfold F_X3_readShape
  refine k_nt hn (by omega) D.2.1 fun I1 C1 f1 => ?_
  have P1 := h.fr f1 E2 (by omega) hs (by omega)
  have q := P1.2.2.2.2.2.2.2.2.2.2.2
  refine k_src hn (by omega) C1 hd2 P1.c5 hk (by omega) (told_bt (by omega) q) fun I2 C2 f2 => ?_
  have P2 := P1.fr f2 E2 (by omega) hs (by omega)
  dsimp only
  have fin : ∀ (I3 : gI) (s : Int32), CUR T I3 o R → PI T1 o W I3 nt ns ng nc nm t1 t2 k → OKp (if (I3 o 0) = 0 then gv (Int32.ofNat k) 4 (some (sI (sI I3 o 13 ((I3 o 13) ||| ((1 : Int32) <<< (Int32.ofNat k &&& 31)))) ((T1 + 1) + 5 + 3 * (Int32.toNatClampNeg (Int32.ofNat k))) 7 s)) else some I3) (fun I' => CUR T I' o R ∧ PI T1 o W I' nt ns ng nc nm t1 t2 (k + 1)) := fun I3 s C3 P3 => by
    have q2 := P3.2.2.2.2.2.2.2.2.2.2.2
    rw [if_pos C3.e0, gv_o (by omega), i_tno (by omega)]
    exact ⟨_, rfl, (C3.sto (by omega) (by decide)).st (by omega) (by omega), (P3.to3 E2 (by omega) (by omega) hs (told_or (by omega) q2)).shp E2 (by omega) (by omega) (by omega) hs⟩
  by_cases z : f = 1
  · rw [if_pos z] at C2
    refine k_tw (w := [115, 113, 117, 97, 114, 101]) hn (by omega) C2 (Or.inr rfl) (by decide) hR (by decide +kernel) fun I3 C3 f3 => ?_
    dsimp only
    rw [if_neg (show ¬ (1 : Int32) = 0 by decide)]
    exact fin I3 _ C3 (P2.fr f3 E2 (by omega) hs (by omega))
  · rw [if_neg z] at C2
    have D2 := cur_w (w := [115, 97, 119]) C2 (Or.inr rfl) (by decide) hR
    have e1 := isw_s (n := n) (T1 := T1) (w1 := 28) (l := [115, 113, 117, 97, 114, 101]) hn D2 (by decide +kernel)
    rw [show decide ([115, 97, 119] = [115, 113, 117, 97, 114, 101]) = false from by decide] at e1
    refine k_tn e1 ?_
    dsimp only
    rw [if_pos (show (0 : Int32) = 0 from rfl)]
    refine k_tw (w := [115, 97, 119]) hn (by omega) C2 (Or.inr rfl) (by decide) hR (by decide +kernel) fun I3 C3 f3 => ?_
    dsimp only
    rw [if_neg (show ¬ (1 : Int32) = 0 by decide)]
    exact fin I3 _ C3 (P2.fr f3 E2 (by omega) hs (by omega))
theorem ln_slit (hn : 2000 ≤ n) (E : EV T1 o) {y : Nat} (C : CUR T I o ([115, 108, 105, 116] ++ (pa (Int32.ofNat y) ++ (pa (Int32.ofNat y) ++ R)))) (hR : Hd R) (h : PI T1 o W I nt ns ng nc nm t1 t2 t3) (hw : W 4 ≠ -1) (hy : (y : Int) < (W 2).toInt) (h5 : (W 2).toInt ≤ 5) (hnt : nt ≤ 4) (hs : ns ≤ 3) : OKp (F_X3_readSlit n T1 o I) (fun I' => CUR T I' o R ∧ PI T1 o W I' nt ns ng nc nm t1 t2 t3) := by
  obtain ⟨E1, E2, E3⟩ := E
  have c1 : (1 : Int32).toInt = 1 := rfl
  have ey := i_of (k := y) (by omega)
  have D := cur_w (w := [115, 108, 105, 116]) C (Or.inl rfl) (by decide) (Hd.pa _ _)
  unfold F_X3_readSlit
  refine k_nt hn (by omega) D.2.1 fun I1 C1 f1 => ?_
  have P1 := h.fr f1 E2 (by omega) hs (by omega)
  have e2 : (W 2 - 1).toInt = (W 2).toInt - 1 := by rw [i_sub (by rw [c1]; omega) (by rw [c1]; omega), c1]
  rw [P1.1.2.2.2, if_neg hw, P1.1.2.1]
  refine k_num hn (by omega) C1 (by omega) (by omega) (Hd.pa _ _) (by rw [ii_0]; omega) (by omega) fun I2 C2 f2 => ?_
  have P2 := P1.fr f2 E2 (by omega) hs (by omega)
  dsimp only
  refine k_num hn (by omega) C2 (by omega) (by omega) hR (by omega) (by omega) fun I3 C3 f3 => ?_
  have P3 := P2.fr f3 E2 (by omega) hs (by omega)
  dsimp only
  rw [if_pos C3.e0]
  obtain ⟨j, rfl⟩ : ∃ j, n = j + 2 := ⟨n - 2, by omega⟩
  rw [show j + 2 = (j + 1) + 1 from rfl, L_X3_readSlit_e0, if_neg (by rw [i_lt]; omega), L_X3_readSlit_e0, if_pos (by rw [ixp_1, i_olt (by omega) (by omega)]; omega)]
  exact ⟨_, rfl, C3.st (by omega) (by decide), P3.opn E2 (by omega) (by omega) (open_or (by omega) P3.2.2.2.2.2.2.1.2)⟩
theorem k_side {γ : Type} {P : γ → Prop} {g : Int32 × gI → Option γ} (hn : 2000 ≤ n) (ho : 150 ≤ o) {k : Nat} (hk : k < 4) (C : CUR T I o (tSide k ++ R)) (hR : Hd R) (hz : I (T1 + 5) k = 0) (kk : ∀ I', CUR T I' o R → FR I I' o → OKp (g (Int32.ofNat k, I')) P) : OKp (bd (F_X3_readSide n T1 o I) g) P := by
  have fin : ∀ (D : RD T I o R), ∃ I', L_X3_readSide n T1 o n 0 (Int32.ofNat k) I = some (Int32.ofNat k, I') ∧ CUR T I' o R ∧ FR I I' o := fun D => by
    obtain ⟨I', e, c, f⟩ := nt_ok (n := n) (T1 := T1) hn ho D
    obtain ⟨j, hj⟩ : ∃ j, n = j + 1 := ⟨n - 1, by omega⟩
    refine ⟨I', ?_, c, f⟩
    conv => lhs; arg 4; rw [hj]
    rw [L_X3_readSide_e0, if_neg (fun z => by have := congrArg Int32.toInt z; rw [i_of (by omega), show (-1 : Int32).toInt = -1 from rfl] at this; omega), gv_o (by omega), i_tno (by omega), hz, if_pos (by decide), e, bd_s]
  have hk4 : k = 0 ∨ k = 1 ∨ k = 2 ∨ k = 3 := by omega
  rcases hk4 with hk | hk | hk | hk <;> subst hk
  · have D := cur_w (w := [108, 101, 102, 116]) C (Or.inr rfl) (by decide) hR
    obtain ⟨I', e, c, f⟩ := fin D.2.1
    refine o_bd ?_ (kk I' c f)
    have e1 := isw_s (n := n) (T1 := T1) (w1 := 22) (l := [108, 101, 102, 116]) hn D (by decide +kernel)
    unfold F_X3_readSide
    rw [e1, bd_s, if_neg (by decide)]
    exact e
  · have D := cur_w (w := [114, 105, 103, 104, 116]) C (Or.inr rfl) (by decide) hR
    obtain ⟨I', e, c, f⟩ := fin D.2.1
    refine o_bd ?_ (kk I' c f)
    have e1 := isw_s (n := n) (T1 := T1) (w1 := 22) (l := [108, 101, 102, 116]) hn D (by decide +kernel)
    have e2 := isw_s (n := n) (T1 := T1) (w1 := 23) (l := [114, 105, 103, 104, 116]) hn D (by decide +kernel)
    unfold F_X3_readSide
    rw [e1, bd_s, if_pos (by decide), e2, bd_s, if_neg (by decide)]
    exact e
  · have D := cur_w (w := [116, 111, 112]) C (Or.inr rfl) (by decide) hR
    obtain ⟨I', e, c, f⟩ := fin D.2.1
    refine o_bd ?_ (kk I' c f)
    have e1 := isw_s (n := n) (T1 := T1) (w1 := 22) (l := [108, 101, 102, 116]) hn D (by decide +kernel)
    have e2 := isw_s (n := n) (T1 := T1) (w1 := 23) (l := [114, 105, 103, 104, 116]) hn D (by decide +kernel)
    have e3 := isw_s (n := n) (T1 := T1) (w1 := 24) (l := [116, 111, 112]) hn D (by decide +kernel)
    unfold F_X3_readSide
    rw [e1, bd_s, if_pos (by decide), e2, bd_s, if_pos (by decide), e3, bd_s, if_neg (by decide)]
    exact e
  · have D := cur_w (w := [98, 111, 116, 116, 111, 109]) C (Or.inr rfl) (by decide) hR
    obtain ⟨I', e, c, f⟩ := fin D.2.1
    refine o_bd ?_ (kk I' c f)
    have e1 := isw_s (n := n) (T1 := T1) (w1 := 22) (l := [108, 101, 102, 116]) hn D (by decide +kernel)
    have e2 := isw_s (n := n) (T1 := T1) (w1 := 23) (l := [114, 105, 103, 104, 116]) hn D (by decide +kernel)
    have e3 := isw_s (n := n) (T1 := T1) (w1 := 24) (l := [116, 111, 112]) hn D (by decide +kernel)
    have e4 := isw_s (n := n) (T1 := T1) (w1 := 25) (l := [98, 111, 116, 116, 111, 109]) hn D (by decide +kernel)
    unfold F_X3_readSide
    rw [e1, bd_s, if_pos (by decide), e2, bd_s, if_pos (by decide), e3, bd_s, if_pos (by decide), e4, bd_s, if_neg (by decide)]
    exact e
theorem tSide_hd (k : Nat) (R : List Nat) : Hd (tSide k ++ R) := by
  unfold tSide
  by_cases q : k = 0
  · rw [if_pos q]; exact Hd.c32 _
  rw [if_neg q]
  by_cases q : k = 1
  · rw [if_pos q]; exact Hd.c32 _
  rw [if_neg q]
  by_cases q : k = 2
  · rw [if_pos q]; exact Hd.c32 _
  · rw [if_neg q]; exact Hd.c32 _
theorem ln_mirror (hn : 2000 ≤ n) (E : EV T1 o) {k : Nat} {v : Int32} (C : CUR T I o ([109, 105, 114, 114, 111, 114] ++ (tSide k ++ (pa v ++ R)))) (hR : Hd R) (hk : k < 4) (h : PI T1 o W I nt ns ng nc nm t1 t2 t3) (hm : nm ≤ k) (hv : 1 ≤ v.toInt ∧ v.toInt ≤ 100) (hnt : nt ≤ 4) (hs : ns ≤ 3) : OKp (F_X3_readMirror n T1 o I) (fun I' => CUR T I' o R ∧ PI T1 o W I' nt ns ng nc (k + 1) t1 t2 t3) := by
  obtain ⟨E1, E2, E3⟩ := E
  have c1 : (1 : Int32).toInt = 1 := rfl
  have c100 : (100 : Int32).toInt = 100 := rfl
  have D := cur_w (w := [109, 105, 114, 114, 111, 114]) C (Or.inl rfl) (by decide) (tSide_hd _ _)
  unfold F_X3_readMirror
  refine k_nt hn (by omega) D.2.1 fun I1 C1 f1 => ?_
  have P1 := h.fr f1 E2 (by omega) hs hnt
  refine k_side hn (by omega) hk C1 (Hd.pa _ _) ((P1.2.2.2.1 k hk).2.2 hm) fun I2 C2 f2 => ?_
  have P2 := P1.fr f2 E2 (by omega) hs hnt
  dsimp only
  refine k_num hn (by omega) C2 (by omega) (by omega) hR (by omega) (by omega) fun I3 C3 f3 => ?_
  have P3 := P2.fr f3 E2 (by omega) hs hnt
  dsimp only
  rw [if_pos C3.e0, gv_o (by omega), i_tno (by omega)]
  exact ⟨_, rfl, C3.st (by omega) (by omega), P3.mir E2 (by omega) (by omega) ⟨by omega, hv.2⟩ (by omega) (by omega)⟩
end LNS
