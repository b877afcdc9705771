/-! LINES: gauge, shoal, cut -/
section PIT
variable {T1 o : Nat} {W : gP} {I I' : gI} {nt ns ng nc nm t1 t2 t3 : Nat}
/-- the cells of a gauge or a shoal that is not yet counted; a train's cuts -/
theorem PI.nwg (h : PI T1 o W I nt ns ng nc nm t1 t2 t3) {a i : Nat} {v : Int32} (ht : T1 + 20 < o) (hT : 17 < T1) (hs : ns ≤ 3) (hnt : nt ≤ 4) (q : ((a = T1 + 3 ∨ a = T1 + 4) ∧ i = ng) ∨ (a = T1 + 18 + ns ∧ ns ≤ 2) ∨ (∃ k, k < 4 ∧ (a = T1 + 7 + 3 * k ∨ a = T1 + 8 + 3 * k) ∧ a < T1 + 18)) : PI T1 o W (sI I a i v) nt ns ng nc nm t1 t2 t3 := by
  have hp := h.2.2.2.2.2.2
  have qa : a ≠ T1 ∧ 18 ≤ a ∧ a < o ∧ a ≠ T1 + 5 ∧ (∀ k, k < 4 → a ≠ T1 + 6 + 3 * k) ∧ (∀ j, j < ns → a ≠ T1 + 18 + j) ∧ (∀ j, j < ng → ¬ (T1 + 3 = a ∧ j = i) ∧ ¬ (T1 + 4 = a ∧ j = i)) := by
    rcases q with ⟨q, q2⟩ | ⟨q, q2⟩ | ⟨k, q, q2, q3⟩
    · exact ⟨by omega, by omega, by omega, by omega, fun k hk => by omega, fun j hj => by omega, fun j hj => ⟨by omega, by omega⟩⟩
    · exact ⟨by omega, by omega, by omega, by omega, fun k hk => by omega, fun j hj => by omega, fun j hj => ⟨by omega, by omega⟩⟩
    · exact ⟨by omega, by omega, by omega, by omega, fun k hk => by omega, fun j hj => by omega, fun j hj => ⟨by omega, by omega⟩⟩
  obtain ⟨a1, a2, a3, a4, a5, a6, a7⟩ := qa
  refine h.gen (fun i _ => sI_o (by omega)) (sI_o (by omega)) (fun k hk i _ => sI_o (fun z => a5 k (by omega) z.symm)) (fun i _ => sI_o (by omega)) (fun i hi c => sI_o (fun z => a6 i hi z.symm)) (fun j hj => ⟨by rw [sI_get, if_neg (a7 j hj).1], by rw [sI_get, if_neg (a7 j hj).2]⟩) (sI_o (by omega)) ?_ (fun k hk => ?_) (fun k hk => ⟨sI_o (by omega), sI_o (by omega)⟩) ?_
  · rw [sI_o (by omega)]; exact hp.1.2
  · rw [sI_o (by omega)]; exact hp.2.1 k hk
  · rw [sI_o (by omega), sI_o (by omega), sI_o (by omega)]; exact hp.2.2.2
theorem PI.cng (h : PI T1 o W I nt ns ng nc nm t1 t2 t3) (ht : T1 + 20 < o) (hT : 17 < T1) (h1 : 0 ≤ (I (T1 + 3) ng).toInt ∧ (I (T1 + 3) ng).toInt < (W 1).toInt) (h2 : 0 ≤ (I (T1 + 4) ng).toInt ∧ (I (T1 + 4) ng).toInt < (W 2).toInt) : PI T1 o W (sI I T1 9 (Int32.ofNat (ng + 1))) nt ns (ng + 1) nc nm t1 t2 t3 := by
  obtain ⟨p1, p2, p3, p4, p5, p6, p7, p8, p9, p10⟩ := h
  refine ⟨?_, ?_, fun k hk => (p3 k hk).cg fun i _ => sI_o (by omega), fun i hi => ?_, fun i hi c hc => ?_, fun i hi => ?_, ?_, fun k hk => ?_, fun k hk => ?_, ?_⟩
  · rw [sI_k (by decide), sI_k (by decide), sI_k (by decide), sI_k (by decide)]; exact p1
  · rw [sI_self, sI_k (by decide), sI_k (by decide), sI_o (by omega)]; exact ⟨p2.1, p2.2.1, rfl, p2.2.2.2⟩
  · rw [sI_o (by omega)]; exact p4 i hi
  · rw [sI_o (by omega)]; exact p5 i hi c hc
  · rw [sI_o (by omega), sI_o (by omega)]
    by_cases q : i = ng
    · rw [q]; exact ⟨h1, h2⟩
    · exact p6 i (by omega)
  · rw [sI_o (by omega), sI_o (by omega)]; exact p7
  · rw [sI_o (by omega)]; exact p8 k hk
  · rw [sI_o (by omega), sI_o (by omega)]; exact p9 k hk
  · rw [sI_o (by omega), sI_o (by omega), sI_o (by omega)]; exact p10
theorem PI.cns (h : PI T1 o W I nt ns ng nc nm t1 t2 t3) (ht : T1 + 20 < o) (hT : 17 < T1) (h1 : ∀ c, c < 5 → I (T1 + 18 + ns) c = W (72 + 5 * ns + c)) : PI T1 o W (sI I T1 7 (Int32.ofNat (ns + 1))) nt (ns + 1) ng nc nm t1 t2 t3 := by
  obtain ⟨p1, p2, p3, p4, p5, p6, p7, p8, p9, p10⟩ := h
  refine ⟨?_, ?_, fun k hk => (p3 k hk).cg fun i _ => sI_o (by omega), fun i hi => ?_, fun i hi c hc => ?_, fun i hi => ?_, ?_, fun k hk => ?_, fun k hk => ?_, ?_⟩
  · rw [sI_k (by decide), sI_k (by decide), sI_k (by decide), sI_k (by decide)]; exact p1
  · rw [sI_self, sI_k (by decide), sI_k (by decide), sI_o (by omega)]; exact ⟨p2.1, rfl, p2.2.2⟩
  · rw [sI_o (by omega)]; exact p4 i hi
  · rw [sI_o (by omega)]
    by_cases q : i = ns
    · rw [q]; exact h1 c hc
    · exact p5 i (by omega) c hc
  · rw [sI_o (by omega), sI_o (by omega)]; exact p6 i hi
  · rw [sI_o (by omega), sI_o (by omega)]; exact p7
  · rw [sI_o (by omega)]; exact p8 k hk
  · rw [sI_o (by omega), sI_o (by omega)]; exact p9 k hk
  · rw [sI_o (by omega), sI_o (by omega), sI_o (by omega)]; exact p10
theorem PI.cnc (h : PI T1 o W I nt ns ng nc nm t1 t2 t3) (ht : T1 + 20 < o) (hT : 17 < T1) (hnt : nt ≤ 4) (hs : ns ≤ 3) : PI T1 o W (sI I o 10 (Int32.ofNat (nc + 1))) nt ns ng (nc + 1) nm t1 t2 t3 := by
  obtain ⟨p1, p2, p3, p4, p5, p6, p7, p8, p9, p10⟩ := h
  refine ⟨?_, ?_, fun k hk => ((p3 k hk).cg fun i _ => sI_o (by omega)).up (by omega), fun i hi => ?_, fun i hi c hc => ?_, fun i hi => ?_, ?_, fun k hk => ?_, fun k hk => ?_, ?_⟩
  · rw [sI_o (by omega), sI_o (by omega), sI_o (by omega), sI_o (by omega)]; exact p1
  · rw [sI_self, sI_o (by omega), sI_o (by omega), sI_o (by omega)]; exact ⟨p2.1, p2.2.1, p2.2.2.1, rfl⟩
  · rw [sI_o (by omega)]; exact p4 i hi
  · rw [sI_o (by omega)]; exact p5 i hi c hc
  · rw [sI_o (by omega), sI_o (by omega)]; exact p6 i hi
  · rw [sI_o (by omega), sI_o (by omega)]; exact p7
  · rw [sI_o (by omega)]; exact p8 k hk
  · rw [sI_o (by omega), sI_o (by omega)]; exact p9 k hk
  · rw [sI_k (by decide), sI_k (by decide), sI_k (by decide)]; exact p10
/-- a train has one cut more -/
theorem PI.ct8 (h : PI T1 o W I nt ns ng nc nm t1 t2 t3) {k0 : Nat} {v : Int32} (ht : T1 + 20 < o) (hT : 17 < T1) (hk0 : k0 < 4) (hs : ns ≤ 3) (hnt : nt ≤ 4) (hv : 0 ≤ v.toInt ∧ v.toInt ≤ (nc + 1 : Nat)) : PI T1 o W (sI (sI I (T1 + 6 + 3 * k0) 8 v) o 10 (Int32.ofNat (nc + 1))) nt ns ng (nc + 1) nm t1 t2 t3 := by
  have h3 := h.2.2.1
  have h' := h.cnc ht hT hnt hs
  obtain ⟨p1, p2, p3, p4, p5, p6, p7, p8, p9, p10⟩ := h'
  have oo : ∀ a i, a ≠ T1 + 6 + 3 * k0 → sI (sI I (T1 + 6 + 3 * k0) 8 v) o 10 (Int32.ofNat (nc + 1)) a i = sI I o 10 (Int32.ofNat (nc + 1)) a i := fun a i q => by
    rw [sI_get (sI I (T1 + 6 + 3 * k0) 8 v), sI_get I o, sI_o q]
  refine ⟨?_, ?_, fun k hk => ?_, fun i hi => ?_, fun i hi c hc => ?_, fun i hi => ?_, ?_, fun k hk => ?_, fun k hk => ?_, ?_⟩
  · rw [oo _ _ (by omega), oo _ _ (by omega), oo _ _ (by omega), oo _ _ (by omega)]; exact p1
  · rw [oo _ _ (by omega), oo _ _ (by omega), oo _ _ (by omega), oo _ _ (by omega)]; exact p2
  · have hk' := p3 k hk
    by_cases q : k = k0
    · have h8 : sI (sI I (T1 + 6 + 3 * k0) 8 v) o 10 (Int32.ofNat (nc + 1)) (T1 + 6 + 3 * k0) 8 = v := by rw [sI_o (by omega), sI_self]
      have hn8 : ∀ i, i ≠ 8 → sI (sI I (T1 + 6 + 3 * k0) 8 v) o 10 (Int32.ofNat (nc + 1)) (T1 + 6 + 3 * k0) i = I (T1 + 6 + 3 * k0) i := fun i hi => by rw [sI_o (by omega), sI_k hi]
      have h0 := h3 k hk
      rw [q] at h0 ⊢
      unfold TI at *
      rw [hn8 0 (by decide), hn8 1 (by decide), hn8 2 (by decide), hn8 3 (by decide), hn8 4 (by decide), hn8 5 (by decide), hn8 6 (by decide), h8]
      exact ⟨h0.1, h0.2.1, h0.2.2.1, h0.2.2.2.1, h0.2.2.2.2.1, hv⟩
    · exact hk'.cg fun i _ => oo _ _ (by omega)
  · rw [oo _ _ (by omega)]; exact p4 i hi
  · rw [oo _ _ (by omega)]; exact p5 i hi c hc
  · rw [oo _ _ (by omega), oo _ _ (by omega)]; exact p6 i hi
  · rw [oo _ _ (by omega), oo _ _ (by omega)]; exact p7
  · rw [oo _ _ (by omega)]; exact p8 k hk
  · rw [oo _ _ (by omega), oo _ _ (by omega)]; exact p9 k hk
  · rw [oo _ _ (by omega), oo _ _ (by omega), oo _ _ (by omega)]; exact p10
end PIT
section STR
variable {n T1 o : Nat} {I : gI} {T R : List Nat} {γ : Type} {P : γ → Prop}
theorem g_gv {i : Int32} {k z : Nat} {x : Option γ} (e : i = Int32.ofNat k) (hk : k < z) (hz : z ≤ 2147483648) (h : OKp x P) : OKp (gv i z x) P := by
  rw [e, gv_o hk hz]; exact h
theorem r_num {g : Int32 × gI → Option γ} (hn : 2000 ≤ n) (ho : 150 ≤ o) {v lo hi : Int32} (C : CUR T I o (pa v ++ R)) (h0 : 0 ≤ v.toInt) (h9 : v.toInt ≤ 9999) (hR : Hd R) (hl : lo.toInt ≤ v.toInt) (hh : v.toInt ≤ hi.toInt) (kk : ∀ r : Int32 × gI, r.1 = v → CUR T r.2 o R → FR I r.2 o → OKp (g r) P) : OKp (bd (F_X3_readNumber n T1 o I lo hi) g) P :=
  k_num hn ho C h0 h9 hR hl hh fun I' c f => kk (v, I') rfl c f
theorem r_col {g : Int32 × gI → Option γ} (hn : 2000 ≤ n) (ho : 150 ≤ o) {v lo w : Int32} (C : CUR T I o (pa v ++ R)) (h0 : 0 ≤ v.toInt) (hw : I T1 1 = w) (hR : Hd R) (hl : lo.toInt ≤ v.toInt) (hh : v.toInt < w.toInt) (h9 : w.toInt ≤ 16) (kk : ∀ r : Int32 × gI, r.1 = v → CUR T r.2 o R → FR I r.2 o → OKp (g r) P) : OKp (bd (F_X3_readColumn n T1 o I lo) g) P :=
  k_col hn ho C h0 hw hR hl hh h9 fun I' c f => kk (v, I') rfl c f
theorem r_row {g : Int32 × gI → Option γ} (hn : 2000 ≤ n) (ho : 150 ≤ o) {v lo w : Int32} (C : CUR T I o (pa v ++ R)) (h0 : 0 ≤ v.toInt) (hw : I T1 2 = w) (hR : Hd R) (hl : lo.toInt ≤ v.toInt) (hh : v.toInt < w.toInt) (h9 : w.toInt ≤ 16) (kk : ∀ r : Int32 × gI, r.1 = v → CUR T r.2 o R → FR I r.2 o → OKp (g r) P) : OKp (bd (F_X3_readRow n T1 o I lo) g) P :=
  k_row hn ho C h0 hw hR hl hh h9 fun I' c f => kk (v, I') rfl c f
theorem r_sc {g : Int32 × gI → Option γ} (hn : 2000 ≤ n) (ho : 150 ≤ o) {a b : Int32} (hab : a < b) (h : RD T I o R) (kk : ∀ r : Int32 × gI, r.1 = 1 → CUR T r.2 o R → FR I r.2 o → OKp (g r) P) : OKp (bd (F_X3_startCounted n T1 o I a b) g) P :=
  k_sc hn ho hab h fun I' c f => kk (1, I') rfl c f
theorem r_tw {g : Int32 × gI → Option γ} (hn : 2000 ≤ n) (ho : 150 ≤ o) {bw w : List Nat} {w1 : Nat} (C : CUR T I o (bw ++ R)) (hb : bw = w ∨ bw = 32 :: w) (hw : isWd w = true) (hR : Hd R) (hk : wOK w1 w = true) (kk : ∀ r : Int32 × gI, r.1 = 1 → CUR T r.2 o R → FR I r.2 o → OKp (g r) P) : OKp (bd (F_X3_takeWord n T1 o w1 I) g) P :=
  k_tw hn ho C hb hw hR hk fun I' c f => kk (1, I') rfl c f
theorem r_tn {g : Int32 × gI → Option γ} {w1 : Nat} (h : F_X3_isWord n T1 o w1 I = some 0) (kk : ∀ r : Int32 × gI, r.1 = 0 → r.2 = I → OKp (g r) P) : OKp (bd (F_X3_takeWord n T1 o w1 I) g) P :=
  k_tn h (kk (0, I) rfl rfl)
end STR
section LNT
variable {n T1 o : Nat} {I : gI} {T R : List Nat} {W : gP} {nt ns ng nc nm t1 t2 t3 : Nat}
theorem ln_gauge (hn : 2000 ≤ n) (E : EV T1 o) {v v' : Int32} (C : CUR T I o ([103, 97, 117, 103, 101] ++ (pa v ++ (pa v' ++ R)))) (hR : Hd R) (h : PI T1 o W I nt ns ng nc nm t1 t2 t3) (hg : ng ≤ 3) (hv : 0 ≤ v.toInt ∧ v.toInt < (W 1).toInt) (hv' : 0 ≤ v'.toInt ∧ v'.toInt < (W 2).toInt) (hw1 : (W 1).toInt ≤ 16) (hw2 : (W 2).toInt ≤ 16) (hnt : nt ≤ 4) (hs : ns ≤ 3) : OKp (F_X3_readGauge n T1 o I) (fun I' => CUR T I' o R ∧ PI T1 o W I' nt ns (ng + 1) nc nm t1 t2 t3) := by
  obtain ⟨E1, E2, E3⟩ := E
  have D := cur_w (w := [103, 97, 117, 103, 101]) C (Or.inl rfl) (by decide) (Hd.pa _ _)
  unfold F_X3_readGauge
  rw [h.2.1.2.2.1]
  refine r_sc hn (by omega) (show Int32.ofNat ng < (4 : Int32) from (i_olt (b := 4) (by omega) (by omega)).mpr (by omega)) D.2.1 fun r1 v1 C1 f1 => ?_
  have P1 := h.fr f1 E2 (by omega) hs hnt
  rw [if_neg (show ¬ r1.1 = 0 by rw [v1]; decide)]
  refine r_col hn (by omega) C1 hv.1 P1.1.1 (Hd.pa _ _) (by rw [ii_0]; omega) hv.2 hw1 fun r2 v2 C2 f2 => ?_
  have P2 := P1.fr f2 E2 (by omega) hs hnt
  have hx : Int32.toNatClampNeg (r1.2 T1 9) = ng := by rw [P1.2.1.2.2.1, i_tno (by omega)]
  refine g_gv P1.2.1.2.2.1 (by omega) (by decide) ?_
  obtain ⟨J, hJ⟩ : ∃ J, J = sI r2.2 (T1 + 3) (Int32.toNatClampNeg (r1.2 T1 9)) r2.1 := ⟨_, rfl⟩
  rw [← hJ]
  rw [hx, v2] at hJ
  have CJ : CUR T J o (pa v' ++ R) := by rw [hJ]; exact C2.st (by omega) (by omega)
  have PJ : PI T1 o W J nt ns ng nc nm t1 t2 t3 := by rw [hJ]; exact P2.nwg E2 (by omega) hs hnt (Or.inl ⟨Or.inl rfl, rfl⟩)
  have vJ : J (T1 + 3) ng = v := by rw [hJ, sI_self]
  refine r_row hn (by omega) CJ hv'.1 PJ.1.2.1 hR (by rw [ii_0]; omega) hv'.2 hw2 fun r3 v3 C3 f3 => ?_
  have P3 := PJ.fr f3 E2 (by omega) hs hnt
  have hx2 : Int32.toNatClampNeg (J T1 9) = ng := by rw [PJ.2.1.2.2.1, i_tno (by omega)]
  refine g_gv PJ.2.1.2.2.1 (by omega) (by decide) ?_
  obtain ⟨J2, hJ2⟩ : ∃ J2, J2 = sI r3.2 (T1 + 4) (Int32.toNatClampNeg (J T1 9)) r3.1 := ⟨_, rfl⟩
  rw [← hJ2]
  rw [hx2, v3] at hJ2
  have CJ2 : CUR T J2 o R := by rw [hJ2]; exact C3.st (by omega) (by omega)
  have PJ2 : PI T1 o W J2 nt ns ng nc nm t1 t2 t3 := by rw [hJ2]; exact P3.nwg E2 (by omega) hs hnt (Or.inl ⟨Or.inr rfl, rfl⟩)
  rw [if_pos CJ2.e0, PJ2.2.1.2.2.1, ixp_1]
  refine ⟨_, rfl, CJ2.st (by omega) (by omega), PJ2.cng E2 (by omega) ?_ ?_⟩
  · rw [hJ2, sI_o (by omega), f3 _ _ (Or.inl (by omega)), vJ]; exact hv
  · rw [hJ2, sI_self]; exact hv'
theorem ln_shoal (hn : 2000 ≤ n) (E : EV T1 o) (C : CUR T I o ([115, 104, 111, 97, 108] ++ (pa (W (72 + 5 * ns)) ++ (pa (W (72 + 5 * ns + 1)) ++ (pa (W (72 + 5 * ns + 2)) ++ (pa (W (72 + 5 * ns + 3)) ++ (pa (W (72 + 5 * ns + 4)) ++ R))))))) (hR : Hd R) (h : PI T1 o W I nt ns ng nc nm t1 t2 t3) (H : CG W ns) (hw1 : (W 1).toInt ≤ 16) (hw2 : (W 2).toInt ≤ 16) (hnt : nt ≤ 4) (hs : ns ≤ 2) : OKp (F_X3_readShoal n T1 o I) (fun I' => CUR T I' o R ∧ PI T1 o W I' nt (ns + 1) ng nc nm t1 t2 t3) := by
  obtain ⟨E1, E2, E3⟩ := E
  obtain ⟨-, -, -, -, -, g1, g2, g3, g4, g5⟩ := H
  have c200 : (200 : Int32).toInt = 200 := rfl
  have D := cur_w (w := [115, 104, 111, 97, 108]) C (Or.inl rfl) (by decide) (Hd.pa _ _)
  unfold F_X3_readShoal
  rw [h.2.1.2.1]
  refine r_sc hn (by omega) (show Int32.ofNat ns < (3 : Int32) from (i_olt (b := 3) (by omega) (by omega)).mpr (by omega)) D.2.1 fun r1 v1 C1 f1 => ?_
  have P1 := h.fr f1 E2 (by omega) (by omega) hnt
  have hx : Int32.toNatClampNeg (r1.2 T1 7) = ns := by rw [P1.2.1.2.1, i_tno (by omega)]
  rw [if_neg (show ¬ r1.1 = 0 by rw [v1]; decide)]
  refine g_gv P1.2.1.2.1 (by omega) (by decide) ?_
  obtain ⟨x, hx0⟩ : ∃ x, x = T1 + 2 + 16 + Int32.toNatClampNeg (r1.2 T1 7) := ⟨_, rfl⟩
  rw [← hx0]
  rw [hx] at hx0
  have e18 : x = T1 + 18 + ns := by omega
  have st : ∀ (I2 : gI) (X : List Nat) (c : Nat) (v : Int32), CUR T I2 o X → PI T1 o W I2 nt ns ng nc nm t1 t2 t3 → ∃ J, J = sI I2 x c v ∧ CUR T J o X ∧ PI T1 o W J nt ns ng nc nm t1 t2 t3 ∧ J x c = v ∧ (∀ i, i ≠ c → J x i = I2 x i) := fun I2 X c v CC PP =>
    ⟨_, rfl, CC.st (by omega) (by omega), PP.nwg E2 (by omega) (by omega) hnt (Or.inr (Or.inl ⟨e18, hs⟩)), by rw [sI_self], fun i hi => sI_k hi⟩
  have fr : ∀ (J I3 : gI), FR J I3 o → ∀ i, I3 x i = J x i := fun J I3 f i => f _ _ (Or.inl (by omega))
  refine r_col hn (by omega) C1 g1.1 P1.1.1 (Hd.pa _ _) (by rw [ii_0]; omega) g1.2 hw1 fun r2 v2 C2 f2 => ?_
  obtain ⟨J2, hJ2, CJ2, PJ2, w2, u2⟩ := st r2.2 _ 0 r2.1 C2 (P1.fr f2 E2 (by omega) (by omega) hnt)
  rw [← hJ2]
  refine r_row hn (by omega) CJ2 g2.1 PJ2.1.2.1 (Hd.pa _ _) (by rw [ii_0]; omega) g2.2 hw2 fun r3 v3 C3 f3 => ?_
  obtain ⟨J3, hJ3, CJ3, PJ3, w3, u3⟩ := st r3.2 _ 1 r3.1 C3 (PJ2.fr f3 E2 (by omega) (by omega) hnt)
  rw [← hJ3]
  have a0 : J3 x 0 = W (72 + 5 * ns) := by rw [u3 0 (by decide), fr J2 r3.2 f3, w2, v2]
  refine r_col hn (by omega) CJ3 (by omega) PJ3.1.1 (Hd.pa _ _) (by rw [a0]; exact g3.1) g3.2 hw1 fun r4 v4 C4 f4 => ?_
  obtain ⟨J4, hJ4, CJ4, PJ4, w4, u4⟩ := st r4.2 _ 2 r4.1 C4 (PJ3.fr f4 E2 (by omega) (by omega) hnt)
  rw [← hJ4]
  have b1 : J4 x 1 = W (72 + 5 * ns + 1) := by rw [u4 1 (by decide), fr J3 r4.2 f4, w3, v3]
  have b0 : J4 x 0 = W (72 + 5 * ns) := by rw [u4 0 (by decide), fr J3 r4.2 f4, a0]
  refine r_row hn (by omega) CJ4 (by omega) PJ4.1.2.1 (Hd.pa _ _) (by rw [b1]; exact g4.1) g4.2 hw2 fun r5 v5 C5 f5 => ?_
  obtain ⟨J5, hJ5, CJ5, PJ5, w5, u5⟩ := st r5.2 _ 3 r5.1 C5 (PJ4.fr f5 E2 (by omega) (by omega) hnt)
  rw [← hJ5]
  refine r_num hn (by omega) CJ5 g5.1 (by omega) hR (by rw [ii_0]; omega) (by rw [c200]; omega) fun r6 v6 C6 f6 => ?_
  obtain ⟨J6, hJ6, CJ6, PJ6, w6, u6⟩ := st r6.2 _ 4 r6.1 C6 (PJ5.fr f6 E2 (by omega) (by omega) hnt)
  rw [← hJ6, if_pos CJ6.e0, PJ6.2.1.2.1, ixp_1]
  refine ⟨_, rfl, CJ6.st (by omega) (by omega), PJ6.cns E2 (by omega) fun c hc => ?_⟩
  rw [← e18]
  have hc5 : c = 0 ∨ c = 1 ∨ c = 2 ∨ c = 3 ∨ c = 4 := by omega
  rcases hc5 with q | q | q | q | q <;> subst q
  · rw [u6 0 (by decide), fr J5 r6.2 f6, u5 0 (by decide), fr J4 r5.2 f5, b0, Nat.add_zero]
  · rw [u6 1 (by decide), fr J5 r6.2 f6, u5 1 (by decide), fr J4 r5.2 f5, b1]
  · rw [u6 2 (by decide), fr J5 r6.2 f6, u5 2 (by decide), fr J4 r5.2 f5, w4, v4]
  · rw [u6 3 (by decide), fr J5 r6.2 f6, w5, v5]
  · rw [w6, v6]
theorem ln_cut (hn : 2000 ≤ n) (E : EV T1 o) {k : Nat} {v v' : Int32} (C : CUR T I o ([99, 117, 116] ++ (pa (Int32.ofNat k) ++ (pa v ++ (pa v' ++ R))))) (hR : Hd R) (h : PI T1 o W I nt ns ng nc nm t1 t2 t3) (hk : k < nt) (hnc : nc ≤ 4) (hv : 0 ≤ v.toInt ∧ v.toInt ≤ 9999) (hv' : v.toInt ≤ v'.toInt ∧ v'.toInt ≤ 9999) (hnt : nt ≤ 4) (hs : ns ≤ 3) : OKp (F_X3_readCut n T1 o I) (fun I' => CUR T I' o R ∧ PI T1 o W I' nt ns ng (nc + 1) nm t1 t2 t3) := by
  obtain ⟨E1, E2, E3⟩ := E
  have c9 : (9999 : Int32).toInt = 9999 := rfl
  have D := cur_w (w := [99, 117, 116]) C (Or.inl rfl) (by decide) (Hd.pa _ _)
  unfold F_X3_readCut
  rw [h.2.1.2.2.2]
  refine k_sc hn (by omega) (show Int32.ofNat nc < (6 : Int32) from (i_olt (b := 6) (by omega) (by omega)).mpr (by omega)) D.2.1 fun I1 C1 f1 => ?_
  have P1 := h.fr f1 E2 (by omega) hs hnt
  dsimp only
  rw [if_neg (show ¬ (1 : Int32) = 0 by decide)]
  have h0 : (((0 : Int32) >>> (Int32.ofNat k &&& 31)) &&& (1 : Int32)) ≠ 1 := by
    have : ∀ k : Fin 4, (((0 : Int32) >>> (Int32.ofNat k.1 &&& 31)) &&& (1 : Int32)) ≠ 1 := by decide
    exact this ⟨k, by omega⟩
  refine k_src hn (by omega) C1 (Hd.pa _ _) P1.c5 hk hnt h0 fun I2 C2 f2 => ?_
  have P2 := P1.fr f2 E2 (by omega) hs hnt
  dsimp only
  refine k_num hn (by omega) C2 hv.1 hv.2 (Hd.pa _ _) (by rw [ii_0]; omega) (by rw [c9]; omega) fun I3 C3 f3 => ?_
  have P3 := P2.fr f3 E2 (by omega) hs hnt
  dsimp only
  refine k_num hn (by omega) C3 (by omega) hv'.2 hR hv'.1 (by rw [c9]; omega) fun I4 C4 f4 => ?_
  have P4 := P3.fr f4 E2 (by omega) hs hnt
  dsimp only
  have t8 := (P4.2.2.1 k hk).2.2.2.2.2
  rw [if_pos C4.e0, gv_o (by omega), i_tno (by omega)]
  obtain ⟨c, hc⟩ : ∃ c, c = (I4 (T1 + 6 + 3 * k) 8).toInt.toNat := ⟨_, rfl⟩
  have hI8 : I4 (T1 + 1 + 5 + 3 * k) 8 = Int32.ofNat c := by
    rw [show T1 + 1 + 5 + 3 * k = T1 + 6 + 3 * k by omega, hc, i_on t8.1]
  have hadd : F_X8_addCut n (T1 + 1 + 5 + 3 * k) I4 v v' = some (sI (sI (sI I4 (T1 + 1 + 5 + 3 * k + 1) c v) (T1 + 1 + 5 + 3 * k + 2) c v') (T1 + 1 + 5 + 3 * k) 8 (Int32.ofNat (c + 1))) := by
    unfold F_X8_addCut
    rw [sI_o (show T1 + 1 + 5 + 3 * k ≠ T1 + 1 + 5 + 3 * k + 1 by omega), sI_o (show T1 + 1 + 5 + 3 * k ≠ T1 + 1 + 5 + 3 * k + 2 by omega), sI_o (show T1 + 1 + 5 + 3 * k ≠ T1 + 1 + 5 + 3 * k + 1 by omega), hI8, if_neg (show ¬ (6 : Int32) ≤ Int32.ofNat c from fun z => absurd ((i_ole (a := 6) (by omega) (by omega)).mp z) (by omega)), gv_o (by omega), gv_o (by omega), i_tno (by omega), ixp_1]
  rw [hadd, bd_s, sI_o (show o ≠ T1 + 1 + 5 + 3 * k by omega), sI_o (show o ≠ T1 + 1 + 5 + 3 * k + 2 by omega), sI_o (show o ≠ T1 + 1 + 5 + 3 * k + 1 by omega), P4.2.1.2.2.2, ixp_1]
  have P5 := P4.nwg (a := T1 + 1 + 5 + 3 * k + 1) (i := c) (v := v) E2 (by omega) hs hnt (Or.inr (Or.inr ⟨k, by omega, Or.inl (by omega), by omega⟩))
  have P6 := P5.nwg (a := T1 + 1 + 5 + 3 * k + 2) (i := c) (v := v') E2 (by omega) hs hnt (Or.inr (Or.inr ⟨k, by omega, Or.inr (by omega), by omega⟩))
  have P7 := P6.ct8 (k0 := k) (v := Int32.ofNat (c + 1)) E2 (by omega) (by omega) hs hnt (by rw [i_of (by omega)]; omega)
  rw [show T1 + 6 + 3 * k = T1 + 1 + 5 + 3 * k by omega] at P7
  exact ⟨_, rfl, (((C4.st (by omega) (by omega)).st (by omega) (by omega)).st (by omega) (by omega)).sto (by omega) (by decide), P7⟩
end LNT
