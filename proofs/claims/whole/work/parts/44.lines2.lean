/-! LINES, GOING ON: laying what is read -/
section LAY
variable {n T1 o E q : Nat} {I K I' K' I0 K0 : gI}
theorem bd_p {α β : Type} (x : Option (α × β)) : bd x (fun v => some (v.1, v.2)) = x := by cases x <;> rfl
theorem bd_i {α : Type} (x : Option α) : bd x (fun v => some v) = x := by cases x <;> rfl
theorem FR.wr (F : FR I K I' K' o) (a i b j : Nat) (v w : Int32) : FR (sI I a i v) (sI K b j w) (sI I' a i v) (sI K' b j w) o := by
  refine ⟨fun x y h => ?_, fun x y h => ?_⟩
  · rw [sI_get, sI_get, F.1 x y h]
  · rw [sI_get, sI_get, F.2 x y h]
theorem FR.wI (F : FR I K I' K' o) (a i : Nat) (v : Int32) : FR (sI I a i v) K (sI I' a i v) K' o :=
  ⟨fun x y h => by rw [sI_get, sI_get, F.1 x y h], F.2⟩
theorem FR.wK (F : FR I K I' K' o) (b j : Nat) (w : Int32) : FR I (sI K b j w) I' (sI K' b j w) o :=
  ⟨F.1, fun x y h => by rw [sI_get, sI_get, F.2 x y h]⟩
theorem PS.wI (P : PS E q I K o) {a i : Nat} (v : Int32) (h : (a ≠ o ∨ 10 ≤ i) ∧ a ≠ 1) : PS E q (sI I a i v) K o :=
  P.cg (fun c hc => by rw [sI_get, if_neg (by omega)]) (fun c => by rw [sI_o (by omega)]) (fun _ _ _ => rfl) (fun _ => rfl)
theorem PS.wK (P : PS E q I K o) {b j : Nat} (w : Int32) (h : (b ≠ 153 ∨ 10 ≤ j) ∧ b ≠ 154) : PS E q I (sI K b j w) o :=
  P.cg (fun _ _ => rfl) (fun _ => rfl) (fun c h3 hc => by rw [sI_get, if_neg (by omega)]) (fun c => by rw [sI_o (by omega)])
theorem GR.wI (G : GR T1 o I0 K0 I K) {a : Nat} (i : Nat) (v : Int32) (h : (a = o ∨ (T1 ≤ a ∧ a < T1 + 21) ∨ (10 ≤ a ∧ a < 18)) ∧ a ≠ 11) : GR T1 o I0 K0 (sI I a i v) K :=
  G.trans ⟨fun x y h1 h2 h3 => by rw [sI_o (by omega)], fun _ _ _ _ _ => rfl, fun t k hk => by rw [sI_o (by omega)]; exact t k hk⟩
theorem GR.wB (G : GR T1 o I0 K0 I K) (i : Nat) (v : Int32) (h : v = 0 ∨ v = 1) : GR T1 o I0 K0 (sI I 11 i v) K :=
  G.trans ⟨fun x y h1 h2 h3 => by rw [sI_o (by omega)], fun _ _ _ _ _ => rfl, fun t k hk => by
    rw [sI_get]
    by_cases c : k = i
    · rw [if_pos ⟨rfl, c⟩]; exact h
    · rw [if_neg (fun z => c z.2)]; exact t k hk⟩
theorem GR.wK (G : GR T1 o I0 K0 I K) {b j : Nat} (w : Int32) (h : b = 156 ∨ b = 158 ∨ (b = 153 ∧ 20 ≤ j ∧ j ≤ 22)) : GR T1 o I0 K0 I (sI K b j w) :=
  G.trans ⟨fun _ _ _ _ _ => rfl, fun x y h1 h2 h3 => by rw [sI_get, if_neg (by omega)], fun t => t⟩
/-- a number, of which an error asks no bounds -/
theorem nm' (hn : 2000 ≤ n) (P : PS E q I K o) {l u l' : Int32} (hl : I o 0 = 0 → l' = l ∨ (l.toInt ≤ 0 ∧ l'.toInt ≤ 0)) : ∃ (v w : Int32) (I' K' : gI) (q' : Nat), F_X3_readNumber n T1 o I l u = some (v, I') ∧ F_X10_number n K l' u = some (w, K') ∧ PS E q' I' K' o ∧ FR I K I' K' o ∧ (I' o 0 = 0 → I o 0 = 0 ∧ v = w ∧ l.toInt ≤ v.toInt ∧ v.toInt ≤ u.toInt ∧ q ≤ q') := by
  by_cases ok : I o 0 = 0
  · obtain ⟨v, w, I', K', q', a, b, c, d, e, _⟩ := nm (T1 := T1) hn P (u := u) (hl ok)
    exact ⟨v, w, I', K', q', a, b, c, d, e⟩
  · refine ⟨-1, l', I, K, q, ?_, ?_, P, FR.rfl', fun z => absurd z ok⟩
    · unfold F_X3_readNumber; rw [if_neg ok]
    · unfold F_X10_number
      rw [lk_er P ok, bd_s]
      dsimp only
      rw [nx_er P ok, bd_s]
theorem rcol (I : gI) (a : Int32) : F_X3_readColumn n T1 o I a = F_X3_readNumber n T1 o I a (I T1 1 - 1) := bd_p _
theorem rrow (I : gI) (a : Int32) : F_X3_readRow n T1 o I a = F_X3_readNumber n T1 o I a (I T1 2 - 1) := bd_p _
theorem rsrc (I : gI) : F_X3_readSource n T1 o I 0 = F_X3_readNumber n T1 o I 0 (I T1 5 - 1) := by
  unfold F_X3_readSource
  have z : ∀ x : Int32, ¬ (((0 : Int32) >>> (x &&& 31)) &&& (1 : Int32) = 1) := by
    intro x
    have : (0 : Int32) >>> (x &&& 31) = 0 := by
      apply Int32.toBitVec_inj.mp
      simp [Int32.toBitVec_shiftRight]
    rw [this]; decide
  rw [if_neg (z _)]
  simp only [bd_p]
  by_cases c1 : I o 6 = 2
  · rw [if_pos c1]
    by_cases c2 : I T1 5 ≤ I o 9
    · rw [if_pos c2]
    · rw [if_neg c2]
  · rw [if_neg c1]
/-- a line of which there may be m at most -/
theorem sc (hn : 2000 ≤ n) (P : PS E q I K o) (ok : I o 0 = 0) {c m : Int32} (h : c.toInt ≤ m.toInt) : (c ≠ m ∧ ∃ I' K' q', F_X3_startCounted n T1 o I c m = some (1, I') ∧ F_X10_nextToken n K = some K' ∧ PS E q' I' K' o ∧ FR I K I' K' o ∧ I' o 0 = 0 ∧ q ≤ q') ∨ (c = m ∧ ∃ I' K' K'', F_X3_startCounted n T1 o I c m = some (0, I') ∧ F_X10_faults n K 4 = some K'' ∧ F_X10_nextToken n K'' = some K' ∧ PS E q I' K' o ∧ FR I K I' K' o ∧ ¬ I' o 0 = 0) := by
  unfold F_X3_startCounted
  by_cases e : c = m
  · right
    obtain ⟨I2, K2, g1, g2, P2, f2, er⟩ := fl (n := n) (T1 := T1) P (c := 4) (by decide)
    refine ⟨e, I2, K2, K2, ?_, g2, nx_er (P2 q) er, P2 q, f2, er⟩
    rw [if_neg (by rw [e, i_lt]; omega), g1, bd_s]
  · left
    obtain ⟨I1, K1, q1, e1, f1, P1, r1, ok1, hq1, _⟩ := nx (T1 := T1) hn (P.nx ok)
    refine ⟨e, I1, K1, q1, ?_, f1, P1, r1, ok1, hq1⟩
    rw [if_pos (by rw [i_lt]; have : c.toInt ≠ m.toInt := fun z => e (i_eq.mpr z); omega), e1, bd_s]
theorem SR.np {s p p' : gP} {a : Nat} (h : SR I a p s) (e : p' 4 = p 4) : SR I a p' s := by
  refine SR.mk h.t h.op h.b ?_ ?_ ?_ ?_ ?_ ?_ ?_ <;> rw [e]
  · exact h.on
  · exact h.amp
  · exact h.ph
  · exact h.x
  · exact h.y
  · exact h.vx
  · exact h.vy
theorem SV.np {s p p' : gP} (h : SV p s) (e : p' 4 = p 4) : SV p' s := by
  refine SV.mk h.t h.o h.on ?_
  rw [e]; exact h.amp
/-- the plan has one thing more, the trains stay as many -/
theorem DR.np (D : DR T1 o I K) (pv : PV (pn K')) (tr : TR I' T1 (pn K')) (e4 : pn K' 4 = pn K 4) (es : ∀ k, k < 4 → (pn K 4).toInt.toNat ≤ k → pn K' (37 + k) = pn K (37 + k)) (ed : dn K' = dn K) (e10 : ∀ q i, 10 ≤ q → q < 18 → I' q i = I q i) (cc : I' o 10 = pn K' 41) (td : I' o 11 = K' 153 20) (tf : I' o 12 = K' 153 21) (th : I' o 13 = K' 153 22) (cs : ∀ c, c < (pn K' 41).toInt.toNat → 0 ≤ (pn K' (42 + 3 * c)).toInt ∧ (pn K' (42 + 3 * c)).toInt < (pn K 4).toInt) (ck : ∀ k, k < (pn K 4).toInt.toNat → (I' (T1 + 1 + 5 + 3 * k) 8).toInt ≤ (pn K' 41).toInt) : DR T1 o I' K' := by
  refine DR.mk pv tr ?_ ?_ cc td tf th ?_ ?_ ?_
  · rw [ed]; exact (D.sr.cg (fun q i a b => e10 q i (by omega) (by omega))).np e4
  · rw [ed]; exact D.sv.np e4
  · rw [e4, ed]; intro k hk hg; rw [es k hk hg]; exact D.zs k hk hg
  · rw [e4]; exact cs
  · rw [e4]; exact ck
theorem cntg {v : Int32} {m : Nat} (h0 : 0 ≤ v.toInt) (h1 : v.toInt ≤ m) (h2 : v.toInt ≠ m) : ∃ g, g < m ∧ v = Int32.ofNat g := ⟨v.toInt.toNat, by omega, (i_on h0).symm⟩
theorem im_2 (k : Nat) : (2 : Int32) * Int32.ofNat k = Int32.ofNat (2 * k) := i_omul 2 k
theorem im_3 (k : Nat) : (3 : Int32) * Int32.ofNat k = Int32.ofNat (3 * k) := i_omul 3 k
theorem im_5 (k : Nat) : (5 : Int32) * Int32.ofNat k = Int32.ofNat (5 * k) := i_omul 5 k
theorem l_gauge (hn : 2000 ≤ n) (P : PS E q I K o) (ok : I o 0 = 0) (D : DR T1 o I K) (ht : T1 = 95 ∨ T1 = 116) : LN n T1 o E q I K (F_X3_readGauge n T1 o I) (F_X10_readGauge n K) := by
  have ho := P.1
  have hga := D.pv.ga
  have hw := D.pv.w
  have hh := D.pv.h
  have kg : K (153 + 3) 76 = pn K 76 := rfl
  unfold F_X3_readGauge F_X10_readGauge
  rw [kg, D.tr.gc]
  rcases sc (T1 := T1) hn P ok (c := pn K 76) (m := 4) (by show (pn K 76).toInt ≤ 4; omega) with ⟨ne, I1, K1, q1, e1, f1, P1, r1, ok1, hq1⟩ | ⟨e, I1, K1, K2, e1, f1, f2, P1, r1, er⟩
  · have D1 := D.fr r1 ht ho
    have ne' : (pn K 76).toInt ≠ 4 := fun z => ne (i_eq.mpr z)
    obtain ⟨g, hg, eg⟩ := cntg (m := 4) hga.1 hga.2 ne'
    rw [if_neg ne, e1, f1, bd_s, bd_s]
    dsimp only
    rw [if_neg (show ¬ (1 : Int32) = 0 by decide), if_pos (show K1 153 5 ≤ 0 by rw [P1.ok5 ok1]; decide), eg]
    have ep1 : pn K1 = pn K := by funext i; exact r1.2 _ _ (Or.inl (by decide))
    have g1 : I1 T1 9 = Int32.ofNat g := by rw [D1.tr.gc, ep1, eg]
    have w1 : I1 T1 1 = pn K 0 := by rw [D1.tr.w, ep1]
    have kw : K1 (153 + 3) 0 = pn K 0 := by rw [← ep1]; rfl
    have kh : K1 (153 + 3) 1 = pn K 1 := by rw [← ep1]; rfl
    obtain ⟨v, w, I2, K2, q2, e2, f2, P2, r2, h2⟩ := nm' (T1 := T1) hn P1 (l := 0) (u := pn K 0 - 1) (l' := 0) (fun _ => Or.inl rfl)
    have g2 : I2 T1 9 = Int32.ofNat g := by rw [r2.1 _ _ (Or.inl (by omega)), g1]
    have h2' : I2 T1 2 = pn K 1 := by rw [r2.1 _ _ (Or.inl (by omega)), D1.tr.h, ep1]
    have kh2 : K2 (153 + 3) 1 = pn K 1 := by rw [r2.2 _ _ (Or.inl (by decide)), kh]
    simp (disch := omega) only [im_2, ix_77, ixp_1, i_tno, gv_k, rcol, rrow, w1, kw, e2, f2, bd_s, g1, g2, sI_o, sI_k, h2', kh2]
    have P2' := (P2.wI (a := T1 + 3) (i := g) v ⟨Or.inl (by omega), by omega⟩).wK (b := 153 + 3) (j := 77 + 2 * g) w ⟨Or.inl (by decide), by decide⟩
    have F2 := r2.wr (T1 + 3) g (153 + 3) (77 + 2 * g) v w
    have G2 := (((r1.gr (T1 := T1) ho).trans (r2.gr (T1 := T1) ho)).wI (a := T1 + 3) g v ⟨by omega, by omega⟩).wK (b := 153 + 3) (j := 77 + 2 * g) w (by omega)
    obtain ⟨v', w', I3, K3, q3, e3, f3, P3, r3, h3⟩ := nm' (T1 := T1) hn P2' (l := 0) (u := pn K 1 - 1) (l' := 0) (fun _ => Or.inl rfl)
    have F3 := (F2.trans r3).wr (T1 + 4) g (153 + 3) (77 + 2 * g + 1) v' w'
    have G3 := ((G2.trans (r3.gr (T1 := T1) ho)).wI (a := T1 + 4) g v' ⟨by omega, by omega⟩).wK (b := 153 + 3) (j := 77 + 2 * g + 1) w' (by omega)
    have P3' := (P3.wI (a := T1 + 4) (i := g) v' ⟨Or.inl (by omega), by omega⟩).wK (b := 153 + 3) (j := 77 + 2 * g + 1) w' ⟨Or.inl (by decide), by decide⟩
    have g3 : I3 T1 9 = Int32.ofNat g := by rw [r3.1 _ _ (Or.inl (by omega)), sI_o (by omega), g2]
    have kg3 : K3 (153 + 3) 76 = Int32.ofNat g := by rw [r3.2 _ _ (Or.inl (by decide)), sI_k (by omega), r2.2 _ _ (Or.inl (by decide)), ← eg, ← ep1]; rfl
    simp (disch := omega) only [e3, f3, bd_s, g3, kg3, sI_o, sI_k, ixp_1, gv_k, i_tno]
    have F4 := (F3.wK (153 + 3) 76 (Int32.ofNat (g + 1)))
    have F5 := F4.wI T1 9 (Int32.ofNat (g + 1))
    by_cases ok3 : I3 o 0 = 0
    · rw [if_pos ok3]
      refine ⟨_, _, q3, rfl, rfl, (P3'.wI _ ⟨Or.inl (by omega), by omega⟩).wK _ ⟨Or.inl (by decide), by decide⟩, (G3.wI _ _ ⟨by omega, by omega⟩).wK _ (by omega), fun _ => ?_⟩
      obtain ⟨ok2, rfl, b1, b2, hq3⟩ := h3 ok3
      rw [sI_o (by omega)] at ok2
      obtain ⟨_, rfl, a1, a2, hq2⟩ := h2 ok2
      refine ⟨DR.fr ?_ F5 ht ho, by omega⟩
      have em0 : (pn K 0 - 1).toInt = (pn K 0).toInt - 1 := i_m1 (by omega)
      have em1 : (pn K 1 - 1).toInt = (pn K 1).toInt - 1 := i_m1 (by omega)
      rw [ii_0] at a1 b1
      have c4 := D1.pv.c.2
      have eg1 : pn K1 76 = Int32.ofNat g := by rw [ep1, eg]
      refine D1.np ?_ ?_ ?_ ?_ ?_ ?_ ?_ ?_ ?_ ?_ ?_ ?_
      · simp only [pn_up]
        exact D1.pv.uga hg eg1 (by rw [ep1]; omega) (by rw [ep1]; omega)
      · simp only [pn_up]
        exact D1.tr.uga D1.pv hg eg1 _ _
      · simp (disch := omega) only [pn_up, up_o]
      · intro k h4 _; simp (disch := omega) only [pn_up, up_o]
      · simp (disch := omega) only [dn_o]
      · intro a i x y; simp (disch := omega) only [sI_o]
      · simp (disch := omega) only [pn_up, up_o, sI_o]; exact D1.cc
      · simp (disch := omega) only [sI_o]; exact D1.td
      · simp (disch := omega) only [sI_o]; exact D1.tf
      · simp (disch := omega) only [sI_o]; exact D1.th
      · have c6 := D1.pv.cut.2
        intro c hc
        have hc' : c < (pn K1 41).toInt.toNat := by simpa (disch := omega) only [pn_up, up_o] using hc
        simp (disch := omega) only [pn_up, up_o]; exact D1.cs c hc'
      · intro k hk; simp (disch := omega) only [pn_up, up_o, sI_o]; exact D1.ck k hk
    · rw [if_neg ok3]
      exact ⟨_, _, q3, rfl, rfl, P3'.wK _ ⟨Or.inl (by decide), by decide⟩, G3.wK _ (by omega), fun z => absurd (by rw [sI_o (by omega)] at z; exact z) ok3⟩
  · rw [if_pos e, e1, f1, bd_s, bd_s, f2, bd_s]
    dsimp only
    rw [if_pos rfl, if_neg (P1.er er).1]
    exact ⟨I1, K1, q, rfl, rfl, P1, r1.gr ho, fun z => absurd z er⟩
/-- shoals -/
theorem l_shoal (hn : 2000 ≤ n) (P : PS E q I K o) (ok : I o 0 = 0) (D : DR T1 o I K) (ht : T1 = 95 ∨ T1 = 116) : LN n T1 o E q I K (F_X3_readShoal n T1 o I) (F_X10_readShoal n K) := by
  have ho := P.1
  have hga := D.pv.sh
  have hw := D.pv.w
  have hh := D.pv.h
  have kg : K (153 + 3) 60 = pn K 60 := rfl
  unfold F_X3_readShoal F_X10_readShoal
  rw [kg, D.tr.shc]
  rcases sc (T1 := T1) hn P ok (c := pn K 60) (m := 3) (by show (pn K 60).toInt ≤ 3; omega) with ⟨ne, I1, K1, q1, e1, f1, P1, r1, ok1, hq1⟩ | ⟨e, I1, K1, K2, e1, f1, f2, P1, r1, er⟩
  · have D1 := D.fr r1 ht ho
    have ne' : (pn K 60).toInt ≠ 3 := fun z => ne (i_eq.mpr z)
    obtain ⟨g, hg, eg⟩ := cntg (m := 3) hga.1 hga.2 ne'
    rw [if_neg ne, e1, f1, bd_s, bd_s]
    dsimp only
    rw [if_neg (show ¬ (1 : Int32) = 0 by decide), if_pos (show K1 153 5 ≤ 0 by rw [P1.ok5 ok1]; decide), eg]
    have ep1 : pn K1 = pn K := by funext i; exact r1.2 _ _ (Or.inl (by decide))
    have g1 : I1 T1 7 = Int32.ofNat g := by rw [D1.tr.shc, ep1, eg]
    have a1 : I1 T1 1 = pn K 0 := by rw [D1.tr.w, ep1]
    have b1 : I1 T1 2 = pn K 1 := by rw [D1.tr.h, ep1]
    have c1 : K1 (153 + 3) 0 = pn K 0 := by rw [← ep1]; rfl
    have d1 : K1 (153 + 3) 1 = pn K 1 := by rw [← ep1]; rfl
    have n1 : K1 (153 + 3) 60 = Int32.ofNat g := by rw [← eg, ← ep1]; rfl
    have em0 : (pn K 0 - 1).toInt = (pn K 0).toInt - 1 := i_m1 (by omega)
    have em1 : (pn K 1 - 1).toInt = (pn K 1).toInt - 1 := i_m1 (by omega)
    have P1' := P1
    have F1 : FR I1 K1 I1 K1 o := FR.rfl'
    have G1 : GR T1 o I K I1 K1 := r1.gr ho
    simp (disch := omega) only [im_5, ix_61, ixp_1, ixp_2, ixp_3, ixp_4, i_tno, gv_k, g1]
    obtain ⟨v2, w2, I2, K2, q2, e2, f2, P2, r2, h2⟩ := nm' (T1 := T1) hn P1' (l := 0) (u := pn K 0 - 1) (l' := 0) (fun _ => Or.inl rfl)
    have F2a := F1.trans r2
    have a2 : I2 T1 1 = pn K 0 := by rw [F2a.1 _ _ (Or.inl (by omega))]; exact a1
    have b2 : I2 T1 2 = pn K 1 := by rw [F2a.1 _ _ (Or.inl (by omega))]; exact b1
    have g2 : I2 T1 7 = Int32.ofNat g := by rw [F2a.1 _ _ (Or.inl (by omega))]; exact g1
    have c2 : K2 (153 + 3) 0 = pn K 0 := by rw [F2a.2 _ _ (Or.inl (by decide))]; exact c1
    have d2 : K2 (153 + 3) 1 = pn K 1 := by rw [F2a.2 _ _ (Or.inl (by decide))]; exact d1
    have n2 : K2 (153 + 3) 60 = Int32.ofNat g := by rw [F2a.2 _ _ (Or.inl (by decide))]; exact n1
    simp (disch := omega) only [rcol, rrow, a1, b1, c1, d1, e2, f2, bd_s, gv_k, i_tno, ixp_1, sI_o, sI_k, a2, b2, c2, d2, n2, g2]
    have P2' := (P2.wI (a := T1 + 2 + 16 + g) (i := 0) v2 ⟨Or.inl (by omega), by omega⟩).wK (b := 153 + 3) (j := 61 + 5 * g) w2 ⟨Or.inl (by decide), by decide⟩
    have F2 := F2a.wr (T1 + 2 + 16 + g) 0 (153 + 3) (61 + 5 * g) v2 w2
    have G2 := ((G1.trans (r2.gr (T1 := T1) ho)).wI (a := T1 + 2 + 16 + g) 0 v2 ⟨by omega, by omega⟩).wK (b := 153 + 3) (j := 61 + 5 * g) w2 (by omega)
    obtain ⟨v3, w3, I3, K3, q3, e3, f3, P3, r3, h3⟩ := nm' (T1 := T1) hn P2' (l := 0) (u := pn K 1 - 1) (l' := 0) (fun _ => Or.inl rfl)
    have F3a := F2.trans r3
    have a3 : I3 T1 1 = pn K 0 := by rw [F3a.1 _ _ (Or.inl (by omega))]; simp (disch := omega) only [sI_o]; exact a1
    have b3 : I3 T1 2 = pn K 1 := by rw [F3a.1 _ _ (Or.inl (by omega))]; simp (disch := omega) only [sI_o]; exact b1
    have g3 : I3 T1 7 = Int32.ofNat g := by rw [F3a.1 _ _ (Or.inl (by omega))]; simp (disch := omega) only [sI_o]; exact g1
    have c3 : K3 (153 + 3) 0 = pn K 0 := by rw [F3a.2 _ _ (Or.inl (by decide))]; simp (disch := omega) only [sI_k]; exact c1
    have d3 : K3 (153 + 3) 1 = pn K 1 := by rw [F3a.2 _ _ (Or.inl (by decide))]; simp (disch := omega) only [sI_k]; exact d1
    have n3 : K3 (153 + 3) 60 = Int32.ofNat g := by rw [F3a.2 _ _ (Or.inl (by decide))]; simp (disch := omega) only [sI_k]; exact n1
    have x3 : I3 (T1 + 2 + 16 + g) 0 = v2 := by rw [F3a.1 _ _ (Or.inl (by omega))]; simp (disch := omega) only [sI_self]
    have y3 : K3 (153 + 3) (61 + 5 * g) = w2 := by rw [F3a.2 _ _ (Or.inl (by decide))]; simp (disch := omega) only [sI_self]
    simp (disch := omega) only [rcol, rrow, a2, b2, c2, d2, e3, f3, bd_s, gv_k, i_tno, ixp_1, sI_o, sI_k, a3, b3, c3, d3, n3, g3, x3, y3]
    have P3' := (P3.wI (a := T1 + 2 + 16 + g) (i := 1) v3 ⟨Or.inl (by omega), by omega⟩).wK (b := 153 + 3) (j := 61 + 5 * g + 1) w3 ⟨Or.inl (by decide), by decide⟩
    have F3 := F3a.wr (T1 + 2 + 16 + g) 1 (153 + 3) (61 + 5 * g + 1) v3 w3
    have G3 := ((G2.trans (r3.gr (T1 := T1) ho)).wI (a := T1 + 2 + 16 + g) 1 v3 ⟨by omega, by omega⟩).wK (b := 153 + 3) (j := 61 + 5 * g + 1) w3 (by omega)
    obtain ⟨v4, w4, I4, K4, q4, e4, f4, P4, r4, h4⟩ := nm' (T1 := T1) hn P3' (l := v2) (u := pn K 0 - 1) (l' := w2) (fun z => by
      rw [sI_o (by omega)] at z
      have z3 := h3 z
      have y3 := z3.1
      rw [sI_o (by omega)] at y3
      have z2 := h2 y3
      exact Or.inl z2.2.1.symm)
    have F4a := F3.trans r4
    have a4 : I4 T1 1 = pn K 0 := by rw [F4a.1 _ _ (Or.inl (by omega))]; simp (disch := omega) only [sI_o]; exact a1
    have b4 : I4 T1 2 = pn K 1 := by rw [F4a.1 _ _ (Or.inl (by omega))]; simp (disch := omega) only [sI_o]; exact b1
    have g4 : I4 T1 7 = Int32.ofNat g := by rw [F4a.1 _ _ (Or.inl (by omega))]; simp (disch := omega) only [sI_o]; exact g1
    have c4 : K4 (153 + 3) 0 = pn K 0 := by rw [F4a.2 _ _ (Or.inl (by decide))]; simp (disch := omega) only [sI_k]; exact c1
    have d4 : K4 (153 + 3) 1 = pn K 1 := by rw [F4a.2 _ _ (Or.inl (by decide))]; simp (disch := omega) only [sI_k]; exact d1
    have n4 : K4 (153 + 3) 60 = Int32.ofNat g := by rw [F4a.2 _ _ (Or.inl (by decide))]; simp (disch := omega) only [sI_k]; exact n1
    have x4 : I4 (T1 + 2 + 16 + g) 1 = v3 := by rw [F4a.1 _ _ (Or.inl (by omega))]; simp (disch := omega) only [sI_self]
    have y4 : K4 (153 + 3) (61 + 5 * g + 1) = w3 := by rw [F4a.2 _ _ (Or.inl (by decide))]; simp (disch := omega) only [sI_self]
    simp (disch := omega) only [rcol, rrow, a3, b3, c3, d3, e4, f4, bd_s, gv_k, i_tno, ixp_1, sI_o, sI_k, a4, b4, c4, d4, n4, g4, x4, y4]
    have P4' := (P4.wI (a := T1 + 2 + 16 + g) (i := 2) v4 ⟨Or.inl (by omega), by omega⟩).wK (b := 153 + 3) (j := 61 + 5 * g + 2) w4 ⟨Or.inl (by decide), by decide⟩
    have F4 := F4a.wr (T1 + 2 + 16 + g) 2 (153 + 3) (61 + 5 * g + 2) v4 w4
    have G4 := ((G3.trans (r4.gr (T1 := T1) ho)).wI (a := T1 + 2 + 16 + g) 2 v4 ⟨by omega, by omega⟩).wK (b := 153 + 3) (j := 61 + 5 * g + 2) w4 (by omega)
    obtain ⟨v5, w5, I5, K5, q5, e5, f5, P5, r5, h5⟩ := nm' (T1 := T1) hn P4' (l := v3) (u := pn K 1 - 1) (l' := w3) (fun z => by
      rw [sI_o (by omega)] at z
      have z4 := h4 z
      have y4 := z4.1
      rw [sI_o (by omega)] at y4
      have z3 := h3 y4
      exact Or.inl z3.2.1.symm)
    have F5a := F4.trans r5
    have a5 : I5 T1 1 = pn K 0 := by rw [F5a.1 _ _ (Or.inl (by omega))]; simp (disch := omega) only [sI_o]; exact a1
    have b5 : I5 T1 2 = pn K 1 := by rw [F5a.1 _ _ (Or.inl (by omega))]; simp (disch := omega) only [sI_o]; exact b1
    have g5 : I5 T1 7 = Int32.ofNat g := by rw [F5a.1 _ _ (Or.inl (by omega))]; simp (disch := omega) only [sI_o]; exact g1
    have c5 : K5 (153 + 3) 0 = pn K 0 := by rw [F5a.2 _ _ (Or.inl (by decide))]; simp (disch := omega) only [sI_k]; exact c1
    have d5 : K5 (153 + 3) 1 = pn K 1 := by rw [F5a.2 _ _ (Or.inl (by decide))]; simp (disch := omega) only [sI_k]; exact d1
    have n5 : K5 (153 + 3) 60 = Int32.ofNat g := by rw [F5a.2 _ _ (Or.inl (by decide))]; simp (disch := omega) only [sI_k]; exact n1
    simp (disch := omega) only [rcol, rrow, a4, b4, c4, d4, e5, f5, bd_s, gv_k, i_tno, ixp_1, sI_o, sI_k, a5, b5, c5, d5, n5, g5]
    have P5' := (P5.wI (a := T1 + 2 + 16 + g) (i := 3) v5 ⟨Or.inl (by omega), by omega⟩).wK (b := 153 + 3) (j := 61 + 5 * g + 3) w5 ⟨Or.inl (by decide), by decide⟩
    have F5 := F5a.wr (T1 + 2 + 16 + g) 3 (153 + 3) (61 + 5 * g + 3) v5 w5
    have G5 := ((G4.trans (r5.gr (T1 := T1) ho)).wI (a := T1 + 2 + 16 + g) 3 v5 ⟨by omega, by omega⟩).wK (b := 153 + 3) (j := 61 + 5 * g + 3) w5 (by omega)
    obtain ⟨v6, w6, I6, K6, q6, e6, f6, P6, r6, h6⟩ := nm' (T1 := T1) hn P5' (l := 0) (u := 200) (l' := 0) (fun _ => Or.inl rfl)
    have F6a := F5.trans r6
    have a6 : I6 T1 1 = pn K 0 := by rw [F6a.1 _ _ (Or.inl (by omega))]; simp (disch := omega) only [sI_o]; exact a1
    have b6 : I6 T1 2 = pn K 1 := by rw [F6a.1 _ _ (Or.inl (by omega))]; simp (disch := omega) only [sI_o]; exact b1
    have g6 : I6 T1 7 = Int32.ofNat g := by rw [F6a.1 _ _ (Or.inl (by omega))]; simp (disch := omega) only [sI_o]; exact g1
    have c6 : K6 (153 + 3) 0 = pn K 0 := by rw [F6a.2 _ _ (Or.inl (by decide))]; simp (disch := omega) only [sI_k]; exact c1
    have d6 : K6 (153 + 3) 1 = pn K 1 := by rw [F6a.2 _ _ (Or.inl (by decide))]; simp (disch := omega) only [sI_k]; exact d1
    have n6 : K6 (153 + 3) 60 = Int32.ofNat g := by rw [F6a.2 _ _ (Or.inl (by decide))]; simp (disch := omega) only [sI_k]; exact n1
    simp (disch := omega) only [rcol, rrow, a5, b5, c5, d5, e6, f6, bd_s, gv_k, i_tno, ixp_1, sI_o, sI_k, a6, b6, c6, d6, n6, g6]
    have P6' := (P6.wI (a := T1 + 2 + 16 + g) (i := 4) v6 ⟨Or.inl (by omega), by omega⟩).wK (b := 153 + 3) (j := 61 + 5 * g + 4) w6 ⟨Or.inl (by decide), by decide⟩
    have F6 := F6a.wr (T1 + 2 + 16 + g) 4 (153 + 3) (61 + 5 * g + 4) v6 w6
    have G6 := ((G5.trans (r6.gr (T1 := T1) ho)).wI (a := T1 + 2 + 16 + g) 4 v6 ⟨by omega, by omega⟩).wK (b := 153 + 3) (j := 61 + 5 * g + 4) w6 (by omega)
    have F7 := (F6.wK (153 + 3) 60 (Int32.ofNat (g + 1))).wI T1 7 (Int32.ofNat (g + 1))
    by_cases ok3 : I6 o 0 = 0
    · rw [if_pos ok3]
      refine ⟨_, _, q6, rfl, rfl, (P6'.wI _ ⟨Or.inl (by omega), by omega⟩).wK _ ⟨Or.inl (by decide), by decide⟩, (G6.wI _ _ ⟨by omega, by omega⟩).wK _ (by omega), fun _ => ?_⟩
      obtain ⟨ok5, rfl, l6, u6, hq6⟩ := h6 ok3
      rw [sI_o (by omega)] at ok5
      obtain ⟨ok4, rfl, l5, u5, hq5⟩ := h5 ok5
      rw [sI_o (by omega)] at ok4
      obtain ⟨ok3', rfl, l4, u4, hq4⟩ := h4 ok4
      rw [sI_o (by omega)] at ok3'
      obtain ⟨ok2, rfl, l3, u3, hq3⟩ := h3 ok3'
      rw [sI_o (by omega)] at ok2
      obtain ⟨_, rfl, l2, u2, hq2⟩ := h2 ok2
      refine ⟨DR.fr ?_ F7 ht ho, by omega⟩
      have c200 : (200 : Int32).toInt = 200 := rfl
      rw [ii_0] at l6
      have c4 := D1.pv.c.2
      have eg1 : pn K1 60 = Int32.ofNat g := by rw [ep1, eg]
      refine D1.np ?_ ?_ ?_ ?_ ?_ ?_ ?_ ?_ ?_ ?_ ?_ ?_
      · simp only [pn_up]
        exact D1.pv.ush hg eg1 (by omega)
      · simp only [pn_up]
        exact D1.tr.ush D1.pv hg eg1 _ _ _ _ _
      · simp (disch := omega) only [pn_up, up_o]
      · intro k h4 _; simp (disch := omega) only [pn_up, up_o]
      · simp (disch := omega) only [dn_o]
      · intro a i x y; simp (disch := omega) only [sI_o]
      · simp (disch := omega) only [pn_up, up_o, sI_o]; exact D1.cc
      · simp (disch := omega) only [sI_o]; exact D1.td
      · simp (disch := omega) only [sI_o]; exact D1.tf
      · simp (disch := omega) only [sI_o]; exact D1.th
      · have c6 := D1.pv.cut.2
        intro c hc
        have hc' : c < (pn K1 41).toInt.toNat := by simpa (disch := omega) only [pn_up, up_o] using hc
        simp (disch := omega) only [pn_up, up_o]; exact D1.cs c hc'
      · intro k hk; simp (disch := omega) only [pn_up, up_o, sI_o]; exact D1.ck k hk
    · rw [if_neg ok3]
      exact ⟨_, _, q6, rfl, rfl, P6'.wK _ ⟨Or.inl (by decide), by decide⟩, G6.wK _ (by omega), fun z => absurd (by rw [sI_o (by omega)] at z; exact z) ok3⟩
  · rw [if_pos e, e1, f1, bd_s, bd_s, f2, bd_s]
    dsimp only
    rw [if_pos rfl, if_neg (P1.er er).1]
    exact ⟨I1, K1, q, rfl, rfl, P1, r1.gr ho, fun z => absurd z er⟩
end LAY
