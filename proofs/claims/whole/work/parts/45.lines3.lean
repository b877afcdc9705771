/-! LINES: mirror, shape, cut -/
theorem an_cg {P Q : Nat → Bool} : ∀ (d k : Nat), (∀ i, k ≤ i → i < k + d → P i = Q i) → an P d k = an Q d k
  | 0, k, _ => by rw [an_0, an_0]
  | d + 1, k, h => by rw [an_s, an_s, h k (by omega) (by omega), an_cg d (k + 1) (fun i a b => h i (by omega) (by omega))]
theorem an_last (P : Nat → Bool) : ∀ (d k : Nat), an P (d + 1) k = (an P d k || P (k + d))
  | 0, k => by rw [an_s, an_0, an_0, Nat.add_zero]; cases P k <;> rfl
  | d + 1, k => by
    rw [an_s, an_last P d (k + 1), an_s, show k + 1 + d = k + (d + 1) by omega]
    cases P k <;> rfl
theorem TR.ucut {I : gI} {T : Nat} {p : gP} (hp : PV p) (h : TR I T p) {c k0 : Nat} (hc : c < 6) (ec : p 41 = Int32.ofNat c) (hk0 : k0 < (p 4).toInt.toNat) {m : Nat} (em : I (T + 1 + 5 + 3 * k0) 8 = Int32.ofNat m) (hm : m < 6) (a b : Int32) : TR (sI (sI (sI I (T + 1 + 5 + 3 * k0 + 1) m a) (T + 1 + 5 + 3 * k0 + 2) m b) (T + 1 + 5 + 3 * k0) 8 (Int32.ofNat (m + 1))) T (up (up (up (up p (42 + 3 * c) (Int32.ofNat k0)) (42 + 3 * c + 1) a) (42 + 3 * c + 2) b) 41 (Int32.ofNat (c + 1))) := by
  have h4 := hp.c.2
  have h3 := hp.sh.2
  have hg := hp.ga.2
  have h6 := hp.cut.2
  have e1 := i_of (k := m + 1) (by omega)
  have e2 := i_tno (k := c + 1) (by omega)
  have e3 := i_tno (k := c) (by omega)
  have e4 := i_of (k := m) (by omega)
  refine TR.mk ?_ ?_ ?_ ?_ ?_ ?_ ?_ ?_ ?_ ?_ ?_ ?_ ?_ ?_ ?_ ?_ ?_ ?_ ?_ ?_ ?_ ?_ ?_
  · simp (disch := omega) only [up_o, sI_o, sI_k]
    exact h.w
  · simp (disch := omega) only [up_o, sI_o, sI_k]
    exact h.h
  · simp (disch := omega) only [up_o, sI_o, sI_k]
    exact h.f
  · simp (disch := omega) only [up_o, sI_o, sI_k]
    exact h.wl
  · simp (disch := omega) only [up_o, sI_o, sI_k]
    exact h.c
  · simp (disch := omega) only [up_o, sI_o, sI_k]
    exact h.shc
  · simp (disch := omega) only [up_o, sI_o, sI_k]
    exact h.gc
  · intro k hk
    have hk' : k < (p 4).toInt.toNat := by simpa (disch := omega) only [up_o] using hk
    simp (disch := omega) only [up_o, sI_o, sI_k]
    exact h.len k hk'
  · intro k hk
    have hk' : k < (p 4).toInt.toNat := by simpa (disch := omega) only [up_o] using hk
    simp (disch := omega) only [up_o, sI_o, sI_k]
    exact h.per k hk'
  · intro k hk
    have hk' : k < (p 4).toInt.toNat := by simpa (disch := omega) only [up_o] using hk
    simp (disch := omega) only [up_o, sI_o, sI_k]
    exact h.frm k hk'
  · intro k hk
    have hk' : k < (p 4).toInt.toNat := by simpa (disch := omega) only [up_o] using hk
    simp (disch := omega) only [up_o, sI_o, sI_k]
    exact h.unt k hk'
  · intro k hk
    have hk' : k < (p 4).toInt.toNat := by simpa (disch := omega) only [up_o] using hk
    simp (disch := omega) only [up_o, sI_o, sI_k]
    exact h.srt k hk'
  · intro k hk
    have hk' : k < (p 4).toInt.toNat := by simpa (disch := omega) only [up_o] using hk
    simp (disch := omega) only [up_o, sI_o, sI_k]
    exact h.shp k hk'
  · intro k hk
    have hk' : k < (p 4).toInt.toNat := by simpa (disch := omega) only [up_o] using hk
    by_cases q : k = k0
    · subst q
      rw [sI_self, e1]; omega
    · simp (disch := omega) only [sI_o]
      exact h.cc k hk'
  · intro k hk e
    have hk' : k < (p 4).toInt.toNat := by simpa (disch := omega) only [up_o] using hk
    have sp : sCutOff (up (up (up (up p (42 + 3 * c) (Int32.ofNat k0)) (42 + 3 * c + 1) a) (42 + 3 * c + 2) b) 41 (Int32.ofNat (c + 1))) k e = (sCutOff p k e || decide (Int32.ofNat k0 = Int32.ofNat k ∧ a ≤ e ∧ e ≤ b)) := by
      unfold sCutOff
      rw [up_t, e2, ec, e3, an_last]
      congr 1
      · apply an_cg
        intro i _ hi
        simp (disch := omega) only [up_o]
      · simp (disch := omega) only [up_o, up_t, Nat.zero_add]
    rw [sp, ← h.cut k hk' e]
    by_cases q : k = k0
    · subst q
      rw [sI_self, e1, show ((m + 1 : Nat) : Int).toNat = m + 1 from rfl, an_last, em, e4, show ((m : Nat) : Int).toNat = m from rfl]
      congr 1
      · apply an_cg
        intro i _ hi
        simp (disch := omega) only [sI_o, sI_k]
      · simp (disch := omega) only [sI_o, sI_self, sI_k, Nat.zero_add, true_and]
    · rw [decide_eq_false (p := Int32.ofNat k0 = Int32.ofNat k ∧ a ≤ e ∧ e ≤ b) (fun z => q ((i_oeq (by omega) (by omega)).mp z.1).symm), Bool.or_false]
      have z1 : ∀ cc, (sI (sI (sI I (T + 1 + 5 + 3 * k0 + 1) m a) (T + 1 + 5 + 3 * k0 + 2) m b) (T + 1 + 5 + 3 * k0) 8 (Int32.ofNat (m + 1))) (T + 1 + 5 + 3 * k + 1) cc = I (T + 1 + 5 + 3 * k + 1) cc := fun cc => by simp (disch := omega) only [sI_o]
      have z2 : ∀ cc, (sI (sI (sI I (T + 1 + 5 + 3 * k0 + 1) m a) (T + 1 + 5 + 3 * k0 + 2) m b) (T + 1 + 5 + 3 * k0) 8 (Int32.ofNat (m + 1))) (T + 1 + 5 + 3 * k + 2) cc = I (T + 1 + 5 + 3 * k + 2) cc := fun cc => by simp (disch := omega) only [sI_o]
      simp only [z1, z2]
      rw [sI_o (by omega), sI_o (by omega), sI_o (by omega)]
  · intro k hk
    have hk' : k < 4 := by simpa (disch := omega) only [up_o] using hk
    simp (disch := omega) only [up_o, sI_o, sI_k]
    exact h.mir k hk'
  · intro k hk
    have hk' : k < (p 60).toInt.toNat := by simpa (disch := omega) only [up_o] using hk
    simp (disch := omega) only [up_o, sI_o, sI_k]
    exact h.s0 k hk'
  · intro k hk
    have hk' : k < (p 60).toInt.toNat := by simpa (disch := omega) only [up_o] using hk
    simp (disch := omega) only [up_o, sI_o, sI_k]
    exact h.s1 k hk'
  · intro k hk
    have hk' : k < (p 60).toInt.toNat := by simpa (disch := omega) only [up_o] using hk
    simp (disch := omega) only [up_o, sI_o, sI_k]
    exact h.s2 k hk'
  · intro k hk
    have hk' : k < (p 60).toInt.toNat := by simpa (disch := omega) only [up_o] using hk
    simp (disch := omega) only [up_o, sI_o, sI_k]
    exact h.s3 k hk'
  · intro k hk
    have hk' : k < (p 60).toInt.toNat := by simpa (disch := omega) only [up_o] using hk
    simp (disch := omega) only [up_o, sI_o, sI_k]
    exact h.s4 k hk'
  · intro k hk
    have hk' : k < (p 76).toInt.toNat := by simpa (disch := omega) only [up_o] using hk
    simp (disch := omega) only [up_o, sI_o, sI_k]
    exact h.gx k hk'
  · intro k hk
    have hk' : k < (p 76).toInt.toNat := by simpa (disch := omega) only [up_o] using hk
    simp (disch := omega) only [up_o, sI_o, sI_k]
    exact h.gy k hk'
section LINES3
variable {n T1 o E q : Nat} {I K : gI}
theorem nm1 {s : Nat} (h : s < 1000) : ¬ (Int32.ofNat s = -1) := by
  intro z
  have := congrArg Int32.toInt z
  rw [i_of (by omega)] at this
  have c : (-1 : Int32).toInt = -1 := rfl
  omega
theorem l_mirror (hn : 2000 ≤ n) (P : PS E q I K o) (ok : I o 0 = 0) (D : DR T1 o I K) (ht : T1 = 95 ∨ T1 = 116) : LN n T1 o E q I K (F_X3_readMirror n T1 o I) (F_X10_readMirror n K) := by
  have ho := P.1
  obtain ⟨I1, K1, q1, e1, f1, P1, r1, ok1, hq1, _⟩ := nx (T1 := T1) hn (P.nx ok)
  have D1 := D.fr r1 ht ho
  obtain ⟨j, hj⟩ : ∃ j, n = j + 1 := ⟨n - 1, by omega⟩
  have g1 : GR T1 o I K I1 K1 := r1.gr ho
  have side : ∀ s, s < 4 → LN n T1 o E q I K (bd (L_X3_readSide n T1 o n 0 (Int32.ofNat s) I1) (fun v5 => bd (F_X3_readNumber n T1 o v5.2 (1 : Int32) (100 : Int32)) (fun v13 => (if (v13.2 o 0) = 0 then gv v5.1 4 (some (sI v13.2 (T1 + 5) (Int32.toNatClampNeg v5.1) v13.1)) else some v13.2)))) (L_X10_readMirror n n 0 (Int32.ofNat s) K1) := by
    intro s hs
    have a1 := L_X3_readSide_e0 n j T1 o (Int32.ofNat s) I1
    have a2 := L_X10_readMirror_e0 n j (Int32.ofNat s) K1
    rw [← hj] at a1 a2
    have m1 : I1 (T1 + 5) s = K1 (153 + 3) (33 + s) := D1.tr.mir s hs
    rw [a1, a2, if_neg (nm1 (by omega)), if_neg (nm1 (by omega))]
    simp (disch := omega) only [ix_33, gv_k, i_tno, m1]
    by_cases hz : K1 (153 + 3) (33 + s) ≤ 0
    · obtain ⟨I2, K2, q2, e2, f2, P2, r2, ok2, hq2, _⟩ := nx (T1 := T1) hn (P1.nx ok1)
      obtain ⟨v, w, I3, K3, q3, e3, f3, P3, r3, h3⟩ := nm' (T1 := T1) hn P2 (l := 1) (u := 100) (l' := 1) (fun _ => Or.inl rfl)
      simp (disch := omega) only [if_pos hz, e2, f2, bd_s, e3, f3, gv_k, i_tno]
      have g3 := (g1.trans (r2.gr ho)).trans (r3.gr ho)
      by_cases ok3 : I3 o 0 = 0
      · rw [if_pos ok3, if_pos (P3.ok5 ok3)]
        obtain ⟨_, rfl, l1, u1, hq3⟩ := h3 ok3
        have D3 := D1.fr (r2.trans r3) ht ho
        have c1 : (1 : Int32).toInt = 1 := rfl
        have c100 : (100 : Int32).toInt = 100 := rfl
        refine ⟨_, _, q3, rfl, rfl, (P3.wI (a := T1 + 5) (i := s) v ⟨Or.inl (by omega), by omega⟩).wK (b := 153 + 3) (j := 33 + s) v ⟨Or.inl (by decide), by decide⟩, (g3.wI (a := T1 + 5) s v ⟨by omega, by omega⟩).wK (b := 153 + 3) (j := 33 + s) v (by omega), fun _ => ⟨?_, by omega⟩⟩
        have c4 := D3.pv.c.2
        refine D3.np ?_ ?_ ?_ ?_ ?_ ?_ ?_ ?_ ?_ ?_ ?_ ?_
        · simp only [pn_up]; exact D3.pv.umir hs (by omega)
        · simp only [pn_up]; exact D3.tr.umir D3.pv hs _
        · simp (disch := omega) only [pn_up, up_o]
        · intro k h4 _; simp (disch := omega) only [pn_up, up_o]
        · simp (disch := omega) only [dn_o]
        · intro a i x y; simp (disch := omega) only [sI_o]
        · simp (disch := omega) only [pn_up, up_o, sI_o]; exact D3.cc
        · simp (disch := omega) only [sI_o]; exact D3.td
        · simp (disch := omega) only [sI_o]; exact D3.tf
        · simp (disch := omega) only [sI_o]; exact D3.th
        · intro c hc
          have hc' : c < (pn K3 41).toInt.toNat := by simpa (disch := omega) only [pn_up, up_o] using hc
          simp (disch := omega) only [pn_up, up_o]; exact D3.cs c hc'
        · intro k hk; simp (disch := omega) only [pn_up, up_o, sI_o]; exact D3.ck k hk
      · rw [if_neg ok3, if_neg (P3.er ok3).2.1]
        exact ⟨I3, K3, q3, rfl, rfl, P3, g3, fun z => absurd z ok3⟩
    · obtain ⟨I2, K2, b1, b2, P2, r2, er⟩ := fl (n := n) (T1 := T1) P1 (c := 3) (by decide)
      obtain ⟨v, w, I3, K3, q3, e3, f3, P3, r3, h3⟩ := nm' (T1 := T1) hn (P2 q1) (l := 1) (u := 100) (l' := 1) (fun _ => Or.inl rfl)
      have er3 : ¬ I3 o 0 = 0 := fun z => er (h3 z).1
      simp (disch := omega) only [if_neg hz, b1, b2, bd_s, nx_er (P2 q1) er, e3, f3]
      rw [if_neg er3, if_neg (P3.er er3).2.1]
      exact ⟨I3, K3, q3, rfl, rfl, P3, (g1.trans (r2.gr ho)).trans (r3.gr ho), fun z => absurd z er3⟩
  have none' : LN n T1 o E q I K (bd (L_X3_readSide n T1 o n 0 (-1 : Int32) I1) (fun v5 => bd (F_X3_readNumber n T1 o v5.2 (1 : Int32) (100 : Int32)) (fun v13 => (if (v13.2 o 0) = 0 then gv v5.1 4 (some (sI v13.2 (T1 + 5) (Int32.toNatClampNeg v5.1) v13.1)) else some v13.2)))) (L_X10_readMirror n n 0 (-1 : Int32) K1) := by
    have a1 := L_X3_readSide_e0 n j T1 o (-1) I1
    have a2 := L_X10_readMirror_e0 n j (-1) K1
    rw [← hj] at a1 a2
    obtain ⟨I2, K2, b1, b2, P2, r2, er⟩ := fl (n := n) (T1 := T1) P1 (c := 1) (by decide)
    obtain ⟨v, w, I3, K3, q3, e3, f3, P3, r3, h3⟩ := nm' (T1 := T1) hn (P2 q1) (l := 1) (u := 100) (l' := 1) (fun _ => Or.inl rfl)
    have er3 : ¬ I3 o 0 = 0 := fun z => er (h3 z).1
    rw [a1, a2, if_pos rfl, if_pos rfl]
    simp only [b1, b2, bd_s, nx_er (P2 q1) er, e3, f3]
    rw [if_neg er3, if_neg (P3.er er3).2.1]
    exact ⟨I3, K3, q3, rfl, rfl, P3, (g1.trans (r2.gr ho)).trans (r3.gr ho), fun z => absurd z er3⟩
  unfold F_X3_readMirror F_X10_readMirror
  rw [e1, f1, bd_s, bd_s]
  unfold F_X3_readSide
  obtain ⟨b13, x13, y13, _⟩ := iw (T1 := T1) hn P1 ok1 (w := 13) (by decide) (by decide)
  obtain ⟨b14, x14, y14, _⟩ := iw (T1 := T1) hn P1 ok1 (w := 14) (by decide) (by decide)
  obtain ⟨b15, x15, y15, _⟩ := iw (T1 := T1) hn P1 ok1 (w := 15) (by decide) (by decide)
  obtain ⟨b16, x16, y16, _⟩ := iw (T1 := T1) hn P1 ok1 (w := 16) (by decide) (by decide)
  rw [x13, y13, bd_s, bd_s]
  have f0 : b2 false = 0 := rfl
  have t1 : ¬ b2 true = 0 := by decide
  cases b13
  · rw [if_pos f0, if_pos f0, x14, y14, bd_s, bd_s]
    cases b14
    · rw [if_pos f0, if_pos f0, x15, y15, bd_s, bd_s]
      cases b15
      · rw [if_pos f0, if_pos f0, x16, y16, bd_s, bd_s]
        cases b16
        · rw [if_pos f0, if_pos f0]; exact none'
        · rw [if_neg t1, if_neg t1]; exact side 3 (by decide)
      · rw [if_neg t1, if_neg t1]; exact side 2 (by decide)
    · rw [if_neg t1, if_neg t1]; exact side 1 (by decide)
  · rw [if_neg t1, if_neg t1]; exact side 0 (by decide)
theorem l_shape (hn : 2000 ≤ n) (P : PS E q I K o) (ok : I o 0 = 0) (D : DR T1 o I K) (ht : T1 = 95 ∨ T1 = 116) : LN n T1 o E q I K (F_X3_readShape n T1 o I) (F_X10_readShape n K) := by
  have ho := P.1
  obtain ⟨I1, K1, q1, e1, f1, P1, r1, ok1, hq1, _⟩ := nx (T1 := T1) hn (P.nx ok)
  have D1 := D.fr r1 ht ho
  obtain ⟨j, hj⟩ : ∃ j, n = j + 1 := ⟨n - 1, by omega⟩
  have g1 : GR T1 o I K I1 K1 := r1.gr ho
  obtain ⟨v, w, I2, K2, q2, e2, f2, P2, r2, h2⟩ := so hn P1 ok1 D1.pv.c.1 D1.tr.c (by omega) rfl (I1 o 13)
  have fin : ∀ (I3 K3 : gI) (q3 : Nat) (x : Int32), PS E q3 I3 K3 o → FR I2 K2 I3 K3 o → (I3 o 0 = 0 → I2 o 0 = 0 ∧ q2 ≤ q3) → LN n T1 o E q I K (if (I3 o 0) = 0 then gv v 4 (some (sI (sI I3 o 13 ((I3 o 13) ||| ((1 : Int32) <<< (v &&& 31)))) ((T1 + 1) + 5 + 3 * (Int32.toNatClampNeg v)) 7 x)) else some I3) (L_X10_readShape n n 0 w x K3) := by
    intro I3 K3 q3 x P3 r3 h3
    have a2 := L_X10_readShape_e0 n j w x K3
    rw [← hj] at a2
    rw [a2]
    have g3 := (g1.trans (r2.gr ho)).trans (r3.gr ho)
    by_cases ok3 : I3 o 0 = 0
    · obtain ⟨ok2, hq3⟩ := h3 ok3
      obtain ⟨_, rfl, v0, v1, hq2⟩ := h2 ok2
      have D3 := D1.fr (r2.trans r3) ht ho
      obtain ⟨k, hk, hk4, rfl⟩ := src_kk D1.pv v0 v1
      have ep : pn K3 = pn K1 := by funext i; exact (r2.trans r3).2 _ _ (Or.inl (by decide))
      have hk' : k < (pn K3 4).toInt.toNat := by rw [ep]; exact hk
      rw [if_pos ok3, if_pos (by rw [P3.ok5 ok3]; decide)]
      simp (disch := omega) only [ix_37, gv_k, i_tno, D3.th]
      have PX := ((P3.wI (a := o) (i := 13) (K3 153 22 ||| ((1 : Int32) <<< (Int32.ofNat k &&& 31))) ⟨Or.inr (by decide), by omega⟩).wI (a := T1 + 1 + 5 + 3 * k) (i := 7) x ⟨Or.inl (by omega), by omega⟩)
      have PY := (PX.wK (b := 153) (j := 22) (K3 153 22 ||| ((1 : Int32) <<< (Int32.ofNat k &&& 31))) ⟨Or.inr (by decide), by decide⟩).wK (b := 153 + 3) (j := 37 + k) x ⟨Or.inl (by decide), by decide⟩
      have GX := ((g3.wI (a := o) 13 (K3 153 22 ||| ((1 : Int32) <<< (Int32.ofNat k &&& 31))) ⟨Or.inl rfl, by omega⟩).wI (a := T1 + 1 + 5 + 3 * k) 7 x ⟨by omega, by omega⟩)
      have GY := (GX.wK (b := 153) (j := 22) (K3 153 22 ||| ((1 : Int32) <<< (Int32.ofNat k &&& 31))) (by omega)).wK (b := 153 + 3) (j := 37 + k) x (by omega)
      refine ⟨_, _, q3, rfl, rfl, PY, GY, fun _ => ⟨?_, by omega⟩⟩
      have c4 := D3.pv.c.2
      have hp' : pn (sI (sI K3 153 22 (K3 153 22 ||| ((1 : Int32) <<< (Int32.ofNat k &&& 31)))) (153 + 3) (37 + k) x) = up (pn K3) (37 + k) x := by rw [pn_up, pn_o (by decide)]
      refine D3.np ?_ ?_ ?_ ?_ ?_ ?_ ?_ ?_ ?_ ?_ ?_ ?_
      · rw [hp']; exact D3.pv.ushp hk4 x
      · rw [hp']
        exact TR.ushp D3.pv (D3.tr.cg D3.pv.c.2 D3.pv.sh.2 (fun a i x y => by rw [sI_o (by omega)])) hk4 x
      · rw [hp', up_o (by omega)]
      · intro k' h4 hge; rw [hp', up_o (by omega)]
      · rw [dn_o (by decide), dn_o (by decide)]
      · intro a i x y; simp (disch := omega) only [sI_o]
      · rw [hp', up_o (by omega)]; simp (disch := omega) only [sI_o, sI_k]; exact D3.cc
      · simp (disch := omega) only [sI_o, sI_k]; exact D3.td
      · simp (disch := omega) only [sI_o, sI_k]; exact D3.tf
      · simp (disch := omega) only [sI_o, sI_k, sI_self]
      · intro c hc
        rw [hp'] at hc ⊢
        have c6 := D3.pv.cut.2
        rw [up_o (by omega)] at hc
        rw [up_o (by omega)]; exact D3.cs c hc
      · intro k' hk'; rw [hp', up_o (by omega)]; simp (disch := omega) only [sI_o, sI_k]; exact D3.ck k' hk'
    · rw [if_neg ok3, if_neg (P3.er ok3).1]
      exact ⟨I3, K3, q3, rfl, rfl, P3, g3, fun z => absurd z ok3⟩
  unfold F_X3_readShape F_X10_readShape
  rw [e1, f1, bd_s, bd_s, ← D1.th, e2, f2, bd_s, bd_s]
  dsimp only
  obtain ⟨b3, I3, K3, q3, e3, f3, P3, r3, z3, hb3, hq3⟩ := tw (T1 := T1) hn P2 (w := 19) (by decide) (by decide)
  rw [e3, f3, bd_s, bd_s]
  dsimp only
  have f0 : b2 false = 0 := rfl
  have t1 : ¬ b2 true = 0 := by decide
  have w3 : I3 o 0 = 0 → I2 o 0 = 0 ∧ q2 ≤ q3 := fun z => ⟨z3 ▸ z, hq3 (z3 ▸ z)⟩
  cases b3
  · rw [if_pos f0, if_pos f0]
    obtain ⟨b4, I4, K4, q4, e4, f4, P4, r4, z4, hb4, hq4⟩ := tw (T1 := T1) hn P3 (w := 20) (by decide) (by decide)
    rw [e4, f4, bd_s, bd_s]
    dsimp only
    have w4 : I4 o 0 = 0 → I2 o 0 = 0 ∧ q2 ≤ q4 := fun z => ⟨(w3 (z4 ▸ z)).1, Nat.le_trans (w3 (z4 ▸ z)).2 (hq4 (z4 ▸ z))⟩
    cases b4
    · rw [if_pos f0, if_pos f0]
      obtain ⟨I5, K5, x1, x2, P5, r5, er⟩ := fl (n := n) (T1 := T1) P4 (c := 1) (by decide)
      rw [x1, x2, bd_s, bd_s, if_neg er]
      have a2 := L_X10_readShape_e0 n j w (-1) K5
      rw [← hj] at a2
      rw [a2, if_neg ((P5 q4).er er).1]
      exact ⟨I5, K5, q4, rfl, rfl, P5 q4, (((g1.trans (r2.gr ho)).trans (r3.gr ho)).trans (r4.gr ho)).trans (r5.gr ho), fun z => absurd z er⟩
    · rw [if_neg t1, if_neg t1]
      exact fin I4 K4 q4 2 P4 (r3.trans r4) w4
  · rw [if_neg t1, if_neg t1]
    exact fin I3 K3 q3 1 P3 r3 w3
theorem l_cut (hn : 2000 ≤ n) (P : PS E q I K o) (ok : I o 0 = 0) (D : DR T1 o I K) (ht : T1 = 95 ∨ T1 = 116) : LN n T1 o E q I K (F_X3_readCut n T1 o I) (F_X10_readCut n K) := by
  have ho := P.1
  have hcu := D.pv.cut
  have hc4 := D.pv.c
  have kg : K (153 + 3) 41 = pn K 41 := rfl
  unfold F_X3_readCut F_X10_readCut
  rw [kg, D.cc]
  rcases sc (T1 := T1) hn P ok (c := pn K 41) (m := 6) (by show (pn K 41).toInt ≤ 6; omega) with ⟨ne, I1, K1, q1, e1, f1, P1, r1, ok1, hq1⟩ | ⟨e, I1, K1, K2, e1, f1, f2, P1, r1, er⟩
  · have D1 := D.fr r1 ht ho
    have ne' : (pn K 41).toInt ≠ 6 := fun z => ne (i_eq.mpr z)
    obtain ⟨c, hc, eg⟩ := cntg (m := 6) hcu.1 hcu.2 ne'
    rw [if_neg ne, e1, f1, bd_s, bd_s]
    dsimp only
    rw [if_neg (show ¬ (1 : Int32) = 0 by decide), if_pos (show K1 153 5 ≤ 0 by rw [P1.ok5 ok1]; decide), eg]
    have ep1 : pn K1 = pn K := by funext i; exact r1.2 _ _ (Or.inl (by decide))
    have a1 : I1 T1 5 = pn K 4 := by rw [D1.tr.c, ep1]
    have c1 : K1 (153 + 3) 4 = pn K 4 := by rw [← ep1]; rfl
    have n1 : K1 (153 + 3) 41 = Int32.ofNat c := by rw [← eg, ← ep1]; rfl
    have G1 : GR T1 o I K I1 K1 := r1.gr ho
    obtain ⟨v2, w2, I2, K2, q2, e2, f2, P2, r2, h2⟩ := nm' (T1 := T1) hn P1 (l := 0) (u := pn K 4 - 1) (l' := 0) (fun _ => Or.inl rfl)
    have P2' := P2.wK (b := 153 + 3) (j := 42 + 3 * c) w2 ⟨Or.inl (by decide), by decide⟩
    have F2 := r2.wK (153 + 3) (42 + 3 * c) w2
    have G2 := (G1.trans (r2.gr (T1 := T1) ho)).wK (b := 153 + 3) (j := 42 + 3 * c) w2 (by omega)
    obtain ⟨v3, w3, I3, K3, q3, e3, f3, P3, r3, h3⟩ := nm' (T1 := T1) hn P2' (l := 0) (u := 9999) (l' := 0) (fun _ => Or.inl rfl)
    have P3' := P3.wK (b := 153 + 3) (j := 42 + 3 * c + 1) w3 ⟨Or.inl (by decide), by decide⟩
    have F3 := (F2.trans r3).wK (153 + 3) (42 + 3 * c + 1) w3
    have G3 := (G2.trans (r3.gr (T1 := T1) ho)).wK (b := 153 + 3) (j := 42 + 3 * c + 1) w3 (by omega)
    obtain ⟨v4, w4, I4, K4, q4, e4, f4, P4, r4, h4⟩ := nm' (T1 := T1) hn P3' (l := v3) (u := 9999) (l' := w3) (fun z => Or.inl (h3 z).2.1.symm)
    have P4' := P4.wK (b := 153 + 3) (j := 42 + 3 * c + 2) w4 ⟨Or.inl (by decide), by decide⟩
    have F4 := (F3.trans r4).wK (153 + 3) (42 + 3 * c + 2) w4
    have G4 := (G3.trans (r4.gr (T1 := T1) ho)).wK (b := 153 + 3) (j := 42 + 3 * c + 2) w4 (by omega)
    have n4 : K4 (153 + 3) 41 = Int32.ofNat c := by rw [(F3.trans r4).2 _ _ (Or.inl (by decide))]; simp (disch := omega) only [sI_k]; exact n1
    simp (disch := omega) only [im_3, ix_42, ixp_1, ixp_2, i_tno, gv_k, rsrc, a1, c1, e2, f2, bd_s, e3, f3, sI_self, e4, f4, sI_k, n4]
    have F5 := F4.wK (153 + 3) 41 (Int32.ofNat (c + 1))
    have P5 := P4'.wK (b := 153 + 3) (j := 41) (Int32.ofNat (c + 1)) ⟨Or.inl (by decide), by decide⟩
    have G5 := G4.wK (b := 153 + 3) (j := 41) (Int32.ofNat (c + 1)) (by omega)
    by_cases ok4 : I4 o 0 = 0
    · rw [if_pos ok4]
      obtain ⟨ok3, rfl, l4, u4, hq4⟩ := h4 ok4
      obtain ⟨ok2, rfl, l3, u3, hq3⟩ := h3 ok3
      obtain ⟨_, rfl, l2, u2, hq2⟩ := h2 ok2
      rw [ii_0] at l2 l3
      have em4 : (pn K 4 - 1).toInt = (pn K 4).toInt - 1 := i_m1 (by omega)
      obtain ⟨k, hk, hk4, rfl⟩ := src_kk D.pv (v := v2) (by omega) (by omega)
      have hk1 : k < (pn K1 4).toInt.toNat := by rw [ep1]; exact hk
      have mc := D1.tr.cc k hk1
      have mk := D1.ck k hk1
      rw [ep1, eg, i_of (by omega)] at mk
      obtain ⟨m, hm, em⟩ := cntg (v := I1 (T1 + 1 + 5 + 3 * k) 8) (m := 6) mc.1 mc.2 (by omega)
      have hmc : m ≤ c := by rw [em, i_of (by omega)] at mk; omega
      have em4' : I4 (T1 + 1 + 5 + 3 * k) 8 = Int32.ofNat m := by rw [F5.1 _ _ (Or.inl (by omega)), em]
      have m6 : ¬ ((6 : Int32) ≤ Int32.ofNat m) := by rw [i_le, i_of (by omega)]; show ¬ ((6 : Int) ≤ m); omega
      have cc4 : I4 o 10 = Int32.ofNat c := by rw [F5.1 _ _ (Or.inr (by decide)), D1.cc, ep1, eg]
      unfold F_X8_addCut
      simp (disch := omega) only [i_tno, gv_k, em4', if_neg m6, sI_o, sI_k, ixp_1, bd_s, cc4]
      have F6 := ((F5.wI (T1 + 1 + 5 + 3 * k + 1) m v3).wI (T1 + 1 + 5 + 3 * k + 2) m v4).wI (T1 + 1 + 5 + 3 * k) 8 (Int32.ofNat (m + 1))
      have F7 := F6.wI o 10 (Int32.ofNat (c + 1))
      refine ⟨_, _, q4, rfl, rfl, (((P5.wI _ ⟨Or.inl (by omega), by omega⟩).wI _ ⟨Or.inl (by omega), by omega⟩).wI _ ⟨Or.inl (by omega), by omega⟩).wI _ ⟨Or.inr (by decide), by omega⟩, (((G5.wI _ _ ⟨by omega, by omega⟩).wI _ _ ⟨by omega, by omega⟩).wI _ _ ⟨by omega, by omega⟩).wI _ _ ⟨Or.inl rfl, by omega⟩, fun _ => ?_⟩
      refine ⟨DR.fr ?_ F7 ht ho, by omega⟩
      have c4 := D1.pv.c.2
      have eg1 : pn K1 41 = Int32.ofNat c := by rw [ep1, eg]
      have ic1 := i_of (k := c + 1) (by omega)
      have ick := i_of (k := k) (by omega)
      have icc := i_of (k := c) (by omega)
      refine D1.np ?_ ?_ ?_ ?_ ?_ ?_ ?_ ?_ ?_ ?_ ?_ ?_
      · simp only [pn_up]
        exact D1.pv.ucut hc _ _ _
      · simp only [pn_up]
        exact (TR.ucut D1.pv D1.tr hc eg1 hk1 em hm v3 v4).cg (by simp (disch := omega) only [up_o]; exact c4) (by simp (disch := omega) only [up_o]; exact D1.pv.sh.2) (fun a i x y => by rw [sI_o (by omega)])
      · simp (disch := omega) only [pn_up, up_o]
      · intro k h4 _; simp (disch := omega) only [pn_up, up_o]
      · simp (disch := omega) only [dn_o]
      · intro a i x y; simp (disch := omega) only [sI_o]
      · simp (disch := omega) only [pn_up, up_t, sI_self]
      · simp (disch := omega) only [sI_o, sI_k]; exact D1.td
      · simp (disch := omega) only [sI_o, sI_k]; exact D1.tf
      · simp (disch := omega) only [sI_o, sI_k]; exact D1.th
      · intro c' hc'
        simp only [pn_up, up_t, ic1] at hc'
        by_cases hh : c' = c
        · subst hh
          simp (disch := omega) only [pn_up, up_o, up_t, ep1]; omega
        · simp (disch := omega) only [pn_up, up_o]; exact D1.cs c' (by rw [eg1, icc]; omega)
      · intro k' hk'
        simp only [pn_up, up_t, ic1]
        by_cases hh : k' = k
        · subst hh
          rw [sI_o (by omega), sI_self, i_of (by omega)]; omega
        · simp (disch := omega) only [sI_o, sI_k]
          have := D1.ck k' hk'
          rw [eg1, icc] at this; omega
    · rw [if_neg ok4]
      exact ⟨_, _, q4, rfl, rfl, P5, G5, fun z => absurd z ok4⟩
  · rw [if_pos e, e1, f1, bd_s, bd_s, f2, bd_s]
    dsimp only
    rw [if_pos rfl, if_neg (P1.er er).1]
    exact ⟨I1, K1, q, rfl, rfl, P1, r1.gr ho, fun z => absurd z er⟩
end LINES3
