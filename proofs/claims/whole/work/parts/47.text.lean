/-! THE WHOLE TEXT IS READ -/
section WHOLE
variable {n T1 o E q : Nat} {I K I0 K0 : gI}
/-- before the head: nothing yet -/
def ZZ (T1 o : Nat) (I K : gI) : Prop := (I T1 4 = -1) ∧ (I T1 5 = 0) ∧ (I T1 7 = 0) ∧ (I T1 9 = 0) ∧ (∀ i, i < 4 → I (T1 + 5) i = 0) ∧ (I 10 0 = 0) ∧ (I 10 1 = 0) ∧ (TB I) ∧ (I o 10 = 0) ∧ (I o 11 = 0) ∧ (I o 12 = 0) ∧ (I o 13 = 0) ∧ (∀ i, i < 85 → K (153 + 3) i = 0) ∧ (∀ i, i < 30 → K (153 + 5) i = 0) ∧ (K 153 20 = 0) ∧ (K 153 21 = 0) ∧ (K 153 22 = 0)
theorem ZZ.wl {T1 o : Nat} {I K : gI} (H : ZZ T1 o I K) : I T1 4 = -1 := H.1
theorem ZZ.c {T1 o : Nat} {I K : gI} (H : ZZ T1 o I K) : I T1 5 = 0 := H.2.1
theorem ZZ.shc {T1 o : Nat} {I K : gI} (H : ZZ T1 o I K) : I T1 7 = 0 := H.2.2.1
theorem ZZ.gc {T1 o : Nat} {I K : gI} (H : ZZ T1 o I K) : I T1 9 = 0 := H.2.2.2.1
theorem ZZ.mir {T1 o : Nat} {I K : gI} (H : ZZ T1 o I K) : ∀ i, i < 4 → I (T1 + 5) i = 0 := H.2.2.2.2.1
theorem ZZ.nw {T1 o : Nat} {I K : gI} (H : ZZ T1 o I K) : I 10 0 = 0 := H.2.2.2.2.2.1
theorem ZZ.op {T1 o : Nat} {I K : gI} (H : ZZ T1 o I K) : I 10 1 = 0 := H.2.2.2.2.2.2.1
theorem ZZ.tb {T1 o : Nat} {I K : gI} (H : ZZ T1 o I K) : TB I := H.2.2.2.2.2.2.2.1
theorem ZZ.c0 {T1 o : Nat} {I K : gI} (H : ZZ T1 o I K) : I o 10 = 0 := H.2.2.2.2.2.2.2.2.1
theorem ZZ.c1 {T1 o : Nat} {I K : gI} (H : ZZ T1 o I K) : I o 11 = 0 := H.2.2.2.2.2.2.2.2.2.1
theorem ZZ.c2 {T1 o : Nat} {I K : gI} (H : ZZ T1 o I K) : I o 12 = 0 := H.2.2.2.2.2.2.2.2.2.2.1
theorem ZZ.c3 {T1 o : Nat} {I K : gI} (H : ZZ T1 o I K) : I o 13 = 0 := H.2.2.2.2.2.2.2.2.2.2.2.1
theorem ZZ.k {T1 o : Nat} {I K : gI} (H : ZZ T1 o I K) : ∀ i, i < 85 → K (153 + 3) i = 0 := H.2.2.2.2.2.2.2.2.2.2.2.2.1
theorem ZZ.d {T1 o : Nat} {I K : gI} (H : ZZ T1 o I K) : ∀ i, i < 30 → K (153 + 5) i = 0 := H.2.2.2.2.2.2.2.2.2.2.2.2.2.1
theorem ZZ.k0 {T1 o : Nat} {I K : gI} (H : ZZ T1 o I K) : K 153 20 = 0 := H.2.2.2.2.2.2.2.2.2.2.2.2.2.2.1
theorem ZZ.k1 {T1 o : Nat} {I K : gI} (H : ZZ T1 o I K) : K 153 21 = 0 := H.2.2.2.2.2.2.2.2.2.2.2.2.2.2.2.1
theorem ZZ.k2 {T1 o : Nat} {I K : gI} (H : ZZ T1 o I K) : K 153 22 = 0 := H.2.2.2.2.2.2.2.2.2.2.2.2.2.2.2.2
theorem ZZ.mk {T1 o : Nat} {I K : gI} (x_wl : I T1 4 = -1) (x_c : I T1 5 = 0) (x_shc : I T1 7 = 0) (x_gc : I T1 9 = 0) (x_mir : ∀ i, i < 4 → I (T1 + 5) i = 0) (x_nw : I 10 0 = 0) (x_op : I 10 1 = 0) (x_tb : TB I) (x_c0 : I o 10 = 0) (x_c1 : I o 11 = 0) (x_c2 : I o 12 = 0) (x_c3 : I o 13 = 0) (x_k : ∀ i, i < 85 → K (153 + 3) i = 0) (x_d : ∀ i, i < 30 → K (153 + 5) i = 0) (x_k0 : K 153 20 = 0) (x_k1 : K 153 21 = 0) (x_k2 : K 153 22 = 0) : ZZ T1 o I K := by
  unfold ZZ
  exact ⟨x_wl, x_c, x_shc, x_gc, x_mir, x_nw, x_op, x_tb, x_c0, x_c1, x_c2, x_c3, x_k, x_d, x_k0, x_k1, x_k2⟩
theorem ZZ.fr {I' K' : gI} (Z : ZZ T1 o I K) (h : FR I K I' K' o) (ht : T1 = 95 ∨ T1 = 116) (ho : 172 ≤ o) : ZZ T1 o I' K' := by
  have hI : ∀ a i, a ≠ o → I' a i = I a i := fun a i x => h.1 a i (Or.inl x)
  refine ZZ.mk ?_ ?_ ?_ ?_ ?_ ?_ ?_ ?_ ?_ ?_ ?_ ?_ ?_ ?_ ?_ ?_ ?_
  · rw [hI _ _ (by omega)]; exact Z.wl
  · rw [hI _ _ (by omega)]; exact Z.c
  · rw [hI _ _ (by omega)]; exact Z.shc
  · rw [hI _ _ (by omega)]; exact Z.gc
  · intro i hi; rw [hI _ _ (by omega)]; exact Z.mir i hi
  · rw [hI _ _ (by omega)]; exact Z.nw
  · rw [hI _ _ (by omega)]; exact Z.op
  · intro k hk; rw [hI _ _ (by omega)]; exact Z.tb k hk
  · rw [h.1 _ _ (Or.inr (by decide))]; exact Z.c0
  · rw [h.1 _ _ (Or.inr (by decide))]; exact Z.c1
  · rw [h.1 _ _ (Or.inr (by decide))]; exact Z.c2
  · rw [h.1 _ _ (Or.inr (by decide))]; exact Z.c3
  · intro i hi; rw [h.2 _ _ (Or.inl (by decide))]; exact Z.k i hi
  · intro i hi; rw [h.2 _ _ (Or.inl (by decide))]; exact Z.d i hi
  · rw [h.2 _ _ (Or.inr (Or.inr (by decide)))]; exact Z.k0
  · rw [h.2 _ _ (Or.inr (Or.inr (by decide)))]; exact Z.k1
  · rw [h.2 _ _ (Or.inr (Or.inr (by decide)))]; exact Z.k2
/-- the head makes a tank without anything -/
theorem ZZ.dr {I' K' : gI} (Z : ZZ T1 o I K) (ho : 172 ≤ o) (ht : T1 = 95 ∨ T1 = 116) (hi : ∀ a i, (a ≠ T1 ∨ i = 0 ∨ 4 < i) → I' a i = I a i) (hk : ∀ a i, (a ≠ 156 ∨ 3 < i) → K' a i = K a i) (e1 : I' T1 1 = K' (153 + 3) 0) (e2 : I' T1 2 = K' (153 + 3) 1) (e3 : I' T1 3 = K' (153 + 3) 2) (e4 : I' T1 4 = K' (153 + 3) 3) (b1 : 1 ≤ (K' (153 + 3) 0).toInt ∧ (K' (153 + 3) 0).toInt ≤ 16) (b2 : 1 ≤ (K' (153 + 3) 1).toInt ∧ (K' (153 + 3) 1).toInt ≤ 10) (b3 : 0 ≤ (K' (153 + 3) 2).toInt ∧ (K' (153 + 3) 2).toInt ≤ 9999) (b4 : -1 ≤ (K' (153 + 3) 3).toInt ∧ (K' (153 + 3) 3).toInt < (K' (153 + 3) 0).toInt) : DR T1 o I' K' := by
  have z : ∀ i, 3 < i → i < 85 → pn K' i = 0 := fun i h1 h2 => (hk _ _ (Or.inr h1)).trans (Z.k i h2)
  have s : ∀ i, i < 30 → dn K' i = 0 := fun i h2 => (hk _ _ (Or.inl (by decide))).trans (Z.d i h2)
  have n4 : ∀ k, k < (pn K' 4).toInt.toNat → False := by
    intro k h; rw [z 4 (by decide) (by decide)] at h; exact absurd h (Nat.not_lt_zero _)
  have n60 : ∀ k, k < (pn K' 60).toInt.toNat → False := by
    intro k h; rw [z 60 (by decide) (by decide)] at h; exact absurd h (Nat.not_lt_zero _)
  have n76 : ∀ k, k < (pn K' 76).toInt.toNat → False := by
    intro k h; rw [z 76 (by decide) (by decide)] at h; exact absurd h (Nat.not_lt_zero _)
  have n41 : ∀ k, k < (pn K' 41).toInt.toNat → False := by
    intro k h; rw [z 41 (by decide) (by decide)] at h; exact absurd h (Nat.not_lt_zero _)
  have hI : ∀ a i, a ≠ T1 → I' a i = I a i := fun a i x => hi a i (Or.inl x)
  refine DR.mk ?_ ?_ ?_ ?_ ?_ ?_ ?_ ?_ ?_ ?_ ?_
  · refine PV.mk b1 b2 b3 b4 ?_ (fun k h => (n4 k h).elim) (fun k h => (n4 k h).elim) (fun k h => (n4 k h).elim) (fun k h => (n4 k h).elim) (fun k h => (n4 k h).elim) ?_ ?_ ?_ (fun k h => (n60 k h).elim) ?_ (fun k h => (n76 k h).elim) (fun k h => (n76 k h).elim)
    · rw [z 4 (by decide) (by decide)]; decide
    · intro i hi; rw [z _ (by omega) (by omega)]; decide
    · rw [z 41 (by decide) (by decide)]; decide
    · rw [z 60 (by decide) (by decide)]; decide
    · rw [z 76 (by decide) (by decide)]; decide
  · refine TR.mk e1 e2 e3 e4 ?_ ?_ ?_ (fun k h => (n4 k h).elim) (fun k h => (n4 k h).elim) (fun k h => (n4 k h).elim) (fun k h => (n4 k h).elim) (fun k h => (n4 k h).elim) (fun k h => (n4 k h).elim) (fun k h => (n4 k h).elim) (fun k h => (n4 k h).elim) ?_ (fun k h => (n60 k h).elim) (fun k h => (n60 k h).elim) (fun k h => (n60 k h).elim) (fun k h => (n60 k h).elim) (fun k h => (n60 k h).elim) (fun k h => (n76 k h).elim) (fun k h => (n76 k h).elim)
    · rw [hi _ _ (Or.inr (Or.inr (by decide))), z 4 (by decide) (by decide)]; exact Z.c
    · rw [hi _ _ (Or.inr (Or.inr (by decide))), z 60 (by decide) (by decide)]; exact Z.shc
    · rw [hi _ _ (Or.inr (Or.inr (by decide))), z 76 (by decide) (by decide)]; exact Z.gc
    · intro i h; rw [hI _ _ (by omega), z _ (by omega) (by omega)]; exact Z.mir i h
  · refine SR.mk ?_ ?_ ?_ (fun k h => (n4 k h).elim) (fun k h => (n4 k h).elim) (fun k h => (n4 k h).elim) (fun k h => (n4 k h).elim) (fun k h => (n4 k h).elim) (fun k h => (n4 k h).elim) (fun k h => (n4 k h).elim)
    · rw [hI _ _ (by omega), s 0 (by decide)]; exact Z.nw
    · rw [hI _ _ (by omega), s 1 (by decide)]; exact Z.op
    · intro k hk; rw [hI _ _ (by omega)]; exact Z.tb k hk
  · refine SV.mk ?_ ?_ ?_ (fun k h => (n4 k h).elim)
    · rw [s 0 (by decide)]; decide
    · rw [s 1 (by decide)]; decide
    · intro k hk; rw [s _ (by omega)]; exact Or.inl rfl
  · rw [hI _ _ (by omega), z 41 (by decide) (by decide)]; exact Z.c0
  · rw [hI _ _ (by omega), hk _ _ (Or.inl (by decide)), Z.k0]; exact Z.c1
  · rw [hI _ _ (by omega), hk _ _ (Or.inl (by decide)), Z.k1]; exact Z.c2
  · rw [hI _ _ (by omega), hk _ _ (Or.inl (by decide)), Z.k2]; exact Z.c3
  · intro k h4 _; exact ⟨z _ (by omega) (by omega), s _ (by omega), s _ (by omega)⟩
  · intro c h; exact (n41 c h).elim
  · intro k h; exact (n4 k h).elim
/-- a word told where there is none is a fault -/
theorem kwk (P : PS E q I K o) {w : Nat} {I' : gI} (h : F_X3_readWord n T1 o w I = some I') (ok : I' o 0 = 0) : I o 6 = 1 := by
  unfold F_X3_readWord F_X3_takeWord F_X3_isWord at h
  by_cases k : I o 6 = 1
  · exact k
  · exfalso
    by_cases z : I o 0 = 0
    · obtain ⟨I2, K2, g1, g2, P2, f2, er⟩ := fl (n := n) (T1 := T1) P (c := 1) (by decide)
      rw [if_pos z, if_neg k, bd_s, if_pos rfl, bd_s] at h
      dsimp only at h
      rw [if_pos rfl, g1, bd_s] at h
      exact er (by rw [Option.some.inj h]; exact ok)
    · have g1 : F_X3_fail n T1 o I 1 = some I := by unfold F_X3_fail; rw [if_neg z]
      rw [if_neg z, bd_s] at h
      dsimp only at h
      rw [if_pos rfl, g1, bd_s] at h
      exact z (by rw [Option.some.inj h]; exact ok)
theorem l_head (hn : 2000 ≤ n) (P : PS E q I K o) (Z : ZZ T1 o I K) (ht : T1 = 95 ∨ T1 = 116) : ∃ I' K' q', F_X3_readHead n T1 o I = some I' ∧ F_X10_readFirst n K = some K' ∧ PS E q' I' K' o ∧ GR T1 o I K I' K' ∧ (I' o 0 = 0 → DR T1 o I' K' ∧ q ≤ q' ∧ I o 6 = 1) := by
  have ho := P.1
  obtain ⟨I1, K1, q1, e1, f1, P1, r1, h1⟩ := kw (T1 := T1) hn P (w := 1) (by decide) (by decide)
  have hk1 := kwk P e1
  obtain ⟨I2, K2, q2, e2, f2, P2, r2, h2⟩ := kw (T1 := T1) hn P1 (w := 2) (by decide) (by decide)
  obtain ⟨v3, w3, I3, K3, q3, e3, f3, P3, r3, h3⟩ := nm' (T1 := T1) hn P2 (l := 1) (u := 16) (l' := 1) (fun _ => Or.inl rfl)
  have P3' := P3.wK (b := 153 + 3) (j := 0) w3 ⟨Or.inl (by decide), by decide⟩
  have F3 := ((r1.trans r2).trans r3).wK (153 + 3) 0 w3
  have G3 := (((r1.gr (T1 := T1) ho).trans (r2.gr ho)).trans (r3.gr ho)).wK (b := 153 + 3) (j := 0) w3 (by omega)
  obtain ⟨I4, K4, q4, e4, f4, P4, r4, h4⟩ := kw (T1 := T1) hn P3' (w := 3) (by decide) (by decide)
  obtain ⟨v5, w5, I5, K5, q5, e5, f5, P5, r5, h5⟩ := nm' (T1 := T1) hn P4 (l := 1) (u := 10) (l' := 1) (fun _ => Or.inl rfl)
  have P5' := P5.wK (b := 153 + 3) (j := 1) w5 ⟨Or.inl (by decide), by decide⟩
  have F5 := ((F3.trans r4).trans r5).wK (153 + 3) 1 w5
  have G5 := ((G3.trans (r4.gr (T1 := T1) ho)).trans (r5.gr ho)).wK (b := 153 + 3) (j := 1) w5 (by omega)
  obtain ⟨I6, K6, q6, e6, f6, P6, r6, h6⟩ := kw (T1 := T1) hn P5' (w := 4) (by decide) (by decide)
  obtain ⟨v7, w7, I7, K7, q7, e7, f7, P7, r7, h7⟩ := nm' (T1 := T1) hn P6 (l := 0) (u := 9999) (l' := 0) (fun _ => Or.inl rfl)
  have P7' := P7.wK (b := 153 + 3) (j := 2) w7 ⟨Or.inl (by decide), by decide⟩
  have F7 := ((F5.trans r6).trans r7).wK (153 + 3) 2 w7
  have G7 := ((G5.trans (r6.gr (T1 := T1) ho)).trans (r7.gr ho)).wK (b := 153 + 3) (j := 2) w7 (by omega)
  have ci0 : (0 : Int32).toInt = 0 := rfl
  have ci1 : (1 : Int32).toInt = 1 := rfl
  have ci10 : (10 : Int32).toInt = 10 := rfl
  have ci16 : (16 : Int32).toInt = 16 := rfl
  have ci9999 : (9999 : Int32).toInt = 9999 := rfl
  have cim : (-1 : Int32).toInt = -1 := rfl
  have bk : I7 o 0 = 0 → I o 6 = 1 ∧ v3 = w3 ∧ v5 = w5 ∧ v7 = w7 ∧ 1 ≤ v3.toInt ∧ v3.toInt ≤ 16 ∧ 1 ≤ v5.toInt ∧ v5.toInt ≤ 10 ∧ 0 ≤ v7.toInt ∧ v7.toInt ≤ 9999 ∧ q ≤ q7 := by
    intro z
    obtain ⟨z, x7, l7, u7, y7⟩ := h7 z
    obtain ⟨z, y6⟩ := h6 z
    obtain ⟨z, x5, l5, u5, y5⟩ := h5 z
    obtain ⟨z, y4⟩ := h4 z
    obtain ⟨z, x3, l3, u3, y3⟩ := h3 z
    obtain ⟨z, y2⟩ := h2 z
    obtain ⟨_, y1⟩ := h1 z
    exact ⟨hk1 z, x3, x5, x7, by omega, by omega, by omega, by omega, by omega, by omega, by omega⟩
  have w0 : K7 (153 + 3) 0 = w3 := by
    rw [((F5.trans r6).trans r7).2 _ _ (Or.inl (by decide))]
    simp (disch := omega) only [sI_k, sI_self]
  unfold F_X3_readHead F_X10_readFirst F_X10_gauge
  simp only [e1, f1, e2, f2, e3, f3, e4, f4, e5, f5, e6, f6, e7, f7, bd_s]
  by_cases ok7 : I7 o 0 = 0
  · rw [if_pos ok7]
    obtain ⟨kk, rfl, rfl, rfl, a1, a2, a3, a4, a5, a6, a7⟩ := bk ok7
    have PA := ((P7'.wI (a := T1) (i := 1) v3 ⟨Or.inl (by omega), by omega⟩).wI (a := T1) (i := 2) v5 ⟨Or.inl (by omega), by omega⟩).wI (a := T1) (i := 3) v7 ⟨Or.inl (by omega), by omega⟩
    have FA := ((F7.wI T1 1 v3).wI T1 2 v5).wI T1 3 v7
    have GA := ((G7.wI (a := T1) 1 v3 ⟨by omega, by omega⟩).wI (a := T1) 2 v5 ⟨by omega, by omega⟩).wI (a := T1) 3 v7 ⟨by omega, by omega⟩
    obtain ⟨b8, I8, K8, q8, e8, f8, P8, r8, z8, hb8, hq8⟩ := tw (T1 := T1) hn PA (w := 5) (by decide) (by decide)
    rw [e8, f8, bd_s, bd_s]
    dsimp only
    have ok7' : (sI (sI (sI I7 T1 1 v3) T1 2 v5) T1 3 v7) o 0 = 0 := by simp (disch := omega) only [sI_o]; exact ok7
    have y8 := hq8 ok7'
    have F8 := FA.trans r8
    have G8 := GA.trans (r8.gr (T1 := T1) ho)
    have w08 : K8 (153 + 3) 0 = v3 := by
      rw [r8.2 _ _ (Or.inl (by decide)), sI_k (by decide), w0]
    cases b8
    · rw [if_pos (show b2 false = 0 from rfl), if_pos (show b2 false = 0 from rfl)]
      have F9 := F8.wK (153 + 3) 3 (-1)
      refine ⟨_, _, q8, rfl, rfl, P8.wK (b := 153 + 3) (j := 3) (-1) ⟨Or.inl (by decide), by decide⟩, G8.wK (b := 153 + 3) (j := 3) (-1) (by omega), fun _ => ⟨DR.fr (ZZ.dr Z ho ht ?_ ?_ ?_ ?_ ?_ ?_ ?_ ?_ ?_ ?_) F9 ht ho, by omega, kk⟩⟩
      · intro a i h; simp only [sI_get]; repeat rw [if_neg (by omega)]
      · intro a i h; simp only [sI_get]; repeat rw [if_neg (by omega)]
      · simp (disch := omega) only [sI_k, sI_self]
      · simp (disch := omega) only [sI_k, sI_self]
      · simp (disch := omega) only [sI_k, sI_self]
      · simp (disch := omega) only [sI_k, sI_self]; exact Z.wl
      · simp (disch := omega) only [sI_k, sI_self]; omega
      · simp (disch := omega) only [sI_k, sI_self]; omega
      · simp (disch := omega) only [sI_k, sI_self]; omega
      · simp (disch := omega) only [sI_k, sI_self]; omega
    · rw [if_neg (show ¬ b2 true = 0 by decide), if_neg (show ¬ b2 true = 0 by decide), w08]
      obtain ⟨v9, w9, I9, K9, q9, e9, f9, P9, r9, h9⟩ := nm' (T1 := T1) hn P8 (l := 0) (u := v3 - 1) (l' := 0) (fun _ => Or.inl rfl)
      simp only [e9, f9, bd_s]
      have F9 := ((F8.trans r9).wI T1 4 v9).wK (153 + 3) 3 w9
      refine ⟨_, _, q9, rfl, rfl, (P9.wI (a := T1) (i := 4) v9 ⟨Or.inl (by omega), by omega⟩).wK (b := 153 + 3) (j := 3) w9 ⟨Or.inl (by decide), by decide⟩, ((G8.trans (r9.gr (T1 := T1) ho)).wI (a := T1) 4 v9 ⟨by omega, by omega⟩).wK (b := 153 + 3) (j := 3) w9 (by omega), fun z => ?_⟩
      rw [sI_o (by omega)] at z
      obtain ⟨_, rfl, l9, u9, y9⟩ := h9 z
      have em : (v3 - 1).toInt = v3.toInt - 1 := i_m1 (by omega)
      refine ⟨DR.fr (ZZ.dr Z ho ht ?_ ?_ ?_ ?_ ?_ ?_ ?_ ?_ ?_ ?_) F9 ht ho, by omega, kk⟩
      · intro a i h; simp only [sI_get]; repeat rw [if_neg (by omega)]
      · intro a i h; simp only [sI_get]; repeat rw [if_neg (by omega)]
      · simp (disch := omega) only [sI_k, sI_self]
      · simp (disch := omega) only [sI_k, sI_self]
      · simp (disch := omega) only [sI_k, sI_self]
      · simp (disch := omega) only [sI_k, sI_self]
      · simp (disch := omega) only [sI_k, sI_self]; omega
      · simp (disch := omega) only [sI_k, sI_self]; omega
      · simp (disch := omega) only [sI_k, sI_self]; omega
      · simp (disch := omega) only [sI_k, sI_self]; omega
  · rw [if_neg ok7]
    obtain ⟨b8, I8, K8, q8, e8, f8, P8, r8, z8, hb8, hq8⟩ := tw (T1 := T1) hn P7' (w := 5) (by decide) (by decide)
    rw [f8, bd_s]
    dsimp only
    have bf : b8 = false := by
      cases b8
      · rfl
      · exact absurd (hb8 rfl) ok7
    have nk : F_X10_takes n 5 (sI K7 (153 + 3) 2 w7) = some (0, sI K7 (153 + 3) 2 w7) := by
      have e := P7'.er ok7
      have e2 : F_X10_isWord n 5 (sI K7 (153 + 3) 2 w7) = some 0 := by unfold F_X10_isWord; rw [if_pos e.2.2]
      unfold F_X10_takes
      rw [e2, bd_s, if_pos rfl, gd_t (Or.inl rfl)]
    have e9 := f8.symm.trans nk
    have e10 := (Prod.mk.inj (Option.some.inj e9)).2
    rw [bf, if_pos (show b2 false = 0 from rfl), e10]
    exact ⟨_, _, q7, rfl, rfl, P7'.wK (b := 153 + 3) (j := 3) (-1) ⟨Or.inl (by decide), by decide⟩, G7.wK (b := 153 + 3) (j := 3) (-1) (by omega), fun z => absurd z ok7⟩
/-- a line, whatever it is -/
theorem l_line (hn : 2000 ≤ n) (P : PS E q I K o) (ok : I o 0 = 0) (D : DR T1 o I K) (ht : T1 = 95 ∨ T1 = 116) : ∃ I' K' q', F_X3_readLine n T1 o I = some I' ∧ F_X10_readLine n K = some K' ∧ PS E q' I' K' o ∧ GR T1 o I K I' K' ∧ (I' o 0 = 0 → DR T1 o I' K' ∧ q ≤ q' ∧ I o 6 = 1) := by
  have f0 : b2 false = 0 := rfl
  have t1 : ¬ b2 true = 0 := by decide
  have use : ∀ {c m : Option gI}, I o 6 = 1 → LN n T1 o E q I K c m → ∃ I' K' q', c = some I' ∧ m = some K' ∧ PS E q' I' K' o ∧ GR T1 o I K I' K' ∧ (I' o 0 = 0 → DR T1 o I' K' ∧ q ≤ q' ∧ I o 6 = 1) := by
    rintro c m h6 ⟨I', K', q', a, b, p, g, d⟩
    exact ⟨I', K', q', a, b, p, g, fun z => ⟨(d z).1, (d z).2, h6⟩⟩
  unfold F_X3_readLine F_X10_readLine
  simp only [bd_i]
  obtain ⟨b, x, y, hb⟩ := iw (T1 := T1) hn P ok (w := 6) (by decide) (by decide)
  rw [x, y, bd_s, bd_s]
  cases b
  case true => rw [if_neg t1, if_neg t1]; exact use (hb rfl) (l_train hn P ok D ht)
  rw [if_pos f0, if_pos f0]
  obtain ⟨b, x, y, hb⟩ := iw (T1 := T1) hn P ok (w := 9) (by decide) (by decide)
  rw [x, y, bd_s, bd_s]
  cases b
  case true => rw [if_neg t1, if_neg t1]; exact use (hb rfl) (l_drift hn P ok D ht)
  rw [if_pos f0, if_pos f0]
  obtain ⟨b, x, y, hb⟩ := iw (T1 := T1) hn P ok (w := 10) (by decide) (by decide)
  rw [x, y, bd_s, bd_s]
  cases b
  case true => rw [if_neg t1, if_neg t1]; exact use (hb rfl) (l_slit hn P ok D ht)
  rw [if_pos f0, if_pos f0]
  obtain ⟨b, x, y, hb⟩ := iw (T1 := T1) hn P ok (w := 11) (by decide) (by decide)
  rw [x, y, bd_s, bd_s]
  cases b
  case true => rw [if_neg t1, if_neg t1]; exact use (hb rfl) (l_off hn P ok D ht)
  rw [if_pos f0, if_pos f0]
  obtain ⟨b, x, y, hb⟩ := iw (T1 := T1) hn P ok (w := 12) (by decide) (by decide)
  rw [x, y, bd_s, bd_s]
  cases b
  case true => rw [if_neg t1, if_neg t1]; exact use (hb rfl) (l_mirror hn P ok D ht)
  rw [if_pos f0, if_pos f0]
  obtain ⟨b, x, y, hb⟩ := iw (T1 := T1) hn P ok (w := 17) (by decide) (by decide)
  rw [x, y, bd_s, bd_s]
  cases b
  case true => rw [if_neg t1, if_neg t1]; exact use (hb rfl) (l_cut hn P ok D ht)
  rw [if_pos f0, if_pos f0]
  obtain ⟨b, x, y, hb⟩ := iw (T1 := T1) hn P ok (w := 18) (by decide) (by decide)
  rw [x, y, bd_s, bd_s]
  cases b
  case true => rw [if_neg t1, if_neg t1]; exact use (hb rfl) (l_shape hn P ok D ht)
  rw [if_pos f0, if_pos f0]
  obtain ⟨b, x, y, hb⟩ := iw (T1 := T1) hn P ok (w := 21) (by decide) (by decide)
  rw [x, y, bd_s, bd_s]
  cases b
  case true => rw [if_neg t1, if_neg t1]; exact use (hb rfl) (l_shoal hn P ok D ht)
  rw [if_pos f0, if_pos f0]
  obtain ⟨b, x, y, hb⟩ := iw (T1 := T1) hn P ok (w := 22) (by decide) (by decide)
  rw [x, y, bd_s, bd_s]
  cases b
  case true => rw [if_neg t1, if_neg t1]; exact use (hb rfl) (l_gauge hn P ok D ht)
  rw [if_pos f0, if_pos f0]
  obtain ⟨I2, K2, g1, g2, P2, f2, er⟩ := fl (n := n) (T1 := T1) P (c := 1) (by decide)
  exact ⟨I2, K2, q, g1, g2, P2 q, f2.gr P.1, fun z => absurd z er⟩
theorem flk (P : PS E q I K o) (er : ¬ I o 0 = 0) (c : Int32) : F_X10_faults n K c = some K := by
  unfold F_X10_faults; rw [if_neg (P.er er).1]
/-- the lines, to the end -/
theorem l_lines (hn : 2000 ≤ n) (ht : T1 = 95 ∨ T1 = 116) : ∀ (d lines q j j' : Nat) (x : Int32) (I K : gI), lines + d = 901 → d ≤ j → 1 ≤ j → d ≤ j' → 1 ≤ j' → PS E q I K o → GR T1 o I0 K0 I K → (I o 0 = 0 → DR T1 o I K ∧ lines + 1 ≤ q) → ∃ I' K' q', L_X3_readText n T1 o j 0 (Int32.ofNat lines) I = some I' ∧ L_X10_readText n j' 2 x K = some K' ∧ PS E q' I' K' o ∧ GR T1 o I0 K0 I' K' ∧ (I' o 0 = 0 → DR T1 o I' K' ∧ 1 ≤ (pn K' 4).toInt) := by
  intro d
  induction d with
  | zero =>
    intro lines q j j' x I K hl hj hj1 hj' hj1' P G h
    have ho := P.1
    obtain ⟨j, rfl⟩ : ∃ i, j = i + 1 := ⟨j - 1, by omega⟩
    obtain ⟨j', rfl⟩ : ∃ i, j' = i + 1 := ⟨j' - 1, by omega⟩
    have er : ¬ I o 0 = 0 := by
      intro z
      have := (h z).2
      obtain ⟨s, t1, t2, _⟩ := P.2.2.2.2.2.2.2 z
      have := P.2.1.1
      omega
    obtain ⟨b, eb, hb⟩ := sh_s (n := n) P 59 4 (Or.inr ⟨rfl, rfl⟩)
    have bf : b = false := by
      cases b
      · rfl
      · exact absurd (hb.mp rfl).1 er
    have c9 : (900 : Int32) ≤ Int32.ofNat lines := by rw [i_le, i_of (by omega)]; show (900 : Int) ≤ lines; omega
    rw [L_X3_readText_e0, L_X10_readText_e2, if_pos c9, if_neg er, if_neg er, eb, bf, bd_s, if_pos (show b2 false = 0 from rfl), if_neg (P.er er).2.1, flk P er, bd_s, ite_self]
    exact ⟨I, K, q, rfl, rfl, P, G, fun z => absurd z er⟩
  | succ d ih =>
    intro lines q j j' x I K hl hj hj1 hj' hj1' P G h
    have ho := P.1
    obtain ⟨j, rfl⟩ : ∃ i, j = i + 1 := ⟨j - 1, by omega⟩
    obtain ⟨j', rfl⟩ : ∃ i, j' = i + 1 := ⟨j' - 1, by omega⟩
    obtain ⟨b, eb, hb⟩ := sh_s (n := n) P 59 4 (Or.inr ⟨rfl, rfl⟩)
    by_cases ok : I o 0 = 0
    · obtain ⟨D, hq⟩ := h ok
      obtain ⟨s, t1, t2, _, _, _, _, tk⟩ := P.2.2.2.2.2.2.2 ok
      have hE := P.2.1.1
      have c9 : ¬ (900 : Int32) ≤ Int32.ofNat lines := by rw [i_le, i_of (by omega)]; show ¬ (900 : Int) ≤ lines; omega
      rw [L_X3_readText_e0, L_X10_readText_e2, if_neg c9, eb, bd_s]
      unfold F_X3_takeSemicolon
      rw [if_pos ok]
      cases b
      · have k4 : ¬ I o 6 = 4 := fun z => absurd (hb.mpr ⟨ok, z⟩) (by decide)
        rw [if_neg k4, bd_s, if_pos (show b2 false = 0 from rfl)]
        dsimp only
        rw [if_pos rfl, if_pos ok, if_pos (P.ok5 ok)]
        have tk2 : (I o 6 = 0 ∧ K 153 7 = 1) ∨ (¬ I o 6 = 0 ∧ ¬ K 153 7 = 1) := by
          rcases tk with t | t | t | t | t | t
          · exact Or.inl t
          · right; rw [t.1, t.2]; exact ⟨by decide, by decide⟩
          · right; rw [t.1, t.2.1]; exact ⟨by decide, by decide⟩
          · right; rw [t.1, t.2.1]; exact ⟨by decide, by decide⟩
          · right; rw [t.1, t.2.1]; exact ⟨by decide, by decide⟩
          · right; rw [t.1]
            refine ⟨by decide, ?_⟩
            rcases t.2 with t | t
            · rw [t]; decide
            · rw [t.1]; decide
        rcases tk2 with ⟨k0, k1⟩ | ⟨k0, k1⟩
        · rw [if_pos k0, if_pos k1, if_pos ok]
          by_cases z : pn K 4 = 0
          · rw [if_pos (show I T1 5 = 0 by rw [D.tr.c]; exact z), if_pos (show K (153 + 3) 4 = 0 from z)]
            obtain ⟨I2, K2, g1, g2, P2, f2, er⟩ := fl (n := n) (T1 := T1) P (c := 5) (by decide)
            rw [g1, g2, bd_s, bd_s]
            exact ⟨I2, K2, q, rfl, rfl, P2 q, G.trans (f2.gr ho), fun z => absurd z er⟩
          · rw [if_neg (show ¬ I T1 5 = 0 by rw [D.tr.c]; exact z), if_neg (show ¬ K (153 + 3) 4 = 0 from z)]
            have := D.pv.c
            have z' : (pn K 4).toInt ≠ 0 := fun y => z (i_eq.mpr (by rw [y]; rfl))
            exact ⟨I, K, q, rfl, rfl, P, G, fun _ => ⟨D, by omega⟩⟩
        · rw [if_neg k0, if_neg k1]
          obtain ⟨I2, K2, g1, g2, P2, f2, er⟩ := fl (n := n) (T1 := T1) P (c := 1) (by decide)
          rw [g1, g2, bd_s, bd_s, if_neg er, flk (P2 q) er, bd_s, ite_self]
          exact ⟨I2, K2, q, rfl, rfl, P2 q, G.trans (f2.gr ho), fun z => absurd z er⟩
      · have k4 : I o 6 = 4 := (hb.mp rfl).2
        obtain ⟨I1, K1, q1, e1, f1, P1, r1, ok1, hq1, hk1⟩ := nx (T1 := T1) hn (P.nx ok)
        rw [if_pos k4, e1, bd_s, bd_s, if_neg (show ¬ b2 true = 0 by decide), f1, bd_s]
        dsimp only
        rw [if_neg (show ¬ (1 : Int32) = 0 by decide)]
        obtain ⟨I2, K2, q2, e2, f2, P2, g2, h2⟩ := l_line hn P1 ok1 (D.fr r1 ht ho) ht
        rw [e2, f2, bd_s, bd_s, ixp_1]
        refine ih (lines + 1) q2 j j' x I2 K2 (by omega) (by omega) (by omega) (by omega) (by omega) P2 ((G.trans (r1.gr ho)).trans g2) (fun z => ?_)
        obtain ⟨D2, hq2, h6⟩ := h2 z
        have := hk1 (by rw [h6]; decide)
        exact ⟨D2, by omega⟩
    · have bf : b = false := by
        cases b
        · rfl
        · exact absurd (hb.mp rfl).1 ok
      have ts : F_X3_takeSemicolon n T1 o I = some (0, I) := by unfold F_X3_takeSemicolon; rw [if_neg ok]
      rw [L_X3_readText_e0, L_X10_readText_e2, ts, bd_s]
      dsimp only
      rw [if_pos rfl, if_neg ok, if_neg ok, eb, bf, bd_s, if_pos (show b2 false = 0 from rfl), if_neg (P.er ok).2.1, flk P ok, bd_s, ite_self, ite_self]
      exact ⟨I, K, q, rfl, rfl, P, G, fun z => absurd z ok⟩
end WHOLE
