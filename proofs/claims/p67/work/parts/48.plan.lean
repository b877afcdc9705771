/-! THE PLAN AND THE STATE, off the memory that was read -/
/-- every source that is told has an amplitude of one or more -/
def AM (p s : gP) : Prop := ∀ k, k < (p 4).toInt.toNat → 1 ≤ (s (6 + k)).toInt
def kdO (I : gI) (t : Nat) : Int32 := if I t 4 = 0 then (if I t 6 = 0 then 0 else 2) else 1
def pOf (I : gI) (T : Nat) : gP := fun i =>
  if i < 4 then I T (i + 1) else if i = 4 then I T 5
  else if i < 9 then I (T + 1 + 5 + 3 * (i - 5)) 0 else if i < 13 then I (T + 1 + 5 + 3 * (i - 9)) 1
  else if i < 17 then I (T + 1 + 5 + 3 * (i - 13)) 2 else if i < 21 then I (T + 1 + 5 + 3 * (i - 17)) 3
  else if i < 25 then kdO I (T + 1 + 5 + 3 * (i - 21))
  else if i < 29 then (if I (T + 1 + 5 + 3 * (i - 25)) 4 = 0 then I (T + 1 + 5 + 3 * (i - 25)) 6 else I (T + 1 + 5 + 3 * (i - 25)) 4)
  else if i < 33 then I (T + 1 + 5 + 3 * (i - 29)) 5 else if i < 37 then I (T + 5) (i - 33)
  else if i < 41 then I (T + 1 + 5 + 3 * (i - 37)) 7 else if i < 60 then 0 else if i = 60 then I T 7
  else if i < 76 then I (T + 2 + 16 + (i - 61) / 5) ((i - 61) % 5) else if i = 76 then I T 9
  else if i < 90 then (if (i - 77) % 2 = 0 then I (T + 3) ((i - 77) / 2) else I (T + 4) ((i - 77) / 2))
  else if i < 100 then I (T + 1 + 5 + 3 * (i - 90)) 8
  else if (i - 100) % 20 < 10 then I (T + 1 + 5 + 3 * ((i - 100) / 20) + 1) ((i - 100) % 20) else I (T + 1 + 5 + 3 * ((i - 100) / 20) + 2) ((i - 100) % 20 - 10)
def sOf (I : gI) : gP := fun i => if i < 2 then I 10 i else I (11 + (i - 2) / 4) ((i - 2) % 4)
section PLN
variable {I : gI} {T : Nat}
theorem pO_a {i : Nat} (h : i < 4) : pOf I T i = I T (i + 1) := by unfold pOf; rw [if_pos h]
theorem pO_4 : pOf I T 4 = I T 5 := rfl
theorem pO_5 {k : Nat} (h : k < 4) : pOf I T (5 + k) = I (T + 1 + 5 + 3 * k) 0 := by
  unfold pOf; rw [if_neg (by omega), if_neg (by omega), if_pos (by omega), show 5 + k - 5 = k by omega]
theorem pO_9 {k : Nat} (h : k < 4) : pOf I T (9 + k) = I (T + 1 + 5 + 3 * k) 1 := by
  unfold pOf; rw [if_neg (by omega), if_neg (by omega), if_neg (by omega), if_pos (by omega), show 9 + k - 9 = k by omega]
theorem pO_13 {k : Nat} (h : k < 4) : pOf I T (13 + k) = I (T + 1 + 5 + 3 * k) 2 := by
  unfold pOf; rw [if_neg (by omega), if_neg (by omega), if_neg (by omega), if_neg (by omega), if_pos (by omega), show 13 + k - 13 = k by omega]
theorem pO_17 {k : Nat} (h : k < 4) : pOf I T (17 + k) = I (T + 1 + 5 + 3 * k) 3 := by
  unfold pOf; rw [if_neg (by omega), if_neg (by omega), if_neg (by omega), if_neg (by omega), if_neg (by omega), if_pos (by omega), show 17 + k - 17 = k by omega]
theorem pO_21 {k : Nat} (h : k < 4) : pOf I T (21 + k) = kdO I (T + 1 + 5 + 3 * k) := by
  unfold pOf; rw [if_neg (by omega), if_neg (by omega), if_neg (by omega), if_neg (by omega), if_neg (by omega), if_neg (by omega), if_pos (by omega), show 21 + k - 21 = k by omega]
theorem pO_25 {k : Nat} (h : k < 4) : pOf I T (25 + k) = (if I (T + 1 + 5 + 3 * k) 4 = 0 then I (T + 1 + 5 + 3 * k) 6 else I (T + 1 + 5 + 3 * k) 4) := by
  unfold pOf; rw [if_neg (by omega), if_neg (by omega), if_neg (by omega), if_neg (by omega), if_neg (by omega), if_neg (by omega), if_neg (by omega), if_pos (by omega), show 25 + k - 25 = k by omega]
theorem pO_29 {k : Nat} (h : k < 4) : pOf I T (29 + k) = I (T + 1 + 5 + 3 * k) 5 := by
  unfold pOf; rw [if_neg (by omega), if_neg (by omega), if_neg (by omega), if_neg (by omega), if_neg (by omega), if_neg (by omega), if_neg (by omega), if_neg (by omega), if_pos (by omega), show 29 + k - 29 = k by omega]
theorem pO_33 {k : Nat} (h : k < 4) : pOf I T (33 + k) = I (T + 5) k := by
  unfold pOf; rw [if_neg (by omega), if_neg (by omega), if_neg (by omega), if_neg (by omega), if_neg (by omega), if_neg (by omega), if_neg (by omega), if_neg (by omega), if_neg (by omega), if_pos (by omega), show 33 + k - 33 = k by omega]
theorem pO_37 {k : Nat} (h : k < 4) : pOf I T (37 + k) = I (T + 1 + 5 + 3 * k) 7 := by
  unfold pOf; rw [if_neg (by omega), if_neg (by omega), if_neg (by omega), if_neg (by omega), if_neg (by omega), if_neg (by omega), if_neg (by omega), if_neg (by omega), if_neg (by omega), if_neg (by omega), if_pos (by omega), show 37 + k - 37 = k by omega]
theorem pO_41 : pOf I T 41 = 0 := rfl
theorem pO_60 : pOf I T 60 = I T 7 := rfl
theorem pO_61 {i c : Nat} (h : i < 3) (hc : c < 5) : pOf I T (61 + 5 * i + c) = I (T + 2 + 16 + i) c := by
  unfold pOf; rw [if_neg (by omega), if_neg (by omega), if_neg (by omega), if_neg (by omega), if_neg (by omega), if_neg (by omega), if_neg (by omega), if_neg (by omega), if_neg (by omega), if_neg (by omega), if_neg (by omega), if_neg (by omega), if_neg (by omega), if_pos (by omega), show (61 + 5 * i + c - 61) / 5 = i by omega, show (61 + 5 * i + c - 61) % 5 = c by omega]
theorem pO_76 : pOf I T 76 = I T 9 := rfl
theorem pO_77 {g : Nat} (h : g < 4) : pOf I T (77 + 2 * g) = I (T + 3) g := by
  unfold pOf; rw [if_neg (by omega), if_neg (by omega), if_neg (by omega), if_neg (by omega), if_neg (by omega), if_neg (by omega), if_neg (by omega), if_neg (by omega), if_neg (by omega), if_neg (by omega), if_neg (by omega), if_neg (by omega), if_neg (by omega), if_neg (by omega), if_neg (by omega), if_pos (by omega), if_pos (by omega), show (77 + 2 * g - 77) / 2 = g by omega]
theorem pO_78 {g : Nat} (h : g < 4) : pOf I T (77 + 2 * g + 1) = I (T + 4) g := by
  unfold pOf; rw [if_neg (by omega), if_neg (by omega), if_neg (by omega), if_neg (by omega), if_neg (by omega), if_neg (by omega), if_neg (by omega), if_neg (by omega), if_neg (by omega), if_neg (by omega), if_neg (by omega), if_neg (by omega), if_neg (by omega), if_neg (by omega), if_neg (by omega), if_pos (by omega), if_neg (by omega), show (77 + 2 * g + 1 - 77) / 2 = g by omega]
theorem pO_90 {k : Nat} (h : k < 4) : pOf I T (90 + k) = I (T + 1 + 5 + 3 * k) 8 := by
  unfold pOf; rw [if_neg (by omega), if_neg (by omega), if_neg (by omega), if_neg (by omega), if_neg (by omega), if_neg (by omega), if_neg (by omega), if_neg (by omega), if_neg (by omega), if_neg (by omega), if_neg (by omega), if_neg (by omega), if_neg (by omega), if_neg (by omega), if_neg (by omega), if_neg (by omega), if_pos (by omega), show 90 + k - 90 = k by omega]
theorem pO_100 {k i : Nat} (h : i < 10) : pOf I T (100 + 20 * k + i) = I (T + 1 + 5 + 3 * k + 1) i := by
  unfold pOf; rw [if_neg (by omega), if_neg (by omega), if_neg (by omega), if_neg (by omega), if_neg (by omega), if_neg (by omega), if_neg (by omega), if_neg (by omega), if_neg (by omega), if_neg (by omega), if_neg (by omega), if_neg (by omega), if_neg (by omega), if_neg (by omega), if_neg (by omega), if_neg (by omega), if_neg (by omega), if_pos (by omega), show (100 + 20 * k + i - 100) / 20 = k by omega, show (100 + 20 * k + i - 100) % 20 = i by omega]
theorem pO_110 {k i : Nat} (h : i < 10) : pOf I T (110 + 20 * k + i) = I (T + 1 + 5 + 3 * k + 2) i := by
  unfold pOf; rw [if_neg (by omega), if_neg (by omega), if_neg (by omega), if_neg (by omega), if_neg (by omega), if_neg (by omega), if_neg (by omega), if_neg (by omega), if_neg (by omega), if_neg (by omega), if_neg (by omega), if_neg (by omega), if_neg (by omega), if_neg (by omega), if_neg (by omega), if_neg (by omega), if_neg (by omega), if_neg (by omega), show (110 + 20 * k + i - 100) / 20 = k by omega, show (110 + 20 * k + i - 100) % 20 - 10 = i by omega]
theorem sO_0 {i : Nat} (h : i < 2) : sOf I i = I 10 i := by unfold sOf; rw [if_pos h]
theorem sO_k {a k : Nat} (h : k < 4) : sOf I (2 + 4 * a + k) = I (11 + a) k := by
  unfold sOf; rw [if_neg (by omega), show (2 + 4 * a + k - 2) / 4 = a by omega, show (2 + 4 * a + k - 2) % 4 = k by omega]
theorem an_e {P Q : Nat → Bool} : ∀ (d k : Nat), (∀ i, k ≤ i → i < k + d → P i = Q i) → an P d k = an Q d k
  | 0, _, _ => rfl
  | d + 1, k, h => by
    rw [an_s, an_s, h k (Nat.le_refl _) (by omega), an_e d (k + 1) fun i a b => h i (by omega) (by omega)]
variable {o : Nat} {W : gP} {nt ns ng nc nm t1 t2 t3 : Nat}
theorem pv_s (h : PI T o W I nt ns ng nc nm t1 t2 t3) (H : HG W) (hC : ∀ k, k < 2 → CG W k) (hnt : nt ≤ 4) (hs : ns ≤ 2) (hg : ng ≤ 4) : PV (pOf I T) := by
  obtain ⟨p1, p2, p3, p4, p5, p6, p7, p8, p9, p10⟩ := h
  obtain ⟨g1, g2, g3, g4, g5, g6, g7⟩ := H
  have e4 : (pOf I T 4).toInt.toNat = nt := by rw [pO_4, p2.1, i_of (by omega)]; omega
  have e60 : (pOf I T 60).toInt.toNat = ns := by rw [pO_60, p2.2.1, i_of (by omega)]; omega
  have e76 : (pOf I T 76).toInt.toNat = ng := by rw [pO_76, p2.2.2.1, i_of (by omega)]; omega
  have tt : ∀ k, k < nt → TI I (T + 1 + 5 + 3 * k) nc := fun k hk => by rw [show T + 1 + 5 + 3 * k = T + 6 + 3 * k by omega]; exact p3 k hk
  unfold PV
  rw [e4, e60, e76]
  refine ⟨?_, ?_, ?_, ?_, ?_, fun k hk => ?_, fun k hk => ?_, fun k hk => ?_, fun k hk => ?_, fun k hk => ?_, fun i hi => ?_, ?_, ?_, fun i hi => ?_, ?_, fun i hi => ?_, fun i hi => ?_⟩
  · rw [pO_a (by decide), p1.1]; omega
  · rw [pO_a (by decide), p1.2.1]; omega
  · rw [pO_a (by decide), p1.2.2.1]; omega
  · rw [pO_a (by decide), pO_a (by decide), p1.1, p1.2.2.2]
    rcases g4 with q | q
    · rw [q, show (-1 : Int32).toInt = -1 from rfl]; omega
    · omega
  · rw [pO_4, p2.1, i_of (by omega)]; omega
  · rw [pO_5 (by omega)]; exact (tt k hk).1
  · rw [pO_9 (by omega)]; exact (tt k hk).2.1
  · rw [pO_13 (by omega)]; exact (tt k hk).2.2.1
  · rw [pO_13 (by omega), pO_17 (by omega)]; exact (tt k hk).2.2.2.1
  · rw [pO_21 (by omega), pO_25 (by omega), pO_29 (by omega)]
    unfold kdO
    rcases (tt k hk).2.2.2.2.1 with ⟨q1, q2⟩ | ⟨q1, q2, q3, q4⟩ | ⟨q1, q2, q3⟩
    · rw [if_pos q1, if_pos q2]; exact Or.inl rfl
    · have : I (T + 1 + 5 + 3 * k) 4 ≠ 0 := fun z => by rw [z, ii_0] at q1; omega
      rw [if_neg this, if_neg this]; exact Or.inr (Or.inl ⟨rfl, q1, q2, q3, q4⟩)
    · have : I (T + 1 + 5 + 3 * k) 6 ≠ 0 := fun z => by rw [z, ii_0] at q2; omega
      rw [if_pos q1, if_neg this, if_pos q1]; exact Or.inr (Or.inr ⟨rfl, q2, q3⟩)
  · rw [pO_33 hi]; exact ⟨(p4 i hi).1, (p4 i hi).2.1⟩
  · rw [pO_41, ii_0]; omega
  · rw [pO_60, p2.2.1, i_of (by omega)]; omega
  · rw [pO_61 (by omega) (by decide), show T + 2 + 16 + i = T + 18 + i by omega, p5 i hi 4 (by decide)]
    exact (hC i (by omega)).2.2.2.2.2.2.2.2.2
  · rw [pO_76, p2.2.2.1, i_of (by omega)]; omega
  · rw [pO_77 (by omega), pO_a (by decide), p1.1]; exact (p6 i hi).1
  · rw [pO_78 (by omega), pO_a (by decide), p1.2.1]; exact (p6 i hi).2
theorem tr_s (h : PI T o W I nt ns ng nc nm t1 t2 t3) (hnt : nt ≤ 4) (hs : ns ≤ 3) (hg : ng ≤ 4) (hc : nc ≤ 6) : TR I T (pOf I T) := by
  obtain ⟨p1, p2, p3, p4, p5, p6, p7, p8, p9, p10⟩ := h
  have e4 : (pOf I T 4).toInt.toNat = nt := by rw [pO_4, p2.1, i_of (by omega)]; omega
  have e60 : (pOf I T 60).toInt.toNat = ns := by rw [pO_60, p2.2.1, i_of (by omega)]; omega
  have e76 : (pOf I T 76).toInt.toNat = ng := by rw [pO_76, p2.2.2.1, i_of (by omega)]; omega
  have tt : ∀ k, k < nt → TI I (T + 1 + 5 + 3 * k) nc := fun k hk => by rw [show T + 1 + 5 + 3 * k = T + 6 + 3 * k by omega]; exact p3 k hk
  unfold TR
  rw [e4, e60, e76]
  refine ⟨rfl, rfl, rfl, rfl, rfl, rfl, rfl, fun k hk => (pO_5 (by omega)).symm, fun k hk => (pO_9 (by omega)).symm, fun k hk => (pO_13 (by omega)).symm, fun k hk => (pO_17 (by omega)).symm, fun k hk => ?_, fun k hk => (pO_37 (by omega)).symm, fun k hk => ?_, fun k hk e => ?_, fun i hi => (pO_33 hi).symm, fun i hi => (pO_61 (c := 0) (by omega) (by decide)).symm, fun i hi => (pO_61 (by omega) (by decide)).symm, fun i hi => (pO_61 (by omega) (by decide)).symm, fun i hi => (pO_61 (by omega) (by decide)).symm, fun i hi => (pO_61 (by omega) (by decide)).symm, fun i hi => (pO_77 (by omega)).symm, fun i hi => (pO_78 (by omega)).symm⟩
  · rw [pO_21 (by omega), pO_25 (by omega), pO_29 (by omega)]
    unfold kdO
    rcases (tt k hk).2.2.2.2.1 with ⟨q1, q2⟩ | ⟨q1, q2, q3, q4⟩ | ⟨q1, q2, q3⟩
    · rw [if_pos q1, if_pos q2]; exact Or.inl ⟨rfl, q1, q2⟩
    · have : I (T + 1 + 5 + 3 * k) 4 ≠ 0 := fun z => by rw [z, ii_0] at q1; omega
      rw [if_neg this, if_neg this]; exact Or.inr (Or.inl ⟨rfl, rfl, rfl⟩)
    · have : I (T + 1 + 5 + 3 * k) 6 ≠ 0 := fun z => by rw [z, ii_0] at q2; omega
      rw [if_pos q1, if_neg this, if_pos q1]; exact Or.inr (Or.inr ⟨rfl, q1, rfl⟩)
  · have := (tt k hk).2.2.2.2.2; omega
  · have := (tt k hk).2.2.2.2.2
    unfold sCutOff
    rw [pO_90 (by omega)]
    refine an_e _ _ fun i a b => ?_
    rw [pO_100 (by omega), pO_110 (by omega)]
theorem sr_s (h : PI T o W I nt ns ng nc nm t1 t2 t3) (p : gP) (hp : (p 4).toInt.toNat ≤ 4) : SR I 10 p (sOf I) := by
  obtain ⟨p1, p2, p3, p4, p5, p6, p7, p8, p9, p10⟩ := h
  unfold SR
  refine ⟨rfl, rfl, p8, fun k hk => ?_, fun k hk => ?_, fun k hk => ?_, fun k hk => ?_, fun k hk => ?_, fun k hk => ?_, fun k hk => ?_⟩
  · exact (sO_k (I := I) (a := 0) (by omega)).symm
  · exact (sO_k (I := I) (a := 1) (by omega)).symm
  · exact (sO_k (I := I) (a := 2) (by omega)).symm
  · exact (sO_k (I := I) (a := 3) (by omega)).symm
  · exact (sO_k (I := I) (a := 4) (by omega)).symm
  · exact (sO_k (I := I) (a := 5) (by omega)).symm
  · exact (sO_k (I := I) (a := 6) (by omega)).symm
theorem sv_s (h : PI T o W I nt ns ng nc nm t1 t2 t3) (p : gP) (hp : (p 4).toInt.toNat = nt) (hnt : nt ≤ 4) : SV p (sOf I) ∧ PH p (sOf I) ∧ AM p (sOf I) := by
  obtain ⟨p1, p2, p3, p4, p5, p6, p7, p8, p9, p10⟩ := h
  refine ⟨⟨?_, ?_, fun k hk => ?_, fun k hk => ?_⟩, fun k hk => ?_, fun k hk => ?_⟩
  · rw [sO_0 (by decide), p7.1, ii_0]; omega
  · rw [sO_0 (by decide)]; omega
  · rw [show 2 + k = 2 + 4 * 0 + k by omega, sO_k hk]; exact p8 k hk
  · rw [hp] at hk
    rw [show 6 + k = 2 + 4 * 1 + k by omega, sO_k (by omega)]; have : 1 ≤ (I (11 + 1) k).toInt ∧ (I (11 + 1) k).toInt ≤ 999 := (p9 k hk).1; omega
  · rw [hp] at hk
    rw [show 10 + k = 2 + 4 * 2 + k by omega, sO_k (by omega)]; exact (p9 k hk).2
  · rw [hp] at hk
    rw [show 6 + k = 2 + 4 * 1 + k by omega, sO_k (by omega)]; exact (p9 k hk).1.1
end PLN
