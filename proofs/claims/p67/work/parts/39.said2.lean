/-! WHAT IS SAID, the rest: furniture, slits, the whole text -/
section SAJ
variable {n T0 T1 : Nat} {I0 K0 I K : gI} {B : List Nat}
theorem ix_3 (a s k i : Nat) : Int32.ofNat a + Int32.ofNat s * Int32.ofNat k + Int32.ofNat i = Int32.ofNat (a + s * k + i) := by rw [i_omul, i_oadd, i_oadd]
theorem CG.ok {W : gP} {k : Nat} (hk : k < 2) (H : HG W) (C : CG W k) : (∀ i, i < 3 → (W (65 + 3 * k + i)).toInt.natAbs < 10000) ∧ (∀ i, i < 5 → (W (72 + 5 * k + i)).toInt.natAbs < 10000) ∧ (∀ i, i < 2 → (W (83 + 2 * k + i)).toInt.natAbs < 10000) := by
  obtain ⟨g1, g2, g3, g4, g5, g6, g7⟩ := H
  obtain ⟨c1, c2, c3, c4, c5, c6, c7, c8, c9, c10⟩ := C
  refine ⟨fun i hi => ?_, fun i hi => ?_, fun i hi => ?_⟩
  · have : i = 0 ∨ i = 1 ∨ i = 2 := by omega
    rcases this with q | q | q <;> subst q
    · rw [show 65 + 3 * k + 0 = 65 + 3 * k by omega]; omega
    · rw [show 65 + 3 * k + 1 = 66 + 3 * k by omega]; omega
    · rw [show 65 + 3 * k + 2 = 67 + 3 * k by omega]; omega
  · have : i = 0 ∨ i = 1 ∨ i = 2 ∨ i = 3 ∨ i = 4 := by omega
    rcases this with q | q | q | q | q <;> subst q
    · rw [show 72 + 5 * k + 0 = 72 + 5 * k by omega]; omega
    · omega
    · omega
    · omega
    · omega
  · have : i = 0 ∨ i = 1 := by omega
    rcases this with q | q <;> subst q
    · rw [show 83 + 2 * k + 0 = 83 + 2 * k by omega]; omega
    · rw [show 83 + 2 * k + 1 = 84 + 2 * k by omega]; omega
theorem TG.ok {W : gP} {k : Nat} (H : HG W) (T : TG W k) : ∀ i, i < 13 → (W (10 + 16 * k + i)).toInt.natAbs < 10000 := by
  obtain ⟨g1, g2, g3, g4, g5, g6, g7⟩ := H
  obtain ⟨c0, c1, c2, c3, c4, c5, c6, c7, c8, c9, c10, c11, c12, c13, c14, c15, c16⟩ := T
  intro i hi
  have : i = 0 ∨ i = 1 ∨ i = 2 ∨ i = 3 ∨ i = 4 ∨ i = 5 ∨ i = 6 ∨ i = 7 ∨ i = 8 ∨ i = 9 ∨ i = 10 ∨ i = 11 ∨ i = 12 := by omega
  rcases this with q | q | q | q | q | q | q | q | q | q | q | q | q <;> subst q
  · rw [Nat.add_zero]; omega
  · omega
  · omega
  · omega
  · omega
  · omega
  · omega
  · omega
  · omega
  · by_cases q : W (10 + 16 * k + 8) = 0
    · rw [c15 q, ii_0]; decide
    · have := c9 q; omega
  · by_cases q : W (10 + 16 * k + 8) = 1
    · have := c10 q; omega
    · rw [c16 q, ii_0]; decide
  · omega
  · omega
theorem fr_6 (hn : 2000 ≤ n) {P : gI × gI → Prop} {k : Nat} (hk : k < 2) (hw : ∀ i, i < 2 → (K0 154 (83 + 2 * k + i)).toInt.natAbs < 10000) : ∀ (d i j : Nat) (I K : gI) (B : List Nat), i + d = 2 → d < j → PB I0 K0 I K B → B.length + 6 * d ≤ 874 → (∀ v : gI × gI, ∀ m, j ≤ m + d + 1 → PB I0 K0 v.1 v.2 (B ++ pas (K0 154) (83 + 2 * k) d i) → OKp (L_L_furniture n T0 T1 m 5 (Int32.ofNat (k + 1)) 0 v.1 v.2) P) → OKp (L_L_furniture n T0 T1 j 6 (Int32.ofNat k) (Int32.ofNat i) I K) P := by
  intro d
  induction d with
  | zero =>
    intro i j I K B hi hj h hB kk
    obtain ⟨j, rfl⟩ : ∃ m, j = m + 1 := ⟨j - 1, by omega⟩
    rw [L_L_furniture_e6, if_pos (show (2 : Int32) ≤ Int32.ofNat i from (i_ole (a := 2) (by omega) (by omega)).mpr (by omega)), ixp_1]
    exact kk (I, K) j (by omega) (by rw [show pas (K0 154) (83 + 2 * k) 0 i = [] from rfl, List.append_nil]; exact h)
  | succ d ih =>
    intro i j I K B hi hj h hB kk
    obtain ⟨j, rfl⟩ : ∃ m, j = m + 1 := ⟨j - 1, by omega⟩
    have hl := pa_l (K0 154 (83 + 2 * k + i))
    rw [L_L_furniture_e6, if_neg (show ¬ (2 : Int32) ≤ Int32.ofNat i from fun z => absurd ((i_ole (a := 2) (by omega) (by omega)).mp z) (by omega))]
    refine o_gv (ix_3 83 2 k i) (by omega) ?_
    refine q_part hn h (h.rd (ix_3 83 2 k i) (by omega)) (hw i (by omega)) (by omega) fun v1 h1 => ?_
    rw [ixp_1]
    refine ih (i + 1) j v1.1 v1.2 _ (by omega) (by omega) h1 (by rw [len_ap]; omega) fun v m hm hv => kk v m (by omega) ?_
    rw [show pas (K0 154) (83 + 2 * k) (d + 1) i = pa (K0 154 (83 + 2 * k + i)) ++ pas (K0 154) (83 + 2 * k) d (i + 1) from rfl, ← List.append_assoc]
    exact hv
theorem fr_5 (hn : 2000 ≤ n) (hc : NG (K0 154)) (H : ∀ k, k < 2 → (∀ i, i < 3 → (K0 154 (65 + 3 * k + i)).toInt.natAbs < 10000) ∧ (∀ i, i < 5 → (K0 154 (72 + 5 * k + i)).toInt.natAbs < 10000) ∧ (∀ i, i < 2 → (K0 154 (83 + 2 * k + i)).toInt.natAbs < 10000)) : ∀ (d k j : Nat) (I K : gI) (B : List Nat), k + d = (K0 154 82).toInt.toNat → 30 + 10 * d < j → PB I0 K0 I K B → B.length + (18 * d + 0) ≤ 870 → OKp (L_L_furniture n T0 T1 j 5 (Int32.ofNat k) 0 I K) (fun r => PB I0 K0 r.1 r.2 (B ++ tRows (K0 154) [59, 103, 97, 117, 103, 101] 83 2 d k)) := by
  have hc' := hc
  unfold NG at hc'
  intro d
  induction d with
  | zero =>
    intro k j I K B hi hj h hB
    obtain ⟨j, rfl⟩ : ∃ m, j = m + 1 := ⟨j - 1, by omega⟩
    rw [L_L_furniture_e5, if_pos (show K 154 82 ≤ Int32.ofNat k by rw [h.w, i_le, i_of (by omega)]; omega)]
    exact ⟨_, rfl, by rw [show tRows (K0 154) [59, 103, 97, 117, 103, 101] 83 2 0 k = [] from rfl, List.append_nil]; exact h⟩
  | succ d ih =>
    intro k j I K B hi hj h hB
    obtain ⟨j, rfl⟩ : ∃ m, j = m + 1 := ⟨j - 1, by omega⟩
    rw [L_L_furniture_e5, if_neg (show ¬ K 154 82 ≤ Int32.ofNat k by rw [h.w, i_le, i_of (by omega)]; omega)]
    refine q_say hn h (by decide +kernel) (l := [59, 103, 97, 117, 103, 101]) (by decide +kernel) (by rw [show [59, 103, 97, 117, 103, 101].length = 6 from rfl]; omega) fun v1 h1 => ?_
    have l1 : (B ++ [59, 103, 97, 117, 103, 101]).length = B.length + 6 := by rw [len_ap]; rfl
    refine fr_6 hn (k := k) (by omega) (H k (by omega)).2.2 2 0 j v1.1 v1.2 _ rfl (by omega) h1 (by omega) fun v m hm hv => ?_
    have l2 := pas_l (K0 154) (83 + 2 * k) 2 0
    refine (ih (k + 1) m v.1 v.2 _ (by omega) (by omega) hv (by rw [len_ap]; omega)).mono fun r hr => ?_
    rw [show tRows (K0 154) [59, 103, 97, 117, 103, 101] 83 2 (d + 1) k = ([59, 103, 97, 117, 103, 101] ++ pas (K0 154) (83 + 2 * k) 2 0) ++ tRows (K0 154) [59, 103, 97, 117, 103, 101] 83 2 d (k + 1) from rfl]
    simp only [List.append_assoc] at hr ⊢
    exact hr
theorem fr_4 (hn : 2000 ≤ n) {P : gI × gI → Prop} {k : Nat} (hk : k < 2) (hw : ∀ i, i < 5 → (K0 154 (72 + 5 * k + i)).toInt.natAbs < 10000) : ∀ (d i j : Nat) (I K : gI) (B : List Nat), i + d = 5 → d < j → PB I0 K0 I K B → B.length + 6 * d ≤ 874 → (∀ v : gI × gI, ∀ m, j ≤ m + d + 1 → PB I0 K0 v.1 v.2 (B ++ pas (K0 154) (72 + 5 * k) d i) → OKp (L_L_furniture n T0 T1 m 3 (Int32.ofNat (k + 1)) 0 v.1 v.2) P) → OKp (L_L_furniture n T0 T1 j 4 (Int32.ofNat k) (Int32.ofNat i) I K) P := by
  intro d
  induction d with
  | zero =>
    intro i j I K B hi hj h hB kk
    obtain ⟨j, rfl⟩ : ∃ m, j = m + 1 := ⟨j - 1, by omega⟩
    rw [L_L_furniture_e4, if_pos (show (5 : Int32) ≤ Int32.ofNat i from (i_ole (a := 5) (by omega) (by omega)).mpr (by omega)), ixp_1]
    exact kk (I, K) j (by omega) (by rw [show pas (K0 154) (72 + 5 * k) 0 i = [] from rfl, List.append_nil]; exact h)
  | succ d ih =>
    intro i j I K B hi hj h hB kk
    obtain ⟨j, rfl⟩ : ∃ m, j = m + 1 := ⟨j - 1, by omega⟩
    have hl := pa_l (K0 154 (72 + 5 * k + i))
    rw [L_L_furniture_e4, if_neg (show ¬ (5 : Int32) ≤ Int32.ofNat i from fun z => absurd ((i_ole (a := 5) (by omega) (by omega)).mp z) (by omega))]
    refine o_gv (ix_3 72 5 k i) (by omega) ?_
    refine q_part hn h (h.rd (ix_3 72 5 k i) (by omega)) (hw i (by omega)) (by omega) fun v1 h1 => ?_
    rw [ixp_1]
    refine ih (i + 1) j v1.1 v1.2 _ (by omega) (by omega) h1 (by rw [len_ap]; omega) fun v m hm hv => kk v m (by omega) ?_
    rw [show pas (K0 154) (72 + 5 * k) (d + 1) i = pa (K0 154 (72 + 5 * k + i)) ++ pas (K0 154) (72 + 5 * k) d (i + 1) from rfl, ← List.append_assoc]
    exact hv
theorem fr_3 (hn : 2000 ≤ n) (hc : NG (K0 154)) (H : ∀ k, k < 2 → (∀ i, i < 3 → (K0 154 (65 + 3 * k + i)).toInt.natAbs < 10000) ∧ (∀ i, i < 5 → (K0 154 (72 + 5 * k + i)).toInt.natAbs < 10000) ∧ (∀ i, i < 2 → (K0 154 (83 + 2 * k + i)).toInt.natAbs < 10000)) : ∀ (d k j : Nat) (I K : gI) (B : List Nat), k + d = (K0 154 71).toInt.toNat → 60 + 10 * d < j → PB I0 K0 I K B → B.length + (36 * d + 36) ≤ 870 → OKp (L_L_furniture n T0 T1 j 3 (Int32.ofNat k) 0 I K) (fun r => PB I0 K0 r.1 r.2 (B ++ (tRows (K0 154) [59, 115, 104, 111, 97, 108] 72 5 d k ++ (tRows (K0 154) [59, 103, 97, 117, 103, 101] 83 2 (K0 154 82).toInt.toNat 0)))) := by
  have hc' := hc
  unfold NG at hc'
  intro d
  induction d with
  | zero =>
    intro k j I K B hi hj h hB
    obtain ⟨j, rfl⟩ : ∃ m, j = m + 1 := ⟨j - 1, by omega⟩
    rw [L_L_furniture_e3, if_pos (show K 154 71 ≤ Int32.ofNat k by rw [h.w, i_le, i_of (by omega)]; omega)]
    rw [show tRows (K0 154) [59, 115, 104, 111, 97, 108] 72 5 0 k = [] from rfl, List.nil_append]
    exact fr_5 hn hc H (K0 154 82).toInt.toNat 0 j I K B (by omega) (by omega) h (by omega)
  | succ d ih =>
    intro k j I K B hi hj h hB
    obtain ⟨j, rfl⟩ : ∃ m, j = m + 1 := ⟨j - 1, by omega⟩
    rw [L_L_furniture_e3, if_neg (show ¬ K 154 71 ≤ Int32.ofNat k by rw [h.w, i_le, i_of (by omega)]; omega)]
    refine q_say hn h (by decide +kernel) (l := [59, 115, 104, 111, 97, 108]) (by decide +kernel) (by rw [show [59, 115, 104, 111, 97, 108].length = 6 from rfl]; omega) fun v1 h1 => ?_
    have l1 : (B ++ [59, 115, 104, 111, 97, 108]).length = B.length + 6 := by rw [len_ap]; rfl
    refine fr_4 hn (k := k) (by omega) (H k (by omega)).2.1 5 0 j v1.1 v1.2 _ rfl (by omega) h1 (by omega) fun v m hm hv => ?_
    have l2 := pas_l (K0 154) (72 + 5 * k) 5 0
    refine (ih (k + 1) m v.1 v.2 _ (by omega) (by omega) hv (by rw [len_ap]; omega)).mono fun r hr => ?_
    rw [show tRows (K0 154) [59, 115, 104, 111, 97, 108] 72 5 (d + 1) k = ([59, 115, 104, 111, 97, 108] ++ pas (K0 154) (72 + 5 * k) 5 0) ++ tRows (K0 154) [59, 115, 104, 111, 97, 108] 72 5 d (k + 1) from rfl]
    simp only [List.append_assoc] at hr ⊢
    exact hr
theorem fr_2 (hn : 2000 ≤ n) {P : gI × gI → Prop} {k : Nat} (hk : k < 2) (hw : ∀ i, i < 3 → (K0 154 (65 + 3 * k + i)).toInt.natAbs < 10000) : ∀ (d i j : Nat) (I K : gI) (B : List Nat), i + d = 3 → d < j → PB I0 K0 I K B → B.length + 6 * d ≤ 874 → (∀ v : gI × gI, ∀ m, j ≤ m + d + 1 → PB I0 K0 v.1 v.2 (B ++ pas (K0 154) (65 + 3 * k) d i) → OKp (L_L_furniture n T0 T1 m 1 (Int32.ofNat (k + 1)) 0 v.1 v.2) P) → OKp (L_L_furniture n T0 T1 j 2 (Int32.ofNat k) (Int32.ofNat i) I K) P := by
  intro d
  induction d with
  | zero =>
    intro i j I K B hi hj h hB kk
    obtain ⟨j, rfl⟩ : ∃ m, j = m + 1 := ⟨j - 1, by omega⟩
    rw [L_L_furniture_e2, if_pos (show (3 : Int32) ≤ Int32.ofNat i from (i_ole (a := 3) (by omega) (by omega)).mpr (by omega)), ixp_1]
    exact kk (I, K) j (by omega) (by rw [show pas (K0 154) (65 + 3 * k) 0 i = [] from rfl, List.append_nil]; exact h)
  | succ d ih =>
    intro i j I K B hi hj h hB kk
    obtain ⟨j, rfl⟩ : ∃ m, j = m + 1 := ⟨j - 1, by omega⟩
    have hl := pa_l (K0 154 (65 + 3 * k + i))
    rw [L_L_furniture_e2, if_neg (show ¬ (3 : Int32) ≤ Int32.ofNat i from fun z => absurd ((i_ole (a := 3) (by omega) (by omega)).mp z) (by omega))]
    refine o_gv (ix_3 65 3 k i) (by omega) ?_
    refine q_part hn h (h.rd (ix_3 65 3 k i) (by omega)) (hw i (by omega)) (by omega) fun v1 h1 => ?_
    rw [ixp_1]
    refine ih (i + 1) j v1.1 v1.2 _ (by omega) (by omega) h1 (by rw [len_ap]; omega) fun v m hm hv => kk v m (by omega) ?_
    rw [show pas (K0 154) (65 + 3 * k) (d + 1) i = pa (K0 154 (65 + 3 * k + i)) ++ pas (K0 154) (65 + 3 * k) d (i + 1) from rfl, ← List.append_assoc]
    exact hv
theorem fr_1 (hn : 2000 ≤ n) (hc : NG (K0 154)) (H : ∀ k, k < 2 → (∀ i, i < 3 → (K0 154 (65 + 3 * k + i)).toInt.natAbs < 10000) ∧ (∀ i, i < 5 → (K0 154 (72 + 5 * k + i)).toInt.natAbs < 10000) ∧ (∀ i, i < 2 → (K0 154 (83 + 2 * k + i)).toInt.natAbs < 10000)) : ∀ (d k j : Nat) (I K : gI) (B : List Nat), k + d = (K0 154 64).toInt.toNat → 90 + 10 * d < j → PB I0 K0 I K B → B.length + (22 * d + 108) ≤ 870 → OKp (L_L_furniture n T0 T1 j 1 (Int32.ofNat k) 0 I K) (fun r => PB I0 K0 r.1 r.2 (B ++ (tRows (K0 154) [59, 99, 117, 116] 65 3 d k ++ (tRows (K0 154) [59, 115, 104, 111, 97, 108] 72 5 (K0 154 71).toInt.toNat 0 ++ tRows (K0 154) [59, 103, 97, 117, 103, 101] 83 2 (K0 154 82).toInt.toNat 0)))) := by
  have hc' := hc
  unfold NG at hc'
  intro d
  induction d with
  | zero =>
    intro k j I K B hi hj h hB
    obtain ⟨j, rfl⟩ : ∃ m, j = m + 1 := ⟨j - 1, by omega⟩
    rw [L_L_furniture_e1, if_pos (show K 154 64 ≤ Int32.ofNat k by rw [h.w, i_le, i_of (by omega)]; omega)]
    rw [show tRows (K0 154) [59, 99, 117, 116] 65 3 0 k = [] from rfl, List.nil_append]
    exact fr_3 hn hc H (K0 154 71).toInt.toNat 0 j I K B (by omega) (by omega) h (by omega)
  | succ d ih =>
    intro k j I K B hi hj h hB
    obtain ⟨j, rfl⟩ : ∃ m, j = m + 1 := ⟨j - 1, by omega⟩
    rw [L_L_furniture_e1, if_neg (show ¬ K 154 64 ≤ Int32.ofNat k by rw [h.w, i_le, i_of (by omega)]; omega)]
    refine q_say hn h (by decide +kernel) (l := [59, 99, 117, 116]) (by decide +kernel) (by rw [show [59, 99, 117, 116].length = 4 from rfl]; omega) fun v1 h1 => ?_
    have l1 : (B ++ [59, 99, 117, 116]).length = B.length + 4 := by rw [len_ap]; rfl
    refine fr_2 hn (k := k) (by omega) (H k (by omega)).1 3 0 j v1.1 v1.2 _ rfl (by omega) h1 (by omega) fun v m hm hv => ?_
    have l2 := pas_l (K0 154) (65 + 3 * k) 3 0
    refine (ih (k + 1) m v.1 v.2 _ (by omega) (by omega) hv (by rw [len_ap]; omega)).mono fun r hr => ?_
    rw [show tRows (K0 154) [59, 99, 117, 116] 65 3 (d + 1) k = ([59, 99, 117, 116] ++ pas (K0 154) (65 + 3 * k) 3 0) ++ tRows (K0 154) [59, 99, 117, 116] 65 3 d (k + 1) from rfl]
    simp only [List.append_assoc] at hr ⊢
    exact hr
theorem tSide_l (k : Nat) : (tSide k).length ≤ 7 := by
  unfold tSide
  by_cases q : k = 0
  · rw [if_pos q]; decide
  rw [if_neg q]
  by_cases q : k = 1
  · rw [if_pos q]; decide
  rw [if_neg q]
  by_cases q : k = 2
  · rw [if_pos q]; decide
  · rw [if_neg q]; decide
theorem fr_0 (hn : 2000 ≤ n) (hc : NG (K0 154)) (hm : ∀ i, i < 4 → MG (K0 154) i) (H : ∀ k, k < 2 → (∀ i, i < 3 → (K0 154 (65 + 3 * k + i)).toInt.natAbs < 10000) ∧ (∀ i, i < 5 → (K0 154 (72 + 5 * k + i)).toInt.natAbs < 10000) ∧ (∀ i, i < 2 → (K0 154 (83 + 2 * k + i)).toInt.natAbs < 10000)) : ∀ (d k j : Nat) (I K : gI) (B : List Nat), k + d = 4 → 120 + d < j → PB I0 K0 I K B → B.length + (20 * d + 152) ≤ 870 → OKp (L_L_furniture n T0 T1 j 0 (Int32.ofNat k) 0 I K) (fun r => PB I0 K0 r.1 r.2 (B ++ (tMirs (K0 154) d k ++ (tRows (K0 154) [59, 99, 117, 116] 65 3 (K0 154 64).toInt.toNat 0 ++ (tRows (K0 154) [59, 115, 104, 111, 97, 108] 72 5 (K0 154 71).toInt.toNat 0 ++ tRows (K0 154) [59, 103, 97, 117, 103, 101] 83 2 (K0 154 82).toInt.toNat 0))))) := by
  have hc' := hc
  unfold NG at hc'
  intro d
  induction d with
  | zero =>
    intro k j I K B hi hj h hB
    obtain ⟨j, rfl⟩ : ∃ m, j = m + 1 := ⟨j - 1, by omega⟩
    rw [L_L_furniture_e0, if_pos (show (4 : Int32) ≤ Int32.ofNat k from (i_ole (a := 4) (by omega) (by omega)).mpr (by omega)), show tMirs (K0 154) 0 k = [] from rfl, List.nil_append]
    exact fr_1 hn hc H (K0 154 64).toInt.toNat 0 j I K B (by omega) (by omega) h (by omega)
  | succ d ih =>
    intro k j I K B hi hj h hB
    obtain ⟨j, rfl⟩ : ∃ m, j = m + 1 := ⟨j - 1, by omega⟩
    have hl := pa_l (K0 154 (60 + k))
    have hv := hm k (by omega)
    unfold MG at hv
    rw [L_L_furniture_e0, if_neg (show ¬ (4 : Int32) ≤ Int32.ofNat k from fun z => absurd ((i_ole (a := 4) (by omega) (by omega)).mp z) (by omega))]
    refine o_gv (i_oadd 60 k) (by omega) ?_
    rw [h.rd (i := (60 : Int32) + Int32.ofNat k) (i_oadd 60 k) (by omega)]
    rw [show tMirs (K0 154) (d + 1) k = (if K0 154 (60 + k) = 0 then [] else [59, 109, 105, 114, 114, 111, 114] ++ (tSide k ++ pa (K0 154 (60 + k)))) ++ tMirs (K0 154) d (k + 1) from rfl]
    by_cases q : K0 154 (60 + k) = 0
    · rw [if_pos q, if_pos q, List.nil_append, ixp_1]
      exact ih (k + 1) j I K B (by omega) (by omega) h (by omega)
    · rw [if_neg q, if_neg q]
      refine q_say hn h (by decide +kernel) (l := [59, 109, 105, 114, 114, 111, 114]) (by decide +kernel) (by rw [show [59, 109, 105, 114, 114, 111, 114].length = 7 from rfl]; omega) fun v1 h1 => ?_
      have l1 : (B ++ [59, 109, 105, 114, 114, 111, 114]).length = B.length + 7 := by rw [len_ap]; rfl
      have fin : ∀ (v : gI × gI), PB I0 K0 v.1 v.2 (B ++ [59, 109, 105, 114, 114, 111, 114] ++ tSide k) → OKp (gv ((60 : Int32) + Int32.ofNat k) 90 (bd (F_L_part n T0 T1 v.1 v.2 (v.2 154 (Int32.toNatClampNeg ((60 : Int32) + Int32.ofNat k)))) (fun v90 => L_L_furniture n T0 T1 j 0 (Int32.ofNat k + (1 : Int32)) 0 v90.1 v90.2))) (fun r => PB I0 K0 r.1 r.2 (B ++ (([59, 109, 105, 114, 114, 111, 114] ++ (tSide k ++ pa (K0 154 (60 + k)))) ++ tMirs (K0 154) d (k + 1) ++ (tRows (K0 154) [59, 99, 117, 116] 65 3 (K0 154 64).toInt.toNat 0 ++ (tRows (K0 154) [59, 115, 104, 111, 97, 108] 72 5 (K0 154 71).toInt.toNat 0 ++ tRows (K0 154) [59, 103, 97, 117, 103, 101] 83 2 (K0 154 82).toInt.toNat 0))))) := fun v hvv => by
        have l2 := tSide_l k
        have l3 : (B ++ [59, 109, 105, 114, 114, 111, 114] ++ tSide k).length ≤ B.length + 14 := by rw [len_ap]; omega
        refine o_gv (i_oadd 60 k) (by omega) ?_
        refine q_part hn hvv (hvv.rd (i_oadd 60 k) (by omega)) (by omega) (by omega) fun v2 h2 => ?_
        rw [ixp_1]
        refine (ih (k + 1) j v2.1 v2.2 _ (by omega) (by omega) h2 (by rw [len_ap]; omega)).mono fun r hr => ?_
        simp only [List.append_assoc] at hr ⊢
        exact hr
      have hk4 : k = 0 ∨ k = 1 ∨ k = 2 ∨ k = 3 := by omega
      rcases hk4 with hk | hk | hk | hk <;> subst hk
      · rw [if_pos (show Int32.ofNat 0 = (0 : Int32) from rfl)]
        exact q_say hn h1 (by decide +kernel) (l := tSide 0) (by decide +kernel) (by rw [show (tSide 0).length = 5 from rfl]; omega) fun v h2 => fin v h2
      · rw [if_neg (show ¬ Int32.ofNat 1 = (0 : Int32) by decide), if_pos (show Int32.ofNat 1 = (1 : Int32) from rfl)]
        exact q_say hn h1 (by decide +kernel) (l := tSide 1) (by decide +kernel) (by rw [show (tSide 1).length = 6 from rfl]; omega) fun v h2 => fin v h2
      · rw [if_neg (show ¬ Int32.ofNat 2 = (0 : Int32) by decide), if_neg (show ¬ Int32.ofNat 2 = (1 : Int32) by decide), if_pos (show Int32.ofNat 2 = (2 : Int32) from rfl)]
        exact q_say hn h1 (by decide +kernel) (l := tSide 2) (by decide +kernel) (by rw [show (tSide 2).length = 4 from rfl]; omega) fun v h2 => fin v h2
      · rw [if_neg (show ¬ Int32.ofNat 3 = (0 : Int32) by decide), if_neg (show ¬ Int32.ofNat 3 = (1 : Int32) by decide), if_neg (show ¬ Int32.ofNat 3 = (2 : Int32) by decide)]
        exact q_say hn h1 (by decide +kernel) (l := tSide 3) (by decide +kernel) (by rw [show (tSide 3).length = 7 from rfl]; omega) fun v h2 => fin v h2
theorem tKind_l (W : gP) (b : Nat) : (tKind W b).length ≤ 19 := by
  have h9 := pa_l (W (b + 9))
  have h10 := pa_l (W (b + 10))
  unfold tKind
  by_cases q : W (b + 8) = 1
  · rw [if_pos q, len_ap, len_ap, show [32, 98, 117, 114, 115, 116].length = 6 from rfl]; omega
  · rw [if_neg q]
    by_cases q : W (b + 8) = 2
    · rw [if_pos q, len_ap, show [32, 114, 105, 115, 105, 110, 103].length = 7 from rfl]; omega
    · rw [if_neg q]; exact Nat.zero_le _
theorem tDrift_l (W : gP) (k b : Nat) : (tDrift W k b).length ≤ 24 := by
  have h9 := pa_l (W (b + 11))
  have h10 := pa_l (W (b + 12))
  have h11 := pa_l (Int32.ofNat k)
  unfold tDrift
  by_cases q : W (b + 11) = 0 ∧ W (b + 12) = 0
  · rw [if_pos q]; exact Nat.zero_le _
  · rw [if_neg q, len_ap, len_ap, len_ap, show [59, 100, 114, 105, 102, 116].length = 6 from rfl]; omega
theorem tOff_l (W : gP) (k b : Nat) : (tOff W k b).length ≤ 10 := by
  have h11 := pa_l (Int32.ofNat k)
  unfold tOff
  by_cases q : W (b + 13) = 0
  · rw [if_pos q, len_ap, show [59, 111, 102, 102].length = 4 from rfl]; omega
  · rw [if_neg q]; exact Nat.zero_le _
theorem tShape_l (W : gP) (k b : Nat) : (tShape W k b).length ≤ 19 := by
  have h11 := pa_l (Int32.ofNat k)
  unfold tShape
  by_cases q : W (b + 14) = 0
  · rw [if_pos q]; exact Nat.zero_le _
  · rw [if_neg q, len_ap, len_ap, show [59, 115, 104, 97, 112, 101].length = 6 from rfl]
    by_cases q : W (b + 14) = 1
    · rw [if_pos q, show [32, 115, 113, 117, 97, 114, 101].length = 7 from rfl]; omega
    · rw [if_neg q, show [32, 115, 97, 119].length = 4 from rfl]; omega
theorem tTrain_l (W : gP) (k : Nat) : (tTrain W k).length ≤ 126 := by
  have h1 := pas_l W (10 + 16 * k) 8 0
  have h2 := tKind_l W (10 + 16 * k)
  have h3 := tDrift_l W k (10 + 16 * k)
  have h4 := tOff_l W k (10 + 16 * k)
  have h5 := tShape_l W k (10 + 16 * k)
  unfold tTrain
  rw [len_ap, len_ap, len_ap, len_ap, len_ap, show [59, 116, 114, 97, 105, 110].length = 6 from rfl]; omega
theorem tMirs_l (W : gP) : ∀ d k, (tMirs W d k).length ≤ 20 * d
  | 0, _ => Nat.zero_le _
  | d + 1, k => by
    have h1 := tMirs_l W d (k + 1)
    have h2 := pa_l (W (60 + k))
    have h3 := tSide_l k
    rw [show tMirs W (d + 1) k = (if W (60 + k) = 0 then [] else [59, 109, 105, 114, 114, 111, 114] ++ (tSide k ++ pa (W (60 + k)))) ++ tMirs W d (k + 1) from rfl, len_ap]
    by_cases q : W (60 + k) = 0
    · rw [if_pos q, List.length_nil]; omega
    · rw [if_neg q, len_ap, len_ap, show [59, 109, 105, 114, 114, 111, 114].length = 7 from rfl]; omega
theorem tRows_l (W : gP) (l : List Nat) (b s : Nat) : ∀ d k, (tRows W l b s d k).length ≤ (l.length + 6 * s) * d
  | 0, _ => Nat.zero_le _
  | d + 1, k => by
    have h1 := tRows_l W l b s d (k + 1)
    have h2 := pas_l W (b + s * k) s 0
    rw [show tRows W l b s (d + 1) k = (l ++ pas W (b + s * k) s 0) ++ tRows W l b s d (k + 1) from rfl, len_ap, len_ap, Nat.mul_succ]; omega
theorem tSlits_l (W : gP) : ∀ d y, (tSlits W d y).length ≤ 17 * d
  | 0, _ => Nat.zero_le _
  | d + 1, y => by
    have h1 := tSlits_l W d (y + 1)
    have h2 := pa_l (Int32.ofNat y)
    rw [show tSlits W (d + 1) y = (if (W 5 >>> (Int32.ofNat y &&& 31)) &&& (1 : Int32) = 0 then [] else [59, 115, 108, 105, 116] ++ (pa (Int32.ofNat y) ++ pa (Int32.ofNat y))) ++ tSlits W d (y + 1) from rfl, len_ap]
    by_cases q : (W 5 >>> (Int32.ofNat y &&& 31)) &&& (1 : Int32) = 0
    · rw [if_pos q, List.length_nil]; omega
    · rw [if_neg q, len_ap, len_ap, show [59, 115, 108, 105, 116].length = 5 from rfl]; omega
theorem tTrains_l (W : gP) : ∀ d k, (tTrains W d k).length ≤ 126 * d
  | 0, _ => Nat.zero_le _
  | d + 1, k => by
    have h1 := tTrains_l W d (k + 1)
    have h2 := tTrain_l W k
    rw [show tTrains W (d + 1) k = tTrain W k ++ tTrains W d (k + 1) from rfl, len_ap]; omega
theorem tHead_l (W : gP) : (tHead W).length ≤ 51 := by
  have h1 := pa_l (W 1)
  have h2 := pa_l (W 2)
  have h3 := pa_l (W 3)
  have h4 := pa_l (W 4)
  unfold tHead
  rw [len_ap, len_ap, len_ap, len_ap, len_ap, len_ap, len_ap, show [116, 97, 110, 107, 32, 119, 105, 100].length = 8 from rfl, show [116, 104].length = 2 from rfl, show [32, 104, 101, 105, 103, 104, 116].length = 7 from rfl, show [32, 102, 97, 100, 101].length = 5 from rfl]
  by_cases q : W 4 < 0
  · rw [if_pos q, List.length_nil]; omega
  · rw [if_neg q, len_ap, show [32, 119, 97, 108, 108].length = 5 from rfl]; omega
theorem tFurn_l {W : gP} (h : NG W) : (tFurn W).length ≤ 232 := by
  obtain ⟨h1, h2, h3⟩ := h
  have a1 := tMirs_l W 4 0
  have a2 := tRows_l W [59, 99, 117, 116] 65 3 (W 64).toInt.toNat 0
  have a3 := tRows_l W [59, 115, 104, 111, 97, 108] 72 5 (W 71).toInt.toNat 0
  have a4 := tRows_l W [59, 103, 97, 117, 103, 101] 83 2 (W 82).toInt.toNat 0
  rw [show [59, 99, 117, 116].length = 4 from rfl] at a2
  rw [show [59, 115, 104, 111, 97, 108].length = 6 from rfl] at a3
  rw [show [59, 103, 97, 117, 103, 101].length = 6 from rfl] at a4
  unfold tFurn
  rw [len_ap, len_ap, len_ap]; omega
theorem sa_1 (hn : 2000 ≤ n) (D : DG (K0 154)) (hu : ∀ k, k < (K0 154 6).toInt.toNat → ∀ i, i < 13 → (K0 154 (10 + 16 * k + i)).toInt.natAbs < 10000) : ∀ (d k j : Nat) (I K : gI) (B : List Nat), k + d = (K0 154 6).toInt.toNat → d < j → PB I0 K0 I K B → B.length + 126 * d ≤ 514 → OKp (L_L_says n T0 T1 j 1 (Int32.ofNat k) I K) (fun r => ∃ I' K', PB I0 K0 I' K' (B ++ (tTrains (K0 154) d k ++ tFurn (K0 154))) ∧ F_L_said n T0 T1 I' K' = some r) := by
  obtain ⟨H, T, Mr, Ng, Cg⟩ := D
  have H' := H
  obtain ⟨g1, g2, g3, g4, g5, g6, g7⟩ := H'
  intro d
  induction d with
  | zero =>
    intro k j I K B hi hj h hB
    obtain ⟨j, rfl⟩ : ∃ m, j = m + 1 := ⟨j - 1, by omega⟩
    rw [L_L_says_e1, if_pos (show K 154 6 ≤ Int32.ofNat k by rw [h.w, i_le, i_of (by omega)]; omega), show tTrains (K0 154) 0 k = [] from rfl, List.nil_append]
    obtain ⟨r, e, p⟩ := fr_0 (T0 := T0) (T1 := T1) hn Ng Mr (fun k hk => (Cg k hk).ok hk H) 4 0 n I K B rfl (by omega) h (by omega)
    refine o_bd (v := r) (by unfold F_L_furniture; exact e) ?_
    have hf := tFurn_l Ng
    obtain ⟨I', K', L, e2, q1⟩ := said_s (T0 := T0) (T1 := T1) hn p (by rw [len_ap]; have : tFurn (K0 154) = (tMirs (K0 154) 4 0 ++ (tRows (K0 154) [59, 99, 117, 116] 65 3 (K0 154 64).toInt.toNat 0 ++ (tRows (K0 154) [59, 115, 104, 111, 97, 108] 72 5 (K0 154 71).toInt.toNat 0 ++ tRows (K0 154) [59, 103, 97, 117, 103, 101] 83 2 (K0 154 82).toInt.toNat 0))) := rfl; rw [← this]; omega)
    refine o_bd e2 ⟨_, rfl, r.1, r.2, p, e2⟩
  | succ d ih =>
    intro k j I K B hi hj h hB
    obtain ⟨j, rfl⟩ : ∃ m, j = m + 1 := ⟨j - 1, by omega⟩
    rw [L_L_says_e1, if_neg (show ¬ K 154 6 ≤ Int32.ofNat k by rw [h.w, i_le, i_of (by omega)]; omega)]
    obtain ⟨r, e, p⟩ := trn_s (T0 := T0) (T1 := T1) hn (k := k) (by omega) (hu k (by omega)) h (by omega)
    refine o_bd e ?_
    have l1 := tTrain_l (K0 154) k
    rw [ixp_1]
    refine (ih (k + 1) j r.1 r.2 _ (by omega) (by omega) p (by rw [len_ap]; omega)).mono fun r hr => ?_
    rw [show tTrains (K0 154) (d + 1) k = tTrain (K0 154) k ++ tTrains (K0 154) d (k + 1) from rfl]
    simp only [List.append_assoc] at hr ⊢
    exact hr
theorem sa_0 (hn : 2000 ≤ n) (D : DG (K0 154)) (hu : ∀ k, k < (K0 154 6).toInt.toNat → ∀ i, i < 13 → (K0 154 (10 + 16 * k + i)).toInt.natAbs < 10000) : ∀ (d y j : Nat) (I K : gI) (B : List Nat), y + d = (K0 154 2).toInt.toNat → d + 10 < j → PB I0 K0 I K B → B.length + 17 * d ≤ 136 → OKp (L_L_says n T0 T1 j 0 (Int32.ofNat y) I K) (fun r => ∃ I' K', PB I0 K0 I' K' (B ++ (tSlits (K0 154) d y ++ (tTrains (K0 154) (K0 154 6).toInt.toNat 0 ++ tFurn (K0 154)))) ∧ F_L_said n T0 T1 I' K' = some r) := by
  have D' := D
  obtain ⟨H, T, Mr, Ng, Cg⟩ := D'
  obtain ⟨g1, g2, g3, g4, g5, g6, g7⟩ := H
  intro d
  induction d with
  | zero =>
    intro y j I K B hi hj h hB
    obtain ⟨j, rfl⟩ : ∃ m, j = m + 1 := ⟨j - 1, by omega⟩
    rw [L_L_says_e0, if_pos (show K 154 2 ≤ Int32.ofNat y by rw [h.w, i_le, i_of (by omega)]; omega), show tSlits (K0 154) 0 y = [] from rfl, List.nil_append]
    exact sa_1 hn D hu (K0 154 6).toInt.toNat 0 j I K B (by omega) (by omega) h (by omega)
  | succ d ih =>
    intro y j I K B hi hj h hB
    obtain ⟨j, rfl⟩ : ∃ m, j = m + 1 := ⟨j - 1, by omega⟩
    rw [L_L_says_e0, if_neg (show ¬ K 154 2 ≤ Int32.ofNat y by rw [h.w, i_le, i_of (by omega)]; omega), h.w]
    rw [show tSlits (K0 154) (d + 1) y = (if (K0 154 5 >>> (Int32.ofNat y &&& 31)) &&& (1 : Int32) = 0 then [] else [59, 115, 108, 105, 116] ++ (pa (Int32.ofNat y) ++ pa (Int32.ofNat y))) ++ tSlits (K0 154) d (y + 1) from rfl]
    by_cases q : (K0 154 5 >>> (Int32.ofNat y &&& 31)) &&& (1 : Int32) = 0
    · rw [if_pos q, if_pos q, List.nil_append, ixp_1]
      exact ih (y + 1) j I K B (by omega) (by omega) h (by omega)
    · rw [if_neg q, if_neg q]
      have hp := pa_l (Int32.ofNat y)
      refine q_say hn h (by decide +kernel) (l := [59, 115, 108, 105, 116]) (by decide +kernel) (by rw [show [59, 115, 108, 105, 116].length = 5 from rfl]; omega) fun v1 h1 => ?_
      have l1 : (B ++ [59, 115, 108, 105, 116]).length = B.length + 5 := by rw [len_ap]; rfl
      refine q_part hn h1 rfl (small (by omega)) (by omega) fun v2 h2 => ?_
      have l2 : (B ++ [59, 115, 108, 105, 116] ++ pa (Int32.ofNat y)).length ≤ B.length + 11 := by rw [len_ap]; omega
      refine q_part hn h2 rfl (small (by omega)) (by omega) fun v3 h3 => ?_
      rw [ixp_1]
      refine (ih (y + 1) j v3.1 v3.2 _ (by omega) (by omega) h3 (by rw [len_ap]; omega)).mono fun r hr => ?_
      simp only [List.append_assoc] at hr ⊢
      exact hr
theorem sa_w (hn : 2000 ≤ n) (D : DG (K0 154)) (hu : ∀ k, k < (K0 154 6).toInt.toNat → ∀ i, i < 13 → (K0 154 (10 + 16 * k + i)).toInt.natAbs < 10000) {B : List Nat} (hB : B = [116, 97, 110, 107, 32, 119, 105, 100] ++ ([116, 104] ++ (pa (K0 154 1) ++ ([32, 104, 101, 105, 103, 104, 116] ++ (pa (K0 154 2) ++ ([32, 102, 97, 100, 101] ++ pa (K0 154 3))))))) (lB : B.length ≤ 40) {v7 : gI × gI} (h7 : PB I0 K0 v7.1 v7.2 B) : OKp (if (v7.2 154 4) < 0 then L_L_says n T0 T1 n 0 (0 : Int32) v7.1 v7.2 else bd (F_L_say n T0 T1 v7.1 v7.2 (139441826924 : Int64)) (fun v67 => bd (F_L_part n T0 T1 v67.1 v67.2 (v67.2 154 4)) (fun v75 => L_L_says n T0 T1 n 0 (0 : Int32) v75.1 v75.2))) (fun r => ∃ I' K', PB I0 K0 I' K' (tText (K0 154)) ∧ F_L_said n T0 T1 I' K' = some r) := by
  have D' := D
  obtain ⟨H, T, Mr, Ng, Cg⟩ := D'
  have H' := H
  obtain ⟨g1, g2, g3, g4, g5, g6, g7⟩ := H'
  have k4 := pa_l (K0 154 4)
  have hw4 : (K0 154 4).toInt.natAbs < 10000 := by
    rcases g4 with q | q
    · rw [q, show (-1 : Int32).toInt = -1 from rfl]; omega
    · omega
  rw [h7.w]
  have tx : ∀ l : List Nat, B ++ ((if K0 154 4 < 0 then [] else [32, 119, 97, 108, 108] ++ pa (K0 154 4)) ++ l) = tHead (K0 154) ++ l := fun l => by
    rw [hB]; unfold tHead; simp only [List.append_assoc]
  by_cases q : K0 154 4 < 0
  · rw [if_pos q]
    refine (sa_0 hn D hu (K0 154 2).toInt.toNat 0 n v7.1 v7.2 _ (by omega) (by omega) h7 (by omega)).mono fun r hr => ?_
    have := tx (tSlits (K0 154) (K0 154 2).toInt.toNat 0 ++ (tTrains (K0 154) (K0 154 6).toInt.toNat 0 ++ tFurn (K0 154)))
    rw [if_pos q, List.nil_append] at this
    rw [this] at hr
    exact hr
  · rw [if_neg q]
    refine q_say hn h7 (by decide +kernel) (l := [32, 119, 97, 108, 108]) (by decide +kernel) (by rw [show [32, 119, 97, 108, 108].length = 5 from rfl]; omega) fun v8 h8 => ?_
    have l8 : (B ++ [32, 119, 97, 108, 108]).length ≤ 45 := by rw [len_ap, show [32, 119, 97, 108, 108].length = 5 from rfl]; omega
    refine q_part hn h8 (h8.w 4) hw4 (by omega) fun v9 h9 => ?_
    have l9 : (B ++ [32, 119, 97, 108, 108] ++ pa (K0 154 4)).length ≤ 51 := by rw [len_ap]; omega
    refine (sa_0 hn D hu (K0 154 2).toInt.toNat 0 n v9.1 v9.2 _ (by omega) (by omega) h9 (by omega)).mono fun r hr => ?_
    have := tx (tSlits (K0 154) (K0 154 2).toInt.toNat 0 ++ (tTrains (K0 154) (K0 154 6).toInt.toNat 0 ++ tFurn (K0 154)))
    rw [if_neg q] at this
    rw [List.append_assoc, List.append_assoc, ← List.append_assoc [32, 119, 97, 108, 108], this] at hr
    exact hr
theorem sa_h (hn : 2000 ≤ n) (D : DG (K0 154)) (hu : ∀ k, k < (K0 154 6).toInt.toNat → ∀ i, i < 13 → (K0 154 (10 + 16 * k + i)).toInt.natAbs < 10000) (h : PB I0 K0 I K []) : OKp (F_L_says n T0 T1 I K) (fun r => ∃ I' K', PB I0 K0 I' K' (tText (K0 154)) ∧ F_L_said n T0 T1 I' K' = some r) := by
  have D' := D
  obtain ⟨H, T, Mr, Ng, Cg⟩ := D'
  have H' := H
  obtain ⟨g1, g2, g3, g4, g5, g6, g7⟩ := H'
  have k1 := pa_l (K0 154 1)
  have k2 := pa_l (K0 154 2)
  have k3 := pa_l (K0 154 3)
  unfold F_L_says
  refine q_say hn h (by decide +kernel) (l := [116, 97, 110, 107, 32, 119, 105, 100]) (by decide +kernel) (by simp) fun v1 h1 => ?_
  refine q_say hn h1 (by decide +kernel) (l := [116, 104]) (by decide +kernel) (by simp) fun v2 h2 => ?_
  refine q_part hn h2 (h2.w 1) (by omega) (by simp) fun v3 h3 => ?_
  have l3 : (([] : List Nat) ++ [116, 97, 110, 107, 32, 119, 105, 100] ++ [116, 104] ++ pa (K0 154 1)).length ≤ 16 := by rw [len_ap, len_ap, len_ap, show [116, 97, 110, 107, 32, 119, 105, 100].length = 8 from rfl, show [116, 104].length = 2 from rfl, List.length_nil]; omega
  refine q_say hn h3 (by decide +kernel) (l := [32, 104, 101, 105, 103, 104, 116]) (by decide +kernel) (by rw [show [32, 104, 101, 105, 103, 104, 116].length = 7 from rfl]; omega) fun v4 h4 => ?_
  have l4 : (([] : List Nat) ++ [116, 97, 110, 107, 32, 119, 105, 100] ++ [116, 104] ++ pa (K0 154 1) ++ [32, 104, 101, 105, 103, 104, 116]).length ≤ 23 := by rw [len_ap, show [32, 104, 101, 105, 103, 104, 116].length = 7 from rfl]; omega
  refine q_part hn h4 (h4.w 2) (by omega) (by omega) fun v5 h5 => ?_
  have l5 : (([] : List Nat) ++ [116, 97, 110, 107, 32, 119, 105, 100] ++ [116, 104] ++ pa (K0 154 1) ++ [32, 104, 101, 105, 103, 104, 116] ++ pa (K0 154 2)).length ≤ 29 := by rw [len_ap]; omega
  refine q_say hn h5 (by decide +kernel) (l := [32, 102, 97, 100, 101]) (by decide +kernel) (by rw [show [32, 102, 97, 100, 101].length = 5 from rfl]; omega) fun v6 h6 => ?_
  have l6 : (([] : List Nat) ++ [116, 97, 110, 107, 32, 119, 105, 100] ++ [116, 104] ++ pa (K0 154 1) ++ [32, 104, 101, 105, 103, 104, 116] ++ pa (K0 154 2) ++ [32, 102, 97, 100, 101]).length ≤ 34 := by rw [len_ap, show [32, 102, 97, 100, 101].length = 5 from rfl]; omega
  refine q_part hn h6 (h6.w 3) (by omega) (by omega) fun v7 h7 => ?_
  have l7 : (([] : List Nat) ++ [116, 97, 110, 107, 32, 119, 105, 100] ++ [116, 104] ++ pa (K0 154 1) ++ [32, 104, 101, 105, 103, 104, 116] ++ pa (K0 154 2) ++ [32, 102, 97, 100, 101] ++ pa (K0 154 3)).length ≤ 40 := by rw [len_ap]; omega
  exact sa_w hn D hu (by simp only [List.append_assoc, List.nil_append]) l7 h7
theorem tText_l {W : gP} (D : DG W) : (tText W).length ≤ 800 := by
  obtain ⟨H, T, Mr, Ng, Cg⟩ := D
  obtain ⟨g1, g2, g3, g4, g5, g6, g7⟩ := H
  have a1 := tHead_l W
  have a2 := tSlits_l W (W 2).toInt.toNat 0
  have a3 := tTrains_l W (W 6).toInt.toNat 0
  have a4 := tFurn_l Ng
  unfold tText
  rw [len_ap, len_ap, len_ap]; omega
/-- the text is said: it lies in the buffer, its length is told -/
theorem says_s (hn : 2000 ≤ n) (D : DG (K0 154)) (hu : ∀ k, k < (K0 154 6).toInt.toNat → ∀ i, i < 13 → (K0 154 (10 + 16 * k + i)).toInt.natAbs < 10000) (h : PB I0 K0 I K []) : ∃ I' K' L, F_L_says n T0 T1 I K = some (Int32.ofNat (tText (K0 154)).length, I', K') ∧ (tText (K0 154)).length ≤ L ∧ L ≤ 880 ∧ I' 0 1 = Int32.ofNat L ∧ (∀ i, i < (tText (K0 154)).length → I' 1 i = Int32.ofNat ((tText (K0 154)).getD i 0)) ∧ (∀ o i, o ≠ 1 → (o ≠ 0 ∨ i ≠ 1) → I' o i = I0 o i) ∧ (∀ o i, o ≠ 153 → K' o i = K0 o i) ∧ (∀ i, (tText (K0 154)).getD i 0 < 128) := by
  obtain ⟨r, e, I1, K1, p, es⟩ := sa_h (T0 := T0) (T1 := T1) hn D hu h
  obtain ⟨I', K', L, e2, q⟩ := said_s (T0 := T0) (T1 := T1) hn p (tText_l D)
  rw [es] at e2
  rw [Option.some.inj e2] at e
  exact ⟨I', K', L, e, q.1, q.2.1, q.2.2.1, q.2.2.2.1, q.2.2.2.2.1, q.2.2.2.2.2, p.2.1⟩
end SAJ
