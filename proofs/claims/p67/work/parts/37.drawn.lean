/-! WHAT IS DRAWN: bounds of the numbers that the law draws out of its script -/
def OKp {α : Type} (x : Option α) (P : α → Prop) : Prop := ∃ r, x = some r ∧ P r
section OKS
variable {β : Type} {P : β → Prop} {K : gI}
theorem o_gv {i : Int32} {k : Nat} {x : Option β} (e : i = Int32.ofNat k) (hk : k < 90) (h : OKp x P) : OKp (gv i 90 x) P := by
  rw [e, gv_o hk]; exact h
theorem o_gd {c : Prop} [Decidable c] {x : Option β} (hc : c) (h : OKp x P) : OKp (gd c x) P := by
  rw [gd_t hc]; exact h
theorem o_bd {α : Type} {x : Option α} {v : α} {g : α → Option β} (e : x = some v) (h : OKp (g v) P) : OKp (bd x g) P := by
  rw [e, bd_s]; exact h
theorem o_sc {k : Nat} {v : Int32} {g : gI → Option β} (h : ∀ K' : gI, K' 154 = up (K 154) k v → (∀ o, o ≠ 154 → K' o = K o) → OKp (g K') P) : OKp (lt (sI K 154 k v) g) P := by
  refine h _ ?_ ?_
  · funext i
    rw [sI_get]
    unfold up
    by_cases q : i = k
    · rw [if_pos ⟨rfl, q⟩, if_pos q]
    · rw [if_neg (fun z => q z.2), if_neg q]
  · intro o ho
    funext i
    exact sI_o ho
theorem o_st {i : Int32} {k : Nat} {v : Int32} {g : gI → Option β} (e : i = Int32.ofNat k) (hk : k < 90) (h : ∀ K' : gI, K' 154 = up (K 154) k v → (∀ o, o ≠ 154 → K' o = K o) → OKp (g K') P) : OKp (gv i 90 (lt (sI K 154 (Int32.toNatClampNeg i) v) g)) P := by
  refine o_gv e hk ?_
  rw [e, i_tno (by omega)]
  exact o_sc h
theorem o_ite {c : Prop} [Decidable c] {i : Int32} {k : Nat} {v1 v2 : Int32} {g : gI → Option β} (e : i = Int32.ofNat k) (hk : k < 90) (h : ∀ (K' : gI) (v : Int32), (c → v = v1) → (¬ c → v = v2) → K' 154 = up (K 154) k v → (∀ o, o ≠ 154 → K' o = K o) → OKp (g K') P) : OKp (if c then gv i 90 (lt (sI K 154 (Int32.toNatClampNeg i) v1) g) else gv i 90 (lt (sI K 154 (Int32.toNatClampNeg i) v2) g)) P := by
  by_cases q : c
  · rw [if_pos q]; exact o_st e hk fun K' a b => h K' v1 (fun _ => rfl) (fun z => absurd q z) a b
  · rw [if_neg q]; exact o_st e hk fun K' a b => h K' v2 (fun z => absurd z q) (fun _ => rfl) a b
end OKS
theorem ix_l (a b c k : Nat) : Int32.ofNat a + Int32.ofNat b * Int32.ofNat k + Int32.ofNat c = Int32.ofNat (a + b * k + c) := by rw [i_omul, i_oadd, i_oadd]
theorem ix_m (a b k : Nat) : Int32.ofNat a + Int32.ofNat b * Int32.ofNat k = Int32.ofNat (a + b * k) := by rw [i_omul, i_oadd]
theorem an_b (x : Int32) (m q : Nat) (hm : m + 1 = 2 ^ q) (hq : m < 2147483647) : 0 ≤ (x &&& Int32.ofNat m).toInt ∧ (x &&& Int32.ofNat m).toInt ≤ m := by
  have e : (x &&& Int32.ofNat m) = Int32.ofNat (un x % 2 ^ q) := by
    apply Int32.toBitVec_inj.mp
    apply BitVec.eq_of_toNat_eq
    have h2 := un_of (k := m) (by omega)
    have h3 := un_of (k := un x % 2 ^ q) (by have := Nat.mod_lt (un x) (show 0 < 2 ^ q by omega); omega)
    unfold un at h2 h3 ⊢
    rw [Int32.toBitVec_and, BitVec.toNat_and, h2, h3, show m = 2 ^ q - 1 by omega, Nat.and_two_pow_sub_one_eq_mod]
  have h := Nat.mod_lt (un x) (show 0 < 2 ^ q by omega)
  rw [e, i_of (by omega)]
  omega
theorem mo_b {a d : Int32} (hd : 0 < d.toInt) (ha : 0 ≤ a.toInt) : 0 ≤ (a - a / d * d).toInt ∧ (a - a / d * d).toInt < d.toInt := ⟨(md_b hd).2.2 ha, (md_b hd).2.1⟩
theorem cell_s (n : Nat) {zS : Nat} {S : Nat → Int32} (hz : zS < 2147483648) {a : Int32} {i : Nat} (e : a = Int32.ofNat i) (hi : i < 2147483648) : ∃ c, F_L_cell n zS S a = some c := by
  unfold F_L_cell
  by_cases q : nI zS ≤ a
  · rw [if_pos q]; exact ⟨_, rfl⟩
  · rw [if_neg q, gv_t]
    · exact ⟨_, rfl⟩
    · rw [e, i_of hi]; omega
    · rw [e, show nI zS = Int32.ofNat zS from rfl, i_ole hz hi] at q
      rw [e, i_of hi]; omega
/-- the head of what is drawn -/
def HG (W : gP) : Prop := (1 ≤ (W 1).toInt ∧ (W 1).toInt ≤ 8) ∧ (1 ≤ (W 2).toInt ∧ (W 2).toInt ≤ 5) ∧ (0 ≤ (W 3).toInt ∧ (W 3).toInt ≤ 2047) ∧ (W 4 = -1 ∨ (0 ≤ (W 4).toInt ∧ (W 4).toInt < (W 1).toInt)) ∧ (0 ≤ (W 5).toInt ∧ (W 5).toInt < 2 ^ (W 2).toInt.toNat) ∧ (W 4 = -1 → W 5 = 0) ∧ (1 ≤ (W 6).toInt ∧ (W 6).toInt ≤ 3)
/-- a train that is drawn -/
def TG (W : gP) (k : Nat) : Prop := (0 ≤ (W (10 + 16 * k)).toInt ∧ (W (10 + 16 * k)).toInt < (W 1).toInt) ∧ (0 ≤ (W (10 + 16 * k + 1)).toInt ∧ (W (10 + 16 * k + 1)).toInt < (W 2).toInt) ∧ (1 ≤ (W (10 + 16 * k + 2)).toInt ∧ (W (10 + 16 * k + 2)).toInt ≤ 512) ∧ (50 ≤ (W (10 + 16 * k + 3)).toInt ∧ (W (10 + 16 * k + 3)).toInt ≤ 561) ∧ (2 ≤ (W (10 + 16 * k + 4)).toInt ∧ (W (10 + 16 * k + 4)).toInt ≤ 33) ∧ (0 ≤ (W (10 + 16 * k + 5)).toInt ∧ (W (10 + 16 * k + 5)).toInt ≤ 359) ∧ (0 ≤ (W (10 + 16 * k + 6)).toInt ∧ (W (10 + 16 * k + 6)).toInt ≤ 7) ∧ ((W (10 + 16 * k + 6)).toInt ≤ (W (10 + 16 * k + 7)).toInt ∧ (W (10 + 16 * k + 7)).toInt ≤ 134) ∧ (0 ≤ (W (10 + 16 * k + 8)).toInt ∧ (W (10 + 16 * k + 8)).toInt ≤ 2) ∧ (W (10 + 16 * k + 8) ≠ 0 → 1 ≤ (W (10 + 16 * k + 9)).toInt ∧ (W (10 + 16 * k + 9)).toInt ≤ 8) ∧ (W (10 + 16 * k + 8) = 1 → 1 ≤ (W (10 + 16 * k + 10)).toInt ∧ (W (10 + 16 * k + 10)).toInt ≤ 4) ∧ (-32 ≤ (W (10 + 16 * k + 11)).toInt ∧ (W (10 + 16 * k + 11)).toInt ≤ 31) ∧ (-32 ≤ (W (10 + 16 * k + 12)).toInt ∧ (W (10 + 16 * k + 12)).toInt ≤ 31) ∧ (W (10 + 16 * k + 13) = 0 ∨ W (10 + 16 * k + 13) = 1) ∧ (0 ≤ (W (10 + 16 * k + 14)).toInt ∧ (W (10 + 16 * k + 14)).toInt ≤ 2) ∧ (W (10 + 16 * k + 8) = 0 → W (10 + 16 * k + 9) = 0) ∧ (W (10 + 16 * k + 8) ≠ 1 → W (10 + 16 * k + 10) = 0)
/-- a cut, a gauge, a shoal -/
def CG (W : gP) (k : Nat) : Prop := (0 ≤ (W (65 + 3 * k)).toInt ∧ (W (65 + 3 * k)).toInt < (W 6).toInt) ∧ (0 ≤ (W (66 + 3 * k)).toInt ∧ (W (66 + 3 * k)).toInt ≤ 31) ∧ ((W (66 + 3 * k)).toInt ≤ (W (67 + 3 * k)).toInt ∧ (W (67 + 3 * k)).toInt ≤ 46) ∧ (0 ≤ (W (83 + 2 * k)).toInt ∧ (W (83 + 2 * k)).toInt < (W 1).toInt) ∧ (0 ≤ (W (84 + 2 * k)).toInt ∧ (W (84 + 2 * k)).toInt < (W 2).toInt) ∧ (0 ≤ (W (72 + 5 * k)).toInt ∧ (W (72 + 5 * k)).toInt < (W 1).toInt) ∧ (0 ≤ (W (72 + 5 * k + 1)).toInt ∧ (W (72 + 5 * k + 1)).toInt < (W 2).toInt) ∧ ((W (72 + 5 * k)).toInt ≤ (W (72 + 5 * k + 2)).toInt ∧ (W (72 + 5 * k + 2)).toInt < (W 1).toInt) ∧ ((W (72 + 5 * k + 1)).toInt ≤ (W (72 + 5 * k + 3)).toInt ∧ (W (72 + 5 * k + 3)).toInt < (W 2).toInt) ∧ (0 ≤ (W (72 + 5 * k + 4)).toInt ∧ (W (72 + 5 * k + 4)).toInt ≤ 200)
/-- mirrors, and the counts of cuts, shoals, gauges -/
def MG (W : gP) (k : Nat) : Prop := 0 ≤ (W (60 + k)).toInt ∧ (W (60 + k)).toInt ≤ 94
def NG (W : gP) : Prop := (0 ≤ (W 64).toInt ∧ (W 64).toInt ≤ 2) ∧ (0 ≤ (W 71).toInt ∧ (W 71).toInt ≤ 2) ∧ (0 ≤ (W 82).toInt ∧ (W 82).toInt ≤ 2)
theorem HG.cg {W W' : gP} (h : HG W) (e : ∀ i, i < 10 → W' i = W i) : HG W' := by
  unfold HG at *
  rw [e 1 (by decide), e 2 (by decide), e 3 (by decide), e 4 (by decide), e 5 (by decide), e 6 (by decide)]; exact h
theorem TG.cg {W W' : gP} {k : Nat} (h : TG W k) (e : ∀ i, (i < 10 ∨ (10 + 16 * k ≤ i ∧ i < 26 + 16 * k)) → W' i = W i) : TG W' k := by
  unfold TG at *
  rw [e 1 (by omega), e 2 (by omega), e (10 + 16 * k) (by omega), e (10 + 16 * k + 1) (by omega), e (10 + 16 * k + 2) (by omega), e (10 + 16 * k + 3) (by omega), e (10 + 16 * k + 4) (by omega), e (10 + 16 * k + 5) (by omega), e (10 + 16 * k + 6) (by omega), e (10 + 16 * k + 7) (by omega), e (10 + 16 * k + 8) (by omega), e (10 + 16 * k + 9) (by omega), e (10 + 16 * k + 10) (by omega), e (10 + 16 * k + 11) (by omega), e (10 + 16 * k + 12) (by omega), e (10 + 16 * k + 13) (by omega), e (10 + 16 * k + 14) (by omega)] ; exact h
theorem CG.cg {W W' : gP} {k : Nat} (h : CG W k) (e : ∀ i, (i < 10 ∨ (65 + 3 * k ≤ i ∧ i ≤ 67 + 3 * k) ∨ (72 + 5 * k ≤ i ∧ i ≤ 76 + 5 * k) ∨ (83 + 2 * k ≤ i ∧ i ≤ 84 + 2 * k)) → W' i = W i) : CG W' k := by
  unfold CG at *
  rw [e 1 (by omega), e 2 (by omega), e 6 (by omega), e (65 + 3 * k) (by omega), e (66 + 3 * k) (by omega), e (67 + 3 * k) (by omega), e (83 + 2 * k) (by omega), e (84 + 2 * k) (by omega), e (72 + 5 * k) (by omega), e (72 + 5 * k + 1) (by omega), e (72 + 5 * k + 2) (by omega), e (72 + 5 * k + 3) (by omega), e (72 + 5 * k + 4) (by omega)]; exact h
section DRW
variable {n zS : Nat} {S : Nat → Int32}
theorem fur_1 (hz : zS < 2147483648) : ∀ (d k j : Nat) (x2 : Int32) (K : gI), k + d = 2 → d < j → HG (K 154) → (∀ i, i < k → CG (K 154) i) → OKp (L_L_furnished n zS S j 1 x2 (Int32.ofNat k) K) (fun r => (∀ o, o ≠ 154 → r o = K o) ∧ (∀ i, (i < 65 ∨ i = 71 ∨ i = 82) → r 154 i = K 154 i) ∧ (∀ i, i < 2 → CG (r 154) i)) := by
  intro d
  induction d with
  | zero =>
    intro k j x2 K hk hj H C
    obtain ⟨j, rfl⟩ : ∃ i, j = i + 1 := ⟨j - 1, by omega⟩
    rw [L_L_furnished_e1, if_pos (show (2 : Int32) ≤ Int32.ofNat k from (i_ole (a := 2) (b := k) (by omega) (by omega)).mpr (by omega))]
    exact ⟨K, rfl, fun _ _ => rfl, fun _ _ => rfl, fun i hi => C i (by omega)⟩
  | succ d ih =>
    intro k j x2 K hk hj H C
    obtain ⟨j, rfl⟩ : ∃ i, j = i + 1 := ⟨j - 1, by omega⟩
    obtain ⟨g1, g2, g3, g4, g5, g6, g7⟩ := id H
    obtain ⟨c, hc⟩ := cell_s n (S := S) hz (a := 23 + 2 * Int32.ofNat k) (ix_m 23 2 k) (by omega)
    obtain ⟨c', hc'⟩ := cell_s n (S := S) hz (a := 24 + 2 * Int32.ofNat k) (ix_m 24 2 k) (by omega)
    rw [L_L_furnished_e1, if_neg (show ¬ (2 : Int32) ≤ Int32.ofNat k from fun z => absurd ((i_ole (a := 2) (b := k) (by omega) (by omega)).mp z) (by omega))]
    refine o_bd hc ?_
    refine o_gd (fun z => by rw [z, ii_0] at g7; omega) ?_
    refine o_st (ix_m 65 3 k) (by omega) fun K1 w1 r1 => ?_
    refine o_st (ix_m 66 3 k) (by omega) fun K2 w2 r2 => ?_
    refine o_gv (ix_m 66 3 k) (by omega) ?_
    refine o_st (ix_m 67 3 k) (by omega) fun K3 w3 r3 => ?_
    rw [show (66 : Int32) + 3 * Int32.ofNat k = Int32.ofNat (66 + 3 * k) from ix_m 66 3 k, i_tno (by omega)] at w3
    have h1 : K3 154 1 = K 154 1 := by rw [w3, up_o (by omega), w2, up_o (by omega), w1, up_o (by omega)]
    have z1 : ¬ (K3 154 1) = 0 := fun z => by rw [h1] at z; rw [z, ii_0] at g1; omega
    refine o_gd z1 ?_
    refine o_st (ix_m 83 2 k) (by omega) fun K4 w4 r4 => ?_
    have h2 : K4 154 2 = K 154 2 := by rw [w4, up_o (by omega), w3, up_o (by omega), w2, up_o (by omega), w1, up_o (by omega)]
    have z2 : ¬ (K4 154 2) = 0 := fun z => by rw [h2] at z; rw [z, ii_0] at g2; omega
    refine o_gd z2 ?_
    refine o_st (ix_m 84 2 k) (by omega) fun K5 w5 r5 => ?_
    refine o_bd hc' ?_
    have h51 : K5 154 1 = K 154 1 := by rw [w5, up_o (by omega), w4, up_o (by omega), h1]
    refine o_gd (fun z => by rw [h51] at z; rw [z, ii_0] at g1; omega) ?_
    refine o_st (ix_m 72 5 k) (by omega) fun K6 w6 r6 => ?_
    have h62 : K6 154 2 = K 154 2 := by rw [w6, up_o (by omega), w5, up_o (by omega), h2]
    refine o_gd (fun z => by rw [h62] at z; rw [z, ii_0] at g2; omega) ?_
    refine o_st (ix_l 72 5 1 k) (by omega) fun K7 w7 r7 => ?_
    have h71 : K7 154 1 = K 154 1 := by rw [w7, up_o (by omega), w6, up_o (by omega), h51]
    have e72 : (Int32.toNatClampNeg ((72 : Int32) + ((5 : Int32) * Int32.ofNat k))) = 72 + 5 * k := by rw [show (72 : Int32) + 5 * Int32.ofNat k = Int32.ofNat (72 + 5 * k) from ix_m 72 5 k, i_tno (by omega)]
    have e73 : (Int32.toNatClampNeg (((72 : Int32) + ((5 : Int32) * Int32.ofNat k)) + (1 : Int32))) = 72 + 5 * k + 1 := by rw [show (72 : Int32) + 5 * Int32.ofNat k + 1 = Int32.ofNat (72 + 5 * k + 1) from ix_l 72 5 1 k, i_tno (by omega)]
    have a7 := an_b (c' &&& 7) 7 3 (by decide) (by decide)
    have b1 : 0 ≤ (K6 154 (72 + 5 * k)).toInt ∧ (K6 154 (72 + 5 * k)).toInt < (K 154 1).toInt := by
      rw [w6, up_t, h51]; exact mo_b (by omega) (an_b c' 7 3 (by decide) (by decide)).1
    have b1' : K7 154 (72 + 5 * k) = K6 154 (72 + 5 * k) := by rw [w7, up_o (by omega)]
    have d1 : (K 154 1 - K6 154 (72 + 5 * k)).toInt = (K 154 1).toInt - (K6 154 (72 + 5 * k)).toInt := i_sub (by omega) (by omega)
    refine o_gv (ix_m 72 5 k) (by omega) ?_
    refine o_gv (ix_m 72 5 k) (by omega) ?_
    rw [e72, h71, b1']
    refine o_gd (fun z => by rw [z, ii_0] at d1; omega) ?_
    refine o_st (ix_l 72 5 2 k) (by omega) fun K8 w8 r8 => ?_
    have h82 : K8 154 2 = K 154 2 := by rw [w8, up_o (by omega), w7, up_o (by omega), h62]
    have b2 : 0 ≤ (K7 154 (72 + 5 * k + 1)).toInt ∧ (K7 154 (72 + 5 * k + 1)).toInt < (K 154 2).toInt := by
      rw [w7, up_t, h62]; exact mo_b (by omega) (an_b _ 7 3 (by decide) (by decide)).1
    have b2' : K8 154 (72 + 5 * k + 1) = K7 154 (72 + 5 * k + 1) := by rw [w8, up_o (by omega)]
    have d2 : (K 154 2 - K7 154 (72 + 5 * k + 1)).toInt = (K 154 2).toInt - (K7 154 (72 + 5 * k + 1)).toInt := i_sub (by omega) (by omega)
    refine o_gv (ix_l 72 5 1 k) (by omega) ?_
    refine o_gv (ix_l 72 5 1 k) (by omega) ?_
    rw [e73, h82, b2']
    refine o_gd (fun z => by rw [z, ii_0] at d2; omega) ?_
    refine o_st (ix_l 72 5 3 k) (by omega) fun K9 w9 r9 => ?_
    refine o_st (ix_l 72 5 4 k) (by omega) fun K10 w10 r10 => ?_
    have kp : ∀ i, (i < 65 ∨ i = 71 ∨ i = 82) → K10 154 i = K 154 i := fun i hi => by rw [w10, up_o (by omega), w9, up_o (by omega), w8, up_o (by omega), w7, up_o (by omega), w6, up_o (by omega), w5, up_o (by omega), w4, up_o (by omega), w3, up_o (by omega), w2, up_o (by omega), w1, up_o (by omega)]
    have kc : ∀ i, i < k → CG (K10 154) i := fun i hi => (C i hi).cg fun q hq => by rw [w10, up_o (by omega), w9, up_o (by omega), w8, up_o (by omega), w7, up_o (by omega), w6, up_o (by omega), w5, up_o (by omega), w4, up_o (by omega), w3, up_o (by omega), w2, up_o (by omega), w1, up_o (by omega)]
    have f1 : 0 ≤ (K10 154 (65 + 3 * k)).toInt ∧ (K10 154 (65 + 3 * k)).toInt < (K 154 6).toInt := by
      rw [w10, up_o (by omega), w9, up_o (by omega), w8, up_o (by omega), w7, up_o (by omega), w6, up_o (by omega), w5, up_o (by omega), w4, up_o (by omega), w3, up_o (by omega), w2, up_o (by omega), w1, up_t]; exact mo_b (by omega) (an_b c 3 2 (by decide) (by decide)).1
    have m2 := an_b (c >>> ((2 : Int32) &&& 31)) 31 5 (by decide) (by decide)
    have m3 := an_b (c >>> ((7 : Int32) &&& 31)) 15 4 (by decide) (by decide)
    have e2 : K10 154 (66 + 3 * k) = (c >>> ((2 : Int32) &&& 31)) &&& (31 : Int32) := by rw [w10, up_o (by omega), w9, up_o (by omega), w8, up_o (by omega), w7, up_o (by omega), w6, up_o (by omega), w5, up_o (by omega), w4, up_o (by omega), w3, up_o (by omega), w2, up_t]
    have e3 : K10 154 (67 + 3 * k) = ((c >>> ((2 : Int32) &&& 31)) &&& (31 : Int32)) + ((c >>> ((7 : Int32) &&& 31)) &&& (15 : Int32)) := by rw [w10, up_o (by omega), w9, up_o (by omega), w8, up_o (by omega), w7, up_o (by omega), w6, up_o (by omega), w5, up_o (by omega), w4, up_o (by omega), w3, up_t, w2, up_t]
    have e3i : (((c >>> ((2 : Int32) &&& 31)) &&& Int32.ofNat 31) + ((c >>> ((7 : Int32) &&& 31)) &&& Int32.ofNat 15)).toInt = ((c >>> ((2 : Int32) &&& 31)) &&& Int32.ofNat 31).toInt + ((c >>> ((7 : Int32) &&& 31)) &&& Int32.ofNat 15).toInt := i_add (by omega) (by omega)
    have f3 : ((c >>> ((2 : Int32) &&& 31)) &&& Int32.ofNat 31).toInt ≤ (((c >>> ((2 : Int32) &&& 31)) &&& Int32.ofNat 31) + ((c >>> ((7 : Int32) &&& 31)) &&& Int32.ofNat 15)).toInt ∧ (((c >>> ((2 : Int32) &&& 31)) &&& Int32.ofNat 31) + ((c >>> ((7 : Int32) &&& 31)) &&& Int32.ofNat 15)).toInt ≤ 46 := by rw [e3i]; omega
    have f4 : 0 ≤ (K10 154 (83 + 2 * k)).toInt ∧ (K10 154 (83 + 2 * k)).toInt < (K 154 1).toInt := by
      rw [w10, up_o (by omega), w9, up_o (by omega), w8, up_o (by omega), w7, up_o (by omega), w6, up_o (by omega), w5, up_o (by omega), w4, up_t, h1]; exact mo_b (by omega) (an_b _ 7 3 (by decide) (by decide)).1
    have f5 : 0 ≤ (K10 154 (84 + 2 * k)).toInt ∧ (K10 154 (84 + 2 * k)).toInt < (K 154 2).toInt := by
      rw [w10, up_o (by omega), w9, up_o (by omega), w8, up_o (by omega), w7, up_o (by omega), w6, up_o (by omega), w5, up_t, h2]; exact mo_b (by omega) (an_b _ 7 3 (by decide) (by decide)).1
    have e6 : K10 154 (72 + 5 * k) = K6 154 (72 + 5 * k) := by rw [w10, up_o (by omega), w9, up_o (by omega), w8, up_o (by omega), w7, up_o (by omega)]
    have e7 : K10 154 (72 + 5 * k + 1) = K7 154 (72 + 5 * k + 1) := by rw [w10, up_o (by omega), w9, up_o (by omega), w8, up_o (by omega)]
    have f8 : (K6 154 (72 + 5 * k)).toInt ≤ (K10 154 (72 + 5 * k + 2)).toInt ∧ (K10 154 (72 + 5 * k + 2)).toInt < (K 154 1).toInt := by
      rw [w10, up_o (by omega), w9, up_o (by omega), w8, up_t]
      have hm := mo_b (a := (c' >>> ((6 : Int32) &&& 31)) &&& (7 : Int32)) (d := K 154 1 - K6 154 (72 + 5 * k)) (by omega) (an_b (c' >>> ((6 : Int32) &&& 31)) 7 3 (by decide) (by decide)).1
      rw [i_add (by omega) (by omega)]
      omega
    have f9 : (K7 154 (72 + 5 * k + 1)).toInt ≤ (K10 154 (72 + 5 * k + 3)).toInt ∧ (K10 154 (72 + 5 * k + 3)).toInt < (K 154 2).toInt := by
      rw [w10, up_o (by omega), w9, up_t]
      have hm := mo_b (a := (c' >>> ((9 : Int32) &&& 31)) &&& (7 : Int32)) (d := K 154 2 - K7 154 (72 + 5 * k + 1)) (by omega) (an_b (c' >>> ((9 : Int32) &&& 31)) 7 3 (by decide) (by decide)).1
      rw [i_add (by omega) (by omega)]
      omega
    have f10 : 0 ≤ (K10 154 (72 + 5 * k + 4)).toInt ∧ (K10 154 (72 + 5 * k + 4)).toInt ≤ 200 := by
      rw [w10, up_t]
      have hm := mo_b (a := (c' >>> ((12 : Int32) &&& 31)) &&& (255 : Int32)) (d := 201) (by decide) (an_b (c' >>> ((12 : Int32) &&& 31)) 255 8 (by decide) (by decide)).1
      have : (201 : Int32).toInt = 201 := rfl
      rw [this] at hm
      exact ⟨hm.1, by omega⟩
    have ck : CG (K10 154) k := by
      unfold CG
      rw [kp 1 (by omega), kp 2 (by omega), kp 6 (by omega), e2, e3, e6, e7]
      exact ⟨f1, m2, f3, f4, f5, b1, b2, f8, f9, f10⟩
    rw [ixp_1]
    obtain ⟨r, er, p1, p2, p3⟩ := ih (k + 1) j c' K10 (by omega) (by omega) (H.cg fun i hi => kp i (by omega)) (fun i hi => by
      by_cases q : i = k
      · rw [q]; exact ck
      · exact kc i (by omega))
    refine ⟨r, er, fun o ho => ?_, fun i hi => ?_, p3⟩
    · rw [p1 o ho, r10 o ho, r9 o ho, r8 o ho, r7 o ho, r6 o ho, r5 o ho, r4 o ho, r3 o ho, r2 o ho, r1 o ho]
    · rw [p2 i hi, kp i hi]
theorem fur_0 (hz : zS < 2147483648) : ∀ (d k j : Nat) (x2 : Int32) (K : gI), k + d = 4 → d + 4 < j → HG (K 154) → (∀ i, i < k → MG (K 154) i) → OKp (L_L_furnished n zS S j 0 x2 (Int32.ofNat k) K) (fun r => (∀ o, o ≠ 154 → r o = K o) ∧ (∀ i, i < 60 → r 154 i = K 154 i) ∧ (∀ i, i < 4 → MG (r 154) i) ∧ NG (r 154) ∧ (∀ i, i < 2 → CG (r 154) i)) := by
  intro d
  induction d with
  | zero =>
    intro k j x2 K hk hj H C
    obtain ⟨j, rfl⟩ : ∃ i, j = i + 1 := ⟨j - 1, by omega⟩
    rw [L_L_furnished_e0, if_pos (show (4 : Int32) ≤ Int32.ofNat k from (i_ole (a := 4) (b := k) (by omega) (by omega)).mpr (by omega))]
    refine o_sc fun K1 w1 r1 => ?_
    refine o_sc fun K2 w2 r2 => ?_
    refine o_sc fun K3 w3 r3 => ?_
    have kp : ∀ i, i < 64 → K3 154 i = K 154 i := fun i hi => by rw [w3, up_o (by omega), w2, up_o (by omega), w1, up_o (by omega)]
    have c3 : (3 : Int32).toInt = 3 := rfl
    have hm : ∀ y : Int32, 0 ≤ ((y &&& (3 : Int32)) - (y &&& (3 : Int32)) / (3 : Int32) * (3 : Int32)).toInt ∧ ((y &&& (3 : Int32)) - (y &&& (3 : Int32)) / (3 : Int32) * (3 : Int32)).toInt ≤ 2 := fun y => by
      have := mo_b (d := 3) (by decide) (an_b y 3 2 (by decide) (by decide)).1
      rw [c3] at this
      exact ⟨this.1, Int.le_of_lt_add_one this.2⟩
    obtain ⟨r, er, p1, p2, p3⟩ := fur_1 (n := n) (S := S) hz 2 0 j x2 K3 rfl (by omega) (H.cg fun i hi => kp i (by omega)) (fun i hi => by omega)
    refine ⟨r, er, fun o ho => by rw [p1 o ho, r3 o ho, r2 o ho, r1 o ho], fun i hi => by rw [p2 i (by omega), kp i (by omega)], fun i hi => ?_, ?_, p3⟩
    · have := C i (by omega)
      unfold MG at *
      rw [p2 _ (by omega), kp _ (by omega)]; exact this
    · unfold NG
      rw [p2 64 (by omega), p2 71 (by omega), p2 82 (by omega), w3, up_o (by decide), up_o (by decide), up_t, w2, up_o (by decide), up_t, w1, up_t]
      exact ⟨hm _, hm _, hm _⟩
  | succ d ih =>
    intro k j x2 K hk hj H C
    obtain ⟨j, rfl⟩ : ∃ i, j = i + 1 := ⟨j - 1, by omega⟩
    rw [L_L_furnished_e0, if_neg (show ¬ (4 : Int32) ≤ Int32.ofNat k from fun z => absurd ((i_ole (a := 4) (b := k) (by omega) (by omega)).mp z) (by omega))]
    refine o_st (i_oadd 60 k) (by omega) fun K1 w1 r1 => ?_
    rw [ixp_1]
    obtain ⟨r, er, p1, p2, p3⟩ := ih (k + 1) j x2 K1 (by omega) (by omega) (H.cg fun i hi => by rw [w1, up_o (by omega)]) (fun i hi => by
      unfold MG
      by_cases q : i = k
      · rw [w1, q, up_t]
        have a1 := an_b (x2 >>> (Int32.ofNat k &&& 31)) 1 1 (by decide) (by decide)
        have a2 := an_b (x2 >>> (((4 : Int32) + ((5 : Int32) * Int32.ofNat k)) &&& 31)) 31 5 (by decide) (by decide)
        have c1 : (1 : Int32).toInt = 1 := rfl
        have c3 : (3 : Int32).toInt = 3 := rfl
        have e1 : (((x2 >>> (((4 : Int32) + ((5 : Int32) * Int32.ofNat k)) &&& 31)) &&& Int32.ofNat 31) * (3 : Int32)).toInt = ((x2 >>> (((4 : Int32) + ((5 : Int32) * Int32.ofNat k)) &&& 31)) &&& Int32.ofNat 31).toInt * 3 := i_mul (by rw [c3]; omega) (by rw [c3]; omega)
        have e2 : ((1 : Int32) + ((x2 >>> (((4 : Int32) + ((5 : Int32) * Int32.ofNat k)) &&& 31)) &&& Int32.ofNat 31) * (3 : Int32)).toInt = 1 + ((x2 >>> (((4 : Int32) + ((5 : Int32) * Int32.ofNat k)) &&& 31)) &&& Int32.ofNat 31).toInt * 3 := by rw [i_add (by rw [c1, e1]; omega) (by rw [c1, e1]; omega), c1, e1]
        show 0 ≤ (((x2 >>> (Int32.ofNat k &&& 31)) &&& Int32.ofNat 1) * ((1 : Int32) + ((x2 >>> (((4 : Int32) + ((5 : Int32) * Int32.ofNat k)) &&& 31)) &&& Int32.ofNat 31) * (3 : Int32))).toInt ∧ (((x2 >>> (Int32.ofNat k &&& 31)) &&& Int32.ofNat 1) * ((1 : Int32) + ((x2 >>> (((4 : Int32) + ((5 : Int32) * Int32.ofNat k)) &&& 31)) &&& Int32.ofNat 31) * (3 : Int32))).toInt ≤ 94
        have hq : ((x2 >>> (Int32.ofNat k &&& 31)) &&& Int32.ofNat 1).toInt = 0 ∨ ((x2 >>> (Int32.ofNat k &&& 31)) &&& Int32.ofNat 1).toInt = 1 := by omega
        rcases hq with hq | hq
        · rw [i_mul (by rw [hq]; omega) (by rw [hq]; omega), hq]; omega
        · rw [i_mul (by rw [hq, e2]; omega) (by rw [hq, e2]; omega), hq, e2]; omega
      · have := C i (by omega)
        unfold MG at this
        rw [w1, up_o (by omega)]; exact this)
    exact ⟨r, er, fun o ho => by rw [p1 o ho, r1 o ho], fun i hi => by rw [p2 i hi, w1, up_o (by omega)], p3⟩
theorem fur_s (hn : 2000 ≤ n) (hz : zS < 2147483648) {K : gI} (H : HG (K 154)) : OKp (F_L_furnished n zS S K) (fun r => (∀ o, o ≠ 154 → r o = K o) ∧ (∀ i, i < 60 → r 154 i = K 154 i) ∧ (∀ i, i < 4 → MG (r 154) i) ∧ NG (r 154) ∧ (∀ i, i < 2 → CG (r 154) i)) := by
  obtain ⟨c, hc⟩ := cell_s n (S := S) hz (a := 22) (i := 22) rfl (by decide)
  unfold F_L_furnished
  refine o_bd hc ?_
  exact fur_0 hz 4 0 n c K rfl (by omega) H (fun i hi => by omega)
theorem drw_1 (hn : 2000 ≤ n) (hz : zS < 2147483648) : ∀ (d k j : Nat) (x2 : Int32) (K : gI), k + d = (K 154 6).toInt.toNat → d < j → HG (K 154) → (∀ i, i < k → TG (K 154) i) → OKp (L_L_drawn n zS S j 0 x2 (Int32.ofNat k) K) (fun r => (∀ o, o ≠ 154 → r o = K o) ∧ (HG (r 154) ∧ (∀ i, i < (r 154 6).toInt.toNat → TG (r 154) i) ∧ (∀ i, i < 4 → MG (r 154) i) ∧ NG (r 154) ∧ (∀ i, i < 2 → CG (r 154) i))) := by
  intro d
  induction d with
  | zero =>
    intro k j x2 K hk hj H C
    obtain ⟨j, rfl⟩ : ∃ i, j = i + 1 := ⟨j - 1, by omega⟩
    obtain ⟨g1, g2, g3, g4, g5, g6, g7⟩ := id H
    rw [L_L_drawn_e0, if_pos (show K 154 6 ≤ Int32.ofNat k by rw [i_le, i_of (by omega)]; omega)]
    obtain ⟨r, er, p1, p2, p3⟩ := fur_s (S := S) hn hz H
    refine o_bd er ⟨r, rfl, p1, H.cg fun i hi => p2 i (by omega), fun i hi => ?_, p3⟩
    rw [p2 6 (by decide)] at hi
    exact (C i (by omega)).cg fun q hq => p2 q (by omega)
  | succ d ih =>
    intro k j x2 K hk hj H C
    obtain ⟨j, rfl⟩ : ∃ i, j = i + 1 := ⟨j - 1, by omega⟩
    obtain ⟨g1, g2, g3, g4, g5, g6, g7⟩ := id H
    obtain ⟨c, hc⟩ := cell_s n (S := S) hz (a := 1 + 2 * Int32.ofNat k) (ix_m 1 2 k) (by omega)
    obtain ⟨c', hc'⟩ := cell_s n (S := S) hz (a := 2 + 2 * Int32.ofNat k) (ix_m 2 2 k) (by omega)
    have c0 : (10 : Int32) + (16 : Int32) * Int32.ofNat k = Int32.ofNat (10 + 16 * k) := ix_m 10 16 k
    have c1 : ((10 : Int32) + (16 : Int32) * Int32.ofNat k) + (1 : Int32) = Int32.ofNat (10 + 16 * k + 1) := ix_l 10 16 1 k
    have c2 : ((10 : Int32) + (16 : Int32) * Int32.ofNat k) + (2 : Int32) = Int32.ofNat (10 + 16 * k + 2) := ix_l 10 16 2 k
    have c3 : ((10 : Int32) + (16 : Int32) * Int32.ofNat k) + (3 : Int32) = Int32.ofNat (10 + 16 * k + 3) := ix_l 10 16 3 k
    have c4 : ((10 : Int32) + (16 : Int32) * Int32.ofNat k) + (4 : Int32) = Int32.ofNat (10 + 16 * k + 4) := ix_l 10 16 4 k
    have c5 : ((10 : Int32) + (16 : Int32) * Int32.ofNat k) + (5 : Int32) = Int32.ofNat (10 + 16 * k + 5) := ix_l 10 16 5 k
    have c6 : ((10 : Int32) + (16 : Int32) * Int32.ofNat k) + (6 : Int32) = Int32.ofNat (10 + 16 * k + 6) := ix_l 10 16 6 k
    have c7 : ((10 : Int32) + (16 : Int32) * Int32.ofNat k) + (7 : Int32) = Int32.ofNat (10 + 16 * k + 7) := ix_l 10 16 7 k
    have c8 : ((10 : Int32) + (16 : Int32) * Int32.ofNat k) + (8 : Int32) = Int32.ofNat (10 + 16 * k + 8) := ix_l 10 16 8 k
    have c9 : ((10 : Int32) + (16 : Int32) * Int32.ofNat k) + (9 : Int32) = Int32.ofNat (10 + 16 * k + 9) := ix_l 10 16 9 k
    have c10 : ((10 : Int32) + (16 : Int32) * Int32.ofNat k) + (10 : Int32) = Int32.ofNat (10 + 16 * k + 10) := ix_l 10 16 10 k
    have c11 : ((10 : Int32) + (16 : Int32) * Int32.ofNat k) + (11 : Int32) = Int32.ofNat (10 + 16 * k + 11) := ix_l 10 16 11 k
    have c12 : ((10 : Int32) + (16 : Int32) * Int32.ofNat k) + (12 : Int32) = Int32.ofNat (10 + 16 * k + 12) := ix_l 10 16 12 k
    have c13 : ((10 : Int32) + (16 : Int32) * Int32.ofNat k) + (13 : Int32) = Int32.ofNat (10 + 16 * k + 13) := ix_l 10 16 13 k
    have c14 : ((10 : Int32) + (16 : Int32) * Int32.ofNat k) + (14 : Int32) = Int32.ofNat (10 + 16 * k + 14) := ix_l 10 16 14 k
    rw [L_L_drawn_e0, if_neg (show ¬ K 154 6 ≤ Int32.ofNat k by rw [i_le, i_of (by omega)]; omega)]
    refine o_bd hc ?_
    refine o_gd (fun z => by rw [z, ii_0] at g1; omega) ?_
    refine o_st c0 (by omega) fun K1 w1 r1 => ?_
    have h2 : K1 154 2 = K 154 2 := by rw [w1, up_o (by omega)]
    refine o_gd (fun z => by rw [h2] at z; rw [z, ii_0] at g2; omega) ?_
    refine o_st c1 (by omega) fun K2 w2 r2 => ?_
    refine o_st c2 (by omega) fun K3 w3 r3 => ?_
    refine o_st c3 (by omega) fun K4 w4 r4 => ?_
    refine o_st c4 (by omega) fun K5 w5 r5 => ?_
    refine o_st c8 (by omega) fun K6 w6 r6 => ?_
    refine o_bd hc' ?_
    refine o_st c5 (by omega) fun K7 w7 r7 => ?_
    refine o_st c6 (by omega) fun K8 w8 r8 => ?_
    refine o_gv c6 (by omega) ?_
    refine o_st c7 (by omega) fun K9 w9 r9 => ?_
    rw [c6, i_tno (by omega)] at w9
    refine o_gv c8 (by omega) ?_
    rw [c8, i_tno (show 10 + 16 * k + 8 < 2147483648 by omega)]
    refine o_ite c9 (by omega) fun K10 v10 t10 u10 w10 r10 => ?_
    refine o_gv rfl (by omega) ?_
    refine o_ite c10 (by omega) fun K11 v11 t11 u11 w11 r11 => ?_
    refine o_st c11 (by omega) fun K12 w12 r12 => ?_
    refine o_st c12 (by omega) fun K13 w13 r13 => ?_
    refine o_ite c13 (by omega) fun K14 v14 t14 u14 w14 r14 => ?_
    refine o_st c14 (by omega) fun K15 w15 r15 => ?_
    have kp : ∀ i, (i < 10 + 16 * k ∨ 26 + 16 * k ≤ i) → K15 154 i = K 154 i := fun i hi => by rw [w15, up_o (by omega), w14, up_o (by omega), w13, up_o (by omega), w12, up_o (by omega), w11, up_o (by omega), w10, up_o (by omega), w9, up_o (by omega), w8, up_o (by omega), w7, up_o (by omega), w6, up_o (by omega), w5, up_o (by omega), w4, up_o (by omega), w3, up_o (by omega), w2, up_o (by omega), w1, up_o (by omega)]
    have kc : ∀ i, i < k → TG (K15 154) i := fun i hi => (C i hi).cg fun q hq => by rw [kp q (by omega)]
    have l3 : (3 : Int32).toInt = 3 := rfl
    have l1 : (1 : Int32).toInt = 1 := rfl
    have l2 : (2 : Int32).toInt = 2 := rfl
    have l50 : (50 : Int32).toInt = 50 := rfl
    have l32 : (32 : Int32).toInt = 32 := rfl
    have l360 : (360 : Int32).toInt = 360 := rfl
    have hm3 : ∀ y : Int32, 0 ≤ ((y &&& (3 : Int32)) - (y &&& (3 : Int32)) / (3 : Int32) * (3 : Int32)).toInt ∧ ((y &&& (3 : Int32)) - (y &&& (3 : Int32)) / (3 : Int32) * (3 : Int32)).toInt ≤ 2 := fun y => by
      have := mo_b (d := 3) (by decide) (an_b y 3 2 (by decide) (by decide)).1
      rw [l3] at this
      exact ⟨this.1, Int.le_of_lt_add_one this.2⟩
    have dr : ∀ y z : Int32, -32 ≤ ((y &&& (1 : Int32)) * ((z &&& (63 : Int32)) - (32 : Int32))).toInt ∧ ((y &&& (1 : Int32)) * ((z &&& (63 : Int32)) - (32 : Int32))).toInt ≤ 31 := fun y z => by
      have a1 := an_b y 1 1 (by decide) (by decide)
      have a2 := an_b z 63 6 (by decide) (by decide)
      show -32 ≤ ((y &&& Int32.ofNat 1) * ((z &&& Int32.ofNat 63) - (32 : Int32))).toInt ∧ ((y &&& Int32.ofNat 1) * ((z &&& Int32.ofNat 63) - (32 : Int32))).toInt ≤ 31
      have e1 : ((z &&& Int32.ofNat 63) - (32 : Int32)).toInt = (z &&& Int32.ofNat 63).toInt - 32 := by rw [i_sub (by rw [l32]; omega) (by rw [l32]; omega), l32]
      have hq : (y &&& Int32.ofNat 1).toInt = 0 ∨ (y &&& Int32.ofNat 1).toInt = 1 := by omega
      rcases hq with hq | hq
      · rw [i_mul (by rw [hq]; omega) (by rw [hq]; omega), hq]; omega
      · rw [i_mul (by rw [hq, e1]; omega) (by rw [hq, e1]; omega), hq, e1]; omega
    have f0 : 0 ≤ (K15 154 (10 + 16 * k)).toInt ∧ (K15 154 (10 + 16 * k)).toInt < (K 154 1).toInt := by
      rw [w15, up_o (by omega), w14, up_o (by omega), w13, up_o (by omega), w12, up_o (by omega), w11, up_o (by omega), w10, up_o (by omega), w9, up_o (by omega), w8, up_o (by omega), w7, up_o (by omega), w6, up_o (by omega), w5, up_o (by omega), w4, up_o (by omega), w3, up_o (by omega), w2, up_o (by omega), w1, up_t]; exact mo_b (by omega) (an_b c 7 3 (by decide) (by decide)).1
    have f1 : 0 ≤ (K15 154 (10 + 16 * k + 1)).toInt ∧ (K15 154 (10 + 16 * k + 1)).toInt < (K 154 2).toInt := by
      rw [w15, up_o (by omega), w14, up_o (by omega), w13, up_o (by omega), w12, up_o (by omega), w11, up_o (by omega), w10, up_o (by omega), w9, up_o (by omega), w8, up_o (by omega), w7, up_o (by omega), w6, up_o (by omega), w5, up_o (by omega), w4, up_o (by omega), w3, up_o (by omega), w2, up_t, h2]; exact mo_b (by omega) (an_b _ 7 3 (by decide) (by decide)).1
    have f2 : 1 ≤ (K15 154 (10 + 16 * k + 2)).toInt ∧ (K15 154 (10 + 16 * k + 2)).toInt ≤ 512 := by
      have a := an_b (c >>> ((6 : Int32) &&& 31)) 511 9 (by decide) (by decide)
      have e : ((1 : Int32) + ((c >>> ((6 : Int32) &&& 31)) &&& Int32.ofNat 511)).toInt = 1 + ((c >>> ((6 : Int32) &&& 31)) &&& Int32.ofNat 511).toInt := by rw [i_add (by rw [l1]; omega) (by rw [l1]; omega), l1]
      have g : K15 154 (10 + 16 * k + 2) = (1 : Int32) + ((c >>> ((6 : Int32) &&& 31)) &&& Int32.ofNat 511) := by rw [w15, up_o (by omega), w14, up_o (by omega), w13, up_o (by omega), w12, up_o (by omega), w11, up_o (by omega), w10, up_o (by omega), w9, up_o (by omega), w8, up_o (by omega), w7, up_o (by omega), w6, up_o (by omega), w5, up_o (by omega), w4, up_o (by omega), w3, up_t]; rfl
      rw [g, e]; omega
    have f3 : 50 ≤ (K15 154 (10 + 16 * k + 3)).toInt ∧ (K15 154 (10 + 16 * k + 3)).toInt ≤ 561 := by
      have a := an_b (c >>> ((15 : Int32) &&& 31)) 511 9 (by decide) (by decide)
      have e : ((50 : Int32) + ((c >>> ((15 : Int32) &&& 31)) &&& Int32.ofNat 511)).toInt = 50 + ((c >>> ((15 : Int32) &&& 31)) &&& Int32.ofNat 511).toInt := by rw [i_add (by rw [l50]; omega) (by rw [l50]; omega), l50]
      have g : K15 154 (10 + 16 * k + 3) = (50 : Int32) + ((c >>> ((15 : Int32) &&& 31)) &&& Int32.ofNat 511) := by rw [w15, up_o (by omega), w14, up_o (by omega), w13, up_o (by omega), w12, up_o (by omega), w11, up_o (by omega), w10, up_o (by omega), w9, up_o (by omega), w8, up_o (by omega), w7, up_o (by omega), w6, up_o (by omega), w5, up_o (by omega), w4, up_t]; rfl
      rw [g, e]; omega
    have f4 : 2 ≤ (K15 154 (10 + 16 * k + 4)).toInt ∧ (K15 154 (10 + 16 * k + 4)).toInt ≤ 33 := by
      have a := an_b (c >>> ((24 : Int32) &&& 31)) 31 5 (by decide) (by decide)
      have e : ((2 : Int32) + ((c >>> ((24 : Int32) &&& 31)) &&& Int32.ofNat 31)).toInt = 2 + ((c >>> ((24 : Int32) &&& 31)) &&& Int32.ofNat 31).toInt := by rw [i_add (by rw [l2]; omega) (by rw [l2]; omega), l2]
      have g : K15 154 (10 + 16 * k + 4) = (2 : Int32) + ((c >>> ((24 : Int32) &&& 31)) &&& Int32.ofNat 31) := by rw [w15, up_o (by omega), w14, up_o (by omega), w13, up_o (by omega), w12, up_o (by omega), w11, up_o (by omega), w10, up_o (by omega), w9, up_o (by omega), w8, up_o (by omega), w7, up_o (by omega), w6, up_o (by omega), w5, up_t]; rfl
      rw [g, e]; omega
    have f5 : 0 ≤ (K15 154 (10 + 16 * k + 5)).toInt ∧ (K15 154 (10 + 16 * k + 5)).toInt ≤ 359 := by
      rw [w15, up_o (by omega), w14, up_o (by omega), w13, up_o (by omega), w12, up_o (by omega), w11, up_o (by omega), w10, up_o (by omega), w9, up_o (by omega), w8, up_o (by omega), w7, up_t]
      have := mo_b (d := 360) (by decide) (an_b c' 511 9 (by decide) (by decide)).1
      rw [l360] at this
      exact ⟨this.1, Int.le_of_lt_add_one this.2⟩
    have a6 := an_b (c' >>> ((9 : Int32) &&& 31)) 7 3 (by decide) (by decide)
    have a7 := an_b (c' >>> ((12 : Int32) &&& 31)) 127 7 (by decide) (by decide)
    have v6 : K15 154 (10 + 16 * k + 6) = (c' >>> ((9 : Int32) &&& 31)) &&& Int32.ofNat 7 := by rw [w15, up_o (by omega), w14, up_o (by omega), w13, up_o (by omega), w12, up_o (by omega), w11, up_o (by omega), w10, up_o (by omega), w9, up_o (by omega), w8, up_t]; rfl
    have v7 : K15 154 (10 + 16 * k + 7) = ((c' >>> ((9 : Int32) &&& 31)) &&& Int32.ofNat 7) + ((c' >>> ((12 : Int32) &&& 31)) &&& Int32.ofNat 127) := by rw [w15, up_o (by omega), w14, up_o (by omega), w13, up_o (by omega), w12, up_o (by omega), w11, up_o (by omega), w10, up_o (by omega), w9, up_t, w8, up_t]; rfl
    have e7 : (((c' >>> ((9 : Int32) &&& 31)) &&& Int32.ofNat 7) + ((c' >>> ((12 : Int32) &&& 31)) &&& Int32.ofNat 127)).toInt = ((c' >>> ((9 : Int32) &&& 31)) &&& Int32.ofNat 7).toInt + ((c' >>> ((12 : Int32) &&& 31)) &&& Int32.ofNat 127).toInt := i_add (by omega) (by omega)
    have v8 : K15 154 (10 + 16 * k + 8) = K9 154 (10 + 16 * k + 8) := by rw [w15, up_o (by omega), w14, up_o (by omega), w13, up_o (by omega), w12, up_o (by omega), w11, up_o (by omega), w10, up_o (by omega)]
    have f8 : 0 ≤ (K15 154 (10 + 16 * k + 8)).toInt ∧ (K15 154 (10 + 16 * k + 8)).toInt ≤ 2 := by
      rw [w15, up_o (by omega), w14, up_o (by omega), w13, up_o (by omega), w12, up_o (by omega), w11, up_o (by omega), w10, up_o (by omega), w9, up_o (by omega), w8, up_o (by omega), w7, up_o (by omega), w6, up_t]; exact hm3 _
    have f9 : K15 154 (10 + 16 * k + 8) ≠ 0 → 1 ≤ (K15 154 (10 + 16 * k + 9)).toInt ∧ (K15 154 (10 + 16 * k + 9)).toInt ≤ 8 := fun q => by
      rw [v8] at q
      have a := an_b (c' >>> ((19 : Int32) &&& 31)) 7 3 (by decide) (by decide)
      have e : ((1 : Int32) + ((c' >>> ((19 : Int32) &&& 31)) &&& Int32.ofNat 7)).toInt = 1 + ((c' >>> ((19 : Int32) &&& 31)) &&& Int32.ofNat 7).toInt := by rw [i_add (by rw [l1]; omega) (by rw [l1]; omega), l1]
      have g : K15 154 (10 + 16 * k + 9) = (1 : Int32) + ((c' >>> ((19 : Int32) &&& 31)) &&& Int32.ofNat 7) := by rw [w15, up_o (by omega), w14, up_o (by omega), w13, up_o (by omega), w12, up_o (by omega), w11, up_o (by omega), w10, up_t, u10 q]; rfl
      rw [g, e]; omega
    have f10 : K15 154 (10 + 16 * k + 8) = 1 → 1 ≤ (K15 154 (10 + 16 * k + 10)).toInt ∧ (K15 154 (10 + 16 * k + 10)).toInt ≤ 4 := fun q => by
      rw [v8, show K9 154 (10 + 16 * k + 8) = K10 154 (10 + 16 * k + 8) by rw [w10, up_o (by omega)]] at q
      have a := an_b (c' >>> ((22 : Int32) &&& 31)) 3 2 (by decide) (by decide)
      have e : ((1 : Int32) + ((c' >>> ((22 : Int32) &&& 31)) &&& Int32.ofNat 3)).toInt = 1 + ((c' >>> ((22 : Int32) &&& 31)) &&& Int32.ofNat 3).toInt := by rw [i_add (by rw [l1]; omega) (by rw [l1]; omega), l1]
      have g : K15 154 (10 + 16 * k + 10) = (1 : Int32) + ((c' >>> ((22 : Int32) &&& 31)) &&& Int32.ofNat 3) := by rw [w15, up_o (by omega), w14, up_o (by omega), w13, up_o (by omega), w12, up_o (by omega), w11, up_t, t11 q]; rfl
      rw [g, e]; omega
    have f11 : -32 ≤ (K15 154 (10 + 16 * k + 11)).toInt ∧ (K15 154 (10 + 16 * k + 11)).toInt ≤ 31 := by rw [w15, up_o (by omega), w14, up_o (by omega), w13, up_o (by omega), w12, up_t]; exact dr _ _
    have f12 : -32 ≤ (K15 154 (10 + 16 * k + 12)).toInt ∧ (K15 154 (10 + 16 * k + 12)).toInt ≤ 31 := by rw [w15, up_o (by omega), w14, up_o (by omega), w13, up_t]; exact dr _ _
    have f13 : K15 154 (10 + 16 * k + 13) = 0 ∨ K15 154 (10 + 16 * k + 13) = 1 := by
      rw [w15, up_o (by omega), w14, up_t]
      by_cases q : (((c' >>> ((26 : Int32) &&& 31)) &&& (3 : Int32)) = 0)
      · exact Or.inl (t14 q)
      · exact Or.inr (u14 q)
    have f14 : 0 ≤ (K15 154 (10 + 16 * k + 14)).toInt ∧ (K15 154 (10 + 16 * k + 14)).toInt ≤ 2 := by rw [w15, up_t]; exact hm3 _
    have f15 : K15 154 (10 + 16 * k + 8) = 0 → K15 154 (10 + 16 * k + 9) = 0 := fun q => by
      rw [v8] at q
      rw [w15, up_o (by omega), w14, up_o (by omega), w13, up_o (by omega), w12, up_o (by omega), w11, up_o (by omega), w10, up_t, t10 q]
    have f16 : K15 154 (10 + 16 * k + 8) ≠ 1 → K15 154 (10 + 16 * k + 10) = 0 := fun q => by
      rw [v8, show K9 154 (10 + 16 * k + 8) = K10 154 (10 + 16 * k + 8) by rw [w10, up_o (by omega)]] at q
      rw [w15, up_o (by omega), w14, up_o (by omega), w13, up_o (by omega), w12, up_o (by omega), w11, up_t, u11 q]
    have ck : TG (K15 154) k := by
      unfold TG
      rw [kp 1 (by omega), kp 2 (by omega)]
      refine ⟨f0, f1, f2, f3, f4, f5, ?_, ?_, f8, f9, f10, f11, f12, f13, f14, f15, f16⟩
      · rw [v6]; exact a6
      · rw [v6, v7, e7]; omega
    rw [ixp_1]
    obtain ⟨r, er, p1, p2⟩ := ih (k + 1) j c' K15 (by rw [kp 6 (by omega)]; omega) (by omega) (H.cg fun i hi => kp i (by omega)) (fun i hi => by
      by_cases q : i = k
      · rw [q]; exact ck
      · exact kc i (by omega))
    refine ⟨r, er, fun o ho => ?_, p2⟩
    rw [p1 o ho, r15 o ho, r14 o ho, r13 o ho, r12 o ho, r11 o ho, r10 o ho, r9 o ho, r8 o ho, r7 o ho, r6 o ho, r5 o ho, r4 o ho, r3 o ho, r2 o ho, r1 o ho]
/-- all that is drawn -/
def DG (W : gP) : Prop := HG W ∧ (∀ i, i < (W 6).toInt.toNat → TG W i) ∧ (∀ i, i < 4 → MG W i) ∧ NG W ∧ (∀ i, i < 2 → CG W i)
theorem msk : ∀ h : Fin 5, Int32.ofNat (2 ^ (h.1 + 1) - 1) = ((1 : Int32) <<< (Int32.ofNat (h.1 + 1) &&& 31)) - (1 : Int32) := by decide
theorem drw_0 (hn : 2000 ≤ n) (hz : zS < 2147483648) {x2 : Int32} {K : gI} (g1 : 1 ≤ (K 154 1).toInt ∧ (K 154 1).toInt ≤ 8) (g2 : 1 ≤ (K 154 2).toInt ∧ (K 154 2).toInt ≤ 5) (g3 : 0 ≤ (K 154 3).toInt ∧ (K 154 3).toInt ≤ 2047) (g4 : K 154 4 = -1 ∨ (0 ≤ (K 154 4).toInt ∧ (K 154 4).toInt < (K 154 1).toInt)) {v v' : Int32} (g5 : (0 ≤ (if 0 ≤ K 154 4 then v else 0 : Int32).toInt ∧ (if 0 ≤ K 154 4 then v else 0 : Int32).toInt < 2 ^ (K 154 2).toInt.toNat)) (g7 : 1 ≤ v'.toInt ∧ v'.toInt ≤ 3) : OKp (if 0 ≤ (K 154 4) then lt (sI K 154 5 v) (fun K102 => lt (sI K102 154 6 v') (fun K116 => L_L_drawn n zS S n 0 x2 (0 : Int32) K116)) else lt (sI K 154 5 (0 : Int32)) (fun K102 => lt (sI K102 154 6 v') (fun K116 => L_L_drawn n zS S n 0 x2 (0 : Int32) K116))) (fun r => (∀ o, o ≠ 154 → r o = K o) ∧ DG (r 154)) := by
  have main : ∀ u : Int32, u = (if 0 ≤ K 154 4 then v else 0 : Int32) → OKp (lt (sI K 154 5 u) (fun K102 => lt (sI K102 154 6 v') (fun K116 => L_L_drawn n zS S n 0 x2 (0 : Int32) K116))) (fun r => (∀ o, o ≠ 154 → r o = K o) ∧ DG (r 154)) := fun u hu => by
    refine o_sc fun K1 w1 r1 => ?_
    refine o_sc fun K2 w2 r2 => ?_
    have kp : ∀ i, i < 5 → K2 154 i = K 154 i := fun i hi => by rw [w2, up_o (by omega), w1, up_o (by omega)]
    have k5 : K2 154 5 = u := by rw [w2, up_o (by omega), w1, up_t]
    have k6 : K2 154 6 = v' := by rw [w2, up_t]
    rw [← hu] at g5
    have H : HG (K2 154) := by
      unfold HG
      rw [kp 1 (by omega), kp 2 (by omega), kp 3 (by omega), kp 4 (by omega), k5, k6]
      refine ⟨g1, g2, g3, g4, g5, fun q => ?_, g7⟩
      rw [hu, q, if_neg (by decide)]
    obtain ⟨r, er, p1, p2⟩ := drw_1 (n := n) (S := S) hn hz (v'.toInt.toNat) 0 n x2 K2 (by rw [k6]; omega) (by omega) H (fun i hi => by omega)
    exact ⟨r, er, fun o ho => by rw [p1 o ho, r2 o ho, r1 o ho], p2⟩
  by_cases q : 0 ≤ K 154 4
  · rw [if_pos q]; exact main v (if_pos q).symm
  · rw [if_neg q]; exact main 0 (if_neg q).symm
theorem drw_s (hn : 2000 ≤ n) (hz : zS < 2147483648) (K : gI) : OKp (F_L_drawn n zS S K) (fun r => (∀ o, o ≠ 154 → r o = K o) ∧ DG (r 154)) := by
  obtain ⟨c, hc⟩ := cell_s n (S := S) hz (a := 0) (i := 0) rfl (by decide)
  unfold F_L_drawn
  refine o_bd hc ?_
  refine o_sc fun K1 w1 r1 => ?_
  refine o_sc fun K2 w2 r2 => ?_
  refine o_sc fun K3 w3 r3 => ?_
  have l1 : (1 : Int32).toInt = 1 := rfl
  have l3 : (3 : Int32).toInt = 3 := rfl
  have l5 : (5 : Int32).toInt = 5 := rfl
  have v1 : K3 154 1 = (1 : Int32) + (c &&& (7 : Int32)) := by rw [w3, up_o (by omega), w2, up_o (by omega), w1, up_t]
  have v2 : K3 154 2 = (1 : Int32) + (((c >>> ((3 : Int32) &&& 31)) &&& (7 : Int32)) - ((c >>> ((3 : Int32) &&& 31)) &&& (7 : Int32)) / (5 : Int32) * (5 : Int32)) := by rw [w3, up_o (by omega), w2, up_t]
  have v3 : K3 154 3 = ((c >>> ((6 : Int32) &&& 31)) &&& (1 : Int32)) * ((c >>> ((7 : Int32) &&& 31)) &&& (2047 : Int32)) := by rw [w3, up_t]
  have a1 := an_b c 7 3 (by decide) (by decide)
  have g1 : 1 ≤ (K3 154 1).toInt ∧ (K3 154 1).toInt ≤ 8 := by
    rw [v1]
    show 1 ≤ ((1 : Int32) + (c &&& Int32.ofNat 7)).toInt ∧ ((1 : Int32) + (c &&& Int32.ofNat 7)).toInt ≤ 8
    rw [i_add (by rw [l1]; omega) (by rw [l1]; omega), l1]; omega
  have a2 := mo_b (d := 5) (by decide) (an_b (c >>> ((3 : Int32) &&& 31)) 7 3 (by decide) (by decide)).1
  rw [l5] at a2
  have g2 : 1 ≤ (K3 154 2).toInt ∧ (K3 154 2).toInt ≤ 5 := by
    rw [v2]
    show 1 ≤ ((1 : Int32) + (((c >>> ((3 : Int32) &&& 31)) &&& Int32.ofNat 7) - ((c >>> ((3 : Int32) &&& 31)) &&& Int32.ofNat 7) / (5 : Int32) * (5 : Int32))).toInt ∧ ((1 : Int32) + (((c >>> ((3 : Int32) &&& 31)) &&& Int32.ofNat 7) - ((c >>> ((3 : Int32) &&& 31)) &&& Int32.ofNat 7) / (5 : Int32) * (5 : Int32))).toInt ≤ 5
    rw [i_add (by rw [l1]; omega) (by rw [l1]; omega), l1]; omega
  have g3 : 0 ≤ (K3 154 3).toInt ∧ (K3 154 3).toInt ≤ 2047 := by
    rw [v3]
    have b1 := an_b (c >>> ((6 : Int32) &&& 31)) 1 1 (by decide) (by decide)
    have b2 := an_b (c >>> ((7 : Int32) &&& 31)) 2047 11 (by decide) (by decide)
    show 0 ≤ (((c >>> ((6 : Int32) &&& 31)) &&& Int32.ofNat 1) * ((c >>> ((7 : Int32) &&& 31)) &&& Int32.ofNat 2047)).toInt ∧ (((c >>> ((6 : Int32) &&& 31)) &&& Int32.ofNat 1) * ((c >>> ((7 : Int32) &&& 31)) &&& Int32.ofNat 2047)).toInt ≤ 2047
    have hq : ((c >>> ((6 : Int32) &&& 31)) &&& Int32.ofNat 1).toInt = 0 ∨ ((c >>> ((6 : Int32) &&& 31)) &&& Int32.ofNat 1).toInt = 1 := by omega
    rcases hq with hq | hq
    · rw [i_mul (by rw [hq]; omega) (by rw [hq]; omega), hq]; omega
    · rw [i_mul (by rw [hq]; omega) (by rw [hq]; omega), hq]; omega
  have g7 : 1 ≤ ((1 : Int32) + (((c >>> ((28 : Int32) &&& 31)) &&& (3 : Int32)) - ((c >>> ((28 : Int32) &&& 31)) &&& (3 : Int32)) / (3 : Int32) * (3 : Int32))).toInt ∧ ((1 : Int32) + (((c >>> ((28 : Int32) &&& 31)) &&& (3 : Int32)) - ((c >>> ((28 : Int32) &&& 31)) &&& (3 : Int32)) / (3 : Int32) * (3 : Int32))).toInt ≤ 3 := by
    have b := mo_b (d := 3) (by decide) (an_b (c >>> ((28 : Int32) &&& 31)) 3 2 (by decide) (by decide)).1
    rw [l3] at b
    show 1 ≤ ((1 : Int32) + (((c >>> ((28 : Int32) &&& 31)) &&& Int32.ofNat 3) - ((c >>> ((28 : Int32) &&& 31)) &&& Int32.ofNat 3) / (3 : Int32) * (3 : Int32))).toInt ∧ ((1 : Int32) + (((c >>> ((28 : Int32) &&& 31)) &&& Int32.ofNat 3) - ((c >>> ((28 : Int32) &&& 31)) &&& Int32.ofNat 3) / (3 : Int32) * (3 : Int32))).toInt ≤ 3
    rw [i_add (by rw [l1]; omega) (by rw [l1]; omega), l1]; omega
  have g5 : ∀ (h2 : Int32) (y : Int32) (Q : Prop) [Decidable Q], 1 ≤ h2.toInt ∧ h2.toInt ≤ 5 → 0 ≤ (if Q then (y &&& (((1 : Int32) <<< (h2 &&& 31)) - (1 : Int32))) else (0 : Int32)).toInt ∧ (if Q then (y &&& (((1 : Int32) <<< (h2 &&& 31)) - (1 : Int32))) else (0 : Int32)).toInt < 2 ^ h2.toInt.toNat := fun h2 y Q _ hh => by
    have hm := msk ⟨h2.toInt.toNat - 1, by omega⟩
    dsimp only at hm
    rw [show h2.toInt.toNat - 1 + 1 = h2.toInt.toNat by omega, i_on (by omega)] at hm
    have hp : 2 ^ h2.toInt.toNat ≤ 32 := Nat.pow_le_pow_right (by decide) (show h2.toInt.toNat ≤ 5 by omega)
    have hp0 : 0 < 2 ^ h2.toInt.toNat := Nat.pow_pos (by decide)
    have hc2 : ((2 ^ h2.toInt.toNat : Nat) : Int) = 2 ^ h2.toInt.toNat := by rw [Int.natCast_pow]; rfl
    by_cases q : Q
    · rw [if_pos q, ← hm]
      have a := an_b y (2 ^ h2.toInt.toNat - 1) h2.toInt.toNat (by omega) (by omega)
      rw [← hc2]
      omega
    · rw [if_neg q, ii_0, ← hc2]; omega
  by_cases q : ((c >>> ((18 : Int32) &&& 31)) &&& (3 : Int32)) = 0
  · rw [if_pos q]
    refine o_sc fun K4 w4 r4 => ?_
    have kp : ∀ i, i < 4 → K4 154 i = K3 154 i := fun i hi => by rw [w4, up_o (by omega)]
    have k4 : K4 154 4 = -1 := by rw [w4, up_t]
    obtain ⟨r, er, p1, p2⟩ := drw_0 (n := n) (S := S) (x2 := c) (K := K4) hn hz (by rw [kp 1 (by decide)]; exact g1) (by rw [kp 2 (by decide)]; exact g2) (by rw [kp 3 (by decide)]; exact g3) (Or.inl k4) (g5 (K4 154 2) (c >>> ((23 : Int32) &&& 31)) _ (by rw [kp 2 (by decide)]; exact g2)) g7
    exact ⟨r, er, fun o ho => by rw [p1 o ho, r4 o ho, r3 o ho, r2 o ho, r1 o ho], p2⟩
  · rw [if_neg q]
    refine o_gd (fun z => by rw [z, ii_0] at g1; omega) ?_
    refine o_sc fun K4 w4 r4 => ?_
    have kp : ∀ i, i < 4 → K4 154 i = K3 154 i := fun i hi => by rw [w4, up_o (by omega)]
    have k4 : 0 ≤ (K4 154 4).toInt ∧ (K4 154 4).toInt < (K3 154 1).toInt := by
      rw [w4, up_t]; exact mo_b (by omega) (an_b _ 7 3 (by decide) (by decide)).1
    obtain ⟨r, er, p1, p2⟩ := drw_0 (n := n) (S := S) (x2 := c) (K := K4) hn hz (by rw [kp 1 (by decide)]; exact g1) (by rw [kp 2 (by decide)]; exact g2) (by rw [kp 3 (by decide)]; exact g3) (Or.inr (by rw [kp 1 (by decide)]; exact k4)) (g5 (K4 154 2) (c >>> ((23 : Int32) &&& 31)) _ (by rw [kp 2 (by decide)]; exact g2)) g7
    exact ⟨r, er, fun o ho => by rw [p1 o ho, r4 o ho, r3 o ho, r2 o ho, r1 o ho], p2⟩
end DRW
