/-! WHAT IS SAID: the text, piece by piece -/
def pas (W : gP) (b : Nat) : Nat → Nat → List Nat
  | 0, _ => []
  | d + 1, i => pa (W (b + i)) ++ pas W b d (i + 1)
theorem pas_l (W : gP) (b : Nat) : ∀ d i, (pas W b d i).length ≤ 6 * d
  | 0, _ => Nat.le_refl _
  | d + 1, i => by
    have h1 := pas_l W b d (i + 1)
    have h2 := pa_l (W (b + i))
    rw [show pas W b (d + 1) i = pa (W (b + i)) ++ pas W b d (i + 1) from rfl, List.length_append]; omega
def tKind (W : gP) (b : Nat) : List Nat := if W (b + 8) = 1 then [32, 98, 117, 114, 115, 116] ++ (pa (W (b + 9)) ++ pa (W (b + 10))) else if W (b + 8) = 2 then [32, 114, 105, 115, 105, 110, 103] ++ pa (W (b + 9)) else []
def tDrift (W : gP) (k b : Nat) : List Nat := if W (b + 11) = 0 ∧ W (b + 12) = 0 then [] else [59, 100, 114, 105, 102, 116] ++ (pa (Int32.ofNat k) ++ (pa (W (b + 11)) ++ pa (W (b + 12))))
def tOff (W : gP) (k b : Nat) : List Nat := if W (b + 13) = 0 then [59, 111, 102, 102] ++ pa (Int32.ofNat k) else []
def tShape (W : gP) (k b : Nat) : List Nat := if W (b + 14) = 0 then [] else [59, 115, 104, 97, 112, 101] ++ (pa (Int32.ofNat k) ++ (if W (b + 14) = 1 then [32, 115, 113, 117, 97, 114, 101] else [32, 115, 97, 119]))
def tTrain (W : gP) (k : Nat) : List Nat := [59, 116, 114, 97, 105, 110] ++ (pas W (10 + 16 * k) 8 0 ++ (tKind W (10 + 16 * k) ++ (tDrift W k (10 + 16 * k) ++ (tOff W k (10 + 16 * k) ++ tShape W k (10 + 16 * k)))))
def tSide (k : Nat) : List Nat := if k = 0 then [32, 108, 101, 102, 116] else if k = 1 then [32, 114, 105, 103, 104, 116] else if k = 2 then [32, 116, 111, 112] else [32, 98, 111, 116, 116, 111, 109]
def tMirs (W : gP) : Nat → Nat → List Nat
  | 0, _ => []
  | d + 1, k => (if W (60 + k) = 0 then [] else [59, 109, 105, 114, 114, 111, 114] ++ (tSide k ++ pa (W (60 + k)))) ++ tMirs W d (k + 1)
def tRows (W : gP) (l : List Nat) (b s : Nat) : Nat → Nat → List Nat
  | 0, _ => []
  | d + 1, k => (l ++ pas W (b + s * k) s 0) ++ tRows W l b s d (k + 1)
def tFurn (W : gP) : List Nat := tMirs W 4 0 ++ (tRows W [59, 99, 117, 116] 65 3 (W 64).toInt.toNat 0 ++ (tRows W [59, 115, 104, 111, 97, 108] 72 5 (W 71).toInt.toNat 0 ++ tRows W [59, 103, 97, 117, 103, 101] 83 2 (W 82).toInt.toNat 0))
def tSlits (W : gP) : Nat → Nat → List Nat
  | 0, _ => []
  | d + 1, y => (if (W 5 >>> (Int32.ofNat y &&& 31)) &&& (1 : Int32) = 0 then [] else [59, 115, 108, 105, 116] ++ (pa (Int32.ofNat y) ++ pa (Int32.ofNat y))) ++ tSlits W d (y + 1)
def tTrains (W : gP) : Nat → Nat → List Nat
  | 0, _ => []
  | d + 1, k => tTrain W k ++ tTrains W d (k + 1)
def tHead (W : gP) : List Nat := [116, 97, 110, 107, 32, 119, 105, 100] ++ ([116, 104] ++ (pa (W 1) ++ ([32, 104, 101, 105, 103, 104, 116] ++ (pa (W 2) ++ ([32, 102, 97, 100, 101] ++ (pa (W 3) ++ (if W 4 < 0 then [] else [32, 119, 97, 108, 108] ++ pa (W 4))))))))
def tText (W : gP) : List Nat := tHead W ++ (tSlits W (W 2).toInt.toNat 0 ++ (tTrains W (W 6).toInt.toNat 0 ++ tFurn W))
section SAI
variable {n T0 T1 : Nat} {I0 K0 I K : gI} {B : List Nat}
theorem PB.w (h : PB I0 K0 I K B) (i : Nat) : K 154 i = K0 154 i := h.2.2.2.2.2.2 154 i (by decide)
theorem PB.rd (h : PB I0 K0 I K B) {i : Int32} {k : Nat} (e : i = Int32.ofNat k) (hk : k < 90) : K 154 (Int32.toNatClampNeg i) = K0 154 k := by rw [e, i_tno (by omega), h.w]
theorem q_say {γ : Type} (hn : 2000 ≤ n) {w : Int64} {l : List Nat} {g : gI × gI → Option γ} {P : γ → Prop} (h : PB I0 K0 I K B) (hw : sayW w = true) (hl : sayL w = l) (hB : B.length + l.length ≤ 880) (kk : ∀ v : gI × gI, PB I0 K0 v.1 v.2 (B ++ l) → OKp (g v) P) : OKp (bd (F_L_say n T0 T1 I K w) g) P := by
  obtain ⟨I', K', e, p⟩ := say_s (T0 := T0) (T1 := T1) hn hw hl h hB
  exact o_bd e (kk (I', K') p)
theorem q_part {γ : Type} (hn : 2000 ≤ n) {x y : Int32} {g : gI × gI → Option γ} {P : γ → Prop} (h : PB I0 K0 I K B) (e : x = y) (hv : y.toInt.natAbs < 10000) (hB : B.length + 6 ≤ 880) (kk : ∀ v : gI × gI, PB I0 K0 v.1 v.2 (B ++ pa y) → OKp (g v) P) : OKp (bd (F_L_part n T0 T1 I K x) g) P := by
  have hl := pa_l y
  obtain ⟨I', K', e', p⟩ := part_s (T0 := T0) (T1 := T1) hn hv h (by omega)
  rw [e]
  exact o_bd e' (kk (I', K') p)
theorem OKp.mono {γ : Type} {x : Option γ} {P Q : γ → Prop} (h : OKp x P) (f : ∀ r, P r → Q r) : OKp x Q := by
  obtain ⟨r, e, p⟩ := h
  exact ⟨r, e, f r p⟩
theorem len_ap (a b : List Nat) : (a ++ b).length = a.length + b.length := List.length_append
theorem small {k : Nat} (h : k < 10000) : (Int32.ofNat k).toInt.natAbs < 10000 := by rw [i_of (by omega)]; omega
/-- the end of a train's lines: off, shape -/
theorem trn_1 (hn : 2000 ≤ n) {k b j : Nat} {x5 : Int32} (hk : k < 4) (hb : b + 16 < 90) (h : PB I0 K0 I K B) (hB : B.length + 40 ≤ 880) : OKp (L_L_train n T0 T1 (Int32.ofNat k) (j + 1) 1 (Int32.ofNat b) x5 I K) (fun r => PB I0 K0 r.1 r.2 (B ++ (tOff (K0 154) k b ++ tShape (K0 154) k b))) := by
  have shape : ∀ (I K : gI) (B : List Nat), PB I0 K0 I K B → B.length + 30 ≤ 880 → OKp (gv (Int32.ofNat b + (14 : Int32)) 90 ((if (K 154 (Int32.toNatClampNeg (Int32.ofNat b + (14 : Int32)))) = 0 then some (I, K) else bd (F_L_say n T0 T1 I K (65366858494053 : Int64)) (fun v220 => bd (F_L_part n T0 T1 v220.1 v220.2 (Int32.ofNat k)) (fun v226 => gv (Int32.ofNat b + (14 : Int32)) 90 ((if (v226.2 154 (Int32.toNatClampNeg (Int32.ofNat b + (14 : Int32)))) = (1 : Int32) then bd (F_L_say n T0 T1 v226.1 v226.2 (9134130392560229 : Int64)) (fun v245 => some (v245.1, v245.2)) else bd (F_L_say n T0 T1 v226.1 v226.2 (544432503 : Int64)) (fun v256 => some (v256.1, v256.2))))))))) (fun r => PB I0 K0 r.1 r.2 (B ++ tShape (K0 154) k b)) := fun I K B h hB => by
    refine o_gv (i_oadd b 14) (by omega) ?_
    rw [h.rd (i := Int32.ofNat b + (14 : Int32)) (i_oadd b 14) (by omega)]
    unfold tShape
    by_cases q : K0 154 (b + 14) = 0
    · rw [if_pos q, if_pos q, List.append_nil]; exact ⟨_, rfl, h⟩
    · rw [if_neg q, if_neg q]
      refine q_say hn h (by decide +kernel) (l := [59, 115, 104, 97, 112, 101]) (by decide +kernel) (by rw [show [59, 115, 104, 97, 112, 101].length = 6 from rfl]; omega) fun v1 h1 => ?_
      have l1 : (B ++ [59, 115, 104, 97, 112, 101]).length = B.length + 6 := by rw [len_ap]; rfl
      refine q_part hn h1 rfl (small (by omega)) (by omega) fun v2 h2 => ?_
      have l2 : (B ++ [59, 115, 104, 97, 112, 101] ++ pa (Int32.ofNat k)).length ≤ B.length + 12 := by have := pa_l (Int32.ofNat k); rw [len_ap]; omega
      refine o_gv (i_oadd b 14) (by omega) ?_
      rw [h2.rd (i := Int32.ofNat b + (14 : Int32)) (i_oadd b 14) (by omega)]
      by_cases q1 : K0 154 (b + 14) = 1
      · rw [if_pos q1, if_pos q1]
        refine q_say hn h2 (by decide +kernel) (l := [32, 115, 113, 117, 97, 114, 101]) (by decide +kernel) (by rw [show [32, 115, 113, 117, 97, 114, 101].length = 7 from rfl]; omega) fun v3 h3 => ⟨_, rfl, ?_⟩
        simp only [List.append_assoc] at h3 ⊢; exact h3
      · rw [if_neg q1, if_neg q1]
        refine q_say hn h2 (by decide +kernel) (l := [32, 115, 97, 119]) (by decide +kernel) (by rw [show [32, 115, 97, 119].length = 4 from rfl]; omega) fun v3 h3 => ⟨_, rfl, ?_⟩
        simp only [List.append_assoc] at h3 ⊢; exact h3
  rw [L_L_train_e1]
  refine o_gv (i_oadd b 13) (by omega) ?_
  rw [h.rd (i := Int32.ofNat b + (13 : Int32)) (i_oadd b 13) (by omega)]
  unfold tOff
  by_cases q : K0 154 (b + 13) = 0
  · rw [if_pos q, if_pos q]
    refine q_say hn h (by decide +kernel) (l := [59, 111, 102, 102]) (by decide +kernel) (by rw [show [59, 111, 102, 102].length = 4 from rfl]; omega) fun v1 h1 => ?_
    have l1 : (B ++ [59, 111, 102, 102]).length = B.length + 4 := by rw [len_ap]; rfl
    refine q_part hn h1 rfl (small (by omega)) (by omega) fun v2 h2 => ?_
    have l2 : (B ++ [59, 111, 102, 102] ++ pa (Int32.ofNat k)).length ≤ B.length + 10 := by have := pa_l (Int32.ofNat k); rw [len_ap]; omega
    refine (shape v2.1 v2.2 _ h2 (by omega)).mono fun r hr => ?_
    simp only [List.append_assoc] at hr ⊢; exact hr
  · rw [if_neg q, if_neg q, List.nil_append]
    exact shape I K B h (by omega)
def drf (n T0 T1 k b j : Nat) (x5 : Int32) (I K : gI) : Option (gI × gI) := bd (F_L_say n T0 T1 I K (65302602278516 : Int64)) (fun v147 => bd (F_L_part n T0 T1 v147.1 v147.2 (Int32.ofNat k)) (fun v153 => gv (Int32.ofNat b + (11 : Int32)) 90 (bd (F_L_part n T0 T1 v153.1 v153.2 (v153.2 154 (Int32.toNatClampNeg (Int32.ofNat b + (11 : Int32))))) (fun v165 => gv (Int32.ofNat b + (12 : Int32)) 90 (bd (F_L_part n T0 T1 v165.1 v165.2 (v165.2 154 (Int32.toNatClampNeg (Int32.ofNat b + (12 : Int32))))) (fun v177 => L_L_train n T0 T1 (Int32.ofNat k) (j + 1) 1 (Int32.ofNat b) x5 v177.1 v177.2))))))
theorem trn_0 (hn : 2000 ≤ n) {k b : Nat} (hk : k < 4) (hb : b + 16 < 90) (hw : ∀ i, i < 13 → (K0 154 (b + i)).toInt.natAbs < 10000) : ∀ (d i j : Nat) (I K : gI) (B : List Nat), i + d = 8 → d + 1 < j → PB I0 K0 I K B → B.length + (6 * d + 90) ≤ 880 → OKp (L_L_train n T0 T1 (Int32.ofNat k) j 0 (Int32.ofNat b) (Int32.ofNat i) I K) (fun r => PB I0 K0 r.1 r.2 (B ++ (pas (K0 154) b d i ++ (tKind (K0 154) b ++ (tDrift (K0 154) k b ++ (tOff (K0 154) k b ++ tShape (K0 154) k b)))))) := by
  have drift : ∀ (j : Nat) (x5 : Int32) (I K : gI) (B : List Nat), PB I0 K0 I K B → B.length + 70 ≤ 880 → OKp (gv (Int32.ofNat b + (11 : Int32)) 90 (if (K 154 (Int32.toNatClampNeg (Int32.ofNat b + (11 : Int32)))) = 0 then gv (Int32.ofNat b + (12 : Int32)) 90 (if (K 154 (Int32.toNatClampNeg (Int32.ofNat b + (12 : Int32)))) = 0 then L_L_train n T0 T1 (Int32.ofNat k) (j + 1) 1 (Int32.ofNat b) x5 I K else drf n T0 T1 k b j x5 I K) else drf n T0 T1 k b j x5 I K)) (fun r => PB I0 K0 r.1 r.2 (B ++ (tDrift (K0 154) k b ++ (tOff (K0 154) k b ++ tShape (K0 154) k b)))) := fun j x5 I K B h hB => by
    have D : ¬ (K0 154 (b + 11) = 0 ∧ K0 154 (b + 12) = 0) → OKp (drf n T0 T1 k b j x5 I K) (fun r => PB I0 K0 r.1 r.2 (B ++ (tDrift (K0 154) k b ++ (tOff (K0 154) k b ++ tShape (K0 154) k b)))) := fun q => by
      unfold drf
      unfold tDrift
      rw [if_neg q]
      refine q_say hn h (by decide +kernel) (l := [59, 100, 114, 105, 102, 116]) (by decide +kernel) (by rw [show [59, 100, 114, 105, 102, 116].length = 6 from rfl]; omega) fun v1 h1 => ?_
      have l1 : (B ++ [59, 100, 114, 105, 102, 116]).length = B.length + 6 := by rw [len_ap]; rfl
      refine q_part hn h1 rfl (small (by omega)) (by omega) fun v2 h2 => ?_
      have l2 : (B ++ [59, 100, 114, 105, 102, 116] ++ pa (Int32.ofNat k)).length ≤ B.length + 12 := by have := pa_l (Int32.ofNat k); rw [len_ap]; omega
      refine o_gv (i_oadd b 11) (by omega) ?_
      refine q_part hn h2 (h2.rd (i_oadd b 11) (by omega)) (hw 11 (by decide)) (by omega) fun v3 h3 => ?_
      have l3 : (B ++ [59, 100, 114, 105, 102, 116] ++ pa (Int32.ofNat k) ++ pa (K0 154 (b + 11))).length ≤ B.length + 18 := by have := pa_l (K0 154 (b + 11)); rw [len_ap]; omega
      refine o_gv (i_oadd b 12) (by omega) ?_
      refine q_part hn h3 (h3.rd (i_oadd b 12) (by omega)) (hw 12 (by decide)) (by omega) fun v4 h4 => ?_
      have l4 : (B ++ [59, 100, 114, 105, 102, 116] ++ pa (Int32.ofNat k) ++ pa (K0 154 (b + 11)) ++ pa (K0 154 (b + 12))).length ≤ B.length + 24 := by have := pa_l (K0 154 (b + 12)); rw [len_ap]; omega
      refine (trn_1 hn hk hb h4 (by omega)).mono fun r hr => ?_
      simp only [List.append_assoc] at hr ⊢; exact hr
    refine o_gv (i_oadd b 11) (by omega) ?_
    rw [h.rd (i := Int32.ofNat b + (11 : Int32)) (i_oadd b 11) (by omega)]
    by_cases q : K0 154 (b + 11) = 0
    · rw [if_pos q]
      refine o_gv (i_oadd b 12) (by omega) ?_
      rw [h.rd (i := Int32.ofNat b + (12 : Int32)) (i_oadd b 12) (by omega)]
      by_cases q2 : K0 154 (b + 12) = 0
      · rw [if_pos q2]
        unfold tDrift
        rw [if_pos ⟨q, q2⟩, List.nil_append]
        exact trn_1 hn hk hb h (by omega)
      · rw [if_neg q2]; exact D fun z => q2 z.2
    · rw [if_neg q]; exact D fun z => q z.1
  intro d
  induction d with
  | zero =>
    intro i j I K B hi hj h hB
    obtain ⟨j, rfl⟩ : ∃ m, j = m + 2 := ⟨j - 2, by omega⟩
    rw [show j + 2 = (j + 1) + 1 from rfl, L_L_train_e0, if_pos (show (8 : Int32) ≤ Int32.ofNat i from (i_ole (a := 8) (by omega) (by omega)).mpr (by omega)), show pas (K0 154) b 0 i = [] from rfl, List.nil_append]
    refine o_gv (i_oadd b 8) (by omega) ?_
    rw [h.rd (i := Int32.ofNat b + (8 : Int32)) (i_oadd b 8) (by omega)]
    unfold tKind
    by_cases q : K0 154 (b + 8) = 1
    · rw [if_pos q, if_pos q]
      refine q_say hn h (by decide +kernel) (l := [32, 98, 117, 114, 115, 116]) (by decide +kernel) (by rw [show [32, 98, 117, 114, 115, 116].length = 6 from rfl]; omega) fun v1 h1 => ?_
      have l1 : (B ++ [32, 98, 117, 114, 115, 116]).length = B.length + 6 := by rw [len_ap]; rfl
      refine o_gv (i_oadd b 9) (by omega) ?_
      refine q_part hn h1 (h1.rd (i_oadd b 9) (by omega)) (hw 9 (by decide)) (by omega) fun v2 h2 => ?_
      have l2 : (B ++ [32, 98, 117, 114, 115, 116] ++ pa (K0 154 (b + 9))).length ≤ B.length + 12 := by have := pa_l (K0 154 (b + 9)); rw [len_ap]; omega
      refine o_gv (i_oadd b 10) (by omega) ?_
      refine q_part hn h2 (h2.rd (i_oadd b 10) (by omega)) (hw 10 (by decide)) (by omega) fun v3 h3 => ?_
      have l3 : (B ++ [32, 98, 117, 114, 115, 116] ++ pa (K0 154 (b + 9)) ++ pa (K0 154 (b + 10))).length ≤ B.length + 18 := by have := pa_l (K0 154 (b + 10)); rw [len_ap]; omega
      refine (drift j _ v3.1 v3.2 _ h3 (by omega)).mono fun r hr => ?_
      simp only [List.append_assoc] at hr ⊢; exact hr
    · rw [if_neg q, if_neg q]
      refine o_gv (i_oadd b 8) (by omega) ?_
      by_cases q2 : K0 154 (b + 8) = 2
      · rw [if_pos q2, if_pos q2]
        refine q_say hn h (by decide +kernel) (l := [32, 114, 105, 115, 105, 110, 103]) (by decide +kernel) (by rw [show [32, 114, 105, 115, 105, 110, 103].length = 7 from rfl]; omega) fun v1 h1 => ?_
        have l1 : (B ++ [32, 114, 105, 115, 105, 110, 103]).length = B.length + 7 := by rw [len_ap]; rfl
        refine o_gv (i_oadd b 9) (by omega) ?_
        refine q_part hn h1 (h1.rd (i_oadd b 9) (by omega)) (hw 9 (by decide)) (by omega) fun v2 h2 => ?_
        have l2 : (B ++ [32, 114, 105, 115, 105, 110, 103] ++ pa (K0 154 (b + 9))).length ≤ B.length + 13 := by have := pa_l (K0 154 (b + 9)); rw [len_ap]; omega
        refine (drift j _ v2.1 v2.2 _ h2 (by omega)).mono fun r hr => ?_
        simp only [List.append_assoc] at hr ⊢; exact hr
      · rw [if_neg q2, if_neg q2, List.nil_append]
        exact drift j _ I K B h (by omega)
  | succ d ih =>
    intro i j I K B hi hj h hB
    obtain ⟨j, rfl⟩ : ∃ m, j = m + 1 := ⟨j - 1, by omega⟩
    have hl := pa_l (K0 154 (b + i))
    rw [L_L_train_e0, if_neg (show ¬ (8 : Int32) ≤ Int32.ofNat i from fun z => absurd ((i_ole (a := 8) (by omega) (by omega)).mp z) (by omega))]
    refine o_gv (i_oadd b i) (by omega) ?_
    refine q_part hn h (h.rd (i_oadd b i) (by omega)) (hw i (by omega)) (by omega) fun v1 h1 => ?_
    rw [ixp_1]
    refine (ih (i + 1) j v1.1 v1.2 _ (by omega) (by omega) h1 (by rw [len_ap]; omega)).mono fun r hr => ?_
    rw [List.append_assoc] at hr
    rw [show pas (K0 154) b (d + 1) i = pa (K0 154 (b + i)) ++ pas (K0 154) b d (i + 1) from rfl, List.append_assoc]
    exact hr
theorem trn_s (hn : 2000 ≤ n) {k : Nat} (hk : k < 3) (hw : ∀ i, i < 13 → (K0 154 (10 + 16 * k + i)).toInt.natAbs < 10000) (h : PB I0 K0 I K B) (hB : B.length + 144 ≤ 880) : OKp (F_L_train n T0 T1 I K (Int32.ofNat k)) (fun r => PB I0 K0 r.1 r.2 (B ++ tTrain (K0 154) k)) := by
  unfold F_L_train tTrain
  refine q_say hn h (by decide +kernel) (l := [59, 116, 114, 97, 105, 110]) (by decide +kernel) (by rw [show [59, 116, 114, 97, 105, 110].length = 6 from rfl]; omega) fun v1 h1 => ?_
  have l1 : (B ++ [59, 116, 114, 97, 105, 110]).length = B.length + 6 := by rw [len_ap]; rfl
  rw [show (10 : Int32) + ((16 : Int32) * Int32.ofNat k) = Int32.ofNat (10 + 16 * k) from ix_m 10 16 k]
  refine (trn_0 hn (by omega) (by omega) hw 8 0 n v1.1 v1.2 _ rfl (by omega) h1 (by omega)).mono fun r hr => ?_
  rw [List.append_assoc] at hr
  exact hr
end SAI
