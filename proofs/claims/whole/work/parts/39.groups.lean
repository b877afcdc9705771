/-! GROUPS OF NODES -/
def bt (v : Int32) (x : Nat) : Bool := v.toBitVec.getLsbD x
theorem bt_pow : ∀ x : Fin 16, ((1 : Int32) <<< (Int32.ofNat x.1 &&& 31)) = Int32.ofNat (2 ^ x.1) := by decide
theorem bt_smod : ∀ x : Fin 16, ((Int32.ofNat x.1 &&& 31).toBitVec.smod 32).toNat = x.1 := by decide
theorem bt_get (v : Int32) {x : Nat} (hx : x < 16) : (v >>> (Int32.ofNat x &&& 31)) &&& 1 = b2 (bt v x) := by
  apply Int32.toBitVec_inj.mp
  apply BitVec.eq_of_getLsbD_eq
  intro i hi
  have h1 : ∀ i : Fin 32, (1 : Int32).toBitVec.getLsbD i.1 = decide (i.1 = 0) := by decide
  have h := h1 ⟨i, hi⟩
  have hs := bt_smod ⟨x, hx⟩
  simp only at hs h
  have e : (v >>> (Int32.ofNat x &&& 31)).toBitVec = v.toBitVec.sshiftRight x := by
    rw [Int32.toBitVec_shiftRight]
    show v.toBitVec.sshiftRight _ = _
    rw [hs]
  rw [Int32.toBitVec_and, BitVec.getLsbD_and, h, e, BitVec.getLsbD_sshiftRight]
  by_cases h0 : i = 0
  · subst h0
    rw [if_pos (by omega)]
    unfold bt
    simp only [Nat.add_zero]
    cases hv : v.toBitVec.getLsbD x
    · simp [b2]
    · simp [b2]
  · have : (b2 (bt v x)).toBitVec.getLsbD i = false := by
      cases bt v x
      · show (0 : Int32).toBitVec.getLsbD i = false
        have : ∀ i : Fin 32, (0 : Int32).toBitVec.getLsbD i.1 = false := by decide
        exact this ⟨i, hi⟩
      · show (1 : Int32).toBitVec.getLsbD i = false
        rw [h]; simp [h0]
    rw [this]; simp [h0]
theorem pow_bit {x x' : Nat} (hx : x < 16) (hx' : x' < 16) : (Int32.ofNat (2 ^ x)).toBitVec.getLsbD x' = decide (x' = x) := by
  have : ∀ x x' : Fin 16, (Int32.ofNat (2 ^ x.1)).toBitVec.getLsbD x'.1 = decide (x'.1 = x.1) := by decide
  exact this ⟨x, hx⟩ ⟨x', hx'⟩
theorem bt_xor (v : Int32) {x x' : Nat} (hx : x < 16) (hx' : x' < 16) : bt (v ^^^ ((1 : Int32) <<< (Int32.ofNat x &&& 31))) x' = if x' = x then !bt v x else bt v x' := by
  have hp := bt_pow ⟨x, hx⟩
  simp only at hp
  unfold bt
  rw [hp, Int32.toBitVec_xor, BitVec.getLsbD_xor, pow_bit hx hx']
  by_cases h : x' = x
  · subst h; simp
  · simp [h]
theorem bt_or (v : Int32) {x x' : Nat} (hx : x < 16) (hx' : x' < 16) : bt (v ||| ((1 : Int32) <<< (Int32.ofNat x &&& 31))) x' = if x' = x then true else bt v x' := by
  have hp := bt_pow ⟨x, hx⟩
  simp only at hp
  unfold bt
  rw [hp, Int32.toBitVec_or, BitVec.getLsbD_or, pow_bit hx hx']
  by_cases h : x' = x
  · subst h; simp
  · simp [h]
/-- how many of the first N are not zero -/
def cn (f : Nat → Int32) : Nat → Nat
  | 0 => 0
  | N + 1 => cn f N + if f N = 0 then 0 else 1
theorem cn_le (f : Nat → Int32) : ∀ N, cn f N ≤ N
  | 0 => Nat.le_refl _
  | N + 1 => by
    have := cn_le f N
    show cn f N + (if f N = 0 then 0 else 1) ≤ N + 1
    by_cases h : f N = 0
    · rw [if_pos h]; omega
    · rw [if_neg h]; omega
theorem cn_ext {f g : Nat → Int32} : ∀ N, (∀ c, c < N → f c = g c) → cn f N = cn g N
  | 0, _ => rfl
  | N + 1, h => by
    show cn f N + (if f N = 0 then 0 else 1) = cn g N + (if g N = 0 then 0 else 1)
    rw [cn_ext N (fun c hc => h c (by omega)), h N (by omega)]
theorem cn_one {f g : Nat → Int32} {k : Nat} (h1 : f k ≠ 0) (h2 : g k = 0) : ∀ N, k < N → (∀ c, c < N → c ≠ k → g c = f c) → cn g N + 1 = cn f N
  | 0, h, _ => by omega
  | N + 1, h, e => by
    show (cn g N + if g N = 0 then 0 else 1) + 1 = cn f N + if f N = 0 then 0 else 1
    by_cases hk : k = N
    · subst hk
      rw [if_pos h2, if_neg h1, cn_ext (f := g) (g := f) k (fun c hc => e c (by omega) (by omega))]
    · have := cn_one h1 h2 N (by omega) (fun c hc hn => e c (by omega) hn)
      rw [e N (by omega) (fun q => hk q.symm)]
      omega
section FACEL
variable {n T0 T1 W H : Nat} {I K I0 K0 : gI} {p s : gP}
/-- rows of bits and cells of nodes -/
def GB (W H : Nat) (I K : gI) : Prop := ∀ y x, y < H → x < W → K (153 + 12) (W * y + x) = b2 (bt (I (88 + 1) y) x)
/-- what was gathered -/
def GC (W H : Nat) (I K : gI) (g : Nat) : Prop := (I 88 2 = Int32.ofNat g ∧ K 153 28 = Int32.ofNat g) ∧ (∀ i, i < g → ∃ c, c < W * H ∧ I (88 + 2) i = Int32.ofNat c ∧ K (153 + 13) i = Int32.ofNat c) ∧ g + cn (K (153 + 12)) (W * H) ≤ W * H
/-- nothing else has changed -/
def GU (I0 K0 I K : gI) : Prop := (∀ o i, ¬ (88 ≤ o ∧ o < 91) → I o i = I0 o i) ∧ (∀ o i, o ≠ 165 → o ≠ 166 → (o ≠ 153 ∨ i ≠ 28) → K o i = K0 o i)
theorem g_one (hp : PV p) (hW : W = (p 0).toInt.toNat) (hH : H = (p 1).toInt.toNat) (hk : ∀ i, K0 (153 + 2) i = p i) {g : Nat} (B : GB W H I K) (C : GC W H I K g) (U : GU I0 K0 I K) (x y : Int32) : ∃ I' K' g', F_X1_gather n I x y (p 0) (p 1) = some I' ∧ F_X10_crossesOne n K x y = some K' ∧ GB W H I' K' ∧ GC W H I' K' g' ∧ GU I0 K0 I' K' ∧ g ≤ g' := by
  have hw := hp.w
  have hh := hp.h
  have hWH : W * H ≤ 16 * 10 := Nat.mul_le_mul (by omega) (by omega)
  have kp : pl K = p := by funext i; exact (U.2 _ _ (by decide) (by decide) (Or.inl (by decide))).trans (hk i)
  have kp0 : K (153 + 2) 0 = p 0 := by rw [← kp]; rfl
  unfold F_X1_gather F_X10_crossesOne
  rw [x_cel, kp]
  rcases Bool.eq_false_or_eq_true (cel p x y) with hc | hc
  · obtain ⟨hx, hy⟩ := (cel_t hp).mp hc
    unfold xIn at hx
    unfold yIn at hy
    have pW : p 0 = Int32.ofNat W := by rw [hW, i_on (by omega)]
    have pH : p 1 = Int32.ofNat H := by rw [hH, i_on (by omega)]
    obtain ⟨X, hXW, rfl⟩ : ∃ X, X < W ∧ x = Int32.ofNat X := ⟨x.toInt.toNat, by omega, (i_on hx.1).symm⟩
    obtain ⟨Y, hYH, rfl⟩ : ∃ Y, Y < H ∧ y = Int32.ofNat Y := ⟨y.toInt.toNat, by omega, (i_on hy.1).symm⟩
    have hlt : W * Y + X < W * H := by
      have : W * (Y + 1) ≤ W * H := Nat.mul_le_mul_left _ (by omega)
      rw [Nat.mul_succ] at this; omega
    have hb := B Y X hYH hXW
    have hbit := bt_get (I (88 + 1) Y) (x := X) (by omega)
    have hle := cn_le (K (153 + 12)) (W * H)
    have hg := C.2.2
    have spW : ∀ v, sI K (153 + 12) (W * Y + X) v (153 + 2) 0 = Int32.ofNat W := fun v => by rw [sI_o (by decide), kp0, pW]
    have ix : Int32.ofNat Y * Int32.ofNat W + Int32.ofNat X = Int32.ofNat (W * Y + X) := by rw [i_omul, i_oadd, Nat.mul_comm]
    have n1 : ¬ (Int32.ofNat X < 0) := by rw [i_lt, i_of (by omega), ii_0]; omega
    have n2 : ¬ (Int32.ofNat W ≤ Int32.ofNat X) := by rw [i_ole (by omega) (by omega)]; omega
    have n3 : ¬ (Int32.ofNat Y < 0) := by rw [i_lt, i_of (by omega), ii_0]; omega
    have n4 : ¬ (Int32.ofNat H ≤ Int32.ofNat Y) := by rw [i_ole (by omega) (by omega)]; omega
    rw [hc, bd_s, if_neg (c := b2 true = 0) (by decide), kp0, pW, pH, if_neg n1, if_neg n2, if_neg n3, if_neg n4]
    simp (disch := omega) only [gv_k, i_tno, i_omul, i_oadd, hbit, hb, spW, ix]
    cases hbb : bt (I (88 + 1) Y) X
    · rw [if_pos (show b2 false = 0 from rfl), if_pos (show b2 false = 0 from rfl)]
      exact ⟨I, K, g, rfl, rfl, B, C, U, Nat.le_refl _⟩
    · rw [if_neg (show ¬ b2 true = 0 by decide), if_neg (show ¬ b2 true = 0 by decide)]
      have hone := cn_one (f := K (153 + 12)) (g := sI K (153 + 12) (W * Y + X) 0 (153 + 12)) (k := W * Y + X) (by rw [hb, hbb]; decide) (sI_self _ _ _ _) (W * H) hlt (fun c _ h => sI_k h)
      have s9 : sI I (88 + 1) Y (I (88 + 1) Y ^^^ ((1 : Int32) <<< (Int32.ofNat X &&& 31))) 88 2 = Int32.ofNat g := by rw [sI_o (by decide)]; exact C.1.1
      have s10 : sI K (153 + 12) (W * Y + X) 0 153 28 = Int32.ofNat g := by rw [sI_o (by decide)]; exact C.1.2
      have t9 : ∀ v, sI (sI I (88 + 1) Y (I (88 + 1) Y ^^^ ((1 : Int32) <<< (Int32.ofNat X &&& 31)))) (88 + 2) g v 88 2 = Int32.ofNat g := fun v => by rw [sI_o (by decide)]; exact s9
      have t10 : ∀ v, sI (sI K (153 + 12) (W * Y + X) 0) (153 + 13) g v 153 28 = Int32.ofNat g := fun v => by rw [sI_o (by decide)]; exact s10
      have n5 : ¬ ((160 : Int32) ≤ Int32.ofNat g) := by rw [show (160 : Int32) = Int32.ofNat 160 from rfl, i_ole (by omega) (by omega)]; omega
      simp (disch := omega) only [s9, s10, n5, if_false, gv_k, i_tno, t9, t10, ixp_1]
      refine ⟨_, _, g + 1, rfl, rfl, ?_, ⟨⟨sI_self _ _ _ _, sI_self _ _ _ _⟩, ?_, ?_⟩, ⟨?_, ?_⟩, by omega⟩
      · intro y x hy' hx'
        rw [sI_o (o := 153) (by decide), sI_o (o := 153 + 13) (by decide), sI_o (o := 88) (by decide), sI_o (o := 88 + 2) (by decide), sI_get, sI_get]
        by_cases hY : y = Y
        · subst hY
          rw [if_pos (c := (88 + 1 = 88 + 1 ∧ y = y)) ⟨rfl, rfl⟩, bt_xor _ (by omega) (by omega)]
          by_cases hX : x = X
          · subst hX; rw [if_pos ⟨rfl, rfl⟩, if_pos rfl, hbb]; rfl
          · rw [if_neg (fun q => hX (by have := q.2; omega)), if_neg hX]; exact B y x hy' hx'
        · rw [if_neg (c := (88 + 1 = 88 + 1 ∧ y = Y)) (fun q => hY q.2), if_neg]
          · exact B y x hy' hx'
          · intro q
            have e1 := cell_k (W := W) (y := y) (x := x) hx'
            have e2 := cell_k (W := W) (y := Y) (x := X) hXW
            rw [q.2] at e1
            exact hY (e1.2.symm.trans e2.2)
      · intro i hi
        by_cases hi' : i = g
        · subst hi'
          rw [sI_o (o := 88) (by decide), sI_o (o := 153) (by decide), sI_self, sI_self]
          exact ⟨_, hlt, by rw [Nat.mul_comm], rfl⟩
        · rw [sI_o (o := 88) (by decide), sI_o (o := 153) (by decide), sI_k (o := 88 + 2) hi', sI_k (o := 153 + 13) hi', sI_o (o := 88 + 1) (by decide), sI_o (o := 153 + 12) (by decide)]; exact C.2.1 i (by omega)
      · have : cn (sI (sI (sI K (153 + 12) (W * Y + X) 0) (153 + 13) g (Int32.ofNat (W * Y + X))) 153 28 (Int32.ofNat (g + 1)) (153 + 12)) (W * H) = cn (sI K (153 + 12) (W * Y + X) 0 (153 + 12)) (W * H) := cn_ext _ (fun c _ => by rw [sI_o (by decide), sI_o (by decide)])
        rw [this]; omega
      · intro o i h
        rw [sI_o (by omega), sI_o (by omega), sI_o (by omega)]; exact U.1 o i h
      · intro o i a b c
        rw [sI_get, if_neg (by omega), sI_o (by omega), sI_o (by omega)]; exact U.2 o i a b c
  · rw [hc, bd_s, if_pos (c := b2 false = 0) rfl]
    refine ⟨I, K, g, ?_, rfl, B, C, U, Nat.le_refl _⟩
    have hn : ¬ (xIn p x ∧ yIn p y) := fun q => by rw [(cel_t hp).mpr q] at hc; exact absurd hc (by decide)
    unfold xIn yIn at hn
    by_cases h1 : x < 0
    · rw [if_pos h1]
    · rw [if_neg h1]
      by_cases h2 : p 0 ≤ x
      · rw [if_pos h2]
      · rw [if_neg h2]
        by_cases h3 : y < 0
        · rw [if_pos h3]
        · rw [if_neg h3]
          by_cases h4 : p 1 ≤ y
          · rw [if_pos h4]
          · exfalso
            rw [i_lt, ii_0] at h1 h3
            rw [i_le] at h2 h4
            exact hn ⟨⟨by omega, by omega⟩, ⟨by omega, by omega⟩⟩
/-- a group: taken away by both -/
theorem g_grp (hn : 2000 ≤ n) (hp : PV p) (hW : W = (p 0).toInt.toNat) (hH : H = (p 1).toInt.toNat) (hk : ∀ i, K0 (153 + 2) i = p i) (B : GB W H I K) (U : GU I0 K0 I K) {x y : Nat} (hx : x < W) (hy : y < H) : ∃ I' K', F_X1_removeGroup n I (Int32.ofNat x) (Int32.ofNat y) (p 0) (p 1) = some I' ∧ F_X10_crosses n K (Int32.ofNat x) (Int32.ofNat y) = some K' ∧ GB W H I' K' ∧ GU I0 K0 I' K' := by
  have hw := hp.w
  have hh := hp.h
  have hWH : W * H ≤ 16 * 10 := Nat.mul_le_mul (by omega) (by omega)
  have pW : p 0 = Int32.ofNat W := by rw [hW, i_on (by omega)]
  have key : ∀ (d i j j' g : Nat) (I K : gI), GB W H I K → GC W H I K g → GU I0 K0 I K → i ≤ g → i + d = W * H → d < j → d < j' → ∃ I' K', L_X1_removeGroup n (Int32.ofNat x) (Int32.ofNat y) (p 0) (p 1) j 0 (Int32.ofNat i) I = some I' ∧ L_X10_crosses n (Int32.ofNat x) (Int32.ofNat y) j' 0 (Int32.ofNat i) K = some K' ∧ GB W H I' K' ∧ GU I0 K0 I' K' := by
    intro d
    induction d with
    | zero =>
      intro i j j' g I K B C U hi hd hj hj'
      obtain ⟨j, rfl⟩ : ∃ i, j = i + 1 := ⟨j - 1, by omega⟩
      obtain ⟨j', rfl⟩ : ∃ i, j' = i + 1 := ⟨j' - 1, by omega⟩
      have hg := C.2.2
      refine ⟨I, K, ?_, ?_, B, U⟩
      · rw [L_X1_removeGroup_e0, C.1.1, if_pos (by rw [i_ole (by omega) (by omega)]; omega)]
      · rw [L_X10_crosses_e0, C.1.2, if_pos (by rw [i_ole (by omega) (by omega)]; omega)]
    | succ d ih =>
      intro i j j' g I K B C U hi hd hj hj'
      obtain ⟨j, rfl⟩ : ∃ i, j = i + 1 := ⟨j - 1, by omega⟩
      obtain ⟨j', rfl⟩ : ∃ i, j' = i + 1 := ⟨j' - 1, by omega⟩
      have hg := C.2.2
      have kp0 : K (153 + 2) 0 = p 0 := (U.2 _ _ (by decide) (by decide) (Or.inl (by decide))).trans (hk 0)
      by_cases hge : g ≤ i
      · refine ⟨I, K, ?_, ?_, B, U⟩
        · rw [L_X1_removeGroup_e0, C.1.1, if_pos (by rw [i_ole (by omega) (by omega)]; omega)]
        · rw [L_X10_crosses_e0, C.1.2, if_pos (by rw [i_ole (by omega) (by omega)]; omega)]
      · obtain ⟨c, hc, e9, e10⟩ := C.2.1 i (by omega)
        have cx := cell_x hp (k := c) (by rw [← hW, ← hH]; exact hc)
        obtain ⟨I1, K1, g1, a1, b1, B1, C1, U1, l1⟩ := g_one (n := n) hp hW hH hk B C U (Int32.ofNat (c % (p 0).toInt.toNat) - 1) (Int32.ofNat (c / (p 0).toInt.toNat))
        obtain ⟨I2, K2, g2, a2, b2', B2, C2, U2, l2⟩ := g_one (n := n) hp hW hH hk B1 C1 U1 (Int32.ofNat (c % (p 0).toInt.toNat) + 1) (Int32.ofNat (c / (p 0).toInt.toNat))
        obtain ⟨I3, K3, g3, a3, b3, B3, C3, U3, l3⟩ := g_one (n := n) hp hW hH hk B2 C2 U2 (Int32.ofNat (c % (p 0).toInt.toNat)) (Int32.ofNat (c / (p 0).toInt.toNat) - 1)
        obtain ⟨I4, K4, g4, a4, b4, B4, C4, U4, l4⟩ := g_one (n := n) hp hW hH hk B3 C3 U3 (Int32.ofNat (c % (p 0).toInt.toNat)) (Int32.ofNat (c / (p 0).toInt.toNat) + 1)
        obtain ⟨I', K', f9, f10, B5, U5⟩ := ih (i + 1) j j' g4 I4 K4 B4 C4 U4 (by omega) (by omega) (by omega) (by omega)
        refine ⟨I', K', ?_, ?_, B5, U5⟩
        · rw [L_X1_removeGroup_e0, C.1.1, if_neg (by rw [i_ole (by omega) (by omega)]; omega), if_neg (by rw [show (160 : Int32) = Int32.ofNat 160 from rfl, i_ole (by omega) (by omega)]; omega), gv_o (by omega), gd_t cx.1, gv_o (by omega), gd_t cx.1, i_tno (by omega), e9, cx.2.2.2.2.1, cx.2.2.2.2.2, a1, bd_s, a2, bd_s, a3, bd_s, a4, bd_s, ixp_1]
          exact f9
        · rw [L_X10_crosses_e0, C.1.2, if_neg (by rw [i_ole (by omega) (by omega)]; omega), kp0, gv_o (by omega), gd_t cx.1, gv_o (by omega), gd_t cx.1, i_tno (by omega), e10, cx.2.2.2.2.1, cx.2.2.2.2.2, b1, bd_s, b2', bd_s, b3, bd_s, b4, bd_s, ixp_1]
          exact f10
  have B0 : GB W H (sI I 88 2 0) (sI K 153 28 0) := by
    intro y x hy hx
    rw [sI_o (by decide), sI_o (by decide)]; exact B y x hy hx
  have C0 : GC W H (sI I 88 2 0) (sI K 153 28 0) 0 := by
    refine ⟨⟨sI_self _ _ _ _, sI_self _ _ _ _⟩, fun i hi => by omega, ?_⟩
    have := cn_le (sI K 153 28 0 (153 + 12)) (W * H)
    omega
  have U0 : GU I0 K0 (sI I 88 2 0) (sI K 153 28 0) := by
    refine ⟨fun o i h => ?_, fun o i a b c => ?_⟩
    · rw [sI_o (by omega)]; exact U.1 o i h
    · rw [sI_get, if_neg (by omega)]; exact U.2 o i a b c
  obtain ⟨I1, K1, g1, a1, b1, B1, C1, U1, l1⟩ := g_one (n := n) hp hW hH hk B0 C0 U0 (Int32.ofNat x) (Int32.ofNat y)
  obtain ⟨I', K', f9, f10, B5, U5⟩ := key (W * H) 0 n n g1 I1 K1 B1 C1 U1 (by omega) (by omega) (by omega) (by omega)
  refine ⟨I', K', ?_, ?_, B5, U5⟩
  · unfold F_X1_removeGroup; rw [a1, bd_s]; exact f9
  · unfold F_X10_crosses; rw [b1, bd_s]; exact f10
/-- no group: nothing to take away -/
theorem g_non (hn : 2000 ≤ n) (hp : PV p) (hW : W = (p 0).toInt.toNat) (hH : H = (p 1).toInt.toNat) (hk : ∀ i, K0 (153 + 2) i = p i) (B : GB W H I K) (U : GU I0 K0 I K) {x y : Nat} (hx : x < W) (hy : y < H) (hb : bt (I (88 + 1) y) x = false) : F_X10_crosses n K (Int32.ofNat x) (Int32.ofNat y) = some (sI K 153 28 0) ∧ GB W H I (sI K 153 28 0) ∧ GU I0 K0 I (sI K 153 28 0) := by
  have hw := hp.w
  have hh := hp.h
  have pW : p 0 = Int32.ofNat W := by rw [hW, i_on (by omega)]
  have hWH : W * H ≤ 16 * 10 := Nat.mul_le_mul (by omega) (by omega)
  have hlt : W * y + x < W * H := by
    have : W * (y + 1) ≤ W * H := Nat.mul_le_mul_left _ (by omega)
    rw [Nat.mul_succ] at this; omega
  have kp : pl (sI K 153 28 0) = p := by
    funext i; unfold pl; rw [sI_o (by decide)]; exact (U.2 _ _ (by decide) (by decide) (Or.inl (by decide))).trans (hk i)
  have hc : cel p (Int32.ofNat x) (Int32.ofNat y) = true := by
    rw [cel_t hp]; unfold xIn yIn; rw [i_of (by omega), i_of (by omega)]; omega
  have kp0 : sI K 153 28 0 (153 + 2) 0 = Int32.ofNat W := by rw [← pW, ← kp]; rfl
  refine ⟨?_, ?_, ?_⟩
  · unfold F_X10_crosses F_X10_crossesOne
    rw [x_cel, kp, hc, bd_s, if_neg (c := b2 true = 0) (by decide), kp0, i_omul, i_oadd, gv_o (by omega), i_tno (by omega), sI_o (by decide), B y x hy hx, hb, if_pos (show b2 false = 0 from rfl), bd_s]
    obtain ⟨j, hj⟩ : ∃ j, n = j + 1 := ⟨n - 1, by omega⟩
    have : L_X10_crosses n (Int32.ofNat x) (Int32.ofNat y) (j + 1) 0 0 (sI K 153 28 0) = some (sI K 153 28 0) := by
      rw [L_X10_crosses_e0, sI_self, if_pos (by decide)]
    rw [← hj] at this
    exact this
  · intro y x hy hx
    rw [sI_o (by decide)]; exact B y x hy hx
  · refine ⟨U.1, fun o i a b c => ?_⟩
    rw [sI_get, if_neg (by omega)]; exact U.2 o i a b c
/-- the bits of a row of nodes -/
theorem c_calms (hn : 2000 ≤ n) {os : Nat} (hp : PV p) (hv : SV p s) (C : CK I T0 os p s) {y : Int32} (hy : yIn p y) {m : Int32} (hm0 : 0 ≤ m.toInt) (hm : m.toInt ≤ 200) (tol : Int32) : ∃ v, F_X9_calmColumns n T0 T1 os I y m tol = some v ∧ ∀ x, x < (p 0).toInt.toNat → bt v x = sCalm p s (Int32.ofNat x) y m tol := by
  have hw := hp.w
  have key : ∀ (d x j : Nat) (a : Int32), x + d = (p 0).toInt.toNat → d < j → (∀ i, i < 16 → bt a i = (decide (i < x) && sCalm p s (Int32.ofNat i) y m tol)) → ∃ v, L_X9_calmColumns n T0 T1 os I y m tol j 0 a (Int32.ofNat x) = some v ∧ ∀ i, i < (p 0).toInt.toNat → bt v i = sCalm p s (Int32.ofNat i) y m tol := by
    intro d
    induction d with
    | zero =>
      intro x j a hx hj ha
      obtain ⟨j, rfl⟩ : ∃ i, j = i + 1 := ⟨j - 1, by omega⟩
      refine ⟨a, ?_, fun i hi => ?_⟩
      · rw [L_X9_calmColumns_e0, C.tr.w, if_pos (by rw [i_le, i_of (by omega)]; omega)]
      · rw [ha i (by omega)]; simp [show i < x by omega]
    | succ d ih =>
      intro x j a hx hj ha
      obtain ⟨j, rfl⟩ : ∃ i, j = i + 1 := ⟨j - 1, by omega⟩
      have hx1 : xIn p (Int32.ofNat x) := by unfold xIn; rw [i_of (by omega)]; omega
      rw [L_X9_calmColumns_e0, C.tr.w, if_neg (by rw [i_le, i_of (by omega)]; omega), c_calm hn hp hv C hx1 hy hm0 hm, bd_s, ixp_1]
      cases hc : sCalm p s (Int32.ofNat x) y m tol
      · rw [if_pos (show b2 false = 0 from rfl)]
        refine ih (x + 1) j a (by omega) (by omega) (fun i hi => ?_)
        rw [ha i hi]
        by_cases q : i = x
        · subst q; rw [hc]; simp
        · have : (decide (i < x)) = (decide (i < x + 1)) := by apply decide_eq_decide.mpr; omega
          rw [this]
      · rw [if_neg (show ¬ b2 true = 0 by decide)]
        refine ih (x + 1) j _ (by omega) (by omega) (fun i hi => ?_)
        rw [bt_or _ (by omega) hi]
        by_cases q : i = x
        · subst q; rw [if_pos rfl, hc]; simp
        · have : (decide (i < x)) = (decide (i < x + 1)) := by apply decide_eq_decide.mpr; omega
          rw [if_neg q, ha i hi, this]
  exact key (p 0).toInt.toNat 0 n 0 (by omega) (by omega) (fun i hi => by
    have : ∀ i : Fin 32, (0 : Int32).toBitVec.getLsbD i.1 = false := by decide
    have := this ⟨i, by omega⟩
    simp only at this
    unfold bt
    rw [this]; simp)
end FACEL
section FACEM
variable {n T0 T1 : Nat} {I K : gI}
theorem e_nodeGroups (hn : 2000 ≤ n) (R : Rel T0 T1 I K) (a1 a2 : Int32) : AG (F_X9_nodeGroups n T0 T1 I a1 a2) (F_X10_nodeGroups n K a1 a2) (fun v b => v.1 = b.1 ∧ Rel T0 T1 v.2 b.2 ∧ b.2 153 0 = 0) (fun E b => Tt K (thB E) b.2) := by
  rcases R.ld with ⟨h9, h10⟩ | ⟨h9, h10, L⟩
  · refine AG.er (E := ISE) (b := (0, sI K 153 0 1)) ?_ ?_ (Tt.r 1)
    · unfold F_X9_nodeGroups; rw [n_tank0 h9]; rfl
    · unfold F_X10_nodeGroups
      simp only [x_run, x_tol, bd_s]
      cases rng a1 1 40 <;> cases rng a2 0 9999 <;> simp only [b2_tv, b2_fv, e10, if_true, if_false, bd_s, ask0 h10, askF0 h10]
  unfold F_X9_nodeGroups F_X10_nodeGroups
  simp only [n_tank1 h9, nt_s, n_tim, n_tol, nd_s, x_run, x_tol, bd_s]
  cases g0 : rng a1 1 40
  · refine AG.er (E := IAE) (b := (0, sI K 153 0 2)) ?_ ?_ (Tt.r 2)
    · rfl
    · cases rng a2 0 9999 <;> simp only [b2_tv, b2_fv, e10, if_true, if_false, bd_s, ask2 h10, askF2 h10, askF3 h10]
  cases g1 : rng a2 0 9999
  · refine AG.er (E := IAE) (b := (0, sI K 153 0 2)) ?_ ?_ (Tt.r 2)
    · rfl
    · simp only [b2_tv, b2_fv, e10, if_true, if_false, bd_s, ask2 h10, askF2 h10, askF3 h10]
  simp only [b2_tv, b2_fv, e10, if_true, if_false, bd_s, ask1 h10, askF1 h10]
  have M := L.mk' (Tt.r 0) R.tv
  have C := L.ck R.ru
  have h4 := rng_t.mp g0
  have c1 : (1 : Int32).toInt = 1 := rfl
  have c2 : (40 : Int32).toInt = 40 := rfl
  have ht := R.tt
  have hw := L.pv.w
  have hh := L.pv.h
  obtain ⟨W, hW⟩ : ∃ W, W = (pl K 0).toInt.toNat := ⟨_, rfl⟩
  obtain ⟨H, hH⟩ : ∃ H, H = (pl K 1).toInt.toNat := ⟨_, rfl⟩
  have pW : pl K 0 = Int32.ofNat W := by rw [hW, i_on (by omega)]
  have pH : pl K 1 = Int32.ofNat H := by rw [hH, i_on (by omega)]
  have hWH : nC (pl K) = W * H := by unfold nC; rw [hW, hH]
  have hN : W * H ≤ 160 := by rw [← hWH]; exact nC_b L.pv
  obtain ⟨K', e, q1, q2, q3⟩ := m_nodes hn (by decide) L.pv L.sv M (m := a1) (by omega) (by omega) a2
  -- the rows of bits
  have fill : ∀ (d y j : Nat) (I1 : gI), y + d = H → d + 1 ≤ j → (∀ o i, ¬ (88 ≤ o ∧ o < 91) → I1 o i = I o i) → (∀ y' x, y' < y → x < W → bt (I1 (88 + 1) y') x = sCalm (pl K) (st K) (Int32.ofNat x) (Int32.ofNat y') a1 a2) → ∃ I', L_X9_nodeGroups n T0 T1 a1 a2 j 0 (Int32.ofNat y) I1 = bd (F_X1_countGroups n I' (pl K 0) (pl K 1)) (fun v69 => some (.inr (v69.1, v69.2))) ∧ (∀ o i, ¬ (88 ≤ o ∧ o < 91) → I' o i = I o i) ∧ (∀ y' x, y' < H → x < W → bt (I' (88 + 1) y') x = sCalm (pl K) (st K) (Int32.ofNat x) (Int32.ofNat y') a1 a2) := by
    intro d
    induction d with
    | zero =>
      intro y j I1 hy hj hI hb
      obtain ⟨j, rfl⟩ : ∃ i, j = i + 1 := ⟨j - 1, by omega⟩
      have L1 : LD T0 I1 K := L.ir ht (fun o i h => hI o i (by unfold irI at h; omega))
      refine ⟨I1, ?_, hI, fun y' x a b => hb y' x (by omega) b⟩
      rw [L_X9_nodeGroups_e0, L1.tr.h, L1.tr.w, if_pos (by rw [pH, i_ole (by omega) (by omega)]; omega)]
    | succ d ih =>
      intro y j I1 hy hj hI hb
      obtain ⟨j, rfl⟩ : ∃ i, j = i + 1 := ⟨j - 1, by omega⟩
      have L1 : LD T0 I1 K := L.ir ht (fun o i h => hI o i (by unfold irI at h; omega))
      have ru1 : RU I1 := R.ru.ir (T1 := T1) (by omega) (fun o i h => hI o i (by unfold irI at h; omega))
      have hy1 : yIn (pl K) (Int32.ofNat y) := by unfold yIn; rw [i_of (by omega)]; omega
      obtain ⟨v, ev, hv⟩ := c_calms (T1 := T1) hn L.pv L.sv (L1.ck ru1) hy1 (m := a1) (by omega) (by omega) a2
      obtain ⟨I', e', h1, h2⟩ := ih (y + 1) j (sI I1 (88 + 1) y v) (by omega) (by omega) (fun o i h => by rw [sI_o (by omega)]; exact hI o i h) (fun y' x a b => by
        rw [sI_get]
        by_cases q : y' = y
        · subst q; rw [if_pos ⟨rfl, rfl⟩]; exact hv x (by omega)
        · rw [if_neg (fun z => q z.2)]; exact hb y' x (by omega) b)
      refine ⟨I', ?_, h1, h2⟩
      rw [L_X9_nodeGroups_e0, L1.tr.h, if_neg (by rw [pH, i_ole (by omega) (by omega)]; omega), ev, bd_s, gv_o (by omega), i_tno (by omega), ixp_1]
      exact e'
  obtain ⟨I1, f1, f2, f3⟩ := fill H 0 n I (by omega) (by omega) (fun _ _ _ => rfl) (fun y' x a b => by omega)
  have B1 : GB W H I1 K' := by
    intro y x hy hx
    have hlt : W * y + x < W * H := by
      have : W * (y + 1) ≤ W * H := Nat.mul_le_mul_left _ (by omega)
      rw [Nat.mul_succ] at this; omega
    have hc := cell_k (W := W) (y := y) (x := x) hx
    rw [q3 _ (by omega), f3 y x hy hx]
    unfold nd9
    rw [← hW, hc.1, hc.2]
  have U1 : GU I1 K' I1 K' := ⟨fun _ _ _ => rfl, fun _ _ _ _ _ => rfl⟩
  have hkp : ∀ i, K' (153 + 2) i = pl K i := fun i => by rw [q1 _ _ (by decide) (by decide) (Or.inl (by decide)), sI_o (by decide)]; rfl
  -- the groups, counted by both
  have grp : ∀ (d y j : Nat) (a : Int32) (x4 : Int32) (I2 K2 : gI), GB W H I2 K2 → GU I1 K' I2 K2 → y + d = H → d * (W + 2) + 1 ≤ j → ∃ v I3 K3, L_X1_countGroups n (pl K 0) (pl K 1) j 0 a (Int32.ofNat y) 0 I2 = some (v, I3) ∧ L_X10_nodeGroups n a1 a2 j 0 a x4 (Int32.ofNat y) 0 K2 = some (v, K3) ∧ GU I1 K' I3 K3 := by
    intro d
    induction d with
    | zero =>
      intro y j a x4 I2 K2 B U hy hj
      obtain ⟨j, rfl⟩ : ∃ i, j = i + 1 := ⟨j - 1, by omega⟩
      have kp1 : K2 (153 + 2) 1 = pl K 1 := (U.2 _ _ (by decide) (by decide) (Or.inl (by decide))).trans (hkp 1)
      have hpa : pl K 1 ≤ Int32.ofNat y := by rw [pH, i_ole (by omega) (by omega)]; omega
      refine ⟨a, I2, K2, ?_, ?_, U⟩
      · rw [L_X1_countGroups_e0, if_pos hpa]
      · rw [L_X10_nodeGroups_e0, kp1, if_pos hpa]
    | succ d ih =>
      intro y j a x4 I2 K2 B U hy hj
      have e1 : (d + 1) * (W + 2) = d * (W + 2) + (W + 2) := Nat.succ_mul _ _
      obtain ⟨j, rfl⟩ : ∃ i, j = i + 1 := ⟨j - 1, by omega⟩
      have kp1 : K2 (153 + 2) 1 = pl K 1 := (U.2 _ _ (by decide) (by decide) (Or.inl (by decide))).trans (hkp 1)
      have hna : ¬ (pl K 1 ≤ Int32.ofNat y) := by rw [pH, i_ole (by omega) (by omega)]; omega
      rw [L_X1_countGroups_e0, if_neg hna, L_X10_nodeGroups_e0, kp1, if_neg hna]
      have inner : ∀ (e x j : Nat) (a : Int32) (I2 K2 : gI), GB W H I2 K2 → GU I1 K' I2 K2 → x + e = W → e + 1 + (d * (W + 2) + 1) ≤ j → ∃ v I3 K3, L_X1_countGroups n (pl K 0) (pl K 1) j 1 a (Int32.ofNat y) (Int32.ofNat x) I2 = some (v, I3) ∧ L_X10_nodeGroups n a1 a2 j 1 a x4 (Int32.ofNat y) (Int32.ofNat x) K2 = some (v, K3) ∧ GU I1 K' I3 K3 := by
        intro e
        induction e with
        | zero =>
          intro x j a I2 K2 B U hx hj
          obtain ⟨j, rfl⟩ : ∃ i, j = i + 1 := ⟨j - 1, by omega⟩
          have kp0 : K2 (153 + 2) 0 = pl K 0 := (U.2 _ _ (by decide) (by decide) (Or.inl (by decide))).trans (hkp 0)
          have hpa : pl K 0 ≤ Int32.ofNat x := by rw [pW, i_ole (by omega) (by omega)]; omega
          rw [L_X1_countGroups_e1, if_pos hpa, L_X10_nodeGroups_e1, kp0, if_pos hpa, ixp_1]
          exact ih (y + 1) j a x4 I2 K2 B U (by omega) (by omega)
        | succ e ihe =>
          intro x j a I2 K2 B U hx hj
          obtain ⟨j, rfl⟩ : ∃ i, j = i + 1 := ⟨j - 1, by omega⟩
          have kp0 : K2 (153 + 2) 0 = pl K 0 := (U.2 _ _ (by decide) (by decide) (Or.inl (by decide))).trans (hkp 0)
          have hna : ¬ (pl K 0 ≤ Int32.ofNat x) := by rw [pW, i_ole (by omega) (by omega)]; omega
          have hlt : W * y + x < W * H := by
            have : W * (y + 1) ≤ W * H := Nat.mul_le_mul_left _ (by omega)
            rw [Nat.mul_succ] at this; omega
          have hB := B y x (by omega) (by omega)
          rw [L_X1_countGroups_e1, if_neg hna, gv_o (by omega), i_tno (by omega), bt_get _ (by omega), ixp_1]
          rw [L_X10_nodeGroups_e1, kp0, if_neg hna, pW, i_omul, i_oadd, gv_o (by omega), i_tno (by omega), hB, ixp_1, ← pW]
          cases hb : bt (I2 (88 + 1) y) x
          · rw [if_neg (show ¬ b2 false = 1 by decide)]
            obtain ⟨r1, r2, r3⟩ := g_non hn L.pv hW hH hkp B U (x := x) (y := y) (by omega) (by omega) hb
            rw [r1, bd_s, show a + b2 false = a from Int32.add_zero a]
            exact ihe (x + 1) j a _ _ r2 r3 (by omega) (by omega)
          · rw [if_pos (show b2 true = 1 from rfl)]
            obtain ⟨I3, K3, r1, r2, r3, r4⟩ := g_grp hn L.pv hW hH hkp B U (x := x) (y := y) (by omega) (by omega)
            rw [r1, r2, bd_s, bd_s]
            exact ihe (x + 1) j (a + 1) _ _ r3 r4 (by omega) (by omega)
      exact inner W 0 j a I2 K2 B U (by omega) (by omega)
  have hf : H * (W + 2) ≤ 10 * 18 := Nat.mul_le_mul (by omega) (by omega)
  obtain ⟨v, I3, K3, r1, r2, U3⟩ := grp H 0 n 0 (cnt (nd9 (pl K) (st K) a1 a2) (nC (pl K))) I1 K' B1 U1 (by omega) (by omega)
  rw [e]
  have f1' : L_X9_nodeGroups n T0 T1 a1 a2 n 0 0 I = some (.inr (v, I3)) := by
    refine Eq.trans f1 ?_
    unfold F_X1_countGroups
    rw [show L_X1_countGroups n (pl K 0) (pl K 1) n 0 0 0 0 I1 = some (v, I3) from r1, bd_s]
  have U0 : ∀ o i, ¬ irI T1 o → I3 o i = I o i := fun o i h => by
    unfold irI at h
    rw [U3.1 o i (by omega), f2 o i (by omega)]
  have V0 : ∀ o i, ¬ irK o i → K3 o i = K o i := fun o i h => by
    unfold irK at h
    rw [U3.2 o i (by omega) (by omega) (by omega), q1 o i (by omega) (by omega) (by omega), sI_get, if_neg (by omega)]
  have tv3 : TV K3 := q2.cg (fun i => U3.2 _ _ (by decide) (by decide) (Or.inl (by decide))) (U3.2 _ _ (by decide) (by decide) (by decide))
  refine AG.ok f1' r2 ⟨rfl, R.cg U0 V0 tv3 (fun k hk => by dsimp only; rw [U3.1 _ _ (by omega), f2 _ _ (by omega)]; exact R.tb k hk), ?_⟩
  dsimp only
  rw [U3.2 _ _ (by decide) (by decide) (by decide), q1 _ _ (by decide) (by decide) (by decide), sI_self]
end FACEM
