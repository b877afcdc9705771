/-! NUMBERS: words for the functions that were read out of the code -/
theorem bd_s {α β : Type} (a : α) (g : α → Option β) : bd (some a) g = g a := rfl
theorem gd_t {α : Type} {c : Prop} [Decidable c] {x : Option α} (h : c) : gd c x = x := by unfold gd; rw [if_pos h]
theorem i_le {a b : Int32} : a ≤ b ↔ a.toInt ≤ b.toInt := Int32.le_iff_toInt_le
theorem i_lt {a b : Int32} : a < b ↔ a.toInt < b.toInt := Int32.lt_iff_toInt_lt
theorem i_eq {a b : Int32} : a = b ↔ a.toInt = b.toInt := Int32.toInt_inj.symm
theorem i_lo (a : Int32) : -2147483648 ≤ a.toInt := Int32.le_toInt a
theorem i_hi (a : Int32) : a.toInt < 2147483648 := by
  have h := Int32.toInt_lt a
  simpa using h
theorem i_tn (a : Int32) : a.toNatClampNeg = a.toInt.toNat := rfl
theorem bm {x : Int} (h1 : -2147483648 ≤ x) (h2 : x < 2147483648) : x.bmod (2 ^ 32) = x := Int.bmod_eq_of_le (by omega) (by omega)
theorem i_add {a b : Int32} (h1 : -2147483648 ≤ a.toInt + b.toInt) (h2 : a.toInt + b.toInt < 2147483648) : (a + b).toInt = a.toInt + b.toInt := by
  rw [Int32.toInt_add, bm h1 h2]
theorem i_sub {a b : Int32} (h1 : -2147483648 ≤ a.toInt - b.toInt) (h2 : a.toInt - b.toInt < 2147483648) : (a - b).toInt = a.toInt - b.toInt := by
  rw [Int32.toInt_sub, bm h1 h2]
theorem i_mul {a b : Int32} (h1 : -2147483648 ≤ a.toInt * b.toInt) (h2 : a.toInt * b.toInt < 2147483648) : (a * b).toInt = a.toInt * b.toInt := by
  rw [Int32.toInt_mul, bm h1 h2]
theorem i_neg {a : Int32} (h : a.toInt ≠ -2147483648) : (-a).toInt = -a.toInt := by
  have h1 := i_lo a
  have h2 := i_hi a
  rw [Int32.toInt_neg, bm (by omega) (by omega)]
theorem i_div {a b : Int32} (h : a.toInt ≠ -2147483648 ∨ 0 ≤ b.toInt) : (a / b).toInt = a.toInt.tdiv b.toInt := by
  have h1 := i_lo a
  have h2 := i_hi a
  rw [Int32.toInt_div]
  by_cases hb : b.toInt = -1
  · have : a.toInt ≠ -2147483648 := by omega
    rw [hb]
    have e : a.toInt.tdiv (-1) = -a.toInt := by simp
    rw [e, bm (by omega) (by omega)]
  · have h3 : (a.toInt.tdiv b.toInt).natAbs ≤ a.toInt.natAbs := by
      rw [Int.natAbs_tdiv]; exact Nat.div_le_self _ _
    by_cases hm : a.toInt.tdiv b.toInt = 2147483648
    · exfalso
      have h4 : a.toInt.natAbs = 2147483648 := by omega
      have h5 : (a.toInt.tdiv b.toInt).natAbs = 2147483648 := by omega
      rw [Int.natAbs_tdiv, h4] at h5
      have h6 : b.toInt.natAbs = 1 := by
        by_cases hz : b.toInt.natAbs = 0
        · rw [hz] at h5; simp at h5
        · by_cases h1' : b.toInt.natAbs = 1
          · exact h1'
          · exfalso
            have h7 : Nat.div 2147483648 b.toInt.natAbs ≤ 2147483648 / 2 := Nat.div_le_div_left (by omega) (by omega)
            rw [h5] at h7
            exact absurd h7 (by decide)
      have h7 : b.toInt = 1 := by omega
      have h8 : a.toInt = -2147483648 := by omega
      rw [h7, h8] at hm
      exact absurd hm (by decide)
    · exact bm (by omega) (by omega)
theorem i_of {k : Nat} (h : k < 2147483648) : (Int32.ofNat k).toInt = k := Int32.toInt_ofNat_of_lt h
theorem i_tno {k : Nat} (h : k < 2147483648) : (Int32.ofNat k).toNatClampNeg = k := Int32.toNatClampNeg_ofNat_of_lt h
theorem i_on {a : Int32} (h : 0 ≤ a.toInt) : Int32.ofNat a.toInt.toNat = a := by
  apply Int32.toInt_inj.mp
  have := i_hi a
  rw [i_of (by omega)]
  omega
theorem i_suc (k : Nat) : Int32.ofNat k + 1 = Int32.ofNat (k + 1) := (Int32.ofNat_add k 1).symm
theorem i_ole {a b : Nat} (ha : a < 2147483648) (hb : b < 2147483648) : Int32.ofNat a ≤ Int32.ofNat b ↔ a ≤ b := by
  rw [i_le, i_of ha, i_of hb]; omega
theorem i_olt {a b : Nat} (ha : a < 2147483648) (hb : b < 2147483648) : Int32.ofNat a < Int32.ofNat b ↔ a < b := by
  rw [i_lt, i_of ha, i_of hb]; omega
theorem i_oeq {a b : Nat} (ha : a < 2147483648) (hb : b < 2147483648) : Int32.ofNat a = Int32.ofNat b ↔ a = b := by
  rw [i_eq, i_of ha, i_of hb]; omega
theorem i_oadd (a b : Nat) : Int32.ofNat a + Int32.ofNat b = Int32.ofNat (a + b) := (Int32.ofNat_add a b).symm
theorem i_omul (a b : Nat) : Int32.ofNat a * Int32.ofNat b = Int32.ofNat (a * b) := (Int32.ofNat_mul a b).symm
theorem i_osub {a b : Nat} (h : b ≤ a) (ha : a < 2147483648) : Int32.ofNat a - Int32.ofNat b = Int32.ofNat (a - b) := by
  apply Int32.toInt_inj.mp
  have e1 := i_of ha
  have e2 := i_of (k := b) (by omega)
  have e3 := i_of (k := a - b) (by omega)
  rw [i_sub (by omega) (by omega)]
  omega
theorem i_odiv {a b : Nat} (ha : a < 2147483648) (hb : b < 2147483648) : Int32.ofNat a / Int32.ofNat b = Int32.ofNat (a / b) := by
  apply Int32.toInt_inj.mp
  have h : a / b ≤ a := Nat.div_le_self _ _
  rw [i_div (Or.inr (by rw [i_of hb]; omega)), i_of ha, i_of hb, i_of (by omega)]
  exact (Int.ofNat_tdiv a b).symm
theorem i_omod {a b : Nat} (ha : a < 2147483648) (hb : b < 2147483648) : Int32.ofNat a - Int32.ofNat a / Int32.ofNat b * Int32.ofNat b = Int32.ofNat (a % b) := by
  have h : a / b * b ≤ a := Nat.div_mul_le_self a b
  rw [i_odiv ha hb, i_omul, i_osub h ha]
  congr 1
  have := Nat.div_add_mod a b
  rw [Nat.mul_comm] at this
  omega
theorem gv_t {α : Type} {i : Int32} {z : Nat} {x : Option α} (h0 : 0 ≤ i.toInt) (h1 : i.toInt < z) : gv i z x = x := by
  unfold gv
  rw [if_pos]
  rintro (h | h)
  · rw [i_lt] at h
    have : (0 : Int32).toInt = 0 := rfl
    omega
  · have e : i.toNatClampNeg = i.toInt.toNat := rfl
    rw [e] at h
    omega
theorem gv_o {α : Type} {k z : Nat} {x : Option α} (h : k < z) (hz : z ≤ 2147483648 := by decide) : gv (Int32.ofNat k) z x = x := by
  have e := i_of (k := k) (by omega)
  exact gv_t (by omega) (by omega)
theorem sI_get (I : gI) (o k : Nat) (v : Int32) (o' k' : Nat) : sI I o k v o' k' = if o' = o ∧ k' = k then v else I o' k' := by
  unfold sI va_up upd
  by_cases h : o' = o
  · subst h
    by_cases h2 : k' = k <;> simp [h2]
  · simp [h]
theorem sI_self (I : gI) (o k : Nat) (v : Int32) : sI I o k v o k = v := by rw [sI_get, if_pos ⟨rfl, rfl⟩]
theorem sI_o {I : gI} {o k o' k' : Nat} {v : Int32} (h : o' ≠ o) : sI I o k v o' k' = I o' k' := by rw [sI_get, if_neg fun q => h q.1]
theorem sI_k {I : gI} {o k o' k' : Nat} {v : Int32} (h : k' ≠ k) : sI I o k v o' k' = I o' k' := by rw [sI_get, if_neg fun q => h q.2]
theorem sJ_get (I : gJ) (o k : Nat) (v : Int64) (o' k' : Nat) : sJ I o k v o' k' = if o' = o ∧ k' = k then v else I o' k' := by
  unfold sJ va_up vp_updL
  by_cases h : o' = o
  · subst h
    by_cases h2 : k' = k <;> simp [h2]
  · simp [h]
theorem jabs_neg (x : Int32) : jabs (-x) = jabs x := by
  unfold jabs
  by_cases h0 : x = 0
  · subst h0; rfl
  by_cases hm : x.toInt = -2147483648
  · have : x = -2147483648 := i_eq.mpr (by rw [hm]; rfl)
    subst this; rfl
  · have e := i_neg hm
    have z0 : (0 : Int32).toInt = 0 := rfl
    have h0' : x.toInt ≠ 0 := fun q => h0 (i_eq.mpr (by rw [q]; rfl))
    by_cases h : 0 ≤ x
    · have h' : ¬ (0 ≤ -x) := by rw [i_le] at h ⊢; omega
      rw [if_pos h, if_neg h']
      simp
    · have h' : 0 ≤ -x := by rw [i_le] at h ⊢; omega
      rw [if_neg h, if_pos h']
      simp
theorem jabs_sub (a b : Int32) : jabs (a - b) = jabs (b - a) := by
  rw [← jabs_neg (a - b), Int32.neg_sub]
theorem jabs_i {x : Int32} (h : x.toInt ≠ -2147483648) : (jabs x).toInt = x.toInt.natAbs := by
  unfold jabs
  have z0 : (0 : Int32).toInt = 0 := rfl
  have h1 := i_lo x
  have h2 := i_hi x
  by_cases h' : 0 ≤ x
  · rw [if_pos h']; rw [i_le] at h'; omega
  · rw [if_neg h']; rw [i_le] at h'; rw [i_sub (by omega) (by omega)]; omega
theorem jmax_i (x y : Int32) : (jmax x y).toInt = max x.toInt y.toInt := by
  unfold jmax
  by_cases h : x < y
  · rw [if_pos h]; rw [i_lt] at h; omega
  · rw [if_neg h]; rw [i_lt] at h; omega
theorem jmin_i (x y : Int32) : (jmin x y).toInt = min x.toInt y.toInt := by
  unfold jmin
  by_cases h : y < x
  · rw [if_pos h]; rw [i_lt] at h; omega
  · rw [if_neg h]; rw [i_lt] at h; omega
/-- d steps of a loop from k on -/
def lp {α : Type} (g : Nat → α → α) : Nat → Nat → α → α
  | 0, _, a => a
  | d + 1, k, a => lp g d (k + 1) (g k a)
theorem lp_s {α : Type} (g : Nat → α → α) (d k : Nat) (a : α) : lp g (d + 1) k a = lp g d (k + 1) (g k a) := rfl
theorem lp_ext {α : Type} {g h : Nat → α → α} : ∀ (d k : Nat) (a : α), (∀ i a, k ≤ i → i < k + d → g i a = h i a) → lp g d k a = lp h d k a
  | 0, _, _, _ => rfl
  | d + 1, k, a, e => by
    show lp g d (k + 1) (g k a) = lp h d (k + 1) (h k a)
    rw [e k a (Nat.le_refl _) (by omega)]
    exact lp_ext d (k + 1) _ fun i b h1 h2 => e i b (by omega) (by omega)
theorem lp_inv {α : Type} {g : Nat → α → α} (P : Nat → α → Prop) : ∀ (d k : Nat) (a : α), P k a → (∀ i a, k ≤ i → i < k + d → P i a → P (i + 1) (g i a)) → P (k + d) (lp g d k a)
  | 0, _, _, h, _ => h
  | d + 1, k, a, h, e => by
    have := lp_inv P d (k + 1) (g k a) (e k a (Nat.le_refl _) (by omega) h) fun i b h1 h2 => e i b (by omega) (by omega)
    rw [show k + (d + 1) = k + 1 + d by omega]
    exact this

