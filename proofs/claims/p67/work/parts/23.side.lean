theorem ix_2 (k : Nat) : (2 : Int32) + Int32.ofNat k = Int32.ofNat (2 + k) := i_oadd 2 k
theorem ix_5 (k : Nat) : (5 : Int32) + Int32.ofNat k = Int32.ofNat (5 + k) := i_oadd 5 k
theorem ix_6 (k : Nat) : (6 : Int32) + Int32.ofNat k = Int32.ofNat (6 + k) := i_oadd 6 k
theorem ix_9 (k : Nat) : (9 : Int32) + Int32.ofNat k = Int32.ofNat (9 + k) := i_oadd 9 k
theorem ix_10 (k : Nat) : (10 : Int32) + Int32.ofNat k = Int32.ofNat (10 + k) := i_oadd 10 k
theorem ix_13 (k : Nat) : (13 : Int32) + Int32.ofNat k = Int32.ofNat (13 + k) := i_oadd 13 k
theorem ix_14 (k : Nat) : (14 : Int32) + Int32.ofNat k = Int32.ofNat (14 + k) := i_oadd 14 k
theorem ix_17 (k : Nat) : (17 : Int32) + Int32.ofNat k = Int32.ofNat (17 + k) := i_oadd 17 k
theorem ix_18 (k : Nat) : (18 : Int32) + Int32.ofNat k = Int32.ofNat (18 + k) := i_oadd 18 k
theorem ix_21 (k : Nat) : (21 : Int32) + Int32.ofNat k = Int32.ofNat (21 + k) := i_oadd 21 k
theorem ix_22 (k : Nat) : (22 : Int32) + Int32.ofNat k = Int32.ofNat (22 + k) := i_oadd 22 k
theorem ix_25 (k : Nat) : (25 : Int32) + Int32.ofNat k = Int32.ofNat (25 + k) := i_oadd 25 k
theorem ix_26 (k : Nat) : (26 : Int32) + Int32.ofNat k = Int32.ofNat (26 + k) := i_oadd 26 k
theorem ix_29 (k : Nat) : (29 : Int32) + Int32.ofNat k = Int32.ofNat (29 + k) := i_oadd 29 k
theorem ix_33 (k : Nat) : (33 : Int32) + Int32.ofNat k = Int32.ofNat (33 + k) := i_oadd 33 k
theorem ix_37 (k : Nat) : (37 : Int32) + Int32.ofNat k = Int32.ofNat (37 + k) := i_oadd 37 k
theorem ix_42 (k : Nat) : (42 : Int32) + Int32.ofNat k = Int32.ofNat (42 + k) := i_oadd 42 k
theorem ix_61 (k : Nat) : (61 : Int32) + Int32.ofNat k = Int32.ofNat (61 + k) := i_oadd 61 k
theorem ix_77 (k : Nat) : (77 : Int32) + Int32.ofNat k = Int32.ofNat (77 + k) := i_oadd 77 k
theorem ix_48 (k : Nat) : (48 : Int32) + Int32.ofNat k = Int32.ofNat (48 + k) := i_oadd 48 k
theorem xm_3 (k : Nat) : (3 : Int32) * Int32.ofNat k = Int32.ofNat (3 * k) := i_omul 3 k
theorem xm_5 (k : Nat) : (5 : Int32) * Int32.ofNat k = Int32.ofNat (5 * k) := i_omul 5 k
theorem xm_2 (k : Nat) : (2 : Int32) * Int32.ofNat k = Int32.ofNat (2 * k) := i_omul 2 k
theorem xm_20 (k : Nat) : (20 : Int32) * Int32.ofNat k = Int32.ofNat (20 * k) := i_omul 20 k
theorem xm_32 (k : Nat) : (32 : Int32) * Int32.ofNat k = Int32.ofNat (32 * k) := i_omul 32 k
theorem xm_30 (k : Nat) : (30 : Int32) * Int32.ofNat k = Int32.ofNat (30 * k) := i_omul 30 k
theorem ixp_1 (k : Nat) : Int32.ofNat k + (1 : Int32) = Int32.ofNat (k + 1) := i_oadd k 1
theorem ixp_2 (k : Nat) : Int32.ofNat k + (2 : Int32) = Int32.ofNat (k + 2) := i_oadd k 2
theorem ixp_3 (k : Nat) : Int32.ofNat k + (3 : Int32) = Int32.ofNat (k + 3) := i_oadd k 3
theorem ixp_4 (k : Nat) : Int32.ofNat k + (4 : Int32) = Int32.ofNat (k + 4) := i_oadd k 4
theorem gv_k {α : Type} {k z : Nat} {x : Option α} (h : k < z) (hz : z ≤ 2147483648) : gv (Int32.ofNat k) z x = x := gv_o h hz
theorem tn_0 : Int32.toNatClampNeg (0 : Int32) = 0 := rfl
theorem tn_1 : Int32.toNatClampNeg (1 : Int32) = 1 := rfl
theorem gv_0 {α : Type} {z : Nat} {x : Option α} (h : 0 < z) (hz : z ≤ 2147483648) : gv (0 : Int32) z x = x := gv_t (by decide) (by show (0 : Int) < z; omega)
theorem gv_1 {α : Type} {z : Nat} {x : Option α} (h : 1 < z) (hz : z ≤ 2147483648) : gv (1 : Int32) z x = x := gv_t (by decide) (by show (1 : Int) < z; omega)
/-- the number of a truth -/
def b2 (b : Bool) : Int32 := if b then 1 else 0
theorem b2_0 (b : Bool) : (b2 b = 0) ↔ b = false := by cases b <;> simp [b2]
theorem b2_1 (b : Bool) : (b2 b = 1) ↔ b = true := by cases b <;> simp [b2]
theorem b2_b (b : Bool) : b2 b = 0 ∨ b2 b = 1 := by cases b <;> simp [b2]
theorem ii_1 : (1 : Int32).toInt = 1 := rfl
theorem ii_0 : (0 : Int32).toInt = 0 := rfl
theorem sCol_b {p : gP} (h : PV p) (s : gP) (k : Nat) (t : Int32) : xIn p (sCol p s k t) := by
  have hw := h.w
  unfold xIn sCol
  rw [jmax_i, jmin_i, i_sub (by rw [ii_1]; omega) (by rw [ii_1]; omega), ii_1, ii_0]
  omega
theorem sRow_b {p : gP} (h : PV p) (s : gP) (k : Nat) (t : Int32) : yIn p (sRow p s k t) := by
  have hw := h.h
  unfold yIn sRow
  rw [jmax_i, jmin_i, i_sub (by rw [ii_1]; omega) (by rw [ii_1]; omega), ii_1, ii_0]
  omega
section MODEL
variable {n : Nat} {K : gI} {o : Nat} {p s : gP}
theorem cut_f {w a b : Int32} : (if w ≤ a then (if a ≤ w then some (0 : Int32) else (if w ≤ b then some (0 : Int32) else some (1 : Int32))) else (if w < b then some (1 : Int32) else (if a ≤ w then some (0 : Int32) else (if w ≤ b then some (0 : Int32) else some (1 : Int32))))) = some (b2 (decide (a < w ∧ w < b ∨ w < a ∧ b < w))) := by
  simp only [i_le, i_lt]
  rcases Int.lt_trichotomy a.toInt w.toInt with h1 | h1 | h1 <;> rcases Int.lt_trichotomy b.toInt w.toInt with h2 | h2 | h2
  all_goals
    first
    | (rw [decide_eq_true (by omega)]; repeat' (first | rw [if_pos (by omega)] | rw [if_neg (by omega)] | rfl))
    | (rw [decide_eq_false (by omega)]; repeat' (first | rw [if_pos (by omega)] | rw [if_neg (by omega)] | rfl))
theorem sImX_d {p s : gP} (hp : PV p) {side : Nat} {x c : Int32} (hx : xIn p x) (hc : xIn p c) : (x - sImX p side c).toInt.natAbs < 32 := by
  have hw := hp.w
  unfold xIn at hx hc
  have i2 : (2 : Int32).toInt = 2 := rfl
  have im : (-1 : Int32).toInt = -1 := rfl
  unfold sImX
  by_cases h0 : side = 0
  · rw [if_pos h0, i_sub, i_sub] <;> (try rw [i_sub]) <;> omega
  · rw [if_neg h0]
    by_cases h1 : side = 1
    · rw [if_pos h1]
      have m : (2 * p 0).toInt = 2 * (p 0).toInt := i_mul (by rw [i2]; omega) (by rw [i2]; omega)
      have e1 : (2 * p 0 - 1).toInt = 2 * (p 0).toInt - 1 := by rw [i_sub, m, ii_1] <;> rw [m, ii_1] <;> omega
      have e2 : (2 * p 0 - 1 - c).toInt = 2 * (p 0).toInt - 1 - c.toInt := by rw [i_sub, e1] <;> rw [e1] <;> omega
      rw [i_sub, e2] <;> (try rw [e2]) <;> omega
    · rw [if_neg h1, i_sub] <;> omega
theorem sImY_d {p s : gP} (hp : PV p) {side : Nat} {y c : Int32} (hy : yIn p y) (hc : yIn p c) : (y - sImY p side c).toInt.natAbs < 20 := by
  have hw := hp.h
  unfold yIn at hy hc
  have i2 : (2 : Int32).toInt = 2 := rfl
  have im : (-1 : Int32).toInt = -1 := rfl
  unfold sImY
  by_cases h0 : side = 2
  · rw [if_pos h0, i_sub, i_sub] <;> (try rw [i_sub]) <;> omega
  · rw [if_neg h0]
    by_cases h1 : side = 3
    · rw [if_pos h1]
      have m : (2 * p 1).toInt = 2 * (p 1).toInt := i_mul (by rw [i2]; omega) (by rw [i2]; omega)
      have e1 : (2 * p 1 - 1).toInt = 2 * (p 1).toInt - 1 := by rw [i_sub, m, ii_1] <;> rw [m, ii_1] <;> omega
      have e2 : (2 * p 1 - 1 - c).toInt = 2 * (p 1).toInt - 1 - c.toInt := by rw [i_sub, e1] <;> rw [e1] <;> omega
      rw [i_sub, e2] <;> (try rw [e2]) <;> omega
    · rw [if_neg h1, i_sub] <;> omega
end MODEL

