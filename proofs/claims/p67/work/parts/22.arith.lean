theorem sin_all : ∀ k : Fin 360, F_X8_sineOf 0 (Int32.ofNat k.1) = some (sSin (Int32.ofNat k.1)) ∧ True ∧ -1000 ≤ (sSin (Int32.ofNat k.1)).toInt ∧ (sSin (Int32.ofNat k.1)).toInt ≤ 1000 := by decide +kernel
theorem sin_at {a : Int32} (h0 : 0 ≤ a.toInt) (h1 : a.toInt < 360) (n : Nat) : F_X8_sineOf n a = some (sSin a) ∧ True ∧ -1000 ≤ (sSin a).toInt ∧ (sSin a).toInt ≤ 1000 := by
  have := sin_all ⟨a.toInt.toNat, by omega⟩
  rw [i_on h0] at this
  exact this
theorem one_all : ∀ k : Fin 1024, k.1 ≠ 0 → one (Int32.ofNat k.1) = one (Int32.ofNat k.1 &&& (Int32.ofNat k.1 - 1)) + 1 ∧ (Int32.ofNat k.1 &&& (Int32.ofNat k.1 - 1)).toInt.toNat < k.1 ∧ 0 ≤ (Int32.ofNat k.1 &&& (Int32.ofNat k.1 - 1)).toInt ∧ 1 ≤ (one (Int32.ofNat k.1)).toInt ∧ (one (Int32.ofNat k.1)).toInt ≤ 10 := by decide +kernel
theorem one_b {v : Int32} (h0 : 0 < v.toInt) (h1 : v.toInt < 1024) : 1 ≤ (one v).toInt ∧ (one v).toInt ≤ 10 := by
  have := one_all ⟨v.toInt.toNat, by omega⟩ (show v.toInt.toNat ≠ 0 by omega)
  rw [i_on (by omega)] at this
  exact this.2.2.2
theorem bitc_s (n : Nat) (v : Int32) : F_J6_bitCount_0f7a4 n v = some (one v) := rfl
theorem root4 {n : Nat} (hn : 14 ≤ n) (v : Int32) : F_X4_root n v = some (rt v) := by
  obtain ⟨m, rfl⟩ : ∃ m, n = m + 14 := ⟨n - 14, by omega⟩
  unfold F_X4_root
  have st : ∀ (j : Nat) (r b c : Int32), ¬ b ≤ 0 → b >>> ((1 : Int32) &&& 31) = c → L_X4_root (m + 14) v (j + 1) 0 r b = L_X4_root (m + 14) v j 0 (rtS v r b) c := by
    intro j r b c h1 h2
    rw [L_X4_root_e0, if_neg h1, h2]
    unfold rtS
    by_cases h : v < (r + b) * (r + b)
    · rw [if_pos h, if_pos h]
    · rw [if_neg h, if_neg h]
  rw [st (m + 13) 0 2048 1024 (by decide) (by decide), st (m + 12) _ 1024 512 (by decide) (by decide), st (m + 11) _ 512 256 (by decide) (by decide), st (m + 10) _ 256 128 (by decide) (by decide), st (m + 9) _ 128 64 (by decide) (by decide), st (m + 8) _ 64 32 (by decide) (by decide), st (m + 7) _ 32 16 (by decide) (by decide), st (m + 6) _ 16 8 (by decide) (by decide), st (m + 5) _ 8 4 (by decide) (by decide), st (m + 4) _ 4 2 (by decide) (by decide), st (m + 3) _ 2 1 (by decide) (by decide), st (m + 2) _ 1 0 (by decide) (by decide), L_X4_root_e0, if_pos (by decide)]
  rfl
/-! the reference's table of lengths -/
/-- the program's table of lengths is laid -/
def RU (I : gI) : Prop := ∀ x y, x < 32 → y < 20 → I 94 (20 * x + y) = dst x y
theorem btw_s (n : Nat) {I : gI} (hr : RU I) {a1 a2 : Int32} (h1 : a1.toInt.natAbs < 32) (h2 : a2.toInt.natAbs < 20) : F_X4_between n I a1 a2 = some (far a1 a2) := by
  have j1 := jabs_i (x := a1) (by omega)
  have j2 := jabs_i (x := a2) (by omega)
  have e1 : jabs a1 = Int32.ofNat a1.toInt.natAbs := i_eq.mpr (by rw [j1, i_of (by omega)])
  have e2 : jabs a2 = Int32.ofNat a2.toInt.natAbs := i_eq.mpr (by rw [j2, i_of (by omega)])
  have ix : jabs a1 * (20 : Int32) + jabs a2 = Int32.ofNat (20 * a1.toInt.natAbs + a2.toInt.natAbs) := by
    rw [e1, e2, show (20 : Int32) = Int32.ofNat 20 from rfl, i_omul, i_oadd, Nat.mul_comm]
  unfold F_X4_between
  rw [ix, gv_o (by omega), i_tno (by omega)]
  show some (I 94 _) = _
  rw [hr _ _ h1 h2]
  unfold far
  rw [e1, e2, i_tno (by omega), i_tno (by omega)]

