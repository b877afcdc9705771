theorem sin_all : ∀ k : Fin 360, F_X8_sineOf 0 (Int32.ofNat k.1) = some (sSin (Int32.ofNat k.1)) ∧ F_X10_sineOf 0 (Int32.ofNat k.1) = some (sSin (Int32.ofNat k.1)) ∧ -1000 ≤ (sSin (Int32.ofNat k.1)).toInt ∧ (sSin (Int32.ofNat k.1)).toInt ≤ 1000 := by decide +kernel
theorem sin_at {a : Int32} (h0 : 0 ≤ a.toInt) (h1 : a.toInt < 360) (n : Nat) : F_X8_sineOf n a = some (sSin a) ∧ F_X10_sineOf n a = some (sSin a) ∧ -1000 ≤ (sSin a).toInt ∧ (sSin a).toInt ≤ 1000 := by
  have := sin_all ⟨a.toInt.toNat, by omega⟩
  rw [i_on h0] at this
  exact this
theorem one_all : ∀ k : Fin 1024, k.1 ≠ 0 → one (Int32.ofNat k.1) = one (Int32.ofNat k.1 &&& (Int32.ofNat k.1 - 1)) + 1 ∧ (Int32.ofNat k.1 &&& (Int32.ofNat k.1 - 1)).toInt.toNat < k.1 ∧ 0 ≤ (Int32.ofNat k.1 &&& (Int32.ofNat k.1 - 1)).toInt ∧ 1 ≤ (one (Int32.ofNat k.1)).toInt ∧ (one (Int32.ofNat k.1)).toInt ≤ 10 := by decide +kernel
theorem one_b {v : Int32} (h0 : 0 < v.toInt) (h1 : v.toInt < 1024) : 1 ≤ (one v).toInt ∧ (one v).toInt ≤ 10 := by
  have := one_all ⟨v.toInt.toNat, by omega⟩ (show v.toInt.toNat ≠ 0 by omega)
  rw [i_on (by omega)] at this
  exact this.2.2.2
theorem bitc_s (n : Nat) (v : Int32) : F_J6_bitCount_0f7a4 n v = some (one v) := rfl
theorem ones_l (n : Nat) (a0 : Int32) : ∀ (d : Nat) (j : Nat) (x v : Int32), 0 ≤ v.toInt → v.toInt < d → d ≤ 1024 → d ≤ j → L_X10_ones n a0 j 0 x v = some (x + one v)
  | 0, _, _, v, h0, h1, _, _ => by omega
  | d + 1, j, x, v, h0, h1, h2, h3 => by
    obtain ⟨j, rfl⟩ : ∃ i, j = i + 1 := ⟨j - 1, by omega⟩
    rw [L_X10_ones_e0]
    by_cases hv : v = 0
    · subst hv
      rw [if_pos rfl]
      show some x = some (x + 0)
      simp
    · rw [if_neg hv]
      have hne : v.toInt ≠ 0 := fun q => hv (i_eq.mpr (by rw [q]; rfl))
      have q := one_all ⟨v.toInt.toNat, by omega⟩ (show v.toInt.toNat ≠ 0 by omega)
      simp only [i_on h0] at q
      rw [show (v &&& (v - (1 : Int32))) = (v &&& (v - 1)) from rfl, ones_l n a0 d j _ _ q.2.2.1 (by omega) (by omega) (by omega), q.1, Int32.add_assoc, Int32.add_comm 1]
theorem ones_s {n : Nat} (hn : 1024 ≤ n) {v : Int32} (h0 : 0 ≤ v.toInt) (h1 : v.toInt < 1024) : F_X10_ones n v = some (one v) := by
  unfold F_X10_ones
  rw [ones_l n v 1024 n 0 v h0 h1 (by omega) hn]
  simp
theorem root4 {n : Nat} (hn : 14 ≤ n) (v : Int32) : F_X4_root n v = some (rt v) := by
  obtain ⟨m, rfl⟩ : ∃ m, n = m + 14 := ⟨n - 14, by omega⟩
  unfold F_X4_root
  have st : ∀ (j : Nat) (r b c : Int32), ¬ b ≤ 0 → b >>> ((1 : Int32) &&& 31) = c → L_X4_root (m + 14) v (j + 1) 0 r b = L_X4_root (m + 14) v j 0 (rtS v r b) c := by
    intro j r b c h1 h2
    rw [L_X4_root_e0, if_neg h1, h2]
    unfold rtS
    by_cases h : v < (r + b) * (r + b)
    · rw [if_pos h, if_pos h]
    · rw [if_neg h, if_neg h]
  rw [st (m + 13) 0 2048 1024 (by decide) (by decide), st (m + 12) _ 1024 512 (by decide) (by decide), st (m + 11) _ 512 256 (by decide) (by decide), st (m + 10) _ 256 128 (by decide) (by decide), st (m + 9) _ 128 64 (by decide) (by decide), st (m + 8) _ 64 32 (by decide) (by decide), st (m + 7) _ 32 16 (by decide) (by decide), st (m + 6) _ 16 8 (by decide) (by decide), st (m + 5) _ 8 4 (by decide) (by decide), st (m + 4) _ 4 2 (by decide) (by decide), st (m + 3) _ 2 1 (by decide) (by decide), st (m + 2) _ 1 0 (by decide) (by decide), L_X4_root_e0, if_pos (by decide)]
  rfl
theorem root10 {n : Nat} (hn : 14 ≤ n) (v : Int32) : F_X10_root n v = some (rt v) := by
  obtain ⟨m, rfl⟩ : ∃ m, n = m + 14 := ⟨n - 14, by omega⟩
  unfold F_X10_root
  have st : ∀ (j : Nat) (r b c : Int32), ¬ b ≤ 0 → b / (2 : Int32) = c → L_X10_root (m + 14) v (j + 1) 0 r b = L_X10_root (m + 14) v j 0 (rtS v r b) c := by
    intro j r b c h1 h2
    rw [L_X10_root_e0, if_neg h1, h2]
    unfold rtS
    by_cases h : v < (r + b) * (r + b)
    · rw [if_pos h, if_pos h]
    · rw [if_neg h, if_neg h]
  rw [st (m + 13) 0 2048 1024 (by decide) (by decide), st (m + 12) _ 1024 512 (by decide) (by decide), st (m + 11) _ 512 256 (by decide) (by decide), st (m + 10) _ 256 128 (by decide) (by decide), st (m + 9) _ 128 64 (by decide) (by decide), st (m + 8) _ 64 32 (by decide) (by decide), st (m + 7) _ 32 16 (by decide) (by decide), st (m + 6) _ 16 8 (by decide) (by decide), st (m + 5) _ 8 4 (by decide) (by decide), st (m + 4) _ 4 2 (by decide) (by decide), st (m + 3) _ 2 1 (by decide) (by decide), st (m + 2) _ 1 0 (by decide) (by decide), L_X10_root_e0, if_pos (by decide)]
  rfl
/-! the reference's table of lengths -/
def tab (i : Nat) : Int32 := dst (i % 32) (i / 32)
/-- the table is laid -/
def kt (K : gI) : gI := fun o i => if o = 162 ∧ i < 640 then tab i else if o = 153 ∧ i = 24 then 1 else K o i
def Tq (K K' : gI) : Prop := K' = K ∨ K' = kt K
def TV (K : gI) : Prop := K 153 24 = 0 ∨ K = kt K
theorem kt_kt (K : gI) : kt (kt K) = kt K := by
  funext o i
  by_cases h : o = 162 ∧ i < 640
  · simp only [kt, if_pos h]
  · by_cases h2 : o = 153 ∧ i = 24
    · simp only [kt, if_neg h, if_pos h2]
    · simp only [kt, if_neg h, if_neg h2]
theorem Tq.rfl' {K : gI} : Tq K K := Or.inl rfl
theorem Tq.trans {K K' K'' : gI} (h : Tq K K') (h' : Tq K' K'') : Tq K K'' := by
  rcases h with rfl | rfl
  · exact h'
  · rcases h' with rfl | rfl
    · exact Or.inr rfl
    · exact Or.inr (kt_kt K)
theorem kt_get {K : gI} {o i : Nat} (h : o ≠ 162) (h2 : o ≠ 153 ∨ i ≠ 24) : kt K o i = K o i := by
  unfold kt
  rw [if_neg (fun q => h q.1), if_neg (by omega)]
theorem Tq.get {K K' : gI} (h : Tq K K') {o i : Nat} (h1 : o ≠ 162) (h2 : o ≠ 153 ∨ i ≠ 24) : K' o i = K o i := by
  rcases h with rfl | rfl
  · rfl
  · exact kt_get h1 h2
theorem Tq.tv {K K' : gI} (h : Tq K K') (hv : TV K) : TV K' := by
  rcases h with rfl | rfl
  · exact hv
  · exact Or.inr (kt_kt K).symm
theorem dst_ix {dx dy : Nat} (hx : dx < 32) (hy : dy < 20) : tab (32 * dy + dx) = dst dx dy := by
  unfold tab
  rw [show (32 * dy + dx) % 32 = dx by omega, show (32 * dy + dx) / 32 = dy by omega]
theorem far_l (n : Nat) (hn : 14 ≤ n) (a1 a2 : Int32) : ∀ (d k j : Nat) (K : gI), k + d = 640 → d < j → L_X10_far n a1 a2 j 0 (Int32.ofNat k) K = gv (32 * jabs a2 + jabs a1) 640 (some ((sI (fun o i => if o = 162 ∧ k ≤ i ∧ i < 640 then tab i else K o i) 153 24 1) 162 (32 * jabs a2 + jabs a1).toNatClampNeg, sI (fun o i => if o = 162 ∧ k ≤ i ∧ i < 640 then tab i else K o i) 153 24 1))
  | 0, k, j, K, hk, hj => by
    obtain ⟨j, rfl⟩ : ∃ i, j = i + 1 := ⟨j - 1, by omega⟩
    obtain rfl : k = 640 := by omega
    rw [L_X10_far_e0, if_pos (by decide)]
    have : (fun o i => if o = 162 ∧ 640 ≤ i ∧ i < 640 then tab i else K o i) = K := by
      funext o i; rw [if_neg (by omega)]
    rw [this]
  | d + 1, k, j, K, hk, hj => by
    obtain ⟨j, rfl⟩ : ∃ i, j = i + 1 := ⟨j - 1, by omega⟩
    rw [L_X10_far_e0, if_neg (by rw [show (640 : Int32) = Int32.ofNat 640 from rfl, i_ole (by omega) (by omega)]; omega), root10 hn, bd_s, gv_o (by omega), show (1 : Int32) = Int32.ofNat 1 from rfl, i_oadd, far_l n hn a1 a2 d (k + 1) j _ (by omega) (by omega)]
    have e : (10000 : Int32) * ((Int32.ofNat k - Int32.ofNat k / 32 * 32) * (Int32.ofNat k - Int32.ofNat k / 32 * 32) + Int32.ofNat k / 32 * (Int32.ofNat k / 32)) = Int32.ofNat (10000 * (k % 32 * (k % 32) + k / 32 * (k / 32))) := by
      rw [show (32 : Int32) = Int32.ofNat 32 from rfl, i_omod (by omega) (by omega), i_odiv (by omega) (by omega), i_omul, i_omul, i_oadd, show (10000 : Int32) = Int32.ofNat 10000 from rfl, i_omul]
    rw [e, i_tno (by omega)]
    have e2 : (fun o i => if o = 162 ∧ k + 1 ≤ i ∧ i < 640 then tab i else sI K (153 + 9) k (rt (Int32.ofNat (10000 * (k % 32 * (k % 32) + k / 32 * (k / 32))))) o i) = (fun o i => if o = 162 ∧ k ≤ i ∧ i < 640 then tab i else K o i) := by
      funext o i
      rw [sI_get]
      by_cases h : o = 162 ∧ k ≤ i ∧ i < 640
      · rw [if_pos h]
        by_cases h2 : i = k
        · subst h2
          rw [if_neg (by omega), if_pos ⟨by omega, rfl⟩]; rfl
        · rw [if_pos (by omega)]
      · rw [if_neg h, if_neg (by omega), if_neg (by omega)]
    rw [e2]
    rfl
theorem far_s {n : Nat} (hn : 1000 ≤ n) {K : gI} (hv : TV K) {a1 a2 : Int32} (h1 : a1.toInt.natAbs < 32) (h2 : a2.toInt.natAbs < 20) : ∃ K', F_X10_far n K a1 a2 = some (far a1 a2, K') ∧ Tq K K' := by
  have j1 := jabs_i (x := a1) (by omega)
  have j2 := jabs_i (x := a2) (by omega)
  have e1 : jabs a1 = Int32.ofNat a1.toInt.natAbs := i_eq.mpr (by rw [j1, i_of (by omega)])
  have e2 : jabs a2 = Int32.ofNat a2.toInt.natAbs := i_eq.mpr (by rw [j2, i_of (by omega)])
  have ix : (32 : Int32) * jabs a2 + jabs a1 = Int32.ofNat (32 * a2.toInt.natAbs + a1.toInt.natAbs) := by
    rw [e1, e2, show (32 : Int32) = Int32.ofNat 32 from rfl, i_omul, i_oadd]
  have fe : far a1 a2 = tab (32 * a2.toInt.natAbs + a1.toInt.natAbs) := by
    rw [dst_ix h1 h2]; unfold far; rw [e1, e2, i_tno (by omega), i_tno (by omega)]
  refine ⟨kt K, ?_, Or.inr rfl⟩
  unfold F_X10_far
  by_cases h : K 153 24 = 0
  · rw [if_pos h]
    have q := far_l n (by omega) a1 a2 640 0 n K rfl (by omega)
    rw [show (Int32.ofNat 0) = (0 : Int32) from rfl] at q
    rw [q, ix, gv_o (by omega), i_tno (by omega), fe]
    have e : sI (fun o i => if o = 162 ∧ 0 ≤ i ∧ i < 640 then tab i else K o i) 153 24 1 = kt K := by
      funext o i
      rw [sI_get]
      unfold kt
      by_cases h5 : o = 162 ∧ i < 640
      · rw [if_pos h5, if_neg (by omega), if_pos (by omega)]
      · rw [if_neg h5]
        by_cases h6 : o = 153 ∧ i = 24
        · rw [if_pos h6, if_pos h6]
        · rw [if_neg h6, if_neg h6, if_neg (by omega)]
    rw [e]
    have : kt K 162 (32 * a2.toInt.natAbs + a1.toInt.natAbs) = tab (32 * a2.toInt.natAbs + a1.toInt.natAbs) := by
      unfold kt; rw [if_pos ⟨rfl, by omega⟩]
    rw [this]
  · rw [if_neg h]
    rcases hv with hv | hv
    · exact absurd hv h
    · rw [ix, gv_o (by omega), i_tno (by omega), fe]
      have e : sI K 153 24 1 = kt K := by
        funext o i
        rw [sI_get, ← hv]
        by_cases h6 : o = 153 ∧ i = 24
        · rw [if_pos h6, hv]; unfold kt; rw [if_neg (by omega), if_pos h6]
        · rw [if_neg h6]
      rw [e]
      have : kt K (153 + 9) (32 * a2.toInt.natAbs + a1.toInt.natAbs) = tab (32 * a2.toInt.natAbs + a1.toInt.natAbs) := by
        unfold kt; rw [if_pos ⟨rfl, by omega⟩]
      rw [this]
/-- the program's table of lengths is laid -/
def RU (I : gI) : Prop := ∀ x y, x < 32 → y < 20 → I 94 (20 * x + y) = dst x y
theorem btw_s (n : Nat) {I : gI} (hr : RU I) {a1 a2 : Int32} (h1 : a1.toInt.natAbs < 32) (h2 : a2.toInt.natAbs < 20) : F_X4_between n I a1 a2 = some (far a1 a2) := by
  have j1 := jabs_i (x := a1) (by omega)
  have j2 := jabs_i (x := a2) (by omega)
  have e1 : jabs a1 = Int32.ofNat a1.toInt.natAbs := i_eq.mpr (by rw [j1, i_of (by omega)])
  have e2 : jabs a2 = Int32.ofNat a2.toInt.natAbs := i_eq.mpr (by rw [j2, i_of (by omega)])
  have ix : jabs a1 * (20 : Int32) + jabs a2 = Int32.ofNat (20 * a1.toInt.natAbs + a2.toInt.natAbs) := by
    rw [e1, e2, show (20 : Int32) = Int32.ofNat 20 from rfl, i_omul, i_oadd, Nat.mul_comm]
  unfold F_X4_between
  rw [ix, gv_o (by omega), i_tno (by omega)]
  show some (I 94 _) = _
  rw [hr _ _ h1 h2]
  unfold far
  rw [e1, e2, i_tno (by omega), i_tno (by omega)]
