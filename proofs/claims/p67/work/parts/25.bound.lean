/-! HOW GREAT A WAVE IS -/
theorem dv_b {a b : Int32} {M : Nat} (hb : 0 < b.toInt) (h : a.toInt.natAbs ≤ M * b.toInt.toNat) : (a / b).toInt.natAbs ≤ M := by
  rw [i_div (Or.inr (by omega)), Int.natAbs_tdiv]
  have e : b.toInt.natAbs = b.toInt.toNat := by omega
  show a.toInt.natAbs / b.toInt.natAbs ≤ M
  rw [e]
  exact Nat.div_le_of_le_mul (by rw [Nat.mul_comm]; exact h)
theorem mu_e {a b : Int32} {A B : Nat} (ha : a.toInt.natAbs ≤ A) (hb : b.toInt.natAbs ≤ B) (h : A * B < 2147483648) : (a * b).toInt.natAbs = a.toInt.natAbs * b.toInt.natAbs := by
  have h1 : (a.toInt * b.toInt).natAbs = a.toInt.natAbs * b.toInt.natAbs := Int.natAbs_mul _ _
  have h2 : a.toInt.natAbs * b.toInt.natAbs ≤ A * B := Nat.mul_le_mul ha hb
  rw [i_mul (by omega) (by omega), h1]
theorem mu_b {a b : Int32} {A B : Nat} (ha : a.toInt.natAbs ≤ A) (hb : b.toInt.natAbs ≤ B) (h : A * B < 2147483648) : (a * b).toInt.natAbs ≤ A * B := by
  rw [mu_e ha hb h]; exact Nat.mul_le_mul ha hb
theorem ad_b {a b : Int32} {A B : Nat} (ha : a.toInt.natAbs ≤ A) (hb : b.toInt.natAbs ≤ B) (h : A + B < 2147483648) : (a + b).toInt.natAbs ≤ A + B := by
  rw [i_add (by omega) (by omega)]; omega
theorem sEmit_b {p : gP} (hp : PV p) {k : Nat} (hk : k < (p 4).toInt.toNat) {amp : Int32} (ha : 0 ≤ amp.toInt ∧ amp.toInt ≤ 999) (e : Int32) : (sEmit p k amp e).toInt.natAbs ≤ 999 := by
  have hs := hp.srt k hk
  have hf := hp.frm k hk
  have hu := hp.unt k hk
  unfold sEmit
  have z : (0 : Int32).toInt.natAbs ≤ 999 := by decide
  by_cases h1 : e < p (13 + k)
  · rw [if_pos h1]; exact z
  rw [if_neg h1]
  by_cases h2 : p (17 + k) < e
  · rw [if_pos h2]; exact z
  rw [if_neg h2]
  rw [i_lt] at h1 h2
  cases sCutOff p k e
  · rw [if_neg (show ¬ (false = true) by decide)]
    by_cases h3 : p (21 + k) = 1
    · rw [if_pos h3]
      by_cases h5 : p (25 + k) ≤ md (e - p (13 + k)) (p (25 + k) + p (29 + k))
      · rw [if_pos h5]; exact z
      · rw [if_neg h5]; omega
    · rw [if_neg h3]
      by_cases h4 : p (21 + k) = 2
      · rw [if_pos h4]
        rcases hs with hs | ⟨hs, _⟩ | ⟨_, q1, q2⟩
        · rw [hs] at h4; exact absurd h4 (by decide)
        · rw [hs] at h4; exact absurd h4 (by decide)
        · have e1 : (e - p (13 + k)).toInt = e.toInt - (p (13 + k)).toInt := i_sub (by omega) (by omega)
          have e2 : (e - p (13 + k) + 1).toInt = e.toInt - (p (13 + k)).toInt + 1 := by rw [i_add, e1, ii_1] <;> rw [e1, ii_1] <;> omega
          have e3 : (jmin (e - p (13 + k) + 1) (p (25 + k))).toInt.natAbs ≤ (p (25 + k)).toInt.toNat := by rw [jmin_i, e2]; omega
          refine dv_b (by omega) ?_
          refine mu_b (B := (p (25 + k)).toInt.toNat) (by omega) e3 ?_
          have : 999 * (p (25 + k)).toInt.toNat ≤ 999 * 99 := Nat.mul_le_mul_left _ (by omega)
          omega
      · rw [if_neg h4]; omega
  · rw [if_pos rfl]; exact z
theorem sVal_b {p : gP} {k : Nat} {a : Int32} (h0 : 0 ≤ a.toInt) (h1 : a.toInt < 360) : (sVal p k a).toInt.natAbs ≤ 1000 := by
  unfold sVal
  by_cases h2 : p (37 + k) = 1
  · rw [if_pos h2]
    by_cases h3 : (180 : Int32) ≤ a
    · rw [if_pos h3]; decide
    · rw [if_neg h3]; decide
  · rw [if_neg h2]
    by_cases h3 : p (37 + k) = 2
    · rw [if_pos h3]
      have c1 : (1000 : Int32).toInt = 1000 := rfl
      have c2 : (180 : Int32).toInt = 180 := rfl
      have e1 : (a * 1000).toInt = a.toInt * 1000 := by rw [i_mul, c1] <;> rw [c1] <;> omega
      have e2 : (a * 1000 / 180).toInt = (a.toInt * 1000).tdiv 180 := by rw [i_div (Or.inr (by decide)), e1, c2]
      have e3 : (a.toInt * 1000).tdiv 180 = (a.toInt * 1000) / 180 := Int.tdiv_eq_ediv_of_nonneg (by omega)
      rw [i_sub, e2, e3, c1] <;> (try rw [e2, e3, c1]) <;> omega
    · rw [if_neg h3]
      have := (sin_at h0 h1 0).2.2
      omega
theorem sBrt_b {p : gP} (hp : PV p) {k : Nat} (hk : k < (p 4).toInt.toNat) {amp : Int32} (ha : 0 ≤ amp.toInt ∧ amp.toInt ≤ 999) (ph : Int32) {way : Int32} (hw0 : 0 ≤ way.toInt) (hw1 : way.toInt ≤ 8190) (t : Int32) : (sBrt p k amp ph way t).toInt.natAbs ≤ 999 := by
  have hf := hp.f
  have he := sEmit_b hp hk ha (t - sDel p k way)
  have hg := fm_b (ph + 360 * t / p (9 + k) - 360 * way / p (5 + k))
  have hv := sVal_b (p := p) (k := k) (a := sAng p k ph way t) hg.1 hg.2
  have hd : (sFad p (sEmit p k amp (t - sDel p k way)) way).toInt.natAbs ≤ 999 := by
    unfold sFad
    by_cases h2 : p 2 ≤ 0
    · rw [if_pos h2]; exact he
    · rw [if_neg h2]
      rw [i_le, ii_0] at h2
      have e1 : (p 2 + way).toInt = (p 2).toInt + way.toInt := i_add (by omega) (by omega)
      refine dv_b (by omega) ?_
      have := mu_b (A := 999) (B := (p 2).toInt.toNat) he (b := p 2) (by omega) (by omega)
      omega
  unfold sBrt
  refine dv_b (by decide) ?_
  have := mu_b hd hv (by decide)
  exact this
theorem sMir_b {p s : gP} (hp : PV p) (hv : SV p s) {k : Nat} (hk : k < (p 4).toInt.toNat) {side : Nat} (hs : side < 4) (x y t : Int32) : (sMir p s k side x y t).toInt.natAbs ≤ 999 := by
  have hm := hp.mir side hs
  unfold sMir
  by_cases h : p (33 + side) = 0
  · rw [if_pos h]; decide
  · rw [if_neg h]
    have hb := far_b (x - sImX p side (sCol p s k t)) (y - sImY p side (sRow p s k t))
    have h1 := sBrt_b hp hk (hv.amp k hk) (s (10 + k)) hb.1 (by omega) t
    refine dv_b (by decide) ?_
    have := mu_b (B := 100) h1 (b := p (33 + side)) (by omega) (by decide)
    exact this
theorem sPart_b {p s : gP} (hp : PV p) (hv : SV p s) {k : Nat} (hk : k < (p 4).toInt.toNat) (x y t : Int32) : (sPart p s k x y t).toInt.natAbs ≤ 9990 := by
  have hh := hp.h
  have ho := hv.o
  unfold sPart
  have z : (0 : Int32).toInt.natAbs ≤ 9990 := by decide
  by_cases h1 : s (2 + k) = 0
  · rw [if_pos h1]; exact z
  rw [if_neg h1]
  cases sShut p s x y
  · rw [if_neg (show ¬ (false = true) by decide)]
    cases sCut p (sCol p s k t) x
    · rw [if_neg (show ¬ (false = true) by decide)]
      have hb := far_b (x - sCol p s k t) (y - sRow p s k t)
      have b0 := sBrt_b hp hk (hv.amp k hk) (s (10 + k)) hb.1 (by omega) t
      have m0 := sMir_b hp hv hk (side := 0) (by decide) x y t
      have m1 := sMir_b hp hv hk (side := 1) (by decide) x y t
      have m2 := sMir_b hp hv hk (side := 2) (by decide) x y t
      have m3 := sMir_b hp hv hk (side := 3) (by decide) x y t
      have := ad_b (ad_b (ad_b (ad_b (ad_b (a := 0) (A := 0) (by decide) m0 (by decide)) m1 (by decide)) m2 (by decide)) m3 (by decide)) b0 (by decide)
      omega
    · rw [if_pos rfl]
      by_cases h5 : s 1 = 0
      · rw [if_pos h5]; exact z
      rw [if_neg h5]
      have ho1 : (s 1).toInt ≠ 0 := fun q => h5 (i_eq.mpr (by rw [q]; rfl))
      have hone := one_b (v := s 1) (by omega) (by omega)
      refine dv_b (by omega) ?_
      have q := lp_inv (g := fun r a => if sOpen s (Int32.ofNat r) then a + sBrt p k (s (6 + k)) (s (10 + k)) (sThru p (sCol p s k t) (sRow p s k t) x y (Int32.ofNat r)) t else a) (fun i a => i ≤ 10 → a.toInt.natAbs ≤ 999 * i) (p 1).toNatClampNeg 0 0 (fun _ => by decide) (fun i a h1 h2 h3 h4 => by
        have h3 := h3 (by omega)
        cases sOpen s (Int32.ofNat i)
        · rw [if_neg (show ¬ (false = true) by decide)]; omega
        · rw [if_pos rfl]
          have hb := sThru_b p (sCol p s k t) (sRow p s k t) x y (Int32.ofNat i)
          have b0 := sBrt_b hp hk (hv.amp k hk) (s (10 + k)) hb.1 hb.2 t
          have := ad_b h3 b0 (by omega)
          omega)
      have q := q (by rw [i_tn]; omega)
      rw [i_tn] at q
      rw [i_tn]
      have h10 : 9990 * 1 ≤ 9990 * (one (s 1)).toInt.toNat := Nat.mul_le_mul_left _ (by omega)
      omega
  · rw [if_pos rfl]; exact z
theorem sWave_b {p s : gP} (hp : PV p) (hv : SV p s) (x y t : Int32) : (sWave p s x y t).toInt.natAbs ≤ 319680 := by
  have h4 := hp.c
  have h3 := hp.sh
  unfold sWave
  have q1 := lp_inv (g := fun k a => a + sPart p s k x y t) (fun i a => i ≤ 4 → a.toInt.natAbs ≤ 9990 * i) (p 4).toNatClampNeg 0 0 (fun _ => by decide) (fun i a h1 h2 h3 h4 => by
    have h3 := h3 (by omega)
    rw [i_tn] at h2
    have b0 := sPart_b hp hv (k := i) (by omega) x y t
    have := ad_b h3 b0 (by omega)
    omega)
  have q1 := q1 (by rw [i_tn]; omega)
  have q1 : (lp (fun k a => a + sPart p s k x y t) (p 4).toNatClampNeg 0 0).toInt.natAbs ≤ 39960 := by
    rw [i_tn] at q1 ⊢; omega
  have q2 := lp_inv (g := fun i a => if sHold p i x y then a * p (61 + 5 * i + 4) / 100 else a) (fun i a => a.toInt.natAbs ≤ (if i = 0 then 39960 else if i = 1 then 79920 else if i = 2 then 159840 else 319680)) (p 60).toNatClampNeg 0 _ (by rw [if_pos rfl]; exact q1) (fun i a h1 h2 h3 => by
    rw [i_tn] at h2
    have hpc := hp.pct i (by omega)
    cases sHold p i x y
    · rw [if_neg (show ¬ (false = true) by decide)]
      rcases (show i = 0 ∨ i = 1 ∨ i = 2 by omega) with rfl | rfl | rfl <;> simp at h3 ⊢ <;> omega
    · rw [if_pos rfl]
      refine dv_b (by decide) ?_
      rcases (show i = 0 ∨ i = 1 ∨ i = 2 by omega) with rfl | rfl | rfl
      · have := mu_b (A := 39960) (B := 200) (by simpa using h3) (b := p (61 + 5 * 0 + 4)) (by omega) (by decide)
        exact this
      · have := mu_b (A := 79920) (B := 200) (by simpa using h3) (b := p (61 + 5 * 1 + 4)) (by omega) (by decide)
        exact this
      · have := mu_b (A := 159840) (B := 200) (by simpa using h3) (b := p (61 + 5 * 2 + 4)) (by omega) (by decide)
        exact this)
  refine Nat.le_trans q2 ?_
  repeat' split
  all_goals omega
theorem l_add {a b : Int64} (h1 : -9223372036854775808 ≤ a.toInt + b.toInt) (h2 : a.toInt + b.toInt < 9223372036854775808) : (a + b).toInt = a.toInt + b.toInt := by
  rw [Int64.toInt_add]; exact Int.bmod_eq_of_le (by omega) (by omega)
theorem l_mul {a b : Int64} (h1 : -9223372036854775808 ≤ a.toInt * b.toInt) (h2 : a.toInt * b.toInt < 9223372036854775808) : (a * b).toInt = a.toInt * b.toInt := by
  rw [Int64.toInt_mul]; exact Int.bmod_eq_of_le (by omega) (by omega)
theorem sEner_b {p s : gP} (hp : PV p) (hv : SV p s) (x y : Int32) {m : Int32} (hm : m.toInt ≤ 200) : 0 ≤ (sEner p s x y m).toInt ∧ (sEner p s x y m).toInt ≤ 20439060480000 := by
  unfold sEner
  have q := lp_inv (g := fun i a => a + (sWave p s x y (s 0 + Int32.ofNat i)).toInt64 * (sWave p s x y (s 0 + Int32.ofNat i)).toInt64) (fun i a => i ≤ 200 → 0 ≤ a.toInt ∧ a.toInt ≤ 102195302400 * i) m.toNatClampNeg 0 0 (fun _ => by decide) (fun i a h1 h2 h3 h4 => by
    have h3 := h3 (by omega)
    have hb := sWave_b hp hv x y (s 0 + Int32.ofNat i)
    have e : (sWave p s x y (s 0 + Int32.ofNat i)).toInt64.toInt = (sWave p s x y (s 0 + Int32.ofNat i)).toInt := Int32.toInt_toInt64 _
    have e2 : (sWave p s x y (s 0 + Int32.ofNat i)).toInt * (sWave p s x y (s 0 + Int32.ofNat i)).toInt = (((sWave p s x y (s 0 + Int32.ofNat i)).toInt.natAbs * (sWave p s x y (s 0 + Int32.ofNat i)).toInt.natAbs : Nat) : Int) := by
      rw [← Int.natAbs_mul_self]
    have e3 : (sWave p s x y (s 0 + Int32.ofNat i)).toInt.natAbs * (sWave p s x y (s 0 + Int32.ofNat i)).toInt.natAbs ≤ 319680 * 319680 := Nat.mul_le_mul hb hb
    have e4 : ((sWave p s x y (s 0 + Int32.ofNat i)).toInt64 * (sWave p s x y (s 0 + Int32.ofNat i)).toInt64).toInt = (((sWave p s x y (s 0 + Int32.ofNat i)).toInt.natAbs * (sWave p s x y (s 0 + Int32.ofNat i)).toInt.natAbs : Nat) : Int) := by
      rw [l_mul, e, e2] <;> rw [e, e2] <;> omega
    rw [l_add, e4] <;> (try rw [e4]) <;> omega)
  have q := q (by rw [i_tn]; omega)
  rw [i_tn] at q ⊢
  omega

