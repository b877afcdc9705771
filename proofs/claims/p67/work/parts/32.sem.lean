/-! WHAT THE SPEC SAYS OF ITSELF: bounds of parts, paths, energies -/
theorem na_0 (M : Nat) : (0 : Int32).toInt.natAbs ≤ M := Nat.zero_le _
theorem sEmit_a {p : gP} (hp : PV p) {k : Nat} (hk : k < (p 4).toInt.toNat) {amp : Int32} (ha : 0 ≤ amp.toInt ∧ amp.toInt ≤ 999) (e : Int32) : (sEmit p k amp e).toInt.natAbs ≤ amp.toInt.toNat := by
  have hs := hp.srt k hk
  have hf := hp.frm k hk
  have hu := hp.unt k hk
  unfold sEmit
  by_cases h1 : e < p (13 + k)
  · rw [if_pos h1]; exact na_0 _
  rw [if_neg h1]
  by_cases h2 : p (17 + k) < e
  · rw [if_pos h2]; exact na_0 _
  rw [if_neg h2]
  rw [i_lt] at h1 h2
  cases sCutOff p k e
  · rw [if_neg (show ¬ (false = true) by decide)]
    by_cases h3 : p (21 + k) = 1
    · rw [if_pos h3]
      by_cases h5 : p (25 + k) ≤ md (e - p (13 + k)) (p (25 + k) + p (29 + k))
      · rw [if_pos h5]; exact na_0 _
      · rw [if_neg h5]; omega
    · rw [if_neg h3]
      by_cases h4 : p (21 + k) = 2
      · rw [if_pos h4]
        rcases hs with hs | ⟨hs, _⟩ | ⟨_, q1, q2⟩
        · rw [hs] at h4; exact absurd h4 (by decide)
        · rw [hs] at h4; exact absurd h4 (by decide)
        · have e1 : (e - p (13 + k)).toInt = e.toInt - (p (13 + k)).toInt := i_sub (by omega) (by omega)
          have e2 : (e - p (13 + k) + 1).toInt = e.toInt - (p (13 + k)).toInt + 1 := by rw [i_add, e1, ii_1] <;> rw [e1, ii_1] <;> omega
          have e3 : (jmin (e - p (13 + k) + 1) (p (25 + k))).toInt.natAbs ≤ (p (25 + k)).toInt.toNat := by rw [jmin_i, e2]; omega
          refine dv_b (by omega) ?_
          refine mu_b (A := amp.toInt.toNat) (B := (p (25 + k)).toInt.toNat) (by omega) e3 ?_
          have : amp.toInt.toNat * (p (25 + k)).toInt.toNat ≤ 999 * 99 := Nat.mul_le_mul (by omega) (by omega)
          omega
      · rw [if_neg h4]; omega
  · rw [if_pos rfl]; exact na_0 _
theorem sBrt_a {p : gP} (hp : PV p) {k : Nat} (hk : k < (p 4).toInt.toNat) {amp : Int32} (ha : 0 ≤ amp.toInt ∧ amp.toInt ≤ 999) (ph : Int32) {way : Int32} (hw0 : 0 ≤ way.toInt) (hw1 : way.toInt ≤ 8190) (t : Int32) : (sBrt p k amp ph way t).toInt.natAbs ≤ amp.toInt.toNat := by
  have hf := hp.f
  have he := sEmit_a hp hk ha (t - sDel p k way)
  have hg := fm_b (ph + 360 * t / p (9 + k) - 360 * way / p (5 + k))
  have hv := sVal_b (p := p) (k := k) (a := sAng p k ph way t) hg.1 hg.2
  obtain ⟨M, hM⟩ : ∃ M, M = amp.toInt.toNat := ⟨_, rfl⟩
  rw [← hM] at he ⊢
  have hM9 : M ≤ 999 := by omega
  have hd : (sFad p (sEmit p k amp (t - sDel p k way)) way).toInt.natAbs ≤ M := by
    unfold sFad
    by_cases h2 : p 2 ≤ 0
    · rw [if_pos h2]; exact he
    · rw [if_neg h2]
      rw [i_le, ii_0] at h2
      have e1 : (p 2 + way).toInt = (p 2).toInt + way.toInt := i_add (by omega) (by omega)
      refine dv_b (by omega) ?_
      have h9 : M * (p 2).toInt.toNat ≤ 999 * 9999 := Nat.mul_le_mul hM9 (by omega)
      have := mu_b (A := M) (B := (p 2).toInt.toNat) he (b := p 2) (by omega) (by omega)
      have h10 : M * (p 2).toInt.toNat ≤ M * (p 2 + way).toInt.toNat := Nat.mul_le_mul_left _ (by omega)
      omega
  unfold sBrt
  refine dv_b (by decide) ?_
  have h9 : M * 1000 ≤ 999 * 1000 := Nat.mul_le_mul_right _ hM9
  have := mu_b hd hv (by omega)
  exact this
theorem sMir_a {p s : gP} (hp : PV p) (hv : SV p s) {k : Nat} (hk : k < (p 4).toInt.toNat) {side : Nat} (hs : side < 4) (x y t : Int32) : (sMir p s k side x y t).toInt.natAbs ≤ (s (6 + k)).toInt.toNat := by
  have hm := hp.mir side hs
  have hA := hv.amp k hk
  unfold sMir
  by_cases h : p (33 + side) = 0
  · rw [if_pos h]; exact na_0 _
  · rw [if_neg h]
    have hb := far_b (x - sImX p side (sCol p s k t)) (y - sImY p side (sRow p s k t))
    have h1 := sBrt_a hp hk hA (s (10 + k)) hb.1 (by omega) t
    have h9 : (s (6 + k)).toInt.toNat * 100 ≤ 999 * 100 := Nat.mul_le_mul_right _ (by omega)
    refine dv_b (by decide) ?_
    have := mu_b (B := 100) h1 (b := p (33 + side)) (by omega) (by omega)
    exact this
/-- rows of the wall that are open -/
def opn (v : Int32) (r : Nat) : Bool := decide ((v >>> (Int32.ofNat r &&& 31)) &&& 1 = 1)
theorem opn_s (s : gP) (r : Nat) : sOpen s (Int32.ofNat r) = opn (s 1) r := rfl
theorem one_opn : ∀ v : Fin 1024, cB (opn (Int32.ofNat v.1)) 10 ≤ (one (Int32.ofNat v.1)).toInt.toNat := by decide +kernel
theorem cB_up {P : Nat → Bool} {a : Nat} : ∀ b, a ≤ b → cB P a ≤ cB P b
  | 0, h => by rw [show a = 0 by omega]; exact Nat.le_refl _
  | b + 1, h => by
    by_cases e : a = b + 1
    · rw [e]; exact Nat.le_refl _
    · have := cB_up (P := P) (a := a) b (by omega)
      show cB P a ≤ cB P b + _
      omega
theorem one_le {s : gP} {h : Nat} (ho : 0 ≤ (s 1).toInt ∧ (s 1).toInt < 1024) (hh : h ≤ 10) : cB (fun r => sOpen s (Int32.ofNat r)) h ≤ (one (s 1)).toInt.toNat := by
  have h1 := one_opn ⟨(s 1).toInt.toNat, by omega⟩
  dsimp only at h1
  rw [i_on ho.1] at h1
  exact Nat.le_trans (cB_up (P := opn (s 1)) 10 hh) h1
theorem sPart_a {p s : gP} (hp : PV p) (hv : SV p s) {k : Nat} (hk : k < (p 4).toInt.toNat) (x y t : Int32) : (sPart p s k x y t).toInt.natAbs ≤ 5 * (s (6 + k)).toInt.toNat ∧ (sCut p (sCol p s k t) x = true → (sPart p s k x y t).toInt.natAbs ≤ (s (6 + k)).toInt.toNat) := by
  have hA := hv.amp k hk
  have hh := hp.h
  have ho := hv.o
  obtain ⟨M, hM⟩ : ∃ M, M = (s (6 + k)).toInt.toNat := ⟨_, rfl⟩
  rw [← hM]
  have hM9 : M ≤ 999 := by omega
  unfold sPart
  by_cases h1 : s (2 + k) = 0
  · rw [if_pos h1]; exact ⟨na_0 _, fun _ => na_0 _⟩
  rw [if_neg h1]
  cases h2 : sShut p s x y with
  | true => rw [if_pos rfl]; exact ⟨na_0 _, fun _ => na_0 _⟩
  | false =>
    rw [if_neg (show ¬ (false = true) by decide)]
    cases h3 : sCut p (sCol p s k t) x with
    | true =>
      rw [if_pos rfl]
      have q : (if s 1 = 0 then (0 : Int32) else lp (fun r a => if sOpen s (Int32.ofNat r) then a + sBrt p k (s (6 + k)) (s (10 + k)) (sThru p (sCol p s k t) (sRow p s k t) x y (Int32.ofNat r)) t else a) (p 1).toNatClampNeg 0 0 / one (s 1)).toInt.natAbs ≤ M := by
        by_cases h5 : s 1 = 0
        · rw [if_pos h5]; exact na_0 _
        rw [if_neg h5]
        have ho1 : (s 1).toInt ≠ 0 := fun q => h5 (i_eq.mpr (by rw [q]; rfl))
        have hone := one_b (v := s 1) (by omega) (by omega)
        refine dv_b (by omega) ?_
        have L := lp_inv (g := fun r a => if sOpen s (Int32.ofNat r) then a + sBrt p k (s (6 + k)) (s (10 + k)) (sThru p (sCol p s k t) (sRow p s k t) x y (Int32.ofNat r)) t else a) (fun r (a : Int32) => a.toInt.natAbs ≤ M * cB (fun r => sOpen s (Int32.ofNat r)) r) (p 1).toNatClampNeg 0 0 (na_0 _) (fun r a _ hr ha => by
          have hr' : r < 10 := by rw [i_tn] at hr; omega
          cases h6 : sOpen s (Int32.ofNat r) with
          | false =>
            rw [if_neg (show ¬ (false = true) by decide)]
            show _ ≤ M * (cB (fun r => sOpen s (Int32.ofNat r)) r + if sOpen s (Int32.ofNat r) = true then 1 else 0)
            rw [h6, if_neg (show ¬ (false = true) by decide)]
            exact ha
          | true =>
            rw [if_pos rfl]
            have hb := sThru_b p (sCol p s k t) (sRow p s k t) x y (Int32.ofNat r)
            have h7 := sBrt_a hp hk hA (s (10 + k)) hb.1 hb.2 t
            rw [← hM] at h7
            have hc := cB_le (fun r => sOpen s (Int32.ofNat r)) r
            have h8 : M * cB (fun r => sOpen s (Int32.ofNat r)) r ≤ 999 * 10 := Nat.mul_le_mul hM9 (by omega)
            have h9 := ad_b ha h7 (by omega)
            show _ ≤ M * (cB (fun r => sOpen s (Int32.ofNat r)) r + if sOpen s (Int32.ofNat r) = true then 1 else 0)
            rw [h6, if_pos rfl, Nat.mul_succ]
            exact h9)
        rw [Nat.zero_add] at L
        have h9 := one_le (h := (p 1).toNatClampNeg) ho (by rw [i_tn]; omega)
        exact Nat.le_trans L (Nat.mul_le_mul_left _ h9)
      exact ⟨by omega, fun _ => q⟩
    | false =>
      rw [if_neg (show ¬ (false = true) by decide)]
      refine ⟨?_, fun q => by cases q⟩
      have m0 := sMir_a hp hv hk (side := 0) (by decide) x y t
      have m1 := sMir_a hp hv hk (side := 1) (by decide) x y t
      have m2 := sMir_a hp hv hk (side := 2) (by decide) x y t
      have m3 := sMir_a hp hv hk (side := 3) (by decide) x y t
      have hb := far_b (x - sCol p s k t) (y - sRow p s k t)
      have b := sBrt_a hp hk hA (s (10 + k)) hb.1 (by omega) t
      rw [← hM] at m0 m1 m2 m3 b
      rw [Int32.zero_add]
      have a1 := ad_b m0 m1 (by omega)
      have a2 := ad_b a1 m2 (by omega)
      have a3 := ad_b a2 m3 (by omega)
      have a4 := ad_b a3 b (by omega)
      omega
/-! paths -/
def sMin (p s : gP) (k : Nat) (x y t : Int32) : Int32 := lp (fun r best => if sOpen s (Int32.ofNat r) then (if best = -1 ∨ sThru p (sCol p s k t) (sRow p s k t) x y (Int32.ofNat r) < best then sThru p (sCol p s k t) (sRow p s k t) x y (Int32.ofNat r) else best) else best) (p 1).toNatClampNeg 0 (-1)
theorem sMin_i (p s : gP) (k : Nat) (x y t : Int32) : (sMin p s k x y t = -1 ∧ ∀ r, r < (p 1).toInt.toNat → sOpen s (Int32.ofNat r) = false) ∨ ((0 ≤ (sMin p s k x y t).toInt ∧ (sMin p s k x y t).toInt ≤ 8190) ∧ ∀ r, r < (p 1).toInt.toNat → sOpen s (Int32.ofNat r) = true → (sMin p s k x y t).toInt ≤ (sThru p (sCol p s k t) (sRow p s k t) x y (Int32.ofNat r)).toInt) := by
  have L := lp_inv (g := fun r best => if sOpen s (Int32.ofNat r) then (if best = -1 ∨ sThru p (sCol p s k t) (sRow p s k t) x y (Int32.ofNat r) < best then sThru p (sCol p s k t) (sRow p s k t) x y (Int32.ofNat r) else best) else best) (fun r (b : Int32) => (b = -1 ∧ ∀ r', r' < r → sOpen s (Int32.ofNat r') = false) ∨ ((0 ≤ b.toInt ∧ b.toInt ≤ 8190) ∧ ∀ r', r' < r → sOpen s (Int32.ofNat r') = true → b.toInt ≤ (sThru p (sCol p s k t) (sRow p s k t) x y (Int32.ofNat r')).toInt)) (p 1).toNatClampNeg 0 (-1) (Or.inl ⟨rfl, fun r' h => by omega⟩) (fun r b _ hr hb => by
    have ht := sThru_b p (sCol p s k t) (sRow p s k t) x y (Int32.ofNat r)
    cases h6 : sOpen s (Int32.ofNat r) with
    | false =>
      rw [if_neg (show ¬ (false = true) by decide)]
      rcases hb with ⟨h1, h2⟩ | ⟨h1, h2⟩
      · refine Or.inl ⟨h1, fun r' h => ?_⟩
        by_cases e : r' = r
        · rw [e]; exact h6
        · exact h2 r' (by omega)
      · refine Or.inr ⟨h1, fun r' h ho => ?_⟩
        by_cases e : r' = r
        · rw [e, h6] at ho; cases ho
        · exact h2 r' (by omega) ho
    | true =>
      rw [if_pos rfl]
      right
      by_cases h7 : b = -1 ∨ sThru p (sCol p s k t) (sRow p s k t) x y (Int32.ofNat r) < b
      · rw [if_pos h7]
        refine ⟨ht, fun r' h ho => ?_⟩
        by_cases e : r' = r
        · rw [e]; exact Int.le_refl _
        · rcases hb with ⟨h1, h2⟩ | ⟨h1, h2⟩
          · rw [h2 r' (by omega)] at ho; cases ho
          · have := h2 r' (by omega) ho
            rcases h7 with h7 | h7
            · rw [h7] at h1; exact absurd h1.1 (by decide)
            · rw [i_lt] at h7; omega
      · rw [if_neg h7]
        rcases hb with ⟨h1, h2⟩ | ⟨h1, h2⟩
        · exact absurd (Or.inl h1) h7
        · refine ⟨h1, fun r' h ho => ?_⟩
          by_cases e : r' = r
          · rw [e]
            have h8 : ¬ sThru p (sCol p s k t) (sRow p s k t) x y (Int32.ofNat r) < b := fun z => h7 (Or.inr z)
            rw [i_lt] at h8; omega
          · exact h2 r' (by omega) ho)
  rw [Nat.zero_add] at L
  exact L
theorem sShort_e (p s : gP) (k : Nat) (x y t : Int32) : sShort p s k x y t = if sShut p s x y then -1 else if sCut p (sCol p s k t) x then sMin p s k x y t else far (x - sCol p s k t) (y - sRow p s k t) := rfl
theorem m1_i : (-1 : Int32).toInt = -1 := rfl
/-- what is shortest, in numbers -/
theorem sShort_i (p s : gP) (k : Nat) (x y t : Int32) : (sShort p s k x y t = -1 ∧ sPart p s k x y t = 0) ∨ ((0 ≤ (sShort p s k x y t).toInt ∧ (sShort p s k x y t).toInt ≤ 8190) ∧ (sCut p (sCol p s k t) x = false → sShort p s k x y t = far (x - sCol p s k t) (y - sRow p s k t)) ∧ (sCut p (sCol p s k t) x = true → ∀ r, r < (p 1).toInt.toNat → sOpen s (Int32.ofNat r) = true → (sShort p s k x y t).toInt ≤ (sThru p (sCol p s k t) (sRow p s k t) x y (Int32.ofNat r)).toInt)) := by
  rw [sShort_e]
  cases h2 : sShut p s x y with
  | true =>
    left
    rw [if_pos rfl]
    refine ⟨rfl, ?_⟩
    unfold sPart
    by_cases h1 : s (2 + k) = 0
    · rw [if_pos h1]
    · rw [if_neg h1, h2, if_pos rfl]
  | false =>
    rw [if_neg (show ¬ (false = true) by decide)]
    cases h3 : sCut p (sCol p s k t) x with
    | true =>
      rw [if_pos rfl]
      rcases sMin_i p s k x y t with ⟨h4, h5⟩ | ⟨h4, h5⟩
      · left
        refine ⟨h4, ?_⟩
        unfold sPart
        by_cases h1 : s (2 + k) = 0
        · rw [if_pos h1]
        rw [if_neg h1, h2, if_neg (show ¬ (false = true) by decide), h3, if_pos rfl]
        by_cases h6 : s 1 = 0
        · rw [if_pos h6]
        rw [if_neg h6]
        have L := lp_inv (g := fun r a => if sOpen s (Int32.ofNat r) then a + sBrt p k (s (6 + k)) (s (10 + k)) (sThru p (sCol p s k t) (sRow p s k t) x y (Int32.ofNat r)) t else a) (fun _ (a : Int32) => a = 0) (p 1).toNatClampNeg 0 0 rfl (fun r a _ hr ha => by
          rw [h5 r (by rw [i_tn] at hr; omega), if_neg (show ¬ (false = true) by decide)]
          exact ha)
        rw [L]
        exact Int32.zero_div
      · exact Or.inr ⟨h4, fun q => (by cases q), fun _ => h5⟩
    | false =>
      rw [if_neg (show ¬ (false = true) by decide)]
      have := far_b (x - sCol p s k t) (y - sRow p s k t)
      exact Or.inr ⟨⟨this.1, by omega⟩, fun _ => rfl, fun q => by cases q⟩
theorem jabs_jabs (a : Int32) : jabs (jabs a) = jabs a := by
  unfold jabs
  by_cases h : 0 ≤ a
  · rw [if_pos h, if_pos h]
  · rw [if_neg h]
    by_cases h2 : 0 ≤ 0 - a
    · rw [if_pos h2]
    · rw [if_neg h2]
      have h3 : a = -2147483648 := by
        rw [i_le, ii_0] at h h2
        rw [i_eq]
        have h4 := i_lo a
        by_cases e : a.toInt = -2147483648
        · rw [e]; rfl
        · have : (0 - a).toInt = 0 - a.toInt := i_sub (by rw [ii_0]; omega) (by rw [ii_0]; have := i_hi a; omega)
          omega
      subst h3; decide
theorem far_jabs (a b : Int32) : far (jabs a) (jabs b) = far a b := by unfold far; rw [jabs_jabs, jabs_jabs]
theorem sDel_b {p : gP} (hp : PV p) {k : Nat} (hk : k < (p 4).toInt.toNat) {way : Int32} (h0 : 0 ≤ way.toInt) (h1 : way.toInt ≤ 8190) : 0 ≤ (sDel p k way).toInt ∧ (sDel p k way).toInt ≤ 810810 := by
  have hl := hp.len k hk
  have hq := hp.per k hk
  unfold sDel
  have h9 : way.toInt * (p (9 + k)).toInt ≤ 8190 * 99 := by
    have a := Int.mul_le_mul_of_nonneg_right h1 (show 0 ≤ (p (9 + k)).toInt by omega)
    have b := Int.mul_le_mul_of_nonneg_left hq.2 (show (0 : Int) ≤ 8190 by decide)
    omega
  have h8 : 0 ≤ way.toInt * (p (9 + k)).toInt := Int.mul_nonneg h0 (by omega)
  have em : (way * p (9 + k)).toInt = way.toInt * (p (9 + k)).toInt := i_mul (by omega) (by omega)
  rw [i_div (Or.inr (by omega)), em]
  refine ⟨Int.tdiv_nonneg h8 (by omega), ?_⟩
  rw [Int.tdiv_eq_ediv_of_nonneg h8]
  exact Int.le_trans (Int.ediv_le_self _ h8) (by omega)
theorem sArr_i {p s : gP} (hp : PV p) {k : Nat} (hk : k < (p 4).toInt.toNat) (x y : Int32) : (sShort p s k x y (s 0) = -1 → sArr p s k x y = -1) ∧ (0 ≤ (sShort p s k x y (s 0)).toInt → (p (13 + k)).toInt ≤ (sArr p s k x y).toInt) := by
  have hf := hp.frm k hk
  unfold sArr
  refine ⟨fun h => if_pos h, fun h => ?_⟩
  rcases sShort_i p s k x y (s 0) with ⟨h1, _⟩ | ⟨h1, _⟩
  · rw [h1] at h; exact absurd h (by decide)
  · rw [if_neg (fun q => by rw [q] at h; exact absurd h (by decide))]
    have := sDel_b hp hk h1.1 h1.2
    rw [i_add (by omega) (by omega)]; omega
theorem sPha_i (p s : gP) (k : Nat) (x y : Int32) : (sShort p s k x y (s 0) = -1 → sPha p s k x y = -1) ∧ (0 ≤ (sShort p s k x y (s 0)).toInt → 0 ≤ (sPha p s k x y).toInt ∧ (sPha p s k x y).toInt ≤ 359) := by
  unfold sPha
  refine ⟨fun h => if_pos h, fun h => ?_⟩
  rw [if_neg (fun q => by rw [q] at h; exact absurd h (by decide))]
  have := fm_b (s (10 + k) + 360 * s 0 / p (9 + k) - 360 * (sShort p s k x y (s 0)) / p (5 + k))
  unfold sAng
  omega
/-! energies -/
theorem sq_i {w : Int32} (hw : w.toInt.natAbs ≤ 319680) : (w.toInt64 * w.toInt64).toInt = w.toInt * w.toInt ∧ 0 ≤ w.toInt * w.toInt ∧ w.toInt * w.toInt ≤ 102195302400 ∧ (w.toInt * w.toInt = 0 ↔ w = 0) := by
  have e : w.toInt64.toInt = w.toInt := Int32.toInt_toInt64 w
  have h1 : 0 ≤ w.toInt * w.toInt := by
    rcases Int.le_total 0 w.toInt with h | h
    · exact Int.mul_nonneg h h
    · exact Int.mul_nonneg_of_nonpos_of_nonpos h h
  have h2 : w.toInt * w.toInt ≤ 102195302400 := by
    have a : w.toInt.natAbs * w.toInt.natAbs ≤ 319680 * 319680 := Nat.mul_le_mul hw hw
    have b : ((w.toInt.natAbs * w.toInt.natAbs : Nat) : Int) = w.toInt * w.toInt := Int.natAbs_mul_self
    omega
  refine ⟨by rw [l_mul (by rw [e]; omega) (by rw [e]; omega), e], h1, h2, ?_⟩
  rw [Int.mul_eq_zero]
  exact ⟨fun q => i_eq.mpr (q.elim id id), fun q => by rw [q]; exact Or.inl rfl⟩
theorem sEner_z {p s : gP} (hp : PV p) (hv : SV p s) (x y : Int32) {m : Int32} (hm : m.toInt ≤ 200) : (0 ≤ (sEner p s x y m).toInt ∧ (sEner p s x y m).toInt ≤ 20439060480000) ∧ (sEner p s x y m = 0 ↔ ∀ i, i < m.toInt.toNat → sWave p s x y (s 0 + Int32.ofNat i) = 0) := by
  have L := lp_inv (g := fun i (a : Int64) => a + (sWave p s x y (s 0 + Int32.ofNat i)).toInt64 * (sWave p s x y (s 0 + Int32.ofNat i)).toInt64) (fun i (a : Int64) => (0 ≤ a.toInt ∧ a.toInt ≤ 102195302400 * i) ∧ (a.toInt = 0 ↔ ∀ j, j < i → sWave p s x y (s 0 + Int32.ofNat j) = 0)) m.toNatClampNeg 0 0 ⟨⟨Int.le_refl _, by decide⟩, ⟨fun _ j h => by omega, fun _ => rfl⟩⟩ (fun i a _ hi ha => by
    have hi' : i < 200 := by rw [i_tn] at hi; omega
    have q := sq_i (sWave_b hp hv x y (s 0 + Int32.ofNat i))
    obtain ⟨⟨a1, a2⟩, a3⟩ := ha
    rw [l_add (by rw [q.1]; omega) (by rw [q.1]; omega), q.1]
    refine ⟨⟨by omega, by push_cast; omega⟩, ⟨fun h j hj => ?_, fun h => ?_⟩⟩
    · by_cases e : j = i
      · rw [e]; exact q.2.2.2.mp (by omega)
      · exact a3.mp (by omega) j (by omega)
    · have h1 := a3.mpr (fun j hj => h j (by omega))
      have h2 := q.2.2.2.mpr (h i (by omega))
      omega)
  rw [Nat.zero_add] at L
  obtain ⟨⟨l1, l2⟩, l3⟩ := L
  have e : (m.toNatClampNeg : Int) ≤ 200 := by rw [i_tn]; omega
  refine ⟨⟨l1, ?_⟩, ?_⟩
  · have : (102195302400 : Int) * m.toNatClampNeg ≤ 102195302400 * 200 := Int.mul_le_mul_of_nonneg_left e (by decide)
    exact Int.le_trans l2 (by omega)
  · rw [← Int64.toInt_inj]
    exact l3
theorem sEner_1 (p s : gP) (x y : Int32) : sEner p s x y 1 = (sWave p s x y (s 0)).toInt64 * (sWave p s x y (s 0)).toInt64 := by
  unfold sEner
  show (0 : Int64) + (sWave p s x y (s 0 + Int32.ofNat 0)).toInt64 * (sWave p s x y (s 0 + Int32.ofNat 0)).toInt64 = _
  rw [Int64.zero_add, show s 0 + Int32.ofNat 0 = s 0 from Int32.add_zero _]
theorem al_iff {P : Nat → Bool} : ∀ (d k : Nat), al P d k = true ↔ ∀ i, k ≤ i → i < k + d → P i = true
  | 0, k => ⟨fun _ i h1 h2 => by omega, fun _ => rfl⟩
  | d + 1, k => by
    unfold al
    by_cases h : P k = true
    · rw [if_pos h, al_iff d (k + 1)]
      refine ⟨fun q i h1 h2 => ?_, fun q i h1 h2 => q i (by omega) (by omega)⟩
      by_cases e : i = k
      · rw [e]; exact h
      · exact q i (by omega) (by omega)
    · rw [if_neg h]
      exact ⟨fun q => (by cases q), fun q => absurd (q k (by omega) (by omega)) h⟩
theorem jabs_0 (w : Int32) (hw : w.toInt.natAbs ≤ 319680) : jabs w ≤ 0 ↔ w = 0 := by
  rw [i_le, ii_0, jabs_i (by omega), i_eq, ii_0]; omega
theorem calm_0 {p s : gP} (hp : PV p) (hv : SV p s) (x y : Int32) {m : Int32} (hm : m.toInt ≤ 200) : sCalm p s x y m 0 = decide (sEner p s x y m = 0) := by
  rw [Bool.eq_iff_iff, decide_eq_true_iff, (sEner_z hp hv x y hm).2]
  unfold sCalm
  rw [al_iff]
  refine ⟨fun h i hi => ?_, fun h i h1 h2 => ?_⟩
  · have := h i (by omega) (by rw [i_tn]; omega)
    rw [decide_eq_true_iff, jabs_0 _ (sWave_b hp hv _ _ _)] at this
    exact this
  · rw [decide_eq_true_iff, jabs_0 _ (sWave_b hp hv _ _ _)]
    exact h i (by rw [i_tn] at h2; omega)
theorem shr_0 {e : Int64} (h : e = 0) (sh : Int32) (g : Int64) : shr e sh g = false := by
  subst h
  unfold shr
  exact decide_eq_false (fun q => q.1 (by decide))
/-! sums in two ways -/
theorem lp_lin (f : Nat → Int64) : ∀ (d k : Nat) (a : Int64), lp (fun c a => a + f c) d k a = a + lp (fun c a => a + f c) d k 0
  | 0, k, a => (Int64.add_zero a).symm
  | d + 1, k, a => by
    rw [lp_s, lp_s, lp_lin f d (k + 1) (a + f k), lp_lin f d (k + 1) (0 + f k), Int64.zero_add, Int64.add_assoc]
theorem lp_sft {α : Type} (f : Nat → α → α) : ∀ (d k b : Nat) (a : α), lp f d (b + k) a = lp (fun i a => f (b + i) a) d k a
  | 0, k, b, a => rfl
  | d + 1, k, b, a => by rw [lp_s, lp_s, ← lp_sft f d (k + 1) b]; rfl
/-- the energies of the cells before a row, and of the row -/
theorem rows_e {p s : gP} (m : Int32) (W y : Nat) (hW : W = (p 0).toInt.toNat) : lp (fun c a => a + eC p s m c) (W * (y + 1)) 0 0 = lp (fun c a => a + eC p s m c) (W * y) 0 0 + lp (fun x a => a + sEner p s (Int32.ofNat x) (Int32.ofNat y) m) W 0 0 := by
  rw [Nat.mul_succ, lp_add, Nat.zero_add, lp_lin]
  congr 1
  rw [show W * y = W * y + 0 from rfl, lp_sft]
  refine lp_ext _ _ _ (fun i a h1 h2 => ?_)
  have ck := cell_k (W := W) (y := y) (x := i) (by omega)
  unfold eC
  rw [← hW, ck.1, ck.2]
/-- the greatest energy -/
theorem eMax_i {p s : gP} (m : Int32) (E : Int64) (h0 : ¬ E < 0) (h : ∀ o, o < nC p → ¬ E < eC p s m o) : ¬ E < eMax p s m := by
  have L := lp_inv (g := fun c a => jmaxl a (eC p s m c)) (fun _ (a : Int64) => ¬ E < a) (nC p) 0 0 h0 (fun c a _ hc ha => by
    unfold jmaxl
    by_cases q : eC p s m c < a
    · rw [if_pos q]; exact ha
    · rw [if_neg q]; exact h c (by omega))
  exact L
