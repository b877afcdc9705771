/-! NO NaN: a quotient of whole numbers, the lower not zero -/
theorem fv_asm (s : Bool) (e t : Nat) (he : e < 256) (ht : t < 8388608) : FP.Core.assemble FP.Core.b32 s e t % 2147483648 = e * 8388608 + t := by
  have h : FP.Core.assemble FP.Core.b32 s e t = (s.toNat * 256 + e) * 8388608 + t := rfl
  rw [h]
  cases s
  · simp only [Bool.toNat_false]; omega
  · simp only [Bool.toNat_true]; omega
/-- a datum that the format writes: no NaN -/
def fvG (d : FP.Core.Datum) : Prop := (∃ s, d = .inf s) ∨ ∃ s c q, d = .fin s c q ∧ c < 16777216 ∧ -149 ≤ q ∧ q ≤ 104
theorem fv_enc {d : FP.Core.Datum} (h : fvG d) : FP.Core.encode FP.Core.b32 d % 2147483648 ≤ 2139095040 := by
  rcases h with ⟨s, rfl⟩ | ⟨s, c, q, rfl, h1, h2, h3⟩
  · show FP.Core.assemble FP.Core.b32 s 255 0 % 2147483648 ≤ _
    rw [fv_asm s 255 0 (by decide) (by decide)]; decide
  · show (if c < 8388608 then FP.Core.assemble FP.Core.b32 s 0 c else FP.Core.assemble FP.Core.b32 s ((q - (-149)).toNat + 1) (c - 8388608)) % 2147483648 ≤ _
    by_cases hc : c < 8388608
    · rw [if_pos hc, fv_asm s 0 c (by decide) hc]; omega
    · rw [if_neg hc, fv_asm s _ _ (by omega) (by omega)]; omega
theorem fv_settle (s : Bool) (c : Nat) (q : Int) (hq : -149 ≤ q) : fvG (FP.Core.settle FP.Core.b32 s c q) := by
  show fvG (if c < 16777216 then (if q ≤ 104 then .fin s c q else .inf s) else (if q + 1 ≤ 104 then .fin s 8388608 (q + 1) else .inf s))
  by_cases h : c < 16777216
  · rw [if_pos h]
    by_cases h2 : q ≤ 104
    · rw [if_pos h2]; exact Or.inr ⟨s, c, q, rfl, h, hq, h2⟩
    · rw [if_neg h2]; exact Or.inl ⟨s, rfl⟩
  · rw [if_neg h]
    by_cases h2 : q + 1 ≤ 104
    · rw [if_pos h2]; exact Or.inr ⟨s, _, _, rfl, by decide, by omega, h2⟩
    · rw [if_neg h2]; exact Or.inl ⟨s, rfl⟩
theorem fv_ratio (s : Bool) (num den : Nat) (e : Int) : fvG (FP.Core.roundRatio FP.Core.b32 s num den e) := by
  unfold FP.Core.roundRatio
  by_cases h : num = 0
  · rw [if_pos h]; exact Or.inr ⟨s, 0, -149, rfl, by decide, by decide, by decide⟩
  · rw [if_neg h]
    refine fv_settle s _ _ ?_
    have hd : ∀ a b : Int, max a b = if a ≤ b then b else a := fun a b => rfl
    unfold FP.Core.quantum
    show (-149 : Int) ≤ max (-149) _
    omega
/-- whole numbers as floats: finite, zero only for zero -/
theorem fv_int {v : Nat} (hv : v < 9223372036854775808) : FP.Core.encode FP.Core.b32 (FP.Core.roundRatio FP.Core.b32 false v 1 0) % 2147483648 < 2139095040 ∧ (v ≠ 0 → FP.Core.encode FP.Core.b32 (FP.Core.roundRatio FP.Core.b32 false v 1 0) % 2147483648 ≠ 0) := by
  by_cases h : v = 0
  · subst h
    exact ⟨by decide, fun q => absurd rfl q⟩
  have hl1 : 2 ^ v.log2 ≤ v := Nat.log2_self_le h
  have hl2 : v.log2 < 63 := (Nat.log2_lt h).mpr hv
  have lead : FP.Core.leading v 1 = (v.log2 : Int) := by
    unfold FP.Core.leading
    have e1 : ((v.log2 : Int) - ((1 : Nat).log2 : Int)) = (v.log2 : Int) := by
      have : (1 : Nat).log2 = 0 := by decide
      rw [this]; omega
    simp only [e1]
    have e2 : ((v.log2 : Int)).toNat = v.log2 := by omega
    have e3 : (-(v.log2 : Int)).toNat = 0 := by omega
    rw [e2, e3, if_pos (by omega)]
  have quant : FP.Core.quantum FP.Core.b32 v 1 0 = (v.log2 : Int) - 23 := by
    unfold FP.Core.quantum
    rw [lead]
    show max (-149) ((v.log2 : Int) + 0 - (((24 : Nat) : Int) - 1)) = _
    omega
  unfold FP.Core.roundRatio FP.Core.roundAt
  rw [if_neg h, quant]
  obtain ⟨c, hc⟩ : ∃ c, c = FP.Core.nearest (FP.Core.unitsNum v 0 ((v.log2 : Int) - 23)) (FP.Core.unitsDen 1 0 ((v.log2 : Int) - 23)) := ⟨_, rfl⟩
  have near : ∀ num den, num / den ≤ FP.Core.nearest num den := by
    intro num den
    unfold FP.Core.nearest
    by_cases h1 : 2 * (num % den) < den
    · rw [if_pos h1]; exact Nat.le_refl _
    · rw [if_neg h1]
      by_cases h2 : den < 2 * (num % den)
      · rw [if_pos h2]; omega
      · rw [if_neg h2]; omega
  have hcp : c ≠ 0 := by
    have := near (FP.Core.unitsNum v 0 ((v.log2 : Int) - 23)) (FP.Core.unitsDen 1 0 ((v.log2 : Int) - 23))
    rw [← hc] at this
    have q : 1 ≤ FP.Core.unitsNum v 0 ((v.log2 : Int) - 23) / FP.Core.unitsDen 1 0 ((v.log2 : Int) - 23) := by
      unfold FP.Core.unitsNum FP.Core.unitsDen
      rw [Nat.one_mul]
      by_cases h2 : v.log2 ≤ 23
      · have e1 : (((v.log2 : Int) - 23) - 0).toNat = 0 := by omega
        rw [e1]
        have : 0 < 2 ^ (0 - ((v.log2 : Int) - 23)).toNat := Nat.two_pow_pos _
        rw [Nat.pow_zero, Nat.div_one]
        exact Nat.mul_pos (by omega) this
      · have e1 : (0 - ((v.log2 : Int) - 23)).toNat = 0 := by omega
        have e2 : (((v.log2 : Int) - 23) - 0).toNat = v.log2 - 23 := by omega
        rw [e1, e2, Nat.pow_zero, Nat.mul_one]
        refine (Nat.le_div_iff_mul_le (Nat.two_pow_pos _)).mpr ?_
        rw [Nat.one_mul]
        exact Nat.le_trans (Nat.pow_le_pow_right (by decide) (by omega)) hl1
    omega
  rw [← hc]
  have fin : ∀ c q, c ≠ 0 → c < 16777216 → -149 ≤ q → q ≤ 100 → FP.Core.encode FP.Core.b32 (.fin false c q) % 2147483648 < 2139095040 ∧ (v ≠ 0 → FP.Core.encode FP.Core.b32 (.fin false c q) % 2147483648 ≠ 0) := by
    intro c q h0 h1 h2 h3
    have e : FP.Core.encode FP.Core.b32 (.fin false c q) = if c < 8388608 then FP.Core.assemble FP.Core.b32 false 0 c else FP.Core.assemble FP.Core.b32 false ((q - (-149)).toNat + 1) (c - 8388608) := rfl
    rw [e]
    by_cases hc : c < 8388608
    · rw [if_pos hc, fv_asm _ 0 c (by decide) hc]; omega
    · rw [if_neg hc, fv_asm _ _ _ (by omega) (by omega)]; omega
  show FP.Core.encode FP.Core.b32 (if c < 16777216 then (if (v.log2 : Int) - 23 ≤ 104 then .fin false c ((v.log2 : Int) - 23) else .inf false) else (if (v.log2 : Int) - 23 + 1 ≤ 104 then .fin false 8388608 ((v.log2 : Int) - 23 + 1) else .inf false)) % 2147483648 < 2139095040 ∧ _
  have sel : (FP.Core.settle FP.Core.b32 false c ((v.log2 : Int) - 23)) = (if c < 16777216 then (if (v.log2 : Int) - 23 ≤ 104 then .fin false c ((v.log2 : Int) - 23) else .inf false) else (if (v.log2 : Int) - 23 + 1 ≤ 104 then .fin false 8388608 ((v.log2 : Int) - 23 + 1) else .inf false)) := rfl
  rw [sel]
  by_cases h1 : c < 16777216
  · rw [if_pos h1, if_pos (by omega)]
    exact fin c _ hcp h1 (by omega) (by omega)
  · rw [if_neg h1, if_pos (by omega)]
    exact fin _ _ (by decide) (by decide) (by omega) (by omega)
theorem fv_l2f {a : Int64} (ha : 0 ≤ a.toInt) : (FP.l2f a).toNat % 2147483648 < 2139095040 ∧ (a ≠ 0 → (FP.l2f a).toNat % 2147483648 ≠ 0) := by
  have hb : a.toInt < 9223372036854775808 := by have := Int64.toInt_lt a; simpa using this
  have e : FP.l2f a = UInt32.ofNat (FP.Core.encode FP.Core.b32 (FP.Core.roundRatio FP.Core.b32 (decide (a.toInt < 0)) a.toInt.natAbs 1 0)) := rfl
  have h := fv_int (v := a.toInt.natAbs) (by omega)
  rw [e, decide_eq_false (by omega)]
  obtain ⟨m, hm⟩ : ∃ m, m = FP.Core.encode FP.Core.b32 (FP.Core.roundRatio FP.Core.b32 false a.toInt.natAbs 1 0) := ⟨_, rfl⟩
  rw [← hm] at h ⊢
  have et : (UInt32.ofNat m).toNat = m % 4294967296 := by simp
  rw [et]
  refine ⟨by omega, fun q => ?_⟩
  have := h.2 (fun z => q (Int64.toInt_inj.mp (by have : (0 : Int64).toInt = 0 := rfl; rw [this]; omega)))
  omega
theorem fv_dec {n : Nat} (h : n % 2147483648 < 2139095040) : ∃ s c q, FP.Core.decode FP.Core.b32 n = .fin s c q ∧ (n % 2147483648 ≠ 0 → c ≠ 0) := by
  have e : FP.Core.decode FP.Core.b32 n = if n / 8388608 % 256 = 255 then (if n % 8388608 = 0 then .inf (FP.Core.fieldS FP.Core.b32 n) else .nan) else if n / 8388608 % 256 = 0 then .fin (FP.Core.fieldS FP.Core.b32 n) (n % 8388608) (-149) else .fin (FP.Core.fieldS FP.Core.b32 n) (8388608 + n % 8388608) (-149 + (((n / 8388608 % 256 : Nat) : Int) - 1)) := rfl
  rw [e, if_neg (by omega)]
  by_cases h0 : n / 8388608 % 256 = 0
  · rw [if_pos h0]; exact ⟨_, _, _, rfl, fun q => by omega⟩
  · rw [if_neg h0]; exact ⟨_, _, _, rfl, fun q => by omega⟩
theorem fv_div {a b : Int64} (ha : 0 ≤ a.toInt) (hb : 0 ≤ b.toInt) (hz : b ≠ 0) : (FP.fdiv (FP.l2f a) (FP.l2f b)) &&& 0x7fffffff ≤ 0x7f800000 := by
  have A := fv_l2f ha
  have B := fv_l2f hb
  obtain ⟨s, c, q, e1, _⟩ := fv_dec A.1
  obtain ⟨s', c', q', e2, h2⟩ := fv_dec B.1
  have hc' := h2 (B.2 hz)
  have e : FP.fdiv (FP.l2f a) (FP.l2f b) = UInt32.ofNat (FP.Core.encode FP.Core.b32 (FP.Core.quotient FP.Core.b32 (FP.Core.decode FP.Core.b32 (FP.l2f a).toNat) (FP.Core.decode FP.Core.b32 (FP.l2f b).toNat))) := rfl
  have eq : FP.Core.quotient FP.Core.b32 (.fin s c q) (.fin s' c' q') = FP.Core.roundRatio FP.Core.b32 (s != s') c c' (q - q') := by
    show (if c' = 0 then _ else _) = _
    rw [if_neg hc']
  rw [e, e1, e2, eq]
  have h := fv_enc (fv_ratio (s != s') c c' (q - q'))
  rw [UInt32.le_iff_toNat_le, UInt32.toNat_and]
  have k1 : (0x7fffffff : UInt32).toNat = 2 ^ 31 - 1 := by decide
  have k2 : (0x7f800000 : UInt32).toNat = 2139095040 := by decide
  rw [k1, k2, Nat.and_two_pow_sub_one_eq_mod]
  obtain ⟨m, hm⟩ : ∃ m, m = FP.Core.encode FP.Core.b32 (FP.Core.roundRatio FP.Core.b32 (s != s') c c' (q - q')) := ⟨_, rfl⟩
  rw [← hm] at h ⊢
  have et : (UInt32.ofNat m).toNat = m % 4294967296 := by simp
  rw [et]
  omega
section FACEJ
variable {n T0 T1 : Nat} {I K : gI} {J N : gJ}
theorem l_sub {a b : Int64} (h1 : -9223372036854775808 ≤ a.toInt - b.toInt) (h2 : a.toInt - b.toInt < 9223372036854775808) : (a - b).toInt = a.toInt - b.toInt := by
  rw [Int64.toInt_sub]; exact Int.bmod_eq_of_le (by omega) (by omega)
theorem e_visibility (hn : 2000 ≤ n) (R : Rel T0 T1 I K) (J : gJ) (N : gJ) (a1 a2 : Int32) : AG (F_X9_visibility n T0 T1 I J a1 a2) (F_X10_visibility n K N a1 a2) (fun v b => v.1 = b.1 ∧ Tt K 0 b.2.1 ∧ vf_n32 v.1) (fun E b => Tt K (thA E) b.2.1) := by
  rcases R.ld with ⟨h9, h10⟩ | ⟨h9, h10, L⟩
  · refine AG.er (E := ISE) (b := (FP.fconst0, sI K 153 0 1, N)) ?_ ?_ (Tt.r 1)
    · unfold F_X9_visibility; rw [n_tank0 h9]; rfl
    · unfold F_X10_visibility
      simp only [x_col, x_run, bd_s]
      cases col (pl K) a1 <;> cases rng a2 1 40 <;> simp only [b2_tv, b2_fv, e10, if_true, if_false, bd_s, ask0 h10, askF0 h10]
  unfold F_X9_visibility F_X10_visibility
  simp only [n_tank1 h9, nt_s, n_col L, n_tim, nd_s, x_col, x_run, bd_s]
  cases g0 : col (pl K) a1
  · refine AG.er (E := IOB) (b := (FP.fconst0, sI K 153 0 2, N)) ?_ ?_ (Tt.r 2)
    · rfl
    · cases rng a2 1 40 <;> simp only [b2_tv, b2_fv, e10, if_true, if_false, bd_s, ask2 h10, askF2 h10, askF3 h10]
  cases g1 : rng a2 1 40
  · refine AG.er (E := IAE) (b := (FP.fconst0, sI K 153 0 3, N)) ?_ ?_ (Tt.r 3)
    · rfl
    · simp only [b2_tv, b2_fv, e10, if_true, if_false, bd_s, ask2 h10, askF2 h10, askF3 h10]
  simp only [b2_tv, b2_fv, e10, if_true, if_false, bd_s, ask1 h10, askF1 h10]
  have M := L.mk' (Tt.r 0) R.tv
  have C := L.ck R.ru
  have hx := (col_t L.pv).mp g0
  have h4 := rng_t.mp g1
  have c1 : (1 : Int32).toInt = 1 := rfl
  have c2 : (40 : Int32).toInt = 40 := rfl
  have hh := L.pv.h
  obtain ⟨J', e9, hJ⟩ := c_fillC (n := n) (T1 := T1) (J := J) hn L R.ru hx (m := a2) (by omega) (by omega)
  obtain ⟨K', N', e10, q, hN'⟩ := m_laysC (N := N) hn L.pv L.sv M hx (m := a2) (by omega) (by omega)
  have M' := M.tq q
  have hE := fun c => sEner_b L.pv L.sv a1 (Int32.ofNat c) (m := a2) (by omega)
  have key : ∀ (d c j : Nat) (a b : Int64), 0 ≤ b.toInt → b.toInt ≤ a.toInt → a.toInt ≤ 20439060480000 → c + d = (pl K 1).toInt.toNat → d < j → ∃ v, L_X9_visibility n T0 T1 I a1 a2 j 0 a b (Int32.ofNat c) J' = some (.inr (v, J')) ∧ L_X10_visibility n a1 a2 j 0 a b (Int32.ofNat c) K' N' = some (v, K', N') ∧ vf_n32 v := by
    intro d
    induction d with
    | zero =>
      intro c j a b h0 h1 h2 hc hj
      obtain ⟨j, rfl⟩ : ∃ i, j = i + 1 := ⟨j - 1, by omega⟩
      have hpa : pl K 1 ≤ Int32.ofNat c := by rw [i_le, i_of (by omega)]; omega
      rw [L_X9_visibility_e0, L.tr.h, if_pos hpa, L_X10_visibility_e0, M'.hp, if_pos hpa]
      by_cases hz : lg_cmp a 0 = 0
      · rw [if_pos hz, if_pos hz]
        exact ⟨FP.fconst0, rfl, rfl, by unfold vf_n32; decide⟩
      · have ha : a ≠ 0 := fun q => hz ((cmp_0 _ _).mpr q)
        have ha' : a.toInt ≠ 0 := fun q => ha (Int64.toInt_inj.mp (by rw [q]; rfl))
        have e1 : (a - b).toInt = a.toInt - b.toInt := l_sub (by omega) (by omega)
        have e2 : (a + b).toInt = a.toInt + b.toInt := l_add (by omega) (by omega)
        have hd := fv_div (a := a - b) (b := a + b) (by omega) (by omega) (fun q => by rw [q] at e2; have : (0 : Int64).toInt = 0 := rfl; omega)
        rw [if_neg hz, if_neg hz]
        unfold gfd
        rw [if_pos hd, if_pos hd]
        exact ⟨_, rfl, rfl, hd⟩
    | succ d ih =>
      intro c j a b h0 h1 h2 hc hj
      obtain ⟨j, rfl⟩ : ∃ i, j = i + 1 := ⟨j - 1, by omega⟩
      have hna : ¬ (pl K 1 ≤ Int32.ofNat c) := by rw [i_le, i_of (by omega)]; omega
      have hEc := hE c
      rw [L_X9_visibility_e0, L.tr.h, if_neg hna, gv_o (by omega), gv_o (by omega), i_tno (by omega), hJ c (by omega), ixp_1, L_X10_visibility_e0, M'.hp, if_neg hna, gv_o (by omega), gv_o (by omega), i_tno (by omega), hN' c (by omega), ixp_1]
      have jm : (jmaxl a (sEner (pl K) (st K) a1 (Int32.ofNat c) a2)).toInt = max a.toInt (sEner (pl K) (st K) a1 (Int32.ofNat c) a2).toInt := by
        unfold jmaxl
        by_cases h : sEner (pl K) (st K) a1 (Int32.ofNat c) a2 < a
        · rw [if_pos h]; rw [Int64.lt_iff_toInt_lt] at h; omega
        · rw [if_neg h]; rw [Int64.lt_iff_toInt_lt] at h; omega
      have jn : (jminl b (sEner (pl K) (st K) a1 (Int32.ofNat c) a2)).toInt = min b.toInt (sEner (pl K) (st K) a1 (Int32.ofNat c) a2).toInt := by
        unfold jminl
        by_cases h : sEner (pl K) (st K) a1 (Int32.ofNat c) a2 < b
        · rw [if_pos h]; rw [Int64.lt_iff_toInt_lt] at h; omega
        · rw [if_neg h]; rw [Int64.lt_iff_toInt_lt] at h; omega
      exact ih (c + 1) j _ _ (by rw [jn]; omega) (by rw [jm, jn]; omega) (by rw [jm]; omega) (by omega) (by omega)
  rw [e9, e10]
  simp only [bd_s]
  rw [hJ 0 (by omega), hN' 0 (by omega)]
  have hE0 := hE 0
  obtain ⟨v, e1, e2, hv⟩ := key ((pl K 1).toInt.toNat - 1) 1 n (sEner (pl K) (st K) a1 (Int32.ofNat 0) a2) (sEner (pl K) (st K) a1 (Int32.ofNat 0) a2) hE0.1 (Int.le_refl _) hE0.2 (by omega) (by omega)
  exact AG.ok e1 e2 ⟨rfl, q, hv⟩
/-! bytes of the text -/
theorem four_all : True := trivial
end FACEJ
