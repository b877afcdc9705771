/-! WHAT THE PROGRAM ANSWERS: gauges, the strongest cell, what if, changes -/
section ASKS2
variable {n T0 T1 : Nat} {I : gI} {J : gJ} {p s : gP}
/-- only cells changed that no later call asks for -/
theorem CI.ir {I' : gI} (C : CI T0 T1 I p s) (h : ∀ o i, ¬ (o = 92 ∨ (88 ≤ o ∧ o < 91)) → I' o i = I o i) : CI T0 T1 I' p s := by
  have ht := C.tt
  have e18 : ∀ i, I' 18 i = I 18 i := fun i => h _ _ (by omega)
  refine ⟨C.ld.ir ht (fun o i q => h o i (by unfold irI at q; omega)), by rw [h _ _ (by omega)]; exact C.h9, fun x y hx hy => by rw [h _ _ (by omega)]; exact C.ru x y hx hy, ht, by rw [e18]; exact C.hc, by rw [e18]; exact C.ho, fun k hk => by rw [h _ _ (by omega)]; exact C.tb k hk⟩
theorem a_peak (hn : 2000 ≤ n) (C : CI T0 T1 I p s) {g : Nat} (hg : g < (p 76).toInt.toNat) {m : Int32} (hm : 1 ≤ m.toInt ∧ m.toInt ≤ 40) : ∃ v I', F_X9_peak n T0 T1 I (Int32.ofNat g) m = some (.inr (v, I')) ∧ (∀ o i, o ≠ 92 → I' o i = I o i) ∧ (jabs (sWave p s (p (77 + 2 * g)) (p (77 + 2 * g + 1)) (s 0))).toInt ≤ v.toInt := by
  obtain ⟨I', e, hI, hw⟩ := c_fill (n := n) hn C.tt C.ld C.ru hg (m := m) (by omega)
  have key : ∀ (d c j : Nat) (x3 : Int32), c + d = m.toInt.toNat → d < j → ∃ v, L_X9_peak n T0 T1 (Int32.ofNat g) m j 0 x3 (Int32.ofNat c) I' = some (.inr (v, I')) ∧ x3.toInt ≤ v.toInt ∧ ∀ i, c ≤ i → i < m.toInt.toNat → (jabs (I' 92 i)).toInt ≤ v.toInt := by
    intro d
    induction d with
    | zero =>
      intro c j x3 hc hj
      obtain ⟨j, rfl⟩ : ∃ i, j = i + 1 := ⟨j - 1, by omega⟩
      refine ⟨x3, ?_, Int.le_refl _, fun i h1 h2 => by omega⟩
      rw [L_X9_peak_e0, if_pos (by rw [i_le, i_of (by omega)]; omega)]
    | succ d ih =>
      intro c j x3 hc hj
      obtain ⟨j, rfl⟩ : ∃ i, j = i + 1 := ⟨j - 1, by omega⟩
      obtain ⟨v, h1, h2, h3⟩ := ih (c + 1) j (jmax x3 (jabs (I' 92 c))) (by omega) (by omega)
      have hj := jmax_i x3 (jabs (I' 92 c))
      refine ⟨v, ?_, by omega, fun i a b => ?_⟩
      · rw [L_X9_peak_e0, if_neg (by rw [i_le, i_of (by omega)]; omega), gv_o (by omega), i_tno (by omega), ixp_1]
        exact h1
      · by_cases hi : i = c
        · subst hi; omega
        · exact h3 i (by omega) b
  obtain ⟨v, h1, -, h3⟩ := key m.toInt.toNat 0 n 0 (by omega) (by omega)
  refine ⟨v, I', ?_, hI, ?_⟩
  · unfold F_X9_peak
    rw [q_tank C, nt_s, q_gau C hg, nt_s, q_tim n hm, nt_s, e, bd_s]
    exact h1
  · have := h3 0 (by omega) (by omega)
    rw [hw 0 (by omega)] at this
    unfold gw at this
    rw [show s 0 + Int32.ofNat 0 = s 0 from Int32.add_zero _] at this
    exact this
theorem a_cross (hn : 2000 ≤ n) (C : CI T0 T1 I p s) {g : Nat} (hg : g < (p 76).toInt.toNat) {m : Int32} (hm : 1 ≤ m.toInt ∧ m.toInt ≤ 40) : ∃ v I', F_X9_crossings n T0 T1 I (Int32.ofNat g) m = some (.inr (v, I')) ∧ (∀ o i, o ≠ 92 → I' o i = I o i) ∧ v.toInt < m.toInt := by
  obtain ⟨I', e, hI, hw⟩ := c_fill (n := n) hn C.tt C.ld C.ru hg (m := m) (by omega)
  have key : ∀ (d c j a : Nat) (x4 : Int32), c + d = m.toInt.toNat → d < j → a ≤ c → (x4 ≠ 0 → a + 1 ≤ c) → (x4 = 0 → a = 0) → ∃ v, L_X9_crossings n T0 T1 (Int32.ofNat g) m j 0 (Int32.ofNat a) x4 (Int32.ofNat c) I' = some (.inr (v, I')) ∧ v.toInt < m.toInt := by
    intro d
    induction d with
    | zero =>
      intro c j a x4 hc hj h1 h2 h3
      obtain ⟨j, rfl⟩ : ∃ i, j = i + 1 := ⟨j - 1, by omega⟩
      refine ⟨Int32.ofNat a, ?_, ?_⟩
      · rw [L_X9_crossings_e0, if_pos (by rw [i_le, i_of (by omega)]; omega)]
      · rw [i_of (by omega)]
        by_cases h : x4 = 0
        · have := h3 h; omega
        · have := h2 h; omega
    | succ d ih =>
      intro c j a x4 hc hj h1 h2 h3
      obtain ⟨j, rfl⟩ : ∃ i, j = i + 1 := ⟨j - 1, by omega⟩
      have z1 : (1 : Int32) ≠ 0 := by decide
      have z2 : (-1 : Int32) ≠ 0 := by decide
      rw [L_X9_crossings_e0, if_neg (by rw [i_le, i_of (by omega)]; omega), gv_o (by omega), i_tno (by omega), ixp_1, ixp_1]
      by_cases c0 : I' 92 c = 0
      · rw [if_pos c0]
        exact ih (c + 1) j a x4 (by omega) (by omega) (by omega) (fun q => by have := h2 q; omega) h3
      rw [if_neg c0, gv_o (by omega)]
      by_cases c1 : I' 92 c ≤ 0
      · rw [if_pos c1]
        by_cases c2 : x4 = 0
        · rw [if_pos c2]
          have := h3 c2
          exact ih (c + 1) j a _ (by omega) (by omega) (by omega) (fun _ => by omega) (fun q => absurd q z2)
        · rw [if_neg c2]
          have := h2 c2
          by_cases c3 : (-1 : Int32) = x4
          · rw [if_pos c3]
            exact ih (c + 1) j a _ (by omega) (by omega) (by omega) (fun _ => by omega) (fun q => absurd q z2)
          · rw [if_neg c3]
            exact ih (c + 1) j (a + 1) _ (by omega) (by omega) (by omega) (fun _ => by omega) (fun q => absurd q z2)
      · rw [if_neg c1]
        by_cases c2 : x4 = 0
        · rw [if_pos c2]
          have := h3 c2
          exact ih (c + 1) j a _ (by omega) (by omega) (by omega) (fun _ => by omega) (fun q => absurd q z1)
        · rw [if_neg c2]
          have := h2 c2
          by_cases c3 : (1 : Int32) = x4
          · rw [if_pos c3]
            exact ih (c + 1) j a _ (by omega) (by omega) (by omega) (fun _ => by omega) (fun q => absurd q z1)
          · rw [if_neg c3]
            exact ih (c + 1) j (a + 1) _ (by omega) (by omega) (by omega) (fun _ => by omega) (fun q => absurd q z1)
  obtain ⟨v, h1, h2⟩ := key m.toInt.toNat 0 n 0 0 (by omega) (by omega) (by omega) (fun q => absurd rfl q) (fun _ => rfl)
  refine ⟨v, I', ?_, hI, h2⟩
  unfold F_X9_crossings
  rw [q_tank C, nt_s, q_gau C hg, nt_s, q_tim n hm, nt_s, e, bd_s]
  exact h1
theorem lag_s (hn : 2000 ≤ n) (I : gI) {m : Int32} (hm : 1 ≤ m.toInt ∧ m.toInt ≤ 40) {l : Nat} (hl : l ≤ 20) : ∃ v, F_X9_laggedSum n T0 T1 I m (Int32.ofNat l) = some v := by
  have key : ∀ (d c j : Nat) (a : Int64), c + d = m.toInt.toNat → d < j → ∃ v, L_X9_laggedSum n T0 T1 I m (Int32.ofNat l) j 0 a (Int32.ofNat c) = some v := by
    intro d
    induction d with
    | zero =>
      intro c j a hc hj
      obtain ⟨j, rfl⟩ : ∃ i, j = i + 1 := ⟨j - 1, by omega⟩
      exact ⟨a, by rw [L_X9_laggedSum_e0, if_pos (by rw [i_le, i_of (by omega)]; omega)]⟩
    | succ d ih =>
      intro c j a hc hj
      obtain ⟨j, rfl⟩ : ∃ i, j = i + 1 := ⟨j - 1, by omega⟩
      rw [L_X9_laggedSum_e0, if_neg (by rw [i_le, i_of (by omega)]; omega), i_oadd, gv_o (by omega), gv_o (by omega), ixp_1]
      exact ih (c + 1) j _ (by omega) (by omega)
  exact key m.toInt.toNat 0 n 0 (by omega) (by omega)
theorem a_rhy (hn : 2000 ≤ n) (C : CI T0 T1 I p s) {g : Nat} (hg : g < (p 76).toInt.toNat) {m : Int32} (hm : 1 ≤ m.toInt ∧ m.toInt ≤ 40) : ∃ v I', F_X9_rhythm n T0 T1 I (Int32.ofNat g) m = some (.inr (v, I')) ∧ (∀ o i, o ≠ 92 → I' o i = I o i) ∧ 1 ≤ v.toInt := by
  have c20 : (20 : Int32).toInt = 20 := rfl
  have em : (m + 20).toInt = m.toInt + 20 := by rw [i_add (by rw [c20]; omega) (by rw [c20]; omega), c20]
  obtain ⟨I', e, hI, hw⟩ := c_fill (n := n) hn C.tt C.ld C.ru hg (m := m + 20) (by omega)
  have key : ∀ (d l j : Nat) (x3 : Int32) (y4 : Int64), 1 ≤ l → l + d = 21 → d < j → 1 ≤ x3.toInt → ∃ v, L_X9_rhythm n T0 T1 (Int32.ofNat g) m j 0 x3 y4 (Int32.ofNat l) I' = some (.inr (v, I')) ∧ 1 ≤ v.toInt := by
    intro d
    induction d with
    | zero =>
      intro l j x3 y4 hl1 hl hj h1
      obtain ⟨j, rfl⟩ : ∃ i, j = i + 1 := ⟨j - 1, by omega⟩
      exact ⟨x3, by rw [L_X9_rhythm_e0, if_pos (by rw [i_lt, i_of (by omega), c20]; omega)], h1⟩
    | succ d ih =>
      intro l j x3 y4 hl1 hl hj h1
      obtain ⟨j, rfl⟩ : ∃ i, j = i + 1 := ⟨j - 1, by omega⟩
      obtain ⟨w, hw⟩ := lag_s (n := n) (T0 := T0) (T1 := T1) hn I' hm (l := l) (by omega)
      rw [L_X9_rhythm_e0, if_neg (by rw [i_lt, i_of (by omega), c20]; omega), hw, bd_s, ixp_1]
      by_cases c : lg_cmp w y4 ≤ 0
      · rw [if_pos c]; exact ih (l + 1) j x3 y4 (by omega) (by omega) (by omega) h1
      · rw [if_neg c]
        exact ih (l + 1) j _ w (by omega) (by omega) (by omega) (by rw [i_of (by omega)]; omega)
  obtain ⟨w, hw⟩ := lag_s (n := n) (T0 := T0) (T1 := T1) hn I' hm (l := 1) (by omega)
  obtain ⟨v, h1, h2⟩ := key 19 2 n 1 w (by omega) (by omega) (by omega) (by decide)
  refine ⟨v, I', ?_, hI, h2⟩
  unfold F_X9_rhythm
  rw [q_tank C, nt_s, q_gau C hg, nt_s, q_tim n hm, nt_s, e, bd_s, show (1 : Int32) = Int32.ofNat 1 from rfl, hw, bd_s]
  exact h1
/-! the strongest cell -/
theorem ahead_0 {E : Nat → Int64} {N k : Nat} (hN : N ≤ 160) : ahead E N k = 0 ↔ ∀ o, o < N → ¬ E k < E o ∧ ¬ (E o = E k ∧ o < k) := by
  unfold ahead
  have key : ∀ (d c a : Nat), c + d ≤ 160 → a ≤ c → (lp (fun o a => if 0 < lg_cmp (E o) (E k) ∨ (E o = E k ∧ o < k) then a + 1 else a) d c (Int32.ofNat a) = 0 ↔ a = 0 ∧ ∀ o, c ≤ o → o < c + d → ¬ E k < E o ∧ ¬ (E o = E k ∧ o < k)) := by
    intro d
    induction d with
    | zero =>
      intro c a hc ha
      show Int32.ofNat a = Int32.ofNat 0 ↔ _
      rw [i_oeq (by omega) (by omega)]
      exact ⟨fun h => ⟨h, fun o h1 h2 => by omega⟩, fun h => h.1⟩
    | succ d ih =>
      intro c a hc ha
      rw [lp_s]
      by_cases h : 0 < lg_cmp (E c) (E k) ∨ (E c = E k ∧ c < k)
      · rw [if_pos h, ixp_1, ih (c + 1) (a + 1) (by omega) (by omega)]
        refine ⟨fun q => by omega, fun q => ?_⟩
        have := q.2 c (by omega) (by omega)
        rw [cmp_p] at h
        rcases h with h | h
        · exact absurd h this.1
        · exact absurd h this.2
      · rw [if_neg h, ih (c + 1) a (by omega) (by omega)]
        refine ⟨fun q => ⟨q.1, fun o h1 h2 => ?_⟩, fun q => ⟨q.1, fun o h1 h2 => q.2 o (by omega) (by omega)⟩⟩
        by_cases ho : o = c
        · subst ho
          rw [cmp_p] at h
          exact ⟨fun z => h (Or.inl z), fun z => h (Or.inr z)⟩
        · exact q.2 o (by omega) (by omega)
  have := key N 0 0 (by omega) (by omega)
  rw [show (Int32.ofNat 0) = 0 from rfl] at this
  rw [this]
  exact ⟨fun q o h => q.2 o (by omega) (by omega), fun q => ⟨rfl, fun o _ h => q o (by omega)⟩⟩
/-- some cell has the greatest number, the first of them is ahead of all -/
theorem first_max (E : Nat → Int64) : ∀ N, 0 < N → ∃ k, k < N ∧ ∀ o, o < N → ¬ E k < E o ∧ ¬ (E o = E k ∧ o < k)
  | 0, h => by omega
  | 1, _ => ⟨0, by omega, fun o ho => by
      have : o = 0 := by omega
      subst this
      exact ⟨fun q => by rw [Int64.lt_iff_toInt_lt] at q; omega, fun q => by omega⟩⟩
  | N + 2, _ => by
    obtain ⟨k, h1, h2⟩ := first_max E (N + 1) (by omega)
    by_cases h : E k < E (N + 1)
    · refine ⟨N + 1, by omega, fun o ho => ?_⟩
      by_cases q : o = N + 1
      · subst q
        exact ⟨fun q => by rw [Int64.lt_iff_toInt_lt] at q; omega, fun q => by omega⟩
      · have := h2 o (by omega)
        rw [Int64.lt_iff_toInt_lt] at h this ⊢
        refine ⟨by omega, fun z => ?_⟩
        have z1 := congrArg Int64.toInt z.1
        omega
    · refine ⟨k, by omega, fun o ho => ?_⟩
      by_cases q : o = N + 1
      · subst q
        exact ⟨h, fun q => by omega⟩
      · exact h2 o (by omega)
theorem a_strong (hn : 2000 ≤ n) (C : CI T0 T1 I p s) {m : Int32} (hm : 1 ≤ m.toInt ∧ m.toInt ≤ 40) : ∃ c J', F_X9_strongest n T0 T1 I J (0 : Int32) m = some (.inr (Int32.ofNat c, J')) ∧ c < nC p ∧ ∀ o, o < nC p → ¬ eC p s m c < eC p s m o := by
  have hN := nC_b C.pv
  have hw := C.pv.w
  have hh := C.pv.h
  have hN0 : 0 < nC p := Nat.mul_pos (by omega) (by omega)
  obtain ⟨J', e, -, hJ⟩ := c_fillE (n := n) (T1 := T1) (J := J) hn C.ld C.ru (m := m) (by omega) (by omega)
  obtain ⟨k, hk, hmax⟩ := first_max (eC p s m) (nC p) hN0
  have fin : ∀ (j : Nat) (c : Nat), c ≤ 160 → L_X9_strongest n T0 T1 I (0 : Int32) m (j + 1) 0 (Int32.ofNat k) (Int32.ofNat c) J' = some (.inr (Int32.ofNat k, J')) := by
    intro j c hc
    rw [L_X9_strongest_e0, c_cells C.pv C.ck, bd_s]
    by_cases h : Int32.ofNat (nC p) ≤ Int32.ofNat c
    · rw [if_pos h]
    · rw [if_neg h, if_neg (by rw [i_eq, i_of (by omega)]; show ¬ (k : Int) = -1; omega)]
  have key : ∀ (d c j : Nat), c + d = k → d + 1 < j → L_X9_strongest n T0 T1 I (0 : Int32) m j 0 (-1 : Int32) (Int32.ofNat c) J' = some (.inr (Int32.ofNat k, J')) := by
    intro d
    induction d with
    | zero =>
      intro c j hc hj
      obtain ⟨j, rfl⟩ : ∃ i, j = i + 2 := ⟨j - 2, by omega⟩
      have hck : c = k := by omega
      subst hck
      rw [L_X9_strongest_e0, c_cells C.pv C.ck, bd_s, if_neg (by rw [i_ole (by omega) (by omega)]; omega), if_pos rfl, c_before hn C.ld C.ru hJ hk, bd_s, if_pos ((ahead_0 hN).mpr hmax), ixp_1]
      exact fin j (c + 1) (by omega)
    | succ d ih =>
      intro c j hc hj
      obtain ⟨j, rfl⟩ : ∃ i, j = i + 1 := ⟨j - 1, by omega⟩
      have hne : ahead (eC p s m) (nC p) c ≠ 0 := by
        rw [Ne, ahead_0 hN]
        intro q
        have q1 := q k hk
        have q2 := hmax c (by omega)
        rw [Int64.lt_iff_toInt_lt] at q1 q2
        have : (eC p s m c).toInt = (eC p s m k).toInt := by omega
        exact q2.2 ⟨Int64.toInt_inj.mp this, by omega⟩
      rw [L_X9_strongest_e0, c_cells C.pv C.ck, bd_s, if_neg (by rw [i_ole (by omega) (by omega)]; omega), if_pos rfl, c_before hn C.ld C.ru hJ (by omega), bd_s, if_neg hne, ixp_1]
      exact ih (c + 1) j (by omega) (by omega)
  refine ⟨k, J', ?_, hk, fun o ho => (hmax o ho).1⟩
  unfold F_X9_strongest
  rw [q_tank C, nt_s, if_neg (by decide), c_cells C.pv C.ck, bd_s, if_pos (by rw [i_lt, i_of (by omega)]; show (0 : Int) < _; omega), q_tim n hm, nt_s, e, bd_s]
  exact key k 0 n (by omega) (by omega)
/-! what if -/
/-- the trial state has changed -/
theorem CI.tr9 {I' : gI} (C : CI T0 T1 I p s) (h : ∀ o i, ¬ (10 ≤ o ∧ o < 18) → I' o i = I o i) (hb : ∀ k, k < 4 → I' (10 + 1) k = 0 ∨ I' (10 + 1) k = 1) : CI T0 T1 I' p s := by
  have ht := C.tt
  have e18 : ∀ i, I' 18 i = I 18 i := fun i => h _ _ (by omega)
  refine ⟨C.ld.ir ht (fun o i q => h o i (by unfold irI at q; omega)), by rw [h _ _ (by omega)]; exact C.h9, fun x y hx hy => by rw [h _ _ (by omega)]; exact C.ru x y hx hy, ht, by rw [e18]; exact C.hc, by rw [e18]; exact C.ho, hb⟩
/-- a copy of the state, changed at one place, in the trial state -/
theorem CI.ckt {I' : gI} {s' : gP} (C : CI T0 T1 I p s) (h : ∀ o i, ¬ (10 ≤ o ∧ o < 18) → I' o i = I o i) (S : SR I' 10 p s') : CK I' T0 10 p s' := by
  have ht := C.tt
  refine CK.mk (C.ld.tr.cg C.pv.c.2 C.pv.sh.2 (fun q i a b => h _ _ (by omega))) S (fun x y hx hy => by rw [h _ _ (by omega)]; exact C.ru x y hx hy)
theorem a_off (hn : 2000 ≤ n) (C : CI T0 T1 I p s) {k : Nat} (hk : k < (p 4).toInt.toNat) {m tol : Int32} (hm : 1 ≤ m.toInt ∧ m.toInt ≤ 40) (ht : 0 ≤ tol.toInt ∧ tol.toInt ≤ 9999) : ∃ I', F_X9_nodesIfOff n T0 T1 I (Int32.ofNat k) m tol = some (.inr (cnt (nd9 p (up s (2 + k) 0) m tol) (nC p), I')) ∧ CI T0 T1 I' p s ∧ (∀ o i, ¬ (10 ≤ o ∧ o < 18) → I' o i = I o i) := by
  have h4 := C.pv.c
  have S := (cp_SR (a := 10) C.ld.sr h4.2 (by omega)).uon h4.2 (k := k) (by omega) 0 (Or.inl rfl)
  have fr : ∀ o i, ¬ (10 ≤ o ∧ o < 18) → sI (cp I 10 2) (10 + 1) k 0 o i = I o i := fun o i q => by rw [sI_o (by omega), cp_o _ _ _ _ _ (by omega)]
  refine ⟨sI (cp I 10 2) (10 + 1) k 0, ?_, C.tr9 fr S.b, fr⟩
  unfold F_X9_nodesIfOff
  rw [q_tank C, nt_s, q_src C hk, nt_s, q_tim n hm, nt_s, q_tol n ht, nt_s, cp_s hn (by omega) C.ld.sr.b, bd_s, gv_o (by omega), i_tno (by omega), c_count hn C.pv (C.sv.uon h4.2 (by omega) (Or.inl rfl)) (C.ckt fr S) (by omega) (by omega), bd_s]
theorem a_best (hn : 2000 ≤ n) (C : CI T0 T1 I p s) {k : Nat} (hk : k < (p 4).toInt.toNat) {x y m : Int32} (hx : xIn p x) (hy : yIn p y) (hm : 1 ≤ m.toInt ∧ m.toInt ≤ 40) : ∃ q I', F_X9_bestPhase n T0 T1 I (Int32.ofNat k) x y m = some (.inr (Int32.ofNat (15 * q), I')) ∧ CI T0 T1 I' p s ∧ (∀ o i, ¬ (10 ≤ o ∧ o < 18) → I' o i = I o i) ∧ q < 24 ∧ ∀ r, r < 24 → ¬ sEner p (up s (10 + k) (Int32.ofNat (15 * r))) x y m < sEner p (up s (10 + k) (Int32.ofNat (15 * q))) x y m ∧ (r < q → ¬ sEner p (up s (10 + k) (Int32.ofNat (15 * r))) x y m = sEner p (up s (10 + k) (Int32.ofNat (15 * q))) x y m) := by
  have h4 := C.pv.c
  have S0 := cp_SR (a := 10) C.ld.sr h4.2 (by omega)
  have c15 : (15 : Int32) = Int32.ofNat 15 := rfl
  have c360 : (360 : Int32) = Int32.ofNat 360 := rfl
  let E : Nat → Int64 := fun r => sEner p (up s (10 + k) (Int32.ofNat (15 * r))) x y m
  have key : ∀ (d r j q : Nat) (I1 : gI) (v : Int32), r + d = 24 → d < j → SR I1 10 p (up s (10 + k) v) → (∀ o i, ¬ (10 ≤ o ∧ o < 18) → I1 o i = I o i) → q < r → (∀ r', r' < r → ¬ E r' < E q ∧ (r' < q → ¬ E r' = E q)) → ∃ q' I', L_X9_bestPhase n T0 T1 (Int32.ofNat k) x y m j 0 (Int32.ofNat (15 * q)) (E q) (Int32.ofNat (15 * r)) I1 = some (.inr (Int32.ofNat (15 * q'), I')) ∧ (∃ v', SR I' 10 p (up s (10 + k) v')) ∧ (∀ o i, ¬ (10 ≤ o ∧ o < 18) → I' o i = I o i) ∧ q' < 24 ∧ ∀ r', r' < 24 → ¬ E r' < E q' ∧ (r' < q' → ¬ E r' = E q') := by
    intro d
    induction d with
    | zero =>
      intro r j q I1 v hr hj S fr hq hE
      obtain ⟨j, rfl⟩ : ∃ i, j = i + 1 := ⟨j - 1, by omega⟩
      have hr' : r = 24 := by omega
      subst hr'
      refine ⟨q, I1, ?_, ⟨v, S⟩, fr, hq, hE⟩
      rw [L_X9_bestPhase_e0, if_pos (by decide)]
    | succ d ih =>
      intro r j q I1 v hr hj S fr hq hE
      obtain ⟨j, rfl⟩ : ∃ i, j = i + 1 := ⟨j - 1, by omega⟩
      have S2 := S.uph h4.2 (k := k) (by omega) (Int32.ofNat (15 * r))
      rw [up_up] at S2
      have fr2 : ∀ o i, ¬ (10 ≤ o ∧ o < 18) → sI I1 (10 + 3) k (Int32.ofNat (15 * r)) o i = I o i := fun o i z => by rw [sI_o (by omega)]; exact fr o i z
      have V2 := C.sv.u h4.2 (t := 10 + k) (by omega) (Int32.ofNat (15 * r))
      rw [L_X9_bestPhase_e0, if_neg (by rw [c360, i_ole (by omega) (by omega)]; omega), gv_o (by omega), i_tno (by omega), c_ener hn C.pv V2 (C.ckt fr2 S2) hx hy (by omega) (by omega), bd_s, if_neg (by rw [i_eq, i_of (by omega)]; show ¬ _ = (-1 : Int); omega), c15, i_oadd, show 15 * r + 15 = 15 * (r + 1) by omega]
      show ∃ q' I', (if 0 ≤ lg_cmp (E r) (E q) then _ else _) = _ ∧ _
      by_cases c : 0 ≤ lg_cmp (E r) (E q)
      · rw [if_pos c]
        refine ih (r + 1) j q _ (Int32.ofNat (15 * r)) (by omega) (by omega) S2 fr2 (by omega) (fun r' h => ?_)
        by_cases h2 : r' = r
        · subst h2; rw [cmp_g] at c; exact ⟨c, fun z => by omega⟩
        · exact hE r' (by omega)
      · rw [if_neg c]
        refine ih (r + 1) j r _ (Int32.ofNat (15 * r)) (by omega) (by omega) S2 fr2 (by omega) (fun r' h => ?_)
        rw [cmp_g, Classical.not_not] at c
        by_cases h2 : r' = r
        · subst h2; exact ⟨fun z => by rw [Int64.lt_iff_toInt_lt] at z; omega, fun z => by omega⟩
        · have := (hE r' (by omega)).1
          rw [Int64.lt_iff_toInt_lt] at this c ⊢
          exact ⟨by omega, fun _ z => by have := congrArg Int64.toInt z; omega⟩
  have S2 := S0.uph h4.2 (k := k) (by omega) (Int32.ofNat (15 * 0))
  have fr2 : ∀ o i, ¬ (10 ≤ o ∧ o < 18) → sI (cp I 10 2) (10 + 3) k (Int32.ofNat (15 * 0)) o i = I o i := fun o i z => by rw [sI_o (by omega), cp_o _ _ _ _ _ (by omega)]
  have V2 := C.sv.u h4.2 (t := 10 + k) (by omega) (Int32.ofNat (15 * 0))
  obtain ⟨j, rfl⟩ : ∃ i, n = i + 1 := ⟨n - 1, by omega⟩
  obtain ⟨q', I', h1, ⟨v', S'⟩, h3, h5, h6⟩ := key 23 1 j 0 _ _ (by omega) (by omega) S2 fr2 (by omega) (fun r' h => by
    have : r' = 0 := by omega
    subst this
    exact ⟨fun z => by rw [Int64.lt_iff_toInt_lt] at z; omega, fun z => by omega⟩)
  refine ⟨q', I', ?_, C.tr9 h3 S'.b, h3, h5, h6⟩
  unfold F_X9_bestPhase
  rw [q_tank C, nt_s, q_src C hk, nt_s, q_cel C hx hy, nt_s, q_tim _ hm, nt_s, cp_s hn (by omega) C.ld.sr.b, bd_s, L_X9_bestPhase_e0, if_neg (by decide), gv_o (by omega), i_tno (by omega), show (0 : Int32) = Int32.ofNat (15 * 0) from rfl, c_ener hn C.pv V2 (C.ckt fr2 S2) hx hy (by omega) (by omega), bd_s, if_pos rfl]
  exact h1
/-- the energy with a row turned -/
def eTu (p s : gP) (x y r m : Int32) : Int64 := sEner p (up s 1 (s 1 ^^^ ((1 : Int32) <<< (r &&& 31)))) x y m
theorem c_turned (hn : 2000 ≤ n) (C : CI T0 T1 I p s) {I1 : gI} (fr : ∀ o i, ¬ (10 ≤ o ∧ o < 18) → I1 o i = I o i) {x y r m : Int32} (hx : xIn p x) (hy : yIn p y) (hr : yIn p r) (hm : 1 ≤ m.toInt ∧ m.toInt ≤ 40) (hw : p 3 ≠ -1) : ∃ I', F_X9_turnedEnergy n T0 T1 I1 x y r m = some (eTu p s x y r m, I') ∧ (∀ o i, ¬ (10 ≤ o ∧ o < 18) → I' o i = I o i) ∧ (∃ s', SR I' 10 p s') := by
  have h4 := C.pv.c
  have hh := C.pv.h
  have ht := C.tt
  have S1 : SR I1 2 p s := C.ld.sr.cg (fun q i a b => fr _ _ (by omega))
  have S2 := (cp_SR (a := 10) S1 h4.2 (by omega)).uop h4.2 (s 1 ^^^ ((1 : Int32) <<< (r &&& 31)))
  have fr2 : ∀ o i, ¬ (10 ≤ o ∧ o < 18) → sI (cp I1 10 2) 10 1 (s 1 ^^^ ((1 : Int32) <<< (r &&& 31))) o i = I o i := fun o i z => by rw [sI_o (by omega), cp_o _ _ _ _ _ (by omega)]; exact fr o i z
  have V2 := C.sv.uop h4.2 (xor_b C.sv.o hr.1 (by unfold yIn at hr; omega))
  refine ⟨_, ?_, fr2, _, S2⟩
  unfold F_X9_turnedEnergy F_X6_turn eTu
  rw [fr _ _ (by omega), C.ld.tr.wl, if_neg hw, cp_s hn (by omega) S1.b, bd_s, bd_s, cp_1, S1.op, c_ener hn C.pv V2 (C.ckt fr2 S2) hx hy (by omega) (by omega), bd_s]
theorem a_ifT (hn : 2000 ≤ n) (C : CI T0 T1 I p s) {x y r m : Int32} (hx : xIn p x) (hy : yIn p y) (hr : yIn p r) (hm : 1 ≤ m.toInt ∧ m.toInt ≤ 40) : ∃ I', F_X9_energyIfTurned n T0 T1 I x y r m = some (.inr (if p 3 = -1 then -1 else eTu p s x y r m, I')) ∧ CI T0 T1 I' p s ∧ (∀ o i, ¬ (10 ≤ o ∧ o < 18) → I' o i = I o i) := by
  unfold F_X9_energyIfTurned
  rw [q_tank C, nt_s, q_cel C hx hy, nt_s, q_row C hr, nt_s, q_tim n hm, nt_s]
  by_cases hw : p 3 = -1
  · refine ⟨I, ?_, C, fun _ _ _ => rfl⟩
    unfold F_X9_turnedEnergy
    rw [C.ld.tr.wl, if_pos hw, if_pos hw, bd_s]
  · obtain ⟨I', e, fr, s', S⟩ := c_turned (n := n) hn C (I1 := I) (fun _ _ _ => rfl) hx hy hr hm hw
    refine ⟨I', ?_, C.tr9 fr S.b, fr⟩
    rw [e, bd_s, if_neg hw]
theorem a_row9 (hn : 2000 ≤ n) (C : CI T0 T1 I p s) {x y m : Int32} (hx : xIn p x) (hy : yIn p y) (hm : 1 ≤ m.toInt ∧ m.toInt ≤ 40) : ∃ b I', F_X9_bestRow n T0 T1 I x y m = some (.inr (b, I')) ∧ CI T0 T1 I' p s ∧ (∀ o i, ¬ (10 ≤ o ∧ o < 18) → I' o i = I o i) ∧ (p 3 = -1 → b = -1) ∧ (p 3 ≠ -1 → yIn p b ∧ ∀ r, yIn p r → ¬ eTu p s x y b m < eTu p s x y r m) := by
  have hh := C.pv.h
  have ht := C.tt
  have h4 := C.pv.c
  unfold F_X9_bestRow
  rw [q_tank C, nt_s, q_cel C hx hy, nt_s, q_tim n hm, nt_s]
  by_cases hw : p 3 = -1
  · have key : ∀ (d r j : Nat), r + d = (p 1).toInt.toNat → d < j → L_X9_bestRow n T0 T1 x y m j 0 (-1 : Int32) (-1 : Int64) (Int32.ofNat r) I = some (.inr (-1, I)) := by
      intro d
      induction d with
      | zero =>
        intro r j hr hj
        obtain ⟨j, rfl⟩ : ∃ i, j = i + 1 := ⟨j - 1, by omega⟩
        rw [L_X9_bestRow_e0, C.ld.tr.h, if_pos (by rw [i_le, i_of (by omega)]; omega)]
      | succ d ih =>
        intro r j hr hj
        obtain ⟨j, rfl⟩ : ∃ i, j = i + 1 := ⟨j - 1, by omega⟩
        rw [L_X9_bestRow_e0, C.ld.tr.h, if_neg (by rw [i_le, i_of (by omega)]; omega)]
        unfold F_X9_turnedEnergy
        rw [C.ld.tr.wl, if_pos hw, bd_s]
        dsimp only
        rw [if_pos (by decide), ixp_1]
        exact ih (r + 1) j (by omega) (by omega)
    exact ⟨-1, I, key (p 1).toInt.toNat 0 n (by omega) (by omega), C, fun _ _ _ => rfl, fun _ => rfl, fun q => absurd hw q⟩
  · have nn : ∀ r : Nat, r < (p 1).toInt.toNat → 0 ≤ (eTu p s x y (Int32.ofNat r) m).toInt := fun r hr => (sEner_b C.pv (C.sv.uop h4.2 (xor_b C.sv.o (by rw [i_of (by omega)]; omega) (by rw [i_of (by omega)]; omega))) x y (by omega)).1
    have key : ∀ (d r j b : Nat) (I1 : gI), r + d = (p 1).toInt.toNat → d < j → (∀ o i, ¬ (10 ≤ o ∧ o < 18) → I1 o i = I o i) → (∃ s', SR I1 10 p s') → b < r → (∀ r', r' < r → ¬ eTu p s x y (Int32.ofNat b) m < eTu p s x y (Int32.ofNat r') m) → ∃ b' I', L_X9_bestRow n T0 T1 x y m j 0 (Int32.ofNat b) (eTu p s x y (Int32.ofNat b) m) (Int32.ofNat r) I1 = some (.inr (Int32.ofNat b', I')) ∧ (∀ o i, ¬ (10 ≤ o ∧ o < 18) → I' o i = I o i) ∧ (∃ s', SR I' 10 p s') ∧ b' < (p 1).toInt.toNat ∧ ∀ r', r' < (p 1).toInt.toNat → ¬ eTu p s x y (Int32.ofNat b') m < eTu p s x y (Int32.ofNat r') m := by
      intro d
      induction d with
      | zero =>
        intro r j b I1 hr hj fr S hb hE
        obtain ⟨j, rfl⟩ : ∃ i, j = i + 1 := ⟨j - 1, by omega⟩
        refine ⟨b, I1, ?_, fr, S, by omega, fun r' h => hE r' (by omega)⟩
        rw [L_X9_bestRow_e0, fr _ _ (by omega), C.ld.tr.h, if_pos (by rw [i_le, i_of (by omega)]; omega)]
      | succ d ih =>
        intro r j b I1 hr hj fr S hb hE
        obtain ⟨j, rfl⟩ : ∃ i, j = i + 1 := ⟨j - 1, by omega⟩
        have hro : yIn p (Int32.ofNat r) := by unfold yIn; rw [i_of (by omega)]; omega
        obtain ⟨I2, e, fr2, S2⟩ := c_turned (n := n) hn C fr hx hy hro hm hw
        rw [L_X9_bestRow_e0, fr _ _ (by omega), C.ld.tr.h, if_neg (by rw [i_le, i_of (by omega)]; omega), e, bd_s, ixp_1]
        dsimp only
        by_cases c : lg_cmp (eTu p s x y (Int32.ofNat r) m) (eTu p s x y (Int32.ofNat b) m) ≤ 0
        · rw [if_pos c]
          rw [cmp_n] at c
          refine ih (r + 1) j b I2 (by omega) (by omega) fr2 S2 (by omega) (fun r' h => ?_)
          by_cases h2 : r' = r
          · subst h2; exact c
          · exact hE r' (by omega)
        · rw [if_neg c]
          rw [cmp_n, Classical.not_not] at c
          refine ih (r + 1) j r I2 (by omega) (by omega) fr2 S2 (by omega) (fun r' h => ?_)
          by_cases h2 : r' = r
          · subst h2; exact fun z => by rw [Int64.lt_iff_toInt_lt] at z; omega
          · have := hE r' (by omega)
            rw [Int64.lt_iff_toInt_lt] at this c ⊢
            omega
    obtain ⟨j, rfl⟩ : ∃ i, n = i + 1 := ⟨n - 1, by omega⟩
    have hr0 : yIn p (Int32.ofNat 0) := by unfold yIn; rw [i_of (by omega)]; omega
    obtain ⟨I2, e, fr2, S2⟩ := c_turned (n := j + 1) hn C (I1 := I) (fun _ _ _ => rfl) hx hy hr0 hm hw
    obtain ⟨b', I', h1, h2, ⟨s', S'⟩, h3, h5⟩ := key ((p 1).toInt.toNat - 1) 1 j 0 I2 (by omega) (by omega) fr2 S2 (by omega) (fun r' h => by
      have : r' = 0 := by omega
      subst this
      exact fun z => by rw [Int64.lt_iff_toInt_lt] at z; omega)
    refine ⟨Int32.ofNat b', I', ?_, C.tr9 h2 S'.b, h2, fun q => absurd q hw, fun _ => ⟨by unfold yIn; rw [i_of (by omega)]; omega, fun r hr => ?_⟩⟩
    · have n0 := nn 0 (by omega)
      have e' : F_X9_turnedEnergy (j + 1) T0 T1 I x y 0 m = some (eTu p s x y (Int32.ofNat 0) m, I2) := e
      rw [L_X9_bestRow_e0, C.ld.tr.h, if_neg (by rw [i_le]; show ¬ _ ≤ (0 : Int); omega), e', bd_s]
      dsimp only
      rw [if_neg (by rw [cmp_n, Classical.not_not, Int64.lt_iff_toInt_lt]; show (-1 : Int) < _; omega), show (0 : Int32) + 1 = Int32.ofNat 1 from rfl]
      exact h1
    · unfold yIn at hr
      have := h5 r.toInt.toNat (by omega)
      rw [i_on hr.1] at this
      exact this
end ASKS2
