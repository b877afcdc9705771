theorem ix_2 (k : Nat) : (2 : Int32) + Int32.ofNat k = Int32.ofNat (2 + k) := i_oadd 2 k
theorem ix_5 (k : Nat) : (5 : Int32) + Int32.ofNat k = Int32.ofNat (5 + k) := i_oadd 5 k
theorem ix_6 (k : Nat) : (6 : Int32) + Int32.ofNat k = Int32.ofNat (6 + k) := i_oadd 6 k
theorem ix_9 (k : Nat) : (9 : Int32) + Int32.ofNat k = Int32.ofNat (9 + k) := i_oadd 9 k
theorem ix_10 (k : Nat) : (10 : Int32) + Int32.ofNat k = Int32.ofNat (10 + k) := i_oadd 10 k
theorem ix_13 (k : Nat) : (13 : Int32) + Int32.ofNat k = Int32.ofNat (13 + k) := i_oadd 13 k
theorem ix_14 (k : Nat) : (14 : Int32) + Int32.ofNat k = Int32.ofNat (14 + k) := i_oadd 14 k
theorem ix_17 (k : Nat) : (17 : Int32) + Int32.ofNat k = Int32.ofNat (17 + k) := i_oadd 17 k
theorem ix_18 (k : Nat) : (18 : Int32) + Int32.ofNat k = Int32.ofNat (18 + k) := i_oadd 18 k
theorem ix_21 (k : Nat) : (21 : Int32) + Int32.ofNat k = Int32.ofNat (21 + k) := i_oadd 21 k
theorem ix_22 (k : Nat) : (22 : Int32) + Int32.ofNat k = Int32.ofNat (22 + k) := i_oadd 22 k
theorem ix_25 (k : Nat) : (25 : Int32) + Int32.ofNat k = Int32.ofNat (25 + k) := i_oadd 25 k
theorem ix_26 (k : Nat) : (26 : Int32) + Int32.ofNat k = Int32.ofNat (26 + k) := i_oadd 26 k
theorem ix_29 (k : Nat) : (29 : Int32) + Int32.ofNat k = Int32.ofNat (29 + k) := i_oadd 29 k
theorem ix_33 (k : Nat) : (33 : Int32) + Int32.ofNat k = Int32.ofNat (33 + k) := i_oadd 33 k
theorem ix_37 (k : Nat) : (37 : Int32) + Int32.ofNat k = Int32.ofNat (37 + k) := i_oadd 37 k
theorem ix_42 (k : Nat) : (42 : Int32) + Int32.ofNat k = Int32.ofNat (42 + k) := i_oadd 42 k
theorem ix_61 (k : Nat) : (61 : Int32) + Int32.ofNat k = Int32.ofNat (61 + k) := i_oadd 61 k
theorem ix_77 (k : Nat) : (77 : Int32) + Int32.ofNat k = Int32.ofNat (77 + k) := i_oadd 77 k
theorem ix_48 (k : Nat) : (48 : Int32) + Int32.ofNat k = Int32.ofNat (48 + k) := i_oadd 48 k
theorem xm_3 (k : Nat) : (3 : Int32) * Int32.ofNat k = Int32.ofNat (3 * k) := i_omul 3 k
theorem xm_5 (k : Nat) : (5 : Int32) * Int32.ofNat k = Int32.ofNat (5 * k) := i_omul 5 k
theorem xm_2 (k : Nat) : (2 : Int32) * Int32.ofNat k = Int32.ofNat (2 * k) := i_omul 2 k
theorem xm_20 (k : Nat) : (20 : Int32) * Int32.ofNat k = Int32.ofNat (20 * k) := i_omul 20 k
theorem xm_32 (k : Nat) : (32 : Int32) * Int32.ofNat k = Int32.ofNat (32 * k) := i_omul 32 k
theorem xm_30 (k : Nat) : (30 : Int32) * Int32.ofNat k = Int32.ofNat (30 * k) := i_omul 30 k
theorem ixp_1 (k : Nat) : Int32.ofNat k + (1 : Int32) = Int32.ofNat (k + 1) := i_oadd k 1
theorem ixp_2 (k : Nat) : Int32.ofNat k + (2 : Int32) = Int32.ofNat (k + 2) := i_oadd k 2
theorem ixp_3 (k : Nat) : Int32.ofNat k + (3 : Int32) = Int32.ofNat (k + 3) := i_oadd k 3
theorem ixp_4 (k : Nat) : Int32.ofNat k + (4 : Int32) = Int32.ofNat (k + 4) := i_oadd k 4
theorem gv_k {α : Type} {k z : Nat} {x : Option α} (h : k < z) (hz : z ≤ 2147483648) : gv (Int32.ofNat k) z x = x := gv_o h hz
theorem tn_0 : Int32.toNatClampNeg (0 : Int32) = 0 := rfl
theorem tn_1 : Int32.toNatClampNeg (1 : Int32) = 1 := rfl
theorem gv_0 {α : Type} {z : Nat} {x : Option α} (h : 0 < z) (hz : z ≤ 2147483648) : gv (0 : Int32) z x = x := gv_t (by decide) (by show (0 : Int) < z; omega)
theorem gv_1 {α : Type} {z : Nat} {x : Option α} (h : 1 < z) (hz : z ≤ 2147483648) : gv (1 : Int32) z x = x := gv_t (by decide) (by show (1 : Int) < z; omega)
/-- the number of a truth -/
def b2 (b : Bool) : Int32 := if b then 1 else 0
theorem b2_0 (b : Bool) : (b2 b = 0) ↔ b = false := by cases b <;> simp [b2]
theorem b2_1 (b : Bool) : (b2 b = 1) ↔ b = true := by cases b <;> simp [b2]
theorem b2_b (b : Bool) : b2 b = 0 ∨ b2 b = 1 := by cases b <;> simp [b2]
theorem ii_1 : (1 : Int32).toInt = 1 := rfl
theorem ii_0 : (0 : Int32).toInt = 0 := rfl
theorem sCol_b {p : gP} (h : PV p) (s : gP) (k : Nat) (t : Int32) : xIn p (sCol p s k t) := by
  have hw := h.w
  unfold xIn sCol
  rw [jmax_i, jmin_i, i_sub (by rw [ii_1]; omega) (by rw [ii_1]; omega), ii_1, ii_0]
  omega
theorem sRow_b {p : gP} (h : PV p) (s : gP) (k : Nat) (t : Int32) : yIn p (sRow p s k t) := by
  have hw := h.h
  unfold yIn sRow
  rw [jmax_i, jmin_i, i_sub (by rw [ii_1]; omega) (by rw [ii_1]; omega), ii_1, ii_0]
  omega
/-- the reference's arrays: its plan is p, the state at o is s -/
def MK (K : gI) (o : Nat) (p s : gP) : Prop := (∀ i, K (153 + 2) i = p i) ∧ (∀ i, K o i = s i) ∧ (TV K) ∧ (o ≠ 162 ∧ o ≠ 153)
theorem MK.hp {K : gI} {o : Nat} {p s : gP} (H : MK K o p s) : ∀ i, K (153 + 2) i = p i := H.1
theorem MK.hs {K : gI} {o : Nat} {p s : gP} (H : MK K o p s) : ∀ i, K o i = s i := H.2.1
theorem MK.tv {K : gI} {o : Nat} {p s : gP} (H : MK K o p s) : TV K := H.2.2.1
theorem MK.ho {K : gI} {o : Nat} {p s : gP} (H : MK K o p s) : o ≠ 162 ∧ o ≠ 153 := H.2.2.2
theorem MK.mk {K : gI} {o : Nat} {p s : gP} (x_hp : ∀ i, K (153 + 2) i = p i) (x_hs : ∀ i, K o i = s i) (x_tv : TV K) (x_ho : o ≠ 162 ∧ o ≠ 153) : MK K o p s := by
  unfold MK
  exact ⟨x_hp, x_hs, x_tv, x_ho⟩
theorem MK.tq {K K' : gI} {o : Nat} {p s : gP} (h : MK K o p s) (q : Tq K K') : MK K' o p s :=
  MK.mk (fun i => (q.get (by decide) (Or.inl (by decide))).trans (h.hp i)) (fun i => (q.get h.ho.1 (Or.inl h.ho.2)).trans (h.hs i)) (q.tv h.tv) h.ho
section MODEL
variable {n : Nat} {K : gI} {o : Nat} {p s : gP}
theorem in_s (n : Nat) (a l u : Int32) : F_X10_in n a l u = some (b2 (decide (l ≤ a ∧ a ≤ u))) := by
  unfold F_X10_in
  have e1 : a < l ↔ ¬ l ≤ a := by rw [i_lt, i_le]; omega
  have e2 : u < a ↔ ¬ a ≤ u := by rw [i_lt, i_le]; omega
  by_cases h1 : l ≤ a
  · by_cases h2 : a ≤ u
    · simp [e1, e2, h1, h2, b2]
    · simp [e1, e2, h1, h2, b2]
  · simp [e1, e2, h1, b2]
theorem m_col (h : MK K o p s) {k : Nat} (hk : k < 4) (t : Int32) : F_X10_columnOf n o 30 K (Int32.ofNat k) t = some (sCol p s k t) := by
  unfold F_X10_columnOf
  simp (disch := omega) only [ix_14, ix_22, gv_k, i_tno, h.hs, h.hp]
  rfl
theorem m_row (h : MK K o p s) {k : Nat} (hk : k < 4) (t : Int32) : F_X10_rowOf n o 30 K (Int32.ofNat k) t = some (sRow p s k t) := by
  unfold F_X10_rowOf
  simp (disch := omega) only [ix_18, ix_26, gv_k, i_tno, h.hs, h.hp]
  rfl
theorem m_open (h : MK K o p s) (y : Int32) : F_X10_isOpenIn n o 30 K y = some (b2 (sOpen s y)) := by
  unfold F_X10_isOpenIn
  simp (disch := omega) only [gv_1, tn_1, h.hs]
  unfold sOpen b2
  by_cases hq : (s 1 >>> (y &&& 31)) &&& 1 = 1
  · rw [if_pos hq, decide_eq_true hq, if_pos rfl]
  · rw [if_neg hq, decide_eq_false hq]; rfl
theorem m_wall (h : MK K o p s) : F_X10_hasWall n K = some (b2 (decide (p 3 ≠ -1))) := by
  unfold F_X10_hasWall
  rw [h.hp]
  by_cases hq : p 3 = -1
  · simp [hq, b2]
  · simp [hq, b2]
theorem cut_f {w a b : Int32} : (if w ≤ a then (if a ≤ w then some (0 : Int32) else (if w ≤ b then some (0 : Int32) else some (1 : Int32))) else (if w < b then some (1 : Int32) else (if a ≤ w then some (0 : Int32) else (if w ≤ b then some (0 : Int32) else some (1 : Int32))))) = some (b2 (decide (a < w ∧ w < b ∨ w < a ∧ b < w))) := by
  simp only [i_le, i_lt]
  rcases Int.lt_trichotomy a.toInt w.toInt with h1 | h1 | h1 <;> rcases Int.lt_trichotomy b.toInt w.toInt with h2 | h2 | h2
  all_goals
    first
    | (rw [decide_eq_true (by omega)]; repeat' (first | rw [if_pos (by omega)] | rw [if_neg (by omega)] | rfl))
    | (rw [decide_eq_false (by omega)]; repeat' (first | rw [if_pos (by omega)] | rw [if_neg (by omega)] | rfl))
theorem m_cut (h : MK K o p s) (a b : Int32) : F_X10_isCut n K a b = some (b2 (sCut p a b)) := by
  unfold F_X10_isCut
  rw [m_wall h, bd_s, h.hp]
  by_cases hq : p 3 = -1
  · simp [hq, b2, sCut]
  · rw [if_neg (by rw [b2_0]; simp [hq]), cut_f]
    unfold sCut
    simp [hq]
theorem m_shut (h : MK K o p s) (x y : Int32) : F_X10_isShut n o 30 K x y = some (b2 (sShut p s x y)) := by
  unfold F_X10_isShut
  rw [m_wall h, bd_s, h.hp]
  by_cases hq : p 3 = -1
  · simp [hq, b2, sShut]
  · rw [if_neg (by rw [b2_0]; simp [hq]), m_open h, bd_s]
    unfold sShut
    by_cases hx : x = p 3
    · rw [if_pos hx]
      cases hy : sOpen s y <;> simp [hq, hx, b2]
    · rw [if_neg hx]
      simp [hx, b2]
theorem m_thr (hn : 2000 ≤ n) (hp : PV p) (h : MK K o p s) {fx fy x y row : Int32} (h1 : xIn p fx) (h2 : yIn p fy) (h3 : xIn p x) (h4 : yIn p y) (h5 : yIn p row) : ∃ K', F_X10_through n K fx fy x y row = some (sThru p fx fy x y row, K') ∧ Tq K K' := by
  have hw := hp.w
  have hh := hp.h
  have hl := hp.wl
  unfold xIn at h1 h3
  unfold yIn at h2 h4 h5
  unfold F_X10_through
  have d1 : (p 3 - fx).toInt = (p 3).toInt - fx.toInt := i_sub (by omega) (by omega)
  have d2 : (row - fy).toInt = row.toInt - fy.toInt := i_sub (by omega) (by omega)
  have d3 : (x - p 3).toInt = x.toInt - (p 3).toInt := i_sub (by omega) (by omega)
  have d4 : (y - row).toInt = y.toInt - row.toInt := i_sub (by omega) (by omega)
  have hn' : 1000 ≤ n := by omega
  obtain ⟨K1, e1, q1⟩ := far_s hn' h.tv (a1 := p 3 - fx) (a2 := row - fy) (by omega) (by omega)
  have hk := h.tq q1
  obtain ⟨K2, e2, q2⟩ := far_s hn' hk.tv (a1 := x - p 3) (a2 := y - row) (by omega) (by omega)
  rw [h.hp, e1, bd_s]
  dsimp only
  rw [hk.hp, e2, bd_s]
  refine ⟨K2, ?_, q1.trans q2⟩
  unfold sThru
  dsimp only
theorem m_del (hp : PV p) (h : MK K o p s) {k : Nat} (hk : k < (p 4).toInt.toNat) (way : Int32) : F_X10_delayOf n K (Int32.ofNat k) way = some (sDel p k way) := by
  have h4 := hp.c
  have hl := hp.len k hk
  unfold F_X10_delayOf
  simp (disch := omega) only [ix_9, ix_5, gv_k, i_tno, h.hp]
  rw [gd_t]
  · rfl
  · rw [i_eq, ii_0]; omega
theorem m_coff (hn : 2000 ≤ n) (hp : PV p) (h : MK K o p s) (k : Nat) (e : Int32) : F_X10_isCutOff n K (Int32.ofNat k) e = some (b2 (sCutOff p k e)) := by
  have hc := hp.cut
  unfold F_X10_isCutOff sCutOff
  have key : ∀ (d c j : Nat), c + d = (p 41).toNatClampNeg → d < j → L_X10_isCutOff n K (Int32.ofNat k) e j 0 (Int32.ofNat c) = some (b2 (an (fun c => decide (p (42 + 3 * c) = Int32.ofNat k ∧ p (42 + 3 * c + 1) ≤ e ∧ e ≤ p (42 + 3 * c + 2))) d c)) := by
    intro d
    induction d with
    | zero =>
      intro c j hcd hj
      obtain ⟨j, rfl⟩ : ∃ i, j = i + 1 := ⟨j - 1, by omega⟩
      rw [L_X10_isCutOff_e0, h.hp, if_pos]
      · rfl
      · rw [i_le, i_of (by rw [i_tn] at hcd; omega)]; rw [i_tn] at hcd; omega
    | succ d ih =>
      intro c j hcd hj
      obtain ⟨j, rfl⟩ : ∃ i, j = i + 1 := ⟨j - 1, by omega⟩
      rw [i_tn] at hcd
      rw [L_X10_isCutOff_e0, h.hp, if_neg (by rw [i_le, i_of (by omega)]; omega)]
      simp (disch := omega) only [xm_3, ix_42, ixp_1, ixp_2, gv_k, i_tno, h.hp, in_s, bd_s, ih (c + 1) j (by rw [i_tn]; omega) (by omega)]
      rw [an_s]
      by_cases h1 : p (42 + 3 * c) = Int32.ofNat k
      · rw [if_pos h1]
        by_cases h2 : p (42 + 3 * c + 1) ≤ e ∧ e ≤ p (42 + 3 * c + 2)
        · simp [h1, h2, b2]
        · rw [if_pos (by rw [b2_0]; simp only [decide_eq_false_iff_not]; exact h2), if_neg (by simp only [decide_eq_true_eq]; exact fun q => h2 q.2)]
      · rw [if_neg h1, if_neg (by simp only [decide_eq_true_eq]; exact fun q => h1 q.1)]
  have := key (p 41).toNatClampNeg 0 n (by omega) (by rw [i_tn]; omega)
  exact this
theorem m_emit (hn : 2000 ≤ n) (hp : PV p) (h : MK K o p s) {k : Nat} (hk : k < (p 4).toInt.toNat) (e : Int32) : F_X10_emits n o 30 K (Int32.ofNat k) e = some (sEmit p k (s (6 + k)) e) := by
  have h4 := hp.c
  have hs := hp.srt k hk
  unfold F_X10_emits sEmit
  simp (disch := omega) only [ix_13, ix_17, ix_6, ix_21, ix_25, ix_29, gv_k, i_tno, h.hp, h.hs, m_coff hn hp h, bd_s]
  by_cases h1 : e < p (13 + k)
  · rw [if_pos h1, if_pos h1]
  rw [if_neg h1, if_neg h1]
  by_cases h2 : p (17 + k) < e
  · rw [if_pos h2, if_pos h2]
  rw [if_neg h2, if_neg h2]
  cases h3 : sCutOff p k e
  · have f0 : (b2 false = 0) := rfl
    have f1 : ¬ (false = true) := by decide
    rw [if_pos f0, if_neg f1]
    rcases hs with hs | ⟨hs, q1, q2, q3, q4⟩ | ⟨hs, q1, q2⟩
    · have a1 : ¬ p (21 + k) = 1 := by rw [hs]; decide
      have a2 : ¬ p (21 + k) = 2 := by rw [hs]; decide
      rw [if_neg a1, if_neg a2, if_neg a1, if_neg a2]
    · rw [if_pos hs, if_pos hs, gd_t]
      · by_cases h5 : p (25 + k) ≤ md (e - p (13 + k)) (p (25 + k) + p (29 + k))
        · rw [if_pos h5]; exact if_pos h5
        · rw [if_neg h5]; exact if_neg h5
      · rw [i_eq, ii_0, i_add (by omega) (by omega)]; omega
    · have a1 : ¬ p (21 + k) = 1 := by rw [hs]; decide
      rw [if_neg a1, if_neg a1, if_pos hs, if_pos hs, gd_t]
      rw [i_eq, ii_0]; omega
  · have f0 : ¬ (b2 true = 0) := by decide
    rw [if_neg f0, if_pos rfl]
theorem m_val (hp : PV p) (h : MK K o p s) {k : Nat} (hk : k < 4) {a : Int32} (h0 : 0 ≤ a.toInt) (h1 : a.toInt < 360) : F_X10_valueAt n K (Int32.ofNat k) a = some (sVal p k a) := by
  unfold F_X10_valueAt sVal
  simp (disch := omega) only [ix_37, gv_k, i_tno, h.hp, (sin_at h0 h1 n).2.1, bd_s]
  by_cases h2 : p (37 + k) = 1
  · rw [if_pos h2, if_pos h2]
    by_cases h3 : (180 : Int32) ≤ a
    · rw [if_pos h3, if_pos h3]
    · rw [if_neg h3, if_neg h3]
  · rw [if_neg h2, if_neg h2]
    by_cases h3 : p (37 + k) = 2
    · rw [if_pos h3, if_pos h3]
    · rw [if_neg h3, if_neg h3]
theorem m_ang (hp : PV p) (h : MK K o p s) {k : Nat} (hk : k < (p 4).toInt.toNat) (way t : Int32) : F_X10_angleOf n o 30 K (Int32.ofNat k) way t = some (sAng p k (s (10 + k)) way t) := by
  have h4 := hp.c
  have hl := hp.len k hk
  have hl2 := hp.per k hk
  unfold F_X10_angleOf
  simp (disch := omega) only [ix_10, ix_9, ix_5, gv_k, i_tno, h.hp, h.hs]
  rw [gd_t, gd_t]
  · rfl
  · rw [i_eq, ii_0]; omega
  · rw [i_eq, ii_0]; omega
theorem m_brt (hn : 2000 ≤ n) (hp : PV p) (h : MK K o p s) {k : Nat} (hk : k < (p 4).toInt.toNat) {way : Int32} (hw0 : 0 ≤ way.toInt) (hw1 : way.toInt ≤ 8190) (t : Int32) : F_X10_brought n o 30 K (Int32.ofNat k) way t = some (sBrt p k (s (6 + k)) (s (10 + k)) way t) := by
  have h4 := hp.c
  have hf := hp.f
  have ha := fm_b (s (10 + k) + 360 * t / p (9 + k) - 360 * way / p (5 + k))
  unfold F_X10_brought sBrt sFad
  simp only [m_del hp h hk, bd_s, m_emit hn hp h hk, h.hp, m_ang hp h hk]
  rw [m_val hp h (by omega) (a := sAng p k (s (10 + k)) way t) ha.1 ha.2]
  simp only [bd_s]
  by_cases h2 : p 2 ≤ 0
  · rw [if_pos h2, if_pos h2]
  · rw [if_neg h2, if_neg h2, gd_t]
    rw [i_le, ii_0] at h2
    rw [i_eq, ii_0, i_add (by omega) (by omega)]; omega
theorem m_short (hn : 2000 ≤ n) (hp : PV p) (h : MK K o p s) {k : Nat} (hk : k < 4) {x y : Int32} (hx : xIn p x) (hy : yIn p y) (t : Int32) : ∃ K', F_X10_shortestIn n o 30 K (Int32.ofNat k) x y t = some (sShort p s k x y t, K') ∧ Tq K K' := by
  have hw := hp.w
  have hh := hp.h
  have hcol := sCol_b hp s k t
  have hrow := sRow_b hp s k t
  unfold F_X10_shortestIn sShort
  rw [m_col h hk, bd_s, m_row h hk, bd_s, m_shut h, bd_s]
  cases h1 : sShut p s x y
  · rw [if_pos (show b2 false = 0 from rfl), m_cut h, bd_s, if_neg (show ¬ (false = true) by decide)]
    cases h2 : sCut p (sCol p s k t) x
    · rw [if_pos (show b2 false = 0 from rfl), if_neg (show ¬ (false = true) by decide)]
      have d1 : (x - sCol p s k t).toInt = x.toInt - (sCol p s k t).toInt := i_sub (by unfold xIn at hx hcol; omega) (by unfold xIn at hx hcol; omega)
      have d2 : (y - sRow p s k t).toInt = y.toInt - (sRow p s k t).toInt := i_sub (by unfold yIn at hy hrow; omega) (by unfold yIn at hy hrow; omega)
      have hn' : 1000 ≤ n := by omega
      obtain ⟨K1, e1, q1⟩ := far_s hn' h.tv (a1 := x - sCol p s k t) (a2 := y - sRow p s k t) (by unfold xIn at hx hcol; omega) (by unfold yIn at hy hrow; omega)
      rw [e1, bd_s]
      exact ⟨K1, by dsimp only, q1⟩
    · rw [if_neg (show ¬ b2 true = 0 by decide), if_pos (show true = true from rfl)]
      have key : ∀ (d r j : Nat) (b : Int32) (K : gI), MK K o p s → r + d = (p 1).toInt.toNat → d < j → ∃ K', L_X10_shortestIn n o 30 (Int32.ofNat k) x y t j 0 (sCol p s k t) (sRow p s k t) b (Int32.ofNat r) K = some (lp (fun r best => if sOpen s (Int32.ofNat r) then (if best = -1 ∨ sThru p (sCol p s k t) (sRow p s k t) x y (Int32.ofNat r) < best then sThru p (sCol p s k t) (sRow p s k t) x y (Int32.ofNat r) else best) else best) d r b, K') ∧ Tq K K' := by
        intro d
        induction d with
        | zero =>
          intro r j b K h hr hj
          obtain ⟨j, rfl⟩ : ∃ i, j = i + 1 := ⟨j - 1, by omega⟩
          rw [L_X10_shortestIn_e0, h.hp, if_pos (by rw [i_le, i_of (by omega)]; omega)]
          exact ⟨K, rfl, Tq.rfl'⟩
        | succ d ih =>
          intro r j b K h hr hj
          obtain ⟨j, rfl⟩ : ∃ i, j = i + 1 := ⟨j - 1, by omega⟩
          have hro : yIn p (Int32.ofNat r) := by unfold yIn; rw [i_of (by omega)]; omega
          obtain ⟨K1, e1, q1⟩ := m_thr hn hp h hcol hrow hx hy hro
          have h' := h.tq q1
          rw [L_X10_shortestIn_e0, h.hp, if_neg (by rw [i_le, i_of (by omega)]; omega), e1, bd_s, lp_s]
          dsimp only
          rw [m_open h', bd_s, ixp_1]
          cases h3 : sOpen s (Int32.ofNat r)
          · rw [if_pos (show b2 false = 0 from rfl), if_neg (show ¬ (false = true) by decide)]
            obtain ⟨K2, e2, q2⟩ := ih (r + 1) j b K1 h' (by omega) (by omega)
            exact ⟨K2, e2, q1.trans q2⟩
          · rw [if_neg (show ¬ b2 true = 0 by decide), if_pos (show true = true from rfl)]
            by_cases h4 : b = -1
            · rw [if_pos h4, if_pos (Or.inl h4)]
              obtain ⟨K2, e2, q2⟩ := ih (r + 1) j _ K1 h' (by omega) (by omega)
              exact ⟨K2, e2, q1.trans q2⟩
            · rw [if_neg h4]
              by_cases h5 : b ≤ sThru p (sCol p s k t) (sRow p s k t) x y (Int32.ofNat r)
              · rw [if_pos h5, if_neg (fun q => q.elim h4 (by rw [i_lt]; rw [i_le] at h5; omega))]
                obtain ⟨K2, e2, q2⟩ := ih (r + 1) j b K1 h' (by omega) (by omega)
                exact ⟨K2, e2, q1.trans q2⟩
              · rw [if_neg h5, if_pos (Or.inr (by rw [i_lt]; rw [i_le] at h5; omega))]
                obtain ⟨K2, e2, q2⟩ := ih (r + 1) j _ K1 h' (by omega) (by omega)
                exact ⟨K2, e2, q1.trans q2⟩
      obtain ⟨K', e, q⟩ := key (p 1).toNatClampNeg 0 n (-1) K h (by rw [i_tn]; omega) (by rw [i_tn]; omega)
      exact ⟨K', e, q⟩
  · rw [if_neg (show ¬ b2 true = 0 by decide), if_pos (show true = true from rfl)]
    exact ⟨K, rfl, Tq.rfl'⟩
theorem sImX_d {p s : gP} (hp : PV p) {side : Nat} {x c : Int32} (hx : xIn p x) (hc : xIn p c) : (x - sImX p side c).toInt.natAbs < 32 := by
  have hw := hp.w
  unfold xIn at hx hc
  have i2 : (2 : Int32).toInt = 2 := rfl
  have im : (-1 : Int32).toInt = -1 := rfl
  unfold sImX
  by_cases h0 : side = 0
  · rw [if_pos h0, i_sub, i_sub] <;> (try rw [i_sub]) <;> omega
  · rw [if_neg h0]
    by_cases h1 : side = 1
    · rw [if_pos h1]
      have m : (2 * p 0).toInt = 2 * (p 0).toInt := i_mul (by rw [i2]; omega) (by rw [i2]; omega)
      have e1 : (2 * p 0 - 1).toInt = 2 * (p 0).toInt - 1 := by rw [i_sub, m, ii_1] <;> rw [m, ii_1] <;> omega
      have e2 : (2 * p 0 - 1 - c).toInt = 2 * (p 0).toInt - 1 - c.toInt := by rw [i_sub, e1] <;> rw [e1] <;> omega
      rw [i_sub, e2] <;> (try rw [e2]) <;> omega
    · rw [if_neg h1, i_sub] <;> omega
theorem sImY_d {p s : gP} (hp : PV p) {side : Nat} {y c : Int32} (hy : yIn p y) (hc : yIn p c) : (y - sImY p side c).toInt.natAbs < 20 := by
  have hw := hp.h
  unfold yIn at hy hc
  have i2 : (2 : Int32).toInt = 2 := rfl
  have im : (-1 : Int32).toInt = -1 := rfl
  unfold sImY
  by_cases h0 : side = 2
  · rw [if_pos h0, i_sub, i_sub] <;> (try rw [i_sub]) <;> omega
  · rw [if_neg h0]
    by_cases h1 : side = 3
    · rw [if_pos h1]
      have m : (2 * p 1).toInt = 2 * (p 1).toInt := i_mul (by rw [i2]; omega) (by rw [i2]; omega)
      have e1 : (2 * p 1 - 1).toInt = 2 * (p 1).toInt - 1 := by rw [i_sub, m, ii_1] <;> rw [m, ii_1] <;> omega
      have e2 : (2 * p 1 - 1 - c).toInt = 2 * (p 1).toInt - 1 - c.toInt := by rw [i_sub, e1] <;> rw [e1] <;> omega
      rw [i_sub, e2] <;> (try rw [e2]) <;> omega
    · rw [if_neg h1, i_sub] <;> omega
theorem m_mir (hn : 2000 ≤ n) (hp : PV p) (h : MK K o p s) {k : Nat} (hk : k < (p 4).toInt.toNat) {side : Nat} (hs : side < 4) {x y : Int32} (hx : xIn p x) (hy : yIn p y) (t : Int32) : ∃ K', F_X10_broughtBy n o 30 K (Int32.ofNat k) (Int32.ofNat side) x y t = some (sMir p s k side x y t, K') ∧ Tq K K' := by
  have h4 := hp.c
  have hcol := sCol_b hp s k t
  have hrow := sRow_b hp s k t
  have hn' : 1000 ≤ n := by omega
  unfold F_X10_broughtBy sMir
  simp (disch := omega) only [ix_33, gv_k, i_tno, h.hp, m_col h, m_row h, bd_s]
  by_cases h1 : p (33 + side) = 0
  · rw [if_pos h1, if_pos h1]; exact ⟨K, rfl, Tq.rfl'⟩
  rw [if_neg h1, if_neg h1]
  obtain ⟨K1, e1, q1⟩ := far_s hn' h.tv (sImX_d (s := s) (side := side) hp hx hcol) (sImY_d (s := s) (side := side) hp hy hrow)
  have hb := far_b (x - sImX p side (sCol p s k t)) (y - sImY p side (sRow p s k t))
  have hbr := m_brt hn hp (h.tq q1) hk hb.1 (by omega) t
  refine ⟨K1, ?_, q1⟩
  have fin : ∀ a b, F_X10_far n K a b = some (far (x - sImX p side (sCol p s k t)) (y - sImY p side (sRow p s k t)), K1) → bd (F_X10_far n K a b) (fun v113 => bd (F_X10_brought n o 30 v113.2 (Int32.ofNat k) v113.1 t) fun v118 => some (v118 * p (33 + side) / 100, v113.2)) = some (sBrt p k (s (6 + k)) (s (10 + k)) (far (x - sImX p side (sCol p s k t)) (y - sImY p side (sRow p s k t))) t * p (33 + side) / 100, K1) := by
    intro a b e
    rw [e, bd_s]
    dsimp only
    rw [hbr, bd_s]
  rcases (show side = 0 ∨ side = 1 ∨ side = 2 ∨ side = 3 by omega) with rfl | rfl | rfl | rfl
  · rw [if_neg (show ¬ (2 : Int32) ≤ Int32.ofNat 0 by decide), if_pos (show Int32.ofNat 0 = 0 from rfl)]
    exact fin _ _ (by simpa [sImX, sImY] using e1)
  · rw [if_neg (show ¬ (2 : Int32) ≤ Int32.ofNat 1 by decide), if_neg (show ¬ Int32.ofNat 1 = 0 by decide)]
    exact fin _ _ (by simpa [sImX, sImY] using e1)
  · rw [if_pos (show (2 : Int32) ≤ Int32.ofNat 2 by decide), if_pos (show Int32.ofNat 2 = (2 : Int32) from rfl)]
    exact fin _ _ (by simpa [sImX, sImY] using e1)
  · rw [if_pos (show (2 : Int32) ≤ Int32.ofNat 3 by decide), if_neg (show ¬ Int32.ofNat 3 = (2 : Int32) by decide)]
    exact fin _ _ (by simpa [sImX, sImY] using e1)
theorem m_part (hn : 2000 ≤ n) (hp : PV p) (hv : SV p s) (h : MK K o p s) {k : Nat} (hk : k < (p 4).toInt.toNat) {x y : Int32} (hx : xIn p x) (hy : yIn p y) (t : Int32) : ∃ K', F_X10_partIn n o 30 K (Int32.ofNat k) x y t = some (sPart p s k x y t, K') ∧ Tq K K' := by
  have h4 := hp.c
  have hw := hp.w
  have hh := hp.h
  have hcol := sCol_b hp s k t
  have hrow := sRow_b hp s k t
  have hn' : 1000 ≤ n := by omega
  unfold F_X10_partIn sPart
  simp (disch := omega) only [ix_2, gv_k, i_tno, h.hs, m_col h, m_row h, m_shut h, m_cut h, bd_s, gv_1, tn_1]
  by_cases h1 : s (2 + k) = 0
  · rw [if_pos h1, if_pos h1]; exact ⟨K, rfl, Tq.rfl'⟩
  rw [if_neg h1, if_neg h1]
  rcases Bool.eq_false_or_eq_true (sShut p s x y) with h2 | h2
  · rw [h2, if_neg (show ¬ b2 true = 0 by decide), if_pos (show true = true from rfl)]; exact ⟨K, rfl, Tq.rfl'⟩
  rw [h2, if_pos (show b2 false = 0 from rfl), if_neg (show ¬ (false = true) by decide)]
  cases h3 : sCut p (sCol p s k t) x
  · rw [if_pos (show b2 false = 0 from rfl), if_neg (show ¬ (false = true) by decide)]
    obtain ⟨j, rfl⟩ : ∃ i, n = i + 5 := ⟨n - 5, by omega⟩
    have c4 : ∀ c : Nat, c < 4 → ¬ ((4 : Int32) ≤ Int32.ofNat c) := by
      intro c hc
      have : (4 : Int32) = Int32.ofNat 4 := rfl
      rw [this, i_ole (by omega) (by omega)]; omega
    obtain ⟨K1, e1, q1⟩ := m_mir hn hp h hk (side := 0) (by omega) hx hy t
    have k1 := h.tq q1
    obtain ⟨K2, e2, q2⟩ := m_mir hn hp k1 hk (side := 1) (by omega) hx hy t
    have k2 := k1.tq q2
    obtain ⟨K3, e3, q3⟩ := m_mir hn hp k2 hk (side := 2) (by omega) hx hy t
    have k3 := k2.tq q3
    obtain ⟨K4, e4, q4⟩ := m_mir hn hp k3 hk (side := 3) (by omega) hx hy t
    have k4 := k3.tq q4
    have d1 : (x - sCol p s k t).toInt = x.toInt - (sCol p s k t).toInt := i_sub (by unfold xIn at hx hcol; omega) (by unfold xIn at hx hcol; omega)
    have d2 : (y - sRow p s k t).toInt = y.toInt - (sRow p s k t).toInt := i_sub (by unfold yIn at hy hrow; omega) (by unfold yIn at hy hrow; omega)
    obtain ⟨K5, e5, q5⟩ := far_s hn' k4.tv (a1 := x - sCol p s k t) (a2 := y - sRow p s k t) (by unfold xIn at hx hcol; omega) (by unfold yIn at hy hrow; omega)
    have k5 := k4.tq q5
    have hb := far_b (x - sCol p s k t) (y - sRow p s k t)
    have e6 := m_brt hn hp k5 hk hb.1 (by omega) t
    have z0 : (0 : Int32) = Int32.ofNat 0 := rfl
    refine ⟨K5, ?_, q1.trans (q2.trans (q3.trans (q4.trans q5)))⟩
    have L : L_X10_partIn (j + 5) o 30 (Int32.ofNat k) x y t (j + 4 + 1) 0 (sCol p s k t) (sRow p s k t) 0 (Int32.ofNat 0) K = some (0 + sMir p s k 0 x y t + sMir p s k 1 x y t + sMir p s k 2 x y t + sMir p s k 3 x y t + sBrt p k (s (6 + k)) (s (10 + k)) (far (x - sCol p s k t) (y - sRow p s k t)) t, K5) := by
      rw [L_X10_partIn_e0, if_neg (c4 0 (by decide)), e1, bd_s, ixp_1]
      dsimp only
      rw [L_X10_partIn_e0, if_neg (c4 1 (by decide)), e2, bd_s, ixp_1]
      dsimp only
      rw [L_X10_partIn_e0, if_neg (c4 2 (by decide)), e3, bd_s, ixp_1]
      dsimp only
      rw [L_X10_partIn_e0, if_neg (c4 3 (by decide)), e4, bd_s, ixp_1]
      dsimp only
      rw [L_X10_partIn_e0, if_pos (by decide), e5, bd_s]
      dsimp only
      rw [e6, bd_s]
    exact L
  · rw [if_neg (show ¬ b2 true = 0 by decide), if_pos (show true = true from rfl)]
    by_cases h5 : s 1 = 0
    · rw [if_pos h5, if_pos h5]; exact ⟨K, rfl, Tq.rfl'⟩
    rw [if_neg h5, if_neg h5]
    have ho := hv.o
    have ho1 : (s 1).toInt ≠ 0 := fun q => h5 (i_eq.mpr (by rw [q]; rfl))
    have hone := one_b (v := s 1) (by omega) (by omega)
    have key : ∀ (d r j : Nat) (a : Int32) (K : gI), MK K o p s → r + d = (p 1).toInt.toNat → d < j → ∃ K', L_X10_partIn n o 30 (Int32.ofNat k) x y t j 1 (sCol p s k t) (sRow p s k t) a (Int32.ofNat r) K = some (lp (fun r a => if sOpen s (Int32.ofNat r) then a + sBrt p k (s (6 + k)) (s (10 + k)) (sThru p (sCol p s k t) (sRow p s k t) x y (Int32.ofNat r)) t else a) d r a / one (s 1), K') ∧ Tq K K' := by
      intro d
      induction d with
      | zero =>
        intro r j a K h hr hj
        obtain ⟨j, rfl⟩ : ∃ i, j = i + 1 := ⟨j - 1, by omega⟩
        rw [L_X10_partIn_e1, h.hp, if_pos (by rw [i_le, i_of (by omega)]; omega)]
        simp (disch := omega) only [gv_1, tn_1, h.hs]
        rw [ones_s (by omega) ho.1 ho.2, bd_s, gd_t (by rw [i_eq, ii_0]; omega)]
        exact ⟨K, rfl, Tq.rfl'⟩
      | succ d ih =>
        intro r j a K h hr hj
        obtain ⟨j, rfl⟩ : ∃ i, j = i + 1 := ⟨j - 1, by omega⟩
        have hro : yIn p (Int32.ofNat r) := by unfold yIn; rw [i_of (by omega)]; omega
        rw [L_X10_partIn_e1, h.hp, if_neg (by rw [i_le, i_of (by omega)]; omega), m_open h, bd_s, lp_s, ixp_1]
        cases h6 : sOpen s (Int32.ofNat r)
        · rw [if_pos (show b2 false = 0 from rfl), if_neg (show ¬ (false = true) by decide)]
          obtain ⟨K2, e2, q2⟩ := ih (r + 1) j (a + 0) K h (by omega) (by omega)
          rw [e2]
          exact ⟨K2, by rw [Int32.add_zero], q2⟩
        · rw [if_neg (show ¬ b2 true = 0 by decide), if_pos (show true = true from rfl)]
          obtain ⟨K1, e1, q1⟩ := m_thr hn hp h hcol hrow hx hy hro
          have hb := sThru_b p (sCol p s k t) (sRow p s k t) x y (Int32.ofNat r)
          rw [e1, bd_s]
          dsimp only
          rw [m_brt hn hp (h.tq q1) hk hb.1 hb.2, bd_s]
          obtain ⟨K2, e2, q2⟩ := ih (r + 1) j (a + sBrt p k (s (6 + k)) (s (10 + k)) (sThru p (sCol p s k t) (sRow p s k t) x y (Int32.ofNat r)) t) K1 (h.tq q1) (by omega) (by omega)
          exact ⟨K2, e2, q1.trans q2⟩
    obtain ⟨K', e, q⟩ := key (p 1).toNatClampNeg 0 n 0 K h (by rw [i_tn]; omega) (by rw [i_tn]; omega)
    exact ⟨K', e, q⟩
theorem m_wave (hn : 2000 ≤ n) (hp : PV p) (hv : SV p s) (h : MK K o p s) {x y : Int32} (hx : xIn p x) (hy : yIn p y) (t : Int32) : ∃ K', F_X10_waveIn n o 30 K x y t = some (sWave p s x y t, K') ∧ Tq K K' := by
  have h4 := hp.c
  have h3 := hp.sh
  have l2 : ∀ (d i j : Nat) (a : Int32) (K : gI), MK K o p s → i + d = (p 60).toInt.toNat → d < j → L_X10_waveIn n o 30 x y t j 1 a (Int32.ofNat i) K = some (lp (fun i a => if sHold p i x y then a * p (61 + 5 * i + 4) / 100 else a) d i a, K) := by
    intro d
    induction d with
    | zero =>
      intro i j a K h hi hj
      obtain ⟨j, rfl⟩ : ∃ i, j = i + 1 := ⟨j - 1, by omega⟩
      rw [L_X10_waveIn_e1, h.hp, if_pos (by rw [i_le, i_of (by omega)]; omega)]
      rfl
    | succ d ih =>
      intro i j a K h hi hj
      obtain ⟨j, rfl⟩ : ∃ i, j = i + 1 := ⟨j - 1, by omega⟩
      rw [L_X10_waveIn_e1, h.hp, if_neg (by rw [i_le, i_of (by omega)]; omega), lp_s]
      have A := fun a => ih (i + 1) j a K h (by omega) (by omega)
      simp (disch := omega) only [xm_5, ix_61, ixp_1, ixp_2, ixp_3, ixp_4, gv_k, i_tno, h.hp, in_s, bd_s, A]
      unfold sHold
      by_cases c1 : p (61 + 5 * i) ≤ x ∧ x ≤ p (61 + 5 * i + 2)
      · rw [if_neg (by rw [b2_0]; simp only [decide_eq_false_iff_not]; exact fun q => q c1)]
        by_cases c2 : p (61 + 5 * i + 1) ≤ y ∧ y ≤ p (61 + 5 * i + 3)
        · rw [if_neg (by rw [b2_0]; simp only [decide_eq_false_iff_not]; exact fun q => q c2), if_pos (decide_eq_true ⟨c1.1, c1.2, c2.1, c2.2⟩)]
        · rw [if_pos (by rw [b2_0]; simp only [decide_eq_false_iff_not]; exact c2), if_neg (by simp only [decide_eq_true_eq]; exact fun q => c2 ⟨q.2.2.1, q.2.2.2⟩)]
      · rw [if_pos (by rw [b2_0]; simp only [decide_eq_false_iff_not]; exact c1), if_neg (by simp only [decide_eq_true_eq]; exact fun q => c1 ⟨q.1, q.2.1⟩)]
  have l1 : ∀ (d k j : Nat) (a : Int32) (K : gI), MK K o p s → k + d = (p 4).toInt.toNat → d + 5 < j → ∃ K', L_X10_waveIn n o 30 x y t j 0 a (Int32.ofNat k) K = some (lp (fun i a => if sHold p i x y then a * p (61 + 5 * i + 4) / 100 else a) (p 60).toNatClampNeg 0 (lp (fun k a => a + sPart p s k x y t) d k a), K') ∧ Tq K K' := by
    intro d
    induction d with
    | zero =>
      intro k j a K h hk hj
      obtain ⟨j, rfl⟩ : ∃ i, j = i + 1 := ⟨j - 1, by omega⟩
      rw [L_X10_waveIn_e0, h.hp, if_pos (by rw [i_le, i_of (by omega)]; omega)]
      have := l2 (p 60).toNatClampNeg 0 j a K h (by rw [i_tn]; omega) (by rw [i_tn]; omega)
      exact ⟨K, this, Tq.rfl'⟩
    | succ d ih =>
      intro k j a K h hk hj
      obtain ⟨j, rfl⟩ : ∃ i, j = i + 1 := ⟨j - 1, by omega⟩
      obtain ⟨K1, e1, q1⟩ := m_part hn hp hv h (k := k) (by omega) hx hy t
      rw [L_X10_waveIn_e0, h.hp, if_neg (by rw [i_le, i_of (by omega)]; omega), e1, bd_s, lp_s, ixp_1]
      obtain ⟨K2, e2, q2⟩ := ih (k + 1) j (a + sPart p s k x y t) K1 (h.tq q1) (by omega) (by omega)
      exact ⟨K2, e2, q1.trans q2⟩
  obtain ⟨K', e, q⟩ := l1 (p 4).toNatClampNeg 0 n 0 K h (by rw [i_tn]; omega) (by rw [i_tn]; omega)
  exact ⟨K', e, q⟩
theorem m_calm (hn : 2000 ≤ n) (hp : PV p) (hv : SV p s) (h : MK K o p s) {x y : Int32} (hx : xIn p x) (hy : yIn p y) {m : Int32} (hm0 : 0 ≤ m.toInt) (hm : m.toInt ≤ 200) (tol : Int32) : ∃ K', F_X10_isNodeIn n o 30 K x y m tol = some (b2 (sCalm p s x y m tol), K') ∧ Tq K K' := by
  have key : ∀ (d i j : Nat) (K : gI), MK K o p s → i + d = m.toInt.toNat → d < j → ∃ K', L_X10_isNodeIn n o 30 x y m tol j 0 (Int32.ofNat i) K = some (b2 (al (fun i => decide (jabs (sWave p s x y (s 0 + Int32.ofNat i)) ≤ tol)) d i), K') ∧ Tq K K' := by
    intro d
    induction d with
    | zero =>
      intro i j K h hi hj
      obtain ⟨j, rfl⟩ : ∃ i, j = i + 1 := ⟨j - 1, by omega⟩
      rw [L_X10_isNodeIn_e0, if_pos (by rw [i_le, i_of (by omega)]; omega)]
      exact ⟨K, rfl, Tq.rfl'⟩
    | succ d ih =>
      intro i j K h hi hj
      obtain ⟨j, rfl⟩ : ∃ i, j = i + 1 := ⟨j - 1, by omega⟩
      rw [L_X10_isNodeIn_e0, if_neg (by rw [i_le, i_of (by omega)]; omega), gv_0 (by decide) (by decide), tn_0, h.hs, ixp_1, al_s]
      obtain ⟨K1, e1, q1⟩ := m_wave hn hp hv h hx hy (s 0 + Int32.ofNat i)
      rw [e1, bd_s]
      dsimp only
      by_cases c : jabs (sWave p s x y (s 0 + Int32.ofNat i)) ≤ tol
      · rw [if_pos c, if_pos (decide_eq_true c)]
        obtain ⟨K2, e2, q2⟩ := ih (i + 1) j K1 (h.tq q1) (by omega) (by omega)
        exact ⟨K2, e2, q1.trans q2⟩
      · rw [if_neg c, if_neg (by simp only [decide_eq_true_eq]; exact c)]
        exact ⟨K1, rfl, q1⟩
  obtain ⟨K', e, q⟩ := key m.toNatClampNeg 0 n K h (by rw [i_tn]; omega) (by rw [i_tn]; omega)
  exact ⟨K', e, q⟩
theorem m_ener (hn : 2000 ≤ n) (hp : PV p) (hv : SV p s) (h : MK K o p s) {x y : Int32} (hx : xIn p x) (hy : yIn p y) {m : Int32} (hm0 : 0 ≤ m.toInt) (hm : m.toInt ≤ 200) : ∃ K', F_X10_energyIn n o 30 K x y m = some (sEner p s x y m, K') ∧ Tq K K' := by
  have key : ∀ (d i j : Nat) (a : Int64) (K : gI), MK K o p s → i + d = m.toInt.toNat → d < j → ∃ K', L_X10_energyIn n o 30 x y m j 0 a (Int32.ofNat i) K = some (lp (fun i a => a + (sWave p s x y (s 0 + Int32.ofNat i)).toInt64 * (sWave p s x y (s 0 + Int32.ofNat i)).toInt64) d i a, K') ∧ Tq K K' := by
    intro d
    induction d with
    | zero =>
      intro i j a K h hi hj
      obtain ⟨j, rfl⟩ : ∃ i, j = i + 1 := ⟨j - 1, by omega⟩
      rw [L_X10_energyIn_e0, if_pos (by rw [i_le, i_of (by omega)]; omega)]
      exact ⟨K, rfl, Tq.rfl'⟩
    | succ d ih =>
      intro i j a K h hi hj
      obtain ⟨j, rfl⟩ : ∃ i, j = i + 1 := ⟨j - 1, by omega⟩
      rw [L_X10_energyIn_e0, if_neg (by rw [i_le, i_of (by omega)]; omega), gv_0 (by decide) (by decide), tn_0, h.hs, ixp_1, lp_s]
      obtain ⟨K1, e1, q1⟩ := m_wave hn hp hv h hx hy (s 0 + Int32.ofNat i)
      rw [e1, bd_s]
      dsimp only
      obtain ⟨K2, e2, q2⟩ := ih (i + 1) j (a + (sWave p s x y (s 0 + Int32.ofNat i)).toInt64 * (sWave p s x y (s 0 + Int32.ofNat i)).toInt64) K1 (h.tq q1) (by omega) (by omega)
      exact ⟨K2, e2, q1.trans q2⟩
  obtain ⟨K', e, q⟩ := key m.toNatClampNeg 0 n 0 K h (by rw [i_tn]; omega) (by rw [i_tn]; omega)
  exact ⟨K', e, q⟩
end MODEL
