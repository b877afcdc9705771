theorem b2_tv : b2 true = 1 := rfl
theorem b2_fv : b2 false = 0 := rfl
theorem e10 : ((1 : Int32) = 0) = False := by decide
theorem nt_s {α : Type} (g : Unit → Option (String ⊕ α)) : bd (some (.inr () : String ⊕ Unit)) (fun v => sm v (fun e => some (.inl e)) g) = g () := rfl
theorem src_k {p : gP} (hp : PV p) {a : Int32} (h : src p a = true) : ∃ k, k < (p 4).toInt.toNat ∧ k < 4 ∧ a = Int32.ofNat k := by
  have q := (src_t hp).mp h
  have c := hp.c
  exact ⟨a.toInt.toNat, by omega, by omega, (i_on q.1).symm⟩
theorem gau_k {p : gP} (hp : PV p) {a : Int32} (h : gau p a = true) : ∃ k, k < (p 76).toInt.toNat ∧ k < 4 ∧ a = Int32.ofNat k := by
  have q := (gau_t hp).mp h
  have c := hp.ga
  exact ⟨a.toInt.toNat, by omega, by omega, (i_on q.1).symm⟩
section FACE
variable {n T0 T1 : Nat} {I : gI} {p s : gP}
/-- when a source's waves first come -/
def sArr (p s : gP) (k : Nat) (x y : Int32) : Int32 := if sShort p s k x y (s 0) = -1 then -1 else p (13 + k) + sDel p k (sShort p s k x y (s 0))
theorem c_arr (hn : 2000 ≤ n) {o os : Nat} {p s : gP} (hp : PV p) (h : CK I o os p s) {k : Nat} (hk : k < (p 4).toInt.toNat) {x y : Int32} (hx : xIn p x) (hy : yIn p y) : F_X7_firstArrival n o os I (Int32.ofNat k) x y = some (sArr p s k x y) := by
  have h4 := hp.c
  unfold F_X7_firstArrival sArr
  rw [c_short hn hp h hk hx hy]
  simp (disch := omega) only [bd_s, gv_k, i_tno]
  rw [c_del hp h hk, h.tr.frm k hk]
  by_cases q : sShort p s k x y (s 0) = -1
  · rw [if_pos q, if_pos q]
  · rw [if_neg q, if_neg q]; rfl
end FACE

section FACEB
variable {n T0 T1 : Nat} {I : gI} {p s : gP}
/-! loops over cells -/
theorem lp_add {α : Type} (g : Nat → α → α) : ∀ (a b k : Nat) (x : α), lp g (a + b) k x = lp g b (k + a) (lp g a k x)
  | 0, b, k, x => by rw [Nat.zero_add]; rfl
  | a + 1, b, k, x => by
    rw [show a + 1 + b = (a + b) + 1 by omega, lp_s, lp_s, lp_add g a b (k + 1)]
    rw [show k + 1 + a = k + (a + 1) by omega]
/-- the number of the cells of which P holds -/
def cnt (P : Nat → Bool) (N : Nat) : Int32 := lp (fun k a => if P k then a + 1 else a) N 0 0
theorem cell_x {p : gP} (hp : PV p) {k : Nat} (hk : k < (p 0).toInt.toNat * (p 1).toInt.toNat) : (p 0 ≠ 0) ∧ k < 160 ∧ xIn p (Int32.ofNat (k % (p 0).toInt.toNat)) ∧ yIn p (Int32.ofNat (k / (p 0).toInt.toNat)) ∧ Int32.ofNat k - Int32.ofNat k / p 0 * p 0 = Int32.ofNat (k % (p 0).toInt.toNat) ∧ Int32.ofNat k / p 0 = Int32.ofNat (k / (p 0).toInt.toNat) := by
  have hw := hp.w
  have hh := hp.h
  have ew : p 0 = Int32.ofNat (p 0).toInt.toNat := (i_on (by omega)).symm
  have h1 : (p 0).toInt.toNat * (p 1).toInt.toNat ≤ 16 * 10 := Nat.mul_le_mul (by omega) (by omega)
  have h2 : k % (p 0).toInt.toNat < (p 0).toInt.toNat := Nat.mod_lt _ (by omega)
  have h3 : k / (p 0).toInt.toNat < (p 1).toInt.toNat := Nat.div_lt_of_lt_mul hk
  have hk' : k < 160 := by omega
  refine ⟨fun q => ?_, by omega, ?_, ?_, ?_, ?_⟩
  · rw [q] at hw; exact absurd hw.1 (by decide)
  · unfold xIn; rw [i_of (by omega)]; omega
  · unfold yIn
    obtain ⟨q, hq⟩ : ∃ q, q = k / (p 0).toInt.toNat := ⟨_, rfl⟩
    rw [← hq] at h3 ⊢
    rw [i_of (by omega)]; omega
  · conv => lhs; rw [ew]
    exact i_omod (by omega) (by omega)
  · conv => lhs; rw [ew]
    exact i_odiv (by omega) (by omega)
theorem cells_e {p : gP} (hp : PV p) : p 0 * p 1 = Int32.ofNat ((p 0).toInt.toNat * (p 1).toInt.toNat) ∧ (p 0).toInt.toNat * (p 1).toInt.toNat ≤ 160 := by
  have hw := hp.w
  have hh := hp.h
  have h1 : (p 0).toInt.toNat * (p 1).toInt.toNat ≤ 16 * 10 := Nat.mul_le_mul (by omega) (by omega)
  refine ⟨?_, h1⟩
  rw [← i_omul, i_on (by omega), i_on (by omega)]
theorem cell_k {W y x : Nat} (h : x < W) : (W * y + x) % W = x ∧ (W * y + x) / W = y := by
  refine ⟨?_, ?_⟩
  · rw [Nat.mul_add_mod]; exact Nat.mod_eq_of_lt h
  · rw [Nat.mul_add_div (by omega), Nat.div_eq_of_lt h]; rfl
end FACEB

theorem LD.ir {T0 T1 : Nat} {I I' : gI} {p s : gP} (L : LD T0 I p s) (ht : (T0 = 95 ∧ T1 = 116) ∨ (T0 = 116 ∧ T1 = 95)) (hI : ∀ o i, ¬ irI T1 o → I' o i = I o i) : LD T0 I' p s :=
  LD.mk L.pv L.c1 (L.tr.cg L.pv.c.2 L.pv.sh.2 (fun q i a b => hI _ _ (by unfold irI; omega))) (L.sr.cg (fun q i a b => hI _ _ (by unfold irI; omega))) L.sv
theorem RU.ir {T1 : Nat} {I I' : gI} (h : RU I) (ht : T1 = 116 ∨ T1 = 95) (hI : ∀ o i, ¬ irI T1 o → I' o i = I o i) : RU I' := by
  intro x y hx hy; rw [hI _ _ (by unfold irI; omega)]; exact h x y hx hy
/-- the wave at a gauge, i later -/
def gw (p s : gP) (g i : Nat) : Int32 := sWave p s (p (77 + 2 * g)) (p (77 + 2 * g + 1)) (s 0 + Int32.ofNat i)
section FACEC
variable {n T0 T1 : Nat} {I : gI} {p s : gP}
theorem c_fill (hn : 2000 ≤ n) (ht : (T0 = 95 ∧ T1 = 116) ∨ (T0 = 116 ∧ T1 = 95)) (L : LD T0 I p s) (ru : RU I) {g : Nat} (hg : g < (p 76).toInt.toNat) {m : Int32} (hm : m.toInt ≤ 60) : ∃ I', F_X9_fillSeries n T0 T1 I (Int32.ofNat g) m = some I' ∧ (∀ o i, o ≠ 92 → I' o i = I o i) ∧ (∀ i, i < m.toInt.toNat → I' 92 i = gw p s g i) := by
  have hga := L.pv.ga
  have hx : xIn p (p (77 + 2 * g)) := L.pv.gx g hg
  have hy : yIn p (p (77 + 2 * g + 1)) := L.pv.gy g hg
  have key : ∀ (d c j : Nat) (I1 : gI), c + d = m.toInt.toNat → d < j → (∀ o i, o ≠ 92 → I1 o i = I o i) → (∀ i, i < c → I1 92 i = gw p s g i) → ∃ I', L_X9_fillSeries n T0 T1 (Int32.ofNat g) m j 0 (p (77 + 2 * g)) (p (77 + 2 * g + 1)) (Int32.ofNat c) I1 = some I' ∧ (∀ o i, o ≠ 92 → I' o i = I o i) ∧ (∀ i, i < m.toInt.toNat → I' 92 i = gw p s g i) := by
    intro d
    induction d with
    | zero =>
      intro c j I1 hc hj h1 h2
      obtain ⟨j, rfl⟩ : ∃ i, j = i + 1 := ⟨j - 1, by omega⟩
      refine ⟨I1, ?_, h1, fun i hi => h2 i (by omega)⟩
      rw [L_X9_fillSeries_e0, if_pos (by rw [i_le, i_of (by omega)]; omega)]
    | succ d ih =>
      intro c j I1 hc hj h1 h2
      obtain ⟨j, rfl⟩ : ∃ i, j = i + 1 := ⟨j - 1, by omega⟩
      have L1 : LD T0 I1 p s := L.ir ht (fun o i hi => h1 o i (by unfold irI at hi; omega))
      have r1 : RU I1 := ru.ir (T1 := T1) (by omega) (fun o i hi => h1 o i (by unfold irI at hi; omega))
      obtain ⟨I2, e, q1, q2⟩ := ih (c + 1) j (sI I1 92 c (gw p s g c)) (by omega) (by omega) (fun o i ho => by rw [sI_o ho]; exact h1 o i ho) (fun i hi => by
        rw [sI_get]
        by_cases hc : i = c
        · rw [if_pos ⟨rfl, hc⟩, hc]
        · rw [if_neg (fun q => hc q.2)]; exact h2 i (by omega))
      refine ⟨I2, ?_, q1, q2⟩
      rw [L_X9_fillSeries_e0, if_neg (by rw [i_le, i_of (by omega)]; omega), L1.sr.t, c_wave hn L.pv L.sv (L1.ck r1) hx hy, bd_s, ixp_1, gv_o (by omega), i_tno (by omega)]
      exact e
  obtain ⟨I', e, h1, h2⟩ := key m.toInt.toNat 0 n I (by omega) (by omega) (fun _ _ _ => rfl) (fun i hi => by omega)
  refine ⟨I', ?_, h1, h2⟩
  unfold F_X9_fillSeries
  simp (disch := omega) only [gv_k, i_tno, L.tr.gx g hg, L.tr.gy g hg]
  exact e
end FACEC

/-- the energy of a cell, by its number -/
def eC (p s : gP) (m : Int32) (c : Nat) : Int64 := sEner p s (Int32.ofNat (c % (p 0).toInt.toNat)) (Int32.ofNat (c / (p 0).toInt.toNat)) m
def nC (p : gP) : Nat := (p 0).toInt.toNat * (p 1).toInt.toNat
/-- the greatest energy -/
def eMax (p s : gP) (m : Int32) : Int64 := lp (fun c a => jmaxl a (eC p s m c)) (nC p) 0 0
theorem nC_b {p : gP} (hp : PV p) : nC p ≤ 160 := (cells_e hp).2
section FACED
variable {n T0 T1 : Nat} {I : gI} {p s : gP} {J N : gJ}
theorem c_cells {o os : Nat} {p s : gP} (hp : PV p) (C : CK I o os p s) : F_X7_cells n o I = some (Int32.ofNat (nC p)) := by
  unfold F_X7_cells
  rw [C.tr.w, C.tr.h, (cells_e hp).1]; rfl
theorem c_fillE (hn : 2000 ≤ n) (L : LD T0 I p s) (ru : RU I) {m : Int32} (hm0 : 0 ≤ m.toInt) (hm : m.toInt ≤ 200) : ∃ J', F_X9_fillEnergies n T0 T1 I J m = some J' ∧ (∀ o i, o ≠ 91 → J' o i = J o i) ∧ (∀ c, c < nC p → J' 91 c = eC p s m c) := by
  have C := L.ck ru
  have hN := nC_b L.pv
  have key : ∀ (d c j : Nat) (J1 : gJ), c + d = nC p → d < j → (∀ o i, o ≠ 91 → J1 o i = J o i) → (∀ i, i < c → J1 91 i = eC p s m i) → ∃ J', L_X9_fillEnergies n T0 T1 I m j 0 (Int32.ofNat c) J1 = some J' ∧ (∀ o i, o ≠ 91 → J' o i = J o i) ∧ (∀ c, c < nC p → J' 91 c = eC p s m c) := by
    intro d
    induction d with
    | zero =>
      intro c j J1 hc hj h1 h2
      obtain ⟨j, rfl⟩ : ∃ i, j = i + 1 := ⟨j - 1, by omega⟩
      refine ⟨J1, ?_, h1, fun i hi => h2 i (by omega)⟩
      rw [L_X9_fillEnergies_e0, c_cells L.pv C, bd_s, if_pos (by rw [i_ole (by omega) (by omega)]; omega)]
    | succ d ih =>
      intro c j J1 hc hj h1 h2
      obtain ⟨j, rfl⟩ : ∃ i, j = i + 1 := ⟨j - 1, by omega⟩
      have cx := cell_x L.pv (k := c) (by unfold nC at hc; omega)
      obtain ⟨J2, e, q1, q2⟩ := ih (c + 1) j (sJ J1 91 c (eC p s m c)) (by omega) (by omega) (fun o i ho => by rw [sJ_get, if_neg (fun q => ho q.1)]; exact h1 o i ho) (fun i hi => by
        rw [sJ_get]
        by_cases hc : i = c
        · rw [if_pos ⟨rfl, hc⟩, hc]
        · rw [if_neg (fun q => hc q.2)]; exact h2 i (by omega))
      refine ⟨J2, ?_, q1, q2⟩
      rw [L_X9_fillEnergies_e0, c_cells L.pv C, bd_s, if_neg (by rw [i_ole (by omega) (by omega)]; omega), L.tr.w, gd_t cx.1, gd_t cx.1, cx.2.2.2.2.1, cx.2.2.2.2.2, c_ener hn L.pv L.sv C cx.2.2.1 cx.2.2.2.1 hm0 hm, bd_s, ixp_1, gv_o (by omega), i_tno (by omega)]
      exact e
  exact key (nC p) 0 n J (by omega) (by omega) (fun _ _ _ => rfl) (fun i hi => by omega)
theorem c_great (hn : 2000 ≤ n) (L : LD T0 I p s) (ru : RU I) {m : Int32} {J' : gJ} (hJ : ∀ c, c < nC p → J' 91 c = eC p s m c) : F_X9_greatestEnergy n T0 T1 I J' = some (eMax p s m) := by
  have C := L.ck ru
  have hN := nC_b L.pv
  have key : ∀ (d c j : Nat) (a : Int64), c + d = nC p → d < j → L_X9_greatestEnergy n T0 T1 I J' j 0 a (Int32.ofNat c) = some (lp (fun c a => jmaxl a (eC p s m c)) d c a) := by
    intro d
    induction d with
    | zero =>
      intro c j a hc hj
      obtain ⟨j, rfl⟩ : ∃ i, j = i + 1 := ⟨j - 1, by omega⟩
      rw [L_X9_greatestEnergy_e0, c_cells L.pv C, bd_s, if_pos (by rw [i_ole (by omega) (by omega)]; omega)]
      rfl
    | succ d ih =>
      intro c j a hc hj
      obtain ⟨j, rfl⟩ : ∃ i, j = i + 1 := ⟨j - 1, by omega⟩
      rw [L_X9_greatestEnergy_e0, c_cells L.pv C, bd_s, if_neg (by rw [i_ole (by omega) (by omega)]; omega), gv_o (by omega), i_tno (by omega), hJ c (by omega), ixp_1, lp_s]
      exact ih (c + 1) j _ (by omega) (by omega)
  exact key (nC p) 0 n 0 (by omega) (by omega)
theorem sm_r {ε α β : Type} (v : α) (a : ε → β) (b : α → β) : sm (.inr v : ε ⊕ α) a b = b v := rfl
theorem sm_nd {α : Type} (c : Bool) (E : String) (g : Unit → Option (String ⊕ α)) : sm (nd c E) (fun e => some (.inl e)) g = if c then g () else some (.inl E) := by
  cases c <;> rfl
/-! comparisons of longs -/
theorem cmp_0 (x y : Int64) : lg_cmp x y = 0 ↔ x = y := by
  unfold lg_cmp
  by_cases h : x > y
  · rw [if_pos h]
    refine ⟨fun q => absurd q (by decide), fun q => ?_⟩
    subst q
    exact absurd h (by simp)
  · rw [if_neg h]
    by_cases h2 : x = y
    · rw [if_pos h2]; exact ⟨fun _ => h2, fun _ => rfl⟩
    · rw [if_neg h2]; exact ⟨fun q => absurd q (by decide), fun q => absurd q h2⟩
theorem cmp_p (x y : Int64) : 0 < lg_cmp x y ↔ y < x := by
  unfold lg_cmp
  by_cases h : x > y
  · rw [if_pos h]; exact ⟨fun _ => h, fun _ => by decide⟩
  · rw [if_neg h]
    by_cases h2 : x = y
    · rw [if_pos h2]; exact ⟨fun q => absurd q (by decide), fun q => absurd q h⟩
    · rw [if_neg h2]; exact ⟨fun q => absurd q (by decide), fun q => absurd q h⟩
theorem cmp_n (x y : Int64) : lg_cmp x y ≤ 0 ↔ ¬ y < x := by
  rw [← cmp_p, i_le, i_lt, ii_0]; omega
theorem cmp_g (x y : Int64) : 0 ≤ lg_cmp x y ↔ ¬ x < y := by
  rw [← cmp_p y x, i_le, i_lt, ii_0]
  unfold lg_cmp
  by_cases h : x > y
  · have h' : ¬ (y > x) := by
      intro q
      rw [gt_iff_lt, Int64.lt_iff_toInt_lt] at h q; omega
    have h'' : ¬ (y = x) := fun q => by subst q; exact absurd h (by simp)
    rw [if_pos h, if_neg h', if_neg h'']; decide
  · rw [if_neg h]
    by_cases h2 : x = y
    · subst h2; rw [if_pos rfl, if_neg h]; decide
    · have h3 : y > x := by
        rw [gt_iff_lt, Int64.lt_iff_toInt_lt] at h ⊢
        have : x.toInt ≠ y.toInt := fun q => h2 (Int64.toInt_inj.mp q)
        omega
      rw [if_neg h2, if_pos h3]; decide
/-- how many cells stand before the cell k -/
def ahead (E : Nat → Int64) (N k : Nat) : Int32 := lp (fun o a => if 0 < lg_cmp (E o) (E k) ∨ (E o = E k ∧ o < k) then a + 1 else a) N 0 0
theorem c_before (hn : 2000 ≤ n) (L : LD T0 I p s) (ru : RU I) {m : Int32} {J' : gJ} (hJ : ∀ c, c < nC p → J' 91 c = eC p s m c) {k : Nat} (hk : k < nC p) : F_X9_countBefore n T0 T1 I J' (Int32.ofNat k) = some (ahead (eC p s m) (nC p) k) := by
  have C := L.ck ru
  have hN := nC_b L.pv
  have key : ∀ (d c j : Nat) (a : Int32), c + d = nC p → d < j → L_X9_countBefore n T0 T1 I J' (Int32.ofNat k) j 0 a (Int32.ofNat c) = some (lp (fun o a => if 0 < lg_cmp (eC p s m o) (eC p s m k) ∨ (eC p s m o = eC p s m k ∧ o < k) then a + 1 else a) d c a) := by
    intro d
    induction d with
    | zero =>
      intro c j a hc hj
      obtain ⟨j, rfl⟩ : ∃ i, j = i + 1 := ⟨j - 1, by omega⟩
      rw [L_X9_countBefore_e0, c_cells L.pv C, bd_s, if_pos (by rw [i_ole (by omega) (by omega)]; omega)]
      rfl
    | succ d ih =>
      intro c j a hc hj
      obtain ⟨j, rfl⟩ : ∃ i, j = i + 1 := ⟨j - 1, by omega⟩
      have A := fun a => ih (c + 1) j a (by omega) (by omega)
      rw [L_X9_countBefore_e0, c_cells L.pv C, bd_s, if_neg (by rw [i_ole (by omega) (by omega)]; omega), lp_s]
      simp (disch := omega) only [gv_k, i_tno, hJ c (by omega), hJ k hk, ixp_1, A]
      by_cases h0 : lg_cmp (eC p s m c) (eC p s m k) = 0
      · have h1 : ¬ 0 < lg_cmp (eC p s m c) (eC p s m k) := by rw [h0]; decide
        rw [if_pos h0]
        by_cases h2 : Int32.ofNat k ≤ Int32.ofNat c
        · rw [if_pos h2, if_neg h1, if_neg (by rw [i_ole (by omega) (by omega)] at h2; intro q; rcases q with q | q; exact h1 q; omega)]
        · rw [if_neg h2, if_neg h1, if_pos (Or.inr ⟨(cmp_0 _ _).mp h0, by rw [i_ole (by omega) (by omega)] at h2; omega⟩)]
      · rw [if_neg h0]
        by_cases h1 : 0 < lg_cmp (eC p s m c) (eC p s m k)
        · rw [if_pos h1, if_pos (Or.inl h1)]
        · rw [if_neg h1, if_neg (fun q => q.elim h1 (fun q => h0 ((cmp_0 _ _).mpr q.1)))]
  exact key (nC p) 0 n 0 (by omega) (by omega)
end FACED

/-! COPIES OF STATES -/
def cp1 (I : gI) (a b k : Nat) : gI := sI (sI (sI (sI (sI (sI (sI I (a + 1) k (I (b + 1) k)) (a + 2) k (I (b + 2) k)) (a + 3) k (I (b + 3) k)) (a + 4) k (I (b + 4) k)) (a + 5) k (I (b + 5) k)) (a + 6) k (I (b + 6) k)) (a + 7) k (I (b + 7) k)
theorem cp1_t (I : gI) (a b k f : Nat) (h1 : 1 ≤ f) (h2 : f ≤ 7) : cp1 I a b k (a + f) k = I (b + f) k := by
  unfold cp1
  rcases (show f = 1 ∨ f = 2 ∨ f = 3 ∨ f = 4 ∨ f = 5 ∨ f = 6 ∨ f = 7 by omega) with rfl | rfl | rfl | rfl | rfl | rfl | rfl <;> simp (disch := omega) only [sI_o, sI_self]
theorem cp1_o (I : gI) (a b k o i : Nat) (h : ¬ (a < o ∧ o < a + 8 ∧ i = k)) : cp1 I a b k o i = I o i := by
  unfold cp1
  by_cases hi : i = k
  · simp (disch := omega) only [sI_o]
  · simp (disch := omega) only [sI_k]
theorem cp_step (n j : Nat) (I : gI) (a b k : Nat) (hk : k < 4) (hd : a + 8 ≤ b ∨ b + 8 ≤ a) (hb : I (b + 1) k = 0 ∨ I (b + 1) k = 1) : L_X6_copyFrom n a b (j + 1) 0 (Int32.ofNat k) I = L_X6_copyFrom n a b j 0 (Int32.ofNat (k + 1)) (cp1 I a b k) := by
  rw [L_X6_copyFrom_e0, if_neg (by rw [show (4 : Int32) = Int32.ofNat 4 from rfl, i_ole (by omega) (by omega)]; omega)]
  simp (disch := omega) only [gv_k, i_tno, ixp_1, sI_o]
  rw [gd_t hb]
  rfl
def cp (I : gI) (a b : Nat) : gI := cp1 (cp1 (cp1 (cp1 (sI (sI I a 0 (I b 0)) a 1 (I b 1)) a b 0) a b 1) a b 2) a b 3
theorem cp_s {n : Nat} (hn : 2000 ≤ n) {I : gI} {a b : Nat} (hd : a + 8 ≤ b ∨ b + 8 ≤ a) (hb : ∀ k, k < 4 → I (b + 1) k = 0 ∨ I (b + 1) k = 1) : F_X6_copyFrom n a b I = some (cp I a b) := by
  obtain ⟨j, rfl⟩ : ∃ j, n = j + 5 := ⟨n - 5, by omega⟩
  unfold F_X6_copyFrom cp
  have e0 : sI I a 0 (I b 0) b 1 = I b 1 := sI_o (by omega)
  rw [e0]
  have f : ∀ k, sI (sI I a 0 (I b 0)) a 1 (I b 1) (b + 1) k = I (b + 1) k := fun k => by rw [sI_o (by omega), sI_o (by omega)]
  have s0 := cp_step (j + 5) (j + 4) (sI (sI I a 0 (I b 0)) a 1 (I b 1)) a b 0 (by decide) hd (by rw [f]; exact hb 0 (by decide))
  have z0 : (0 : Int32) = Int32.ofNat 0 := rfl
  refine Eq.trans s0 ?_
  rw [show j + 4 = (j + 3) + 1 from rfl, cp_step _ _ _ _ _ _ (by decide) hd (by rw [cp1_o _ _ _ _ _ _ (by omega), f]; exact hb _ (by decide))]
  rw [show j + 3 = (j + 2) + 1 from rfl, cp_step _ _ _ _ _ _ (by decide) hd (by rw [cp1_o _ _ _ _ _ _ (by omega), cp1_o _ _ _ _ _ _ (by omega), f]; exact hb _ (by decide))]
  rw [show j + 2 = (j + 1) + 1 from rfl, cp_step _ _ _ _ _ _ (by decide) hd (by rw [cp1_o _ _ _ _ _ _ (by omega), cp1_o _ _ _ _ _ _ (by omega), cp1_o _ _ _ _ _ _ (by omega), f]; exact hb _ (by decide))]
  rw [L_X6_copyFrom_e0, if_pos (by decide)]
theorem cp_o (I : gI) (a b o i : Nat) (h : ¬ (a ≤ o ∧ o < a + 8)) : cp I a b o i = I o i := by
  unfold cp
  rw [cp1_o _ _ _ _ _ _ (by omega), cp1_o _ _ _ _ _ _ (by omega), cp1_o _ _ _ _ _ _ (by omega), cp1_o _ _ _ _ _ _ (by omega), sI_o (by omega), sI_o (by omega)]
theorem cp_0 (I : gI) (a b : Nat) : cp I a b a 0 = I b 0 := by
  unfold cp
  rw [cp1_o _ _ _ _ _ _ (by omega), cp1_o _ _ _ _ _ _ (by omega), cp1_o _ _ _ _ _ _ (by omega), cp1_o _ _ _ _ _ _ (by omega), sI_k (by omega), sI_self]
theorem cp_1 (I : gI) (a b : Nat) : cp I a b a 1 = I b 1 := by
  unfold cp
  rw [cp1_o _ _ _ _ _ _ (by omega), cp1_o _ _ _ _ _ _ (by omega), cp1_o _ _ _ _ _ _ (by omega), cp1_o _ _ _ _ _ _ (by omega), sI_self]
theorem cp_f (I : gI) (a b f k : Nat) (hd : a + 8 ≤ b ∨ b + 8 ≤ a) (h1 : 1 ≤ f) (h2 : f ≤ 7) (hk : k < 4) : cp I a b (a + f) k = I (b + f) k := by
  have g : ∀ k, sI (sI I a 0 (I b 0)) a 1 (I b 1) (b + f) k = I (b + f) k := fun k => by rw [sI_o (by omega), sI_o (by omega)]
  unfold cp
  rcases (show k = 0 ∨ k = 1 ∨ k = 2 ∨ k = 3 by omega) with rfl | rfl | rfl | rfl
  · rw [cp1_o _ _ _ _ _ _ (by omega), cp1_o _ _ _ _ _ _ (by omega), cp1_o _ _ _ _ _ _ (by omega), cp1_t _ _ _ _ _ h1 h2, g]
  · rw [cp1_o _ _ _ _ _ _ (by omega), cp1_o _ _ _ _ _ _ (by omega), cp1_t _ _ _ _ _ h1 h2, cp1_o _ _ _ _ _ _ (by omega), g]
  · rw [cp1_o _ _ _ _ _ _ (by omega), cp1_t _ _ _ _ _ h1 h2, cp1_o _ _ _ _ _ _ (by omega), cp1_o _ _ _ _ _ _ (by omega), g]
  · rw [cp1_t _ _ _ _ _ h1 h2, cp1_o _ _ _ _ _ _ (by omega), cp1_o _ _ _ _ _ _ (by omega), cp1_o _ _ _ _ _ _ (by omega), g]
theorem cp_SR {I : gI} {a b : Nat} {p s : gP} (h : SR I b p s) (h4 : (p 4).toInt ≤ 4) (hd : a + 8 ≤ b ∨ b + 8 ≤ a) : SR (cp I a b) a p s := by
  have g : ∀ f k, 1 ≤ f → f ≤ 7 → k < 4 → cp I a b (a + f) k = I (b + f) k := fun f k h1 h2 hk => cp_f I a b f k hd h1 h2 hk
  refine SR.mk ?_ ?_ ?_ ?_ ?_ ?_ ?_ ?_ ?_ ?_
  · rw [cp_0]; exact h.t
  · rw [cp_1]; exact h.op
  · intro k hk; rw [g 1 k (by decide) (by decide) hk]; exact h.b k hk
  · intro k hk; rw [g 1 k (by decide) (by decide) (by omega)]; exact h.on k hk
  · intro k hk; rw [g 2 k (by decide) (by decide) (by omega)]; exact h.amp k hk
  · intro k hk; rw [g 3 k (by decide) (by decide) (by omega)]; exact h.ph k hk
  · intro k hk; rw [g 4 k (by decide) (by decide) (by omega)]; exact h.x k hk
  · intro k hk; rw [g 5 k (by decide) (by decide) (by omega)]; exact h.y k hk
  · intro k hk; rw [g 6 k (by decide) (by decide) (by omega)]; exact h.vx k hk
  · intro k hk; rw [g 7 k (by decide) (by decide) (by omega)]; exact h.vy k hk
/-- the same thirty numbers -/
theorem SR.s {I : gI} {a : Nat} {p s s' : gP} (h : SR I a p s) (h4 : (p 4).toInt ≤ 4) (e : ∀ i, i < 30 → s' i = s i) : SR I a p s' := by
  refine SR.mk ?_ ?_ h.b ?_ ?_ ?_ ?_ ?_ ?_ ?_
  · rw [e _ (by omega)]; exact h.t
  · rw [e _ (by omega)]; exact h.op
  · intro k hk; rw [e _ (by omega)]; exact h.on k hk
  · intro k hk; rw [e _ (by omega)]; exact h.amp k hk
  · intro k hk; rw [e _ (by omega)]; exact h.ph k hk
  · intro k hk; rw [e _ (by omega)]; exact h.x k hk
  · intro k hk; rw [e _ (by omega)]; exact h.y k hk
  · intro k hk; rw [e _ (by omega)]; exact h.vx k hk
  · intro k hk; rw [e _ (by omega)]; exact h.vy k hk
theorem SV.s {p s s' : gP} (h : SV p s) (h4 : (p 4).toInt ≤ 4) (e : ∀ i, i < 30 → s' i = s i) : SV p s' := by
  refine SV.mk ?_ ?_ ?_ ?_
  · rw [e _ (by omega)]; exact h.t
  · rw [e _ (by omega)]; exact h.o
  · intro k hk; rw [e _ (by omega)]; exact h.on k hk
  · intro k hk; rw [e _ (by omega)]; exact h.amp k hk
/-- the cells that are nodes, by number -/
def nd9 (p s : gP) (m tol : Int32) (c : Nat) : Bool := sCalm p s (Int32.ofNat (c % (p 0).toInt.toNat)) (Int32.ofNat (c / (p 0).toInt.toNat)) m tol
section FACEE
variable {n T0 T1 : Nat} {I : gI} {p s : gP}
theorem c_count (hn : 2000 ≤ n) {os : Nat} {p s : gP} (hp : PV p) (hv : SV p s) (C : CK I T0 os p s) {m : Int32} (hm0 : 0 ≤ m.toInt) (hm : m.toInt ≤ 200) (tol : Int32) : F_X9_countCalm n T0 T1 os I m tol = some (cnt (nd9 p s m tol) (nC p)) := by
  have hw := hp.w
  have hh := hp.h
  obtain ⟨W, hW⟩ : ∃ W, W = (p 0).toInt.toNat := ⟨_, rfl⟩
  obtain ⟨H, hH⟩ : ∃ H, H = (p 1).toInt.toNat := ⟨_, rfl⟩
  have k9 : ∀ (d y j : Nat) (a : Int32), y + d = H → d * (W + 2) + 1 ≤ j → L_X9_countCalm n T0 T1 os I m tol j 0 a (Int32.ofNat y) 0 = some (lp (fun c a => if nd9 p s m tol c then a + 1 else a) (W * d) (W * y) a) := by
    intro d
    induction d with
    | zero =>
      intro y j a hy hj
      obtain ⟨j, rfl⟩ : ∃ i, j = i + 1 := ⟨j - 1, by omega⟩
      rw [L_X9_countCalm_e0, C.tr.h, if_pos (by rw [i_le, i_of (by omega)]; omega)]
      rfl
    | succ d ih =>
      intro y j a hy hj
      have e1 : (d + 1) * (W + 2) = d * (W + 2) + (W + 2) := Nat.succ_mul _ _
      obtain ⟨j, rfl⟩ : ∃ i, j = i + 1 := ⟨j - 1, by omega⟩
      rw [L_X9_countCalm_e0, C.tr.h, if_neg (by rw [i_le, i_of (by omega)]; omega)]
      have inner : ∀ (e x j : Nat) (a : Int32), x + e = W → e + 1 + (d * (W + 2) + 1) ≤ j → L_X9_countCalm n T0 T1 os I m tol j 1 a (Int32.ofNat y) (Int32.ofNat x) = some (lp (fun c a => if nd9 p s m tol c then a + 1 else a) (e + W * d) (W * y + x) a) := by
        intro e
        induction e with
        | zero =>
          intro x j a hx hj
          obtain ⟨j, rfl⟩ : ∃ i, j = i + 1 := ⟨j - 1, by omega⟩
          rw [L_X9_countCalm_e1, C.tr.w, if_pos (by rw [i_le, i_of (by omega)]; omega), ixp_1, ih (y + 1) j a (by omega) (by omega), Nat.zero_add, show W * (y + 1) = W * y + x by rw [Nat.mul_succ]; omega]
        | succ e ihe =>
          intro x j a hx hj
          obtain ⟨j, rfl⟩ : ∃ i, j = i + 1 := ⟨j - 1, by omega⟩
          have hx1 : xIn p (Int32.ofNat x) := by unfold xIn; rw [i_of (by omega)]; omega
          have hy1 : yIn p (Int32.ofNat y) := by unfold yIn; rw [i_of (by omega)]; omega
          have hc := cell_k (W := W) (y := y) (x := x) (by omega)
          have hP : nd9 p s m tol (W * y + x) = sCalm p s (Int32.ofNat x) (Int32.ofNat y) m tol := by unfold nd9; rw [← hW, hc.1, hc.2]
          rw [L_X9_countCalm_e1, C.tr.w, if_neg (by rw [i_le, i_of (by omega)]; omega), c_calm hn hp hv C hx1 hy1 hm0 hm, bd_s, ixp_1, show e + 1 + W * d = (e + W * d) + 1 by omega, lp_s, hP, show W * y + x + 1 = W * y + (x + 1) by omega]
          cases sCalm p s (Int32.ofNat x) (Int32.ofNat y) m tol
          · rw [if_pos (show b2 false = 0 from rfl)]; exact ihe (x + 1) j a (by omega) (by omega)
          · rw [if_neg (show ¬ b2 true = 0 by decide)]; exact ihe (x + 1) j (a + 1) (by omega) (by omega)
      have := inner W 0 j a (by omega) (by omega)
      rw [show W + W * d = W * (d + 1) by rw [Nat.mul_succ]; omega] at this
      exact this
  have hf : H * (W + 2) ≤ 10 * 18 := Nat.mul_le_mul (by omega) (by omega)
  have r9 := k9 H 0 n 0 (by omega) (by omega)
  unfold cnt nC
  rw [← hW, ← hH]
  exact r9
end FACEE

/-- a state with one number another -/
def up (s : gP) (t : Nat) (v : Int32) : gP := fun i => if i = t then v else s i
theorem up_up (s : gP) (t : Nat) (c v : Int32) : up (up s t c) t v = up s t v := by
  funext i; unfold up
  by_cases h : i = t
  · rw [if_pos h, if_pos h]
  · rw [if_neg h, if_neg h, if_neg h]
theorem up_t (s : gP) (t : Nat) (v : Int32) : up s t v t = v := if_pos rfl
theorem up_o {s : gP} {t i : Nat} {v : Int32} (h : i ≠ t) : up s t v i = s i := if_neg h
theorem xor_all : ∀ a : Fin 1024, ∀ r : Fin 10, 0 ≤ (Int32.ofNat a.1 ^^^ ((1 : Int32) <<< (Int32.ofNat r.1 &&& 31))).toInt ∧ (Int32.ofNat a.1 ^^^ ((1 : Int32) <<< (Int32.ofNat r.1 &&& 31))).toInt < 1024 := by decide +kernel
theorem xor_b {v r : Int32} (h0 : 0 ≤ v.toInt ∧ v.toInt < 1024) (h1 : 0 ≤ r.toInt) (h2 : r.toInt < 10) : 0 ≤ (v ^^^ ((1 : Int32) <<< (r &&& 31))).toInt ∧ (v ^^^ ((1 : Int32) <<< (r &&& 31))).toInt < 1024 := by
  have := xor_all ⟨v.toInt.toNat, by omega⟩ ⟨r.toInt.toNat, by omega⟩
  rw [i_on h0.1, i_on h1] at this
  exact this
theorem e20 : ((2 : Int32) = 0) = False := by decide
theorem e30 : ((3 : Int32) = 0) = False := by decide
theorem bd_x {α β : Type} {x : Option α} {g : α → Option β} {r : β} (h : bd x g = some r) : ∃ a, x = some a ∧ g a = some r := by
  cases x with
  | none => cases h
  | some a => exact ⟨a, rfl, h⟩
section FACEF
variable {n T0 T1 : Nat} {I : gI} {p s : gP}
theorem SR.uon {I : gI} {a : Nat} {p s : gP} (h : SR I a p s) (h4 : (p 4).toInt ≤ 4) {k : Nat} (hk : k < 4) (v : Int32) (hv : v = 0 ∨ v = 1) : SR (sI I (a + 1) k v) a p (up s (2 + k) v) := by
  refine SR.mk ?_ ?_ ?_ ?_ ?_ ?_ ?_ ?_ ?_ ?_
  · rw [sI_o (by omega), up_o (by omega)]; exact h.t
  · rw [sI_o (by omega), up_o (by omega)]; exact h.op
  · intro i hi
    rw [sI_get]
    by_cases q : i = k
    · rw [if_pos ⟨rfl, q⟩]; exact hv
    · rw [if_neg (fun z => q z.2)]; exact h.b i hi
  · intro i hi
    rw [sI_get]
    by_cases q : i = k
    · rw [if_pos ⟨rfl, q⟩, q, up_t]
    · rw [if_neg (fun z => q z.2), up_o (by omega)]; exact h.on i hi
  · intro i hi; rw [sI_o (by omega), up_o (by omega)]; exact h.amp i hi
  · intro i hi; rw [sI_o (by omega), up_o (by omega)]; exact h.ph i hi
  · intro i hi; rw [sI_o (by omega), up_o (by omega)]; exact h.x i hi
  · intro i hi; rw [sI_o (by omega), up_o (by omega)]; exact h.y i hi
  · intro i hi; rw [sI_o (by omega), up_o (by omega)]; exact h.vx i hi
  · intro i hi; rw [sI_o (by omega), up_o (by omega)]; exact h.vy i hi
theorem SR.uamp {I : gI} {a : Nat} {p s : gP} (h : SR I a p s) (h4 : (p 4).toInt ≤ 4) {k : Nat} (hk : k < 4) (v : Int32) : SR (sI I (a + 2) k v) a p (up s (6 + k) v) := by
  refine SR.mk ?_ ?_ ?_ ?_ ?_ ?_ ?_ ?_ ?_ ?_
  · rw [sI_o (by omega), up_o (by omega)]; exact h.t
  · rw [sI_o (by omega), up_o (by omega)]; exact h.op
  · intro i hi; rw [sI_o (by omega)]; exact h.b i hi
  · intro i hi; rw [sI_o (by omega), up_o (by omega)]; exact h.on i hi
  · intro i hi
    rw [sI_get]
    by_cases q : i = k
    · rw [if_pos ⟨rfl, q⟩, q, up_t]
    · rw [if_neg (fun z => q z.2), up_o (by omega)]; exact h.amp i hi
  · intro i hi; rw [sI_o (by omega), up_o (by omega)]; exact h.ph i hi
  · intro i hi; rw [sI_o (by omega), up_o (by omega)]; exact h.x i hi
  · intro i hi; rw [sI_o (by omega), up_o (by omega)]; exact h.y i hi
  · intro i hi; rw [sI_o (by omega), up_o (by omega)]; exact h.vx i hi
  · intro i hi; rw [sI_o (by omega), up_o (by omega)]; exact h.vy i hi
theorem SR.uph {I : gI} {a : Nat} {p s : gP} (h : SR I a p s) (h4 : (p 4).toInt ≤ 4) {k : Nat} (hk : k < 4) (v : Int32) : SR (sI I (a + 3) k v) a p (up s (10 + k) v) := by
  refine SR.mk ?_ ?_ ?_ ?_ ?_ ?_ ?_ ?_ ?_ ?_
  · rw [sI_o (by omega), up_o (by omega)]; exact h.t
  · rw [sI_o (by omega), up_o (by omega)]; exact h.op
  · intro i hi; rw [sI_o (by omega)]; exact h.b i hi
  · intro i hi; rw [sI_o (by omega), up_o (by omega)]; exact h.on i hi
  · intro i hi; rw [sI_o (by omega), up_o (by omega)]; exact h.amp i hi
  · intro i hi
    rw [sI_get]
    by_cases q : i = k
    · rw [if_pos ⟨rfl, q⟩, q, up_t]
    · rw [if_neg (fun z => q z.2), up_o (by omega)]; exact h.ph i hi
  · intro i hi; rw [sI_o (by omega), up_o (by omega)]; exact h.x i hi
  · intro i hi; rw [sI_o (by omega), up_o (by omega)]; exact h.y i hi
  · intro i hi; rw [sI_o (by omega), up_o (by omega)]; exact h.vx i hi
  · intro i hi; rw [sI_o (by omega), up_o (by omega)]; exact h.vy i hi
theorem SR.ux {I : gI} {a : Nat} {p s : gP} (h : SR I a p s) (h4 : (p 4).toInt ≤ 4) {k : Nat} (hk : k < 4) (v : Int32) : SR (sI I (a + 4) k v) a p (up s (14 + k) v) := by
  refine SR.mk ?_ ?_ ?_ ?_ ?_ ?_ ?_ ?_ ?_ ?_
  · rw [sI_o (by omega), up_o (by omega)]; exact h.t
  · rw [sI_o (by omega), up_o (by omega)]; exact h.op
  · intro i hi; rw [sI_o (by omega)]; exact h.b i hi
  · intro i hi; rw [sI_o (by omega), up_o (by omega)]; exact h.on i hi
  · intro i hi; rw [sI_o (by omega), up_o (by omega)]; exact h.amp i hi
  · intro i hi; rw [sI_o (by omega), up_o (by omega)]; exact h.ph i hi
  · intro i hi
    rw [sI_get]
    by_cases q : i = k
    · rw [if_pos ⟨rfl, q⟩, q, up_t]
    · rw [if_neg (fun z => q z.2), up_o (by omega)]; exact h.x i hi
  · intro i hi; rw [sI_o (by omega), up_o (by omega)]; exact h.y i hi
  · intro i hi; rw [sI_o (by omega), up_o (by omega)]; exact h.vx i hi
  · intro i hi; rw [sI_o (by omega), up_o (by omega)]; exact h.vy i hi
theorem SR.uy {I : gI} {a : Nat} {p s : gP} (h : SR I a p s) (h4 : (p 4).toInt ≤ 4) {k : Nat} (hk : k < 4) (v : Int32) : SR (sI I (a + 5) k v) a p (up s (18 + k) v) := by
  refine SR.mk ?_ ?_ ?_ ?_ ?_ ?_ ?_ ?_ ?_ ?_
  · rw [sI_o (by omega), up_o (by omega)]; exact h.t
  · rw [sI_o (by omega), up_o (by omega)]; exact h.op
  · intro i hi; rw [sI_o (by omega)]; exact h.b i hi
  · intro i hi; rw [sI_o (by omega), up_o (by omega)]; exact h.on i hi
  · intro i hi; rw [sI_o (by omega), up_o (by omega)]; exact h.amp i hi
  · intro i hi; rw [sI_o (by omega), up_o (by omega)]; exact h.ph i hi
  · intro i hi; rw [sI_o (by omega), up_o (by omega)]; exact h.x i hi
  · intro i hi
    rw [sI_get]
    by_cases q : i = k
    · rw [if_pos ⟨rfl, q⟩, q, up_t]
    · rw [if_neg (fun z => q z.2), up_o (by omega)]; exact h.y i hi
  · intro i hi; rw [sI_o (by omega), up_o (by omega)]; exact h.vx i hi
  · intro i hi; rw [sI_o (by omega), up_o (by omega)]; exact h.vy i hi
theorem SR.uvx {I : gI} {a : Nat} {p s : gP} (h : SR I a p s) (h4 : (p 4).toInt ≤ 4) {k : Nat} (hk : k < 4) (v : Int32) : SR (sI I (a + 6) k v) a p (up s (22 + k) v) := by
  refine SR.mk ?_ ?_ ?_ ?_ ?_ ?_ ?_ ?_ ?_ ?_
  · rw [sI_o (by omega), up_o (by omega)]; exact h.t
  · rw [sI_o (by omega), up_o (by omega)]; exact h.op
  · intro i hi; rw [sI_o (by omega)]; exact h.b i hi
  · intro i hi; rw [sI_o (by omega), up_o (by omega)]; exact h.on i hi
  · intro i hi; rw [sI_o (by omega), up_o (by omega)]; exact h.amp i hi
  · intro i hi; rw [sI_o (by omega), up_o (by omega)]; exact h.ph i hi
  · intro i hi; rw [sI_o (by omega), up_o (by omega)]; exact h.x i hi
  · intro i hi; rw [sI_o (by omega), up_o (by omega)]; exact h.y i hi
  · intro i hi
    rw [sI_get]
    by_cases q : i = k
    · rw [if_pos ⟨rfl, q⟩, q, up_t]
    · rw [if_neg (fun z => q z.2), up_o (by omega)]; exact h.vx i hi
  · intro i hi; rw [sI_o (by omega), up_o (by omega)]; exact h.vy i hi
theorem SR.uvy {I : gI} {a : Nat} {p s : gP} (h : SR I a p s) (h4 : (p 4).toInt ≤ 4) {k : Nat} (hk : k < 4) (v : Int32) : SR (sI I (a + 7) k v) a p (up s (26 + k) v) := by
  refine SR.mk ?_ ?_ ?_ ?_ ?_ ?_ ?_ ?_ ?_ ?_
  · rw [sI_o (by omega), up_o (by omega)]; exact h.t
  · rw [sI_o (by omega), up_o (by omega)]; exact h.op
  · intro i hi; rw [sI_o (by omega)]; exact h.b i hi
  · intro i hi; rw [sI_o (by omega), up_o (by omega)]; exact h.on i hi
  · intro i hi; rw [sI_o (by omega), up_o (by omega)]; exact h.amp i hi
  · intro i hi; rw [sI_o (by omega), up_o (by omega)]; exact h.ph i hi
  · intro i hi; rw [sI_o (by omega), up_o (by omega)]; exact h.x i hi
  · intro i hi; rw [sI_o (by omega), up_o (by omega)]; exact h.y i hi
  · intro i hi; rw [sI_o (by omega), up_o (by omega)]; exact h.vx i hi
  · intro i hi
    rw [sI_get]
    by_cases q : i = k
    · rw [if_pos ⟨rfl, q⟩, q, up_t]
    · rw [if_neg (fun z => q z.2), up_o (by omega)]; exact h.vy i hi
theorem SR.uop {I : gI} {a : Nat} {p s : gP} (h : SR I a p s) (h4 : (p 4).toInt ≤ 4) (v : Int32) : SR (sI I a 1 v) a p (up s 1 v) := by
  refine SR.mk ?_ ?_ ?_ ?_ ?_ ?_ ?_ ?_ ?_ ?_
  · rw [sI_k (by decide), up_o (by decide)]; exact h.t
  · rw [sI_self, up_t]
  · intro i hi; rw [sI_o (by omega)]; exact h.b i hi
  · intro i hi; rw [sI_o (by omega), up_o (by omega)]; exact h.on i hi
  · intro i hi; rw [sI_o (by omega), up_o (by omega)]; exact h.amp i hi
  · intro i hi; rw [sI_o (by omega), up_o (by omega)]; exact h.ph i hi
  · intro i hi; rw [sI_o (by omega), up_o (by omega)]; exact h.x i hi
  · intro i hi; rw [sI_o (by omega), up_o (by omega)]; exact h.y i hi
  · intro i hi; rw [sI_o (by omega), up_o (by omega)]; exact h.vx i hi
  · intro i hi; rw [sI_o (by omega), up_o (by omega)]; exact h.vy i hi
theorem SR.ut {I : gI} {a : Nat} {p s : gP} (h : SR I a p s) (h4 : (p 4).toInt ≤ 4) (v : Int32) : SR (sI I a 0 v) a p (up s 0 v) := by
  refine SR.mk ?_ ?_ ?_ ?_ ?_ ?_ ?_ ?_ ?_ ?_
  · rw [sI_self, up_t]
  · rw [sI_k (by decide), up_o (by decide)]; exact h.op
  · intro i hi; rw [sI_o (by omega)]; exact h.b i hi
  · intro i hi; rw [sI_o (by omega), up_o (by omega)]; exact h.on i hi
  · intro i hi; rw [sI_o (by omega), up_o (by omega)]; exact h.amp i hi
  · intro i hi; rw [sI_o (by omega), up_o (by omega)]; exact h.ph i hi
  · intro i hi; rw [sI_o (by omega), up_o (by omega)]; exact h.x i hi
  · intro i hi; rw [sI_o (by omega), up_o (by omega)]; exact h.y i hi
  · intro i hi; rw [sI_o (by omega), up_o (by omega)]; exact h.vx i hi
  · intro i hi; rw [sI_o (by omega), up_o (by omega)]; exact h.vy i hi
theorem SV.u {p s : gP} (h : SV p s) (h4 : (p 4).toInt ≤ 4) {t : Nat} (ht : 10 ≤ t) (v : Int32) : SV p (up s t v) := by
  refine SV.mk ?_ ?_ ?_ ?_
  · rw [up_o (by omega)]; exact h.t
  · rw [up_o (by omega)]; exact h.o
  · intro i hi; rw [up_o (by omega)]; exact h.on i hi
  · intro i hi; rw [up_o (by omega)]; exact h.amp i hi
theorem SV.uop {p s : gP} (h : SV p s) (h4 : (p 4).toInt ≤ 4) {v : Int32} (hv : 0 ≤ v.toInt ∧ v.toInt < 1024) : SV p (up s 1 v) := by
  refine SV.mk ?_ ?_ ?_ ?_
  · rw [up_o (by omega)]; exact h.t
  · rw [up_t]; exact hv
  · intro i hi; rw [up_o (by omega)]; exact h.on i hi
  · intro i hi; rw [up_o (by omega)]; exact h.amp i hi
theorem SV.ut {p s : gP} (h : SV p s) (h4 : (p 4).toInt ≤ 4) {v : Int32} (hv : 0 ≤ v.toInt ∧ v.toInt ≤ 9999) : SV p (up s 0 v) := by
  refine SV.mk ?_ ?_ ?_ ?_
  · rw [up_t]; exact hv
  · rw [up_o (by omega)]; exact h.o
  · intro i hi; rw [up_o (by omega)]; exact h.on i hi
  · intro i hi; rw [up_o (by omega)]; exact h.amp i hi
theorem SV.uon {p s : gP} (h : SV p s) (h4 : (p 4).toInt ≤ 4) {k : Nat} (hk : k < 4) {v : Int32} (hv : v = 0 ∨ v = 1) : SV p (up s (2 + k) v) := by
  refine SV.mk ?_ ?_ ?_ ?_
  · rw [up_o (by omega)]; exact h.t
  · rw [up_o (by omega)]; exact h.o
  · intro i hi
    by_cases q : i = k
    · rw [q, up_t]; exact hv
    · rw [up_o (by omega)]; exact h.on i hi
  · intro i hi; rw [up_o (by omega)]; exact h.amp i hi
theorem SV.uamp {p s : gP} (h : SV p s) (h4 : (p 4).toInt ≤ 4) {k : Nat} (hk : k < 4) {v : Int32} (hv : 0 ≤ v.toInt ∧ v.toInt ≤ 999) : SV p (up s (6 + k) v) := by
  refine SV.mk ?_ ?_ ?_ ?_
  · rw [up_o (by omega)]; exact h.t
  · rw [up_o (by omega)]; exact h.o
  · intro i hi; rw [up_o (by omega)]; exact h.on i hi
  · intro i hi
    by_cases q : i = k
    · rw [q, up_t]; exact hv
    · rw [up_o (by omega)]; exact h.amp i hi
end FACEF

section FACEG
variable {n T0 T1 : Nat} {I : gI} {p s : gP}
theorem i8 : (8 : Int32) = Int32.ofNat 8 := rfl
theorem md8 {a b : Nat} (ha : a < 1000) (hb : b < 1000) : (Int32.ofNat a + Int32.ofNat b) - (Int32.ofNat a + Int32.ofNat b) / (8 : Int32) * (8 : Int32) = Int32.ofNat ((a + b) % 8) := by
  rw [i_oadd, i8]; exact i_omod (by omega) (by omega)
end FACEG

section FACEH
variable {n T0 T1 : Nat} {I : gI} {p s : gP}
theorem slo_k {a : Int32} (h : rng a 0 1 = true) : ∃ k, k < 2 ∧ a = Int32.ofNat k := by
  have q := rng_t.mp h
  rw [ii_0, ii_1] at q
  exact ⟨a.toInt.toNat, by omega, (i_on q.1).symm⟩
end FACEH

/-! GROUPS OF NODES -/
def bt (v : Int32) (x : Nat) : Bool := v.toBitVec.getLsbD x
theorem bt_pow : ∀ x : Fin 16, ((1 : Int32) <<< (Int32.ofNat x.1 &&& 31)) = Int32.ofNat (2 ^ x.1) := by decide
theorem bt_smod : ∀ x : Fin 16, ((Int32.ofNat x.1 &&& 31).toBitVec.smod 32).toNat = x.1 := by decide
theorem bt_get (v : Int32) {x : Nat} (hx : x < 16) : (v >>> (Int32.ofNat x &&& 31)) &&& 1 = b2 (bt v x) := by
  apply Int32.toBitVec_inj.mp
  apply BitVec.eq_of_getLsbD_eq
  intro i hi
  have h1 : ∀ i : Fin 32, (1 : Int32).toBitVec.getLsbD i.1 = decide (i.1 = 0) := by decide
  have h := h1 ⟨i, hi⟩
  have hs := bt_smod ⟨x, hx⟩
  simp only at hs h
  have e : (v >>> (Int32.ofNat x &&& 31)).toBitVec = v.toBitVec.sshiftRight x := by
    rw [Int32.toBitVec_shiftRight]
    show v.toBitVec.sshiftRight _ = _
    rw [hs]
  rw [Int32.toBitVec_and, BitVec.getLsbD_and, h, e, BitVec.getLsbD_sshiftRight]
  by_cases h0 : i = 0
  · subst h0
    rw [if_pos (by omega)]
    unfold bt
    simp only [Nat.add_zero]
    cases hv : v.toBitVec.getLsbD x
    · simp [b2]
    · simp [b2]
  · have : (b2 (bt v x)).toBitVec.getLsbD i = false := by
      cases bt v x
      · show (0 : Int32).toBitVec.getLsbD i = false
        have : ∀ i : Fin 32, (0 : Int32).toBitVec.getLsbD i.1 = false := by decide
        exact this ⟨i, hi⟩
      · show (1 : Int32).toBitVec.getLsbD i = false
        rw [h]; simp [h0]
    rw [this]; simp [h0]
theorem pow_bit {x x' : Nat} (hx : x < 16) (hx' : x' < 16) : (Int32.ofNat (2 ^ x)).toBitVec.getLsbD x' = decide (x' = x) := by
  have : ∀ x x' : Fin 16, (Int32.ofNat (2 ^ x.1)).toBitVec.getLsbD x'.1 = decide (x'.1 = x.1) := by decide
  exact this ⟨x, hx⟩ ⟨x', hx'⟩
theorem bt_xor (v : Int32) {x x' : Nat} (hx : x < 16) (hx' : x' < 16) : bt (v ^^^ ((1 : Int32) <<< (Int32.ofNat x &&& 31))) x' = if x' = x then !bt v x else bt v x' := by
  have hp := bt_pow ⟨x, hx⟩
  simp only at hp
  unfold bt
  rw [hp, Int32.toBitVec_xor, BitVec.getLsbD_xor, pow_bit hx hx']
  by_cases h : x' = x
  · subst h; simp
  · simp [h]
theorem bt_or (v : Int32) {x x' : Nat} (hx : x < 16) (hx' : x' < 16) : bt (v ||| ((1 : Int32) <<< (Int32.ofNat x &&& 31))) x' = if x' = x then true else bt v x' := by
  have hp := bt_pow ⟨x, hx⟩
  simp only at hp
  unfold bt
  rw [hp, Int32.toBitVec_or, BitVec.getLsbD_or, pow_bit hx hx']
  by_cases h : x' = x
  · subst h; simp
  · simp [h]
section FACEL
variable {n T0 T1 W H : Nat} {I K I0 K0 : gI} {p s : gP}
/-- the bits of a row of nodes -/
theorem c_calms (hn : 2000 ≤ n) {os : Nat} (hp : PV p) (hv : SV p s) (C : CK I T0 os p s) {y : Int32} (hy : yIn p y) {m : Int32} (hm0 : 0 ≤ m.toInt) (hm : m.toInt ≤ 200) (tol : Int32) : ∃ v, F_X9_calmColumns n T0 T1 os I y m tol = some v ∧ ∀ x, x < (p 0).toInt.toNat → bt v x = sCalm p s (Int32.ofNat x) y m tol := by
  have hw := hp.w
  have key : ∀ (d x j : Nat) (a : Int32), x + d = (p 0).toInt.toNat → d < j → (∀ i, i < 16 → bt a i = (decide (i < x) && sCalm p s (Int32.ofNat i) y m tol)) → ∃ v, L_X9_calmColumns n T0 T1 os I y m tol j 0 a (Int32.ofNat x) = some v ∧ ∀ i, i < (p 0).toInt.toNat → bt v i = sCalm p s (Int32.ofNat i) y m tol := by
    intro d
    induction d with
    | zero =>
      intro x j a hx hj ha
      obtain ⟨j, rfl⟩ : ∃ i, j = i + 1 := ⟨j - 1, by omega⟩
      refine ⟨a, ?_, fun i hi => ?_⟩
      · rw [L_X9_calmColumns_e0, C.tr.w, if_pos (by rw [i_le, i_of (by omega)]; omega)]
      · rw [ha i (by omega)]; simp [show i < x by omega]
    | succ d ih =>
      intro x j a hx hj ha
      obtain ⟨j, rfl⟩ : ∃ i, j = i + 1 := ⟨j - 1, by omega⟩
      have hx1 : xIn p (Int32.ofNat x) := by unfold xIn; rw [i_of (by omega)]; omega
      rw [L_X9_calmColumns_e0, C.tr.w, if_neg (by rw [i_le, i_of (by omega)]; omega), c_calm hn hp hv C hx1 hy hm0 hm, bd_s, ixp_1]
      cases hc : sCalm p s (Int32.ofNat x) y m tol
      · rw [if_pos (show b2 false = 0 from rfl)]
        refine ih (x + 1) j a (by omega) (by omega) (fun i hi => ?_)
        rw [ha i hi]
        by_cases q : i = x
        · subst q; rw [hc]; simp
        · have : (decide (i < x)) = (decide (i < x + 1)) := by apply decide_eq_decide.mpr; omega
          rw [this]
      · rw [if_neg (show ¬ b2 true = 0 by decide)]
        refine ih (x + 1) j _ (by omega) (by omega) (fun i hi => ?_)
        rw [bt_or _ (by omega) hi]
        by_cases q : i = x
        · subst q; rw [if_pos rfl, hc]; simp
        · have : (decide (i < x)) = (decide (i < x + 1)) := by apply decide_eq_decide.mpr; omega
          rw [if_neg q, ha i hi, this]
  exact key (p 0).toInt.toNat 0 n 0 (by omega) (by omega) (fun i hi => by
    have : ∀ i : Fin 32, (0 : Int32).toBitVec.getLsbD i.1 = false := by decide
    have := this ⟨i, by omega⟩
    simp only at this
    unfold bt
    rw [this]; simp)
end FACEL
section FACEM
variable {n T0 T1 : Nat} {I : gI} {p s : gP}
end FACEM

