/-- the energy of a cell, by its number -/
def eC (p s : gP) (m : Int32) (c : Nat) : Int64 := sEner p s (Int32.ofNat (c % (p 0).toInt.toNat)) (Int32.ofNat (c / (p 0).toInt.toNat)) m
def nC (p : gP) : Nat := (p 0).toInt.toNat * (p 1).toInt.toNat
/-- the greatest energy -/
def eMax (p s : gP) (m : Int32) : Int64 := lp (fun c a => jmaxl a (eC p s m c)) (nC p) 0 0
theorem nC_b {p : gP} (hp : PV p) : nC p ≤ 160 := (cells_e hp).2
section FACED
variable {n T0 T1 : Nat} {I K : gI} {J N : gJ}
theorem c_cells {o os : Nat} {p s : gP} (hp : PV p) (C : CK I o os p s) : F_X7_cells n o I = some (Int32.ofNat (nC p)) := by
  unfold F_X7_cells
  rw [C.tr.w, C.tr.h, (cells_e hp).1]; rfl
theorem m_cells {o : Nat} {p s : gP} (hp : PV p) (M : MK K o p s) : F_X10_cellCount n K = some (Int32.ofNat (nC p)) := by
  unfold F_X10_cellCount
  rw [M.hp, M.hp, (cells_e hp).1]; rfl
theorem c_fillE (hn : 2000 ≤ n) (L : LD T0 I K) (ru : RU I) {m : Int32} (hm0 : 0 ≤ m.toInt) (hm : m.toInt ≤ 200) : ∃ J', F_X9_fillEnergies n T0 T1 I J m = some J' ∧ (∀ o i, o ≠ 91 → J' o i = J o i) ∧ (∀ c, c < nC (pl K) → J' 91 c = eC (pl K) (st K) m c) := by
  have C := L.ck ru
  have hN := nC_b L.pv
  have key : ∀ (d c j : Nat) (J1 : gJ), c + d = nC (pl K) → d < j → (∀ o i, o ≠ 91 → J1 o i = J o i) → (∀ i, i < c → J1 91 i = eC (pl K) (st K) m i) → ∃ J', L_X9_fillEnergies n T0 T1 I m j 0 (Int32.ofNat c) J1 = some J' ∧ (∀ o i, o ≠ 91 → J' o i = J o i) ∧ (∀ c, c < nC (pl K) → J' 91 c = eC (pl K) (st K) m c) := by
    intro d
    induction d with
    | zero =>
      intro c j J1 hc hj h1 h2
      obtain ⟨j, rfl⟩ : ∃ i, j = i + 1 := ⟨j - 1, by omega⟩
      refine ⟨J1, ?_, h1, fun i hi => h2 i (by omega)⟩
      rw [L_X9_fillEnergies_e0, c_cells L.pv C, bd_s, if_pos (by rw [i_ole (by omega) (by omega)]; omega)]
    | succ d ih =>
      intro c j J1 hc hj h1 h2
      obtain ⟨j, rfl⟩ : ∃ i, j = i + 1 := ⟨j - 1, by omega⟩
      have cx := cell_x L.pv (k := c) (by unfold nC at hc; omega)
      obtain ⟨J2, e, q1, q2⟩ := ih (c + 1) j (sJ J1 91 c (eC (pl K) (st K) m c)) (by omega) (by omega) (fun o i ho => by rw [sJ_get, if_neg (fun q => ho q.1)]; exact h1 o i ho) (fun i hi => by
        rw [sJ_get]
        by_cases hc : i = c
        · rw [if_pos ⟨rfl, hc⟩, hc]
        · rw [if_neg (fun q => hc q.2)]; exact h2 i (by omega))
      refine ⟨J2, ?_, q1, q2⟩
      rw [L_X9_fillEnergies_e0, c_cells L.pv C, bd_s, if_neg (by rw [i_ole (by omega) (by omega)]; omega), L.tr.w, gd_t cx.1, gd_t cx.1, cx.2.2.2.2.1, cx.2.2.2.2.2, c_ener hn L.pv L.sv C cx.2.2.1 cx.2.2.2.1 hm0 hm, bd_s, ixp_1, gv_o (by omega), i_tno (by omega)]
      exact e
  exact key (nC (pl K)) 0 n J (by omega) (by omega) (fun _ _ _ => rfl) (fun i hi => by omega)
theorem c_great (hn : 2000 ≤ n) (L : LD T0 I K) (ru : RU I) {m : Int32} {J' : gJ} (hJ : ∀ c, c < nC (pl K) → J' 91 c = eC (pl K) (st K) m c) : F_X9_greatestEnergy n T0 T1 I J' = some (eMax (pl K) (st K) m) := by
  have C := L.ck ru
  have hN := nC_b L.pv
  have key : ∀ (d c j : Nat) (a : Int64), c + d = nC (pl K) → d < j → L_X9_greatestEnergy n T0 T1 I J' j 0 a (Int32.ofNat c) = some (lp (fun c a => jmaxl a (eC (pl K) (st K) m c)) d c a) := by
    intro d
    induction d with
    | zero =>
      intro c j a hc hj
      obtain ⟨j, rfl⟩ : ∃ i, j = i + 1 := ⟨j - 1, by omega⟩
      rw [L_X9_greatestEnergy_e0, c_cells L.pv C, bd_s, if_pos (by rw [i_ole (by omega) (by omega)]; omega)]
      rfl
    | succ d ih =>
      intro c j a hc hj
      obtain ⟨j, rfl⟩ : ∃ i, j = i + 1 := ⟨j - 1, by omega⟩
      rw [L_X9_greatestEnergy_e0, c_cells L.pv C, bd_s, if_neg (by rw [i_ole (by omega) (by omega)]; omega), gv_o (by omega), i_tno (by omega), hJ c (by omega), ixp_1, lp_s]
      exact ih (c + 1) j _ (by omega) (by omega)
  exact key (nC (pl K)) 0 n 0 (by omega) (by omega)
theorem m_lays (hn : 2000 ≤ n) {p s : gP} (hp : PV p) (hv : SV p s) (M : MK K (153 + 4) p s) {m : Int32} (hm0 : 0 ≤ m.toInt) (hm : m.toInt ≤ 200) : ∃ K' N', F_X10_laysEnergies n K N m = some (eMax p s m, K', N') ∧ Tq K K' ∧ (∀ c, c < nC p → N' (153 + 14) c = eC p s m c) := by
  have hN := nC_b hp
  have key : ∀ (d c j : Nat) (a : Int64) (K1 : gI) (N1 : gJ), MK K1 (153 + 4) p s → c + d = nC p → d < j → (∀ i, i < c → N1 (153 + 14) i = eC p s m i) → ∃ K' N', L_X10_laysEnergies n m j 0 a (Int32.ofNat c) K1 N1 = some (lp (fun c a => jmaxl a (eC p s m c)) d c a, K', N') ∧ Tq K1 K' ∧ (∀ c, c < nC p → N' (153 + 14) c = eC p s m c) := by
    intro d
    induction d with
    | zero =>
      intro c j a K1 N1 M1 hc hj h2
      obtain ⟨j, rfl⟩ : ∃ i, j = i + 1 := ⟨j - 1, by omega⟩
      refine ⟨K1, N1, ?_, Tq.rfl', fun i hi => h2 i (by omega)⟩
      rw [L_X10_laysEnergies_e0, m_cells hp M1, bd_s, if_pos (by rw [i_ole (by omega) (by omega)]; omega)]
      rfl
    | succ d ih =>
      intro c j a K1 N1 M1 hc hj h2
      obtain ⟨j, rfl⟩ : ∃ i, j = i + 1 := ⟨j - 1, by omega⟩
      have cx := cell_x hp (k := c) (by unfold nC at hc; omega)
      obtain ⟨K2, e2, q2⟩ := m_ener hn hp hv M1 cx.2.2.1 cx.2.2.2.1 hm0 hm
      obtain ⟨K3, N3, e3, q3, f3⟩ := ih (c + 1) j (jmaxl a (eC p s m c)) K2 (sJ N1 (153 + 14) c (eC p s m c)) (M1.tq q2) (by omega) (by omega) (fun i hi => by
        rw [sJ_get]
        by_cases hc : i = c
        · rw [if_pos ⟨rfl, hc⟩, hc]
        · rw [if_neg (fun q => hc q.2)]; exact h2 i (by omega))
      refine ⟨K3, N3, ?_, q2.trans q3, f3⟩
      rw [L_X10_laysEnergies_e0, m_cells hp M1, bd_s, if_neg (by rw [i_ole (by omega) (by omega)]; omega), M1.hp, gd_t cx.1, gd_t cx.1, cx.2.2.2.2.1, cx.2.2.2.2.2, e2, bd_s]
      dsimp only
      rw [gv_o (by omega), gv_o (by omega), i_tno (by omega), ixp_1, sJ_get, if_pos ⟨rfl, rfl⟩, lp_s]
      exact e3
  exact key (nC p) 0 n 0 K N M (by omega) (by omega) (fun i hi => by omega)
theorem sm_r {ε α β : Type} (v : α) (a : ε → β) (b : α → β) : sm (.inr v : ε ⊕ α) a b = b v := rfl
theorem sm_nd {α : Type} (c : Bool) (E : String) (g : Unit → Option (String ⊕ α)) : sm (nd c E) (fun e => some (.inl e)) g = if c then g () else some (.inl E) := by
  cases c <;> rfl
/-! comparisons of longs -/
theorem cmp_0 (x y : Int64) : lg_cmp x y = 0 ↔ x = y := by
  unfold lg_cmp
  by_cases h : x > y
  · rw [if_pos h]
    refine ⟨fun q => absurd q (by decide), fun q => ?_⟩
    subst q
    exact absurd h (by simp)
  · rw [if_neg h]
    by_cases h2 : x = y
    · rw [if_pos h2]; exact ⟨fun _ => h2, fun _ => rfl⟩
    · rw [if_neg h2]; exact ⟨fun q => absurd q (by decide), fun q => absurd q h2⟩
theorem cmp_p (x y : Int64) : 0 < lg_cmp x y ↔ y < x := by
  unfold lg_cmp
  by_cases h : x > y
  · rw [if_pos h]; exact ⟨fun _ => h, fun _ => by decide⟩
  · rw [if_neg h]
    by_cases h2 : x = y
    · rw [if_pos h2]; exact ⟨fun q => absurd q (by decide), fun q => absurd q h⟩
    · rw [if_neg h2]; exact ⟨fun q => absurd q (by decide), fun q => absurd q h⟩
theorem cmp_n (x y : Int64) : lg_cmp x y ≤ 0 ↔ ¬ y < x := by
  rw [← cmp_p, i_le, i_lt, ii_0]; omega
theorem cmp_g (x y : Int64) : 0 ≤ lg_cmp x y ↔ ¬ x < y := by
  rw [← cmp_p y x, i_le, i_lt, ii_0]
  unfold lg_cmp
  by_cases h : x > y
  · have h' : ¬ (y > x) := by
      intro q
      rw [gt_iff_lt, Int64.lt_iff_toInt_lt] at h q; omega
    have h'' : ¬ (y = x) := fun q => by subst q; exact absurd h (by simp)
    rw [if_pos h, if_neg h', if_neg h'']; decide
  · rw [if_neg h]
    by_cases h2 : x = y
    · subst h2; rw [if_pos rfl, if_neg h]; decide
    · have h3 : y > x := by
        rw [gt_iff_lt, Int64.lt_iff_toInt_lt] at h ⊢
        have : x.toInt ≠ y.toInt := fun q => h2 (Int64.toInt_inj.mp q)
        omega
      rw [if_neg h2, if_pos h3]; decide
theorem e_allEnergy (hn : 2000 ≤ n) (R : Rel T0 T1 I K) (J : gJ) (N : gJ) (a1 : Int32) : AG (F_X9_allEnergy n T0 T1 I J a1) (F_X10_allEnergy n K N a1) (fun v b => v.1 = b.1 ∧ Tt K 0 b.2.1) (fun E b => Tt K (thB E) b.2.1) := by
  rcases R.ld with ⟨h9, h10⟩ | ⟨h9, h10, L⟩
  · refine AG.er (E := ISE) (b := (0, sI K 153 0 1, N)) ?_ ?_ (Tt.r 1)
    · unfold F_X9_allEnergy; rw [n_tank0 h9]; rfl
    · unfold F_X10_allEnergy
      simp only [x_run, bd_s]
      cases rng a1 1 40 <;> simp only [b2_tv, b2_fv, e10, if_true, if_false, bd_s, ask0 h10, askF0 h10]
  unfold F_X9_allEnergy F_X10_allEnergy
  simp only [n_tank1 h9, nt_s, n_tim, nd_s, x_run, bd_s]
  cases g0 : rng a1 1 40
  · refine AG.er (E := IAE) (b := (0, sI K 153 0 2, N)) ?_ ?_ (Tt.r 2)
    · rfl
    · simp only [b2_tv, b2_fv, e10, if_true, if_false, bd_s, ask2 h10, askF2 h10, askF3 h10]
  simp only [b2_tv, b2_fv, e10, if_true, if_false, bd_s, ask1 h10, askF1 h10]
  have M := L.mk' (Tt.r 0) R.tv
  have C := L.ck R.ru
  have h4 := rng_t.mp g0
  have c1 : (1 : Int32).toInt = 1 := rfl
  have c2 : (40 : Int32).toInt = 40 := rfl
  have hN := nC_b L.pv
  obtain ⟨J', e9, hJo, hJ⟩ := c_fillE (n := n) (T1 := T1) (J := J) hn L R.ru (m := a1) (by omega) (by omega)
  obtain ⟨K', N', e10, q, hN'⟩ := m_lays (N := N) hn L.pv L.sv M (m := a1) (by omega) (by omega)
  have M' := M.tq q
  rw [e9, e10]
  have key : ∀ (d c j : Nat) (y2 a : Int64), c + d = nC (pl K) → d < j → ∃ v, L_X9_allEnergy n T0 T1 I a1 j 0 a (Int32.ofNat c) J' = some (.inr (v, J')) ∧ L_X10_allEnergy n a1 j 0 y2 a (Int32.ofNat c) K' N' = some (v, K', N') := by
    intro d
    induction d with
    | zero =>
      intro c j y2 a hc hj
      obtain ⟨j, rfl⟩ : ∃ i, j = i + 1 := ⟨j - 1, by omega⟩
      refine ⟨a, ?_, ?_⟩
      · rw [L_X9_allEnergy_e0, c_cells L.pv C, bd_s, if_pos (by rw [i_ole (by omega) (by omega)]; omega)]
      · rw [L_X10_allEnergy_e0, m_cells L.pv M', bd_s, if_pos (by rw [i_ole (by omega) (by omega)]; omega)]
    | succ d ih =>
      intro c j y2 a hc hj
      obtain ⟨j, rfl⟩ : ∃ i, j = i + 1 := ⟨j - 1, by omega⟩
      obtain ⟨v, e1, e2⟩ := ih (c + 1) j y2 (a + eC (pl K) (st K) a1 c) (by omega) (by omega)
      refine ⟨v, ?_, ?_⟩
      · rw [L_X9_allEnergy_e0, c_cells L.pv C, bd_s, if_neg (by rw [i_ole (by omega) (by omega)]; omega), gv_o (by omega), i_tno (by omega), hJ c (by omega), ixp_1]; exact e1
      · rw [L_X10_allEnergy_e0, m_cells L.pv M', bd_s, if_neg (by rw [i_ole (by omega) (by omega)]; omega), gv_o (by omega), i_tno (by omega), hN' c (by omega), ixp_1]; exact e2
  obtain ⟨v, e1, e2⟩ := key (nC (pl K)) 0 n (eMax (pl K) (st K) a1) 0 (by omega) (by omega)
  exact AG.ok e1 e2 ⟨rfl, q⟩
theorem e_marks (hn : 2000 ≤ n) (R : Rel T0 T1 I K) (J : gJ) (N : gJ) (a1 a2 : Int32) : AG (F_X9_marks n T0 T1 I J a1 a2) (F_X10_marks n K N a1 a2) (fun v b => v.1 = b.1 ∧ Tt K 0 b.2.1) (fun E b => Tt K (thB E) b.2.1) := by
  rcases R.ld with ⟨h9, h10⟩ | ⟨h9, h10, L⟩
  · refine AG.er (E := ISE) (b := (0, sI K 153 0 1, N)) ?_ ?_ (Tt.r 1)
    · unfold F_X9_marks; rw [n_tank0 h9]; rfl
    · unfold F_X10_marks
      simp only [x_run, x_sha, bd_s]
      cases rng a1 1 40 <;> cases rng a2 1 100 <;> simp only [b2_tv, b2_fv, e10, if_true, if_false, bd_s, ask0 h10, askF0 h10]
  unfold F_X9_marks F_X10_marks
  simp only [n_tank1 h9, nt_s, n_tim, n_rng, nd_s, x_run, x_sha, bd_s]
  cases g0 : rng a1 1 40
  · refine AG.er (E := IAE) (b := (0, sI K 153 0 2, N)) ?_ ?_ (Tt.r 2)
    · rfl
    · cases rng a2 1 100 <;> simp only [b2_tv, b2_fv, e10, if_true, if_false, bd_s, ask2 h10, askF2 h10, askF3 h10]
  cases g1 : rng a2 1 100
  · refine AG.er (E := IAE) (b := (0, sI K 153 0 2, N)) ?_ ?_ (Tt.r 2)
    · rfl
    · simp only [b2_tv, b2_fv, e10, if_true, if_false, bd_s, ask2 h10, askF2 h10, askF3 h10]
  simp only [b2_tv, b2_fv, e10, if_true, if_false, bd_s, ask1 h10, askF1 h10]
  have M := L.mk' (Tt.r 0) R.tv
  have C := L.ck R.ru
  have h4 := rng_t.mp g0
  have c1 : (1 : Int32).toInt = 1 := rfl
  have c2 : (40 : Int32).toInt = 40 := rfl
  have hN := nC_b L.pv
  obtain ⟨J', e9, hJo, hJ⟩ := c_fillE (n := n) (T1 := T1) (J := J) hn L R.ru (m := a1) (by omega) (by omega)
  obtain ⟨K', N', e10, q, hN'⟩ := m_lays (N := N) hn L.pv L.sv M (m := a1) (by omega) (by omega)
  have M' := M.tq q
  rw [e9, e10]
  simp only [bd_s]
  rw [c_great hn L R.ru hJ]
  have key : ∀ (d c j : Nat) (y a : Int32) (g : Int64), c + d = nC (pl K) → d < j → ∃ v, L_X9_marks n T0 T1 I a1 a2 j 0 g a (Int32.ofNat c) J' = some (.inr (v, J')) ∧ L_X10_marks n a1 a2 j 0 g a (Int32.ofNat c) K' N' = some (v, K', N') := by
    intro d
    induction d with
    | zero =>
      intro c j y a g hc hj
      obtain ⟨j, rfl⟩ : ∃ i, j = i + 1 := ⟨j - 1, by omega⟩
      refine ⟨a, ?_, ?_⟩
      · rw [L_X9_marks_e0, c_cells L.pv C, bd_s, if_pos (by rw [i_ole (by omega) (by omega)]; omega)]
      · rw [L_X10_marks_e0, m_cells L.pv M', bd_s, if_pos (by rw [i_ole (by omega) (by omega)]; omega)]
    | succ d ih =>
      intro c j y a g hc hj
      obtain ⟨j, rfl⟩ : ∃ i, j = i + 1 := ⟨j - 1, by omega⟩
      rw [L_X9_marks_e0, c_cells L.pv C, bd_s, if_neg (by rw [i_ole (by omega) (by omega)]; omega), gv_o (by omega), i_tno (by omega), hJ c (by omega), ixp_1]
      rw [L_X10_marks_e0, m_cells L.pv M', bd_s, if_neg (by rw [i_ole (by omega) (by omega)]; omega), gv_o (by omega), i_tno (by omega), hN' c (by omega), ixp_1]
      obtain ⟨w, hw⟩ : ∃ w, F_X9_hasShare n (eC (pl K) (st K) a1 c) a2 g = some w := by
        unfold F_X9_hasShare
        by_cases h1 : lg_cmp (eC (pl K) (st K) a1 c) 0 ≤ 0
        · rw [if_pos h1]; exact ⟨_, rfl⟩
        · rw [if_neg h1]
          by_cases h2 : lg_cmp (100 * eC (pl K) (st K) a1 c) (a2.toInt64 * g) < 0
          · rw [if_pos h2]; exact ⟨_, rfl⟩
          · rw [if_neg h2]; exact ⟨_, rfl⟩
      have hw' : F_X10_isMarked n (eC (pl K) (st K) a1 c) g a2 = some w := hw
      rw [hw, hw', bd_s, bd_s, Int32.add_zero]
      by_cases h : w = 0
      · rw [if_pos h, if_pos h]; exact ih (c + 1) j y a g (by omega) (by omega)
      · rw [if_neg h, if_neg h]; exact ih (c + 1) j y (a + 1) g (by omega) (by omega)
  obtain ⟨v, e1, e2⟩ := key (nC (pl K)) 0 n 0 0 (eMax (pl K) (st K) a1) (by omega) (by omega)
  exact AG.ok e1 e2 ⟨rfl, q⟩
theorem e_isMark (hn : 2000 ≤ n) (R : Rel T0 T1 I K) (J : gJ) (N : gJ) (a1 a2 a3 a4 : Int32) : AG (F_X9_isMark n T0 T1 I J a1 a2 a3 a4) (F_X10_isMark n K N a1 a2 a3 a4) (fun v b => v.1 = b.1 ∧ Tt K 0 b.2.1) (fun E b => Tt K (thA E) b.2.1) := by
  rcases R.ld with ⟨h9, h10⟩ | ⟨h9, h10, L⟩
  · refine AG.er (E := ISE) (b := (0, sI K 153 0 1, N)) ?_ ?_ (Tt.r 1)
    · unfold F_X9_isMark; rw [n_tank0 h9]; rfl
    · unfold F_X10_isMark
      simp only [x_cel, x_run, x_sha, bd_s]
      cases cel (pl K) a1 a2 <;> cases rng a3 1 40 <;> cases rng a4 1 100 <;> simp only [b2_tv, b2_fv, e10, if_true, if_false, bd_s, ask0 h10, askF0 h10]
  unfold F_X9_isMark F_X10_isMark
  simp only [n_tank1 h9, nt_s, n_cel L, n_tim, n_rng, nd_s, x_cel, x_run, x_sha, bd_s]
  cases g0 : cel (pl K) a1 a2
  · refine AG.er (E := IOB) (b := (0, sI K 153 0 2, N)) ?_ ?_ (Tt.r 2)
    · rfl
    · cases rng a3 1 40 <;> cases rng a4 1 100 <;> simp only [b2_tv, b2_fv, e10, if_true, if_false, bd_s, ask2 h10, askF2 h10, askF3 h10]
  cases g1 : rng a3 1 40
  · refine AG.er (E := IAE) (b := (0, sI K 153 0 3, N)) ?_ ?_ (Tt.r 3)
    · rfl
    · cases rng a4 1 100 <;> simp only [b2_tv, b2_fv, e10, if_true, if_false, bd_s, ask2 h10, askF2 h10, askF3 h10]
  cases g2 : rng a4 1 100
  · refine AG.er (E := IAE) (b := (0, sI K 153 0 3, N)) ?_ ?_ (Tt.r 3)
    · rfl
    · simp only [b2_tv, b2_fv, e10, if_true, if_false, bd_s, ask2 h10, askF2 h10, askF3 h10]
  simp only [b2_tv, b2_fv, e10, if_true, if_false, bd_s, ask1 h10, askF1 h10]
  have M := L.mk' (Tt.r 0) R.tv
  have C := L.ck R.ru
  have h4 := rng_t.mp g1
  have c1 : (1 : Int32).toInt = 1 := rfl
  have c2 : (40 : Int32).toInt = 40 := rfl
  have hN := nC_b L.pv
  obtain ⟨hx, hy⟩ := (cel_t L.pv).mp g0
  obtain ⟨J', e9, hJo, hJ⟩ := c_fillE (n := n) (T1 := T1) (J := J) hn L R.ru (m := a3) (by omega) (by omega)
  obtain ⟨K', N', e10, q, hN'⟩ := m_lays (N := N) hn L.pv L.sv M (m := a3) (by omega) (by omega)
  have M' := M.tq q
  have hw := L.pv.w
  have hh := L.pv.h
  have cn : F_X7_cellNumber n T0 I a1 a2 = some (Int32.ofNat ((pl K 0).toInt.toNat * a2.toInt.toNat + a1.toInt.toNat)) ∧ pl K 0 * a2 + a1 = Int32.ofNat ((pl K 0).toInt.toNat * a2.toInt.toNat + a1.toInt.toNat) ∧ (pl K 0).toInt.toNat * a2.toInt.toNat + a1.toInt.toNat < nC (pl K) := by
    unfold xIn at hx
    unfold yIn at hy
    have e1 : pl K 0 * a2 + a1 = Int32.ofNat ((pl K 0).toInt.toNat * a2.toInt.toNat + a1.toInt.toNat) := by
      rw [← i_oadd, ← i_omul, i_on (by omega), i_on (by omega), i_on (by omega)]
    refine ⟨?_, e1, ?_⟩
    · unfold F_X7_cellNumber
      rw [L.tr.w, ← e1, Int32.mul_comm]
    · unfold nC
      have : (pl K 0).toInt.toNat * (a2.toInt.toNat + 1) ≤ (pl K 0).toInt.toNat * (pl K 1).toInt.toNat := Nat.mul_le_mul_left _ (by omega)
      rw [Nat.mul_succ] at this
      omega
  rw [e9, e10]
  simp only [bd_s]
  rw [c_great hn L R.ru hJ, cn.1, M'.hp, cn.2.1]
  simp only [bd_s]
  rw [gv_o (by omega), gv_o (by omega), i_tno (by omega), hJ _ cn.2.2, hN' _ cn.2.2]
  generalize eC (pl K) (st K) a3 ((pl K 0).toInt.toNat * a2.toInt.toNat + a1.toInt.toNat) = v
  generalize eMax (pl K) (st K) a3 = g
  obtain ⟨w, hw, hb⟩ : ∃ w, F_X9_hasShare n v a4 g = some w ∧ (w = 0 ∨ w = 1) := by
    unfold F_X9_hasShare
    by_cases h1 : lg_cmp v 0 ≤ 0
    · rw [if_pos h1]; exact ⟨_, rfl, Or.inl rfl⟩
    · rw [if_neg h1]
      by_cases h2 : lg_cmp (100 * v) (a4.toInt64 * g) < 0
      · rw [if_pos h2]; exact ⟨_, rfl, Or.inl rfl⟩
      · rw [if_neg h2]; exact ⟨_, rfl, Or.inr rfl⟩
  have hw' : F_X10_isMarked n v g a4 = some w := hw
  rw [hw, hw']
  simp only [bd_s]
  rw [gd_t hb, gd_t hb]
  exact AG.ok rfl rfl ⟨rfl, q⟩
/-- how many cells stand before the cell k -/
def ahead (E : Nat → Int64) (N k : Nat) : Int32 := lp (fun o a => if 0 < lg_cmp (E o) (E k) ∨ (E o = E k ∧ o < k) then a + 1 else a) N 0 0
theorem c_before (hn : 2000 ≤ n) (L : LD T0 I K) (ru : RU I) {m : Int32} {J' : gJ} (hJ : ∀ c, c < nC (pl K) → J' 91 c = eC (pl K) (st K) m c) {k : Nat} (hk : k < nC (pl K)) : F_X9_countBefore n T0 T1 I J' (Int32.ofNat k) = some (ahead (eC (pl K) (st K) m) (nC (pl K)) k) := by
  have C := L.ck ru
  have hN := nC_b L.pv
  have key : ∀ (d c j : Nat) (a : Int32), c + d = nC (pl K) → d < j → L_X9_countBefore n T0 T1 I J' (Int32.ofNat k) j 0 a (Int32.ofNat c) = some (lp (fun o a => if 0 < lg_cmp (eC (pl K) (st K) m o) (eC (pl K) (st K) m k) ∨ (eC (pl K) (st K) m o = eC (pl K) (st K) m k ∧ o < k) then a + 1 else a) d c a) := by
    intro d
    induction d with
    | zero =>
      intro c j a hc hj
      obtain ⟨j, rfl⟩ : ∃ i, j = i + 1 := ⟨j - 1, by omega⟩
      rw [L_X9_countBefore_e0, c_cells L.pv C, bd_s, if_pos (by rw [i_ole (by omega) (by omega)]; omega)]
      rfl
    | succ d ih =>
      intro c j a hc hj
      obtain ⟨j, rfl⟩ : ∃ i, j = i + 1 := ⟨j - 1, by omega⟩
      have A := fun a => ih (c + 1) j a (by omega) (by omega)
      rw [L_X9_countBefore_e0, c_cells L.pv C, bd_s, if_neg (by rw [i_ole (by omega) (by omega)]; omega), lp_s]
      simp (disch := omega) only [gv_k, i_tno, hJ c (by omega), hJ k hk, ixp_1, A]
      by_cases h0 : lg_cmp (eC (pl K) (st K) m c) (eC (pl K) (st K) m k) = 0
      · have h1 : ¬ 0 < lg_cmp (eC (pl K) (st K) m c) (eC (pl K) (st K) m k) := by rw [h0]; decide
        rw [if_pos h0]
        by_cases h2 : Int32.ofNat k ≤ Int32.ofNat c
        · rw [if_pos h2, if_neg h1, if_neg (by rw [i_ole (by omega) (by omega)] at h2; intro q; rcases q with q | q; exact h1 q; omega)]
        · rw [if_neg h2, if_neg h1, if_pos (Or.inr ⟨(cmp_0 _ _).mp h0, by rw [i_ole (by omega) (by omega)] at h2; omega⟩)]
      · rw [if_neg h0]
        by_cases h1 : 0 < lg_cmp (eC (pl K) (st K) m c) (eC (pl K) (st K) m k)
        · rw [if_pos h1, if_pos (Or.inl h1)]
        · rw [if_neg h1, if_neg (fun q => q.elim h1 (fun q => h0 ((cmp_0 _ _).mpr q.1)))]
  exact key (nC (pl K)) 0 n 0 (by omega) (by omega)
theorem e_strongest (hn2 : 27000 ≤ n) (R : Rel T0 T1 I K) (J N : gJ) (a1 a2 : Int32) : AG (F_X9_strongest n T0 T1 I J a1 a2) (F_X10_strongest n K N a1 a2) (fun v b => v.1 = b.1 ∧ Tt K 0 b.2.1) (fun E b => Tt K (thA E) b.2.1) := by
  have hn : 2000 ≤ n := by omega
  rcases R.ld with ⟨h9, h10⟩ | ⟨h9, h10, L⟩
  · refine AG.er (E := ISE) (b := (0, sI K 153 0 1, N)) ?_ ?_ (Tt.r 1)
    · unfold F_X9_strongest; rw [n_tank0 h9]; rfl
    · unfold F_X10_strongest F_X10_cellCount
      simp only [x_in, x_run, bd_s, askF0 h10]; rfl
  have M := L.mk' (Tt.r 0) R.tv
  have M0 : MK K (153 + 4) (pl K) (st K) := MK.mk (fun _ => rfl) (fun _ => rfl) R.tv ⟨by decide, by decide⟩
  have C := L.ck R.ru
  have hN := nC_b L.pv
  have hw := L.pv.w
  have hh := L.pv.h
  have hN1 : 1 * 1 ≤ nC (pl K) := Nat.mul_le_mul (by omega) (by omega)
  have eN := i_of (k := nC (pl K)) (by omega)
  unfold F_X9_strongest F_X10_strongest
  rw [m_cells L.pv M0, c_cells L.pv C]
  simp only [n_tank1 h9, sm_r, n_tim, sm_nd, x_in, x_run, bd_s]
  by_cases s1 : a1 < 0
  · have g : rng a1 0 (Int32.ofNat (nC (pl K)) - 1) = false := by
      cases g : rng a1 0 (Int32.ofNat (nC (pl K)) - 1)
      · rfl
      · have := rng_t.mp g; rw [i_lt] at s1; omega
    rw [if_pos s1, g]
    exact AG.er (E := IOB) (b := (0, sI K 153 0 2, N)) rfl (by simp only [b2_fv, bd_s, askF2 h10]; rfl) (Tt.r 2)
  rw [if_neg s1]
  by_cases s2 : ¬ a1 < Int32.ofNat (nC (pl K))
  · have g : rng a1 0 (Int32.ofNat (nC (pl K)) - 1) = false := by
      cases g : rng a1 0 (Int32.ofNat (nC (pl K)) - 1)
      · rfl
      · have := rng_t.mp g; rw [i_m1 (by omega)] at this; rw [i_lt] at s2; omega
    rw [if_neg s2, g]
    exact AG.er (E := IOB) (b := (0, sI K 153 0 2, N)) rfl (by simp only [b2_fv, bd_s, askF2 h10]; rfl) (Tt.r 2)
  have s2 : a1 < Int32.ofNat (nC (pl K)) := Decidable.of_not_not s2
  have g : rng a1 0 (Int32.ofNat (nC (pl K)) - 1) = true := by
    rw [rng_t, i_m1 (by omega), ii_0]
    rw [i_lt, ii_0] at s1
    rw [i_lt] at s2
    omega
  rw [if_pos s2, g]
  cases g1 : rng a2 1 40
  · exact AG.er (E := IAE) (b := (0, sI K 153 0 3, N)) rfl (by simp only [b2_fv, b2_tv, bd_s, askF3 h10]; rfl) (Tt.r 3)
  simp only [b2_tv, e10, if_true, if_false, bd_s, askF1 h10]
  have h4 := rng_t.mp g1
  have c1 : (1 : Int32).toInt = 1 := rfl
  have c2 : (40 : Int32).toInt = 40 := rfl
  obtain ⟨J', e9, hJo, hJ⟩ := c_fillE (n := n) (T1 := T1) (J := J) hn L R.ru (m := a2) (by omega) (by omega)
  obtain ⟨K', N', e10, q, hN'⟩ := m_lays (N := N) hn L.pv L.sv M (m := a2) (by omega) (by omega)
  have M' := M.tq q
  rw [e9, e10]
  simp only [bd_s]
  have inner : ∀ (k : Nat), k < nC (pl K) → ∀ (d c j : Nat) (y3 : Int64) (a : Int32), c + d = nC (pl K) → d < j → L_X10_strongest n a1 a2 j 1 y3 (Int32.ofNat k) a (Int32.ofNat c) K' N' = if lp (fun o a => if 0 < lg_cmp (eC (pl K) (st K) a2 o) (eC (pl K) (st K) a2 k) ∨ (eC (pl K) (st K) a2 o = eC (pl K) (st K) a2 k ∧ o < k) then a + 1 else a) d c a = a1 then some (Int32.ofNat k, K', N') else L_X10_strongest n a1 a2 (j - d - 1) 0 y3 (Int32.ofNat (k + 1)) 0 0 K' N' := by
    intro k hk d
    induction d with
    | zero =>
      intro c j y3 a hc hj
      obtain ⟨j, rfl⟩ : ∃ i, j = i + 1 := ⟨j - 1, by omega⟩
      rw [L_X10_strongest_e1, m_cells L.pv M', bd_s, if_pos (by rw [i_ole (by omega) (by omega)]; omega), ixp_1]
      rfl
    | succ d ih =>
      intro c j y3 a hc hj
      obtain ⟨j, rfl⟩ : ∃ i, j = i + 1 := ⟨j - 1, by omega⟩
      have A := fun a => ih (c + 1) j y3 a (by omega) (by omega)
      rw [L_X10_strongest_e1, m_cells L.pv M', bd_s, if_neg (by rw [i_ole (by omega) (by omega)]; omega), lp_s, show j + 1 - (d + 1) - 1 = j - d - 1 by omega]
      simp (disch := omega) only [gv_k, i_tno, hN' c (by omega), hN' k hk, ixp_1, A, Int32.add_zero]
      by_cases h1 : 0 < lg_cmp (eC (pl K) (st K) a2 c) (eC (pl K) (st K) a2 k)
      · rw [if_pos h1, if_pos (c := 0 < lg_cmp (eC (pl K) (st K) a2 c) (eC (pl K) (st K) a2 k) ∨ _) (Or.inl h1)]
      · rw [if_neg h1]
        by_cases h0 : lg_cmp (eC (pl K) (st K) a2 c) (eC (pl K) (st K) a2 k) = 0
        · rw [if_pos h0]
          by_cases h2 : Int32.ofNat k ≤ Int32.ofNat c
          · rw [if_pos h2, if_neg (c := 0 < lg_cmp (eC (pl K) (st K) a2 c) (eC (pl K) (st K) a2 k) ∨ _) (by rw [i_ole (by omega) (by omega)] at h2; intro q; rcases q with q | q; exact h1 q; omega)]
          · rw [if_neg h2, if_pos (c := 0 < lg_cmp (eC (pl K) (st K) a2 c) (eC (pl K) (st K) a2 k) ∨ _) (Or.inr ⟨(cmp_0 _ _).mp h0, by rw [i_ole (by omega) (by omega)] at h2; omega⟩)]
        · rw [if_neg h0, if_neg (c := 0 < lg_cmp (eC (pl K) (st K) a2 c) (eC (pl K) (st K) a2 k) ∨ _) (fun q => q.elim h1 (fun q => h0 ((cmp_0 _ _).mpr q.1)))]
  have fb : nC (pl K) * (nC (pl K) + 3) ≤ 160 * 163 := Nat.mul_le_mul hN (by omega)
  have main : ∀ (d k j j' : Nat) (y3 : Int64), k + d = nC (pl K) → d < j → d * (nC (pl K) + 3) < j' → ∃ v, L_X9_strongest n T0 T1 I a1 a2 j 0 (-1) (Int32.ofNat k) J' = some (.inr (v, J')) ∧ L_X10_strongest n a1 a2 j' 0 y3 (Int32.ofNat k) 0 0 K' N' = some (v, K', N') := by
    intro d
    induction d with
    | zero =>
      intro k j j' y3 hk hj hj'
      obtain ⟨j, rfl⟩ : ∃ i, j = i + 1 := ⟨j - 1, by omega⟩
      obtain ⟨j', rfl⟩ : ∃ i, j' = i + 1 := ⟨j' - 1, by omega⟩
      refine ⟨-1, ?_, ?_⟩
      · rw [L_X9_strongest_e0, c_cells L.pv C, bd_s, if_pos (by rw [i_ole (by omega) (by omega)]; omega)]
      · rw [L_X10_strongest_e0, m_cells L.pv M', bd_s, if_pos (by rw [i_ole (by omega) (by omega)]; omega)]
    | succ d ih =>
      intro k j j' y3 hk hj hj'
      have hm : (d + 1) * (nC (pl K) + 3) = d * (nC (pl K) + 3) + (nC (pl K) + 3) := Nat.succ_mul _ _
      obtain ⟨j, rfl⟩ : ∃ i, j = i + 1 := ⟨j - 1, by omega⟩
      obtain ⟨j', rfl⟩ : ∃ i, j' = i + 1 := ⟨j' - 1, by omega⟩
      have hin := inner k (by omega) (nC (pl K)) 0 j' y3 0 (by omega) (by omega)
      rw [show (Int32.ofNat 0) = 0 from rfl] at hin
      rw [L_X9_strongest_e0, c_cells L.pv C, bd_s, if_neg (by rw [i_ole (by omega) (by omega)]; omega), if_pos rfl, c_before hn L R.ru hJ (by omega), bd_s, ixp_1, L_X10_strongest_e0, m_cells L.pv M', bd_s, if_neg (c := Int32.ofNat (nC (pl K)) ≤ Int32.ofNat k) (by rw [i_ole (by omega) (by omega)]; omega), hin]
      unfold ahead
      by_cases h : lp (fun o a => if 0 < lg_cmp (eC (pl K) (st K) a2 o) (eC (pl K) (st K) a2 k) ∨ (eC (pl K) (st K) a2 o = eC (pl K) (st K) a2 k ∧ o < k) then a + 1 else a) (nC (pl K)) 0 0 = a1
      · rw [if_pos h, if_pos h]
        refine ⟨Int32.ofNat k, ?_, rfl⟩
        obtain ⟨j, rfl⟩ : ∃ i, j = i + 1 := ⟨j - 1, by omega⟩
        have hm1 : (-1 : Int32).toInt = -1 := rfl
        have hkn : ¬ Int32.ofNat k = (-1 : Int32) := by rw [i_eq, i_of (by omega)]; omega
        rw [L_X9_strongest_e0, c_cells L.pv C, bd_s]
        by_cases hz : Int32.ofNat (nC (pl K)) ≤ Int32.ofNat (k + 1)
        · rw [if_pos hz]
        · rw [if_neg hz, if_neg hkn]
      · rw [if_neg h, if_neg h]
        exact ih (k + 1) j (j' - nC (pl K) - 1) y3 (by omega) (by omega) (by omega)
  obtain ⟨v, e1, e2⟩ := main (nC (pl K)) 0 n n (eMax (pl K) (st K) a2) (by omega) (by omega) (by omega)
  exact AG.ok e1 e2 ⟨rfl, q⟩

/-- the energies of a column -/
theorem c_fillC (hn : 2000 ≤ n) (L : LD T0 I K) (ru : RU I) {x : Int32} (hx : xIn (pl K) x) {m : Int32} (hm0 : 0 ≤ m.toInt) (hm : m.toInt ≤ 200) : ∃ J', F_X9_fillColumnEnergies n T0 T1 I J x m = some J' ∧ (∀ c, c < (pl K 1).toInt.toNat → J' 91 c = sEner (pl K) (st K) x (Int32.ofNat c) m) := by
  have C := L.ck ru
  have hh := L.pv.h
  have key : ∀ (d c j : Nat) (J1 : gJ), c + d = (pl K 1).toInt.toNat → d < j → (∀ i, i < c → J1 91 i = sEner (pl K) (st K) x (Int32.ofNat i) m) → ∃ J', L_X9_fillColumnEnergies n T0 T1 I x m j 0 (Int32.ofNat c) J1 = some J' ∧ (∀ c, c < (pl K 1).toInt.toNat → J' 91 c = sEner (pl K) (st K) x (Int32.ofNat c) m) := by
    intro d
    induction d with
    | zero =>
      intro c j J1 hc hj h2
      obtain ⟨j, rfl⟩ : ∃ i, j = i + 1 := ⟨j - 1, by omega⟩
      refine ⟨J1, ?_, fun i hi => h2 i (by omega)⟩
      rw [L_X9_fillColumnEnergies_e0, L.tr.h, if_pos (by rw [i_le, i_of (by omega)]; omega)]
    | succ d ih =>
      intro c j J1 hc hj h2
      obtain ⟨j, rfl⟩ : ∃ i, j = i + 1 := ⟨j - 1, by omega⟩
      have hy : yIn (pl K) (Int32.ofNat c) := by unfold yIn; rw [i_of (by omega)]; omega
      obtain ⟨J2, e, q2⟩ := ih (c + 1) j (sJ J1 91 c (sEner (pl K) (st K) x (Int32.ofNat c) m)) (by omega) (by omega) (fun i hi => by
        rw [sJ_get]
        by_cases hc : i = c
        · rw [if_pos ⟨rfl, hc⟩, hc]
        · rw [if_neg (fun q => hc q.2)]; exact h2 i (by omega))
      refine ⟨J2, ?_, q2⟩
      rw [L_X9_fillColumnEnergies_e0, L.tr.h, if_neg (by rw [i_le, i_of (by omega)]; omega), c_ener hn L.pv L.sv C hx hy hm0 hm, bd_s, ixp_1, gv_o (by omega), i_tno (by omega)]
      exact e
  exact key (pl K 1).toInt.toNat 0 n J (by omega) (by omega) (fun i hi => by omega)
theorem m_laysC (hn : 2000 ≤ n) {p s : gP} (hp : PV p) (hv : SV p s) (M : MK K (153 + 4) p s) {x : Int32} (hx : xIn p x) {m : Int32} (hm0 : 0 ≤ m.toInt) (hm : m.toInt ≤ 200) : ∃ K' N', F_X10_laysColumn n K N x m = some (K', N') ∧ Tq K K' ∧ (∀ c, c < (p 1).toInt.toNat → N' (153 + 15) c = sEner p s x (Int32.ofNat c) m) := by
  have hh := hp.h
  have key : ∀ (d c j : Nat) (K1 : gI) (N1 : gJ), MK K1 (153 + 4) p s → c + d = (p 1).toInt.toNat → d < j → (∀ i, i < c → N1 (153 + 15) i = sEner p s x (Int32.ofNat i) m) → ∃ K' N', L_X10_laysColumn n x m j 0 (Int32.ofNat c) K1 N1 = some (K', N') ∧ Tq K1 K' ∧ (∀ c, c < (p 1).toInt.toNat → N' (153 + 15) c = sEner p s x (Int32.ofNat c) m) := by
    intro d
    induction d with
    | zero =>
      intro c j K1 N1 M1 hc hj h2
      obtain ⟨j, rfl⟩ : ∃ i, j = i + 1 := ⟨j - 1, by omega⟩
      refine ⟨K1, N1, ?_, Tq.rfl', fun i hi => h2 i (by omega)⟩
      rw [L_X10_laysColumn_e0, M1.hp, if_pos (by rw [i_le, i_of (by omega)]; omega)]
    | succ d ih =>
      intro c j K1 N1 M1 hc hj h2
      obtain ⟨j, rfl⟩ : ∃ i, j = i + 1 := ⟨j - 1, by omega⟩
      have hy : yIn p (Int32.ofNat c) := by unfold yIn; rw [i_of (by omega)]; omega
      obtain ⟨K2, e2, q2⟩ := m_ener hn hp hv M1 hx hy hm0 hm
      obtain ⟨K3, N3, e3, q3, f3⟩ := ih (c + 1) j K2 (sJ N1 (153 + 15) c (sEner p s x (Int32.ofNat c) m)) (M1.tq q2) (by omega) (by omega) (fun i hi => by
        rw [sJ_get]
        by_cases hc : i = c
        · rw [if_pos ⟨rfl, hc⟩, hc]
        · rw [if_neg (fun q => hc q.2)]; exact h2 i (by omega))
      refine ⟨K3, N3, ?_, q2.trans q3, f3⟩
      rw [L_X10_laysColumn_e0, M1.hp, if_neg (by rw [i_le, i_of (by omega)]; omega), e2, bd_s]
      dsimp only
      rw [gv_o (by omega), i_tno (by omega), ixp_1]
      exact e3
  exact key (p 1).toInt.toNat 0 n K N M (by omega) (by omega) (fun i hi => by omega)
theorem e_fringes (hn : 2000 ≤ n) (R : Rel T0 T1 I K) (J : gJ) (N : gJ) (a1 a2 : Int32) : AG (F_X9_fringes n T0 T1 I J a1 a2) (F_X10_fringes n K N a1 a2) (fun v b => v.1 = b.1 ∧ Tt K 0 b.2.1) (fun E b => Tt K (thA E) b.2.1) := by
  rcases R.ld with ⟨h9, h10⟩ | ⟨h9, h10, L⟩
  · refine AG.er (E := ISE) (b := (0, sI K 153 0 1, N)) ?_ ?_ (Tt.r 1)
    · unfold F_X9_fringes; rw [n_tank0 h9]; rfl
    · unfold F_X10_fringes
      simp only [x_col, x_run, bd_s]
      cases col (pl K) a1 <;> cases rng a2 1 40 <;> simp only [b2_tv, b2_fv, e10, if_true, if_false, bd_s, ask0 h10, askF0 h10]
  unfold F_X9_fringes F_X10_fringes
  simp only [n_tank1 h9, nt_s, n_col L, n_tim, nd_s, x_col, x_run, bd_s]
  cases g0 : col (pl K) a1
  · refine AG.er (E := IOB) (b := (0, sI K 153 0 2, N)) ?_ ?_ (Tt.r 2)
    · rfl
    · cases rng a2 1 40 <;> simp only [b2_tv, b2_fv, e10, if_true, if_false, bd_s, ask2 h10, askF2 h10, askF3 h10]
  cases g1 : rng a2 1 40
  · refine AG.er (E := IAE) (b := (0, sI K 153 0 3, N)) ?_ ?_ (Tt.r 3)
    · rfl
    · simp only [b2_tv, b2_fv, e10, if_true, if_false, bd_s, ask2 h10, askF2 h10, askF3 h10]
  simp only [b2_tv, b2_fv, e10, if_true, if_false, bd_s, ask1 h10, askF1 h10]
  have M := L.mk' (Tt.r 0) R.tv
  have C := L.ck R.ru
  have hx := (col_t L.pv).mp g0
  have h4 := rng_t.mp g1
  have c1 : (1 : Int32).toInt = 1 := rfl
  have c2 : (40 : Int32).toInt = 40 := rfl
  have hh := L.pv.h
  obtain ⟨J', e9, hJ⟩ := c_fillC (n := n) (T1 := T1) (J := J) hn L R.ru hx (m := a2) (by omega) (by omega)
  obtain ⟨K', N', e10, q, hN'⟩ := m_laysC (N := N) hn L.pv L.sv M hx (m := a2) (by omega) (by omega)
  have M' := M.tq q
  have h1 : ∀ v : Int32, (v = Int32.ofNat (pl K 1).toInt.toNat - 1) = (v = pl K 1 - 1) := fun v => by rw [i_on (by omega)]
  have hm1 : pl K 1 - 1 = Int32.ofNat ((pl K 1).toInt.toNat - 1) := by
    rw [← i_osub (by omega) (by omega), i_on (by omega)]; rfl
  have key : ∀ (d c j j' : Nat) (a : Int32), c + d = (pl K 1).toInt.toNat → 2 * d < j → d < j' → ∃ v, L_X9_fringes n T0 T1 I a1 a2 j 0 a (Int32.ofNat c) 0 J' = some (.inr (v, J')) ∧ L_X10_fringes n a1 a2 j' 0 a (Int32.ofNat c) K' N' = some (v, K', N') := by
    intro d
    induction d with
    | zero =>
      intro c j j' a hc hj hj'
      obtain ⟨j, rfl⟩ : ∃ i, j = i + 1 := ⟨j - 1, by omega⟩
      obtain ⟨j', rfl⟩ : ∃ i, j' = i + 1 := ⟨j' - 1, by omega⟩
      refine ⟨a, ?_, ?_⟩
      · rw [L_X9_fringes_e0, L.tr.h, if_pos (by rw [i_le, i_of (by omega)]; omega)]
      · rw [L_X10_fringes_e0, M'.hp, if_pos (by rw [i_le, i_of (by omega)]; omega)]
    | succ d ih =>
      intro c j j' a hc hj hj'
      obtain ⟨j, rfl⟩ : ∃ i, j = i + 2 := ⟨j - 2, by omega⟩
      obtain ⟨j', rfl⟩ : ∃ i, j' = i + 1 := ⟨j' - 1, by omega⟩
      have IH := fun a => ih (c + 1) j j' a (by omega) (by omega) (by omega)
      have hna : ¬ (pl K 1 ≤ Int32.ofNat c) := by rw [i_le, i_of (by omega)]; omega
      -- below
      have low : ∀ b : Int32, L_X9_fringes n T0 T1 I a1 a2 (j + 1) 1 a (Int32.ofNat c) b J' = L_X9_fringes n T0 T1 I a1 a2 j 0 (if b ≠ 0 ∧ (c + 1 = (pl K 1).toInt.toNat ∨ sEner (pl K) (st K) a1 (Int32.ofNat (c + 1)) a2 < sEner (pl K) (st K) a1 (Int32.ofNat c) a2) then a + 1 else a) (Int32.ofNat (c + 1)) 0 J' := by
        intro b
        rw [L_X9_fringes_e1, L.tr.h, hm1, ixp_1]
        by_cases hl : c + 1 = (pl K 1).toInt.toNat
        · rw [if_pos (c := Int32.ofNat c = _) (by rw [i_oeq (by omega) (by omega)]; omega)]
          by_cases hb : b = 0
          · rw [if_pos hb, if_neg (fun q => q.1 hb)]
          · rw [if_neg hb, if_pos ⟨hb, Or.inl hl⟩]
        · rw [if_neg (c := Int32.ofNat c = _) (by rw [i_oeq (by omega) (by omega)]; omega), gv_o (by omega), gv_o (by omega), i_tno (by omega), i_tno (by omega), hJ c (by omega), hJ (c + 1) (by omega)]
          by_cases hg : 0 ≤ lg_cmp (sEner (pl K) (st K) a1 (Int32.ofNat (c + 1)) a2) (sEner (pl K) (st K) a1 (Int32.ofNat c) a2)
          · have hg' := (cmp_g _ _).mp hg
            rw [if_pos hg, if_neg (c := b ≠ 0 ∧ _) (fun q => q.2.elim hl hg')]
            by_cases hb : b = 0
            · rw [if_pos hb]
            · rw [if_neg hb]
          · have hg' : sEner (pl K) (st K) a1 (Int32.ofNat (c + 1)) a2 < sEner (pl K) (st K) a1 (Int32.ofNat c) a2 := Decidable.of_not_not (fun q => hg ((cmp_g _ _).mpr q))
            rw [if_neg hg]
            by_cases hb : b = 0
            · rw [if_pos hb, if_neg (fun q => q.1 hb)]
            · rw [if_neg hb, if_pos ⟨hb, Or.inr hg'⟩]
      have up : L_X9_fringes n T0 T1 I a1 a2 (j + 2) 0 a (Int32.ofNat c) 0 J' = L_X9_fringes n T0 T1 I a1 a2 j 0 (if (c = 0 ∨ sEner (pl K) (st K) a1 (Int32.ofNat (c - 1)) a2 < sEner (pl K) (st K) a1 (Int32.ofNat c) a2) ∧ (c + 1 = (pl K 1).toInt.toNat ∨ sEner (pl K) (st K) a1 (Int32.ofNat (c + 1)) a2 < sEner (pl K) (st K) a1 (Int32.ofNat c) a2) then a + 1 else a) (Int32.ofNat (c + 1)) 0 J' := by
        rw [show j + 2 = (j + 1) + 1 from rfl, L_X9_fringes_e0, L.tr.h, if_neg hna]
        by_cases hc0 : c = 0
        · rw [if_pos (by rw [hc0]; rfl), low 1]
          congr 1
          have : ((1 : Int32) ≠ 0) := by decide
          simp only [hc0, true_or, true_and, this, ne_eq, not_false_eq_true]
        · rw [if_neg (by rw [show (0 : Int32) = Int32.ofNat 0 from rfl, i_oeq (by omega) (by omega)]; exact hc0), show Int32.ofNat c - (1 : Int32) = Int32.ofNat (c - 1) from i_osub (a := c) (b := 1) (by omega) (by omega), gv_o (by omega), gv_o (by omega), i_tno (by omega), i_tno (by omega), hJ c (by omega), hJ (c - 1) (by omega)]
          by_cases hg : 0 ≤ lg_cmp (sEner (pl K) (st K) a1 (Int32.ofNat (c - 1)) a2) (sEner (pl K) (st K) a1 (Int32.ofNat c) a2)
          · have hg' := (cmp_g _ _).mp hg
            rw [if_pos hg, low 0, if_neg (fun q => q.1 rfl), if_neg (c := (c = 0 ∨ _) ∧ _) (fun q => q.1.elim hc0 hg')]
          · have hg' : sEner (pl K) (st K) a1 (Int32.ofNat (c - 1)) a2 < sEner (pl K) (st K) a1 (Int32.ofNat c) a2 := Decidable.of_not_not (fun q => hg ((cmp_g _ _).mpr q))
            rw [if_neg hg, low 1]
            congr 1
            have : ((1 : Int32) ≠ 0) := by decide
            simp only [hg', or_true, true_and, this, ne_eq, not_false_eq_true]
      have mo : L_X10_fringes n a1 a2 (j' + 1) 0 a (Int32.ofNat c) K' N' = L_X10_fringes n a1 a2 j' 0 (if (c = 0 ∨ sEner (pl K) (st K) a1 (Int32.ofNat (c - 1)) a2 < sEner (pl K) (st K) a1 (Int32.ofNat c) a2) ∧ (c + 1 = (pl K 1).toInt.toNat ∨ sEner (pl K) (st K) a1 (Int32.ofNat (c + 1)) a2 < sEner (pl K) (st K) a1 (Int32.ofNat c) a2) then a + 1 else a) (Int32.ofNat (c + 1)) K' N' := by
        have tail : (if Int32.ofNat c = pl K 1 - 1 then L_X10_fringes n a1 a2 j' 0 (a + 1) (Int32.ofNat (c + 1)) K' N' else gv (Int32.ofNat c) 10 (gv (Int32.ofNat (c + 1)) 10 (if lg_cmp (N' (153 + 15) (Int32.ofNat c).toNatClampNeg) (N' (153 + 15) (Int32.ofNat (c + 1)).toNatClampNeg) ≤ 0 then L_X10_fringes n a1 a2 j' 0 a (Int32.ofNat (c + 1)) K' N' else L_X10_fringes n a1 a2 j' 0 (a + 1) (Int32.ofNat (c + 1)) K' N'))) = L_X10_fringes n a1 a2 j' 0 (if (c + 1 = (pl K 1).toInt.toNat ∨ sEner (pl K) (st K) a1 (Int32.ofNat (c + 1)) a2 < sEner (pl K) (st K) a1 (Int32.ofNat c) a2) then a + 1 else a) (Int32.ofNat (c + 1)) K' N' := by
          rw [hm1]
          by_cases hl : c + 1 = (pl K 1).toInt.toNat
          · rw [if_pos (c := Int32.ofNat c = _) (by rw [i_oeq (by omega) (by omega)]; omega), if_pos (Or.inl hl)]
          · rw [if_neg (c := Int32.ofNat c = _) (by rw [i_oeq (by omega) (by omega)]; omega), gv_o (by omega), gv_o (by omega), i_tno (by omega), i_tno (by omega), hN' c (by omega), hN' (c + 1) (by omega)]
            by_cases hg : lg_cmp (sEner (pl K) (st K) a1 (Int32.ofNat c) a2) (sEner (pl K) (st K) a1 (Int32.ofNat (c + 1)) a2) ≤ 0
            · rw [if_pos hg, if_neg (fun q => q.elim hl ((cmp_n _ _).mp hg))]
            · rw [if_neg hg, if_pos (Or.inr (Decidable.of_not_not (fun q => hg ((cmp_n _ _).mpr q))))]
        rw [L_X10_fringes_e0, M'.hp, if_neg hna, Int32.add_zero, ixp_1]
        by_cases hc0 : c = 0
        · rw [if_pos (c := Int32.ofNat c = 0) (by rw [hc0]; rfl)]
          refine Eq.trans tail ?_
          simp only [hc0, true_or, true_and]
        · rw [if_neg (c := Int32.ofNat c = 0) (by rw [show (0 : Int32) = Int32.ofNat 0 from rfl, i_oeq (by omega) (by omega)]; exact hc0), show Int32.ofNat c - (1 : Int32) = Int32.ofNat (c - 1) from i_osub (a := c) (b := 1) (by omega) (by omega), tail, gv_o (by omega), gv_o (by omega), i_tno (by omega), i_tno (by omega), hN' c (by omega), hN' (c - 1) (by omega)]
          by_cases hg : lg_cmp (sEner (pl K) (st K) a1 (Int32.ofNat c) a2) (sEner (pl K) (st K) a1 (Int32.ofNat (c - 1)) a2) ≤ 0
          · rw [if_pos hg, if_neg (c := (c = 0 ∨ _) ∧ _) (fun q => q.1.elim hc0 ((cmp_n _ _).mp hg))]
          · have hg' : sEner (pl K) (st K) a1 (Int32.ofNat (c - 1)) a2 < sEner (pl K) (st K) a1 (Int32.ofNat c) a2 := Decidable.of_not_not (fun q => hg ((cmp_n _ _).mpr q))
            rw [if_neg hg]
            simp only [hg', or_true, true_and]
      rw [up, mo]
      exact IH _
  rw [e9, e10]
  obtain ⟨v, e1, e2⟩ := key (pl K 1).toInt.toNat 0 n n 0 (by omega) (by omega) (by omega)
  exact AG.ok e1 e2 ⟨rfl, q⟩
end FACED
