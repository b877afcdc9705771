theorem b2_tv : b2 true = 1 := rfl
theorem b2_fv : b2 false = 0 := rfl
theorem e10 : ((1 : Int32) = 0) = False := by decide
theorem nt_s {α : Type} (g : Unit → Option (String ⊕ α)) : bd (some (.inr () : String ⊕ Unit)) (fun v => sm v (fun e => some (.inl e)) g) = g () := rfl
theorem src_k {p : gP} (hp : PV p) {a : Int32} (h : src p a = true) : ∃ k, k < (p 4).toInt.toNat ∧ k < 4 ∧ a = Int32.ofNat k := by
  have q := (src_t hp).mp h
  have c := hp.c
  exact ⟨a.toInt.toNat, by omega, by omega, (i_on q.1).symm⟩
theorem gau_k {p : gP} (hp : PV p) {a : Int32} (h : gau p a = true) : ∃ k, k < (p 76).toInt.toNat ∧ k < 4 ∧ a = Int32.ofNat k := by
  have q := (gau_t hp).mp h
  have c := hp.ga
  exact ⟨a.toInt.toNat, by omega, by omega, (i_on q.1).symm⟩
section FACE
variable {n T0 T1 : Nat} {I K : gI}
theorem e_wall (hn : 2000 ≤ n) (R : Rel T0 T1 I K) : AG (F_X9_wall n T0 T1 I) (F_X10_wall n K) (fun v b => v = b.1 ∧ Tt K 0 b.2) (fun E b => Tt K (thA E) b.2) := by
  rcases R.ld with ⟨h9, h10⟩ | ⟨h9, h10, L⟩
  · refine AG.er (E := ISE) (b := (0, sI K 153 0 1)) ?_ ?_ (Tt.r 1)
    · unfold F_X9_wall; rw [n_tank0 h9]; rfl
    · unfold F_X10_wall
      skip
      simp only [b2_tv, b2_fv, e10, if_true, if_false, bd_s, ask0 h10, askF0 h10]
  unfold F_X9_wall F_X10_wall
  simp only [n_tank1 h9, nt_s, nd_s, bd_s]
  simp only [b2_tv, b2_fv, e10, if_true, if_false, bd_s, ask1 h10, askF1 h10]
  have M := L.mk' (Tt.r 0) R.tv
  have C := L.ck R.ru
  refine AG.ok rfl rfl ⟨?_, Tt.r 0⟩
  dsimp only
  rw [M.hp]; exact L.tr.wl
theorem e_openRows (hn : 2000 ≤ n) (R : Rel T0 T1 I K) : AG (F_X9_openRows n T0 T1 I) (F_X10_openRows n K) (fun v b => v = b.1 ∧ Tt K 0 b.2) (fun E b => Tt K (thA E) b.2) := by
  rcases R.ld with ⟨h9, h10⟩ | ⟨h9, h10, L⟩
  · refine AG.er (E := ISE) (b := (0, sI K 153 0 1)) ?_ ?_ (Tt.r 1)
    · unfold F_X9_openRows; rw [n_tank0 h9]; rfl
    · unfold F_X10_openRows
      skip
      simp only [b2_tv, b2_fv, e10, if_true, if_false, bd_s, ask0 h10, askF0 h10]
  unfold F_X9_openRows F_X10_openRows
  simp only [n_tank1 h9, nt_s, nd_s, bd_s]
  simp only [b2_tv, b2_fv, e10, if_true, if_false, bd_s, ask1 h10, askF1 h10]
  have M := L.mk' (Tt.r 0) R.tv
  have C := L.ck R.ru
  refine AG.ok rfl rfl ⟨?_, Tt.r 0⟩
  dsimp only
  rw [M.hs]; exact L.sr.op
theorem e_isOpen (hn : 2000 ≤ n) (R : Rel T0 T1 I K) (a1 : Int32) : AG (F_X9_isOpen n T0 T1 I a1) (F_X10_isOpen n K a1) (fun v b => v = b.1 ∧ Tt K 0 b.2) (fun E b => Tt K (thA E) b.2) := by
  rcases R.ld with ⟨h9, h10⟩ | ⟨h9, h10, L⟩
  · refine AG.er (E := ISE) (b := (0, sI K 153 0 1)) ?_ ?_ (Tt.r 1)
    · unfold F_X9_isOpen; rw [n_tank0 h9]; rfl
    · unfold F_X10_isOpen
      simp only [x_row, bd_s]
      cases row (pl K) a1 <;> simp only [b2_tv, b2_fv, e10, if_true, if_false, bd_s, ask0 h10, askF0 h10]
  unfold F_X9_isOpen F_X10_isOpen
  simp only [n_tank1 h9, nt_s, n_row L, nd_s, x_row, bd_s]
  cases g0 : row (pl K) a1
  · refine AG.er (E := IOB) (b := (0, sI K 153 0 2)) ?_ ?_ (Tt.r 2)
    · rfl
    · simp only [b2_tv, b2_fv, e10, if_true, if_false, bd_s, ask2 h10, askF2 h10, askF3 h10]
  simp only [b2_tv, b2_fv, e10, if_true, if_false, bd_s, ask1 h10, askF1 h10]
  have M := L.mk' (Tt.r 0) R.tv
  have C := L.ck R.ru
  rw [c_open C, m_open M]
  simp only [bd_s]
  rw [gd_t (b2_b _)]
  cases sOpen (st K) a1
  · exact AG.ok rfl rfl ⟨rfl, Tt.r 0⟩
  · exact AG.ok rfl rfl ⟨rfl, Tt.r 0⟩
theorem e_sourceAt (hn : 2000 ≤ n) (R : Rel T0 T1 I K) (a1 a2 a3 : Int32) : AG (F_X9_sourceAt n T0 T1 I a1 a2 a3) (F_X10_sourceAt n K a1 a2 a3) (fun v b => v = b.1 ∧ Tt K 0 b.2) (fun E b => Tt K (thA E) b.2) := by
  rcases R.ld with ⟨h9, h10⟩ | ⟨h9, h10, L⟩
  · refine AG.er (E := ISE) (b := (0, sI K 153 0 1)) ?_ ?_ (Tt.r 1)
    · unfold F_X9_sourceAt; rw [n_tank0 h9]; rfl
    · unfold F_X10_sourceAt
      simp only [x_src, x_in, x_tim, bd_s]
      cases src (pl K) a1 <;> cases rng a2 0 1 <;> cases rng a3 0 9999 <;> simp only [b2_tv, b2_fv, e10, if_true, if_false, bd_s, ask0 h10, askF0 h10]
  unfold F_X9_sourceAt F_X10_sourceAt
  simp only [n_tank1 h9, nt_s, n_src L, n_rng, nd_s, x_src, x_in, x_tim, bd_s]
  cases g0 : src (pl K) a1
  · refine AG.er (E := IOB) (b := (0, sI K 153 0 2)) ?_ ?_ (Tt.r 2)
    · rfl
    · cases rng a2 0 1 <;> cases rng a3 0 9999 <;> simp only [b2_tv, b2_fv, e10, if_true, if_false, bd_s, ask2 h10, askF2 h10, askF3 h10]
  cases g1 : rng a2 0 1
  · refine AG.er (E := IAE) (b := (0, sI K 153 0 3)) ?_ ?_ (Tt.r 3)
    · rfl
    · cases rng a3 0 9999 <;> simp only [b2_tv, b2_fv, e10, if_true, if_false, bd_s, ask2 h10, askF2 h10, askF3 h10]
  cases g2 : rng a3 0 9999
  · refine AG.er (E := IAE) (b := (0, sI K 153 0 3)) ?_ ?_ (Tt.r 3)
    · rfl
    · simp only [b2_tv, b2_fv, e10, if_true, if_false, bd_s, ask2 h10, askF2 h10, askF3 h10]
  simp only [b2_tv, b2_fv, e10, if_true, if_false, bd_s, ask1 h10, askF1 h10]
  have M := L.mk' (Tt.r 0) R.tv
  have C := L.ck R.ru
  obtain ⟨k, hk, hk4, rfl⟩ := src_k L.pv g0
  rw [c_col L.pv C hk, c_row L.pv C hk, m_col M hk4, m_row M hk4]
  simp only [bd_s]
  by_cases h : a2 = 0
  · rw [if_pos h, if_pos h]; exact AG.ok rfl rfl ⟨rfl, Tt.r 0⟩
  · rw [if_neg h, if_neg h]; exact AG.ok rfl rfl ⟨rfl, Tt.r 0⟩
theorem e_isOn (hn : 2000 ≤ n) (R : Rel T0 T1 I K) (a1 : Int32) : AG (F_X9_isOn n T0 T1 I a1) (F_X10_isOn n K a1) (fun v b => v = b.1 ∧ Tt K 0 b.2) (fun E b => Tt K (thA E) b.2) := by
  rcases R.ld with ⟨h9, h10⟩ | ⟨h9, h10, L⟩
  · refine AG.er (E := ISE) (b := (0, sI K 153 0 1)) ?_ ?_ (Tt.r 1)
    · unfold F_X9_isOn; rw [n_tank0 h9]; rfl
    · unfold F_X10_isOn
      simp only [x_src, bd_s]
      cases src (pl K) a1 <;> simp only [b2_tv, b2_fv, e10, if_true, if_false, bd_s, ask0 h10, askF0 h10]
  unfold F_X9_isOn F_X10_isOn
  simp only [n_tank1 h9, nt_s, n_src L, nd_s, x_src, bd_s]
  cases g0 : src (pl K) a1
  · refine AG.er (E := IOB) (b := (0, sI K 153 0 2)) ?_ ?_ (Tt.r 2)
    · rfl
    · simp only [b2_tv, b2_fv, e10, if_true, if_false, bd_s, ask2 h10, askF2 h10, askF3 h10]
  simp only [b2_tv, b2_fv, e10, if_true, if_false, bd_s, ask1 h10, askF1 h10]
  have M := L.mk' (Tt.r 0) R.tv
  have C := L.ck R.ru
  obtain ⟨k, hk, hk4, rfl⟩ := src_k L.pv g0
  have hb := L.sr.b k hk4
  have hs := L.sr.on k hk
  simp (disch := omega) only [ix_2, gv_k, i_tno, M.hs]
  rw [gd_t hb, ← hs]
  rcases hb with hb | hb
  · rw [hb]; exact AG.ok rfl rfl ⟨rfl, Tt.r 0⟩
  · rw [hb]; exact AG.ok rfl rfl ⟨rfl, Tt.r 0⟩
theorem e_amplitude (hn : 2000 ≤ n) (R : Rel T0 T1 I K) (a1 a2 : Int32) : AG (F_X9_amplitude n T0 T1 I a1 a2) (F_X10_amplitude n K a1 a2) (fun v b => v = b.1 ∧ Tt K 0 b.2) (fun E b => Tt K (thA E) b.2) := by
  rcases R.ld with ⟨h9, h10⟩ | ⟨h9, h10, L⟩
  · refine AG.er (E := ISE) (b := (0, sI K 153 0 1)) ?_ ?_ (Tt.r 1)
    · unfold F_X9_amplitude; rw [n_tank0 h9]; rfl
    · unfold F_X10_amplitude
      simp only [x_src, x_tim, bd_s]
      cases src (pl K) a1 <;> cases rng a2 0 9999 <;> simp only [b2_tv, b2_fv, e10, if_true, if_false, bd_s, ask0 h10, askF0 h10]
  unfold F_X9_amplitude F_X10_amplitude
  simp only [n_tank1 h9, nt_s, n_src L, n_rng, nd_s, x_src, x_tim, bd_s]
  cases g0 : src (pl K) a1
  · refine AG.er (E := IOB) (b := (0, sI K 153 0 2)) ?_ ?_ (Tt.r 2)
    · rfl
    · cases rng a2 0 9999 <;> simp only [b2_tv, b2_fv, e10, if_true, if_false, bd_s, ask2 h10, askF2 h10, askF3 h10]
  cases g1 : rng a2 0 9999
  · refine AG.er (E := IAE) (b := (0, sI K 153 0 3)) ?_ ?_ (Tt.r 3)
    · rfl
    · simp only [b2_tv, b2_fv, e10, if_true, if_false, bd_s, ask2 h10, askF2 h10, askF3 h10]
  simp only [b2_tv, b2_fv, e10, if_true, if_false, bd_s, ask1 h10, askF1 h10]
  have M := L.mk' (Tt.r 0) R.tv
  have C := L.ck R.ru
  obtain ⟨k, hk, hk4, rfl⟩ := src_k L.pv g0
  simp (disch := omega) only [gv_k, i_tno]
  rw [c_emit hn L.pv C hk, m_emit hn L.pv M hk, L.sr.amp k hk]
  exact AG.ok rfl rfl ⟨rfl, Tt.r 0⟩
theorem e_isBehind (hn : 2000 ≤ n) (R : Rel T0 T1 I K) (a1 a2 a3 : Int32) : AG (F_X9_isBehind n T0 T1 I a1 a2 a3) (F_X10_isBehind n K a1 a2 a3) (fun v b => v = b.1 ∧ Tt K 0 b.2) (fun E b => Tt K (thA E) b.2) := by
  rcases R.ld with ⟨h9, h10⟩ | ⟨h9, h10, L⟩
  · refine AG.er (E := ISE) (b := (0, sI K 153 0 1)) ?_ ?_ (Tt.r 1)
    · unfold F_X9_isBehind; rw [n_tank0 h9]; rfl
    · unfold F_X10_isBehind
      simp only [x_src, x_cel, bd_s]
      cases src (pl K) a1 <;> cases cel (pl K) a2 a3 <;> simp only [b2_tv, b2_fv, e10, if_true, if_false, bd_s, ask0 h10, askF0 h10]
  unfold F_X9_isBehind F_X10_isBehind
  simp only [n_tank1 h9, nt_s, n_src L, n_cel L, nd_s, x_src, x_cel, bd_s]
  cases g0 : src (pl K) a1
  · refine AG.er (E := IOB) (b := (0, sI K 153 0 2)) ?_ ?_ (Tt.r 2)
    · rfl
    · cases cel (pl K) a2 a3 <;> simp only [b2_tv, b2_fv, e10, if_true, if_false, bd_s, ask2 h10, askF2 h10, askF3 h10]
  cases g1 : cel (pl K) a2 a3
  · refine AG.er (E := IOB) (b := (0, sI K 153 0 2)) ?_ ?_ (Tt.r 2)
    · rfl
    · simp only [b2_tv, b2_fv, e10, if_true, if_false, bd_s, ask2 h10, askF2 h10, askF3 h10]
  simp only [b2_tv, b2_fv, e10, if_true, if_false, bd_s, ask1 h10, askF1 h10]
  have M := L.mk' (Tt.r 0) R.tv
  have C := L.ck R.ru
  obtain ⟨k, hk, hk4, rfl⟩ := src_k L.pv g0
  rw [c_col L.pv C hk, m_col M hk4]
  simp only [bd_s]
  rw [L.sr.t, M.hs, c_cut C, m_cut M]
  simp only [bd_s]
  rw [gd_t (b2_b _)]
  cases sCut (pl K) (sCol (pl K) (st K) k (st K 0)) a2
  · exact AG.ok rfl rfl ⟨rfl, Tt.r 0⟩
  · exact AG.ok rfl rfl ⟨rfl, Tt.r 0⟩
theorem e_path (hn : 2000 ≤ n) (R : Rel T0 T1 I K) (a1 a2 a3 a4 : Int32) : AG (F_X9_path n T0 T1 I a1 a2 a3 a4) (F_X10_path n K a1 a2 a3 a4) (fun v b => v = b.1 ∧ Tt K 0 b.2) (fun E b => Tt K (thA E) b.2) := by
  rcases R.ld with ⟨h9, h10⟩ | ⟨h9, h10, L⟩
  · refine AG.er (E := ISE) (b := (0, sI K 153 0 1)) ?_ ?_ (Tt.r 1)
    · unfold F_X9_path; rw [n_tank0 h9]; rfl
    · unfold F_X10_path
      simp only [x_src, x_cel, x_row, bd_s]
      cases src (pl K) a1 <;> cases cel (pl K) a2 a3 <;> cases row (pl K) a4 <;> simp only [b2_tv, b2_fv, e10, if_true, if_false, bd_s, ask0 h10, askF0 h10]
  unfold F_X9_path F_X10_path
  simp only [n_tank1 h9, nt_s, n_src L, n_cel L, n_row L, nd_s, x_src, x_cel, x_row, bd_s]
  cases g0 : src (pl K) a1
  · refine AG.er (E := IOB) (b := (0, sI K 153 0 2)) ?_ ?_ (Tt.r 2)
    · rfl
    · cases cel (pl K) a2 a3 <;> cases row (pl K) a4 <;> simp only [b2_tv, b2_fv, e10, if_true, if_false, bd_s, ask2 h10, askF2 h10, askF3 h10]
  cases g1 : cel (pl K) a2 a3
  · refine AG.er (E := IOB) (b := (0, sI K 153 0 2)) ?_ ?_ (Tt.r 2)
    · rfl
    · cases row (pl K) a4 <;> simp only [b2_tv, b2_fv, e10, if_true, if_false, bd_s, ask2 h10, askF2 h10, askF3 h10]
  cases g2 : row (pl K) a4
  · refine AG.er (E := IOB) (b := (0, sI K 153 0 2)) ?_ ?_ (Tt.r 2)
    · rfl
    · simp only [b2_tv, b2_fv, e10, if_true, if_false, bd_s, ask2 h10, askF2 h10, askF3 h10]
  simp only [b2_tv, b2_fv, e10, if_true, if_false, bd_s, ask1 h10, askF1 h10]
  have M := L.mk' (Tt.r 0) R.tv
  have C := L.ck R.ru
  obtain ⟨k, hk, hk4, rfl⟩ := src_k L.pv g0
  obtain ⟨hx, hy⟩ := (cel_t L.pv).mp g1
  have hr := (row_t L.pv).mp g2
  have hp : ∀ (v : Int32) (K : gI), L_X10_path n (Int32.ofNat k) a2 a3 a4 n 0 v K = some (v, K) := by
    intro v K
    obtain ⟨j, rfl⟩ : ∃ j, n = j + 1 := ⟨n - 1, by omega⟩
    rfl
  obtain ⟨K', e, q⟩ := m_thr hn L.pv M (sCol_b L.pv (st K) k (st K 0)) (sRow_b L.pv (st K) k (st K 0)) hx hy hr
  rw [c_col L.pv C hk, c_row L.pv C hk, m_col M hk4, m_row M hk4, m_wall M, L.tr.wl]
  simp only [bd_s, M.hs, L.sr.t, hp]
  rw [c_thr L.pv C (sCol_b L.pv (st K) k (st K 0)) (sRow_b L.pv (st K) k (st K 0)) hx hy hr, e]
  simp only [bd_s]
  by_cases h : pl K 3 = -1
  · rw [if_pos h, if_pos (by simp [h, b2])]; exact AG.ok rfl rfl ⟨rfl, Tt.r 0⟩
  · rw [if_neg h, if_neg (by simp [h, b2])]; exact AG.ok rfl rfl ⟨rfl, q⟩
theorem e_shortest (hn : 2000 ≤ n) (R : Rel T0 T1 I K) (a1 a2 a3 : Int32) : AG (F_X9_shortest n T0 T1 I a1 a2 a3) (F_X10_shortest n K a1 a2 a3) (fun v b => v = b.1 ∧ Tt K 0 b.2) (fun E b => Tt K (thA E) b.2) := by
  rcases R.ld with ⟨h9, h10⟩ | ⟨h9, h10, L⟩
  · refine AG.er (E := ISE) (b := (0, sI K 153 0 1)) ?_ ?_ (Tt.r 1)
    · unfold F_X9_shortest; rw [n_tank0 h9]; rfl
    · unfold F_X10_shortest
      simp only [x_src, x_cel, bd_s]
      cases src (pl K) a1 <;> cases cel (pl K) a2 a3 <;> simp only [b2_tv, b2_fv, e10, if_true, if_false, bd_s, ask0 h10, askF0 h10]
  unfold F_X9_shortest F_X10_shortest
  simp only [n_tank1 h9, nt_s, n_src L, n_cel L, nd_s, x_src, x_cel, bd_s]
  cases g0 : src (pl K) a1
  · refine AG.er (E := IOB) (b := (0, sI K 153 0 2)) ?_ ?_ (Tt.r 2)
    · rfl
    · cases cel (pl K) a2 a3 <;> simp only [b2_tv, b2_fv, e10, if_true, if_false, bd_s, ask2 h10, askF2 h10, askF3 h10]
  cases g1 : cel (pl K) a2 a3
  · refine AG.er (E := IOB) (b := (0, sI K 153 0 2)) ?_ ?_ (Tt.r 2)
    · rfl
    · simp only [b2_tv, b2_fv, e10, if_true, if_false, bd_s, ask2 h10, askF2 h10, askF3 h10]
  simp only [b2_tv, b2_fv, e10, if_true, if_false, bd_s, ask1 h10, askF1 h10]
  have M := L.mk' (Tt.r 0) R.tv
  have C := L.ck R.ru
  obtain ⟨k, hk, hk4, rfl⟩ := src_k L.pv g0
  obtain ⟨hx, hy⟩ := (cel_t L.pv).mp g1
  obtain ⟨K', e, q⟩ := m_short hn L.pv M hk4 hx hy (st K 0)
  rw [c_short hn L.pv C hk hx hy, M.hs, e]
  exact AG.ok rfl rfl ⟨rfl, q⟩
theorem e_phase (hn : 2000 ≤ n) (R : Rel T0 T1 I K) (a1 a2 a3 : Int32) : AG (F_X9_phase n T0 T1 I a1 a2 a3) (F_X10_phase n K a1 a2 a3) (fun v b => v = b.1 ∧ Tt K 0 b.2) (fun E b => Tt K (thA E) b.2) := by
  rcases R.ld with ⟨h9, h10⟩ | ⟨h9, h10, L⟩
  · refine AG.er (E := ISE) (b := (0, sI K 153 0 1)) ?_ ?_ (Tt.r 1)
    · unfold F_X9_phase; rw [n_tank0 h9]; rfl
    · unfold F_X10_phase
      simp only [x_src, x_cel, bd_s]
      cases src (pl K) a1 <;> cases cel (pl K) a2 a3 <;> simp only [b2_tv, b2_fv, e10, if_true, if_false, bd_s, ask0 h10, askF0 h10]
  unfold F_X9_phase F_X10_phase
  simp only [n_tank1 h9, nt_s, n_src L, n_cel L, nd_s, x_src, x_cel, bd_s]
  cases g0 : src (pl K) a1
  · refine AG.er (E := IOB) (b := (0, sI K 153 0 2)) ?_ ?_ (Tt.r 2)
    · rfl
    · cases cel (pl K) a2 a3 <;> simp only [b2_tv, b2_fv, e10, if_true, if_false, bd_s, ask2 h10, askF2 h10, askF3 h10]
  cases g1 : cel (pl K) a2 a3
  · refine AG.er (E := IOB) (b := (0, sI K 153 0 2)) ?_ ?_ (Tt.r 2)
    · rfl
    · simp only [b2_tv, b2_fv, e10, if_true, if_false, bd_s, ask2 h10, askF2 h10, askF3 h10]
  simp only [b2_tv, b2_fv, e10, if_true, if_false, bd_s, ask1 h10, askF1 h10]
  have M := L.mk' (Tt.r 0) R.tv
  have C := L.ck R.ru
  obtain ⟨k, hk, hk4, rfl⟩ := src_k L.pv g0
  obtain ⟨hx, hy⟩ := (cel_t L.pv).mp g1
  obtain ⟨K', e, q⟩ := m_short hn L.pv M hk4 hx hy (st K 0)
  have M' := M.tq q
  rw [c_short hn L.pv C hk hx hy, M.hs, e]
  simp (disch := omega) only [bd_s, gv_k, i_tno]
  rw [c_ang L.pv C hk, m_ang L.pv M' hk, M'.hs, L.sr.ph k hk, L.sr.t]
  simp only [bd_s]
  by_cases h : sShort (pl K) (st K) k a2 a3 (st K 0) = -1
  · rw [if_pos h, if_pos h]; exact AG.ok rfl rfl ⟨rfl, q⟩
  · rw [if_neg h, if_neg h]; exact AG.ok rfl rfl ⟨rfl, q⟩
/-- when a source's waves first come -/
def sArr (p s : gP) (k : Nat) (x y : Int32) : Int32 := if sShort p s k x y (s 0) = -1 then -1 else p (13 + k) + sDel p k (sShort p s k x y (s 0))
theorem c_arr (hn : 2000 ≤ n) {o os : Nat} {p s : gP} (hp : PV p) (h : CK I o os p s) {k : Nat} (hk : k < (p 4).toInt.toNat) {x y : Int32} (hx : xIn p x) (hy : yIn p y) : F_X7_firstArrival n o os I (Int32.ofNat k) x y = some (sArr p s k x y) := by
  have h4 := hp.c
  unfold F_X7_firstArrival sArr
  rw [c_short hn hp h hk hx hy]
  simp (disch := omega) only [bd_s, gv_k, i_tno]
  rw [c_del hp h hk, h.tr.frm k hk]
  by_cases q : sShort p s k x y (s 0) = -1
  · rw [if_pos q, if_pos q]
  · rw [if_neg q, if_neg q]; rfl
theorem m_arr (hn : 2000 ≤ n) {p s : gP} (hp : PV p) (h : MK K (153 + 4) p s) {k : Nat} (hk : k < (p 4).toInt.toNat) {x y : Int32} (hx : xIn p x) (hy : yIn p y) : ∃ K', F_X10_arrivalOf n K (Int32.ofNat k) x y = some (sArr p s k x y, K') ∧ Tq K K' := by
  have h4 := hp.c
  obtain ⟨K', e, q⟩ := m_short hn hp h (k := k) (by omega) hx hy (s 0)
  have h' := h.tq q
  unfold F_X10_arrivalOf sArr
  rw [h.hs, e]
  simp (disch := omega) only [bd_s, ix_13, gv_k, i_tno]
  rw [m_del hp h' hk, h'.hp]
  simp only [bd_s]
  refine ⟨K', ?_, q⟩
  by_cases q : sShort p s k x y (s 0) = -1
  · rw [if_pos q, if_pos q]
  · rw [if_neg q, if_neg q]
theorem e_arrival (hn : 2000 ≤ n) (R : Rel T0 T1 I K) (a1 a2 a3 : Int32) : AG (F_X9_arrival n T0 T1 I a1 a2 a3) (F_X10_arrival n K a1 a2 a3) (fun v b => v = b.1 ∧ Tt K 0 b.2) (fun E b => Tt K (thA E) b.2) := by
  rcases R.ld with ⟨h9, h10⟩ | ⟨h9, h10, L⟩
  · refine AG.er (E := ISE) (b := (0, sI K 153 0 1)) ?_ ?_ (Tt.r 1)
    · unfold F_X9_arrival; rw [n_tank0 h9]; rfl
    · unfold F_X10_arrival
      simp only [x_src, x_cel, bd_s]
      cases src (pl K) a1 <;> cases cel (pl K) a2 a3 <;> simp only [b2_tv, b2_fv, e10, if_true, if_false, bd_s, ask0 h10, askF0 h10]
  unfold F_X9_arrival F_X10_arrival
  simp only [n_tank1 h9, nt_s, n_src L, n_cel L, nd_s, x_src, x_cel, bd_s]
  cases g0 : src (pl K) a1
  · refine AG.er (E := IOB) (b := (0, sI K 153 0 2)) ?_ ?_ (Tt.r 2)
    · rfl
    · cases cel (pl K) a2 a3 <;> simp only [b2_tv, b2_fv, e10, if_true, if_false, bd_s, ask2 h10, askF2 h10, askF3 h10]
  cases g1 : cel (pl K) a2 a3
  · refine AG.er (E := IOB) (b := (0, sI K 153 0 2)) ?_ ?_ (Tt.r 2)
    · rfl
    · simp only [b2_tv, b2_fv, e10, if_true, if_false, bd_s, ask2 h10, askF2 h10, askF3 h10]
  simp only [b2_tv, b2_fv, e10, if_true, if_false, bd_s, ask1 h10, askF1 h10]
  have M := L.mk' (Tt.r 0) R.tv
  have C := L.ck R.ru
  obtain ⟨k, hk, hk4, rfl⟩ := src_k L.pv g0
  obtain ⟨hx, hy⟩ := (cel_t L.pv).mp g1
  obtain ⟨K', e, q⟩ := m_arr hn L.pv M hk hx hy
  rw [c_arr hn L.pv C hk hx hy, e]
  exact AG.ok rfl rfl ⟨rfl, q⟩
theorem e_part (hn : 2000 ≤ n) (R : Rel T0 T1 I K) (a1 a2 a3 : Int32) : AG (F_X9_part n T0 T1 I a1 a2 a3) (F_X10_part n K a1 a2 a3) (fun v b => v = b.1 ∧ Tt K 0 b.2) (fun E b => Tt K (thA E) b.2) := by
  rcases R.ld with ⟨h9, h10⟩ | ⟨h9, h10, L⟩
  · refine AG.er (E := ISE) (b := (0, sI K 153 0 1)) ?_ ?_ (Tt.r 1)
    · unfold F_X9_part; rw [n_tank0 h9]; rfl
    · unfold F_X10_part
      simp only [x_src, x_cel, bd_s]
      cases src (pl K) a1 <;> cases cel (pl K) a2 a3 <;> simp only [b2_tv, b2_fv, e10, if_true, if_false, bd_s, ask0 h10, askF0 h10]
  unfold F_X9_part F_X10_part
  simp only [n_tank1 h9, nt_s, n_src L, n_cel L, nd_s, x_src, x_cel, bd_s]
  cases g0 : src (pl K) a1
  · refine AG.er (E := IOB) (b := (0, sI K 153 0 2)) ?_ ?_ (Tt.r 2)
    · rfl
    · cases cel (pl K) a2 a3 <;> simp only [b2_tv, b2_fv, e10, if_true, if_false, bd_s, ask2 h10, askF2 h10, askF3 h10]
  cases g1 : cel (pl K) a2 a3
  · refine AG.er (E := IOB) (b := (0, sI K 153 0 2)) ?_ ?_ (Tt.r 2)
    · rfl
    · simp only [b2_tv, b2_fv, e10, if_true, if_false, bd_s, ask2 h10, askF2 h10, askF3 h10]
  simp only [b2_tv, b2_fv, e10, if_true, if_false, bd_s, ask1 h10, askF1 h10]
  have M := L.mk' (Tt.r 0) R.tv
  have C := L.ck R.ru
  obtain ⟨k, hk, hk4, rfl⟩ := src_k L.pv g0
  obtain ⟨hx, hy⟩ := (cel_t L.pv).mp g1
  obtain ⟨K', e, q⟩ := m_part hn L.pv L.sv M hk hx hy (st K 0)
  rw [L.sr.t, c_part hn L.pv L.sv C hk hx hy, M.hs, e]
  exact AG.ok rfl rfl ⟨rfl, q⟩
theorem e_wave (hn : 2000 ≤ n) (R : Rel T0 T1 I K) (a1 a2 : Int32) : AG (F_X9_wave n T0 T1 I a1 a2) (F_X10_wave n K a1 a2) (fun v b => v = b.1 ∧ Tt K 0 b.2) (fun E b => Tt K (thA E) b.2) := by
  rcases R.ld with ⟨h9, h10⟩ | ⟨h9, h10, L⟩
  · refine AG.er (E := ISE) (b := (0, sI K 153 0 1)) ?_ ?_ (Tt.r 1)
    · unfold F_X9_wave; rw [n_tank0 h9]; rfl
    · unfold F_X10_wave
      simp only [x_cel, bd_s]
      cases cel (pl K) a1 a2 <;> simp only [b2_tv, b2_fv, e10, if_true, if_false, bd_s, ask0 h10, askF0 h10]
  unfold F_X9_wave F_X10_wave
  simp only [n_tank1 h9, nt_s, n_cel L, nd_s, x_cel, bd_s]
  cases g0 : cel (pl K) a1 a2
  · refine AG.er (E := IOB) (b := (0, sI K 153 0 2)) ?_ ?_ (Tt.r 2)
    · rfl
    · simp only [b2_tv, b2_fv, e10, if_true, if_false, bd_s, ask2 h10, askF2 h10, askF3 h10]
  simp only [b2_tv, b2_fv, e10, if_true, if_false, bd_s, ask1 h10, askF1 h10]
  have M := L.mk' (Tt.r 0) R.tv
  have C := L.ck R.ru
  obtain ⟨hx, hy⟩ := (cel_t L.pv).mp g0
  obtain ⟨K', e, q⟩ := m_wave hn L.pv L.sv M hx hy (st K 0)
  rw [L.sr.t, c_wave hn L.pv L.sv C hx hy, M.hs, e]
  exact AG.ok rfl rfl ⟨rfl, q⟩
theorem e_waveAt (hn : 2000 ≤ n) (R : Rel T0 T1 I K) (a1 a2 a3 : Int32) : AG (F_X9_waveAt n T0 T1 I a1 a2 a3) (F_X10_waveAt n K a1 a2 a3) (fun v b => v = b.1 ∧ Tt K 0 b.2) (fun E b => Tt K (thA E) b.2) := by
  rcases R.ld with ⟨h9, h10⟩ | ⟨h9, h10, L⟩
  · refine AG.er (E := ISE) (b := (0, sI K 153 0 1)) ?_ ?_ (Tt.r 1)
    · unfold F_X9_waveAt; rw [n_tank0 h9]; rfl
    · unfold F_X10_waveAt
      simp only [x_cel, x_tim, bd_s]
      cases cel (pl K) a1 a2 <;> cases rng a3 0 9999 <;> simp only [b2_tv, b2_fv, e10, if_true, if_false, bd_s, ask0 h10, askF0 h10]
  unfold F_X9_waveAt F_X10_waveAt
  simp only [n_tank1 h9, nt_s, n_cel L, n_rng, nd_s, x_cel, x_tim, bd_s]
  cases g0 : cel (pl K) a1 a2
  · refine AG.er (E := IOB) (b := (0, sI K 153 0 2)) ?_ ?_ (Tt.r 2)
    · rfl
    · cases rng a3 0 9999 <;> simp only [b2_tv, b2_fv, e10, if_true, if_false, bd_s, ask2 h10, askF2 h10, askF3 h10]
  cases g1 : rng a3 0 9999
  · refine AG.er (E := IAE) (b := (0, sI K 153 0 3)) ?_ ?_ (Tt.r 3)
    · rfl
    · simp only [b2_tv, b2_fv, e10, if_true, if_false, bd_s, ask2 h10, askF2 h10, askF3 h10]
  simp only [b2_tv, b2_fv, e10, if_true, if_false, bd_s, ask1 h10, askF1 h10]
  have M := L.mk' (Tt.r 0) R.tv
  have C := L.ck R.ru
  obtain ⟨hx, hy⟩ := (cel_t L.pv).mp g0
  obtain ⟨K', e, q⟩ := m_wave hn L.pv L.sv M hx hy a3
  rw [c_wave hn L.pv L.sv C hx hy, e]
  exact AG.ok rfl rfl ⟨rfl, q⟩
theorem e_quietIn (hn : 2000 ≤ n) (R : Rel T0 T1 I K) (a1 a2 a3 a4 : Int32) : AG (F_X9_quietIn n T0 T1 I a1 a2 a3 a4) (F_X10_quietIn n K a1 a2 a3 a4) (fun v b => v = b.1 ∧ Tt K 0 b.2) (fun E b => Tt K (thA E) b.2) := by
  rcases R.ld with ⟨h9, h10⟩ | ⟨h9, h10, L⟩
  · refine AG.er (E := ISE) (b := (0, sI K 153 0 1)) ?_ ?_ (Tt.r 1)
    · unfold F_X9_quietIn; rw [n_tank0 h9]; rfl
    · unfold F_X10_quietIn
      simp only [x_cel, x_tol, x_in, bd_s]
      cases cel (pl K) a1 a2 <;> cases rng a3 0 9999 <;> cases rng a4 1 200 <;> simp only [b2_tv, b2_fv, e10, if_true, if_false, bd_s, ask0 h10, askF0 h10]
  unfold F_X9_quietIn F_X10_quietIn
  simp only [n_tank1 h9, nt_s, n_cel L, n_tol, n_rng, nd_s, x_cel, x_tol, x_in, bd_s]
  cases g0 : cel (pl K) a1 a2
  · refine AG.er (E := IOB) (b := (0, sI K 153 0 2)) ?_ ?_ (Tt.r 2)
    · rfl
    · cases rng a3 0 9999 <;> cases rng a4 1 200 <;> simp only [b2_tv, b2_fv, e10, if_true, if_false, bd_s, ask2 h10, askF2 h10, askF3 h10]
  cases g1 : rng a3 0 9999
  · refine AG.er (E := IAE) (b := (0, sI K 153 0 3)) ?_ ?_ (Tt.r 3)
    · rfl
    · cases rng a4 1 200 <;> simp only [b2_tv, b2_fv, e10, if_true, if_false, bd_s, ask2 h10, askF2 h10, askF3 h10]
  cases g2 : rng a4 1 200
  · refine AG.er (E := IAE) (b := (0, sI K 153 0 3)) ?_ ?_ (Tt.r 3)
    · rfl
    · simp only [b2_tv, b2_fv, e10, if_true, if_false, bd_s, ask2 h10, askF2 h10, askF3 h10]
  simp only [b2_tv, b2_fv, e10, if_true, if_false, bd_s, ask1 h10, askF1 h10]
  have M := L.mk' (Tt.r 0) R.tv
  have C := L.ck R.ru
  obtain ⟨hx, hy⟩ := (cel_t L.pv).mp g0
  have h4 := rng_t.mp g2
  have c1 : (1 : Int32).toInt = 1 := rfl
  have c2 : (200 : Int32).toInt = 200 := rfl
  have key : ∀ (d i j : Nat) (K1 : gI), MK K1 (153 + 4) (pl K) (st K) → i + d = a4.toInt.toNat + 1 → d < j → ∃ v K', L_X9_quietIn n T0 T1 I a1 a2 a3 a4 j 0 (Int32.ofNat i) = some (.inr v) ∧ L_X10_quietIn n a1 a2 a3 a4 j 0 (Int32.ofNat i) K1 = some (v, K') ∧ Tq K1 K' := by
    intro d
    induction d with
    | zero =>
      intro i j K1 M1 hi hj
      obtain ⟨j, rfl⟩ : ∃ i, j = i + 1 := ⟨j - 1, by omega⟩
      refine ⟨-1, K1, ?_, ?_, Tq.rfl'⟩
      · rw [L_X9_quietIn_e0, if_pos (by rw [i_lt, i_of (by omega)]; omega)]
      · rw [L_X10_quietIn_e0, if_pos (by rw [i_lt, i_of (by omega)]; omega)]
    | succ d ih =>
      intro i j K1 M1 hi hj
      obtain ⟨j, rfl⟩ : ∃ i, j = i + 1 := ⟨j - 1, by omega⟩
      obtain ⟨K2, e2, q2⟩ := m_wave hn L.pv L.sv M1 hx hy (st K 0 + Int32.ofNat i)
      rw [L_X9_quietIn_e0, L_X10_quietIn_e0, if_neg (by rw [i_lt, i_of (by omega)]; omega), if_neg (by rw [i_lt, i_of (by omega)]; omega), L.sr.t, c_wave hn L.pv L.sv C hx hy, M1.hs, e2]
      simp only [bd_s, ixp_1]
      by_cases h : a3 < jabs (sWave (pl K) (st K) a1 a2 (st K 0 + Int32.ofNat i))
      · rw [if_pos h, if_pos h]
        obtain ⟨v, K', e, e', q⟩ := ih (i + 1) j K2 (M1.tq q2) (by omega) (by omega)
        exact ⟨v, K', e, e', q2.trans q⟩
      · rw [if_neg h, if_neg h]
        exact ⟨_, K2, rfl, rfl, q2⟩
  obtain ⟨v, K', e, e', q⟩ := key (a4.toInt.toNat + 1) 0 n _ M (by omega) (by omega)
  exact AG.ok e e' ⟨rfl, q⟩
theorem e_gaugeAt (hn : 2000 ≤ n) (R : Rel T0 T1 I K) (a1 a2 : Int32) : AG (F_X9_gaugeAt n T0 T1 I a1 a2) (F_X10_gaugeAt n K a1 a2) (fun v b => v = b.1 ∧ Tt K 0 b.2) (fun E b => Tt K (thA E) b.2) := by
  rcases R.ld with ⟨h9, h10⟩ | ⟨h9, h10, L⟩
  · refine AG.er (E := ISE) (b := (0, sI K 153 0 1)) ?_ ?_ (Tt.r 1)
    · unfold F_X9_gaugeAt; rw [n_tank0 h9]; rfl
    · unfold F_X10_gaugeAt
      simp only [x_gau, x_in, bd_s]
      cases gau (pl K) a1 <;> cases rng a2 0 1 <;> simp only [b2_tv, b2_fv, e10, if_true, if_false, bd_s, ask0 h10, askF0 h10]
  unfold F_X9_gaugeAt F_X10_gaugeAt
  simp only [n_tank1 h9, nt_s, n_gau L, n_rng, nd_s, x_gau, x_in, bd_s]
  cases g0 : gau (pl K) a1
  · refine AG.er (E := IOB) (b := (0, sI K 153 0 2)) ?_ ?_ (Tt.r 2)
    · rfl
    · cases rng a2 0 1 <;> simp only [b2_tv, b2_fv, e10, if_true, if_false, bd_s, ask2 h10, askF2 h10, askF3 h10]
  cases g1 : rng a2 0 1
  · refine AG.er (E := IAE) (b := (0, sI K 153 0 3)) ?_ ?_ (Tt.r 3)
    · rfl
    · simp only [b2_tv, b2_fv, e10, if_true, if_false, bd_s, ask2 h10, askF2 h10, askF3 h10]
  simp only [b2_tv, b2_fv, e10, if_true, if_false, bd_s, ask1 h10, askF1 h10]
  have M := L.mk' (Tt.r 0) R.tv
  have C := L.ck R.ru
  obtain ⟨k, hk, hk4, rfl⟩ := gau_k L.pv g0
  have h4 := rng_t.mp g1
  have c0 : (0 : Int32).toInt = 0 := rfl
  have c1 : (1 : Int32).toInt = 1 := rfl
  simp (disch := omega) only [xm_2, ix_77, gv_k, i_tno]
  by_cases h : a2 = 0
  · subst h
    rw [if_pos rfl, Int32.add_zero]
    simp (disch := omega) only [gv_k, i_tno, M.hp]
    exact AG.ok rfl rfl ⟨L.tr.gx k hk, Tt.r 0⟩
  · have h1 : a2 = 1 := by
      have : a2.toInt ≠ 0 := fun q => h (i_eq.mpr (by rw [q]; rfl))
      rw [i_eq]; omega
    subst h1
    rw [if_neg h, ixp_1]
    simp (disch := omega) only [gv_k, i_tno, M.hp]
    exact AG.ok rfl rfl ⟨L.tr.gy k hk, Tt.r 0⟩
theorem e_isNode (hn : 2000 ≤ n) (R : Rel T0 T1 I K) (a1 a2 a3 a4 : Int32) : AG (F_X9_isNode n T0 T1 I a1 a2 a3 a4) (F_X10_isNode n K a1 a2 a3 a4) (fun v b => v = b.1 ∧ Tt K 0 b.2) (fun E b => Tt K (thA E) b.2) := by
  rcases R.ld with ⟨h9, h10⟩ | ⟨h9, h10, L⟩
  · refine AG.er (E := ISE) (b := (0, sI K 153 0 1)) ?_ ?_ (Tt.r 1)
    · unfold F_X9_isNode; rw [n_tank0 h9]; rfl
    · unfold F_X10_isNode
      simp only [x_cel, x_run, x_tol, bd_s]
      cases cel (pl K) a1 a2 <;> cases rng a3 1 40 <;> cases rng a4 0 9999 <;> simp only [b2_tv, b2_fv, e10, if_true, if_false, bd_s, ask0 h10, askF0 h10]
  unfold F_X9_isNode F_X10_isNode
  simp only [n_tank1 h9, nt_s, n_cel L, n_tim, n_tol, nd_s, x_cel, x_run, x_tol, bd_s]
  cases g0 : cel (pl K) a1 a2
  · refine AG.er (E := IOB) (b := (0, sI K 153 0 2)) ?_ ?_ (Tt.r 2)
    · rfl
    · cases rng a3 1 40 <;> cases rng a4 0 9999 <;> simp only [b2_tv, b2_fv, e10, if_true, if_false, bd_s, ask2 h10, askF2 h10, askF3 h10]
  cases g1 : rng a3 1 40
  · refine AG.er (E := IAE) (b := (0, sI K 153 0 3)) ?_ ?_ (Tt.r 3)
    · rfl
    · cases rng a4 0 9999 <;> simp only [b2_tv, b2_fv, e10, if_true, if_false, bd_s, ask2 h10, askF2 h10, askF3 h10]
  cases g2 : rng a4 0 9999
  · refine AG.er (E := IAE) (b := (0, sI K 153 0 3)) ?_ ?_ (Tt.r 3)
    · rfl
    · simp only [b2_tv, b2_fv, e10, if_true, if_false, bd_s, ask2 h10, askF2 h10, askF3 h10]
  simp only [b2_tv, b2_fv, e10, if_true, if_false, bd_s, ask1 h10, askF1 h10]
  have M := L.mk' (Tt.r 0) R.tv
  have C := L.ck R.ru
  obtain ⟨hx, hy⟩ := (cel_t L.pv).mp g0
  have h4 := rng_t.mp g1
  have c1 : (1 : Int32).toInt = 1 := rfl
  have c2 : (40 : Int32).toInt = 40 := rfl
  obtain ⟨K', e, q⟩ := m_calm hn L.pv L.sv M hx hy (m := a3) (by omega) (by omega) a4
  rw [c_calm hn L.pv L.sv C hx hy (by omega) (by omega), e]
  simp only [bd_s]
  rw [gd_t (b2_b _)]
  cases sCalm (pl K) (st K) a1 a2 a3 a4
  · exact AG.ok rfl rfl ⟨rfl, q⟩
  · exact AG.ok rfl rfl ⟨rfl, q⟩
theorem e_energy (hn : 2000 ≤ n) (R : Rel T0 T1 I K) (a1 a2 a3 : Int32) : AG (F_X9_energy n T0 T1 I a1 a2 a3) (F_X10_energy n K a1 a2 a3) (fun v b => v = b.1 ∧ Tt K 0 b.2) (fun E b => Tt K (thA E) b.2) := by
  rcases R.ld with ⟨h9, h10⟩ | ⟨h9, h10, L⟩
  · refine AG.er (E := ISE) (b := (0, sI K 153 0 1)) ?_ ?_ (Tt.r 1)
    · unfold F_X9_energy; rw [n_tank0 h9]; rfl
    · unfold F_X10_energy
      simp only [x_cel, x_run, bd_s]
      cases cel (pl K) a1 a2 <;> cases rng a3 1 40 <;> simp only [b2_tv, b2_fv, e10, if_true, if_false, bd_s, ask0 h10, askF0 h10]
  unfold F_X9_energy F_X10_energy
  simp only [n_tank1 h9, nt_s, n_cel L, n_tim, nd_s, x_cel, x_run, bd_s]
  cases g0 : cel (pl K) a1 a2
  · refine AG.er (E := IOB) (b := (0, sI K 153 0 2)) ?_ ?_ (Tt.r 2)
    · rfl
    · cases rng a3 1 40 <;> simp only [b2_tv, b2_fv, e10, if_true, if_false, bd_s, ask2 h10, askF2 h10, askF3 h10]
  cases g1 : rng a3 1 40
  · refine AG.er (E := IAE) (b := (0, sI K 153 0 3)) ?_ ?_ (Tt.r 3)
    · rfl
    · simp only [b2_tv, b2_fv, e10, if_true, if_false, bd_s, ask2 h10, askF2 h10, askF3 h10]
  simp only [b2_tv, b2_fv, e10, if_true, if_false, bd_s, ask1 h10, askF1 h10]
  have M := L.mk' (Tt.r 0) R.tv
  have C := L.ck R.ru
  obtain ⟨hx, hy⟩ := (cel_t L.pv).mp g0
  have h4 := rng_t.mp g1
  have c1 : (1 : Int32).toInt = 1 := rfl
  have c2 : (40 : Int32).toInt = 40 := rfl
  obtain ⟨K', e, q⟩ := m_ener hn L.pv L.sv M hx hy (m := a3) (by omega) (by omega)
  rw [c_ener hn L.pv L.sv C hx hy (by omega) (by omega), e]
  exact AG.ok rfl rfl ⟨rfl, q⟩
end FACE
