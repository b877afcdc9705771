/-! A STEP OF THE LAW, as said of the plan and the state -/
theorem sCol_cg {p s s' : gP} (h : ∀ i, i ≠ 0 → s' i = s i) (k : Nat) (t : Int32) : sCol p s' k t = sCol p s k t := by
  unfold sCol; rw [h (14 + k) (by omega), h (22 + k) (by omega)]
theorem sRow_cg {p s s' : gP} (h : ∀ i, i ≠ 0 → s' i = s i) (k : Nat) (t : Int32) : sRow p s' k t = sRow p s k t := by
  unfold sRow; rw [h (18 + k) (by omega), h (26 + k) (by omega)]
theorem sOpen_cg {s s' : gP} (h : ∀ i, i ≠ 0 → s' i = s i) (y : Int32) : sOpen s' y = sOpen s y := by
  unfold sOpen; rw [h 1 (by decide)]
theorem sPart_cg {p s s' : gP} (h : ∀ i, i ≠ 0 → s' i = s i) (k : Nat) (x y t : Int32) : sPart p s' k x y t = sPart p s k x y t := by
  unfold sPart sShut sMir
  simp only [sCol_cg h, sRow_cg h, sOpen_cg h, h (2 + k) (by omega), h 1 (by decide), h (6 + k) (by omega), h (10 + k) (by omega)]
theorem sWave_cg {p s s' : gP} (h : ∀ i, i ≠ 0 → s' i = s i) (x y t : Int32) : sWave p s' x y t = sWave p s x y t := by
  unfold sWave
  simp only [sPart_cg h]
section LWP
variable {n T0 T1 zS : Nat} {S : Nat → Int32} {I : gI} {J : gJ} {K : gI} {N : gJ} {p s : gP}
theorem WK.a1 (w : WK K p) : K 154 1 = p 0 := w.1
theorem WK.a2 (w : WK K p) : K 154 2 = p 1 := w.2.1
theorem WK.a4 (w : WK K p) : K 154 4 = p 3 := w.2.2.1
theorem WK.a6 (w : WK K p) : K 154 6 = p 4 := w.2.2.2.1
/-- what the law asks with in a step -/
def AK (p : gP) (c m : Int32) (k : Nat) (x y row tol : Int32) : Prop := (m = 1 + (c &&& 7)) ∧ (1 ≤ m.toInt ∧ m.toInt ≤ 8) ∧ k < (p 4).toInt.toNat ∧ xIn p x ∧ yIn p y ∧ yIn p row ∧ (0 ≤ tol.toInt ∧ tol.toInt ≤ 127)
theorem lw1_s (hn : 20000 ≤ n) (hz : zS < 2147483648) (C : CI T0 T1 I p s) (w : WK K p) {i : Nat} (hi : i < 6) : ∃ (c m : Int32) (k : Nat) (x y row tol : Int32) (I' : gI) (J' : gJ), F_lw1 n zS S T0 T1 I J K N (Int32.ofNat i) = some (c, m, Int32.ofNat k, x, y, row, tol, I', J', K, N) ∧ AK p c m k x y row tol ∧ CI T0 T1 I' p s := by
  have hp := C.pv
  have hw := hp.w
  have hh := hp.h
  have hc4 := C.ld.2.1
  obtain ⟨c, hc⟩ := cell_s n (S := S) hz (a := 7 + Int32.ofNat i) (i_oadd 7 i) (by omega)
  have a7 := an_b c 7 3 (by decide) (by decide)
  have l1 : (1 : Int32).toInt = 1 := rfl
  have hm : 1 ≤ ((1 : Int32) + (c &&& Int32.ofNat 7)).toInt ∧ ((1 : Int32) + (c &&& Int32.ofNat 7)).toInt ≤ 8 := by rw [i_add (by rw [l1]; omega) (by rw [l1]; omega), l1]; omega
  obtain ⟨I', J', e, C'⟩ := rt_all (J := J) hn C w (m := 1 + (c &&& 7)) ⟨hm.1, Int.le_trans hm.2 (by decide)⟩
  have n6 : ¬ (K 154 6) = 0 := fun z => by rw [w.a6] at z; rw [z, ii_0] at hc4; omega
  have n1 : ¬ (K 154 1) = 0 := fun z => by rw [w.a1] at z; rw [z, ii_0] at hw; omega
  have n2 : ¬ (K 154 2) = 0 := fun z => by rw [w.a2] at z; rw [z, ii_0] at hh; omega
  have b3 := mo_b (d := p 4) (by omega) (an_b (c >>> ((3 : Int32) &&& 31)) 3 2 (by decide) (by decide)).1
  have b5 := mo_b (d := p 0) (by omega) (an_b (c >>> ((5 : Int32) &&& 31)) 7 3 (by decide) (by decide)).1
  have b8 := mo_b (d := p 1) (by omega) (an_b (c >>> ((8 : Int32) &&& 31)) 7 3 (by decide) (by decide)).1
  have b11 := mo_b (d := p 1) (by omega) (an_b (c >>> ((11 : Int32) &&& 31)) 7 3 (by decide) (by decide)).1
  have b14 := an_b (c >>> ((14 : Int32) &&& 31)) 127 7 (by decide) (by decide)
  refine ⟨c, 1 + (c &&& 7), (((c >>> ((3 : Int32) &&& 31)) &&& (3 : Int32)) - ((c >>> ((3 : Int32) &&& 31)) &&& (3 : Int32)) / (p 4) * (p 4)).toInt.toNat, ((c >>> ((5 : Int32) &&& 31)) &&& (7 : Int32)) - ((c >>> ((5 : Int32) &&& 31)) &&& (7 : Int32)) / (p 0) * (p 0), ((c >>> ((8 : Int32) &&& 31)) &&& (7 : Int32)) - ((c >>> ((8 : Int32) &&& 31)) &&& (7 : Int32)) / (p 1) * (p 1), ((c >>> ((11 : Int32) &&& 31)) &&& (7 : Int32)) - ((c >>> ((11 : Int32) &&& 31)) &&& (7 : Int32)) / (p 1) * (p 1), (c >>> ((14 : Int32) &&& 31)) &&& (127 : Int32), I', J', ?_, ⟨rfl, hm, ?_, b5, b8, b11, b14⟩, C'⟩
  · unfold F_lw1
    rw [hc, bd_s, e, bd_s, if_neg (show ¬ (1 : Int32) = 0 by decide), gd_t n6, gd_t n1, gd_t n2, gd_t n2, w.a6, w.a1, w.a2]
    have := i_on (a := ((c >>> ((3 : Int32) &&& 31)) &&& (3 : Int32)) - ((c >>> ((3 : Int32) &&& 31)) &&& (3 : Int32)) / (p 4) * (p 4)) b3.1
    rw [this]
  · have h1 := b3.1
    have h2 := b3.2
    exact (Int.toNat_lt_toNat (by omega)).mpr h2
theorem lw2_s (hn : 20000 ≤ n) {q12 : Nat} {a4 c m : Int32} {k : Nat} {x y row tol : Int32} (C : CI T0 T1 I p s) (A : AK p c m k x y row tol) : ∃ (q : Nat) (best : Int32) (I' : gI), F_lw2 n zS S T0 T1 q12 I J K N a4 c m (Int32.ofNat k) x y row tol = some (cnt (nd9 p (up s (2 + k) 0) m tol) (nC p), Int32.ofNat (15 * q), (if p 3 = -1 then -1 else eTu p s x y row m), best, I', J, K, N) ∧ CI T0 T1 I' p s ∧ (q < 24 ∧ ∀ r, r < 24 → ¬ sEner p (up s (10 + k) (Int32.ofNat (15 * r))) x y m < sEner p (up s (10 + k) (Int32.ofNat (15 * q))) x y m ∧ (r < q → ¬ sEner p (up s (10 + k) (Int32.ofNat (15 * r))) x y m = sEner p (up s (10 + k) (Int32.ofNat (15 * q))) x y m)) ∧ (p 3 = -1 → best = -1) ∧ (p 3 ≠ -1 → yIn p best ∧ ∀ r, yIn p r → ¬ eTu p s x y best m < eTu p s x y r m) := by
  obtain ⟨hm, hm2, hk, hx, hy, hr, ht⟩ := A
  obtain ⟨I1, e1, C1, -⟩ := a_off (n := n) (by omega) C hk (m := m) (tol := tol) (by omega) (by omega)
  obtain ⟨q, I2, e2, C2, -, hq, hb⟩ := a_best (n := n) (by omega) C1 hk hx hy (m := m) (by omega)
  obtain ⟨I3, e3, C3, -⟩ := a_ifT (n := n) (by omega) C2 hx hy hr (m := m) (by omega)
  obtain ⟨b, I4, e4, C4, -, h1, h2⟩ := a_row9 (n := n) (by omega) C3 hx hy (m := m) (by omega)
  refine ⟨q, b, I4, ?_, C4, ⟨hq, hb⟩, h1, h2⟩
  unfold F_lw2
  rw [e1, ok_s, e2, ok_s, e3, ok_s, e4, ok_s]
theorem lw3_s (hn : 20000 ≤ n) {q12 : Nat} {a4 c m : Int32} {k : Nat} {x y row tol : Int32} (C : CI T0 T1 I p s) (w : WK K p) (hph : PH p s) (A : AK p c m k x y row tol) {q : Nat} {best : Int32} (hb : q < 24 ∧ ∀ r, r < 24 → ¬ sEner p (up s (10 + k) (Int32.ofNat (15 * r))) x y m < sEner p (up s (10 + k) (Int32.ofNat (15 * q))) x y m ∧ (r < q → ¬ sEner p (up s (10 + k) (Int32.ofNat (15 * r))) x y m = sEner p (up s (10 + k) (Int32.ofNat (15 * q))) x y m)) (h1 : p 3 = -1 → best = -1) (h2 : p 3 ≠ -1 → yIn p best ∧ ∀ r, yIn p r → ¬ eTu p s x y best m < eTu p s x y r m) : ∃ I', F_lw3 n zS S T0 T1 q12 I J K N a4 c m (Int32.ofNat k) x y row tol (cnt (nd9 p (up s (2 + k) 0) m tol) (nC p)) (Int32.ofNat (15 * q)) best (if p 3 = -1 then -1 else eTu p s x y row m) = some (I', J, K, N) ∧ CI T0 T1 I' p s := by
  obtain ⟨hm, hm2, hk, hx, hy, hr, ht⟩ := A
  have hwl := C.pv.wl
  obtain ⟨I1, e1, C1, t1, -⟩ := a_setOn (n := n) (by omega) C hk (v := 0) (Or.inl rfl)
  have e2 := a_nodes (n := n) (by omega) C1 (m := m) (tol := tol) (by omega) (by omega)
  have e3 := a_part (n := n) (by omega) C1 hk hx hy
  have z3 : sPart p (up s (2 + k) 0) k x y (up s (2 + k) 0 0) = 0 := by
    unfold sPart; rw [if_pos (up_t s (2 + k) 0)]
  rw [z3] at e3
  obtain ⟨u, I2, e4, hu, C2, -⟩ := a_undo (n := n) (by omega) C1 t1
  have e5 := a_on (n := n) C2 hk
  obtain ⟨I3, e6, C3⟩ := bs_all (n := n) (by omega) C2 hph hk hx hy (m := m) (by omega) hb.1 hb.2
  have hu0 : ¬ u < 0 := by rw [i_lt, ii_0]; omega
  unfold F_lw3
  rw [e1, ok_s, e2, ok_s, if_pos rfl, e3, ok_s, if_pos rfl, e4, ok_s, if_neg hu0, e5, ok_s, if_pos rfl, e6, bd_s, if_neg (show ¬ (1 : Int32) = 0 by decide), w.a4]
  by_cases q3 : p 3 = -1
  · have hb1 := h1 q3
    rw [if_neg (show ¬ 0 ≤ p 3 by rw [q3]; decide), if_pos q3, if_pos ((cmp_0 _ _).mpr rfl), if_pos hb1]
    exact ⟨I3, rfl, C3⟩
  · obtain ⟨hbi, hbm⟩ := h2 q3
    have q3' : 0 ≤ (p 3).toInt := by
      have : (p 3).toInt ≠ -1 := fun z => q3 (i_eq.mpr (by rw [z]; rfl))
      omega
    obtain ⟨I4, s4, e7, hs4, C4, t4, -⟩ := a_turn (n := n) (by omega) C3 hr q3
    have e8 := a_isOpen (n := n) C4 hr
    have e9 := a_energy (n := n) (by omega) C4 hx hy (m := m) (by omega)
    obtain ⟨u', I5, e10, hu', C5, -⟩ := a_undo (n := n) (by omega) C4 t4
    obtain ⟨I6, e11, C6, -⟩ := a_ifT (n := n) (by omega) C5 hx hy hbi (m := m) (by omega)
    have es : sEner p s4 x y m = eTu p s x y row m := by rw [hs4]; rfl
    rw [es] at e9
    rw [if_neg q3] at e11
    rw [if_pos (show 0 ≤ p 3 by rw [i_le, ii_0]; exact q3'), e7, ok_s, e8, ok_s, if_pos rfl, e9, ok_s, if_neg q3, if_pos ((cmp_0 _ _).mpr rfl), e10, ok_s, if_neg (show ¬ u' < 0 by rw [i_lt, ii_0]; omega), e11, ok_s, if_pos ((cmp_g _ _).mpr (hbm row hr))]
    exact ⟨I6, rfl, C6⟩
theorem lw4_s (hn : 20000 ≤ n) {q12 : Nat} {a4 c m : Int32} {k : Nat} {x y row tol : Int32} (C : CI T0 T1 I p s) (A : AK p c m k x y row tol) (ht : (s 0).toInt + m.toInt ≤ 9999) : ∃ (b : Nat) (I' : gI), F_lw4 n zS S T0 T1 q12 I J K N a4 c m (Int32.ofNat k) x y row tol = some (Int32.ofNat b, s 0, I', J, K, N) ∧ b < 2 ∧ CI T0 T1 I' p (up s 0 (s 0 + m)) ∧ Sav I' p s b := by
  obtain ⟨hm, hm2, hk, hx, hy, hr, htl⟩ := A
  have b21 := an_b (c >>> ((21 : Int32) &&& 31)) 1 1 (by decide) (by decide)
  have h0 := C.sv.t
  have et : (s 0 + m).toInt = (s 0).toInt + m.toInt := i_add (by omega) (by omega)
  obtain ⟨b, hb⟩ : ∃ b, b = ((c >>> ((21 : Int32) &&& 31)) &&& (1 : Int32)).toInt.toNat := ⟨_, rfl⟩
  have hb2 : b < 2 := by
    rw [hb]
    have h1 : ((c >>> ((21 : Int32) &&& 31)) &&& (1 : Int32)).toInt ≤ 1 := b21.2
    omega
  have eb : ((c >>> ((21 : Int32) &&& 31)) &&& (1 : Int32)) = Int32.ofNat b := by rw [hb]; exact (i_on b21.1).symm
  obtain ⟨I1, e1, C1, S1⟩ := a_save (n := n) (by omega) C hb2
  have e2 := a_time (n := n) C1
  have e3 := a_waveAt (n := n) (by omega) C1 hx hy (t := s 0 + m) (by omega)
  obtain ⟨I2, e4, C2, -, f2⟩ := a_adv (n := n) (by omega) C1 (m := m) (by omega) ht
  have e5 := a_wave (n := n) (by omega) C2 hx hy
  rw [sWave_cg (s := s) (s' := up s 0 (s 0 + m)) (fun i hi => up_o hi), up_t] at e5
  refine ⟨b, I2, ?_, hb2, C2, S1.ns hb2 f2⟩
  unfold F_lw4
  rw [eb, e1, ok_s, e2, bd_s, if_pos rfl, bd_s, e3, ok_s, e4, ok_s, if_pos rfl, e5, ok_s, if_pos rfl]
theorem lw5_s (hn : 20000 ≤ n) {q12 : Nat} {a4 c m : Int32} {k : Nat} {x y row tol : Int32} {s' : gP} (C : CI T0 T1 I p s') {b : Nat} (hb : b < 2) (v : Sav I p s b) : ∃ I', F_lw5 n zS S T0 T1 q12 I J K N a4 c m (Int32.ofNat k) x y row tol (Int32.ofNat b) (s 0) = some (I', J, K, N) ∧ CI T0 T1 I' p s := by
  obtain ⟨I1, e1, C1, h18⟩ := a_rest (n := n) (by omega) C hb v
  refine ⟨I1, ?_, C1⟩
  unfold F_lw5 F_X9_undoable
  rw [e1, ok_s, if_pos rfl, bd_s]
  exact if_pos h18
theorem lw6_s (hn : 20000 ≤ n) {a4 c m : Int32} {k : Nat} {x y row tol : Int32} (C : CI T0 T1 I p s) (w : WK K p) (hph : PH p s) (ham : AM p s) (A : AK p c m k x y row tol) : ∃ (I' : gI) (s' : gP), F_lw6 n zS S T0 T1 I J K N a4 c m (Int32.ofNat k) x y row tol = some (I', J, K, N) ∧ CI T0 T1 I' p s' ∧ PH p s' ∧ AM p s' ∧ s' 0 = s 0 := by
  obtain ⟨hm, hm2, hk, hx, hy, hr, htl⟩ := A
  have l1 : (1 : Int32).toInt = 1 := rfl
  have b25 := an_b (c >>> ((25 : Int32) &&& 31)) 31 5 (by decide) (by decide)
  have hv : 1 ≤ ((1 : Int32) + ((c >>> ((25 : Int32) &&& 31)) &&& Int32.ofNat 31)).toInt ∧ ((1 : Int32) + ((c >>> ((25 : Int32) &&& 31)) &&& Int32.ofNat 31)).toInt ≤ 999 := by rw [i_add (by rw [l1]; omega) (by rw [l1]; omega), l1]; omega
  have mv : ∀ (I1 : gI) (s1 : gP), CI T0 T1 I1 p s1 → PH p s1 → AM p s1 → s1 0 = s 0 → ∃ (I' : gI) (s' : gP), bd (F_X9_moveSource n T0 T1 I1 (Int32.ofNat k) x y) (fun v572 => sm v572 (fun _ => none) (fun v572 => bd (F_X9_time n T0 T1 v572.2) (fun v580 => bd (F_X9_sourceAt n T0 T1 v572.2 (Int32.ofNat k) (1 : Int32) v580) (fun v583 => sm v583 (fun _ => none) (fun v583 => bd (F_X9_time n T0 T1 v572.2) (fun v595 => bd (F_X9_sourceAt n T0 T1 v572.2 (Int32.ofNat k) (0 : Int32) v595) (fun v598 => sm v598 (fun _ => none) (fun v598 => (if v572.1 = ((v583 * (K 154 1)) + v598) then some (v572.2, J, K, N) else none)))))))) ) = some (I', J, K, N) ∧ CI T0 T1 I' p s' ∧ PH p s' ∧ AM p s' ∧ s' 0 = s 0 := fun I1 s1 C1 hp1 ha1 h01 => by
    obtain ⟨I2, s2, e1, hs2, C2, -, -⟩ := a_move (n := n) (by omega) C1 hk hx hy
    have h0 := C2.sv.t
    have e2 := a_time (n := n) C2
    have e3 := a_atY (n := n) C2 hk (t := s2 0) (by omega)
    have e4 := a_atX (n := n) C2 hk (t := s2 0) (by omega)
    have hc := C1.pv.c
    refine ⟨I2, s2, ?_, C2, fun i hi => ?_, fun i hi => ?_, ?_⟩
    · rw [e1, ok_s, e2, bd_s, e3, ok_s, bd_s, e4, ok_s, w.a1, if_pos rfl]
    · rw [hs2, up_o (by omega), up_o (by omega)]; exact hp1 i hi
    · rw [hs2, up_o (by omega), up_o (by omega)]; exact ha1 i hi
    · rw [hs2, up_o (by omega), up_o (by omega)]; exact h01
  have hc := C.pv.c
  unfold F_lw6
  by_cases q : ((c >>> ((23 : Int32) &&& 31)) &&& (3 : Int32)) = 0
  · obtain ⟨I1, e1, C1, -, -⟩ := a_setAm (n := n) (by omega) C hk (v := 1 + ((c >>> ((25 : Int32) &&& 31)) &&& 31)) hv
    have e2 := a_amp (n := n) C1 hk
    rw [up_t] at e2
    have hk1 := ham k hk
    have p1 : PH p (up s (6 + k) (1 + ((c >>> ((25 : Int32) &&& 31)) &&& 31))) := fun i hi => by rw [up_o (by omega)]; exact hph i hi
    have a1 : AM p (up s (6 + k) (1 + ((c >>> ((25 : Int32) &&& 31)) &&& 31))) := fun i hi => by
      by_cases z : 6 + i = 6 + k
      · rw [z, up_t]; exact hv.1
      · rw [up_o z]; exact ham i hi
    rw [if_pos q, e1, ok_s, if_neg (show ¬ s (6 + k) < 1 by rw [i_lt, l1]; omega), e2, ok_s, if_pos rfl, if_neg (show ¬ ((c >>> ((23 : Int32) &&& 31)) &&& (3 : Int32)) = 1 by rw [q]; decide)]
    exact ⟨I1, _, rfl, C1, p1, a1, up_o (by omega)⟩
  · rw [if_neg q]
    by_cases q1 : ((c >>> ((23 : Int32) &&& 31)) &&& (3 : Int32)) = 1
    · rw [if_pos q1]
      exact mv I s C hph ham rfl
    · rw [if_neg q1]
      exact ⟨I, s, rfl, C, hph, ham, rfl⟩
end LWP
