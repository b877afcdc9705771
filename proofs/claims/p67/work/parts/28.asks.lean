/-! WHAT THE PROGRAM ANSWERS, with a tank: by the plan p and the state s -/
def CI (T0 T1 : Nat) (I : gI) (p s : gP) : Prop := LD T0 I p s ∧ I 0 4 = 1 ∧ RU I ∧ ((T0 = 95 ∧ T1 = 116) ∨ (T0 = 116 ∧ T1 = 95)) ∧ (0 ≤ (I 18 2).toInt ∧ (I 18 2).toInt ≤ 8) ∧ (0 ≤ (I 18 1).toInt ∧ (I 18 1).toInt < 8) ∧ (∀ k, k < 4 → I (10 + 1) k = 0 ∨ I (10 + 1) k = 1)
section ASKS
variable {n T0 T1 : Nat} {I : gI} {J : gJ} {p s : gP}
theorem CI.ld (C : CI T0 T1 I p s) : LD T0 I p s := C.1
theorem CI.pv (C : CI T0 T1 I p s) : PV p := C.1.pv
theorem CI.sv (C : CI T0 T1 I p s) : SV p s := C.1.sv
theorem CI.h9 (C : CI T0 T1 I p s) : I 0 4 = 1 := C.2.1
theorem CI.ru (C : CI T0 T1 I p s) : RU I := C.2.2.1
theorem CI.tt (C : CI T0 T1 I p s) : (T0 = 95 ∧ T1 = 116) ∨ (T0 = 116 ∧ T1 = 95) := C.2.2.2.1
theorem CI.hc (C : CI T0 T1 I p s) : 0 ≤ (I 18 2).toInt ∧ (I 18 2).toInt ≤ 8 := C.2.2.2.2.1
theorem CI.ho (C : CI T0 T1 I p s) : 0 ≤ (I 18 1).toInt ∧ (I 18 1).toInt < 8 := C.2.2.2.2.2.1
theorem CI.tb (C : CI T0 T1 I p s) : ∀ k, k < 4 → I (10 + 1) k = 0 ∨ I (10 + 1) k = 1 := C.2.2.2.2.2.2
theorem CI.ck (C : CI T0 T1 I p s) : CK I T0 2 p s := C.ld.ck C.ru
theorem q_tank (C : CI T0 T1 I p s) : F_X9_needTank n T0 T1 I = some (.inr ()) := n_tank1 C.h9
theorem q_src (C : CI T0 T1 I p s) {k : Nat} (hk : k < (p 4).toInt.toNat) : F_X9_needSource n T0 T1 I (Int32.ofNat k) = some (.inr ()) := by
  have := C.pv.c
  rw [n_src C.ld, (src_t C.pv).mpr (by rw [i_of (by omega)]; omega)]; rfl
theorem q_gau (C : CI T0 T1 I p s) {k : Nat} (hk : k < (p 76).toInt.toNat) : F_X9_needGauge n T0 T1 I (Int32.ofNat k) = some (.inr ()) := by
  have := C.pv.ga
  rw [n_gau C.ld, (gau_t C.pv).mpr (by rw [i_of (by omega)]; omega)]; rfl
theorem q_row (C : CI T0 T1 I p s) {y : Int32} (hy : yIn p y) : F_X9_needRow n T0 T1 I y = some (.inr ()) := by
  rw [n_row C.ld, (row_t C.pv).mpr hy]; rfl
theorem q_cel (C : CI T0 T1 I p s) {x y : Int32} (hx : xIn p x) (hy : yIn p y) : F_X9_needCell n T0 T1 I x y = some (.inr ()) := by
  rw [n_cel C.ld, (cel_t C.pv).mpr ⟨hx, hy⟩]; rfl
theorem q_rng (n : Nat) {a l u : Int32} (h : l.toInt ≤ a.toInt ∧ a.toInt ≤ u.toInt) : F_X9_needRange n a l u = some (.inr ()) := by
  rw [n_rng, rng_t.mpr h]; rfl
theorem q_tim (n : Nat) {a : Int32} (h : 1 ≤ a.toInt ∧ a.toInt ≤ 40) : F_X9_needTimes n a = some (.inr ()) := by
  rw [n_tim, (rng_t (l := 1) (u := 40)).mpr h]; rfl
theorem q_tol (n : Nat) {a : Int32} (h : 0 ≤ a.toInt ∧ a.toInt ≤ 9999) : F_X9_needTolerance n a = some (.inr ()) := by
  rw [n_tol, (rng_t (l := 0) (u := 9999)).mpr h]; rfl
theorem q_slo (n : Nat) {a : Int32} (h : 0 ≤ a.toInt ∧ a.toInt ≤ 1) : F_X9_needSlot n a = some (.inr ()) := by
  rw [n_slo, (rng_t (l := 0) (u := 1)).mpr h]; rfl
theorem a_time (C : CI T0 T1 I p s) : F_X9_time n T0 T1 I = some (s 0) := by
  unfold F_X9_time; rw [if_neg (by rw [C.h9]; decide), C.ld.sr.t]
theorem a_open (C : CI T0 T1 I p s) : F_X9_openRows n T0 T1 I = some (.inr (s 1)) := by
  unfold F_X9_openRows; rw [q_tank C, nt_s, C.ld.sr.op]
theorem a_isOpen (C : CI T0 T1 I p s) {y : Int32} (hy : yIn p y) : F_X9_isOpen n T0 T1 I y = some (.inr (b2 (sOpen s y))) := by
  unfold F_X9_isOpen; rw [q_tank C, nt_s, q_row C hy, nt_s, c_open C.ck, bd_s, gd_t (b2_b _)]
theorem a_atX (C : CI T0 T1 I p s) {k : Nat} (hk : k < (p 4).toInt.toNat) {t : Int32} (ht : 0 ≤ t.toInt ∧ t.toInt ≤ 9999) : F_X9_sourceAt n T0 T1 I (Int32.ofNat k) (0 : Int32) t = some (.inr (sCol p s k t)) := by
  unfold F_X9_sourceAt; rw [q_tank C, nt_s, q_src C hk, nt_s, q_rng n ⟨by decide, by decide⟩, nt_s, q_rng n (l := 0) (u := 9999) ht, nt_s, if_pos rfl, c_col C.pv C.ck hk, bd_s]
theorem a_atY (C : CI T0 T1 I p s) {k : Nat} (hk : k < (p 4).toInt.toNat) {t : Int32} (ht : 0 ≤ t.toInt ∧ t.toInt ≤ 9999) : F_X9_sourceAt n T0 T1 I (Int32.ofNat k) (1 : Int32) t = some (.inr (sRow p s k t)) := by
  unfold F_X9_sourceAt; rw [q_tank C, nt_s, q_src C hk, nt_s, q_rng n ⟨by decide, by decide⟩, nt_s, q_rng n (l := 0) (u := 9999) ht, nt_s, if_neg (by decide), c_row C.pv C.ck hk, bd_s]
theorem a_amp (C : CI T0 T1 I p s) {k : Nat} (hk : k < (p 4).toInt.toNat) : F_X9_property n T0 T1 I (Int32.ofNat k) (0 : Int32) = some (.inr (s (6 + k))) := by
  have := C.pv.c
  unfold F_X9_property; rw [q_tank C, nt_s, q_src C hk, nt_s, q_rng n ⟨by decide, by decide⟩, nt_s, if_pos rfl, gv_o (by omega), i_tno (by omega), C.ld.sr.amp k hk]
theorem a_pha (C : CI T0 T1 I p s) {k : Nat} (hk : k < (p 4).toInt.toNat) : F_X9_property n T0 T1 I (Int32.ofNat k) (3 : Int32) = some (.inr (s (10 + k))) := by
  have := C.pv.c
  unfold F_X9_property; rw [q_tank C, nt_s, q_src C hk, nt_s, q_rng n ⟨by decide, by decide⟩, nt_s, if_neg (by decide), if_neg (by decide), if_neg (by decide), if_pos rfl, gv_o (by omega), i_tno (by omega), C.ld.sr.ph k hk]
theorem a_frm (C : CI T0 T1 I p s) {k : Nat} (hk : k < (p 4).toInt.toNat) : F_X9_property n T0 T1 I (Int32.ofNat k) (4 : Int32) = some (.inr (p (13 + k))) := by
  have := C.pv.c
  unfold F_X9_property; rw [q_tank C, nt_s, q_src C hk, nt_s, q_rng n ⟨by decide, by decide⟩, nt_s, if_neg (by decide), if_neg (by decide), if_neg (by decide), if_neg (by decide), if_pos rfl, gv_o (by omega), i_tno (by omega), C.ld.tr.frm k hk]
theorem a_on (C : CI T0 T1 I p s) {k : Nat} (hk : k < (p 4).toInt.toNat) : F_X9_isOn n T0 T1 I (Int32.ofNat k) = some (.inr (s (2 + k))) := by
  have := C.pv.c
  unfold F_X9_isOn; rw [q_tank C, nt_s, q_src C hk, nt_s, gv_o (by omega), i_tno (by omega), C.ld.sr.on k hk, gd_t (C.sv.on k (by omega))]
theorem a_dist (C : CI T0 T1 I p s) {a b : Int32} (ha : 0 ≤ a.toInt ∧ a.toInt ≤ 15) (hb : 0 ≤ b.toInt ∧ b.toInt ≤ 9) : F_X9_distance n T0 T1 I a b = some (.inr (far a b)) := by
  unfold F_X9_distance; rw [q_rng n (l := 0) (u := 15) ha, nt_s, q_rng n (l := 0) (u := 9) hb, nt_s, btw_s n C.ru (by omega) (by omega), bd_s]
theorem a_beh (C : CI T0 T1 I p s) {k : Nat} (hk : k < (p 4).toInt.toNat) {x y : Int32} (hx : xIn p x) (hy : yIn p y) : F_X9_isBehind n T0 T1 I (Int32.ofNat k) x y = some (.inr (b2 (sCut p (sCol p s k (s 0)) x))) := by
  unfold F_X9_isBehind; rw [q_tank C, nt_s, q_src C hk, nt_s, q_cel C hx hy, nt_s, C.ld.sr.t, c_col C.pv C.ck hk, bd_s, c_cut C.ck, bd_s, gd_t (b2_b _)]
theorem a_path (C : CI T0 T1 I p s) {k : Nat} (hk : k < (p 4).toInt.toNat) {x y r : Int32} (hx : xIn p x) (hy : yIn p y) (hr : yIn p r) (hw : p 3 ≠ -1) : F_X9_path n T0 T1 I (Int32.ofNat k) x y r = some (.inr (sThru p (sCol p s k (s 0)) (sRow p s k (s 0)) x y r)) := by
  unfold F_X9_path; rw [q_tank C, nt_s, q_src C hk, nt_s, q_cel C hx hy, nt_s, q_row C hr, nt_s, C.ld.tr.wl, if_neg hw, C.ld.sr.t, c_col C.pv C.ck hk, bd_s, c_row C.pv C.ck hk, bd_s, c_thr C.pv C.ck (sCol_b C.pv s k _) (sRow_b C.pv s k _) hx hy hr, bd_s]
theorem a_short (hn : 2000 ≤ n) (C : CI T0 T1 I p s) {k : Nat} (hk : k < (p 4).toInt.toNat) {x y : Int32} (hx : xIn p x) (hy : yIn p y) : F_X9_shortest n T0 T1 I (Int32.ofNat k) x y = some (.inr (sShort p s k x y (s 0))) := by
  unfold F_X9_shortest; rw [q_tank C, nt_s, q_src C hk, nt_s, q_cel C hx hy, nt_s, c_short hn C.pv C.ck hk hx hy, bd_s]
def sPha (p s : gP) (k : Nat) (x y : Int32) : Int32 := if sShort p s k x y (s 0) = -1 then -1 else sAng p k (s (10 + k)) (sShort p s k x y (s 0)) (s 0)
theorem a_phase (hn : 2000 ≤ n) (C : CI T0 T1 I p s) {k : Nat} (hk : k < (p 4).toInt.toNat) {x y : Int32} (hx : xIn p x) (hy : yIn p y) : F_X9_phase n T0 T1 I (Int32.ofNat k) x y = some (.inr (sPha p s k x y)) := by
  have := C.pv.c
  unfold F_X9_phase sPha; rw [q_tank C, nt_s, q_src C hk, nt_s, q_cel C hx hy, nt_s, c_short hn C.pv C.ck hk hx hy, bd_s]
  by_cases h : sShort p s k x y (s 0) = -1
  · rw [if_pos h, if_pos h]
  · rw [if_neg h, if_neg h, gv_o (by omega), gv_o (by omega), i_tno (by omega), C.ld.sr.ph k hk, C.ld.sr.t, c_ang C.pv C.ck hk, bd_s]
theorem a_arr (hn : 2000 ≤ n) (C : CI T0 T1 I p s) {k : Nat} (hk : k < (p 4).toInt.toNat) {x y : Int32} (hx : xIn p x) (hy : yIn p y) : F_X9_arrival n T0 T1 I (Int32.ofNat k) x y = some (.inr (sArr p s k x y)) := by
  unfold F_X9_arrival; rw [q_tank C, nt_s, q_src C hk, nt_s, q_cel C hx hy, nt_s, c_arr hn C.pv C.ck hk hx hy, bd_s]
theorem a_part (hn : 2000 ≤ n) (C : CI T0 T1 I p s) {k : Nat} (hk : k < (p 4).toInt.toNat) {x y : Int32} (hx : xIn p x) (hy : yIn p y) : F_X9_part n T0 T1 I (Int32.ofNat k) x y = some (.inr (sPart p s k x y (s 0))) := by
  unfold F_X9_part; rw [q_tank C, nt_s, q_src C hk, nt_s, q_cel C hx hy, nt_s, C.ld.sr.t, c_part hn C.pv C.sv C.ck hk hx hy, bd_s]
theorem a_wave (hn : 2000 ≤ n) (C : CI T0 T1 I p s) {x y : Int32} (hx : xIn p x) (hy : yIn p y) : F_X9_wave n T0 T1 I x y = some (.inr (sWave p s x y (s 0))) := by
  unfold F_X9_wave; rw [q_tank C, nt_s, q_cel C hx hy, nt_s, C.ld.sr.t, c_wave hn C.pv C.sv C.ck hx hy, bd_s]
theorem a_waveAt (hn : 2000 ≤ n) (C : CI T0 T1 I p s) {x y t : Int32} (hx : xIn p x) (hy : yIn p y) (ht : 0 ≤ t.toInt ∧ t.toInt ≤ 9999) : F_X9_waveAt n T0 T1 I x y t = some (.inr (sWave p s x y t)) := by
  unfold F_X9_waveAt; rw [q_tank C, nt_s, q_cel C hx hy, nt_s, q_rng n (l := 0) (u := 9999) ht, nt_s, c_wave hn C.pv C.sv C.ck hx hy, bd_s]
theorem a_gauX (C : CI T0 T1 I p s) {g : Nat} (hg : g < (p 76).toInt.toNat) : F_X9_gaugeAt n T0 T1 I (Int32.ofNat g) (0 : Int32) = some (.inr (p (77 + 2 * g))) := by
  have := C.pv.ga
  unfold F_X9_gaugeAt; rw [q_tank C, nt_s, q_gau C hg, nt_s, q_rng n ⟨by decide, by decide⟩, nt_s, if_pos rfl, gv_o (by omega), i_tno (by omega), C.ld.tr.gx g hg]
theorem a_gauY (C : CI T0 T1 I p s) {g : Nat} (hg : g < (p 76).toInt.toNat) : F_X9_gaugeAt n T0 T1 I (Int32.ofNat g) (1 : Int32) = some (.inr (p (77 + 2 * g + 1))) := by
  have := C.pv.ga
  unfold F_X9_gaugeAt; rw [q_tank C, nt_s, q_gau C hg, nt_s, q_rng n ⟨by decide, by decide⟩, nt_s, if_neg (by decide), gv_o (by omega), i_tno (by omega), C.ld.tr.gy g hg]
theorem a_isNode (hn : 2000 ≤ n) (C : CI T0 T1 I p s) {x y m tol : Int32} (hx : xIn p x) (hy : yIn p y) (hm : 1 ≤ m.toInt ∧ m.toInt ≤ 40) (ht : 0 ≤ tol.toInt ∧ tol.toInt ≤ 9999) : F_X9_isNode n T0 T1 I x y m tol = some (.inr (b2 (sCalm p s x y m tol))) := by
  unfold F_X9_isNode; rw [q_tank C, nt_s, q_cel C hx hy, nt_s, q_tim n hm, nt_s, q_tol n ht, nt_s, c_calm hn C.pv C.sv C.ck hx hy (by omega) (by omega), bd_s, gd_t (b2_b _)]
theorem a_nodes (hn : 2000 ≤ n) (C : CI T0 T1 I p s) {m tol : Int32} (hm : 1 ≤ m.toInt ∧ m.toInt ≤ 40) (ht : 0 ≤ tol.toInt ∧ tol.toInt ≤ 9999) : F_X9_nodes n T0 T1 I m tol = some (.inr (cnt (nd9 p s m tol) (nC p))) := by
  unfold F_X9_nodes; rw [q_tank C, nt_s, q_tim n hm, nt_s, q_tol n ht, nt_s, c_count hn C.pv C.sv C.ck (by omega) (by omega), bd_s]
theorem a_energy (hn : 2000 ≤ n) (C : CI T0 T1 I p s) {x y m : Int32} (hx : xIn p x) (hy : yIn p y) (hm : 1 ≤ m.toInt ∧ m.toInt ≤ 40) : F_X9_energy n T0 T1 I x y m = some (.inr (sEner p s x y m)) := by
  unfold F_X9_energy; rw [q_tank C, nt_s, q_cel C hx hy, nt_s, q_tim n hm, nt_s, c_ener hn C.pv C.sv C.ck hx hy (by omega) (by omega), bd_s]
theorem a_rowE (hn : 2000 ≤ n) (C : CI T0 T1 I p s) {y m : Int32} (hy : yIn p y) (hm : 1 ≤ m.toInt ∧ m.toInt ≤ 40) : F_X9_rowEnergy n T0 T1 I y m = some (.inr (lp (fun x a => a + sEner p s (Int32.ofNat x) y m) (p 0).toInt.toNat 0 0)) := by
  have hw := C.pv.w
  have key : ∀ (d x j : Nat) (a : Int64), x + d = (p 0).toInt.toNat → d < j → L_X9_rowEnergy n T0 T1 I y m j 0 a (Int32.ofNat x) = some (.inr (lp (fun x a => a + sEner p s (Int32.ofNat x) y m) d x a)) := by
    intro d
    induction d with
    | zero =>
      intro x j a hx hj
      obtain ⟨j, rfl⟩ : ∃ i, j = i + 1 := ⟨j - 1, by omega⟩
      rw [L_X9_rowEnergy_e0, C.ld.tr.w, if_pos (by rw [i_le, i_of (by omega)]; omega)]
      rfl
    | succ d ih =>
      intro x j a hx hj
      obtain ⟨j, rfl⟩ : ∃ i, j = i + 1 := ⟨j - 1, by omega⟩
      have hx' : xIn p (Int32.ofNat x) := by unfold xIn; rw [i_of (by omega)]; omega
      rw [L_X9_rowEnergy_e0, C.ld.tr.w, if_neg (by rw [i_le, i_of (by omega)]; omega), c_ener hn C.pv C.sv C.ck hx' hy (by omega) (by omega), bd_s, ixp_1, lp_s]
      exact ih (x + 1) j _ (by omega) (by omega)
  unfold F_X9_rowEnergy
  rw [q_tank C, nt_s, q_row C hy, nt_s, q_tim n hm, nt_s]
  exact key (p 0).toInt.toNat 0 n 0 (by omega) (by omega)
theorem a_allE (hn : 2000 ≤ n) (C : CI T0 T1 I p s) {m : Int32} (hm : 1 ≤ m.toInt ∧ m.toInt ≤ 40) : ∃ J', F_X9_allEnergy n T0 T1 I J m = some (.inr (lp (fun c a => a + eC p s m c) (nC p) 0 0, J')) := by
  have hN := nC_b C.pv
  obtain ⟨J', e, -, hJ⟩ := c_fillE (n := n) (T1 := T1) (J := J) hn C.ld C.ru (m := m) (by omega) (by omega)
  have key : ∀ (d c j : Nat) (a : Int64), c + d = nC p → d < j → L_X9_allEnergy n T0 T1 I m j 0 a (Int32.ofNat c) J' = some (.inr (lp (fun c a => a + eC p s m c) d c a, J')) := by
    intro d
    induction d with
    | zero =>
      intro c j a hc hj
      obtain ⟨j, rfl⟩ : ∃ i, j = i + 1 := ⟨j - 1, by omega⟩
      rw [L_X9_allEnergy_e0, c_cells C.pv C.ck, bd_s, if_pos (by rw [i_ole (by omega) (by omega)]; omega)]
      rfl
    | succ d ih =>
      intro c j a hc hj
      obtain ⟨j, rfl⟩ : ∃ i, j = i + 1 := ⟨j - 1, by omega⟩
      rw [L_X9_allEnergy_e0, c_cells C.pv C.ck, bd_s, if_neg (by rw [i_ole (by omega) (by omega)]; omega), gv_o (by omega), i_tno (by omega), hJ c (by omega), ixp_1, lp_s]
      exact ih (c + 1) j _ (by omega) (by omega)
  refine ⟨J', ?_⟩
  unfold F_X9_allEnergy
  rw [q_tank C, nt_s, q_tim n hm, nt_s, e, bd_s]
  exact key (nC p) 0 n 0 (by omega) (by omega)
/-- whether an energy has a share of the greatest -/
def shr (e : Int64) (share : Int32) (g : Int64) : Bool := decide (¬ lg_cmp e 0 ≤ 0 ∧ ¬ lg_cmp (100 * e) (share.toInt64 * g) < 0)
theorem has_s (n : Nat) (e : Int64) (share : Int32) (g : Int64) : F_X9_hasShare n e share g = some (b2 (shr e share g)) := by
  unfold F_X9_hasShare shr
  by_cases h1 : lg_cmp e 0 ≤ 0
  · rw [if_pos h1, decide_eq_false (fun q => q.1 h1)]; rfl
  · rw [if_neg h1]
    by_cases h2 : lg_cmp (100 * e) (share.toInt64 * g) < 0
    · rw [if_pos h2, decide_eq_false (fun q => q.2 h2)]; rfl
    · rw [if_neg h2, decide_eq_true ⟨h1, h2⟩]; rfl
theorem a_marks (hn : 2000 ≤ n) (C : CI T0 T1 I p s) {m sh : Int32} (hm : 1 ≤ m.toInt ∧ m.toInt ≤ 40) (hs : 1 ≤ sh.toInt ∧ sh.toInt ≤ 100) : ∃ J', F_X9_marks n T0 T1 I J m sh = some (.inr (cnt (fun c => shr (eC p s m c) sh (eMax p s m)) (nC p), J')) := by
  have hN := nC_b C.pv
  obtain ⟨J', e, -, hJ⟩ := c_fillE (n := n) (T1 := T1) (J := J) hn C.ld C.ru (m := m) (by omega) (by omega)
  have key : ∀ (d c j : Nat) (a : Int32), c + d = nC p → d < j → L_X9_marks n T0 T1 I m sh j 0 (eMax p s m) a (Int32.ofNat c) J' = some (.inr (lp (fun k a => if shr (eC p s m k) sh (eMax p s m) then a + 1 else a) d c a, J')) := by
    intro d
    induction d with
    | zero =>
      intro c j a hc hj
      obtain ⟨j, rfl⟩ : ∃ i, j = i + 1 := ⟨j - 1, by omega⟩
      rw [L_X9_marks_e0, c_cells C.pv C.ck, bd_s, if_pos (by rw [i_ole (by omega) (by omega)]; omega)]
      rfl
    | succ d ih =>
      intro c j a hc hj
      obtain ⟨j, rfl⟩ : ∃ i, j = i + 1 := ⟨j - 1, by omega⟩
      rw [L_X9_marks_e0, c_cells C.pv C.ck, bd_s, if_neg (by rw [i_ole (by omega) (by omega)]; omega), gv_o (by omega), i_tno (by omega), hJ c (by omega), has_s, bd_s, ixp_1, lp_s]
      cases shr (eC p s m c) sh (eMax p s m)
      · rw [if_pos (show b2 false = 0 from rfl), if_neg (show ¬ (false = true) by decide)]
        exact ih (c + 1) j _ (by omega) (by omega)
      · rw [if_neg (show ¬ b2 true = 0 by decide), if_pos (show true = true from rfl)]
        exact ih (c + 1) j _ (by omega) (by omega)
  refine ⟨J', ?_⟩
  unfold F_X9_marks
  rw [q_tank C, nt_s, q_tim n hm, nt_s, q_rng n (l := 1) (u := 100) hs, nt_s, e, bd_s, c_great hn C.ld C.ru hJ, bd_s]
  exact key (nC p) 0 n 0 (by omega) (by omega)
theorem a_isMark (hn : 2000 ≤ n) (C : CI T0 T1 I p s) {x y m sh : Int32} (hx : xIn p x) (hy : yIn p y) (hm : 1 ≤ m.toInt ∧ m.toInt ≤ 40) (hs : 1 ≤ sh.toInt ∧ sh.toInt ≤ 100) : ∃ J', F_X9_isMark n T0 T1 I J x y m sh = some (.inr (b2 (shr (sEner p s x y m) sh (eMax p s m)), J')) := by
  have hN := nC_b C.pv
  have hw := C.pv.w
  have hh := C.pv.h
  obtain ⟨J', e, -, hJ⟩ := c_fillE (n := n) (T1 := T1) (J := J) hn C.ld C.ru (m := m) (by omega) (by omega)
  obtain ⟨X, hX⟩ : ∃ X, X = x.toInt.toNat := ⟨_, rfl⟩
  obtain ⟨Y, hY⟩ : ∃ Y, Y = y.toInt.toNat := ⟨_, rfl⟩
  unfold xIn at hx
  unfold yIn at hy
  have ex : x = Int32.ofNat X := by rw [hX, i_on hx.1]
  have ey : y = Int32.ofNat Y := by rw [hY, i_on hy.1]
  have ew : p 0 = Int32.ofNat (p 0).toInt.toNat := (i_on (by omega)).symm
  have hc : (p 0).toInt.toNat * Y + X < nC p := by
    have h1 : (p 0).toInt.toNat * Y + X < (p 0).toInt.toNat * (Y + 1) := by rw [Nat.mul_succ]; omega
    have h2 : (p 0).toInt.toNat * (Y + 1) ≤ (p 0).toInt.toNat * (p 1).toInt.toNat := Nat.mul_le_mul_left _ (by omega)
    unfold nC; omega
  have ec : y * p 0 + x = Int32.ofNat ((p 0).toInt.toNat * Y + X) := by
    rw [ex, ey]
    conv => lhs; rw [ew]
    rw [i_omul, i_oadd, Nat.mul_comm Y]
  have ck := cell_k (W := (p 0).toInt.toNat) (y := Y) (x := X) (by omega)
  have eE : eC p s m ((p 0).toInt.toNat * Y + X) = sEner p s x y m := by
    unfold eC; rw [ck.1, ck.2, ex, ey]
  refine ⟨J', ?_⟩
  unfold F_X9_isMark F_X7_cellNumber
  rw [q_tank C, nt_s, q_cel C (by unfold xIn; omega) (by unfold yIn; omega), nt_s, q_tim n hm, nt_s, q_rng n (l := 1) (u := 100) hs, nt_s, e, bd_s, bd_s, C.ld.tr.w, ec, gv_o (by omega), i_tno (by omega), c_great hn C.ld C.ru hJ, bd_s, hJ _ hc, eE, has_s, bd_s, gd_t (b2_b _)]
end ASKS
