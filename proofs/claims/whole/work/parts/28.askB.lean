section FACEB
variable {n T0 T1 : Nat} {I K : gI}
theorem e_time (R : Rel T0 T1 I K) : AN (F_X9_time n T0 T1 I) (F_X10_time n K) (fun v b => v = b.1 ∧ Tt K 0 b.2) := by
  unfold F_X9_time F_X10_time
  rcases R.ld with ⟨h9, h10⟩ | ⟨h9, h10, L⟩
  · rw [if_pos h9, told0 h10, bd_s]
    exact ⟨0, _, rfl, rfl, rfl, Tt.r 0⟩
  · rw [if_neg (by rw [h9]; decide), told1 h10, bd_s]
    exact ⟨_, _, rfl, rfl, L.sr.t, Tt.r 0⟩
theorem e_width (R : Rel T0 T1 I K) : AN (F_X9_width n T0 T1 I) (F_X10_width n K) (fun v b => v = b.1 ∧ Tt K 0 b.2) := by
  unfold F_X9_width F_X10_width
  rcases R.ld with ⟨h9, h10⟩ | ⟨h9, h10, L⟩
  · rw [if_pos h9, told0 h10, bd_s]
    exact ⟨0, _, rfl, rfl, rfl, Tt.r 0⟩
  · rw [if_neg (by rw [h9]; decide), told1 h10, bd_s]
    exact ⟨_, _, rfl, rfl, L.tr.w, Tt.r 0⟩
theorem e_height (R : Rel T0 T1 I K) : AN (F_X9_height n T0 T1 I) (F_X10_height n K) (fun v b => v = b.1 ∧ Tt K 0 b.2) := by
  unfold F_X9_height F_X10_height
  rcases R.ld with ⟨h9, h10⟩ | ⟨h9, h10, L⟩
  · rw [if_pos h9, told0 h10, bd_s]
    exact ⟨0, _, rfl, rfl, rfl, Tt.r 0⟩
  · rw [if_neg (by rw [h9]; decide), told1 h10, bd_s]
    exact ⟨_, _, rfl, rfl, L.tr.h, Tt.r 0⟩
theorem e_sources (R : Rel T0 T1 I K) : AN (F_X9_sources n T0 T1 I) (F_X10_sources n K) (fun v b => v = b.1 ∧ Tt K 0 b.2) := by
  unfold F_X9_sources F_X10_sources
  rcases R.ld with ⟨h9, h10⟩ | ⟨h9, h10, L⟩
  · rw [if_pos h9, told0 h10, bd_s]
    exact ⟨0, _, rfl, rfl, rfl, Tt.r 0⟩
  · rw [if_neg (by rw [h9]; decide), told1 h10, bd_s]
    exact ⟨_, _, rfl, rfl, L.tr.c, Tt.r 0⟩
theorem e_gauges (R : Rel T0 T1 I K) : AN (F_X9_gauges n T0 T1 I) (F_X10_gauges n K) (fun v b => v = b.1 ∧ Tt K 0 b.2) := by
  unfold F_X9_gauges F_X10_gauges
  rcases R.ld with ⟨h9, h10⟩ | ⟨h9, h10, L⟩
  · rw [if_pos h9, told0 h10, bd_s]
    exact ⟨0, _, rfl, rfl, rfl, Tt.r 0⟩
  · rw [if_neg (by rw [h9]; decide), told1 h10, bd_s]
    exact ⟨_, _, rfl, rfl, L.tr.gc, Tt.r 0⟩
theorem e_parseError (R : Rel T0 T1 I K) : AN (F_X9_parseError n T0 T1 I) (F_X10_parseError n K) (fun v b => v = b.1 ∧ Tt K 0 b.2) := by
  unfold F_X9_parseError F_X10_parseError
  refine ⟨_, _, rfl, rfl, ?_, Tt.r 0⟩
  dsimp only
  rw [sI_k (by decide)]; exact R.ec
theorem e_errorPosition (R : Rel T0 T1 I K) : AN (F_X9_errorPosition n T0 T1 I) (F_X10_errorPosition n K) (fun v b => v = b.1 ∧ Tt K 0 b.2) := by
  unfold F_X9_errorPosition F_X10_errorPosition
  refine ⟨_, _, rfl, rfl, ?_, Tt.r 0⟩
  dsimp only
  rw [sI_k (by decide)]; exact R.ep
theorem e_buffered (R : Rel T0 T1 I K) : AN (F_X9_buffered n T0 T1 I) (F_X10_buffered n K) (fun v b => v = b.1 ∧ Tt K 0 b.2) := by
  unfold F_X9_buffered F_X10_buffered
  refine ⟨_, _, rfl, rfl, ?_, Tt.r 0⟩
  dsimp only
  rw [sI_k (by decide)]; exact R.bn
theorem e_undoable (R : Rel T0 T1 I K) : AN (F_X9_undoable n T0 T1 I) (F_X10_undoable n K) (fun v b => v = b.1 ∧ Tt K 0 b.2) := by
  unfold F_X9_undoable F_X10_undoable
  refine ⟨_, _, rfl, rfl, ?_, Tt.r 0⟩
  dsimp only
  rw [sI_k (by decide)]; exact R.hc
theorem e_sine (R : Rel T0 T1 I K) (a1 : Int32) : AG (F_X9_sine n T0 T1 a1) (F_X10_sine n K a1) (fun v b => v = b.1 ∧ Tt K 0 b.2) (fun E b => Tt K (thC E) b.2) := by
  unfold F_X9_sine F_X10_sine
  simp only [n_rng, nd_s, x_in, bd_s, sI_self]
  cases g : rng a1 0 359
  · exact AG.er rfl rfl (Tt.r 1)
  · have h := rng_t.mp g
    have c0 : (0 : Int32).toInt = 0 := rfl
    have c1 : (359 : Int32).toInt = 359 := rfl
    have q := sin_at (a := a1) (by omega) (by omega) n
    rw [q.1, q.2.1]
    simp only [b2_tv, e10, if_true, if_false, bd_s]
    exact AG.ok (a := sSin a1) (b := (sSin a1, sI K 153 0 0)) rfl rfl ⟨rfl, Tt.r 0⟩
theorem e_distance (hn : 2000 ≤ n) (R : Rel T0 T1 I K) (a1 a2 : Int32) : AG (F_X9_distance n T0 T1 I a1 a2) (F_X10_distance n K a1 a2) (fun v b => v = b.1 ∧ Tt K 0 b.2) (fun E b => Tt K (thC E) b.2) := by
  unfold F_X9_distance F_X10_distance
  simp only [n_rng, nd_s, x_in, bd_s, sI_self]
  cases g : rng a1 0 15
  · exact AG.er rfl rfl (Tt.r 1)
  · cases g2 : rng a2 0 9
    · exact AG.er rfl rfl (Tt.r 1)
    · have h := rng_t.mp g
      have h2 := rng_t.mp g2
      have c0 : (0 : Int32).toInt = 0 := rfl
      have c1 : (15 : Int32).toInt = 15 := rfl
      have c2 : (9 : Int32).toInt = 9 := rfl
      have hn' : 1000 ≤ n := by omega
      obtain ⟨K', e, q⟩ := far_s hn' (R.tv.th 0) (a1 := a1) (a2 := a2) (by omega) (by omega)
      rw [btw_s n R.ru (by omega) (by omega)]
      simp only [b2_tv, e10, eq_self, if_true, if_false, bd_s]
      rw [e]
      simp only [bd_s]
      generalize far a1 a2 = v
      exact AG.ok (a := v) (b := (v, K')) rfl rfl ⟨rfl, q⟩
theorem e_textByte (R : Rel T0 T1 I K) (a1 : Int32) : AG (F_X9_textByte n T0 T1 I a1) (F_X10_textByte n K a1) (fun v b => v = b.1 ∧ Tt K 0 b.2) (fun E b => Tt K (thC E) b.2) := by
  have hp := R.p0
  have hpn := R.pn
  unfold F_X9_textByte F_X10_textByte
  simp only [x_in, bd_s, sI_self]
  rw [← hpn]
  have c0 : (0 : Int32).toInt = 0 := rfl
  have e1 : (I 86 1 - 1).toInt = (I 86 1).toInt - 1 := i_m1 (by omega)
  by_cases h1 : a1 < 0
  · have g : rng a1 0 (I 86 1 - 1) = false := by
      cases g : rng a1 0 (I 86 1 - 1)
      · rfl
      · have := rng_t.mp g; rw [i_lt] at h1; omega
    rw [if_pos h1, g]
    exact AG.er (E := IOB) rfl rfl (Tt.r 1)
  · rw [if_neg h1]
    rw [i_lt] at h1
    by_cases h2 : a1 < I 86 1
    · have g : rng a1 0 (I 86 1 - 1) = true := by rw [rng_t]; rw [i_lt] at h2; omega
      rw [i_lt] at h2
      rw [if_pos (by rw [i_lt]; omega), g, gv_t (by omega) (by show a1.toInt < 256; omega)]
      simp only [b2_tv, e10, if_true, if_false, bd_s]
      rw [gv_t (by omega) (by show a1.toInt < 200; omega)]
      refine AG.ok (b := ((sI K 153 0 0) (153 + 16) a1.toNatClampNeg, sI K 153 0 0)) rfl rfl ⟨?_, Tt.r 0⟩
      have := R.pb a1.toInt.toNat (by omega)
      dsimp only
      rw [sI_o (by decide)]
      exact this
    · have g : rng a1 0 (I 86 1 - 1) = false := by
        cases g : rng a1 0 (I 86 1 - 1)
        · rfl
        · have := rng_t.mp g; rw [i_lt] at h2; omega
      rw [if_neg h2, g]
      exact AG.er (E := IOB) rfl rfl (Tt.r 1)
theorem e_property (R : Rel T0 T1 I K) (a1 a2 : Int32) : AG (F_X9_property n T0 T1 I a1 a2) (F_X10_property n K a1 a2) (fun v b => v = b.1 ∧ Tt K 0 b.2) (fun E b => Tt K (thA E) b.2) := by
  rcases R.ld with ⟨h9, h10⟩ | ⟨h9, h10, L⟩
  · refine AG.er (E := ISE) (b := (0, sI K 153 0 1)) ?_ ?_ (Tt.r 1)
    · unfold F_X9_property; rw [n_tank0 h9]; rfl
    · unfold F_X10_property
      simp only [x_src, bd_s]
      cases src (pl K) a1 <;> simp only [b2_tv, b2_fv, e10, if_true, if_false, bd_s, ask0 h10]
  unfold F_X9_property F_X10_property
  simp only [n_tank1 h9, nt_s, n_src L, n_rng, nd_s, x_src, bd_s]
  cases g0 : src (pl K) a1
  · exact AG.er (E := IOB) rfl (by simp only [b2_fv, bd_s, ask2 h10]; rfl) (Tt.r 2)
  simp only [b2_tv, e10, if_false, bd_s, ask1 h10]
  have M := L.mk' (Tt.r 0) R.tv
  obtain ⟨k, hk, hk4, rfl⟩ := src_k L.pv g0
  have c0 : (0 : Int32).toInt = 0 := rfl
  have c5 : (5 : Int32).toInt = 5 := rfl
  simp (disch := omega) only [ix_6, ix_5, ix_9, ix_10, ix_13, ix_17, gv_k, i_tno, M.hp, M.hs]
  by_cases d0 : a2 = 0
  · subst d0; exact AG.ok rfl rfl ⟨L.sr.amp k hk, Tt.r 0⟩
  by_cases d1 : a2 = 1
  · subst d1; exact AG.ok rfl rfl ⟨L.tr.len k hk, Tt.r 0⟩
  by_cases d2 : a2 = 2
  · subst d2; exact AG.ok rfl rfl ⟨L.tr.per k hk, Tt.r 0⟩
  by_cases d3 : a2 = 3
  · subst d3; exact AG.ok rfl rfl ⟨L.sr.ph k hk, Tt.r 0⟩
  by_cases d4 : a2 = 4
  · subst d4; exact AG.ok rfl rfl ⟨L.tr.frm k hk, Tt.r 0⟩
  by_cases d5 : a2 = 5
  · subst d5; exact AG.ok rfl rfl ⟨L.tr.unt k hk, Tt.r 0⟩
  simp only [if_neg d0, if_neg d1, if_neg d2, if_neg d3, if_neg d4, if_neg d5]
  have g : rng a2 0 5 = false := by
    cases g : rng a2 0 5
    · rfl
    · exfalso
      have h := rng_t.mp g
      have f : ∀ c : Int32, ¬ a2 = c → a2.toInt ≠ c.toInt := fun c h q => h (i_eq.mpr q)
      have f0 := f 0 d0
      have f1 := f 1 d1
      have f2 := f 2 d2
      have f3 := f 3 d3
      have f4 := f 4 d4
      have f5 := f 5 d5
      have k1 : (1 : Int32).toInt = 1 := rfl
      have k2 : (2 : Int32).toInt = 2 := rfl
      have k3 : (3 : Int32).toInt = 3 := rfl
      have k4 : (4 : Int32).toInt = 4 := rfl
      omega
  rw [g]
  refine AG.er (E := IAE) (b := (0, sI (sI K 153 0 0) 153 0 3)) rfl rfl ?_
  have : sI (sI K 153 0 0) 153 0 3 = sI K 153 0 3 := by
    funext o i
    simp only [sI_get]
    by_cases h : o = 153 ∧ i = 0
    · rw [if_pos h, if_pos h]
    · rw [if_neg h, if_neg h, if_neg h]
  dsimp only
  rw [this]
  exact Tt.r 3
/-! loops over cells -/
theorem lp_add {α : Type} (g : Nat → α → α) : ∀ (a b k : Nat) (x : α), lp g (a + b) k x = lp g b (k + a) (lp g a k x)
  | 0, b, k, x => by rw [Nat.zero_add]; rfl
  | a + 1, b, k, x => by
    rw [show a + 1 + b = (a + b) + 1 by omega, lp_s, lp_s, lp_add g a b (k + 1)]
    rw [show k + 1 + a = k + (a + 1) by omega]
/-- the number of the cells of which P holds -/
def cnt (P : Nat → Bool) (N : Nat) : Int32 := lp (fun k a => if P k then a + 1 else a) N 0 0
theorem cell_x {p : gP} (hp : PV p) {k : Nat} (hk : k < (p 0).toInt.toNat * (p 1).toInt.toNat) : (p 0 ≠ 0) ∧ k < 160 ∧ xIn p (Int32.ofNat (k % (p 0).toInt.toNat)) ∧ yIn p (Int32.ofNat (k / (p 0).toInt.toNat)) ∧ Int32.ofNat k - Int32.ofNat k / p 0 * p 0 = Int32.ofNat (k % (p 0).toInt.toNat) ∧ Int32.ofNat k / p 0 = Int32.ofNat (k / (p 0).toInt.toNat) := by
  have hw := hp.w
  have hh := hp.h
  have ew : p 0 = Int32.ofNat (p 0).toInt.toNat := (i_on (by omega)).symm
  have h1 : (p 0).toInt.toNat * (p 1).toInt.toNat ≤ 16 * 10 := Nat.mul_le_mul (by omega) (by omega)
  have h2 : k % (p 0).toInt.toNat < (p 0).toInt.toNat := Nat.mod_lt _ (by omega)
  have h3 : k / (p 0).toInt.toNat < (p 1).toInt.toNat := Nat.div_lt_of_lt_mul hk
  have hk' : k < 160 := by omega
  refine ⟨fun q => ?_, by omega, ?_, ?_, ?_, ?_⟩
  · rw [q] at hw; exact absurd hw.1 (by decide)
  · unfold xIn; rw [i_of (by omega)]; omega
  · unfold yIn
    obtain ⟨q, hq⟩ : ∃ q, q = k / (p 0).toInt.toNat := ⟨_, rfl⟩
    rw [← hq] at h3 ⊢
    rw [i_of (by omega)]; omega
  · conv => lhs; rw [ew]
    exact i_omod (by omega) (by omega)
  · conv => lhs; rw [ew]
    exact i_odiv (by omega) (by omega)
theorem cells_e {p : gP} (hp : PV p) : p 0 * p 1 = Int32.ofNat ((p 0).toInt.toNat * (p 1).toInt.toNat) ∧ (p 0).toInt.toNat * (p 1).toInt.toNat ≤ 160 := by
  have hw := hp.w
  have hh := hp.h
  have h1 : (p 0).toInt.toNat * (p 1).toInt.toNat ≤ 16 * 10 := Nat.mul_le_mul (by omega) (by omega)
  refine ⟨?_, h1⟩
  rw [← i_omul, i_on (by omega), i_on (by omega)]
theorem cell_k {W y x : Nat} (h : x < W) : (W * y + x) % W = x ∧ (W * y + x) / W = y := by
  refine ⟨?_, ?_⟩
  · rw [Nat.mul_add_mod]; exact Nat.mod_eq_of_lt h
  · rw [Nat.mul_add_div (by omega), Nat.div_eq_of_lt h]; rfl
theorem e_reached (hn : 2000 ≤ n) (R : Rel T0 T1 I K) (a1 : Int32) : AG (F_X9_reached n T0 T1 I a1) (F_X10_reached n K a1) (fun v b => v = b.1 ∧ Tt K 0 b.2) (fun E b => Tt K (thA E) b.2) := by
  rcases R.ld with ⟨h9, h10⟩ | ⟨h9, h10, L⟩
  · refine AG.er (E := ISE) (b := (0, sI K 153 0 1)) ?_ ?_ (Tt.r 1)
    · unfold F_X9_reached; rw [n_tank0 h9]; rfl
    · unfold F_X10_reached
      simp only [x_src, bd_s]
      cases src (pl K) a1 <;> simp only [b2_tv, b2_fv, e10, if_true, if_false, bd_s, ask0 h10, askF0 h10]
  unfold F_X9_reached F_X10_reached
  simp only [n_tank1 h9, nt_s, n_src L, nd_s, x_src, bd_s]
  cases g0 : src (pl K) a1
  · refine AG.er (E := IOB) (b := (0, sI K 153 0 2)) ?_ ?_ (Tt.r 2)
    · rfl
    · simp only [b2_tv, b2_fv, e10, if_true, if_false, bd_s, ask2 h10, askF2 h10, askF3 h10]
  simp only [b2_tv, b2_fv, e10, if_true, if_false, bd_s, ask1 h10, askF1 h10]
  have M := L.mk' (Tt.r 0) R.tv
  have C := L.ck R.ru
  obtain ⟨k, hk, hk4, rfl⟩ := src_k L.pv g0
  have hw := L.pv.w
  have hh := L.pv.h
  have hfr := L.pv.frm k hk
  have hper := L.pv.per k hk
  have hlen := L.pv.len k hk
  obtain ⟨W, hW⟩ : ∃ W, W = (pl K 0).toInt.toNat := ⟨_, rfl⟩
  obtain ⟨H, hH⟩ : ∃ H, H = (pl K 1).toInt.toNat := ⟨_, rfl⟩
  have P := fun c : Nat => decide (sArr (pl K) (st K) k (Int32.ofNat (c % W)) (Int32.ofNat (c / W)) ≠ -1 ∧ sArr (pl K) (st K) k (Int32.ofNat (c % W)) (Int32.ofNat (c / W)) ≤ st K 0)
  have hN : W * H ≤ 160 := by rw [hW, hH]; exact (cells_e L.pv).2
  -- the program
  have k9 : ∀ (d y j : Nat) (a : Int32), y + d = H → d * (W + 2) + 1 ≤ j → L_X9_reached n T0 T1 I (Int32.ofNat k) j 0 a (Int32.ofNat y) 0 = some (.inr (lp (fun c a => if decide (sArr (pl K) (st K) k (Int32.ofNat (c % W)) (Int32.ofNat (c / W)) ≠ -1 ∧ sArr (pl K) (st K) k (Int32.ofNat (c % W)) (Int32.ofNat (c / W)) ≤ st K 0) then a + 1 else a) (W * d) (W * y) a)) := by
    intro d
    induction d with
    | zero =>
      intro y j a hy hj
      obtain ⟨j, rfl⟩ : ∃ i, j = i + 1 := ⟨j - 1, by omega⟩
      rw [L_X9_reached_e0, L.tr.h, if_pos (by rw [i_le, i_of (by omega)]; omega)]
      rfl
    | succ d ih =>
      intro y j a hy hj
      have e1 : (d + 1) * (W + 2) = d * (W + 2) + (W + 2) := Nat.succ_mul _ _
      obtain ⟨j, rfl⟩ : ∃ i, j = i + 1 := ⟨j - 1, by omega⟩
      rw [L_X9_reached_e0, L.tr.h, if_neg (by rw [i_le, i_of (by omega)]; omega)]
      have inner : ∀ (e x j : Nat) (a : Int32), x + e = W → e + 1 + (d * (W + 2) + 1) ≤ j → L_X9_reached n T0 T1 I (Int32.ofNat k) j 1 a (Int32.ofNat y) (Int32.ofNat x) = some (.inr (lp (fun c a => if decide (sArr (pl K) (st K) k (Int32.ofNat (c % W)) (Int32.ofNat (c / W)) ≠ -1 ∧ sArr (pl K) (st K) k (Int32.ofNat (c % W)) (Int32.ofNat (c / W)) ≤ st K 0) then a + 1 else a) (e + W * d) (W * y + x) a)) := by
        intro e
        induction e with
        | zero =>
          intro x j a hx hj
          obtain ⟨j, rfl⟩ : ∃ i, j = i + 1 := ⟨j - 1, by omega⟩
          rw [L_X9_reached_e1, L.tr.w, if_pos (by rw [i_le, i_of (by omega)]; omega), ixp_1, ih (y + 1) j a (by omega) (by omega), Nat.zero_add, show W * (y + 1) = W * y + x by rw [Nat.mul_succ]; omega]
        | succ e ihe =>
          intro x j a hx hj
          obtain ⟨j, rfl⟩ : ∃ i, j = i + 1 := ⟨j - 1, by omega⟩
          have hx1 : xIn (pl K) (Int32.ofNat x) := by unfold xIn; rw [i_of (by omega)]; omega
          have hy1 : yIn (pl K) (Int32.ofNat y) := by unfold yIn; rw [i_of (by omega)]; omega
          have hc := cell_k (W := W) (y := y) (x := x) (by omega)
          rw [L_X9_reached_e1, L.tr.w, if_neg (by rw [i_le, i_of (by omega)]; omega), c_arr hn L.pv C hk hx1 hy1, bd_s, L.sr.t, ixp_1, show e + 1 + W * d = (e + W * d) + 1 by omega, lp_s, hc.1, hc.2, show W * y + x + 1 = W * y + (x + 1) by omega]
          by_cases h1 : sArr (pl K) (st K) k (Int32.ofNat x) (Int32.ofNat y) = -1
          · rw [if_pos h1, if_neg (by simp [h1])]
            exact ihe (x + 1) j a (by omega) (by omega)
          · rw [if_neg h1]
            by_cases h2 : st K 0 < sArr (pl K) (st K) k (Int32.ofNat x) (Int32.ofNat y)
            · rw [if_pos h2, if_neg (by simp only [decide_eq_true_eq]; rintro ⟨_, q⟩; rw [i_lt] at h2; rw [i_le] at q; omega)]
              exact ihe (x + 1) j a (by omega) (by omega)
            · rw [if_neg h2, if_pos (by simp only [decide_eq_true_eq]; refine ⟨h1, ?_⟩; rw [i_lt] at h2; rw [i_le]; omega)]
              exact ihe (x + 1) j (a + 1) (by omega) (by omega)
      have := inner W 0 j a (by omega) (by omega)
      rw [show W + W * d = W * (d + 1) by rw [Nat.mul_succ]; omega] at this
      exact this
  have arr0 : ∀ x y : Int32, sArr (pl K) (st K) k x y = -1 ∨ 0 ≤ (sArr (pl K) (st K) k x y).toInt := by
    intro x y
    unfold sArr
    by_cases h : sShort (pl K) (st K) k x y (st K 0) = -1
    · rw [if_pos h]; exact Or.inl rfl
    · rw [if_neg h]; right
      have hb : 0 ≤ (sShort (pl K) (st K) k x y (st K 0)).toInt ∧ (sShort (pl K) (st K) k x y (st K 0)).toInt ≤ 8190 ∨ sShort (pl K) (st K) k x y (st K 0) = -1 := by
        unfold sShort
        cases sShut (pl K) (st K) x y
        · rw [if_neg (show ¬ (false = true) by decide)]
          cases sCut (pl K) (sCol (pl K) (st K) k (st K 0)) x
          · rw [if_neg (show ¬ (false = true) by decide)]
            have := far_b (x - sCol (pl K) (st K) k (st K 0)) (y - sRow (pl K) (st K) k (st K 0))
            left; omega
          · rw [if_pos rfl]
            exact lp_inv (fun (_ : Nat) (b : Int32) => 0 ≤ b.toInt ∧ b.toInt ≤ 8190 ∨ b = -1) _ 0 (-1) (Or.inr rfl) (fun i b _ _ hb => by
              cases sOpen (st K) (Int32.ofNat i)
              · rw [if_neg (show ¬ (false = true) by decide)]; exact hb
              · rw [if_pos rfl]
                have := sThru_b (pl K) (sCol (pl K) (st K) k (st K 0)) (sRow (pl K) (st K) k (st K 0)) x y (Int32.ofNat i)
                by_cases q : b = -1 ∨ sThru (pl K) (sCol (pl K) (st K) k (st K 0)) (sRow (pl K) (st K) k (st K 0)) x y (Int32.ofNat i) < b
                · rw [if_pos q]; left; omega
                · rw [if_neg q]; exact hb)
        · rw [if_pos rfl]; right; rfl
      rcases hb with hb | hb
      · unfold sDel
        have hm : (sShort (pl K) (st K) k x y (st K 0) * pl K (9 + k)).toInt = (sShort (pl K) (st K) k x y (st K 0)).toInt * (pl K (9 + k)).toInt := by
          have q1 : (sShort (pl K) (st K) k x y (st K 0)).toInt * (pl K (9 + k)).toInt ≤ 8190 * 99 := Int.mul_le_mul hb.2 hper.2 (by omega) (by omega)
          have q2 : 0 ≤ (sShort (pl K) (st K) k x y (st K 0)).toInt * (pl K (9 + k)).toInt := Int.mul_nonneg hb.1 (by omega)
          exact i_mul (by omega) (by omega)
        have q1 : (sShort (pl K) (st K) k x y (st K 0)).toInt * (pl K (9 + k)).toInt ≤ 8190 * 99 := Int.mul_le_mul hb.2 hper.2 (by omega) (by omega)
        have q2 : 0 ≤ (sShort (pl K) (st K) k x y (st K 0)).toInt * (pl K (9 + k)).toInt := Int.mul_nonneg hb.1 (by omega)
        have hd : (sShort (pl K) (st K) k x y (st K 0) * pl K (9 + k) / pl K (5 + k)).toInt = ((sShort (pl K) (st K) k x y (st K 0)).toInt * (pl K (9 + k)).toInt).tdiv (pl K (5 + k)).toInt := by rw [i_div (Or.inr (by omega)), hm]
        have q3 : 0 ≤ ((sShort (pl K) (st K) k x y (st K 0)).toInt * (pl K (9 + k)).toInt).tdiv (pl K (5 + k)).toInt := Int.tdiv_nonneg q2 (by omega)
        have q4 : ((sShort (pl K) (st K) k x y (st K 0)).toInt * (pl K (9 + k)).toInt).tdiv (pl K (5 + k)).toInt ≤ (sShort (pl K) (st K) k x y (st K 0)).toInt * (pl K (9 + k)).toInt := Int.tdiv_le_self _ q2
        rw [i_add, hd] <;> (try rw [hd]) <;> omega
      · exact absurd hb h
  have k10 : ∀ (d c j : Nat) (a : Int32) (K1 : gI), MK K1 (153 + 4) (pl K) (st K) → c + d = W * H → d + 1 ≤ j → ∃ K', L_X10_reached n (Int32.ofNat k) j 0 a (Int32.ofNat c) K1 = some (lp (fun c a => if decide (sArr (pl K) (st K) k (Int32.ofNat (c % W)) (Int32.ofNat (c / W)) ≠ -1 ∧ sArr (pl K) (st K) k (Int32.ofNat (c % W)) (Int32.ofNat (c / W)) ≤ st K 0) then a + 1 else a) d c a, K') ∧ Tq K1 K' := by
    intro d
    induction d with
    | zero =>
      intro c j a K1 M1 hc hj
      obtain ⟨j, rfl⟩ : ∃ i, j = i + 1 := ⟨j - 1, by omega⟩
      have ce := cells_e L.pv
      rw [← hW, ← hH] at ce
      refine ⟨K1, ?_, Tq.rfl'⟩
      rw [L_X10_reached_e0]
      unfold F_X10_cellCount
      rw [M1.hp, M1.hp, bd_s, ce.1, if_pos (by rw [i_ole (by omega) (by omega)]; omega)]
      rfl
    | succ d ih =>
      intro c j a K1 M1 hc hj
      obtain ⟨j, rfl⟩ : ∃ i, j = i + 1 := ⟨j - 1, by omega⟩
      have ce := cells_e L.pv
      have cx := cell_x L.pv (k := c) (by rw [← hW, ← hH]; omega)
      rw [← hW] at cx
      rw [← hW, ← hH] at ce
      obtain ⟨K2, e2, q2⟩ := m_arr hn L.pv M1 hk cx.2.2.1 cx.2.2.2.1
      have M2 := M1.tq q2
      rw [L_X10_reached_e0]
      unfold F_X10_cellCount
      rw [M1.hp, M1.hp, bd_s, ce.1, if_neg (by rw [i_ole (by omega) (by omega)]; omega), gd_t cx.1, gd_t cx.1, cx.2.2.2.2.1, cx.2.2.2.2.2, e2, bd_s]
      dsimp only
      rw [x_in, bd_s, M2.hs, ixp_1, lp_s]
      have hr : rng (sArr (pl K) (st K) k (Int32.ofNat (c % W)) (Int32.ofNat (c / W))) 0 (st K 0) = decide (sArr (pl K) (st K) k (Int32.ofNat (c % W)) (Int32.ofNat (c / W)) ≠ -1 ∧ sArr (pl K) (st K) k (Int32.ofNat (c % W)) (Int32.ofNat (c / W)) ≤ st K 0) := by
        unfold rng
        apply decide_eq_decide.mpr
        rcases arr0 (Int32.ofNat (c % W)) (Int32.ofNat (c / W)) with q | q
        · rw [q]; exact ⟨fun h => absurd h.1 (by decide), fun h => absurd rfl h.1⟩
        · refine ⟨fun h => ⟨fun z => ?_, h.2⟩, fun h => ⟨?_, h.2⟩⟩
          · rw [z] at q; exact absurd q (by decide)
          · rw [i_le, ii_0]; exact q
      rw [hr]
      cases decide (sArr (pl K) (st K) k (Int32.ofNat (c % W)) (Int32.ofNat (c / W)) ≠ -1 ∧ sArr (pl K) (st K) k (Int32.ofNat (c % W)) (Int32.ofNat (c / W)) ≤ st K 0)
      · rw [if_pos (show b2 false = 0 from rfl), Int32.add_zero, if_neg (show ¬ (false = true) by decide)]
        obtain ⟨K3, e3, q3⟩ := ih (c + 1) j a K2 M2 (by omega) (by omega)
        exact ⟨K3, e3, q2.trans q3⟩
      · rw [if_neg (show ¬ b2 true = 0 by decide), if_pos (show true = true from rfl)]
        obtain ⟨K3, e3, q3⟩ := ih (c + 1) j (a + 1) K2 M2 (by omega) (by omega)
        exact ⟨K3, e3, q2.trans q3⟩
  have hf : H * (W + 2) ≤ 10 * 18 := Nat.mul_le_mul (by omega) (by omega)
  have r9 := k9 H 0 n 0 (by omega) (by omega)
  obtain ⟨K', r10, q⟩ := k10 (W * H) 0 n 0 _ M (by omega) (by omega)
  exact AG.ok r9 r10 ⟨rfl, q⟩
theorem e_rowEnergy (hn : 2000 ≤ n) (R : Rel T0 T1 I K) (a1 a2 : Int32) : AG (F_X9_rowEnergy n T0 T1 I a1 a2) (F_X10_rowEnergy n K a1 a2) (fun v b => v = b.1 ∧ Tt K 0 b.2) (fun E b => Tt K (thA E) b.2) := by
  rcases R.ld with ⟨h9, h10⟩ | ⟨h9, h10, L⟩
  · refine AG.er (E := ISE) (b := (0, sI K 153 0 1)) ?_ ?_ (Tt.r 1)
    · unfold F_X9_rowEnergy; rw [n_tank0 h9]; rfl
    · unfold F_X10_rowEnergy
      simp only [x_row, x_run, bd_s]
      cases row (pl K) a1 <;> cases rng a2 1 40 <;> simp only [b2_tv, b2_fv, e10, if_true, if_false, bd_s, ask0 h10, askF0 h10]
  unfold F_X9_rowEnergy F_X10_rowEnergy
  simp only [n_tank1 h9, nt_s, n_row L, n_tim, nd_s, x_row, x_run, bd_s]
  cases g0 : row (pl K) a1
  · refine AG.er (E := IOB) (b := (0, sI K 153 0 2)) ?_ ?_ (Tt.r 2)
    · rfl
    · cases rng a2 1 40 <;> simp only [b2_tv, b2_fv, e10, if_true, if_false, bd_s, ask2 h10, askF2 h10, askF3 h10]
  cases g1 : rng a2 1 40
  · refine AG.er (E := IAE) (b := (0, sI K 153 0 3)) ?_ ?_ (Tt.r 3)
    · rfl
    · simp only [b2_tv, b2_fv, e10, if_true, if_false, bd_s, ask2 h10, askF2 h10, askF3 h10]
  simp only [b2_tv, b2_fv, e10, if_true, if_false, bd_s, ask1 h10, askF1 h10]
  have M := L.mk' (Tt.r 0) R.tv
  have C := L.ck R.ru
  have hy := (row_t L.pv).mp g0
  have h4 := rng_t.mp g1
  have hw := L.pv.w
  have c1 : (1 : Int32).toInt = 1 := rfl
  have c2 : (40 : Int32).toInt = 40 := rfl
  have key : ∀ (d x j : Nat) (a : Int64) (K1 : gI), MK K1 (153 + 4) (pl K) (st K) → x + d = (pl K 0).toInt.toNat → d < j → ∃ v K', L_X9_rowEnergy n T0 T1 I a1 a2 j 0 a (Int32.ofNat x) = some (.inr v) ∧ L_X10_rowEnergy n a1 a2 j 0 a (Int32.ofNat x) K1 = some (v, K') ∧ Tq K1 K' := by
    intro d
    induction d with
    | zero =>
      intro x j a K1 M1 hx hj
      obtain ⟨j, rfl⟩ : ∃ i, j = i + 1 := ⟨j - 1, by omega⟩
      refine ⟨a, K1, ?_, ?_, Tq.rfl'⟩
      · rw [L_X9_rowEnergy_e0, L.tr.w, if_pos (by rw [i_le, i_of (by omega)]; omega)]
      · rw [L_X10_rowEnergy_e0, M1.hp, if_pos (by rw [i_le, i_of (by omega)]; omega)]
    | succ d ih =>
      intro x j a K1 M1 hx hj
      obtain ⟨j, rfl⟩ : ∃ i, j = i + 1 := ⟨j - 1, by omega⟩
      have hx1 : xIn (pl K) (Int32.ofNat x) := by unfold xIn; rw [i_of (by omega)]; omega
      obtain ⟨K2, e2, q2⟩ := m_ener hn L.pv L.sv M1 hx1 hy (m := a2) (by omega) (by omega)
      obtain ⟨v, K3, e9, e10, q3⟩ := ih (x + 1) j (a + sEner (pl K) (st K) (Int32.ofNat x) a1 a2) K2 (M1.tq q2) (by omega) (by omega)
      refine ⟨v, K3, ?_, ?_, q2.trans q3⟩
      · rw [L_X9_rowEnergy_e0, L.tr.w, if_neg (by rw [i_le, i_of (by omega)]; omega), c_ener hn L.pv L.sv C hx1 hy (by omega) (by omega), bd_s, ixp_1]; exact e9
      · rw [L_X10_rowEnergy_e0, M1.hp, if_neg (by rw [i_le, i_of (by omega)]; omega), e2, bd_s, ixp_1]; exact e10
  obtain ⟨v, K', e9, e10, q⟩ := key (pl K 0).toInt.toNat 0 n 0 _ M (by omega) (by omega)
  exact AG.ok e9 e10 ⟨rfl, q⟩
theorem e_nodeRows (hn : 2000 ≤ n) (R : Rel T0 T1 I K) (a1 a2 a3 : Int32) : AG (F_X9_nodeRows n T0 T1 I a1 a2 a3) (F_X10_nodeRows n K a1 a2 a3) (fun v b => v = b.1 ∧ Tt K 0 b.2) (fun E b => Tt K (thA E) b.2) := by
  rcases R.ld with ⟨h9, h10⟩ | ⟨h9, h10, L⟩
  · refine AG.er (E := ISE) (b := (0, sI K 153 0 1)) ?_ ?_ (Tt.r 1)
    · unfold F_X9_nodeRows; rw [n_tank0 h9]; rfl
    · unfold F_X10_nodeRows
      simp only [x_row, x_run, x_tol, bd_s]
      cases row (pl K) a1 <;> cases rng a2 1 40 <;> cases rng a3 0 9999 <;> simp only [b2_tv, b2_fv, e10, if_true, if_false, bd_s, ask0 h10, askF0 h10]
  unfold F_X9_nodeRows F_X10_nodeRows
  simp only [n_tank1 h9, nt_s, n_row L, n_tim, n_tol, nd_s, x_row, x_run, x_tol, bd_s]
  cases g0 : row (pl K) a1
  · refine AG.er (E := IOB) (b := (0, sI K 153 0 2)) ?_ ?_ (Tt.r 2)
    · rfl
    · cases rng a2 1 40 <;> cases rng a3 0 9999 <;> simp only [b2_tv, b2_fv, e10, if_true, if_false, bd_s, ask2 h10, askF2 h10, askF3 h10]
  cases g1 : rng a2 1 40
  · refine AG.er (E := IAE) (b := (0, sI K 153 0 3)) ?_ ?_ (Tt.r 3)
    · rfl
    · cases rng a3 0 9999 <;> simp only [b2_tv, b2_fv, e10, if_true, if_false, bd_s, ask2 h10, askF2 h10, askF3 h10]
  cases g2 : rng a3 0 9999
  · refine AG.er (E := IAE) (b := (0, sI K 153 0 3)) ?_ ?_ (Tt.r 3)
    · rfl
    · simp only [b2_tv, b2_fv, e10, if_true, if_false, bd_s, ask2 h10, askF2 h10, askF3 h10]
  simp only [b2_tv, b2_fv, e10, if_true, if_false, bd_s, ask1 h10, askF1 h10]
  have M := L.mk' (Tt.r 0) R.tv
  have C := L.ck R.ru
  have hy := (row_t L.pv).mp g0
  have h4 := rng_t.mp g1
  have hw := L.pv.w
  have c1 : (1 : Int32).toInt = 1 := rfl
  have c2 : (40 : Int32).toInt = 40 := rfl
  have key : ∀ (d x j : Nat) (a : Int32) (K1 : gI), MK K1 (153 + 4) (pl K) (st K) → x + d = (pl K 0).toInt.toNat → d < j → ∃ v K', L_X9_calmColumns n T0 T1 2 I a1 a2 a3 j 0 a (Int32.ofNat x) = some v ∧ L_X10_nodeRows n a1 a2 a3 j 0 a (Int32.ofNat x) K1 = some (v, K') ∧ Tq K1 K' := by
    intro d
    induction d with
    | zero =>
      intro x j a K1 M1 hx hj
      obtain ⟨j, rfl⟩ : ∃ i, j = i + 1 := ⟨j - 1, by omega⟩
      refine ⟨a, K1, ?_, ?_, Tq.rfl'⟩
      · rw [L_X9_calmColumns_e0, L.tr.w, if_pos (by rw [i_le, i_of (by omega)]; omega)]
      · rw [L_X10_nodeRows_e0, M1.hp, if_pos (by rw [i_le, i_of (by omega)]; omega)]
    | succ d ih =>
      intro x j a K1 M1 hx hj
      obtain ⟨j, rfl⟩ : ∃ i, j = i + 1 := ⟨j - 1, by omega⟩
      have hx1 : xIn (pl K) (Int32.ofNat x) := by unfold xIn; rw [i_of (by omega)]; omega
      obtain ⟨K2, e2, q2⟩ := m_calm hn L.pv L.sv M1 hx1 hy (m := a2) (by omega) (by omega) a3
      rw [L_X9_calmColumns_e0, L_X10_nodeRows_e0, L.tr.w, M1.hp, if_neg (by rw [i_le, i_of (by omega)]; omega), if_neg (by rw [i_le, i_of (by omega)]; omega), c_calm hn L.pv L.sv C hx1 hy (by omega) (by omega), e2]
      simp only [bd_s, ixp_1]
      cases sCalm (pl K) (st K) (Int32.ofNat x) a1 a2 a3
      · rw [if_pos (show b2 false = 0 from rfl), if_pos (show b2 false = 0 from rfl)]
        obtain ⟨v, K3, e9, e10, q3⟩ := ih (x + 1) j a K2 (M1.tq q2) (by omega) (by omega)
        refine ⟨v, K3, e9, ?_, q2.trans q3⟩
        rw [show a ||| (0 : Int32) = a from Int32.or_zero]; exact e10
      · rw [if_neg (show ¬ b2 true = 0 by decide), if_neg (show ¬ b2 true = 0 by decide)]
        obtain ⟨v, K3, e9, e10, q3⟩ := ih (x + 1) j _ K2 (M1.tq q2) (by omega) (by omega)
        exact ⟨v, K3, e9, e10, q2.trans q3⟩
  obtain ⟨v, K', e9, e10, q⟩ := key (pl K 0).toInt.toNat 0 n 0 _ M (by omega) (by omega)
  have e9' : F_X9_calmColumns n T0 T1 2 I a1 a2 a3 = some v := e9
  rw [e9']
  exact AG.ok rfl e10 ⟨rfl, q⟩
end FACEB
