/-! isRight, the rest: rows, the whole, gauges, the strongest cell -/
section RIGHT2
variable {n T0 T1 : Nat} {I K : gI} {J : gJ} {p s : gP} {m : Int32}
theorem lp_last {α : Type} (g : Nat → α → α) (c : Nat) (a : α) : lp g (c + 1) 0 a = g c (lp g c 0 a) := by
  rw [lp_add (a := c) (b := 1), Nat.zero_add]; rfl
def nN (p s : gP) (m : Int32) (c : Nat) : Int32 := lp (fun k a => if nd9 p s m 20 k then a + 1 else a) c 0 0
def nM (p s : gP) (m : Int32) (c : Nat) : Int32 := lp (fun k a => if shr (eC p s m k) 50 (eMax p s m) then a + 1 else a) c 0 0
def nE (p s : gP) (m : Int32) (c : Nat) : Int64 := lp (fun c a => a + eC p s m c) c 0 0
def nR (p s : gP) (m : Int32) (Y X : Nat) : Int64 := lp (fun x a => a + sEner p s (Int32.ofNat x) (Int32.ofNat Y) m) X 0 0
/-- the cells of a row, from X on -/
theorem rt_row (hn : 2000 ≤ n) (C : CI T0 T1 I p s) (w : WK K p) (hm : 1 ≤ m.toInt ∧ m.toInt ≤ 40) {W Y : Nat} (hW : W = (p 0).toInt.toNat) (hY : Y < (p 1).toInt.toNat) (y5 : Int64) : ∀ (e X j : Nat) (J : gJ), X + e = W → 90 * e ≤ j → ∃ j' J', j ≤ j' + 90 * e ∧ L_L_isRight n T0 T1 K m j 1 (nN p s m (W * Y + X)) (nM p s m (W * Y + X)) y5 (Int32.ofNat Y) (nR p s m Y X) (Int32.ofNat X) 0 0 0 0 0 0 0 0 0 I J = L_L_isRight n T0 T1 K m j' 1 (nN p s m (W * (Y + 1))) (nM p s m (W * (Y + 1))) y5 (Int32.ofNat Y) (nR p s m Y W) (Int32.ofNat W) 0 0 0 0 0 0 0 0 0 I J'
  | 0, X, j, J, hX, hj => ⟨j, J, by omega, by rw [show X = W by omega, ← Nat.mul_succ]⟩
  | e + 1, X, j, J, hX, hj => by
    have hw := C.pv.w
    have hh := C.pv.h
    have hx : xIn p (Int32.ofNat X) := by unfold xIn; rw [i_of (by omega)]; omega
    have hy : yIn p (Int32.ofNat Y) := by unfold yIn; rw [i_of (by omega)]; omega
    have ck := cell_k (W := W) (y := Y) (x := X) (by omega)
    obtain ⟨j1, J1, h1, e1⟩ := rt_cell (x3 := nN p s m (W * Y + X)) (x4 := nM p s m (W * Y + X)) (y5 := y5) (y8 := nR p s m Y X) (J := J) hn C w hx hy hm (j := j) (by omega)
    obtain ⟨j2, J2, h2, e2⟩ := rt_row hn C w hm hW hY y5 e (X + 1) j1 J1 (by omega) (by omega)
    refine ⟨j2, J2, by omega, ?_⟩
    rw [e1, ← e2]
    have a1 : nN p s m (W * Y + (X + 1)) = if sCalm p s (Int32.ofNat X) (Int32.ofNat Y) m 20 then nN p s m (W * Y + X) + 1 else nN p s m (W * Y + X) := by
      unfold nN
      rw [show W * Y + (X + 1) = (W * Y + X) + 1 from rfl, lp_last]
      unfold nd9
      rw [← hW, ck.1, ck.2]
    have a2 : nM p s m (W * Y + (X + 1)) = if shr (sEner p s (Int32.ofNat X) (Int32.ofNat Y) m) 50 (eMax p s m) then nM p s m (W * Y + X) + 1 else nM p s m (W * Y + X) := by
      unfold nM
      rw [show W * Y + (X + 1) = (W * Y + X) + 1 from rfl, lp_last]
      unfold eC
      rw [← hW, ck.1, ck.2]
    have a3 : nR p s m Y (X + 1) = nR p s m Y X + sEner p s (Int32.ofNat X) (Int32.ofNat Y) m := by
      unfold nR
      rw [lp_last]
    rw [a1, a2, a3, ixp_1]
/-- all rows -/
theorem rt_rows (hn : 2000 ≤ n) (C : CI T0 T1 I p s) (w : WK K p) (hm : 1 ≤ m.toInt ∧ m.toInt ≤ 40) {W : Nat} (hW : W = (p 0).toInt.toNat) : ∀ (d Y j : Nat) (J : gJ), Y + d = (p 1).toInt.toNat → 1500 * d ≤ j → ∃ j' J', j ≤ j' + 1500 * d ∧ L_L_isRight n T0 T1 K m j 0 (nN p s m (W * Y)) (nM p s m (W * Y)) (nE p s m (W * Y)) (Int32.ofNat Y) 0 0 0 0 0 0 0 0 0 0 0 I J = L_L_isRight n T0 T1 K m j' 0 (nN p s m (nC p)) (nM p s m (nC p)) (nE p s m (nC p)) (p 1) 0 0 0 0 0 0 0 0 0 0 0 I J'
  | 0, Y, j, J, hY, hj => ⟨j, J, by omega, by
      have hh := C.pv.h
      have e1 : Int32.ofNat Y = p 1 := by rw [show Y = (p 1).toInt.toNat by omega, i_on (by omega)]
      have e2 : W * Y = nC p := by unfold nC; rw [hW, show Y = (p 1).toInt.toNat by omega]
      rw [e1, e2]⟩
  | d + 1, Y, j, J, hY, hj => by
    have hw := C.pv.w
    have hh := C.pv.h
    have hy : yIn p (Int32.ofNat Y) := by unfold yIn; rw [i_of (by omega)]; omega
    obtain ⟨j, rfl⟩ : ∃ i, j = i + 1 := ⟨j - 1, by omega⟩
    obtain ⟨j1, J1, h1, e1⟩ := rt_row (K := K) hn C w hm hW (Y := Y) (by omega) (nE p s m (W * Y)) W 0 j J (by omega) (by omega)
    obtain ⟨j1, rfl⟩ : ∃ i, j1 = i + 1 := ⟨j1 - 1, by omega⟩
    obtain ⟨j2, J2, h2, e2⟩ := rt_rows hn C w hm hW d (Y + 1) j1 J1 (by omega) (by omega)
    refine ⟨j2, J2, by omega, ?_⟩
    rw [← e2]
    obtain ⟨w1, w2, -⟩ := id w
    have g1 : ¬ p 1 ≤ Int32.ofNat Y := by rw [i_le, i_of (by omega)]; omega
    have g2 : p 0 ≤ Int32.ofNat W := by rw [i_le, i_of (by omega)]; omega
    have s1 : L_L_isRight n T0 T1 K m (j + 1) 0 (nN p s m (W * Y)) (nM p s m (W * Y)) (nE p s m (W * Y)) (Int32.ofNat Y) 0 0 0 0 0 0 0 0 0 0 0 I J = L_L_isRight n T0 T1 K m j 1 (nN p s m (W * Y + 0)) (nM p s m (W * Y + 0)) (nE p s m (W * Y)) (Int32.ofNat Y) (nR p s m Y 0) (Int32.ofNat 0) 0 0 0 0 0 0 0 0 0 I J := by
      rw [L_L_isRight_e0, w2, if_neg g1]; rfl
    rw [s1, e1, L_L_isRight_e1, w1, if_pos g2, a_rowE hn C hy hm, ok_s, ← hW]
    have eR : lp (fun x a => a + sEner p s (Int32.ofNat x) (Int32.ofNat Y) m) W 0 0 = nR p s m Y W := rfl
    rw [eR, if_pos ((cmp_0 _ _).mpr rfl), ixp_1]
    have eE : nE p s m (W * (Y + 1)) = nE p s m (W * Y) + nR p s m Y W := rows_e m W Y hW
    rw [eE]
/-- gauges, and the strongest cell -/
theorem rt_6 (hn : 2000 ≤ n) (w : WK K p) (hm : 1 ≤ m.toInt ∧ m.toInt ≤ 40) (x3 x4 : Int32) : ∀ (d g j : Nat) (I : gI) (J : gJ), CI T0 T1 I p s → g + d = (p 76).toInt.toNat → d + 1 ≤ j → ∃ I' J', L_L_isRight n T0 T1 K m j 6 x3 x4 (nE p s m (nC p)) (Int32.ofNat g) 0 0 0 0 0 0 0 0 0 0 0 I J = some (1, I', J') ∧ CI T0 T1 I' p s
  | 0, g, j, I, J, C, hg, hj => by
    have hga := C.pv.ga
    have hw := C.pv.w
    have hh := C.pv.h
    have hN := nC_b C.pv
    obtain ⟨j, rfl⟩ : ∃ i, j = i + 1 := ⟨j - 1, by omega⟩
    obtain ⟨w1, w2, w4, w6, w82, w60, ws⟩ := id w
    have g1 : p 76 ≤ Int32.ofNat g := by rw [i_le, i_of (by omega)]; omega
    obtain ⟨c, J1, eS, hc, hmax⟩ := a_strong (J := J) hn C hm
    have cx := cell_x C.pv (k := c) (by unfold nC at hc; exact hc)
    obtain ⟨J2, eM⟩ := a_isMark (J := J1) hn C cx.2.2.1 cx.2.2.2.1 hm (sh := 100) ⟨by decide, by decide⟩
    have eE := a_energy hn C cx.2.2.1 cx.2.2.2.1 hm
    have eC9 : sEner p s (Int32.ofNat (c % (p 0).toInt.toNat)) (Int32.ofNat (c / (p 0).toInt.toNat)) m = eC p s m c := rfl
    rw [eC9] at eE eM
    have nn : ∀ o, o < nC p → 0 ≤ (eC p s m o).toInt ∧ (eC p s m o).toInt ≤ 20439060480000 := fun o _ => (sEner_z C.pv C.sv _ _ (by omega)).1
    -- the sum is nothing when each is nothing
    have sum : ∀ N, N ≤ nC p → (0 ≤ (nE p s m N).toInt ∧ (nE p s m N).toInt ≤ 20439060480000 * N) ∧ ((nE p s m N).toInt = 0 ↔ ∀ o, o < N → (eC p s m o).toInt = 0) := by
      intro N
      induction N with
      | zero => intro _; exact ⟨⟨Int.le_refl _, by show (0 : Int) ≤ 20439060480000 * ((0 : Nat) : Int); decide⟩, ⟨fun _ o h => by omega, fun _ => rfl⟩⟩
      | succ N ih =>
        intro h
        have i1 := ih (by omega)
        have i2 := nn N (by omega)
        have e : nE p s m (N + 1) = nE p s m N + eC p s m N := by unfold nE; rw [lp_last]
        rw [e, l_add (by omega) (by omega)]
        refine ⟨⟨by omega, by push_cast; omega⟩, ⟨fun q o ho => ?_, fun q => ?_⟩⟩
        · by_cases z : o = N
          · rw [z]; omega
          · exact i1.2.mp (by omega) o (by omega)
        · have := i1.2.mpr (fun o ho => q o (by omega))
          have := q N (by omega)
          omega
    have S := (sum (nC p) (Nat.le_refl _)).2
    have nc := nn c hc
    have iff : nE p s m (nC p) = 0 ↔ eC p s m c = 0 := by
      rw [← Int64.toInt_inj, ← Int64.toInt_inj]
      show (nE p s m (nC p)).toInt = 0 ↔ (eC p s m c).toInt = 0
      rw [S]
      refine ⟨fun q => q c hc, fun q o ho => ?_⟩
      have h1 := hmax o ho
      have h2 := nn o ho
      rw [Int64.lt_iff_toInt_lt] at h1
      omega
    have z0 : ¬ p 0 = 0 := cx.1
    have e1 : ∃ J', (if lg_cmp (nE p s m (nC p)) 0 = 0 then some ((1 : Int32), I, J1) else gd (¬ p 0 = 0) (gd (¬ p 0 = 0) (bd (F_X9_isMark n T0 T1 I J1 (Int32.ofNat c - Int32.ofNat c / p 0 * p 0) (Int32.ofNat c / p 0) m 100) (fun v796 => sm v796 (fun _ => none) (fun v796 => (if v796.1 = 0 then some ((0 : Int32), I, v796.2) else some ((1 : Int32), I, v796.2))))))) = some ((1 : Int32), I, J') := by
      by_cases q : nE p s m (nC p) = 0
      · exact ⟨J1, if_pos ((cmp_0 _ _).mpr q)⟩
      · refine ⟨J2, ?_⟩
        have q2 : eC p s m c ≠ 0 := fun z => q (iff.mpr z)
        have hs : shr (eC p s m c) 100 (eMax p s m) = true := by
          unfold shr
          have h0 : ¬ eC p s m c < 0 := by rw [Int64.lt_iff_toInt_lt]; show ¬ _ < (0 : Int); omega
          have h1 := eMax_i (p := p) (s := s) m (eC p s m c) h0 hmax
          have h2 : 0 ≤ (eMax p s m).toInt := by
            have L := lp_inv (g := fun c a => jmaxl a (eC p s m c)) (fun _ (a : Int64) => 0 ≤ a.toInt) (nC p) 0 0 (Int.le_refl _) (fun c a _ hc ha => by
              unfold jmaxl
              by_cases q : eC p s m c < a
              · rw [if_pos q]; exact ha
              · rw [if_neg q]; exact (nn c (by omega)).1)
            exact L
          rw [Int64.lt_iff_toInt_lt] at h1
          have c1 : (100 : Int64).toInt = 100 := rfl
          have c2 : (Int32.toInt64 100).toInt = 100 := rfl
          have m1 : ((100 : Int64) * eC p s m c).toInt = 100 * (eC p s m c).toInt := by rw [l_mul (by rw [c1]; omega) (by rw [c1]; omega), c1]
          have m2 : (Int32.toInt64 100 * eMax p s m).toInt = 100 * (eMax p s m).toInt := by rw [l_mul (by rw [c2]; omega) (by rw [c2]; omega), c2]
          refine decide_eq_true ⟨?_, ?_⟩
          · rw [cmp_n, Classical.not_not, Int64.lt_iff_toInt_lt]
            have : (eC p s m c).toInt ≠ 0 := fun z => q2 (Int64.toInt_inj.mp z)
            show (0 : Int) < _
            omega
          · intro z
            have := cmp_g (100 * eC p s m c) (Int32.toInt64 100 * eMax p s m)
            rw [Int64.lt_iff_toInt_lt, m1, m2] at this
            have h3 := this.mpr (by omega)
            rw [i_le, ii_0] at h3
            rw [i_lt, ii_0] at z
            omega
        rw [if_neg (fun z => q ((cmp_0 _ _).mp z)), gd_t z0, gd_t z0, cx.2.2.2.2.1, cx.2.2.2.2.2, eM, ok_s, hs]
        exact if_neg (show ¬ b2 true = 0 by decide)
    obtain ⟨J3, e1⟩ := e1
    refine ⟨I, J3, ?_, C⟩
    rw [L_L_isRight_e6, w82, if_pos g1, eS, ok_s, w1]
    dsimp only
    rw [cx.2.2.2.2.1, cx.2.2.2.2.2] at e1 ⊢
    rw [gd_t z0, gd_t z0, eE, ok_s]
    by_cases q : nE p s m (nC p) = 0
    · have q1 : lg_cmp (nE p s m (nC p)) 0 = 0 := (cmp_0 _ _).mpr q
      have q2 : lg_cmp (eC p s m c) 0 = 0 := (cmp_0 _ _).mpr (iff.mp q)
      rw [if_pos q1] at e1 ⊢
      rw [if_pos q2, if_pos q1]
      exact e1
    · have q1 : ¬ lg_cmp (nE p s m (nC p)) 0 = 0 := fun z => q ((cmp_0 _ _).mp z)
      have q2 : ¬ lg_cmp (eC p s m c) 0 = 0 := fun z => q (iff.mpr ((cmp_0 _ _).mp z))
      rw [if_neg q1] at e1 ⊢
      rw [ok_s, if_neg q2, if_neg q1, gd_t z0, gd_t z0]
      exact e1
  | d + 1, g, j, I, J, C, hg, hj => by
    have hga := C.pv.ga
    obtain ⟨j, rfl⟩ : ∃ i, j = i + 1 := ⟨j - 1, by omega⟩
    obtain ⟨w1, w2, w4, w6, w82, w60, ws⟩ := id w
    have hg' : g < (p 76).toInt.toNat := by omega
    have g1 : ¬ p 76 ≤ Int32.ofNat g := by rw [i_le, i_of (by omega)]; omega
    have hx : xIn p (p (77 + 2 * g)) := C.pv.gx g hg'
    have hy : yIn p (p (77 + 2 * g + 1)) := C.pv.gy g hg'
    obtain ⟨v1, I1, e1, f1, q1⟩ := a_peak hn C hg' hm
    have C1 : CI T0 T1 I1 p s := C.ir (fun o i q => f1 o i (by omega))
    obtain ⟨v2, I2, e2, f2, q2⟩ := a_cross hn C1 hg' hm
    have C2 : CI T0 T1 I2 p s := C1.ir (fun o i q => f2 o i (by omega))
    obtain ⟨v3, I3, e3, f3, q3⟩ := a_rhy hn C2 hg' hm
    have C3 : CI T0 T1 I3 p s := C2.ir (fun o i q => f3 o i (by omega))
    obtain ⟨I', J', e4, C4⟩ := rt_6 hn w hm x3 x4 d (g + 1) j I3 J C3 (by omega) (by omega)
    refine ⟨I', J', ?_, C4⟩
    have k1 : ¬ v1 < jabs (sWave p s (p (77 + 2 * g)) (p (77 + 2 * g + 1)) (s 0)) := by rw [i_lt]; omega
    have k2 : ¬ m ≤ v2 := by rw [i_le]; omega
    have k3 : (1 : Int32) ≤ v3 := by rw [i_le, ii_1]; exact q3
    rw [← e4, L_L_isRight_e6, w82, if_neg g1, e1, ok_s]
    dsimp only
    rw [a_gauX C1 hg', ok_s, a_gauY C1 hg', ok_s, a_wave hn C1 hx hy, ok_s, if_neg k1, e2, ok_s]
    dsimp only
    rw [if_neg k2, e3, ok_s]
    dsimp only
    rw [if_pos k3, ixp_1]
/-- isRight says yes -/
theorem rt_all (hn : 20000 ≤ n) (C : CI T0 T1 I p s) (w : WK K p) (hm : 1 ≤ m.toInt ∧ m.toInt ≤ 40) : ∃ I' J', F_L_isRight n T0 T1 I J K m = some (1, I', J') ∧ CI T0 T1 I' p s := by
  have hn2 : 2000 ≤ n := by omega
  have hw := C.pv.w
  have hh := C.pv.h
  have hN := nC_b C.pv
  obtain ⟨j1, J1, h1, e1⟩ := rt_rows (K := K) hn2 C w hm rfl (p 1).toInt.toNat 0 n J (by omega) (by omega)
  obtain ⟨j1, rfl⟩ : ∃ i, j1 = i + 1 := ⟨j1 - 1, by omega⟩
  obtain ⟨J2, e2⟩ := a_allE (J := J1) hn2 C hm
  obtain ⟨J3, e3⟩ := a_marks (J := J2) hn2 C hm (sh := 50) ⟨by decide, by decide⟩
  obtain ⟨g4, I4, e4, f4, q4, z4⟩ := a_groups hn2 C hm (tol := 20) ⟨by decide, by decide⟩
  have C4 : CI T0 T1 I4 p s := C.ir (fun o i q => f4 o i (by omega))
  obtain ⟨g5, I5, e5, f5, q5, z5⟩ := a_groups hn2 C4 hm (tol := 20) ⟨by decide, by decide⟩
  have C5 : CI T0 T1 I5 p s := C4.ir (fun o i q => f5 o i (by omega))
  have hga := C.pv.ga
  obtain ⟨I6, J6, e6, C6⟩ := rt_6 (K := K) hn2 w hm (nN p s m (nC p)) (nM p s m (nC p)) (p 76).toInt.toNat 0 j1 I5 J3 C5 (by omega) (by omega)
  refine ⟨I6, J6, ?_, C6⟩
  obtain ⟨w1, w2, w4, w6, w82, w60, ws⟩ := id w
  have hcb := cB_le (nd9 p s m 20) (nC p)
  have eN : nN p s m (nC p) = Int32.ofNat (cB (nd9 p s m 20) (nC p)) := cnt_cB (nd9 p s m 20) hN
  have cN : cnt (nd9 p s m 20) (nC p) = nN p s m (nC p) := rfl
  have cM : cnt (fun c => shr (eC p s m c) 50 (eMax p s m)) (nC p) = nM p s m (nC p) := rfl
  have cE : lp (fun c a => a + eC p s m c) (nC p) 0 0 = nE p s m (nC p) := rfl
  have k0 : p 1 ≤ p 1 := by rw [i_le]; exact Int.le_refl _
  have k1 : ¬ nN p s m (nC p) < Int32.ofNat g4 := by rw [eN, i_olt (by omega) (by omega)]; omega
  have zN : nN p s m (nC p) = 0 ↔ cB (nd9 p s m 20) (nC p) = 0 := by
    rw [eN, show (0 : Int32) = Int32.ofNat 0 from rfl, i_oeq (by omega) (by omega)]
  have start : F_L_isRight n T0 T1 I J K m = L_L_isRight n T0 T1 K m (j1 + 1) 0 (nN p s m (nC p)) (nM p s m (nC p)) (nE p s m (nC p)) (p 1) 0 0 0 0 0 0 0 0 0 0 0 I J1 := e1
  rw [start, L_L_isRight_e0, w2, if_pos k0, e2, ok_s, cE]
  dsimp only
  rw [if_pos ((cmp_0 _ _).mpr rfl), a_nodes hn2 C hm (tol := 20) ⟨by decide, by decide⟩, ok_s, cN, if_pos rfl, e3, ok_s, cM]
  dsimp only
  rw [if_pos rfl, e4, ok_s]
  dsimp only
  rw [if_neg k1, e5, ok_s]
  dsimp only
  by_cases q : g5 = 0
  · have k2 : Int32.ofNat g5 = 0 := by rw [q]; rfl
    have k3 : nN p s m (nC p) = 0 := zN.mpr (z5.mp q)
    rw [if_pos k2, if_pos k3]
    exact e6
  · have k2 : ¬ Int32.ofNat g5 = 0 := by rw [show (0 : Int32) = Int32.ofNat 0 from rfl, i_oeq (by omega) (by omega)]; exact q
    have k3 : ¬ nN p s m (nC p) = 0 := fun z => q (z5.mpr (zN.mp z))
    rw [if_neg k2, if_neg k3]
    exact e6
end RIGHT2
