/-! THE LAW'S isRight: it finds nothing amiss -/
def WK (K : gI) (p : gP) : Prop := K 154 1 = p 0 ∧ K 154 2 = p 1 ∧ K 154 4 = p 3 ∧ K 154 6 = p 4 ∧ K 154 82 = p 76 ∧ K 154 71 = p 60 ∧ ∀ i, i < (p 60).toInt.toNat → K 154 (72 + 5 * i) = p (61 + 5 * i) ∧ K 154 (72 + 5 * i + 1) = p (61 + 5 * i + 1) ∧ K 154 (72 + 5 * i + 2) = p (61 + 5 * i + 2) ∧ K 154 (72 + 5 * i + 3) = p (61 + 5 * i + 3) ∧ K 154 (72 + 5 * i + 4) = p (61 + 5 * i + 4)
theorem ok_s {ε α β : Type} (v : α) (g : α → Option β) : bd (some (.inr v : ε ⊕ α)) (fun w => sm w (fun _ => none) g) = g v := rfl
section RIGHT
variable {n T0 T1 : Nat} {I K : gI} {J : gJ} {p s : gP}
theorem sh_s (hn : 2000 ≤ n) (hp : PV p) (w : WK K p) (x y v : Int32) : F_L_shoaled n K x y v = some (lp (fun i a => if sHold p i x y then a * p (61 + 5 * i + 4) / 100 else a) (p 60).toNatClampNeg 0 v) := by
  have h3 := hp.sh
  obtain ⟨-, -, -, -, -, w60, ws⟩ := w
  have e60 : (72 : Int32) + (5 : Int32) * K 154 71 = Int32.ofNat (72 + 5 * (p 60).toInt.toNat) := by
    rw [w60, show (72 : Int32) = Int32.ofNat 72 from rfl, show (5 : Int32) = Int32.ofNat 5 from rfl]
    conv => lhs; rw [← i_on (a := p 60) (by omega)]
    rw [i_omul, i_oadd]
  have key : ∀ (d i j : Nat) (a : Int32), i + d = (p 60).toInt.toNat → d < j → L_L_shoaled n K x y v j 0 a (Int32.ofNat (72 + 5 * i)) = some (lp (fun i a => if sHold p i x y then a * p (61 + 5 * i + 4) / 100 else a) d i a) := by
    intro d
    induction d with
    | zero =>
      intro i j a hi hj
      obtain ⟨j, rfl⟩ : ∃ i, j = i + 1 := ⟨j - 1, by omega⟩
      rw [L_L_shoaled_e0, e60, if_pos (by rw [i_ole (by omega) (by omega)]; omega)]
      rfl
    | succ d ih =>
      intro i j a hi hj
      obtain ⟨j, rfl⟩ : ∃ i, j = i + 1 := ⟨j - 1, by omega⟩
      obtain ⟨w0, w1, w2, w3, w4⟩ := ws i (by omega)
      have A := fun a => ih (i + 1) j a (by omega) (by omega)
      rw [L_L_shoaled_e0, e60, if_neg (by rw [i_ole (by omega) (by omega)]; omega), lp_s]
      rw [show (1 : Int32) = Int32.ofNat 1 from rfl, show (2 : Int32) = Int32.ofNat 2 from rfl, show (3 : Int32) = Int32.ofNat 3 from rfl, show (4 : Int32) = Int32.ofNat 4 from rfl, show (5 : Int32) = Int32.ofNat 5 from rfl, i_oadd, i_oadd, i_oadd, i_oadd, i_oadd, gv_o (by omega), gv_o (by omega), gv_o (by omega), gv_o (by omega), gv_o (by omega), i_tno (by omega), i_tno (by omega), i_tno (by omega), i_tno (by omega), i_tno (by omega), w0, w1, w2, w3, w4, show 72 + 5 * i + 5 = 72 + 5 * (i + 1) by omega, A, A]
      unfold sHold
      simp only [i_lt, i_le]
      by_cases c1 : x.toInt < (p (61 + 5 * i)).toInt
      · rw [if_pos c1, decide_eq_false (by omega)]; rfl
      rw [if_neg c1]
      by_cases c3 : y.toInt < (p (61 + 5 * i + 1)).toInt
      · rw [if_pos c3, decide_eq_false (by omega)]; rfl
      rw [if_neg c3]
      by_cases c2 : (p (61 + 5 * i + 2)).toInt < x.toInt
      · rw [if_pos c2, decide_eq_false (by omega)]; rfl
      rw [if_neg c2]
      by_cases c4 : (p (61 + 5 * i + 3)).toInt < y.toInt
      · rw [if_pos c4, decide_eq_false (by omega)]; rfl
      rw [if_neg c4, decide_eq_true (by omega)]; rfl
  unfold F_L_shoaled
  exact key (p 60).toNatClampNeg 0 n v (by rw [i_tn]; omega) (by rw [i_tn]; omega)
section CELL
variable {x y m : Int32} {k : Nat} {x3 x4 : Int32} {y5 y8 : Int64} {x11 : Int32}
/-- one source at one cell -/
theorem rt_k (hn : 2000 ≤ n) (C : CI T0 T1 I p s) (w : WK K p) (hx : xIn p x) (hy : yIn p y) (hk : k < (p 4).toInt.toNat) {j : Nat} (hj : 20 ≤ j) : ∃ j', j ≤ j' + 20 ∧ L_L_isRight n T0 T1 K m j 2 x3 x4 y5 y y8 x x11 (Int32.ofNat k) 0 0 0 0 0 0 0 I J = L_L_isRight n T0 T1 K m j' 2 x3 x4 y5 y y8 x (x11 + sPart p s k x y (s 0)) (Int32.ofNat (k + 1)) 0 0 0 0 0 0 0 I J := by
  have hw := C.pv.w
  have hh := C.pv.h
  have hc := C.pv.c
  have hA := C.sv.amp k hk
  have hs0 := C.sv.t
  have hcol := sCol_b C.pv s k (s 0)
  have hrow := sRow_b C.pv s k (s 0)
  have hP := sPart_a C.pv C.sv hk x y (s 0)
  have hS := sShort_i p s k x y (s 0)
  have hAr := sArr_i (s := s) C.pv hk x y
  have hPh := sPha_i p s k x y
  have hfr := C.pv.frm k hk
  obtain ⟨w1, w2, w4, w6, w82, w60, ws⟩ := w
  have hx' := hx
  have hy' := hy
  unfold xIn at hx' hcol
  unfold yIn at hy' hrow
  have d1 : (sCol p s k (s 0) - x).toInt = (sCol p s k (s 0)).toInt - x.toInt := i_sub (by omega) (by omega)
  have d2 : (sRow p s k (s 0) - y).toInt = (sRow p s k (s 0)).toInt - y.toInt := i_sub (by omega) (by omega)
  have b1 := jabs_i (x := sCol p s k (s 0) - x) (by omega)
  have b2' := jabs_i (x := sRow p s k (s 0) - y) (by omega)
  have b3 := jabs_i (x := sPart p s k x y (s 0)) (by omega)
  have e5 : ((5 : Int32) * s (6 + k)).toInt = 5 * (s (6 + k)).toInt := by
    have c5 : (5 : Int32).toInt = 5 := rfl
    rw [i_mul (by rw [c5]; omega) (by rw [c5]; omega), c5]
  -- the rows of the wall
  have rows : ∀ (d r j : Nat), r + d = (p 1).toInt.toNat → d < j → ∃ j', j ≤ j' + d + 1 ∧ ∀ (x13 x14 x15 x16 : Int32), L_L_isRight n T0 T1 K m j 4 x3 x4 y5 y y8 x (x11 + sPart p s k x y (s 0)) (Int32.ofNat k) 0 x13 x14 x15 x16 (sShort p s k x y (s 0)) (Int32.ofNat r) I J = L_L_isRight n T0 T1 K m j' 2 x3 x4 y5 y y8 x (x11 + sPart p s k x y (s 0)) (Int32.ofNat (k + 1)) 0 0 0 0 0 0 0 I J := by
    intro d
    induction d with
    | zero =>
      intro r j hr hj
      obtain ⟨j, rfl⟩ : ∃ i, j = i + 1 := ⟨j - 1, by omega⟩
      refine ⟨j, by omega, fun x13 x14 x15 x16 => ?_⟩
      rw [L_L_isRight_e4, w2, if_pos (by rw [i_le, i_of (by omega)]; omega), ixp_1]
    | succ d ih =>
      intro r j hr hj
      obtain ⟨j, rfl⟩ : ∃ i, j = i + 1 := ⟨j - 1, by omega⟩
      have hro : yIn p (Int32.ofNat r) := by unfold yIn; rw [i_of (by omega)]; omega
      obtain ⟨j', hj', E⟩ := ih (r + 1) j (by omega) (by omega)
      cases hcut : sCut p (sCol p s k (s 0)) x with
      | false =>
        refine ⟨j, by omega, fun x13 x14 x15 x16 => ?_⟩
        rw [L_L_isRight_e4, w2, if_neg (by rw [i_le, i_of (by omega)]; omega), a_beh C hk hx hy, ok_s, hcut, if_pos (show b2 false = 0 from rfl), ixp_1]
      | true =>
        rcases hS with ⟨hS1, -⟩ | ⟨hS1, -, hS2⟩
        · refine ⟨j, by omega, fun x13 x14 x15 x16 => ?_⟩
          rw [L_L_isRight_e4, w2, if_neg (by rw [i_le, i_of (by omega)]; omega), a_beh C hk hx hy, ok_s, hcut, if_neg (show ¬ b2 true = 0 by decide), if_pos (by rw [hS1]; decide), ixp_1]
        · have hw3 : p 3 ≠ -1 := by
            unfold sCut at hcut
            exact (of_decide_eq_true hcut).1
          refine ⟨j', by omega, fun x13 x14 x15 x16 => ?_⟩
          rw [L_L_isRight_e4, w2, if_neg (by rw [i_le, i_of (by omega)]; omega), a_beh C hk hx hy, ok_s, hcut, if_neg (show ¬ b2 true = 0 by decide), if_neg (by rw [i_lt, ii_0]; omega), a_isOpen C hro, ok_s]
          cases hop : sOpen s (Int32.ofNat r) with
          | false => rw [if_pos (show b2 false = 0 from rfl), ixp_1]; exact E x13 x14 x15 x16
          | true =>
            rw [if_neg (show ¬ b2 true = 0 by decide), a_path C hk hx hy hro hw3, ok_s, if_pos (by rw [i_le]; exact hS2 hcut r (by omega) hop), ixp_1]
            exact E x13 x14 x15 x16
  obtain ⟨j, rfl⟩ : ∃ i, j = i + 2 := ⟨j - 2, by omega⟩
  obtain ⟨j', hj', R⟩ := rows (p 1).toInt.toNat 0 j (by omega) (by omega)
  refine ⟨j', by omega, ?_⟩
  -- what is checked of the path
  have t3 : L_L_isRight n T0 T1 K m (j + 1) 3 x3 x4 y5 y y8 x (x11 + sPart p s k x y (s 0)) (Int32.ofNat k) 0 (sPart p s k x y (s 0)) (sCol p s k (s 0)) (sRow p s k (s 0)) (far (jabs (sCol p s k (s 0) - x)) (jabs (sRow p s k (s 0) - y))) (sShort p s k x y (s 0)) 0 I J = L_L_isRight n T0 T1 K m j' 2 x3 x4 y5 y y8 x (x11 + sPart p s k x y (s 0)) (Int32.ofNat (k + 1)) 0 0 0 0 0 0 0 I J := by
    rw [L_L_isRight_e3]
    rcases hS with ⟨hS1, -⟩ | ⟨hS1, hS3, -⟩
    · rw [if_pos (show sShort p s k x y (s 0) < 0 by rw [hS1]; decide)]
      exact R _ _ _ _
    · have q1 := hAr.2 hS1.1
      have q2 := hPh.2 hS1.1
      have f1 : ¬ sShort p s k x y (s 0) < 0 := by rw [i_lt, ii_0]; omega
      have f2 : ¬ sArr p s k x y < p (13 + k) := by rw [i_lt]; omega
      have f3 : ¬ sPha p s k x y < 0 := by rw [i_lt, ii_0]; omega
      have f4 : sPha p s k x y ≤ 359 := by rw [i_le]; exact q2.2
      rw [if_neg f1, a_beh C hk hx hy, ok_s]
      cases hcut : sCut p (sCol p s k (s 0)) x with
      | false =>
        have f5 : sShort p s k x y (s 0) = far (jabs (sCol p s k (s 0) - x)) (jabs (sRow p s k (s 0) - y)) := by rw [hS3 hcut, far_jabs, far_neg]
        rw [if_pos (show b2 false = 0 from rfl), if_pos f5, a_arr hn C hk hx hy, ok_s, a_frm C hk, ok_s, if_neg f2, a_phase hn C hk hx hy, ok_s, if_neg f3, ok_s, if_pos f4]
        exact R _ _ _ _
      | true =>
        rw [if_neg (show ¬ b2 true = 0 by decide), a_arr hn C hk hx hy, ok_s, a_frm C hk, ok_s, if_neg f2, a_phase hn C hk hx hy, ok_s, if_neg f3, ok_s, if_pos f4]
        exact R _ _ _ _
  have off : s (2 + k) = 0 → sPart p s k x y (s 0) = 0 := fun q => by unfold sPart; rw [if_pos q]
  have g1 : ¬ p 4 ≤ Int32.ofNat k := by rw [i_le, i_of (by omega)]; omega
  have g2 : ¬ (5 : Int32) * s (6 + k) < jabs (sPart p s k x y (s 0)) := by rw [i_lt, e5, b3]; omega
  rw [← t3, L_L_isRight_e2, w6, if_neg g1, a_part hn C hk hx hy, ok_s, a_time C, bd_s, a_atX C hk hs0, ok_s, bd_s, a_atY C hk hs0, ok_s, a_dist C ⟨by omega, by omega⟩ ⟨by omega, by omega⟩, ok_s, a_short hn C hk hx hy, ok_s, a_amp C hk, ok_s, if_neg g2, a_beh C hk hx hy, ok_s]
  cases hcut : sCut p (sCol p s k (s 0)) x with
  | false =>
    rw [if_pos (show b2 false = 0 from rfl), a_on C hk, ok_s]
    by_cases hon : s (2 + k) = 0
    · rw [if_pos hon, if_pos (off hon)]
      rcases hS with ⟨hS1, hS2⟩ | ⟨hS1, -, -⟩
      · rw [if_neg (show ¬ 0 ≤ sShort p s k x y (s 0) by rw [hS1]; decide), if_pos hS2, a_arr hn C hk hx hy, ok_s, if_pos (hAr.1 hS1), a_phase hn C hk hx hy, ok_s, if_pos (hPh.1 hS1)]
      · rw [if_pos (show 0 ≤ sShort p s k x y (s 0) by rw [i_le, ii_0]; exact hS1.1)]
    · rw [if_neg hon]
      rcases hS with ⟨hS1, hS2⟩ | ⟨hS1, -, -⟩
      · rw [if_neg (show ¬ 0 ≤ sShort p s k x y (s 0) by rw [hS1]; decide), if_pos hS2, a_arr hn C hk hx hy, ok_s, if_pos (hAr.1 hS1), a_phase hn C hk hx hy, ok_s, if_pos (hPh.1 hS1)]
      · rw [if_pos (show 0 ≤ sShort p s k x y (s 0) by rw [i_le, ii_0]; exact hS1.1)]
  | true =>
    have := hP.2 hcut
    have g3 : ¬ s (6 + k) < jabs (sPart p s k x y (s 0)) := by rw [i_lt, b3]; omega
    rw [if_neg (show ¬ b2 true = 0 by decide), ok_s, if_neg g3, a_on C hk, ok_s]
    by_cases hon : s (2 + k) = 0
    · rw [if_pos hon, if_pos (off hon)]
      rcases hS with ⟨hS1, hS2⟩ | ⟨hS1, -, -⟩
      · rw [if_neg (show ¬ 0 ≤ sShort p s k x y (s 0) by rw [hS1]; decide), if_pos hS2, a_arr hn C hk hx hy, ok_s, if_pos (hAr.1 hS1), a_phase hn C hk hx hy, ok_s, if_pos (hPh.1 hS1)]
      · rw [if_pos (show 0 ≤ sShort p s k x y (s 0) by rw [i_le, ii_0]; exact hS1.1)]
    · rw [if_neg hon]
      rcases hS with ⟨hS1, hS2⟩ | ⟨hS1, -, -⟩
      · rw [if_neg (show ¬ 0 ≤ sShort p s k x y (s 0) by rw [hS1]; decide), if_pos hS2, a_arr hn C hk hx hy, ok_s, if_pos (hAr.1 hS1), a_phase hn C hk hx hy, ok_s, if_pos (hPh.1 hS1)]
      · rw [if_pos (show 0 ≤ sShort p s k x y (s 0) by rw [i_le, ii_0]; exact hS1.1)]
/-- all sources at one cell -/
theorem rt_src (hn : 2000 ≤ n) (C : CI T0 T1 I p s) (w : WK K p) (hx : xIn p x) (hy : yIn p y) : ∀ (d k j : Nat) (x11 : Int32), k + d = (p 4).toInt.toNat → 20 * d ≤ j → ∃ j', j ≤ j' + 20 * d ∧ L_L_isRight n T0 T1 K m j 2 x3 x4 y5 y y8 x x11 (Int32.ofNat k) 0 0 0 0 0 0 0 I J = L_L_isRight n T0 T1 K m j' 2 x3 x4 y5 y y8 x (lp (fun k a => a + sPart p s k x y (s 0)) d k x11) (Int32.ofNat (p 4).toInt.toNat) 0 0 0 0 0 0 0 I J
  | 0, k, j, x11, hk, hj => ⟨j, by omega, by rw [show k = (p 4).toInt.toNat by omega]; rfl⟩
  | d + 1, k, j, x11, hk, hj => by
    obtain ⟨j1, h1, e1⟩ := rt_k (x3 := x3) (x4 := x4) (y5 := y5) (y8 := y8) (x11 := x11) (J := J) (m := m) hn C w hx hy (k := k) (by omega) (j := j) (by omega)
    obtain ⟨j2, h2, e2⟩ := rt_src hn C w hx hy d (k + 1) j1 (x11 + sPart p s k x y (s 0)) (by omega) (by omega)
    exact ⟨j2, by omega, by rw [e1, e2]; rfl⟩
/-- nodes and marks are counted on -/
theorem rt_5 (hn : 2000 ≤ n) (C : CI T0 T1 I p s) (hx : xIn p x) (hy : yIn p y) (hm : 1 ≤ m.toInt ∧ m.toInt ≤ 40) (v : Int32) (e : Int64) (j : Nat) : ∃ J', L_L_isRight n T0 T1 K m (j + 1) 5 x3 x4 y5 y y8 x v 0 e 0 0 0 0 0 0 I J = L_L_isRight n T0 T1 K m j 1 (if sCalm p s x y m 20 then x3 + 1 else x3) (if shr (sEner p s x y m) 50 (eMax p s m) then x4 + 1 else x4) y5 y y8 (x + 1) 0 0 0 0 0 0 0 0 0 I J' := by
  obtain ⟨J', eM⟩ := a_isMark (J := J) hn C hx hy hm (sh := 50) ⟨by decide, by decide⟩
  refine ⟨J', ?_⟩
  rw [L_L_isRight_e5, a_isNode hn C hx hy hm (tol := 20) ⟨by decide, by decide⟩, ok_s, eM, ok_s]
  dsimp only
  cases sCalm p s x y m 20 with
  | false =>
    rw [if_pos (show b2 false = 0 from rfl), if_neg (show ¬ (false = true) by decide)]
    cases shr (sEner p s x y m) 50 (eMax p s m) with
    | false => rw [if_pos (show b2 false = 0 from rfl), if_neg (show ¬ (false = true) by decide), Int32.add_zero, Int32.add_zero]
    | true => rw [if_neg (show ¬ b2 true = 0 by decide), if_pos rfl, Int32.add_zero]
  | true =>
    rw [if_neg (show ¬ b2 true = 0 by decide), if_pos rfl, ok_s]
    dsimp only
    cases shr (sEner p s x y m) 50 (eMax p s m) with
    | false => rw [if_pos (show b2 false = 0 from rfl), if_neg (show ¬ (false = true) by decide), Int32.add_zero]
    | true => rw [if_neg (show ¬ b2 true = 0 by decide), if_pos rfl]
/-- one cell -/
theorem rt_cell (hn : 2000 ≤ n) (C : CI T0 T1 I p s) (w : WK K p) (hx : xIn p x) (hy : yIn p y) (hm : 1 ≤ m.toInt ∧ m.toInt ≤ 40) {j : Nat} (hj : 90 ≤ j) : ∃ j' J', j ≤ j' + 90 ∧ L_L_isRight n T0 T1 K m j 1 x3 x4 y5 y y8 x 0 0 0 0 0 0 0 0 0 I J = L_L_isRight n T0 T1 K m j' 1 (if sCalm p s x y m 20 then x3 + 1 else x3) (if shr (sEner p s x y m) 50 (eMax p s m) then x4 + 1 else x4) y5 y (y8 + sEner p s x y m) (x + 1) 0 0 0 0 0 0 0 0 0 I J' := by
  have hw := C.pv.w
  have hc := C.pv.c
  have hs0 := C.sv.t
  have hxx := hx
  unfold xIn at hxx
  obtain ⟨j, rfl⟩ : ∃ i, j = i + 1 := ⟨j - 1, by omega⟩
  obtain ⟨j1, h1, e1⟩ := rt_src (x3 := x3) (x4 := x4) (y5 := y5) (y8 := y8) (J := J) (m := m) hn C w hx hy (p 4).toInt.toNat 0 j 0 (by omega) (by omega)
  obtain ⟨j2, rfl⟩ : ∃ i, j1 = i + 2 := ⟨j1 - 2, by omega⟩
  obtain ⟨J1, eM⟩ := a_isMark (J := J) hn C hx hy hm (sh := 1) ⟨by decide, by decide⟩
  obtain ⟨J2, e52⟩ := rt_5 (x3 := x3) (x4 := x4) (y5 := y5) (y8 := y8 + sEner p s x y m) (J := J) (K := K) hn C hx hy hm (sWave p s x y (s 0)) (sEner p s x y m) j2
  obtain ⟨J3, e53⟩ := rt_5 (x3 := x3) (x4 := x4) (y5 := y5) (y8 := y8 + sEner p s x y m) (J := J1) (K := K) hn C hx hy hm (sWave p s x y (s 0)) (sEner p s x y m) j2
  obtain ⟨w1, w2, w4, w6, w82, w60, ws⟩ := id w
  have start : L_L_isRight n T0 T1 K m (j + 1) 1 x3 x4 y5 y y8 x 0 0 0 0 0 0 0 0 0 I J = L_L_isRight n T0 T1 K m (j2 + 2) 2 x3 x4 y5 y y8 x (lp (fun k a => a + sPart p s k x y (s 0)) (p 4).toInt.toNat 0 0) (Int32.ofNat (p 4).toInt.toNat) 0 0 0 0 0 0 0 I J := by
    rw [← e1, L_L_isRight_e1, w1, if_neg (by rw [i_le]; omega)]
    rfl
  have ew : lp (fun i a => if sHold p i x y then a * p (61 + 5 * i + 4) / 100 else a) (p 60).toNatClampNeg 0 (lp (fun k a => a + sPart p s k x y (s 0)) (p 4).toInt.toNat 0 0) = sWave p s x y (s 0) := rfl
  have hcalm := calm_0 C.pv C.sv x y (m := m) (by omega)
  have mid : ∃ J', L_L_isRight n T0 T1 K m (j2 + 1 + 1) 2 x3 x4 y5 y y8 x (lp (fun k a => a + sPart p s k x y (s 0)) (p 4).toInt.toNat 0 0) (Int32.ofNat (p 4).toInt.toNat) 0 0 0 0 0 0 0 I J = L_L_isRight n T0 T1 K m j2 1 (if sCalm p s x y m 20 then x3 + 1 else x3) (if shr (sEner p s x y m) 50 (eMax p s m) then x4 + 1 else x4) y5 y (y8 + sEner p s x y m) (x + 1) 0 0 0 0 0 0 0 0 0 I J' := by
    rw [L_L_isRight_e2, w6, i_on (by omega), if_pos (by rw [i_le]; exact Int.le_refl _), a_energy hn C hx hy hm, ok_s, sh_s hn C.pv w, bd_s, ew, a_wave hn C hx hy, ok_s, if_pos rfl, a_time C, bd_s, a_waveAt hn C hx hy hs0, ok_s, if_pos rfl, a_isNode hn C hx hy hm (tol := 0) ⟨by decide, by decide⟩, ok_s, hcalm, eM, ok_s]
    dsimp only
    have inner : ∃ J', (if lg_cmp (sEner p s x y m) 0 = 0 then if b2 (decide (sEner p s x y m = 0)) = (1 : Int32) then if lg_cmp (sEner p s x y m) 0 = 0 then if b2 (shr (sEner p s x y m) 1 (eMax p s m)) = 0 then L_L_isRight n T0 T1 K m (j2 + 1) 5 x3 x4 y5 y (y8 + sEner p s x y m) x (sWave p s x y (s 0)) 0 (sEner p s x y m) 0 0 0 0 0 0 I J1 else some ((0 : Int32), I, J1) else L_L_isRight n T0 T1 K m (j2 + 1) 5 x3 x4 y5 y (y8 + sEner p s x y m) x (sWave p s x y (s 0)) 0 (sEner p s x y m) 0 0 0 0 0 0 I J else some ((0 : Int32), I, J) else if b2 (decide (sEner p s x y m = 0)) = (0 : Int32) then if lg_cmp (sEner p s x y m) 0 = 0 then if b2 (shr (sEner p s x y m) 1 (eMax p s m)) = 0 then L_L_isRight n T0 T1 K m (j2 + 1) 5 x3 x4 y5 y (y8 + sEner p s x y m) x (sWave p s x y (s 0)) 0 (sEner p s x y m) 0 0 0 0 0 0 I J1 else some ((0 : Int32), I, J1) else L_L_isRight n T0 T1 K m (j2 + 1) 5 x3 x4 y5 y (y8 + sEner p s x y m) x (sWave p s x y (s 0)) 0 (sEner p s x y m) 0 0 0 0 0 0 I J else some ((0 : Int32), I, J)) = L_L_isRight n T0 T1 K m j2 1 (if sCalm p s x y m 20 then x3 + 1 else x3) (if shr (sEner p s x y m) 50 (eMax p s m) then x4 + 1 else x4) y5 y (y8 + sEner p s x y m) (x + 1) 0 0 0 0 0 0 0 0 0 I J' := by
      by_cases z : sEner p s x y m = 0
      · have z1 : lg_cmp (sEner p s x y m) 0 = 0 := (cmp_0 _ _).mpr z
        refine ⟨J3, ?_⟩
        rw [if_pos z1, if_pos (by rw [decide_eq_true z]; rfl), if_pos z1, if_pos (by rw [shr_0 z]; rfl)]
        exact e53
      · have z1 : ¬ lg_cmp (sEner p s x y m) 0 = 0 := fun q => z ((cmp_0 _ _).mp q)
        refine ⟨J2, ?_⟩
        rw [if_neg z1, if_pos (by rw [decide_eq_false z]; rfl), if_neg z1]
        exact e52
    by_cases hm1 : m = (1 : Int32)
    · rw [if_pos hm1, if_pos (by rw [cmp_0, hm1]; exact sEner_1 p s x y)]
      exact inner
    · rw [if_neg hm1]
      exact inner
  obtain ⟨J', e9⟩ := mid
  exact ⟨j2, J', by omega, by rw [start, e9]⟩
end CELL
end RIGHT
