/-! isBest says yes and leaves the state; seen tells of the plan and the state alone -/
def PH (p s : gP) : Prop := ∀ k, k < (p 4).toInt.toNat → 0 ≤ (s (10 + k)).toInt ∧ (s (10 + k)).toInt ≤ 359
def SM (p : gP) : Prop := (p 0).toInt ≤ 8 ∧ (p 1).toInt ≤ 5 ∧ (p 4).toInt ≤ 3
theorem up_id (s : gP) (t : Nat) : up s t (s t) = s := by
  funext i
  unfold up
  by_cases h : i = t
  · rw [if_pos h, h]
  · rw [if_neg h]
section BEST
variable {n T0 T1 : Nat} {I K : gI} {J N : gJ} {p s : gP}
theorem bs_all (hn : 2000 ≤ n) (C : CI T0 T1 I p s) (hph : PH p s) {k : Nat} (hk : k < (p 4).toInt.toNat) {x y m : Int32} (hx : xIn p x) (hy : yIn p y) (hm : 1 ≤ m.toInt ∧ m.toInt ≤ 40) {q : Nat} (hq : q < 24) (hb : ∀ r, r < 24 → ¬ sEner p (up s (10 + k) (Int32.ofNat (15 * r))) x y m < sEner p (up s (10 + k) (Int32.ofNat (15 * q))) x y m ∧ (r < q → ¬ sEner p (up s (10 + k) (Int32.ofNat (15 * r))) x y m = sEner p (up s (10 + k) (Int32.ofNat (15 * q))) x y m)) : ∃ I', F_L_isBest n T0 T1 I (Int32.ofNat k) x y m (Int32.ofNat (15 * q)) = some (1, I') ∧ CI T0 T1 I' p s := by
  have hc := C.pv.c
  have c360 : (360 : Int32) = Int32.ofNat 360 := rfl
  have c15 : (15 : Int32) = Int32.ofNat 15 := rfl
  have key : ∀ (d r j : Nat) (I1 : gI) (v : Nat), r + d = 24 → d < j → v ≤ 345 → (r = 24 → v = 345) → CI T0 T1 I1 p (up s (10 + k) (Int32.ofNat v)) → ∃ I', L_L_isBest n T0 T1 (Int32.ofNat k) x y m (Int32.ofNat (15 * q)) j 0 (s (10 + k)) (sEner p (up s (10 + k) (Int32.ofNat (15 * q))) x y m) (Int32.ofNat (15 * r)) I1 = some (1, I') ∧ CI T0 T1 I' p s := by
    intro d
    induction d with
    | zero =>
      intro r j I1 v hr hj hv h345 C1
      obtain ⟨j, rfl⟩ : ∃ i, j = i + 1 := ⟨j - 1, by omega⟩
      have hr' : r = 24 := by omega
      obtain ⟨I2, e, C2, -, -⟩ := a_setPh (n := n) hn C1 hk (v := s (10 + k)) (hph k hk)
      rw [up_up, up_id] at C2
      refine ⟨I2, ?_, C2⟩
      have e9 : up s (10 + k) (Int32.ofNat v) (10 + k) = 345 := by rw [up_t, h345 hr']; rfl
      rw [e9] at e
      rw [L_L_isBest_e0, if_pos (show (360 : Int32) ≤ Int32.ofNat (15 * r) by rw [hr']; decide), e, ok_s]
      exact if_pos rfl
    | succ d ih =>
      intro r j I1 v hr hj hv h345 C1
      obtain ⟨j, rfl⟩ : ∃ i, j = i + 1 := ⟨j - 1, by omega⟩
      obtain ⟨I2, e, C2, -, -⟩ := a_setPh (n := n) hn C1 hk (v := Int32.ofNat (15 * r)) (by rw [i_of (by omega)]; omega)
      rw [up_up] at C2
      rw [up_t] at e
      have eE := a_energy (n := n) hn C2 hx hy hm
      have hbr := hb r (by omega)
      have f1 : ¬ (360 : Int32) ≤ Int32.ofNat (15 * r) := by rw [c360, i_ole (by omega) (by omega)]; omega
      have f2 : (0 : Int32) ≤ Int32.ofNat v := by rw [i_le, ii_0, i_of (by omega)]; omega
      have f3 : ¬ lg_cmp (sEner p (up s (10 + k) (Int32.ofNat (15 * r))) x y m) (sEner p (up s (10 + k) (Int32.ofNat (15 * q))) x y m) < 0 := by
        have := (cmp_g (sEner p (up s (10 + k) (Int32.ofNat (15 * r))) x y m) (sEner p (up s (10 + k) (Int32.ofNat (15 * q))) x y m)).mpr hbr.1
        rw [i_le, ii_0] at this
        rw [i_lt, ii_0]; omega
      obtain ⟨I3, e3, C3⟩ := ih (r + 1) j I2 (15 * r) (by omega) (by omega) (by omega) (by omega) C2
      refine ⟨I3, ?_, C3⟩
      rw [L_L_isBest_e0, if_neg f1, e, ok_s]
      dsimp only
      rw [if_pos f2, eE, ok_s, if_neg f3, c15, i_oadd, show 15 * r + 15 = 15 * (r + 1) by omega, e3]
      by_cases z : lg_cmp (sEner p (up s (10 + k) (Int32.ofNat (15 * r))) x y m) (sEner p (up s (10 + k) (Int32.ofNat (15 * q))) x y m) = 0
      · rw [if_pos z]
        have f4 : Int32.ofNat (15 * q) ≤ Int32.ofNat (15 * r) := by
          rw [i_ole (by omega) (by omega)]
          have : ¬ r < q := fun h => hbr.2 h ((cmp_0 _ _).mp z)
          omega
        exact if_pos f4
      · exact if_neg z
  obtain ⟨I1, e1, C1, -, -⟩ := a_setPh (n := n) hn C hk (v := Int32.ofNat (15 * q)) (by rw [i_of (by omega)]; omega)
  have eE := a_energy (n := n) hn C1 hx hy hm
  obtain ⟨I2, e2, C2⟩ := key 24 0 n I1 (15 * q) (by omega) (by omega) (by omega) (by omega) C1
  refine ⟨I2, ?_, C2⟩
  unfold F_L_isBest
  rw [e1, ok_s]
  dsimp only
  rw [eE, ok_s]
  exact e2
/-! seen -/
def ru (r : Nat → Int64) (i : Nat) (v : Int64) : Nat → Int64 := fun k => if k = i then v else r k
/-- what the row tells after a source -/
def sK (p s : gP) (k : Nat) (r : Nat → Int64) : Nat → Int64 := ru (ru (ru (ru (ru r (3 + 5 * k) (if s (2 + k) = 0 then 0 else 1)) (4 + 5 * k) (s (6 + k)).toInt64) (5 + 5 * k) (s (10 + k)).toInt64) (6 + 5 * k) (sCol p s k 500).toInt64) (7 + 5 * k) (sRow p s k 500).toInt64
def sC (p s : gP) (b c : Nat) (r : Nat → Int64) : Nat → Int64 := ru r (b + c) (sWave p s (Int32.ofNat (c % (p 0).toInt.toNat)) (Int32.ofNat (c / (p 0).toInt.toNat)) (s 0)).toInt64
def sRw (p s : gP) (r : Nat → Int64) : Nat → Int64 := lp (sC p s (3 + 5 * (p 4).toInt.toNat)) (nC p) 0 (lp (sK p s) (p 4).toInt.toNat 0 (ru (ru (ru r 0 (s 0).toInt64) 1 (s 1).toInt64) 2 (nE p s 3 (nC p))))
theorem lt_e9 {α β : Type} (x : α) (g : α → β) : lt x g = g x := rfl
theorem sJ_r {N : gJ} {o : Nat} {r : Nat → Int64} (h : N o = r) (i : Nat) (v : Int64) : sJ N o i v o = ru r i v := by
  funext k
  rw [sJ_get]
  unfold ru
  by_cases e : k = i
  · rw [if_pos ⟨rfl, e⟩, if_pos e]
  · rw [if_neg (fun z => e z.2), if_neg e, h]
theorem sJ_f {N N' : gJ} {o : Nat} (h : ∀ o', o' ≠ o → N' o' = N o') (i : Nat) (v : Int64) : ∀ o', o' ≠ o → sJ N' o i v o' = N o' := by
  intro o' ho
  rw [← h o' ho]
  funext k
  rw [sJ_get, if_neg (fun z => ho z.1)]
theorem seen_s (hn : 2000 ≤ n) (C : CI T0 T1 I p s) (w : WK K p) (hsm : SM p) {o2 : Nat} {r0 : Nat → Int64} (h0 : N o2 = r0) : ∃ J' N', F_L_seen n T0 T1 o2 I J K N = some (J', N') ∧ N' o2 = sRw p s r0 ∧ ∀ o, o ≠ o2 → N' o = N o := by
  have hw := C.pv.w
  have hh := C.pv.h
  have hc := C.pv.c
  obtain ⟨w1, w2, w4, w6, w82, w60, ws⟩ := w
  obtain ⟨m1, m2, m3⟩ := hsm
  have hN : nC p ≤ 40 := by unfold nC; exact Nat.le_trans (Nat.mul_le_mul (show _ ≤ 8 by omega) (show _ ≤ 5 by omega)) (by decide)
  have ecell : p 0 * p 1 = Int32.ofNat (nC p) := (cells_e C.pv).1
  have c500 : (0 : Int) ≤ (500 : Int32).toInt ∧ (500 : Int32).toInt ≤ 9999 := ⟨by decide, by decide⟩
  -- the waves
  have waves : ∀ (d c j : Nat) (J : gJ) (N1 : gJ) (r : Nat → Int64), c + d = nC p → d < j → N1 o2 = r → (∀ o, o ≠ o2 → N1 o = N o) → ∃ J' N', L_L_seen n T0 T1 o2 I K j 1 (Int32.ofNat (3 + 5 * (p 4).toInt.toNat + c)) (Int32.ofNat c) J N1 = some (J', N') ∧ N' o2 = lp (sC p s (3 + 5 * (p 4).toInt.toNat)) d c r ∧ ∀ o, o ≠ o2 → N' o = N o := by
    intro d
    induction d with
    | zero =>
      intro c j J N1 r hc' hj h1 h2
      obtain ⟨j, rfl⟩ : ∃ i, j = i + 1 := ⟨j - 1, by omega⟩
      have f1 : Int32.ofNat (nC p) ≤ Int32.ofNat c := by rw [i_ole (by omega) (by omega)]; omega
      exact ⟨J, N1, by rw [L_L_seen_e1, w1, w2, ecell, if_pos f1], h1, h2⟩
    | succ d ih =>
      intro c j J N1 r hc' hj h1 h2
      obtain ⟨j, rfl⟩ : ∃ i, j = i + 1 := ⟨j - 1, by omega⟩
      have f1 : ¬ Int32.ofNat (nC p) ≤ Int32.ofNat c := by rw [i_ole (by omega) (by omega)]; omega
      have cx := cell_x C.pv (k := c) (by unfold nC at hc'; omega)
      obtain ⟨J', N', e, q1, q2⟩ := ih (c + 1) j J (sJ N1 o2 (3 + 5 * (p 4).toInt.toNat + c) (sWave p s (Int32.ofNat (c % (p 0).toInt.toNat)) (Int32.ofNat (c / (p 0).toInt.toNat)) (s 0)).toInt64) _ (by omega) (by omega) (sJ_r h1 _ _) (sJ_f h2 _ _)
      refine ⟨J', N', ?_, q1, q2⟩
      rw [L_L_seen_e1, w1, w2, ecell, if_neg f1, gd_t cx.1, gd_t cx.1, cx.2.2.2.2.1, cx.2.2.2.2.2, a_wave hn C cx.2.2.1 cx.2.2.2.1, ok_s, gv_o (by omega), i_tno (by omega), lt_e9, ixp_1, ixp_1]
      exact e
  -- the sources
  have srcs : ∀ (d k j : Nat) (J : gJ) (N1 : gJ) (r : Nat → Int64), k + d = (p 4).toInt.toNat → d + 60 < j → N1 o2 = r → (∀ o, o ≠ o2 → N1 o = N o) → ∃ J' N', L_L_seen n T0 T1 o2 I K j 0 (Int32.ofNat (3 + 5 * k)) (Int32.ofNat k) J N1 = some (J', N') ∧ N' o2 = lp (sC p s (3 + 5 * (p 4).toInt.toNat)) (nC p) 0 (lp (sK p s) d k r) ∧ ∀ o, o ≠ o2 → N' o = N o := by
    intro d
    induction d with
    | zero =>
      intro k j J N1 r hk hj h1 h2
      obtain ⟨j, rfl⟩ : ∃ i, j = i + 1 := ⟨j - 1, by omega⟩
      have f1 : p 4 ≤ Int32.ofNat k := by rw [i_le, i_of (by omega)]; omega
      obtain ⟨J', N', e, q1, q2⟩ := waves (nC p) 0 j J N1 r (by omega) (by omega) h1 h2
      refine ⟨J', N', ?_, q1, q2⟩
      rw [L_L_seen_e0, w6, if_pos f1, show k = (p 4).toInt.toNat by omega]
      exact e
    | succ d ih =>
      intro k j J N1 r hk hj h1 h2
      obtain ⟨j, rfl⟩ : ∃ i, j = i + 1 := ⟨j - 1, by omega⟩
      have hk' : k < (p 4).toInt.toNat := by omega
      have f1 : ¬ p 4 ≤ Int32.ofNat k := by rw [i_le, i_of (by omega)]; omega
      have x1 : Int32.ofNat (3 + 5 * k) + 1 = Int32.ofNat (4 + 5 * k) := by rw [ixp_1]; congr 1; omega
      have x2 : Int32.ofNat (4 + 5 * k) + 1 = Int32.ofNat (5 + 5 * k) := by rw [ixp_1]; congr 1; omega
      have x3 : Int32.ofNat (5 + 5 * k) + 1 = Int32.ofNat (6 + 5 * k) := by rw [ixp_1]; congr 1; omega
      have x4 : Int32.ofNat (6 + 5 * k) + 1 = Int32.ofNat (7 + 5 * k) := by rw [ixp_1]; congr 1; omega
      have x5 : Int32.ofNat (7 + 5 * k) + 1 = Int32.ofNat (3 + 5 * (k + 1)) := by rw [ixp_1]; congr 1; omega
      obtain ⟨J', N', e, q1, q2⟩ := ih (k + 1) j J (sJ (sJ (sJ (sJ (sJ N1 o2 (3 + 5 * k) (if s (2 + k) = 0 then 0 else 1)) o2 (4 + 5 * k) (s (6 + k)).toInt64) o2 (5 + 5 * k) (s (10 + k)).toInt64) o2 (6 + 5 * k) (sCol p s k 500).toInt64) o2 (7 + 5 * k) (sRow p s k 500).toInt64) _ (by omega) (by omega) (sJ_r (sJ_r (sJ_r (sJ_r (sJ_r h1 _ _) _ _) _ _) _ _) _ _) (sJ_f (sJ_f (sJ_f (sJ_f (sJ_f h2 _ _) _ _) _ _) _ _) _ _)
      refine ⟨J', N', ?_, q1, q2⟩
      rw [L_L_seen_e0, w6, if_neg f1, a_on C hk', ok_s]
      by_cases hon : s (2 + k) = 0
      · rw [if_pos hon] at e
        rw [if_pos hon, gv_o (by omega), i_tno (by omega), lt_e9, a_amp C hk', ok_s, x1, gv_o (by omega), i_tno (by omega), lt_e9, a_pha C hk', ok_s, x2, gv_o (by omega), i_tno (by omega), lt_e9, a_atX C hk' c500, ok_s, x3, gv_o (by omega), i_tno (by omega), lt_e9, a_atY C hk' c500, ok_s, x4, gv_o (by omega), i_tno (by omega), lt_e9, x5, ixp_1]
        exact e
      · rw [if_neg hon] at e
        rw [if_neg hon, gv_o (by omega), i_tno (by omega), lt_e9, a_amp C hk', ok_s, x1, gv_o (by omega), i_tno (by omega), lt_e9, a_pha C hk', ok_s, x2, gv_o (by omega), i_tno (by omega), lt_e9, a_atX C hk' c500, ok_s, x3, gv_o (by omega), i_tno (by omega), lt_e9, a_atY C hk' c500, ok_s, x4, gv_o (by omega), i_tno (by omega), lt_e9, x5, ixp_1]
        exact e
  obtain ⟨J1, eA⟩ := a_allE (J := J) hn C (m := 3) ⟨by decide, by decide⟩
  obtain ⟨J', N', e, q1, q2⟩ := srcs (p 4).toInt.toNat 0 n J1 (sJ (sJ (sJ N o2 0 (s 0).toInt64) o2 1 (s 1).toInt64) o2 2 (nE p s 3 (nC p))) _ (by omega) (by omega) (sJ_r (sJ_r (sJ_r h0 _ _) _ _) _ _) (sJ_f (sJ_f (sJ_f (fun _ _ => rfl) _ _) _ _) _ _)
  refine ⟨J', N', ?_, q1, q2⟩
  unfold F_L_seen
  rw [a_time C, bd_s, lt_e9, a_open C, ok_s, show (0 : Int32) + 1 = Int32.ofNat 1 from rfl, gv_o (by omega), i_tno (by omega), lt_e9, eA, ok_s]
  exact e
end BEST
