theorem TV.cg {K K' : gI} (h : TV K) (h1 : ∀ i, K' 162 i = K 162 i) (h2 : K' 153 24 = K 153 24) : TV K' := by
  rcases h with h | h
  · exact Or.inl (h2.trans h)
  · right
    funext o i
    unfold kt
    by_cases c1 : o = 162 ∧ i < 640
    · rw [if_pos c1, c1.1, h1, h]; unfold kt; rw [if_pos ⟨rfl, c1.2⟩]
    · rw [if_neg c1]
      by_cases c2 : o = 153 ∧ i = 24
      · rw [if_pos c2, c2.1, c2.2, h2, h]; unfold kt; rw [if_neg (by decide), if_pos ⟨rfl, rfl⟩]
      · rw [if_neg c2]
theorem TV.up {K : gI} (h : TV K) {o i : Nat} {v : Int32} (h1 : o ≠ 162) (h2 : o ≠ 153 ∨ i ≠ 24) : TV (sI K o i v) :=
  h.cg (fun j => by rw [sI_o (fun q => h1 q.symm)]) (by rw [sI_get, if_neg (by omega)])
theorem LD.ir {T0 T1 : Nat} {I I' K : gI} (L : LD T0 I K) (ht : (T0 = 95 ∧ T1 = 116) ∨ (T0 = 116 ∧ T1 = 95)) (hI : ∀ o i, ¬ irI T1 o → I' o i = I o i) : LD T0 I' K :=
  LD.mk L.pv L.c1 (L.tr.cg L.pv.c.2 L.pv.sh.2 (fun q i a b => hI _ _ (by unfold irI; omega))) (L.sr.cg (fun q i a b => hI _ _ (by unfold irI; omega))) L.sv
theorem RU.ir {T1 : Nat} {I I' : gI} (h : RU I) (ht : T1 = 116 ∨ T1 = 95) (hI : ∀ o i, ¬ irI T1 o → I' o i = I o i) : RU I' := by
  intro x y hx hy; rw [hI _ _ (by unfold irI; omega)]; exact h x y hx hy
/-- the wave at a gauge, i later -/
def gw (p s : gP) (g i : Nat) : Int32 := sWave p s (p (77 + 2 * g)) (p (77 + 2 * g + 1)) (s 0 + Int32.ofNat i)
section FACEC
variable {n T0 T1 : Nat} {I K : gI}
theorem m_gw (hn : 2000 ≤ n) {p s : gP} (hp : PV p) (hv : SV p s) (h : MK K (153 + 4) p s) {g : Nat} (hg : g < (p 76).toInt.toNat) (i : Nat) : ∃ K', F_X10_gaugeWave n K (Int32.ofNat g) (Int32.ofNat i) = some (gw p s g i, K') ∧ Tq K K' := by
  have hga := hp.ga
  have hx : xIn p (p (77 + 2 * g)) := hp.gx g hg
  have hy : yIn p (p (77 + 2 * g + 1)) := hp.gy g hg
  obtain ⟨K', e, q⟩ := m_wave hn hp hv h hx hy (s 0 + Int32.ofNat i)
  unfold F_X10_gaugeWave
  simp (disch := omega) only [xm_2, ix_77, ixp_1, gv_k, i_tno, h.hp, h.hs, e, bd_s]
  exact ⟨K', rfl, q⟩
theorem c_fill (hn : 2000 ≤ n) (ht : (T0 = 95 ∧ T1 = 116) ∨ (T0 = 116 ∧ T1 = 95)) (L : LD T0 I K) (ru : RU I) {g : Nat} (hg : g < (pl K 76).toInt.toNat) {m : Int32} (hm : m.toInt ≤ 60) : ∃ I', F_X9_fillSeries n T0 T1 I (Int32.ofNat g) m = some I' ∧ (∀ o i, o ≠ 92 → I' o i = I o i) ∧ (∀ i, i < m.toInt.toNat → I' 92 i = gw (pl K) (st K) g i) := by
  have hga := L.pv.ga
  have hx : xIn (pl K) (pl K (77 + 2 * g)) := L.pv.gx g hg
  have hy : yIn (pl K) (pl K (77 + 2 * g + 1)) := L.pv.gy g hg
  have key : ∀ (d c j : Nat) (I1 : gI), c + d = m.toInt.toNat → d < j → (∀ o i, o ≠ 92 → I1 o i = I o i) → (∀ i, i < c → I1 92 i = gw (pl K) (st K) g i) → ∃ I', L_X9_fillSeries n T0 T1 (Int32.ofNat g) m j 0 (pl K (77 + 2 * g)) (pl K (77 + 2 * g + 1)) (Int32.ofNat c) I1 = some I' ∧ (∀ o i, o ≠ 92 → I' o i = I o i) ∧ (∀ i, i < m.toInt.toNat → I' 92 i = gw (pl K) (st K) g i) := by
    intro d
    induction d with
    | zero =>
      intro c j I1 hc hj h1 h2
      obtain ⟨j, rfl⟩ : ∃ i, j = i + 1 := ⟨j - 1, by omega⟩
      refine ⟨I1, ?_, h1, fun i hi => h2 i (by omega)⟩
      rw [L_X9_fillSeries_e0, if_pos (by rw [i_le, i_of (by omega)]; omega)]
    | succ d ih =>
      intro c j I1 hc hj h1 h2
      obtain ⟨j, rfl⟩ : ∃ i, j = i + 1 := ⟨j - 1, by omega⟩
      have L1 : LD T0 I1 K := L.ir ht (fun o i hi => h1 o i (by unfold irI at hi; omega))
      have r1 : RU I1 := ru.ir (T1 := T1) (by omega) (fun o i hi => h1 o i (by unfold irI at hi; omega))
      obtain ⟨I2, e, q1, q2⟩ := ih (c + 1) j (sI I1 92 c (gw (pl K) (st K) g c)) (by omega) (by omega) (fun o i ho => by rw [sI_o ho]; exact h1 o i ho) (fun i hi => by
        rw [sI_get]
        by_cases hc : i = c
        · rw [if_pos ⟨rfl, hc⟩, hc]
        · rw [if_neg (fun q => hc q.2)]; exact h2 i (by omega))
      refine ⟨I2, ?_, q1, q2⟩
      rw [L_X9_fillSeries_e0, if_neg (by rw [i_le, i_of (by omega)]; omega), L1.sr.t, c_wave hn L.pv L.sv (L1.ck r1) hx hy, bd_s, ixp_1, gv_o (by omega), i_tno (by omega)]
      exact e
  obtain ⟨I', e, h1, h2⟩ := key m.toInt.toNat 0 n I (by omega) (by omega) (fun _ _ _ => rfl) (fun i hi => by omega)
  refine ⟨I', ?_, h1, h2⟩
  unfold F_X9_fillSeries
  simp (disch := omega) only [gv_k, i_tno, L.tr.gx g hg, L.tr.gy g hg]
  exact e
theorem e_peak (hn : 2000 ≤ n) (R : Rel T0 T1 I K) (a1 a2 : Int32) : AG (F_X9_peak n T0 T1 I a1 a2) (F_X10_peak n K a1 a2) (fun v b => v.1 = b.1 ∧ Rel T0 T1 v.2 b.2 ∧ b.2 153 0 = 0) (fun E b => Tt K (thA E) b.2) := by
  rcases R.ld with ⟨h9, h10⟩ | ⟨h9, h10, L⟩
  · refine AG.er (E := ISE) (b := (0, sI K 153 0 1)) ?_ ?_ (Tt.r 1)
    · unfold F_X9_peak; rw [n_tank0 h9]; rfl
    · unfold F_X10_peak
      simp only [x_gau, x_run, bd_s]
      cases gau (pl K) a1 <;> cases rng a2 1 40 <;> simp only [b2_tv, b2_fv, e10, if_true, if_false, bd_s, ask0 h10, askF0 h10]
  unfold F_X9_peak F_X10_peak
  simp only [n_tank1 h9, nt_s, n_gau L, n_tim, nd_s, x_gau, x_run, bd_s]
  cases g0 : gau (pl K) a1
  · refine AG.er (E := IOB) (b := (0, sI K 153 0 2)) ?_ ?_ (Tt.r 2)
    · rfl
    · cases rng a2 1 40 <;> simp only [b2_tv, b2_fv, e10, if_true, if_false, bd_s, ask2 h10, askF2 h10, askF3 h10]
  cases g1 : rng a2 1 40
  · refine AG.er (E := IAE) (b := (0, sI K 153 0 3)) ?_ ?_ (Tt.r 3)
    · rfl
    · simp only [b2_tv, b2_fv, e10, if_true, if_false, bd_s, ask2 h10, askF2 h10, askF3 h10]
  simp only [b2_tv, b2_fv, e10, if_true, if_false, bd_s, ask1 h10, askF1 h10]
  have M := L.mk' (Tt.r 0) R.tv
  have C := L.ck R.ru
  obtain ⟨k, hk, hk4, rfl⟩ := gau_k L.pv g0
  have h4 := rng_t.mp g1
  have c1 : (1 : Int32).toInt = 1 := rfl
  have c2 : (40 : Int32).toInt = 40 := rfl
  obtain ⟨I', e, hI, hS⟩ := c_fill (n := n) (T1 := T1) hn R.tt L R.ru hk (m := a2) (by omega)
  have key : ∀ (d c j : Nat) (a : Int32) (K1 : gI), MK K1 (153 + 4) (pl K) (st K) → c + d = a2.toInt.toNat → d < j → ∃ v K', L_X9_peak n T0 T1 (Int32.ofNat k) a2 j 0 a (Int32.ofNat c) I' = some (.inr (v, I')) ∧ L_X10_peak n (Int32.ofNat k) a2 j 0 a (Int32.ofNat c) K1 = some (v, K') ∧ Tq K1 K' := by
    intro d
    induction d with
    | zero =>
      intro c j a K1 M1 hc hj
      obtain ⟨j, rfl⟩ : ∃ i, j = i + 1 := ⟨j - 1, by omega⟩
      refine ⟨a, K1, ?_, ?_, Tq.rfl'⟩
      · rw [L_X9_peak_e0, if_pos (by rw [i_le, i_of (by omega)]; omega)]
      · rw [L_X10_peak_e0, if_pos (by rw [i_le, i_of (by omega)]; omega)]
    | succ d ih =>
      intro c j a K1 M1 hc hj
      obtain ⟨j, rfl⟩ : ∃ i, j = i + 1 := ⟨j - 1, by omega⟩
      obtain ⟨K2, e2, q2⟩ := m_gw hn L.pv L.sv M1 hk c
      obtain ⟨v, K3, e9, e10, q3⟩ := ih (c + 1) j (jmax a (jabs (gw (pl K) (st K) k c))) K2 (M1.tq q2) (by omega) (by omega)
      refine ⟨v, K3, ?_, ?_, q2.trans q3⟩
      · rw [L_X9_peak_e0, if_neg (by rw [i_le, i_of (by omega)]; omega), gv_o (by omega), i_tno (by omega), hS c (by omega), ixp_1]; exact e9
      · rw [L_X10_peak_e0, if_neg (by rw [i_le, i_of (by omega)]; omega), e2, bd_s, ixp_1]; exact e10
  obtain ⟨v, K', e9, e10, q⟩ := key a2.toInt.toNat 0 n 0 _ M (by omega) (by omega)
  rw [e]
  have q' : Tt K 0 K' := q
  exact AG.ok e9 e10 ⟨rfl, R.cg (fun o i hi => hI o i (by unfold irI at hi; omega)) q'.irr (q'.tv (R.tv.th 0)) (fun k hk => by dsimp only; rw [hI _ _ (by decide)]; exact R.tb k hk), q'.t⟩
theorem e_crossings (hn : 2000 ≤ n) (R : Rel T0 T1 I K) (a1 a2 : Int32) : AG (F_X9_crossings n T0 T1 I a1 a2) (F_X10_crossings n K a1 a2) (fun v b => v.1 = b.1 ∧ Rel T0 T1 v.2 b.2 ∧ b.2 153 0 = 0) (fun E b => Tt K (thA E) b.2) := by
  rcases R.ld with ⟨h9, h10⟩ | ⟨h9, h10, L⟩
  · refine AG.er (E := ISE) (b := (0, sI K 153 0 1)) ?_ ?_ (Tt.r 1)
    · unfold F_X9_crossings; rw [n_tank0 h9]; rfl
    · unfold F_X10_crossings
      simp only [x_gau, x_run, bd_s]
      cases gau (pl K) a1 <;> cases rng a2 1 40 <;> simp only [b2_tv, b2_fv, e10, if_true, if_false, bd_s, ask0 h10, askF0 h10]
  unfold F_X9_crossings F_X10_crossings
  simp only [n_tank1 h9, nt_s, n_gau L, n_tim, nd_s, x_gau, x_run, bd_s]
  cases g0 : gau (pl K) a1
  · refine AG.er (E := IOB) (b := (0, sI K 153 0 2)) ?_ ?_ (Tt.r 2)
    · rfl
    · cases rng a2 1 40 <;> simp only [b2_tv, b2_fv, e10, if_true, if_false, bd_s, ask2 h10, askF2 h10, askF3 h10]
  cases g1 : rng a2 1 40
  · refine AG.er (E := IAE) (b := (0, sI K 153 0 3)) ?_ ?_ (Tt.r 3)
    · rfl
    · simp only [b2_tv, b2_fv, e10, if_true, if_false, bd_s, ask2 h10, askF2 h10, askF3 h10]
  simp only [b2_tv, b2_fv, e10, if_true, if_false, bd_s, ask1 h10, askF1 h10]
  have M := L.mk' (Tt.r 0) R.tv
  have C := L.ck R.ru
  obtain ⟨k, hk, hk4, rfl⟩ := gau_k L.pv g0
  have h4 := rng_t.mp g1
  have c1 : (1 : Int32).toInt = 1 := rfl
  have c2 : (40 : Int32).toInt = 40 := rfl
  obtain ⟨I', e, hI, hS⟩ := c_fill (n := n) (T1 := T1) hn R.tt L R.ru hk (m := a2) (by omega)
  have sg : ∀ (l s : Int32), (l = 0 ∧ s = 0) ∨ (0 < l.toInt ∧ s = 1) ∨ (l.toInt < 0 ∧ s = -1) → (l = 0 ↔ s = 0) := by
    intro l s h
    rcases h with ⟨h1, h2⟩ | ⟨h1, h2⟩ | ⟨h1, h2⟩
    · rw [h1, h2]
    · rw [h2]; exact ⟨fun q => by rw [q] at h1; exact absurd h1 (by decide), fun q => absurd q (by decide)⟩
    · rw [h2]; exact ⟨fun q => by rw [q] at h1; exact absurd h1 (by decide), fun q => absurd q (by decide)⟩
  have key : ∀ (d c j : Nat) (a l s : Int32) (K1 : gI), MK K1 (153 + 4) (pl K) (st K) → c + d = a2.toInt.toNat → d < j → (l = 0 ∧ s = 0) ∨ (0 < l.toInt ∧ s = 1) ∨ (l.toInt < 0 ∧ s = -1) → ∃ v K', L_X9_crossings n T0 T1 (Int32.ofNat k) a2 j 0 a s (Int32.ofNat c) I' = some (.inr (v, I')) ∧ L_X10_crossings n (Int32.ofNat k) a2 j 0 l a (Int32.ofNat c) K1 = some (v, K') ∧ Tq K1 K' := by
    intro d
    induction d with
    | zero =>
      intro c j a l s K1 M1 hc hj hs
      obtain ⟨j, rfl⟩ : ∃ i, j = i + 1 := ⟨j - 1, by omega⟩
      refine ⟨a, K1, ?_, ?_, Tq.rfl'⟩
      · rw [L_X9_crossings_e0, if_pos (by rw [i_le, i_of (by omega)]; omega)]
      · rw [L_X10_crossings_e0, if_pos (by rw [i_le, i_of (by omega)]; omega)]
    | succ d ih =>
      intro c j a l s K1 M1 hc hj hs
      obtain ⟨j, rfl⟩ : ∃ i, j = i + 1 := ⟨j - 1, by omega⟩
      obtain ⟨K2, e2, q2⟩ := m_gw hn L.pv L.sv M1 hk c
      have IH := fun a l s => ih (c + 1) j a l s K2 (M1.tq q2) (by omega) (by omega)
      have sgl := sg l s hs
      have hna : ¬ (a2 ≤ Int32.ofNat c) := by rw [i_le, i_of (by omega)]; omega
      rw [L_X9_crossings_e0, if_neg hna, L_X10_crossings_e0, if_neg hna, e2]
      simp (disch := omega) only [gv_k, i_tno, hS c (by omega), bd_s, ixp_1, Int32.add_zero]
      generalize gw (pl K) (st K) k c = v at *
      by_cases v0 : v = 0
      · rw [if_pos v0, if_pos v0]
        obtain ⟨w, K3, e9, e10, q3⟩ := IH a l s hs
        exact ⟨w, K3, e9, e10, q2.trans q3⟩
      rw [if_neg v0, if_neg v0]
      have v0' : v.toInt ≠ 0 := fun q => v0 (i_eq.mpr (by rw [q]; rfl))
      by_cases vn : v ≤ 0
      · have vn' : v.toInt < 0 := by rw [i_le, ii_0] at vn; omega
        rw [if_pos vn, if_pos vn, if_pos vn]
        rcases hs with ⟨h1, h2⟩ | ⟨h1, h2⟩ | ⟨h1, h2⟩
        · rw [if_pos h2, if_pos h1]
          obtain ⟨w, K3, e9, e10, q3⟩ := IH a v (-1) (Or.inr (Or.inr ⟨vn', rfl⟩))
          exact ⟨w, K3, e9, e10, q2.trans q3⟩
        · rw [if_neg (by rw [h2]; decide), if_neg (by rw [h2]; decide), if_neg (by rw [sgl, h2]; decide), if_neg (by rw [i_le, ii_0]; omega)]
          obtain ⟨w, K3, e9, e10, q3⟩ := IH (a + 1) v (-1) (Or.inr (Or.inr ⟨vn', rfl⟩))
          exact ⟨w, K3, e9, e10, q2.trans q3⟩
        · rw [if_neg (by rw [h2]; decide), if_pos (by rw [h2]), if_neg (by rw [sgl, h2]; decide), if_pos (by rw [i_le, ii_0]; omega)]
          obtain ⟨w, K3, e9, e10, q3⟩ := IH a v (-1) (Or.inr (Or.inr ⟨vn', rfl⟩))
          exact ⟨w, K3, e9, e10, q2.trans q3⟩
      · have vn' : 0 < v.toInt := by rw [i_le, ii_0] at vn; omega
        rw [if_neg vn, if_neg vn, if_neg vn]
        rcases hs with ⟨h1, h2⟩ | ⟨h1, h2⟩ | ⟨h1, h2⟩
        · rw [if_pos h2, if_pos h1]
          obtain ⟨w, K3, e9, e10, q3⟩ := IH a v 1 (Or.inr (Or.inl ⟨vn', rfl⟩))
          exact ⟨w, K3, e9, e10, q2.trans q3⟩
        · rw [if_neg (by rw [h2]; decide), if_pos (by rw [h2]), if_neg (by rw [sgl, h2]; decide), if_neg (by rw [i_le, ii_0]; omega)]
          obtain ⟨w, K3, e9, e10, q3⟩ := IH a v 1 (Or.inr (Or.inl ⟨vn', rfl⟩))
          exact ⟨w, K3, e9, e10, q2.trans q3⟩
        · rw [if_neg (by rw [h2]; decide), if_neg (by rw [h2]; decide), if_neg (by rw [sgl, h2]; decide), if_pos (by rw [i_le, ii_0]; omega)]
          obtain ⟨w, K3, e9, e10, q3⟩ := IH (a + 1) v 1 (Or.inr (Or.inl ⟨vn', rfl⟩))
          exact ⟨w, K3, e9, e10, q2.trans q3⟩
  obtain ⟨v, K', e9, e10, q⟩ := key a2.toInt.toNat 0 n 0 0 0 _ M (by omega) (by omega) (Or.inl ⟨rfl, rfl⟩)
  rw [e]
  have q' : Tt K 0 K' := q
  exact AG.ok e9 e10 ⟨rfl, R.cg (fun o i hi => hI o i (by unfold irI at hi; omega)) q'.irr (q'.tv (R.tv.th 0)) (fun k hk => by dsimp only; rw [hI _ _ (by decide)]; exact R.tb k hk), q'.t⟩
theorem e_rhythm (hn : 2000 ≤ n) (R : Rel T0 T1 I K) (a1 a2 : Int32) : AG (F_X9_rhythm n T0 T1 I a1 a2) (F_X10_rhythm n K a1 a2) (fun v b => v.1 = b.1 ∧ Rel T0 T1 v.2 b.2 ∧ b.2 153 0 = 0) (fun E b => Tt K (thA E) b.2) := by
  rcases R.ld with ⟨h9, h10⟩ | ⟨h9, h10, L⟩
  · refine AG.er (E := ISE) (b := (0, sI K 153 0 1)) ?_ ?_ (Tt.r 1)
    · unfold F_X9_rhythm; rw [n_tank0 h9]; rfl
    · unfold F_X10_rhythm
      simp only [x_gau, x_run, bd_s]
      cases gau (pl K) a1 <;> cases rng a2 1 40 <;> simp only [b2_tv, b2_fv, e10, if_true, if_false, bd_s, ask0 h10, askF0 h10]
  unfold F_X9_rhythm F_X10_rhythm
  simp only [n_tank1 h9, nt_s, n_gau L, n_tim, nd_s, x_gau, x_run, bd_s]
  cases g0 : gau (pl K) a1
  · refine AG.er (E := IOB) (b := (0, sI K 153 0 2)) ?_ ?_ (Tt.r 2)
    · rfl
    · cases rng a2 1 40 <;> simp only [b2_tv, b2_fv, e10, if_true, if_false, bd_s, ask2 h10, askF2 h10, askF3 h10]
  cases g1 : rng a2 1 40
  · refine AG.er (E := IAE) (b := (0, sI K 153 0 3)) ?_ ?_ (Tt.r 3)
    · rfl
    · simp only [b2_tv, b2_fv, e10, if_true, if_false, bd_s, ask2 h10, askF2 h10, askF3 h10]
  simp only [b2_tv, b2_fv, e10, if_true, if_false, bd_s, ask1 h10, askF1 h10]
  have M := L.mk' (Tt.r 0) R.tv
  have C := L.ck R.ru
  obtain ⟨k, hk, hk4, rfl⟩ := gau_k L.pv g0
  have h4 := rng_t.mp g1
  have c1 : (1 : Int32).toInt = 1 := rfl
  have c2 : (40 : Int32).toInt = 40 := rfl
  have c20 : (20 : Int32).toInt = 20 := rfl
  have e20 : (a2 + 20).toInt = a2.toInt + 20 := by rw [i_add, c20] <;> rw [c20] <;> omega
  obtain ⟨I', e, hI, hS⟩ := c_fill (n := n) (T1 := T1) hn R.tt L R.ru hk (m := a2 + 20) (by omega)
  have S := fun i => (gw (pl K) (st K) k i).toInt64
  -- a sum of the program's
  have lag9 : ∀ l : Nat, l ≤ 20 → F_X9_laggedSum n T0 T1 I' a2 (Int32.ofNat l) = some (lp (fun i a => a + (gw (pl K) (st K) k i).toInt64 * (gw (pl K) (st K) k (i + l)).toInt64) a2.toInt.toNat 0 0) := by
    intro l hl
    have key : ∀ (d c j : Nat) (a : Int64), c + d = a2.toInt.toNat → d < j → L_X9_laggedSum n T0 T1 I' a2 (Int32.ofNat l) j 0 a (Int32.ofNat c) = some (lp (fun i a => a + (gw (pl K) (st K) k i).toInt64 * (gw (pl K) (st K) k (i + l)).toInt64) d c a) := by
      intro d
      induction d with
      | zero =>
        intro c j a hc hj
        obtain ⟨j, rfl⟩ : ∃ i, j = i + 1 := ⟨j - 1, by omega⟩
        rw [L_X9_laggedSum_e0, if_pos (by rw [i_le, i_of (by omega)]; omega)]
        rfl
      | succ d ih =>
        intro c j a hc hj
        obtain ⟨j, rfl⟩ : ∃ i, j = i + 1 := ⟨j - 1, by omega⟩
        rw [L_X9_laggedSum_e0, if_neg (by rw [i_le, i_of (by omega)]; omega), lp_s]
        simp (disch := omega) only [i_oadd, gv_k, i_tno, hS c (by omega), hS (c + l) (by omega), ixp_1]
        exact ih (c + 1) j _ (by omega) (by omega)
    exact key a2.toInt.toNat 0 n 0 (by omega) (by omega)
  -- the reference lays the run of waves
  have fill10 : ∀ (d c j : Nat) (y4 : Int64) (x6 : Int32) (y7 : Int64) (x9 : Int32) (K1 : gI), MK K1 (153 + 4) (pl K) (st K) → (∀ i, i < c → K1 (153 + 11) i = gw (pl K) (st K) k i) → c + d = a2.toInt.toNat + 20 → d + 1000 < j → ∃ K' j', L_X10_rhythm n (Int32.ofNat k) a2 j 0 (Int32.ofNat c) y4 x6 y7 x9 K1 = L_X10_rhythm n (Int32.ofNat k) a2 j' 1 (-1) 0 1 0 0 K' ∧ 999 < j' ∧ TV K' ∧ (∀ o i, o ≠ 164 → o ≠ 162 → (o ≠ 153 ∨ i ≠ 24) → K' o i = K1 o i) ∧ (∀ i, i < a2.toInt.toNat + 20 → K' (153 + 11) i = gw (pl K) (st K) k i) := by
    intro d
    induction d with
    | zero =>
      intro c j y4 x6 y7 x9 K1 M1 hg hc hj
      obtain ⟨j, rfl⟩ : ∃ i, j = i + 1 := ⟨j - 1, by omega⟩
      refine ⟨K1, j, ?_, by omega, M1.tv, fun _ _ _ _ _ => rfl, fun i hi => hg i (by omega)⟩
      rw [L_X10_rhythm_e0, if_pos (by rw [i_le, i_of (by omega)]; omega)]
    | succ d ih =>
      intro c j y4 x6 y7 x9 K1 M1 hg hc hj
      obtain ⟨j, rfl⟩ : ∃ i, j = i + 1 := ⟨j - 1, by omega⟩
      obtain ⟨K2, e2, q2⟩ := m_gw hn L.pv L.sv M1 hk c
      have M2 := M1.tq q2
      have tv2 : TV (sI K2 (153 + 11) c (gw (pl K) (st K) k c)) := by
        exact M2.tv.up (by decide) (Or.inl (by decide))
      have M3 : MK (sI K2 (153 + 11) c (gw (pl K) (st K) k c)) (153 + 4) (pl K) (st K) := MK.mk (fun i => by rw [sI_o (by decide)]; exact M2.hp i) (fun i => by rw [sI_o (by decide)]; exact M2.hs i) tv2 M2.ho
      obtain ⟨K3, j3, e3, a1, a2', a3, a4⟩ := ih (c + 1) j 0 0 0 0 _ M3 (fun i hi => by
        rw [sI_get]
        by_cases hc : i = c
        · rw [if_pos ⟨rfl, hc⟩, hc]
        · rw [if_neg (fun q => hc q.2), q2.get (by decide) (Or.inl (by decide))]; exact hg i (by omega)) (by omega) (by omega)
      refine ⟨K3, j3, ?_, a1, a2', fun o i h1 h2 h3 => ?_, a4⟩
      · rw [L_X10_rhythm_e0, if_neg (by rw [i_le, i_of (by omega)]; omega), e2, bd_s, gv_o (by omega), i_tno (by omega), ixp_1]
        exact e3
      · rw [a3 o i h1 h2 h3, sI_o h1, q2.get h2 h3]
  obtain ⟨K1, j1, f1, f2, f3, f4, f5⟩ := fill10 (a2.toInt.toNat + 20) 0 n 0 0 0 0 _ M (fun i hi => by omega) (by omega) (by omega)
  -- a sum of the reference's
  have lag10 : ∀ l : Nat, 1 ≤ l → l ≤ 20 → ∀ (d c j : Nat) (x3 : Int32) (y4 a : Int64), c + d = a2.toInt.toNat → d < j → L_X10_rhythm n (Int32.ofNat k) a2 j 2 x3 y4 (Int32.ofNat l) a (Int32.ofNat c) K1 = L_X10_rhythm n (Int32.ofNat k) a2 (j - d) 2 x3 y4 (Int32.ofNat l) (lp (fun i a => a + (gw (pl K) (st K) k i).toInt64 * (gw (pl K) (st K) k (i + l)).toInt64) d c a) (Int32.ofNat a2.toInt.toNat) K1 := by
    intro l hl1 hl d
    induction d with
    | zero =>
      intro c j x3 y4 a hc hj
      rw [show c = a2.toInt.toNat by omega]
      rfl
    | succ d ih =>
      intro c j x3 y4 a hc hj
      obtain ⟨j, rfl⟩ : ∃ i, j = i + 1 := ⟨j - 1, by omega⟩
      rw [L_X10_rhythm_e2, if_neg (by rw [i_le, i_of (by omega)]; omega), lp_s]
      simp (disch := omega) only [i_oadd, gv_k, i_tno, f5 c (by omega), f5 (c + l) (by omega), ixp_1]
      rw [ih (c + 1) j x3 y4 _ (by omega) (by omega), show j + 1 - (d + 1) = j - d by omega]
  have main : ∀ (d l j j' : Nat) (b : Int32) (g : Int64), l + d = 21 → 2 ≤ l → d < j → d * (a2.toInt.toNat + 5) < j' → b ≠ -1 → ∃ v, L_X9_rhythm n T0 T1 (Int32.ofNat k) a2 j 0 b g (Int32.ofNat l) I' = some (.inr (v, I')) ∧ L_X10_rhythm n (Int32.ofNat k) a2 j' 1 b g (Int32.ofNat l) 0 0 K1 = some (v, K1) := by
    intro d
    induction d with
    | zero =>
      intro l j j' b g hl h2 hj hj' hb
      obtain ⟨j, rfl⟩ : ∃ i, j = i + 1 := ⟨j - 1, by omega⟩
      obtain ⟨j', rfl⟩ : ∃ i, j' = i + 1 := ⟨j' - 1, by omega⟩
      refine ⟨b, ?_, ?_⟩
      · rw [L_X9_rhythm_e0, if_pos (by rw [i_lt, i_of (by omega)]; omega)]
      · rw [L_X10_rhythm_e1, if_pos (by rw [i_lt, i_of (by omega)]; omega)]
    | succ d ih =>
      intro l j j' b g hl h2 hj hj' hb
      have hm : (d + 1) * (a2.toInt.toNat + 5) = d * (a2.toInt.toNat + 5) + (a2.toInt.toNat + 5) := Nat.succ_mul _ _
      obtain ⟨j, rfl⟩ : ∃ i, j = i + 1 := ⟨j - 1, by omega⟩
      obtain ⟨j', rfl⟩ : ∃ i, j' = i + 1 := ⟨j' - 1, by omega⟩
      have hna : ¬ ((20 : Int32) < Int32.ofNat l) := by rw [i_lt, i_of (by omega)]; omega
      rw [L_X9_rhythm_e0, if_neg hna, lag9 l (by omega), bd_s, ixp_1]
      rw [L_X10_rhythm_e1, if_neg hna]
      have q := lag10 l (by omega) (by omega) a2.toInt.toNat 0 j' b g 0 (by omega) (by omega)
      rw [show (Int32.ofNat 0) = 0 from rfl] at q
      rw [q]
      obtain ⟨i, hi⟩ : ∃ i, j' - a2.toInt.toNat = i + 1 := ⟨j' - a2.toInt.toNat - 1, by omega⟩
      rw [hi, L_X10_rhythm_e2, if_pos (c := a2 ≤ Int32.ofNat a2.toInt.toNat) (by rw [i_le, i_of (by omega)]; omega), if_neg hb, ixp_1]
      generalize lp (fun i a => a + (gw (pl K) (st K) k i).toInt64 * (gw (pl K) (st K) k (i + l)).toInt64) a2.toInt.toNat 0 0 = v
      by_cases h : lg_cmp v g ≤ 0
      · rw [if_pos h, if_neg (by rw [i_lt]; rw [i_le] at h; omega)]
        exact ih (l + 1) j i b g (by omega) (by omega) (by omega) (by omega) hb
      · rw [if_neg h, if_pos (by rw [i_lt]; rw [i_le] at h; omega)]
        refine ih (l + 1) j i _ _ (by omega) (by omega) (by omega) (by omega) ?_
        intro q
        have := i_of (k := l) (by omega)
        rw [q] at this
        have hm1 : (-1 : Int32).toInt = -1 := rfl
        omega
  have hj1 : 0 < j1 := by omega
  obtain ⟨i1, rfl⟩ : ∃ i, j1 = i + 1 := ⟨j1 - 1, by omega⟩
  have q := lag10 1 (by omega) (by omega) a2.toInt.toNat 0 i1 (-1) 0 0 (by omega) (by omega)
  obtain ⟨i, hi⟩ : ∃ i, i1 - a2.toInt.toNat = i + 1 := ⟨i1 - a2.toInt.toNat - 1, by omega⟩
  have hfu : 19 * (a2.toInt.toNat + 5) ≤ 19 * 45 := Nat.mul_le_mul_left _ (by omega)
  obtain ⟨v, r9, r10⟩ := main 19 2 n i 1 (lp (fun i a => a + (gw (pl K) (st K) k i).toInt64 * (gw (pl K) (st K) k (i + 1)).toInt64) a2.toInt.toNat 0 0) (by omega) (by omega) (by omega) (by omega) (by decide)
  have s10 : L_X10_rhythm n (Int32.ofNat k) a2 (i1 + 1) 1 (-1) 0 1 0 0 K1 = some (v, K1) := by
    rw [L_X10_rhythm_e1, if_neg (by decide)]
    rw [show (Int32.ofNat 1) = 1 from rfl, show (Int32.ofNat 0) = 0 from rfl] at q
    rw [q, hi, L_X10_rhythm_e2, if_pos (by rw [i_le, i_of (by omega)]; omega), if_pos rfl]
    exact r10
  have f1' : L_X10_rhythm n (Int32.ofNat k) a2 n 0 0 0 0 0 0 (sI K 153 0 0) = some (v, K1) := Eq.trans f1 s10
  have l1 := lag9 1 (by omega)
  rw [show (Int32.ofNat 1) = 1 from rfl] at l1
  have l2 : F_X9_laggedSum n T0 T1 I' a2 1 = some (lp (fun i a => a + (gw (pl K) (st K) k i).toInt64 * (gw (pl K) (st K) k (i + 1)).toInt64) a2.toInt.toNat 0 0) := l1
  rw [e]
  simp only [bd_s]
  rw [l2]
  have kk : ∀ o i, ¬ irK o i → K1 o i = K o i := by
    intro o i hh
    rw [f4 o i (by unfold irK at hh; omega) (by unfold irK at hh; omega) (by unfold irK at hh; omega), sI_get, if_neg (by unfold irK at hh; omega)]
  refine AG.ok r9 f1' ⟨rfl, R.cg (fun o i hi => hI o i (by unfold irI at hi; omega)) kk f3 (fun k hk => by dsimp only; rw [hI _ _ (by decide)]; exact R.tb k hk), ?_⟩
  dsimp only
  rw [f4 153 0 (by decide) (by decide) (by decide), sI_self]
end FACEC
