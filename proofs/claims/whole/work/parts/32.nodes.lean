/-- the cells that are nodes, by number -/
def nd9 (p s : gP) (m tol : Int32) (c : Nat) : Bool := sCalm p s (Int32.ofNat (c % (p 0).toInt.toNat)) (Int32.ofNat (c / (p 0).toInt.toNat)) m tol
theorem MK.ch {K K' : gI} {o : Nat} {p s : gP} (h : MK K o p s) (X : Nat → Prop) (h1 : ¬ X 155) (h2 : ¬ X o) (h3 : ∀ q i, ¬ X q → q ≠ 162 → (q ≠ 153 ∨ i ≠ 24) → K' q i = K q i) (tv : TV K') : MK K' o p s :=
  MK.mk (fun i => (h3 _ i h1 (by decide) (Or.inl (by decide))).trans (h.hp i)) (fun i => (h3 _ i h2 h.ho.1 (Or.inl h.ho.2)).trans (h.hs i)) tv h.ho
section FACEE
variable {n T0 T1 : Nat} {I K : gI}
theorem c_count (hn : 2000 ≤ n) {os : Nat} {p s : gP} (hp : PV p) (hv : SV p s) (C : CK I T0 os p s) {m : Int32} (hm0 : 0 ≤ m.toInt) (hm : m.toInt ≤ 200) (tol : Int32) : F_X9_countCalm n T0 T1 os I m tol = some (cnt (nd9 p s m tol) (nC p)) := by
  have hw := hp.w
  have hh := hp.h
  obtain ⟨W, hW⟩ : ∃ W, W = (p 0).toInt.toNat := ⟨_, rfl⟩
  obtain ⟨H, hH⟩ : ∃ H, H = (p 1).toInt.toNat := ⟨_, rfl⟩
  have k9 : ∀ (d y j : Nat) (a : Int32), y + d = H → d * (W + 2) + 1 ≤ j → L_X9_countCalm n T0 T1 os I m tol j 0 a (Int32.ofNat y) 0 = some (lp (fun c a => if nd9 p s m tol c then a + 1 else a) (W * d) (W * y) a) := by
    intro d
    induction d with
    | zero =>
      intro y j a hy hj
      obtain ⟨j, rfl⟩ : ∃ i, j = i + 1 := ⟨j - 1, by omega⟩
      rw [L_X9_countCalm_e0, C.tr.h, if_pos (by rw [i_le, i_of (by omega)]; omega)]
      rfl
    | succ d ih =>
      intro y j a hy hj
      have e1 : (d + 1) * (W + 2) = d * (W + 2) + (W + 2) := Nat.succ_mul _ _
      obtain ⟨j, rfl⟩ : ∃ i, j = i + 1 := ⟨j - 1, by omega⟩
      rw [L_X9_countCalm_e0, C.tr.h, if_neg (by rw [i_le, i_of (by omega)]; omega)]
      have inner : ∀ (e x j : Nat) (a : Int32), x + e = W → e + 1 + (d * (W + 2) + 1) ≤ j → L_X9_countCalm n T0 T1 os I m tol j 1 a (Int32.ofNat y) (Int32.ofNat x) = some (lp (fun c a => if nd9 p s m tol c then a + 1 else a) (e + W * d) (W * y + x) a) := by
        intro e
        induction e with
        | zero =>
          intro x j a hx hj
          obtain ⟨j, rfl⟩ : ∃ i, j = i + 1 := ⟨j - 1, by omega⟩
          rw [L_X9_countCalm_e1, C.tr.w, if_pos (by rw [i_le, i_of (by omega)]; omega), ixp_1, ih (y + 1) j a (by omega) (by omega), Nat.zero_add, show W * (y + 1) = W * y + x by rw [Nat.mul_succ]; omega]
        | succ e ihe =>
          intro x j a hx hj
          obtain ⟨j, rfl⟩ : ∃ i, j = i + 1 := ⟨j - 1, by omega⟩
          have hx1 : xIn p (Int32.ofNat x) := by unfold xIn; rw [i_of (by omega)]; omega
          have hy1 : yIn p (Int32.ofNat y) := by unfold yIn; rw [i_of (by omega)]; omega
          have hc := cell_k (W := W) (y := y) (x := x) (by omega)
          have hP : nd9 p s m tol (W * y + x) = sCalm p s (Int32.ofNat x) (Int32.ofNat y) m tol := by unfold nd9; rw [← hW, hc.1, hc.2]
          rw [L_X9_countCalm_e1, C.tr.w, if_neg (by rw [i_le, i_of (by omega)]; omega), c_calm hn hp hv C hx1 hy1 hm0 hm, bd_s, ixp_1, show e + 1 + W * d = (e + W * d) + 1 by omega, lp_s, hP, show W * y + x + 1 = W * y + (x + 1) by omega]
          cases sCalm p s (Int32.ofNat x) (Int32.ofNat y) m tol
          · rw [if_pos (show b2 false = 0 from rfl)]; exact ihe (x + 1) j a (by omega) (by omega)
          · rw [if_neg (show ¬ b2 true = 0 by decide)]; exact ihe (x + 1) j (a + 1) (by omega) (by omega)
      have := inner W 0 j a (by omega) (by omega)
      rw [show W + W * d = W * (d + 1) by rw [Nat.mul_succ]; omega] at this
      exact this
  have hf : H * (W + 2) ≤ 10 * 18 := Nat.mul_le_mul (by omega) (by omega)
  have r9 := k9 H 0 n 0 (by omega) (by omega)
  unfold cnt nC
  rw [← hW, ← hH]
  exact r9
theorem m_nodes (hn : 2000 ≤ n) {o : Nat} {p s : gP} (ho : o ≠ 165) (hp : PV p) (hv : SV p s) (M : MK K o p s) {m : Int32} (hm0 : 0 ≤ m.toInt) (hm : m.toInt ≤ 200) (tol : Int32) : ∃ K', F_X10_laysNodes n o 30 K m tol = some (cnt (nd9 p s m tol) (nC p), K') ∧ (∀ q i, q ≠ 165 → q ≠ 162 → (q ≠ 153 ∨ i ≠ 24) → K' q i = K q i) ∧ TV K' ∧ (∀ c, c < nC p → K' (153 + 12) c = b2 (nd9 p s m tol c)) := by
  have hw := hp.w
  have hh := hp.h
  have hN := nC_b hp
  obtain ⟨W, hW⟩ : ∃ W, W = (p 0).toInt.toNat := ⟨_, rfl⟩
  obtain ⟨H, hH⟩ : ∃ H, H = (p 1).toInt.toNat := ⟨_, rfl⟩
  have hWH : nC p = W * H := by unfold nC; rw [hW, hH]
  have pW : p 0 = Int32.ofNat W := by rw [hW, i_on (by omega)]
  have k9 : ∀ (d y j : Nat) (a : Int32) (K1 : gI), MK K1 o p s → (∀ q i, q ≠ 165 → q ≠ 162 → (q ≠ 153 ∨ i ≠ 24) → K1 q i = K q i) → (∀ c, c < W * y → K1 (153 + 12) c = b2 (nd9 p s m tol c)) → y + d = H → d * (W + 2) + 1 ≤ j → ∃ K', L_X10_laysNodes n o 30 m tol j 0 a (Int32.ofNat y) 0 K1 = some (lp (fun c a => if nd9 p s m tol c then a + 1 else a) (W * d) (W * y) a, K') ∧ (∀ q i, q ≠ 165 → q ≠ 162 → (q ≠ 153 ∨ i ≠ 24) → K' q i = K q i) ∧ TV K' ∧ (∀ c, c < nC p → K' (153 + 12) c = b2 (nd9 p s m tol c)) := by
    intro d
    induction d with
    | zero =>
      intro y j a K1 M1 hk hnd hy hj
      obtain ⟨j, rfl⟩ : ∃ i, j = i + 1 := ⟨j - 1, by omega⟩
      obtain rfl : y = H := by omega
      refine ⟨K1, ?_, hk, M1.tv, fun c hc => hnd c (by omega)⟩
      rw [L_X10_laysNodes_e0, M1.hp, if_pos (by rw [i_le, i_of (by omega)]; omega)]
      rfl
    | succ d ih =>
      intro y j a K1 M1 hk hnd hy hj
      have e1 : (d + 1) * (W + 2) = d * (W + 2) + (W + 2) := Nat.succ_mul _ _
      obtain ⟨j, rfl⟩ : ∃ i, j = i + 1 := ⟨j - 1, by omega⟩
      rw [L_X10_laysNodes_e0, M1.hp, if_neg (by rw [i_le, i_of (by omega)]; omega)]
      have inner : ∀ (e x j : Nat) (a : Int32) (K1 : gI), MK K1 o p s → (∀ q i, q ≠ 165 → q ≠ 162 → (q ≠ 153 ∨ i ≠ 24) → K1 q i = K q i) → (∀ c, c < W * y + x → K1 (153 + 12) c = b2 (nd9 p s m tol c)) → x + e = W → e + 1 + (d * (W + 2) + 1) ≤ j → ∃ K', L_X10_laysNodes n o 30 m tol j 1 a (Int32.ofNat y) (Int32.ofNat x) K1 = some (lp (fun c a => if nd9 p s m tol c then a + 1 else a) (e + W * d) (W * y + x) a, K') ∧ (∀ q i, q ≠ 165 → q ≠ 162 → (q ≠ 153 ∨ i ≠ 24) → K' q i = K q i) ∧ TV K' ∧ (∀ c, c < nC p → K' (153 + 12) c = b2 (nd9 p s m tol c)) := by
        intro e
        induction e with
        | zero =>
          intro x j a K1 M1 hk hnd hx hj
          obtain ⟨j, rfl⟩ : ∃ i, j = i + 1 := ⟨j - 1, by omega⟩
          have exy : W * (y + 1) = W * y + x := by rw [Nat.mul_succ]; omega
          obtain ⟨K', q1, q2⟩ := ih (y + 1) j a K1 M1 hk (by rw [exy]; exact hnd) (by omega) (by omega)
          refine ⟨K', ?_, q2⟩
          rw [L_X10_laysNodes_e1, M1.hp, if_pos (by rw [i_le, i_of (by omega)]; omega), ixp_1, q1, Nat.zero_add, exy]
        | succ e ihe =>
          intro x j a K1 M1 hk hnd hx hj
          obtain ⟨j, rfl⟩ : ∃ i, j = i + 1 := ⟨j - 1, by omega⟩
          have hx1 : xIn p (Int32.ofNat x) := by unfold xIn; rw [i_of (by omega)]; omega
          have hy1 : yIn p (Int32.ofNat y) := by unfold yIn; rw [i_of (by omega)]; omega
          have hc := cell_k (W := W) (y := y) (x := x) (by omega)
          have hP : nd9 p s m tol (W * y + x) = sCalm p s (Int32.ofNat x) (Int32.ofNat y) m tol := by unfold nd9; rw [← hW, hc.1, hc.2]
          have hlt : W * y + x < 160 := by
            have : W * (y + 1) ≤ W * H := Nat.mul_le_mul_left _ (by omega)
            rw [Nat.mul_succ] at this; omega
          obtain ⟨K2, e2, q2⟩ := m_calm hn hp hv M1 hx1 hy1 hm0 hm tol
          have M2 := M1.tq q2
          have step : ∀ v : Int32, v = b2 (nd9 p s m tol (W * y + x)) → ∃ K', L_X10_laysNodes n o 30 m tol j 1 (a + v) (Int32.ofNat y) (Int32.ofNat (x + 1)) (sI K2 (153 + 12) (W * y + x) v) = some (lp (fun c a => if nd9 p s m tol c then a + 1 else a) (e + W * d) (W * y + (x + 1)) (a + v), K') ∧ (∀ q i, q ≠ 165 → q ≠ 162 → (q ≠ 153 ∨ i ≠ 24) → K' q i = K q i) ∧ TV K' ∧ (∀ c, c < nC p → K' (153 + 12) c = b2 (nd9 p s m tol c)) := by
            intro v hv'
            refine ihe (x + 1) j (a + v) _ ?_ ?_ ?_ (by omega) (by omega)
            · exact MK.mk (fun i => by rw [sI_o (by decide)]; exact M2.hp i) (fun i => by rw [sI_o ho]; exact M2.hs i) (M2.tv.up (by decide) (Or.inl (by decide))) M2.ho
            · intro q i h1 h2 h3
              rw [sI_o h1, q2.get h2 h3]; exact hk q i h1 h2 h3
            · intro c hc
              rw [sI_get]
              by_cases h : c = W * y + x
              · rw [if_pos ⟨rfl, h⟩, h]; exact hv'
              · rw [if_neg (fun q => h q.2), q2.get (by decide) (Or.inl (by decide))]; exact hnd c (by omega)
          rw [L_X10_laysNodes_e1, M1.hp, if_neg (by rw [i_le, i_of (by omega)]; omega), e2, bd_s]
          dsimp only
          have ix : p 0 * Int32.ofNat y + Int32.ofNat x = Int32.ofNat (W * y + x) := by rw [pW, i_omul, i_oadd]
          have sp : ∀ (v : Int32), sI K2 (153 + 12) (W * y + x) v (153 + 2) 0 = p 0 := fun v => by rw [sI_o (by decide)]; exact M2.hp 0
          rw [show e + 1 + W * d = (e + W * d) + 1 by omega, lp_s, ix]
          simp (disch := omega) only [gv_k, i_tno, sp, ix, sI_self, ixp_1]
          cases hb : nd9 p s m tol (W * y + x)
          · rw [← hP, hb, if_pos (show b2 false = 0 from rfl), if_neg (show ¬ (false = true) by decide)]
            have := step 0 (by rw [hb]; rfl)
            rw [Int32.add_zero] at this
            rw [Int32.add_zero]
            exact this
          · rw [← hP, hb, if_neg (show ¬ b2 true = 0 by decide), if_pos (show true = true from rfl)]
            exact step 1 (by rw [hb]; rfl)
      have := inner W 0 j a K1 M1 hk (by simpa using hnd) (by omega) (by omega)
      rw [show W + W * d = W * (d + 1) by rw [Nat.mul_succ]; omega] at this
      exact this
  have hf : H * (W + 2) ≤ 10 * 18 := Nat.mul_le_mul (by omega) (by omega)
  obtain ⟨K', q1, q2⟩ := k9 H 0 n 0 K M (fun _ _ _ _ _ => rfl) (fun c hc => by simp at hc) (by omega) (by omega)
  refine ⟨K', ?_, q2⟩
  unfold F_X10_laysNodes cnt
  rw [hWH]
  exact q1
theorem e_nodes (hn : 2000 ≤ n) (R : Rel T0 T1 I K) (a1 a2 : Int32) : AG (F_X9_nodes n T0 T1 I a1 a2) (F_X10_nodes n K a1 a2) (fun v b => v = b.1 ∧ Rel T0 T1 I b.2 ∧ b.2 153 0 = 0) (fun E b => Tt K (thB E) b.2) := by
  rcases R.ld with ⟨h9, h10⟩ | ⟨h9, h10, L⟩
  · refine AG.er (E := ISE) (b := (0, sI K 153 0 1)) ?_ ?_ (Tt.r 1)
    · unfold F_X9_nodes; rw [n_tank0 h9]; rfl
    · unfold F_X10_nodes
      simp only [x_run, x_tol, bd_s]
      cases rng a1 1 40 <;> cases rng a2 0 9999 <;> simp only [b2_tv, b2_fv, e10, if_true, if_false, bd_s, ask0 h10, askF0 h10]
  unfold F_X9_nodes F_X10_nodes
  simp only [n_tank1 h9, nt_s, n_tim, n_tol, nd_s, x_run, x_tol, bd_s]
  cases g0 : rng a1 1 40
  · refine AG.er (E := IAE) (b := (0, sI K 153 0 2)) ?_ ?_ (Tt.r 2)
    · rfl
    · cases rng a2 0 9999 <;> simp only [b2_tv, b2_fv, e10, if_true, if_false, bd_s, ask2 h10, askF2 h10, askF3 h10]
  cases g1 : rng a2 0 9999
  · refine AG.er (E := IAE) (b := (0, sI K 153 0 2)) ?_ ?_ (Tt.r 2)
    · rfl
    · simp only [b2_tv, b2_fv, e10, if_true, if_false, bd_s, ask2 h10, askF2 h10, askF3 h10]
  simp only [b2_tv, b2_fv, e10, if_true, if_false, bd_s, ask1 h10, askF1 h10]
  have M := L.mk' (Tt.r 0) R.tv
  have C := L.ck R.ru
  have h4 := rng_t.mp g0
  have c1 : (1 : Int32).toInt = 1 := rfl
  have c2 : (40 : Int32).toInt = 40 := rfl
  have hN := nC_b L.pv
  obtain ⟨K', e, q1, q2, q3⟩ := m_nodes hn (by decide) L.pv L.sv M (m := a1) (by omega) (by omega) a2
  rw [c_count hn L.pv L.sv C (by omega) (by omega), e]
  refine AG.ok rfl rfl ⟨rfl, R.cg (fun _ _ _ => rfl) (fun o i h => ?_) q2 R.tb, ?_⟩
  · unfold irK at h
    dsimp only
    rw [q1 o i (by omega) (by omega) (by omega), sI_get, if_neg (by omega)]
  · dsimp only
    rw [q1 153 0 (by decide) (by decide) (by decide), sI_self]
theorem e_nodesIfOff (hn : 2000 ≤ n) (R : Rel T0 T1 I K) (a1 a2 a3 : Int32) : AG (F_X9_nodesIfOff n T0 T1 I a1 a2 a3) (F_X10_nodesIfOff n K a1 a2 a3) (fun v b => v.1 = b.1 ∧ Rel T0 T1 v.2 b.2 ∧ b.2 153 0 = 0) (fun E b => Tt K (thA E) b.2) := by
  rcases R.ld with ⟨h9, h10⟩ | ⟨h9, h10, L⟩
  · refine AG.er (E := ISE) (b := (0, sI K 153 0 1)) ?_ ?_ (Tt.r 1)
    · unfold F_X9_nodesIfOff; rw [n_tank0 h9]; rfl
    · unfold F_X10_nodesIfOff
      simp only [x_src, x_run, x_tol, bd_s]
      cases src (pl K) a1 <;> cases rng a2 1 40 <;> cases rng a3 0 9999 <;> simp only [b2_tv, b2_fv, e10, if_true, if_false, bd_s, ask0 h10, askF0 h10]
  unfold F_X9_nodesIfOff F_X10_nodesIfOff
  simp only [n_tank1 h9, nt_s, n_src L, n_tim, n_tol, nd_s, x_src, x_run, x_tol, bd_s]
  cases g0 : src (pl K) a1
  · refine AG.er (E := IOB) (b := (0, sI K 153 0 2)) ?_ ?_ (Tt.r 2)
    · rfl
    · cases rng a2 1 40 <;> cases rng a3 0 9999 <;> simp only [b2_tv, b2_fv, e10, if_true, if_false, bd_s, ask2 h10, askF2 h10, askF3 h10]
  cases g1 : rng a2 1 40
  · refine AG.er (E := IAE) (b := (0, sI K 153 0 3)) ?_ ?_ (Tt.r 3)
    · rfl
    · cases rng a3 0 9999 <;> simp only [b2_tv, b2_fv, e10, if_true, if_false, bd_s, ask2 h10, askF2 h10, askF3 h10]
  cases g2 : rng a3 0 9999
  · refine AG.er (E := IAE) (b := (0, sI K 153 0 3)) ?_ ?_ (Tt.r 3)
    · rfl
    · simp only [b2_tv, b2_fv, e10, if_true, if_false, bd_s, ask2 h10, askF2 h10, askF3 h10]
  simp only [b2_tv, b2_fv, e10, if_true, if_false, bd_s, ask1 h10, askF1 h10]
  have M := L.mk' (Tt.r 0) R.tv
  have C := L.ck R.ru
  have h4 := rng_t.mp g1
  have c1 : (1 : Int32).toInt = 1 := rfl
  have c2 : (40 : Int32).toInt = 40 := rfl
  have hN := nC_b L.pv
  obtain ⟨k, hk, hk4, rfl⟩ := src_k L.pv g0
  have h44 := L.pv.c.2
  have ec : F_X6_copyFrom n 10 2 I = some (cp I 10 2) := cp_s hn (by decide) L.sr.b
  have cir : ∀ o i, ¬ irI T1 o → (sI (cp I 10 2) (10 + 1) k 0) o i = I o i := fun o i h => by
    unfold irI at h
    rw [sI_o (by omega), cp_o _ _ _ _ _ (by omega)]
  have ht := R.tt
  have L' : LD T0 (sI (cp I 10 2) (10 + 1) k 0) K := L.ir ht cir
  have ru' : RU (sI (cp I 10 2) (10 + 1) k 0) := R.ru.ir (T1 := T1) (by omega) cir
  have hwk : ∀ i, i < 30 → wk (sI K 153 0 0) (2 + k) 0 (153 + 6) i = if i = 2 + k then 0 else st K i := fun i hi => by
    rw [wk_t hi, sI_o (by decide)]; rfl
  have C' : CK (sI (cp I 10 2) (10 + 1) k 0) T0 10 (pl K) (fun i => wk (sI K 153 0 0) (2 + k) 0 (153 + 6) i) := by
    refine CK.mk L'.tr ?_ ru'
    have S := cp_SR (a := 10) L.sr h44 (by decide)
    refine SR.mk ?_ ?_ ?_ ?_ ?_ ?_ ?_ ?_ ?_ ?_
    · rw [sI_o (by decide), hwk _ (by omega), if_neg (by omega)]; exact S.t
    · rw [sI_o (by decide), hwk _ (by omega), if_neg (by omega)]; exact S.op
    · intro i hi
      rw [sI_get]
      by_cases h : i = k
      · rw [if_pos ⟨rfl, h⟩]; exact Or.inl rfl
      · rw [if_neg (fun q => h q.2)]; exact S.b i hi
    · intro i hi
      rw [sI_get, hwk _ (by omega)]
      by_cases h : i = k
      · rw [if_pos ⟨rfl, h⟩, if_pos (by omega)]
      · rw [if_neg (fun q => h q.2), if_neg (by omega)]; exact S.on i hi
    · intro i hi; rw [sI_o (by decide), hwk _ (by omega), if_neg (by omega)]; exact S.amp i hi
    · intro i hi; rw [sI_o (by decide), hwk _ (by omega), if_neg (by omega)]; exact S.ph i hi
    · intro i hi; rw [sI_o (by decide), hwk _ (by omega), if_neg (by omega)]; exact S.x i hi
    · intro i hi; rw [sI_o (by decide), hwk _ (by omega), if_neg (by omega)]; exact S.y i hi
    · intro i hi; rw [sI_o (by decide), hwk _ (by omega), if_neg (by omega)]; exact S.vx i hi
    · intro i hi; rw [sI_o (by decide), hwk _ (by omega), if_neg (by omega)]; exact S.vy i hi
  have V' : SV (pl K) (fun i => wk (sI K 153 0 0) (2 + k) 0 (153 + 6) i) := by
    refine SV.mk ?_ ?_ ?_ ?_
    · rw [hwk _ (by omega), if_neg (by omega)]; exact L.sv.t
    · rw [hwk _ (by omega), if_neg (by omega)]; exact L.sv.o
    · intro i hi
      rw [hwk _ (by omega)]
      by_cases h : 2 + i = 2 + k
      · rw [if_pos h]; exact Or.inl rfl
      · rw [if_neg h]; exact L.sv.on i hi
    · intro i hi; rw [hwk _ (by omega), if_neg (by omega)]; exact L.sv.amp i hi
  have tvw : TV (wk (sI K 153 0 0) (2 + k) 0) := (R.tv.th 0).cg (fun i => wk_o (by decide)) (wk_o (by decide))
  have M' : MK (wk (sI K 153 0 0) (2 + k) 0) (153 + 6) (pl K) (fun i => wk (sI K 153 0 0) (2 + k) 0 (153 + 6) i) :=
    MK.mk (fun i => by rw [wk_o (by decide)]; exact M.hp i) (fun i => rfl) tvw (by decide)
  obtain ⟨K', e, q1, q2, q3⟩ := m_nodes hn (by decide) L.pv V' M' (m := a2) (by omega) (by omega) a3
  rw [ec, ix_2, wk_s hn _ (by omega)]
  simp only [bd_s]
  rw [gv_o hk4, i_tno (by omega), e, c_count hn L.pv V' C' (by omega) (by omega)]
  refine AG.ok rfl rfl ⟨rfl, R.cg cir (fun o i h => ?_) q2 C'.sr.b, ?_⟩
  · unfold irK at h
    dsimp only
    rw [q1 o i (by omega) (by omega) (by omega), wk_o (by omega), sI_get, if_neg (by omega)]
  · dsimp only
    rw [q1 153 0 (by decide) (by decide) (by decide), wk_o (by decide), sI_self]
end FACEE
