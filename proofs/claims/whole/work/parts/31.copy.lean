/-! COPIES OF STATES -/
def cp1 (I : gI) (a b k : Nat) : gI := sI (sI (sI (sI (sI (sI (sI I (a + 1) k (I (b + 1) k)) (a + 2) k (I (b + 2) k)) (a + 3) k (I (b + 3) k)) (a + 4) k (I (b + 4) k)) (a + 5) k (I (b + 5) k)) (a + 6) k (I (b + 6) k)) (a + 7) k (I (b + 7) k)
theorem cp1_t (I : gI) (a b k f : Nat) (h1 : 1 ≤ f) (h2 : f ≤ 7) : cp1 I a b k (a + f) k = I (b + f) k := by
  unfold cp1
  rcases (show f = 1 ∨ f = 2 ∨ f = 3 ∨ f = 4 ∨ f = 5 ∨ f = 6 ∨ f = 7 by omega) with rfl | rfl | rfl | rfl | rfl | rfl | rfl <;> simp (disch := omega) only [sI_o, sI_self]
theorem cp1_o (I : gI) (a b k o i : Nat) (h : ¬ (a < o ∧ o < a + 8 ∧ i = k)) : cp1 I a b k o i = I o i := by
  unfold cp1
  by_cases hi : i = k
  · simp (disch := omega) only [sI_o]
  · simp (disch := omega) only [sI_k]
theorem cp_step (n j : Nat) (I : gI) (a b k : Nat) (hk : k < 4) (hd : a + 8 ≤ b ∨ b + 8 ≤ a) (hb : I (b + 1) k = 0 ∨ I (b + 1) k = 1) : L_X6_copyFrom n a b (j + 1) 0 (Int32.ofNat k) I = L_X6_copyFrom n a b j 0 (Int32.ofNat (k + 1)) (cp1 I a b k) := by
  rw [L_X6_copyFrom_e0, if_neg (by rw [show (4 : Int32) = Int32.ofNat 4 from rfl, i_ole (by omega) (by omega)]; omega)]
  simp (disch := omega) only [gv_k, i_tno, ixp_1, sI_o]
  rw [gd_t hb]
  rfl
def cp (I : gI) (a b : Nat) : gI := cp1 (cp1 (cp1 (cp1 (sI (sI I a 0 (I b 0)) a 1 (I b 1)) a b 0) a b 1) a b 2) a b 3
theorem cp_s {n : Nat} (hn : 2000 ≤ n) {I : gI} {a b : Nat} (hd : a + 8 ≤ b ∨ b + 8 ≤ a) (hb : ∀ k, k < 4 → I (b + 1) k = 0 ∨ I (b + 1) k = 1) : F_X6_copyFrom n a b I = some (cp I a b) := by
  obtain ⟨j, rfl⟩ : ∃ j, n = j + 5 := ⟨n - 5, by omega⟩
  unfold F_X6_copyFrom cp
  have e0 : sI I a 0 (I b 0) b 1 = I b 1 := sI_o (by omega)
  rw [e0]
  have f : ∀ k, sI (sI I a 0 (I b 0)) a 1 (I b 1) (b + 1) k = I (b + 1) k := fun k => by rw [sI_o (by omega), sI_o (by omega)]
  have s0 := cp_step (j + 5) (j + 4) (sI (sI I a 0 (I b 0)) a 1 (I b 1)) a b 0 (by decide) hd (by rw [f]; exact hb 0 (by decide))
  have z0 : (0 : Int32) = Int32.ofNat 0 := rfl
  refine Eq.trans s0 ?_
  rw [show j + 4 = (j + 3) + 1 from rfl, cp_step _ _ _ _ _ _ (by decide) hd (by rw [cp1_o _ _ _ _ _ _ (by omega), f]; exact hb _ (by decide))]
  rw [show j + 3 = (j + 2) + 1 from rfl, cp_step _ _ _ _ _ _ (by decide) hd (by rw [cp1_o _ _ _ _ _ _ (by omega), cp1_o _ _ _ _ _ _ (by omega), f]; exact hb _ (by decide))]
  rw [show j + 2 = (j + 1) + 1 from rfl, cp_step _ _ _ _ _ _ (by decide) hd (by rw [cp1_o _ _ _ _ _ _ (by omega), cp1_o _ _ _ _ _ _ (by omega), cp1_o _ _ _ _ _ _ (by omega), f]; exact hb _ (by decide))]
  rw [L_X6_copyFrom_e0, if_pos (by decide)]
theorem cp_o (I : gI) (a b o i : Nat) (h : ¬ (a ≤ o ∧ o < a + 8)) : cp I a b o i = I o i := by
  unfold cp
  rw [cp1_o _ _ _ _ _ _ (by omega), cp1_o _ _ _ _ _ _ (by omega), cp1_o _ _ _ _ _ _ (by omega), cp1_o _ _ _ _ _ _ (by omega), sI_o (by omega), sI_o (by omega)]
theorem cp_0 (I : gI) (a b : Nat) : cp I a b a 0 = I b 0 := by
  unfold cp
  rw [cp1_o _ _ _ _ _ _ (by omega), cp1_o _ _ _ _ _ _ (by omega), cp1_o _ _ _ _ _ _ (by omega), cp1_o _ _ _ _ _ _ (by omega), sI_k (by omega), sI_self]
theorem cp_1 (I : gI) (a b : Nat) : cp I a b a 1 = I b 1 := by
  unfold cp
  rw [cp1_o _ _ _ _ _ _ (by omega), cp1_o _ _ _ _ _ _ (by omega), cp1_o _ _ _ _ _ _ (by omega), cp1_o _ _ _ _ _ _ (by omega), sI_self]
theorem cp_f (I : gI) (a b f k : Nat) (hd : a + 8 ≤ b ∨ b + 8 ≤ a) (h1 : 1 ≤ f) (h2 : f ≤ 7) (hk : k < 4) : cp I a b (a + f) k = I (b + f) k := by
  have g : ∀ k, sI (sI I a 0 (I b 0)) a 1 (I b 1) (b + f) k = I (b + f) k := fun k => by rw [sI_o (by omega), sI_o (by omega)]
  unfold cp
  rcases (show k = 0 ∨ k = 1 ∨ k = 2 ∨ k = 3 by omega) with rfl | rfl | rfl | rfl
  · rw [cp1_o _ _ _ _ _ _ (by omega), cp1_o _ _ _ _ _ _ (by omega), cp1_o _ _ _ _ _ _ (by omega), cp1_t _ _ _ _ _ h1 h2, g]
  · rw [cp1_o _ _ _ _ _ _ (by omega), cp1_o _ _ _ _ _ _ (by omega), cp1_t _ _ _ _ _ h1 h2, cp1_o _ _ _ _ _ _ (by omega), g]
  · rw [cp1_o _ _ _ _ _ _ (by omega), cp1_t _ _ _ _ _ h1 h2, cp1_o _ _ _ _ _ _ (by omega), cp1_o _ _ _ _ _ _ (by omega), g]
  · rw [cp1_t _ _ _ _ _ h1 h2, cp1_o _ _ _ _ _ _ (by omega), cp1_o _ _ _ _ _ _ (by omega), cp1_o _ _ _ _ _ _ (by omega), g]
theorem cp_SR {I : gI} {a b : Nat} {p s : gP} (h : SR I b p s) (h4 : (p 4).toInt ≤ 4) (hd : a + 8 ≤ b ∨ b + 8 ≤ a) : SR (cp I a b) a p s := by
  have g : ∀ f k, 1 ≤ f → f ≤ 7 → k < 4 → cp I a b (a + f) k = I (b + f) k := fun f k h1 h2 hk => cp_f I a b f k hd h1 h2 hk
  refine SR.mk ?_ ?_ ?_ ?_ ?_ ?_ ?_ ?_ ?_ ?_
  · rw [cp_0]; exact h.t
  · rw [cp_1]; exact h.op
  · intro k hk; rw [g 1 k (by decide) (by decide) hk]; exact h.b k hk
  · intro k hk; rw [g 1 k (by decide) (by decide) (by omega)]; exact h.on k hk
  · intro k hk; rw [g 2 k (by decide) (by decide) (by omega)]; exact h.amp k hk
  · intro k hk; rw [g 3 k (by decide) (by decide) (by omega)]; exact h.ph k hk
  · intro k hk; rw [g 4 k (by decide) (by decide) (by omega)]; exact h.x k hk
  · intro k hk; rw [g 5 k (by decide) (by decide) (by omega)]; exact h.y k hk
  · intro k hk; rw [g 6 k (by decide) (by decide) (by omega)]; exact h.vx k hk
  · intro k hk; rw [g 7 k (by decide) (by decide) (by omega)]; exact h.vy k hk
/-- the same thirty numbers -/
theorem SR.s {I : gI} {a : Nat} {p s s' : gP} (h : SR I a p s) (h4 : (p 4).toInt ≤ 4) (e : ∀ i, i < 30 → s' i = s i) : SR I a p s' := by
  refine SR.mk ?_ ?_ h.b ?_ ?_ ?_ ?_ ?_ ?_ ?_
  · rw [e _ (by omega)]; exact h.t
  · rw [e _ (by omega)]; exact h.op
  · intro k hk; rw [e _ (by omega)]; exact h.on k hk
  · intro k hk; rw [e _ (by omega)]; exact h.amp k hk
  · intro k hk; rw [e _ (by omega)]; exact h.ph k hk
  · intro k hk; rw [e _ (by omega)]; exact h.x k hk
  · intro k hk; rw [e _ (by omega)]; exact h.y k hk
  · intro k hk; rw [e _ (by omega)]; exact h.vx k hk
  · intro k hk; rw [e _ (by omega)]; exact h.vy k hk
theorem SV.s {p s s' : gP} (h : SV p s) (h4 : (p 4).toInt ≤ 4) (e : ∀ i, i < 30 → s' i = s i) : SV p s' := by
  refine SV.mk ?_ ?_ ?_ ?_
  · rw [e _ (by omega)]; exact h.t
  · rw [e _ (by omega)]; exact h.o
  · intro k hk; rw [e _ (by omega)]; exact h.on k hk
  · intro k hk; rw [e _ (by omega)]; exact h.amp k hk
/-- thirty numbers laid over others -/
def cpK (K : gI) (o0 A o2 B : Nat) : gI := fun o i => if o = o2 ∧ B ≤ i ∧ i < B + 30 then K o0 (A + (i - B)) else K o i
theorem cpK_s {n : Nat} (hn : 2000 ≤ n) (K : gI) {o0 z0 o2 z2 A B : Nat} (ho : o0 ≠ o2) (hA : A + 30 ≤ z0) (hB : B + 30 ≤ z2) (hz : z0 ≤ 1000 ∧ z2 ≤ 1000) : F_X10_copy n o0 z0 o2 z2 K (Int32.ofNat A) (Int32.ofNat B) = some (cpK K o0 A o2 B) := by
  have key : ∀ (d c j : Nat) (K1 : gI), c + d = 30 → d < j → (∀ o i, K1 o i = if o = o2 ∧ B ≤ i ∧ i < B + c then K o0 (A + (i - B)) else K o i) → L_X10_copy n o0 z0 o2 z2 (Int32.ofNat A) (Int32.ofNat B) j 0 (Int32.ofNat c) K1 = some (cpK K o0 A o2 B) := by
    intro d
    induction d with
    | zero =>
      intro c j K1 hc hj h
      obtain ⟨j, rfl⟩ : ∃ i, j = i + 1 := ⟨j - 1, by omega⟩
      obtain rfl : c = 30 := by omega
      rw [L_X10_copy_e0, if_pos (by decide)]
      congr 1
      funext o i
      exact h o i
    | succ d ih =>
      intro c j K1 hc hj h
      obtain ⟨j, rfl⟩ : ∃ i, j = i + 1 := ⟨j - 1, by omega⟩
      rw [L_X10_copy_e0, if_neg (by rw [show (30 : Int32) = Int32.ofNat 30 from rfl, i_ole (by omega) (by omega)]; omega), i_oadd, i_oadd, gv_o (by omega) (by omega), gv_o (by omega) (by omega), i_tno (by omega), i_tno (by omega), ixp_1]
      refine ih (c + 1) j _ (by omega) (by omega) (fun o i => ?_)
      rw [sI_get]
      by_cases h1 : o = o2 ∧ i = B + c
      · rw [if_pos h1, if_pos (by omega), h, if_neg (by omega), show A + (i - B) = A + c by omega]
      · rw [if_neg h1, h]
        by_cases h2 : o = o2 ∧ B ≤ i ∧ i < B + c
        · rw [if_pos h2, if_pos (by omega)]
        · rw [if_neg h2, if_neg (by omega)]
  exact key 30 0 n K rfl (by omega) (fun o i => by rw [if_neg (by omega)])
theorem cpK_o {K : gI} {o0 A o2 B o i : Nat} (h : o ≠ o2) : cpK K o0 A o2 B o i = K o i := by
  unfold cpK; rw [if_neg (fun q => h q.1)]
theorem cpK_t {K : gI} {o0 A o2 B i : Nat} (h : i < 30) : cpK K o0 A o2 B o2 (B + i) = K o0 (A + i) := by
  unfold cpK; rw [if_pos ⟨rfl, by omega, by omega⟩, show B + i - B = i by omega]
/-- the reference's work: the state now, one number another -/
def wk (K : gI) (t : Nat) (v : Int32) : gI := sI (cpK K (153 + 4) 0 (153 + 6) 0) (153 + 6) t v
theorem wk_s {n : Nat} (hn : 2000 ≤ n) (K : gI) {t : Nat} (ht : t < 30) (v : Int32) : F_X10_tries n K (Int32.ofNat t) v = some (wk K t v) := by
  unfold F_X10_tries
  have := cpK_s hn K (o0 := 153 + 4) (z0 := 30) (o2 := 153 + 6) (z2 := 30) (A := 0) (B := 0) (by decide) (by decide) (by decide) (by decide)
  rw [show (0 : Int32) = Int32.ofNat 0 from rfl, this, bd_s, gv_o ht, i_tno (by omega)]
  rfl
theorem wk_o {K : gI} {t : Nat} {v : Int32} {o i : Nat} (h : o ≠ 153 + 6) : wk K t v o i = K o i := by
  unfold wk; rw [sI_o h, cpK_o h]
theorem wk_t {K : gI} {t : Nat} {v : Int32} {i : Nat} (h : i < 30) : wk K t v (153 + 6) i = if i = t then v else K (153 + 4) i := by
  unfold wk
  rw [sI_get]
  by_cases hi : i = t
  · rw [if_pos ⟨rfl, hi⟩, if_pos hi]
  · rw [if_neg (fun q => hi q.2), if_neg hi]
    have := cpK_t (K := K) (o0 := 153 + 4) (A := 0) (o2 := 153 + 6) (B := 0) h
    simpa using this
