/-! LOADING -/
theorem PV.cg {p p' : gP} (hp : PV p) (e : ∀ i, i < 85 → p' i = p i) : PV p' := by
  have h4 := hp.c.2
  have h3 := hp.sh.2
  have hg := hp.ga.2
  refine PV.mk ?_ ?_ ?_ ?_ ?_ ?_ ?_ ?_ ?_ ?_ ?_ ?_ ?_ ?_ ?_ ?_ ?_
  · rw [e _ (by decide)]; exact hp.w
  · rw [e _ (by decide)]; exact hp.h
  · rw [e _ (by decide)]; exact hp.f
  · rw [e _ (by decide), e _ (by decide)]; exact hp.wl
  · rw [e _ (by decide)]; exact hp.c
  · rw [e 4 (by decide)]; intro k hk; rw [e _ (by omega)]; exact hp.len k hk
  · rw [e 4 (by decide)]; intro k hk; rw [e _ (by omega)]; exact hp.per k hk
  · rw [e 4 (by decide)]; intro k hk; rw [e _ (by omega)]; exact hp.frm k hk
  · rw [e 4 (by decide)]; intro k hk; rw [e (13 + k) (by omega), e (17 + k) (by omega)]; exact hp.unt k hk
  · rw [e 4 (by decide)]; intro k hk; rw [e (21 + k) (by omega), e (25 + k) (by omega), e (29 + k) (by omega)]; exact hp.srt k hk
  · intro k hk; rw [e _ (by omega)]; exact hp.mir k hk
  · rw [e _ (by decide)]; exact hp.cut
  · rw [e _ (by decide)]; exact hp.sh
  · rw [e 60 (by decide)]; intro k hk; rw [e _ (by omega)]; exact hp.pct k hk
  · rw [e _ (by decide)]; exact hp.ga
  · rw [e 76 (by decide)]; intro k hk; rw [e _ (by omega), e 0 (by decide)]; exact hp.gx k hk
  · rw [e 76 (by decide)]; intro k hk; rw [e _ (by omega), e 1 (by decide)]; exact hp.gy k hk
theorem TR.cp {I : gI} {o : Nat} {p p' : gP} (hp : PV p) (h : TR I o p) (e : ∀ i, i < 85 → p' i = p i) : TR I o p' := by
  have h4 := hp.c.2
  have h3 := hp.sh.2
  have hg := hp.ga.2
  refine TR.mk ?_ ?_ ?_ ?_ ?_ ?_ ?_ ?_ ?_ ?_ ?_ ?_ ?_ ?_ ?_ ?_ ?_ ?_ ?_ ?_ ?_ ?_ ?_
  · rw [e _ (by decide)]; exact h.w
  · rw [e _ (by decide)]; exact h.h
  · rw [e _ (by decide)]; exact h.f
  · rw [e _ (by decide)]; exact h.wl
  · rw [e _ (by decide)]; exact h.c
  · rw [e _ (by decide)]; exact h.shc
  · rw [e _ (by decide)]; exact h.gc
  · rw [e 4 (by decide)]; intro k hk; rw [e _ (by omega)]; exact h.len k hk
  · rw [e 4 (by decide)]; intro k hk; rw [e _ (by omega)]; exact h.per k hk
  · rw [e 4 (by decide)]; intro k hk; rw [e _ (by omega)]; exact h.frm k hk
  · rw [e 4 (by decide)]; intro k hk; rw [e _ (by omega)]; exact h.unt k hk
  · rw [e 4 (by decide)]; intro k hk; rw [e (21 + k) (by omega), e (25 + k) (by omega), e (29 + k) (by omega)]; exact h.srt k hk
  · rw [e 4 (by decide)]; intro k hk; rw [e _ (by omega)]; exact h.shp k hk
  · rw [e 4 (by decide)]; exact h.cc
  · rw [e 4 (by decide)]; intro k hk x
    rw [h.cut k hk x, sCut_cg (fun i a b => e i (by omega)) (e 41 (by decide)) (by rw [e 41 (by decide)]; exact hp.cut.2)]
  · intro k hk; rw [e _ (by omega)]; exact h.mir k hk
  · rw [e 60 (by decide)]; intro k hk; rw [e _ (by omega)]; exact h.s0 k hk
  · rw [e 60 (by decide)]; intro k hk; rw [e _ (by omega)]; exact h.s1 k hk
  · rw [e 60 (by decide)]; intro k hk; rw [e _ (by omega)]; exact h.s2 k hk
  · rw [e 60 (by decide)]; intro k hk; rw [e _ (by omega)]; exact h.s3 k hk
  · rw [e 60 (by decide)]; intro k hk; rw [e _ (by omega)]; exact h.s4 k hk
  · rw [e 76 (by decide)]; intro k hk; rw [e _ (by omega)]; exact h.gx k hk
  · rw [e 76 (by decide)]; intro k hk; rw [e _ (by omega)]; exact h.gy k hk
theorem TV.cg2 {K K' : gI} (h : TV K) (h1 : ∀ i, K' 162 i = K 162 i) (h2 : K' 153 24 = K 153 24) : TV K' := by
  rcases h with h | h
  · left; rw [h2]; exact h
  · right
    funext o i
    unfold kt
    by_cases c1 : o = 162 ∧ i < 640
    · rw [if_pos c1, c1.1, h1, h]; unfold kt; rw [if_pos ⟨rfl, c1.2⟩]
    · rw [if_neg c1]
      by_cases c2 : o = 153 ∧ i = 24
      · rw [if_pos c2, c2.1, c2.2, h2, h]; unfold kt; rw [if_neg (by decide), if_pos ⟨rfl, rfl⟩]
      · rw [if_neg c2]
/-- a text with a fault leaves the tank -/
theorem Rel.bad {T0 T1 : Nat} {I I' K K' : gI} (R : Rel T0 T1 I K) (hI : ∀ o i, ¬ irI T1 o → ¬ (o = 0 ∧ 1 ≤ i ∧ i ≤ 3) → I' o i = I o i) (hK : ∀ o i, ¬ irK o i → ¬ (o = 153 ∧ (i = 2 ∨ i = 5 ∨ i = 6)) → K' o i = K o i) (tv : TV K') (tb : ∀ k, k < 4 → I' (10 + 1) k = 0 ∨ I' (10 + 1) k = 1) (z1 : I' 0 1 = 0) (z2 : K' 153 2 = 0) (ec : I' 0 2 = K' 153 5) (ep : I' 0 3 = K' 153 6) : Rel T0 T1 I' K' := by
  have ht := R.tt
  have ep' : pl K' = pl K := by funext i; exact hK _ _ (by unfold irK; omega) (by omega)
  have es : st K' = st K := by funext i; exact hK _ _ (by unfold irK; omega) (by omega)
  have eh : ∀ j, hs K' j = hs K j := by intro j; funext i; exact hK _ _ (by unfold irK; omega) (by omega)
  have el : ∀ j, sl K' j = sl K j := by intro j; funext i; exact hK _ _ (by unfold irK; omega) (by omega)
  have f04 : I' 0 4 = I 0 4 := hI _ _ (by unfold irI; omega) (by omega)
  have f18 : ∀ i, I' 18 i = I 18 i := fun i => hI _ _ (by unfold irI; omega) (by omega)
  have f85 : ∀ i, I' 85 i = I 85 i := fun i => hI _ _ (by unfold irI; omega) (by omega)
  have f86 : ∀ i, I' 86 i = I 86 i := fun i => hI _ _ (by unfold irI; omega) (by omega)
  have f87 : ∀ i, I' (86 + 1) i = I (86 + 1) i := fun i => hI _ _ (by unfold irI; omega) (by omega)
  have k19 : K' 153 19 = K 153 19 := hK _ _ (by unfold irK; omega) (by omega)
  have k23 : K' 153 23 = K 153 23 := hK _ _ (by unfold irK; omega) (by omega)
  have k32 : K' 153 32 = K 153 32 := hK _ _ (by unfold irK; omega) (by omega)
  have k10 : ∀ i, K' (153 + 10) i = K (153 + 10) i := fun i => hK _ _ (by unfold irK; omega) (by omega)
  have k16 : ∀ i, K' (153 + 16) i = K (153 + 16) i := fun i => hK _ _ (by unfold irK; omega) (by omega)
  have h0 := R.h0
  have zn : (I' 0 1).toInt.toNat = 0 := by rw [z1]; rfl
  refine Rel.mk ht ?_ ?_ ?_ ?_ ec ep ?_ tv ?_ ?_ ?_ ?_ ?_ ?_ ?_ ?_ ?_ ?_ tb
  · rw [z1, z2]
  · rw [z1]; decide
  · rw [zn]; intro i hi; exact absurd hi (Nat.not_lt_zero _)
  · rw [zn]; intro i hi; exact absurd hi (Nat.not_lt_zero _)
  · rw [f04, k23]
    rcases R.ld with h | ⟨h1, h2, L⟩
    · exact Or.inl h
    · refine Or.inr ⟨h1, h2, LD.mk ?_ ?_ ?_ ?_ ?_⟩
      · rw [ep']; exact L.pv
      · rw [ep']; exact L.c1
      · rw [ep']; exact L.tr.cg L.pv.c.2 L.pv.sh.2 (fun q i a b => hI _ _ (by unfold irI; omega) (by omega))
      · rw [ep', es]; exact L.sr.cg (fun q i a b => hI _ _ (by unfold irI; omega) (by omega))
      · rw [ep', es]; exact L.sv
  · intro x y hx hy; rw [hI _ _ (by unfold irI; omega) (by omega)]; exact R.ru x y hx hy
  · rw [f18, k19]; exact R.hc
  · rw [f18]; exact R.h0
  · rw [f18]; exact R.ho
  · rw [f18, f04]; exact R.hl
  · rw [f18, f18, ep']
    intro i hi
    rw [eh]
    exact ⟨(R.hr i hi).1.cg (fun q i a b => hI _ _ (by unfold irI; omega) (by omega)), (R.hr i hi).2⟩
  · intro b hb
    rw [f85, k10, f04, ep', el]
    refine ⟨(R.sf b hb).1, ?_⟩
    rcases (R.sf b hb).2 with h | ⟨h1, h2, h3, h4⟩
    · exact Or.inl h
    · exact Or.inr ⟨h1, h2, h3.cg (fun q i a b => hI _ _ (by unfold irI; omega) (by omega)), h4⟩
  · rw [f86, k32]; exact R.pn
  · rw [f86]; exact R.p0
  · rw [f86]; intro i hi; rw [f87, k16]; exact R.pb i hi
/-- a text without faults makes a new tank -/
theorem Rel.new {T0 T1 : Nat} {I I' K K' : gI} (R : Rel T0 T1 I K) (hI : ∀ o i, ¬ irI T1 o → o ≠ 0 → ¬ (2 ≤ o ∧ o < 10) → o ≠ 85 → ¬ (o = 18 ∧ i = 2) → I' o i = I o i) (k32 : K' 153 32 = K 153 32) (k16 : ∀ i, K' (153 + 16) i = K (153 + 16) i) (tv : TV K') (tb : ∀ k, k < 4 → I' (10 + 1) k = 0 ∨ I' (10 + 1) k = 1) (z1 : I' 0 1 = 0) (z2 : K' 153 2 = 0) (ec : I' 0 2 = K' 153 5) (ep : I' 0 3 = K' 153 6) (l1 : I' 0 4 = 1) (l2 : K' 153 23 = 1) (h1 : I' 18 2 = 0) (h2 : K' 153 19 = 0) (s1 : ∀ b, b < 2 → I' 85 b = 0) (s2 : ∀ b, b < 2 → K' (153 + 10) b = 0) (L : LD T1 I' K') : Rel T1 T0 I' K' := by
  have ht := R.tt
  have zn : (I' 0 1).toInt.toNat = 0 := by rw [z1]; rfl
  have hn : (I' 18 2).toInt.toNat = 0 := by rw [h1]; rfl
  have f86 : ∀ i, I' 86 i = I 86 i := fun i => hI _ _ (by unfold irI; omega) (by omega) (by omega) (by omega) (by omega)
  have f87 : ∀ i, I' (86 + 1) i = I (86 + 1) i := fun i => hI _ _ (by unfold irI; omega) (by omega) (by omega) (by omega) (by omega)
  refine Rel.mk (by omega) ?_ ?_ ?_ ?_ ec ep (Or.inr ⟨l1, l2, L⟩) tv ?_ ?_ ?_ ?_ (Or.inl h1) ?_ ?_ ?_ ?_ ?_ tb
  · rw [z1, z2]
  · rw [z1]; decide
  · rw [zn]; intro i hi; exact absurd hi (Nat.not_lt_zero _)
  · rw [zn]; intro i hi; exact absurd hi (Nat.not_lt_zero _)
  · intro x y hx hy; rw [hI _ _ (by unfold irI; omega) (by omega) (by omega) (by omega) (by omega)]; exact R.ru x y hx hy
  · rw [h1, h2]
  · rw [h1]; decide
  · rw [hI 18 1 (by unfold irI; omega) (by omega) (by omega) (by omega) (by omega)]; exact R.ho
  · rw [hn]; intro i hi; exact absurd hi (Nat.not_lt_zero _)
  · intro b hb; exact ⟨by rw [s1 b hb, s2 b hb], Or.inl (s1 b hb)⟩
  · rw [f86, k32]; exact R.pn
  · rw [f86]; exact R.p0
  · rw [f86]; intro i hi; rw [f87, k16]; exact R.pb i hi
section LOAD
variable {n T0 T1 o : Nat} {I K : gI}
theorem clr (hn : 2000 ≤ n) (T1 : Nat) (I : gI) : ∃ I', F_X7_clear n T1 I = some I' ∧ I' T1 4 = -1 ∧ I' T1 5 = 0 ∧ I' T1 7 = 0 ∧ I' T1 9 = 0 ∧ (∀ i, i < 4 → I' (T1 + 5) i = 0) ∧ ∀ a i, a ≠ T1 → a ≠ T1 + 5 → I' a i = I a i := by
  have key : ∀ (d x j : Nat) (I : gI), x + d = 4 → d < j → ∃ I', L_X7_clear n T1 j 0 (Int32.ofNat x) I = some I' ∧ ∀ a i, I' a i = if a = T1 + 5 ∧ x ≤ i ∧ i < 4 then 0 else I a i := by
    intro d
    induction d with
    | zero =>
      intro x j I hx hj
      obtain ⟨j, rfl⟩ : ∃ i, j = i + 1 := ⟨j - 1, by omega⟩
      refine ⟨I, ?_, fun a i => by rw [if_neg (by omega)]⟩
      rw [L_X7_clear_e0, if_pos (by rw [i_le, i_of (by omega)]; show (4 : Int) ≤ x; omega)]
    | succ d ih =>
      intro x j I hx hj
      obtain ⟨j, rfl⟩ : ∃ i, j = i + 1 := ⟨j - 1, by omega⟩
      obtain ⟨I', e, h⟩ := ih (x + 1) j (sI I (T1 + 5) x 0) (by omega) (by omega)
      refine ⟨I', ?_, fun a i => ?_⟩
      · rw [L_X7_clear_e0, if_neg (by rw [i_le, i_of (by omega)]; show ¬ (4 : Int) ≤ x; omega), gv_o (by omega), i_tno (by omega), ixp_1]; exact e
      · rw [h, sI_get]
        by_cases c : a = T1 + 5 ∧ i = x
        · rw [if_neg (by omega), if_pos c, if_pos (by omega)]
        · rw [if_neg c]
          by_cases c2 : a = T1 + 5 ∧ x ≤ i ∧ i < 4
          · rw [if_pos (by omega), if_pos c2]
          · rw [if_neg (by omega), if_neg c2]
  obtain ⟨I', e, h⟩ := key 4 0 n (sI (sI (sI (sI I T1 4 (-1)) T1 5 0) T1 7 0) T1 9 0) (by omega) (by omega)
  refine ⟨I', e, ?_, ?_, ?_, ?_, fun i hi => ?_, fun a i h1 h2 => ?_⟩
  · rw [h, if_neg (by omega)]; simp (disch := omega) only [sI_k, sI_self]
  · rw [h, if_neg (by omega)]; simp (disch := omega) only [sI_k, sI_self]
  · rw [h, if_neg (by omega)]; simp (disch := omega) only [sI_k, sI_self]
  · rw [h, if_neg (by omega), sI_self]
  · rw [h, if_pos (by omega)]
  · rw [h, if_neg (by omega)]; simp (disch := omega) only [sI_o]
theorem z85 (n : Nat) : ∀ (d x j : Nat) (K : gI), x + d = 85 → ∃ K', L_X10_readText n (j + d + 1) 0 (Int32.ofNat x) K = L_X10_readText n j 1 0 K' ∧ ∀ a i, K' a i = if a = 153 + 3 ∧ x ≤ i ∧ i < 85 then 0 else K a i := by
  intro d
  induction d with
  | zero =>
    intro x j K hx
    refine ⟨K, ?_, fun a i => by rw [if_neg (by omega)]⟩
    rw [L_X10_readText_e0, if_pos (by rw [i_le, i_of (by omega)]; show (85 : Int) ≤ x; omega)]
  | succ d ih =>
    intro x j K hx
    obtain ⟨K', e, h⟩ := ih (x + 1) j (sI K (153 + 3) x 0) (by omega)
    refine ⟨K', ?_, fun a i => ?_⟩
    · rw [L_X10_readText_e0, if_neg (by rw [i_le, i_of (by omega)]; show ¬ (85 : Int) ≤ x; omega), gv_o (by omega), i_tno (by omega), ixp_1]; exact e
    · rw [h, sI_get]
      by_cases c : a = 153 + 3 ∧ i = x
      · rw [if_neg (by omega), if_pos c, if_pos (by omega)]
      · rw [if_neg c]
        by_cases c2 : a = 153 + 3 ∧ x ≤ i ∧ i < 85
        · rw [if_pos (by omega), if_pos c2]
        · rw [if_neg (by omega), if_neg c2]
theorem z30 (n : Nat) : ∀ (d x j : Nat) (K : gI), x + d = 30 → ∃ K', L_X10_readText n (j + d + 1) 1 (Int32.ofNat x) K = bd (F_X10_nextToken n (sI (sI (sI K' 153 20 0) 153 21 0) 153 22 0)) (fun v58 => bd (F_X10_readFirst n v58) (fun v62 => L_X10_readText n j 2 (Int32.ofNat 30) v62)) ∧ ∀ a i, K' a i = if a = 153 + 5 ∧ x ≤ i ∧ i < 30 then 0 else K a i := by
  intro d
  induction d with
  | zero =>
    intro x j K hx
    refine ⟨K, ?_, fun a i => by rw [if_neg (by omega)]⟩
    rw [L_X10_readText_e1, if_pos (by rw [i_le, i_of (by omega)]; show (30 : Int) ≤ x; omega)]
    have : x = 30 := by omega
    rw [this]
  | succ d ih =>
    intro x j K hx
    obtain ⟨K', e, h⟩ := ih (x + 1) j (sI K (153 + 5) x 0) (by omega)
    refine ⟨K', ?_, fun a i => ?_⟩
    · rw [L_X10_readText_e1, if_neg (by rw [i_le, i_of (by omega)]; show ¬ (30 : Int) ≤ x; omega), gv_o (by omega), i_tno (by omega), ixp_1]; exact e
    · rw [h, sI_get]
      by_cases c : a = 153 + 5 ∧ i = x
      · rw [if_neg (by omega), if_pos c, if_pos (by omega)]
      · rw [if_neg c]
        by_cases c2 : a = 153 + 5 ∧ x ≤ i ∧ i < 30
        · rw [if_pos (by omega), if_pos c2]
        · rw [if_neg (by omega), if_neg c2]
theorem p85 (n : Nat) (a1 : Int32) : ∀ (d x j : Nat) (K : gI), x + d = 85 → d < j → ∃ K', L_X10_load n a1 j 0 (Int32.ofNat x) K = bd (F_X10_copy n (153 + 5) 30 (153 + 4) 30 K' (0 : Int32) (0 : Int32)) (fun v101 => some (((sI (sI (sI (sI v101 153 23 (1 : Int32)) (153 + 10) 0 (0 : Int32)) (153 + 10) 1 (0 : Int32)) 153 19 (0 : Int32)) (153 + 2) 4), (sI (sI (sI (sI v101 153 23 (1 : Int32)) (153 + 10) 0 (0 : Int32)) (153 + 10) 1 (0 : Int32)) 153 19 (0 : Int32)))) ∧ ∀ a i, K' a i = if a = 153 + 2 ∧ x ≤ i ∧ i < 85 then K (153 + 3) i else K a i := by
  intro d
  induction d with
  | zero =>
    intro x j K hx hj
    obtain ⟨j, rfl⟩ : ∃ i, j = i + 1 := ⟨j - 1, by omega⟩
    refine ⟨K, ?_, fun a i => by rw [if_neg (by omega)]⟩
    rw [L_X10_load_e0, if_pos (by rw [i_le, i_of (by omega)]; show (85 : Int) ≤ x; omega)]
  | succ d ih =>
    intro x j K hx hj
    obtain ⟨j, rfl⟩ : ∃ i, j = i + 1 := ⟨j - 1, by omega⟩
    obtain ⟨K', e, h⟩ := ih (x + 1) j (sI K (153 + 2) x (K (153 + 3) x)) (by omega) (by omega)
    refine ⟨K', ?_, fun a i => ?_⟩
    · rw [L_X10_load_e0, if_neg (by rw [i_le, i_of (by omega)]; show ¬ (85 : Int) ≤ x; omega), gv_o (by omega), gv_o (by omega), i_tno (by omega), ixp_1]; exact e
    · rw [h, sI_o (o' := 153 + 3) (by decide), sI_get]
      by_cases c : a = 153 + 2 ∧ i = x
      · rw [if_neg (by omega), if_pos c, if_pos (by omega), c.2]
      · rw [if_neg c]
        by_cases c2 : a = 153 + 2 ∧ x ≤ i ∧ i < 85
        · rw [if_pos (by omega), if_pos c2]
        · rw [if_neg (by omega), if_neg c2]
/-- more bytes than there are -/
theorem e_load0 (R : Rel T0 T1 I K) {a1 : Int32} (h : ¬ (0 ≤ a1.toInt ∧ a1.toInt ≤ (I 0 1).toInt)) : F_X10_load n K a1 = some (0, sI K 153 0 1) := by
  have g : rng a1 0 (K 153 2) = false := by
    cases g : rng a1 0 (K 153 2)
    · rfl
    · have := rng_t.mp g
      rw [← R.bn, ii_0] at this
      exact absurd this h
  have e : sI (sI K 153 0 0) 153 0 1 = sI K 153 0 1 := by
    funext x y
    rw [sI_get, sI_get, sI_get]
    by_cases c : x = 153 ∧ y = 0
    · rw [if_pos c, if_pos c]
    · rw [if_neg c, if_neg c, if_neg c]
  unfold F_X10_load F_X10_throwsAt
  rw [sI_k (by decide), x_in, bd_s, g, if_pos (show b2 false = 0 from rfl), bd_s, e]
/-- a text -/
theorem e_load (hn : 2000 ≤ n) (R : Rel T0 T1 I K) (ho : 172 ≤ o) {a1 : Int32} (h : 0 ≤ a1.toInt ∧ a1.toInt ≤ (I 0 1).toInt) {Ip : gI} (p1 : Ip 0 1 = 0) (p0 : Ip o 0 = 0) (pp : Ip o 1 = -1) (p3 : Ip o 3 = a1) (p8 : Ip o 8 = 0) (p10 : Ip o 10 = 0) (p11 : Ip o 11 = 0) (p12 : Ip o 12 = 0) (p13 : Ip o 13 = 0) (hp : ∀ a i, a ≠ o → (a ≠ 0 ∨ i ≠ 1) → Ip a i = I a i) : ∃ I3 v K3, F_X3_readText n T1 o Ip = some I3 ∧ F_X10_load n K a1 = some (v, K3) ∧ ((I3 o 0 = 0 ∧ F_X6_copyFrom n 2 10 (sI (sI I3 0 2 (I3 o 0)) 0 3 (I3 o 1)) = some (cp (sI (sI I3 0 2 (I3 o 0)) 0 3 (I3 o 1)) 2 10) ∧ v = I3 T1 5 ∧ Rel T1 T0 (sI (sI (sI (sI (cp (sI (sI I3 0 2 (I3 o 0)) 0 3 (I3 o 1)) 2 10) 18 2 0) 85 0 0) 85 1 0) 0 4 1) K3 ∧ K3 153 0 = 0) ∨ (¬ I3 o 0 = 0 ∧ Rel T0 T1 (sI (sI I3 0 2 (I3 o 0)) 0 3 (I3 o 1)) K3 ∧ K3 153 0 = 2)) := by
  have ht := R.tt
  have ht1 : T1 = 95 ∨ T1 = 116 := by omega
  obtain ⟨E, hE⟩ : ∃ E, E = a1.toInt.toNat := ⟨_, rfl⟩
  have hb0 := R.b0
  have a1e : a1 = Int32.ofNat E := by rw [hE]; exact (i_on h.1).symm
  have g : rng a1 0 (K 153 2) = true := by
    rw [rng_t, ← R.bn, ii_0]; exact h
  -- the reference's start
  obtain ⟨Ka, hKa⟩ : ∃ Ka, Ka = sI (sI (sI (sI (sI (sI K 153 0 (0 : Int32)) 153 3 a1) 153 2 (0 : Int32)) 153 4 (0 : Int32)) 153 5 (0 : Int32)) 153 6 (-1 : Int32) := ⟨_, rfl⟩
  obtain ⟨j, hj⟩ : ∃ j, n = j + 30 + 1 + 85 + 1 := ⟨n - 117, by omega⟩
  obtain ⟨Kb, eb, hb⟩ := z85 n 85 0 (j + 30 + 1) Ka rfl
  obtain ⟨Kc, ec, hc⟩ := z30 n 30 0 j Kb rfl
  obtain ⟨Kd, hKd⟩ : ∃ Kd, Kd = sI (sI (sI Kc 153 20 (0 : Int32)) 153 21 (0 : Int32)) 153 22 (0 : Int32) := ⟨_, rfl⟩
  rw [← hKd] at ec
  have kd : ∀ a i, a ≠ 156 → a ≠ 158 → (a ≠ 153 ∨ (6 < i ∧ ¬ (20 ≤ i ∧ i ≤ 22)) ∨ i = 1) → Kd a i = K a i := by
    intro a i h1 h2 h3
    rw [hKd]
    simp only [sI_get]
    rw [if_neg (by omega), if_neg (by omega), if_neg (by omega), hc, if_neg (by omega), hb, if_neg (by omega), hKa]
    simp only [sI_get]
    repeat rw [if_neg (by omega)]
  have kda : ∀ i, i < 7 → Kd 153 i = Ka 153 i := by
    intro i hi
    rw [hKd]
    simp only [sI_get]
    rw [if_neg (by omega), if_neg (by omega), if_neg (by omega), hc, if_neg (by omega), hb, if_neg (by omega)]
  have kd156 : ∀ i, i < 85 → Kd (153 + 3) i = 0 := by
    intro i hi
    rw [hKd]
    simp only [sI_get]
    rw [if_neg (by omega), if_neg (by omega), if_neg (by omega), hc, if_neg (by omega), hb, if_pos (by omega)]
  have kd158 : ∀ i, i < 30 → Kd (153 + 5) i = 0 := by
    intro i hi
    rw [hKd]
    simp only [sI_get]
    rw [if_neg (by omega), if_neg (by omega), if_neg (by omega), hc, if_pos (by omega)]
  -- the program's start
  obtain ⟨Ia, ea, c4, c5, c7, c9, cm, co⟩ := clr hn T1 Ip
  obtain ⟨Ib, hIb⟩ : ∃ Ib, Ib = sI (sI Ia 10 0 (0 : Int32)) 10 1 (0 : Int32) := ⟨_, rfl⟩
  have ib : ∀ a i, a ≠ T1 → a ≠ T1 + 5 → a ≠ 10 → Ib a i = Ip a i := by
    intro a i h1 h2 h3
    rw [hIb, sI_o h3, sI_o h3, co a i h1 h2]
  have ibT : ∀ a i, a ≠ 10 → Ib a i = Ia a i := by
    intro a i h3
    rw [hIb, sI_o h3, sI_o h3]
  have N : NX E 0 Ib Kd o := by
    refine ⟨ho, ⟨by omega, fun i hi => ?_⟩, ?_, ?_, ?_, ?_, ?_, ?_, ?_, Nat.zero_le _⟩
    · rw [ib _ _ (by omega) (by omega) (by omega), hp _ _ (by omega) (Or.inl (by decide)), kd _ _ (by decide) (by decide) (Or.inl (by decide))]
      exact ⟨R.by1 i (by omega), R.by2 i (by omega)⟩
    · rw [ib _ _ (by omega) (by omega) (by omega), p3, a1e]
    · rw [kda _ (by decide), hKa, ← a1e]; simp (disch := omega) only [sI_k, sI_self]
    · rw [ib _ _ (by omega) (by omega) (by omega), p0]
    · rw [kda _ (by decide), hKa]; simp (disch := omega) only [sI_k, sI_self]
    · rw [ib _ _ (by omega) (by omega) (by omega), pp, kda _ (by decide), hKa, sI_self]
    · rw [ib _ _ (by omega) (by omega) (by omega), p8]; rfl
    · rw [kda _ (by decide), hKa]; simp (disch := omega) only [sI_k, sI_self]; rfl
  have Z : ZZ T1 o Ib Kd := by
    refine ZZ.mk ?_ ?_ ?_ ?_ ?_ ?_ ?_ ?_ ?_ ?_ ?_ ?_ kd156 kd158 ?_ ?_ ?_
    · rw [ibT _ _ (by omega)]; exact c4
    · rw [ibT _ _ (by omega)]; exact c5
    · rw [ibT _ _ (by omega)]; exact c7
    · rw [ibT _ _ (by omega)]; exact c9
    · intro i hi; rw [ibT _ _ (by omega)]; exact cm i hi
    · rw [hIb, sI_k (by decide), sI_self]
    · rw [hIb, sI_self]
    · intro k hk; rw [ib _ _ (by omega) (by omega) (by omega), hp _ _ (by omega) (Or.inl (by omega))]; exact R.tb k hk
    · rw [ib _ _ (by omega) (by omega) (by omega), p10]
    · rw [ib _ _ (by omega) (by omega) (by omega), p11]
    · rw [ib _ _ (by omega) (by omega) (by omega), p12]
    · rw [ib _ _ (by omega) (by omega) (by omega), p13]
    · rw [hKd]; simp (disch := omega) only [sI_k, sI_self]
    · rw [hKd]; simp (disch := omega) only [sI_k, sI_self]
    · rw [hKd, sI_self]
  obtain ⟨I1, K1, q1, e1, f1, P1, r1, ok1, hq1, hk1⟩ := nx (T1 := T1) hn N
  obtain ⟨I2, K2, q2, e2, f2, P2, g2, h2⟩ := l_head hn P1 (Z.fr r1 ht1 ho) ht1
  obtain ⟨I3, K3, q3, e3, f3, P3, g3, h3⟩ := l_lines (I0 := Ib) (K0 := Kd) hn ht1 901 0 q2 n j (Int32.ofNat 30) I2 K2 rfl (by omega) (by omega) (by omega) (by omega) P2 ((r1.gr ho).trans g2) (fun z => by
    obtain ⟨D2, hq2, h6⟩ := h2 z
    have := hk1 (by rw [h6]; decide)
    exact ⟨D2, by omega⟩)
  have rt1 : F_X3_readText n T1 o Ip = some I3 := by
    unfold F_X3_readText
    rw [ea, bd_s, ← hIb, e1, bd_s, e2, bd_s]
    exact e3
  have rt2 : F_X10_readText n Ka = some K3 := by
    unfold F_X10_readText
    have : L_X10_readText n n 0 (Int32.ofNat 0) Ka = some K3 := by
      have eb' : L_X10_readText n n 0 (Int32.ofNat 0) Ka = L_X10_readText n (j + 30 + 1) 1 0 Kb := by
        have := eb
        rw [← hj] at this
        exact this
      rw [eb']
      have ec' : L_X10_readText n (j + 30 + 1) 1 0 Kb = bd (F_X10_nextToken n Kd) (fun v58 => bd (F_X10_readFirst n v58) (fun v62 => L_X10_readText n j 2 (Int32.ofNat 30) v62)) := ec
      rw [ec', f1, bd_s, f2, bd_s, f3]
    exact this
  -- what has not changed
  have iI : ∀ a i, a ≠ o → ¬ (T1 ≤ a ∧ a < T1 + 21) → ¬ (10 ≤ a ∧ a < 18) → (a ≠ 0 ∨ i ≠ 1) → I3 a i = I a i := by
    intro a i x1 x2 x3 x4
    rw [g3.1 a i x1 x2 x3, ib a i (by omega) (by omega) (by omega), hp a i x1 x4]
  have i01 : I3 0 1 = 0 := by
    rw [g3.1 0 1 (by omega) (by omega) (by omega), ib _ _ (by omega) (by omega) (by omega), p1]
  have kK : ∀ a i, a ≠ 156 → a ≠ 158 → (a ≠ 153 ∨ (9 < i ∧ ¬ (20 ≤ i ∧ i ≤ 22)) ∨ i = 1) → K3 a i = K a i := by
    intro a i x1 x2 x3
    rw [g3.2.1 a i x1 x2 (by omega), kd a i x1 x2 (by omega)]
  have k32 : K3 153 2 = 0 := by
    rw [g3.2.1 _ _ (by decide) (by decide) (Or.inr (Or.inl (by decide))), kda _ (by decide), hKa]; simp (disch := omega) only [sI_k, sI_self]
  have k30 : K3 153 0 = 0 := by
    rw [g3.2.1 _ _ (by decide) (by decide) (Or.inr (Or.inl (by decide))), kda _ (by decide), hKa]; simp (disch := omega) only [sI_k, sI_self]
  have tv3 : TV K3 := R.tv.cg2 (fun i => kK _ _ (by decide) (by decide) (Or.inl (by decide))) (kK _ _ (by decide) (by decide) (Or.inr (Or.inl (by decide))))
  have tb3 : TB I3 := g3.2.2 (fun k hk => Z.tb k hk)
  have ecode := P3.ec
  have eplace : I3 o 1 = K3 153 6 := P3.2.2.2.2.2.1
  have e0' : F_X10_load n K a1 = (if (K3 153 5) ≤ 0 then L_X10_load n a1 n 0 (0 : Int32) K3 else bd (F_X10_throwsAt n K3 (2 : Int32)) (fun v61 => some (v61.1, v61.2))) := by
    unfold F_X10_load
    rw [sI_k (by decide), x_in, bd_s, g, if_neg (show ¬ b2 true = 0 by decide), ← hKa, rt2, bd_s]
  by_cases ok3 : I3 o 0 = 0
  · obtain ⟨D3, hc1⟩ := h3 ok3
    obtain ⟨Ke, ee, he⟩ := p85 n a1 85 0 n K3 rfl (by omega)
    have ecp : F_X10_copy n (153 + 5) 30 (153 + 4) 30 Ke (0 : Int32) (0 : Int32) = some (cpK Ke (153 + 5) 0 (153 + 4) 0) := cpK_s hn Ke (A := 0) (B := 0) (by decide) (by decide) (by decide) (by decide)
    obtain ⟨Kg, hKg⟩ : ∃ Kg, Kg = sI (sI (sI (sI (cpK Ke (153 + 5) 0 (153 + 4) 0) 153 23 (1 : Int32)) (153 + 10) 0 (0 : Int32)) (153 + 10) 1 (0 : Int32)) 153 19 (0 : Int32) := ⟨_, rfl⟩
    have lo : F_X10_load n K a1 = some (Kg (153 + 2) 4, Kg) := by
      rw [e0', if_pos (by rw [← ecode, ok3]; decide)]
      have : L_X10_load n a1 n 0 (Int32.ofNat 0) K3 = some (Kg (153 + 2) 4, Kg) := by
        rw [ee, ecp, bd_s, ← hKg]
      exact this
    have kg : ∀ a i, a ≠ 155 → a ≠ 157 → a ≠ 163 → (a ≠ 153 ∨ (i ≠ 19 ∧ i ≠ 23)) → Kg a i = K3 a i := by
      intro a i h1 h2 h3 h4
      rw [hKg]
      simp only [sI_get]
      rw [if_neg (by omega), if_neg (by omega), if_neg (by omega), if_neg (by omega), cpK_o (by omega), he, if_neg (by omega)]
    have kgp : ∀ i, i < 85 → pl Kg i = pn K3 i := by
      intro i hi
      show Kg (153 + 2) i = K3 (153 + 3) i
      rw [hKg]
      simp only [sI_get]
      rw [if_neg (by omega), if_neg (by omega), if_neg (by omega), if_neg (by omega), cpK_o (by omega), he, if_pos (by omega)]
    have kgs : ∀ i, i < 30 → st Kg i = dn K3 i := by
      intro i hi
      show Kg (153 + 4) i = K3 (153 + 5) i
      rw [hKg]
      simp only [sI_get]
      rw [if_neg (by omega), if_neg (by omega), if_neg (by omega), if_neg (by omega)]
      have := cpK_t (K := Ke) (o0 := 153 + 5) (A := 0) (o2 := 153 + 4) (B := 0) (i := i) hi
      rw [Nat.zero_add] at this
      rw [this, he, if_neg (by omega)]
    obtain ⟨Ic, hIc⟩ : ∃ Ic, Ic = sI (sI I3 0 2 (I3 o 0)) 0 3 (I3 o 1) := ⟨_, rfl⟩
    have ic : ∀ a i, (a ≠ 0 ∨ (i ≠ 2 ∧ i ≠ 3)) → Ic a i = I3 a i := by
      intro a i h1
      rw [hIc]; simp only [sI_get]
      rw [if_neg (by omega), if_neg (by omega)]
    have cps : F_X6_copyFrom n 2 10 Ic = some (cp Ic 2 10) := cp_s hn (by decide) (fun k hk => by rw [ic _ _ (by omega)]; exact tb3 k hk)
    obtain ⟨If, hIf⟩ : ∃ If, If = sI (sI (sI (sI (cp Ic 2 10) 18 2 (0 : Int32)) 85 0 (0 : Int32)) 85 1 (0 : Int32)) 0 4 (1 : Int32) := ⟨_, rfl⟩
    have jf : ∀ a i, (a ≠ 0 ∨ i ≠ 4) → a ≠ 85 → ¬ (a = 18 ∧ i = 2) → If a i = cp Ic 2 10 a i := by
      intro a i h1 h2 h3
      rw [hIf]; simp only [sI_get]
      rw [if_neg (by omega), if_neg (by omega), if_neg (by omega), if_neg (by omega)]
    have jg : ∀ a i, (a ≠ 0 ∨ (i ≠ 4 ∧ i ≠ 2 ∧ i ≠ 3)) → a ≠ 85 → ¬ (a = 18 ∧ i = 2) → ¬ (2 ≤ a ∧ a < 10) → If a i = I3 a i := by
      intro a i h1 h2 h3 h4
      rw [jf a i (by omega) h2 h3, cp_o _ _ _ _ _ (by omega), ic a i (by omega)]
    refine ⟨I3, Kg (153 + 2) 4, Kg, rt1, lo, Or.inl ⟨ok3, ?_, ?_, ?_, ?_⟩⟩
    · rw [← hIc]; exact cps
    · have := kgp 4 (by decide)
      rw [show Kg (153 + 2) 4 = pl Kg 4 from rfl, this, D3.tr.c]
    · rw [← hIc, ← hIf]
      have pv := D3.pv.cg kgp
      refine R.new ?_ ?_ ?_ ?_ ?_ ?_ ?_ ?_ ?_ ?_ ?_ ?_ ?_ ?_ ?_ ?_
      · intro a i h1 h2 h3 h4 h5
        unfold irI at h1
        rw [jg a i (Or.inl h2) h4 h5 h3, iI a i (by omega) (by omega) (by omega) (Or.inl h2)]
      · rw [kg _ _ (by decide) (by decide) (by decide) (Or.inr (by decide)), kK _ _ (by decide) (by decide) (Or.inr (Or.inl (by decide)))]
      · intro i; rw [kg _ _ (by decide) (by decide) (by decide) (Or.inl (by decide)), kK _ _ (by decide) (by decide) (Or.inl (by decide))]
      · exact tv3.cg2 (fun i => kg _ _ (by decide) (by decide) (by decide) (Or.inl (by decide))) (kg _ _ (by decide) (by decide) (by decide) (Or.inr (by decide)))
      · intro k hk; rw [jg _ _ (Or.inl (by decide)) (by decide) (by omega) (by decide)]; exact tb3 k hk
      · rw [jg _ _ (Or.inr (by decide)) (by decide) (by decide) (by decide), i01]
      · rw [kg _ _ (by decide) (by decide) (by decide) (Or.inr (by decide)), k32]
      · rw [jf _ _ (Or.inr (by decide)) (by decide) (by decide), cp_o _ _ _ _ _ (by decide), hIc, sI_k (by decide), sI_self, kg _ _ (by decide) (by decide) (by decide) (Or.inr (by decide)), ecode]
      · rw [jf _ _ (Or.inr (by decide)) (by decide) (by decide), cp_o _ _ _ _ _ (by decide), hIc, sI_self, kg _ _ (by decide) (by decide) (by decide) (Or.inr (by decide)), eplace]
      · rw [hIf, sI_self]
      · rw [hKg]; simp (disch := omega) only [sI_k, sI_o, sI_self]
      · rw [hIf]; simp (disch := omega) only [sI_k, sI_o, sI_self]
      · rw [hKg, sI_self]
      · intro b hb
        rw [hIf, sI_o (by decide), sI_get]
        by_cases c : b = 1
        · rw [if_pos ⟨rfl, c⟩]
        · rw [if_neg (fun z => c z.2), show b = 0 by omega, sI_self]
      · intro b hb
        rw [hKg, sI_o (by decide), sI_get]
        by_cases c : b = 1
        · rw [if_pos ⟨rfl, c⟩]
        · rw [if_neg (fun z => c z.2), show b = 0 by omega, sI_self]
      · have tr' : TR If T1 (pn K3) := D3.tr.cg D3.pv.c.2 D3.pv.sh.2 (fun q i a b => jg _ _ (Or.inl (by omega)) (by omega) (by omega) (by omega))
        have sr0 : SR Ic 10 (pn K3) (dn K3) := D3.sr.cg (fun q i a b => ic _ _ (Or.inl (by omega)))
        have sr1 : SR (cp Ic 2 10) 2 (pn K3) (dn K3) := cp_SR sr0 D3.pv.c.2 (by decide)
        have sr2 : SR If 2 (pn K3) (dn K3) := sr1.cg (fun q i a b => jf _ _ (Or.inl (by omega)) (by omega) (by omega))
        have e4 : pl Kg 4 = pn K3 4 := kgp 4 (by decide)
        refine LD.mk pv ?_ (TR.cp D3.pv tr' kgp) ?_ ?_
        · rw [e4]; exact hc1
        · exact (sr2.s D3.pv.c.2 kgs).np e4
        · exact (D3.sv.s D3.pv.c.2 kgs).np e4
    · rw [kg _ _ (by decide) (by decide) (by decide) (Or.inr (by decide)), k30]
  · have er := P3.er ok3
    refine ⟨I3, 0, sI K3 153 0 2, rt1, ?_, Or.inr ⟨ok3, ?_, sI_self _ _ _ _⟩⟩
    · rw [e0', if_neg er.1]; rfl
    · refine R.bad ?_ ?_ (tv3.th 2) ?_ ?_ ?_ ?_ ?_
      · intro a i h1 h2
        unfold irI at h1
        simp only [sI_get]
        rw [if_neg (by omega), if_neg (by omega), iI a i (by omega) (by omega) (by omega) (by omega)]
      · intro a i h1 h2
        unfold irK at h1
        rw [sI_get, if_neg (by omega), kK a i (by omega) (by omega) (by omega)]
      · intro k hk; rw [sI_o (by decide), sI_o (by decide)]; exact tb3 k hk
      · rw [sI_k (by decide), sI_k (by decide), i01]
      · rw [sI_k (by decide), k32]
      · rw [sI_k (by decide), sI_self, sI_k (by decide), ecode]
      · rw [sI_self, sI_k (by decide), eplace]
end LOAD
