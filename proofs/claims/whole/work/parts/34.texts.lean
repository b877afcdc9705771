/-! TEXTS -/
/-- since the call began: only the page has changed, and its L bytes are the same -/
def WR (I0 K0 I K : gI) (L : Nat) : Prop := (I 86 1 = Int32.ofNat L ∧ K 153 32 = Int32.ofNat L ∧ ∀ i, i < L → I (86 + 1) i = K (153 + 16) i) ∧ (∀ o i, o ≠ 87 → (o ≠ 86 ∨ i ≠ 1) → I o i = I0 o i) ∧ (∀ o i, o ≠ 169 → (o ≠ 153 ∨ i ≠ 32) → o ≠ 162 → (o ≠ 153 ∨ i ≠ 24) → K o i = K0 o i) ∧ TV K
theorem nar_all : ∀ k : Fin 128, vp_nar .byte (Int8.toInt32 (Int32.toInt8 (Int32.ofNat k.1))) = Int32.ofNat k.1 := by decide +kernel
section FACEI
variable {n T0 T1 : Nat} {I K I0 K0 : gI}
theorem w_put {L : Nat} (h : WR I0 K0 I K L) (hL : L < 200) {v : Nat} (hv : v < 128) : ∃ I' K', F_X2_put n I (Int32.ofNat v) = some I' ∧ F_X10_writesByte n K (Int32.ofNat v) = some K' ∧ WR I0 K0 I' K' (L + 1) := by
  obtain ⟨⟨h1, h2, h3⟩, h4, h5, h6⟩ := h
  have hn := nar_all ⟨v, hv⟩
  refine ⟨sI (sI I (86 + 1) L (Int32.ofNat v)) 86 1 (Int32.ofNat (L + 1)), sI (sI K (153 + 16) L (Int32.ofNat v)) 153 32 (Int32.ofNat (L + 1)), ?_, ?_, ⟨⟨?_, ?_, ?_⟩, ?_, ?_, ?_⟩⟩
  · unfold F_X2_put
    rw [h1, if_neg (by rw [show (256 : Int32) = Int32.ofNat 256 from rfl, i_ole (by omega) (by omega)]; omega), gv_o (by omega), i_tno (by omega), hn, sI_o (by decide), h1, ixp_1]
  · unfold F_X10_writesByte
    rw [h2, gv_o (by omega), i_tno (by omega), sI_o (by decide), h2, ixp_1]
  · rw [sI_self]
  · rw [sI_self]
  · intro i hi
    rw [sI_o (o := 86) (by decide), sI_o (o := 153) (by decide), sI_get, sI_get]
    by_cases q : i = L
    · rw [if_pos ⟨rfl, q⟩, if_pos ⟨rfl, q⟩]
    · rw [if_neg (fun z => q z.2), if_neg (fun z => q z.2)]; exact h3 i (by omega)
  · intro o i a b
    rw [sI_get, if_neg (by omega), sI_o (by omega)]; exact h4 o i a b
  · intro o i a b c d
    rw [sI_get, if_neg (by omega), sI_o (by omega)]; exact h5 o i a b c d
  · exact (h6.up (by decide) (Or.inl (by decide))).up (by decide) (by decide)
theorem WR.tq {K' : gI} {L : Nat} (h : WR I0 K0 I K L) (q : Tq K K') : WR I0 K0 I K' L := by
  obtain ⟨⟨h1, h2, h3⟩, h4, h5, h6⟩ := h
  refine ⟨⟨h1, (q.get (by decide) (by decide)).trans h2, fun i hi => (h3 i hi).trans (q.get (by decide) (Or.inl (by decide))).symm⟩, h4, fun o i a b c d => (q.get c d).trans (h5 o i a b c d), q.tv h6⟩
theorem p10 : ∀ e, e ≤ 5 → 10 ^ e ≤ 100000 ∧ 1 ≤ 10 ^ e := by decide
theorem w_dig {a a' x4 : Int32} {s : Nat} (hs : s < 1000000) : ∀ (e j j' L : Nat) (I K : gI), e ≤ 5 → WR I0 K0 I K L → L + e + 1 ≤ 200 → e + 2 ≤ j → e + 2 ≤ j' → ∃ I' K', L_X2_putNumber n a j 1 (Int32.ofNat s) (Int32.ofNat (10 ^ e)) x4 I = some I' ∧ L_X10_writesNumber n a' j' 1 (Int32.ofNat s) (Int32.ofNat (10 ^ e)) K = some K' ∧ WR I0 K0 I' K' (L + e + 1) := by
  intro e
  induction e with
  | zero =>
    intro j j' L I K he h hL hj hj'
    obtain ⟨j, rfl⟩ : ∃ i, j = i + 2 := ⟨j - 2, by omega⟩
    obtain ⟨j', rfl⟩ : ∃ i, j' = i + 2 := ⟨j' - 2, by omega⟩
    have hv : 48 + s / 10 ^ 0 % 10 < 128 := by omega
    obtain ⟨I', K', e1, e2, q⟩ := w_put (n := n) h (by omega) hv
    have ed : (48 : Int32) + (Int32.ofNat s / Int32.ofNat (10 ^ 0) - Int32.ofNat s / Int32.ofNat (10 ^ 0) / (10 : Int32) * (10 : Int32)) = Int32.ofNat (48 + s / 10 ^ 0 % 10) := by
      rw [i_odiv (by omega) (by decide), show (10 : Int32) = Int32.ofNat 10 from rfl, i_omod (by simp; omega) (by omega), ix_48]
    refine ⟨I', K', ?_, ?_, q⟩
    · rw [L_X2_putNumber_e1, if_neg (by decide), gd_t (by decide), ed, e1, bd_s, L_X2_putNumber_e1, if_pos (by decide)]
    · rw [L_X10_writesNumber_e1, if_neg (by decide), gd_t (by decide), ed, e2, bd_s, L_X10_writesNumber_e1, if_pos (by decide)]
  | succ e ih =>
    intro j j' L I K he h hL hj hj'
    obtain ⟨j, rfl⟩ : ∃ i, j = i + 1 := ⟨j - 1, by omega⟩
    obtain ⟨j', rfl⟩ : ∃ i, j' = i + 1 := ⟨j' - 1, by omega⟩
    have hp := p10 (e + 1) he
    have hq : s / 10 ^ (e + 1) ≤ s := Nat.div_le_self _ _
    have hv : 48 + s / 10 ^ (e + 1) % 10 < 128 := by omega
    obtain ⟨I', K', e1, e2, q⟩ := w_put (n := n) h (by omega) hv
    have ed : (48 : Int32) + (Int32.ofNat s / Int32.ofNat (10 ^ (e + 1)) - Int32.ofNat s / Int32.ofNat (10 ^ (e + 1)) / (10 : Int32) * (10 : Int32)) = Int32.ofNat (48 + s / 10 ^ (e + 1) % 10) := by
      rw [i_odiv (by omega) (by omega), show (10 : Int32) = Int32.ofNat 10 from rfl, i_omod (by omega) (by omega), ix_48]
    have eu : Int32.ofNat (10 ^ (e + 1)) / (10 : Int32) = Int32.ofNat (10 ^ e) := by
      rw [show (10 : Int32) = Int32.ofNat 10 from rfl, i_odiv (by omega) (by omega), Nat.pow_succ, Nat.mul_div_cancel _ (by decide)]
    have u0 : ¬ (Int32.ofNat (10 ^ (e + 1)) ≤ 0) := by rw [i_le, i_of (by omega), ii_0]; omega
    have u1 : ¬ (Int32.ofNat (10 ^ (e + 1)) = 0) := by rw [i_eq, i_of (by omega), ii_0]; omega
    obtain ⟨I2, K2, f1, f2, r⟩ := ih j j' (L + 1) I' K' (by omega) q (by omega) (by omega) (by omega)
    refine ⟨I2, K2, ?_, ?_, by rw [show L + (e + 1) + 1 = L + 1 + e + 1 by omega]; exact r⟩
    · rw [L_X2_putNumber_e1, if_neg u0, gd_t u1, ed, e1, bd_s, eu]; exact f1
    · rw [L_X10_writesNumber_e1, if_neg u0, gd_t u1, ed, e2, bd_s, eu]; exact f2
theorem w_num {a a' : Int32} {s : Nat} (hs : s < 1000000) : ∀ (d e j j' L : Nat) (I K : gI), e + d = 5 → WR I0 K0 I K L → L + 7 ≤ 200 → d + 10 ≤ j → d + 10 ≤ j' → ∃ I' K' L', L_X2_putNumber n a j 0 (Int32.ofNat s) (Int32.ofNat (10 ^ e)) (Int32.ofNat (e + 1)) I = some I' ∧ L_X10_writesNumber n a' j' 0 (Int32.ofNat s) (Int32.ofNat (10 ^ e)) K = some K' ∧ WR I0 K0 I' K' L' ∧ L' ≤ L + 6 := by
  have go : ∀ (e j j' L : Nat) (I K : gI), e ≤ 5 → WR I0 K0 I K L → L + 7 ≤ 200 → 10 ≤ j → 10 ≤ j' → s / 10 < 10 ^ e → ∃ I' K' L', L_X2_putNumber n a j 0 (Int32.ofNat s) (Int32.ofNat (10 ^ e)) (Int32.ofNat (e + 1)) I = some I' ∧ L_X10_writesNumber n a' j' 0 (Int32.ofNat s) (Int32.ofNat (10 ^ e)) K = some K' ∧ WR I0 K0 I' K' L' ∧ L' ≤ L + 6 := by
    intro e j j' L I K he h hL hj hj' hlt
    have hp := p10 e he
    obtain ⟨j, rfl⟩ : ∃ i, j = i + 1 := ⟨j - 1, by omega⟩
    obtain ⟨j', rfl⟩ : ∃ i, j' = i + 1 := ⟨j' - 1, by omega⟩
    obtain ⟨I2, K2, f1, f2, r⟩ := w_dig (n := n) (a := a) (a' := a') (x4 := Int32.ofNat (e + 1)) hs e j j' L I K he h (by omega) (by omega) (by omega)
    have hdq : s / 10 ^ e ≤ s := Nat.div_le_self _ _
    have h9 : ¬ ((10 : Int32) ≤ Int32.ofNat (e + 1)) := by rw [show (10 : Int32) = Int32.ofNat 10 from rfl, i_ole (by omega) (by omega)]; omega
    have h2 : s / 10 ^ e < 10 := by
      rw [Nat.div_lt_iff_lt_mul (by omega)]; omega
    refine ⟨I2, K2, L + e + 1, ?_, ?_, r, by omega⟩
    · rw [L_X2_putNumber_e0, if_neg h9, show (10 : Int32) = Int32.ofNat 10 from rfl, i_odiv (by omega) (by omega), if_pos (by rw [i_olt (by omega) (by omega)]; exact hlt)]; exact f1
    · rw [L_X10_writesNumber_e0, gd_t (by rw [i_eq, i_of (by omega), ii_0]; omega), i_odiv (by omega) (by omega), show (10 : Int32) = Int32.ofNat 10 from rfl, if_pos (by rw [i_olt (by omega) (by omega)]; exact h2)]; exact f2
  intro d
  induction d with
  | zero =>
    intro e j j' L I K he h hL hj hj'
    obtain rfl : e = 5 := by omega
    exact go 5 j j' L I K (by decide) h hL (by omega) (by omega) (by omega)
  | succ d ih =>
    intro e j j' L I K he h hL hj hj'
    by_cases hlt : s / 10 < 10 ^ e
    · exact go e j j' L I K (by omega) h hL (by omega) (by omega) hlt
    · have hp := p10 e (by omega)
      have hp1 := p10 (e + 1) (by omega)
      obtain ⟨j, rfl⟩ : ∃ i, j = i + 1 := ⟨j - 1, by omega⟩
      obtain ⟨j', rfl⟩ : ∃ i, j' = i + 1 := ⟨j' - 1, by omega⟩
      obtain ⟨I2, K2, L2, f1, f2, r, b⟩ := ih (e + 1) j j' L I K (by omega) h hL (by omega) (by omega)
      have hdq : s / 10 ^ e ≤ s := Nat.div_le_self _ _
      have h9 : ¬ ((10 : Int32) ≤ Int32.ofNat (e + 1)) := by rw [show (10 : Int32) = Int32.ofNat 10 from rfl, i_ole (by omega) (by omega)]; omega
      have h2 : ¬ s / 10 ^ e < 10 := by
        rw [Nat.div_lt_iff_lt_mul (by omega)]; omega
      have eu : Int32.ofNat (10 ^ e) * (10 : Int32) = Int32.ofNat (10 ^ (e + 1)) := by rw [show (10 : Int32) = Int32.ofNat 10 from rfl, i_omul, Nat.pow_succ]
      refine ⟨I2, K2, L2, ?_, ?_, r, b⟩
      · rw [L_X2_putNumber_e0, if_neg h9, eu, ixp_1, show (10 : Int32) = Int32.ofNat 10 from rfl, i_odiv (by omega) (by omega), if_neg (by rw [i_olt (by omega) (by omega)]; exact hlt)]; exact f1
      · rw [L_X10_writesNumber_e0, gd_t (by rw [i_eq, i_of (by omega), ii_0]; omega), i_odiv (by omega) (by omega), eu, show (10 : Int32) = Int32.ofNat 10 from rfl, if_neg (by rw [i_olt (by omega) (by omega)]; exact h2)]; exact f2
theorem w_int (hn : 2000 ≤ n) {v : Int32} (hv : v.toInt.natAbs < 1000000) {L : Nat} (h : WR I0 K0 I K L) (hL : L + 8 ≤ 200) : ∃ I' K' L', F_X2_putNumber n I v = some I' ∧ F_X10_writesNumber n K v = some K' ∧ WR I0 K0 I' K' L' ∧ L' ≤ L + 7 := by
  have ja := jabs_i (x := v) (by omega)
  have ea : jabs v = Int32.ofNat v.toInt.natAbs := i_eq.mpr (by rw [ja, i_of (by omega)])
  unfold F_X2_putNumber F_X10_writesNumber
  rw [ea]
  by_cases h0 : 0 ≤ v
  · rw [if_pos h0, if_pos h0]
    obtain ⟨I', K', L', e1, e2, q, b⟩ := w_num (n := n) (a := v) (a' := v) hv 5 0 n n L I K rfl h (by omega) (by omega) (by omega)
    exact ⟨I', K', L', e1, e2, q, by omega⟩
  · rw [if_neg h0, if_neg h0]
    obtain ⟨I1, K1, e1, e2, q⟩ := w_put (n := n) h (by omega) (v := 45) (by decide)
    obtain ⟨I', K', L', f1, f2, r, b⟩ := w_num (n := n) (a := v) (a' := v) hv 5 0 n n (L + 1) I1 K1 rfl q (by omega) (by omega) (by omega)
    rw [show F_X2_put n I (45 : Int32) = some I1 from e1, show F_X10_writesByte n K (45 : Int32) = some K1 from e2]
    exact ⟨I', K', L', f1, f2, r, by omega⟩
/-- after a text -/
theorem Rel.pg (R : Rel T0 T1 I0 K) {I' K' : gI} {L : Nat} (h : WR I0 (sI K 153 0 0) I' K' L) (hL : L ≤ 200) : Rel T0 T1 I' K' := by
  obtain ⟨⟨h1, h2, h3⟩, h4, h5, h6⟩ := h
  have ht := R.tt
  have hK : ∀ o i, o ≠ 169 → (o ≠ 153 ∨ (i ≠ 32 ∧ i ≠ 0 ∧ i ≠ 24)) → o ≠ 162 → K' o i = K o i := fun o i a b c => by
    rw [h5 o i a (by omega) c (by omega), sI_get, if_neg (by omega)]
  have ep : pl K' = pl K := by funext i; exact hK _ _ (by decide) (Or.inl (by decide)) (by decide)
  have es : st K' = st K := by funext i; exact hK _ _ (by decide) (Or.inl (by decide)) (by decide)
  have eh : ∀ j, hs K' j = hs K j := by intro j; funext i; exact hK _ _ (by decide) (Or.inl (by decide)) (by decide)
  have el : ∀ j, sl K' j = sl K j := by intro j; funext i; exact hK _ _ (by decide) (Or.inl (by decide)) (by decide)
  have h0 := R.h0
  refine Rel.mk ht ?_ ?_ ?_ ?_ ?_ ?_ ?_ h6 ?_ ?_ ?_ ?_ ?_ ?_ ?_ ?_ ?_ ?_ (fun k hk => by rw [h4 _ _ (by decide) (Or.inl (by decide))]; exact R.tb k hk)
  · rw [h4 _ _ (by decide) (by decide), hK _ _ (by decide) (by decide) (by decide)]; exact R.bn
  · rw [h4 _ _ (by decide) (by decide)]; exact R.b0
  · rw [h4 _ _ (by decide) (by decide)]; intro i hi; rw [h4 _ _ (by decide) (Or.inl (by decide))]; exact R.by1 i hi
  · rw [h4 _ _ (by decide) (by decide)]; intro i hi; rw [h4 _ _ (by decide) (Or.inl (by decide)), hK _ _ (by decide) (Or.inl (by decide)) (by decide)]; exact R.by2 i hi
  · rw [h4 _ _ (by decide) (by decide), hK _ _ (by decide) (by decide) (by decide)]; exact R.ec
  · rw [h4 _ _ (by decide) (by decide), hK _ _ (by decide) (by decide) (by decide)]; exact R.ep
  · rw [h4 _ _ (by decide) (by decide), hK _ _ (by decide) (by decide) (by decide)]
    rcases R.ld with h | ⟨a, b, L⟩
    · exact Or.inl h
    · refine Or.inr ⟨a, b, LD.mk ?_ ?_ ?_ ?_ ?_⟩
      · rw [ep]; exact L.pv
      · rw [ep]; exact L.c1
      · rw [ep]; exact L.tr.cg L.pv.c.2 L.pv.sh.2 (fun q i a b => h4 _ _ (by omega) (by omega))
      · rw [ep, es]; exact L.sr.cg (fun q i a b => h4 _ _ (by omega) (by omega))
      · rw [ep, es]; exact L.sv
  · intro x y hx hy; rw [h4 _ _ (by decide) (Or.inl (by decide))]; exact R.ru x y hx hy
  · rw [h4 _ _ (by decide) (by decide), hK _ _ (by decide) (by decide) (by decide)]; exact R.hc
  · rw [h4 _ _ (by decide) (by decide)]; exact R.h0
  · rw [h4 _ _ (by decide) (by decide)]; exact R.ho
  · rw [h4 _ _ (by decide) (by decide), h4 _ _ (by decide) (by decide)]; exact R.hl
  · rw [h4 18 _ (by decide) (by decide), h4 18 _ (by decide) (by decide), ep]
    intro i hi
    rw [eh]
    exact ⟨(R.hr i hi).1.cg (fun q i a b => h4 _ _ (by omega) (by omega)), (R.hr i hi).2⟩
  · intro b hb
    rw [h4 85 _ (by decide) (Or.inl (by decide)), hK _ _ (by decide) (Or.inl (by decide)) (by decide), h4 0 _ (by decide) (by decide), ep, el]
    refine ⟨(R.sf b hb).1, ?_⟩
    rcases (R.sf b hb).2 with h | ⟨x1, x2, x3, x4⟩
    · exact Or.inl h
    · exact Or.inr ⟨x1, x2, x3.cg (fun q i a b => h4 _ _ (by omega) (by omega)), x4⟩
  · rw [h1, h2]
  · rw [h1, i_of (by omega)]; omega
  · rw [h1, i_of (by omega)]; intro i hi; exact h3 i (by omega)
theorem WR.ld (R : Rel T0 T1 I0 K) (L : LD T0 I0 K) {I' K' : gI} {l : Nat} (h : WR I0 (sI K 153 0 0) I' K' l) : CK I' T0 2 (pl K) (st K) ∧ MK K' (153 + 4) (pl K) (st K) := by
  obtain ⟨_, h4, h5, h6⟩ := h
  have ht := R.tt
  refine ⟨CK.mk (L.tr.cg L.pv.c.2 L.pv.sh.2 (fun q i a b => h4 _ _ (by omega) (by omega))) (L.sr.cg (fun q i a b => h4 _ _ (by omega) (by omega))) ?_, MK.mk (fun i => ?_) (fun i => ?_) h6 ⟨by decide, by decide⟩⟩
  · intro x y hx hy; rw [h4 _ _ (by decide) (Or.inl (by decide))]; exact R.ru x y hx hy
  · rw [h5 _ _ (by decide) (Or.inl (by decide)) (by decide) (Or.inl (by decide)), sI_o (by decide)]; rfl
  · rw [h5 _ _ (by decide) (Or.inl (by decide)) (by decide) (Or.inl (by decide)), sI_o (by decide)]; rfl
theorem WR.begin (R : Rel T0 T1 I K) {K1 : gI} (q : Tq (sI K 153 0 0) K1) : WR I (sI K 153 0 0) (sI I 86 1 0) (sI K1 153 32 0) 0 := by
  refine ⟨⟨sI_self _ _ _ _, sI_self _ _ _ _, fun i hi => by omega⟩, fun o i a b => by rw [sI_get, if_neg (by omega)], fun o i a b c d => by rw [sI_get, if_neg (by omega), q.get c d], (q.tv (R.tv.th 0)).up (by decide) (by decide)⟩
theorem eC_le {p s : gP} {m : Int32} {c : Nat} (hc : c < nC p) : (eC p s m c).toInt ≤ (eMax p s m).toInt := by
  have key : ∀ (d k : Nat) (a : Int64), (∀ i, k ≤ i → i < k + d → (eC p s m i).toInt ≤ (lp (fun c a => jmaxl a (eC p s m c)) d k a).toInt) ∧ a.toInt ≤ (lp (fun c a => jmaxl a (eC p s m c)) d k a).toInt := by
    intro d
    induction d with
    | zero => intro k a; exact ⟨fun i h1 h2 => by omega, Int.le_refl _⟩
    | succ d ih =>
      intro k a
      rw [lp_s]
      have q := ih (k + 1) (jmaxl a (eC p s m k))
      have hj : a.toInt ≤ (jmaxl a (eC p s m k)).toInt ∧ (eC p s m k).toInt ≤ (jmaxl a (eC p s m k)).toInt := by
        unfold jmaxl
        by_cases h : eC p s m k < a
        · rw [if_pos h]; rw [Int64.lt_iff_toInt_lt] at h; omega
        · rw [if_neg h]; rw [Int64.lt_iff_toInt_lt] at h; omega
      refine ⟨fun i h1 h2 => ?_, by omega⟩
      by_cases hi : i = k
      · rw [hi]; omega
      · exact q.1 i (by omega) (by omega)
  exact (key (nC p) 0 0).1 c (Nat.zero_le _) (by omega)
theorem eMax_b {p s : gP} (hp : PV p) (hv : SV p s) {m : Int32} (hm : m.toInt ≤ 200) : 0 ≤ (eMax p s m).toInt ∧ (eMax p s m).toInt ≤ 20439060480000 := by
  unfold eMax
  exact lp_inv (g := fun c a => jmaxl a (eC p s m c)) (fun (_ : Nat) (a : Int64) => 0 ≤ a.toInt ∧ a.toInt ≤ 20439060480000) (nC p) 0 0 (by decide) (fun i a _ _ h => by
    have := sEner_b hp hv (Int32.ofNat (i % (p 0).toInt.toNat)) (Int32.ofNat (i / (p 0).toInt.toNat)) hm
    unfold jmaxl
    by_cases q : eC p s m i < a
    · rw [if_pos q]; exact h
    · rw [if_neg q]; exact this)
/-- a digit of the map -/
theorem dig9 {E g : Int64} (h0 : 0 ≤ E.toInt) (h1 : E.toInt ≤ g.toInt) (h2 : g.toInt ≤ 20439060480000) (hz : g ≠ 0) : ∃ d : Nat, d < 10 ∧ ((9 * E) / g).toInt32 = Int32.ofNat d := by
  have hg : g.toInt ≠ 0 := fun q => hz (Int64.toInt_inj.mp (by rw [q]; rfl))
  have c9 : (9 : Int64).toInt = 9 := rfl
  have em : (9 * E).toInt = 9 * E.toInt := by rw [l_mul, c9] <;> rw [c9] <;> omega
  have ed : ((9 * E) / g).toInt = (9 * E.toInt) / g.toInt := by
    rw [Int64.toInt_div, em, Int.tdiv_eq_ediv_of_nonneg (by omega)]
    have q1 : 0 ≤ 9 * E.toInt / g.toInt := Int.ediv_nonneg (by omega) (by omega)
    have q2 : 9 * E.toInt / g.toInt ≤ 9 * E.toInt := Int.ediv_le_self _ (by omega)
    exact Int.bmod_eq_of_le (by omega) (by omega)
  have q1 : 0 ≤ 9 * E.toInt / g.toInt := Int.ediv_nonneg (by omega) (by omega)
  have q2 : 9 * E.toInt / g.toInt < 10 := Int.ediv_lt_of_lt_mul (by omega) (by omega)
  refine ⟨(9 * E.toInt / g.toInt).toNat, by omega, ?_⟩
  rw [i_eq, i_of (by omega), Int64.toInt_toInt32, ed]
  rw [Int.bmod_eq_of_le (by omega) (by omega)]
  omega
theorem w_one (hn : 2000 ≤ n) {d : Nat} (hd : d < 10) : F_X10_writesNumber n K (Int32.ofNat d) = F_X10_writesByte n K (Int32.ofNat (48 + d)) := by
  have ja := jabs_i (x := Int32.ofNat d) (by rw [i_of (by omega)]; omega)
  have ea : jabs (Int32.ofNat d) = Int32.ofNat d := i_eq.mpr (by rw [ja, i_of (by omega)]; omega)
  obtain ⟨j, rfl⟩ : ∃ j, n = j + 3 := ⟨n - 3, by omega⟩
  unfold F_X10_writesNumber
  have o1 : (1 : Int32) = Int32.ofNat 1 := rfl
  have t0 : (10 : Int32) = Int32.ofNat 10 := rfl
  have h0 : (0 : Int32) ≤ Int32.ofNat d := by rw [i_le, i_of (by omega), ii_0]; omega
  have dd : Int32.ofNat d / (1 : Int32) = Int32.ofNat d := by rw [o1, i_odiv (by omega) (by decide), Nat.div_one]
  have ed : (48 : Int32) + (Int32.ofNat d - Int32.ofNat d / (10 : Int32) * (10 : Int32)) = Int32.ofNat (48 + d) := by
    rw [t0, i_omod (by omega) (by decide), ix_48, Nat.mod_eq_of_lt hd]
  rw [if_pos h0, ea, L_X10_writesNumber_e0, gd_t (by decide), dd, if_pos (by rw [t0, i_olt (by omega) (by omega)]; exact hd), L_X10_writesNumber_e1, if_neg (by decide), gd_t (by decide), dd, ed]
  cases F_X10_writesByte (j + 3) K (Int32.ofNat (48 + d)) with
  | none => rfl
  | some K' => rw [bd_s, L_X10_writesNumber_e1, if_pos (by decide)]
theorem e_writeRow (hn : 2000 ≤ n) (R : Rel T0 T1 I K) (a1 : Int32) : AG (F_X9_writeRow n T0 T1 I a1) (F_X10_writeRow n K a1) (fun v b => v.1 = b.1 ∧ Rel T0 T1 v.2 b.2 ∧ b.2 153 0 = 0) (fun E b => Tt K (thA E) b.2) := by
  rcases R.ld with ⟨h9, h10⟩ | ⟨h9, h10, L⟩
  · refine AG.er (E := ISE) (b := (0, sI K 153 0 1)) ?_ ?_ (Tt.r 1)
    · unfold F_X9_writeRow; rw [n_tank0 h9]; rfl
    · unfold F_X10_writeRow
      simp only [x_row, bd_s]
      cases row (pl K) a1 <;> simp only [b2_tv, b2_fv, e10, if_true, if_false, bd_s, ask0 h10, askF0 h10]
  unfold F_X9_writeRow F_X10_writeRow
  simp only [n_tank1 h9, nt_s, n_row L, nd_s, x_row, bd_s]
  cases g0 : row (pl K) a1
  · refine AG.er (E := IOB) (b := (0, sI K 153 0 2)) ?_ ?_ (Tt.r 2)
    · rfl
    · simp only [b2_tv, b2_fv, e10, if_true, if_false, bd_s, ask2 h10, askF2 h10, askF3 h10]
  simp only [b2_tv, b2_fv, e10, if_true, if_false, bd_s, ask1 h10, askF1 h10]
  have M := L.mk' (Tt.r 0) R.tv
  have C := L.ck R.ru
  have hy := (row_t L.pv).mp g0
  have hw := L.pv.w
  have key : ∀ (d x j l : Nat) (I1 K1 : gI), WR I (sI K 153 0 0) I1 K1 l → l ≤ 8 * x → x + d = (pl K 0).toInt.toNat → d < j → ∃ v I' K' l', L_X9_writeRow n T0 T1 a1 j 0 (Int32.ofNat x) I1 = some (.inr (v, I')) ∧ L_X10_writeRow n a1 j 0 (Int32.ofNat x) K1 = some (v, K') ∧ WR I (sI K 153 0 0) I' K' l' ∧ l' ≤ 200 := by
    intro d
    induction d with
    | zero =>
      intro x j l I1 K1 W hl hx hj
      obtain ⟨j, rfl⟩ : ∃ i, j = i + 1 := ⟨j - 1, by omega⟩
      obtain ⟨C1, M1⟩ := WR.ld R L W
      refine ⟨Int32.ofNat l, I1, K1, l, ?_, ?_, W, by omega⟩
      · rw [L_X9_writeRow_e0, C1.tr.w, if_pos (by rw [i_le, i_of (by omega)]; omega), W.1.1]
      · rw [L_X10_writeRow_e0, M1.hp, if_pos (by rw [i_le, i_of (by omega)]; omega), W.1.2.1]
    | succ d ih =>
      intro x j l I1 K1 W hl hx hj
      obtain ⟨j, rfl⟩ : ∃ i, j = i + 1 := ⟨j - 1, by omega⟩
      obtain ⟨C1, M1⟩ := WR.ld R L W
      have hx1 : xIn (pl K) (Int32.ofNat x) := by unfold xIn; rw [i_of (by omega)]; omega
      have hb := sWave_b L.pv L.sv (Int32.ofNat x) a1 (st K 0)
      have hna : ¬ (pl K 0 ≤ Int32.ofNat x) := by rw [i_le, i_of (by omega)]; omega
      rw [L_X9_writeRow_e0, C1.tr.w, if_neg hna, L_X10_writeRow_e0, M1.hp, if_neg hna]
      by_cases h0 : Int32.ofNat x ≤ 0
      · rw [if_pos h0, if_pos h0, C1.sr.t, c_wave hn L.pv L.sv C1 hx1 hy, M1.hs]
        obtain ⟨K2, e2, q2⟩ := m_wave hn L.pv L.sv M1 hx1 hy (st K 0)
        obtain ⟨I3, K3, l3, f1, f2, W3, b3⟩ := w_int hn (v := sWave (pl K) (st K) (Int32.ofNat x) a1 (st K 0)) (by omega) (W.tq q2) (by omega)
        rw [e2]
        simp only [bd_s]
        rw [f1, f2, ixp_1]
        simp only [bd_s]
        exact ih (x + 1) j l3 I3 K3 W3 (by omega) (by omega) (by omega)
      · have hx0 : x ≠ 0 := fun q => h0 (by rw [q]; decide)
        rw [if_neg h0, if_neg h0]
        obtain ⟨I2, K2, g1, g2, W2⟩ := w_put (n := n) W (by omega) (v := 44) (by decide)
        obtain ⟨C2, M2⟩ := WR.ld R L W2
        obtain ⟨K2', e2, q2⟩ := m_wave hn L.pv L.sv M2 hx1 hy (st K 0)
        rw [show F_X2_put n I1 (44 : Int32) = some I2 from g1, show F_X10_writesByte n K1 (44 : Int32) = some K2 from g2]
        simp only [bd_s]
        rw [C2.sr.t, c_wave hn L.pv L.sv C2 hx1 hy, M2.hs, e2]
        simp only [bd_s]
        obtain ⟨I3, K3, l3, f1, f2, W3, b3⟩ := w_int hn (v := sWave (pl K) (st K) (Int32.ofNat x) a1 (st K 0)) (by omega) (W2.tq q2) (by omega)
        rw [f1, f2, ixp_1]
        simp only [bd_s]
        exact ih (x + 1) j l3 I3 K3 W3 (by omega) (by omega) (by omega)
  obtain ⟨v, I', K', l', e1, e2, W, b⟩ := key (pl K 0).toInt.toNat 0 n 0 _ _ (WR.begin R Tq.rfl') (by omega) (by omega) (by omega)
  refine AG.ok e1 e2 ⟨rfl, R.pg W b, ?_⟩
  dsimp only
  rw [W.2.2.1 153 0 (by decide) (by decide) (by decide) (by decide), sI_self]
theorem e_writeMap (hn : 2000 ≤ n) (R : Rel T0 T1 I K) (J : gJ) (N : gJ) (a1 : Int32) : AG (F_X9_writeMap n T0 T1 I J a1) (F_X10_writeMap n K N a1) (fun v b => v.1 = b.1 ∧ Rel T0 T1 v.2.1 b.2.1 ∧ b.2.1 153 0 = 0) (fun E b => Tt K (thB E) b.2.1) := by
  rcases R.ld with ⟨h9, h10⟩ | ⟨h9, h10, L⟩
  · refine AG.er (E := ISE) (b := (0, sI K 153 0 1, N)) ?_ ?_ (Tt.r 1)
    · unfold F_X9_writeMap; rw [n_tank0 h9]; rfl
    · unfold F_X10_writeMap
      simp only [x_run, bd_s]
      cases rng a1 1 40 <;> simp only [b2_tv, b2_fv, e10, if_true, if_false, bd_s, ask0 h10, askF0 h10]
  unfold F_X9_writeMap F_X10_writeMap
  simp only [n_tank1 h9, nt_s, n_tim, nd_s, x_run, bd_s]
  cases g0 : rng a1 1 40
  · refine AG.er (E := IAE) (b := (0, sI K 153 0 2, N)) ?_ ?_ (Tt.r 2)
    · rfl
    · simp only [b2_tv, b2_fv, e10, if_true, if_false, bd_s, ask2 h10, askF2 h10, askF3 h10]
  simp only [b2_tv, b2_fv, e10, if_true, if_false, bd_s, ask1 h10, askF1 h10]
  have M := L.mk' (Tt.r 0) R.tv
  have C := L.ck R.ru
  have h4 := rng_t.mp g0
  have c1 : (1 : Int32).toInt = 1 := rfl
  have c2 : (40 : Int32).toInt = 40 := rfl
  have hw := L.pv.w
  have hN := nC_b L.pv
  obtain ⟨J', e9, hJo, hJ⟩ := c_fillE (n := n) (T1 := T1) (J := J) hn L R.ru (m := a1) (by omega) (by omega)
  obtain ⟨K', N', e10, q, hN'⟩ := m_lays (N := N) hn L.pv L.sv M (m := a1) (by omega) (by omega)
  have hM := eMax_b L.pv L.sv (m := a1) (by omega)
  -- a cell's digit
  have cell : ∀ (c l : Nat) (I1 K1 : gI), c < nC (pl K) → WR I (sI K 153 0 0) I1 K1 l → l < 200 → ∃ I2 K2, WR I (sI K 153 0 0) I2 K2 (l + 1) ∧ (∀ (A : gI → Option (String ⊕ (Int32 × gI × gJ))), (if lg_cmp (eMax (pl K) (st K) a1) (0 : Int64) = 0 then bd (F_X2_put n I1 ((48 : Int32) + (0 : Int32))) A else gv (Int32.ofNat c) 160 (gd (¬ eMax (pl K) (st K) a1 = 0) (bd (F_X2_put n I1 ((48 : Int32) + (Int64.toInt32 (((9 : Int64) * (J' 91 (Int32.toNatClampNeg (Int32.ofNat c)))) / eMax (pl K) (st K) a1)))) A))) = A I2) ∧ (∀ (A : gI → Option (Int32 × gI × gJ)), (if lg_cmp (eMax (pl K) (st K) a1) (0 : Int64) = 0 then bd (F_X10_writesNumber n K1 (0 : Int32)) A else gv (Int32.ofNat c) 160 (gd (¬ eMax (pl K) (st K) a1 = 0) (bd (F_X10_writesNumber n K1 (Int64.toInt32 (((9 : Int64) * (N' (153 + 14) (Int32.toNatClampNeg (Int32.ofNat c)))) / eMax (pl K) (st K) a1))) A))) = A K2) := by
    intro c l I1 K1 hc W hl
    by_cases hz : lg_cmp (eMax (pl K) (st K) a1) (0 : Int64) = 0
    · obtain ⟨I2, K2, g1, g2, W2⟩ := w_put (n := n) W hl (v := 48 + 0) (by decide)
      refine ⟨I2, K2, W2, fun A => ?_, fun A => ?_⟩
      · rw [if_pos hz, show F_X2_put n I1 ((48 : Int32) + (0 : Int32)) = some I2 from g1, bd_s]
      · have := w_one (K := K1) hn (d := 0) (by decide)
        rw [if_pos hz, show F_X10_writesNumber n K1 (0 : Int32) = some K2 from this.trans g2, bd_s]
    · have hz' : eMax (pl K) (st K) a1 ≠ 0 := fun q => hz ((cmp_0 _ _).mpr q)
      have hE := sEner_b L.pv L.sv (Int32.ofNat (c % (pl K 0).toInt.toNat)) (Int32.ofNat (c / (pl K 0).toInt.toNat)) (m := a1) (by omega)
      obtain ⟨dg, hd, ed⟩ := dig9 (E := eC (pl K) (st K) a1 c) (g := eMax (pl K) (st K) a1) hE.1 (eC_le hc) hM.2 hz'
      obtain ⟨I2, K2, g1, g2, W2⟩ := w_put (n := n) W hl (v := 48 + dg) (by omega)
      refine ⟨I2, K2, W2, fun A => ?_, fun A => ?_⟩
      · rw [if_neg hz, gv_o (by omega), gd_t hz', i_tno (by omega), hJ c hc, ed, ix_48, g1, bd_s]
      · rw [if_neg hz, gv_o (by omega), gd_t hz', i_tno (by omega), hN' c hc, ed, w_one hn hd, g2, bd_s]
  have key : ∀ (d c j l : Nat) (I1 K1 : gI), WR I (sI K 153 0 0) I1 K1 l → l ≤ c + (c - 1) / (pl K 0).toInt.toNat → c + d = nC (pl K) → d < j → ∃ v I' K' l', L_X9_writeMap n T0 T1 a1 j 0 (eMax (pl K) (st K) a1) (Int32.ofNat c) I1 J' = some (.inr (v, I', J')) ∧ L_X10_writeMap n a1 j 0 (eMax (pl K) (st K) a1) (Int32.ofNat c) K1 N' = some (v, K', N') ∧ WR I (sI K 153 0 0) I' K' l' ∧ l' ≤ 200 := by
    intro d
    induction d with
    | zero =>
      intro c j l I1 K1 W hl hc hj
      obtain ⟨j, rfl⟩ : ∃ i, j = i + 1 := ⟨j - 1, by omega⟩
      obtain ⟨C1, M1⟩ := WR.ld R L W
      have hh := L.pv.h
      have hq : c / (pl K 0).toInt.toNat ≤ 10 := by
        have : c / (pl K 0).toInt.toNat ≤ (pl K 1).toInt.toNat := by
          refine Nat.div_le_of_le_mul ?_
          unfold nC at hc; omega
        omega
      have hq1 : (c - 1) / (pl K 0).toInt.toNat ≤ c / (pl K 0).toInt.toNat := Nat.div_le_div_right (by omega)
      refine ⟨Int32.ofNat l, I1, K1, l, ?_, ?_, W, by omega⟩
      · rw [L_X9_writeMap_e0, c_cells L.pv C1, bd_s, if_pos (by rw [i_ole (by omega) (by omega)]; omega), W.1.1]
      · rw [L_X10_writeMap_e0, m_cells L.pv M1, bd_s, if_pos (by rw [i_ole (by omega) (by omega)]; omega), W.1.2.1]
    | succ d ih =>
      intro c j l I1 K1 W hl hc hj
      obtain ⟨j, rfl⟩ : ∃ i, j = i + 1 := ⟨j - 1, by omega⟩
      obtain ⟨C1, M1⟩ := WR.ld R L W
      have hh := L.pv.h
      have cx := cell_x L.pv (k := c) (by unfold nC at hc; omega)
      have hq : c / (pl K 0).toInt.toNat ≤ 10 := by
        have : c / (pl K 0).toInt.toNat ≤ (pl K 1).toInt.toNat := by
          refine Nat.div_le_of_le_mul ?_
          unfold nC at hc; omega
        omega
      have hna : ¬ (Int32.ofNat (nC (pl K)) ≤ Int32.ofNat c) := by rw [i_ole (by omega) (by omega)]; omega
      have mono : (c - 1) / (pl K 0).toInt.toNat ≤ c / (pl K 0).toInt.toNat := Nat.div_le_div_right (by omega)
      have es : c + 1 - 1 = c := by omega
      rw [L_X9_writeMap_e0, c_cells L.pv C1, bd_s, if_neg hna, L_X10_writeMap_e0, m_cells L.pv M1, bd_s, if_neg hna, ixp_1]
      by_cases h0 : Int32.ofNat c ≤ 0
      · obtain ⟨I2, K2, W2, f9, f10⟩ := cell c l I1 K1 (by omega) W (by omega)
        rw [if_pos h0, if_pos h0, f9, f10]
        exact ih (c + 1) j (l + 1) I2 K2 W2 (by rw [es]; omega) (by omega) (by omega)
      · have hc0 : c ≠ 0 := fun q => h0 (by rw [q]; decide)
        rw [if_neg h0, if_neg h0, C1.tr.w, M1.hp, gd_t cx.1, gd_t cx.1, cx.2.2.2.2.1]
        by_cases hz : Int32.ofNat (c % (pl K 0).toInt.toNat) = 0
        · have hm : c % (pl K 0).toInt.toNat = 0 := by
            have hlt : c % (pl K 0).toInt.toNat ≤ c := Nat.mod_le _ _
            rw [show (0 : Int32) = Int32.ofNat 0 from rfl, i_oeq (by omega) (by omega)] at hz; exact hz
          rw [if_pos hz, if_pos hz]
          have hstep : (c - 1) / (pl K 0).toInt.toNat < c / (pl K 0).toInt.toNat := by
            refine Nat.div_lt_of_lt_mul ?_
            have := Nat.div_add_mod c (pl K 0).toInt.toNat
            omega
          obtain ⟨I2, K2, g1, g2, W2⟩ := w_put (n := n) W (by omega) (v := 59) (by decide)
          obtain ⟨I3, K3, W3, f9, f10⟩ := cell c (l + 1) I2 K2 (by omega) W2 (by omega)
          rw [show F_X2_put n I1 (59 : Int32) = some I2 from g1, show F_X10_writesByte n K1 (59 : Int32) = some K2 from g2, bd_s, bd_s, f9, f10]
          exact ih (c + 1) j (l + 1 + 1) I3 K3 W3 (by rw [es]; omega) (by omega) (by omega)
        · rw [if_neg hz, if_neg hz]
          obtain ⟨I2, K2, W2, f9, f10⟩ := cell c l I1 K1 (by omega) W (by omega)
          rw [f9, f10]
          exact ih (c + 1) j (l + 1) I2 K2 W2 (by rw [es]; omega) (by omega) (by omega)
  rw [e9, e10]
  simp only [bd_s]
  rw [c_great hn L R.ru hJ]
  simp only [bd_s]
  obtain ⟨v, I', K2, l', e1, e2, W, b⟩ := key (nC (pl K)) 0 n 0 _ _ (WR.begin R q) (Nat.zero_le _) (by omega) (by omega)
  refine AG.ok e1 e2 ⟨rfl, R.pg W b, ?_⟩
  dsimp only
  rw [W.2.2.1 153 0 (by decide) (by decide) (by decide) (by decide), sI_self]
end FACEI
