/-! WHAT HOLDS WHILE THE TEXT IS READ -/
/-- a train as read -/
def TI (I : gI) (t nc : Nat) : Prop := (50 ≤ (I t 0).toInt ∧ (I t 0).toInt ≤ 9999) ∧ (2 ≤ (I t 1).toInt ∧ (I t 1).toInt ≤ 99) ∧ (0 ≤ (I t 2).toInt ∧ (I t 2).toInt ≤ 9999) ∧ ((I t 2).toInt ≤ (I t 3).toInt ∧ (I t 3).toInt ≤ 9999) ∧ ((I t 4 = 0 ∧ I t 6 = 0) ∨ (1 ≤ (I t 4).toInt ∧ (I t 4).toInt ≤ 99 ∧ 1 ≤ (I t 5).toInt ∧ (I t 5).toInt ≤ 99) ∨ (I t 4 = 0 ∧ 1 ≤ (I t 6).toInt ∧ (I t 6).toInt ≤ 99)) ∧ (0 ≤ (I t 8).toInt ∧ (I t 8).toInt ≤ nc)
theorem TI.cg {I I' : gI} {t nc : Nat} (h : TI I t nc) (e : ∀ i, i ≠ 7 → I' t i = I t i) : TI I' t nc := by
  unfold TI at *
  rw [e 0 (by decide), e 1 (by decide), e 2 (by decide), e 3 (by decide), e 4 (by decide), e 5 (by decide), e 6 (by decide), e 8 (by decide)]
  exact h
theorem TI.up {I : gI} {t nc nc' : Nat} (h : TI I t nc) (e : nc ≤ nc') : TI I t nc' := by
  unfold TI at *
  obtain ⟨h1, h2, h3, h4, h5, h6⟩ := h
  exact ⟨h1, h2, h3, h4, h5, by omega⟩
def PI (T1 o : Nat) (W : gP) (I : gI) (nt ns ng nc nm t1 t2 t3 : Nat) : Prop :=
  (I T1 1 = W 1 ∧ I T1 2 = W 2 ∧ I T1 3 = W 3 ∧ I T1 4 = W 4) ∧
  (I T1 5 = Int32.ofNat nt ∧ I T1 7 = Int32.ofNat ns ∧ I T1 9 = Int32.ofNat ng ∧ I o 10 = Int32.ofNat nc) ∧
  (∀ k, k < nt → TI I (T1 + 6 + 3 * k) nc) ∧
  (∀ i, i < 4 → 0 ≤ (I (T1 + 5) i).toInt ∧ (I (T1 + 5) i).toInt ≤ 100 ∧ (nm ≤ i → I (T1 + 5) i = 0)) ∧
  (∀ i, i < ns → ∀ c, c < 5 → I (T1 + 18 + i) c = W (72 + 5 * i + c)) ∧
  (∀ i, i < ng → (0 ≤ (I (T1 + 3) i).toInt ∧ (I (T1 + 3) i).toInt < (W 1).toInt) ∧ (0 ≤ (I (T1 + 4) i).toInt ∧ (I (T1 + 4) i).toInt < (W 2).toInt)) ∧
  (I 10 0 = 0 ∧ 0 ≤ (I 10 1).toInt ∧ (I 10 1).toInt < 32) ∧
  (∀ k, k < 4 → I 11 k = 0 ∨ I 11 k = 1) ∧
  (∀ k, k < nt → (1 ≤ (I 12 k).toInt ∧ (I 12 k).toInt ≤ 999) ∧ (0 ≤ (I 13 k).toInt ∧ (I 13 k).toInt ≤ 359)) ∧
  ((0 ≤ (I o 11).toInt ∧ (I o 11).toInt < ((2 ^ t1 : Nat) : Int)) ∧ (0 ≤ (I o 12).toInt ∧ (I o 12).toInt < ((2 ^ t2 : Nat) : Int)) ∧ (0 ≤ (I o 13).toInt ∧ (I o 13).toInt < ((2 ^ t3 : Nat) : Int)))
section PIS
variable {T1 o : Nat} {W : gP} {I I' : gI} {nt ns ng nc nm t1 t2 t3 : Nat}
theorem PI.gen (h : PI T1 o W I nt ns ng nc nm t1 t2 t3) {t1' t2' t3' : Nat}
    (e1 : ∀ i, (i = 1 ∨ i = 2 ∨ i = 3 ∨ i = 4 ∨ i = 5 ∨ i = 7 ∨ i = 9) → I' T1 i = I T1 i) (e2 : I' o 10 = I o 10)
    (e3 : ∀ k, k < nt → ∀ i, i ≠ 7 → I' (T1 + 6 + 3 * k) i = I (T1 + 6 + 3 * k) i)
    (e4 : ∀ i, i < 4 → I' (T1 + 5) i = I (T1 + 5) i)
    (e5 : ∀ i, i < ns → ∀ c, I' (T1 + 18 + i) c = I (T1 + 18 + i) c)
    (e6 : ∀ i, i < ng → I' (T1 + 3) i = I (T1 + 3) i ∧ I' (T1 + 4) i = I (T1 + 4) i)
    (e7 : I' 10 0 = I 10 0) (e8 : 0 ≤ (I' 10 1).toInt ∧ (I' 10 1).toInt < 32)
    (e9 : ∀ k, k < 4 → I' 11 k = 0 ∨ I' 11 k = 1)
    (e10 : ∀ k, k < nt → I' 12 k = I 12 k ∧ I' 13 k = I 13 k)
    (e11 : (0 ≤ (I' o 11).toInt ∧ (I' o 11).toInt < ((2 ^ t1' : Nat) : Int)) ∧ (0 ≤ (I' o 12).toInt ∧ (I' o 12).toInt < ((2 ^ t2' : Nat) : Int)) ∧ (0 ≤ (I' o 13).toInt ∧ (I' o 13).toInt < ((2 ^ t3' : Nat) : Int))) :
    PI T1 o W I' nt ns ng nc nm t1' t2' t3' := by
  obtain ⟨p1, p2, p3, p4, p5, p6, p7, p8, p9, p10⟩ := h
  refine ⟨?_, ?_, fun k hk => (p3 k hk).cg (e3 k hk), fun i hi => ?_, fun i hi c hc => ?_, fun i hi => ?_, ⟨?_, e8⟩, e9, fun k hk => ?_, e11⟩
  · rw [e1 1 (by decide), e1 2 (by decide), e1 3 (by decide), e1 4 (by decide)]; exact p1
  · rw [e1 5 (by decide), e1 7 (by decide), e1 9 (by decide), e2]; exact p2
  · rw [e4 i hi]; exact p4 i hi
  · rw [e5 i hi]; exact p5 i hi c hc
  · rw [(e6 i hi).1, (e6 i hi).2]; exact p6 i hi
  · rw [e7]; exact p7.1
  · rw [(e10 k hk).1, (e10 k hk).2]; exact p9 k hk
/-- cells that the invariant does not see, or sees with the same content -/
theorem PI.cg (h : PI T1 o W I nt ns ng nc nm t1 t2 t3) (h1 : ∀ a i, T1 ≤ a → a ≤ T1 + 20 → I' a i = I a i) (h2 : ∀ a i, 10 ≤ a → a ≤ 13 → I' a i = I a i) (h3 : ∀ i, 10 ≤ i → i ≤ 13 → I' o i = I o i) (hs : ns ≤ 3) (hnt : nt ≤ 4) : PI T1 o W I' nt ns ng nc nm t1 t2 t3 := by
  have hp := h.2.2.2.2.2.2
  refine h.gen (fun i _ => h1 _ _ (by omega) (by omega)) (h3 10 (by decide) (by decide)) (fun k hk i _ => h1 _ _ (by omega) (by omega)) (fun i _ => h1 _ _ (by omega) (by omega)) (fun i hi c => h1 _ _ (by omega) (by omega)) (fun i _ => ⟨h1 _ _ (by omega) (by omega), h1 _ _ (by omega) (by omega)⟩) (h2 _ _ (by decide) (by decide)) ?_ (fun k hk => ?_) (fun k hk => ⟨h2 _ _ (by decide) (by decide), h2 _ _ (by decide) (by decide)⟩) ?_
  · rw [h2 10 1 (by decide) (by decide)]; exact hp.1.2
  · rw [h2 11 k (by decide) (by decide)]; exact hp.2.1 k hk
  · rw [h3 11 (by decide) (by decide), h3 12 (by decide) (by decide), h3 13 (by decide) (by decide)]; exact hp.2.2.2
theorem PI.fr (h : PI T1 o W I nt ns ng nc nm t1 t2 t3) (f : FR I I' o) (ht : T1 + 20 < o) (ho : 13 < o) (hs : ns ≤ 3) (hnt : nt ≤ 4) : PI T1 o W I' nt ns ng nc nm t1 t2 t3 :=
  h.cg (fun a i _ _ => f a i (Or.inl (by omega))) (fun a i _ _ => f a i (Or.inl (by omega))) (fun i _ _ => f o i (Or.inr (by omega))) hs hnt
/-- the cells of a train that is not yet counted -/
theorem PI.new (h : PI T1 o W I nt ns ng nc nm t1 t2 t3) {a i : Nat} {v : Int32} (ht : T1 + 20 < o) (ho : 17 < o) (hT : 17 < T1) (hs : ns ≤ 3) (hnt : nt ≤ 3) (q : a = T1 + 6 + 3 * nt ∨ ((a = 12 ∨ a = 13) ∧ i = nt) ∨ (14 ≤ a ∧ a ≤ 17)) : PI T1 o W (sI I a i v) nt ns ng nc nm t1 t2 t3 := by
  have hp := h.2.2.2.2.2.2
  refine h.gen (fun i _ => sI_o (by omega)) (sI_o (by omega)) (fun k hk i _ => sI_o (by omega)) (fun i _ => sI_o (by omega)) (fun i hi c => sI_o (by omega)) (fun i _ => ⟨sI_o (by omega), sI_o (by omega)⟩) (sI_o (by omega)) ?_ (fun k hk => ?_) (fun k hk => ⟨by rw [sI_get, if_neg (by omega)], by rw [sI_get, if_neg (by omega)]⟩) ?_
  · rw [sI_o (by omega)]; exact hp.1.2
  · rw [sI_o (by omega)]; exact hp.2.1 k hk
  · rw [sI_o (by omega), sI_o (by omega), sI_o (by omega)]; exact hp.2.2.2
theorem PI.on (h : PI T1 o W I nt ns ng nc nm t1 t2 t3) {i : Nat} {v : Int32} (ht : T1 + 20 < o) (ho : 17 < o) (hT : 17 < T1) (hv : v = 0 ∨ v = 1) : PI T1 o W (sI I 11 i v) nt ns ng nc nm t1 t2 t3 := by
  have hp := h.2.2.2.2.2.2
  refine h.gen (fun i _ => sI_o (by omega)) (sI_o (by omega)) (fun k hk i _ => sI_o (by omega)) (fun i _ => sI_o (by omega)) (fun i hi c => sI_o (by omega)) (fun i _ => ⟨sI_o (by omega), sI_o (by omega)⟩) (sI_o (by omega)) ?_ (fun k hk => ?_) (fun k hk => ⟨sI_o (by omega), sI_o (by omega)⟩) ?_
  · rw [sI_o (by omega)]; exact hp.1.2
  · rw [sI_get]
    by_cases q : 11 = 11 ∧ k = i
    · rw [if_pos q]; exact hv
    · rw [if_neg q]; exact hp.2.1 k hk
  · rw [sI_o (by omega), sI_o (by omega), sI_o (by omega)]; exact hp.2.2.2
theorem PI.opn (h : PI T1 o W I nt ns ng nc nm t1 t2 t3) {v : Int32} (ht : T1 + 20 < o) (ho : 17 < o) (hT : 17 < T1) (hv : 0 ≤ v.toInt ∧ v.toInt < 32) : PI T1 o W (sI I 10 1 v) nt ns ng nc nm t1 t2 t3 := by
  have hp := h.2.2.2.2.2.2
  refine h.gen (fun i _ => sI_o (by omega)) (sI_o (by omega)) (fun k hk i _ => sI_o (by omega)) (fun i _ => sI_o (by omega)) (fun i hi c => sI_o (by omega)) (fun i _ => ⟨sI_o (by omega), sI_o (by omega)⟩) (sI_k (by omega)) ?_ (fun k hk => ?_) (fun k hk => ⟨sI_o (by omega), sI_o (by omega)⟩) ?_
  · rw [sI_self]; exact hv
  · rw [sI_o (by omega)]; exact hp.2.1 k hk
  · rw [sI_o (by omega), sI_o (by omega), sI_o (by omega)]; exact hp.2.2.2
theorem PI.shp (h : PI T1 o W I nt ns ng nc nm t1 t2 t3) {k : Nat} {v : Int32} (ht : T1 + 20 < o) (ho : 17 < o) (hT : 17 < T1) (hk : k < 4) (hs : ns ≤ 3) : PI T1 o W (sI I (T1 + 6 + 3 * k) 7 v) nt ns ng nc nm t1 t2 t3 := by
  have hp := h.2.2.2.2.2.2
  refine h.gen (fun i _ => sI_o (by omega)) (sI_o (by omega)) (fun k hk i hi => sI_k (by omega)) (fun i _ => sI_o (by omega)) (fun i hi c => sI_o (by omega)) (fun i _ => ⟨sI_o (by omega), sI_o (by omega)⟩) (sI_o (by omega)) ?_ (fun k hk => ?_) (fun k hk => ⟨sI_o (by omega), sI_o (by omega)⟩) ?_
  · rw [sI_o (by omega)]; exact hp.1.2
  · rw [sI_o (by omega)]; exact hp.2.1 k hk
  · rw [sI_o (by omega), sI_o (by omega), sI_o (by omega)]; exact hp.2.2.2
theorem or_b : ∀ (m : Fin 4) (v : Fin 16), v.1 < 2 ^ m.1 → 0 ≤ ((Int32.ofNat v.1) ||| ((1 : Int32) <<< (Int32.ofNat m.1 &&& 31))).toInt ∧ ((Int32.ofNat v.1) ||| ((1 : Int32) <<< (Int32.ofNat m.1 &&& 31))).toInt < ((2 ^ (m.1 + 1) : Nat) : Int) := by decide +kernel
theorem bt_b : ∀ (m : Fin 4) (v : Fin 16), v.1 < 2 ^ m.1 → (((Int32.ofNat v.1) >>> (Int32.ofNat m.1 &&& 31)) &&& (1 : Int32)) ≠ 1 := by decide +kernel
theorem op_b : ∀ (m : Fin 5) (v : Fin 32), 0 ≤ ((Int32.ofNat v.1) ||| ((1 : Int32) <<< (Int32.ofNat m.1 &&& 31))).toInt ∧ ((Int32.ofNat v.1) ||| ((1 : Int32) <<< (Int32.ofNat m.1 &&& 31))).toInt < 32 := by decide +kernel
theorem p2_le {t : Nat} (h : t ≤ 3) : 2 ^ t ≤ 8 := by
  have : ∀ t : Fin 4, 2 ^ t.1 ≤ 8 := by decide
  exact this ⟨t, by omega⟩
theorem told_or {v : Int32} {k : Nat} (hk : k ≤ 3) (h : 0 ≤ v.toInt ∧ v.toInt < ((2 ^ k : Nat) : Int)) : 0 ≤ (v ||| ((1 : Int32) <<< (Int32.ofNat k &&& 31))).toInt ∧ (v ||| ((1 : Int32) <<< (Int32.ofNat k &&& 31))).toInt < ((2 ^ (k + 1) : Nat) : Int) := by
  have hp := p2_le hk
  have := or_b ⟨k, by omega⟩ ⟨v.toInt.toNat, by omega⟩ (by dsimp only; omega)
  dsimp only at this
  rw [i_on h.1] at this
  exact this
theorem told_bt {v : Int32} {k : Nat} (hk : k ≤ 3) (h : 0 ≤ v.toInt ∧ v.toInt < ((2 ^ k : Nat) : Int)) : ((v >>> (Int32.ofNat k &&& 31)) &&& (1 : Int32)) ≠ 1 := by
  have hp := p2_le hk
  have := bt_b ⟨k, by omega⟩ ⟨v.toInt.toNat, by omega⟩ (by dsimp only; omega)
  dsimp only at this
  rw [i_on h.1] at this
  exact this
theorem open_or {v : Int32} {k : Nat} (hk : k < 5) (h : 0 ≤ v.toInt ∧ v.toInt < 32) : 0 ≤ (v ||| ((1 : Int32) <<< (Int32.ofNat k &&& 31))).toInt ∧ (v ||| ((1 : Int32) <<< (Int32.ofNat k &&& 31))).toInt < 32 := by
  have := op_b ⟨k, by omega⟩ ⟨v.toInt.toNat, by omega⟩
  dsimp only at this
  rw [i_on h.1] at this
  exact this
theorem PI.to1 (h : PI T1 o W I nt ns ng nc nm t1 t2 t3) {v : Int32} {t : Nat} (ht : T1 + 20 < o) (ho : 17 < o) (hnt : nt ≤ 4) (hs : ns ≤ 3) (hv : 0 ≤ v.toInt ∧ v.toInt < ((2 ^ t : Nat) : Int)) : PI T1 o W (sI I o 11 v) nt ns ng nc nm t t2 t3 := by
  have hp := h.2.2.2.2.2.2
  refine h.gen (fun i _ => sI_o (by omega)) (sI_k (by omega)) (fun k hk i _ => sI_o (by omega)) (fun i _ => sI_o (by omega)) (fun i hi c => sI_o (by omega)) (fun i _ => ⟨sI_o (by omega), sI_o (by omega)⟩) (sI_o (by omega)) ?_ (fun k hk => ?_) (fun k hk => ⟨sI_o (by omega), sI_o (by omega)⟩) ?_
  · rw [sI_o (by omega)]; exact hp.1.2
  · rw [sI_o (by omega)]; exact hp.2.1 k hk
  · rw [sI_self, sI_k (by omega), sI_k (by omega)]; exact ⟨hv, hp.2.2.2.2⟩
theorem PI.to2 (h : PI T1 o W I nt ns ng nc nm t1 t2 t3) {v : Int32} {t : Nat} (ht : T1 + 20 < o) (ho : 17 < o) (hnt : nt ≤ 4) (hs : ns ≤ 3) (hv : 0 ≤ v.toInt ∧ v.toInt < ((2 ^ t : Nat) : Int)) : PI T1 o W (sI I o 12 v) nt ns ng nc nm t1 t t3 := by
  have hp := h.2.2.2.2.2.2
  refine h.gen (fun i _ => sI_o (by omega)) (sI_k (by omega)) (fun k hk i _ => sI_o (by omega)) (fun i _ => sI_o (by omega)) (fun i hi c => sI_o (by omega)) (fun i _ => ⟨sI_o (by omega), sI_o (by omega)⟩) (sI_o (by omega)) ?_ (fun k hk => ?_) (fun k hk => ⟨sI_o (by omega), sI_o (by omega)⟩) ?_
  · rw [sI_o (by omega)]; exact hp.1.2
  · rw [sI_o (by omega)]; exact hp.2.1 k hk
  · rw [sI_k (by omega), sI_self, sI_k (by omega)]; exact ⟨hp.2.2.2.1, hv, hp.2.2.2.2.2⟩
theorem PI.to3 (h : PI T1 o W I nt ns ng nc nm t1 t2 t3) {v : Int32} {t : Nat} (ht : T1 + 20 < o) (ho : 17 < o) (hnt : nt ≤ 4) (hs : ns ≤ 3) (hv : 0 ≤ v.toInt ∧ v.toInt < ((2 ^ t : Nat) : Int)) : PI T1 o W (sI I o 13 v) nt ns ng nc nm t1 t2 t := by
  have hp := h.2.2.2.2.2.2
  refine h.gen (fun i _ => sI_o (by omega)) (sI_k (by omega)) (fun k hk i _ => sI_o (by omega)) (fun i _ => sI_o (by omega)) (fun i hi c => sI_o (by omega)) (fun i _ => ⟨sI_o (by omega), sI_o (by omega)⟩) (sI_o (by omega)) ?_ (fun k hk => ?_) (fun k hk => ⟨sI_o (by omega), sI_o (by omega)⟩) ?_
  · rw [sI_o (by omega)]; exact hp.1.2
  · rw [sI_o (by omega)]; exact hp.2.1 k hk
  · rw [sI_k (by omega), sI_k (by omega), sI_self]; exact ⟨hp.2.2.2.1, hp.2.2.2.2.1, hv⟩
theorem PI.upt (h : PI T1 o W I nt ns ng nc nm t1 t2 t3) {t : Nat} (h1 : t1 ≤ t) (h2 : t2 ≤ t) (h3 : t3 ≤ t) : PI T1 o W I nt ns ng nc nm t t t := by
  obtain ⟨p1, p2, p3, p4, p5, p6, p7, p8, p9, q1, q2, q3⟩ := h
  have e1 : 2 ^ t1 ≤ 2 ^ t := Nat.pow_le_pow_right (by decide) h1
  have e2 : 2 ^ t2 ≤ 2 ^ t := Nat.pow_le_pow_right (by decide) h2
  have e3 : 2 ^ t3 ≤ 2 ^ t := Nat.pow_le_pow_right (by decide) h3
  exact ⟨p1, p2, p3, p4, p5, p6, p7, p8, p9, ⟨q1.1, by omega⟩, ⟨q2.1, by omega⟩, ⟨q3.1, by omega⟩⟩
/-- a train is counted -/
theorem PI.cnt (h : PI T1 o W I nt ns ng nc nm t1 t2 t3) (ht : T1 + 20 < o) (ho : 17 < o) (hT : 17 < T1) (hs : ns ≤ 3) (hnt : nt ≤ 3) (hti : TI I (T1 + 6 + 3 * nt) nc) (ha : 1 ≤ (I 12 nt).toInt ∧ (I 12 nt).toInt ≤ 999) (hp : 0 ≤ (I 13 nt).toInt ∧ (I 13 nt).toInt ≤ 359) : PI T1 o W (sI I T1 5 (Int32.ofNat (nt + 1))) (nt + 1) ns ng nc nm t1 t2 t3 := by
  obtain ⟨p1, p2, p3, p4, p5, p6, p7, p8, p9, p10⟩ := h
  refine ⟨?_, ?_, fun k hk => ?_, fun i hi => ?_, fun i hi c hc => ?_, fun i hi => ?_, ?_, fun k hk => ?_, fun k hk => ?_, ?_⟩
  · rw [sI_k (by decide), sI_k (by decide), sI_k (by decide), sI_k (by decide)]; exact p1
  · rw [sI_self, sI_k (by decide), sI_k (by decide), sI_o (by omega)]; exact ⟨rfl, p2.2⟩
  · refine TI.cg (I := I) ?_ fun i _ => sI_o (by omega)
    by_cases q : k = nt
    · rw [q]; exact hti
    · exact p3 k (by omega)
  · rw [sI_o (by omega)]; exact p4 i hi
  · rw [sI_o (by omega)]; exact p5 i hi c hc
  · rw [sI_o (by omega), sI_o (by omega)]; exact p6 i hi
  · rw [sI_o (by omega), sI_o (by omega)]; exact p7
  · rw [sI_o (by omega)]; exact p8 k hk
  · rw [sI_o (by omega), sI_o (by omega)]
    by_cases q : k = nt
    · rw [q]; exact ⟨ha, hp⟩
    · exact p9 k (by omega)
  · rw [sI_o (by omega), sI_o (by omega), sI_o (by omega)]; exact p10
/-- a mirror -/
theorem PI.mir (h : PI T1 o W I nt ns ng nc nm t1 t2 t3) {i0 nm' : Nat} {v : Int32} (ht : T1 + 20 < o) (ho : 17 < o) (hT : 17 < T1) (hv : 0 ≤ v.toInt ∧ v.toInt ≤ 100) (hm : nm ≤ nm') (hi0 : i0 < nm') : PI T1 o W (sI I (T1 + 5) i0 v) nt ns ng nc nm' t1 t2 t3 := by
  obtain ⟨p1, p2, p3, p4, p5, p6, p7, p8, p9, p10⟩ := h
  refine ⟨?_, ?_, fun k hk => (p3 k hk).cg fun i _ => sI_o (by omega), fun i hi => ?_, fun i hi c hc => ?_, fun i hi => ?_, ?_, fun k hk => ?_, fun k hk => ?_, ?_⟩
  · rw [sI_o (by omega), sI_o (by omega), sI_o (by omega), sI_o (by omega)]; exact p1
  · rw [sI_o (by omega), sI_o (by omega), sI_o (by omega), sI_o (by omega)]; exact p2
  · rw [sI_get]
    by_cases q : T1 + 5 = T1 + 5 ∧ i = i0
    · rw [if_pos q]; exact ⟨hv.1, hv.2, fun z => by omega⟩
    · rw [if_neg q]; exact ⟨(p4 i hi).1, (p4 i hi).2.1, fun z => (p4 i hi).2.2 (by omega)⟩
  · rw [sI_o (by omega)]; exact p5 i hi c hc
  · rw [sI_o (by omega), sI_o (by omega)]; exact p6 i hi
  · rw [sI_o (by omega), sI_o (by omega)]; exact p7
  · rw [sI_o (by omega)]; exact p8 k hk
  · rw [sI_o (by omega), sI_o (by omega)]; exact p9 k hk
  · rw [sI_o (by omega), sI_o (by omega), sI_o (by omega)]; exact p10
theorem PI.upm (h : PI T1 o W I nt ns ng nc nm t1 t2 t3) {nm' : Nat} (hm : nm ≤ nm') : PI T1 o W I nt ns ng nc nm' t1 t2 t3 := by
  obtain ⟨p1, p2, p3, p4, p5⟩ := h
  exact ⟨p1, p2, p3, fun i hi => ⟨(p4 i hi).1, (p4 i hi).2.1, fun z => (p4 i hi).2.2 (by omega)⟩, p5⟩
end PIS
