/-! THE LINES, ONE AFTER ANOTHER -/
section RLN
variable {n T1 o : Nat} {I : gI} {T R : List Nat}
theorem rl_train (hn : 2000 ≤ n) (D : WD T I o [116, 114, 97, 105, 110] R) {P : gI → Prop} (h : OKp (F_X3_readTrain n T1 o I) P) : OKp (F_X3_readLine n T1 o I) P := by
  have e0 := isw_s (n := n) (T1 := T1) (w1 := 15) (l := [116, 114, 97, 105, 110]) hn D (by decide +kernel)
  unfold F_X3_readLine
  rw [e0, bd_s, if_neg (by decide)]
  obtain ⟨r, e, p⟩ := h
  exact o_bd e ⟨r, rfl, p⟩
theorem rl_drift (hn : 2000 ≤ n) (D : WD T I o [100, 114, 105, 102, 116] R) {P : gI → Prop} (h : OKp (F_X3_readDrift n T1 o I) P) : OKp (F_X3_readLine n T1 o I) P := by
  have e0 := isw_s (n := n) (T1 := T1) (w1 := 15) (l := [116, 114, 97, 105, 110]) hn D (by decide +kernel)
  have e1 := isw_s (n := n) (T1 := T1) (w1 := 18) (l := [100, 114, 105, 102, 116]) hn D (by decide +kernel)
  unfold F_X3_readLine
  rw [e0, bd_s, if_pos (by decide), e1, bd_s, if_neg (by decide)]
  obtain ⟨r, e, p⟩ := h
  exact o_bd e ⟨r, rfl, p⟩
theorem rl_slit (hn : 2000 ≤ n) (D : WD T I o [115, 108, 105, 116] R) {P : gI → Prop} (h : OKp (F_X3_readSlit n T1 o I) P) : OKp (F_X3_readLine n T1 o I) P := by
  have e0 := isw_s (n := n) (T1 := T1) (w1 := 15) (l := [116, 114, 97, 105, 110]) hn D (by decide +kernel)
  have e1 := isw_s (n := n) (T1 := T1) (w1 := 18) (l := [100, 114, 105, 102, 116]) hn D (by decide +kernel)
  have e2 := isw_s (n := n) (T1 := T1) (w1 := 19) (l := [115, 108, 105, 116]) hn D (by decide +kernel)
  unfold F_X3_readLine
  rw [e0, bd_s, if_pos (by decide), e1, bd_s, if_pos (by decide), e2, bd_s, if_neg (by decide)]
  obtain ⟨r, e, p⟩ := h
  exact o_bd e ⟨r, rfl, p⟩
theorem rl_off (hn : 2000 ≤ n) (D : WD T I o [111, 102, 102] R) {P : gI → Prop} (h : OKp (F_X3_readOff n T1 o I) P) : OKp (F_X3_readLine n T1 o I) P := by
  have e0 := isw_s (n := n) (T1 := T1) (w1 := 15) (l := [116, 114, 97, 105, 110]) hn D (by decide +kernel)
  have e1 := isw_s (n := n) (T1 := T1) (w1 := 18) (l := [100, 114, 105, 102, 116]) hn D (by decide +kernel)
  have e2 := isw_s (n := n) (T1 := T1) (w1 := 19) (l := [115, 108, 105, 116]) hn D (by decide +kernel)
  have e3 := isw_s (n := n) (T1 := T1) (w1 := 20) (l := [111, 102, 102]) hn D (by decide +kernel)
  unfold F_X3_readLine
  rw [e0, bd_s, if_pos (by decide), e1, bd_s, if_pos (by decide), e2, bd_s, if_pos (by decide), e3, bd_s, if_neg (by decide)]
  obtain ⟨r, e, p⟩ := h
  exact o_bd e ⟨r, rfl, p⟩
theorem rl_mirror (hn : 2000 ≤ n) (D : WD T I o [109, 105, 114, 114, 111, 114] R) {P : gI → Prop} (h : OKp (F_X3_readMirror n T1 o I) P) : OKp (F_X3_readLine n T1 o I) P := by
  have e0 := isw_s (n := n) (T1 := T1) (w1 := 15) (l := [116, 114, 97, 105, 110]) hn D (by decide +kernel)
  have e1 := isw_s (n := n) (T1 := T1) (w1 := 18) (l := [100, 114, 105, 102, 116]) hn D (by decide +kernel)
  have e2 := isw_s (n := n) (T1 := T1) (w1 := 19) (l := [115, 108, 105, 116]) hn D (by decide +kernel)
  have e3 := isw_s (n := n) (T1 := T1) (w1 := 20) (l := [111, 102, 102]) hn D (by decide +kernel)
  have e4 := isw_s (n := n) (T1 := T1) (w1 := 21) (l := [109, 105, 114, 114, 111, 114]) hn D (by decide +kernel)
  unfold F_X3_readLine
  rw [e0, bd_s, if_pos (by decide), e1, bd_s, if_pos (by decide), e2, bd_s, if_pos (by decide), e3, bd_s, if_pos (by decide), e4, bd_s, if_neg (by decide)]
  obtain ⟨r, e, p⟩ := h
  exact o_bd e ⟨r, rfl, p⟩
theorem rl_cut (hn : 2000 ≤ n) (D : WD T I o [99, 117, 116] R) {P : gI → Prop} (h : OKp (F_X3_readCut n T1 o I) P) : OKp (F_X3_readLine n T1 o I) P := by
  have e0 := isw_s (n := n) (T1 := T1) (w1 := 15) (l := [116, 114, 97, 105, 110]) hn D (by decide +kernel)
  have e1 := isw_s (n := n) (T1 := T1) (w1 := 18) (l := [100, 114, 105, 102, 116]) hn D (by decide +kernel)
  have e2 := isw_s (n := n) (T1 := T1) (w1 := 19) (l := [115, 108, 105, 116]) hn D (by decide +kernel)
  have e3 := isw_s (n := n) (T1 := T1) (w1 := 20) (l := [111, 102, 102]) hn D (by decide +kernel)
  have e4 := isw_s (n := n) (T1 := T1) (w1 := 21) (l := [109, 105, 114, 114, 111, 114]) hn D (by decide +kernel)
  have e5 := isw_s (n := n) (T1 := T1) (w1 := 26) (l := [99, 117, 116]) hn D (by decide +kernel)
  unfold F_X3_readLine
  rw [e0, bd_s, if_pos (by decide), e1, bd_s, if_pos (by decide), e2, bd_s, if_pos (by decide), e3, bd_s, if_pos (by decide), e4, bd_s, if_pos (by decide), e5, bd_s, if_neg (by decide)]
  obtain ⟨r, e, p⟩ := h
  exact o_bd e ⟨r, rfl, p⟩
theorem rl_shape (hn : 2000 ≤ n) (D : WD T I o [115, 104, 97, 112, 101] R) {P : gI → Prop} (h : OKp (F_X3_readShape n T1 o I) P) : OKp (F_X3_readLine n T1 o I) P := by
  have e0 := isw_s (n := n) (T1 := T1) (w1 := 15) (l := [116, 114, 97, 105, 110]) hn D (by decide +kernel)
  have e1 := isw_s (n := n) (T1 := T1) (w1 := 18) (l := [100, 114, 105, 102, 116]) hn D (by decide +kernel)
  have e2 := isw_s (n := n) (T1 := T1) (w1 := 19) (l := [115, 108, 105, 116]) hn D (by decide +kernel)
  have e3 := isw_s (n := n) (T1 := T1) (w1 := 20) (l := [111, 102, 102]) hn D (by decide +kernel)
  have e4 := isw_s (n := n) (T1 := T1) (w1 := 21) (l := [109, 105, 114, 114, 111, 114]) hn D (by decide +kernel)
  have e5 := isw_s (n := n) (T1 := T1) (w1 := 26) (l := [99, 117, 116]) hn D (by decide +kernel)
  have e6 := isw_s (n := n) (T1 := T1) (w1 := 27) (l := [115, 104, 97, 112, 101]) hn D (by decide +kernel)
  unfold F_X3_readLine
  rw [e0, bd_s, if_pos (by decide), e1, bd_s, if_pos (by decide), e2, bd_s, if_pos (by decide), e3, bd_s, if_pos (by decide), e4, bd_s, if_pos (by decide), e5, bd_s, if_pos (by decide), e6, bd_s, if_neg (by decide)]
  obtain ⟨r, e, p⟩ := h
  exact o_bd e ⟨r, rfl, p⟩
theorem rl_shoal (hn : 2000 ≤ n) (D : WD T I o [115, 104, 111, 97, 108] R) {P : gI → Prop} (h : OKp (F_X3_readShoal n T1 o I) P) : OKp (F_X3_readLine n T1 o I) P := by
  have e0 := isw_s (n := n) (T1 := T1) (w1 := 15) (l := [116, 114, 97, 105, 110]) hn D (by decide +kernel)
  have e1 := isw_s (n := n) (T1 := T1) (w1 := 18) (l := [100, 114, 105, 102, 116]) hn D (by decide +kernel)
  have e2 := isw_s (n := n) (T1 := T1) (w1 := 19) (l := [115, 108, 105, 116]) hn D (by decide +kernel)
  have e3 := isw_s (n := n) (T1 := T1) (w1 := 20) (l := [111, 102, 102]) hn D (by decide +kernel)
  have e4 := isw_s (n := n) (T1 := T1) (w1 := 21) (l := [109, 105, 114, 114, 111, 114]) hn D (by decide +kernel)
  have e5 := isw_s (n := n) (T1 := T1) (w1 := 26) (l := [99, 117, 116]) hn D (by decide +kernel)
  have e6 := isw_s (n := n) (T1 := T1) (w1 := 27) (l := [115, 104, 97, 112, 101]) hn D (by decide +kernel)
  have e7 := isw_s (n := n) (T1 := T1) (w1 := 30) (l := [115, 104, 111, 97, 108]) hn D (by decide +kernel)
  unfold F_X3_readLine
  rw [e0, bd_s, if_pos (by decide), e1, bd_s, if_pos (by decide), e2, bd_s, if_pos (by decide), e3, bd_s, if_pos (by decide), e4, bd_s, if_pos (by decide), e5, bd_s, if_pos (by decide), e6, bd_s, if_pos (by decide), e7, bd_s, if_neg (by decide)]
  obtain ⟨r, e, p⟩ := h
  exact o_bd e ⟨r, rfl, p⟩
theorem rl_gauge (hn : 2000 ≤ n) (D : WD T I o [103, 97, 117, 103, 101] R) {P : gI → Prop} (h : OKp (F_X3_readGauge n T1 o I) P) : OKp (F_X3_readLine n T1 o I) P := by
  have e0 := isw_s (n := n) (T1 := T1) (w1 := 15) (l := [116, 114, 97, 105, 110]) hn D (by decide +kernel)
  have e1 := isw_s (n := n) (T1 := T1) (w1 := 18) (l := [100, 114, 105, 102, 116]) hn D (by decide +kernel)
  have e2 := isw_s (n := n) (T1 := T1) (w1 := 19) (l := [115, 108, 105, 116]) hn D (by decide +kernel)
  have e3 := isw_s (n := n) (T1 := T1) (w1 := 20) (l := [111, 102, 102]) hn D (by decide +kernel)
  have e4 := isw_s (n := n) (T1 := T1) (w1 := 21) (l := [109, 105, 114, 114, 111, 114]) hn D (by decide +kernel)
  have e5 := isw_s (n := n) (T1 := T1) (w1 := 26) (l := [99, 117, 116]) hn D (by decide +kernel)
  have e6 := isw_s (n := n) (T1 := T1) (w1 := 27) (l := [115, 104, 97, 112, 101]) hn D (by decide +kernel)
  have e7 := isw_s (n := n) (T1 := T1) (w1 := 30) (l := [115, 104, 111, 97, 108]) hn D (by decide +kernel)
  have e8 := isw_s (n := n) (T1 := T1) (w1 := 31) (l := [103, 97, 117, 103, 101]) hn D (by decide +kernel)
  unfold F_X3_readLine
  rw [e0, bd_s, if_pos (by decide), e1, bd_s, if_pos (by decide), e2, bd_s, if_pos (by decide), e3, bd_s, if_pos (by decide), e4, bd_s, if_pos (by decide), e5, bd_s, if_pos (by decide), e6, bd_s, if_pos (by decide), e7, bd_s, if_pos (by decide), e8, bd_s, if_neg (by decide)]
  obtain ⟨r, e, p⟩ := h
  exact o_bd e ⟨r, rfl, p⟩
end RLN
def LPx (n T1 o i : Nat) (I : gI) : Option gI := L_X3_readText n T1 o (n - i) 0 (Int32.ofNat i) I
section TXT
variable {n T1 o : Nat} {I : gI} {T R X : List Nat} {W : gP} {P : gI → Prop}
theorem r_ts {γ : Type} {P : γ → Prop} {g : Int32 × gI → Option γ} (hn : 2000 ≤ n) (ho : 150 ≤ o) {w : List Nat} (C : CUR T I o ((59 :: w) ++ R)) (kk : ∀ r : Int32 × gI, r.1 = 1 → CUR T r.2 o (w ++ R) → FR I r.2 o → OKp (g r) P) : OKp (bd (F_X3_takeSemicolon n T1 o I) g) P :=
  k_ts hn ho C fun I' c f => kk (1, I') rfl c f
theorem r_te {γ : Type} {P : γ → Prop} {g : Int32 × gI → Option γ} (C : CUR T I o []) (kk : ∀ r : Int32 × gI, r.1 = 0 → r.2 = I → OKp (g r) P) : OKp (bd (F_X3_takeSemicolon n T1 o I) g) P :=
  k_te C (kk (0, I) rfl rfl)
/-- one line -/
theorem tl (hn : 2000 ≤ n) (ho : 150 ≤ o) {i : Nat} (hi : i < 100) {w : List Nat} (C : CUR T I o ((59 :: w) ++ X)) {Q : gI → Prop} (hl : ∀ I', CUR T I' o (w ++ X) → FR I I' o → OKp (F_X3_readLine n T1 o I') Q) (kk : ∀ I', Q I' → OKp (LPx n T1 o (i + 1) I') P) : OKp (LPx n T1 o i I) P := by
  unfold LPx
  rw [show n - i = (n - (i + 1)) + 1 by omega, L_X3_readText_e0, if_neg (show ¬ (900 : Int32) ≤ Int32.ofNat i from fun z => absurd ((i_ole (a := 900) (by omega) (by omega)).mp z) (by omega))]
  refine r_ts hn ho C fun r v C1 f => ?_
  rw [if_neg (show ¬ r.1 = 0 by rw [v]; decide)]
  obtain ⟨I', e, q⟩ := hl r.2 C1 f
  refine o_bd e ?_
  rw [ixp_1]
  exact kk I' q
/-- no more lines -/
theorem tl_e {i : Nat} (hn : 2000 ≤ n) (hi : i < 100) (C : CUR T I o []) {nt : Nat} (h5 : I T1 5 = Int32.ofNat nt) (hnt : 1 ≤ nt ∧ nt ≤ 4) (kk : P I) : OKp (LPx n T1 o i I) P := by
  unfold LPx
  rw [show n - i = (n - (i + 1)) + 1 by omega, L_X3_readText_e0, if_neg (show ¬ (900 : Int32) ≤ Int32.ofNat i from fun z => absurd ((i_ole (a := 900) (by omega) (by omega)).mp z) (by omega))]
  refine r_te C fun r v e => ?_
  rw [if_pos v, e, if_pos C.e0, if_pos (cur_e C), if_pos C.e0, h5, if_neg (show ¬ Int32.ofNat nt = (0 : Int32) from fun z => absurd ((i_oeq (b := 0) (by omega) (by omega)).mp z) (by omega))]
  exact ⟨I, rfl, kk⟩
theorem Nx.c (l : List Nat) : Nx (59 :: l) := Or.inr ⟨l, rfl⟩
theorem Nx.ca (l R : List Nat) : Nx ((59 :: l) ++ R) := Or.inr ⟨l ++ R, rfl⟩
theorem nx_slits (W : gP) : ∀ d y, Nx (tSlits W d y)
  | 0, _ => Or.inl rfl
  | d + 1, y => by
    rw [show tSlits W (d + 1) y = (if (W 5 >>> (Int32.ofNat y &&& 31)) &&& (1 : Int32) = 0 then [] else [59, 115, 108, 105, 116] ++ (pa (Int32.ofNat y) ++ pa (Int32.ofNat y))) ++ tSlits W d (y + 1) from rfl]
    refine Nx.ap ?_ (nx_slits W d (y + 1))
    by_cases q : (W 5 >>> (Int32.ofNat y &&& 31)) &&& (1 : Int32) = 0
    · rw [if_pos q]; exact Or.inl rfl
    · rw [if_neg q]; exact Nx.ca _ _
theorem nx_trains (W : gP) : ∀ d k, Nx (tTrains W d k)
  | 0, _ => Or.inl rfl
  | d + 1, k => Nx.ap (Nx.ca _ _) (nx_trains W d (k + 1))
theorem nx_mirs (W : gP) : ∀ d k, Nx (tMirs W d k)
  | 0, _ => Or.inl rfl
  | d + 1, k => by
    rw [show tMirs W (d + 1) k = (if W (60 + k) = 0 then [] else [59, 109, 105, 114, 114, 111, 114] ++ (tSide k ++ pa (W (60 + k)))) ++ tMirs W d (k + 1) from rfl]
    refine Nx.ap ?_ (nx_mirs W d (k + 1))
    by_cases q : W (60 + k) = 0
    · rw [if_pos q]; exact Or.inl rfl
    · rw [if_neg q]; exact Nx.ca _ _
theorem nx_rows (W : gP) (l : List Nat) (b s : Nat) : ∀ d k, Nx (tRows W (59 :: l) b s d k)
  | 0, _ => Or.inl rfl
  | d + 1, k => Nx.ap (Nx.ca _ _) (nx_rows W l b s d (k + 1))
theorem nx_drift (W : gP) (k b : Nat) : Nx (tDrift W k b) := by
  unfold tDrift
  by_cases q : W (b + 11) = 0 ∧ W (b + 12) = 0
  · rw [if_pos q]; exact Or.inl rfl
  · rw [if_neg q]; exact Nx.ca _ _
theorem nx_off (W : gP) (k b : Nat) : Nx (tOff W k b) := by
  unfold tOff
  by_cases q : W (b + 13) = 0
  · rw [if_pos q]; exact Nx.ca _ _
  · rw [if_neg q]; exact Or.inl rfl
theorem nx_shape (W : gP) (k b : Nat) : Nx (tShape W k b) := by
  unfold tShape
  by_cases q : W (b + 14) = 0
  · rw [if_pos q]; exact Or.inl rfl
  · rw [if_neg q]; exact Nx.ca _ _
/-- the slits -/
theorem sg_slits (hn : 2000 ≤ n) (E : EV T1 o) (H : HG W) {nt ns ng nc nm t1 t2 t3 : Nat} (hnt : nt ≤ 4) (hs : ns ≤ 3) (hX : Nx X) : ∀ (d y i : Nat) (I : gI), y + d = (W 2).toInt.toNat → i + d < 100 → CUR T I o (tSlits W d y ++ X) → PI T1 o W I nt ns ng nc nm t1 t2 t3 → (∀ i' I', i' ≤ i + d → CUR T I' o X → PI T1 o W I' nt ns ng nc nm t1 t2 t3 → OKp (LPx n T1 o i' I') P) → OKp (LPx n T1 o i I) P := by
  obtain ⟨E1, E2, E3⟩ := id E
  obtain ⟨g1, g2, g3, g4, g5, g6, g7⟩ := H
  intro d
  induction d with
  | zero =>
    intro y i I hy hi C p kk
    exact kk i I (by omega) C p
  | succ d ih =>
    intro y i I hy hi C p kk
    rw [show tSlits W (d + 1) y = (if (W 5 >>> (Int32.ofNat y &&& 31)) &&& (1 : Int32) = 0 then [] else [59, 115, 108, 105, 116] ++ (pa (Int32.ofNat y) ++ pa (Int32.ofNat y))) ++ tSlits W d (y + 1) from rfl] at C
    by_cases q : (W 5 >>> (Int32.ofNat y &&& 31)) &&& (1 : Int32) = 0
    · rw [if_pos q, List.nil_append] at C
      exact ih (y + 1) i I (by omega) (by omega) C p fun i' I' h => kk i' I' (by omega)
    · rw [if_neg q, List.append_assoc, List.append_assoc, List.append_assoc] at C
      have hw : W 4 ≠ -1 := fun z => by
        rw [g6 z] at q
        have : ∀ y : Fin 5, ((0 : Int32) >>> (Int32.ofNat y.1 &&& 31)) &&& (1 : Int32) = 0 := by decide
        exact q (this ⟨y, by omega⟩)
      have nx : Nx (tSlits W d (y + 1) ++ X) := (nx_slits W d (y + 1)).ap hX
      refine tl hn (by omega) (by omega) C (Q := fun I' => CUR T I' o (tSlits W d (y + 1) ++ X) ∧ PI T1 o W I' nt ns ng nc nm t1 t2 t3) (fun I1 C1 f1 => ?_) (fun I2 Q2 => ?_)
      · have D := cur_w (w := [115, 108, 105, 116]) C1 (Or.inl rfl) (by decide) (Hd.pa _ _)
        exact rl_slit hn D (ln_slit hn E C1 nx.hd (p.fr f1 E2 (by omega) hs hnt) hw (by omega) (by omega) hnt hs)
      · exact ih (y + 1) (i + 1) I2 (by omega) (by omega) Q2.1 Q2.2 fun i' I' h => kk i' I' (by omega)
/-- the lines of a train -/
theorem sg_train (hn : 2000 ≤ n) (E : EV T1 o) (H : HG W) {k ns ng nc nm i : Nat} (hk : k < 3) (hT : TG W k) (hs : ns ≤ 3) (hX : Nx X) (hi : i + 4 < 100) (C : CUR T I o (tTrain W k ++ X)) (p : PI T1 o W I k ns ng nc nm k k k) (kk : ∀ i' I', i' ≤ i + 4 → CUR T I' o X → PI T1 o W I' (k + 1) ns ng nc nm (k + 1) (k + 1) (k + 1) → OKp (LPx n T1 o i' I') P) : OKp (LPx n T1 o i I) P := by
  obtain ⟨E1, E2, E3⟩ := id E
  obtain ⟨g1, g2, g3, g4, g5, g6, g7⟩ := id H
  obtain ⟨c0, c1, c2, c3, c4, c5, c6, c7, c8, c9, c10, c11, c12, c13, c14, c15, c16⟩ := id hT
  unfold tTrain at C
  obtain ⟨b, hb⟩ : ∃ b, b = 10 + 16 * k := ⟨_, rfl⟩
  rw [← hb] at C c11 c12
  rw [List.append_assoc, List.append_assoc, List.append_assoc, List.append_assoc, List.append_assoc] at C
  have nx3 : Nx (tShape W k b ++ X) := (nx_shape W k b).ap hX
  have nx2 : Nx (tOff W k b ++ (tShape W k b ++ X)) := (nx_off W k b).ap nx3
  have nx1 : Nx (tDrift W k b ++ (tOff W k b ++ (tShape W k b ++ X))) := (nx_drift W k b).ap nx2
  have s3 : ∀ i' I', i' ≤ i + 3 → CUR T I' o (tShape W k b ++ X) → PI T1 o W I' (k + 1) ns ng nc nm (k + 1) (k + 1) k → OKp (LPx n T1 o i' I') P := fun i' I' h' CC PP => by
    unfold tShape at CC
    by_cases q : W (b + 14) = 0
    · rw [if_pos q, List.nil_append] at CC
      exact kk i' I' (by omega) CC (PP.upt (t := k + 1) (by omega) (by omega) (by omega))
    · rw [if_neg q, List.append_assoc, List.append_assoc] at CC
      refine tl hn (by omega) (by omega) CC (Q := fun I' => CUR T I' o X ∧ PI T1 o W I' (k + 1) ns ng nc nm (k + 1) (k + 1) (k + 1)) (fun I1 C1 f1 => ?_) (fun I2 Q2 => kk (i' + 1) I2 (by omega) Q2.1 Q2.2)
      have D := cur_w (w := [115, 104, 97, 112, 101]) C1 (Or.inl rfl) (by decide) (Hd.pa _ _)
      exact rl_shape hn D (ln_shape hn E C1 hX.hd (PP.fr f1 E2 (by omega) hs (by omega)) (by omega) (by omega) hs)
  have s2 : ∀ i' I', i' ≤ i + 2 → CUR T I' o (tOff W k b ++ (tShape W k b ++ X)) → PI T1 o W I' (k + 1) ns ng nc nm (k + 1) k k → OKp (LPx n T1 o i' I') P := fun i' I' h' CC PP => by
    unfold tOff at CC
    by_cases q : W (b + 13) = 0
    · rw [if_pos q, List.append_assoc] at CC
      refine tl hn (by omega) (by omega) CC (Q := fun I' => CUR T I' o (tShape W k b ++ X) ∧ PI T1 o W I' (k + 1) ns ng nc nm (k + 1) (k + 1) k) (fun I1 C1 f1 => ?_) (fun I2 Q2 => s3 (i' + 1) I2 (by omega) Q2.1 Q2.2)
      have D := cur_w (w := [111, 102, 102]) C1 (Or.inl rfl) (by decide) (Hd.pa _ _)
      exact rl_off hn D (ln_off hn E C1 nx3.hd (PP.fr f1 E2 (by omega) hs (by omega)) (by omega) (by omega) hs)
    · rw [if_neg q, List.nil_append] at CC
      have PQ : PI T1 o W I' (k + 1) ns ng nc nm (k + 1) (k + 1) k := by
        obtain ⟨p1, p2, p3, p4, p5, p6, p7, p8, p9, q1, q2, q3⟩ := PP
        have := Nat.pow_le_pow_right (show 0 < 2 by decide) (show k ≤ k + 1 by omega)
        exact ⟨p1, p2, p3, p4, p5, p6, p7, p8, p9, q1, ⟨q2.1, by omega⟩, q3⟩
      exact s3 i' I' (by omega) CC PQ
  have s1 : ∀ i' I', i' ≤ i + 1 → CUR T I' o (tDrift W k b ++ (tOff W k b ++ (tShape W k b ++ X))) → PI T1 o W I' (k + 1) ns ng nc nm k k k → OKp (LPx n T1 o i' I') P := fun i' I' h' CC PP => by
    unfold tDrift at CC
    by_cases q : W (b + 11) = 0 ∧ W (b + 12) = 0
    · rw [if_pos q, List.nil_append] at CC
      have PQ : PI T1 o W I' (k + 1) ns ng nc nm (k + 1) k k := by
        obtain ⟨p1, p2, p3, p4, p5, p6, p7, p8, p9, q1, q2, q3⟩ := PP
        have := Nat.pow_le_pow_right (show 0 < 2 by decide) (show k ≤ k + 1 by omega)
        exact ⟨p1, p2, p3, p4, p5, p6, p7, p8, p9, ⟨q1.1, by omega⟩, q2, q3⟩
      exact s2 i' I' (by omega) CC PQ
    · rw [if_neg q, List.append_assoc, List.append_assoc, List.append_assoc] at CC
      refine tl hn (by omega) (by omega) CC (Q := fun I' => CUR T I' o (tOff W k b ++ (tShape W k b ++ X)) ∧ PI T1 o W I' (k + 1) ns ng nc nm (k + 1) k k) (fun I1 C1 f1 => ?_) (fun I2 Q2 => s2 (i' + 1) I2 (by omega) Q2.1 Q2.2)
      have D := cur_w (w := [100, 114, 105, 102, 116]) C1 (Or.inl rfl) (by decide) (Hd.pa _ _)
      exact rl_drift hn D (ln_drift hn E C1 nx2.hd (PP.fr f1 E2 (by omega) hs (by omega)) (by omega) (by omega) hs (by omega) (by omega))
  refine tl hn (by omega) (by omega) C (Q := fun I' => CUR T I' o (tDrift W k b ++ (tOff W k b ++ (tShape W k b ++ X))) ∧ PI T1 o W I' (k + 1) ns ng nc nm k k k) (fun I1 C1 f1 => ?_) (fun I2 Q2 => s1 (i + 1) I2 (by omega) Q2.1 Q2.2)
  have hd8 : Hd (pas W b 8 0 ++ (tKind W b ++ (tDrift W k b ++ (tOff W k b ++ (tShape W k b ++ X))))) := by rw [pas8]; exact Hd.pa _ _
  have D := cur_w (w := [116, 114, 97, 105, 110]) C1 (Or.inl rfl) (by decide) hd8
  exact rl_train hn D (ln_train hn E hb C1 nx1 (p.fr f1 E2 (by omega) hs (by omega)) hT (by omega) (by omega) (by omega) hs)
theorem sg_trains (hn : 2000 ≤ n) (E : EV T1 o) (H : HG W) {ns ng nc nm : Nat} (hT : ∀ k, k < (W 6).toInt.toNat → TG W k) (hs : ns ≤ 3) (hX : Nx X) : ∀ (d k i : Nat) (I : gI), k + d = (W 6).toInt.toNat → i + 4 * d < 100 → CUR T I o (tTrains W d k ++ X) → PI T1 o W I k ns ng nc nm k k k → (∀ i' I', i' ≤ i + 4 * d → CUR T I' o X → PI T1 o W I' (k + d) ns ng nc nm (k + d) (k + d) (k + d) → OKp (LPx n T1 o i' I') P) → OKp (LPx n T1 o i I) P := by
  have g7 := H.2.2.2.2.2.2
  intro d
  induction d with
  | zero =>
    intro k i I hk hi C p kk
    exact kk i I (by omega) C p
  | succ d ih =>
    intro k i I hk hi C p kk
    rw [show tTrains W (d + 1) k = tTrain W k ++ tTrains W d (k + 1) from rfl, List.append_assoc] at C
    refine sg_train hn E H (by omega) (hT k (by omega)) hs ((nx_trains W d (k + 1)).ap hX) (by omega) C p fun i1 I1 h1 C1 p1 => ?_
    refine ih (k + 1) i1 I1 (by omega) (by omega) C1 p1 fun i' I' h' C' p' => kk i' I' (by omega) C' ?_
    rw [show k + (d + 1) = k + 1 + d by omega]
    exact p'
/-- the mirrors -/
theorem sg_mirs (hn : 2000 ≤ n) (E : EV T1 o) {nt ns ng nc t1 t2 t3 : Nat} (hM : ∀ k, k < 4 → MG W k) (hnt : nt ≤ 4) (hs : ns ≤ 3) (hX : Nx X) : ∀ (d k i : Nat) (I : gI), k + d = 4 → i + d < 100 → CUR T I o (tMirs W d k ++ X) → PI T1 o W I nt ns ng nc k t1 t2 t3 → (∀ i' I', i' ≤ i + d → CUR T I' o X → PI T1 o W I' nt ns ng nc 4 t1 t2 t3 → OKp (LPx n T1 o i' I') P) → OKp (LPx n T1 o i I) P := by
  obtain ⟨E1, E2, E3⟩ := id E
  intro d
  induction d with
  | zero =>
    intro k i I hk hi C p kk
    exact kk i I (by omega) C (p.upm (by omega))
  | succ d ih =>
    intro k i I hk hi C p kk
    rw [show tMirs W (d + 1) k = (if W (60 + k) = 0 then [] else [59, 109, 105, 114, 114, 111, 114] ++ (tSide k ++ pa (W (60 + k)))) ++ tMirs W d (k + 1) from rfl] at C
    have hm := hM k (by omega)
    unfold MG at hm
    by_cases q : W (60 + k) = 0
    · rw [if_pos q, List.nil_append] at C
      exact ih (k + 1) i I (by omega) (by omega) C (p.upm (by omega)) fun i' I' h => kk i' I' (by omega)
    · rw [if_neg q, List.append_assoc, List.append_assoc, List.append_assoc] at C
      have h1 : (W (60 + k)).toInt ≠ 0 := fun z => q (i_eq.mpr (by rw [z, ii_0]))
      have nx : Nx (tMirs W d (k + 1) ++ X) := (nx_mirs W d (k + 1)).ap hX
      refine tl hn (by omega) (by omega) C (Q := fun I' => CUR T I' o (tMirs W d (k + 1) ++ X) ∧ PI T1 o W I' nt ns ng nc (k + 1) t1 t2 t3) (fun I1 C1 f1 => ?_) (fun I2 Q2 => ?_)
      · have D := cur_w (w := [109, 105, 114, 114, 111, 114]) C1 (Or.inl rfl) (by decide) (tSide_hd _ _)
        exact rl_mirror hn D (ln_mirror hn E C1 nx.hd (by omega) (p.fr f1 E2 (by omega) hs hnt) (by omega) (by omega) hnt hs)
      · exact ih (k + 1) (i + 1) I2 (by omega) (by omega) Q2.1 Q2.2 fun i' I' h => kk i' I' (by omega)
theorem pas_2 (W : gP) (b : Nat) (X : List Nat) : pas W b 2 0 ++ X = pa (W (b + 0)) ++ (pa (W (b + 1)) ++ X) := by
  rw [show pas W b 2 0 = pa (W (b + 0)) ++ (pa (W (b + 1)) ++ []) from rfl]
  simp only [List.append_assoc, List.nil_append]
theorem pas_3 (W : gP) (b : Nat) (X : List Nat) : pas W b 3 0 ++ X = pa (W (b + 0)) ++ (pa (W (b + 1)) ++ (pa (W (b + 2)) ++ X)) := by
  rw [show pas W b 3 0 = pa (W (b + 0)) ++ (pa (W (b + 1)) ++ (pa (W (b + 2)) ++ [])) from rfl]
  simp only [List.append_assoc, List.nil_append]
theorem pas_5 (W : gP) (b : Nat) (X : List Nat) : pas W b 5 0 ++ X = pa (W (b + 0)) ++ (pa (W (b + 1)) ++ (pa (W (b + 2)) ++ (pa (W (b + 3)) ++ (pa (W (b + 4)) ++ X)))) := by
  rw [show pas W b 5 0 = pa (W (b + 0)) ++ (pa (W (b + 1)) ++ (pa (W (b + 2)) ++ (pa (W (b + 3)) ++ (pa (W (b + 4)) ++ [])))) from rfl]
  simp only [List.append_assoc, List.nil_append]
/-- the cuts -/
theorem sg_cuts (hn : 2000 ≤ n) (E : EV T1 o) (H : HG W) (hC : ∀ k, k < 2 → CG W k) {nt ns ng nm t1 t2 t3 m : Nat} (hm : m ≤ 2) (h6 : nt = (W 6).toInt.toNat) (hs : ns ≤ 3) (hX : Nx X) : ∀ (d k i : Nat) (I : gI), k + d = m → i + d < 100 → CUR T I o (tRows W [59, 99, 117, 116] 65 3 d k ++ X) → PI T1 o W I nt ns ng k nm t1 t2 t3 → (∀ i' I', i' ≤ i + d → CUR T I' o X → PI T1 o W I' nt ns ng m nm t1 t2 t3 → OKp (LPx n T1 o i' I') P) → OKp (LPx n T1 o i I) P := by
  obtain ⟨E1, E2, E3⟩ := id E
  have g7 := H.2.2.2.2.2.2
  intro d
  induction d with
  | zero =>
    intro k i I hk hi C p kk
    rw [show k = m by omega] at p
    exact kk i I (by omega) C p
  | succ d ih =>
    intro k i I hk hi C p kk
    rw [show tRows W [59, 99, 117, 116] 65 3 (d + 1) k = ([59, 99, 117, 116] ++ pas W (65 + 3 * k) 3 0) ++ tRows W [59, 99, 117, 116] 65 3 d (k + 1) from rfl, List.append_assoc, List.append_assoc, pas_3] at C
    obtain ⟨c1, c2, c3, -⟩ := hC k (by omega)
    have nx : Nx (tRows W [59, 99, 117, 116] 65 3 d (k + 1) ++ X) := (nx_rows W _ 65 3 d (k + 1)).ap hX
    rw [show W (65 + 3 * k + 0) = Int32.ofNat (W (65 + 3 * k)).toInt.toNat by rw [Nat.add_zero, i_on c1.1], show 65 + 3 * k + 1 = 66 + 3 * k by omega, show 65 + 3 * k + 2 = 67 + 3 * k by omega] at C
    refine tl hn (by omega) (by omega) C (Q := fun I' => CUR T I' o (tRows W [59, 99, 117, 116] 65 3 d (k + 1) ++ X) ∧ PI T1 o W I' nt ns ng (k + 1) nm t1 t2 t3) (fun I1 C1 f1 => ?_) (fun I2 Q2 => ?_)
    · have D := cur_w (w := [99, 117, 116]) C1 (Or.inl rfl) (by decide) (Hd.pa _ _)
      exact rl_cut hn D (ln_cut hn E C1 nx.hd (p.fr f1 E2 (by omega) hs (by omega)) (by omega) (by omega) (by omega) (by omega) (by omega) hs)
    · exact ih (k + 1) (i + 1) I2 (by omega) (by omega) Q2.1 Q2.2 fun i' I' h => kk i' I' (by omega)
/-- the shoals -/
theorem sg_shoals (hn : 2000 ≤ n) (E : EV T1 o) (H : HG W) (hC : ∀ k, k < 2 → CG W k) {nt ng nc nm t1 t2 t3 m : Nat} (hm : m ≤ 2) (hnt : nt ≤ 4) (hX : Nx X) : ∀ (d k i : Nat) (I : gI), k + d = m → i + d < 100 → CUR T I o (tRows W [59, 115, 104, 111, 97, 108] 72 5 d k ++ X) → PI T1 o W I nt k ng nc nm t1 t2 t3 → (∀ i' I', i' ≤ i + d → CUR T I' o X → PI T1 o W I' nt m ng nc nm t1 t2 t3 → OKp (LPx n T1 o i' I') P) → OKp (LPx n T1 o i I) P := by
  obtain ⟨E1, E2, E3⟩ := id E
  obtain ⟨g1, g2, g3, g4, g5, g6, g7⟩ := H
  intro d
  induction d with
  | zero =>
    intro k i I hk hi C p kk
    rw [show k = m by omega] at p
    exact kk i I (by omega) C p
  | succ d ih =>
    intro k i I hk hi C p kk
    rw [show tRows W [59, 115, 104, 111, 97, 108] 72 5 (d + 1) k = ([59, 115, 104, 111, 97, 108] ++ pas W (72 + 5 * k) 5 0) ++ tRows W [59, 115, 104, 111, 97, 108] 72 5 d (k + 1) from rfl, List.append_assoc, List.append_assoc, pas_5, Nat.add_zero] at C
    have nx : Nx (tRows W [59, 115, 104, 111, 97, 108] 72 5 d (k + 1) ++ X) := (nx_rows W _ 72 5 d (k + 1)).ap hX
    refine tl hn (by omega) (by omega) C (Q := fun I' => CUR T I' o (tRows W [59, 115, 104, 111, 97, 108] 72 5 d (k + 1) ++ X) ∧ PI T1 o W I' nt (k + 1) ng nc nm t1 t2 t3) (fun I1 C1 f1 => ?_) (fun I2 Q2 => ?_)
    · have D := cur_w (w := [115, 104, 111, 97, 108]) C1 (Or.inl rfl) (by decide) (Hd.pa _ _)
      exact rl_shoal hn D (ln_shoal hn E C1 nx.hd (p.fr f1 E2 (by omega) (by omega) hnt) (hC k (by omega)) (by omega) (by omega) hnt (by omega))
    · exact ih (k + 1) (i + 1) I2 (by omega) (by omega) Q2.1 Q2.2 fun i' I' h => kk i' I' (by omega)
/-- the gauges -/
theorem sg_gauges (hn : 2000 ≤ n) (E : EV T1 o) (H : HG W) (hC : ∀ k, k < 2 → CG W k) {nt ns nc nm t1 t2 t3 m : Nat} (hm : m ≤ 2) (hnt : nt ≤ 4) (hs : ns ≤ 3) (hX : Nx X) : ∀ (d k i : Nat) (I : gI), k + d = m → i + d < 100 → CUR T I o (tRows W [59, 103, 97, 117, 103, 101] 83 2 d k ++ X) → PI T1 o W I nt ns k nc nm t1 t2 t3 → (∀ i' I', i' ≤ i + d → CUR T I' o X → PI T1 o W I' nt ns m nc nm t1 t2 t3 → OKp (LPx n T1 o i' I') P) → OKp (LPx n T1 o i I) P := by
  obtain ⟨E1, E2, E3⟩ := id E
  obtain ⟨g1, g2, g3, g4, g5, g6, g7⟩ := H
  intro d
  induction d with
  | zero =>
    intro k i I hk hi C p kk
    rw [show k = m by omega] at p
    exact kk i I (by omega) C p
  | succ d ih =>
    intro k i I hk hi C p kk
    rw [show tRows W [59, 103, 97, 117, 103, 101] 83 2 (d + 1) k = ([59, 103, 97, 117, 103, 101] ++ pas W (83 + 2 * k) 2 0) ++ tRows W [59, 103, 97, 117, 103, 101] 83 2 d (k + 1) from rfl, List.append_assoc, List.append_assoc, pas_2, Nat.add_zero, show 83 + 2 * k + 1 = 84 + 2 * k by omega] at C
    obtain ⟨-, -, -, c4, c5, -⟩ := hC k (by omega)
    have nx : Nx (tRows W [59, 103, 97, 117, 103, 101] 83 2 d (k + 1) ++ X) := (nx_rows W _ 83 2 d (k + 1)).ap hX
    refine tl hn (by omega) (by omega) C (Q := fun I' => CUR T I' o (tRows W [59, 103, 97, 117, 103, 101] 83 2 d (k + 1) ++ X) ∧ PI T1 o W I' nt ns (k + 1) nc nm t1 t2 t3) (fun I1 C1 f1 => ?_) (fun I2 Q2 => ?_)
    · have D := cur_w (w := [103, 97, 117, 103, 101]) C1 (Or.inl rfl) (by decide) (Hd.pa _ _)
      exact rl_gauge hn D (ln_gauge hn E C1 nx.hd (p.fr f1 E2 (by omega) hs hnt) (by omega) c4 c5 (by omega) (by omega) hnt hs)
    · exact ih (k + 1) (i + 1) I2 (by omega) (by omega) Q2.1 Q2.2 fun i' I' h => kk i' I' (by omega)
/-- all the lines -/
theorem sg_all (hn : 2000 ≤ n) (E : EV T1 o) (D : DG W) {i : Nat} (hi : i = 0) (C : CUR T I o (tSlits W (W 2).toInt.toNat 0 ++ (tTrains W (W 6).toInt.toNat 0 ++ tFurn W))) (p : PI T1 o W I 0 0 0 0 0 0 0 0) : OKp (LPx n T1 o i I) (fun r => r o 0 = 0 ∧ PI T1 o W r (W 6).toInt.toNat (W 71).toInt.toNat (W 82).toInt.toNat (W 64).toInt.toNat 4 (W 6).toInt.toNat (W 6).toInt.toNat (W 6).toInt.toNat ∧ RU r ∧ (0 ≤ (r 18 1).toInt ∧ (r 18 1).toInt < 8)) := by
  obtain ⟨H, hT, hM, ⟨n1, n2, n3⟩, hC⟩ := D
  obtain ⟨g1, g2, g3, g4, g5, g6, g7⟩ := id H
  have nxg : Nx (tRows W [59, 103, 97, 117, 103, 101] 83 2 (W 82).toInt.toNat 0) := nx_rows W _ 83 2 _ 0
  have nxs : Nx (tRows W [59, 115, 104, 111, 97, 108] 72 5 (W 71).toInt.toNat 0 ++ tRows W [59, 103, 97, 117, 103, 101] 83 2 (W 82).toInt.toNat 0) := (nx_rows W _ 72 5 _ 0).ap nxg
  have nxc : Nx (tRows W [59, 99, 117, 116] 65 3 (W 64).toInt.toNat 0 ++ (tRows W [59, 115, 104, 111, 97, 108] 72 5 (W 71).toInt.toNat 0 ++ tRows W [59, 103, 97, 117, 103, 101] 83 2 (W 82).toInt.toNat 0)) := (nx_rows W _ 65 3 _ 0).ap nxs
  have nxf : Nx (tFurn W) := (nx_mirs W 4 0).ap nxc
  refine sg_slits hn E H (by omega) (by omega) ((nx_trains W _ 0).ap nxf) (W 2).toInt.toNat 0 i I (by omega) (by omega) C p fun i1 I1 h1 C1 p1 => ?_
  refine sg_trains hn E H hT (by omega) nxf (W 6).toInt.toNat 0 i1 I1 (by omega) (by omega) C1 p1 fun i2 I2 h2 C2 p2 => ?_
  rw [Nat.zero_add] at p2
  unfold tFurn at C2
  refine sg_mirs hn E hM (by omega) (by omega) nxc 4 0 i2 I2 rfl (by omega) C2 p2 fun i3 I3 h3 C3 p3 => ?_
  refine sg_cuts hn E H hC (m := (W 64).toInt.toNat) (by omega) rfl (by omega) nxs (W 64).toInt.toNat 0 i3 I3 (by omega) (by omega) C3 p3 fun i4 I4 h4 C4 p4 => ?_
  refine sg_shoals hn E H hC (m := (W 71).toInt.toNat) (by omega) (by omega) nxg (W 71).toInt.toNat 0 i4 I4 (by omega) (by omega) C4 p4 fun i5 I5 h5 C5 p5 => ?_
  rw [← List.append_nil (tRows W [59, 103, 97, 117, 103, 101] 83 2 (W 82).toInt.toNat 0)] at C5
  refine sg_gauges hn E H hC (m := (W 82).toInt.toNat) (by omega) (by omega) (by omega) (Or.inl rfl) (W 82).toInt.toNat 0 i5 I5 (by omega) (by omega) C5 p5 fun i6 I6 h6 C6 p6 => ?_
  exact tl_e hn (by omega) C6 p6.2.1.1 (by omega) ⟨C6.e0, p6, C6.1.2.2.2.2.2⟩
end TXT
