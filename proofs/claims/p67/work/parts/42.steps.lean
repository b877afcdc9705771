/-! STEPS OF THE READER over a known text -/
section STP
variable {n T1 o : Nat} {I : gI} {T R : List Nat} {γ : Type} {P : γ → Prop}
theorem CUR.cg {X : List Nat} {I' : gI} (C : CUR T I o X) (h : ∀ i, i < 10 → I' o i = I o i) (h1 : ∀ a i, (a = 1 ∨ a = 94 ∨ a = 18) → I' a i = I a i) : CUR T I' o X := by
  obtain ⟨⟨b1, b2, b3, b4, b5, b6, b7⟩, s, hs, hY, p⟩ := C
  refine ⟨⟨b1, b2, fun i hi => by rw [h1 1 i (Or.inl rfl)]; exact b3 i hi, by rw [h 3 (by decide)]; exact b4, by rw [h 0 (by decide)]; exact b5, fun x y hx hy => by rw [h1 94 _ (Or.inr (Or.inl rfl))]; exact b6 x y hx hy, by rw [h1 18 1 (Or.inr (Or.inr rfl))]; exact b7⟩, s, hs, hY, ?_⟩
  rw [h 7 (by decide), h 6 (by decide), h 8 (by decide), h 9 (by decide)]
  exact p
theorem CUR.st {X : List Nat} {a i : Nat} {v : Int32} (C : CUR T I o X) (h : a ≠ o) (h1 : a ≠ 1 ∧ a ≠ 94 ∧ a ≠ 18) : CUR T (sI I a i v) o X :=
  C.cg (fun _ _ => sI_o (fun q => h q.symm)) (fun _ _ q => sI_o (by omega))
theorem CUR.sto {X : List Nat} {i : Nat} {v : Int32} (C : CUR T I o X) (ho : 150 ≤ o) (h : 10 ≤ i) : CUR T (sI I o i v) o X :=
  C.cg (fun _ _ => sI_k (by omega)) (fun _ _ q => sI_o (by omega))
theorem CUR.e0 {X : List Nat} (C : CUR T I o X) : I o 0 = 0 := C.1.2.2.2.2.1
theorem k_nt {g : gI → Option γ} (hn : 2000 ≤ n) (ho : 150 ≤ o) (h : RD T I o R) (kk : ∀ I', CUR T I' o R → FR I I' o → OKp (g I') P) : OKp (bd (F_X3_nextToken n T1 o I) g) P := by
  obtain ⟨I', e, c, f⟩ := nt_ok (n := n) (T1 := T1) hn ho h
  exact o_bd e (kk I' c f)
theorem rn_ok (hn : 2000 ≤ n) (ho : 150 ≤ o) {v lo hi : Int32} (k6 : I o 6 = 2) (k9 : I o 9 = v) (k0 : I o 0 = 0) (h : RD T I o R) (hl : lo.toInt ≤ v.toInt) (hh : v.toInt ≤ hi.toInt) : ∃ I', F_X3_readNumber n T1 o I lo hi = some (v, I') ∧ CUR T I' o R ∧ FR I I' o := by
  obtain ⟨I', e, c, f⟩ := nt_ok (n := n) (T1 := T1) hn ho h
  refine ⟨I', ?_, c, f⟩
  unfold F_X3_readNumber
  rw [if_pos k0, if_pos k6, k9, if_neg (by rw [i_lt]; omega), if_pos (by rw [i_le]; omega), e, bd_s]
theorem k_num {g : Int32 × gI → Option γ} (hn : 2000 ≤ n) (ho : 150 ≤ o) {v lo hi : Int32} (C : CUR T I o (pa v ++ R)) (h0 : 0 ≤ v.toInt) (h9 : v.toInt ≤ 9999) (hR : Hd R) (hl : lo.toInt ≤ v.toInt) (hh : v.toInt ≤ hi.toInt) (kk : ∀ I', CUR T I' o R → FR I I' o → OKp (g (v, I')) P) : OKp (bd (F_X3_readNumber n T1 o I lo hi) g) P := by
  obtain ⟨k6, k9, h⟩ := cur_n C h0 h9 hR
  obtain ⟨I', e, c, f⟩ := rn_ok (n := n) (T1 := T1) hn ho k6 k9 C.e0 h hl hh
  exact o_bd e (kk I' c f)
theorem k_col {g : Int32 × gI → Option γ} (hn : 2000 ≤ n) (ho : 150 ≤ o) {v lo w : Int32} (C : CUR T I o (pa v ++ R)) (h0 : 0 ≤ v.toInt) (hw : I T1 1 = w) (hR : Hd R) (hl : lo.toInt ≤ v.toInt) (hh : v.toInt < w.toInt) (h9 : w.toInt ≤ 16) (kk : ∀ I', CUR T I' o R → FR I I' o → OKp (g (v, I')) P) : OKp (bd (F_X3_readColumn n T1 o I lo) g) P := by
  have c1 : (1 : Int32).toInt = 1 := rfl
  obtain ⟨k6, k9, h⟩ := cur_n C h0 (by omega) hR
  obtain ⟨I', e, c, f⟩ := rn_ok (n := n) (T1 := T1) hn ho (lo := lo) (hi := w - 1) k6 k9 C.e0 h hl (by rw [i_sub (by rw [c1]; omega) (by rw [c1]; omega), c1]; omega)
  refine o_bd ?_ (kk I' c f)
  unfold F_X3_readColumn
  rw [hw, e, bd_s]
theorem k_row {g : Int32 × gI → Option γ} (hn : 2000 ≤ n) (ho : 150 ≤ o) {v lo w : Int32} (C : CUR T I o (pa v ++ R)) (h0 : 0 ≤ v.toInt) (hw : I T1 2 = w) (hR : Hd R) (hl : lo.toInt ≤ v.toInt) (hh : v.toInt < w.toInt) (h9 : w.toInt ≤ 16) (kk : ∀ I', CUR T I' o R → FR I I' o → OKp (g (v, I')) P) : OKp (bd (F_X3_readRow n T1 o I lo) g) P := by
  have c1 : (1 : Int32).toInt = 1 := rfl
  obtain ⟨k6, k9, h⟩ := cur_n C h0 (by omega) hR
  obtain ⟨I', e, c, f⟩ := rn_ok (n := n) (T1 := T1) hn ho (lo := lo) (hi := w - 1) k6 k9 C.e0 h hl (by rw [i_sub (by rw [c1]; omega) (by rw [c1]; omega), c1]; omega)
  refine o_bd ?_ (kk I' c f)
  unfold F_X3_readRow
  rw [hw, e, bd_s]
theorem k_tw {g : Int32 × gI → Option γ} (hn : 2000 ≤ n) (ho : 150 ≤ o) {bw w : List Nat} {w1 : Nat} (C : CUR T I o (bw ++ R)) (hb : bw = w ∨ bw = 32 :: w) (hw : isWd w = true) (hR : Hd R) (hk : wOK w1 w = true) (kk : ∀ I', CUR T I' o R → FR I I' o → OKp (g (1, I')) P) : OKp (bd (F_X3_takeWord n T1 o w1 I) g) P := by
  have D := cur_w C hb hw hR
  have e1 := isw_s (n := n) (T1 := T1) hn D hk
  rw [decide_eq_true rfl] at e1
  obtain ⟨I', e, c, f⟩ := nt_ok (n := n) (T1 := T1) hn ho D.2.1
  refine o_bd ?_ (kk I' c f)
  unfold F_X3_takeWord
  rw [if_pos C.e0, e1, bd_s, if_neg (by decide), e, bd_s]
theorem k_tn {g : Int32 × gI → Option γ} {w1 : Nat} (h : F_X3_isWord n T1 o w1 I = some 0) (kk : OKp (g (0, I)) P) : OKp (bd (F_X3_takeWord n T1 o w1 I) g) P := by
  refine o_bd ?_ kk
  unfold F_X3_takeWord
  by_cases q : I o 0 = 0
  · rw [if_pos q, h, bd_s, if_pos rfl]
  · rw [if_neg q]
theorem k_rw {g : gI → Option γ} (hn : 2000 ≤ n) (ho : 150 ≤ o) {bw w : List Nat} {w1 : Nat} (C : CUR T I o (bw ++ R)) (hb : bw = w ∨ bw = 32 :: w) (hw : isWd w = true) (hR : Hd R) (hk : wOK w1 w = true) (kk : ∀ I', CUR T I' o R → FR I I' o → OKp (g I') P) : OKp (bd (F_X3_readWord n T1 o w1 I) g) P := by
  obtain ⟨r, e, p⟩ := k_tw (n := n) (T1 := T1) (P := fun r : gI => CUR T r o R ∧ FR I r o) (g := fun v2 => (if v2.1 = 0 then bd (F_X3_fail n T1 o v2.2 (1 : Int32)) (fun v10 => some v10) else some v2.2)) hn ho C hb hw hR hk (fun I' c f => ⟨I', rfl, c, f⟩)
  refine o_bd ?_ (kk r p.1 p.2)
  unfold F_X3_readWord
  exact e
theorem k_ts {g : Int32 × gI → Option γ} (hn : 2000 ≤ n) (ho : 150 ≤ o) {w : List Nat} (C : CUR T I o ((59 :: w) ++ R)) (kk : ∀ I', CUR T I' o (w ++ R) → FR I I' o → OKp (g (1, I')) P) : OKp (bd (F_X3_takeSemicolon n T1 o I) g) P := by
  obtain ⟨k6, h⟩ := cur_s' C
  obtain ⟨I', e, c, f⟩ := nt_ok (n := n) (T1 := T1) hn ho h
  refine o_bd ?_ (kk I' c f)
  unfold F_X3_takeSemicolon
  rw [if_pos C.e0, if_pos k6, e, bd_s]
theorem k_te {g : Int32 × gI → Option γ} (C : CUR T I o []) (kk : OKp (g (0, I)) P) : OKp (bd (F_X3_takeSemicolon n T1 o I) g) P := by
  refine o_bd ?_ kk
  unfold F_X3_takeSemicolon
  rw [if_pos C.e0, cur_e C, if_neg (by decide)]
theorem k_sc {g : Int32 × gI → Option γ} (hn : 2000 ≤ n) (ho : 150 ≤ o) {a b : Int32} (hab : a < b) (h : RD T I o R) (kk : ∀ I', CUR T I' o R → FR I I' o → OKp (g (1, I')) P) : OKp (bd (F_X3_startCounted n T1 o I a b) g) P := by
  obtain ⟨I', e, c, f⟩ := nt_ok (n := n) (T1 := T1) hn ho h
  refine o_bd ?_ (kk I' c f)
  unfold F_X3_startCounted
  rw [if_pos hab, e, bd_s]
theorem k_src {g : Int32 × gI → Option γ} (hn : 2000 ≤ n) (ho : 150 ≤ o) {k m : Nat} {told : Int32} (C : CUR T I o (pa (Int32.ofNat k) ++ R)) (hR : Hd R) (h5 : I T1 5 = Int32.ofNat m) (hk : k < m) (hm : m ≤ 4) (ht : ((told >>> (Int32.ofNat k &&& 31)) &&& (1 : Int32)) ≠ 1) (kk : ∀ I', CUR T I' o R → FR I I' o → OKp (g (Int32.ofNat k, I')) P) : OKp (bd (F_X3_readSource n T1 o I told) g) P := by
  have c1 : (1 : Int32).toInt = 1 := rfl
  have ek := i_of (k := k) (by omega)
  have em := i_of (k := m) (by omega)
  obtain ⟨k6, k9, h⟩ := cur_n C (by omega) (by omega) hR
  obtain ⟨I', e, c, f⟩ := rn_ok (n := n) (T1 := T1) hn ho (lo := 0) (hi := Int32.ofNat m - 1) k6 k9 C.e0 h (by rw [ii_0]; omega) (by rw [i_sub (by rw [c1]; omega) (by rw [c1]; omega), c1]; omega)
  refine o_bd ?_ (kk I' c f)
  unfold F_X3_readSource
  rw [if_pos k6, h5, k9, if_neg (by rw [i_ole (by omega) (by omega)]; omega), if_neg ht, e, bd_s]
theorem k_sgn {g : Int32 × gI → Option γ} (hn : 2000 ≤ n) (ho : 150 ≤ o) {v : Int32} (C : CUR T I o (pa v ++ R)) (h0 : -99 ≤ v.toInt) (h9 : v.toInt ≤ 99) (hR : Hd R) (kk : ∀ I', CUR T I' o R → FR I I' o → OKp (g (v, I')) P) : OKp (bd (F_X3_readSigned n T1 o I) g) P := by
  have c99 : (99 : Int32).toInt = 99 := rfl
  obtain ⟨j, rfl⟩ : ∃ j, n = j + 1 := ⟨n - 1, by omega⟩
  by_cases q : v.toInt < 0
  · obtain ⟨k6, h⟩ := cur_m C q
    obtain ⟨I1, e1, C1, f1⟩ := nt_ok (n := j + 1) (T1 := T1) hn ho h
    obtain ⟨a6, a9, h1⟩ := cur_d (bl := []) C1 (Or.inl rfl) (by omega) hR
    obtain ⟨I2, e2, C2, f2⟩ := rn_ok (n := j + 1) (T1 := T1) hn ho (lo := 0) (hi := 99) a6 a9 C1.e0 h1 (by rw [ii_0, i_of (by omega)]; omega) (by rw [c99, i_of (by omega)]; omega)
    refine o_bd ?_ (kk I2 C2 (f1.trans f2))
    unfold F_X3_readSigned
    rw [if_pos C.e0, if_pos k6, L_X3_readSigned_e0, if_neg (by decide), e1, bd_s, e2, bd_s, if_neg (by decide)]
    congr 2
    apply Int32.toInt_inj.mp
    have e3 := i_of (k := v.toInt.natAbs) (by omega)
    rw [i_neg (a := Int32.ofNat v.toInt.natAbs) (by rw [e3]; omega), e3]; omega
  · obtain ⟨k6, k9, h⟩ := cur_n C (by omega) (by omega) hR
    obtain ⟨I2, e2, C2, f2⟩ := rn_ok (n := j + 1) (T1 := T1) hn ho (lo := 0) (hi := 99) k6 k9 C.e0 h (by rw [ii_0]; omega) (by rw [c99]; omega)
    refine o_bd ?_ (kk I2 C2 f2)
    unfold F_X3_readSigned
    rw [if_pos C.e0, if_neg (by rw [k6]; decide), L_X3_readSigned_e0, if_pos rfl, e2, bd_s, if_pos rfl]
end STP
