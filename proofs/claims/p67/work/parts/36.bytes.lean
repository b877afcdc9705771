/-! THE BYTES OF THE TEXT THAT THE LAW WRITES -/
def un (x : Int32) : Nat := x.toBitVec.toNat
def by8 (x : Int32) (e : Nat) : Nat := un x / 256 ^ e % 256
theorem un_of {k : Nat} (h : k < 4294967296) : un (Int32.ofNat k) = k := by
  unfold un
  rw [show (Int32.ofNat k).toBitVec = BitVec.ofNat 32 k from rfl, BitVec.toNat_ofNat]
  exact Nat.mod_eq_of_lt h
theorem un_push (x : Int32) {c : Nat} (hc : c < 256) : un ((x <<< ((8 : Int32) &&& 31)) ||| Int32.ofNat c) = (un x % 16777216) * 256 + c := by
  unfold un
  have e1 : ((x <<< ((8 : Int32) &&& 31)) ||| Int32.ofNat c).toBitVec = (x.toBitVec <<< 8) ||| BitVec.ofNat 32 c := rfl
  rw [e1, BitVec.toNat_or, BitVec.toNat_shiftLeft, BitVec.toNat_ofNat, Nat.mod_eq_of_lt (show c < 2 ^ 32 by omega)]
  have e2 : x.toBitVec.toNat <<< 8 % 2 ^ 32 = (x.toBitVec.toNat % 16777216) <<< 8 := by
    rw [Nat.shiftLeft_eq, Nat.shiftLeft_eq]; omega
  rw [e2, ← Nat.shiftLeft_add_eq_or_of_lt (show c < 2 ^ 8 by omega), Nat.shiftLeft_eq]
theorem by8_0 (x : Int32) {c : Nat} (hc : c < 256) : by8 ((x <<< ((8 : Int32) &&& 31)) ||| Int32.ofNat c) 0 = c := by
  unfold by8
  rw [un_push x hc, Nat.pow_zero, Nat.div_one]; omega
theorem by8_s (x : Int32) {c : Nat} (hc : c < 256) {e : Nat} (he : e ≤ 2) : by8 ((x <<< ((8 : Int32) &&& 31)) ||| Int32.ofNat c) (e + 1) = by8 x e := by
  unfold by8
  rw [un_push x hc]
  have : e = 0 ∨ e = 1 ∨ e = 2 := by omega
  rcases this with h | h | h <;> subst h
  · rw [show (256 : Nat) ^ (0 + 1) = 256 from rfl, show (256 : Nat) ^ 0 = 1 from rfl]; omega
  · rw [show (256 : Nat) ^ (1 + 1) = 65536 from rfl, show (256 : Nat) ^ 1 = 256 from rfl]; omega
  · rw [show (256 : Nat) ^ (2 + 1) = 16777216 from rfl, show (256 : Nat) ^ 2 = 65536 from rfl]; omega
theorem b_low (y : Int32) : (Int8.toInt32 (Int32.toInt8 y)) &&& 255 = y &&& 255 := by
  apply Int32.toBitVec_inj.mp
  apply BitVec.eq_of_getLsbD_eq
  intro i hi
  have h255 : ∀ i : Fin 32, (255 : Int32).toBitVec.getLsbD i.1 = decide (i.1 < 8) := by decide
  have h := h255 ⟨i, hi⟩
  simp only [Int32.toBitVec_and, BitVec.getLsbD_and, h, Int8.toBitVec_toInt32, Int32.toBitVec_toInt8]
  by_cases h8 : i < 8
  · rw [BitVec.getLsbD_signExtend, if_pos h8, BitVec.getLsbD_signExtend, if_pos (by omega)]
    simp only [h8, hi, decide_true, Bool.true_and]
  · simp [h8]
theorem b_rg (y : Int32) : -128 ≤ (Int8.toInt32 (Int32.toInt8 y)).toInt ∧ (Int8.toInt32 (Int32.toInt8 y)).toInt ≤ 127 := by
  rw [Int8.toInt_toInt32]
  have h1 := Int8.le_toInt (Int32.toInt8 y)
  have h2 := Int8.toInt_lt (Int32.toInt8 y)
  omega
theorem b_nar (y : Int32) : (-128 ≤ (vp_nar .byte (Int8.toInt32 (Int32.toInt8 y))).toInt ∧ (vp_nar .byte (Int8.toInt32 (Int32.toInt8 y))).toInt ≤ 127) ∧ (vp_nar .byte (Int8.toInt32 (Int32.toInt8 y))) &&& 255 = y &&& 255 := by
  have e : vp_nar .byte (Int8.toInt32 (Int32.toInt8 y)) = Int8.toInt32 (Int32.toInt8 (Int8.toInt32 (Int32.toInt8 y))) := rfl
  rw [e]
  exact ⟨b_rg _, by rw [b_low, b_low]⟩
theorem bb_all : ∀ k : Fin 256, (Int32.ofInt ((k.1 : Int) - 128) &&& 255).toInt = if (k.1 : Int) - 128 < 0 then (k.1 : Int) + 128 else (k.1 : Int) - 128 := by decide +kernel
theorem bb_i {b : Int32} (h : -128 ≤ b.toInt ∧ b.toInt ≤ 127) : (b &&& 255).toInt = if b.toInt < 0 then b.toInt + 256 else b.toInt := by
  have := bb_all ⟨(b.toInt + 128).toNat, by omega⟩
  simp only at this
  have e : (((b.toInt + 128).toNat : Nat) : Int) - 128 = b.toInt := by omega
  rw [e, Int32.ofInt_toInt] at this
  rw [this]
  by_cases h1 : b.toInt < 0
  · rw [if_pos h1, if_pos h1]; omega
  · rw [if_neg h1, if_neg h1]
theorem bb_eq {b c : Int32} (h : -128 ≤ b.toInt ∧ b.toInt ≤ 127) (hc : 0 ≤ c.toInt ∧ c.toInt ≤ 127) : b &&& 255 = c ↔ b = c := by
  have e := bb_i h
  rw [i_eq, i_eq, e]
  by_cases h1 : b.toInt < 0
  · rw [if_pos h1]; omega
  · rw [if_neg h1]
/-- a byte of a word, as it is laid -/
theorem lay8 (a x : Int32) (e : Nat) (he : e ≤ 3) (ex : ((Int32.toUInt32 a >>> (Int32.toUInt32 x &&& Int32.toUInt32 31)).toInt32).toBitVec = a.toBitVec >>> (8 * e)) {b : Nat} (hb : by8 a e = b) (hb7 : b < 128) : vp_nar .byte (Int8.toInt32 (Int32.toInt8 ((Int32.toUInt32 a >>> (Int32.toUInt32 x &&& Int32.toUInt32 31)).toInt32))) = Int32.ofNat b := by
  have h := b_nar ((Int32.toUInt32 a >>> (Int32.toUInt32 x &&& Int32.toUInt32 31)).toInt32)
  refine (bb_eq h.1 (c := Int32.ofNat b) (by rw [i_of (by omega)]; omega)).mp ?_
  rw [h.2]
  apply Int32.toBitVec_inj.mp
  apply BitVec.eq_of_toNat_eq
  rw [Int32.toBitVec_and, ex, BitVec.toNat_and, BitVec.toNat_ushiftRight, show (255 : Int32).toBitVec.toNat = 2 ^ 8 - 1 from rfl, Nat.and_two_pow_sub_one_eq_mod, Nat.shiftRight_eq_div_pow]
  have := un_of (k := b) (by omega)
  unfold un at this
  rw [this, ← hb]
  unfold by8 un
  have : (2 : Nat) ^ (8 * e) = 256 ^ e := by rw [Nat.pow_mul]
  rw [this]
/-- what the class's buffer holds: L bytes of f; nothing else has moved since I0 -/
def AB (I0 I : gI) (f : Nat → Nat) (L : Nat) : Prop := I 0 1 = Int32.ofNat L ∧ (∀ i, i < L → I 1 i = Int32.ofNat (f i)) ∧ (∀ o i, o ≠ 1 → (o ≠ 0 ∨ i ≠ 1) → I o i = I0 o i)
section BYT
variable {n T0 T1 : Nat} {I I0 K : gI}
theorem b_st (a : Int32) (j : Nat) (x x' : Int32) (hx : ¬ x < 0) (hx' : x + (-8) = x') {L : Nat} (hL : L < 900) (h : I 0 1 = Int32.ofNat L) : L_X9_putBytes n T0 T1 a (j + 1) 0 x I = L_X9_putBytes n T0 T1 a j 0 x' (sI (sI I 1 L (vp_nar .byte (Int8.toInt32 (Int32.toInt8 ((Int32.toUInt32 a >>> (Int32.toUInt32 x &&& Int32.toUInt32 31)).toInt32))))) 0 1 (Int32.ofNat (L + 1))) := by
  rw [L_X9_putBytes_e0, if_neg hx, h, gv_o hL, i_tno (by omega), sI_o (o := 1) (by decide), h, ixp_1, hx']
theorem ab_1 {f : Nat → Nat} {L : Nat} (h : AB I0 I f L) {b : Int32} (hb : b = Int32.ofNat (f L)) : AB I0 (sI (sI I 1 L b) 0 1 (Int32.ofNat (L + 1))) f (L + 1) := by
  obtain ⟨h1, h3, h4⟩ := h
  refine ⟨sI_self _ _ _ _, fun i hi => ?_, fun o i a c => ?_⟩
  · rw [sI_o (o := 0) (by decide), sI_get]
    by_cases q : i = L
    · rw [if_pos ⟨rfl, q⟩, hb, q]
    · rw [if_neg (fun z => q z.2)]; exact h3 i (by omega)
  · rw [sI_get, if_neg (by omega), sI_o (by omega)]; exact h4 o i a c
theorem ab_4 (hn : 2000 ≤ n) {f : Nat → Nat} {L : Nat} (h : AB I0 I f L) (hL : L + 4 ≤ 900) (hf : ∀ i, f i < 128) (a : Int32) (ha : ∀ r, r < 4 → by8 a (3 - r) = f (L + r)) : ∃ I', F_X9_putBytes n T0 T1 I a = some I' ∧ AB I0 I' f (L + 4) := by
  obtain ⟨j, rfl⟩ : ∃ j, n = j + 5 := ⟨n - 5, by omega⟩
  have A1 := ab_1 h (lay8 a 24 3 (by decide) rfl (ha 0 (by decide)) (hf _))
  have A2 := ab_1 A1 (lay8 a 16 2 (by decide) rfl (ha 1 (by decide)) (hf _))
  have A3 := ab_1 A2 (lay8 a 8 1 (by decide) rfl (ha 2 (by decide)) (hf _))
  have A4 := ab_1 A3 (lay8 a 0 0 (by decide) rfl (ha 3 (by decide)) (hf _))
  refine ⟨_, ?_, A4⟩
  unfold F_X9_putBytes
  rw [show j + 5 = (j + 4) + 1 from rfl, b_st a (j + 4) 24 16 (by decide) (by decide) (by omega) h.1, show j + 4 = (j + 3) + 1 from rfl, b_st a (j + 3) 16 8 (by decide) (by decide) (by omega) A1.1, show j + 3 = (j + 2) + 1 from rfl, b_st a (j + 2) 8 0 (by decide) (by decide) (by omega) A2.1, show j + 2 = (j + 1) + 1 from rfl, b_st a (j + 1) 0 (-8) (by decide) (by decide) (by omega) A3.1, L_X9_putBytes_e0, if_pos (by decide)]
theorem ab_20 (hn : 2000 ≤ n) {f : Nat → Nat} {L : Nat} (h : AB I0 I f L) (hL : L ≤ 880) (hf : ∀ i, f i < 128) (w : Nat → Int32) (hw : ∀ i, i < 20 → by8 (w (i / 4)) (3 - i % 4) = f (L + i)) : ∃ I', F_X9_append n T0 T1 I (w 0) (w 1) (w 2) (w 3) (w 4) = some (Int32.ofNat (L + 20), I') ∧ AB I0 I' f (L + 20) := by
  obtain ⟨I1, e1, A1⟩ := ab_4 (T0 := T0) (T1 := T1) hn h (by omega) hf (w 0) (fun r hr => by have := hw r (by omega); rw [show r / 4 = 0 by omega, show r % 4 = r by omega] at this; exact this)
  obtain ⟨I2, e2, A2⟩ := ab_4 (T0 := T0) (T1 := T1) hn A1 (by omega) hf (w 1) (fun r hr => by have := hw (4 + r) (by omega); rw [show (4 + r) / 4 = 1 by omega, show (4 + r) % 4 = r by omega] at this; rw [this]; congr 1; omega)
  obtain ⟨I3, e3, A3⟩ := ab_4 (T0 := T0) (T1 := T1) hn A2 (by omega) hf (w 2) (fun r hr => by have := hw (8 + r) (by omega); rw [show (8 + r) / 4 = 2 by omega, show (8 + r) % 4 = r by omega] at this; rw [this]; congr 1; omega)
  obtain ⟨I4, e4, A4⟩ := ab_4 (T0 := T0) (T1 := T1) hn A3 (by omega) hf (w 3) (fun r hr => by have := hw (12 + r) (by omega); rw [show (12 + r) / 4 = 3 by omega, show (12 + r) % 4 = r by omega] at this; rw [this]; congr 1; omega)
  obtain ⟨I5, e5, A5⟩ := ab_4 (T0 := T0) (T1 := T1) hn A4 (by omega) hf (w 4) (fun r hr => by have := hw (16 + r) (by omega); rw [show (16 + r) / 4 = 4 by omega, show (16 + r) % 4 = r by omega] at this; rw [this]; congr 1; omega)
  refine ⟨I5, ?_, ?_⟩
  · unfold F_X9_append
    rw [h.1, if_pos (show Int32.ofNat L ≤ (880 : Int32) from (i_ole (a := L) (b := 880) (by omega) (by omega)).mpr (by omega)), e1, bd_s, e2, bd_s, e3, bd_s, e4, bd_s, e5, bd_s, A5.1]
  · exact A5
/-- the bytes put so far: those of the last twenty lie in the law's row -/
def PB (I0 K0 I K : gI) (B : List Nat) : Prop := B.length ≤ 880 ∧ (∀ i, B.getD i 0 < 128) ∧ AB I0 I (fun i => B.getD i 0) (20 * (B.length / 20)) ∧ K 153 5 = Int32.ofNat (B.length % 20) ∧ K 153 6 = Int32.ofNat B.length ∧ (∀ i, i < B.length % 20 → by8 (K 153 (i / 4)) (min 4 (B.length % 20 - 4 * (i / 4)) - 1 - i % 4) = B.getD (20 * (B.length / 20) + i) 0) ∧ (∀ o i, o ≠ 153 → K o i = K0 o i)
theorem gd_1 (B : List Nat) (c i : Nat) : (B ++ [c]).getD i 0 = if i < B.length then B.getD i 0 else if i = B.length then c else 0 := by
  rw [List.getD_eq_getElem?_getD, List.getElem?_append]
  by_cases h : i < B.length
  · rw [if_pos h, if_pos h, ← List.getD_eq_getElem?_getD]
  · rw [if_neg h, if_neg h]
    by_cases h2 : i = B.length
    · rw [if_pos h2, h2, Nat.sub_self]; rfl
    · rw [if_neg h2, List.getElem?_eq_none (by rw [List.length_singleton]; omega)]; rfl
theorem ab_f {f g : Nat → Nat} {L : Nat} (h : AB I0 I f L) (e : ∀ i, i < L → f i = g i) : AB I0 I g L := ⟨h.1, fun i hi => by rw [h.2.1 i hi, e i hi], h.2.2⟩
theorem put_s (hn : 2000 ≤ n) {K0 : gI} {B : List Nat} (h : PB I0 K0 I K B) (hL : B.length < 880) {c : Nat} (hc : c < 128) : ∃ I' K', F_L_put n T0 T1 I K (Int32.ofNat c) = some (I', K') ∧ PB I0 K0 I' K' (B ++ [c]) := by
  obtain ⟨h0, h1, h2, h3, h4, h5, h6⟩ := h
  obtain ⟨k, hk⟩ : ∃ k, k = B.length % 20 := ⟨_, rfl⟩
  obtain ⟨m, hm⟩ : ∃ m, m = B.length / 20 := ⟨_, rfl⟩
  have hkm : B.length = 20 * m + k := by omega
  have hk20 : k < 20 := by omega
  rw [← hk] at h3 h5
  rw [← hm] at h2 h5
  obtain ⟨w, hw⟩ : ∃ w, w = ((K 153 (k / 4)) <<< ((8 : Int32) &&& 31)) ||| Int32.ofNat c := ⟨_, rfl⟩
  obtain ⟨K3, hK3⟩ : ∃ K3, K3 = sI (sI (sI K 153 (k / 4) w) 153 5 (Int32.ofNat (k + 1))) 153 6 (Int32.ofNat (B.length + 1)) := ⟨_, rfl⟩
  have hl1 : (B ++ [c]).length = B.length + 1 := by simp
  have hg : ∀ i, (B ++ [c]).getD i 0 < 128 := fun i => by
    rw [gd_1]
    by_cases q : i < B.length
    · rw [if_pos q]; exact h1 i
    · rw [if_neg q]
      by_cases q2 : i = B.length
      · rw [if_pos q2]; exact hc
      · rw [if_neg q2]; decide
  have hK5 : K3 153 5 = Int32.ofNat (k + 1) := by rw [hK3, sI_k (by decide), sI_self]
  have hK6 : K3 153 6 = Int32.ofNat (B.length + 1) := by rw [hK3, sI_self]
  have hKj : ∀ j, j < 5 → K3 153 j = if j = k / 4 then w else K 153 j := fun j hj => by
    rw [hK3, sI_k (by omega), sI_k (by omega), sI_get]
    by_cases q : j = k / 4
    · rw [if_pos ⟨rfl, q⟩, if_pos q]
    · rw [if_neg (fun z => q z.2), if_neg q]
  have hKo : ∀ o i, o ≠ 153 → K3 o i = K0 o i := fun o i q => by rw [hK3, sI_o q, sI_o q, sI_o q]; exact h6 o i q
  have hby : ∀ i, i < k + 1 → by8 (K3 153 (i / 4)) (min 4 (k + 1 - 4 * (i / 4)) - 1 - i % 4) = (B ++ [c]).getD (20 * m + i) 0 := fun i hi => by
    rw [hKj (i / 4) (by omega), gd_1]
    by_cases q : i / 4 = k / 4
    · rw [if_pos q, hw]
      by_cases q2 : i = k
      · rw [if_neg (by omega), if_pos (by omega), show min 4 (k + 1 - 4 * (i / 4)) - 1 - i % 4 = 0 by omega, by8_0 _ (by omega)]
      · rw [if_pos (by omega), show min 4 (k + 1 - 4 * (i / 4)) - 1 - i % 4 = (min 4 (k - 4 * (i / 4)) - 1 - i % 4) + 1 by omega, by8_s _ (by omega) (by omega), ← h5 i (by omega), q]
    · rw [if_neg q, if_pos (by omega), ← h5 i (by omega)]
      congr 1
      omega
  have hA : AB I0 I (fun i => (B ++ [c]).getD i 0) (20 * m) := ab_f h2 fun i hi => by
    show B.getD i 0 = (B ++ [c]).getD i 0
    rw [gd_1, if_pos (by omega)]
  have step : F_L_put n T0 T1 I K (Int32.ofNat c) = if (K3 153 5) = (20 : Int32) then bd (F_L_flush n T0 T1 I K3) (fun v44 => some (v44.1, v44.2)) else some (I, K3) := by
    unfold F_L_put
    rw [h3, show (4 : Int32) = Int32.ofNat 4 from rfl, i_odiv (by omega) (by omega), gv_o (by omega), gv_o (by omega), i_tno (by omega), lt_e9, lt_e9, lt_e9]
    have e5 : sI K 153 (k / 4) ((K 153 (k / 4) <<< ((8 : Int32) &&& 31)) ||| Int32.ofNat c) 153 5 = Int32.ofNat k := by rw [sI_k (by omega)]; exact h3
    have e6 : sI (sI K 153 (k / 4) ((K 153 (k / 4) <<< ((8 : Int32) &&& 31)) ||| Int32.ofNat c)) 153 5 (Int32.ofNat (k + 1)) 153 6 = Int32.ofNat B.length := by rw [sI_k (by omega), sI_k (by omega)]; exact h4
    rw [e5, ixp_1, e6, ixp_1, ← hw, ← hK3]
  rw [step, hK5]
  by_cases q : k + 1 = 20
  · rw [if_pos (by rw [q]; rfl)]
    have hfull : ∀ i, i < 20 → by8 ((fun j => K3 153 j) (i / 4)) (3 - i % 4) = (fun i => (B ++ [c]).getD i 0) (20 * m + i) := fun i hi => by
      have := hby i (by omega)
      rw [show min 4 (k + 1 - 4 * (i / 4)) - 1 - i % 4 = 3 - i % 4 by omega] at this
      exact this
    obtain ⟨I', e, A⟩ := ab_20 (T0 := T0) (T1 := T1) hn hA (by omega) hg (fun j => K3 153 j) hfull
    refine ⟨I', sI K3 153 5 0, ?_, ?_⟩
    · unfold F_L_flush
      rw [e, bd_s, lt_e9, bd_s]
    · have hz : (B ++ [c]).length % 20 = 0 := by rw [hl1]; omega
      have hd : (B ++ [c]).length / 20 = m + 1 := by rw [hl1]; omega
      refine ⟨by rw [hl1]; omega, hg, ?_, ?_, ?_, ?_, ?_⟩
      · rw [hd, show 20 * (m + 1) = 20 * m + 20 by omega]; exact A
      · rw [sI_self, hz]; rfl
      · rw [sI_k (by decide), hK6, hl1]
      · intro i hi; omega
      · intro o i qo; rw [sI_o qo]; exact hKo o i qo
  · rw [if_neg (show ¬ Int32.ofNat (k + 1) = (20 : Int32) from fun z => absurd ((i_oeq (a := (k + 1)) (b := 20) (by omega) (by omega)).mp z) (by omega))]
    refine ⟨I, K3, rfl, ?_⟩
    have hz : (B ++ [c]).length % 20 = k + 1 := by rw [hl1]; omega
    have hd : (B ++ [c]).length / 20 = m := by rw [hl1]; omega
    refine ⟨by rw [hl1]; omega, hg, ?_, ?_, ?_, ?_, hKo⟩
    · rw [hd]; exact hA
    · rw [hK5, hz]
    · rw [hK6, hl1]
    · intro i hi
      rw [hz] at hi ⊢
      rw [hd]
      exact hby i hi
/-- the bytes of a literal of eight -/
def sayB (w : Int64) (x : Int32) : Int64 := (w >>> (Int32.toInt64 x &&& 63)) &&& (255 : Int64)
def sayA (w : Int64) (x : Int32) (l : List Nat) : List Nat := if lg_cmp (sayB w x) 0 = 0 then l else (Int64.toInt32 (sayB w x)).toNatClampNeg :: l
def sayL (w : Int64) : List Nat := sayA w 56 (sayA w 48 (sayA w 40 (sayA w 32 (sayA w 24 (sayA w 16 (sayA w 8 (sayA w 0 [])))))))
def sayO (w : Int64) (x : Int32) : Bool := decide (Int64.toInt32 (sayB w x) = Int32.ofNat (Int64.toInt32 (sayB w x)).toNatClampNeg) && decide ((Int64.toInt32 (sayB w x)).toNatClampNeg < 128)
theorem sayO_t {w : Int64} {x : Int32} (h : sayO w x = true) : Int64.toInt32 (sayB w x) = Int32.ofNat (Int64.toInt32 (sayB w x)).toNatClampNeg ∧ (Int64.toInt32 (sayB w x)).toNatClampNeg < 128 := by
  unfold sayO at h
  rw [Bool.and_eq_true] at h
  exact ⟨of_decide_eq_true h.1, of_decide_eq_true h.2⟩
theorem say_1 (hn : 2000 ≤ n) {K0 : gI} {w : Int64} {x x' : Int32} (hx : ¬ x < 0) (hx' : x + (-8) = x') (ho : sayO w x = true) {j : Nat} {l : List Nat} (hl : l.length ≤ 8)
    (ih : ∀ I K B, PB I0 K0 I K B → B.length + l.length ≤ 880 → ∃ I' K', L_L_say n T0 T1 w j 0 x' I K = some (I', K') ∧ PB I0 K0 I' K' (B ++ l))
    {I K : gI} {B : List Nat} (h : PB I0 K0 I K B) (hB : B.length + (sayA w x l).length ≤ 880) : ∃ I' K', L_L_say n T0 T1 w (j + 1) 0 x I K = some (I', K') ∧ PB I0 K0 I' K' (B ++ sayA w x l) := by
  rw [L_L_say_e0, if_neg hx, hx', show (w >>> (Int32.toInt64 x &&& 63)) &&& (255 : Int64) = sayB w x from rfl]
  unfold sayA at hB ⊢
  by_cases q : lg_cmp (sayB w x) 0 = 0
  · rw [if_pos q] at hB
    rw [if_pos q, if_pos q]
    exact ih I K B h hB
  · rw [if_neg q] at hB
    rw [if_neg q, if_neg q]
    rw [List.length_cons] at hB
    obtain ⟨I1, K1, e1, P1⟩ := put_s (T0 := T0) (T1 := T1) hn h (by omega) (sayO_t ho).2
    rw [← (sayO_t ho).1] at e1
    rw [e1, bd_s]
    have := ih I1 K1 _ P1 (by rw [List.length_append, List.length_singleton]; omega)
    rw [List.append_assoc] at this
    exact this
def sayW (w : Int64) : Bool := sayO w 56 && sayO w 48 && sayO w 40 && sayO w 32 && sayO w 24 && sayO w 16 && sayO w 8 && sayO w 0
theorem sayA_l (w : Int64) (x : Int32) (l : List Nat) : (sayA w x l).length ≤ l.length + 1 := by
  unfold sayA
  by_cases q : lg_cmp (sayB w x) 0 = 0
  · rw [if_pos q]; omega
  · rw [if_neg q, List.length_cons]; omega
theorem say_s (hn : 2000 ≤ n) {K0 : gI} {w : Int64} {l : List Nat} (hw : sayW w = true) (hl : sayL w = l) {I K : gI} {B : List Nat} (h : PB I0 K0 I K B) (hB : B.length + l.length ≤ 880) : ∃ I' K', F_L_say n T0 T1 I K w = some (I', K') ∧ PB I0 K0 I' K' (B ++ l) := by
  obtain ⟨j, rfl⟩ : ∃ j, n = j + 9 := ⟨n - 9, by omega⟩
  subst hl
  unfold sayW at hw
  simp only [Bool.and_eq_true] at hw
  obtain ⟨⟨⟨⟨⟨⟨⟨o1, o2⟩, o3⟩, o4⟩, o5⟩, o6⟩, o7⟩, o8⟩ := hw
  have l1 := sayA_l w 0 []
  have l2 := sayA_l w 8 (sayA w 0 [])
  have l3 := sayA_l w 16 (sayA w 8 (sayA w 0 []))
  have l4 := sayA_l w 24 (sayA w 16 (sayA w 8 (sayA w 0 [])))
  have l5 := sayA_l w 32 (sayA w 24 (sayA w 16 (sayA w 8 (sayA w 0 []))))
  have l6 := sayA_l w 40 (sayA w 32 (sayA w 24 (sayA w 16 (sayA w 8 (sayA w 0 [])))))
  have l7 := sayA_l w 48 (sayA w 40 (sayA w 32 (sayA w 24 (sayA w 16 (sayA w 8 (sayA w 0 []))))))
  rw [List.length_nil] at l1
  unfold F_L_say sayL at *
  refine say_1 hn (by decide) (x' := 48) (by decide) o1 (by omega) (fun I K B h hB => ?_) h hB
  refine say_1 hn (by decide) (x' := 40) (by decide) o2 (by omega) (fun I K B h hB => ?_) h hB
  refine say_1 hn (by decide) (x' := 32) (by decide) o3 (by omega) (fun I K B h hB => ?_) h hB
  refine say_1 hn (by decide) (x' := 24) (by decide) o4 (by omega) (fun I K B h hB => ?_) h hB
  refine say_1 hn (by decide) (x' := 16) (by decide) o5 (by omega) (fun I K B h hB => ?_) h hB
  refine say_1 hn (by decide) (x' := 8) (by decide) o6 (by omega) (fun I K B h hB => ?_) h hB
  refine say_1 hn (by decide) (x' := 0) (by decide) o7 (by omega) (fun I K B h hB => ?_) h hB
  refine say_1 hn (by decide) (x' := -8) (by decide) o8 (by decide) (fun I K B h hB => ?_) h hB
  rw [L_L_say_e0, if_pos (by decide), List.append_nil]
  exact ⟨I, K, rfl, h⟩
/-- the digits of a, e + 1 of them -/
def ddg (a : Nat) : Nat → List Nat
  | 0 => [48 + a % 10]
  | e + 1 => (48 + a / 10 ^ (e + 1) % 10) :: ddg a e
theorem ddg_l (a : Nat) : ∀ e, (ddg a e).length = e + 1
  | 0 => rfl
  | e + 1 => by rw [show ddg a (e + 1) = (48 + a / 10 ^ (e + 1) % 10) :: ddg a e from rfl, List.length_cons, ddg_l a e]
def dgE (a : Nat) : Nat := if a < 10 then 0 else if a < 100 then 1 else if a < 1000 then 2 else 3
/-- a number's bytes -/
def nb (v : Int32) : List Nat := if v.toInt < 0 then 45 :: ddg v.toInt.natAbs (dgE v.toInt.natAbs) else ddg v.toInt.natAbs (dgE v.toInt.natAbs)
theorem pow10 {e : Nat} (h : e ≤ 5) : 1 ≤ 10 ^ e ∧ 10 ^ e ≤ 100000 := by
  have : ∀ e : Fin 6, 1 ≤ 10 ^ e.1 ∧ 10 ^ e.1 ≤ 100000 := by decide
  exact this ⟨e, by omega⟩
theorem num_1 (hn : 2000 ≤ n) {K0 : gI} {v : Int32} {a : Nat} (ha : a < 10000) : ∀ (e j : Nat) (I K : gI) (B : List Nat), e ≤ 3 → e + 2 ≤ j → PB I0 K0 I K B → B.length + (e + 1) ≤ 880 → ∃ I' K', L_L_number n T0 T1 v j 1 (Int32.ofNat a) (Int32.ofNat (10 ^ e)) I K = some (I', K') ∧ PB I0 K0 I' K' (B ++ ddg a e)
  | e, j, I, K, B, he, hj, h, hB => by
    obtain ⟨j, rfl⟩ : ∃ i, j = i + 1 := ⟨j - 1, by omega⟩
    obtain ⟨p1, p2⟩ := pow10 (show e ≤ 5 by omega)
    have hq : a / 10 ^ e ≤ a := Nat.div_le_self _ _
    obtain ⟨I1, K1, e1, P1⟩ := put_s (T0 := T0) (T1 := T1) (c := 48 + a / 10 ^ e % 10) hn h (by omega) (by omega)
    have e9 : (48 : Int32) + (Int32.ofNat (a / 10 ^ e) - Int32.ofNat (a / 10 ^ e) / Int32.ofNat 10 * Int32.ofNat 10) = Int32.ofNat (48 + a / 10 ^ e % 10) := by
      rw [i_omod (by omega) (by omega)]; exact i_oadd 48 _
    rw [L_L_number_e1, if_neg (show ¬ Int32.ofNat (10 ^ e) ≤ (0 : Int32) from fun z => absurd ((i_ole (a := (10 ^ e)) (b := 0) (by omega) (by omega)).mp z) (by omega)), gd_t (show ¬ Int32.ofNat (10 ^ e) = (0 : Int32) from fun z => absurd ((i_oeq (a := (10 ^ e)) (b := 0) (by omega) (by omega)).mp z) (by omega)), i_odiv (by omega) (by omega), show (10 : Int32) = Int32.ofNat 10 from rfl, e9, e1, bd_s, i_odiv (by omega) (by omega)]
    cases e with
    | zero =>
      obtain ⟨j, rfl⟩ : ∃ i, j = i + 1 := ⟨j - 1, by omega⟩
      rw [L_L_number_e1, if_pos (by decide)]
      refine ⟨I1, K1, rfl, ?_⟩
      rw [Nat.pow_zero, Nat.div_one] at P1
      exact P1
    | succ e =>
      rw [show 10 ^ (e + 1) / 10 = 10 ^ e by rw [Nat.pow_succ]; omega]
      obtain ⟨I2, K2, e2, P2⟩ := num_1 hn (v := v) ha e j I1 K1 _ (by omega) (by omega) P1 (by rw [List.length_append, List.length_singleton]; omega)
      refine ⟨I2, K2, e2, ?_⟩
      rw [List.append_assoc] at P2
      exact P2
theorem num_0 (n T0 T1 : Nat) (v : Int32) {a : Nat} (ha : a < 10000) (I K : gI) (j : Nat) : L_L_number n T0 T1 v (j + 6) 0 (Int32.ofNat a) (100000 : Int32) I K = L_L_number n T0 T1 v (j + dgE a) 1 (Int32.ofNat a) (Int32.ofNat (10 ^ dgE a)) I K := by
  have st : ∀ (j b : Nat), b < 200000 → ¬ b ≤ 1 → ¬ b ≤ a → L_L_number n T0 T1 v (j + 1) 0 (Int32.ofNat a) (Int32.ofNat b) I K = L_L_number n T0 T1 v j 0 (Int32.ofNat a) (Int32.ofNat (b / 10)) I K := fun j b h0 h1 h2 => by
    rw [L_L_number_e0, if_neg (show ¬ Int32.ofNat b ≤ (1 : Int32) from fun z => absurd ((i_ole (a := b) (b := 1) (by omega) (by omega)).mp z) (by omega)), if_neg (by rw [i_ole (by omega) (by omega)]; exact h2), show (10 : Int32) = Int32.ofNat 10 from rfl, i_odiv (by omega) (by omega)]
  have en : ∀ (j b : Nat), b < 200000 → (b ≤ 1 ∨ b ≤ a) → L_L_number n T0 T1 v (j + 1) 0 (Int32.ofNat a) (Int32.ofNat b) I K = L_L_number n T0 T1 v j 1 (Int32.ofNat a) (Int32.ofNat b) I K := fun j b h0 h1 => by
    rw [L_L_number_e0]
    by_cases q : b ≤ 1
    · rw [if_pos (show Int32.ofNat b ≤ (1 : Int32) from (i_ole (a := b) (b := 1) (by omega) (by omega)).mpr (by omega))]
    · rw [if_neg (show ¬ Int32.ofNat b ≤ (1 : Int32) from fun z => absurd ((i_ole (a := b) (b := 1) (by omega) (by omega)).mp z) (by omega)), if_pos (by rw [i_ole (by omega) (by omega)]; omega)]
  rw [show (100000 : Int32) = Int32.ofNat 100000 from rfl, st (j + 5) 100000 (by omega) (by omega) (by omega), st (j + 4) (100000 / 10) (by omega) (by omega) (by omega)]
  unfold dgE
  by_cases q3 : a < 1000
  · rw [st (j + 3) (100000 / 10 / 10) (by omega) (by omega) (by omega)]
    by_cases q2 : a < 100
    · rw [st (j + 2) (100000 / 10 / 10 / 10) (by omega) (by omega) (by omega)]
      by_cases q1 : a < 10
      · rw [st (j + 1) (100000 / 10 / 10 / 10 / 10) (by omega) (by omega) (by omega), en j _ (by decide) (Or.inl (by decide)), if_pos q1]
        rfl
      · rw [en (j + 1) _ (by decide) (Or.inr (by omega)), if_neg q1, if_pos q2]
    · rw [en (j + 2) _ (by decide) (Or.inr (by omega)), if_neg (by omega), if_neg q2, if_pos q3]
  · rw [en (j + 3) _ (by decide) (Or.inr (by omega)), if_neg (by omega), if_neg (by omega), if_neg q3]
theorem dgE_le (a : Nat) : dgE a ≤ 3 := by
  unfold dgE
  by_cases q1 : a < 10
  · rw [if_pos q1]; omega
  rw [if_neg q1]
  by_cases q2 : a < 100
  · rw [if_pos q2]; omega
  rw [if_neg q2]
  by_cases q3 : a < 1000
  · rw [if_pos q3]; omega
  · rw [if_neg q3]; omega
theorem nb_l (v : Int32) : (nb v).length ≤ 5 := by
  have := dgE_le v.toInt.natAbs
  unfold nb
  by_cases q : v.toInt < 0
  · rw [if_pos q, List.length_cons, ddg_l]; omega
  · rw [if_neg q, ddg_l]; omega
theorem num_s (hn : 2000 ≤ n) {K0 : gI} {v : Int32} (hv : v.toInt.natAbs < 10000) {I K : gI} {B : List Nat} (h : PB I0 K0 I K B) (hB : B.length + (nb v).length ≤ 880) : ∃ I' K', F_L_number n T0 T1 I K v = some (I', K') ∧ PB I0 K0 I' K' (B ++ nb v) := by
  obtain ⟨a, ha⟩ : ∃ a, a = v.toInt.natAbs := ⟨_, rfl⟩
  have hj : jabs v = Int32.ofNat a := by
    apply Int32.toInt_inj.mp
    rw [jabs_i (by omega), i_of (by omega), ha]
  have hd := dgE_le a
  obtain ⟨j, hjn⟩ : ∃ j, n = j + 6 := ⟨n - 6, by omega⟩
  unfold F_L_number nb at *
  by_cases q : v.toInt < 0
  · rw [if_pos q] at hB
    rw [if_pos q, if_neg (show ¬ (0 : Int32) ≤ v by rw [i_le, ii_0]; omega), hj, show (45 : Int32) = Int32.ofNat 45 from rfl]
    rw [List.length_cons, ddg_l, ← ha] at hB
    obtain ⟨I1, K1, e1, P1⟩ := put_s (T0 := T0) (T1 := T1) (c := 45) hn h (by omega) (by decide)
    rw [e1, bd_s]
    obtain ⟨I2, K2, e2, P2⟩ := num_1 (T0 := T0) (T1 := T1) hn (v := v) (show a < 10000 by omega) (dgE a) (j + dgE a) I1 K1 _ hd (by omega) P1 (by rw [List.length_append, List.length_singleton]; omega)
    refine ⟨I2, K2, ?_, ?_⟩
    · dsimp only
      conv => lhs; arg 5; rw [hjn]
      rw [num_0 n T0 T1 v (by omega)]
      exact e2
    · rw [List.append_assoc, ha] at P2
      exact P2
  · rw [if_neg q] at hB
    rw [if_neg q, if_pos (show (0 : Int32) ≤ v by rw [i_le, ii_0]; omega), hj]
    rw [ddg_l, ← ha] at hB
    obtain ⟨I2, K2, e2, P2⟩ := num_1 (T0 := T0) (T1 := T1) hn (v := v) (show a < 10000 by omega) (dgE a) (j + dgE a) I K _ hd (by omega) h hB
    refine ⟨I2, K2, ?_, ?_⟩
    · conv => lhs; arg 5; rw [hjn]
      rw [num_0 n T0 T1 v (by omega)]
      exact e2
    · rw [ha] at P2
      exact P2
def pa (v : Int32) : List Nat := 32 :: nb v
theorem pa_l (v : Int32) : (pa v).length ≤ 6 := by
  have := nb_l v
  unfold pa
  rw [List.length_cons]; omega
theorem part_s (hn : 2000 ≤ n) {K0 : gI} {v : Int32} (hv : v.toInt.natAbs < 10000) {I K : gI} {B : List Nat} (h : PB I0 K0 I K B) (hB : B.length + (pa v).length ≤ 880) : ∃ I' K', F_L_part n T0 T1 I K v = some (I', K') ∧ PB I0 K0 I' K' (B ++ pa v) := by
  unfold pa at hB ⊢
  rw [List.length_cons] at hB
  obtain ⟨I1, K1, e1, P1⟩ := put_s (T0 := T0) (T1 := T1) (c := 32) hn h (by omega) (by decide)
  obtain ⟨I2, K2, e2, P2⟩ := num_s (T0 := T0) (T1 := T1) hn hv P1 (by rw [List.length_append, List.length_singleton]; omega)
  refine ⟨I2, K2, ?_, ?_⟩
  · unfold F_L_part
    rw [show (32 : Int32) = Int32.ofNat 32 from rfl, e1, bd_s, e2, bd_s]
  · rw [List.append_assoc] at P2
    exact P2
/-- all is said: the buffer holds it, and the count is told -/
theorem said_s (hn : 2000 ≤ n) {K0 : gI} {I K : gI} {B : List Nat} (h : PB I0 K0 I K B) (hB : B.length ≤ 800) : ∃ I' K' L, F_L_said n T0 T1 I K = some (Int32.ofNat B.length, I', K') ∧ B.length ≤ L ∧ L ≤ 880 ∧ I' 0 1 = Int32.ofNat L ∧ (∀ i, i < B.length → I' 1 i = Int32.ofNat (B.getD i 0)) ∧ (∀ o i, o ≠ 1 → (o ≠ 0 ∨ i ≠ 1) → I' o i = I0 o i) ∧ (∀ o i, o ≠ 153 → K' o i = K0 o i) := by
  have key : ∀ (d j : Nat) (x : Int32) (C : List Nat) (I K : gI), d < j → C.length + d ≤ 880 → (C.length + d) % 20 = 0 → d < 20 → PB I0 K0 I K C → ∃ I' K' L, L_L_said n T0 T1 j 0 x I K = some (x, I', K') ∧ C.length ≤ L ∧ L ≤ 880 ∧ I' 0 1 = Int32.ofNat L ∧ (∀ i, i < C.length → I' 1 i = Int32.ofNat (C.getD i 0)) ∧ (∀ o i, o ≠ 1 → (o ≠ 0 ∨ i ≠ 1) → I' o i = I0 o i) ∧ (∀ o i, o ≠ 153 → K' o i = K0 o i) := by
    intro d
    induction d with
    | zero =>
      intro j x C I K hj h0 h1 h2 h
      obtain ⟨j, rfl⟩ : ∃ i, j = i + 1 := ⟨j - 1, by omega⟩
      obtain ⟨p0, p1, p2, p3, p4, p5, p6⟩ := h
      have hm : 20 * (C.length / 20) = C.length := by omega
      rw [hm] at p2
      refine ⟨I, sI K 153 6 0, C.length, ?_, Nat.le_refl _, p0, p2.1, p2.2.1, p2.2.2, fun o i q => by rw [sI_o q]; exact p6 o i q⟩
      rw [L_L_said_e0, p3, show C.length % 20 = 0 by omega, if_pos (by decide), lt_e9]
    | succ d ih =>
      intro j x C I K hj h0 h1 h2 h
      obtain ⟨j, rfl⟩ : ∃ i, j = i + 1 := ⟨j - 1, by omega⟩
      obtain ⟨I1, K1, e1, P1⟩ := put_s (T0 := T0) (T1 := T1) (c := 32) hn h (by omega) (by decide)
      have hl : (C ++ [32]).length = C.length + 1 := by simp
      obtain ⟨I2, K2, L, e2, q1, q2, q3, q4, q5, q6⟩ := ih j x (C ++ [32]) I1 K1 (by omega) (by rw [hl]; omega) (by rw [hl]; omega) (by omega) P1
      rw [hl] at q1 q4
      refine ⟨I2, K2, L, ?_, by omega, q2, q3, fun i hi => ?_, q5, q6⟩
      · rw [L_L_said_e0, h.2.2.2.1, if_neg (show ¬ Int32.ofNat (C.length % 20) ≤ (0 : Int32) from fun z => absurd ((i_ole (a := (C.length % 20)) (b := 0) (by omega) (by omega)).mp z) (by omega)), show (32 : Int32) = Int32.ofNat 32 from rfl, e1, bd_s, e2]
      · rw [q4 i (by omega), gd_1, if_pos hi]
  unfold F_L_said
  rw [h.2.2.2.2.1]
  by_cases q : B.length % 20 = 0
  · exact key 0 n _ B I K (by omega) (by omega) q (by omega) h
  · exact key (20 - B.length % 20) n _ B I K (by omega) (by omega) (by omega) (by omega) h
end BYT
