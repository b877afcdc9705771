/-! BYTES LAID INTO THE BUFFER -/
theorem low (y : Int32) : (Int8.toInt32 (Int32.toInt8 y)) &&& 255 = y &&& 255 := by
  apply Int32.toBitVec_inj.mp
  apply BitVec.eq_of_getLsbD_eq
  intro i hi
  have h255 : ∀ i : Fin 32, (255 : Int32).toBitVec.getLsbD i.1 = decide (i.1 < 8) := by decide
  have h := h255 ⟨i, hi⟩
  simp only [Int32.toBitVec_and, BitVec.getLsbD_and, h, Int8.toBitVec_toInt32, Int32.toBitVec_toInt8]
  by_cases h8 : i < 8
  · rw [BitVec.getLsbD_signExtend, if_pos h8, BitVec.getLsbD_signExtend, if_pos (by omega)]
    simp only [h8, hi, decide_true, Bool.true_and]
  · simp [h8]
theorem rangeb (y : Int32) : -128 ≤ (Int8.toInt32 (Int32.toInt8 y)).toInt ∧ (Int8.toInt32 (Int32.toInt8 y)).toInt ≤ 127 := by
  rw [Int8.toInt_toInt32]
  have h1 := Int8.le_toInt (Int32.toInt8 y)
  have h2 := Int8.toInt_lt (Int32.toInt8 y)
  omega
theorem sh_gen (a x y : Int32) (k : Nat) (hk : k ≤ 24) (e1 : x.toBitVec = a.toBitVec.sshiftRight k) (e2 : y.toBitVec = a.toBitVec >>> k) : x &&& 255 = y &&& 255 := by
  apply Int32.toBitVec_inj.mp
  apply BitVec.eq_of_getLsbD_eq
  intro i hi
  have h255 : ∀ i : Fin 32, (255 : Int32).toBitVec.getLsbD i.1 = decide (i.1 < 8) := by decide
  have h := h255 ⟨i, hi⟩
  simp only [Int32.toBitVec_and, BitVec.getLsbD_and, h, e1, e2]
  by_cases h8 : i < 8
  · rw [BitVec.getLsbD_sshiftRight, BitVec.getLsbD_ushiftRight, if_pos (by omega)]
    simp only [h8, show ¬ 32 ≤ i by omega, decide_true, decide_false, Bool.not_false, Bool.true_and]
  · simp [h8]
theorem sh24 (a : Int32) : (a >>> ((24 : Int32) &&& 31)) &&& 255 = ((Int32.toUInt32 a >>> (Int32.toUInt32 (24 : Int32) &&& Int32.toUInt32 31)).toInt32) &&& 255 := sh_gen a _ _ 24 (by decide) rfl rfl
theorem sh16 (a : Int32) : (a >>> ((16 : Int32) &&& 31)) &&& 255 = ((Int32.toUInt32 a >>> (Int32.toUInt32 (16 : Int32) &&& Int32.toUInt32 31)).toInt32) &&& 255 := sh_gen a _ _ 16 (by decide) rfl rfl
theorem sh8 (a : Int32) : (a >>> ((8 : Int32) &&& 31)) &&& 255 = ((Int32.toUInt32 a >>> (Int32.toUInt32 (8 : Int32) &&& Int32.toUInt32 31)).toInt32) &&& 255 := sh_gen a _ _ 8 (by decide) rfl rfl
theorem sh0 (a : Int32) : (a >>> ((0 : Int32) &&& 31)) &&& 255 = ((Int32.toUInt32 a >>> (Int32.toUInt32 (0 : Int32) &&& Int32.toUInt32 31)).toInt32) &&& 255 := sh_gen a _ _ 0 (by decide) rfl rfl
/-- since the call began only bytes were laid: L of them stand -/
def AP (I0 K0 I K : gI) (L : Nat) : Prop := (I 0 1 = Int32.ofNat L ∧ K 153 2 = Int32.ofNat L) ∧ (∀ i, i < L → (-128 ≤ (I 1 i).toInt ∧ (I 1 i).toInt ≤ 127) ∧ K (153 + 1) i = I 1 i &&& 255) ∧ (∀ o i, o ≠ 1 → (o ≠ 0 ∨ i ≠ 1) → I o i = I0 o i) ∧ (∀ o i, o ≠ 154 → (o ≠ 153 ∨ i ≠ 2) → K o i = K0 o i)
section FACEK
variable {n T0 T1 : Nat} {I K I0 K0 : gI}
theorem ap_1 {L : Nat} (h : AP I0 K0 I K L) (b k : Int32) (hb : -128 ≤ b.toInt ∧ b.toInt ≤ 127) (hk : k = b &&& 255) : AP I0 K0 (sI (sI I 1 L b) 0 1 (Int32.ofNat (L + 1))) (sI (sI K (153 + 1) L k) 153 2 (Int32.ofNat (L + 1))) (L + 1) := by
  obtain ⟨⟨h1, h2⟩, h3, h4, h5⟩ := h
  refine ⟨⟨sI_self _ _ _ _, sI_self _ _ _ _⟩, fun i hi => ?_, fun o i a c => ?_, fun o i a c => ?_⟩
  · rw [sI_o (o := 0) (by decide), sI_o (o := 153) (by decide), sI_get, sI_get]
    by_cases q : i = L
    · rw [if_pos ⟨rfl, q⟩, if_pos ⟨rfl, q⟩]; exact ⟨hb, hk⟩
    · rw [if_neg (fun z => q z.2), if_neg (fun z => q z.2)]; exact h3 i (by omega)
  · rw [sI_get, if_neg (by omega), sI_o (by omega)]; exact h4 o i a c
  · rw [sI_get, if_neg (by omega), sI_o (by omega)]; exact h5 o i a c
theorem st9 (a : Int32) (j : Nat) (x x' : Int32) (hx : ¬ x < 0) (hx' : x + (-8) = x') {L : Nat} (hL : L < 900) (h : I 0 1 = Int32.ofNat L) : L_X9_putBytes n T0 T1 a (j + 1) 0 x I = L_X9_putBytes n T0 T1 a j 0 x' (sI (sI I 1 L (vp_nar .byte (Int8.toInt32 (Int32.toInt8 ((Int32.toUInt32 a >>> (Int32.toUInt32 x &&& Int32.toUInt32 31)).toInt32))))) 0 1 (Int32.ofNat (L + 1))) := by
  rw [L_X9_putBytes_e0, if_neg hx, h, gv_o hL, i_tno (by omega), sI_o (o := 1) (by decide), h, ixp_1, hx']
theorem st10 (a : Int32) (j : Nat) (x x' : Int32) (hx : ¬ x < 0) (hx' : x + (-8) = x') {L : Nat} (hL : L < 900) (h : K 153 2 = Int32.ofNat L) : L_X10_four n a (j + 1) 0 x K = L_X10_four n a j 0 x' (sI (sI K (153 + 1) L ((a >>> (x &&& 31)) &&& 255)) 153 2 (Int32.ofNat (L + 1))) := by
  rw [L_X10_four_e0, if_neg hx, h, gv_o hL, i_tno (by omega), sI_o (o := 153 + 1) (by decide), h, ixp_1, hx']
theorem nar2 (y : Int32) : (-128 ≤ (vp_nar .byte (Int8.toInt32 (Int32.toInt8 y))).toInt ∧ (vp_nar .byte (Int8.toInt32 (Int32.toInt8 y))).toInt ≤ 127) ∧ (vp_nar .byte (Int8.toInt32 (Int32.toInt8 y))) &&& 255 = y &&& 255 := by
  have e : vp_nar .byte (Int8.toInt32 (Int32.toInt8 y)) = Int8.toInt32 (Int32.toInt8 (Int8.toInt32 (Int32.toInt8 y))) := rfl
  rw [e]
  exact ⟨rangeb _, by rw [low, low]⟩
theorem ap_4 (hn : 2000 ≤ n) {L : Nat} (h : AP I0 K0 I K L) (hL : L + 4 ≤ 900) (a : Int32) : ∃ I' K', F_X9_putBytes n T0 T1 I a = some I' ∧ F_X10_four n K a = some K' ∧ AP I0 K0 I' K' (L + 4) := by
  obtain ⟨j, rfl⟩ : ∃ j, n = j + 5 := ⟨n - 5, by omega⟩
  have A1 := ap_1 h _ _ (nar2 ((Int32.toUInt32 a >>> (Int32.toUInt32 24 &&& Int32.toUInt32 31)).toInt32)).1 ((sh24 a).trans (nar2 _).2.symm)
  have A2 := ap_1 A1 _ _ (nar2 ((Int32.toUInt32 a >>> (Int32.toUInt32 16 &&& Int32.toUInt32 31)).toInt32)).1 ((sh16 a).trans (nar2 _).2.symm)
  have A3 := ap_1 A2 _ _ (nar2 ((Int32.toUInt32 a >>> (Int32.toUInt32 8 &&& Int32.toUInt32 31)).toInt32)).1 ((sh8 a).trans (nar2 _).2.symm)
  have A4 := ap_1 A3 _ _ (nar2 ((Int32.toUInt32 a >>> (Int32.toUInt32 0 &&& Int32.toUInt32 31)).toInt32)).1 ((sh0 a).trans (nar2 _).2.symm)
  refine ⟨_, _, ?_, ?_, A4⟩
  · unfold F_X9_putBytes
    rw [show j + 5 = (j + 4) + 1 from rfl, st9 a (j + 4) 24 16 (by decide) (by decide) (by omega) h.1.1, show j + 4 = (j + 3) + 1 from rfl, st9 a (j + 3) 16 8 (by decide) (by decide) (by omega) A1.1.1, show j + 3 = (j + 2) + 1 from rfl, st9 a (j + 2) 8 0 (by decide) (by decide) (by omega) A2.1.1, show j + 2 = (j + 1) + 1 from rfl, st9 a (j + 1) 0 (-8) (by decide) (by decide) (by omega) A3.1.1, L_X9_putBytes_e0, if_pos (by decide)]
  · unfold F_X10_four
    rw [show j + 5 = (j + 4) + 1 from rfl, st10 a (j + 4) 24 16 (by decide) (by decide) (by omega) h.1.2, show j + 4 = (j + 3) + 1 from rfl, st10 a (j + 3) 16 8 (by decide) (by decide) (by omega) A1.1.2, show j + 3 = (j + 2) + 1 from rfl, st10 a (j + 2) 8 0 (by decide) (by decide) (by omega) A2.1.2, show j + 2 = (j + 1) + 1 from rfl, st10 a (j + 1) 0 (-8) (by decide) (by decide) (by omega) A3.1.2, L_X10_four_e0, if_pos (by decide)]
theorem Rel.ap {I' K' : gI} (R : Rel T0 T1 I0 K0) {L : Nat} (h : AP I0 K0 I' K' L) (hL : L ≤ 900) : Rel T0 T1 I' K' := by
  obtain ⟨⟨h1, h2⟩, h3, h4, h5⟩ := h
  have ht := R.tt
  have ep : pl K' = pl K0 := by funext i; exact h5 _ _ (by decide) (Or.inl (by decide))
  have es : st K' = st K0 := by funext i; exact h5 _ _ (by decide) (Or.inl (by decide))
  have eh : ∀ j, hs K' j = hs K0 j := by intro j; funext i; exact h5 _ _ (by decide) (Or.inl (by decide))
  have el : ∀ j, sl K' j = sl K0 j := by intro j; funext i; exact h5 _ _ (by decide) (Or.inl (by decide))
  have h0 := R.h0
  refine Rel.mk ht ?_ ?_ ?_ ?_ ?_ ?_ ?_ ?_ ?_ ?_ ?_ ?_ ?_ ?_ ?_ ?_ ?_ ?_ (fun k hk => by rw [h4 _ _ (by decide) (Or.inl (by decide))]; exact R.tb k hk)
  · rw [h1, h2]
  · rw [h1, i_of (by omega)]; omega
  · rw [h1, i_of (by omega)]; intro i hi; exact (h3 i (by omega)).1
  · rw [h1, i_of (by omega)]; intro i hi; exact (h3 i (by omega)).2
  · rw [h4 _ _ (by decide) (by decide), h5 _ _ (by decide) (by decide)]; exact R.ec
  · rw [h4 _ _ (by decide) (by decide), h5 _ _ (by decide) (by decide)]; exact R.ep
  · rw [h4 _ _ (by decide) (by decide), h5 _ _ (by decide) (by decide)]
    rcases R.ld with h | ⟨a, b, L⟩
    · exact Or.inl h
    · refine Or.inr ⟨a, b, LD.mk ?_ ?_ ?_ ?_ ?_⟩
      · rw [ep]; exact L.pv
      · rw [ep]; exact L.c1
      · rw [ep]; exact L.tr.cg L.pv.c.2 L.pv.sh.2 (fun q i a b => h4 _ _ (by omega) (by omega))
      · rw [ep, es]; exact L.sr.cg (fun q i a b => h4 _ _ (by omega) (by omega))
      · rw [ep, es]; exact L.sv
  · exact R.tv.cg (fun i => h5 _ _ (by decide) (Or.inl (by decide))) (h5 _ _ (by decide) (by decide))
  · intro x y hx hy; rw [h4 _ _ (by decide) (Or.inl (by decide))]; exact R.ru x y hx hy
  · rw [h4 _ _ (by decide) (by decide), h5 _ _ (by decide) (by decide)]; exact R.hc
  · rw [h4 _ _ (by decide) (by decide)]; exact R.h0
  · rw [h4 _ _ (by decide) (by decide)]; exact R.ho
  · rw [h4 _ _ (by decide) (by decide), h4 _ _ (by decide) (by decide)]; exact R.hl
  · rw [h4 18 _ (by decide) (by decide), h4 18 _ (by decide) (by decide), ep]
    intro i hi
    rw [eh]
    exact ⟨(R.hr i hi).1.cg (fun q i a b => h4 _ _ (by omega) (by omega)), (R.hr i hi).2⟩
  · intro b hb
    rw [h4 85 _ (by decide) (Or.inl (by decide)), h5 _ _ (by decide) (Or.inl (by decide)), h4 0 _ (by decide) (by decide), ep, el]
    refine ⟨(R.sf b hb).1, ?_⟩
    rcases (R.sf b hb).2 with h | ⟨x1, x2, x3, x4⟩
    · exact Or.inl h
    · exact Or.inr ⟨x1, x2, x3.cg (fun q i a b => h4 _ _ (by omega) (by omega)), x4⟩
  · rw [h4 _ _ (by decide) (by decide), h5 _ _ (by decide) (by decide)]; exact R.pn
  · rw [h4 _ _ (by decide) (by decide)]; exact R.p0
  · rw [h4 _ _ (by decide) (by decide)]; intro i hi; rw [h4 _ _ (by decide) (Or.inl (by decide)), h5 _ _ (by decide) (Or.inl (by decide))]; exact R.pb i hi
theorem e_append (hn : 2000 ≤ n) (R : Rel T0 T1 I K) (a1 a2 a3 a4 a5 : Int32) : AN (F_X9_append n T0 T1 I a1 a2 a3 a4 a5) (F_X10_append n K a1 a2 a3 a4 a5) (fun v b => v.1 = b.1 ∧ Rel T0 T1 v.2 b.2) := by
  have R0 := R.tt' (Tt.r 0)
  have hb := R.b0
  obtain ⟨L, hL⟩ : ∃ L, L = (I 0 1).toInt.toNat := ⟨_, rfl⟩
  have eL : I 0 1 = Int32.ofNat L := by rw [hL, i_on hb.1]
  have eK : sI K 153 0 0 153 2 = Int32.ofNat L := by rw [sI_k (by decide), ← R.bn, eL]
  have A0 : AP I (sI K 153 0 0) I (sI K 153 0 0) L := by
    refine ⟨⟨eL, eK⟩, fun i hi => ⟨R.by1 i (by omega), ?_⟩, fun _ _ _ _ => rfl, fun _ _ _ _ => rfl⟩
    rw [sI_o (by decide)]; exact R.by2 i (by omega)
  unfold F_X9_append F_X10_append
  have c880 : (880 : Int32) = Int32.ofNat 880 := rfl
  have c20 : (20 : Int32) = Int32.ofNat 20 := rfl
  have c900 : (900 : Int32) = Int32.ofNat 900 := rfl
  rw [eL, eK, c880, c20, c900, i_oadd]
  by_cases h : L ≤ 880
  · rw [if_pos (by rw [i_ole (by omega) (by omega)]; exact h), if_pos (by rw [i_ole (by omega) (by omega)]; omega)]
    obtain ⟨I1, K1, e1, f1, A1⟩ := ap_4 (T0 := T0) (T1 := T1) hn A0 (by omega) a1
    obtain ⟨I2, K2, e2, f2, A2⟩ := ap_4 (T0 := T0) (T1 := T1) hn A1 (by omega) a2
    obtain ⟨I3, K3, e3, f3, A3⟩ := ap_4 (T0 := T0) (T1 := T1) hn A2 (by omega) a3
    obtain ⟨I4, K4, e4, f4, A4⟩ := ap_4 (T0 := T0) (T1 := T1) hn A3 (by omega) a4
    obtain ⟨I5, K5, e5, f5, A5⟩ := ap_4 (T0 := T0) (T1 := T1) hn A4 (by omega) a5
    rw [e1, f1, bd_s, bd_s, e2, f2, bd_s, bd_s, e3, f3, bd_s, bd_s, e4, f4, bd_s, bd_s, e5, f5, bd_s, bd_s]
    refine ⟨_, _, rfl, rfl, ?_, R0.ap A5 (by omega)⟩
    dsimp only
    rw [A5.1.1, A5.1.2]
  · rw [if_neg (by rw [i_ole (by omega) (by omega)]; exact h), if_neg (by rw [i_ole (by omega) (by omega)]; omega)]
    exact ⟨_, _, rfl, rfl, rfl, R0⟩
end FACEK
