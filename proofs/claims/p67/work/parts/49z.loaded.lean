/-! LOADED: what the class holds then -/
def IcL (I3 : gI) (o : Nat) : gI := sI (sI I3 0 2 (I3 o 0)) 0 3 (I3 o 1)
def IfL (I3 : gI) (o : Nat) : gI := sI (sI (sI (sI (cp (IcL I3 o) 2 10) 18 2 0) 85 0 0) 85 1 0) 0 4 1
def PrI (I : gI) (o : Nat) (v : Int32) : gI := va_up (sI I 0 1 0) o (fun i => if i = 1 then -1 else if i = 3 then v else 0)
theorem PrI_o (I : gI) (o : Nat) (v : Int32) (i : Nat) : PrI I o v o i = if i = 1 then -1 else if i = 3 then v else 0 := by unfold PrI; rw [va_up_self]
theorem PrI_n (I : gI) (o : Nat) (v : Int32) {a : Nat} (h : a ≠ o) (i : Nat) : PrI I o v a i = sI I 0 1 0 a i := by unfold PrI; rw [va_up_ne _ _ h]
section LDD
variable {n T0 T1 o : Nat} {I K : gI} {W : gP}
theorem ld_s (hn : 2000 ≤ n) (D : DG W) (hK : ∀ i, K 154 i = W i) (hT : (T0 = 95 ∧ T1 = 116) ∨ (T0 = 116 ∧ T1 = 95)) (ho : 155 ≤ o) (hb : ∀ i, i < (tText W).length → I 1 i = Int32.ofNat ((tText W).getD i 0)) (h7 : ∀ i, (tText W).getD i 0 < 128) (hru : RU I) (h18 : 0 ≤ (I 18 1).toInt ∧ (I 18 1).toInt < 8) (zb : ∀ k, k < 4 → I 11 k = 0 ∨ I 11 k = 1) : ∃ I3, F_X3_readText n T1 o (PrI I o (Int32.ofNat (tText W).length)) = some I3 ∧ I3 o 0 = 0 ∧ I3 T1 5 = W 6 ∧ F_X6_copyFrom n 2 10 (IcL I3 o) = some (cp (IcL I3 o) 2 10) ∧ ∃ p s, CI T1 T0 (IfL I3 o) p s ∧ WK K p ∧ PH p s ∧ SM p ∧ AM p s ∧ s 0 = 0 := by
  have hl := tText_l D
  have D' := D
  obtain ⟨H, hT', hM, ⟨n1, n2, n3⟩, hC⟩ := D'
  obtain ⟨g1, g2, g3, g4, g5, g6, g7⟩ := id H
  have E : EV T1 o := by unfold EV; omega
  have pn : ∀ a i, a ≠ o → (a ≠ 0 ∨ i ≠ 1) → PrI I o (Int32.ofNat (tText W).length) a i = I a i := fun a i q q2 => by rw [PrI_n _ _ _ q, sI_get, if_neg (by omega)]
  have B : BS (tText W) (PrI I o (Int32.ofNat (tText W).length)) o := ⟨hl, h7, fun i hi => by rw [pn _ _ (by omega) (by omega)]; exact hb i hi, PrI_o _ _ _ 3, PrI_o _ _ _ 0, fun x y hx hy => by rw [pn _ _ (by omega) (by omega)]; exact hru x y hx hy, by rw [pn _ _ (by omega) (by omega)]; exact h18⟩
  obtain ⟨I3, e, e0, P, ru, r18⟩ := rt_s (n := n) (T1 := T1) hn E D B (PrI_o _ _ _ 8) (fun i a b => by rw [PrI_o, if_neg (by omega), if_neg (by omega)]) (fun k hk => by rw [pn _ _ (by omega) (by omega)]; exact zb k hk)
  have e5 : I3 T1 5 = W 6 := by rw [P.2.1.1, i_on (by omega)]
  have ic : ∀ a i, (a ≠ 0 ∨ (i ≠ 2 ∧ i ≠ 3)) → IcL I3 o a i = I3 a i := fun a i h1 => by
    unfold IcL; rw [sI_get, if_neg (by omega), sI_get, if_neg (by omega)]
  have tb := P.2.2.2.2.2.2.2.1
  have cps : F_X6_copyFrom n 2 10 (IcL I3 o) = some (cp (IcL I3 o) 2 10) := cp_s hn (by decide) (fun k hk => by rw [ic _ _ (by omega)]; exact tb k hk)
  have jf : ∀ a i, (a ≠ 0 ∨ i ≠ 4) → a ≠ 85 → ¬ (a = 18 ∧ i = 2) → IfL I3 o a i = cp (IcL I3 o) 2 10 a i := fun a i h1 h2 h3 => by
    unfold IfL; rw [sI_get, if_neg (by omega), sI_get, if_neg (by omega), sI_get, if_neg (by omega), sI_get, if_neg (by omega)]
  have jg : ∀ a i, a ≠ 0 → a ≠ 85 → ¬ (a = 18 ∧ i = 2) → ¬ (2 ≤ a ∧ a < 10) → IfL I3 o a i = I3 a i := fun a i h1 h2 h3 h4 => by
    rw [jf a i (by omega) h2 h3, cp_o _ _ _ _ _ (by omega), ic a i (by omega)]
  have pv := pv_s P H hC (by omega) (by omega) (by omega)
  have tr := tr_s P (by omega) (by omega) (by omega) (by omega)
  have p4 : (pOf I3 T1 4).toInt.toNat = (W 6).toInt.toNat := by rw [pO_4, e5]
  have p60 : (pOf I3 T1 60).toInt.toNat = (W 71).toInt.toNat := by rw [pO_60, P.2.1.2.1, i_of (by omega)]; omega
  obtain ⟨sv, ph, am⟩ := sv_s P (pOf I3 T1) p4 (by omega)
  have sr := sr_s P (pOf I3 T1) (by omega)
  have h4 : (pOf I3 T1 4).toInt ≤ 4 := by rw [pO_4, e5]; omega
  have h3 : (pOf I3 T1 60).toInt ≤ 3 := by rw [pO_60, P.2.1.2.1, i_of (by omega)]; omega
  have sr0 : SR (IcL I3 o) 10 (pOf I3 T1) (sOf I3) := sr.cg (fun q i a b => ic _ _ (Or.inl (by omega)))
  have sr1 : SR (cp (IcL I3 o) 2 10) 2 (pOf I3 T1) (sOf I3) := cp_SR sr0 h4 (by decide)
  have sr2 : SR (IfL I3 o) 2 (pOf I3 T1) (sOf I3) := sr1.cg (fun q i a b => jf _ _ (Or.inl (by omega)) (by omega) (by omega))
  have tr2 : TR (IfL I3 o) T1 (pOf I3 T1) := tr.cg h4 h3 (fun q i a b => jg _ _ (by omega) (by omega) (by omega) (by omega))
  refine ⟨I3, e, e0, e5, cps, pOf I3 T1, sOf I3, ⟨⟨pv, ?_, tr2, sr2, sv⟩, ?_, fun x y hx hy => ?_, ?_, ?_, ?_, fun k hk => ?_⟩, ?_, ph, ?_, am, ?_⟩
  · rw [pO_4, e5]; omega
  · unfold IfL; rw [sI_self]
  · rw [jg _ _ (by omega) (by omega) (by omega) (by omega)]; exact ru x y hx hy
  · omega
  · unfold IfL; rw [sI_o (by decide), sI_o (by decide), sI_o (by decide), sI_self, ii_0]; omega
  · rw [jg _ _ (by omega) (by omega) (by omega) (by omega)]; exact r18
  · rw [jg _ _ (by omega) (by omega) (by omega) (by omega)]; exact tb k hk
  · unfold WK
    rw [p60, hK, hK, hK, hK, hK, hK, pO_a (by decide), pO_a (by decide), pO_a (by decide), pO_4, pO_76, pO_60, P.1.1, P.1.2.1, P.1.2.2.2, e5, P.2.1.2.2.1, P.2.1.2.1, i_on n3.1, i_on n2.1]
    refine ⟨rfl, rfl, rfl, rfl, rfl, rfl, fun i hi => ?_⟩
    have sh : ∀ c, c < 5 → K 154 (72 + 5 * i + c) = pOf I3 T1 (61 + 5 * i + c) := fun c hc => by
      rw [hK, pO_61 (by omega) hc, show T1 + 2 + 16 + i = T1 + 18 + i by omega, P.2.2.2.2.1 i hi c hc]
    exact ⟨sh 0 (by decide), sh 1 (by decide), sh 2 (by decide), sh 3 (by decide), sh 4 (by decide)⟩
  · unfold SM
    rw [pO_a (by decide), pO_a (by decide), pO_4, P.1.1, P.1.2.1, e5]; omega
  · rw [sO_0 (by decide)]; exact P.2.2.2.2.2.2.1.1
end LDD
