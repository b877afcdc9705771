/-! THE RUN'S BOND: what the program and the reference hold in common between calls -/
def pl (K : gI) : gP := fun i => K (153 + 2) i
def st (K : gI) : gP := fun i => K (153 + 4) i
def hs (K : gI) (j : Nat) : gP := fun i => K (153 + 7) (30 * j + i)
def sl (K : gI) (b : Nat) : gP := fun i => K (153 + 8) (30 * b + i)
def LD (T0 : Nat) (I : gI) (K : gI) : Prop := (PV (pl K)) ∧ (1 ≤ (pl K 4).toInt) ∧ (TR I T0 (pl K)) ∧ (SR I 2 (pl K) (st K)) ∧ (SV (pl K) (st K))
theorem LD.pv {T0 : Nat} {I : gI} {K : gI} (H : LD T0 I K) : PV (pl K) := H.1
theorem LD.c1 {T0 : Nat} {I : gI} {K : gI} (H : LD T0 I K) : 1 ≤ (pl K 4).toInt := H.2.1
theorem LD.tr {T0 : Nat} {I : gI} {K : gI} (H : LD T0 I K) : TR I T0 (pl K) := H.2.2.1
theorem LD.sr {T0 : Nat} {I : gI} {K : gI} (H : LD T0 I K) : SR I 2 (pl K) (st K) := H.2.2.2.1
theorem LD.sv {T0 : Nat} {I : gI} {K : gI} (H : LD T0 I K) : SV (pl K) (st K) := H.2.2.2.2
theorem LD.mk {T0 : Nat} {I : gI} {K : gI} (x_pv : PV (pl K)) (x_c1 : 1 ≤ (pl K 4).toInt) (x_tr : TR I T0 (pl K)) (x_sr : SR I 2 (pl K) (st K)) (x_sv : SV (pl K) (st K)) : LD T0 I K := by
  unfold LD
  exact ⟨x_pv, x_c1, x_tr, x_sr, x_sv⟩
def Rel (T0 T1 : Nat) (I : gI) (K : gI) : Prop := ((T0 = 95 ∧ T1 = 116) ∨ (T0 = 116 ∧ T1 = 95)) ∧ (I 0 1 = K 153 2) ∧ (0 ≤ (I 0 1).toInt ∧ (I 0 1).toInt ≤ 900) ∧ (∀ i, i < (I 0 1).toInt.toNat → -128 ≤ (I 1 i).toInt ∧ (I 1 i).toInt ≤ 127) ∧ (∀ i, i < (I 0 1).toInt.toNat → K (153 + 1) i = I 1 i &&& 255) ∧ (I 0 2 = K 153 5) ∧ (I 0 3 = K 153 6) ∧ ((I 0 4 = 0 ∧ K 153 23 = 0) ∨ (I 0 4 = 1 ∧ K 153 23 = 1 ∧ LD T0 I K)) ∧ (TV K) ∧ (RU I) ∧ (I 18 2 = K 153 19) ∧ (0 ≤ (I 18 2).toInt ∧ (I 18 2).toInt ≤ 8) ∧ (0 ≤ (I 18 1).toInt ∧ (I 18 1).toInt < 8) ∧ (I 18 2 = 0 ∨ I 0 4 = 1) ∧ (∀ i, i < (I 18 2).toInt.toNat → SR I (20 + 8 * (((I 18 1).toInt.toNat + i) % 8)) (pl K) (hs K i) ∧ SV (pl K) (hs K i)) ∧ (∀ b, b < 2 → I 85 b = K (153 + 10) b ∧ (I 85 b = 0 ∨ (I 85 b = 1 ∧ I 0 4 = 1 ∧ SR I (137 + 8 * b) (pl K) (sl K b) ∧ SV (pl K) (sl K b)))) ∧ (I 86 1 = K 153 32) ∧ (0 ≤ (I 86 1).toInt ∧ (I 86 1).toInt ≤ 200) ∧ (∀ i, i < (I 86 1).toInt.toNat → I (86 + 1) i = K (153 + 16) i) ∧ (∀ k, k < 4 → I (10 + 1) k = 0 ∨ I (10 + 1) k = 1)
theorem Rel.tt {T0 T1 : Nat} {I : gI} {K : gI} (H : Rel T0 T1 I K) : (T0 = 95 ∧ T1 = 116) ∨ (T0 = 116 ∧ T1 = 95) := H.1
theorem Rel.bn {T0 T1 : Nat} {I : gI} {K : gI} (H : Rel T0 T1 I K) : I 0 1 = K 153 2 := H.2.1
theorem Rel.b0 {T0 T1 : Nat} {I : gI} {K : gI} (H : Rel T0 T1 I K) : 0 ≤ (I 0 1).toInt ∧ (I 0 1).toInt ≤ 900 := H.2.2.1
theorem Rel.by1 {T0 T1 : Nat} {I : gI} {K : gI} (H : Rel T0 T1 I K) : ∀ i, i < (I 0 1).toInt.toNat → -128 ≤ (I 1 i).toInt ∧ (I 1 i).toInt ≤ 127 := H.2.2.2.1
theorem Rel.by2 {T0 T1 : Nat} {I : gI} {K : gI} (H : Rel T0 T1 I K) : ∀ i, i < (I 0 1).toInt.toNat → K (153 + 1) i = I 1 i &&& 255 := H.2.2.2.2.1
theorem Rel.ec {T0 T1 : Nat} {I : gI} {K : gI} (H : Rel T0 T1 I K) : I 0 2 = K 153 5 := H.2.2.2.2.2.1
theorem Rel.ep {T0 T1 : Nat} {I : gI} {K : gI} (H : Rel T0 T1 I K) : I 0 3 = K 153 6 := H.2.2.2.2.2.2.1
theorem Rel.ld {T0 T1 : Nat} {I : gI} {K : gI} (H : Rel T0 T1 I K) : (I 0 4 = 0 ∧ K 153 23 = 0) ∨ (I 0 4 = 1 ∧ K 153 23 = 1 ∧ LD T0 I K) := H.2.2.2.2.2.2.2.1
theorem Rel.tv {T0 T1 : Nat} {I : gI} {K : gI} (H : Rel T0 T1 I K) : TV K := H.2.2.2.2.2.2.2.2.1
theorem Rel.ru {T0 T1 : Nat} {I : gI} {K : gI} (H : Rel T0 T1 I K) : RU I := H.2.2.2.2.2.2.2.2.2.1
theorem Rel.hc {T0 T1 : Nat} {I : gI} {K : gI} (H : Rel T0 T1 I K) : I 18 2 = K 153 19 := H.2.2.2.2.2.2.2.2.2.2.1
theorem Rel.h0 {T0 T1 : Nat} {I : gI} {K : gI} (H : Rel T0 T1 I K) : 0 ≤ (I 18 2).toInt ∧ (I 18 2).toInt ≤ 8 := H.2.2.2.2.2.2.2.2.2.2.2.1
theorem Rel.ho {T0 T1 : Nat} {I : gI} {K : gI} (H : Rel T0 T1 I K) : 0 ≤ (I 18 1).toInt ∧ (I 18 1).toInt < 8 := H.2.2.2.2.2.2.2.2.2.2.2.2.1
theorem Rel.hl {T0 T1 : Nat} {I : gI} {K : gI} (H : Rel T0 T1 I K) : I 18 2 = 0 ∨ I 0 4 = 1 := H.2.2.2.2.2.2.2.2.2.2.2.2.2.1
theorem Rel.hr {T0 T1 : Nat} {I : gI} {K : gI} (H : Rel T0 T1 I K) : ∀ i, i < (I 18 2).toInt.toNat → SR I (20 + 8 * (((I 18 1).toInt.toNat + i) % 8)) (pl K) (hs K i) ∧ SV (pl K) (hs K i) := H.2.2.2.2.2.2.2.2.2.2.2.2.2.2.1
theorem Rel.sf {T0 T1 : Nat} {I : gI} {K : gI} (H : Rel T0 T1 I K) : ∀ b, b < 2 → I 85 b = K (153 + 10) b ∧ (I 85 b = 0 ∨ (I 85 b = 1 ∧ I 0 4 = 1 ∧ SR I (137 + 8 * b) (pl K) (sl K b) ∧ SV (pl K) (sl K b))) := H.2.2.2.2.2.2.2.2.2.2.2.2.2.2.2.1
theorem Rel.pn {T0 T1 : Nat} {I : gI} {K : gI} (H : Rel T0 T1 I K) : I 86 1 = K 153 32 := H.2.2.2.2.2.2.2.2.2.2.2.2.2.2.2.2.1
theorem Rel.p0 {T0 T1 : Nat} {I : gI} {K : gI} (H : Rel T0 T1 I K) : 0 ≤ (I 86 1).toInt ∧ (I 86 1).toInt ≤ 200 := H.2.2.2.2.2.2.2.2.2.2.2.2.2.2.2.2.2.1
theorem Rel.pb {T0 T1 : Nat} {I : gI} {K : gI} (H : Rel T0 T1 I K) : ∀ i, i < (I 86 1).toInt.toNat → I (86 + 1) i = K (153 + 16) i := H.2.2.2.2.2.2.2.2.2.2.2.2.2.2.2.2.2.2.1
theorem Rel.tb {T0 T1 : Nat} {I : gI} {K : gI} (H : Rel T0 T1 I K) : ∀ k, k < 4 → I (10 + 1) k = 0 ∨ I (10 + 1) k = 1 := H.2.2.2.2.2.2.2.2.2.2.2.2.2.2.2.2.2.2.2
theorem Rel.mk {T0 T1 : Nat} {I : gI} {K : gI} (x_tt : (T0 = 95 ∧ T1 = 116) ∨ (T0 = 116 ∧ T1 = 95)) (x_bn : I 0 1 = K 153 2) (x_b0 : 0 ≤ (I 0 1).toInt ∧ (I 0 1).toInt ≤ 900) (x_by1 : ∀ i, i < (I 0 1).toInt.toNat → -128 ≤ (I 1 i).toInt ∧ (I 1 i).toInt ≤ 127) (x_by2 : ∀ i, i < (I 0 1).toInt.toNat → K (153 + 1) i = I 1 i &&& 255) (x_ec : I 0 2 = K 153 5) (x_ep : I 0 3 = K 153 6) (x_ld : (I 0 4 = 0 ∧ K 153 23 = 0) ∨ (I 0 4 = 1 ∧ K 153 23 = 1 ∧ LD T0 I K)) (x_tv : TV K) (x_ru : RU I) (x_hc : I 18 2 = K 153 19) (x_h0 : 0 ≤ (I 18 2).toInt ∧ (I 18 2).toInt ≤ 8) (x_ho : 0 ≤ (I 18 1).toInt ∧ (I 18 1).toInt < 8) (x_hl : I 18 2 = 0 ∨ I 0 4 = 1) (x_hr : ∀ i, i < (I 18 2).toInt.toNat → SR I (20 + 8 * (((I 18 1).toInt.toNat + i) % 8)) (pl K) (hs K i) ∧ SV (pl K) (hs K i)) (x_sf : ∀ b, b < 2 → I 85 b = K (153 + 10) b ∧ (I 85 b = 0 ∨ (I 85 b = 1 ∧ I 0 4 = 1 ∧ SR I (137 + 8 * b) (pl K) (sl K b) ∧ SV (pl K) (sl K b)))) (x_pn : I 86 1 = K 153 32) (x_p0 : 0 ≤ (I 86 1).toInt ∧ (I 86 1).toInt ≤ 200) (x_pb : ∀ i, i < (I 86 1).toInt.toNat → I (86 + 1) i = K (153 + 16) i) (x_tb : ∀ k, k < 4 → I (10 + 1) k = 0 ∨ I (10 + 1) k = 1) : Rel T0 T1 I K := by
  unfold Rel
  exact ⟨x_tt, x_bn, x_b0, x_by1, x_by2, x_ec, x_ep, x_ld, x_tv, x_ru, x_hc, x_h0, x_ho, x_hl, x_hr, x_sf, x_pn, x_p0, x_pb, x_tb⟩
/-- cells of the program that no later call asks for -/
def irI (T1 o : Nat) : Prop := (10 ≤ o ∧ o < 18) ∨ (88 ≤ o ∧ o < 91) ∨ o = 92 ∨ (T1 ≤ o ∧ o < T1 + 21) ∨ 172 ≤ o
/-- cells of the reference that no later call asks for -/
def irK (o i : Nat) : Prop := o = 162 ∨ o = 156 ∨ o = 158 ∨ o = 159 ∨ o = 164 ∨ o = 165 ∨ o = 166 ∨ (o = 153 ∧ (i = 0 ∨ i = 3 ∨ i = 4 ∨ i = 7 ∨ i = 8 ∨ i = 9 ∨ i = 20 ∨ i = 21 ∨ i = 22 ∨ i = 24 ∨ i = 28))
theorem TR.cg {I I' : gI} {o : Nat} {p : gP} (h : TR I o p) (h4 : (p 4).toInt ≤ 4) (h3 : (p 60).toInt ≤ 3) (e : ∀ q i, o ≤ q → q < o + 21 → I' q i = I q i) : TR I' o p := by
  have w := e o 1 (by omega) (by omega)
  refine TR.mk ?_ ?_ ?_ ?_ ?_ ?_ ?_ ?_ ?_ ?_ ?_ ?_ ?_ ?_ ?_ ?_ ?_ ?_ ?_ ?_ ?_ ?_ ?_
  · rw [e _ _ (by omega) (by omega)]; exact h.w
  · rw [e _ _ (by omega) (by omega)]; exact h.h
  · rw [e _ _ (by omega) (by omega)]; exact h.f
  · rw [e _ _ (by omega) (by omega)]; exact h.wl
  · rw [e _ _ (by omega) (by omega)]; exact h.c
  · rw [e _ _ (by omega) (by omega)]; exact h.shc
  · rw [e _ _ (by omega) (by omega)]; exact h.gc
  · intro k hk; rw [e _ _ (by omega) (by omega)]; exact h.len k hk
  · intro k hk; rw [e _ _ (by omega) (by omega)]; exact h.per k hk
  · intro k hk; rw [e _ _ (by omega) (by omega)]; exact h.frm k hk
  · intro k hk; rw [e _ _ (by omega) (by omega)]; exact h.unt k hk
  · intro k hk; rw [e _ 4 (by omega) (by omega), e _ 5 (by omega) (by omega), e _ 6 (by omega) (by omega)]; exact h.srt k hk
  · intro k hk; rw [e _ _ (by omega) (by omega)]; exact h.shp k hk
  · intro k hk; rw [e _ _ (by omega) (by omega)]; exact h.cc k hk
  · intro k hk
    have e1 : ∀ i, I' (o + 1 + 5 + 3 * k + 1) i = I (o + 1 + 5 + 3 * k + 1) i := fun i => e _ _ (by omega) (by omega)
    have e2 : ∀ i, I' (o + 1 + 5 + 3 * k + 2) i = I (o + 1 + 5 + 3 * k + 2) i := fun i => e _ _ (by omega) (by omega)
    simp only [e1, e2]
    rw [e _ 8 (by omega) (by omega)]; exact h.cut k hk
  · intro i hi; rw [e _ _ (by omega) (by omega)]; exact h.mir i hi
  · intro i hi; rw [e _ _ (by omega) (by omega)]; exact h.s0 i hi
  · intro i hi; rw [e _ _ (by omega) (by omega)]; exact h.s1 i hi
  · intro i hi; rw [e _ _ (by omega) (by omega)]; exact h.s2 i hi
  · intro i hi; rw [e _ _ (by omega) (by omega)]; exact h.s3 i hi
  · intro i hi; rw [e _ _ (by omega) (by omega)]; exact h.s4 i hi
  · intro i hi; rw [e _ _ (by omega) (by omega)]; exact h.gx i hi
  · intro i hi; rw [e _ _ (by omega) (by omega)]; exact h.gy i hi
theorem SR.cg {I I' : gI} {o : Nat} {p s : gP} (h : SR I o p s) (e : ∀ q i, o ≤ q → q < o + 8 → I' q i = I q i) : SR I' o p s := by
  refine SR.mk ?_ ?_ ?_ ?_ ?_ ?_ ?_ ?_ ?_ ?_
  · rw [e _ _ (by omega) (by omega)]; exact h.t
  · rw [e _ _ (by omega) (by omega)]; exact h.op
  · intro i hi; rw [e _ _ (by omega) (by omega)]; exact h.b i hi
  · intro i hi; rw [e _ _ (by omega) (by omega)]; exact h.on i hi
  · intro i hi; rw [e _ _ (by omega) (by omega)]; exact h.amp i hi
  · intro i hi; rw [e _ _ (by omega) (by omega)]; exact h.ph i hi
  · intro i hi; rw [e _ _ (by omega) (by omega)]; exact h.x i hi
  · intro i hi; rw [e _ _ (by omega) (by omega)]; exact h.y i hi
  · intro i hi; rw [e _ _ (by omega) (by omega)]; exact h.vx i hi
  · intro i hi; rw [e _ _ (by omega) (by omega)]; exact h.vy i hi
/-- only cells changed that no later call asks for -/
theorem Rel.cg {T0 T1 : Nat} {I I' K K' : gI} (R : Rel T0 T1 I K) (hI : ∀ o i, ¬ irI T1 o → I' o i = I o i) (hK : ∀ o i, ¬ irK o i → K' o i = K o i) (tv : TV K') (tb : ∀ k, k < 4 → I' (10 + 1) k = 0 ∨ I' (10 + 1) k = 1) : Rel T0 T1 I' K' := by
  have ht := R.tt
  have ep : pl K' = pl K := by funext i; exact hK _ _ (by unfold irK; omega)
  have es : st K' = st K := by funext i; exact hK _ _ (by unfold irK; omega)
  have eh : ∀ j, hs K' j = hs K j := by intro j; funext i; exact hK _ _ (by unfold irK; omega)
  have el : ∀ j, sl K' j = sl K j := by intro j; funext i; exact hK _ _ (by unfold irK; omega)
  have f0 : ∀ i, I' 0 i = I 0 i := fun i => hI _ _ (by unfold irI; omega)
  have f1 : ∀ i, I' 1 i = I 1 i := fun i => hI _ _ (by unfold irI; omega)
  have f18 : ∀ i, I' 18 i = I 18 i := fun i => hI _ _ (by unfold irI; omega)
  have f85 : ∀ i, I' 85 i = I 85 i := fun i => hI _ _ (by unfold irI; omega)
  have f86 : ∀ i, I' 86 i = I 86 i := fun i => hI _ _ (by unfold irI; omega)
  have f87 : ∀ i, I' (86 + 1) i = I (86 + 1) i := fun i => hI _ _ (by unfold irI; omega)
  have k2 : K' 153 2 = K 153 2 := hK _ _ (by unfold irK; omega)
  have k5 : K' 153 5 = K 153 5 := hK _ _ (by unfold irK; omega)
  have k6 : K' 153 6 = K 153 6 := hK _ _ (by unfold irK; omega)
  have k19 : K' 153 19 = K 153 19 := hK _ _ (by unfold irK; omega)
  have k23 : K' 153 23 = K 153 23 := hK _ _ (by unfold irK; omega)
  have k32 : K' 153 32 = K 153 32 := hK _ _ (by unfold irK; omega)
  have k1 : ∀ i, K' (153 + 1) i = K (153 + 1) i := fun i => hK _ _ (by unfold irK; omega)
  have k10 : ∀ i, K' (153 + 10) i = K (153 + 10) i := fun i => hK _ _ (by unfold irK; omega)
  have k16 : ∀ i, K' (153 + 16) i = K (153 + 16) i := fun i => hK _ _ (by unfold irK; omega)
  have h0 := R.h0
  refine Rel.mk ht ?_ ?_ ?_ ?_ ?_ ?_ ?_ tv ?_ ?_ ?_ ?_ ?_ ?_ ?_ ?_ ?_ ?_ tb
  · rw [f0, k2]; exact R.bn
  · rw [f0]; exact R.b0
  · rw [f0]; intro i hi; rw [f1]; exact R.by1 i hi
  · rw [f0]; intro i hi; rw [f1, k1]; exact R.by2 i hi
  · rw [f0, k5]; exact R.ec
  · rw [f0, k6]; exact R.ep
  · rw [f0, k23]
    rcases R.ld with h | ⟨h1, h2, L⟩
    · exact Or.inl h
    · refine Or.inr ⟨h1, h2, LD.mk ?_ ?_ ?_ ?_ ?_⟩
      · rw [ep]; exact L.pv
      · rw [ep]; exact L.c1
      · rw [ep]; exact L.tr.cg L.pv.c.2 L.pv.sh.2 (fun q i a b => hI _ _ (by unfold irI; omega))
      · rw [ep, es]; exact L.sr.cg (fun q i a b => hI _ _ (by unfold irI; omega))
      · rw [ep, es]; exact L.sv
  · intro x y hx hy; rw [hI _ _ (by unfold irI; omega)]; exact R.ru x y hx hy
  · rw [f18, k19]; exact R.hc
  · rw [f18]; exact R.h0
  · rw [f18]; exact R.ho
  · rw [f18, f0]; exact R.hl
  · rw [f18, f18, ep]
    intro i hi
    rw [eh]
    exact ⟨(R.hr i hi).1.cg (fun q i a b => hI _ _ (by unfold irI; omega)), (R.hr i hi).2⟩
  · intro b hb
    rw [f85, k10, f0, ep, el]
    refine ⟨(R.sf b hb).1, ?_⟩
    rcases (R.sf b hb).2 with h | ⟨h1, h2, h3, h4⟩
    · exact Or.inl h
    · exact Or.inr ⟨h1, h2, h3.cg (fun q i a b => hI _ _ (by unfold irI; omega)), h4⟩
  · rw [f86, k32]; exact R.pn
  · rw [f86]; exact R.p0
  · rw [f86]; intro i hi; rw [f87, k16]; exact R.pb i hi
theorem TV.th {K : gI} (h : TV K) (t : Int32) : TV (sI K 153 0 t) := by
  rcases h with h | h
  · left; rw [sI_k (by decide)]; exact h
  · right
    funext o i
    rw [sI_get]
    unfold kt
    rw [sI_get]
    by_cases h1 : o = 162 ∧ i < 640
    · rw [if_pos h1, if_neg (by omega), h]; unfold kt; rw [if_pos h1]
    · rw [if_neg h1]
      by_cases h2 : o = 153 ∧ i = 24
      · rw [if_pos h2, if_neg (by omega), h]; unfold kt; rw [if_neg h1, if_pos h2]
      · rw [if_neg h2]
/-- after an exception's number and perhaps the table -/
def Tt (K : gI) (t : Int32) (K' : gI) : Prop := Tq (sI K 153 0 t) K'
theorem Tt.irr {K K' : gI} {t : Int32} (h : Tt K t K') : ∀ o i, ¬ irK o i → K' o i = K o i := by
  intro o i hn
  rw [Tq.get h (by unfold irK at hn; omega) (by unfold irK at hn; omega), sI_get, if_neg (by unfold irK at hn; omega)]
theorem Tt.t {K K' : gI} {t : Int32} (h : Tt K t K') : K' 153 0 = t := by
  rw [Tq.get h (by decide) (by decide), sI_self]
theorem Rel.tt' {T0 T1 : Nat} {I K K' : gI} {t : Int32} (R : Rel T0 T1 I K) (h : Tt K t K') : Rel T0 T1 I K' :=
  R.cg (fun _ _ _ => rfl) h.irr (h.tv (R.tv.th t)) R.tb
/-! what is needed, told by both -/
def ISE : String := "java/lang/IllegalStateException"
def IOB : String := "java/lang/IndexOutOfBoundsException"
def IAE : String := "java/lang/IllegalArgumentException"
def nd (c : Bool) (E : String) : String ⊕ Unit := if c then .inr () else .inl E
/-- both answer: the program c, the reference m -/
def AG {α β : Type} (c : Option (String ⊕ α)) (m : Option β) (ok : α → β → Prop) (er : String → β → Prop) : Prop := ∃ r b, c = some r ∧ m = some b ∧ (match r with | .inl E => er E b | .inr a => ok a b)
theorem AG.ok {α β : Type} {c : Option (String ⊕ α)} {m : Option β} {ok : α → β → Prop} {er : String → β → Prop} {a : α} {b : β} (h1 : c = some (.inr a)) (h2 : m = some b) (h3 : ok a b) : AG c m ok er := ⟨.inr a, b, h1, h2, h3⟩
theorem AG.er {α β : Type} {c : Option (String ⊕ α)} {m : Option β} {ok : α → β → Prop} {er : String → β → Prop} {E : String} {b : β} (h1 : c = some (.inl E)) (h2 : m = some b) (h3 : er E b) : AG c m ok er := ⟨.inl E, b, h1, h2, h3⟩
/-- the same without exceptions -/
def AN {α β : Type} (c : Option α) (m : Option β) (ok : α → β → Prop) : Prop := ∃ a b, c = some a ∧ m = some b ∧ ok a b
/-- the numbers of exceptions -/
def thA (E : String) : Int32 := if E = ISE then 1 else if E = IOB then 2 else 3
def thB (E : String) : Int32 := if E = ISE then 1 else 2
def thC (E : String) : Int32 := 1
def thE (E : String) : Int32 := if E = IOB then 1 else 2
theorem thA1 : thA ISE = 1 := rfl
theorem thA2 : thA IOB = 2 := rfl
theorem thA3 : thA IAE = 3 := rfl
theorem thB1 : thB ISE = 1 := rfl
theorem thB2 : thB IAE = 2 := rfl
theorem thE1 : thE IOB = 1 := rfl
theorem thE2 : thE IAE = 2 := rfl
theorem thE3 : thE ISE = 2 := rfl
def rng (a l u : Int32) : Bool := decide (l ≤ a ∧ a ≤ u)
def src (p : gP) (a : Int32) : Bool := rng a 0 (p 4 - 1)
def col (p : gP) (a : Int32) : Bool := rng a 0 (p 0 - 1)
def row (p : gP) (a : Int32) : Bool := rng a 0 (p 1 - 1)
def gau (p : gP) (a : Int32) : Bool := rng a 0 (p 76 - 1)
def cel (p : gP) (a b : Int32) : Bool := col p a && row p b
theorem rng_t {a l u : Int32} : rng a l u = true ↔ l.toInt ≤ a.toInt ∧ a.toInt ≤ u.toInt := by
  unfold rng; rw [decide_eq_true_iff, i_le, i_le]
theorem i_m1 {a : Int32} (h : 0 ≤ a.toInt) : (a - 1).toInt = a.toInt - 1 := by
  have := i_hi a
  rw [i_sub (by rw [ii_1]; omega) (by rw [ii_1]; omega), ii_1]
theorem src_t {p : gP} (hp : PV p) {a : Int32} : src p a = true ↔ 0 ≤ a.toInt ∧ a.toInt < (p 4).toInt := by
  have := hp.c
  unfold src; rw [rng_t, i_m1 (by omega), ii_0]; omega
theorem col_t {p : gP} (hp : PV p) {a : Int32} : col p a = true ↔ xIn p a := by
  have := hp.w
  unfold col xIn; rw [rng_t, i_m1 (by omega), ii_0]; omega
theorem row_t {p : gP} (hp : PV p) {a : Int32} : row p a = true ↔ yIn p a := by
  have := hp.h
  unfold row yIn; rw [rng_t, i_m1 (by omega), ii_0]; omega
theorem gau_t {p : gP} (hp : PV p) {a : Int32} : gau p a = true ↔ 0 ≤ a.toInt ∧ a.toInt < (p 76).toInt := by
  have := hp.ga
  unfold gau; rw [rng_t, i_m1 (by omega), ii_0]; omega
theorem cel_t {p : gP} (hp : PV p) {a b : Int32} : cel p a b = true ↔ xIn p a ∧ yIn p b := by
  unfold cel; rw [Bool.and_eq_true, col_t hp, row_t hp]
theorem lt_m1 {a b : Int32} (h : 0 ≤ b.toInt) : a < b ↔ a ≤ b - 1 := by
  rw [i_lt, i_le, i_m1 h]; omega
theorem nd_if {a b : Int32} (h : 0 ≤ b.toInt) (E : String) : (if a < 0 then some (.inl E : String ⊕ Unit) else (if a < b then some (.inr ()) else some (.inl E))) = some (nd (rng a 0 (b - 1)) E) := by
  unfold nd rng
  by_cases h1 : a < 0
  · rw [if_pos h1, decide_eq_false (fun q => by have := q.1; rw [i_le] at this; rw [i_lt] at h1; omega)]; rfl
  · rw [if_neg h1]
    have h1' : 0 ≤ a := by rw [i_le]; rw [i_lt] at h1; omega
    by_cases h2 : a < b
    · rw [if_pos h2, decide_eq_true ⟨h1', (lt_m1 h).mp h2⟩]; rfl
    · rw [if_neg h2, decide_eq_false (fun q => h2 ((lt_m1 h).mpr q.2))]; rfl
section NEED
variable {n T0 T1 : Nat} {I K : gI}
theorem n_rng (n : Nat) (a l u : Int32) : F_X9_needRange n a l u = some (nd (rng a l u) IAE) := by
  unfold F_X9_needRange nd rng
  by_cases h1 : a < l
  · rw [if_pos h1, decide_eq_false (fun q => by have := q.1; rw [i_le] at this; rw [i_lt] at h1; omega)]; rfl
  · rw [if_neg h1]
    have h1' : l ≤ a := by rw [i_le]; rw [i_lt] at h1; omega
    by_cases h2 : a ≤ u
    · rw [if_pos h2, decide_eq_true ⟨h1', h2⟩]; rfl
    · rw [if_neg h2, decide_eq_false (fun q => h2 q.2)]; rfl
theorem n_tank0 (h : I 0 4 = 0) : F_X9_needTank n T0 T1 I = some (.inl ISE) := by
  unfold F_X9_needTank; rw [if_pos h]; rfl
theorem n_tank1 (h : I 0 4 = 1) : F_X9_needTank n T0 T1 I = some (.inr ()) := by
  unfold F_X9_needTank; rw [if_neg (by rw [h]; decide)]
theorem n_src (L : LD T0 I K) (a : Int32) : F_X9_needSource n T0 T1 I a = some (nd (src (pl K) a) IOB) := by
  unfold F_X9_needSource src; rw [L.tr.c]; exact nd_if (by have := L.pv.c; omega) IOB
theorem n_gau (L : LD T0 I K) (a : Int32) : F_X9_needGauge n T0 T1 I a = some (nd (gau (pl K) a) IOB) := by
  unfold F_X9_needGauge gau; rw [L.tr.gc]; exact nd_if (by have := L.pv.ga; omega) IOB
theorem n_col (L : LD T0 I K) (a : Int32) : F_X9_needColumn n T0 T1 I a = some (nd (col (pl K) a) IOB) := by
  unfold F_X9_needColumn col; rw [L.tr.w]; exact nd_if (by have := L.pv.w; omega) IOB
theorem n_row (L : LD T0 I K) (a : Int32) : F_X9_needRow n T0 T1 I a = some (nd (row (pl K) a) IOB) := by
  unfold F_X9_needRow row; rw [L.tr.h]; exact nd_if (by have := L.pv.h; omega) IOB
theorem n_cel (L : LD T0 I K) (a b : Int32) : F_X9_needCell n T0 T1 I a b = some (nd (cel (pl K) a b) IOB) := by
  unfold F_X9_needCell cel; rw [n_col L, n_row L]
  cases col (pl K) a <;> cases row (pl K) b <;> rfl
theorem n_tim (n : Nat) (a : Int32) : F_X9_needTimes n a = some (nd (rng a 1 40) IAE) := by
  unfold F_X9_needTimes; rw [n_rng]
  cases rng a 1 40 <;> rfl
theorem n_tol (n : Nat) (a : Int32) : F_X9_needTolerance n a = some (nd (rng a 0 9999) IAE) := by
  unfold F_X9_needTolerance; rw [n_rng]
  cases rng a 0 9999 <;> rfl
theorem n_slo (n : Nat) (a : Int32) : F_X9_needSlot n a = some (nd (rng a 0 1) IOB) := by
  unfold F_X9_needSlot; exact nd_if (b := 2) (by decide) IOB
theorem nd_s {α : Type} (c : Bool) (E : String) (g : Unit → Option (String ⊕ α)) : bd (some (nd c E)) (fun v => sm v (fun e => some (.inl e)) g) = if c then g () else some (.inl E) := by
  cases c <;> rfl
theorem x_in (n : Nat) (a l u : Int32) : F_X10_in n a l u = some (b2 (rng a l u)) := in_s n a l u
theorem x_src (n : Nat) (a : Int32) : F_X10_isSource n K a = some (b2 (src (pl K) a)) := by
  unfold F_X10_isSource; rw [x_in, bd_s, gd_t (b2_b _)]; rfl
theorem x_gau (n : Nat) (a : Int32) : F_X10_isGauge n K a = some (b2 (gau (pl K) a)) := by
  unfold F_X10_isGauge; rw [x_in, bd_s, gd_t (b2_b _)]; rfl
theorem x_col (n : Nat) (a : Int32) : F_X10_isColumn n K a = some (b2 (col (pl K) a)) := by
  unfold F_X10_isColumn; rw [x_in, bd_s, gd_t (b2_b _)]; rfl
theorem x_row (n : Nat) (a : Int32) : F_X10_isRow n K a = some (b2 (row (pl K) a)) := by
  unfold F_X10_isRow; rw [x_in, bd_s, gd_t (b2_b _)]; rfl
theorem x_cel (n : Nat) (a b : Int32) : F_X10_isCell n K a b = some (b2 (cel (pl K) a b)) := by
  unfold F_X10_isCell cel; rw [x_col, bd_s, x_row]
  cases col (pl K) a <;> cases row (pl K) b <;> rfl
theorem x_run (n : Nat) (a : Int32) : F_X10_isRun n a = some (b2 (rng a 1 40)) := by
  unfold F_X10_isRun; rw [x_in, bd_s, gd_t (b2_b _)]
theorem x_tim (n : Nat) (a : Int32) : F_X10_isTime n a = some (b2 (rng a 0 9999)) := by
  unfold F_X10_isTime; rw [x_in, bd_s, gd_t (b2_b _)]
theorem x_tol (n : Nat) (a : Int32) : F_X10_isTolerance n a = some (b2 (rng a 0 9999)) := by
  unfold F_X10_isTolerance; rw [x_in, bd_s, gd_t (b2_b _)]
theorem x_sha (n : Nat) (a : Int32) : F_X10_isShare n a = some (b2 (rng a 1 100)) := by
  unfold F_X10_isShare; rw [x_in, bd_s, gd_t (b2_b _)]
theorem ask0 (h : K 153 23 = 0) (t : Int32) : F_X10_mayAsk n K t = some (0, sI K 153 0 1) := by
  unfold F_X10_mayAsk; rw [if_pos h, sI_self, if_neg (by decide)]
theorem ask2 (h : K 153 23 = 1) : F_X10_mayAsk n K (0 : Int32) = some (0, sI K 153 0 2) := by
  unfold F_X10_mayAsk; rw [if_neg (by rw [h]; decide), if_pos rfl, sI_self, if_neg (by decide)]
theorem ask1 (h : K 153 23 = 1) : F_X10_mayAsk n K (1 : Int32) = some (1, sI K 153 0 0) := by
  unfold F_X10_mayAsk; rw [if_neg (by rw [h]; decide), if_neg (by decide), sI_self, if_pos (by decide)]
theorem askF0 (h : K 153 23 = 0) (t u : Int32) : F_X10_mayAskFor n K t u = some (0, sI K 153 0 1) := by
  unfold F_X10_mayAskFor; rw [if_pos h, sI_self, if_neg (by decide)]
theorem askF2 (h : K 153 23 = 1) (u : Int32) : F_X10_mayAskFor n K (0 : Int32) u = some (0, sI K 153 0 2) := by
  unfold F_X10_mayAskFor; rw [if_neg (by rw [h]; decide), if_pos rfl, sI_self, if_neg (by decide)]
theorem askF3 (h : K 153 23 = 1) : F_X10_mayAskFor n K (1 : Int32) (0 : Int32) = some (0, sI K 153 0 3) := by
  unfold F_X10_mayAskFor; rw [if_neg (by rw [h]; decide), if_neg (by decide), if_pos rfl, sI_self, if_neg (by decide)]
theorem askF1 (h : K 153 23 = 1) : F_X10_mayAskFor n K (1 : Int32) (1 : Int32) = some (1, sI K 153 0 0) := by
  unfold F_X10_mayAskFor; rw [if_neg (by rw [h]; decide), if_neg (by decide), if_neg (by decide), sI_self, if_pos (by decide)]
theorem told0 (h : K 153 23 = 0) (v : Int32) : F_X10_told n K v = some (0, sI K 153 0 0) := by
  unfold F_X10_told; rw [sI_k (by decide), if_pos h]
theorem told1 (h : K 153 23 = 1) (v : Int32) : F_X10_told n K v = some (v, sI K 153 0 0) := by
  unfold F_X10_told; rw [sI_k (by decide), if_neg (by rw [h]; decide)]
theorem LD.mk' (L : LD T0 I K) {K' : gI} {t : Int32} (h : Tt K t K') (tv : TV K) : MK K' (153 + 4) (pl K) (st K) :=
  MK.tq (MK.mk (K := sI K 153 0 t) (fun i => by rw [sI_o (by decide)]; rfl) (fun i => by rw [sI_o (by decide)]; rfl) (tv.th t) ⟨by decide, by decide⟩) h
theorem LD.ck (L : LD T0 I K) (ru : RU I) : CK I T0 2 (pl K) (st K) := CK.mk L.tr L.sr ru
theorem Tt.r {K : gI} (t : Int32) : Tt K t (sI K 153 0 t) := Tq.rfl'
end NEED
