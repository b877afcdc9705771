section FACEG
variable {n T0 T1 : Nat} {I K : gI}
/-- only the state now has changed -/
theorem Rel.ns {I' K' : gI} (R : Rel T0 T1 I K) (h9 : I 0 4 = 1) (h10 : K 153 23 = 1) (L : LD T0 I K) (hI : ∀ o i, ¬ (2 ≤ o ∧ o < 10) → I' o i = I o i) (hK : ∀ o i, o ≠ 157 → K' o i = K o i) (S : SR I' 2 (pl K) (st K')) (V : SV (pl K) (st K')) : Rel T0 T1 I' K' := by
  have ht := R.tt
  have ep : pl K' = pl K := by funext i; exact hK _ _ (by decide)
  have eh : ∀ j, hs K' j = hs K j := by intro j; funext i; exact hK _ _ (by decide)
  have el : ∀ j, sl K' j = sl K j := by intro j; funext i; exact hK _ _ (by decide)
  have h0 := R.h0
  refine Rel.mk ht ?_ ?_ ?_ ?_ ?_ ?_ ?_ ?_ ?_ ?_ ?_ ?_ ?_ ?_ ?_ ?_ ?_ ?_ (fun k hk => by rw [hI _ _ (by omega)]; exact R.tb k hk)
  · rw [hI _ _ (by omega), hK _ _ (by decide)]; exact R.bn
  · rw [hI _ _ (by omega)]; exact R.b0
  · rw [hI _ _ (by omega)]; intro i hi; rw [hI _ _ (by omega)]; exact R.by1 i hi
  · rw [hI _ _ (by omega)]; intro i hi; rw [hI _ _ (by omega), hK _ _ (by decide)]; exact R.by2 i hi
  · rw [hI _ _ (by omega), hK _ _ (by decide)]; exact R.ec
  · rw [hI _ _ (by omega), hK _ _ (by decide)]; exact R.ep
  · refine Or.inr ⟨by rw [hI _ _ (by omega)]; exact h9, by rw [hK _ _ (by decide)]; exact h10, LD.mk ?_ ?_ ?_ ?_ ?_⟩
    · rw [ep]; exact L.pv
    · rw [ep]; exact L.c1
    · rw [ep]; exact L.tr.cg L.pv.c.2 L.pv.sh.2 (fun q i a b => hI _ _ (by omega))
    · rw [ep]; exact S
    · rw [ep]; exact V
  · exact R.tv.cg (fun i => hK _ _ (by decide)) (hK _ _ (by decide))
  · intro x y hx hy; rw [hI _ _ (by omega)]; exact R.ru x y hx hy
  · rw [hI _ _ (by omega), hK _ _ (by decide)]; exact R.hc
  · rw [hI _ _ (by omega)]; exact R.h0
  · rw [hI _ _ (by omega)]; exact R.ho
  · rw [hI _ _ (by omega), hI _ _ (by omega)]; exact R.hl
  · rw [hI 18 _ (by omega), hI 18 _ (by omega), ep]
    intro i hi
    rw [eh]
    exact ⟨(R.hr i hi).1.cg (fun q i a b => hI _ _ (by omega)), (R.hr i hi).2⟩
  · intro b hb
    rw [hI 85 _ (by omega), hK _ _ (by decide), hI 0 _ (by omega), ep, el]
    refine ⟨(R.sf b hb).1, ?_⟩
    rcases (R.sf b hb).2 with h | ⟨h1, h2, h3, h4⟩
    · exact Or.inl h
    · exact Or.inr ⟨h1, h2, h3.cg (fun q i a b => hI _ _ (by omega)), h4⟩
  · rw [hI _ _ (by omega), hK _ _ (by decide)]; exact R.pn
  · rw [hI _ _ (by omega)]; exact R.p0
  · rw [hI _ _ (by omega)]; intro i hi; rw [hI _ _ (by omega), hK _ _ (by decide)]; exact R.pb i hi
/-- only the states before have changed -/
theorem Rel.nh {I' K' : gI} (R : Rel T0 T1 I K) (h9 : I 0 4 = 1) (h10 : K 153 23 = 1) (L : LD T0 I K) (hI : ∀ o i, ¬ (18 ≤ o ∧ o < 84) → I' o i = I o i) (hK : ∀ o i, o ≠ 160 → (o ≠ 153 ∨ i ≠ 19) → K' o i = K o i)
    (hc : I' 18 2 = K' 153 19) (h0 : 0 ≤ (I' 18 2).toInt ∧ (I' 18 2).toInt ≤ 8) (ho : 0 ≤ (I' 18 1).toInt ∧ (I' 18 1).toInt < 8) (hr : ∀ i, i < (I' 18 2).toInt.toNat → SR I' (20 + 8 * (((I' 18 1).toInt.toNat + i) % 8)) (pl K) (hs K' i) ∧ SV (pl K) (hs K' i)) : Rel T0 T1 I' K' := by
  have ht := R.tt
  have ep : pl K' = pl K := by funext i; exact hK _ _ (by decide) (Or.inl (by decide))
  have es : st K' = st K := by funext i; exact hK _ _ (by decide) (Or.inl (by decide))
  have el : ∀ j, sl K' j = sl K j := by intro j; funext i; exact hK _ _ (by decide) (Or.inl (by decide))
  refine Rel.mk ht ?_ ?_ ?_ ?_ ?_ ?_ ?_ ?_ ?_ hc h0 ho ?_ ?_ ?_ ?_ ?_ ?_ (fun k hk => by rw [hI _ _ (by omega)]; exact R.tb k hk)
  · rw [hI _ _ (by omega), hK _ _ (by decide) (by decide)]; exact R.bn
  · rw [hI _ _ (by omega)]; exact R.b0
  · rw [hI _ _ (by omega)]; intro i hi; rw [hI _ _ (by omega)]; exact R.by1 i hi
  · rw [hI _ _ (by omega)]; intro i hi; rw [hI _ _ (by omega), hK _ _ (by decide) (Or.inl (by decide))]; exact R.by2 i hi
  · rw [hI _ _ (by omega), hK _ _ (by decide) (by decide)]; exact R.ec
  · rw [hI _ _ (by omega), hK _ _ (by decide) (by decide)]; exact R.ep
  · refine Or.inr ⟨by rw [hI _ _ (by omega)]; exact h9, by rw [hK _ _ (by decide) (by decide)]; exact h10, LD.mk ?_ ?_ ?_ ?_ ?_⟩
    · rw [ep]; exact L.pv
    · rw [ep]; exact L.c1
    · rw [ep]; exact L.tr.cg L.pv.c.2 L.pv.sh.2 (fun q i a b => hI _ _ (by omega))
    · rw [ep, es]; exact L.sr.cg (fun q i a b => hI _ _ (by omega))
    · rw [ep, es]; exact L.sv
  · exact R.tv.cg (fun i => hK _ _ (by decide) (Or.inl (by decide))) (hK _ _ (by decide) (by decide))
  · intro x y hx hy; rw [hI _ _ (by omega)]; exact R.ru x y hx hy
  · right; rw [hI _ _ (by omega)]; exact h9
  · rw [ep]; exact hr
  · intro b hb
    rw [hI 85 _ (by omega), hK _ _ (by decide) (Or.inl (by decide)), hI 0 _ (by omega), ep, el]
    refine ⟨(R.sf b hb).1, ?_⟩
    rcases (R.sf b hb).2 with h | ⟨h1, h2, h3, h4⟩
    · exact Or.inl h
    · exact Or.inr ⟨h1, h2, h3.cg (fun q i a b => hI _ _ (by omega)), h4⟩
  · rw [hI _ _ (by omega), hK _ _ (by decide) (by decide)]; exact R.pn
  · rw [hI _ _ (by omega)]; exact R.p0
  · rw [hI _ _ (by omega)]; intro i hi; rw [hI _ _ (by omega), hK _ _ (by decide) (Or.inl (by decide))]; exact R.pb i hi
theorem i8 : (8 : Int32) = Int32.ofNat 8 := rfl
/-- the states before, one further to the front -/
def shK (K : gI) : gI := fun o i => if o = 160 ∧ i < 210 then K 160 (i + 30) else K o i
theorem shK_e (K : gI) (o i : Nat) : shK K o i = if o = 160 ∧ i < 210 then K 160 (i + 30) else K o i := rfl
/-- the reference lays the states before one to the front -/
theorem m_shift (hn : 2000 ≤ n) (h8 : K 153 19 = 8) : F_X10_remember n K = some (cpK (shK K) (153 + 4) 0 (153 + 7) 210) := by
  have key : ∀ (d x j : Nat) (K1 : gI), x + d = 240 → 30 ≤ x → d < j → (∀ o i, K1 o i = if o = 160 ∧ i + 30 < x then K 160 (i + 30) else K o i) → L_X10_remember n j 0 (Int32.ofNat x) K1 = some (cpK (shK K) (153 + 4) 0 (153 + 7) 210) := by
    intro d
    induction d with
    | zero =>
      intro x j K1 hx hx3 hj h
      obtain ⟨j, rfl⟩ : ∃ i, j = i + 1 := ⟨j - 1, by omega⟩
      obtain rfl : x = 240 := by omega
      have k19 : K1 153 19 = 8 := by rw [h, if_neg (by omega)]; exact h8
      rw [L_X10_remember_e0, if_pos (by decide), sI_self, k19]
      have e30 : (30 : Int32) * (8 - 1) = Int32.ofNat 210 := by decide
      have hcp := cpK_s hn (sI K1 153 19 (8 - 1)) (o0 := 153 + 4) (z0 := 30) (o2 := 153 + 7) (z2 := 240) (A := 0) (B := 210) (by decide) (by decide) (by decide) (by decide)
      rw [e30, show (0 : Int32) = Int32.ofNat 0 from rfl, hcp, bd_s]
      congr 1
      funext o i
      rw [sI_get, cpK_o (by decide), sI_self]
      by_cases h1 : o = 153 ∧ i = 19
      · rw [if_pos h1, h1.1, h1.2, cpK_o (by decide), shK_e, if_neg (by decide), h8]; decide
      · rw [if_neg h1]
        unfold cpK
        by_cases h2 : o = 153 + 7 ∧ 210 ≤ i ∧ i < 210 + 30
        · rw [if_pos h2, if_pos h2, sI_o (by decide), shK_e, if_neg (by omega), h, if_neg (by omega)]
        · rw [if_neg h2, if_neg h2, sI_get, if_neg h1, h, shK_e]
          by_cases h3 : o = 160 ∧ i + 30 < 240
          · rw [if_pos h3, if_pos (by omega)]
          · rw [if_neg h3, if_neg (by omega)]
    | succ d ih =>
      intro x j K1 hx hx3 hj h
      obtain ⟨j, rfl⟩ : ∃ i, j = i + 1 := ⟨j - 1, by omega⟩
      have e30 : Int32.ofNat x - (30 : Int32) = Int32.ofNat (x - 30) := i_osub (a := x) (b := 30) hx3 (by omega)
      rw [L_X10_remember_e0, if_neg (by rw [show (240 : Int32) = Int32.ofNat 240 from rfl, i_ole (by omega) (by omega)]; omega), e30, gv_o (by omega), gv_o (by omega), i_tno (by omega), i_tno (by omega), ixp_1]
      refine ih (x + 1) j _ (by omega) (by omega) (by omega) (fun o i => ?_)
      rw [sI_get]
      by_cases h1 : o = 153 + 7 ∧ i = x - 30
      · rw [if_pos h1, if_pos (by omega), show i + 30 = x by omega, h, if_neg (by omega)]
      · rw [if_neg h1, h]
        by_cases h2 : o = 160 ∧ i + 30 < x
        · rw [if_pos h2, if_pos (by omega)]
        · rw [if_neg h2, if_neg (by omega)]
  unfold F_X10_remember
  rw [if_pos h8]
  exact key 210 30 n K (by omega) (by omega) (by omega) (fun o i => by rw [if_neg (by omega)])
theorem m_rem (hn : 2000 ≤ n) {c : Nat} (hc : c < 8) (h8 : K 153 19 = Int32.ofNat c) : F_X10_remember n K = some (sI (cpK K (153 + 4) 0 (153 + 7) (30 * c)) 153 19 (Int32.ofNat (c + 1))) := by
  unfold F_X10_remember
  have hcp := cpK_s hn K (o0 := 153 + 4) (z0 := 30) (o2 := 153 + 7) (z2 := 240) (A := 0) (B := 30 * c) (by decide) (by decide) (by omega) (by decide)
  rw [h8, i8, if_neg (by rw [i_oeq (by omega) (by omega)]; omega), xm_30, show (0 : Int32) = Int32.ofNat 0 from rfl, hcp, bd_s, cpK_o (by decide), h8, ixp_1]
theorem md8 {a b : Nat} (ha : a < 1000) (hb : b < 1000) : (Int32.ofNat a + Int32.ofNat b) - (Int32.ofNat a + Int32.ofNat b) / (8 : Int32) * (8 : Int32) = Int32.ofNat ((a + b) % 8) := by
  rw [i_oadd, i8]; exact i_omod (by omega) (by omega)
/-- before a change both keep the state now -/
theorem keeps (hn : 2000 ≤ n) (R : Rel T0 T1 I K) (h9 : I 0 4 = 1) (h10 : K 153 23 = 1) (L : LD T0 I K) : ∃ I' K', F_X0_keep n 2 I = some I' ∧ F_X10_remember n K = some K' ∧ Rel T0 T1 I' K' ∧ (∀ o i, ¬ (18 ≤ o ∧ o < 84) → I' o i = I o i) ∧ (∀ o i, o ≠ 160 → (o ≠ 153 ∨ i ≠ 19) → K' o i = K o i) ∧ LD T0 I' K' := by
  have h0 := R.h0
  have ho := R.ho
  have ht := R.tt
  have h44 := L.pv.c.2
  obtain ⟨c, hc⟩ : ∃ c, c = (I 18 2).toInt.toNat := ⟨_, rfl⟩
  obtain ⟨q, hq⟩ : ∃ q, q = (I 18 1).toInt.toNat := ⟨_, rfl⟩
  have ec : I 18 2 = Int32.ofNat c := by rw [hc, i_on h0.1]
  have eq : I 18 1 = Int32.ofNat q := by rw [hq, i_on ho.1]
  have hm : (q + c) % 8 < 8 := Nat.mod_lt _ (by decide)
  have ecp : F_X6_copyFrom n (18 + 1 + 1 + 8 * ((q + c) % 8)) 2 I = some (cp I (18 + 1 + 1 + 8 * ((q + c) % 8)) 2) := cp_s hn (by omega) L.sr.b
  have keep : F_X0_keep n 2 I = (if (8 : Int32) ≤ Int32.ofNat c then some (sI (cp I (18 + 1 + 1 + 8 * ((q + c) % 8)) 2) 18 1 (Int32.ofNat ((q + 1) % 8))) else some (sI (cp I (18 + 1 + 1 + 8 * ((q + c) % 8)) 2) 18 2 (Int32.ofNat (c + 1)))) := by
    unfold F_X0_keep
    rw [ec, eq, md8 (by omega) (by omega), gv_o hm, i_tno (by omega), ecp, bd_s, cp_o _ _ _ _ _ (by omega), cp_o _ _ _ _ _ (by omega), ec, eq]
    have e1 : (Int32.ofNat q + (1 : Int32)) - (Int32.ofNat q + (1 : Int32)) / (8 : Int32) * (8 : Int32) = Int32.ofNat ((q + 1) % 8) := md8 (a := q) (b := 1) (by omega) (by omega)
    rw [e1, ixp_1]
  have S0 := fun a (hd : a + 8 ≤ 2 ∨ 2 + 8 ≤ a) => cp_SR (a := a) L.sr h44 hd
  have hk : K 153 19 = Int32.ofNat c := by rw [← R.hc, ec]
  by_cases h8 : c = 8
  · subst h8
    have kk : K 153 19 = 8 := hk
    rw [if_pos (by decide)] at keep
    refine ⟨_, _, keep, m_shift hn kk, ?_⟩
    have hI : ∀ o i, ¬ (18 ≤ o ∧ o < 84) → sI (cp I (18 + 1 + 1 + 8 * ((q + 8) % 8)) 2) 18 1 (Int32.ofNat ((q + 1) % 8)) o i = I o i := fun o i h => by
      rw [sI_o (by omega), cp_o _ _ _ _ _ (by omega)]
    have hK : ∀ o i, o ≠ 160 → (o ≠ 153 ∨ i ≠ 19) → cpK (shK K) (153 + 4) 0 (153 + 7) 210 o i = K o i := fun o i h1 h2 => by
      rw [cpK_o (by omega), shK_e, if_neg (by omega)]
    have RR : Rel T0 T1 (sI (cp I (18 + 1 + 1 + 8 * ((q + 8) % 8)) 2) 18 1 (Int32.ofNat ((q + 1) % 8))) (cpK (shK K) (153 + 4) 0 (153 + 7) 210) := by
      refine R.nh h9 h10 L hI hK ?_ ?_ ?_ ?_
      · rw [sI_k (by decide), cp_o _ _ _ _ _ (by omega), cpK_o (by decide), shK_e, if_neg (by decide), ec, hk]
      · rw [sI_k (by decide), cp_o _ _ _ _ _ (by omega)]; exact h0
      · rw [sI_self, i_of (by omega)]; omega
      · rw [sI_self, sI_k (by decide), cp_o _ _ _ _ _ (by omega), ← hc, i_of (by omega)]
        intro i hi
        rw [show ((((q + 1) % 8 : Nat) : Int)).toNat = (q + 1) % 8 by omega]
        by_cases h7 : i = 7
        · subst h7
          have ei : ((q + 1) % 8 + 7) % 8 = (q + 8) % 8 := by omega
          have es : ∀ j, j < 30 → hs (cpK (shK K) (153 + 4) 0 (153 + 7) 210) 7 j = st K j := fun j hj => by
            unfold hs
            rw [show 30 * 7 + j = 210 + j by omega, cpK_t hj, shK_e, if_neg (by omega), Nat.zero_add]; rfl
          rw [ei]
          refine ⟨?_, L.sv.s h44 es⟩
          refine SR.s ?_ h44 es
          exact (S0 _ (by omega)).cg (fun q' i a b => by rw [sI_o (by omega)])
        · have ei : ((q + 1) % 8 + i) % 8 = (q + (i + 1)) % 8 := by omega
          have es : ∀ j, j < 30 → hs (cpK (shK K) (153 + 4) 0 (153 + 7) 210) i j = hs K (i + 1) j := fun j hj => by
            unfold hs cpK
            rw [if_neg (by omega), shK_e, if_pos (by omega), show 30 * i + j + 30 = 30 * (i + 1) + j by omega]
          have H := R.hr (i + 1) (by omega)
          rw [← hq] at H
          rw [ei]
          refine ⟨?_, H.2.s h44 es⟩
          refine SR.s ?_ h44 es
          have hne : (q + (i + 1)) % 8 ≠ (q + 8) % 8 := by omega
          exact H.1.cg (fun q' j a b => by rw [sI_o (by omega), cp_o _ _ _ _ _ (by omega)])
    refine ⟨RR, hI, hK, ?_⟩
    rcases RR.ld with h | h
    · have := h.1; rw [hI _ _ (by omega), h9] at this; exact absurd this (by decide)
    · exact h.2.2
  · have hc8 : c < 8 := by omega
    rw [if_neg (by rw [i8, i_ole (by omega) (by omega)]; omega)] at keep
    refine ⟨_, _, keep, m_rem hn hc8 hk, ?_⟩
    have hI : ∀ o i, ¬ (18 ≤ o ∧ o < 84) → sI (cp I (18 + 1 + 1 + 8 * ((q + c) % 8)) 2) 18 2 (Int32.ofNat (c + 1)) o i = I o i := fun o i h => by
      rw [sI_o (by omega), cp_o _ _ _ _ _ (by omega)]
    have hK : ∀ o i, o ≠ 160 → (o ≠ 153 ∨ i ≠ 19) → sI (cpK K (153 + 4) 0 (153 + 7) (30 * c)) 153 19 (Int32.ofNat (c + 1)) o i = K o i := fun o i h1 h2 => by
      rw [sI_get, if_neg (by omega), cpK_o (by omega)]
    have RR : Rel T0 T1 (sI (cp I (18 + 1 + 1 + 8 * ((q + c) % 8)) 2) 18 2 (Int32.ofNat (c + 1))) (sI (cpK K (153 + 4) 0 (153 + 7) (30 * c)) 153 19 (Int32.ofNat (c + 1))) := by
      refine R.nh h9 h10 L hI hK ?_ ?_ ?_ ?_
      · rw [sI_self, sI_self]
      · rw [sI_self, i_of (by omega)]; omega
      · rw [sI_k (by decide), cp_o _ _ _ _ _ (by omega)]; exact ho
      · rw [sI_self, sI_k (by decide), cp_o _ _ _ _ _ (by omega), ← hq, i_of (by omega)]
        intro i hi
        by_cases h7 : i = c
        · subst h7
          have es : ∀ j, j < 30 → hs (sI (cpK K (153 + 4) 0 (153 + 7) (30 * i)) 153 19 (Int32.ofNat (i + 1))) i j = st K j := fun j hj => by
            unfold hs
            rw [sI_o (by decide), cpK_t hj, Nat.zero_add]; rfl
          refine ⟨?_, L.sv.s h44 es⟩
          refine SR.s ?_ h44 es
          exact (S0 _ (by omega)).cg (fun q' i a b => by rw [sI_o (by omega)])
        · have es : ∀ j, j < 30 → hs (sI (cpK K (153 + 4) 0 (153 + 7) (30 * c)) 153 19 (Int32.ofNat (c + 1))) i j = hs K i j := fun j hj => by
            unfold hs
            rw [sI_o (by decide)]
            unfold cpK
            rw [if_neg (by omega)]
          have H := R.hr i (by omega)
          rw [← hq] at H
          refine ⟨?_, H.2.s h44 es⟩
          refine SR.s ?_ h44 es
          have hne : (q + i) % 8 ≠ (q + c) % 8 := by omega
          exact H.1.cg (fun q' j a b => by rw [sI_o (by omega), cp_o _ _ _ _ _ (by omega)])
    refine ⟨RR, hI, hK, ?_⟩
    rcases RR.ld with h | h
    · have := h.1; rw [hI _ _ (by omega), h9] at this; exact absurd this (by decide)
    · exact h.2.2
end FACEG
