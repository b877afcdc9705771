/-! LINES -/
def pn (K : gI) : gP := fun i => K (153 + 3) i
def dn (K : gI) : gP := fun i => K (153 + 5) i
/-- what is read so far, by both -/
def DR (T1 o : Nat) (I K : gI) : Prop := (PV (pn K)) ∧ (TR I T1 (pn K)) ∧ (SR I 10 (pn K) (dn K)) ∧ (SV (pn K) (dn K)) ∧ (I o 10 = pn K 41) ∧ (I o 11 = K 153 20) ∧ (I o 12 = K 153 21) ∧ (I o 13 = K 153 22) ∧ (∀ k, k < 4 → (pn K 4).toInt.toNat ≤ k → pn K (37 + k) = 0 ∧ dn K (22 + k) = 0 ∧ dn K (26 + k) = 0) ∧ (∀ c, c < (pn K 41).toInt.toNat → 0 ≤ (pn K (42 + 3 * c)).toInt ∧ (pn K (42 + 3 * c)).toInt < (pn K 4).toInt) ∧ (∀ k, k < (pn K 4).toInt.toNat → (I (T1 + 1 + 5 + 3 * k) 8).toInt ≤ (pn K 41).toInt)
theorem DR.pv {T1 o : Nat} {I K : gI} (H : DR T1 o I K) : PV (pn K) := H.1
theorem DR.tr {T1 o : Nat} {I K : gI} (H : DR T1 o I K) : TR I T1 (pn K) := H.2.1
theorem DR.sr {T1 o : Nat} {I K : gI} (H : DR T1 o I K) : SR I 10 (pn K) (dn K) := H.2.2.1
theorem DR.sv {T1 o : Nat} {I K : gI} (H : DR T1 o I K) : SV (pn K) (dn K) := H.2.2.2.1
theorem DR.cc {T1 o : Nat} {I K : gI} (H : DR T1 o I K) : I o 10 = pn K 41 := H.2.2.2.2.1
theorem DR.td {T1 o : Nat} {I K : gI} (H : DR T1 o I K) : I o 11 = K 153 20 := H.2.2.2.2.2.1
theorem DR.tf {T1 o : Nat} {I K : gI} (H : DR T1 o I K) : I o 12 = K 153 21 := H.2.2.2.2.2.2.1
theorem DR.th {T1 o : Nat} {I K : gI} (H : DR T1 o I K) : I o 13 = K 153 22 := H.2.2.2.2.2.2.2.1
theorem DR.zs {T1 o : Nat} {I K : gI} (H : DR T1 o I K) : ∀ k, k < 4 → (pn K 4).toInt.toNat ≤ k → pn K (37 + k) = 0 ∧ dn K (22 + k) = 0 ∧ dn K (26 + k) = 0 := H.2.2.2.2.2.2.2.2.1
theorem DR.cs {T1 o : Nat} {I K : gI} (H : DR T1 o I K) : ∀ c, c < (pn K 41).toInt.toNat → 0 ≤ (pn K (42 + 3 * c)).toInt ∧ (pn K (42 + 3 * c)).toInt < (pn K 4).toInt := H.2.2.2.2.2.2.2.2.2.1
theorem DR.ck {T1 o : Nat} {I K : gI} (H : DR T1 o I K) : ∀ k, k < (pn K 4).toInt.toNat → (I (T1 + 1 + 5 + 3 * k) 8).toInt ≤ (pn K 41).toInt := H.2.2.2.2.2.2.2.2.2.2
theorem DR.mk {T1 o : Nat} {I K : gI} (x_pv : PV (pn K)) (x_tr : TR I T1 (pn K)) (x_sr : SR I 10 (pn K) (dn K)) (x_sv : SV (pn K) (dn K)) (x_cc : I o 10 = pn K 41) (x_td : I o 11 = K 153 20) (x_tf : I o 12 = K 153 21) (x_th : I o 13 = K 153 22) (x_zs : ∀ k, k < 4 → (pn K 4).toInt.toNat ≤ k → pn K (37 + k) = 0 ∧ dn K (22 + k) = 0 ∧ dn K (26 + k) = 0) (x_cs : ∀ c, c < (pn K 41).toInt.toNat → 0 ≤ (pn K (42 + 3 * c)).toInt ∧ (pn K (42 + 3 * c)).toInt < (pn K 4).toInt) (x_ck : ∀ k, k < (pn K 4).toInt.toNat → (I (T1 + 1 + 5 + 3 * k) 8).toInt ≤ (pn K 41).toInt) : DR T1 o I K := by
  unfold DR
  exact ⟨x_pv, x_tr, x_sr, x_sv, x_cc, x_td, x_tf, x_th, x_zs, x_cs, x_ck⟩
def TB (I : gI) : Prop := ∀ k, k < 4 → I (10 + 1) k = 0 ∨ I (10 + 1) k = 1
/-- only what is being read has changed -/
def GR (T1 o : Nat) (I K I' K' : gI) : Prop := (∀ a i, a ≠ o → ¬ (T1 ≤ a ∧ a < T1 + 21) → ¬ (10 ≤ a ∧ a < 18) → I' a i = I a i) ∧ (∀ a i, a ≠ 156 → a ≠ 158 → (a ≠ 153 ∨ i < 4 ∨ (9 < i ∧ ¬ (20 ≤ i ∧ i ≤ 22))) → K' a i = K a i) ∧ (TB I → TB I')
theorem GR.rfl' {T1 o : Nat} {I K : gI} : GR T1 o I K I K := ⟨fun _ _ _ _ _ => rfl, fun _ _ _ _ _ => rfl, fun h => h⟩
theorem GR.trans {T1 o : Nat} {I K I' K' I'' K'' : gI} (h : GR T1 o I K I' K') (h' : GR T1 o I' K' I'' K'') : GR T1 o I K I'' K'' :=
  ⟨fun a i x y z => (h'.1 a i x y z).trans (h.1 a i x y z), fun a i x y z => (h'.2.1 a i x y z).trans (h.2.1 a i x y z), fun t => h'.2.2 (h.2.2 t)⟩
theorem FR.gr {T1 o : Nat} {I K I' K' : gI} (h : FR I K I' K' o) (ho : 172 ≤ o) : GR T1 o I K I' K' :=
  ⟨fun a i x _ _ => h.1 a i (Or.inl x), fun a i _ _ z => h.2 a i (by omega), fun t k hk => by rw [h.1 _ _ (Or.inl (by omega))]; exact t k hk⟩
theorem DR.fr {T1 o : Nat} {I K I' K' : gI} (D : DR T1 o I K) (h : FR I K I' K' o) (ht : T1 = 95 ∨ T1 = 116) (ho : 172 ≤ o) : DR T1 o I' K' := by
  have ep : pn K' = pn K := by funext i; exact h.2 _ _ (Or.inl (by decide))
  have ed : dn K' = dn K := by funext i; exact h.2 _ _ (Or.inl (by decide))
  have hI : ∀ a i, a ≠ o → I' a i = I a i := fun a i x => h.1 a i (Or.inl x)
  have c4 := D.pv.c.2
  refine DR.mk ?_ ?_ ?_ ?_ ?_ ?_ ?_ ?_ ?_ ?_ ?_
  · rw [ep]; exact D.pv
  · rw [ep]; exact D.tr.cg c4 D.pv.sh.2 (fun q i a b => hI _ _ (by omega))
  · rw [ep, ed]; exact D.sr.cg (fun q i a b => hI _ _ (by omega))
  · rw [ep, ed]; exact D.sv
  · rw [ep, h.1 _ _ (Or.inr (by decide))]; exact D.cc
  · rw [h.1 _ _ (Or.inr (by decide)), h.2 _ _ (Or.inr (Or.inr (by decide)))]; exact D.td
  · rw [h.1 _ _ (Or.inr (by decide)), h.2 _ _ (Or.inr (Or.inr (by decide)))]; exact D.tf
  · rw [h.1 _ _ (Or.inr (by decide)), h.2 _ _ (Or.inr (Or.inr (by decide)))]; exact D.th
  · rw [ep, ed]; exact D.zs
  · rw [ep]; exact D.cs
  · rw [ep]; intro k hk; rw [hI _ _ (by omega)]; exact D.ck k hk
/-- data laid elsewhere leave the readers as they are -/
theorem PS.cg {E q o : Nat} {I K I' K' : gI} (P : PS E q I K o) (hI : ∀ i, i < 10 → I' o i = I o i) (h1 : ∀ i, I' 1 i = I 1 i) (hK : ∀ i, 3 ≤ i → i < 10 → K' 153 i = K 153 i) (hB : ∀ i, K' (153 + 1) i = K (153 + 1) i) : PS E q I' K' o := by
  obtain ⟨ho, B, h3, k3, h5, h6, h0, t⟩ := P
  refine ⟨ho, ⟨B.1, fun i hi => ?_⟩, ?_, ?_, ?_, ?_, ?_, fun z => ?_⟩
  · rw [h1, hB]; exact B.2 i hi
  · rw [hI _ (by decide)]; exact h3
  · rw [hK _ (by decide) (by decide)]; exact k3
  · rw [hI _ (by decide), hK _ (by decide) (by decide)]; exact h5
  · rw [hI _ (by decide), hK _ (by decide) (by decide)]; exact h6
  · rw [hI _ (by decide)]; exact h0
  · rw [hI _ (by decide)] at z
    obtain ⟨s, t1, t2, t3, t4, t5, t6, tk⟩ := t z
    refine ⟨s, t1, t2, ?_, ?_, ?_, ?_, ?_⟩
    · rw [hI _ (by decide)]; exact t3
    · rw [hK _ (by decide) (by decide)]; exact t4
    · rw [hI _ (by decide)]; exact t5
    · rw [hK _ (by decide) (by decide)]; exact t6
    · unfold TKk
      rw [hI _ (by decide), hI _ (by decide), hK _ (by decide) (by decide), hK _ (by decide) (by decide)]; exact tk
theorem dn_up (K : gI) (t : Nat) (v : Int32) : dn (sI K (153 + 5) t v) = up (dn K) t v := by
  funext i; unfold dn up; rw [sI_get]
  by_cases h : i = t
  · rw [if_pos ⟨rfl, h⟩, if_pos h]
  · rw [if_neg (fun q => h q.2), if_neg h]
theorem pn_up (K : gI) (t : Nat) (v : Int32) : pn (sI K (153 + 3) t v) = up (pn K) t v := by
  funext i; unfold pn up; rw [sI_get]
  by_cases h : i = t
  · rw [if_pos ⟨rfl, h⟩, if_pos h]
  · rw [if_neg (fun q => h q.2), if_neg h]
theorem pn_o {K : gI} {a t : Nat} {v : Int32} (h : a ≠ 156) : pn (sI K a t v) = pn K := by
  funext i; unfold pn; rw [sI_o (by omega)]
theorem dn_o {K : gI} {a t : Nat} {v : Int32} (h : a ≠ 158) : dn (sI K a t v) = dn K := by
  funext i; unfold dn; rw [sI_o (by omega)]
/-- a line: both read it -/
def LN (n T1 o E q : Nat) (I K : gI) (c m : Option gI) : Prop := ∃ I' K' q', c = some I' ∧ m = some K' ∧ PS E q' I' K' o ∧ GR T1 o I K I' K' ∧ (I' o 0 = 0 → DR T1 o I' K' ∧ q ≤ q')
section LINES
variable {n T1 o E q : Nat} {I K : gI}
theorem src_kk {p : gP} (hp : PV p) {v : Int32} (h0 : 0 ≤ v.toInt) (h1 : v.toInt < (p 4).toInt) : ∃ k, k < (p 4).toInt.toNat ∧ k < 4 ∧ v = Int32.ofNat k := by
  have := hp.c
  exact ⟨v.toInt.toNat, by omega, by omega, (i_on h0).symm⟩
theorem l_off (hn : 2000 ≤ n) (P : PS E q I K o) (ok : I o 0 = 0) (D : DR T1 o I K) (ht : T1 = 95 ∨ T1 = 116) : LN n T1 o E q I K (F_X3_readOff n T1 o I) (F_X10_readOff n K) := by
  have ho := P.1
  obtain ⟨I1, K1, q1, e1, f1, P1, r1, ok1, hq1, _⟩ := nx (T1 := T1) hn (P.nx ok)
  have D1 := D.fr r1 ht ho
  obtain ⟨v, w, I2, K2, q2, e2, f2, P2, r2, h2⟩ := so hn P1 ok1 D1.pv.c.1 D1.tr.c (by omega) rfl (I1 o 12)
  unfold F_X3_readOff F_X10_readOff
  rw [e1, f1, bd_s, bd_s, ← D1.tf, e2, f2, bd_s, bd_s]
  dsimp only
  have g2 : GR T1 o I K I2 K2 := (r1.gr ho).trans (r2.gr ho)
  by_cases ok2 : I2 o 0 = 0
  · obtain ⟨_, rfl, v0, v1, hq2⟩ := h2 ok2
    have D2 := D1.fr r2 ht ho
    obtain ⟨k, hk, hk4, rfl⟩ := src_kk D1.pv v0 v1
    have hk' : k < (pn K2 4).toInt.toNat := by
      have : pn K2 = pn K1 := by funext i; exact r2.2 _ _ (Or.inl (by decide))
      rw [this]; exact hk
    rw [if_pos ok2, if_pos (by rw [P2.ok5 ok2]; decide), gv_o hk4, ix_2, gv_o (by omega), i_tno (by omega), i_tno (by omega), D2.tf]
    refine ⟨_, _, q2, rfl, rfl, P2.cg (fun i hi => ?_) (fun i => ?_) (fun i h3 h10 => ?_) (fun i => ?_), g2.trans ⟨fun a i x y z => ?_, fun a i x y z => ?_, fun t k' hk' => ?_⟩, fun _ => ⟨DR.mk ?_ ?_ ?_ ?_ ?_ ?_ ?_ ?_ ?_ ?_ ?_, by omega⟩⟩
    · rw [sI_o (by omega), sI_k (by omega)]
    · rw [sI_o (by decide), sI_o (by omega)]
    · rw [sI_o (by decide), sI_k (by omega)]
    · rw [sI_o (by decide), sI_o (by decide)]
    · rw [sI_o (by omega), sI_o x]
    · rw [sI_o (by omega), sI_get, if_neg (by omega)]
    · rw [sI_get]
      by_cases h : k' = k
      · rw [if_pos ⟨rfl, h⟩]; exact Or.inl rfl
      · rw [if_neg (fun q => h q.2), sI_o (by omega)]; exact t k' hk'
    · rw [pn_o (by decide), pn_o (by decide)]; exact D2.pv
    · rw [pn_o (by decide), pn_o (by decide)]; exact D2.tr.cg D2.pv.c.2 D2.pv.sh.2 (fun q i a b => by rw [sI_o (by omega), sI_o (by omega)])
    · rw [pn_o (by decide), pn_o (by decide), dn_up, dn_o (by decide)]
      exact SR.uon (D2.sr.cg (fun q i a b => by rw [sI_o (by omega)])) D2.pv.c.2 hk4 0 (Or.inl rfl)
    · rw [pn_o (by decide), pn_o (by decide), dn_up, dn_o (by decide)]
      exact D2.sv.uon D2.pv.c.2 hk4 (Or.inl rfl)
    · rw [sI_o (by omega), sI_k (by decide), pn_o (by decide), pn_o (by decide)]; exact D2.cc
    · rw [sI_o (by omega), sI_k (by decide), sI_o (by decide), sI_k (by decide)]; exact D2.td
    · rw [sI_o (by omega), sI_self, sI_o (by decide), sI_self]
    · rw [sI_o (by omega), sI_k (by decide), sI_o (by decide), sI_k (by decide)]; exact D2.th
    · rw [pn_o (by decide), pn_o (by decide), dn_up, dn_o (by decide)]
      intro k' h4 hge
      rw [up_o (by omega), up_o (by omega)]; exact D2.zs k' h4 hge
    · rw [pn_o (by decide), pn_o (by decide)]; exact D2.cs
    · rw [pn_o (by decide), pn_o (by decide)]; intro k' hk'; have := D2.pv.c.2; rw [sI_o (by omega), sI_o (by omega)]; exact D2.ck k' hk'
  · rw [if_neg ok2, if_neg (P2.er ok2).1]
    exact ⟨I2, K2, q2, rfl, rfl, P2, g2, fun z => absurd z ok2⟩
theorem l_drift (hn : 2000 ≤ n) (P : PS E q I K o) (ok : I o 0 = 0) (D : DR T1 o I K) (ht : T1 = 95 ∨ T1 = 116) : LN n T1 o E q I K (F_X3_readDrift n T1 o I) (F_X10_readDrift n K) := by
  have ho := P.1
  obtain ⟨I1, K1, q1, e1, f1, P1, r1, ok1, hq1, _⟩ := nx (T1 := T1) hn (P.nx ok)
  have D1 := D.fr r1 ht ho
  obtain ⟨v, w, I2, K2, q2, e2, f2, P2, r2, h2⟩ := so hn P1 ok1 D1.pv.c.1 D1.tr.c (by omega) rfl (I1 o 11)
  obtain ⟨a, a', I3, K3, q3, e3, f3, P3, r3, h3⟩ := sg (T1 := T1) hn P2
  obtain ⟨b, b', I4, K4, q4, e4, f4, P4, r4, h4⟩ := sg (T1 := T1) hn P3
  unfold F_X3_readDrift F_X10_readDrift
  rw [e1, f1, bd_s, bd_s, ← D1.td, e2, f2, bd_s, bd_s]
  dsimp only
  rw [e3, f3, bd_s, bd_s]
  dsimp only
  rw [e4, f4, bd_s, bd_s]
  dsimp only
  have r := ((r2.trans r3).trans r4)
  have g2 : GR T1 o I K I4 K4 := (r1.gr ho).trans (r.gr ho)
  by_cases ok4 : I4 o 0 = 0
  · obtain ⟨ok3, rfl, hq4⟩ := h4 ok4
    obtain ⟨ok2, rfl, hq3⟩ := h3 ok3
    obtain ⟨_, rfl, v0, v1, hq2⟩ := h2 ok2
    have D2 := D1.fr r ht ho
    obtain ⟨k, hk, hk4, rfl⟩ := src_kk D1.pv v0 v1
    have ep : pn K4 = pn K1 := by funext i; exact r.2 _ _ (Or.inl (by decide))
    have hk' : k < (pn K4 4).toInt.toNat := by rw [ep]; exact hk
    rw [if_pos ok4, if_pos (by rw [P4.ok5 ok4]; decide), gv_o hk4, gv_o hk4, ix_22, ix_26, gv_o (by omega), gv_o (by omega), i_tno (by omega), i_tno (by omega), i_tno (by omega), D2.td]
    refine ⟨_, _, q4, rfl, rfl, P4.cg (fun i hi => ?_) (fun i => ?_) (fun i h3 h10 => ?_) (fun i => ?_), g2.trans ⟨fun a i x y z => ?_, fun a i x y z => ?_, fun t k' hk' => ?_⟩, fun _ => ⟨DR.mk ?_ ?_ ?_ ?_ ?_ ?_ ?_ ?_ ?_ ?_ ?_, by omega⟩⟩
    · rw [sI_o (by omega), sI_o (by omega), sI_k (by omega)]
    · rw [sI_o (by decide), sI_o (by decide), sI_o (by omega)]
    · rw [sI_o (by decide), sI_o (by decide), sI_k (by omega)]
    · rw [sI_o (by decide), sI_o (by decide), sI_o (by decide)]
    · rw [sI_o (by omega), sI_o (by omega), sI_o x]
    · rw [sI_o (by omega), sI_o (by omega), sI_get, if_neg (by omega)]
    · rw [sI_o (by decide), sI_o (by decide), sI_o (by omega)]; exact t k' hk'
    · rw [pn_o (by decide), pn_o (by decide), pn_o (by decide)]; exact D2.pv
    · rw [pn_o (by decide), pn_o (by decide), pn_o (by decide)]; exact D2.tr.cg D2.pv.c.2 D2.pv.sh.2 (fun q i a b => by rw [sI_o (by omega), sI_o (by omega), sI_o (by omega)])
    · rw [pn_o (by decide), pn_o (by decide), pn_o (by decide), dn_up, dn_up, dn_o (by decide)]
      exact SR.uvy (SR.uvx (D2.sr.cg (fun q i a b => by rw [sI_o (by omega)])) D2.pv.c.2 hk4 _) D2.pv.c.2 hk4 _
    · rw [pn_o (by decide), pn_o (by decide), pn_o (by decide), dn_up, dn_up, dn_o (by decide)]
      exact (D2.sv.u D2.pv.c.2 (by omega) _).u D2.pv.c.2 (by omega) _
    · rw [sI_o (by omega), sI_o (by omega), sI_k (by decide), pn_o (by decide), pn_o (by decide), pn_o (by decide)]; exact D2.cc
    · rw [sI_o (by omega), sI_o (by omega), sI_self, sI_o (by decide), sI_o (by decide), sI_self]
    · rw [sI_o (by omega), sI_o (by omega), sI_k (by decide), sI_o (by decide), sI_o (by decide), sI_k (by decide)]; exact D2.tf
    · rw [sI_o (by omega), sI_o (by omega), sI_k (by decide), sI_o (by decide), sI_o (by decide), sI_k (by decide)]; exact D2.th
    · rw [pn_o (by decide), pn_o (by decide), pn_o (by decide), dn_up, dn_up, dn_o (by decide)]
      intro k' h4 hge
      rw [up_o (by omega), up_o (by omega), up_o (by omega), up_o (by omega)]; exact D2.zs k' h4 hge
    · rw [pn_o (by decide), pn_o (by decide), pn_o (by decide)]; exact D2.cs
    · rw [pn_o (by decide), pn_o (by decide), pn_o (by decide)]; intro k' hk'; have := D2.pv.c.2; rw [sI_o (by omega), sI_o (by omega), sI_o (by omega)]; exact D2.ck k' hk'
  · rw [if_neg ok4, if_neg (P4.er ok4).1]
    exact ⟨I4, K4, q4, rfl, rfl, P4, g2, fun z => absurd z ok4⟩
theorem or_all : ∀ a : Fin 1024, ∀ r : Fin 10, 0 ≤ (Int32.ofNat a.1 ||| ((1 : Int32) <<< (Int32.ofNat r.1 &&& 31))).toInt ∧ (Int32.ofNat a.1 ||| ((1 : Int32) <<< (Int32.ofNat r.1 &&& 31))).toInt < 1024 := by decide +kernel
theorem or_b {v : Int32} {r : Nat} (h0 : 0 ≤ v.toInt ∧ v.toInt < 1024) (h1 : r < 10) : 0 ≤ (v ||| ((1 : Int32) <<< (Int32.ofNat r &&& 31))).toInt ∧ (v ||| ((1 : Int32) <<< (Int32.ofNat r &&& 31))).toInt < 1024 := by
  have := or_all ⟨v.toInt.toNat, by omega⟩ ⟨r, h1⟩
  rw [i_on h0.1] at this
  exact this
/-- only the open rows have changed -/
theorem DR.op (D : DR T1 o I K) (ht : T1 = 95 ∨ T1 = 116) (ho : 172 ≤ o) {v : Int32} (hv : 0 ≤ v.toInt ∧ v.toInt < 1024) : DR T1 o (sI I 10 1 v) (sI K (153 + 5) 1 v) := by
  refine DR.mk ?_ ?_ ?_ ?_ ?_ ?_ ?_ ?_ ?_ ?_ ?_
  · rw [pn_o (by decide)]; exact D.pv
  · rw [pn_o (by decide)]; exact D.tr.cg D.pv.c.2 D.pv.sh.2 (fun q i a b => by rw [sI_o (by omega)])
  · rw [pn_o (by decide), dn_up]; exact SR.uop D.sr D.pv.c.2 v
  · rw [pn_o (by decide), dn_up]; exact D.sv.uop D.pv.c.2 hv
  · rw [sI_o (by omega), pn_o (by decide)]; exact D.cc
  · rw [sI_o (by omega), sI_o (by decide)]; exact D.td
  · rw [sI_o (by omega), sI_o (by decide)]; exact D.tf
  · rw [sI_o (by omega), sI_o (by decide)]; exact D.th
  · rw [pn_o (by decide), dn_up]
    intro k' h4 hge
    rw [up_o (by omega), up_o (by omega)]; exact D.zs k' h4 hge
  · rw [pn_o (by decide)]; exact D.cs
  · rw [pn_o (by decide)]; intro k' hk'; have := D.pv.c.2; rw [sI_o (by omega)]; exact D.ck k' hk'
theorem l_slit (hn : 2000 ≤ n) (P : PS E q I K o) (ok : I o 0 = 0) (D : DR T1 o I K) (ht : T1 = 95 ∨ T1 = 116) : LN n T1 o E q I K (F_X3_readSlit n T1 o I) (F_X10_readSlit n K) := by
  have ho := P.1
  obtain ⟨I1, K1, q1, e1, f1, P1, r1, ok1, hq1, _⟩ := nx (T1 := T1) hn (P.nx ok)
  have D1 := D.fr r1 ht ho
  have hh := D1.pv.h
  have em : (pn K1 1 - 1).toInt = (pn K1 1).toInt - 1 := i_m1 (by omega)
  have kw3 : K1 (153 + 3) 3 = pn K1 3 := rfl
  have kw1 : K1 (153 + 3) 1 = pn K1 1 := rfl
  -- the rows from one to another
  have rows : ∀ (hi x1 : Int32) (d a j : Nat) (x2 x3 : Int32) (I2 K2 : gI), PS E q1 I2 K2 o → I2 o 0 = 0 → DR T1 o I2 K2 → GR T1 o I K I2 K2 → x3.toInt = a + d - 1 → a + d ≤ 10 → d < j → ∃ I' K', L_X3_readSlit n T1 o j 0 x1 x2 x3 (Int32.ofNat a) I2 = some I' ∧ L_X10_readSlit n j 0 hi x2 x3 (Int32.ofNat a) K2 = some K' ∧ PS E q1 I' K' o ∧ GR T1 o I K I' K' ∧ I' o 0 = 0 ∧ DR T1 o I' K' := by
    intro hi x1 d
    induction d with
    | zero =>
      intro a j x2 x3 I2 K2 P2 ok2 D2 g2 hx ha hj
      obtain ⟨j, rfl⟩ : ∃ i, j = i + 1 := ⟨j - 1, by omega⟩
      have hlt : x3 < Int32.ofNat a := by rw [i_lt, i_of (by omega)]; omega
      refine ⟨I2, K2, ?_, ?_, P2, g2, ok2, D2⟩
      · rw [L_X3_readSlit_e0, if_pos hlt]
      · rw [L_X10_readSlit_e0, if_pos hlt]
    | succ d ih =>
      intro a j x2 x3 I2 K2 P2 ok2 D2 g2 hx ha hj
      obtain ⟨j, rfl⟩ : ∃ i, j = i + 1 := ⟨j - 1, by omega⟩
      have hlt : ¬ (x3 < Int32.ofNat a) := by rw [i_lt, i_of (by omega)]; omega
      have eo : I2 10 1 = K2 (153 + 5) 1 := D2.sr.op
      rw [L_X3_readSlit_e0, if_neg hlt, L_X10_readSlit_e0, if_neg hlt, if_pos (P2.ok5 ok2), ixp_1, eo]
      have ov := or_b (r := a) D2.sv.o (by omega)
      refine ih (a + 1) j x2 x3 _ _ (P2.cg (fun i hi => by rw [sI_o (by omega)]) (fun i => by rw [sI_o (by decide)]) (fun i _ _ => by rw [sI_o (by decide)]) (fun i => by rw [sI_o (by decide)])) (by rw [sI_o (by omega)]; exact ok2) (D2.op ht ho ov) (g2.trans ⟨fun a i x y z => by rw [sI_o (by omega)], fun a i x y z => by rw [sI_o (by omega)], fun t k hk => by rw [sI_o (by decide)]; exact t k hk⟩) (by omega) (by omega) (by omega)
  have body : ∀ (hi : Int32), (hi.toInt ≤ 9) → ∃ I' K' q', bd (F_X3_readNumber n T1 o I1 (0 : Int32) hi) (fun v32 => bd (F_X3_readNumber n T1 o v32.2 v32.1 hi) (fun v39 => (if (v39.2 o 0) = 0 then L_X3_readSlit n T1 o n 0 hi v32.1 v39.1 v32.1 v39.2 else some v39.2))) = some I' ∧ bd (F_X10_number n K1 (0 : Int32) hi) (fun v30 => bd (F_X10_number n v30.2 v30.1 hi) (fun v37 => L_X10_readSlit n n 0 hi v30.1 v37.1 v30.1 v37.2)) = some K' ∧ PS E q' I' K' o ∧ GR T1 o I K I' K' ∧ (I' o 0 = 0 → DR T1 o I' K' ∧ q ≤ q') := by
    intro hi hh9
    obtain ⟨v, w, I2, K2, q2, e2, f2, P2, r2, h2, er2⟩ := nm (T1 := T1) hn P1 (l := 0) (u := hi) (l' := 0) (Or.inl rfl)
    rw [e2, f2, bd_s, bd_s]
    dsimp only
    by_cases ok2 : I2 o 0 = 0
    · obtain ⟨_, rfl, v0, v1, hq2⟩ := h2 ok2
      obtain ⟨v', w', I3, K3, q3, e3, f3, P3, r3, h3, er3⟩ := nm (T1 := T1) hn P2 (l := v) (u := hi) (l' := v) (Or.inl rfl)
      rw [e3, f3, bd_s, bd_s]
      dsimp only
      have g3 : GR T1 o I K I3 K3 := ((r1.gr ho).trans (r2.gr ho)).trans (r3.gr ho)
      by_cases ok3 : I3 o 0 = 0
      · obtain ⟨_, rfl, u0, u1, hq3⟩ := h3 ok3
        rw [if_pos ok3]
        have D3 := D1.fr (r2.trans r3) ht ho
        rw [ii_0] at v0
        have ev : v = Int32.ofNat v.toInt.toNat := (i_on v0).symm
        have P3' : PS E q3 I3 K3 o := P3
        -- rows keeps the place
        have rw3 : ∀ (d a j : Nat) (x2 x3 : Int32) (I2 K2 : gI), PS E q3 I2 K2 o → I2 o 0 = 0 → DR T1 o I2 K2 → GR T1 o I K I2 K2 → x3.toInt = a + d - 1 → a + d ≤ 10 → d < j → ∃ I' K', L_X3_readSlit n T1 o j 0 hi x2 x3 (Int32.ofNat a) I2 = some I' ∧ L_X10_readSlit n j 0 hi x2 x3 (Int32.ofNat a) K2 = some K' ∧ PS E q3 I' K' o ∧ GR T1 o I K I' K' ∧ I' o 0 = 0 ∧ DR T1 o I' K' := by
          intro d
          induction d with
          | zero =>
            intro a j x2 x3 I2 K2 P2 ok2 D2 g2 hx ha hj
            obtain ⟨j, rfl⟩ : ∃ i, j = i + 1 := ⟨j - 1, by omega⟩
            have hlt : x3 < Int32.ofNat a := by rw [i_lt, i_of (by omega)]; omega
            refine ⟨I2, K2, ?_, ?_, P2, g2, ok2, D2⟩
            · rw [L_X3_readSlit_e0, if_pos hlt]
            · rw [L_X10_readSlit_e0, if_pos hlt]
          | succ d ih =>
            intro a j x2 x3 I2 K2 P2 ok2 D2 g2 hx ha hj
            obtain ⟨j, rfl⟩ : ∃ i, j = i + 1 := ⟨j - 1, by omega⟩
            have hlt : ¬ (x3 < Int32.ofNat a) := by rw [i_lt, i_of (by omega)]; omega
            have eo : I2 10 1 = K2 (153 + 5) 1 := D2.sr.op
            rw [L_X3_readSlit_e0, if_neg hlt, L_X10_readSlit_e0, if_neg hlt, if_pos (P2.ok5 ok2), ixp_1, eo]
            have ov := or_b (r := a) D2.sv.o (by omega)
            refine ih (a + 1) j x2 x3 _ _ (P2.cg (fun i hi => by rw [sI_o (by omega)]) (fun i => by rw [sI_o (by decide)]) (fun i _ _ => by rw [sI_o (by decide)]) (fun i => by rw [sI_o (by decide)])) (by rw [sI_o (by omega)]; exact ok2) (D2.op ht ho ov) (g2.trans ⟨fun a i x y z => by rw [sI_o (by omega)], fun a i x y z => by rw [sI_o (by omega)], fun t k hk => by rw [sI_o (by decide)]; exact t k hk⟩) (by omega) (by omega) (by omega)
        obtain ⟨I', K', a1, a2, a3, a4, a5, a6⟩ := rw3 (v'.toInt.toNat + 1 - v.toInt.toNat) v.toInt.toNat n v v' I3 K3 P3' ok3 D3 g3 (by omega) (by omega) (by omega)
        rw [← ev] at a1 a2
        exact ⟨I', K', q3, a1, a2, a3, a4, fun _ => ⟨a6, by omega⟩⟩
      · rw [if_neg ok3]
        have e4 : ∀ a b : Int32, L_X10_readSlit n n 0 hi a w' b K3 = some K3 := by
          intro a b
          obtain ⟨j, hj⟩ : ∃ j, n = j + 1 := ⟨n - 1, by omega⟩
          have := L_X10_readSlit_e0 n j hi a w' b K3
          rw [← hj] at this
          rw [this]
          by_cases c : w' < b
          · rw [if_pos c]
          · rw [if_neg c, if_neg (P3.er ok3).2.1]
        rw [e4]
        exact ⟨I3, K3, q3, rfl, rfl, P3, g3, fun z => absurd z ok3⟩
    · have e3 : F_X3_readNumber n T1 o I2 v hi = some (-1, I2) := by unfold F_X3_readNumber; rw [if_neg ok2]
      have f3 : F_X10_number n K2 w hi = some (w, K2) := by
        unfold F_X10_number
        rw [lk_er P2 ok2, bd_s]
        dsimp only
        rw [nx_er P2 ok2, bd_s]
      rw [e3, f3, bd_s, bd_s]
      dsimp only
      rw [if_neg ok2]
      have e4 : ∀ a b : Int32, L_X10_readSlit n n 0 hi a w b K2 = some K2 := by
        intro a b
        obtain ⟨j, hj⟩ : ∃ j, n = j + 1 := ⟨n - 1, by omega⟩
        have := L_X10_readSlit_e0 n j hi a w b K2
        rw [← hj] at this
        rw [this]
        by_cases c : w < b
        · rw [if_pos c]
        · rw [if_neg c, if_neg (P2.er ok2).2.1]
      rw [e4]
      exact ⟨I2, K2, q2, rfl, rfl, P2, (r1.gr ho).trans (r2.gr ho), fun z => absurd z ok2⟩
  unfold F_X3_readSlit F_X10_readSlit
  rw [e1, f1, bd_s, bd_s, D1.tr.wl, D1.tr.h, kw3, kw1]
  by_cases hw : pn K1 3 = -1
  · rw [if_pos hw, if_pos hw]
    exact body (-1) (by decide)
  · rw [if_neg hw, if_neg hw]
    exact body (pn K1 1 - 1) (by omega)
end LINES
