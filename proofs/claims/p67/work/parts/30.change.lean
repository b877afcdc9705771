/-! CHANGES, and what is taken back -/
def Top (I : gI) (p s : gP) : Prop := 1 ≤ (I 18 2).toInt ∧ SR I (20 + 8 * (((I 18 1).toInt.toNat + (I 18 2).toInt.toNat - 1) % 8)) p s ∧ SV p s
def Sav (I : gI) (p s : gP) (b : Nat) : Prop := I 85 b = 1 ∧ SR I (137 + 8 * b) p s ∧ SV p s
section CHG
variable {n T0 T1 : Nat} {I : gI} {J : gJ} {p s s0 : gP}
/-- the state has changed -/
theorem CI.ns {I' : gI} {s' : gP} (C : CI T0 T1 I p s) (h : ∀ o i, ¬ (2 ≤ o ∧ o < 10) → I' o i = I o i) (S : SR I' 2 p s') (V : SV p s') : CI T0 T1 I' p s' := by
  have ht := C.tt
  have e18 : ∀ i, I' 18 i = I 18 i := fun i => h _ _ (by omega)
  refine ⟨LD.mk C.pv C.ld.c1 (C.ld.tr.cg C.pv.c.2 C.pv.sh.2 (fun q i a b => h _ _ (by omega))) S V, by rw [h _ _ (by omega)]; exact C.h9, fun x y hx hy => by rw [h _ _ (by omega)]; exact C.ru x y hx hy, ht, by rw [e18]; exact C.hc, by rw [e18]; exact C.ho, fun k hk => by rw [h _ _ (by omega)]; exact C.tb k hk⟩
theorem Top.ns {I' : gI} (C : Top I p s0) (h : ∀ o i, ¬ (2 ≤ o ∧ o < 10) → I' o i = I o i) : Top I' p s0 := by
  have e18 : ∀ i, I' 18 i = I 18 i := fun i => h _ _ (by omega)
  obtain ⟨h1, h2, h3⟩ := C
  refine ⟨by rw [e18]; exact h1, ?_, h3⟩
  rw [e18, e18]
  exact h2.cg (fun q i a b => h _ _ (by omega))
theorem Sav.ns {I' : gI} {b : Nat} (C : Sav I p s0 b) (hb : b < 2) (h : ∀ o i, 85 ≤ o → I' o i = I o i) : Sav I' p s0 b := by
  obtain ⟨h1, h2, h3⟩ := C
  exact ⟨by rw [h _ _ (by omega)]; exact h1, h2.cg (fun q i a b => h _ _ (by omega)), h3⟩
theorem keeps (hn : 2000 ≤ n) (C : CI T0 T1 I p s) : ∃ I', F_X0_keep n 2 I = some I' ∧ CI T0 T1 I' p s ∧ Top I' p s ∧ (∀ o i, ¬ (18 ≤ o ∧ o < 84) → I' o i = I o i) := by
  have hc := C.hc
  have ho := C.ho
  have ht := C.tt
  have h4 := C.pv.c
  obtain ⟨a, ha⟩ : ∃ a, a = (I 18 1).toInt.toNat := ⟨_, rfl⟩
  obtain ⟨c, hcc⟩ : ∃ c, c = (I 18 2).toInt.toNat := ⟨_, rfl⟩
  have ea : I 18 1 = Int32.ofNat a := by rw [ha, i_on ho.1]
  have ec : I 18 2 = Int32.ofNat c := by rw [hcc, i_on hc.1]
  obtain ⟨t, htt⟩ : ∃ t, t = (a + c) % 8 := ⟨_, rfl⟩
  have ht8 : t < 8 := by omega
  have c8 : (8 : Int32) = Int32.ofNat 8 := rfl
  have sr := cp_SR (a := 18 + 1 + 1 + 8 * t) C.ld.sr h4.2 (by omega)
  have f18 : ∀ i, cp I (18 + 1 + 1 + 8 * t) 2 18 i = I 18 i := fun i => cp_o _ _ _ _ _ (by omega)
  have build : ∀ I', (∀ o i, o ≠ 18 → I' o i = cp I (18 + 1 + 1 + 8 * t) 2 o i) → (0 ≤ (I' 18 2).toInt ∧ (I' 18 2).toInt ≤ 8) → (0 ≤ (I' 18 1).toInt ∧ (I' 18 1).toInt < 8) → (1 ≤ (I' 18 2).toInt ∧ ((I' 18 1).toInt.toNat + (I' 18 2).toInt.toNat - 1) % 8 = t) → CI T0 T1 I' p s ∧ Top I' p s ∧ (∀ o i, ¬ (18 ≤ o ∧ o < 84) → I' o i = I o i) := by
    intro I' h b1 b2 b3
    have fr : ∀ o i, ¬ (18 ≤ o ∧ o < 84) → I' o i = I o i := fun o i q => by rw [h _ _ (by omega), cp_o _ _ _ _ _ (by omega)]
    refine ⟨⟨LD.mk C.pv C.ld.c1 (C.ld.tr.cg C.pv.c.2 C.pv.sh.2 (fun q i a b => fr _ _ (by omega))) (C.ld.sr.cg (fun q i a b => fr _ _ (by omega))) C.sv, by rw [fr _ _ (by omega)]; exact C.h9, fun x y hx hy => by rw [fr _ _ (by omega)]; exact C.ru x y hx hy, ht, b1, b2, fun k hk => by rw [fr _ _ (by omega)]; exact C.tb k hk⟩, ⟨b3.1, ?_, C.sv⟩, fr⟩
    rw [b3.2]
    exact sr.cg (fun q i a b => h _ _ (by omega))
  unfold F_X0_keep
  rw [ea, ec, md8 (by omega) (by omega), ← htt, gv_o (by omega), i_tno (by omega), cp_s hn (by omega) C.ld.sr.b, bd_s, f18, f18, ec, ea]
  by_cases h8 : (8 : Int32) ≤ Int32.ofNat c
  · rw [if_pos h8]
    rw [c8, i_ole (by omega) (by omega)] at h8
    refine ⟨_, rfl, build _ (fun o i q => by rw [sI_o q]) ?_ ?_ ?_⟩
    · rw [sI_k (by decide), f18]; exact hc
    · rw [sI_self, show (1 : Int32) = Int32.ofNat 1 from rfl, md8 (by omega) (by omega), i_of (by omega)]; omega
    · rw [sI_k (by decide), f18, sI_self, show (1 : Int32) = Int32.ofNat 1 from rfl, md8 (by omega) (by omega), i_of (by omega), ← hcc]; omega
  · rw [if_neg h8]
    rw [c8, i_ole (by omega) (by omega)] at h8
    refine ⟨_, rfl, build _ (fun o i q => by rw [sI_o q]) ?_ ?_ ?_⟩
    · rw [sI_self, ixp_1, i_of (by omega)]; omega
    · rw [sI_k (by decide), f18]; exact ho
    · rw [sI_self, ixp_1, i_of (by omega), sI_k (by decide), f18, ← ha]; omega
theorem a_setOn (hn : 2000 ≤ n) (C : CI T0 T1 I p s) {k : Nat} (hk : k < (p 4).toInt.toNat) {v : Int32} (hv : v = 0 ∨ v = 1) : ∃ I', F_X9_setOn n T0 T1 I (Int32.ofNat k) v = some (.inr (s (2 + k), I')) ∧ CI T0 T1 I' p (up s (2 + k) v) ∧ Top I' p s ∧ (∀ o i, 85 ≤ o → I' o i = I o i) := by
  have h4 := C.pv.c
  obtain ⟨I1, e, C1, t1, fr⟩ := keeps hn C
  have S := C1.ld.sr.uon h4.2 (k := k) (by omega) v hv
  have V := C.sv.uon h4.2 (k := k) (by omega) hv
  have fr2 : ∀ o i, ¬ (2 ≤ o ∧ o < 10) → sI I1 (2 + 1) k v o i = I1 o i := fun o i q => sI_o (by omega)
  refine ⟨sI I1 (2 + 1) k v, ?_, C1.ns fr2 S V, t1.ns fr2, fun o i q => by rw [fr2 _ _ (by omega)]; exact fr _ _ (by omega)⟩
  unfold F_X9_setOn
  rw [q_tank C, nt_s, q_src C hk, nt_s, e, bd_s, gv_o (by omega), gv_o (by omega), gd_t hv, i_tno (by omega), C1.ld.sr.on k hk, gd_t (C.sv.on k (by omega))]
theorem a_setPh (hn : 2000 ≤ n) (C : CI T0 T1 I p s) {k : Nat} (hk : k < (p 4).toInt.toNat) {v : Int32} (hv : 0 ≤ v.toInt ∧ v.toInt ≤ 359) : ∃ I', F_X9_setPhase n T0 T1 I (Int32.ofNat k) v = some (.inr (s (10 + k), I')) ∧ CI T0 T1 I' p (up s (10 + k) v) ∧ Top I' p s ∧ (∀ o i, 85 ≤ o → I' o i = I o i) := by
  have h4 := C.pv.c
  obtain ⟨I1, e, C1, t1, fr⟩ := keeps hn C
  have S := C1.ld.sr.uph h4.2 (k := k) (by omega) v
  have V := C.sv.u h4.2 (t := 10 + k) (by omega) v
  have fr2 : ∀ o i, ¬ (2 ≤ o ∧ o < 10) → sI I1 (2 + 3) k v o i = I1 o i := fun o i q => sI_o (by omega)
  refine ⟨sI I1 (2 + 3) k v, ?_, C1.ns fr2 S V, t1.ns fr2, fun o i q => by rw [fr2 _ _ (by omega)]; exact fr _ _ (by omega)⟩
  unfold F_X9_setPhase
  rw [q_tank C, nt_s, q_src C hk, nt_s, q_rng n (l := 0) (u := 359) hv, nt_s, e, bd_s, gv_o (by omega), gv_o (by omega), i_tno (by omega), C1.ld.sr.ph k hk]
theorem a_setAm (hn : 2000 ≤ n) (C : CI T0 T1 I p s) {k : Nat} (hk : k < (p 4).toInt.toNat) {v : Int32} (hv : 1 ≤ v.toInt ∧ v.toInt ≤ 999) : ∃ I', F_X9_setAmp n T0 T1 I (Int32.ofNat k) v = some (.inr (s (6 + k), I')) ∧ CI T0 T1 I' p (up s (6 + k) v) ∧ Top I' p s ∧ (∀ o i, 85 ≤ o → I' o i = I o i) := by
  have h4 := C.pv.c
  obtain ⟨I1, e, C1, t1, fr⟩ := keeps hn C
  have S := C1.ld.sr.uamp h4.2 (k := k) (by omega) v
  have V := C.sv.uamp h4.2 (k := k) (by omega) (v := v) ⟨by omega, by omega⟩
  have fr2 : ∀ o i, ¬ (2 ≤ o ∧ o < 10) → sI I1 (2 + 2) k v o i = I1 o i := fun o i q => sI_o (by omega)
  refine ⟨sI I1 (2 + 2) k v, ?_, C1.ns fr2 S V, t1.ns fr2, fun o i q => by rw [fr2 _ _ (by omega)]; exact fr _ _ (by omega)⟩
  unfold F_X9_setAmp
  rw [q_tank C, nt_s, q_src C hk, nt_s, q_rng n (l := 1) (u := 999) hv, nt_s, e, bd_s, gv_o (by omega), gv_o (by omega), i_tno (by omega), C1.ld.sr.amp k hk]
theorem a_move (hn : 2000 ≤ n) (C : CI T0 T1 I p s) {k : Nat} (hk : k < (p 4).toInt.toNat) {x y : Int32} (hx : xIn p x) (hy : yIn p y) : ∃ I' s', F_X9_moveSource n T0 T1 I (Int32.ofNat k) x y = some (.inr (sRow p s' k (s' 0) * p 0 + sCol p s' k (s' 0), I')) ∧ s' = up (up s (14 + k) x) (18 + k) y ∧ CI T0 T1 I' p s' ∧ Top I' p s ∧ (∀ o i, 85 ≤ o → I' o i = I o i) := by
  have h4 := C.pv.c
  obtain ⟨I1, e, C1, t1, fr⟩ := keeps hn C
  have S := (C1.ld.sr.ux h4.2 (k := k) (by omega) x).uy h4.2 (k := k) (by omega) y
  have V := (C.sv.u h4.2 (t := 14 + k) (by omega) x).u h4.2 (t := 18 + k) (by omega) y
  have fr2 : ∀ o i, ¬ (2 ≤ o ∧ o < 10) → sI (sI I1 (2 + 4) k x) (2 + 5) k y o i = I1 o i := fun o i q => by rw [sI_o (by omega), sI_o (by omega)]
  have C2 := C1.ns fr2 S V
  refine ⟨_, _, ?_, rfl, C2, t1.ns fr2, fun o i q => by rw [fr2 _ _ (by omega)]; exact fr _ _ (by omega)⟩
  unfold F_X9_moveSource F_X7_cellOf F_X7_cellNumber
  rw [q_tank C, nt_s, q_src C hk, nt_s, q_cel C hx hy, nt_s, e, bd_s, gv_o (by omega), gv_o (by omega), i_tno (by omega), C2.ld.sr.t, c_col C2.pv C2.ck hk, bd_s, c_row C2.pv C2.ck hk, bd_s, bd_s, bd_s, C2.ld.tr.w]
theorem a_turn (hn : 2000 ≤ n) (C : CI T0 T1 I p s) {r : Int32} (hr : yIn p r) (hw : p 3 ≠ -1) : ∃ I' s', F_X9_turnRow n T0 T1 I r = some (.inr (b2 (sOpen s' r), I')) ∧ s' = up s 1 (s 1 ^^^ ((1 : Int32) <<< (r &&& 31))) ∧ CI T0 T1 I' p s' ∧ Top I' p s ∧ (∀ o i, 85 ≤ o → I' o i = I o i) := by
  have h4 := C.pv.c
  have hh := C.pv.h
  obtain ⟨I1, e, C1, t1, fr⟩ := keeps hn C
  have S := C1.ld.sr.uop h4.2 (s 1 ^^^ ((1 : Int32) <<< (r &&& 31)))
  have V := C.sv.uop h4.2 (xor_b C.sv.o hr.1 (by unfold yIn at hr; omega))
  have fr2 : ∀ o i, ¬ (2 ≤ o ∧ o < 10) → sI I1 2 1 (s 1 ^^^ ((1 : Int32) <<< (r &&& 31))) o i = I1 o i := fun o i q => sI_o (by omega)
  have C2 := C1.ns fr2 S V
  refine ⟨_, _, ?_, rfl, C2, t1.ns fr2, fun o i q => by rw [fr2 _ _ (by omega)]; exact fr _ _ (by omega)⟩
  unfold F_X9_turnRow F_X6_turn
  rw [q_tank C, nt_s, C.ld.tr.wl, if_neg hw, q_row C hr, nt_s, e, bd_s, bd_s, C1.ld.sr.op, c_open C2.ck, bd_s, gd_t (b2_b _)]
theorem a_adv (hn : 2000 ≤ n) (C : CI T0 T1 I p s) {m : Int32} (hm : 1 ≤ m.toInt ∧ m.toInt ≤ 999) (ht : (s 0).toInt + m.toInt ≤ 9999) : ∃ I', F_X9_advance n T0 T1 I m = some (.inr (s 0 + m, I')) ∧ CI T0 T1 I' p (up s 0 (s 0 + m)) ∧ Top I' p s ∧ (∀ o i, 85 ≤ o → I' o i = I o i) := by
  have h4 := C.pv.c
  have hv := C.sv.t
  have em : (s 0 + m).toInt = (s 0).toInt + m.toInt := i_add (by omega) (by omega)
  obtain ⟨I1, e, C1, t1, fr⟩ := keeps hn C
  have S := C1.ld.sr.ut h4.2 (s 0 + m)
  have V := C.sv.ut h4.2 (v := s 0 + m) ⟨by omega, by omega⟩
  have fr2 : ∀ o i, ¬ (2 ≤ o ∧ o < 10) → sI I1 2 0 (s 0 + m) o i = I1 o i := fun o i q => sI_o (by omega)
  refine ⟨sI I1 2 0 (s 0 + m), ?_, C1.ns fr2 S V, t1.ns fr2, fun o i q => by rw [fr2 _ _ (by omega)]; exact fr _ _ (by omega)⟩
  unfold F_X9_advance
  rw [q_tank C, nt_s, q_rng n (l := 1) (u := 999) hm, nt_s, C.ld.sr.t, q_rng n (l := 0) (u := 9999) (by rw [em]; exact ⟨by show (0 : Int) ≤ _; omega, by show _ ≤ (9999 : Int); omega⟩), nt_s, e, bd_s, C1.ld.sr.t, sI_self]
theorem a_undo (hn : 2000 ≤ n) (C : CI T0 T1 I p s) (t : Top I p s0) : ∃ c I', F_X9_undo n T0 T1 I = some (.inr (c, I')) ∧ 0 ≤ c.toInt ∧ CI T0 T1 I' p s0 ∧ (∀ o i, 85 ≤ o → I' o i = I o i) := by
  have hc := C.hc
  have ho := C.ho
  have ht := C.tt
  have h4 := C.pv.c
  obtain ⟨t1, t2, t3⟩ := t
  obtain ⟨a, ha⟩ : ∃ a, a = (I 18 1).toInt.toNat := ⟨_, rfl⟩
  obtain ⟨c, hcc⟩ : ∃ c, c + 1 = (I 18 2).toInt.toNat := ⟨(I 18 2).toInt.toNat - 1, by omega⟩
  have ea : I 18 1 = Int32.ofNat a := by rw [ha, i_on ho.1]
  have ec : I 18 2 = Int32.ofNat (c + 1) := by rw [hcc, i_on hc.1]
  have e1 : I 18 2 - 1 = Int32.ofNat c := by rw [ec, show (1 : Int32) = Int32.ofNat 1 from rfl, i_osub (by omega) (by omega)]; rfl
  rw [← ha, ← hcc, show (a + (c + 1) - 1) = a + c by omega] at t2
  obtain ⟨q, hq⟩ : ∃ q, q = (a + c) % 8 := ⟨_, rfl⟩
  rw [← hq] at t2
  have S9 : SR (sI I 18 2 (Int32.ofNat c)) (18 + 1 + 1 + 8 * q) p s0 := t2.cg (fun q i a b => by rw [sI_o (by omega)])
  have S := cp_SR (a := 2) S9 h4.2 (by omega)
  have fr : ∀ o i, ¬ (2 ≤ o ∧ o < 10) → o ≠ 18 → cp (sI I 18 2 (Int32.ofNat c)) 2 (18 + 1 + 1 + 8 * q) o i = I o i := fun o i z w => by rw [cp_o _ _ _ _ _ (by omega), sI_o w]
  have f2 : cp (sI I 18 2 (Int32.ofNat c)) 2 (18 + 1 + 1 + 8 * q) 18 2 = Int32.ofNat c := by rw [cp_o _ _ _ _ _ (by omega), sI_self]
  have f1 : cp (sI I 18 2 (Int32.ofNat c)) 2 (18 + 1 + 1 + 8 * q) 18 1 = I 18 1 := by rw [cp_o _ _ _ _ _ (by omega), sI_k (by decide)]
  refine ⟨Int32.ofNat c, cp (sI I 18 2 (Int32.ofNat c)) 2 (18 + 1 + 1 + 8 * q), ?_, by rw [i_of (by omega)]; omega, ⟨LD.mk C.pv C.ld.c1 (C.ld.tr.cg C.pv.c.2 C.pv.sh.2 (fun q i a b => fr _ _ (by omega) (by omega))) S t3, by rw [fr _ _ (by omega) (by omega)]; exact C.h9, fun x y hx hy => by rw [fr _ _ (by omega) (by omega)]; exact C.ru x y hx hy, ht, by rw [f2, i_of (by omega)]; omega, by rw [f1]; exact ho, fun k hk => by rw [fr _ _ (by omega) (by omega)]; exact C.tb k hk⟩, fun o i z => fr _ _ (by omega) (by omega)⟩
  unfold F_X9_undo F_X0_takeBack
  rw [if_neg (by rw [i_eq]; show ¬ _ = (0 : Int); omega), if_neg (by rw [i_le]; show ¬ _ ≤ (0 : Int); omega), e1, sI_k (by decide), sI_self, ea, md8 (by omega) (by omega), ← hq, gv_o (by omega), i_tno (by omega), cp_s hn (by omega) S9.b, bd_s, bd_s, f2]
theorem a_save (hn : 2000 ≤ n) (C : CI T0 T1 I p s) {b : Nat} (hb : b < 2) : ∃ I', F_X9_save n T0 T1 I (Int32.ofNat b) = some (.inr (s 0, I')) ∧ CI T0 T1 I' p s ∧ Sav I' p s b := by
  have ht := C.tt
  have h4 := C.pv.c
  have S := cp_SR (a := 137 + 8 * b) C.ld.sr h4.2 (by omega)
  have fr : ∀ o i, ¬ (137 + 8 * b ≤ o ∧ o < 137 + 8 * b + 8) → o ≠ 85 → sI (cp I (137 + 8 * b) 2) 85 b 1 o i = I o i := fun o i z w => by rw [sI_o w, cp_o _ _ _ _ _ (by omega)]
  have e18 : ∀ i, sI (cp I (137 + 8 * b) 2) 85 b 1 18 i = I 18 i := fun i => fr _ _ (by omega) (by omega)
  refine ⟨sI (cp I (137 + 8 * b) 2) 85 b 1, ?_, ⟨LD.mk C.pv C.ld.c1 (C.ld.tr.cg C.pv.c.2 C.pv.sh.2 (fun q i a b => fr _ _ (by omega) (by omega))) (C.ld.sr.cg (fun q i a b => fr _ _ (by omega) (by omega))) C.sv, by rw [fr _ _ (by omega) (by omega)]; exact C.h9, fun x y hx hy => by rw [fr _ _ (by omega) (by omega)]; exact C.ru x y hx hy, ht, by rw [e18]; exact C.hc, by rw [e18]; exact C.ho, fun k hk => by rw [fr _ _ (by omega) (by omega)]; exact C.tb k hk⟩, sI_self _ _ _ _, S.cg (fun q i a b => by rw [sI_o (by omega)]), C.sv⟩
  unfold F_X9_save
  rw [q_tank C, nt_s, q_slo n (by rw [i_of (by omega)]; omega), nt_s, gv_o (by omega), i_tno (by omega), cp_s hn (by omega) C.ld.sr.b, bd_s, gv_o (by omega), fr _ _ (by omega) (by omega), C.ld.sr.t]
theorem a_rest (hn : 2000 ≤ n) (C : CI T0 T1 I p s) {b : Nat} (hb : b < 2) (v : Sav I p s0 b) : ∃ I', F_X9_restore n T0 T1 I (Int32.ofNat b) = some (.inr (s0 0, I')) ∧ CI T0 T1 I' p s0 ∧ I' 18 2 = 0 := by
  have ht := C.tt
  have h4 := C.pv.c
  obtain ⟨v1, v2, v3⟩ := v
  have S := cp_SR (a := 2) v2 h4.2 (by omega)
  have fr : ∀ o i, ¬ (2 ≤ o ∧ o < 10) → o ≠ 18 → sI (cp I 2 (137 + 8 * b)) 18 2 0 o i = I o i := fun o i z w => by rw [sI_o w, cp_o _ _ _ _ _ (by omega)]
  have f1 : sI (cp I 2 (137 + 8 * b)) 18 2 0 18 1 = I 18 1 := by rw [sI_k (by decide), cp_o _ _ _ _ _ (by omega)]
  have f0 : sI (cp I 2 (137 + 8 * b)) 18 2 0 2 0 = s0 0 := by rw [sI_o (by decide)]; exact S.t
  refine ⟨sI (cp I 2 (137 + 8 * b)) 18 2 0, ?_, ⟨LD.mk C.pv C.ld.c1 (C.ld.tr.cg C.pv.c.2 C.pv.sh.2 (fun q i a b => fr _ _ (by omega) (by omega))) (S.cg (fun q i a b => by rw [sI_o (by omega)])) v3, by rw [fr _ _ (by omega) (by omega)]; exact C.h9, fun x y hx hy => by rw [fr _ _ (by omega) (by omega)]; exact C.ru x y hx hy, ht, by rw [sI_self]; decide, by rw [f1]; exact C.ho, fun k hk => by rw [fr _ _ (by omega) (by omega)]; exact C.tb k hk⟩, sI_self _ _ _ _⟩
  unfold F_X9_restore F_X0_clear
  rw [q_slo n (by rw [i_of (by omega)]; omega), nt_s, gv_o (by omega), i_tno (by omega), v1, if_neg (by decide), gv_o (by omega), cp_s hn (by omega) v2.b, bd_s, bd_s, f0]
end CHG
