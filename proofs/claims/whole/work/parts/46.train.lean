/-! A TRAIN IS READ -/
/-- one train more -/
theorem DR.ut {T1 o g : Nat} {I K I' K' : gI} (D : DR T1 o I K) (ho : 172 ≤ o) (ht : T1 = 95 ∨ T1 = 116) (hg : g < 4) (eg : pn K 4 = Int32.ofNat g) (p4 : pn K' 4 = Int32.ofNat (g + 1))
    (pk : ∀ i, i ≠ 4 → i ≠ 5 + g → i ≠ 9 + g → i ≠ 13 + g → i ≠ 17 + g → i ≠ 21 + g → i ≠ 25 + g → i ≠ 29 + g → pn K' i = pn K i)
    (len : 50 ≤ (pn K' (5 + g)).toInt ∧ (pn K' (5 + g)).toInt ≤ 9999) (per : 2 ≤ (pn K' (9 + g)).toInt ∧ (pn K' (9 + g)).toInt ≤ 99) (frm : 0 ≤ (pn K' (13 + g)).toInt ∧ (pn K' (13 + g)).toInt ≤ 9999) (unt : (pn K' (13 + g)).toInt ≤ (pn K' (17 + g)).toInt ∧ (pn K' (17 + g)).toInt ≤ 9999)
    (srt : pn K' (21 + g) = 0 ∨ (pn K' (21 + g) = 1 ∧ 1 ≤ (pn K' (25 + g)).toInt ∧ (pn K' (25 + g)).toInt ≤ 99 ∧ 1 ≤ (pn K' (29 + g)).toInt ∧ (pn K' (29 + g)).toInt ≤ 99) ∨ (pn K' (21 + g) = 2 ∧ 1 ≤ (pn K' (25 + g)).toInt ∧ (pn K' (25 + g)).toInt ≤ 99))
    (sk : ∀ i, i ≠ 2 + g → i ≠ 6 + g → i ≠ 10 + g → i ≠ 14 + g → i ≠ 18 + g → dn K' i = dn K i) (on : dn K' (2 + g) = 1) (amp : 0 ≤ (dn K' (6 + g)).toInt ∧ (dn K' (6 + g)).toInt ≤ 999)
    (i5 : I' T1 5 = Int32.ofNat (g + 1)) (c0 : I' (T1 + 1 + 5 + 3 * g) 0 = pn K' (5 + g)) (c1 : I' (T1 + 1 + 5 + 3 * g) 1 = pn K' (9 + g)) (c2 : I' (T1 + 1 + 5 + 3 * g) 2 = pn K' (13 + g)) (c3 : I' (T1 + 1 + 5 + 3 * g) 3 = pn K' (17 + g))
    (cs : (pn K' (21 + g) = 0 ∧ I' (T1 + 1 + 5 + 3 * g) 4 = 0 ∧ I' (T1 + 1 + 5 + 3 * g) 6 = 0) ∨ (pn K' (21 + g) = 1 ∧ I' (T1 + 1 + 5 + 3 * g) 4 = pn K' (25 + g) ∧ I' (T1 + 1 + 5 + 3 * g) 5 = pn K' (29 + g)) ∨ (pn K' (21 + g) = 2 ∧ I' (T1 + 1 + 5 + 3 * g) 4 = 0 ∧ I' (T1 + 1 + 5 + 3 * g) 6 = pn K' (25 + g)))
    (c7 : I' (T1 + 1 + 5 + 3 * g) 7 = 0) (c8 : I' (T1 + 1 + 5 + 3 * g) 8 = 0)
    (s1 : I' (10 + 1) g = 1) (s2 : I' (10 + 2) g = dn K' (6 + g)) (s3 : I' (10 + 3) g = dn K' (10 + g)) (s4 : I' (10 + 4) g = dn K' (14 + g)) (s5 : I' (10 + 5) g = dn K' (18 + g)) (s6 : I' (10 + 6) g = 0) (s7 : I' (10 + 7) g = 0)
    (ik : ∀ a i, (a ≠ T1 ∨ i ≠ 5) → a ≠ T1 + 1 + 5 + 3 * g → ¬ (11 ≤ a ∧ a < 18 ∧ i = g) → I' a i = I a i) (k20 : K' 153 20 = K 153 20) (k21 : K' 153 21 = K 153 21) (k22 : K' 153 22 = K 153 22) : DR T1 o I' K' := by
  have hp := D.pv
  have e0 := i_of (k := g) (by omega)
  have e1 := i_of (k := g + 1) (by omega)
  have h3 := hp.sh.2
  have h6 := hp.cut.2
  have hga := hp.ga.2
  have en : (pn K 4).toInt.toNat = g := by rw [eg, e0]; rfl
  have en' : (pn K' 4).toInt.toNat = g + 1 := by rw [p4, e1]; rfl
  have z := D.zs g hg (by omega)
  have q0 : ∀ k, k < g → pn K' (5 + k) = pn K (5 + k) := fun k hk => pk _ (by omega) (by omega) (by omega) (by omega) (by omega) (by omega) (by omega) (by omega)
  have q1 : ∀ k, k < g → pn K' (9 + k) = pn K (9 + k) := fun k hk => pk _ (by omega) (by omega) (by omega) (by omega) (by omega) (by omega) (by omega) (by omega)
  have q2 : ∀ k, k < g → pn K' (13 + k) = pn K (13 + k) := fun k hk => pk _ (by omega) (by omega) (by omega) (by omega) (by omega) (by omega) (by omega) (by omega)
  have q3 : ∀ k, k < g → pn K' (17 + k) = pn K (17 + k) := fun k hk => pk _ (by omega) (by omega) (by omega) (by omega) (by omega) (by omega) (by omega) (by omega)
  have q4 : ∀ k, k < g → pn K' (21 + k) = pn K (21 + k) := fun k hk => pk _ (by omega) (by omega) (by omega) (by omega) (by omega) (by omega) (by omega) (by omega)
  have q5 : ∀ k, k < g → pn K' (25 + k) = pn K (25 + k) := fun k hk => pk _ (by omega) (by omega) (by omega) (by omega) (by omega) (by omega) (by omega) (by omega)
  have q6 : ∀ k, k < g → pn K' (29 + k) = pn K (29 + k) := fun k hk => pk _ (by omega) (by omega) (by omega) (by omega) (by omega) (by omega) (by omega) (by omega)
  have ql : ∀ i, i < 4 → pn K' i = pn K i := fun i hi => pk _ (by omega) (by omega) (by omega) (by omega) (by omega) (by omega) (by omega) (by omega)
  have qh : ∀ i, 33 ≤ i → pn K' i = pn K i := fun i hi => pk _ (by omega) (by omega) (by omega) (by omega) (by omega) (by omega) (by omega) (by omega)
  have lt : ∀ k, k < (pn K' 4).toInt.toNat → ¬ k = g → k < (pn K 4).toInt.toNat ∧ k < g := fun k a b => by omega
  have pv : PV (pn K') := by
    refine PV.mk ?_ ?_ ?_ ?_ ?_ ?_ ?_ ?_ ?_ ?_ ?_ ?_ ?_ ?_ ?_ ?_ ?_
    · rw [ql 0 (by decide)]; exact hp.w
    · rw [ql 1 (by decide)]; exact hp.h
    · rw [ql 2 (by decide)]; exact hp.f
    · rw [ql 3 (by decide), ql 0 (by decide)]; exact hp.wl
    · rw [p4, e1]; omega
    · intro k hk
      by_cases c : k = g
      · rw [c]; exact len
      · rw [q0 k (lt k hk c).2]; exact hp.len k (lt k hk c).1
    · intro k hk
      by_cases c : k = g
      · rw [c]; exact per
      · rw [q1 k (lt k hk c).2]; exact hp.per k (lt k hk c).1
    · intro k hk
      by_cases c : k = g
      · rw [c]; exact frm
      · rw [q2 k (lt k hk c).2]; exact hp.frm k (lt k hk c).1
    · intro k hk
      by_cases c : k = g
      · rw [c]; exact unt
      · rw [q3 k (lt k hk c).2, q2 k (lt k hk c).2]; exact hp.unt k (lt k hk c).1
    · intro k hk
      by_cases c : k = g
      · rw [c]; exact srt
      · rw [q4 k (lt k hk c).2, q5 k (lt k hk c).2, q6 k (lt k hk c).2]; exact hp.srt k (lt k hk c).1
    · intro k hk; rw [qh _ (by omega)]; exact hp.mir k hk
    · rw [qh _ (by omega)]; exact hp.cut
    · rw [qh _ (by omega)]; exact hp.sh
    · rw [qh 60 (by omega)]; intro k hk; rw [qh _ (by omega)]; exact hp.pct k hk
    · rw [qh _ (by omega)]; exact hp.ga
    · rw [qh 76 (by omega)]; intro k hk; rw [qh _ (by omega), ql 0 (by decide)]; exact hp.gx k hk
    · rw [qh 76 (by omega)]; intro k hk; rw [qh _ (by omega), ql 1 (by decide)]; exact hp.gy k hk
  have cg : ∀ k, k < g → ∀ i, I' (T1 + 1 + 5 + 3 * k) i = I (T1 + 1 + 5 + 3 * k) i := fun k hk i => ik _ _ (Or.inl (by omega)) (by omega) (by omega)
  have h := D.tr
  have tr : TR I' T1 (pn K') := by
    refine TR.mk ?_ ?_ ?_ ?_ ?_ ?_ ?_ ?_ ?_ ?_ ?_ ?_ ?_ ?_ ?_ ?_ ?_ ?_ ?_ ?_ ?_ ?_ ?_
    · rw [ik _ _ (Or.inr (by decide)) (by omega) (by omega), ql 0 (by decide)]; exact h.w
    · rw [ik _ _ (Or.inr (by decide)) (by omega) (by omega), ql 1 (by decide)]; exact h.h
    · rw [ik _ _ (Or.inr (by decide)) (by omega) (by omega), ql 2 (by decide)]; exact h.f
    · rw [ik _ _ (Or.inr (by decide)) (by omega) (by omega), ql 3 (by decide)]; exact h.wl
    · rw [i5, p4]
    · rw [ik _ _ (Or.inr (by decide)) (by omega) (by omega), qh 60 (by decide)]; exact h.shc
    · rw [ik _ _ (Or.inr (by decide)) (by omega) (by omega), qh 76 (by decide)]; exact h.gc
    · intro k hk
      by_cases c : k = g
      · rw [c]; exact c0
      · rw [q0 k (lt k hk c).2, cg k (lt k hk c).2]; exact h.len k (lt k hk c).1
    · intro k hk
      by_cases c : k = g
      · rw [c]; exact c1
      · rw [q1 k (lt k hk c).2, cg k (lt k hk c).2]; exact h.per k (lt k hk c).1
    · intro k hk
      by_cases c : k = g
      · rw [c]; exact c2
      · rw [q2 k (lt k hk c).2, cg k (lt k hk c).2]; exact h.frm k (lt k hk c).1
    · intro k hk
      by_cases c : k = g
      · rw [c]; exact c3
      · rw [q3 k (lt k hk c).2, cg k (lt k hk c).2]; exact h.unt k (lt k hk c).1
    · intro k hk
      by_cases c : k = g
      · rw [c]; exact cs
      · rw [q4 k (lt k hk c).2, q5 k (lt k hk c).2, q6 k (lt k hk c).2, cg k (lt k hk c).2, cg k (lt k hk c).2, cg k (lt k hk c).2]; exact h.srt k (lt k hk c).1
    · intro k hk
      by_cases c : k = g
      · rw [c, c7, qh _ (by omega)]; exact z.1.symm
      · rw [cg k (lt k hk c).2, qh _ (by omega)]; exact h.shp k (lt k hk c).1
    · intro k hk
      by_cases c : k = g
      · rw [c, c8]; decide
      · rw [cg k (lt k hk c).2]; exact h.cc k (lt k hk c).1
    · intro k hk e
      rw [sCut_cg (p := pn K) (fun i a b => qh i (by omega)) (qh 41 (by decide)) (by rw [qh 41 (by decide)]; exact h6)]
      by_cases c : k = g
      · rw [c, c8]
        have : sCutOff (pn K) g e = false := by
          unfold sCutOff
          rw [i_tn]
          cases hh : an (fun c => decide (pn K (42 + 3 * c) = Int32.ofNat g ∧ pn K (42 + 3 * c + 1) ≤ e ∧ e ≤ pn K (42 + 3 * c + 2))) (pn K 41).toInt.toNat 0
          · rfl
          · obtain ⟨i, _, hi, hd⟩ := (an_iff _ _).mp hh
            have := D.cs i (by omega)
            have hd' := of_decide_eq_true hd
            rw [hd'.1, eg, e0] at this
            omega
        rw [this]; rfl
      · have x1 : ∀ cc, I' (T1 + 1 + 5 + 3 * k + 1) cc = I (T1 + 1 + 5 + 3 * k + 1) cc := fun cc => ik _ _ (Or.inl (by omega)) (by omega) (by omega)
        have x2 : ∀ cc, I' (T1 + 1 + 5 + 3 * k + 2) cc = I (T1 + 1 + 5 + 3 * k + 2) cc := fun cc => ik _ _ (Or.inl (by omega)) (by omega) (by omega)
        simp only [x1, x2]
        rw [cg k (lt k hk c).2]
        exact h.cut k (lt k hk c).1 e
    · intro k hk; rw [qh _ (by omega), ik _ _ (Or.inl (by omega)) (by omega) (by omega)]; exact h.mir k hk
    · rw [qh 60 (by omega)]; intro k hk; rw [qh _ (by omega), ik _ _ (Or.inl (by omega)) (by omega) (by omega)]; exact h.s0 k hk
    · rw [qh 60 (by omega)]; intro k hk; rw [qh _ (by omega), ik _ _ (Or.inl (by omega)) (by omega) (by omega)]; exact h.s1 k hk
    · rw [qh 60 (by omega)]; intro k hk; rw [qh _ (by omega), ik _ _ (Or.inl (by omega)) (by omega) (by omega)]; exact h.s2 k hk
    · rw [qh 60 (by omega)]; intro k hk; rw [qh _ (by omega), ik _ _ (Or.inl (by omega)) (by omega) (by omega)]; exact h.s3 k hk
    · rw [qh 60 (by omega)]; intro k hk; rw [qh _ (by omega), ik _ _ (Or.inl (by omega)) (by omega) (by omega)]; exact h.s4 k hk
    · rw [qh 76 (by omega)]; intro k hk; rw [qh _ (by omega), ik _ _ (Or.inl (by omega)) (by omega) (by omega)]; exact h.gx k hk
    · rw [qh 76 (by omega)]; intro k hk; rw [qh _ (by omega), ik _ _ (Or.inl (by omega)) (by omega) (by omega)]; exact h.gy k hk
  have sr := D.sr
  refine DR.mk pv tr ?_ ?_ ?_ ?_ ?_ ?_ ?_ ?_ ?_
  · refine SR.mk ?_ ?_ ?_ ?_ ?_ ?_ ?_ ?_ ?_ ?_
    · rw [ik _ _ (Or.inl (by omega)) (by omega) (by omega), sk _ (by omega) (by omega) (by omega) (by omega) (by omega)]; exact sr.t
    · rw [ik _ _ (Or.inl (by omega)) (by omega) (by omega), sk _ (by omega) (by omega) (by omega) (by omega) (by omega)]; exact sr.op
    · intro k hk
      by_cases c : k = g
      · rw [c]; exact Or.inr s1
      · rw [ik _ _ (Or.inl (by omega)) (by omega) (by omega)]; exact sr.b k hk
    · intro k hk
      by_cases c : k = g
      · rw [c, on]; exact s1
      · have l1 := lt k hk c
        rw [ik _ _ (Or.inl (by omega)) (by omega) (by omega), sk _ (by omega) (by omega) (by omega) (by omega) (by omega)]; exact sr.on k l1.1
    · intro k hk
      by_cases c : k = g
      · rw [c]; exact s2
      · have l1 := lt k hk c
        rw [ik _ _ (Or.inl (by omega)) (by omega) (by omega), sk _ (by omega) (by omega) (by omega) (by omega) (by omega)]; exact sr.amp k l1.1
    · intro k hk
      by_cases c : k = g
      · rw [c]; exact s3
      · have l1 := lt k hk c
        rw [ik _ _ (Or.inl (by omega)) (by omega) (by omega), sk _ (by omega) (by omega) (by omega) (by omega) (by omega)]; exact sr.ph k l1.1
    · intro k hk
      by_cases c : k = g
      · rw [c]; exact s4
      · have l1 := lt k hk c
        rw [ik _ _ (Or.inl (by omega)) (by omega) (by omega), sk _ (by omega) (by omega) (by omega) (by omega) (by omega)]; exact sr.x k l1.1
    · intro k hk
      by_cases c : k = g
      · rw [c]; exact s5
      · have l1 := lt k hk c
        rw [ik _ _ (Or.inl (by omega)) (by omega) (by omega), sk _ (by omega) (by omega) (by omega) (by omega) (by omega)]; exact sr.y k l1.1
    · intro k hk
      by_cases c : k = g
      · rw [c, s6, sk _ (by omega) (by omega) (by omega) (by omega) (by omega)]; exact z.2.1.symm
      · have l1 := lt k hk c
        rw [ik _ _ (Or.inl (by omega)) (by omega) (by omega), sk _ (by omega) (by omega) (by omega) (by omega) (by omega)]; exact sr.vx k l1.1
    · intro k hk
      by_cases c : k = g
      · rw [c, s7, sk _ (by omega) (by omega) (by omega) (by omega) (by omega)]; exact z.2.2.symm
      · have l1 := lt k hk c
        rw [ik _ _ (Or.inl (by omega)) (by omega) (by omega), sk _ (by omega) (by omega) (by omega) (by omega) (by omega)]; exact sr.vy k l1.1
  · refine SV.mk ?_ ?_ ?_ ?_
    · rw [sk _ (by omega) (by omega) (by omega) (by omega) (by omega)]; exact D.sv.t
    · rw [sk _ (by omega) (by omega) (by omega) (by omega) (by omega)]; exact D.sv.o
    · intro k hk
      by_cases c : k = g
      · rw [c, on]; exact Or.inr rfl
      · rw [sk _ (by omega) (by omega) (by omega) (by omega) (by omega)]; exact D.sv.on k hk
    · intro k hk
      by_cases c : k = g
      · rw [c]; exact amp
      · have l1 := lt k hk c
        rw [sk _ (by omega) (by omega) (by omega) (by omega) (by omega)]; exact D.sv.amp k l1.1
  · rw [ik _ _ (Or.inl (by omega)) (by omega) (by omega), qh _ (by decide)]; exact D.cc
  · rw [ik _ _ (Or.inl (by omega)) (by omega) (by omega), k20]; exact D.td
  · rw [ik _ _ (Or.inl (by omega)) (by omega) (by omega), k21]; exact D.tf
  · rw [ik _ _ (Or.inl (by omega)) (by omega) (by omega), k22]; exact D.th
  · intro k hk hge
    rw [qh _ (by omega), sk _ (by omega) (by omega) (by omega) (by omega) (by omega), sk _ (by omega) (by omega) (by omega) (by omega) (by omega)]
    exact D.zs k hk (by omega)
  · rw [qh 41 (by decide)]; intro c hc
    have := D.cs c hc
    rw [qh _ (by omega), p4, e1]
    rw [eg, e0] at this
    omega
  · intro k hk
    by_cases c : k = g
    · rw [c, c8, qh _ (by decide), ii_0]; exact hp.cut.1
    · rw [cg k (lt k hk c).2, qh _ (by decide)]; exact D.ck k (lt k hk c).1
section TRAIN
variable {n T1 o E q : Nat} {I K : gI}
set_option maxHeartbeats 4000000 in
theorem l_train (hn : 2000 ≤ n) (P : PS E q I K o) (ok : I o 0 = 0) (D : DR T1 o I K) (ht : T1 = 95 ∨ T1 = 116) : LN n T1 o E q I K (F_X3_readTrain n T1 o I) (F_X10_readTrain n K) := by
  have ho := P.1
  have hga := D.pv.c
  have hw := D.pv.w
  have hh := D.pv.h
  obtain ⟨j, hj⟩ : ∃ j, n = j + 1 := ⟨n - 1, by omega⟩
  have kg : K (153 + 3) 4 = pn K 4 := rfl
  unfold F_X3_readTrain F_X10_readTrain
  rw [kg, D.tr.c]
  rcases sc (T1 := T1) hn P ok (c := pn K 4) (m := 4) (by show (pn K 4).toInt ≤ 4; omega) with ⟨ne, I1, K1, q1, e1, f1, P1, r1, ok1, hq1⟩ | ⟨e, I1, K1, K2, e1, f1, f2, P1, r1, er⟩
  · have D1 := D.fr r1 ht ho
    have ne' : (pn K 4).toInt ≠ 4 := fun z => ne (i_eq.mpr z)
    obtain ⟨g, hg, eg⟩ := cntg (m := 4) hga.1 hga.2 ne'
    rw [if_neg ne, e1, f1, bd_s, bd_s]
    dsimp only
    rw [if_neg (show ¬ (1 : Int32) = 0 by decide), if_pos (show K1 153 5 ≤ 0 by rw [P1.ok5 ok1]; decide), eg]
    have ep1 : pn K1 = pn K := by funext i; exact r1.2 _ _ (Or.inl (by decide))
    have g1 : I1 T1 5 = Int32.ofNat g := by rw [D1.tr.c, ep1, eg]
    have a1 : I1 T1 1 = pn K 0 := by rw [D1.tr.w, ep1]
    have b1 : I1 T1 2 = pn K 1 := by rw [D1.tr.h, ep1]
    have c1 : K1 (153 + 3) 0 = pn K 0 := by rw [← ep1]; rfl
    have d1 : K1 (153 + 3) 1 = pn K 1 := by rw [← ep1]; rfl
    have n1 : K1 (153 + 3) 4 = Int32.ofNat g := by rw [← eg, ← ep1]; rfl
    have eg1 : pn K1 4 = Int32.ofNat g := n1
    have P1' := P1
    have F1 : FR I1 K1 I1 K1 o := FR.rfl'
    have G1 : GR T1 o I K I1 K1 := r1.gr ho
    have ci0 : (0 : Int32).toInt = 0 := rfl
    have ci1 : (1 : Int32).toInt = 1 := rfl
    have ci2 : (2 : Int32).toInt = 2 := rfl
    have ci50 : (50 : Int32).toInt = 50 := rfl
    have ci99 : (99 : Int32).toInt = 99 := rfl
    have ci999 : (999 : Int32).toInt = 999 := rfl
    have ci9999 : (9999 : Int32).toInt = 9999 := rfl
    simp (disch := omega) only [ix_5, ix_6, ix_2, ix_9, ix_10, ix_13, ix_14, ix_17, ix_18, i_tno, gv_k, g1]
    obtain ⟨v2, w2, I2, K2, q2, e2, f2, P2, r2, h2⟩ := nm' (T1 := T1) hn P1' (l := 0) (u := pn K 0 - 1) (l' := 0) (fun _ => Or.inl rfl)
    have F2a := F1.trans r2
    have bh2 : I2 T1 2 = pn K 1 := by rw [F2a.1 _ _ (Or.inl (by omega))]; exact b1
    have dh2 : K2 (153 + 3) 1 = pn K 1 := by rw [F2a.2 _ _ (Or.inl (by decide))]; exact d1
    simp (disch := omega) only [rcol, rrow, a1, c1, e2, f2, bd_s, gv_k, i_tno, sI_o, sI_k, bh2, dh2]
    have P2' := ((P2.wI (a := 10 + 4) (i := g) v2 ⟨Or.inl (by omega), by omega⟩).wK (b := 153 + 5) (j := 14 + g) w2 ⟨Or.inl (by decide), by decide⟩)
    have F2 := ((F2a.wI (10 + 4) g v2).wK (153 + 5) (14 + g) w2)
    have G2 := (((G1.trans (r2.gr (T1 := T1) ho)).wI (a := 10 + 4) g v2 ⟨by omega, by omega⟩).wK (b := 153 + 5) (j := 14 + g) w2 (by omega))
    obtain ⟨v3, w3, I3, K3, q3, e3, f3, P3, r3, h3⟩ := nm' (T1 := T1) hn P2' (l := 0) (u := pn K 1 - 1) (l' := 0) (fun _ => Or.inl rfl)
    have F3a := F2.trans r3
    simp (disch := omega) only [e3, f3, bd_s, gv_k, i_tno, sI_o, sI_k, sI_self]
    have P3' := ((P3.wI (a := 10 + 5) (i := g) v3 ⟨Or.inl (by omega), by omega⟩).wK (b := 153 + 5) (j := 18 + g) w3 ⟨Or.inl (by decide), by decide⟩)
    have F3 := ((F3a.wI (10 + 5) g v3).wK (153 + 5) (18 + g) w3)
    have G3 := (((G2.trans (r3.gr (T1 := T1) ho)).wI (a := 10 + 5) g v3 ⟨by omega, by omega⟩).wK (b := 153 + 5) (j := 18 + g) w3 (by omega))
    obtain ⟨v4, w4, I4, K4, q4, e4, f4, P4, r4, h4⟩ := nm' (T1 := T1) hn P3' (l := 1) (u := 999) (l' := 1) (fun _ => Or.inl rfl)
    have F4a := F3.trans r4
    simp (disch := omega) only [e4, f4, bd_s, gv_k, i_tno, sI_o, sI_k, sI_self]
    have P4' := ((P4.wI (a := 10 + 2) (i := g) v4 ⟨Or.inl (by omega), by omega⟩).wK (b := 153 + 5) (j := 6 + g) w4 ⟨Or.inl (by decide), by decide⟩)
    have F4 := ((F4a.wI (10 + 2) g v4).wK (153 + 5) (6 + g) w4)
    have G4 := (((G3.trans (r4.gr (T1 := T1) ho)).wI (a := 10 + 2) g v4 ⟨by omega, by omega⟩).wK (b := 153 + 5) (j := 6 + g) w4 (by omega))
    obtain ⟨v5, w5, I5, K5, q5, e5, f5, P5, r5, h5⟩ := nm' (T1 := T1) hn P4' (l := 50) (u := 9999) (l' := 50) (fun _ => Or.inl rfl)
    have F5a := F4.trans r5
    simp (disch := omega) only [e5, f5, bd_s, gv_k, i_tno, sI_o, sI_k, sI_self]
    have P5' := (P5.wK (b := 153 + 3) (j := 5 + g) w5 ⟨Or.inl (by decide), by decide⟩)
    have F5 := (F5a.wK (153 + 3) (5 + g) w5)
    have G5 := ((G4.trans (r5.gr (T1 := T1) ho)).wK (b := 153 + 3) (j := 5 + g) w5 (by omega))
    obtain ⟨v6, w6, I6, K6, q6, e6, f6, P6, r6, h6⟩ := nm' (T1 := T1) hn P5' (l := 2) (u := 99) (l' := 2) (fun _ => Or.inl rfl)
    have F6a := F5.trans r6
    simp (disch := omega) only [e6, f6, bd_s, gv_k, i_tno, sI_o, sI_k, sI_self]
    have P6' := (P6.wK (b := 153 + 3) (j := 9 + g) w6 ⟨Or.inl (by decide), by decide⟩)
    have F6 := (F6a.wK (153 + 3) (9 + g) w6)
    have G6 := ((G5.trans (r6.gr (T1 := T1) ho)).wK (b := 153 + 3) (j := 9 + g) w6 (by omega))
    obtain ⟨v7, w7, I7, K7, q7, e7, f7, P7, r7, h7⟩ := nm' (T1 := T1) hn P6' (l := 0) (u := 359) (l' := 0) (fun _ => Or.inl rfl)
    have F7a := F6.trans r7
    simp (disch := omega) only [e7, f7, bd_s, gv_k, i_tno, sI_o, sI_k, sI_self]
    have P7' := ((P7.wI (a := 10 + 3) (i := g) v7 ⟨Or.inl (by omega), by omega⟩).wK (b := 153 + 5) (j := 10 + g) w7 ⟨Or.inl (by decide), by decide⟩)
    have F7 := ((F7a.wI (10 + 3) g v7).wK (153 + 5) (10 + g) w7)
    have G7 := (((G6.trans (r7.gr (T1 := T1) ho)).wI (a := 10 + 3) g v7 ⟨by omega, by omega⟩).wK (b := 153 + 5) (j := 10 + g) w7 (by omega))
    obtain ⟨v8, w8, I8, K8, q8, e8, f8, P8, r8, h8⟩ := nm' (T1 := T1) hn P7' (l := 0) (u := 9999) (l' := 0) (fun _ => Or.inl rfl)
    have F8a := F7.trans r8
    simp (disch := omega) only [e8, f8, bd_s, gv_k, i_tno, sI_o, sI_k, sI_self]
    have P8' := ((P8.wI (a := (T1 + 1 + 5 + 3 * g)) (i := 2) v8 ⟨Or.inl (by omega), by omega⟩).wK (b := 153 + 3) (j := 13 + g) w8 ⟨Or.inl (by decide), by decide⟩)
    have F8 := ((F8a.wI ((T1 + 1 + 5 + 3 * g)) 2 v8).wK (153 + 3) (13 + g) w8)
    have G8 := (((G7.trans (r8.gr (T1 := T1) ho)).wI (a := (T1 + 1 + 5 + 3 * g)) 2 v8 ⟨by omega, by omega⟩).wK (b := 153 + 3) (j := 13 + g) w8 (by omega))
    obtain ⟨v9, w9, I9, K9, q9, e9, f9, P9, r9, h9⟩ := nm' (T1 := T1) hn P8' (l := v8) (u := 9999) (l' := w8) (fun z => Or.inl (h8 (by rw [sI_o (by omega)] at z; exact z)).2.1.symm)
    have F9a := F8.trans r9
    simp (disch := omega) only [e9, f9, bd_s, gv_k, i_tno, sI_o, sI_k, sI_self]
    have P9' := ((P9.wI (a := (T1 + 1 + 5 + 3 * g)) (i := 3) v9 ⟨Or.inl (by omega), by omega⟩).wK (b := 153 + 3) (j := 17 + g) w9 ⟨Or.inl (by decide), by decide⟩)
    have F9 := ((F9a.wI ((T1 + 1 + 5 + 3 * g)) 3 v9).wK (153 + 3) (17 + g) w9)
    have G9 := (((G8.trans (r9.gr (T1 := T1) ho)).wI (a := (T1 + 1 + 5 + 3 * g)) 3 v9 ⟨by omega, by omega⟩).wK (b := 153 + 3) (j := 17 + g) w9 (by omega))
    have P9z := ((P9'.wI (a := (T1 + 1 + 5 + 3 * g)) (i := 4) 0 ⟨Or.inl (by omega), by omega⟩).wI (a := (T1 + 1 + 5 + 3 * g)) (i := 5) 0 ⟨Or.inl (by omega), by omega⟩).wI (a := (T1 + 1 + 5 + 3 * g)) (i := 6) 0 ⟨Or.inl (by omega), by omega⟩
    have F9z := ((F9.wI (T1 + 1 + 5 + 3 * g) 4 0).wI (T1 + 1 + 5 + 3 * g) 5 0).wI (T1 + 1 + 5 + 3 * g) 6 0
    have G9z := ((G9.wI (a := (T1 + 1 + 5 + 3 * g)) 4 0 ⟨by omega, by omega⟩).wI (a := (T1 + 1 + 5 + 3 * g)) 5 0 ⟨by omega, by omega⟩).wI (a := (T1 + 1 + 5 + 3 * g)) 6 0 ⟨by omega, by omega⟩
    unfold F_X10_readSort
    obtain ⟨b10, I10, K10, q10, e10, f10, P10, r10, z10, hb10, hq10⟩ := tw (T1 := T1) hn P9z (w := 7) (by decide) (by decide)
    have F10 := F9z.trans r10
    have G10 := G9z.trans (r10.gr (T1 := T1) ho)
    rw [e10, f10, bd_s, bd_s]
    dsimp only
    have f0 : b2 false = 0 := rfl
    have t1 : ¬ b2 true = 0 := by decide
    have c10 : I10 o 0 = 0 → v2 = w2 ∧ v3 = w3 ∧ v4 = w4 ∧ v5 = w5 ∧ v6 = w6 ∧ v7 = w7 ∧ v8 = w8 ∧ v9 = w9 ∧ 1 ≤ v4.toInt ∧ v4.toInt ≤ 999 ∧ 50 ≤ v5.toInt ∧ v5.toInt ≤ 9999 ∧ 2 ≤ v6.toInt ∧ v6.toInt ≤ 99 ∧ 0 ≤ v8.toInt ∧ v8.toInt ≤ v9.toInt ∧ v9.toInt ≤ 9999 ∧ q ≤ q10 := by
      intro z
      rw [z10] at z
      have y10 := hq10 z
      rw [sI_o (by omega), sI_o (by omega), sI_o (by omega), sI_o (by omega)] at z
      obtain ⟨z, x9, l9, u9, y9⟩ := h9 z
      rw [sI_o (by omega)] at z
      obtain ⟨z, x8, l8, u8, y8⟩ := h8 z
      rw [sI_o (by omega)] at z
      obtain ⟨z, x7, l7, u7, y7⟩ := h7 z
      obtain ⟨z, x6, l6, u6, y6⟩ := h6 z
      obtain ⟨z, x5, l5, u5, y5⟩ := h5 z
      rw [sI_o (by omega)] at z
      obtain ⟨z, x4, l4, u4, y4⟩ := h4 z
      rw [sI_o (by omega)] at z
      obtain ⟨z, x3, l3, u3, y3⟩ := h3 z
      rw [sI_o (by omega)] at z
      obtain ⟨z, x2, l2, u2, y2⟩ := h2 z
      exact ⟨x2, x3, x4, x5, x6, x7, x8, x9, by omega, by omega, by omega, by omega, by omega, by omega, by omega, by omega, by omega, by omega⟩
    simp (disch := omega) only [ix_21, ix_25, gv_k, i_tno, sI_self]
    cases b10
    · rw [if_pos f0, if_pos f0]
      obtain ⟨b11, I11, K11, q11, e11, f11, P11, r11, z11, hb11, hq11⟩ := tw (T1 := T1) hn P10 (w := 8) (by decide) (by decide)
      have F11 := F10.trans r11
      have G11 := G10.trans (r11.gr (T1 := T1) ho)
      rw [e11, f11, bd_s, bd_s]
      dsimp only
      cases b11
      · rw [if_pos f0, if_pos f0, if_pos True.intro]
        have a2 := L_X10_readSort_e0 n j (Int32.ofNat g) (sI K11 (153 + 3) (21 + g) 0)
        rw [← hj] at a2
        have g12 : I11 T1 5 = Int32.ofNat g := by rw [F11.1 _ _ (Or.inl (by omega))]; simp (disch := omega) only [sI_o]; exact g1
        have n12 : K11 (153 + 3) 4 = Int32.ofNat g := by rw [F11.2 _ _ (Or.inl (by decide))]; simp (disch := omega) only [sI_o, sI_k]; exact n1
        rw [a2]
        simp (disch := omega) only [ix_21, gv_k, i_tno, sI_self, if_neg (show ¬ (0 : Int32) = 1 by decide), bd_s, sI_o, sI_k, g12, n12, ixp_1]
        have PM := (((P11.wK (b := 153 + 3) (j := 21 + g) 0 ⟨Or.inl (by decide), by decide⟩).wK (b := 153 + 5) (j := 2 + g) 1 ⟨Or.inl (by decide), by decide⟩).wK (b := 153 + 3) (j := 4) (Int32.ofNat (g + 1)) ⟨Or.inl (by decide), by decide⟩)
        have FM := (((F11.wK (153 + 3) (21 + g) 0).wK (153 + 5) (2 + g) 1).wK (153 + 3) (4) (Int32.ofNat (g + 1)))
        have GM := (((G11.wK (b := 153 + 3) (j := 21 + g) 0 (by omega)).wK (b := 153 + 5) (j := 2 + g) 1 (by omega)).wK (b := 153 + 3) (j := 4) (Int32.ofNat (g + 1)) (by omega))
        by_cases okz : I11 o 0 = 0
        · rw [if_pos okz]
          obtain ⟨rfl, rfl, rfl, rfl, rfl, rfl, rfl, rfl, b1', b2', b3', b4', b5', b6', b7', b8', b9', b0'⟩ := c10 (z11 ▸ okz)
          have hq := hq11 (z11 ▸ okz)
          refine ⟨_, _, q11, rfl, rfl, ((((((((PM.wI (a := (T1 + 1 + 5 + 3 * g)) (i := 0) v5 ⟨Or.inl (by omega), by omega⟩).wI (a := (T1 + 1 + 5 + 3 * g)) (i := 1) v6 ⟨Or.inl (by omega), by omega⟩).wI (a := (T1 + 1 + 5 + 3 * g)) (i := 7) 0 ⟨Or.inl (by omega), by omega⟩).wI (a := (T1 + 1 + 5 + 3 * g)) (i := 8) 0 ⟨Or.inl (by omega), by omega⟩).wI (a := 10 + 6) (i := g) 0 ⟨Or.inl (by omega), by omega⟩).wI (a := 10 + 7) (i := g) 0 ⟨Or.inl (by omega), by omega⟩).wI (a := 10 + 1) (i := g) 1 ⟨Or.inl (by omega), by omega⟩).wI (a := T1) (i := 5) (Int32.ofNat (g + 1)) ⟨Or.inl (by omega), by omega⟩), ((((((((GM.wI (a := (T1 + 1 + 5 + 3 * g)) 0 v5 ⟨by omega, by omega⟩).wI (a := (T1 + 1 + 5 + 3 * g)) 1 v6 ⟨by omega, by omega⟩).wI (a := (T1 + 1 + 5 + 3 * g)) 7 0 ⟨by omega, by omega⟩).wI (a := (T1 + 1 + 5 + 3 * g)) 8 0 ⟨by omega, by omega⟩).wI (a := 10 + 6) g 0 ⟨by omega, by omega⟩).wI (a := 10 + 7) g 0 ⟨by omega, by omega⟩).wB g 1 (Or.inr rfl)).wI (a := T1) 5 (Int32.ofNat (g + 1)) ⟨by omega, by omega⟩), fun _ => ⟨DR.fr ?_ (((((((((FM.wI ((T1 + 1 + 5 + 3 * g)) 0 v5).wI ((T1 + 1 + 5 + 3 * g)) 1 v6).wI ((T1 + 1 + 5 + 3 * g)) 7 0).wI ((T1 + 1 + 5 + 3 * g)) 8 0).wI (10 + 6) g 0).wI (10 + 7) g 0).wI (10 + 1) g 1).wI (T1) 5 (Int32.ofNat (g + 1)))) ht ho, by omega⟩⟩
          have c4 := D1.pv.c.2
          refine D1.ut ho ht hg eg1 ?_ ?_ ?_ ?_ ?_ ?_ ?_ ?_ ?_ ?_ ?_ ?_ ?_ ?_ ?_ ?_ ?_ ?_ ?_ ?_ ?_ ?_ ?_ ?_ ?_ ?_ ?_ ?_ ?_
          · simp (disch := omega) only [pn, dn, sI_o, sI_k, sI_self]
          · intro i h1 h2 h3 h4 h5 h6 h7 h8; simp (disch := omega) only [pn, dn, sI_o, sI_k, sI_self]
          · simp (disch := omega) only [pn, dn, sI_o, sI_k, sI_self]; omega
          · simp (disch := omega) only [pn, dn, sI_o, sI_k, sI_self]; omega
          · simp (disch := omega) only [pn, dn, sI_o, sI_k, sI_self]; omega
          · simp (disch := omega) only [pn, dn, sI_o, sI_k, sI_self]; omega
          · left; simp (disch := omega) only [pn, dn, sI_o, sI_k, sI_self]
          · intro i h1 h2 h3 h4 h5; simp (disch := omega) only [pn, dn, sI_o, sI_k, sI_self]
          · simp (disch := omega) only [pn, dn, sI_o, sI_k, sI_self]
          · simp (disch := omega) only [pn, dn, sI_o, sI_k, sI_self]; omega
          · simp (disch := omega) only [pn, dn, sI_o, sI_k, sI_self]
          · simp (disch := omega) only [pn, dn, sI_o, sI_k, sI_self]
          · simp (disch := omega) only [pn, dn, sI_o, sI_k, sI_self]
          · simp (disch := omega) only [pn, dn, sI_o, sI_k, sI_self]
          · simp (disch := omega) only [pn, dn, sI_o, sI_k, sI_self]
          · left; refine ⟨by simp (disch := omega) only [pn, dn, sI_o, sI_k, sI_self], by simp (disch := omega) only [pn, dn, sI_o, sI_k, sI_self], by simp (disch := omega) only [pn, dn, sI_o, sI_k, sI_self]⟩
          · simp (disch := omega) only [pn, dn, sI_o, sI_k, sI_self]
          · simp (disch := omega) only [pn, dn, sI_o, sI_k, sI_self]
          · simp (disch := omega) only [pn, dn, sI_o, sI_k, sI_self]
          · simp (disch := omega) only [pn, dn, sI_o, sI_k, sI_self]
          · simp (disch := omega) only [pn, dn, sI_o, sI_k, sI_self]
          · simp (disch := omega) only [pn, dn, sI_o, sI_k, sI_self]
          · simp (disch := omega) only [pn, dn, sI_o, sI_k, sI_self]
          · simp (disch := omega) only [pn, dn, sI_o, sI_k, sI_self]
          · simp (disch := omega) only [pn, dn, sI_o, sI_k, sI_self]
          · intro a i h1 h2 h3; simp only [sI_get]; repeat rw [if_neg (by omega)]
          · simp (disch := omega) only [pn, dn, sI_o, sI_k, sI_self]
          · simp (disch := omega) only [pn, dn, sI_o, sI_k, sI_self]
          · simp (disch := omega) only [pn, dn, sI_o, sI_k, sI_self]
        · rw [if_neg okz]
          exact ⟨_, _, q11, rfl, rfl, PM, GM, fun z => absurd (by simpa (disch := omega) only [sI_o] using z) okz⟩
      · rw [if_neg t1, if_neg t1, if_neg (show ¬ (2 : Int32) = 0 by decide)]
        have P11' := P11.wK (b := 153 + 3) (j := 21 + g) 2 ⟨Or.inl (by decide), by decide⟩
        have F11' := F11.wK (153 + 3) (21 + g) 2
        have G11' := G11.wK (b := 153 + 3) (j := 21 + g) 2 (by omega)
        obtain ⟨v12, w12, I12, K12, q12, e12, f12, P12, r12, h12⟩ := nm' (T1 := T1) hn P11' (l := 1) (u := 99) (l' := 1) (fun _ => Or.inl rfl)
        have F12a := F11'.trans r12
        have g12 : I12 T1 5 = Int32.ofNat g := by rw [F12a.1 _ _ (Or.inl (by omega))]; simp (disch := omega) only [sI_o]; exact g1
        have n12 : K12 (153 + 3) 4 = Int32.ofNat g := by rw [F12a.2 _ _ (Or.inl (by decide))]; simp (disch := omega) only [sI_o, sI_k]; exact n1
        have s12 : K12 (153 + 3) (21 + g) = 2 := by rw [F12a.2 _ _ (Or.inl (by decide))]; exact sI_self _ _ _ _
        have P12' := ((P12.wI (a := (T1 + 1 + 5 + 3 * g)) (i := 6) v12 ⟨Or.inl (by omega), by omega⟩).wK (b := 153 + 3) (j := 25 + g) w12 ⟨Or.inl (by decide), by decide⟩)
        have F12 := ((F12a.wI ((T1 + 1 + 5 + 3 * g)) 6 v12).wK (153 + 3) (25 + g) w12)
        have G12 := (((G11'.trans (r12.gr (T1 := T1) ho)).wI (a := (T1 + 1 + 5 + 3 * g)) 6 v12 ⟨by omega, by omega⟩).wK (b := 153 + 3) (j := 25 + g) w12 (by omega))
        have a2 := L_X10_readSort_e0 n j (Int32.ofNat g) (sI K12 (153 + 3) (25 + g) w12)
        rw [← hj] at a2
        simp (disch := omega) only [e12, f12, bd_s, gv_k, i_tno, ix_25, a2, ix_21, sI_o, sI_k, s12, if_neg (show ¬ (2 : Int32) = 1 by decide), g12, n12, ixp_1]
        have PM := ((P12'.wK (b := 153 + 5) (j := 2 + g) 1 ⟨Or.inl (by decide), by decide⟩).wK (b := 153 + 3) (j := 4) (Int32.ofNat (g + 1)) ⟨Or.inl (by decide), by decide⟩)
        have FM := ((F12.wK (153 + 5) (2 + g) 1).wK (153 + 3) (4) (Int32.ofNat (g + 1)))
        have GM := ((G12.wK (b := 153 + 5) (j := 2 + g) 1 (by omega)).wK (b := 153 + 3) (j := 4) (Int32.ofNat (g + 1)) (by omega))
        by_cases okz : I12 o 0 = 0
        · rw [if_pos okz]
          obtain ⟨ok11, rfl, l12, u12, hq12⟩ := h12 okz
          obtain ⟨rfl, rfl, rfl, rfl, rfl, rfl, rfl, rfl, b1', b2', b3', b4', b5', b6', b7', b8', b9', b0'⟩ := c10 (z11 ▸ ok11)
          have hq := hq11 (z11 ▸ ok11)
          refine ⟨_, _, q12, rfl, rfl, ((((((((PM.wI (a := (T1 + 1 + 5 + 3 * g)) (i := 0) v5 ⟨Or.inl (by omega), by omega⟩).wI (a := (T1 + 1 + 5 + 3 * g)) (i := 1) v6 ⟨Or.inl (by omega), by omega⟩).wI (a := (T1 + 1 + 5 + 3 * g)) (i := 7) 0 ⟨Or.inl (by omega), by omega⟩).wI (a := (T1 + 1 + 5 + 3 * g)) (i := 8) 0 ⟨Or.inl (by omega), by omega⟩).wI (a := 10 + 6) (i := g) 0 ⟨Or.inl (by omega), by omega⟩).wI (a := 10 + 7) (i := g) 0 ⟨Or.inl (by omega), by omega⟩).wI (a := 10 + 1) (i := g) 1 ⟨Or.inl (by omega), by omega⟩).wI (a := T1) (i := 5) (Int32.ofNat (g + 1)) ⟨Or.inl (by omega), by omega⟩), ((((((((GM.wI (a := (T1 + 1 + 5 + 3 * g)) 0 v5 ⟨by omega, by omega⟩).wI (a := (T1 + 1 + 5 + 3 * g)) 1 v6 ⟨by omega, by omega⟩).wI (a := (T1 + 1 + 5 + 3 * g)) 7 0 ⟨by omega, by omega⟩).wI (a := (T1 + 1 + 5 + 3 * g)) 8 0 ⟨by omega, by omega⟩).wI (a := 10 + 6) g 0 ⟨by omega, by omega⟩).wI (a := 10 + 7) g 0 ⟨by omega, by omega⟩).wB g 1 (Or.inr rfl)).wI (a := T1) 5 (Int32.ofNat (g + 1)) ⟨by omega, by omega⟩), fun _ => ⟨DR.fr ?_ (((((((((FM.wI ((T1 + 1 + 5 + 3 * g)) 0 v5).wI ((T1 + 1 + 5 + 3 * g)) 1 v6).wI ((T1 + 1 + 5 + 3 * g)) 7 0).wI ((T1 + 1 + 5 + 3 * g)) 8 0).wI (10 + 6) g 0).wI (10 + 7) g 0).wI (10 + 1) g 1).wI (T1) 5 (Int32.ofNat (g + 1)))) ht ho, by omega⟩⟩
          have c4 := D1.pv.c.2
          refine D1.ut ho ht hg eg1 ?_ ?_ ?_ ?_ ?_ ?_ ?_ ?_ ?_ ?_ ?_ ?_ ?_ ?_ ?_ ?_ ?_ ?_ ?_ ?_ ?_ ?_ ?_ ?_ ?_ ?_ ?_ ?_ ?_
          · simp (disch := omega) only [pn, dn, sI_o, sI_k, sI_self]
          · intro i h1 h2 h3 h4 h5 h6 h7 h8; simp (disch := omega) only [pn, dn, sI_o, sI_k, sI_self]
          · simp (disch := omega) only [pn, dn, sI_o, sI_k, sI_self]; omega
          · simp (disch := omega) only [pn, dn, sI_o, sI_k, sI_self]; omega
          · simp (disch := omega) only [pn, dn, sI_o, sI_k, sI_self]; omega
          · simp (disch := omega) only [pn, dn, sI_o, sI_k, sI_self]; omega
          · right; right; refine ⟨by simp (disch := omega) only [pn, dn, sI_o, sI_k, sI_self], ?_, ?_⟩ <;> (simp (disch := omega) only [pn, dn, sI_o, sI_k, sI_self]; omega)
          · intro i h1 h2 h3 h4 h5; simp (disch := omega) only [pn, dn, sI_o, sI_k, sI_self]
          · simp (disch := omega) only [pn, dn, sI_o, sI_k, sI_self]
          · simp (disch := omega) only [pn, dn, sI_o, sI_k, sI_self]; omega
          · simp (disch := omega) only [pn, dn, sI_o, sI_k, sI_self]
          · simp (disch := omega) only [pn, dn, sI_o, sI_k, sI_self]
          · simp (disch := omega) only [pn, dn, sI_o, sI_k, sI_self]
          · simp (disch := omega) only [pn, dn, sI_o, sI_k, sI_self]
          · simp (disch := omega) only [pn, dn, sI_o, sI_k, sI_self]
          · right; right; refine ⟨by simp (disch := omega) only [pn, dn, sI_o, sI_k, sI_self], by simp (disch := omega) only [pn, dn, sI_o, sI_k, sI_self], by simp (disch := omega) only [pn, dn, sI_o, sI_k, sI_self]⟩
          · simp (disch := omega) only [pn, dn, sI_o, sI_k, sI_self]
          · simp (disch := omega) only [pn, dn, sI_o, sI_k, sI_self]
          · simp (disch := omega) only [pn, dn, sI_o, sI_k, sI_self]
          · simp (disch := omega) only [pn, dn, sI_o, sI_k, sI_self]
          · simp (disch := omega) only [pn, dn, sI_o, sI_k, sI_self]
          · simp (disch := omega) only [pn, dn, sI_o, sI_k, sI_self]
          · simp (disch := omega) only [pn, dn, sI_o, sI_k, sI_self]
          · simp (disch := omega) only [pn, dn, sI_o, sI_k, sI_self]
          · simp (disch := omega) only [pn, dn, sI_o, sI_k, sI_self]
          · intro a i h1 h2 h3; simp only [sI_get]; repeat rw [if_neg (by omega)]
          · simp (disch := omega) only [pn, dn, sI_o, sI_k, sI_self]
          · simp (disch := omega) only [pn, dn, sI_o, sI_k, sI_self]
          · simp (disch := omega) only [pn, dn, sI_o, sI_k, sI_self]
        · rw [if_neg okz]
          exact ⟨_, _, q12, rfl, rfl, PM, GM, fun z => absurd (by simpa (disch := omega) only [sI_o] using z) okz⟩
    · rw [if_neg t1, if_neg t1, if_neg (show ¬ (1 : Int32) = 0 by decide)]
      have P10' := P10.wK (b := 153 + 3) (j := 21 + g) 1 ⟨Or.inl (by decide), by decide⟩
      have F10' := F10.wK (153 + 3) (21 + g) 1
      have G10' := G10.wK (b := 153 + 3) (j := 21 + g) 1 (by omega)
      obtain ⟨v11, w11, I11, K11, q11, e11, f11, P11, r11, h11⟩ := nm' (T1 := T1) hn P10' (l := 1) (u := 99) (l' := 1) (fun _ => Or.inl rfl)
      have F11a := F10'.trans r11
      have s11 : K11 (153 + 3) (21 + g) = 1 := by rw [F11a.2 _ _ (Or.inl (by decide))]; exact sI_self _ _ _ _
      have P11' := ((P11.wI (a := (T1 + 1 + 5 + 3 * g)) (i := 4) v11 ⟨Or.inl (by omega), by omega⟩).wK (b := 153 + 3) (j := 25 + g) w11 ⟨Or.inl (by decide), by decide⟩)
      have F11 := ((F11a.wI ((T1 + 1 + 5 + 3 * g)) 4 v11).wK (153 + 3) (25 + g) w11)
      have G11 := (((G10'.trans (r11.gr (T1 := T1) ho)).wI (a := (T1 + 1 + 5 + 3 * g)) 4 v11 ⟨by omega, by omega⟩).wK (b := 153 + 3) (j := 25 + g) w11 (by omega))
      have a2 := L_X10_readSort_e0 n j (Int32.ofNat g) (sI K11 (153 + 3) (25 + g) w11)
      rw [← hj] at a2
      obtain ⟨v12, w12, I12, K12, q12, e12, f12, P12, r12, h12⟩ := nm' (T1 := T1) hn P11' (l := 1) (u := 99) (l' := 1) (fun _ => Or.inl rfl)
      have F12a := F11.trans r12
      have g12 : I12 T1 5 = Int32.ofNat g := by rw [F12a.1 _ _ (Or.inl (by omega))]; simp (disch := omega) only [sI_o]; exact g1
      have n12 : K12 (153 + 3) 4 = Int32.ofNat g := by rw [F12a.2 _ _ (Or.inl (by decide))]; simp (disch := omega) only [sI_o, sI_k]; exact n1
      have P12' := ((P12.wI (a := (T1 + 1 + 5 + 3 * g)) (i := 5) v12 ⟨Or.inl (by omega), by omega⟩).wK (b := 153 + 3) (j := 29 + g) w12 ⟨Or.inl (by decide), by decide⟩)
      have F12 := ((F12a.wI ((T1 + 1 + 5 + 3 * g)) 5 v12).wK (153 + 3) (29 + g) w12)
      have G12 := (((G11.trans (r12.gr (T1 := T1) ho)).wI (a := (T1 + 1 + 5 + 3 * g)) 5 v12 ⟨by omega, by omega⟩).wK (b := 153 + 3) (j := 29 + g) w12 (by omega))
      simp (disch := omega) only [e11, f11, bd_s, gv_k, i_tno, ix_25, a2, ix_21, ix_29, sI_o, sI_k, s11, if_pos (show (1 : Int32) = 1 from rfl)]
      simp (disch := omega) only [e12, f12, bd_s, gv_k, i_tno, sI_o, sI_k, g12, n12, ixp_1]
      rw [if_pos True.intro, bd_s, sI_k (show 4 ≠ 29 + g by omega), n12, ixp_1]
      have PM := ((P12'.wK (b := 153 + 5) (j := 2 + g) 1 ⟨Or.inl (by decide), by decide⟩).wK (b := 153 + 3) (j := 4) (Int32.ofNat (g + 1)) ⟨Or.inl (by decide), by decide⟩)
      have FM := ((F12.wK (153 + 5) (2 + g) 1).wK (153 + 3) (4) (Int32.ofNat (g + 1)))
      have GM := ((G12.wK (b := 153 + 5) (j := 2 + g) 1 (by omega)).wK (b := 153 + 3) (j := 4) (Int32.ofNat (g + 1)) (by omega))
      by_cases okz : I12 o 0 = 0
      · rw [if_pos okz]
        obtain ⟨ok11, rfl, l12, u12, hq12⟩ := h12 okz
        rw [sI_o (by omega)] at ok11
        obtain ⟨ok10, rfl, l11, u11, hq11⟩ := h11 ok11
        obtain ⟨rfl, rfl, rfl, rfl, rfl, rfl, rfl, rfl, b1', b2', b3', b4', b5', b6', b7', b8', b9', b0'⟩ := c10 ok10
        refine ⟨_, _, q12, rfl, rfl, ((((((((PM.wI (a := (T1 + 1 + 5 + 3 * g)) (i := 0) v5 ⟨Or.inl (by omega), by omega⟩).wI (a := (T1 + 1 + 5 + 3 * g)) (i := 1) v6 ⟨Or.inl (by omega), by omega⟩).wI (a := (T1 + 1 + 5 + 3 * g)) (i := 7) 0 ⟨Or.inl (by omega), by omega⟩).wI (a := (T1 + 1 + 5 + 3 * g)) (i := 8) 0 ⟨Or.inl (by omega), by omega⟩).wI (a := 10 + 6) (i := g) 0 ⟨Or.inl (by omega), by omega⟩).wI (a := 10 + 7) (i := g) 0 ⟨Or.inl (by omega), by omega⟩).wI (a := 10 + 1) (i := g) 1 ⟨Or.inl (by omega), by omega⟩).wI (a := T1) (i := 5) (Int32.ofNat (g + 1)) ⟨Or.inl (by omega), by omega⟩), ((((((((GM.wI (a := (T1 + 1 + 5 + 3 * g)) 0 v5 ⟨by omega, by omega⟩).wI (a := (T1 + 1 + 5 + 3 * g)) 1 v6 ⟨by omega, by omega⟩).wI (a := (T1 + 1 + 5 + 3 * g)) 7 0 ⟨by omega, by omega⟩).wI (a := (T1 + 1 + 5 + 3 * g)) 8 0 ⟨by omega, by omega⟩).wI (a := 10 + 6) g 0 ⟨by omega, by omega⟩).wI (a := 10 + 7) g 0 ⟨by omega, by omega⟩).wB g 1 (Or.inr rfl)).wI (a := T1) 5 (Int32.ofNat (g + 1)) ⟨by omega, by omega⟩), fun _ => ⟨DR.fr ?_ (((((((((FM.wI ((T1 + 1 + 5 + 3 * g)) 0 v5).wI ((T1 + 1 + 5 + 3 * g)) 1 v6).wI ((T1 + 1 + 5 + 3 * g)) 7 0).wI ((T1 + 1 + 5 + 3 * g)) 8 0).wI (10 + 6) g 0).wI (10 + 7) g 0).wI (10 + 1) g 1).wI (T1) 5 (Int32.ofNat (g + 1)))) ht ho, by omega⟩⟩
        have c4 := D1.pv.c.2
        refine D1.ut ho ht hg eg1 ?_ ?_ ?_ ?_ ?_ ?_ ?_ ?_ ?_ ?_ ?_ ?_ ?_ ?_ ?_ ?_ ?_ ?_ ?_ ?_ ?_ ?_ ?_ ?_ ?_ ?_ ?_ ?_ ?_
        · simp (disch := omega) only [pn, dn, sI_o, sI_k, sI_self]
        · intro i h1 h2 h3 h4 h5 h6 h7 h8; simp (disch := omega) only [pn, dn, sI_o, sI_k, sI_self]
        · simp (disch := omega) only [pn, dn, sI_o, sI_k, sI_self]; omega
        · simp (disch := omega) only [pn, dn, sI_o, sI_k, sI_self]; omega
        · simp (disch := omega) only [pn, dn, sI_o, sI_k, sI_self]; omega
        · simp (disch := omega) only [pn, dn, sI_o, sI_k, sI_self]; omega
        · right; left; refine ⟨by simp (disch := omega) only [pn, dn, sI_o, sI_k, sI_self], ?_, ?_, ?_, ?_⟩ <;> (simp (disch := omega) only [pn, dn, sI_o, sI_k, sI_self]; omega)
        · intro i h1 h2 h3 h4 h5; simp (disch := omega) only [pn, dn, sI_o, sI_k, sI_self]
        · simp (disch := omega) only [pn, dn, sI_o, sI_k, sI_self]
        · simp (disch := omega) only [pn, dn, sI_o, sI_k, sI_self]; omega
        · simp (disch := omega) only [pn, dn, sI_o, sI_k, sI_self]
        · simp (disch := omega) only [pn, dn, sI_o, sI_k, sI_self]
        · simp (disch := omega) only [pn, dn, sI_o, sI_k, sI_self]
        · simp (disch := omega) only [pn, dn, sI_o, sI_k, sI_self]
        · simp (disch := omega) only [pn, dn, sI_o, sI_k, sI_self]
        · right; left; refine ⟨by simp (disch := omega) only [pn, dn, sI_o, sI_k, sI_self], by simp (disch := omega) only [pn, dn, sI_o, sI_k, sI_self], by simp (disch := omega) only [pn, dn, sI_o, sI_k, sI_self]⟩
        · simp (disch := omega) only [pn, dn, sI_o, sI_k, sI_self]
        · simp (disch := omega) only [pn, dn, sI_o, sI_k, sI_self]
        · simp (disch := omega) only [pn, dn, sI_o, sI_k, sI_self]
        · simp (disch := omega) only [pn, dn, sI_o, sI_k, sI_self]
        · simp (disch := omega) only [pn, dn, sI_o, sI_k, sI_self]
        · simp (disch := omega) only [pn, dn, sI_o, sI_k, sI_self]
        · simp (disch := omega) only [pn, dn, sI_o, sI_k, sI_self]
        · simp (disch := omega) only [pn, dn, sI_o, sI_k, sI_self]
        · simp (disch := omega) only [pn, dn, sI_o, sI_k, sI_self]
        · intro a i h1 h2 h3; simp only [sI_get]; repeat rw [if_neg (by omega)]
        · simp (disch := omega) only [pn, dn, sI_o, sI_k, sI_self]
        · simp (disch := omega) only [pn, dn, sI_o, sI_k, sI_self]
        · simp (disch := omega) only [pn, dn, sI_o, sI_k, sI_self]
      · rw [if_neg okz]
        exact ⟨_, _, q12, rfl, rfl, PM, GM, fun z => absurd (by simpa (disch := omega) only [sI_o] using z) okz⟩
  · rw [if_pos e, e1, f1, bd_s, bd_s, f2, bd_s]
    dsimp only
    rw [if_pos rfl, if_neg (P1.er er).1]
    exact ⟨I1, K1, q, rfl, rfl, P1, r1.gr ho, fun z => absurd z er⟩
end TRAIN
