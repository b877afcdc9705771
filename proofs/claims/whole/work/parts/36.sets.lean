theorem pl_0 (K : gI) (t : Int32) : pl (sI K 153 0 t) = pl K := by funext i; exact sI_o (by decide)
theorem st_0 (K : gI) (t : Int32) : st (sI K 153 0 t) = st K := by funext i; exact sI_o (by decide)
theorem st_up (K : gI) (t : Nat) (v : Int32) : st (sI K (153 + 4) t v) = up (st K) t v := by
  funext i; unfold st up; rw [sI_get]
  by_cases h : i = t
  · rw [if_pos ⟨rfl, h⟩, if_pos h]
  · rw [if_neg (fun q => h q.2), if_neg h]
section FACEH
variable {n T0 T1 : Nat} {I K : gI}
theorem LD.th (L : LD T0 I K) (t : Int32) : LD T0 I (sI K 153 0 t) := by
  refine LD.mk ?_ ?_ ?_ ?_ ?_
  · rw [pl_0]; exact L.pv
  · rw [pl_0]; exact L.c1
  · rw [pl_0]; exact L.tr
  · rw [pl_0, st_0]; exact L.sr
  · rw [pl_0, st_0]; exact L.sv
/-- before a change, after the exception's number is laid -/
theorem keep0 (hn : 2000 ≤ n) (R : Rel T0 T1 I K) (h9 : I 0 4 = 1) (h10 : K 153 23 = 1) (L : LD T0 I K) : ∃ I' K', F_X0_keep n 2 I = some I' ∧ F_X10_remember n (sI K 153 0 0) = some K' ∧ Rel T0 T1 I' K' ∧ I' 0 4 = 1 ∧ K' 153 23 = 1 ∧ LD T0 I' K' ∧ pl K' = pl K ∧ st K' = st K ∧ K' 153 0 = 0 := by
  obtain ⟨I', K', e1, e2, r, hI, hK, L'⟩ := keeps hn (R.tt' (Tt.r 0)) h9 (by rw [sI_k (by decide)]; exact h10) (L.th 0)
  refine ⟨I', K', e1, e2, r, ?_, ?_, L', ?_, ?_, ?_⟩
  · rw [hI _ _ (by decide)]; exact h9
  · rw [hK _ _ (by decide) (by decide), sI_k (by decide)]; exact h10
  · rw [← pl_0 K 0]; funext i; exact hK _ _ (by decide) (Or.inl (by decide))
  · rw [← st_0 K 0]; funext i; exact hK _ _ (by decide) (Or.inl (by decide))
  · rw [hK _ _ (by decide) (by decide), sI_self]
theorem sets_s {K' : gI} (e : F_X10_remember n K = some K') {t : Nat} (ht : t < 30) (v : Int32) : F_X10_sets n K (Int32.ofNat t) v = some (st K' t, sI K' (153 + 4) t v) := by
  unfold F_X10_sets
  rw [e, bd_s, gv_o ht, gv_o ht, i_tno (by omega)]
  rfl
/-- one number of the state now has changed -/
theorem Rel.up {I' : gI} (R : Rel T0 T1 I K) (h9 : I 0 4 = 1) (h10 : K 153 23 = 1) (L : LD T0 I K) (hI : ∀ o i, ¬ (2 ≤ o ∧ o < 10) → I' o i = I o i) {t : Nat} {v : Int32} (S : SR I' 2 (pl K) (up (st K) t v)) (V : SV (pl K) (up (st K) t v)) : Rel T0 T1 I' (sI K (153 + 4) t v) :=
  R.ns h9 h10 L hI (fun o i h => sI_o (by omega)) (by rw [st_up]; exact S) (by rw [st_up]; exact V)
theorem e_setPhase (hn : 2000 ≤ n) (R : Rel T0 T1 I K) (a1 a2 : Int32) : AG (F_X9_setPhase n T0 T1 I a1 a2) (F_X10_setPhase n K a1 a2) (fun v b => v.1 = b.1 ∧ Rel T0 T1 v.2 b.2 ∧ b.2 153 0 = 0) (fun E b => Tt K (thA E) b.2) := by
  rcases R.ld with ⟨h9, h10⟩ | ⟨h9, h10, L⟩
  · refine AG.er (E := ISE) (b := (0, sI K 153 0 1)) ?_ ?_ (Tt.r 1)
    · unfold F_X9_setPhase; rw [n_tank0 h9]; rfl
    · unfold F_X10_setPhase
      simp only [x_src, x_in, bd_s]
      cases src (pl K) a1 <;> cases rng a2 0 359 <;> simp only [b2_tv, b2_fv, e10, if_true, if_false, bd_s, ask0 h10, askF0 h10]
  unfold F_X9_setPhase F_X10_setPhase
  simp only [n_tank1 h9, nt_s, n_src L, n_rng, nd_s, x_src, x_in, bd_s]
  cases g0 : src (pl K) a1
  · refine AG.er (E := IOB) (b := (0, sI K 153 0 2)) ?_ ?_ (Tt.r 2)
    · rfl
    · cases rng a2 0 359 <;> simp only [b2_tv, b2_fv, e10, if_true, if_false, bd_s, ask2 h10, askF2 h10, askF3 h10]
  cases g1 : rng a2 0 359
  · refine AG.er (E := IAE) (b := (0, sI K 153 0 3)) ?_ ?_ (Tt.r 3)
    · rfl
    · simp only [b2_tv, b2_fv, e10, if_true, if_false, bd_s, ask2 h10, askF2 h10, askF3 h10]
  simp only [b2_tv, b2_fv, e10, if_true, if_false, bd_s, ask1 h10, askF1 h10]
  have M := L.mk' (Tt.r 0) R.tv
  have C := L.ck R.ru
  have h44 := L.pv.c.2
  obtain ⟨I', K', e9, e10, r, h9', h10', L', ep, es, k0⟩ := keep0 hn R h9 h10 L
  obtain ⟨k, hk, hk4, rfl⟩ := src_k L.pv g0
  have hk' : k < (pl K' 4).toInt.toNat := by rw [ep]; exact hk
  have h44' := L'.pv.c.2
  rw [e9, ix_10, sets_s e10 (by omega)]
  simp only [bd_s]
  rw [gv_o hk4, gv_o hk4, i_tno (by omega)]
  refine AG.ok rfl rfl ⟨L'.sr.ph k hk', r.up h9' h10' L' (fun o i h => sI_o (by omega)) (SR.uph L'.sr h44' hk4 a2) (L'.sv.u h44' (by omega) a2), ?_⟩
  dsimp only
  rw [sI_o (by decide)]; exact k0
theorem e_setAmp (hn : 2000 ≤ n) (R : Rel T0 T1 I K) (a1 a2 : Int32) : AG (F_X9_setAmp n T0 T1 I a1 a2) (F_X10_setAmp n K a1 a2) (fun v b => v.1 = b.1 ∧ Rel T0 T1 v.2 b.2 ∧ b.2 153 0 = 0) (fun E b => Tt K (thA E) b.2) := by
  rcases R.ld with ⟨h9, h10⟩ | ⟨h9, h10, L⟩
  · refine AG.er (E := ISE) (b := (0, sI K 153 0 1)) ?_ ?_ (Tt.r 1)
    · unfold F_X9_setAmp; rw [n_tank0 h9]; rfl
    · unfold F_X10_setAmp
      simp only [x_src, x_in, bd_s]
      cases src (pl K) a1 <;> cases rng a2 1 999 <;> simp only [b2_tv, b2_fv, e10, if_true, if_false, bd_s, ask0 h10, askF0 h10]
  unfold F_X9_setAmp F_X10_setAmp
  simp only [n_tank1 h9, nt_s, n_src L, n_rng, nd_s, x_src, x_in, bd_s]
  cases g0 : src (pl K) a1
  · refine AG.er (E := IOB) (b := (0, sI K 153 0 2)) ?_ ?_ (Tt.r 2)
    · rfl
    · cases rng a2 1 999 <;> simp only [b2_tv, b2_fv, e10, if_true, if_false, bd_s, ask2 h10, askF2 h10, askF3 h10]
  cases g1 : rng a2 1 999
  · refine AG.er (E := IAE) (b := (0, sI K 153 0 3)) ?_ ?_ (Tt.r 3)
    · rfl
    · simp only [b2_tv, b2_fv, e10, if_true, if_false, bd_s, ask2 h10, askF2 h10, askF3 h10]
  simp only [b2_tv, b2_fv, e10, if_true, if_false, bd_s, ask1 h10, askF1 h10]
  have M := L.mk' (Tt.r 0) R.tv
  have C := L.ck R.ru
  have h44 := L.pv.c.2
  obtain ⟨I', K', e9, e10, r, h9', h10', L', ep, es, k0⟩ := keep0 hn R h9 h10 L
  obtain ⟨k, hk, hk4, rfl⟩ := src_k L.pv g0
  have hk' : k < (pl K' 4).toInt.toNat := by rw [ep]; exact hk
  have h44' := L'.pv.c.2
  have hr := rng_t.mp g1
  have c1 : (1 : Int32).toInt = 1 := rfl
  have c2 : (999 : Int32).toInt = 999 := rfl
  rw [e9, ix_6, sets_s e10 (by omega)]
  simp only [bd_s]
  rw [gv_o hk4, gv_o hk4, i_tno (by omega)]
  refine AG.ok rfl rfl ⟨L'.sr.amp k hk', r.up h9' h10' L' (fun o i h => sI_o (by omega)) (SR.uamp L'.sr h44' hk4 a2) (L'.sv.uamp h44' hk4 (by omega)), ?_⟩
  dsimp only
  rw [sI_o (by decide)]; exact k0
theorem e_setOn (hn : 2000 ≤ n) (R : Rel T0 T1 I K) {a1 a2 : Int32} (ha2 : a2 = 0 ∨ a2 = 1) : AG (F_X9_setOn n T0 T1 I a1 a2) (F_X10_setOn n K a1 a2) (fun v b => v.1 = b.1 ∧ Rel T0 T1 v.2 b.2 ∧ b.2 153 0 = 0) (fun E b => Tt K (thA E) b.2) := by
  rcases R.ld with ⟨h9, h10⟩ | ⟨h9, h10, L⟩
  · refine AG.er (E := ISE) (b := (0, sI K 153 0 1)) ?_ ?_ (Tt.r 1)
    · unfold F_X9_setOn; rw [n_tank0 h9]; rfl
    · unfold F_X10_setOn
      simp only [x_src, bd_s]
      cases src (pl K) a1 <;> simp only [b2_tv, b2_fv, e10, if_true, if_false, bd_s, ask0 h10, askF0 h10]
  unfold F_X9_setOn F_X10_setOn
  simp only [n_tank1 h9, nt_s, n_src L, nd_s, x_src, bd_s]
  cases g0 : src (pl K) a1
  · refine AG.er (E := IOB) (b := (0, sI K 153 0 2)) ?_ ?_ (Tt.r 2)
    · rfl
    · simp only [b2_tv, b2_fv, e10, if_true, if_false, bd_s, ask2 h10, askF2 h10, askF3 h10]
  simp only [b2_tv, b2_fv, e10, if_true, if_false, bd_s, ask1 h10, askF1 h10]
  have M := L.mk' (Tt.r 0) R.tv
  have C := L.ck R.ru
  have h44 := L.pv.c.2
  obtain ⟨I', K', e9, e10, r, h9', h10', L', ep, es, k0⟩ := keep0 hn R h9 h10 L
  obtain ⟨k, hk, hk4, rfl⟩ := src_k L.pv g0
  have hk' : k < (pl K' 4).toInt.toNat := by rw [ep]; exact hk
  have h44' := L'.pv.c.2
  have hb := L'.sr.b k hk4
  have hs := L'.sr.on k hk'
  have sel : (if a2 = 0 then bd (F_X10_sets n (sI K 153 0 0) ((2 : Int32) + Int32.ofNat k) 0) (fun v25 => if v25.1 = (1 : Int32) then some ((1 : Int32), v25.2) else some ((0 : Int32), v25.2)) else bd (F_X10_sets n (sI K 153 0 0) ((2 : Int32) + Int32.ofNat k) 1) (fun v25 => if v25.1 = (1 : Int32) then some ((1 : Int32), v25.2) else some ((0 : Int32), v25.2))) = some (I' (2 + 1) k, sI K' (153 + 4) (2 + k) a2) := by
    have e : ∀ v, bd (F_X10_sets n (sI K 153 0 0) ((2 : Int32) + Int32.ofNat k) v) (fun v25 => if v25.1 = (1 : Int32) then some ((1 : Int32), v25.2) else some ((0 : Int32), v25.2)) = some (I' (2 + 1) k, sI K' (153 + 4) (2 + k) v) := by
      intro v
      rw [ix_2, sets_s e10 (by omega), bd_s, ← hs]
      rcases hb with hb | hb
      · rw [hb]; rfl
      · rw [hb]; rfl
    rcases ha2 with h | h
    · rw [h, if_pos rfl]; exact e 0
    · rw [h, if_neg (by decide)]; exact e 1
  rw [e9, sel]
  simp only [bd_s]
  rw [gv_o hk4, gv_o hk4, i_tno (by omega), gd_t ha2, gd_t hb]
  refine AG.ok rfl rfl ⟨rfl, r.up h9' h10' L' (fun o i h => sI_o (by omega)) (SR.uon L'.sr h44' hk4 a2 ha2) (L'.sv.uon h44' hk4 ha2), ?_⟩
  dsimp only
  rw [sI_o (by decide)]; exact k0
theorem e_moveSource (hn : 2000 ≤ n) (R : Rel T0 T1 I K) (a1 a2 a3 : Int32) : AG (F_X9_moveSource n T0 T1 I a1 a2 a3) (F_X10_moveSource n K a1 a2 a3) (fun v b => v.1 = b.1 ∧ Rel T0 T1 v.2 b.2 ∧ b.2 153 0 = 0) (fun E b => Tt K (thA E) b.2) := by
  rcases R.ld with ⟨h9, h10⟩ | ⟨h9, h10, L⟩
  · refine AG.er (E := ISE) (b := (0, sI K 153 0 1)) ?_ ?_ (Tt.r 1)
    · unfold F_X9_moveSource; rw [n_tank0 h9]; rfl
    · unfold F_X10_moveSource
      simp only [x_src, x_cel, bd_s]
      cases src (pl K) a1 <;> cases cel (pl K) a2 a3 <;> simp only [b2_tv, b2_fv, e10, if_true, if_false, bd_s, ask0 h10, askF0 h10]
  unfold F_X9_moveSource F_X10_moveSource
  simp only [n_tank1 h9, nt_s, n_src L, n_cel L, nd_s, x_src, x_cel, bd_s]
  cases g0 : src (pl K) a1
  · refine AG.er (E := IOB) (b := (0, sI K 153 0 2)) ?_ ?_ (Tt.r 2)
    · rfl
    · cases cel (pl K) a2 a3 <;> simp only [b2_tv, b2_fv, e10, if_true, if_false, bd_s, ask2 h10, askF2 h10, askF3 h10]
  cases g1 : cel (pl K) a2 a3
  · refine AG.er (E := IOB) (b := (0, sI K 153 0 2)) ?_ ?_ (Tt.r 2)
    · rfl
    · simp only [b2_tv, b2_fv, e10, if_true, if_false, bd_s, ask2 h10, askF2 h10, askF3 h10]
  simp only [b2_tv, b2_fv, e10, if_true, if_false, bd_s, ask1 h10, askF1 h10]
  have M := L.mk' (Tt.r 0) R.tv
  have C := L.ck R.ru
  have h44 := L.pv.c.2
  obtain ⟨I', K', e9, e10, r, h9', h10', L', ep, es, k0⟩ := keep0 hn R h9 h10 L
  obtain ⟨k, hk, hk4, rfl⟩ := src_k L.pv g0
  have hk' : k < (pl K' 4).toInt.toNat := by rw [ep]; exact hk
  have h44' := L'.pv.c.2
  have e9b : F_X10_setsTwo n (sI K 153 0 0) (14 : Int32) (Int32.ofNat k) a2 a3 = bd (F_X10_rowOf n (153 + 4) 30 (sI (sI K' (153 + 4) (14 + k) a2) (153 + 4) (18 + k) a3) (Int32.ofNat k) ((sI (sI K' (153 + 4) (14 + k) a2) (153 + 4) (18 + k) a3) (153 + 4) 0)) (fun v40 => bd (F_X10_columnOf n (153 + 4) 30 (sI (sI K' (153 + 4) (14 + k) a2) (153 + 4) (18 + k) a3) (Int32.ofNat k) ((sI (sI K' (153 + 4) (14 + k) a2) (153 + 4) (18 + k) a3) (153 + 4) 0)) (fun v56 => some ((((sI (sI K' (153 + 4) (14 + k) a2) (153 + 4) (18 + k) a3) (153 + 2) 0 * v40) + v56), (sI (sI K' (153 + 4) (14 + k) a2) (153 + 4) (18 + k) a3)))) := by
    unfold F_X10_setsTwo
    have e18 : ((14 : Int32) + (4 : Int32)) + Int32.ofNat k = Int32.ofNat (18 + k) := i_oadd 18 k
    rw [ix_14, sets_s e10 (by omega), bd_s, e18, gv_o (by omega), i_tno (by omega)]
  have R1 : Rel T0 T1 (sI (sI I' (2 + 4) k a2) (2 + 5) k a3) (sI (sI K' (153 + 4) (14 + k) a2) (153 + 4) (18 + k) a3) := by
    refine r.ns h9' h10' L' (fun o i h => by rw [sI_o (by omega), sI_o (by omega)]) (fun o i h => by rw [sI_o (by omega), sI_o (by omega)]) ?_ ?_
    · rw [st_up, st_up]; exact SR.uy (SR.ux L'.sr h44' hk4 a2) h44' hk4 a3
    · rw [st_up, st_up]; exact (L'.sv.u h44' (by omega) a2).u h44' (by omega) a3
  have hl2 : LD T0 (sI (sI I' (2 + 4) k a2) (2 + 5) k a3) (sI (sI K' (153 + 4) (14 + k) a2) (153 + 4) (18 + k) a3) := by
    rcases R1.ld with h | h
    · have := h.1; rw [sI_o (by decide), sI_o (by decide), h9'] at this; exact absurd this (by decide)
    · exact h.2.2
  have C2 := hl2.ck R1.ru
  have M2 : MK (sI (sI K' (153 + 4) (14 + k) a2) (153 + 4) (18 + k) a3) (153 + 4) (pl (sI (sI K' (153 + 4) (14 + k) a2) (153 + 4) (18 + k) a3)) (st (sI (sI K' (153 + 4) (14 + k) a2) (153 + 4) (18 + k) a3)) := MK.mk (fun _ => rfl) (fun _ => rfl) R1.tv (by decide)
  have ep2 : pl (sI (sI K' (153 + 4) (14 + k) a2) (153 + 4) (18 + k) a3) = pl K := by
    rw [← ep]; funext i; unfold pl; rw [sI_o (by decide), sI_o (by decide)]
  have hk2 : k < (pl (sI (sI K' (153 + 4) (14 + k) a2) (153 + 4) (18 + k) a3) 4).toInt.toNat := by rw [ep2]; exact hk
  rw [e9, e9b]
  simp only [bd_s]
  rw [gv_o hk4, gv_o hk4, i_tno (by omega)]
  unfold F_X7_cellOf F_X7_cellNumber
  rw [c_col hl2.pv C2 hk2, c_row hl2.pv C2 hk2, m_col M2 hk4, m_row M2 hk4]
  simp only [bd_s]
  rw [hl2.tr.w, hl2.sr.t, M2.hp, M2.hs]
  refine AG.ok rfl rfl ⟨?_, R1, ?_⟩
  · dsimp only
    rw [Int32.mul_comm]
  · dsimp only
    rw [sI_o (by decide), sI_o (by decide)]; exact k0
theorem e_setDrift (hn : 2000 ≤ n) (R : Rel T0 T1 I K) (a1 a2 a3 : Int32) : AG (F_X9_setDrift n T0 T1 I a1 a2 a3) (F_X10_setDrift n K a1 a2 a3) (fun v b => v.1 = b.1 ∧ Rel T0 T1 v.2 b.2 ∧ b.2 153 0 = 0) (fun E b => Tt K (thA E) b.2) := by
  rcases R.ld with ⟨h9, h10⟩ | ⟨h9, h10, L⟩
  · refine AG.er (E := ISE) (b := (0, sI K 153 0 1)) ?_ ?_ (Tt.r 1)
    · unfold F_X9_setDrift; rw [n_tank0 h9]; rfl
    · unfold F_X10_setDrift
      simp only [x_src, x_in, bd_s]
      cases src (pl K) a1 <;> cases rng a2 (-99) 99 <;> cases rng a3 (-99) 99 <;> simp only [b2_tv, b2_fv, e10, if_true, if_false, bd_s, ask0 h10, askF0 h10]
  unfold F_X9_setDrift F_X10_setDrift
  simp only [n_tank1 h9, nt_s, n_src L, n_rng, nd_s, x_src, x_in, bd_s]
  cases g0 : src (pl K) a1
  · refine AG.er (E := IOB) (b := (0, sI K 153 0 2)) ?_ ?_ (Tt.r 2)
    · rfl
    · cases rng a2 (-99) 99 <;> cases rng a3 (-99) 99 <;> simp only [b2_tv, b2_fv, e10, if_true, if_false, bd_s, ask2 h10, askF2 h10, askF3 h10]
  cases g1 : rng a2 (-99) 99
  · refine AG.er (E := IAE) (b := (0, sI K 153 0 3)) ?_ ?_ (Tt.r 3)
    · rfl
    · cases rng a3 (-99) 99 <;> simp only [b2_tv, b2_fv, e10, if_true, if_false, bd_s, ask2 h10, askF2 h10, askF3 h10]
  cases g2 : rng a3 (-99) 99
  · refine AG.er (E := IAE) (b := (0, sI K 153 0 3)) ?_ ?_ (Tt.r 3)
    · rfl
    · simp only [b2_tv, b2_fv, e10, if_true, if_false, bd_s, ask2 h10, askF2 h10, askF3 h10]
  simp only [b2_tv, b2_fv, e10, if_true, if_false, bd_s, ask1 h10, askF1 h10]
  have M := L.mk' (Tt.r 0) R.tv
  have C := L.ck R.ru
  have h44 := L.pv.c.2
  obtain ⟨I', K', e9, e10, r, h9', h10', L', ep, es, k0⟩ := keep0 hn R h9 h10 L
  obtain ⟨k, hk, hk4, rfl⟩ := src_k L.pv g0
  have hk' : k < (pl K' 4).toInt.toNat := by rw [ep]; exact hk
  have h44' := L'.pv.c.2
  have e9b : F_X10_setsTwo n (sI K 153 0 0) (22 : Int32) (Int32.ofNat k) a2 a3 = bd (F_X10_rowOf n (153 + 4) 30 (sI (sI K' (153 + 4) (22 + k) a2) (153 + 4) (26 + k) a3) (Int32.ofNat k) ((sI (sI K' (153 + 4) (22 + k) a2) (153 + 4) (26 + k) a3) (153 + 4) 0)) (fun v40 => bd (F_X10_columnOf n (153 + 4) 30 (sI (sI K' (153 + 4) (22 + k) a2) (153 + 4) (26 + k) a3) (Int32.ofNat k) ((sI (sI K' (153 + 4) (22 + k) a2) (153 + 4) (26 + k) a3) (153 + 4) 0)) (fun v56 => some ((((sI (sI K' (153 + 4) (22 + k) a2) (153 + 4) (26 + k) a3) (153 + 2) 0 * v40) + v56), (sI (sI K' (153 + 4) (22 + k) a2) (153 + 4) (26 + k) a3)))) := by
    unfold F_X10_setsTwo
    have e18 : ((22 : Int32) + (4 : Int32)) + Int32.ofNat k = Int32.ofNat (26 + k) := i_oadd 26 k
    rw [ix_22, sets_s e10 (by omega), bd_s, e18, gv_o (by omega), i_tno (by omega)]
  have R1 : Rel T0 T1 (sI (sI I' (2 + 6) k a2) (2 + 7) k a3) (sI (sI K' (153 + 4) (22 + k) a2) (153 + 4) (26 + k) a3) := by
    refine r.ns h9' h10' L' (fun o i h => by rw [sI_o (by omega), sI_o (by omega)]) (fun o i h => by rw [sI_o (by omega), sI_o (by omega)]) ?_ ?_
    · rw [st_up, st_up]; exact SR.uvy (SR.uvx L'.sr h44' hk4 a2) h44' hk4 a3
    · rw [st_up, st_up]; exact (L'.sv.u h44' (by omega) a2).u h44' (by omega) a3
  have hl2 : LD T0 (sI (sI I' (2 + 6) k a2) (2 + 7) k a3) (sI (sI K' (153 + 4) (22 + k) a2) (153 + 4) (26 + k) a3) := by
    rcases R1.ld with h | h
    · have := h.1; rw [sI_o (by decide), sI_o (by decide), h9'] at this; exact absurd this (by decide)
    · exact h.2.2
  have C2 := hl2.ck R1.ru
  have M2 : MK (sI (sI K' (153 + 4) (22 + k) a2) (153 + 4) (26 + k) a3) (153 + 4) (pl (sI (sI K' (153 + 4) (22 + k) a2) (153 + 4) (26 + k) a3)) (st (sI (sI K' (153 + 4) (22 + k) a2) (153 + 4) (26 + k) a3)) := MK.mk (fun _ => rfl) (fun _ => rfl) R1.tv (by decide)
  have ep2 : pl (sI (sI K' (153 + 4) (22 + k) a2) (153 + 4) (26 + k) a3) = pl K := by
    rw [← ep]; funext i; unfold pl; rw [sI_o (by decide), sI_o (by decide)]
  have hk2 : k < (pl (sI (sI K' (153 + 4) (22 + k) a2) (153 + 4) (26 + k) a3) 4).toInt.toNat := by rw [ep2]; exact hk
  rw [e9, e9b]
  simp only [bd_s]
  rw [gv_o hk4, gv_o hk4, i_tno (by omega)]
  unfold F_X7_cellOf F_X7_cellNumber
  rw [c_col hl2.pv C2 hk2, c_row hl2.pv C2 hk2, m_col M2 hk4, m_row M2 hk4]
  simp only [bd_s]
  rw [hl2.tr.w, hl2.sr.t, M2.hp, M2.hs]
  refine AG.ok rfl rfl ⟨?_, R1, ?_⟩
  · dsimp only
    rw [Int32.mul_comm]
  · dsimp only
    rw [sI_o (by decide), sI_o (by decide)]; exact k0
theorem e_advance (hn : 2000 ≤ n) (R : Rel T0 T1 I K) (a1 : Int32) : AG (F_X9_advance n T0 T1 I a1) (F_X10_advance n K a1) (fun v b => v.1 = b.1 ∧ Rel T0 T1 v.2 b.2 ∧ b.2 153 0 = 0) (fun E b => Tt K (thB E) b.2) := by
  rcases R.ld with ⟨h9, h10⟩ | ⟨h9, h10, L⟩
  · refine AG.er (E := ISE) (b := (0, sI K 153 0 1)) ?_ ?_ (Tt.r 1)
    · unfold F_X9_advance; rw [n_tank0 h9]; rfl
    · unfold F_X10_advance
      simp only [x_in, bd_s, ask0 h10, if_true]
      cases rng a1 1 999
      · rfl
      · simp only [b2_tv, e10, if_false]
        by_cases h : (9999 : Int32) < K (153 + 4) 0 + a1
        · rw [if_pos h]
        · rw [if_neg h]
  have ht := L.sv.t
  unfold F_X9_advance F_X10_advance
  simp only [n_tank1 h9, sm_r, n_rng, sm_nd, x_in, bd_s]
  cases g0 : rng a1 1 999
  · exact AG.er (E := IAE) (b := (0, sI K 153 0 2)) rfl (by simp only [b2_fv, if_true, bd_s, ask2 h10]) (Tt.r 2)
  have hr := rng_t.mp g0
  have c1 : (1 : Int32).toInt = 1 := rfl
  have c2 : (999 : Int32).toInt = 999 := rfl
  have c3 : (9999 : Int32).toInt = 9999 := rfl
  have ea : (I 2 0 + a1).toInt = (st K 0).toInt + a1.toInt := by rw [L.sr.t, i_add (by omega) (by omega)]
  have ek : K (153 + 4) 0 = I 2 0 := L.sr.t.symm
  simp only [b2_tv, e10, if_true, if_false, ek]
  by_cases h : (9999 : Int32) < I 2 0 + a1
  · have g1 : rng (I 2 0 + a1) 0 9999 = false := by
      cases g : rng (I 2 0 + a1) 0 9999
      · rfl
      · have := rng_t.mp g; rw [i_lt] at h; omega
    rw [g1, if_pos h]
    exact AG.er (E := IAE) (b := (0, sI K 153 0 2)) rfl (by simp only [bd_s, ask2 h10, if_true]) (Tt.r 2)
  have g1 : rng (I 2 0 + a1) 0 9999 = true := by rw [rng_t]; rw [i_lt] at h; rw [ii_0]; omega
  have g1' := rng_t.mp g1
  rw [g1, if_neg h, ask1 h10]
  simp only [bd_s, e10, if_true, if_false]
  obtain ⟨I', K', e9, e10', r, h9', h10', L', ep, es, k0⟩ := keep0 hn R h9 h10 L
  have h44' := L'.pv.c.2
  have s0 : F_X10_sets n (sI K 153 0 0) 0 (I 2 0 + a1) = some (st K' 0, sI K' (153 + 4) 0 (I 2 0 + a1)) := sets_s (t := 0) e10' (by decide) _
  rw [e9, sI_o (by decide), ek, s0]
  simp only [bd_s]
  have e0 : I' 2 0 = I 2 0 := by rw [L'.sr.t, es, ← L.sr.t]
  have e1 : st K' 0 = I 2 0 := by rw [es, ← L.sr.t]
  rw [e0, sI_self, e1]
  refine AG.ok rfl rfl ⟨rfl, r.up h9' h10' L' (fun o i h => sI_o (by omega)) (SR.ut L'.sr h44' _) (L'.sv.ut h44' ?_), ?_⟩
  · rw [ea]; rw [ea] at g1'; rw [ii_0] at g1'; omega
  · dsimp only
    rw [sI_o (by decide)]; exact k0
theorem e_turnRow (hn : 2000 ≤ n) (R : Rel T0 T1 I K) (a1 : Int32) : AG (F_X9_turnRow n T0 T1 I a1) (F_X10_turnRow n K a1) (fun v b => v.1 = b.1 ∧ Rel T0 T1 v.2 b.2 ∧ b.2 153 0 = 0) (fun E b => Tt K (thA E) b.2) := by
  have n1 : ¬ ((1 : Int32) ≤ 0) := by decide
  have n2 : ¬ ((2 : Int32) ≤ 0) := by decide
  rcases R.ld with ⟨h9, h10⟩ | ⟨h9, h10, L⟩
  · refine AG.er (E := ISE) (b := (0, sI K 153 0 1)) ?_ ?_ (Tt.r 1)
    · unfold F_X9_turnRow; rw [n_tank0 h9]; rfl
    · unfold F_X10_turnRow
      rw [if_pos h10, sI_self, if_neg n1]
  have M0 : MK K (153 + 4) (pl K) (st K) := MK.mk (fun _ => rfl) (fun _ => rfl) R.tv ⟨by decide, by decide⟩
  unfold F_X9_turnRow F_X10_turnRow
  rw [if_neg (c := K 153 23 = 0) (by rw [h10]; decide), m_wall M0, L.tr.wl]
  simp only [n_tank1 h9, sm_r, n_row L, sm_nd, x_row, bd_s]
  by_cases hw : pl K 3 = -1
  · rw [if_pos hw, if_pos (by rw [hw]; decide), sI_self, if_neg n1]
    exact AG.er (E := ISE) (b := (0, sI K 153 0 1)) rfl rfl (Tt.r 1)
  rw [if_neg hw, if_neg (c := b2 (decide (pl K 3 ≠ -1)) = 0) (by rw [b2_0]; simp [hw])]
  cases g0 : row (pl K) a1
  · rw [if_pos (show b2 false = 0 from rfl), sI_self, if_neg n2]
    exact AG.er (E := IOB) (b := (0, sI K 153 0 2)) rfl rfl (Tt.r 2)
  rw [if_neg (show ¬ b2 true = 0 by decide), sI_self, if_pos (by decide)]
  have hr := (row_t L.pv).mp g0
  have hh := L.pv.h
  obtain ⟨I', K', e9, e10', r, h9', h10', L', ep, es, k0⟩ := keep0 hn R h9 h10 L
  have h44' := L'.pv.c.2
  have eo : sI K 153 0 0 (153 + 4) 1 = st K' 1 := by rw [sI_o (by decide), es]; rfl
  have s1 : F_X10_sets n (sI K 153 0 0) 1 (st K' 1 ^^^ ((1 : Int32) <<< (a1 &&& 31))) = some (st K' 1, sI K' (153 + 4) 1 (st K' 1 ^^^ ((1 : Int32) <<< (a1 &&& 31)))) := sets_s (t := 1) e10' (by decide) _
  rw [e9, eo, s1]
  unfold F_X6_turn
  simp only [bd_s]
  have ev : I' 2 1 = st K' 1 := L'.sr.op
  rw [ev]
  have R1 : Rel T0 T1 (sI I' 2 1 (st K' 1 ^^^ ((1 : Int32) <<< (a1 &&& 31)))) (sI K' (153 + 4) 1 (st K' 1 ^^^ ((1 : Int32) <<< (a1 &&& 31)))) :=
    r.up h9' h10' L' (fun o i h => sI_o (by omega)) (SR.uop L'.sr h44' _) (L'.sv.uop h44' (xor_b L'.sv.o hr.1 (by unfold yIn at hr; omega)))
  have hl2 : LD T0 (sI I' 2 1 (st K' 1 ^^^ ((1 : Int32) <<< (a1 &&& 31)))) (sI K' (153 + 4) 1 (st K' 1 ^^^ ((1 : Int32) <<< (a1 &&& 31)))) := by
    rcases R1.ld with h | h
    · have := h.1; rw [sI_o (by decide), h9'] at this; exact absurd this (by decide)
    · exact h.2.2
  have C2 := hl2.ck R1.ru
  have M2 : MK (sI K' (153 + 4) 1 (st K' 1 ^^^ ((1 : Int32) <<< (a1 &&& 31)))) (153 + 4) (pl (sI K' (153 + 4) 1 (st K' 1 ^^^ ((1 : Int32) <<< (a1 &&& 31))))) (st (sI K' (153 + 4) 1 (st K' 1 ^^^ ((1 : Int32) <<< (a1 &&& 31))))) := MK.mk (fun _ => rfl) (fun _ => rfl) R1.tv (by decide)
  rw [c_open C2, m_open M2]
  simp only [bd_s]
  rw [gd_t (b2_b _), gd_t (b2_b _)]
  refine AG.ok rfl rfl ⟨rfl, R1, ?_⟩
  dsimp only
  rw [sI_o (by decide)]; exact k0
theorem ld1 (R : Rel T0 T1 I K) (h : I 0 4 = 1) : K 153 23 = 1 ∧ LD T0 I K := by
  rcases R.ld with q | q
  · rw [q.1] at h; exact absurd h (by decide)
  · exact ⟨q.2.1, q.2.2⟩
theorem Rel.ep' (R : Rel T0 T1 I K) (t : Int32) : Rel T0 T1 I (sI K 153 0 t) := R.tt' (Tt.r t)
theorem e_undo (hn : 2000 ≤ n) (R : Rel T0 T1 I K) : AG (F_X9_undo n T0 T1 I) (F_X10_undo n K) (fun v b => v.1 = b.1 ∧ Rel T0 T1 v.2 b.2 ∧ b.2 153 0 = 0) (fun E b => Tt K (thA E) b.2) := by
  unfold F_X9_undo F_X10_undo
  rw [← R.hc]
  by_cases hz : I 18 2 = 0
  · rw [if_pos hz, if_pos hz, sI_self, if_neg (by decide)]
    exact AG.er (E := ISE) (b := (0, sI K 153 0 1)) rfl rfl (Tt.r 1)
  have h9 : I 0 4 = 1 := R.hl.resolve_left hz
  obtain ⟨h10, L⟩ := ld1 R h9
  have h0 := R.h0
  have ho := R.ho
  have h44 := L.pv.c.2
  obtain ⟨c, hc⟩ : ∃ c, c + 1 = (I 18 2).toInt.toNat := ⟨(I 18 2).toInt.toNat - 1, by
    have : (I 18 2).toInt ≠ 0 := fun q => hz (i_eq.mpr (by rw [q]; rfl))
    omega⟩
  obtain ⟨q, hq⟩ : ∃ q, q = (I 18 1).toInt.toNat := ⟨_, rfl⟩
  have ec : I 18 2 = Int32.ofNat (c + 1) := by rw [hc, i_on h0.1]
  have eq : I 18 1 = Int32.ofNat q := by rw [hq, i_on ho.1]
  have hm : (q + c) % 8 < 8 := Nat.mod_lt _ (by decide)
  have em : Int32.ofNat (c + 1) - (1 : Int32) = Int32.ofNat c := i_osub (a := c + 1) (b := 1) (by omega) (by omega)
  have hk : K 153 19 = Int32.ofNat (c + 1) := by rw [← R.hc, ec]
  have kk1 : ∀ o i, o ≠ 160 → (o ≠ 153 ∨ i ≠ 19) → sI (sI K 153 0 0) 153 19 (Int32.ofNat c) o i = sI K 153 0 0 o i := fun o i h1 h2 => by rw [sI_get, if_neg (by omega)]
  have R1 : Rel T0 T1 (sI I 18 2 (Int32.ofNat c)) (sI (sI K 153 0 0) 153 19 (Int32.ofNat c)) := by
    have R0 := R.ep' 0
    obtain ⟨h10', L0⟩ := ld1 R0 h9
    refine R0.nh h9 h10' L0 (fun o i h => sI_o (by omega)) kk1 ?_ ?_ ?_ ?_
    · rw [sI_self, sI_self]
    · rw [sI_self, i_of (by omega)]; omega
    · rw [sI_k (by decide)]; exact ho
    · rw [sI_self, sI_k (by decide), i_of (by omega)]
      intro i hi
      have H := R0.hr i (by omega)
      have es : hs (sI (sI K 153 0 0) 153 19 (Int32.ofNat c)) i = hs (sI K 153 0 0) i := by
        funext j; unfold hs; rw [sI_o (by decide)]
      rw [es]
      exact ⟨H.1.cg (fun q' j a b => by rw [sI_o (by omega)]), H.2⟩
  have h9' : sI I 18 2 (Int32.ofNat c) 0 4 = 1 := by rw [sI_o (by decide)]; exact h9
  obtain ⟨h10', L1⟩ := ld1 R1 h9'
  have hpl : pl (sI (sI K 153 0 0) 153 19 (Int32.ofNat c)) = pl K := by funext i; unfold pl; rw [sI_o (by decide), sI_o (by decide)]
  have H := R.hr c (by omega)
  rw [← hq] at H
  have S1 : SR (sI I 18 2 (Int32.ofNat c)) (18 + 1 + 1 + 8 * ((q + c) % 8)) (pl K) (hs K c) := by
    rw [show 18 + 1 + 1 + 8 * ((q + c) % 8) = 20 + 8 * ((q + c) % 8) by omega]
    exact H.1.cg (fun q' j a b => by rw [sI_o (by omega)])
  have ecp : F_X6_copyFrom n 2 (18 + 1 + 1 + 8 * ((q + c) % 8)) (sI I 18 2 (Int32.ofNat c)) = some (cp (sI I 18 2 (Int32.ofNat c)) 2 (18 + 1 + 1 + 8 * ((q + c) % 8))) := cp_s hn (by omega) S1.b
  have ecK := cpK_s hn (sI (sI K 153 0 0) 153 19 (Int32.ofNat c)) (o0 := 153 + 7) (z0 := 240) (o2 := 153 + 4) (z2 := 30) (A := 30 * c) (B := 0) (by decide) (by omega) (by decide) (by decide)
  have et : F_X0_takeBack n 2 I = some (cp (sI I 18 2 (Int32.ofNat c)) 2 (18 + 1 + 1 + 8 * ((q + c) % 8))) := by
    unfold F_X0_takeBack
    rw [ec, em, if_neg (by rw [i_le, i_of (by omega), ii_0]; omega), sI_self, sI_k (by decide), eq, md8 (by omega) (by omega), gv_o hm, i_tno (by omega), ecp, bd_s]
  have es : ∀ i, i < 30 → st (cpK (sI (sI K 153 0 0) 153 19 (Int32.ofNat c)) (153 + 7) (30 * c) (153 + 4) 0) i = hs K c i := fun i hi => by
    unfold st hs
    have := cpK_t (K := sI (sI K 153 0 0) 153 19 (Int32.ofNat c)) (o0 := 153 + 7) (A := 30 * c) (o2 := 153 + 4) (B := 0) hi
    rw [Nat.zero_add] at this
    rw [this, sI_o (by decide), sI_o (by decide)]
  have R2 : Rel T0 T1 (cp (sI I 18 2 (Int32.ofNat c)) 2 (18 + 1 + 1 + 8 * ((q + c) % 8))) (cpK (sI (sI K 153 0 0) 153 19 (Int32.ofNat c)) (153 + 7) (30 * c) (153 + 4) 0) := by
    refine R1.ns h9' h10' L1 (fun o i h => cp_o _ _ _ _ _ (by omega)) (fun o i h => cpK_o (by omega)) ?_ ?_
    · rw [hpl]; exact (cp_SR S1 h44 (by omega)).s h44 es
    · rw [hpl]; exact H.2.s h44 es
  rw [if_neg hz, if_neg hz, et, bd_s, sI_self, if_pos (by decide), sI_k (by decide), hk, em, sI_self, xm_30, show F_X10_copy n (153 + 7) 240 (153 + 4) 30 (sI (sI K 153 0 0) 153 19 (Int32.ofNat c)) (Int32.ofNat (30 * c)) 0 = some (cpK (sI (sI K 153 0 0) 153 19 (Int32.ofNat c)) (153 + 7) (30 * c) (153 + 4) 0) from ecK, bd_s]
  refine AG.ok rfl rfl ⟨?_, R2, ?_⟩
  · dsimp only
    rw [cp_o _ _ _ _ _ (by omega), sI_self, cpK_o (by decide), sI_self]
  · dsimp only
    rw [cpK_o (by decide), sI_k (by decide), sI_self]
theorem slo_k {a : Int32} (h : rng a 0 1 = true) : ∃ k, k < 2 ∧ a = Int32.ofNat k := by
  have q := rng_t.mp h
  rw [ii_0, ii_1] at q
  exact ⟨a.toInt.toNat, by omega, (i_on q.1).symm⟩
/-- only one of the states kept has changed -/
theorem Rel.nf {I' K' : gI} (R : Rel T0 T1 I K) (h9 : I 0 4 = 1) (L : LD T0 I K) {b : Nat} (hb : b < 2) (hI : ∀ o i, ¬ (137 + 8 * b ≤ o ∧ o < 137 + 8 * b + 8) → (o ≠ 85 ∨ i ≠ b) → I' o i = I o i) (hK : ∀ o i, (o ≠ 161 ∨ ¬ (30 * b ≤ i ∧ i < 30 * b + 30)) → (o ≠ 163 ∨ i ≠ b) → K' o i = K o i)
    (e1 : I' 85 b = 1) (e2 : K' 163 b = 1) (S : SR I' (137 + 8 * b) (pl K) (sl K' b)) (V : SV (pl K) (sl K' b)) : Rel T0 T1 I' K' := by
  have ht := R.tt
  obtain ⟨h10, _⟩ := ld1 R h9
  have ep : pl K' = pl K := by funext i; exact hK _ _ (Or.inl (by decide)) (Or.inl (by decide))
  have es : st K' = st K := by funext i; exact hK _ _ (Or.inl (by decide)) (Or.inl (by decide))
  have eh : ∀ j, hs K' j = hs K j := by intro j; funext i; exact hK _ _ (Or.inl (by decide)) (Or.inl (by decide))
  have h0 := R.h0
  refine Rel.mk ht ?_ ?_ ?_ ?_ ?_ ?_ ?_ ?_ ?_ ?_ ?_ ?_ ?_ ?_ ?_ ?_ ?_ ?_ (fun k hk => by rw [hI _ _ (by omega) (by omega)]; exact R.tb k hk)
  · rw [hI _ _ (by omega) (by omega), hK _ _ (by omega) (by omega)]; exact R.bn
  · rw [hI _ _ (by omega) (by omega)]; exact R.b0
  · rw [hI _ _ (by omega) (by omega)]; intro i hi; rw [hI _ _ (by omega) (by omega)]; exact R.by1 i hi
  · rw [hI _ _ (by omega) (by omega)]; intro i hi; rw [hI _ _ (by omega) (by omega), hK _ _ (by omega) (by omega)]; exact R.by2 i hi
  · rw [hI _ _ (by omega) (by omega), hK _ _ (by omega) (by omega)]; exact R.ec
  · rw [hI _ _ (by omega) (by omega), hK _ _ (by omega) (by omega)]; exact R.ep
  · refine Or.inr ⟨by rw [hI _ _ (by omega) (by omega)]; exact h9, by rw [hK _ _ (by omega) (by omega)]; exact h10, LD.mk ?_ ?_ ?_ ?_ ?_⟩
    · rw [ep]; exact L.pv
    · rw [ep]; exact L.c1
    · rw [ep]; exact L.tr.cg L.pv.c.2 L.pv.sh.2 (fun q i a b => hI _ _ (by omega) (by omega))
    · rw [ep, es]; exact L.sr.cg (fun q i a b => hI _ _ (by omega) (by omega))
    · rw [ep, es]; exact L.sv
  · exact R.tv.cg (fun i => hK _ _ (by omega) (by omega)) (hK _ _ (by omega) (by omega))
  · intro x y hx hy; rw [hI _ _ (by omega) (by omega)]; exact R.ru x y hx hy
  · rw [hI _ _ (by omega) (by omega), hK _ _ (by omega) (by omega)]; exact R.hc
  · rw [hI _ _ (by omega) (by omega)]; exact R.h0
  · rw [hI _ _ (by omega) (by omega)]; exact R.ho
  · rw [hI _ _ (by omega) (by omega), hI _ _ (by omega) (by omega)]; exact R.hl
  · rw [hI 18 _ (by omega) (by omega), hI 18 _ (by omega) (by omega), ep]
    intro i hi
    rw [eh]
    exact ⟨(R.hr i hi).1.cg (fun q i a b => hI _ _ (by omega) (by omega)), (R.hr i hi).2⟩
  · intro b' hb'
    rw [hI 0 _ (by omega) (by omega), ep]
    by_cases h : b' = b
    · subst h
      refine ⟨?_, Or.inr ⟨e1, h9, S, V⟩⟩
      rw [e1]; exact e2.symm
    · have el : ∀ i, i < 30 → sl K' b' i = sl K b' i := fun i hi => hK _ _ (by omega) (Or.inl (by decide))
      rw [hI 85 _ (by omega) (by omega), hK _ _ (by omega) (by omega)]
      refine ⟨(R.sf b' hb').1, ?_⟩
      rcases (R.sf b' hb').2 with h | ⟨h1, h2, h3, h4⟩
      · exact Or.inl h
      · exact Or.inr ⟨h1, h2, (h3.cg (fun q i a b => hI _ _ (by omega) (by omega))).s L.pv.c.2 el, h4.s L.pv.c.2 el⟩
  · rw [hI _ _ (by omega) (by omega), hK _ _ (by omega) (by omega)]; exact R.pn
  · rw [hI _ _ (by omega) (by omega)]; exact R.p0
  · rw [hI _ _ (by omega) (by omega)]; intro i hi; rw [hI _ _ (by omega) (by omega), hK _ _ (by omega) (by omega)]; exact R.pb i hi
theorem e_save (hn : 2000 ≤ n) (R : Rel T0 T1 I K) (a1 : Int32) : AG (F_X9_save n T0 T1 I a1) (F_X10_save n K a1) (fun v b => v.1 = b.1 ∧ Rel T0 T1 v.2 b.2 ∧ b.2 153 0 = 0) (fun E b => Tt K (thA E) b.2) := by
  rcases R.ld with ⟨h9, h10⟩ | ⟨h9, h10, L⟩
  · refine AG.er (E := ISE) (b := (0, sI K 153 0 1)) ?_ ?_ (Tt.r 1)
    · unfold F_X9_save; rw [n_tank0 h9]; rfl
    · unfold F_X10_save
      simp only [x_in, bd_s]
      cases rng a1 0 1 <;> simp only [b2_tv, b2_fv, e10, if_true, if_false, bd_s, ask0 h10, askF0 h10]
  unfold F_X9_save F_X10_save
  simp only [n_tank1 h9, nt_s, n_slo, nd_s, x_in, bd_s]
  cases g0 : rng a1 0 1
  · refine AG.er (E := IOB) (b := (0, sI K 153 0 2)) ?_ ?_ (Tt.r 2)
    · rfl
    · simp only [b2_tv, b2_fv, e10, if_true, if_false, bd_s, ask2 h10, askF2 h10, askF3 h10]
  simp only [b2_tv, b2_fv, e10, if_true, if_false, bd_s, ask1 h10, askF1 h10]
  have M := L.mk' (Tt.r 0) R.tv
  have C := L.ck R.ru
  obtain ⟨k, hk, rfl⟩ := slo_k g0
  have h44 := L.pv.c.2
  have L0 := L.th 0
  have R0 := R.ep' 0
  have ecp : F_X6_copyFrom n (137 + 8 * k) 2 I = some (cp I (137 + 8 * k) 2) := cp_s hn (by omega) L.sr.b
  have ecK := cpK_s hn (sI K 153 0 0) (o0 := 153 + 4) (z0 := 30) (o2 := 153 + 8) (z2 := 60) (A := 0) (B := 30 * k) (by decide) (by decide) (by omega) (by decide)
  rw [xm_30, show F_X10_copy n (153 + 4) 30 (153 + 8) 60 (sI K 153 0 0) 0 (Int32.ofNat (30 * k)) = some (cpK (sI K 153 0 0) (153 + 4) 0 (153 + 8) (30 * k)) from ecK]
  simp (disch := omega) only [gv_k, i_tno, sm_r, sm_nd, if_true, bd_s, ecp]
  have es : ∀ i, i < 30 → sl (sI (cpK (sI K 153 0 0) (153 + 4) 0 (153 + 8) (30 * k)) (153 + 10) k 1) k i = st (sI K 153 0 0) i := fun i hi => by
    unfold sl st
    rw [sI_o (by decide), cpK_t hi, Nat.zero_add]
  have R2 : Rel T0 T1 (sI (cp I (137 + 8 * k) 2) 85 k 1) (sI (cpK (sI K 153 0 0) (153 + 4) 0 (153 + 8) (30 * k)) (153 + 10) k 1) := by
    refine R0.nf h9 L0 hk (fun o i h1 h2 => ?_) (fun o i h1 h2 => ?_) (sI_self _ _ _ _) (sI_self _ _ _ _) ?_ (L0.sv.s (by rw [pl_0]; exact h44) es)
    · rw [sI_get, if_neg (by omega), cp_o _ _ _ _ _ (by omega)]
    · rw [sI_get, if_neg (by omega)]
      unfold cpK
      rw [if_neg (by omega)]
    · have S := cp_SR (a := 137 + 8 * k) L0.sr (by rw [pl_0]; exact h44) (by omega)
      exact (S.cg (fun q i a b => by rw [sI_o (by omega)])).s (by rw [pl_0]; exact h44) es
  refine AG.ok rfl rfl ⟨?_, R2, ?_⟩
  · dsimp only
    rw [sI_o (by decide), cp_o _ _ _ _ _ (by omega), sI_o (by decide), cpK_o (by decide), sI_o (by decide)]; exact L.sr.t
  · dsimp only
    rw [sI_o (by decide), cpK_o (by decide), sI_self]
theorem e_restore (hn : 2000 ≤ n) (R : Rel T0 T1 I K) (a1 : Int32) : AG (F_X9_restore n T0 T1 I a1) (F_X10_restore n K a1) (fun v b => v.1 = b.1 ∧ Rel T0 T1 v.2 b.2 ∧ b.2 153 0 = 0) (fun E b => Tt K (thE E) b.2) := by
  unfold F_X9_restore F_X10_restore
  rw [n_slo, x_in]
  simp only [sm_nd, bd_s]
  cases g0 : rng a1 0 1
  · rw [if_pos (show b2 false = 0 from rfl), sI_self, if_neg (by decide)]
    exact AG.er (E := IOB) (b := (0, sI K 153 0 1)) rfl rfl (Tt.r 1)
  rw [if_neg (show ¬ b2 true = 0 by decide)]
  obtain ⟨k, hk, rfl⟩ := slo_k g0
  have sf := R.sf k hk
  simp only [if_true]
  rw [gv_o hk, gv_o hk, gv_o hk, i_tno (by omega), ← sf.1]
  rcases sf.2 with hz | ⟨h1, h9, S, V⟩
  · rw [if_pos hz, if_pos hz, sI_self, if_neg (by decide)]
    exact AG.er (E := ISE) (b := (0, sI K 153 0 2)) rfl rfl (Tt.r 2)
  have hz : ¬ I 85 k = 0 := by rw [h1]; decide
  obtain ⟨h10, L⟩ := ld1 R h9
  have h44 := L.pv.c.2
  have ecp : F_X6_copyFrom n 2 (137 + 8 * k) I = some (cp I 2 (137 + 8 * k)) := cp_s hn (by omega) S.b
  have ecK := cpK_s hn (sI K 153 0 0) (o0 := 153 + 8) (z0 := 60) (o2 := 153 + 4) (z2 := 30) (A := 30 * k) (B := 0) (by decide) (by omega) (by decide) (by decide)
  have es : ∀ i, i < 30 → st (cpK (sI K 153 0 0) (153 + 8) (30 * k) (153 + 4) 0) i = sl K k i := fun i hi => by
    unfold st sl
    have := cpK_t (K := sI K 153 0 0) (o0 := 153 + 8) (A := 30 * k) (o2 := 153 + 4) (B := 0) hi
    rw [Nat.zero_add] at this
    rw [this, sI_o (by decide)]
  have R0 := R.ep' 0
  obtain ⟨h10', L0⟩ := ld1 R0 h9
  have R1 : Rel T0 T1 (cp I 2 (137 + 8 * k)) (cpK (sI K 153 0 0) (153 + 8) (30 * k) (153 + 4) 0) := by
    refine R0.ns h9 h10' L0 (fun o i h => cp_o _ _ _ _ _ (by omega)) (fun o i h => cpK_o (by omega)) ?_ ?_
    · rw [pl_0]; exact (cp_SR S h44 (by omega)).s h44 es
    · rw [pl_0]; exact V.s h44 es
  have h9' : cp I 2 (137 + 8 * k) 0 4 = 1 := by rw [cp_o _ _ _ _ _ (by omega)]; exact h9
  obtain ⟨h10'', L1⟩ := ld1 R1 h9'
  have R2 : Rel T0 T1 (sI (cp I 2 (137 + 8 * k)) 18 2 0) (sI (cpK (sI K 153 0 0) (153 + 8) (30 * k) (153 + 4) 0) 153 19 0) := by
    refine R1.nh h9' h10'' L1 (fun o i h => sI_o (by omega)) (fun o i h1 h2 => by rw [sI_get, if_neg (by omega)]) ?_ ?_ ?_ ?_
    · rw [sI_self, sI_self]
    · rw [sI_self]; decide
    · rw [sI_k (by decide)]; exact R1.ho
    · rw [sI_self]; intro i hi; exact absurd hi (by simp)
  unfold F_X0_clear
  rw [if_neg hz, if_neg hz, ecp, bd_s, bd_s, sI_self, if_pos (by decide), xm_30, show F_X10_copy n (153 + 8) 60 (153 + 4) 30 (sI K 153 0 0) (Int32.ofNat (30 * k)) 0 = some (cpK (sI K 153 0 0) (153 + 8) (30 * k) (153 + 4) 0) from ecK, bd_s]
  refine AG.ok rfl rfl ⟨?_, R2, ?_⟩
  · dsimp only
    rw [sI_o (by decide), sI_o (by decide)]; exact L1.sr.t
  · dsimp only
    rw [sI_k (by decide), cpK_o (by decide), sI_self]
end FACEH
