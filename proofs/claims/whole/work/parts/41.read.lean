/-! WORDS, NUMBERS, FAULTS, by both readers -/
/-- the texts of words -/
def WD (w : Nat) : Prop := gLen w ≤ 8 ∧ ∀ i, i < gLen w → 0 ≤ (gByt w i &&& 255).toInt ∧ (gByt w i &&& 255).toInt ≤ 127
theorem wd_all : ∀ w : Fin 23, w.1 = 0 ∨ (gLen w.1 ≤ 8 ∧ ∀ i : Fin 8, 0 ≤ (gByt w.1 i.1 &&& 255).toInt ∧ (gByt w.1 i.1 &&& 255).toInt ≤ 127) := by decide
theorem wd_ok {w : Nat} (h : w < 23) (h0 : w ≠ 0) : WD w := by
  rcases wd_all ⟨w, h⟩ with q | q
  · exact absurd q h0
  · exact ⟨q.1, fun i hi => q.2 ⟨i, by have := q.1; simp only at this; omega⟩⟩
section READ
variable {n T1 o E q : Nat} {I K : gI}
theorem PS.nx (P : PS E q I K o) (ok : I o 0 = 0) : NX E q I K o := by
  obtain ⟨ho, B, h3, k3, h5, h6, _, t⟩ := P
  obtain ⟨s, t1, t2, t3, t4, t5, t6, _⟩ := t ok
  exact ⟨ho, B, h3, k3, ok, by rw [← h5]; exact ok, h6, t5, t6, t2⟩
theorem PS.ec (P : PS E q I K o) : I o 0 = K 153 5 := P.2.2.2.2.1
theorem PS.er (P : PS E q I K o) (er : ¬ I o 0 = 0) : ¬ K 153 5 ≤ 0 ∧ ¬ K 153 5 = 0 ∧ 0 < K 153 5 := by
  have h5 := P.ec
  have h0 := P.2.2.2.2.2.2.1
  have : (I o 0).toInt ≠ 0 := fun z => er (i_eq.mpr (by rw [z]; rfl))
  rw [← h5]
  refine ⟨?_, er, ?_⟩
  · rw [i_le, ii_0]; omega
  · rw [i_lt, ii_0]; omega
theorem PS.ok5 (P : PS E q I K o) (ok : I o 0 = 0) : K 153 5 = 0 := by rw [← P.ec]; exact ok
/-- the first fault, if there is none yet -/
theorem fl (P : PS E q I K o) {c : Int32} (hc : 0 < c.toInt) : ∃ I' K', F_X3_fail n T1 o I c = some I' ∧ F_X10_faults n K c = some K' ∧ (∀ q', PS E q' I' K' o) ∧ FR I K I' K' o ∧ ¬ I' o 0 = 0 := by
  unfold F_X3_fail F_X10_faults
  by_cases ok : I o 0 = 0
  · have k5 := P.ok5 ok
    obtain ⟨ho, B, h3, k3, h5, h6, h0, t⟩ := P
    obtain ⟨s, t1, t2, t3, t4, _⟩ := t ok
    have hne : ¬ c = 0 := fun z => by rw [z] at hc; exact absurd hc (by decide)
    rw [if_pos ok, if_pos (by rw [k5]; decide)]
    refine ⟨_, _, rfl, rfl, fun q' => ⟨ho, ⟨B.1, fun i hi => ?_⟩, ?_, ?_, ?_, ?_, ?_, fun z => ?_⟩, ⟨fun a i h => ?_, fun a i h => ?_⟩, ?_⟩
    · rw [sI_o (by omega), sI_o (by omega), sI_o (by decide), sI_o (by decide)]; exact B.2 i hi
    · rw [sI_k (by decide), sI_k (by decide)]; exact h3
    · rw [sI_k (by decide), sI_k (by decide)]; exact k3
    · rw [sI_k (o := o) (by decide), sI_self, sI_k (o := 153) (by decide), sI_self]
    · rw [sI_self, sI_self, sI_k (o := o) (by decide), sI_k (o := 153) (by decide), t3, t4]
    · rw [sI_k (by decide), sI_self]; omega
    · rw [sI_k (by decide), sI_self] at z; exact absurd z hne
    · simp only [sI_get]; rw [if_neg (by omega), if_neg (by omega)]
    · simp only [sI_get]; rw [if_neg (by omega), if_neg (by omega)]
    · rw [sI_k (by decide), sI_self]; exact hne
  · have e := P.er ok
    rw [if_neg ok, if_neg e.1]
    obtain ⟨ho, B, h3, k3, h5, h6, h0, t⟩ := P
    exact ⟨I, K, rfl, rfl, fun q' => ⟨ho, B, h3, k3, h5, h6, h0, fun z => absurd z ok⟩, FR.rfl', ok⟩
/-- in error the reference's next token is none -/
theorem nx_er (P : PS E q I K o) (er : ¬ I o 0 = 0) : F_X10_nextToken n K = some K := by
  unfold F_X10_nextToken; rw [if_neg (P.er er).1]
theorem iw (hn : 2000 ≤ n) (P : PS E q I K o) (ok : I o 0 = 0) {w : Nat} (hw : w < 23) (hw0 : w ≠ 0) : ∃ b : Bool, F_X3_isWord n T1 o w I = some (b2 b) ∧ F_X10_isWord n w K = some (b2 b) ∧ (b = true → I o 6 = 1) := by
  have k5 := P.ok5 ok
  obtain ⟨ho, B, h3, k3, h5, h6, h0, t⟩ := P
  obtain ⟨s, t1, t2, t7, k8, t8, k4, tk⟩ := t ok
  have hE := B.1
  obtain ⟨wl, wb⟩ := wd_ok hw hw0
  unfold F_X3_isWord F_X10_isWord
  rw [if_neg (c := 0 < K 153 5) (by rw [k5]; decide)]
  by_cases hk : I o 6 = 1
  · have hk10 : K 153 7 = 2 := by
      rcases tk with h | h | h | h | h | h
      · rw [h.1] at hk; exact absurd hk (by decide)
      · exact h.2
      · rw [h.1] at hk; exact absurd hk (by decide)
      · rw [h.1] at hk; exact absurd hk (by decide)
      · rw [h.1] at hk; exact absurd hk (by decide)
      · rw [h.1] at hk; exact absurd hk (by decide)
    rw [if_pos hk, if_pos hk10, t7, t8, k8, k4, i_osub t1 (by omega)]
    by_cases hl : q - s = gLen w
    · rw [if_pos (by unfold nI; rw [hl]), if_pos (by unfold nI; rw [hl])]
      have key : ∀ (d c j : Nat), c + d = gLen w → d < j → ∃ b : Bool, L_X3_isWord n T1 o w I j 0 (Int32.ofNat c) = some (b2 b) ∧ L_X10_isWord n w K j 0 (Int32.ofNat c) = some (b2 b) := by
        intro d
        induction d with
        | zero =>
          intro c j hc hj
          obtain ⟨j, rfl⟩ : ∃ i, j = i + 1 := ⟨j - 1, by omega⟩
          have hle : nI (gLen w) ≤ Int32.ofNat c := by unfold nI; rw [i_ole (by omega) (by omega)]; omega
          refine ⟨true, ?_, ?_⟩
          · rw [L_X3_isWord_e0, if_pos hle]; rfl
          · rw [L_X10_isWord_e0, if_pos hle]; rfl
        | succ d ih =>
          intro c j hc hj
          obtain ⟨j, rfl⟩ : ∃ i, j = i + 1 := ⟨j - 1, by omega⟩
          have hle : ¬ (nI (gLen w) ≤ Int32.ofNat c) := by unfold nI; rw [i_ole (by omega) (by omega)]; omega
          have hb := B.2 (s + c) (by omega)
          have hc2 := wb c (by omega)
          rw [L_X3_isWord_e0, if_neg hle, t7, i_oadd, gv_o (by omega), gv_o (by omega) (by omega), i_tno (by omega), i_tno (by omega), ixp_1]
          rw [L_X10_isWord_e0, if_neg hle, k8, i_oadd, gv_o (by omega), gv_o (by omega) (by omega), i_tno (by omega), i_tno (by omega), ixp_1, hb.2]
          by_cases he : I 1 (s + c) = gByt w c &&& 255
          · rw [if_pos he, if_pos ((by_eq hb.1 hc2).mpr he)]
            exact ih (c + 1) j (by omega) (by omega)
          · rw [if_neg he, if_neg (fun z => he ((by_eq hb.1 hc2).mp z))]
            exact ⟨false, rfl, rfl⟩
      obtain ⟨b, e1, e2⟩ := key (gLen w) 0 n (by omega) (by omega)
      exact ⟨b, e1, e2, fun _ => hk⟩
    · have hne : ¬ (Int32.ofNat (q - s) = nI (gLen w)) := by unfold nI; rw [i_oeq (by omega) (by omega)]; exact hl
      rw [if_neg hne, if_neg hne]
      exact ⟨false, rfl, rfl, fun z => absurd z (by decide)⟩
  · have hk10 : ¬ K 153 7 = 2 := by
      rcases tk with h | h | h | h | h | h
      · rw [h.2]; decide
      · exact absurd h.1 hk
      · rw [h.2.1]; decide
      · rw [h.2.1]; decide
      · rw [h.2.1]; decide
      · rcases h.2 with h | h
        · rw [h]; decide
        · rw [h.1]; decide
    rw [if_neg hk, if_neg hk10]
    exact ⟨false, rfl, rfl, fun z => absurd z (by decide)⟩
/-- a word taken, if it is there -/
theorem tw (hn : 2000 ≤ n) (P : PS E q I K o) {w : Nat} (hw : w < 23) (hw0 : w ≠ 0) : ∃ (b : Bool) (I' K' : gI) (q' : Nat), F_X3_takeWord n T1 o w I = some (b2 b, I') ∧ F_X10_takes n w K = some (b2 b, K') ∧ PS E q' I' K' o ∧ FR I K I' K' o ∧ I' o 0 = I o 0 ∧ (b = true → I o 0 = 0) ∧ (I o 0 = 0 → q ≤ q') := by
  unfold F_X3_takeWord F_X10_takes
  by_cases ok : I o 0 = 0
  · obtain ⟨b, e1, e2, _⟩ := iw (T1 := T1) hn P ok hw hw0
    rw [if_pos ok, e1, e2, bd_s, bd_s]
    cases b
    · rw [if_pos (show b2 false = 0 from rfl), if_pos (show b2 false = 0 from rfl), gd_t (b2_b _)]
      exact ⟨false, I, K, q, rfl, rfl, P, FR.rfl', rfl, fun z => absurd z (by decide), fun _ => Nat.le_refl _⟩
    · obtain ⟨I', K', q', f1, f2, P', fr, z, hq, _⟩ := nx (T1 := T1) hn (P.nx ok)
      rw [if_neg (show ¬ b2 true = 0 by decide), if_neg (show ¬ b2 true = 0 by decide), f1, f2, bd_s, bd_s, gd_t (b2_b _)]
      exact ⟨true, I', K', q', rfl, rfl, P', fr, z.trans ok.symm, fun _ => ok, fun _ => hq⟩
  · have e := P.er ok
    have e2 : F_X10_isWord n w K = some 0 := by unfold F_X10_isWord; rw [if_pos e.2.2]
    rw [if_neg ok, e2, bd_s, if_pos rfl, gd_t (Or.inl rfl)]
    exact ⟨false, I, K, q, rfl, rfl, P, FR.rfl', rfl, fun z => absurd z (by decide), fun z => absurd z ok⟩
/-- a word that must be there -/
theorem kw (hn : 2000 ≤ n) (P : PS E q I K o) {w : Nat} (hw : w < 23) (hw0 : w ≠ 0) : ∃ (I' K' : gI) (q' : Nat), F_X3_readWord n T1 o w I = some I' ∧ F_X10_keyword n w K = some K' ∧ PS E q' I' K' o ∧ FR I K I' K' o ∧ (I' o 0 = 0 → I o 0 = 0 ∧ q ≤ q') := by
  obtain ⟨b, I1, K1, q1, e1, e2, P1, f1, z1, hb, hq⟩ := tw (T1 := T1) hn P hw hw0
  unfold F_X3_readWord F_X10_keyword
  rw [e1, e2, bd_s, bd_s]
  dsimp only
  cases b
  · obtain ⟨I2, K2, g1, g2, P2, f2, er⟩ := fl (n := n) (T1 := T1) P1 (c := 1) (by decide)
    rw [if_pos (show b2 false = 0 from rfl), if_pos (show b2 false = 0 from rfl), g1, g2, bd_s, bd_s]
    exact ⟨I2, K2, q1, rfl, rfl, P2 q1, f1.trans f2, fun z => absurd z er⟩
  · rw [if_neg (show ¬ b2 true = 0 by decide), if_neg (show ¬ b2 true = 0 by decide)]
    exact ⟨I1, K1, q1, rfl, rfl, P1, f1, fun _ => ⟨hb rfl, hq (hb rfl)⟩⟩
/-- what the token is, in numbers -/
theorem tk_num (P : PS E q I K o) (ok : I o 0 = 0) : (I o 6 = 2 ∧ K 153 7 = 3 ∧ I o 9 = K 153 9 ∧ 0 ≤ (I o 9).toInt ∧ (I o 9).toInt ≤ 9999) ∨ (¬ I o 6 = 2 ∧ ¬ K 153 7 = 3) := by
  obtain ⟨s, _, _, _, _, _, _, tk⟩ := P.2.2.2.2.2.2.2 ok
  rcases tk with h | h | h | h | h | h
  · right; rw [h.1, h.2]; exact ⟨by decide, by decide⟩
  · right; rw [h.1, h.2]; exact ⟨by decide, by decide⟩
  · left; exact h
  · right; rw [h.1, h.2.1]; exact ⟨by decide, by decide⟩
  · right; rw [h.1, h.2.1]; exact ⟨by decide, by decide⟩
  · right; rw [h.1]
    refine ⟨by decide, ?_⟩
    rcases h.2 with h | h
    · rw [h]; decide
    · rw [h.1]; decide
/-- a number looked at by the reference; it stays the token -/
theorem lk_ok (P : PS E q I K o) (ok : I o 0 = 0) (hk : K 153 7 = 3) {l u : Int32} (h : l.toInt ≤ (K 153 9).toInt ∧ (K 153 9).toInt ≤ u.toInt) : F_X10_look n K l u = some (K 153 9, K) := by
  have k5 := P.ok5 ok
  have g : rng (K 153 9) l u = true := by rw [rng_t]; exact h
  unfold F_X10_look
  rw [if_pos (by rw [k5]; decide), if_pos hk, x_in, bd_s, g, if_neg (show ¬ b2 true = 0 by decide), if_pos (by rw [k5]; decide)]
theorem lk_out (P : PS E q I K o) (ok : I o 0 = 0) (hk : K 153 7 = 3) {l u : Int32} (h : ¬ (l.toInt ≤ (K 153 9).toInt ∧ (K 153 9).toInt ≤ u.toInt)) {I' K' : gI} (e : F_X10_faults n K 2 = some K') (P' : PS E q I' K' o) (er : ¬ I' o 0 = 0) : F_X10_look n K l u = some (l, K') := by
  have k5 := P.ok5 ok
  have g : rng (K 153 9) l u = false := by
    cases g : rng (K 153 9) l u
    · rfl
    · exact absurd (rng_t.mp g) h
  unfold F_X10_look
  rw [if_pos (by rw [k5]; decide), if_pos hk, x_in, bd_s, g, if_pos (show b2 false = 0 from rfl), e, bd_s, if_neg (P'.er er).1]
theorem lk_no (P : PS E q I K o) (ok : I o 0 = 0) (hk : ¬ K 153 7 = 3) {l u : Int32} {I' K' : gI} (e : F_X10_faults n K 1 = some K') (P' : PS E q I' K' o) (er : ¬ I' o 0 = 0) : F_X10_look n K l u = some (l, K') := by
  have k5 := P.ok5 ok
  unfold F_X10_look
  rw [if_pos (by rw [k5]; decide), if_neg hk, e, bd_s, if_neg (P'.er er).1]
theorem lk_er (P : PS E q I K o) (er : ¬ I o 0 = 0) (l u : Int32) : F_X10_look n K l u = some (l, K) := by
  unfold F_X10_look
  rw [if_neg (P.er er).1]
/-- a number -/
theorem nm (hn : 2000 ≤ n) (P : PS E q I K o) {l u l' : Int32} (hl : l' = l ∨ (l.toInt ≤ 0 ∧ l'.toInt ≤ 0)) : ∃ (v w : Int32) (I' K' : gI) (q' : Nat), F_X3_readNumber n T1 o I l u = some (v, I') ∧ F_X10_number n K l' u = some (w, K') ∧ PS E q' I' K' o ∧ FR I K I' K' o ∧ (I' o 0 = 0 → I o 0 = 0 ∧ v = w ∧ l.toInt ≤ v.toInt ∧ v.toInt ≤ u.toInt ∧ q ≤ q') ∧ (¬ I' o 0 = 0 → v = -1) := by
  unfold F_X3_readNumber F_X10_number
  by_cases ok : I o 0 = 0
  · rw [if_pos ok]
    rcases tk_num P ok with ⟨h6, h7, h9, h0, h99⟩ | ⟨h6, h7⟩
    · rw [if_pos h6]
      by_cases hin : l.toInt ≤ (I o 9).toInt ∧ (I o 9).toInt ≤ u.toInt
      · obtain ⟨I', K', q', f1, f2, P', fr, z, hq, _⟩ := nx (T1 := T1) hn (P.nx ok)
        have hin' : l'.toInt ≤ (K 153 9).toInt ∧ (K 153 9).toInt ≤ u.toInt := by
          rw [← h9]
          rcases hl with rfl | hl
          · exact hin
          · exact ⟨by omega, hin.2⟩
        rw [if_neg (by rw [i_lt]; omega), if_pos (by rw [i_le]; omega), f1, bd_s, lk_ok P ok h7 hin', bd_s]
        dsimp only
        rw [f2, bd_s]
        exact ⟨_, _, I', K', q', rfl, rfl, P', fr, fun _ => ⟨ok, h9, hin.1, hin.2, hq⟩, fun z' => absurd z z'⟩
      · obtain ⟨I2, K2, g1, g2, P2, f2, er⟩ := fl (n := n) (T1 := T1) P (c := 2) (by decide)
        have hin' : ¬ (l'.toInt ≤ (K 153 9).toInt ∧ (K 153 9).toInt ≤ u.toInt) := by
          rw [← h9]
          rcases hl with rfl | hl
          · exact hin
          · intro z; exact hin ⟨by omega, z.2⟩
        have e3 : (if I o 9 < l then bd (F_X3_fail n T1 o I (2 : Int32)) (fun v42 => some ((-1 : Int32), v42)) else (if I o 9 ≤ u then bd (F_X3_nextToken n T1 o I) (fun v53 => some ((I o 9), v53)) else bd (F_X3_fail n T1 o I (2 : Int32)) (fun v42 => some ((-1 : Int32), v42)))) = some (-1, I2) := by
          by_cases c1 : I o 9 < l
          · rw [if_pos c1, g1, bd_s]
          · rw [if_neg c1, if_neg (by intro z; rw [i_lt] at c1; rw [i_le] at z; exact hin ⟨by omega, z⟩), g1, bd_s]
        rw [e3, lk_out P ok h7 hin' g2 (P2 q) er, bd_s]
        dsimp only
        rw [nx_er (P2 q) er, bd_s]
        exact ⟨_, _, I2, K2, q, rfl, rfl, P2 q, f2, fun z => absurd z er, fun _ => rfl⟩
    · obtain ⟨I2, K2, g1, g2, P2, f2, er⟩ := fl (n := n) (T1 := T1) P (c := 1) (by decide)
      rw [if_neg h6, g1, bd_s, lk_no P ok h7 g2 (P2 q) er, bd_s]
      dsimp only
      rw [nx_er (P2 q) er, bd_s]
      exact ⟨_, _, I2, K2, q, rfl, rfl, P2 q, f2, fun z => absurd z er, fun _ => rfl⟩
  · rw [if_neg ok, lk_er P ok, bd_s]
    dsimp only
    rw [nx_er P ok, bd_s]
    exact ⟨_, _, I, K, q, rfl, rfl, P, FR.rfl', fun z => absurd z ok, fun _ => rfl⟩
/-- a sign that is there -/
theorem sh_s (P : PS E q I K o) (c k : Int32) (hck : (c = 45 ∧ k = 3) ∨ (c = 59 ∧ k = 4)) : ∃ b : Bool, F_X10_isSignHere n K c = some (b2 b) ∧ (b = true ↔ I o 0 = 0 ∧ I o 6 = k) := by
  unfold F_X10_isSignHere
  by_cases ok : I o 0 = 0
  · rw [if_pos (P.ok5 ok)]
    obtain ⟨s, _, _, _, _, _, _, tk⟩ := P.2.2.2.2.2.2.2 ok
    rcases tk with h | h | h | h | h | h
    · rw [h.2, if_neg (by decide)]; refine ⟨false, rfl, ⟨fun z => absurd z (by decide), fun z => ?_⟩⟩
      rw [h.1] at z; rcases hck with ⟨_, hk⟩ | ⟨_, hk⟩ <;> (rw [hk] at z; exact absurd z.2 (by decide))
    · rw [h.2, if_neg (by decide)]; refine ⟨false, rfl, ⟨fun z => absurd z (by decide), fun z => ?_⟩⟩
      rw [h.1] at z; rcases hck with ⟨_, hk⟩ | ⟨_, hk⟩ <;> (rw [hk] at z; exact absurd z.2 (by decide))
    · rw [h.2.1, if_neg (by decide)]; refine ⟨false, rfl, ⟨fun z => absurd z (by decide), fun z => ?_⟩⟩
      rw [h.1] at z; rcases hck with ⟨_, hk⟩ | ⟨_, hk⟩ <;> (rw [hk] at z; exact absurd z.2 (by decide))
    · rw [h.2.1, if_pos rfl, h.2.2]
      rcases hck with ⟨hc, hk⟩ | ⟨hc, hk⟩
      · rw [hc, hk, if_pos rfl]; exact ⟨true, rfl, ⟨fun _ => ⟨ok, h.1⟩, fun _ => rfl⟩⟩
      · rw [hc, hk, if_neg (by decide)]; exact ⟨false, rfl, ⟨fun z => absurd z (by decide), fun z => by rw [h.1] at z; exact absurd z.2 (by decide)⟩⟩
    · rw [h.2.1, if_pos rfl, h.2.2]
      rcases hck with ⟨hc, hk⟩ | ⟨hc, hk⟩
      · rw [hc, hk, if_neg (by decide)]; exact ⟨false, rfl, ⟨fun z => absurd z (by decide), fun z => by rw [h.1] at z; exact absurd z.2 (by decide)⟩⟩
      · rw [hc, hk, if_pos rfl]; exact ⟨true, rfl, ⟨fun _ => ⟨ok, h.1⟩, fun _ => rfl⟩⟩
    · have hk5 : ¬ I o 6 = k := by rw [h.1]; rcases hck with ⟨_, hk⟩ | ⟨_, hk⟩ <;> (rw [hk]; decide)
      rcases h.2 with h' | h'
      · rw [h', if_neg (by decide)]; exact ⟨false, rfl, ⟨fun z => absurd z (by decide), fun z => absurd z.2 hk5⟩⟩
      · have hc9 : ¬ K 153 9 = c := by rcases hck with ⟨hc, _⟩ | ⟨hc, _⟩ <;> rw [hc]; exact h'.2.1; exact h'.2.2
        rw [h'.1, if_pos rfl, if_neg hc9]; exact ⟨false, rfl, ⟨fun z => absurd z (by decide), fun z => absurd z.2 hk5⟩⟩
  · rw [if_neg (P.er ok).2.1]
    exact ⟨false, rfl, ⟨fun z => absurd z (by decide), fun z => absurd z.1 ok⟩⟩
/-- a number perhaps with a minus sign -/
theorem sg (hn : 2000 ≤ n) (P : PS E q I K o) : ∃ (v w : Int32) (I' K' : gI) (q' : Nat), F_X3_readSigned n T1 o I = some (v, I') ∧ F_X10_signed n K (-99) 99 = some (w, K') ∧ PS E q' I' K' o ∧ FR I K I' K' o ∧ (I' o 0 = 0 → I o 0 = 0 ∧ v = w ∧ q ≤ q') := by
  obtain ⟨b, eb, hb⟩ := sh_s (n := n) P 45 3 (Or.inl ⟨rfl, rfl⟩)
  obtain ⟨j, hj⟩ : ∃ j, n = j + 1 := ⟨n - 1, by omega⟩
  have c99 : (-(-99 : Int32)) = 99 := by decide
  have tail : ∀ (I1 K1 : gI) (q1 : Nat) (s0 : Int32), PS E q1 I1 K1 o → FR I K I1 K1 o → (I1 o 0 = 0 → I o 0 = 0 ∧ q ≤ q1) → ∃ (v w : Int32) (I' K' : gI) (q' : Nat), bd (F_X3_readNumber n T1 o I1 (0 : Int32) (99 : Int32)) (fun v33 => (if s0 = 0 then some (v33.1, v33.2) else some ((-v33.1), v33.2))) = some (v, I') ∧ (if s0 = 0 then bd (F_X10_number n K1 (-99) 99) (fun v34 => some (v34.1, v34.2)) else bd (F_X10_number n K1 (-99) (-(-99))) (fun v24 => some ((-v24.1), v24.2))) = some (w, K') ∧ PS E q' I' K' o ∧ FR I K I' K' o ∧ (I' o 0 = 0 → I o 0 = 0 ∧ v = w ∧ q ≤ q') := by
    intro I1 K1 q1 s0 P1 f1 h1
    obtain ⟨v, w, I', K', q', e1, e2, P', fr, hv, _⟩ := nm (T1 := T1) hn P1 (l := 0) (u := 99) (l' := -99) (Or.inr ⟨by decide, by decide⟩)
    rw [e1, bd_s, c99, e2]
    simp only [bd_s]
    by_cases hs : s0 = 0
    · rw [if_pos hs, if_pos hs]
      exact ⟨v, w, I', K', q', rfl, rfl, P', f1.trans fr, fun z => ⟨(h1 (hv z).1).1, (hv z).2.1, by have := (h1 (hv z).1).2; have := (hv z).2.2.2.2; omega⟩⟩
    · rw [if_neg hs, if_neg hs]
      exact ⟨-v, -w, I', K', q', rfl, rfl, P', f1.trans fr, fun z => ⟨(h1 (hv z).1).1, by rw [(hv z).2.1], by have := (h1 (hv z).1).2; have := (hv z).2.2.2.2; omega⟩⟩
  unfold F_X3_readSigned F_X10_signed
  rw [eb, bd_s]
  cases b
  · have hno : ¬ (I o 0 = 0 ∧ I o 6 = 3) := fun z => absurd (hb.mpr z) (by decide)
    have e9 : (if I o 0 = 0 then (if I o 6 = 3 then L_X3_readSigned n T1 o n 0 (1 : Int32) I else L_X3_readSigned n T1 o n 0 (0 : Int32) I) else L_X3_readSigned n T1 o n 0 (0 : Int32) I) = bd (F_X3_readNumber n T1 o I (0 : Int32) (99 : Int32)) (fun v33 => (if (0 : Int32) = 0 then some (v33.1, v33.2) else some ((-v33.1), v33.2))) := by
      have e : L_X3_readSigned n T1 o n 0 (0 : Int32) I = bd (F_X3_readNumber n T1 o I (0 : Int32) (99 : Int32)) (fun v33 => (if (0 : Int32) = 0 then some (v33.1, v33.2) else some ((-v33.1), v33.2))) := by
        have := L_X3_readSigned_e0 n j T1 o 0 I
        rw [← hj] at this
        rw [this, if_pos rfl]
      by_cases c1 : I o 0 = 0
      · rw [if_pos c1, if_neg (fun z => hno ⟨c1, z⟩), e]
      · rw [if_neg c1, e]
    rw [e9, if_pos (show b2 false = 0 from rfl)]
    have := tail I K q 0 P FR.rfl' (fun z => ⟨z, Nat.le_refl _⟩)
    rw [if_pos rfl] at this
    exact this
  · obtain ⟨ok, hk⟩ := hb.mp rfl
    obtain ⟨I1, K1, q1, f1, f2, P1, fr, z, hq, _⟩ := nx (T1 := T1) hn (P.nx ok)
    have e := L_X3_readSigned_e0 n j T1 o 1 I
    rw [← hj] at e
    rw [if_pos ok, if_pos hk, e, if_neg (by decide), f1, bd_s, if_neg (show ¬ b2 true = 0 by decide), f2, bd_s]
    have := tail I1 K1 q1 1 P1 fr (fun _ => ⟨ok, hq⟩)
    rw [if_neg (by decide)] at this
    rw [if_neg (show ¬ b2 true = 0 by decide)]
    exact this
/-- the number of a source; told once -/
theorem so (hn : 2000 ≤ n) (P : PS E q I K o) (ok : I o 0 = 0) {c : Int32} (hc : 0 ≤ c.toInt) (h5 : I T1 5 = c) (hT : T1 ≠ o) (h4 : K (153 + 3) 4 = c) (told : Int32) : ∃ (v w : Int32) (I' K' : gI) (q' : Nat), F_X3_readSource n T1 o I told = some (v, I') ∧ F_X10_readOnce n K told = some (w, K') ∧ PS E q' I' K' o ∧ FR I K I' K' o ∧ (I' o 0 = 0 → I o 0 = 0 ∧ v = w ∧ 0 ≤ v.toInt ∧ v.toInt < c.toInt ∧ q ≤ q') := by
  have cm : (c - 1).toInt = c.toInt - 1 := i_m1 hc
  unfold F_X3_readSource F_X10_readOnce
  rw [h5, h4]
  rcases tk_num P ok with ⟨h6, h7, h9, h0, h99⟩ | ⟨h6, h7⟩
  · rw [if_pos h6]
    by_cases hin : (I o 9).toInt < c.toInt
    · have hin' : (0 : Int32).toInt ≤ (K 153 9).toInt ∧ (K 153 9).toInt ≤ (c - 1).toInt := by rw [← h9, cm, ii_0]; omega
      rw [if_neg (by rw [i_le]; omega), lk_ok P ok h7 hin', bd_s]
      dsimp only
      rw [if_pos (P.ok5 ok), ← h9]
      by_cases ht : (told >>> (I o 9 &&& 31)) &&& (1 : Int32) = 1
      · obtain ⟨I2, K2, g1, g2, P2, f2, er⟩ := fl (n := n) (T1 := T1) P (c := 3) (by decide)
        rw [if_pos ht, if_pos ht, g1, g2, bd_s, bd_s, nx_er (P2 q) er, bd_s]
        obtain ⟨v, w, I3, K3, q3, e1, e2, P3, fr, hv, _⟩ := nm (T1 := T1) hn (P2 q) (l := 0) (u := I2 T1 5 - 1) (l' := 0) (Or.inl rfl)
        have er3 : F_X3_readNumber n T1 o I2 0 (I2 T1 5 - 1) = some (-1, I2) := by unfold F_X3_readNumber; rw [if_neg er]
        rw [er3, bd_s]
        exact ⟨_, _, I2, K2, q, rfl, rfl, P2 q, f2, fun z => absurd z er⟩
      · obtain ⟨I', K', q', f1, f2, P', fr, z, hq, _⟩ := nx (T1 := T1) hn (P.nx ok)
        have e3 : F_X3_readNumber n T1 o I 0 (c - 1) = some (I o 9, I') := by
          unfold F_X3_readNumber
          rw [if_pos ok, if_pos h6, if_neg (by rw [i_lt, ii_0]; omega), if_pos (by rw [i_le, cm]; omega), f1, bd_s]
        rw [if_neg ht, if_neg ht, e3, f2, bd_s, bd_s]
        exact ⟨_, _, I', K', q', rfl, rfl, P', fr, fun _ => ⟨ok, rfl, h0, hin, hq⟩⟩
    · obtain ⟨I2, K2, g1, g2, P2, f2, er⟩ := fl (n := n) (T1 := T1) P (c := 2) (by decide)
      have hin' : ¬ ((0 : Int32).toInt ≤ (K 153 9).toInt ∧ (K 153 9).toInt ≤ (c - 1).toInt) := by rw [← h9, cm, ii_0]; omega
      have e3 : F_X3_readNumber n T1 o I 0 (c - 1) = some (-1, I2) := by
        unfold F_X3_readNumber
        rw [if_pos ok, if_pos h6, if_neg (by rw [i_lt, ii_0]; omega), if_neg (by rw [i_le, cm]; omega), g1, bd_s]
      rw [if_pos (by rw [i_le]; omega), e3, bd_s, lk_out P ok h7 hin' g2 (P2 q) er, bd_s]
      dsimp only
      rw [if_neg ((P2 q).er er).2.1, nx_er (P2 q) er, bd_s]
      exact ⟨_, _, I2, K2, q, rfl, rfl, P2 q, f2, fun z => absurd z er⟩
  · obtain ⟨I2, K2, g1, g2, P2, f2, er⟩ := fl (n := n) (T1 := T1) P (c := 1) (by decide)
    have e3 : F_X3_readNumber n T1 o I 0 (c - 1) = some (-1, I2) := by
      unfold F_X3_readNumber
      rw [if_pos ok, if_neg h6, g1, bd_s]
    rw [if_neg h6, e3, bd_s, lk_no P ok h7 g2 (P2 q) er, bd_s]
    dsimp only
    rw [if_neg ((P2 q).er er).2.1, nx_er (P2 q) er, bd_s]
    exact ⟨_, _, I2, K2, q, rfl, rfl, P2 q, f2, fun z => absurd z er⟩
end READ
