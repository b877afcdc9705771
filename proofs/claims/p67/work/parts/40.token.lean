/-! TOKENS OF A KNOWN TEXT -/
def isL (c : Nat) : Bool := decide (97 ≤ c) && decide (c ≤ 122)
def isD (c : Nat) : Bool := decide (48 ≤ c) && decide (c ≤ 57)
def isB (c : Nat) : Bool := decide (c = 32)
def nL (Y : List Nat) : Nat := (Y.takeWhile isL).length
def nD (Y : List Nat) : Nat := (Y.takeWhile isD).length
def dB (X : List Nat) : List Nat := X.dropWhile isB
/-- how many from s on, at most d, hold P -/
def run (P : Nat → Bool) : Nat → Nat → Nat
  | 0, _ => 0
  | d + 1, s => if P s then run P d (s + 1) + 1 else 0
theorem run_s (P : Nat → Bool) (d s : Nat) : run P (d + 1) s = if P s then run P d (s + 1) + 1 else 0 := rfl
/-- the value of digits from s on -/
def dgs (f : Nat → Int32) : Nat → Nat → Int32 → Int32
  | 0, _, v => v
  | d + 1, s, v => dgs f d (s + 1) (10 * v + f s - 48)
theorem dr_1 {T l : List Nat} {s c : Nat} (h : T.drop s = c :: l) : s < T.length ∧ T.getD s 0 = c ∧ T.drop (s + 1) = l := by
  have hs : s < T.length := by
    refine Nat.lt_of_not_le fun q => ?_
    rw [List.drop_eq_nil_of_le q] at h
    cases h
  rw [List.drop_eq_getElem_cons hs] at h
  refine ⟨hs, ?_, (List.cons.inj h).2⟩
  rw [List.getD_eq_getElem?_getD, List.getElem?_eq_getElem hs]
  exact (List.cons.inj h).1
theorem dr_0 {T : List Nat} {s : Nat} (h : T.drop s = []) : T.length ≤ s := List.drop_eq_nil_iff.mp h
/-- the bytes of a text as the buffer holds them, before the reader at o; no error so far -/
def BS (T : List Nat) (I : gI) (o : Nat) : Prop := T.length ≤ 800 ∧ (∀ i, T.getD i 0 < 128) ∧ (∀ i, i < T.length → I 1 i = Int32.ofNat (T.getD i 0)) ∧ I o 3 = Int32.ofNat T.length ∧ I o 0 = 0 ∧ RU I ∧ (0 ≤ (I 18 1).toInt ∧ (I 18 1).toInt < 8)
/-- the reader stands before X -/
def RD (T : List Nat) (I : gI) (o : Nat) (X : List Nat) : Prop := BS T I o ∧ ∃ q, q ≤ T.length ∧ I o 8 = Int32.ofNat q ∧ T.drop q = X
/-- the reader has read the first token of X -/
def CUR (T : List Nat) (I : gI) (o : Nat) (X : List Nat) : Prop := BS T I o ∧ ∃ s, s ≤ T.length ∧ T.drop s = dB X ∧ I o 7 = Int32.ofNat s ∧
  (dB X = [] → I o 6 = 0) ∧
  (0 < nL (dB X) → nL (dB X) ≤ 8 → I o 6 = 1 ∧ I o 8 = Int32.ofNat (s + nL (dB X))) ∧
  (nL (dB X) = 0 → 0 < nD (dB X) → nD (dB X) ≤ 4 → I o 6 = 2 ∧ I o 8 = Int32.ofNat (s + nD (dB X)) ∧ I o 9 = dgs (fun i => Int32.ofNat (T.getD i 0)) (nD (dB X)) s 0) ∧
  (∀ l, dB X = 45 :: l → I o 6 = 3 ∧ I o 8 = Int32.ofNat (s + 1)) ∧
  (∀ l, dB X = 59 :: l → I o 6 = 4 ∧ I o 8 = Int32.ofNat (s + 1))
/-- only the reader's token has moved -/
def FR (I I' : gI) (o : Nat) : Prop := ∀ a i, (a ≠ o ∨ (i ≠ 6 ∧ i ≠ 7 ∧ i ≠ 8 ∧ i ≠ 9)) → I' a i = I a i
theorem FR.rfl' {I : gI} {o : Nat} : FR I I o := fun _ _ _ => rfl
theorem FR.trans {I I' I'' : gI} {o : Nat} (h : FR I I' o) (h' : FR I' I'' o) : FR I I'' o := fun a i q => (h' a i q).trans (h a i q)
section TOK
variable {n T1 o : Nat} {I : gI} {T X : List Nat}
theorem BS.fr (h : BS T I o) (ho : 150 ≤ o) {I' : gI} (f : FR I I' o) : BS T I' o := by
  obtain ⟨h1, h2, h3, h4, h5, h6, h7⟩ := h
  refine ⟨h1, h2, fun i hi => ?_, ?_, ?_, fun x y hx hy => ?_, ?_⟩
  · rw [f 1 i (Or.inl (by omega))]; exact h3 i hi
  · rw [f o 3 (Or.inr (by decide))]; exact h4
  · rw [f o 0 (Or.inr (by decide))]; exact h5
  · rw [f 94 _ (Or.inl (by omega))]; exact h6 x y hx hy
  · rw [f 18 1 (Or.inl (by omega))]; exact h7
theorem c_run (hn : 2000 ≤ n) (B : BS T I o) {s : Nat} (hs : s ≤ T.length) (h7 : I o 7 = Int32.ofNat s) (l u : Int32) : F_X3_countRun n T1 o I l u = some (Int32.ofNat (run (fun i => rng (Int32.ofNat (T.getD i 0)) l u) (T.length - s) s)) := by
  have h3 := B.2.2.2.1
  have hB := B.1
  have key : ∀ (d c j : Nat), c + d = T.length → s ≤ c → d < j → L_X3_countRun n T1 o I l u j 0 (Int32.ofNat c) = some (Int32.ofNat (c - s + run (fun i => rng (Int32.ofNat (T.getD i 0)) l u) d c)) := by
    intro d
    induction d with
    | zero =>
      intro c j hc hsc hj
      obtain ⟨j, rfl⟩ : ∃ i, j = i + 1 := ⟨j - 1, by omega⟩
      rw [L_X3_countRun_e0, h3, if_pos (by rw [i_ole (by omega) (by omega)]; omega), h7, i_osub (by omega) (by omega)]
      rfl
    | succ d ih =>
      intro c j hc hsc hj
      obtain ⟨j, rfl⟩ : ∃ i, j = i + 1 := ⟨j - 1, by omega⟩
      rw [L_X3_countRun_e0, h3, if_neg (by rw [i_ole (by omega) (by omega)]; omega), gv_o (by omega), i_tno (by omega), ixp_1, gv_o (by omega), h7, i_osub (by omega) (by omega), run_s, ih (c + 1) j (by omega) (by omega) (by omega), B.2.2.1 c (by omega)]
      by_cases h1 : Int32.ofNat (T.getD c 0) < l
      · have : rng (Int32.ofNat (T.getD c 0)) l u = false := by
          cases g : rng (Int32.ofNat (T.getD c 0)) l u
          · rfl
          · have := rng_t.mp g; rw [i_lt] at h1; omega
        rw [if_pos h1, this, if_neg (by decide)]; rfl
      · rw [if_neg h1]
        by_cases h2 : u < Int32.ofNat (T.getD c 0)
        · have : rng (Int32.ofNat (T.getD c 0)) l u = false := by
            cases g : rng (Int32.ofNat (T.getD c 0)) l u
            · rfl
            · have := rng_t.mp g; rw [i_lt] at h2; omega
          rw [if_pos h2, this, if_neg (by decide)]; rfl
        · have : rng (Int32.ofNat (T.getD c 0)) l u = true := by rw [rng_t]; rw [i_lt] at h1 h2; omega
          rw [if_neg h2, this, if_pos rfl]
          congr 2
          omega
  have := key (T.length - s) s n (by omega) (Nat.le_refl _) (by omega)
  unfold F_X3_countRun
  rw [h7, this, Nat.sub_self, Nat.zero_add]
/-- a run, out of the list -/
theorem run_l (p : Nat → Bool) : ∀ (Y : List Nat) (s : Nat), s ≤ T.length → T.drop s = Y → run (fun i => p (T.getD i 0)) (T.length - s) s = (Y.takeWhile p).length
  | [], s, hs, h => by
    have := dr_0 h
    rw [show T.length - s = 0 by omega]; rfl
  | c :: Y, s, hs, h => by
    obtain ⟨h1, h2, h3⟩ := dr_1 h
    rw [show T.length - s = (T.length - (s + 1)) + 1 by omega, run_s, h2, List.takeWhile_cons]
    cases hp : p c
    · rw [if_neg (by decide), if_neg (by decide)]; rfl
    · rw [if_pos rfl, if_pos rfl, List.length_cons, run_l p Y (s + 1) (by omega) h3]
theorem rng_n {c : Nat} (l u : Nat) (hc : c < 128) (hl : l < 128) (hu : u < 128) : rng (Int32.ofNat c) (Int32.ofNat l) (Int32.ofNat u) = (decide (l ≤ c) && decide (c ≤ u)) := by
  unfold rng
  rw [← Bool.decide_and]
  apply decide_eq_decide.mpr
  rw [i_ole (by omega) (by omega), i_ole (by omega) (by omega)]
theorem c_runL (hn : 2000 ≤ n) (B : BS T I o) {s : Nat} (hs : s ≤ T.length) (h7 : I o 7 = Int32.ofNat s) : F_X3_countRun n T1 o I 97 122 = some (Int32.ofNat (nL (T.drop s))) := by
  rw [c_run hn B hs h7, show (97 : Int32) = Int32.ofNat 97 from rfl, show (122 : Int32) = Int32.ofNat 122 from rfl, show (fun i => rng (Int32.ofNat (T.getD i 0)) (Int32.ofNat 97) (Int32.ofNat 122)) = (fun i => isL (T.getD i 0)) from funext fun i => rng_n 97 122 (B.2.1 i) (by decide) (by decide), run_l isL (T.drop s) s hs rfl]
  rfl
theorem c_runD (hn : 2000 ≤ n) (B : BS T I o) {s : Nat} (hs : s ≤ T.length) (h7 : I o 7 = Int32.ofNat s) : F_X3_countRun n T1 o I 48 57 = some (Int32.ofNat (nD (T.drop s))) := by
  rw [c_run hn B hs h7, show (48 : Int32) = Int32.ofNat 48 from rfl, show (57 : Int32) = Int32.ofNat 57 from rfl, show (fun i => rng (Int32.ofNat (T.getD i 0)) (Int32.ofNat 48) (Int32.ofNat 57)) = (fun i => isD (T.getD i 0)) from funext fun i => rng_n 48 57 (B.2.1 i) (by decide) (by decide), run_l isD (T.drop s) s hs rfl]
  rfl
theorem dgs_e {f g : Nat → Int32} : ∀ (d s : Nat) (v : Int32), (∀ i, s ≤ i → i < s + d → f i = g i) → dgs f d s v = dgs g d s v
  | 0, _, _, _ => rfl
  | d + 1, s, v, h => by
    show dgs f d (s + 1) (10 * v + f s - 48) = dgs g d (s + 1) (10 * v + g s - 48)
    rw [h s (Nat.le_refl _) (by omega)]
    exact dgs_e d (s + 1) _ fun i a b => h i (by omega) (by omega)
theorem c_num (hn : 2000 ≤ n) {I : gI} {s q : Nat} (hq : q ≤ 900) (hs : s ≤ q) (h7 : I o 7 = Int32.ofNat s) (h8 : I o 8 = Int32.ofNat q) : F_X3_numberAtStart n T1 o I = some (dgs (fun i => I 1 i) (q - s) s 0) := by
  have key : ∀ (d c j : Nat) (v : Int32), c + d = q → d < j → L_X3_numberAtStart n T1 o I j 0 v (Int32.ofNat c) = some (dgs (fun i => I 1 i) d c v) := by
    intro d
    induction d with
    | zero =>
      intro c j v hc hj
      obtain ⟨j, rfl⟩ : ∃ i, j = i + 1 := ⟨j - 1, by omega⟩
      rw [L_X3_numberAtStart_e0, h8, if_pos (by rw [i_ole (by omega) (by omega)]; omega)]
      rfl
    | succ d ih =>
      intro c j v hc hj
      obtain ⟨j, rfl⟩ : ∃ i, j = i + 1 := ⟨j - 1, by omega⟩
      rw [L_X3_numberAtStart_e0, h8, if_neg (by rw [i_ole (by omega) (by omega)]; omega), gv_o (by omega), i_tno (by omega), ixp_1]
      exact ih (c + 1) j _ (by omega) (by omega)
  unfold F_X3_numberAtStart
  rw [h7]
  exact key (q - s) s n 0 (by omega) (by omega)
theorem c_sign (n : Nat) {c : Nat} (hc : c < 128) : ∃ kd, F_X3_kindOfSign n T1 (Int32.ofNat c) = some kd ∧ (c = 45 → kd = 3) ∧ (c = 59 → kd = 4) := by
  unfold F_X3_kindOfSign
  by_cases h1 : c = 45
  · rw [if_pos (by rw [h1]; rfl)]; exact ⟨3, rfl, fun _ => rfl, fun q => by omega⟩
  · rw [if_neg (show ¬ Int32.ofNat c = (45 : Int32) from fun z => absurd ((i_oeq (b := 45) (by omega) (by omega)).mp z) h1)]
    by_cases h2 : c = 59
    · rw [if_pos (by rw [h2]; rfl)]; exact ⟨4, rfl, fun q => absurd q h1, fun _ => rfl⟩
    · rw [if_neg (show ¬ Int32.ofNat c = (59 : Int32) from fun z => absurd ((i_oeq (b := 59) (by omega) (by omega)).mp z) h2)]; exact ⟨5, rfl, fun q => absurd q h1, fun q => absurd q h2⟩
theorem tw_b (p : Nat → Bool) : ∀ Y : List Nat, (Y.takeWhile p).length ≤ Y.length
  | [] => Nat.le_refl _
  | c :: Y => by
    have := tw_b p Y
    rw [List.takeWhile_cons]
    cases p c
    · rw [if_neg (by decide)]; exact Nat.zero_le _
    · rw [if_pos rfl, List.length_cons, List.length_cons]; omega
theorem nL_0 {c : Nat} {l : List Nat} (h : isL c = false) : nL (c :: l) = 0 := by unfold nL; rw [List.takeWhile_cons, h, if_neg (by decide)]; rfl
theorem nD_0 {c : Nat} {l : List Nat} (h : isD c = false) : nD (c :: l) = 0 := by unfold nD; rw [List.takeWhile_cons, h, if_neg (by decide)]; rfl
/-- what stands behind the blanks is read: as after the loop -/
def ntB (n T1 o0 : Nat) (I : gI) : Option gI := bd (F_X3_countRun n T1 o0 I (97 : Int32) (122 : Int32)) (fun v51 => bd (F_X3_countRun n T1 o0 I (48 : Int32) (57 : Int32)) (fun v60 => (if (I o0 7) < (I o0 3) then (if v51 ≤ 0 then (if v60 ≤ 0 then gv (I o0 7) 900 (bd (F_X3_kindOfSign n T1 (I 1 (Int32.toNatClampNeg (I o0 7)))) (fun v181 => some (sI (sI I o0 6 v181) o0 8 (((sI I o0 6 v181) o0 7) + (1 : Int32))))) else (if v60 ≤ (4 : Int32) then (if v60 ≤ (4 : Int32) then bd (F_X3_numberAtStart n T1 o0 (sI (sI I o0 6 (2 : Int32)) o0 8 (((sI I o0 6 (2 : Int32)) o0 7) + v60))) (fun v162 => some (sI (sI (sI I o0 6 (2 : Int32)) o0 8 (((sI I o0 6 (2 : Int32)) o0 7) + v60)) o0 9 v162)) else some (sI (sI (sI I o0 6 (2 : Int32)) o0 8 (((sI I o0 6 (2 : Int32)) o0 7) + v60)) o0 9 (-1 : Int32))) else (if v60 ≤ (4 : Int32) then bd (F_X3_numberAtStart n T1 o0 (sI (sI I o0 6 (5 : Int32)) o0 8 (((sI I o0 6 (5 : Int32)) o0 7) + v60))) (fun v162 => some (sI (sI (sI I o0 6 (5 : Int32)) o0 8 (((sI I o0 6 (5 : Int32)) o0 7) + v60)) o0 9 v162)) else some (sI (sI (sI I o0 6 (5 : Int32)) o0 8 (((sI I o0 6 (5 : Int32)) o0 7) + v60)) o0 9 (-1 : Int32))))) else (if v51 ≤ (8 : Int32) then some (sI (sI I o0 6 (1 : Int32)) o0 8 (((sI I o0 6 (1 : Int32)) o0 7) + v51)) else some (sI (sI I o0 6 (5 : Int32)) o0 8 (((sI I o0 6 (5 : Int32)) o0 7) + v51)))) else some (sI (sI I o0 6 (0 : Int32)) o0 8 ((sI I o0 6 (0 : Int32)) o0 3)))))
theorem ntB_s (hn : 2000 ≤ n) (ho : 150 ≤ o) (B : BS T I o) {s : Nat} (hs : s ≤ T.length) (h7 : I o 7 = Int32.ofNat s) {Y : List Nat} (hY : T.drop s = Y) : ∃ I', ntB n T1 o I = some I' ∧ FR I I' o ∧ I' o 7 = Int32.ofNat s ∧ (Y = [] → I' o 6 = 0) ∧ (0 < nL Y → nL Y ≤ 8 → I' o 6 = 1 ∧ I' o 8 = Int32.ofNat (s + nL Y)) ∧ (nL Y = 0 → 0 < nD Y → nD Y ≤ 4 → I' o 6 = 2 ∧ I' o 8 = Int32.ofNat (s + nD Y) ∧ I' o 9 = dgs (fun i => Int32.ofNat (T.getD i 0)) (nD Y) s 0) ∧ (∀ l, Y = 45 :: l → I' o 6 = 3 ∧ I' o 8 = Int32.ofNat (s + 1)) ∧ (∀ l, Y = 59 :: l → I' o 6 = 4 ∧ I' o 8 = Int32.ofNat (s + 1)) := by
  have hB := B.1
  have h3 := B.2.2.2.1
  have e1 := c_runL (n := n) (T1 := T1) hn B hs h7
  have e2 := c_runD (n := n) (T1 := T1) hn B hs h7
  rw [hY] at e1 e2
  have lY : Y.length = T.length - s := by rw [← hY, List.length_drop]
  have b1 : nL Y ≤ Y.length := tw_b isL Y
  have b2 : nD Y ≤ Y.length := tw_b isD Y
  have fr2 : ∀ (k1 k2 : Nat) (v1 v2 : Int32), (k1 = 6 ∧ k2 = 8) → FR I (sI (sI I o k1 v1) o k2 v2) o := fun k1 k2 v1 v2 hk a i q => by
    rw [sI_get, if_neg (by omega), sI_get, if_neg (by omega)]
  unfold ntB
  rw [e1, bd_s, e2, bd_s, h3, h7]
  by_cases hE : s < T.length
  · rw [if_pos (by rw [i_olt (by omega) (by omega)]; exact hE)]
    have hne : Y ≠ [] := fun q => by rw [q, List.length_nil] at lY; omega
    by_cases hl : nL Y = 0
    · rw [if_pos (show Int32.ofNat (nL Y) ≤ 0 by rw [hl]; decide)]
      by_cases hd : nD Y = 0
      · rw [if_pos (show Int32.ofNat (nD Y) ≤ 0 by rw [hd]; decide), gv_o (by omega), i_tno (by omega), B.2.2.1 s hE]
        obtain ⟨kd, ek, k1, k2⟩ := c_sign (T1 := T1) n (B.2.1 s)
        rw [ek, bd_s, sI_k (by decide), h7, ixp_1]
        refine ⟨_, rfl, fr2 6 8 _ _ ⟨rfl, rfl⟩, by rw [sI_k (by decide), sI_k (by decide)]; exact h7, fun q => absurd q hne, fun q => by omega, fun _ q => by omega, fun l q => ?_, fun l q => ?_⟩
        · rw [q] at hY
          have := (dr_1 hY).2.1
          rw [sI_k (by decide), sI_self, sI_self]
          exact ⟨k1 this, rfl⟩
        · rw [q] at hY
          have := (dr_1 hY).2.1
          rw [sI_k (by decide), sI_self, sI_self]
          exact ⟨k2 this, rfl⟩
      · rw [if_neg (show ¬ Int32.ofNat (nD Y) ≤ 0 from fun z => absurd ((i_ole (b := 0) (by omega) (by omega)).mp z) (by omega))]
        have noS : ∀ c l, Y = c :: l → isD c = false → False := fun c l q hc => by rw [q, nD_0 hc] at hd; omega
        by_cases h4 : nD Y ≤ 4
        · rw [if_pos (show Int32.ofNat (nD Y) ≤ 4 from (i_ole (b := 4) (by omega) (by omega)).mpr h4), if_pos (show Int32.ofNat (nD Y) ≤ 4 from (i_ole (b := 4) (by omega) (by omega)).mpr h4), sI_k (by decide), h7, i_oadd]
          have en := c_num (n := n) (T1 := T1) (o := o) hn (I := sI (sI I o 6 2) o 8 (Int32.ofNat (s + nD Y))) (s := s) (q := s + nD Y) (by omega) (by omega) (by rw [sI_k (by decide), sI_k (by decide)]; exact h7) (sI_self _ _ _ _)
          rw [en, bd_s]
          refine ⟨_, rfl, fun a i q => ?_, ?_, fun q => absurd q hne, fun q => by omega, fun _ _ _ => ?_, fun l q => (noS _ l q (by decide)).elim, fun l q => (noS _ l q (by decide)).elim⟩
          · rw [sI_get, if_neg (by omega)]; exact fr2 6 8 _ _ ⟨rfl, rfl⟩ a i q
          · rw [sI_k (by decide), sI_k (by decide), sI_k (by decide)]; exact h7
          · refine ⟨by rw [sI_k (by decide), sI_k (by decide), sI_self], by rw [sI_k (by decide), sI_self], ?_⟩
            rw [sI_self, show s + nD Y - s = nD Y by omega]
            refine dgs_e _ _ _ fun i a b => ?_
            rw [sI_o (show 1 ≠ o by omega), sI_o (show 1 ≠ o by omega)]
            exact B.2.2.1 i (by omega)
        · rw [if_neg (show ¬ Int32.ofNat (nD Y) ≤ 4 from fun z => absurd ((i_ole (b := 4) (by omega) (by omega)).mp z) h4), if_neg (show ¬ Int32.ofNat (nD Y) ≤ 4 from fun z => absurd ((i_ole (b := 4) (by omega) (by omega)).mp z) h4)]
          refine ⟨_, rfl, fun a i q => ?_, ?_, fun q => absurd q hne, fun q => by omega, fun _ _ q => absurd q h4, fun l q => (noS _ l q (by decide)).elim, fun l q => (noS _ l q (by decide)).elim⟩
          · rw [sI_get, if_neg (by omega)]; exact fr2 6 8 _ _ ⟨rfl, rfl⟩ a i q
          · rw [sI_k (by decide), sI_k (by decide), sI_k (by decide)]; exact h7
    · rw [if_neg (show ¬ Int32.ofNat (nL Y) ≤ 0 from fun z => absurd ((i_ole (b := 0) (by omega) (by omega)).mp z) (by omega))]
      have noS : ∀ c l, Y = c :: l → isL c = false → False := fun c l q hc => by rw [q, nL_0 hc] at hl; omega
      by_cases h8 : nL Y ≤ 8
      · rw [if_pos (show Int32.ofNat (nL Y) ≤ 8 from (i_ole (b := 8) (by omega) (by omega)).mpr h8), sI_k (by decide), h7, i_oadd]
        refine ⟨_, rfl, fr2 6 8 _ _ ⟨rfl, rfl⟩, by rw [sI_k (by decide), sI_k (by decide)]; exact h7, fun q => absurd q hne, fun _ _ => ⟨by rw [sI_k (by decide), sI_self], sI_self _ _ _ _⟩, fun q => absurd q hl, fun l q => (noS _ l q (by decide)).elim, fun l q => (noS _ l q (by decide)).elim⟩
      · rw [if_neg (show ¬ Int32.ofNat (nL Y) ≤ 8 from fun z => absurd ((i_ole (b := 8) (by omega) (by omega)).mp z) h8)]
        refine ⟨_, rfl, fr2 6 8 _ _ ⟨rfl, rfl⟩, by rw [sI_k (by decide), sI_k (by decide)]; exact h7, fun q => absurd q hne, fun _ q => absurd q h8, fun q => absurd q hl, fun l q => (noS _ l q (by decide)).elim, fun l q => (noS _ l q (by decide)).elim⟩
  · rw [if_neg (by rw [i_olt (by omega) (by omega)]; exact hE)]
    have hY0 : Y = [] := List.length_eq_zero_iff.mp (by omega)
    refine ⟨_, rfl, fr2 6 8 _ _ ⟨rfl, rfl⟩, by rw [sI_k (by decide), sI_k (by decide)]; exact h7, fun _ => by rw [sI_k (by decide), sI_self], fun q => ?_, fun _ q => ?_, fun l q => ?_, fun l q => ?_⟩
    · rw [hY0] at q; exact absurd q (by decide)
    · rw [hY0] at q; exact absurd q (by decide)
    · rw [hY0] at q; cases q
    · rw [hY0] at q; cases q
theorem ss_7 (I : gI) (o : Nat) (a b : Int32) : sI (sI I o 7 a) o 7 b = sI I o 7 b := by
  funext x i; simp only [sI_get]
  by_cases h : x = o ∧ i = 7
  · rw [if_pos h, if_pos h]
  · rw [if_neg h, if_neg h, if_neg h]
/-- the next token is read -/
theorem nt_ok (hn : 2000 ≤ n) (ho : 150 ≤ o) (h : RD T I o X) : ∃ I', F_X3_nextToken n T1 o I = some I' ∧ CUR T I' o X ∧ FR I I' o := by
  obtain ⟨B, q, hq, h8, hX⟩ := h
  have hB := B.1
  have h3 := B.2.2.2.1
  have f7 : ∀ v, FR I (sI I o 7 v) o := fun v a i z => by rw [sI_get, if_neg (by omega)]
  have B7 : ∀ v, BS T (sI I o 7 v) o := fun v => B.fr ho (f7 v)
  have lp : ∀ (Z : List Nat) (s j : Nat), s ≤ T.length → T.drop s = Z → Z.length < j → ∃ s', s' ≤ T.length ∧ T.drop s' = dB Z ∧ L_X3_nextToken n T1 o j 0 (sI I o 7 (Int32.ofNat s)) = ntB n T1 o (sI I o 7 (Int32.ofNat s')) := by
    intro Z
    induction Z with
    | nil =>
      intro s j hs hZ hj
      obtain ⟨j, rfl⟩ : ∃ i, j = i + 1 := ⟨j - 1, by omega⟩
      have := dr_0 hZ
      refine ⟨s, hs, hZ, ?_⟩
      rw [L_X3_nextToken_e0, if_pos (by rw [sI_k (by decide), sI_self, h3, i_ole (by omega) (by omega)]; omega)]
      rfl
    | cons c Z ih =>
      intro s j hs hZ hj
      obtain ⟨j, rfl⟩ : ∃ i, j = i + 1 := ⟨j - 1, by omega⟩
      obtain ⟨d1, d2, d3⟩ := dr_1 hZ
      rw [List.length_cons] at hj
      have hc := B.2.1 s
      rw [d2] at hc
      have ne7 : ¬ sI I o 7 (Int32.ofNat s) o 3 ≤ sI I o 7 (Int32.ofNat s) o 7 := by rw [sI_k (by decide), sI_self, h3, i_ole (by omega) (by omega)]; omega
      have rd : sI I o 7 (Int32.ofNat s) 1 (Int32.toNatClampNeg (sI I o 7 (Int32.ofNat s) o 7)) = Int32.ofNat c := by
        rw [sI_self, i_tno (by omega), sI_o (show 1 ≠ o by omega), B.2.2.1 s d1, d2]
      have g9 : ∀ {α : Type} (x : Option α), gv (sI I o 7 (Int32.ofNat s) o 7) 900 x = x := fun x => by rw [sI_self]; exact gv_o (by omega)
      by_cases hb : c = 32
      · obtain ⟨s', a1, a2, a3⟩ := ih (s + 1) j (by omega) d3 (by omega)
        refine ⟨s', a1, ?_, ?_⟩
        · rw [a2]; unfold dB; rw [List.dropWhile_cons, if_pos (by rw [hb]; rfl)]
        · rw [L_X3_nextToken_e0, if_neg ne7, g9, rd, if_pos (by rw [hb]; rfl), ss_7, sI_self, ixp_1]
          exact a3
      · refine ⟨s, hs, ?_, ?_⟩
        · rw [hZ]; unfold dB; rw [List.dropWhile_cons, if_neg (by unfold isB; rw [decide_eq_false hb]; decide)]
        · rw [L_X3_nextToken_e0, if_neg ne7, g9, rd, if_neg (show ¬ Int32.ofNat c = (32 : Int32) from fun z => absurd ((i_oeq (b := 32) (by omega) (by omega)).mp z) hb)]
          unfold ntB
          rw [rd]
  have lX : X.length ≤ 800 := by rw [← hX, List.length_drop]; omega
  obtain ⟨s, hs, hY, e⟩ := lp X q n hq hX (by omega)
  obtain ⟨I', e2, f, p⟩ := ntB_s (n := n) (T1 := T1) hn ho (B7 (Int32.ofNat s)) hs (sI_self _ _ _ _) hY
  refine ⟨I', ?_, ⟨B.fr ho ((f7 _).trans f), s, hs, hY, p⟩, (f7 _).trans f⟩
  unfold F_X3_nextToken
  rw [h8, e]
  exact e2
end TOK
