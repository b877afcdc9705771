/-! TOKENS -/
/-- a byte of the program's, as the reference holds it -/
theorem by_all : ∀ k : Fin 256, (Int32.ofInt ((k.1 : Int) - 128) &&& 255).toInt = if (k.1 : Int) - 128 < 0 then (k.1 : Int) + 128 else (k.1 : Int) - 128 := by decide +kernel
theorem by_i {b : Int32} (h : -128 ≤ b.toInt ∧ b.toInt ≤ 127) : (b &&& 255).toInt = if b.toInt < 0 then b.toInt + 256 else b.toInt := by
  have := by_all ⟨(b.toInt + 128).toNat, by omega⟩
  simp only at this
  have e : (((b.toInt + 128).toNat : Nat) : Int) - 128 = b.toInt := by omega
  rw [e, Int32.ofInt_toInt] at this
  rw [this]
  by_cases h1 : b.toInt < 0
  · rw [if_pos h1, if_pos h1]; omega
  · rw [if_neg h1, if_neg h1]
/-- a byte between two letters, or two digits -/
theorem by_in {b l u : Int32} (h : -128 ≤ b.toInt ∧ b.toInt ≤ 127) (hl : 0 ≤ l.toInt) (hu : u.toInt ≤ 127) : rng (b &&& 255) l u = rng b l u := by
  have e := by_i h
  unfold rng
  apply decide_eq_decide.mpr
  simp only [i_le, e]
  by_cases h1 : b.toInt < 0
  · rw [if_pos h1]; omega
  · rw [if_neg h1]
theorem by_eq {b c : Int32} (h : -128 ≤ b.toInt ∧ b.toInt ≤ 127) (hc : 0 ≤ c.toInt ∧ c.toInt ≤ 127) : b &&& 255 = c ↔ b = c := by
  have e := by_i h
  rw [i_eq, i_eq, e]
  by_cases h1 : b.toInt < 0
  · rw [if_pos h1]; omega
  · rw [if_neg h1]
/-- how many from s on, at most d, hold P -/
def run (P : Nat → Bool) : Nat → Nat → Nat
  | 0, _ => 0
  | d + 1, s => if P s then run P d (s + 1) + 1 else 0
theorem run_le (P : Nat → Bool) : ∀ d s, run P d s ≤ d
  | 0, _ => Nat.le_refl _
  | d + 1, s => by
    have := run_le P d (s + 1)
    show (if P s then run P d (s + 1) + 1 else 0) ≤ d + 1
    cases P s
    · exact Nat.zero_le _
    · rw [if_pos rfl]; omega
theorem run_s (P : Nat → Bool) (d s : Nat) : run P (d + 1) s = if P s then run P d (s + 1) + 1 else 0 := rfl
theorem run_in (P : Nat → Bool) : ∀ d s i, i < run P d s → P (s + i) = true
  | 0, _, i, h => by simp [run] at h
  | d + 1, s, i, h => by
    rw [run_s] at h
    cases hp : P s
    · rw [hp, if_neg (by decide)] at h; omega
    · rw [hp, if_pos rfl] at h
      by_cases hi : i = 0
      · rw [hi]; exact hp
      · have := run_in P d (s + 1) (i - 1) (by omega)
        rw [show s + i = s + 1 + (i - 1) by omega]; exact this
/-- the bytes of a text of length E, as both hold them -/
def BY (E : Nat) (I K : gI) : Prop := E ≤ 900 ∧ ∀ i, i < E → (-128 ≤ (I 1 i).toInt ∧ (I 1 i).toInt ≤ 127) ∧ K (153 + 1) i = I 1 i &&& 255
/-- what a token is, told by both -/
def TKk (I K : gI) (o : Nat) : Prop := (I o 6 = 0 ∧ K 153 7 = 1) ∨ (I o 6 = 1 ∧ K 153 7 = 2) ∨ (I o 6 = 2 ∧ K 153 7 = 3 ∧ I o 9 = K 153 9 ∧ 0 ≤ (I o 9).toInt ∧ (I o 9).toInt ≤ 9999) ∨ (I o 6 = 3 ∧ K 153 7 = 4 ∧ K 153 9 = 45) ∨ (I o 6 = 4 ∧ K 153 7 = 4 ∧ K 153 9 = 59) ∨ (I o 6 = 5 ∧ (K 153 7 = 0 ∨ (K 153 7 = 4 ∧ K 153 9 ≠ 45 ∧ K 153 9 ≠ 59)))
/-- the token here: from s to q -/
def TK (E s q : Nat) (I K : gI) (o : Nat) : Prop := s ≤ q ∧ q ≤ E ∧ I o 7 = Int32.ofNat s ∧ K 153 8 = Int32.ofNat s ∧ I o 8 = Int32.ofNat q ∧ K 153 4 = Int32.ofNat q ∧ TKk I K o
/-- the reader of the program, which lies at o, and the reference's -/
def PS (E q : Nat) (I K : gI) (o : Nat) : Prop := 172 ≤ o ∧ BY E I K ∧ I o 3 = Int32.ofNat E ∧ K 153 3 = Int32.ofNat E ∧ I o 0 = K 153 5 ∧ I o 1 = K 153 6 ∧ 0 ≤ (I o 0).toInt ∧ (I o 0 = 0 → ∃ s, TK E s q I K o)
/-- only the reader itself has moved -/
def FR (I K I' K' : gI) (o : Nat) : Prop := (∀ a i, (a ≠ o ∨ (i ≠ 0 ∧ i ≠ 1 ∧ i ≠ 6 ∧ i ≠ 7 ∧ i ≠ 8 ∧ i ≠ 9)) → I' a i = I a i) ∧ (∀ a i, (a ≠ 153 ∨ i < 4 ∨ 9 < i) → K' a i = K a i)
theorem FR.rfl' {I K : gI} {o : Nat} : FR I K I K o := ⟨fun _ _ _ => rfl, fun _ _ _ => rfl⟩
theorem FR.trans {I K I' K' I'' K'' : gI} {o : Nat} (h : FR I K I' K' o) (h' : FR I' K' I'' K'' o) : FR I K I'' K'' o :=
  ⟨fun a i q => (h'.1 a i q).trans (h.1 a i q), fun a i q => (h'.2 a i q).trans (h.2 a i q)⟩
section TOK
variable {n T1 o E : Nat} {I K : gI}
theorem c_run (hn : 2000 ≤ n) (B : BY E I K) (h3 : I o 3 = Int32.ofNat E) {s : Nat} (hs : s ≤ E) (h7 : I o 7 = Int32.ofNat s) (l u : Int32) : F_X3_countRun n T1 o I l u = some (Int32.ofNat (run (fun i => rng (I 1 i) l u) (E - s) s)) := by
  have key : ∀ (d c j : Nat), c + d = E → s ≤ c → d < j → L_X3_countRun n T1 o I l u j 0 (Int32.ofNat c) = some (Int32.ofNat (c - s + run (fun i => rng (I 1 i) l u) d c)) := by
    have hB := B.1
    intro d
    induction d with
    | zero =>
      intro c j hc hsc hj
      obtain ⟨j, rfl⟩ : ∃ i, j = i + 1 := ⟨j - 1, by omega⟩
      rw [L_X3_countRun_e0, h3, if_pos (by rw [i_ole (by omega) (by omega)]; omega), h7, i_osub (by omega) (by omega)]
      rfl
    | succ d ih =>
      intro c j hc hsc hj
      obtain ⟨j, rfl⟩ : ∃ i, j = i + 1 := ⟨j - 1, by omega⟩
      rw [L_X3_countRun_e0, h3, if_neg (by rw [i_ole (by omega) (by omega)]; omega), gv_o (by omega), i_tno (by omega), ixp_1, gv_o (by omega), h7, i_osub (by omega) (by omega), run_s, ih (c + 1) j (by omega) (by omega) (by omega)]
      by_cases h1 : I 1 c < l
      · have : rng (I 1 c) l u = false := by
          cases g : rng (I 1 c) l u
          · rfl
          · have := rng_t.mp g; rw [i_lt] at h1; omega
        rw [if_pos h1, this, if_neg (by decide)]; rfl
      · rw [if_neg h1]
        by_cases h2 : u < I 1 c
        · have : rng (I 1 c) l u = false := by
            cases g : rng (I 1 c) l u
            · rfl
            · have := rng_t.mp g; rw [i_lt] at h2; omega
          rw [if_pos h2, this, if_neg (by decide)]; rfl
        · have : rng (I 1 c) l u = true := by rw [rng_t]; rw [i_lt] at h1 h2; omega
          rw [if_neg h2, this, if_pos rfl]
          congr 2
          omega
  have hB := B.1
  have := key (E - s) s n (by omega) (Nat.le_refl _) (by omega)
  unfold F_X3_countRun
  rw [h7, this, Nat.sub_self, Nat.zero_add]
theorem m_byte (B : BY E I K) (h3 : K 153 3 = Int32.ofNat E) {s : Nat} (hs : s < E) : F_X10_byteAt n K (Int32.ofNat s) = some (I 1 s &&& 255) := by
  have hB := B.1
  unfold F_X10_byteAt
  rw [h3, if_neg (by rw [i_ole (by omega) (by omega)]; omega), gv_o (by omega), i_tno (by omega), (B.2 s hs).2]
theorem m_byteE (B : BY E I K) (h3 : K 153 3 = Int32.ofNat E) {s : Nat} (hs : E ≤ s) (hs2 : s ≤ 900) : F_X10_byteAt n K (Int32.ofNat s) = some (-1) := by
  have hB := B.1
  unfold F_X10_byteAt
  rw [h3, if_pos (by rw [i_ole (by omega) (by omega)]; omega)]
/-- the value of digits from s on -/
def dgs (f : Nat → Int32) : Nat → Nat → Int32 → Int32
  | 0, _, v => v
  | d + 1, s, v => dgs f d (s + 1) (10 * v + f s - 48)
theorem p10b : ∀ e : Fin 4, (10 : Int) ^ e.1 ≤ 1000 ∧ (10 : Int) ^ (e.1 + 1) = 10 * (10 : Int) ^ e.1 := by decide
theorem dgs_b (f : Nat → Int32) : ∀ (d s e : Nat) (v : Int32), (∀ i, i < d → 48 ≤ (f (s + i)).toInt ∧ (f (s + i)).toInt ≤ 57) → 0 ≤ v.toInt → v.toInt < (10 : Int) ^ e → e + d ≤ 4 → 0 ≤ (dgs f d s v).toInt ∧ (dgs f d s v).toInt < (10 : Int) ^ (e + d)
  | 0, s, e, v, _, h0, h2, _ => ⟨h0, h2⟩
  | d + 1, s, e, v, hf, h0, h2, hd => by
    have h := hf 0 (by omega)
    rw [Nat.add_zero] at h
    have c10 : (10 : Int32).toInt = 10 := rfl
    have c48 : (48 : Int32).toInt = 48 := rfl
    obtain ⟨p1, p2⟩ := p10b ⟨e, by omega⟩
    simp only at p1 p2
    have e1 : (10 * v).toInt = 10 * v.toInt := by rw [i_mul, c10] <;> rw [c10] <;> omega
    have e2 : (10 * v + f s).toInt = 10 * v.toInt + (f s).toInt := by rw [i_add, e1] <;> rw [e1] <;> omega
    have e3 : (10 * v + f s - 48).toInt = 10 * v.toInt + (f s).toInt - 48 := by rw [i_sub, e2, c48] <;> rw [e2, c48] <;> omega
    have := dgs_b f d (s + 1) (e + 1) (10 * v + f s - 48) (fun i hi => by rw [show s + 1 + i = s + (i + 1) by omega]; exact hf (i + 1) (by omega)) (by omega) (by omega) (by omega)
    rw [show e + (d + 1) = e + 1 + d by omega]
    exact this
theorem c_num (hn : 2000 ≤ n) {I : gI} {s q : Nat} (hq : q ≤ 900) (hs : s ≤ q) (h7 : I o 7 = Int32.ofNat s) (h8 : I o 8 = Int32.ofNat q) : F_X3_numberAtStart n T1 o I = some (dgs (fun i => I 1 i) (q - s) s 0) := by
  have key : ∀ (d c j : Nat) (v : Int32), c + d = q → d < j → L_X3_numberAtStart n T1 o I j 0 v (Int32.ofNat c) = some (dgs (fun i => I 1 i) d c v) := by
    intro d
    induction d with
    | zero =>
      intro c j v hc hj
      obtain ⟨j, rfl⟩ : ∃ i, j = i + 1 := ⟨j - 1, by omega⟩
      rw [L_X3_numberAtStart_e0, h8, if_pos (by rw [i_ole (by omega) (by omega)]; omega)]
      rfl
    | succ d ih =>
      intro c j v hc hj
      obtain ⟨j, rfl⟩ : ∃ i, j = i + 1 := ⟨j - 1, by omega⟩
      rw [L_X3_numberAtStart_e0, h8, if_neg (by rw [i_ole (by omega) (by omega)]; omega), gv_o (by omega), i_tno (by omega), ixp_1]
      exact ih (c + 1) j _ (by omega) (by omega)
  unfold F_X3_numberAtStart
  rw [h7]
  exact key (q - s) s n 0 (by omega) (by omega)
/-- letters, by the reference -/
theorem m_let (hB : BY E I K) {s : Nat} (h3 : K 153 3 = Int32.ofNat E) (h8 : K 153 8 = Int32.ofNat s) : ∀ (d c j : Nat), c + d = E → s ≤ c → d < j → L_X10_nextToken n j 1 (sI K 153 4 (Int32.ofNat c)) = some (sI (sI K 153 4 (Int32.ofNat (c + run (fun i => rng (I 1 i) 97 122) d c))) 153 7 (if c + run (fun i => rng (I 1 i) 97 122) d c - s ≤ 8 then 2 else 0)) := by
  have hE := hB.1
  have upd4 : ∀ c, BY E I (sI K 153 4 (Int32.ofNat c)) := fun c => ⟨hE, fun i hi => by rw [sI_o (by decide)]; exact hB.2 i hi⟩
  have s3 : ∀ c, sI K 153 4 (Int32.ofNat c) 153 3 = Int32.ofNat E := fun c => by rw [sI_k (by decide)]; exact h3
  have s8 : ∀ c, sI K 153 4 (Int32.ofNat c) 153 8 = Int32.ofNat s := fun c => by rw [sI_k (by decide)]; exact h8
  have ss : ∀ c c', sI (sI K 153 4 (Int32.ofNat c)) 153 4 (Int32.ofNat c') = sI K 153 4 (Int32.ofNat c') := fun c c' => by
    funext a i; simp only [sI_get]
    by_cases h : a = 153 ∧ i = 4
    · rw [if_pos h, if_pos h]
    · rw [if_neg h, if_neg h, if_neg h]
  have stop : ∀ (c j : Nat), c ≤ E → s ≤ c → (if (sI K 153 4 (Int32.ofNat c) 153 4 - sI K 153 4 (Int32.ofNat c) 153 8) ≤ (8 : Int32) then some (sI (sI K 153 4 (Int32.ofNat c)) 153 7 (2 : Int32)) else some (sI (sI K 153 4 (Int32.ofNat c)) 153 7 (0 : Int32))) = some (sI (sI K 153 4 (Int32.ofNat c)) 153 7 (if c - s ≤ 8 then 2 else 0)) := by
    intro c j hc hsc
    rw [sI_self, s8, i_osub (by omega) (by omega), show (8 : Int32) = Int32.ofNat 8 from rfl]
    by_cases h : c - s ≤ 8
    · rw [if_pos (by rw [i_ole (by omega) (by omega)]; exact h), if_pos h]
    · rw [if_neg (by rw [i_ole (by omega) (by omega)]; exact h), if_neg h]
  intro d
  induction d with
  | zero =>
    intro c j hc hsc hj
    obtain ⟨j, rfl⟩ : ∃ i, j = i + 1 := ⟨j - 1, by omega⟩
    have hi : rng (-1 : Int32) 97 122 = false := by decide
    rw [L_X10_nextToken_e1, sI_self, m_byteE (upd4 c) (s3 c) (by omega) (by omega), bd_s, x_in, bd_s, hi, if_pos (show b2 false = 0 from rfl)]
    have := stop c j (by omega) hsc
    rw [sI_self] at this
    exact this
  | succ d ih =>
    intro c j hc hsc hj
    obtain ⟨j, rfl⟩ : ∃ i, j = i + 1 := ⟨j - 1, by omega⟩
    rw [L_X10_nextToken_e1, sI_self, m_byte (upd4 c) (s3 c) (by omega), bd_s, x_in, bd_s, by_in (hB.2 c (by omega)).1 (by decide) (by decide), run_s]
    cases hr : rng (I 1 c) 97 122
    · rw [if_pos (show b2 false = 0 from rfl), if_neg (show ¬ (false = true) by decide), Nat.add_zero]
      have := stop c j (by omega) hsc
      rw [sI_self] at this
      exact this
    · rw [if_neg (show ¬ b2 true = 0 by decide), if_pos rfl, ixp_1, ss, ih (c + 1) j (by omega) (by omega) (by omega), show c + (run (fun i => rng (I 1 i) 97 122) d (c + 1) + 1) = c + 1 + run (fun i => rng (I 1 i) 97 122) d (c + 1) by omega]
/-- digits, by the reference: the first four make the value -/
theorem m_dig (hB : BY E I K) {s : Nat} (h3 : K 153 3 = Int32.ofNat E) (h8 : K 153 8 = Int32.ofNat s) : ∀ (d c j : Nat) (v : Int32), c + d = E → s ≤ c → d < j → L_X10_nextToken n j 2 (sI (sI K 153 9 v) 153 4 (Int32.ofNat c)) = some (sI (sI (sI K 153 9 (dgs (fun i => I 1 i) (min (run (fun i => rng (I 1 i) 48 57) d c) (4 - (c - s))) c v)) 153 4 (Int32.ofNat (c + run (fun i => rng (I 1 i) 48 57) d c))) 153 7 (if c + run (fun i => rng (I 1 i) 48 57) d c - s ≤ 4 then 3 else 0)) := by
  have hE := hB.1
  have upd4 : ∀ c v, BY E I (sI (sI K 153 9 v) 153 4 (Int32.ofNat c)) := fun c v => ⟨hE, fun i hi => by rw [sI_o (by decide), sI_o (by decide)]; exact hB.2 i hi⟩
  have s3 : ∀ c v, sI (sI K 153 9 v) 153 4 (Int32.ofNat c) 153 3 = Int32.ofNat E := fun c v => by rw [sI_k (by decide), sI_k (by decide)]; exact h3
  have s8 : ∀ c v, sI (sI K 153 9 v) 153 4 (Int32.ofNat c) 153 8 = Int32.ofNat s := fun c v => by rw [sI_k (by decide), sI_k (by decide)]; exact h8
  have s9 : ∀ c v, sI (sI K 153 9 v) 153 4 (Int32.ofNat c) 153 9 = v := fun c v => by rw [sI_k (by decide), sI_self]
  have ss : ∀ c c' v v', sI (sI (sI (sI K 153 9 v) 153 4 (Int32.ofNat c)) 153 9 v') 153 4 (Int32.ofNat c') = sI (sI K 153 9 v') 153 4 (Int32.ofNat c') := fun c c' v v' => by
    funext a i; simp only [sI_get]
    by_cases h : a = 153 ∧ i = 4
    · rw [if_pos h, if_pos h]
    · rw [if_neg h, if_neg h, if_neg h]
      by_cases h2 : a = 153 ∧ i = 9
      · rw [if_pos h2, if_pos h2]
      · rw [if_neg h2, if_neg h2, if_neg h2]
  have ss2 : ∀ c c' v, sI (sI (sI K 153 9 v) 153 4 (Int32.ofNat c)) 153 4 (Int32.ofNat c') = sI (sI K 153 9 v) 153 4 (Int32.ofNat c') := fun c c' v => by
    funext a i; simp only [sI_get]
    by_cases h : a = 153 ∧ i = 4
    · rw [if_pos h, if_pos h]
    · rw [if_neg h, if_neg h, if_neg h]
  have stop : ∀ (c : Nat) (v : Int32), c ≤ E → s ≤ c → (if (Int32.ofNat c - sI (sI K 153 9 v) 153 4 (Int32.ofNat c) 153 8) ≤ (4 : Int32) then some (sI (sI (sI K 153 9 v) 153 4 (Int32.ofNat c)) 153 7 (3 : Int32)) else some (sI (sI (sI K 153 9 v) 153 4 (Int32.ofNat c)) 153 7 (0 : Int32))) = some (sI (sI (sI K 153 9 v) 153 4 (Int32.ofNat c)) 153 7 (if c - s ≤ 4 then 3 else 0)) := by
    intro c v hc hsc
    rw [s8, i_osub (by omega) (by omega), show (4 : Int32) = Int32.ofNat 4 from rfl]
    by_cases h : c - s ≤ 4
    · rw [if_pos (by rw [i_ole (by omega) (by omega)]; exact h), if_pos h]
    · rw [if_neg (by rw [i_ole (by omega) (by omega)]; exact h), if_neg h]
  intro d
  induction d with
  | zero =>
    intro c j v hc hsc hj
    obtain ⟨j, rfl⟩ : ∃ i, j = i + 1 := ⟨j - 1, by omega⟩
    have hi : rng (-1 : Int32) 48 57 = false := by decide
    rw [L_X10_nextToken_e2, sI_self, m_byteE (upd4 c v) (s3 c v) (by omega) (by omega), bd_s, x_in, bd_s, hi, if_pos (show b2 false = 0 from rfl), stop c v (by omega) hsc]
    show _ = some (sI (sI (sI K 153 9 (dgs (fun i => I 1 i) (min 0 (4 - (c - s))) c v)) 153 4 (Int32.ofNat (c + 0))) 153 7 (if c + 0 - s ≤ 4 then 3 else 0))
    rw [Nat.zero_min]
    rfl
  | succ d ih =>
    intro c j v hc hsc hj
    obtain ⟨j, rfl⟩ : ∃ i, j = i + 1 := ⟨j - 1, by omega⟩
    have hb := (hB.2 c (by omega)).1
    rw [L_X10_nextToken_e2, sI_self, m_byte (upd4 c v) (s3 c v) (by omega), bd_s, x_in, bd_s, by_in hb (by decide) (by decide), run_s]
    cases hr : rng (I 1 c) 48 57
    · rw [if_pos (show b2 false = 0 from rfl), if_neg (show ¬ (false = true) by decide), Nat.add_zero, stop c v (by omega) hsc, Nat.zero_min]
      rfl
    · have hrt := rng_t.mp hr
      have k48 : (48 : Int32).toInt = 48 := rfl
      have hbi : I 1 c &&& 255 = I 1 c := by
        rw [i_eq, by_i hb, if_neg (by omega)]
      rw [if_neg (show ¬ b2 true = 0 by decide), if_pos rfl, bd_s, s8, s9, i_osub (by omega) (by omega), show (4 : Int32) = Int32.ofNat 4 from rfl]
      have er : c + (run (fun i => rng (I 1 i) 48 57) d (c + 1) + 1) = c + 1 + run (fun i => rng (I 1 i) 48 57) d (c + 1) := by omega
      by_cases h4 : 4 ≤ c - s
      · rw [if_pos (by rw [i_ole (by omega) (by omega)]; exact h4), ixp_1, ss2, ih (c + 1) j v (by omega) (by omega) (by omega), er, show 4 - (c + 1 - s) = 0 by omega, show 4 - (c - s) = 0 by omega, Nat.min_zero, Nat.min_zero]
        rfl
      · rw [if_neg (by rw [i_ole (by omega) (by omega)]; exact h4), hbi]
        have t4 : ∀ w, sI (sI (sI K 153 9 v) 153 4 (Int32.ofNat c)) 153 9 w 153 4 = Int32.ofNat c := fun w => by rw [sI_k (by decide), sI_self]
        rw [t4, ixp_1, ss, ih (c + 1) j _ (by omega) (by omega) (by omega), er]
        have em : min (run (fun i => rng (I 1 i) 48 57) d (c + 1) + 1) (4 - (c - s)) = min (run (fun i => rng (I 1 i) 48 57) d (c + 1)) (4 - (c + 1 - s)) + 1 := by omega
        rw [em]
        rfl
theorem sI_cm {I : gI} {o k k' : Nat} {v v' : Int32} (h : k ≠ k') : sI (sI I o k v) o k' v' = sI (sI I o k' v') o k v := by
  funext a i
  simp only [sI_get]
  by_cases h1 : a = o ∧ i = k
  · have h2 : ¬ (a = o ∧ i = k') := by omega
    simp only [if_pos h1, if_neg h2]
  · simp only [if_neg h1]
/-- before a token is read -/
def NX (E q : Nat) (I K : gI) (o : Nat) : Prop := 172 ≤ o ∧ BY E I K ∧ I o 3 = Int32.ofNat E ∧ K 153 3 = Int32.ofNat E ∧ I o 0 = 0 ∧ K 153 5 = 0 ∧ I o 1 = K 153 6 ∧ I o 8 = Int32.ofNat q ∧ K 153 4 = Int32.ofNat q ∧ q ≤ E
theorem sgn_s (n : Nat) {b : Int32} (h : -128 ≤ b.toInt ∧ b.toInt ≤ 127) : ∃ t : Bool, F_X10_isSign n (b &&& 255) = some (b2 t) ∧ (b = 45 → t = true) ∧ (b = 59 → t = true) := by
  unfold F_X10_isSign
  by_cases h1 : b &&& 255 = 59
  · rw [if_pos h1]; exact ⟨true, rfl, fun _ => rfl, fun _ => rfl⟩
  · have n1 : b ≠ 59 := fun q => h1 ((by_eq h (by decide)).mpr q)
    rw [if_neg h1]
    by_cases h2 : b &&& 255 = 40
    · rw [if_pos h2]; exact ⟨true, rfl, fun _ => rfl, fun _ => rfl⟩
    rw [if_neg h2]
    by_cases h3 : b &&& 255 = 41
    · rw [if_pos h3]; exact ⟨true, rfl, fun _ => rfl, fun _ => rfl⟩
    rw [if_neg h3]
    by_cases h4 : b &&& 255 = 43
    · rw [if_pos h4]; exact ⟨true, rfl, fun _ => rfl, fun _ => rfl⟩
    rw [if_neg h4]
    by_cases h5 : b &&& 255 = 45
    · rw [if_pos h5]; exact ⟨true, rfl, fun _ => rfl, fun _ => rfl⟩
    have n5 : b ≠ 45 := fun q => h5 ((by_eq h (by decide)).mpr q)
    rw [if_neg h5]
    by_cases h6 : b &&& 255 = 42
    · rw [if_pos h6]; exact ⟨true, rfl, fun _ => rfl, fun _ => rfl⟩
    rw [if_neg h6]
    by_cases h7 : b &&& 255 = 47
    · rw [if_pos h7]; exact ⟨true, rfl, fun _ => rfl, fun _ => rfl⟩
    rw [if_neg h7]
    exact ⟨false, rfl, fun q => absurd q n5, fun q => absurd q n1⟩
theorem nx (hn : 2000 ≤ n) {q : Nat} (P : NX E q I K o) : ∃ I' K' q', F_X3_nextToken n T1 o I = some I' ∧ F_X10_nextToken n K = some K' ∧ PS E q' I' K' o ∧ FR I K I' K' o ∧ I' o 0 = 0 ∧ q ≤ q' ∧ (I' o 6 ≠ 0 → q < q') := by
  obtain ⟨ho, B, h3, k3, h0, k5, h1, h8, k4, hqE⟩ := P
  have hE := B.1
  have key : ∀ (d c j j' : Nat), c + d = E → d < j → d < j' → ∃ I' K' s' q', L_X3_nextToken n T1 o j 0 (sI I o 7 (Int32.ofNat c)) = some I' ∧ L_X10_nextToken n (j' + 1000) 0 (sI K 153 4 (Int32.ofNat c)) = some K' ∧ TK E s' q' I' K' o ∧ FR I K I' K' o ∧ I' o 0 = 0 ∧ K' 153 5 = 0 ∧ I' o 1 = K' 153 6 ∧ c ≤ q' ∧ (I' o 6 ≠ 0 → c < q') := by
    intro d
    induction d with
    | zero =>
      intro c j j' hc hj hj'
      obtain ⟨j, rfl⟩ : ∃ i, j = i + 1 := ⟨j - 1, by omega⟩
      obtain rfl : c = E := by omega
      have B1 : BY c (sI I o 7 (Int32.ofNat c)) (sI K 153 4 (Int32.ofNat c)) := ⟨hE, fun i hi => by rw [sI_o (by omega), sI_o (by decide)]; exact B.2 i hi⟩
      have g3 : sI I o 7 (Int32.ofNat c) o 3 = Int32.ofNat c := by rw [sI_k (by decide)]; exact h3
      have g7 : sI I o 7 (Int32.ofNat c) o 7 = Int32.ofNat c := sI_self _ _ _ _
      have m3 : sI K 153 4 (Int32.ofNat c) 153 3 = Int32.ofNat c := by rw [sI_k (by decide)]; exact k3
      have m4 : sI K 153 4 (Int32.ofNat c) 153 4 = Int32.ofNat c := sI_self _ _ _ _
      refine ⟨sI (sI (sI I o 7 (Int32.ofNat c)) o 6 0) o 8 (Int32.ofNat c), sI (sI (sI K 153 4 (Int32.ofNat c)) 153 8 (Int32.ofNat c)) 153 7 1, c, c, ?_, ?_, ⟨Nat.le_refl _, Nat.le_refl _, ?_, ?_, ?_, ?_, Or.inl ⟨?_, ?_⟩⟩, ⟨fun a i h => ?_, fun a i h => ?_⟩, ?_, ?_, ?_, Nat.le_refl _, fun h => ?_⟩
      · rw [L_X3_nextToken_e0, g3, g7, if_pos (by rw [i_ole (by omega) (by omega)]; omega), c_run hn B1 g3 (Nat.le_refl _) g7, bd_s, c_run hn B1 g3 (Nat.le_refl _) g7, bd_s, if_neg (by rw [i_olt (by omega) (by omega)]; omega), sI_k (I := sI I o 7 (Int32.ofNat c)) (by decide), g3]
      · rw [L_X10_nextToken_e0, m4, m_byteE B1 m3 (Nat.le_refl _) (by omega), bd_s, if_neg (by decide), sI_k (I := sI K 153 4 (Int32.ofNat c)) (by decide), m4, sI_k (I := sI K 153 4 (Int32.ofNat c)) (by decide), m3, if_pos rfl]
      · rw [sI_k (by decide), sI_k (by decide), sI_self]
      · rw [sI_k (by decide), sI_self]
      · rw [sI_self]
      · rw [sI_k (by decide), sI_k (by decide), sI_self]
      · rw [sI_k (by decide), sI_self]
      · rw [sI_self]
      · simp only [sI_get]; rw [if_neg (by omega), if_neg (by omega), if_neg (by omega)]
      · simp only [sI_get]; rw [if_neg (by omega), if_neg (by omega), if_neg (by omega)]
      · rw [sI_k (by decide), sI_k (by decide), sI_k (by decide)]; exact h0
      · rw [sI_k (by decide), sI_k (by decide), sI_k (by decide)]; exact k5
      · rw [sI_k (by decide), sI_k (by decide), sI_k (by decide), sI_k (o := 153) (by decide), sI_k (o := 153) (by decide), sI_k (o := 153) (by decide)]; exact h1
      · exact absurd (by rw [sI_k (by decide), sI_self]) h
    | succ d ih =>
      intro c j j' hc hj hj'
      obtain ⟨j, rfl⟩ : ∃ i, j = i + 1 := ⟨j - 1, by omega⟩
      obtain ⟨j', rfl⟩ : ∃ i, j' = i + 1 := ⟨j' - 1, by omega⟩
      have hb := (B.2 c (by omega)).1
      have B1 : BY E (sI I o 7 (Int32.ofNat c)) (sI K 153 4 (Int32.ofNat c)) := ⟨hE, fun i hi => by rw [sI_o (by omega), sI_o (by decide)]; exact B.2 i hi⟩
      have g3 : sI I o 7 (Int32.ofNat c) o 3 = Int32.ofNat E := by rw [sI_k (by decide)]; exact h3
      have g7 : sI I o 7 (Int32.ofNat c) o 7 = Int32.ofNat c := sI_self _ _ _ _
      have g1 : ∀ i, sI I o 7 (Int32.ofNat c) 1 i = I 1 i := fun i => sI_o (by omega)
      have m3 : sI K 153 4 (Int32.ofNat c) 153 3 = Int32.ofNat E := by rw [sI_k (by decide)]; exact k3
      have m4 : sI K 153 4 (Int32.ofNat c) 153 4 = Int32.ofNat c := sI_self _ _ _ _
      have hna : ¬ (Int32.ofNat E ≤ Int32.ofNat c) := by rw [i_ole (by omega) (by omega)]; omega
      have hlt : Int32.ofNat c < Int32.ofNat E := by rw [i_olt (by omega) (by omega)]; omega
      by_cases h32 : I 1 c = 32
      · -- a space
        obtain ⟨I', K', s', q', e9, e10, r⟩ := ih (c + 1) j j' (by omega) (by omega) (by omega)
        refine ⟨I', K', s', q', ?_, ?_, r.1, r.2.1, r.2.2.1, r.2.2.2.1, r.2.2.2.2.1, by omega, fun h => by have := r.2.2.2.2.2.2 h; omega⟩
        · have es : sI (sI I o 7 (Int32.ofNat c)) o 7 (Int32.ofNat (c + 1)) = sI I o 7 (Int32.ofNat (c + 1)) := by
            funext a i; simp only [sI_get]
            by_cases h : a = o ∧ i = 7
            · rw [if_pos h, if_pos h]
            · rw [if_neg h, if_neg h, if_neg h]
          rw [L_X3_nextToken_e0, g3, g7, if_neg hna, gv_o (by omega), i_tno (by omega), g1, if_pos h32, ixp_1, es]
          exact e9
        · have es : sI (sI K 153 4 (Int32.ofNat c)) 153 4 (Int32.ofNat (c + 1)) = sI K 153 4 (Int32.ofNat (c + 1)) := by
            funext a i; simp only [sI_get]
            by_cases h : a = 153 ∧ i = 4
            · rw [if_pos h, if_pos h]
            · rw [if_neg h, if_neg h, if_neg h]
          rw [show j' + 1 + 1000 = (j' + 1000) + 1 by omega, L_X10_nextToken_e0, m4, m_byte B1 m3 (by omega), g1, bd_s, if_pos ((by_eq hb (by decide)).mpr h32), ixp_1, es]
          exact e10
      · -- a token begins
        have n32 : ¬ (I 1 c &&& 255 = 32) := fun z => h32 ((by_eq hb (by decide)).mp z)
        have cL := c_run (T1 := T1) hn B1 g3 (by omega : c ≤ E) g7 97 122
        have cD := c_run (T1 := T1) hn B1 g3 (by omega : c ≤ E) g7 48 57
        have eL : (fun i => rng (sI I o 7 (Int32.ofNat c) 1 i) 97 122) = (fun i => rng (I 1 i) 97 122) := by funext i; rw [g1]
        have eD : (fun i => rng (sI I o 7 (Int32.ofNat c) 1 i) 48 57) = (fun i => rng (I 1 i) 48 57) := by funext i; rw [g1]
        rw [eL, show E - c = d + 1 by omega] at cL
        rw [eD, show E - c = d + 1 by omega] at cD
        have bL := run_le (fun i => rng (I 1 i) 97 122) (d + 1) c
        have bD := run_le (fun i => rng (I 1 i) 48 57) (d + 1) c
        have C9 : L_X3_nextToken n T1 o (j + 1) 0 (sI I o 7 (Int32.ofNat c)) = (if Int32.ofNat (run (fun i => rng (I 1 i) 97 122) (d + 1) c) ≤ 0 then (if Int32.ofNat (run (fun i => rng (I 1 i) 48 57) (d + 1) c) ≤ 0 then bd (F_X3_kindOfSign n T1 (I 1 c)) (fun v181 => some (sI (sI (sI I o 7 (Int32.ofNat c)) o 6 v181) o 8 (Int32.ofNat (c + 1)))) else (if Int32.ofNat (run (fun i => rng (I 1 i) 48 57) (d + 1) c) ≤ (4 : Int32) then bd (F_X3_numberAtStart n T1 o (sI (sI (sI I o 7 (Int32.ofNat c)) o 6 (2 : Int32)) o 8 (Int32.ofNat (c + run (fun i => rng (I 1 i) 48 57) (d + 1) c)))) (fun v162 => some (sI (sI (sI (sI I o 7 (Int32.ofNat c)) o 6 (2 : Int32)) o 8 (Int32.ofNat (c + run (fun i => rng (I 1 i) 48 57) (d + 1) c))) o 9 v162)) else some (sI (sI (sI (sI I o 7 (Int32.ofNat c)) o 6 (5 : Int32)) o 8 (Int32.ofNat (c + run (fun i => rng (I 1 i) 48 57) (d + 1) c))) o 9 (-1 : Int32)))) else (if Int32.ofNat (run (fun i => rng (I 1 i) 97 122) (d + 1) c) ≤ (8 : Int32) then some (sI (sI (sI I o 7 (Int32.ofNat c)) o 6 (1 : Int32)) o 8 (Int32.ofNat (c + run (fun i => rng (I 1 i) 97 122) (d + 1) c))) else some (sI (sI (sI I o 7 (Int32.ofNat c)) o 6 (5 : Int32)) o 8 (Int32.ofNat (c + run (fun i => rng (I 1 i) 97 122) (d + 1) c))))) := by
          have t7 : ∀ v, sI (sI I o 7 (Int32.ofNat c)) o 6 v o 7 = Int32.ofNat c := fun v => by rw [sI_k (by decide)]; exact g7
          rw [L_X3_nextToken_e0, g3, g7, if_neg hna, gv_o (by omega), i_tno (by omega), g1, if_neg h32, cL, bd_s, cD, bd_s, if_pos hlt, gv_o (by omega)]
          simp only [t7, i_oadd, ixp_1]
          by_cases z1 : Int32.ofNat (run (fun i => rng (I 1 i) 97 122) (d + 1) c) ≤ 0
          · rw [if_pos z1, if_pos z1]
            by_cases z2 : Int32.ofNat (run (fun i => rng (I 1 i) 48 57) (d + 1) c) ≤ 0
            · rw [if_pos z2, if_pos z2]
            · rw [if_neg z2, if_neg z2]
              by_cases z3 : Int32.ofNat (run (fun i => rng (I 1 i) 48 57) (d + 1) c) ≤ (4 : Int32)
              · rw [if_pos z3, if_pos z3, if_pos z3]
              · rw [if_neg z3, if_neg z3, if_neg z3]
          · rw [if_neg z1, if_neg z1]
        have t4 : sI (sI K 153 4 (Int32.ofNat c)) 153 8 (Int32.ofNat c) 153 4 = Int32.ofNat c := by rw [sI_k (by decide)]; exact m4
        have t3 : sI (sI K 153 4 (Int32.ofNat c)) 153 8 (Int32.ofNat c) 153 3 = Int32.ofNat E := by rw [sI_k (by decide)]; exact m3
        have B2 : BY E (sI I o 7 (Int32.ofNat c)) (sI (sI K 153 4 (Int32.ofNat c)) 153 8 (Int32.ofNat c)) := ⟨hE, fun i hi => by rw [sI_o (o := 153) (by decide)]; exact B1.2 i hi⟩
        have hne : ¬ (Int32.ofNat c = Int32.ofNat E) := by rw [i_oeq (by omega) (by omega)]; omega
        have B8 : BY E I (sI K 153 8 (Int32.ofNat c)) := ⟨hE, fun i hi => by rw [sI_o (by decide)]; exact B.2 i hi⟩
        have k83 : sI K 153 8 (Int32.ofNat c) 153 3 = Int32.ofNat E := by rw [sI_k (by decide)]; exact k3
        have k88 : sI K 153 8 (Int32.ofNat c) 153 8 = Int32.ofNat c := sI_self _ _ _ _
        have com : sI (sI K 153 4 (Int32.ofNat c)) 153 8 (Int32.ofNat c) = sI (sI K 153 8 (Int32.ofNat c)) 153 4 (Int32.ofNat c) := sI_cm (by decide)
        have com9 : sI (sI (sI K 153 4 (Int32.ofNat c)) 153 8 (Int32.ofNat c)) 153 9 0 = sI (sI (sI K 153 8 (Int32.ofNat c)) 153 9 0) 153 4 (Int32.ofNat c) := by
          rw [com]; exact sI_cm (by decide)
        rw [C9, show j' + 1 + 1000 = (j' + 1000) + 1 by omega, L_X10_nextToken_e0, m4, m_byte B1 m3 (by omega), g1, bd_s, if_neg n32, t4, t3, if_neg hne, m_byte B2 t3 (by omega), g1, bd_s, x_in, bd_s, by_in hb (by decide) (by decide)]
        cases hL : rng (I 1 c) 97 122
        · -- no letter
          have r0 : run (fun i => rng (I 1 i) 97 122) (d + 1) c = 0 := by rw [run_s, hL]; rfl
          rw [if_pos (show b2 false = 0 from rfl), bd_s, x_in, bd_s, by_in hb (by decide) (by decide), r0, if_pos (show Int32.ofNat 0 ≤ 0 by decide)]
          cases hD : rng (I 1 c) 48 57
          · -- a sign
            have d0 : run (fun i => rng (I 1 i) 48 57) (d + 1) c = 0 := by rw [run_s, hD]; rfl
            obtain ⟨sg, es, s45, s59⟩ := sgn_s n hb
            rw [if_pos (show b2 false = 0 from rfl), d0, if_pos (show Int32.ofNat 0 ≤ 0 by decide), bd_s, sI_self (sI (sI K 153 4 (Int32.ofNat c)) 153 8 (Int32.ofNat c)) 153 9, es, bd_s]
            have MM : (if b2 sg = 0 then some (sI (sI (sI (sI (sI K 153 4 (Int32.ofNat c)) 153 8 (Int32.ofNat c)) 153 9 (I 1 c &&& 255)) 153 7 (0 : Int32)) 153 4 (sI (sI (sI (sI K 153 4 (Int32.ofNat c)) 153 8 (Int32.ofNat c)) 153 9 (I 1 c &&& 255)) 153 7 (0 : Int32) 153 4 + (1 : Int32))) else some (sI (sI (sI (sI (sI K 153 4 (Int32.ofNat c)) 153 8 (Int32.ofNat c)) 153 9 (I 1 c &&& 255)) 153 7 (4 : Int32)) 153 4 (sI (sI (sI (sI K 153 4 (Int32.ofNat c)) 153 8 (Int32.ofNat c)) 153 9 (I 1 c &&& 255)) 153 7 (4 : Int32) 153 4 + (1 : Int32)))) = some (sI (sI (sI (sI (sI K 153 4 (Int32.ofNat c)) 153 8 (Int32.ofNat c)) 153 9 (I 1 c &&& 255)) 153 7 (if sg then 4 else 0)) 153 4 (Int32.ofNat (c + 1))) := by
              have u : ∀ v, sI (sI (sI (sI K 153 4 (Int32.ofNat c)) 153 8 (Int32.ofNat c)) 153 9 (I 1 c &&& 255)) 153 7 v 153 4 = Int32.ofNat c := fun v => by rw [sI_k (by decide), sI_k (by decide)]; exact t4
              rw [u, u, ixp_1]
              cases sg <;> rfl
            rw [MM]
            obtain ⟨kd, hk, hkk⟩ : ∃ kd, F_X3_kindOfSign n T1 (I 1 c) = some kd ∧ ((kd = 3 ∧ I 1 c = 45) ∨ (kd = 4 ∧ I 1 c = 59) ∨ (kd = 5 ∧ I 1 c ≠ 45 ∧ I 1 c ≠ 59)) := by
              unfold F_X3_kindOfSign
              by_cases z1 : I 1 c = 45
              · rw [if_pos z1]; exact ⟨3, rfl, Or.inl ⟨rfl, z1⟩⟩
              · rw [if_neg z1]
                by_cases z2 : I 1 c = 59
                · rw [if_pos z2]; exact ⟨4, rfl, Or.inr (Or.inl ⟨rfl, z2⟩)⟩
                · rw [if_neg z2]; exact ⟨5, rfl, Or.inr (Or.inr ⟨rfl, z1, z2⟩)⟩
            rw [hk, bd_s]
            refine ⟨_, _, c, c + 1, rfl, rfl, ⟨by omega, by omega, ?_, ?_, ?_, ?_, ?_⟩, ⟨fun a i h => ?_, fun a i h => ?_⟩, ?_, ?_, ?_, by omega, fun h => by omega⟩
            · rw [sI_k (by decide), sI_k (by decide), sI_self]
            · rw [sI_k (by decide), sI_k (by decide), sI_k (by decide), sI_self]
            · rw [sI_self]
            · rw [sI_self]
            · have e6 : sI (sI (sI I o 7 (Int32.ofNat c)) o 6 kd) o 8 (Int32.ofNat (c + 1)) o 6 = kd := by rw [sI_k (by decide), sI_self]
              have e7 : sI (sI (sI (sI (sI K 153 4 (Int32.ofNat c)) 153 8 (Int32.ofNat c)) 153 9 (I 1 c &&& 255)) 153 7 (if sg then 4 else 0)) 153 4 (Int32.ofNat (c + 1)) 153 7 = (if sg then 4 else 0) := by rw [sI_k (by decide), sI_self]
              have e9 : sI (sI (sI (sI (sI K 153 4 (Int32.ofNat c)) 153 8 (Int32.ofNat c)) 153 9 (I 1 c &&& 255)) 153 7 (if sg then 4 else 0)) 153 4 (Int32.ofNat (c + 1)) 153 9 = I 1 c &&& 255 := by rw [sI_k (by decide), sI_k (by decide), sI_self]
              unfold TKk
              rw [e6, e7, e9]
              rcases hkk with ⟨z1, z2⟩ | ⟨z1, z2⟩ | ⟨z1, z2, z3⟩
              · rw [z1, z2, s45 z2]; right; right; right; left; exact ⟨rfl, rfl, by decide⟩
              · rw [z1, z2, s59 z2]; right; right; right; right; left; exact ⟨rfl, rfl, by decide⟩
              · rw [z1]; right; right; right; right; right
                refine ⟨rfl, ?_⟩
                cases sg
                · left; rfl
                · right; exact ⟨rfl, fun z => z2 ((by_eq hb (by decide)).mp z), fun z => z3 ((by_eq hb (by decide)).mp z)⟩
            · simp only [sI_get]; rw [if_neg (by omega), if_neg (by omega), if_neg (by omega)]
            · simp only [sI_get]; rw [if_neg (by omega), if_neg (by omega), if_neg (by omega), if_neg (by omega), if_neg (by omega)]
            · rw [sI_k (by decide), sI_k (by decide), sI_k (by decide)]; exact h0
            · rw [sI_k (by decide), sI_k (by decide), sI_k (by decide), sI_k (by decide), sI_k (by decide)]; exact k5
            · rw [sI_k (o := o) (by decide), sI_k (o := o) (by decide), sI_k (o := o) (by decide), sI_k (o := 153) (by decide), sI_k (o := 153) (by decide), sI_k (o := 153) (by decide), sI_k (o := 153) (by decide), sI_k (o := 153) (by decide)]; exact h1
          · -- a number
            have dp : 1 ≤ run (fun i => rng (I 1 i) 48 57) (d + 1) c := by rw [run_s, hD, if_pos rfl]; omega
            have hin := run_in (fun i => rng (I 1 i) 48 57) (d + 1) c
            obtain ⟨r, hr⟩ : ∃ r, r = run (fun i => rng (I 1 i) 48 57) (d + 1) c := ⟨_, rfl⟩
            have md := m_dig (n := n) B8 k83 k88 (d + 1) c (j' + 1000) 0 (by omega) (Nat.le_refl _) (by omega)
            rw [← hr] at dp bD hin md ⊢
            rw [if_neg (show ¬ b2 true = 0 by decide), com9, md, if_neg (show ¬ (Int32.ofNat r ≤ 0) by rw [i_le, i_of (by omega), ii_0]; omega)]
            have ex9 : min r (4 - (c - c)) = min r 4 := by rw [Nat.sub_self]
            have ecr : c + r - c = r := by omega
            rw [ex9, ecr]
            by_cases h4 : r ≤ 4
            · have hnum := c_num (T1 := T1) (o := o) hn (I := sI (sI (sI I o 7 (Int32.ofNat c)) o 6 (2 : Int32)) o 8 (Int32.ofNat (c + r))) (s := c) (q := c + r) (by omega) (by omega) (by rw [sI_k (by decide), sI_k (by decide), sI_self]) (sI_self _ _ _ _)
              have ef : (fun i => sI (sI (sI I o 7 (Int32.ofNat c)) o 6 (2 : Int32)) o 8 (Int32.ofNat (c + r)) 1 i) = (fun i => I 1 i) := by funext i; rw [sI_o (by omega), sI_o (by omega), sI_o (by omega)]
              rw [ef, ecr] at hnum
              have hb4 := dgs_b (fun i => I 1 i) r c 0 0 (fun i hi => by
                have := rng_t.mp (hin i hi)
                have k48 : (48 : Int32).toInt = 48 := rfl
                have k57 : (57 : Int32).toInt = 57 := rfl
                omega) (by decide) (by decide) (by omega)
              have p4 : ∀ r : Fin 5, (10 : Int) ^ (0 + r.1) ≤ 10000 := by decide
              have p4 := p4 ⟨r, by omega⟩
              simp only at p4
              rw [if_pos (show Int32.ofNat r ≤ (4 : Int32) by rw [show (4 : Int32) = Int32.ofNat 4 from rfl, i_ole (by omega) (by omega)]; exact h4), hnum, bd_s, if_pos h4, show min r 4 = r by omega]
              refine ⟨_, _, c, c + r, rfl, rfl, ⟨by omega, by omega, ?_, ?_, ?_, ?_, ?_⟩, ⟨fun a i h => ?_, fun a i h => ?_⟩, ?_, ?_, ?_, by omega, fun h => by omega⟩
              · rw [sI_k (by decide), sI_k (by decide), sI_k (by decide), sI_self]
              · rw [sI_k (by decide), sI_k (by decide), sI_k (by decide), sI_self]
              · rw [sI_k (by decide), sI_self]
              · rw [sI_k (by decide), sI_self]
              · right; right; left
                refine ⟨?_, ?_, ?_, ?_, ?_⟩
                · rw [sI_k (by decide), sI_k (by decide), sI_self]
                · rw [sI_self]
                · rw [sI_self, sI_k (by decide), sI_k (by decide), sI_self]
                · rw [sI_self]; exact hb4.1
                · rw [sI_self]; omega
              · simp only [sI_get]; rw [if_neg (by omega), if_neg (by omega), if_neg (by omega), if_neg (by omega)]
              · simp only [sI_get]; rw [if_neg (by omega), if_neg (by omega), if_neg (by omega), if_neg (by omega)]
              · rw [sI_k (by decide), sI_k (by decide), sI_k (by decide), sI_k (by decide)]; exact h0
              · rw [sI_k (by decide), sI_k (by decide), sI_k (by decide), sI_k (by decide)]; exact k5
              · rw [sI_k (o := o) (by decide), sI_k (o := o) (by decide), sI_k (o := o) (by decide), sI_k (o := o) (by decide), sI_k (o := 153) (by decide), sI_k (o := 153) (by decide), sI_k (o := 153) (by decide), sI_k (o := 153) (by decide)]; exact h1
            · rw [if_neg (show ¬ (Int32.ofNat r ≤ (4 : Int32)) by rw [show (4 : Int32) = Int32.ofNat 4 from rfl, i_ole (by omega) (by omega)]; exact h4), if_neg h4]
              refine ⟨_, _, c, c + r, rfl, rfl, ⟨by omega, by omega, ?_, ?_, ?_, ?_, ?_⟩, ⟨fun a i h => ?_, fun a i h => ?_⟩, ?_, ?_, ?_, by omega, fun h => by omega⟩
              · rw [sI_k (by decide), sI_k (by decide), sI_k (by decide), sI_self]
              · rw [sI_k (by decide), sI_k (by decide), sI_k (by decide), sI_self]
              · rw [sI_k (by decide), sI_self]
              · rw [sI_k (by decide), sI_self]
              · right; right; right; right; right
                refine ⟨?_, Or.inl ?_⟩
                · rw [sI_k (by decide), sI_k (by decide), sI_self]
                · rw [sI_self]
              · simp only [sI_get]; rw [if_neg (by omega), if_neg (by omega), if_neg (by omega), if_neg (by omega)]
              · simp only [sI_get]; rw [if_neg (by omega), if_neg (by omega), if_neg (by omega), if_neg (by omega)]
              · rw [sI_k (by decide), sI_k (by decide), sI_k (by decide), sI_k (by decide)]; exact h0
              · rw [sI_k (by decide), sI_k (by decide), sI_k (by decide), sI_k (by decide)]; exact k5
              · rw [sI_k (o := o) (by decide), sI_k (o := o) (by decide), sI_k (o := o) (by decide), sI_k (o := o) (by decide), sI_k (o := 153) (by decide), sI_k (o := 153) (by decide), sI_k (o := 153) (by decide), sI_k (o := 153) (by decide)]; exact h1
        · -- a word
          have dp : 1 ≤ run (fun i => rng (I 1 i) 97 122) (d + 1) c := by rw [run_s, hL, if_pos rfl]; omega
          have ml := m_let (n := n) B8 k83 k88 (d + 1) c (j' + 1000) (by omega) (Nat.le_refl _) (by omega)
          obtain ⟨r, hr⟩ : ∃ r, r = run (fun i => rng (I 1 i) 97 122) (d + 1) c := ⟨_, rfl⟩
          rw [← hr] at dp bL ml ⊢
          have ecr : c + r - c = r := by omega
          rw [if_neg (show ¬ b2 true = 0 by decide), com, ml, if_neg (show ¬ (Int32.ofNat r ≤ 0) by rw [i_le, i_of (by omega), ii_0]; omega), ecr]
          have sel : (if Int32.ofNat r ≤ (8 : Int32) then some (sI (sI (sI I o 7 (Int32.ofNat c)) o 6 (1 : Int32)) o 8 (Int32.ofNat (c + r))) else some (sI (sI (sI I o 7 (Int32.ofNat c)) o 6 (5 : Int32)) o 8 (Int32.ofNat (c + r)))) = some (sI (sI (sI I o 7 (Int32.ofNat c)) o 6 (if r ≤ 8 then 1 else 5)) o 8 (Int32.ofNat (c + r))) := by
            by_cases h8' : r ≤ 8
            · rw [if_pos (show Int32.ofNat r ≤ (8 : Int32) by rw [show (8 : Int32) = Int32.ofNat 8 from rfl, i_ole (by omega) (by omega)]; exact h8'), if_pos h8']
            · rw [if_neg (show ¬ (Int32.ofNat r ≤ (8 : Int32)) by rw [show (8 : Int32) = Int32.ofNat 8 from rfl, i_ole (by omega) (by omega)]; exact h8'), if_neg h8']
          rw [sel]
          refine ⟨_, _, c, c + r, rfl, rfl, ⟨by omega, by omega, ?_, ?_, ?_, ?_, ?_⟩, ⟨fun a i h => ?_, fun a i h => ?_⟩, ?_, ?_, ?_, by omega, fun h => by omega⟩
          · rw [sI_k (by decide), sI_k (by decide), sI_self]
          · rw [sI_k (by decide), sI_k (by decide), sI_self]
          · rw [sI_self]
          · rw [sI_k (by decide), sI_self]
          · by_cases h8' : r ≤ 8
            · right; left
              refine ⟨?_, ?_⟩
              · rw [sI_k (by decide), sI_self, if_pos h8']
              · rw [sI_self, if_pos h8']
            · right; right; right; right; right
              refine ⟨?_, Or.inl ?_⟩
              · rw [sI_k (by decide), sI_self, if_neg h8']
              · rw [sI_self, if_neg h8']
          · simp only [sI_get]; rw [if_neg (by omega), if_neg (by omega), if_neg (by omega)]
          · simp only [sI_get]; rw [if_neg (by omega), if_neg (by omega), if_neg (by omega)]
          · rw [sI_k (by decide), sI_k (by decide), sI_k (by decide)]; exact h0
          · rw [sI_k (by decide), sI_k (by decide), sI_k (by decide)]; exact k5
          · rw [sI_k (o := o) (by decide), sI_k (o := o) (by decide), sI_k (o := o) (by decide), sI_k (o := 153) (by decide), sI_k (o := 153) (by decide), sI_k (o := 153) (by decide)]; exact h1
  obtain ⟨I', K', s', q', e9, e10, t, fr, z0, z5, z1, hq, hs⟩ := key (E - q) q n (n - 1000) (by omega) (by omega) (by omega)
  have ek : sI K 153 4 (Int32.ofNat q) = K := by
    funext a i; rw [sI_get]
    by_cases h : a = 153 ∧ i = 4
    · rw [if_pos h, h.1, h.2]; exact k4.symm
    · rw [if_neg h]
  rw [ek, show n - 1000 + 1000 = n by omega] at e10
  refine ⟨I', K', q', ?_, ?_, ⟨ho, ⟨hE, fun i hi => ?_⟩, ?_, ?_, ?_, z1, ?_, fun _ => ⟨s', t⟩⟩, fr, z0, hq, hs⟩
  · unfold F_X3_nextToken; rw [h8]; exact e9
  · unfold F_X10_nextToken; rw [if_pos (by rw [k5]; decide)]; exact e10
  · rw [fr.1 1 i (Or.inl (by omega)), fr.2 (153 + 1) i (Or.inl (by decide))]; exact B.2 i hi
  · rw [fr.1 o 3 (Or.inr (by decide))]; exact h3
  · rw [fr.2 153 3 (Or.inr (Or.inl (by decide)))]; exact k3
  · rw [z0, z5]
  · rw [z0]; decide
end TOK
