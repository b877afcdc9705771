/-! READING A KNOWN TEXT, token by token -/
def Hd (R : List Nat) : Prop := ∀ c l, R = c :: l → c = 32 ∨ c = 59
def Nx (X : List Nat) : Prop := X = [] ∨ ∃ l, X = 59 :: l
theorem Nx.hd {X : List Nat} (h : Nx X) : Hd X := fun c l q => by
  rcases h with h | ⟨l', h⟩
  · rw [h] at q; cases q
  · rw [h] at q; exact Or.inr (List.cons.inj q).1.symm
theorem Nx.ap {X Y : List Nat} (h : Nx X) (h' : Nx Y) : Nx (X ++ Y) := by
  rcases h with h | ⟨l, h⟩
  · rw [h, List.nil_append]; exact h'
  · rw [h]; exact Or.inr ⟨l ++ Y, rfl⟩
theorem Hd.ap {X Y : List Nat} (h : Hd X) (h' : Hd Y) : Hd (X ++ Y) := by
  cases X with
  | nil => exact h'
  | cons c l =>
    intro c' l' q
    have := (List.cons.inj q).1
    rw [← this]
    exact h c l rfl
theorem Hd.c32 (l : List Nat) : Hd (32 :: l) := fun c l' q => Or.inl (List.cons.inj q).1.symm
theorem Hd.pa (v : Int32) (R : List Nat) : Hd (pa v ++ R) := Hd.c32 _
theorem tw_0 {p : Nat → Bool} {R : List Nat} (h : Hd R) (h1 : p 32 = false) (h2 : p 59 = false) : R.takeWhile p = [] := by
  cases R with
  | nil => rfl
  | cons c l =>
    rw [List.takeWhile_cons]
    rcases h c l rfl with q | q
    · rw [q, h1, if_neg (by decide)]
    · rw [q, h2, if_neg (by decide)]
theorem tw_1 {p : Nat → Bool} {w R : List Nat} (hw : ∀ c ∈ w, p c = true) (h : Hd R) (h1 : p 32 = false) (h2 : p 59 = false) : (w ++ R).takeWhile p = w := by
  rw [List.takeWhile_append_of_pos hw, tw_0 h h1 h2, List.append_nil]
def blk (bl : List Nat) : Prop := bl = [] ∨ bl = [32]
theorem dB_c {c : Nat} (l : List Nat) (h : c ≠ 32) : dB (c :: l) = c :: l := by
  unfold dB
  rw [List.dropWhile_cons, if_neg (by unfold isB; rw [decide_eq_false h]; decide)]
theorem dB_b {bl Y : List Nat} (hb : blk bl) (h : dB Y = Y) : dB (bl ++ Y) = Y := by
  rcases hb with hb | hb
  · rw [hb, List.nil_append, h]
  · rw [hb]
    show dB (32 :: Y) = Y
    unfold dB
    rw [List.dropWhile_cons, if_pos (by decide)]
    exact h
/-- the bytes of the w-th literal -/
def wOK (w : Nat) (l : List Nat) : Bool := (decide (l.length < 20) && l.all (fun c => decide (c < 128))) && decide (gLen w = l.length) && (List.range l.length).all (fun i => decide (gByt w i &&& 255 = Int32.ofNat (l.getD i 0)))
theorem wOK_t {w : Nat} {l : List Nat} (h : wOK w l = true) : gLen w = l.length ∧ ∀ i, i < l.length → gByt w i &&& 255 = Int32.ofNat (l.getD i 0) := by
  unfold wOK at h
  rw [Bool.and_eq_true, Bool.and_eq_true] at h
  refine ⟨of_decide_eq_true h.1.2, fun i hi => ?_⟩
  exact of_decide_eq_true (List.all_eq_true.mp h.2 i (List.mem_range.mpr hi))
theorem wl_l {w : Nat} {l : List Nat} (h : wOK w l = true) : l.length < 1000 := by
  unfold wOK at h
  rw [Bool.and_eq_true, Bool.and_eq_true, Bool.and_eq_true] at h
  have := of_decide_eq_true h.1.1.1
  omega
theorem wl_b {w1 i : Nat} {l : List Nat} (h : wOK w1 l = true) (hi : i < l.length) : l.getD i 0 < 128 := by
  unfold wOK at h
  rw [Bool.and_eq_true, Bool.and_eq_true, Bool.and_eq_true] at h
  have := List.all_eq_true.mp h.1.1.2
  rw [List.getD_eq_getElem?_getD, List.getElem?_eq_getElem hi]
  exact of_decide_eq_true (this _ (List.getElem_mem hi))
/-- a word has been read -/
def WD (T : List Nat) (I : gI) (o : Nat) (w R : List Nat) : Prop := I o 6 = 1 ∧ RD T I o R ∧ ∃ s, s + w.length ≤ T.length ∧ I o 7 = Int32.ofNat s ∧ T.drop s = w ++ R ∧ I o 8 = Int32.ofNat (s + w.length)
theorem ap_dr {T w R : List Nat} {s : Nat} (h : T.drop s = w ++ R) : T.drop (s + w.length) = R := by
  rw [← List.drop_drop, h, List.drop_left]
theorem ap_le {T w R : List Nat} {s : Nat} (h : T.drop s = w ++ R) (hs : s ≤ T.length) : s + w.length + R.length = T.length := by
  have := congrArg List.length h
  rw [List.length_drop, List.length_append] at this
  omega
def isWd (w : List Nat) : Bool := decide (0 < w.length) && decide (w.length ≤ 8) && w.all isL
section RDS
variable {n T1 o : Nat} {I : gI} {T R : List Nat}
theorem cur_w' {bl w : List Nat} (C : CUR T I o (bl ++ (w ++ R))) (hb : blk bl) (hw : isWd w = true) (hR : Hd R) : WD T I o w R := by
  unfold isWd at hw
  rw [Bool.and_eq_true, Bool.and_eq_true] at hw
  obtain ⟨⟨w1, w2⟩, w3⟩ := hw
  have w1 := of_decide_eq_true w1
  have w2 := of_decide_eq_true w2
  have w3 := List.all_eq_true.mp w3
  have hd : dB (w ++ R) = w ++ R := by
    cases w with
    | nil => exact absurd w1 (by decide)
    | cons c l => exact dB_c _ fun q => by have := w3 c (List.mem_cons_self ..); rw [q] at this; exact absurd this (by decide)
  obtain ⟨B, s, hs, hY, h7, -, p, -⟩ := C
  rw [dB_b hb hd] at hY p
  have hl : nL (w ++ R) = w.length := by unfold nL; rw [tw_1 w3 hR (by decide) (by decide)]
  rw [hl] at p
  obtain ⟨k6, k8⟩ := p w1 w2
  have := ap_le hY hs
  exact ⟨k6, ⟨B, s + w.length, by omega, k8, ap_dr hY⟩, s, by omega, h7, hY, k8⟩
theorem cur_w {bw w : List Nat} (C : CUR T I o (bw ++ R)) (hb : bw = w ∨ bw = 32 :: w) (hw : isWd w = true) (hR : Hd R) : WD T I o w R := by
  rcases hb with hb | hb
  · rw [hb] at C
    exact cur_w' (bl := []) (by rw [List.nil_append]; exact C) (Or.inl rfl) hw hR
  · rw [hb, List.cons_append] at C
    exact cur_w' (bl := [32]) (by rw [List.cons_append, List.nil_append]; exact C) (Or.inr rfl) hw hR
theorem ddg_D (a : Nat) : ∀ e, ∀ c ∈ ddg a e, isD c = true
  | 0, c, h => by
    rw [show ddg a 0 = [48 + a % 10] from rfl, List.mem_singleton] at h
    unfold isD; rw [decide_eq_true (by omega), decide_eq_true (by omega)]; rfl
  | e + 1, c, h => by
    rw [show ddg a (e + 1) = (48 + a / 10 ^ (e + 1) % 10) :: ddg a e from rfl, List.mem_cons] at h
    rcases h with h | h
    · unfold isD; rw [decide_eq_true (by omega), decide_eq_true (by omega)]; rfl
    · exact ddg_D a e c h
theorem dg_1 (V c : Nat) : (10 : Int32) * Int32.ofNat V + Int32.ofNat (48 + c) - 48 = Int32.ofNat (V * 10 + c) := by
  rw [show (10 : Int32) = Int32.ofNat 10 from rfl, show (48 : Int32) = Int32.ofNat 48 from rfl, i_omul, i_oadd, show 10 * V + (48 + c) = (V * 10 + c) + 48 by omega, ← i_oadd, Int32.add_sub_cancel]
theorem dgs_d (a : Nat) : ∀ (e s V : Nat), T.drop s = ddg a e ++ R → dgs (fun i => Int32.ofNat (T.getD i 0)) (e + 1) s (Int32.ofNat V) = Int32.ofNat (V * 10 ^ (e + 1) + a % 10 ^ (e + 1))
  | 0, s, V, h => by
    obtain ⟨d1, d2, d3⟩ := dr_1 (show T.drop s = (48 + a % 10) :: R from h)
    rw [Nat.zero_add, Nat.pow_one]
    show (10 : Int32) * Int32.ofNat V + Int32.ofNat (T.getD s 0) - 48 = Int32.ofNat (V * 10 + a % 10)
    rw [d2, dg_1]
  | e + 1, s, V, h => by
    obtain ⟨d1, d2, d3⟩ := dr_1 (show T.drop s = (48 + a / 10 ^ (e + 1) % 10) :: (ddg a e ++ R) from h)
    have hm : a % 10 ^ (e + 1 + 1) = a % 10 ^ (e + 1) + 10 ^ (e + 1) * (a / 10 ^ (e + 1) % 10) := Nat.mod_pow_succ
    show dgs (fun i => Int32.ofNat (T.getD i 0)) (e + 1) (s + 1) ((10 : Int32) * Int32.ofNat V + Int32.ofNat (T.getD s 0) - 48) = _
    rw [d2, dg_1, dgs_d a e (s + 1) _ d3, hm]
    have e1 : V * 10 ^ (e + 1 + 1) = V * 10 * 10 ^ (e + 1) := by rw [Nat.pow_succ, Nat.mul_comm (10 ^ (e + 1)) 10, ← Nat.mul_assoc]
    rw [Nat.add_mul, e1, Nat.mul_comm (10 ^ (e + 1)) (a / 10 ^ (e + 1) % 10), Nat.add_assoc, Nat.add_comm (a / 10 ^ (e + 1) % 10 * 10 ^ (e + 1))]
theorem dgE_b {a : Nat} (h : a < 10000) : a < 10 ^ (dgE a + 1) := by
  unfold dgE
  by_cases q1 : a < 10
  · rw [if_pos q1]; omega
  rw [if_neg q1]
  by_cases q2 : a < 100
  · rw [if_pos q2]; omega
  rw [if_neg q2]
  by_cases q3 : a < 1000
  · rw [if_pos q3]; omega
  · rw [if_neg q3]; omega
/-- a number has been read -/
theorem cur_d {bl : List Nat} {a : Nat} (C : CUR T I o (bl ++ (ddg a (dgE a) ++ R))) (hb : blk bl) (ha : a < 10000) (hR : Hd R) : I o 6 = 2 ∧ I o 9 = Int32.ofNat a ∧ RD T I o R := by
  have w3 := ddg_D a (dgE a)
  have wl := ddg_l a (dgE a)
  have he := dgE_le a
  obtain ⟨c, l, hc⟩ : ∃ c l, ddg a (dgE a) = c :: l := by
    cases hq : ddg a (dgE a) with
    | nil => rw [hq] at wl; cases wl
    | cons c l => exact ⟨c, l, rfl⟩
  have hcD := w3 c (by rw [hc]; exact List.mem_cons_self ..)
  have c32 : c ≠ 32 := fun q => by rw [q] at hcD; exact absurd hcD (by decide)
  have hd : dB (ddg a (dgE a) ++ R) = ddg a (dgE a) ++ R := by rw [hc]; exact dB_c _ c32
  have n0 : nL (ddg a (dgE a) ++ R) = 0 := by
    rw [hc]
    refine nL_0 ?_
    cases hq : isL c
    · rfl
    · exfalso
      unfold isL at hq
      unfold isD at hcD
      rw [Bool.and_eq_true] at hq hcD
      have h1 := of_decide_eq_true hq.1
      have h2 := of_decide_eq_true hcD.2
      omega
  obtain ⟨B, s, hs, hY, h7, -, -, p, -⟩ := C
  rw [dB_b hb hd] at hY p
  have hl : nD (ddg a (dgE a) ++ R) = dgE a + 1 := by unfold nD; rw [tw_1 w3 hR (by decide) (by decide), wl]
  rw [hl] at p
  obtain ⟨k6, k8, k9⟩ := p n0 (by omega) (by omega)
  have := ap_le hY hs
  have hdr := ap_dr hY
  rw [wl] at this hdr
  refine ⟨k6, ?_, B, s + (dgE a + 1), by omega, k8, hdr⟩
  rw [k9, show (0 : Int32) = Int32.ofNat 0 from rfl, dgs_d a _ s 0 hY, Nat.zero_mul, Nat.zero_add, Nat.mod_eq_of_lt (dgE_b ha)]
theorem pa_pos {v : Int32} (h : 0 ≤ v.toInt) : pa v = 32 :: ddg v.toInt.natAbs (dgE v.toInt.natAbs) := by
  unfold pa nb
  rw [if_neg (by omega)]
theorem pa_neg {v : Int32} (h : v.toInt < 0) : pa v = 32 :: 45 :: ddg v.toInt.natAbs (dgE v.toInt.natAbs) := by
  unfold pa nb
  rw [if_pos h]
theorem cur_n {v : Int32} (C : CUR T I o (pa v ++ R)) (h0 : 0 ≤ v.toInt) (h1 : v.toInt ≤ 9999) (hR : Hd R) : I o 6 = 2 ∧ I o 9 = v ∧ RD T I o R := by
  rw [pa_pos h0] at C
  have := cur_d (bl := [32]) (a := v.toInt.natAbs) C (Or.inr rfl) (by omega) hR
  rw [show Int32.ofNat v.toInt.natAbs = v by rw [show v.toInt.natAbs = v.toInt.toNat by omega]; exact i_on h0] at this
  exact this
theorem cur_m {v : Int32} (C : CUR T I o (pa v ++ R)) (h0 : v.toInt < 0) : I o 6 = 3 ∧ RD T I o (ddg v.toInt.natAbs (dgE v.toInt.natAbs) ++ R) := by
  rw [pa_neg h0] at C
  obtain ⟨B, s, hs, hY, h7, -, -, -, p, -⟩ := C
  have hd : dB ((32 :: 45 :: ddg v.toInt.natAbs (dgE v.toInt.natAbs)) ++ R) = 45 :: (ddg v.toInt.natAbs (dgE v.toInt.natAbs) ++ R) := by
    have := dB_b (bl := [32]) (Y := 45 :: (ddg v.toInt.natAbs (dgE v.toInt.natAbs) ++ R)) (Or.inr rfl) (dB_c _ (by decide))
    exact this
  rw [hd] at hY p
  obtain ⟨k6, k8⟩ := p _ rfl
  obtain ⟨d1, d2, d3⟩ := dr_1 hY
  exact ⟨k6, B, s + 1, by omega, k8, d3⟩
theorem cur_s {l : List Nat} (C : CUR T I o (59 :: l)) : I o 6 = 4 ∧ RD T I o l := by
  obtain ⟨B, s, hs, hY, h7, -, -, -, -, p⟩ := C
  rw [dB_c l (by decide)] at hY p
  obtain ⟨k6, k8⟩ := p _ rfl
  obtain ⟨d1, d2, d3⟩ := dr_1 hY
  exact ⟨k6, B, s + 1, by omega, k8, d3⟩
theorem cur_s' {w : List Nat} (C : CUR T I o ((59 :: w) ++ R)) : I o 6 = 4 ∧ RD T I o (w ++ R) := by
  rw [List.cons_append] at C
  exact cur_s C
theorem cur_e (C : CUR T I o []) : I o 6 = 0 := by
  obtain ⟨B, s, hs, hY, h7, p, -⟩ := C
  exact p rfl
theorem cur_x {X : List Nat} (C : CUR T I o X) (h : Nx X) : I o 6 ≠ 1 := by
  rcases h with h | ⟨l, h⟩
  · rw [h] at C; rw [cur_e C]; decide
  · rw [h] at C; rw [(cur_s C).1]; decide
theorem CUR.bs {X : List Nat} (C : CUR T I o X) : BS T I o := C.1
theorem isw_f (n : Nat) (w1 : Nat) (h : I o 6 ≠ 1) : F_X3_isWord n T1 o w1 I = some 0 := by
  unfold F_X3_isWord
  rw [if_neg h]
theorem isw_s (hn : 2000 ≤ n) {w l : List Nat} {w1 : Nat} (D : WD T I o w R) (ho : wOK w1 l = true) : F_X3_isWord n T1 o w1 I = some (b2 (decide (w = l))) := by
  obtain ⟨k6, ⟨B, q, hq, k8', hR⟩, s, hs, h7, hY, k8⟩ := D
  obtain ⟨g1, g2⟩ := wOK_t ho
  have hB := B.1
  have el : ∀ i, i < w.length → T.getD (s + i) 0 = w.getD i 0 := fun i hi => by
    have h1 : (T.drop s).getD i 0 = T.getD (s + i) 0 := by
      rw [List.getD_eq_getElem?_getD, List.getElem?_drop, ← List.getD_eq_getElem?_getD]
    rw [← h1, hY, List.getD_eq_getElem?_getD, List.getElem?_append, if_pos hi, ← List.getD_eq_getElem?_getD]
  have hl9 : l.length < 1000 := wl_l ho
  have key : ∀ (d i j : Nat), i + d = l.length → w.length = l.length → d < j → L_X3_isWord n T1 o w1 I j 0 (Int32.ofNat i) = some (b2 (decide (w.drop i = l.drop i))) := by
    intro d
    induction d with
    | zero =>
      intro i j hi hwl hj
      obtain ⟨j, rfl⟩ : ∃ i, j = i + 1 := ⟨j - 1, by omega⟩
      rw [L_X3_isWord_e0, g1, show nI l.length = Int32.ofNat l.length from rfl, if_pos (by rw [i_ole (by omega) (by omega)]; omega), List.drop_eq_nil_of_le (by omega), List.drop_eq_nil_of_le (by omega)]
      rfl
    | succ d ih =>
      intro i j hi hwl hj
      obtain ⟨j, rfl⟩ : ∃ i, j = i + 1 := ⟨j - 1, by omega⟩
      have c1 := el i (by omega)
      have c2 := g2 i (by omega)
      have b1 := B.2.1 (s + i)
      have e1 : w.drop i = w.getD i 0 :: w.drop (i + 1) := by
        rw [List.drop_eq_getElem_cons (by omega), List.getD_eq_getElem?_getD, List.getElem?_eq_getElem (by omega)]; rfl
      have e2 : l.drop i = l.getD i 0 :: l.drop (i + 1) := by
        rw [List.drop_eq_getElem_cons (by omega), List.getD_eq_getElem?_getD, List.getElem?_eq_getElem (by omega)]; rfl
      rw [L_X3_isWord_e0, g1, show nI l.length = Int32.ofNat l.length from rfl, if_neg (by rw [i_ole (by omega) (by omega)]; omega), h7, i_oadd, gv_o (by omega), gv_o (by omega) (by omega), i_tno (by omega), i_tno (by omega), B.2.2.1 (s + i) (by omega), c1, c2, e1, e2]
      have lb : l.getD i 0 < 2147483648 := by
        have := wl_b (w1 := w1) (i := i) ho (by omega)
        omega
      by_cases hc : w.getD i 0 = l.getD i 0
      · rw [if_pos (by rw [hc]), ixp_1, ih (i + 1) j (by omega) hwl (by omega), hc]
        congr 2
        apply decide_eq_decide.mpr
        exact ⟨fun q => by rw [q], fun q => (List.cons.inj q).2⟩
      · rw [if_neg (fun z => hc ((i_oeq (by omega) lb).mp z)), decide_eq_false (fun q => hc (List.cons.inj q).1)]
        rfl
  unfold F_X3_isWord
  rw [if_pos k6, k8, h7, i_osub (by omega) (by omega), g1, show nI l.length = Int32.ofNat l.length from rfl, show s + w.length - s = w.length by omega]
  by_cases hwl : w.length = l.length
  · rw [if_pos (by rw [hwl])]
    have := key l.length 0 n (by omega) hwl (by omega)
    exact this
  · rw [if_neg (fun z => hwl ((i_oeq (by omega) (by omega)).mp z)), decide_eq_false (fun q => hwl (by rw [q]))]
    rfl
end RDS
