/-! THE WHOLE TEXT IS READ, AND LOADED -/
section LOD
variable {n T1 o : Nat} {I : gI} {T R X : List Nat} {W : gP}
theorem clr_s (hn : 2000 ≤ n) (I : gI) : ∃ Z, F_X7_clear n T1 I = some Z ∧ Z T1 4 = -1 ∧ Z T1 5 = 0 ∧ Z T1 7 = 0 ∧ Z T1 9 = 0 ∧ (∀ i, i < 4 → Z (T1 + 5) i = 0) ∧ (∀ a i, a ≠ T1 → a ≠ T1 + 5 → Z a i = I a i) := by
  obtain ⟨I0, h0⟩ : ∃ I0, I0 = sI (sI (sI (sI I T1 4 (-1 : Int32)) T1 5 (0 : Int32)) T1 7 (0 : Int32)) T1 9 (0 : Int32) := ⟨_, rfl⟩
  have lp : ∀ (d k j : Nat) (J : gI), k + d = 4 → d < j → ∃ Z, L_X7_clear n T1 j 0 (Int32.ofNat k) J = some Z ∧ (∀ a i, a ≠ T1 + 5 → Z a i = J a i) ∧ (∀ i, i < k → Z (T1 + 5) i = J (T1 + 5) i) ∧ (∀ i, k ≤ i → i < 4 → Z (T1 + 5) i = 0) := by
    intro d
    induction d with
    | zero =>
      intro k j J hk hj
      obtain ⟨j, rfl⟩ : ∃ i, j = i + 1 := ⟨j - 1, by omega⟩
      rw [L_X7_clear_e0, if_pos (show (4 : Int32) ≤ Int32.ofNat k from (i_ole (a := 4) (by omega) (by omega)).mpr (by omega))]
      exact ⟨J, rfl, fun _ _ _ => rfl, fun _ _ => rfl, fun i a b => by omega⟩
    | succ d ih =>
      intro k j J hk hj
      obtain ⟨j, rfl⟩ : ∃ i, j = i + 1 := ⟨j - 1, by omega⟩
      rw [L_X7_clear_e0, if_neg (show ¬ (4 : Int32) ≤ Int32.ofNat k from fun z => absurd ((i_ole (a := 4) (by omega) (by omega)).mp z) (by omega)), gv_o (by omega), i_tno (by omega), ixp_1]
      obtain ⟨Z, e, z1, z2, z3⟩ := ih (k + 1) j (sI J (T1 + 5) k 0) (by omega) (by omega)
      refine ⟨Z, e, fun a i q => by rw [z1 a i q, sI_o q], fun i hi => by rw [z2 i (by omega), sI_k (by omega)], fun i a b => ?_⟩
      by_cases q : i = k
      · rw [z2 i (by omega), q, sI_self]
      · exact z3 i (by omega) b
  obtain ⟨Z, e, z1, z2, z3⟩ := lp 4 0 n I0 rfl (by omega)
  refine ⟨Z, ?_, ?_, ?_, ?_, ?_, fun i hi => z3 i (by omega) hi, fun a i q1 q2 => ?_⟩
  · unfold F_X7_clear
    rw [← h0]
    exact e
  · rw [z1 _ _ (by omega), h0, sI_k (by decide), sI_k (by decide), sI_k (by decide), sI_self]
  · rw [z1 _ _ (by omega), h0, sI_k (by decide), sI_k (by decide), sI_self]
  · rw [z1 _ _ (by omega), h0, sI_k (by decide), sI_self]
  · rw [z1 _ _ (by omega), h0, sI_self]
  · rw [z1 _ _ q2, h0, sI_o q1, sI_o q1, sI_o q1, sI_o q1]
theorem r_rw {γ : Type} {P : γ → Prop} {g : gI → Option γ} (hn : 2000 ≤ n) (ho : 150 ≤ o) {bw w : List Nat} {w1 : Nat} (C : CUR T I o (bw ++ R)) (hb : bw = w ∨ bw = 32 :: w) (hw : isWd w = true) (hR : Hd R) (hk : wOK w1 w = true) (kk : ∀ I', CUR T I' o R → FR I I' o → OKp (g I') P) : OKp (bd (F_X3_readWord n T1 o w1 I) g) P :=
  k_rw hn ho C hb hw hR hk kk
theorem hd_ap (l : List Nat) (Y : List Nat) : [116, 97, 110, 107, 32, 119, 105, 100] ++ ([116, 104] ++ Y) = [116, 97, 110, 107] ++ ([32, 119, 105, 100, 116, 104] ++ Y) := rfl
/-- the head is read -/
theorem hd_s (hn : 2000 ≤ n) (E : EV T1 o) (H : HG W) (hX : Nx X) (C : CUR T I o (tHead W ++ X)) (z4 : I T1 4 = -1) (z5 : I T1 5 = 0) (z7 : I T1 7 = 0) (z9 : I T1 9 = 0) (zm : ∀ i, i < 4 → I (T1 + 5) i = 0) (zo : ∀ i, 10 ≤ i → i ≤ 13 → I o i = 0) (zn : I 10 0 = 0) (zp : I 10 1 = 0) (zb : ∀ k, k < 4 → I 11 k = 0 ∨ I 11 k = 1) : OKp (F_X3_readHead n T1 o I) (fun r => CUR T r o X ∧ PI T1 o W r 0 0 0 0 0 0 0 0) := by
  obtain ⟨E1, E2, E3⟩ := E
  obtain ⟨g1, g2, g3, g4, g5, g6, g7⟩ := H
  have l1 : (1 : Int32).toInt = 1 := rfl
  have l16 : (16 : Int32).toInt = 16 := rfl
  have l10 : (10 : Int32).toInt = 10 := rfl
  have l9 : (9999 : Int32).toInt = 9999 := rfl
  unfold tHead at C
  simp only [List.append_assoc] at C
  rw [hd_ap []] at C
  have fin : ∀ J : gI, (∀ a i, a ≠ o → a ≠ T1 → J a i = I a i) → (∀ i, 5 ≤ i → J T1 i = I T1 i) → (∀ i, 10 ≤ i → J o i = I o i) → J T1 1 = W 1 → J T1 2 = W 2 → J T1 3 = W 3 → J T1 4 = W 4 → PI T1 o W J 0 0 0 0 0 0 0 0 := fun J u1 u2 u3 w1 w2 w3 w4 => by
    refine ⟨⟨w1, w2, w3, w4⟩, ⟨?_, ?_, ?_, ?_⟩, fun k hk => by omega, fun i hi => ?_, fun i hi => by omega, fun i hi => by omega, ⟨?_, ?_⟩, fun k hk => ?_, fun k hk => by omega, ?_⟩
    · rw [u2 5 (by decide), z5]; rfl
    · rw [u2 7 (by decide), z7]; rfl
    · rw [u2 9 (by decide), z9]; rfl
    · rw [u3 10 (by decide), zo 10 (by decide) (by decide)]; rfl
    · rw [u1 (T1 + 5) i (by omega) (by omega), zm i hi, ii_0]; exact ⟨by omega, by omega, fun _ => rfl⟩
    · rw [u1 10 0 (by omega) (by omega), zn]
    · rw [u1 10 1 (by omega) (by omega), zp, ii_0]; omega
    · rw [u1 11 k (by omega) (by omega)]; exact zb k hk
    · rw [u3 11 (by decide), u3 12 (by decide), u3 13 (by decide), zo 11 (by decide) (by decide), zo 12 (by decide) (by decide), zo 13 (by decide) (by decide), ii_0]; decide
  unfold F_X3_readHead
  refine r_rw (w := [116, 97, 110, 107]) hn (by omega) C (Or.inl rfl) (by decide) (Hd.c32 _) (by decide +kernel) fun I1 C1 f1 => ?_
  refine r_rw (w := [119, 105, 100, 116, 104]) hn (by omega) C1 (Or.inr rfl) (by decide) (Hd.pa _ _) (by decide +kernel) fun I2 C2 f2 => ?_
  refine r_num hn (by omega) C2 (by omega) (by omega) (Hd.c32 _) (by rw [l1]; omega) (by rw [l16]; omega) fun r3 v3 C3 f3 => ?_
  refine r_rw (w := [104, 101, 105, 103, 104, 116]) hn (by omega) C3 (Or.inr rfl) (by decide) (Hd.pa _ _) (by decide +kernel) fun I4 C4 f4 => ?_
  refine r_num hn (by omega) C4 (by omega) (by omega) (Hd.c32 _) (by rw [l1]; omega) (by rw [l10]; omega) fun r5 v5 C5 f5 => ?_
  refine r_rw (w := [102, 97, 100, 101]) hn (by omega) C5 (Or.inr rfl) (by decide) (Hd.pa _ _) (by decide +kernel) fun I6 C6 f6 => ?_
  have hd7 : Hd ((if W 4 < 0 then [] else [32, 119, 97, 108, 108] ++ pa (W 4)) ++ X) := by
    by_cases q : W 4 < 0
    · rw [if_pos q]; exact hX.hd
    · rw [if_neg q]; exact Hd.c32 _
  refine r_num hn (by omega) C6 (by omega) (by omega) hd7 (by rw [ii_0]; omega) (by rw [l9]; omega) fun r7 v7 C7 f7 => ?_
  rw [if_pos C7.e0]
  obtain ⟨J, hJ⟩ : ∃ J, J = sI (sI (sI r7.2 T1 1 r3.1) T1 2 r5.1) T1 3 r7.1 := ⟨_, rfl⟩
  rw [← hJ]
  have CJ : CUR T J o ((if W 4 < 0 then [] else [32, 119, 97, 108, 108] ++ pa (W 4)) ++ X) := by rw [hJ]; exact ((C7.st (by omega) (by omega)).st (by omega) (by omega)).st (by omega) (by omega)
  have fA := (((((f1.trans f2).trans f3).trans f4).trans f5).trans f6).trans f7
  have a1 : J T1 1 = W 1 := by rw [hJ, sI_k (by decide), sI_k (by decide), sI_self, v3]
  have a2 : J T1 2 = W 2 := by rw [hJ, sI_k (by decide), sI_self, v5]
  have a3 : J T1 3 = W 3 := by rw [hJ, sI_self, v7]
  have aT : ∀ i, 4 ≤ i → J T1 i = I T1 i := fun i hi => by rw [hJ, sI_k (by omega), sI_k (by omega), sI_k (by omega)]; exact fA _ _ (Or.inl (by omega))
  have ax : ∀ a i, a ≠ o → a ≠ T1 → J a i = I a i := fun a i q1 q2 => by rw [hJ, sI_o q2, sI_o q2, sI_o q2]; exact fA _ _ (Or.inl q1)
  have ao : ∀ i, 10 ≤ i → J o i = I o i := fun i hi => by rw [hJ, sI_o (by omega), sI_o (by omega), sI_o (by omega)]; exact fA _ _ (Or.inr (by omega))
  by_cases q : W 4 < 0
  · rw [if_pos q, List.nil_append] at CJ
    have q4 : W 4 = -1 := by
      rcases g4 with g4 | g4
      · exact g4
      · rw [i_lt, ii_0] at q; omega
    refine r_tn (isw_f n 14 (cur_x CJ hX)) fun r8 v8 e8 => ?_
    rw [if_pos v8, e8]
    exact ⟨J, rfl, CJ, fin J ax (fun i hi => aT i (by omega)) ao a1 a2 a3 (by rw [aT 4 (by decide), z4, q4])⟩
  · rw [if_neg q, List.append_assoc] at CJ
    rw [i_lt, ii_0] at q
    have q4 : 0 ≤ (W 4).toInt ∧ (W 4).toInt < (W 1).toInt := by
      rcases g4 with g4 | g4
      · rw [g4, show (-1 : Int32).toInt = -1 from rfl] at q; omega
      · exact g4
    refine r_tw (w := [119, 97, 108, 108]) hn (by omega) CJ (Or.inr rfl) (by decide) (Hd.pa _ _) (by decide +kernel) fun r8 v8 C8 f8 => ?_
    rw [if_neg (show ¬ r8.1 = 0 by rw [v8]; decide), v3]
    refine r_num hn (by omega) C8 (by omega) (by omega) hX.hd (by rw [ii_0]; omega) (by rw [i_sub (by rw [l1]; omega) (by rw [l1]; omega), l1]; omega) fun r9 v9 C9 f9 => ?_
    have fB := f8.trans f9
    refine ⟨_, rfl, C9.st (by omega) (by omega), fin _ (fun a i q1 q2 => ?_) (fun i hi => ?_) (fun i hi => ?_) ?_ ?_ ?_ ?_⟩
    · rw [sI_o q2, fB _ _ (Or.inl q1)]; exact ax a i q1 q2
    · rw [sI_k (by omega), fB _ _ (Or.inl (by omega))]; exact aT i (by omega)
    · rw [sI_o (by omega), fB _ _ (Or.inr (by omega))]; exact ao i hi
    · rw [sI_k (by decide), fB _ _ (Or.inl (by omega))]; exact a1
    · rw [sI_k (by decide), fB _ _ (Or.inl (by omega))]; exact a2
    · rw [sI_k (by decide), fB _ _ (Or.inl (by omega))]; exact a3
    · rw [sI_self, v9]
/-- the whole text -/
theorem rt_s (hn : 2000 ≤ n) (E : EV T1 o) (D : DG W) (hB : BS (tText W) I o) (h8 : I o 8 = 0) (zo : ∀ i, 10 ≤ i → i ≤ 13 → I o i = 0) (zb : ∀ k, k < 4 → I 11 k = 0 ∨ I 11 k = 1) : OKp (F_X3_readText n T1 o I) (fun r => r o 0 = 0 ∧ PI T1 o W r (W 6).toInt.toNat (W 71).toInt.toNat (W 82).toInt.toNat (W 64).toInt.toNat 4 (W 6).toInt.toNat (W 6).toInt.toNat (W 6).toInt.toNat ∧ RU r ∧ (0 ≤ (r 18 1).toInt ∧ (r 18 1).toInt < 8)) := by
  have D' := D
  obtain ⟨H, hT, hM, hN, hC⟩ := D'
  obtain ⟨E1, E2, E3⟩ := id E
  obtain ⟨Z, e, y4, y5, y7, y9, ym, yo⟩ := clr_s (n := n) (T1 := T1) hn I
  unfold F_X3_readText
  refine o_bd e ?_
  obtain ⟨J, hJ⟩ : ∃ J, J = sI (sI Z 10 0 (0 : Int32)) 10 1 (0 : Int32) := ⟨_, rfl⟩
  rw [← hJ]
  have jo : ∀ a i, a ≠ 10 → J a i = Z a i := fun a i q => by rw [hJ, sI_o q, sI_o q]
  have ji : ∀ a i, a ≠ 10 → a ≠ T1 → a ≠ T1 + 5 → J a i = I a i := fun a i q1 q2 q3 => by rw [jo a i q1, yo a i q2 q3]
  obtain ⟨b1, b2, b3, b4, b5, b6, b7⟩ := hB
  have BJ : BS (tText W) J o := ⟨b1, b2, fun i hi => by rw [ji _ _ (by decide) (by omega) (by omega)]; exact b3 i hi, by rw [ji _ _ (by omega) (by omega) (by omega)]; exact b4, by rw [ji _ _ (by omega) (by omega) (by omega)]; exact b5, fun x y hx hy => by rw [ji _ _ (by decide) (by omega) (by omega)]; exact b6 x y hx hy, by rw [ji _ _ (by decide) (by omega) (by omega)]; exact b7⟩
  have RJ : RD (tText W) J o (tText W) := ⟨BJ, 0, Nat.zero_le _, by rw [ji _ _ (by omega) (by omega) (by omega)]; exact h8, rfl⟩
  refine k_nt hn (by omega) RJ fun I1 C1 f1 => ?_
  have nx : Nx (tSlits W (W 2).toInt.toNat 0 ++ (tTrains W (W 6).toInt.toNat 0 ++ tFurn W)) := (nx_slits W _ 0).ap ((nx_trains W _ 0).ap ((nx_mirs W 4 0).ap ((nx_rows W _ 65 3 _ 0).ap ((nx_rows W _ 72 5 _ 0).ap (nx_rows W _ 83 2 _ 0)))))
  obtain ⟨I2, e2, C2, P2⟩ := hd_s (n := n) (T1 := T1) hn E H nx (show CUR (tText W) I1 o (tHead W ++ (tSlits W (W 2).toInt.toNat 0 ++ (tTrains W (W 6).toInt.toNat 0 ++ tFurn W))) from C1)
    (by rw [f1 _ _ (Or.inl (by omega)), jo _ _ (by omega)]; exact y4) (by rw [f1 _ _ (Or.inl (by omega)), jo _ _ (by omega)]; exact y5) (by rw [f1 _ _ (Or.inl (by omega)), jo _ _ (by omega)]; exact y7) (by rw [f1 _ _ (Or.inl (by omega)), jo _ _ (by omega)]; exact y9)
    (fun i hi => by rw [f1 _ _ (Or.inl (by omega)), jo _ _ (by omega)]; exact ym i hi) (fun i a b => by rw [f1 _ _ (Or.inr (by omega)), ji _ _ (by omega) (by omega) (by omega)]; exact zo i a b)
    (by rw [f1 _ _ (Or.inl (by omega)), hJ, sI_k (by decide), sI_self]) (by rw [f1 _ _ (Or.inl (by omega)), hJ, sI_self]) (fun k hk => by rw [f1 _ _ (Or.inl (by omega)), ji _ _ (by decide) (by omega) (by omega)]; exact zb k hk)
  refine o_bd e2 ?_
  have := sg_all (n := n) (T1 := T1) (o := o) (I := I2) (i := 0) hn E D rfl C2 P2
  unfold LPx at this
  exact this
end LOD
