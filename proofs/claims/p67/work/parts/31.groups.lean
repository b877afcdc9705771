/-! GROUPS OF NODES: not more than nodes, none only without nodes -/
def cB (P : Nat → Bool) : Nat → Nat
  | 0 => 0
  | N + 1 => cB P N + (if P N then 1 else 0)
theorem cB_s (P : Nat → Bool) (N : Nat) : cB P (N + 1) = cB P N + (if P N then 1 else 0) := rfl
theorem cB_le (P : Nat → Bool) : ∀ N, cB P N ≤ N
  | 0 => Nat.le_refl _
  | N + 1 => by
    have := cB_le P N
    unfold cB
    by_cases h : P N = true
    · rw [if_pos h]; omega
    · rw [if_neg h]; omega
theorem cB_mono {P Q : Nat → Bool} : ∀ N, (∀ c, c < N → Q c = true → P c = true) → cB Q N ≤ cB P N
  | 0, _ => Nat.le_refl _
  | N + 1, h => by
    have := cB_mono (P := P) (Q := Q) N (fun c hc => h c (by omega))
    unfold cB
    by_cases h1 : Q N = true
    · rw [if_pos h1, if_pos (h N (by omega) h1)]; omega
    · rw [if_neg h1]
      by_cases h2 : P N = true
      · rw [if_pos h2]; omega
      · rw [if_neg h2]; omega
theorem cB_lt {P Q : Nat → Bool} {k : Nat} (h1 : P k = true) (h2 : Q k = false) : ∀ N, k < N → (∀ c, c < N → Q c = true → P c = true) → cB Q N + 1 ≤ cB P N
  | 0, hk, _ => by omega
  | N + 1, hk, h => by
    unfold cB
    by_cases e : k = N
    · subst e
      have := cB_mono (P := P) (Q := Q) k (fun c hc => h c (by omega))
      rw [if_pos h1, if_neg (by rw [h2]; decide)]; omega
    · have := cB_lt h1 h2 N (by omega) (fun c hc => h c (by omega))
      by_cases h3 : Q N = true
      · rw [if_pos h3, if_pos (h N (by omega) h3)]; omega
      · rw [if_neg h3]; omega
theorem cB_ext {P Q : Nat → Bool} : ∀ N, (∀ c, c < N → P c = Q c) → cB P N = cB Q N
  | 0, _ => rfl
  | N + 1, h => by unfold cB; rw [cB_ext N (fun c hc => h c (by omega)), h N (by omega)]
theorem cB_0 {P : Nat → Bool} : ∀ N, cB P N = 0 ↔ ∀ c, c < N → P c = false
  | 0 => ⟨fun _ c h => by omega, fun _ => rfl⟩
  | N + 1 => by
    have ih := cB_0 (P := P) N
    unfold cB
    by_cases h : P N = true
    · rw [if_pos h]
      exact ⟨fun q => by omega, fun q => by rw [q N (by omega)] at h; cases h⟩
    · rw [if_neg h, Nat.add_zero, ih]
      refine ⟨fun q c hc => ?_, fun q c hc => q c (by omega)⟩
      by_cases e : c = N
      · subst e; exact Bool.not_eq_true _ ▸ h
      · exact q c (by omega)
theorem cnt_cB (P : Nat → Bool) {N : Nat} (hN : N ≤ 160) : cnt P N = Int32.ofNat (cB P N) := by
  unfold cnt
  have key : ∀ d, d ≤ N → lp (fun k a => if P k then a + 1 else a) d 0 (0 : Int32) = Int32.ofNat (cB P d) := by
    intro d
    induction d with
    | zero => intro _; rfl
    | succ d ih =>
      intro h
      rw [lp_add (a := d) (b := 1), ih (by omega), Nat.zero_add, lp_s]
      show (if P d then Int32.ofNat (cB P d) + 1 else Int32.ofNat (cB P d)) = _
      rw [cB_s]
      by_cases h2 : P d = true
      · rw [if_pos h2, if_pos h2, ixp_1]
      · rw [if_neg h2, if_neg h2]; rfl
  exact key N (Nat.le_refl _)
section GRPS
variable {n T0 T1 W H : Nat} {I I0 : gI} {p s : gP}
def bi (W : Nat) (I : gI) (c : Nat) : Bool := bt (I (88 + 1) (c / W)) (c % W)
def GG (W H : Nat) (I : gI) (g : Nat) : Prop := I 88 2 = Int32.ofNat g ∧ g ≤ 160 ∧ ∀ i, i < g → ∃ c, c < W * H ∧ I (88 + 2) i = Int32.ofNat c
def GS (W H : Nat) (I I' : gI) : Prop := (∀ c, c < W * H → bi W I' c = true → bi W I c = true) ∧ ∀ o i, ¬ (88 ≤ o ∧ o < 91) → I' o i = I o i
theorem GS.rfl' : GS W H I I := ⟨fun _ _ h => h, fun _ _ _ => rfl⟩
theorem GS.trans {I' I'' : gI} (h : GS W H I I') (h' : GS W H I' I'') : GS W H I I'' := ⟨fun c hc q => h.1 c hc (h'.1 c hc q), fun o i q => (h'.2 o i q).trans (h.2 o i q)⟩
theorem wh_b (hW : 1 ≤ W ∧ W ≤ 16) (hH : 1 ≤ H ∧ H ≤ 10) : W * H ≤ 160 := Nat.le_trans (Nat.mul_le_mul hW.2 hH.2) (by decide)
theorem gat (hW : 1 ≤ W ∧ W ≤ 16) (hH : 1 ≤ H ∧ H ≤ 10) {g : Nat} (G : GG W H I g) (x y : Int32) : ∃ I' g', F_X1_gather n I x y (Int32.ofNat W) (Int32.ofNat H) = some I' ∧ GG W H I' g' ∧ GS W H I I' ∧ ∀ X Y, X < W → Y < H → x = Int32.ofNat X → y = Int32.ofNat Y → bi W I' (W * Y + X) = false := by
  have hwh := wh_b hW hH
  have same : ∀ {q : Prop}, (∀ X Y, X < W → Y < H → x = Int32.ofNat X → y = Int32.ofNat Y → q) → q ∨ ∀ X Y, X < W → Y < H → x = Int32.ofNat X → y = Int32.ofNat Y → False := by
    intro q h
    by_cases z : ∃ X Y, X < W ∧ Y < H ∧ x = Int32.ofNat X ∧ y = Int32.ofNat Y
    · obtain ⟨X, Y, a, b, c, d⟩ := z
      exact Or.inl (h X Y a b c d)
    · exact Or.inr fun X Y a b c d => z ⟨X, Y, a, b, c, d⟩
  unfold F_X1_gather
  by_cases c1 : x < 0
  · rw [if_pos c1]
    refine ⟨I, g, rfl, G, GS.rfl', fun X Y hX hY e1 e2 => ?_⟩
    rw [e1, i_lt, i_of (by omega)] at c1
    exact absurd c1 (by show ¬ _ < (0 : Int); omega)
  rw [if_neg c1]
  by_cases c2 : Int32.ofNat W ≤ x
  · rw [if_pos c2]
    refine ⟨I, g, rfl, G, GS.rfl', fun X Y hX hY e1 e2 => ?_⟩
    rw [e1, i_ole (by omega) (by omega)] at c2
    omega
  rw [if_neg c2]
  by_cases c3 : y < 0
  · rw [if_pos c3]
    refine ⟨I, g, rfl, G, GS.rfl', fun X Y hX hY e1 e2 => ?_⟩
    rw [e2, i_lt, i_of (by omega)] at c3
    exact absurd c3 (by show ¬ _ < (0 : Int); omega)
  rw [if_neg c3]
  by_cases c4 : Int32.ofNat H ≤ y
  · rw [if_pos c4]
    refine ⟨I, g, rfl, G, GS.rfl', fun X Y hX hY e1 e2 => ?_⟩
    rw [e2, i_ole (by omega) (by omega)] at c4
    omega
  rw [if_neg c4]
  rw [i_lt] at c1 c3
  rw [i_le, i_of (by omega)] at c2 c4
  have z0 : (0 : Int32).toInt = 0 := rfl
  rw [z0] at c1 c3
  obtain ⟨X, hX⟩ : ∃ X, X = x.toInt.toNat := ⟨_, rfl⟩
  obtain ⟨Y, hY⟩ : ∃ Y, Y = y.toInt.toNat := ⟨_, rfl⟩
  have ex : x = Int32.ofNat X := by rw [hX, i_on (by omega)]
  have ey : y = Int32.ofNat Y := by rw [hY, i_on (by omega)]
  have hXW : X < W := by omega
  have hYH : Y < H := by omega
  have ck := cell_k (W := W) (y := Y) (x := X) hXW
  have hc : W * Y + X < W * H := by
    have : W * (Y + 1) ≤ W * H := Nat.mul_le_mul_left _ hYH
    rw [Nat.mul_succ] at this; omega
  rw [ex, ey, gv_o (by omega), i_tno (by omega), bt_get _ (by omega)]
  have uniq : ∀ X' Y', X' < W → Y' < H → Int32.ofNat X = Int32.ofNat X' → Int32.ofNat Y = Int32.ofNat Y' → X' = X ∧ Y' = Y := fun X' Y' a b e1 e2 => by
    rw [i_oeq (by omega) (by omega)] at e1 e2
    exact ⟨e1.symm, e2.symm⟩
  by_cases cb : bt (I (88 + 1) Y) X = true
  · rw [cb, if_neg (show ¬ b2 true = 0 by decide), gv_o (by omega), gv_o (by omega)]
    obtain ⟨I1, hI1⟩ : ∃ I1, I1 = sI I (88 + 1) Y (I (88 + 1) Y ^^^ ((1 : Int32) <<< (Int32.ofNat X &&& 31))) := ⟨_, rfl⟩
    rw [← hI1]
    have f88 : I1 88 2 = Int32.ofNat g := by rw [hI1, sI_o (by decide)]; exact G.1
    have b1 : ∀ c, c < W * H → bi W I1 c = if c = W * Y + X then false else bi W I c := by
      intro c hc'
      unfold bi
      rw [hI1, sI_get]
      by_cases e : c / W = Y
      · rw [if_pos ⟨rfl, e⟩, bt_xor _ (by omega) (by have := Nat.mod_lt c (show 0 < W by omega); omega)]
        by_cases e2 : c % W = X
        · rw [if_pos e2, if_pos (by rw [← e, ← e2, Nat.mul_comm]; exact (Nat.div_add_mod' c W).symm), cb]; rfl
        · rw [if_neg e2, if_neg (fun z => e2 (by rw [z]; exact ck.1)), e]
      · rw [if_neg (fun z => e z.2), if_neg (fun z => e (by rw [z]; exact ck.2))]
    have b2' : ∀ c, c < W * H → bi W I1 c = true → bi W I c = true := by
      intro c hc' q
      rw [b1 c hc'] at q
      by_cases e : c = W * Y + X
      · rw [if_pos e] at q; cases q
      · rw [if_neg e] at q; exact q
    have fr1 : ∀ o i, ¬ (88 ≤ o ∧ o < 91) → I1 o i = I o i := fun o i q => by rw [hI1, sI_o (by omega)]
    have done : bi W I1 (W * Y + X) = false := by rw [b1 _ hc, if_pos rfl]
    rw [f88]
    by_cases cg : (160 : Int32) ≤ Int32.ofNat g
    · rw [if_pos cg]
      refine ⟨I1, g, rfl, ⟨f88, G.2.1, fun i hi => ?_⟩, ⟨b2', fr1⟩, fun X' Y' a b e1 e2 => ?_⟩
      · rw [hI1, sI_o (by decide)]; exact G.2.2 i hi
      · obtain ⟨rfl, rfl⟩ := uniq X' Y' a b e1 e2; exact done
    · rw [if_neg cg]
      rw [show (160 : Int32) = Int32.ofNat 160 from rfl, i_ole (by omega) (by have := G.2.1; omega)] at cg
      rw [gv_o (by omega), i_tno (by omega), i_omul, i_oadd, sI_o (o := 88 + 2) (o' := 88) (by decide), f88, ixp_1]
      have bits : ∀ c, bi W (sI (sI I1 (88 + 2) g (Int32.ofNat (Y * W + X))) 88 2 (Int32.ofNat (g + 1))) c = bi W I1 c := fun c => by
        unfold bi; rw [sI_o (by decide), sI_o (by decide)]
      refine ⟨_, g + 1, rfl, ⟨sI_self _ _ _ _, by omega, fun i hi => ?_⟩, ⟨fun c hc' q => ?_, fun o i q => ?_⟩, fun X' Y' a b e1 e2 => ?_⟩
      · rw [sI_o (by decide), sI_get]
        by_cases e : i = g
        · rw [if_pos ⟨rfl, e⟩]; exact ⟨Y * W + X, by rw [Nat.mul_comm Y]; exact hc, rfl⟩
        · rw [if_neg (fun z => e z.2), hI1, sI_o (by decide)]; exact G.2.2 i (by omega)
      · rw [bits] at q; exact b2' c hc' q
      · rw [sI_o (by omega), sI_o (by omega)]; exact fr1 o i q
      · obtain ⟨rfl, rfl⟩ := uniq X' Y' a b e1 e2
        rw [bits]; exact done
  · rw [Bool.not_eq_true] at cb
    rw [cb, if_pos (show b2 false = 0 from rfl)]
    refine ⟨I, g, rfl, G, GS.rfl', fun X' Y' a b e1 e2 => ?_⟩
    obtain ⟨rfl, rfl⟩ := uniq X' Y' a b e1 e2
    unfold bi; rw [ck.1, ck.2]; exact cb
theorem remo (hn : 2000 ≤ n) (hW : 1 ≤ W ∧ W ≤ 16) (hH : 1 ≤ H ∧ H ≤ 10) {X Y : Nat} (hX : X < W) (hY : Y < H) : ∃ I', F_X1_removeGroup n I (Int32.ofNat X) (Int32.ofNat Y) (Int32.ofNat W) (Int32.ofNat H) = some I' ∧ GS W H I I' ∧ bi W I' (W * Y + X) = false := by
  have hwh := wh_b hW hH
  have G0 : GG W H (sI I 88 2 0) 0 := ⟨sI_self _ _ _ _, by omega, fun i hi => by omega⟩
  have S0 : GS W H I (sI I 88 2 0) := ⟨fun c hc q => by unfold bi at q ⊢; rw [sI_o (by decide)] at q; exact q, fun o i q => sI_o (by omega)⟩
  obtain ⟨I1, g1, e1, G1, S1, F1⟩ := gat (n := n) hW hH G0 (Int32.ofNat X) (Int32.ofNat Y)
  have done := F1 X Y hX hY rfl rfl
  have hc : W * Y + X < W * H := by
    have : W * (Y + 1) ≤ W * H := Nat.mul_le_mul_left _ hY
    rw [Nat.mul_succ] at this; omega
  have key : ∀ (d c j g : Nat) (I2 : gI), c + d = 160 → d < j → GG W H I2 g → ∃ I', L_X1_removeGroup n (Int32.ofNat X) (Int32.ofNat Y) (Int32.ofNat W) (Int32.ofNat H) j 0 (Int32.ofNat c) I2 = some I' ∧ GS W H I2 I' := by
    intro d
    induction d with
    | zero =>
      intro c j g I2 hc hj G
      obtain ⟨j, rfl⟩ : ∃ i, j = i + 1 := ⟨j - 1, by omega⟩
      have := G.2.1
      exact ⟨I2, by rw [L_X1_removeGroup_e0, G.1, if_pos (by rw [i_ole (by omega) (by omega)]; omega)], GS.rfl'⟩
    | succ d ih =>
      intro c j g I2 hc hj G
      obtain ⟨j, rfl⟩ : ∃ i, j = i + 1 := ⟨j - 1, by omega⟩
      have hg := G.2.1
      rw [L_X1_removeGroup_e0, G.1]
      by_cases h1 : Int32.ofNat g ≤ Int32.ofNat c
      · rw [if_pos h1]; exact ⟨I2, rfl, GS.rfl'⟩
      · rw [if_neg h1, if_neg (by rw [show (160 : Int32) = Int32.ofNat 160 from rfl, i_ole (by omega) (by omega)]; omega)]
        have hw0 : ¬ Int32.ofNat W = 0 := by rw [i_eq, i_of (by omega)]; show ¬ _ = (0 : Int); omega
        rw [gv_o (by omega), gd_t hw0, gv_o (by omega), gd_t hw0]
        obtain ⟨I3, g3, e3, G3, S3, -⟩ := gat (n := n) hW hH G ((I2 (88 + 2) (Int32.ofNat c).toNatClampNeg - I2 (88 + 2) (Int32.ofNat c).toNatClampNeg / Int32.ofNat W * Int32.ofNat W) - 1) (I2 (88 + 2) (Int32.ofNat c).toNatClampNeg / Int32.ofNat W)
        obtain ⟨I4, g4, e4, G4, S4, -⟩ := gat (n := n) hW hH G3 ((I2 (88 + 2) (Int32.ofNat c).toNatClampNeg - I2 (88 + 2) (Int32.ofNat c).toNatClampNeg / Int32.ofNat W * Int32.ofNat W) + 1) (I2 (88 + 2) (Int32.ofNat c).toNatClampNeg / Int32.ofNat W)
        obtain ⟨I5, g5, e5, G5, S5, -⟩ := gat (n := n) hW hH G4 (I2 (88 + 2) (Int32.ofNat c).toNatClampNeg - I2 (88 + 2) (Int32.ofNat c).toNatClampNeg / Int32.ofNat W * Int32.ofNat W) (I2 (88 + 2) (Int32.ofNat c).toNatClampNeg / Int32.ofNat W - 1)
        obtain ⟨I6, g6, e6, G6, S6, -⟩ := gat (n := n) hW hH G5 (I2 (88 + 2) (Int32.ofNat c).toNatClampNeg - I2 (88 + 2) (Int32.ofNat c).toNatClampNeg / Int32.ofNat W * Int32.ofNat W) (I2 (88 + 2) (Int32.ofNat c).toNatClampNeg / Int32.ofNat W + 1)
        rw [e3, bd_s, e4, bd_s, e5, bd_s, e6, bd_s, ixp_1]
        obtain ⟨I7, e7, S7⟩ := ih (c + 1) j g6 I6 (by omega) (by omega) G6
        exact ⟨I7, e7, (((S3.trans S4).trans S5).trans S6).trans S7⟩
  obtain ⟨I', e2, S2⟩ := key 160 0 n g1 I1 (by omega) (by omega) G1
  refine ⟨I', ?_, (S0.trans S1).trans S2, ?_⟩
  · unfold F_X1_removeGroup
    rw [e1, bd_s]
    exact e2
  · cases h : bi W I' (W * Y + X) with
    | false => rfl
    | true => rw [S2.1 _ hc h] at done; cases done
/-- g groups so far, up to the cell c -/
def GV (W H : Nat) (I0 I : gI) (g c : Nat) : Prop := g + cB (bi W I) (W * H) ≤ cB (bi W I0) (W * H) ∧ (∀ o i, ¬ (88 ≤ o ∧ o < 91) → I o i = I0 o i) ∧ (g = 0 → (∀ i, I (88 + 1) i = I0 (88 + 1) i) ∧ ∀ k, k < c → bi W I0 k = false)
theorem cgr (hn : 2000 ≤ n) (hW : 1 ≤ W ∧ W ≤ 16) (hH : 1 ≤ H ∧ H ≤ 10) (I0 : gI) : ∃ g I', F_X1_countGroups n I0 (Int32.ofNat W) (Int32.ofNat H) = some (Int32.ofNat g, I') ∧ GV W H I0 I' g (W * H) := by
  have hwh := wh_b hW hH
  have inner : ∀ (y e x j g : Nat) (I : gI), y < H → x + e = W → e < j → GV W H I0 I g (W * y + x) → ∃ g' I', L_X1_countGroups n (Int32.ofNat W) (Int32.ofNat H) j 1 (Int32.ofNat g) (Int32.ofNat y) (Int32.ofNat x) I = L_X1_countGroups n (Int32.ofNat W) (Int32.ofNat H) (j - e - 1) 0 (Int32.ofNat g') (Int32.ofNat (y + 1)) 0 I' ∧ GV W H I0 I' g' (W * (y + 1)) := by
    intro y e
    induction e with
    | zero =>
      intro x j g I hy hx hj V
      obtain ⟨j, rfl⟩ : ∃ i, j = i + 1 := ⟨j - 1, by omega⟩
      refine ⟨g, I, ?_, ?_⟩
      · rw [L_X1_countGroups_e1, if_pos (by rw [i_ole (by omega) (by omega)]; omega), ixp_1]
        rfl
      · rw [Nat.mul_succ]
        have hx' : x = W := by omega
        rw [hx'] at V; exact V
    | succ e ih =>
      intro x j g I hy hx hj V
      obtain ⟨j, rfl⟩ : ∃ i, j = i + 1 := ⟨j - 1, by omega⟩
      have hc : W * y + x < W * H := by
        have : W * (y + 1) ≤ W * H := Nat.mul_le_mul_left _ hy
        rw [Nat.mul_succ] at this; omega
      have ck := cell_k (W := W) (y := y) (x := x) (by omega)
      have hgl : g ≤ 160 := by
        have := V.1
        have := cB_le (bi W I0) (W * H)
        omega
      rw [L_X1_countGroups_e1, if_neg (by rw [i_ole (by omega) (by omega)]; omega), gv_o (by omega), i_tno (by omega), bt_get _ (by omega)]
      have ebi : bi W I (W * y + x) = bt (I (88 + 1) y) x := by unfold bi; rw [ck.1, ck.2]
      rw [← ebi]
      cases hb : bi W I (W * y + x) with
      | false =>
        rw [if_neg (show ¬ b2 false = 1 by decide), ixp_1]
        obtain ⟨g', I', e1, V'⟩ := ih (x + 1) j g I hy (by omega) (by omega) ⟨V.1, V.2.1, fun q => ⟨(V.2.2 q).1, fun k hk => by
          by_cases e9 : k = W * y + x
          · rw [e9, ← hb]; unfold bi; rw [(V.2.2 q).1]
          · exact (V.2.2 q).2 k (by omega)⟩⟩
        exact ⟨g', I', by rw [e1]; congr 1; omega, V'⟩
      | true =>
        rw [if_pos (show b2 true = 1 from rfl)]
        obtain ⟨I2, e2, S2, d2⟩ := remo (n := n) (I := I) hn hW hH (X := x) (Y := y) (by omega) hy
        rw [e2, bd_s, ixp_1, ixp_1]
        have hlt := cB_lt (P := bi W I) (Q := bi W I2) hb d2 (W * H) hc (fun c hc' q => S2.1 c hc' q)
        obtain ⟨g', I', e1, V'⟩ := ih (x + 1) j (g + 1) I2 hy (by omega) (by omega) ⟨by have := V.1; omega, fun o i q => (S2.2 o i q).trans (V.2.1 o i q), fun q => by omega⟩
        exact ⟨g', I', by rw [e1]; congr 1; omega, V'⟩
  have outer : ∀ (d y j g : Nat) (I : gI), y + d = H → d * 20 < j → GV W H I0 I g (W * y) → ∃ g' I', L_X1_countGroups n (Int32.ofNat W) (Int32.ofNat H) j 0 (Int32.ofNat g) (Int32.ofNat y) 0 I = some (Int32.ofNat g', I') ∧ GV W H I0 I' g' (W * H) := by
    intro d
    induction d with
    | zero =>
      intro y j g I hy hj V
      obtain ⟨j, rfl⟩ : ∃ i, j = i + 1 := ⟨j - 1, by omega⟩
      refine ⟨g, I, by rw [L_X1_countGroups_e0, if_pos (by rw [i_ole (by omega) (by omega)]; omega)], ?_⟩
      rw [show y = H by omega] at V; exact V
    | succ d ih =>
      intro y j g I hy hj V
      obtain ⟨j, rfl⟩ : ∃ i, j = i + 1 := ⟨j - 1, by omega⟩
      rw [L_X1_countGroups_e0, if_neg (by rw [i_ole (by omega) (by omega)]; omega)]
      obtain ⟨g', I', e1, V'⟩ := inner y W 0 j g I (by omega) (by omega) (by omega) V
      rw [show (0 : Int32) = Int32.ofNat 0 from rfl, e1]
      exact ih (y + 1) (j - W - 1) g' I' (by omega) (by omega) V'
  obtain ⟨g', I', e1, V'⟩ := outer H 0 n 0 I0 (by omega) (by omega) ⟨by omega, fun _ _ _ => rfl, fun _ => ⟨fun _ => rfl, fun k hk => by omega⟩⟩
  exact ⟨g', I', e1, V'⟩
theorem a_groups (hn : 2000 ≤ n) (C : CI T0 T1 I p s) {m tol : Int32} (hm : 1 ≤ m.toInt ∧ m.toInt ≤ 40) (ht : 0 ≤ tol.toInt ∧ tol.toInt ≤ 9999) : ∃ g I', F_X9_nodeGroups n T0 T1 I m tol = some (.inr (Int32.ofNat g, I')) ∧ (∀ o i, ¬ (88 ≤ o ∧ o < 91) → I' o i = I o i) ∧ g ≤ cB (nd9 p s m tol) (nC p) ∧ (g = 0 ↔ cB (nd9 p s m tol) (nC p) = 0) := by
  have hw := C.pv.w
  have hh := C.pv.h
  have htt := C.tt
  obtain ⟨W, hW⟩ : ∃ W, W = (p 0).toInt.toNat := ⟨_, rfl⟩
  obtain ⟨H, hH⟩ : ∃ H, H = (p 1).toInt.toNat := ⟨_, rfl⟩
  have ew : p 0 = Int32.ofNat W := by rw [hW, i_on (by omega)]
  have eh : p 1 = Int32.ofNat H := by rw [hH, i_on (by omega)]
  have key : ∀ (d y j : Nat) (I1 : gI), y + d = H → d < j → (∀ o i, ¬ (88 ≤ o ∧ o < 91) → I1 o i = I o i) → (∀ y', y' < y → ∀ x, x < W → bt (I1 (88 + 1) y') x = sCalm p s (Int32.ofNat x) (Int32.ofNat y') m tol) → ∃ g I', L_X9_nodeGroups n T0 T1 m tol j 0 (Int32.ofNat y) I1 = some (.inr (Int32.ofNat g, I')) ∧ (∀ o i, ¬ (88 ≤ o ∧ o < 91) → I' o i = I o i) ∧ g ≤ cB (nd9 p s m tol) (nC p) ∧ (g = 0 ↔ cB (nd9 p s m tol) (nC p) = 0) := by
    intro d
    induction d with
    | zero =>
      intro y j I1 hy hj fr hb
      obtain ⟨j, rfl⟩ : ∃ i, j = i + 1 := ⟨j - 1, by omega⟩
      have hyH : y = H := by omega
      subst hyH
      obtain ⟨g, I2, e2, V⟩ := cgr (n := n) hn (W := W) (H := y) (by omega) (by omega) I1
      have eb : cB (bi W I1) (W * y) = cB (nd9 p s m tol) (nC p) := by
        unfold nC
        rw [← hW, ← hH]
        refine cB_ext _ fun c hc => ?_
        unfold bi nd9
        rw [← hW]
        exact hb _ (Nat.div_lt_of_lt_mul hc) _ (Nat.mod_lt _ (by omega))
      refine ⟨g, I2, ?_, fun o i q => (V.2.1 o i q).trans (fr o i q), ?_, ?_⟩
      · rw [L_X9_nodeGroups_e0, fr T0 2 (by omega), fr T0 1 (by omega), C.ld.tr.h, C.ld.tr.w, if_pos (by rw [eh, i_ole (by omega) (by omega)]; omega), ew, eh, e2, bd_s]
      · have := V.1; omega
      · rw [← eb, cB_0]
        refine ⟨fun q => (V.2.2 q).2, fun q => ?_⟩
        have := V.1
        rw [(cB_0 _).mpr q] at this
        omega
    | succ d ih =>
      intro y j I1 hy hj fr hb
      obtain ⟨j, rfl⟩ : ∃ i, j = i + 1 := ⟨j - 1, by omega⟩
      have C1 : CI T0 T1 I1 p s := C.ir (fun o i q => fr o i (by omega))
      have hyo : yIn p (Int32.ofNat y) := by unfold yIn; rw [i_of (by omega)]; omega
      obtain ⟨v, ev, hv⟩ := c_calms (n := n) (T1 := T1) hn C.pv C.sv C1.ck hyo (m := m) (by omega) (by omega) tol
      rw [L_X9_nodeGroups_e0, C1.ld.tr.h, if_neg (by rw [eh, i_ole (by omega) (by omega)]; omega), ev, bd_s, gv_o (by omega), i_tno (by omega), ixp_1]
      refine ih (y + 1) j _ (by omega) (by omega) (fun o i q => by rw [sI_o (by omega)]; exact fr o i q) (fun y' hy' x hx => ?_)
      rw [sI_get]
      by_cases e : y' = y
      · rw [if_pos ⟨rfl, e⟩, e]; exact hv x (by omega)
      · rw [if_neg (fun z => e z.2)]; exact hb y' (by omega) x hx
  unfold F_X9_nodeGroups
  rw [q_tank C, nt_s, q_tim n hm, nt_s, q_tol n ht, nt_s]
  exact key H 0 n I (by omega) (by omega) (fun _ _ _ => rfl) (fun y' h => by omega)
end GRPS
