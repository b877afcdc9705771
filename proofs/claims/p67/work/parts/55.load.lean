/-! THE CLASS'S LOAD -/
section LOADB
variable {G : gG} {mi : gM} {Qp : List Frame → Array Value → State → State → Prop} {pc : Nat} {L : List (Option Value)} {st : List Value} {f f' : gF} {sz k n : Nat}
/-- cells may be forgotten -/
theorem r_drop (h : ∀ a, f' a = gj ∨ f' a = f a) (kk : gAt G mi Qp pc L st f' sz k n) : gAt G mi Qp pc L st f sz k n := by
  intro p e s m args below meth c F H locs ls hl hw
  refine kk p e s m args below meth c F H locs ls hl ⟨fun a ha => ?_, hw.2⟩
  rcases h a with z | z
  · exact absurd z ha
  · rw [z] at ha ⊢
    exact hw.1 a ha
theorem va_up2 {α : Type} (f : Nat → α) (a : Nat) (x y : α) : va_up (va_up f a x) a y = va_up f a y := by
  funext b
  by_cases h : b = a
  · rw [h, va_up_self, va_up_self]
  · rw [va_up_ne _ _ h, va_up_ne _ _ h, va_up_ne _ _ h]
set_option maxHeartbeats 4000000 in
set_option maxRecDepth 100000 in
theorem ct_X3_init (hs : G.1.stackTraces = false) {a x1 x2 x3 : Nat} {v : Int32} (ha : f a = .inr (3, dfX3)) : gCt G mX3_init [.ref a, .ref x1, .int v, .ref x2, .ref x3] f sz (gR none (va_up f a (.inr (3, [.int 0, .int (-1), .ref x1, .int v, .ref x2, .ref x3, .int 0, .int 0, .int 0, .int 0, .int 0, .int 0, .int 0, .int 0]))) sz) := by
  refine gCt.of [some (.ref a), some (.ref x1), some (.int v), some (.ref x2), some (.ref x3)] (by decide +kernel) rfl hs rfl (Nat.le_of_ble_eq_true rfl) ?_
  refine r_aload_n dX3_init_0 rfl ?_
  refine r_objInit dX3_init_1 wd_856 wd_79 cd_80 (Nat.le_of_ble_eq_true rfl) (Nat.le_of_ble_eq_true rfl) ?_
  refine r_aload_n dX3_init_4 rfl ?_
  refine r_iconst (v := (-1 : Int32)) dX3_init_5 (by decide) ?_
  refine r_put (k0 := 1) tyX3 tyX3_ok nmX3 uX3 rfl dX3_init_6 wd_859 ha (by decide) rfl rfl rfl (Nat.le_of_ble_eq_true rfl) ?_
  refine r_aload_n dX3_init_9 rfl ?_
  refine r_aload_n dX3_init_10 rfl ?_
  refine r_putF (k0 := 2) tyX3 tyX3_ok nmX3 uX3 rfl dX3_init_11 wd_861 (va_up_self _ _ _) (by decide) rfl rfl rfl rfl rfl (Nat.le_of_ble_eq_true rfl) ?_
  rw [va_up2]
  refine r_aload_n dX3_init_14 rfl ?_
  refine r_iload_n dX3_init_15 rfl ?_
  refine r_putF (k0 := 3) tyX3 tyX3_ok nmX3 uX3 rfl dX3_init_16 wd_862 (va_up_self _ _ _) (by decide) rfl rfl rfl rfl rfl (Nat.le_of_ble_eq_true rfl) ?_
  rw [va_up2]
  refine r_aload_n dX3_init_19 rfl ?_
  refine r_aload_n dX3_init_20 rfl ?_
  refine r_putF (k0 := 4) tyX3 tyX3_ok nmX3 uX3 rfl dX3_init_21 wd_863 (va_up_self _ _ _) (by decide) rfl rfl rfl rfl rfl (Nat.le_of_ble_eq_true rfl) ?_
  rw [va_up2]
  refine r_aload_n dX3_init_24 rfl ?_
  refine r_aload dX3_init_25 rfl ?_
  refine r_putF (k0 := 5) tyX3 tyX3_ok nmX3 uX3 rfl dX3_init_27 wd_864 (va_up_self _ _ _) (by decide) rfl rfl rfl rfl rfl (Nat.le_of_ble_eq_true rfl) ?_
  rw [va_up2]
  exact r_vret dX3_init_30 rfl (Nat.le_of_ble_eq_true rfl) (Nat.le_of_ble_eq_true rfl) ⟨rfl, rfl, rfl⟩
theorem cE_T {B : Nat} {D : Nat → ClassId} {l : Nat → Nat × Nat} {T0 T1 U0 U1 : Nat} {d : Nat → Nat → UInt64} {q : Nat × Nat} {i : Nat → Int32} {j : Nat → Int64} {kk : Nat → Int32} {nn : Nat → Int64} {dd : Nat → UInt64} {o : Nat} (h9 : q.1 ≠ 9) (h3 : q.1 ≠ 3) : cE B D (l, U0, U1, d) q i j kk nn dd o = cE B D (l, T0, T1, d) q i j kk nn dd o := by
  unfold cE
  split <;> first | rfl | contradiction
theorem lay0_93 : ∀ o : Fin 155, o.1 ≠ 0 → (lay0 o.1).1 ≠ 9 ∧ (lay0 o.1).1 ≠ 3 := by decide +kernel
/-- what lies behind the run's own objects is nothing -/
def gEnd (lay : Nat → Nat × Nat) : Prop := ∀ o, 155 ≤ o → lay o = (99, 0)
variable {lay : Nat → Nat × Nat} {T0 T1 : Nat} {Dd : Nat → Nat → UInt64} {I K : gI} {J N : gJ}
theorem l93 (hE : gLay lay) (hj : gEnd lay) {o : Nat} (h : o ≠ 0) : (lay o).1 ≠ 9 ∧ (lay o).1 ≠ 3 := by
  by_cases c : o < 155
  · rw [hE o c]; exact lay0_93 ⟨o, c⟩ h
  · rw [hj o (by omega)]; exact ⟨by decide, by decide⟩
theorem fO_T (hE : gLay lay) (hj : gEnd lay) {U0 U1 : Nat} {e : va_E} (he : cO G (lay, U0, U1, Dd) I J K N 0 = e) : va_up (fO G (lay, T0, T1, Dd) I J K N) (G.2.2.1 + 0) e = fO G (lay, U0, U1, Dd) I J K N :=
  fO_up he fun o' h => cE_T (l93 hE hj h).1 (l93 hE hj h).2
theorem p9_5 {index U : Nat} (hd : decode mi.2.1 pc = .ok (.putfield index, 3)) (hl : Cond.fieldLink mi.1.cls index "RippleTank" "tank" "LRippleTank$Tank;" ∈ gW) (hE : gLay lay) (hj : gEnd lay) (kk : gAt G mi Qp (pc + 3) L st (fO G (lay, U, T1, Dd) I J K N) sz k n) : gAt G mi Qp pc L (.ref (G.2.2.1 + U) :: .ref (G.2.2.1 + 0) :: st) (fO G (lay, T0, T1, Dd) I J K N) sz k n := by
  refine r_put (k0 := 5) tyX9 tyX9_ok nmX9 uX9 rfl hd hl (fo9 (hE 0 (by decide))) (by decide) rfl rfl rfl (Nat.le_of_ble_eq_true rfl) ?_
  rw [fO_T (U0 := U) (U1 := T1) hE hj (by unfold cO; dsimp only; rw [hE 0 (by decide)]; rfl)]
  exact kk
theorem p9_6 {index U : Nat} (hd : decode mi.2.1 pc = .ok (.putfield index, 3)) (hl : Cond.fieldLink mi.1.cls index "RippleTank" "draft" "LRippleTank$Tank;" ∈ gW) (hE : gLay lay) (hj : gEnd lay) (kk : gAt G mi Qp (pc + 3) L st (fO G (lay, T0, U, Dd) I J K N) sz k n) : gAt G mi Qp pc L (.ref (G.2.2.1 + U) :: .ref (G.2.2.1 + 0) :: st) (fO G (lay, T0, T1, Dd) I J K N) sz k n := by
  refine r_put (k0 := 6) tyX9 tyX9_ok nmX9 uX9 rfl hd hl (fo9 (hE 0 (by decide))) (by decide) rfl rfl rfl (Nat.le_of_ble_eq_true rfl) ?_
  rw [fO_T (U0 := T0) (U1 := U) hE hj (by unfold cO; dsimp only; rw [hE 0 (by decide)]; rfl)]
  exact kk
theorem gTk {T : Nat} (hE : gLay lay) (h : T = 95 ∨ T = 116) : gTank lay T := by
  rcases h with rfl | rfl
  · refine ⟨hE _ (by decide), hE _ (by decide), hE _ (by decide), hE _ (by decide), hE _ (by decide), hE _ (by decide), fun x hx => ?_, fun x hx => ?_⟩
    · rcases (show x = 0 ∨ x = 1 ∨ x = 2 ∨ x = 3 by omega) with rfl | rfl | rfl | rfl <;> exact ⟨hE _ (by decide), hE _ (by decide), hE _ (by decide)⟩
    · rcases (show x = 0 ∨ x = 1 ∨ x = 2 by omega) with rfl | rfl | rfl <;> exact hE _ (by decide)
  · refine ⟨hE _ (by decide), hE _ (by decide), hE _ (by decide), hE _ (by decide), hE _ (by decide), hE _ (by decide), fun x hx => ?_, fun x hx => ?_⟩
    · rcases (show x = 0 ∨ x = 1 ∨ x = 2 ∨ x = 3 by omega) with rfl | rfl | rfl | rfl <;> exact ⟨hE _ (by decide), hE _ (by decide), hE _ (by decide)⟩
    · rcases (show x = 0 ∨ x = 1 ∨ x = 2 by omega) with rfl | rfl | rfl <;> exact hE _ (by decide)
theorem lay_new (hE : gLay lay) {o : Nat} (ho : 155 ≤ o) : gLay (va_up lay o (3, 0)) := by
  intro x hx
  rw [va_up_ne _ _ (by omega)]
  exact hE x hx
theorem fO_new {o : Nat} {v : Int32} : va_up (fO G (lay, T0, T1, Dd) (sI I 0 1 0) J K N) (G.2.2.1 + o) (.inr (3, [.int 0, .int (-1), .ref (G.2.2.1 + 1), .int v, .ref (G.2.2.1 + T1), .ref (G.2.2.1 + 10), .int 0, .int 0, .int 0, .int 0, .int 0, .int 0, .int 0, .int 0])) = fO G (va_up lay o (3, 0), T0, T1, Dd) (PrI I o v) J K N := by
  refine fO_up ?_ ?_
  · unfold cO
    simp only [va_up_self, cE, PrI_o]
    rfl
  · intro o' h
    unfold cO
    simp only [va_up_ne _ _ h]
    have e : PrI I o v o' = sI I 0 1 0 o' := by funext i; exact PrI_n I o v h i
    rw [e]
    unfold cE
    split <;> rfl
theorem dr_new (hj : gEnd lay) {o : Nat} (ho : 155 ≤ o) (a : Nat) : fO G (lay, T0, T1, Dd) I J K N a = gj ∨ fO G (lay, T0, T1, Dd) I J K N a = fO G (va_up lay o (3, 0), T0, T1, Dd) I J K N a := by
  unfold fO
  by_cases h : a < G.2.2.1
  · rw [if_pos h]; exact Or.inl rfl
  · rw [if_neg h, if_neg h]
    by_cases c : a - G.2.2.1 = o
    · left
      unfold cO
      rw [c, show (lay, T0, T1, Dd).1 o = (99, 0) from hj o ho]
      rfl
    · right
      unfold cO
      simp only [va_up_ne _ _ c]
      unfold cE
      split <;> rfl
section
variable {o : Nat} {a1 : Int32}
/-- from the text's start to the check of its fault -/
theorem ct_loadA (hs : G.1.stackTraces = false) (hE : gLay lay) (hj : gEnd lay) (hT1 : T1 = 95 ∨ T1 = 116) (ho : 155 ≤ o) {m : Nat} {I3 : gI} (hr : F_X3_readText m T1 o (PrI I o a1) = some I3) (h : 0 ≤ a1.toInt ∧ a1.toInt ≤ (I 0 1).toInt) {Φ : gO → gF → Nat → Prop}
    (kk : gAt G mX9_load (gQp G mX9_load Φ) 68 [some (.ref (G.2.2.1 + 0)), some (.int a1), some (.ref (G.2.2.1 + o)), none, none] [] (fO G (lay, T0, T1, Dd) (IcL I3 o) J K N) (G.2.2.1 + (o + 1)) 1 14) : gCt G mX9_load [.ref (G.2.2.1 + 0), .int a1] (fO G (lay, T0, T1, Dd) I J K N) (G.2.2.1 + o) Φ := by
  have hE' := lay_new hE ho
  have ho' : (va_up lay o (3, 0)) o = (3, 0) := va_up_self _ _ _
  refine gCt.of [some (.ref (G.2.2.1 + 0)), some (.int a1), none, none, none] (by decide +kernel) rfl hs rfl (Nat.le_of_ble_eq_true rfl) ?_
  refine r_iload_n dX9_load_0 rfl ?_
  refine r_if_lt (tgt := 12) dX9_load_1 (by decide) (fun c => absurd c (by rw [i_lt, ii_0]; omega)) (fun c => ?_)
  refine r_iload_n dX9_load_4 rfl ?_
  refine r_aload_n dX9_load_5 rfl ?_
  refine g9_1 dX9_load_6 wd_357 (hE 0 (by decide)) ?_
  refine r_icmp_le (tgt := 22) dX9_load_9 (by decide) (fun c9 => ?_) (fun c9 => absurd (i_le.mpr h.2) c9)
  refine r_aload_n dX9_load_22 rfl ?_
  refine r_iconst (v := (0 : Int32)) dX9_load_23 (by decide) ?_
  refine p9_1 dX9_load_24 wd_357 (hE 0 (by decide)) ?_
  refine r_new (ci := 3) tyX3 tyX3_ok uX3 rfl dX9_load_27 wd_851 wd_852 wd_59 dfX3_ok (Nat.le_of_ble_eq_true rfl) (Nat.le_of_ble_eq_true rfl) ?_
  refine r_dup dX9_load_30 rfl ?_
  refine r_aload_n dX9_load_31 rfl ?_
  refine r_get (k0 := 0) uX9 rfl dX9_load_32 wd_356 ((va_up_ne _ _ (by omega)).trans (fo9 (hE 0 (by decide)))) (by decide) rfl ?_
  refine r_iload_n dX9_load_35 rfl ?_
  refine r_aload_n dX9_load_36 rfl ?_
  refine r_get (k0 := 6) uX9 rfl dX9_load_37 wd_362 ((va_up_ne _ _ (by omega)).trans (fo9 (hE 0 (by decide)))) (by decide) rfl ?_
  refine r_aload_n dX9_load_40 rfl ?_
  refine r_get (k0 := 8) uX9 rfl dX9_load_41 wd_364 ((va_up_ne _ _ (by omega)).trans (fo9 (hE 0 (by decide)))) (by decide) rfl ?_
  refine r_callI (rest := [.ref (G.2.2.1 + o)]) (ct_X3_init hs (va_up_self _ _ _)) (fun E f' sz' h => by cases h.1) dX9_load_44 wd_853 zX3_init wd_854 rfl rfl rfl rfl rfl ⟨Nat.le_of_ble_eq_true rfl, Nat.le_of_ble_eq_true rfl⟩ (Nat.le_of_ble_eq_true rfl) ⟨Nat.le_of_ble_eq_true rfl, Nat.le_of_ble_eq_true rfl⟩ (fun v f' sz' h => ?_)
  obtain ⟨h1, h2, h3⟩ := h
  cases h1
  subst h2
  subst h3
  rw [va_up2, fO_new]
  refine r_astore_n dX9_load_47 (by decide) rfl ?_
  refine r_aload_n dX9_load_48 rfl ?_
  refine r_cVv (rest := []) (ct_X3_readText hs hE' (gTk hE' hT1) ho' hr) dX9_load_49 wd_902 zX3_readText wd_903 wd_904 rfl rfl rfl (fo3 ho') rfl rfl ⟨Nat.le_of_ble_eq_true rfl, Nat.le_of_ble_eq_true rfl⟩ (Nat.le_of_ble_eq_true rfl) ⟨Nat.le_of_ble_eq_true rfl, Nat.le_of_ble_eq_true rfl⟩ ?_
  refine r_aload_n dX9_load_52 rfl ?_
  refine r_aload_n dX9_load_53 rfl ?_
  refine g3_0 dX9_load_54 wd_858 ho' ?_
  refine p9_2 dX9_load_57 wd_358 (hE' 0 (by decide)) ?_
  refine r_aload_n dX9_load_60 rfl ?_
  refine r_aload_n dX9_load_61 rfl ?_
  refine g3_1 dX9_load_62 wd_860 ho' ?_
  refine p9_3 dX9_load_65 wd_359 (hE' 0 (by decide)) ?_
  rw [sI_o (by omega)]
  exact r_drop (dr_new hj ho) kk
set_option maxHeartbeats 4000000 in
set_option maxRecDepth 100000 in
theorem ct_loadS (hs : G.1.stackTraces = false) (hE : gLay lay) (hj : gEnd lay) (hT0 : T0 = 95 ∨ T0 = 116) (hT1 : T1 = 95 ∨ T1 = 116) (ho : 155 ≤ o) {m : Nat} {I3 : gI} (hr : F_X3_readText m T1 o (PrI I o a1) = some I3) (h : 0 ≤ a1.toInt ∧ a1.toInt ≤ (I 0 1).toInt) (ok : I3 o 0 = 0) (hc : F_X6_copyFrom m 2 10 (IcL I3 o) = some (cp (IcL I3 o) 2 10)) : gCt G mX9_load [.ref (G.2.2.1 + 0), .int a1] (fO G (lay, T0, T1, Dd) I J K N) (G.2.2.1 + o) (gR (some (.int (I3 T1 5))) (fO G (lay, T1, T0, Dd) (IfL I3 o) J K N) (G.2.2.1 + (o + 1))) := by
  refine ct_loadA hs hE hj hT1 ho hr h ?_
  refine r_aload_n dX9_load_68 rfl ?_
  refine g9_2 dX9_load_69 wd_358 (hE 0 (by decide)) ?_
  refine r_if_eq (tgt := 85) dX9_load_72 (by decide) (fun c => ?_) (fun c => absurd ?_ c)
  · refine r_aload_n dX9_load_85 rfl ?_
    refine g9_5 dX9_load_86 wd_361 (hE 0 (by decide)) ?_
    refine r_astore_n dX9_load_89 (by decide) rfl ?_
    refine r_aload_n dX9_load_90 rfl ?_
    refine r_aload_n dX9_load_91 rfl ?_
    refine g9_6 dX9_load_92 wd_362 (hE 0 (by decide)) ?_
    refine p9_5 dX9_load_95 wd_361 hE hj ?_
    refine r_aload_n dX9_load_98 rfl ?_
    refine r_aload_n dX9_load_99 rfl ?_
    refine p9_6 dX9_load_100 wd_362 hE hj ?_
    refine r_aload_n dX9_load_103 rfl ?_
    refine g9_7 dX9_load_104 wd_363 (hE 0 (by decide)) ?_
    refine r_aload_n dX9_load_107 rfl ?_
    refine g9_8 dX9_load_108 wd_364 (hE 0 (by decide)) ?_
    refine r_cVv (rest := []) (ct_X6_copyFrom hs hE (gSt2 hE) (gSt10 hE) hc) dX9_load_111 wd_688 zX6_copyFrom wd_689 wd_690 rfl rfl rfl (fo6 (gSt2 hE).1) rfl rfl ⟨Nat.le_of_ble_eq_true rfl, Nat.le_of_ble_eq_true rfl⟩ (Nat.le_of_ble_eq_true rfl) ⟨Nat.le_of_ble_eq_true rfl, Nat.le_of_ble_eq_true rfl⟩ ?_
    refine r_aload_n dX9_load_114 rfl ?_
    refine g9_9 dX9_load_115 wd_365 (hE 0 (by decide)) ?_
    refine r_cVv (rest := []) (ct_X0_clear (n := 0) hs hE rfl) dX9_load_118 wd_773 zX0_clear wd_774 wd_775 rfl rfl rfl (fo0 (hE 18 (by decide))) rfl rfl ⟨Nat.le_of_ble_eq_true rfl, Nat.le_of_ble_eq_true rfl⟩ (Nat.le_of_ble_eq_true rfl) ⟨Nat.le_of_ble_eq_true rfl, Nat.le_of_ble_eq_true rfl⟩ ?_
    refine r_iconst (v := (0 : Int32)) dX9_load_121 (by decide) ?_
    refine r_istore dX9_load_122 (by decide) rfl ?_
    refine r_iload dX9_load_124 rfl ?_
    refine r_iconst (v := (2 : Int32)) dX9_load_126 (by decide) ?_
    refine r_icmp_ge (tgt := 144) dX9_load_127 (by decide) (fun c => absurd c (by decide)) (fun _ => ?_)
    refine r_aload_n dX9_load_130 rfl ?_
    refine g9_11 dX9_load_131 wd_367 (hE 0 (by decide)) ?_
    refine r_iload dX9_load_134 rfl ?_
    refine r_iconst (v := (0 : Int32)) dX9_load_136 (by decide) ?_
    refine a_zast dX9_load_137 (hE 85 (by decide)) (vpc rfl) ?_
    refine r_iincv (v := (1 : Int32)) dX9_load_138 rfl (by decide) (by decide) rfl ?_
    refine r_goto (tgt := 124) dX9_load_141 (by decide) ?_
    refine r_iload dX9_load_124 rfl ?_
    refine r_iconst (v := (2 : Int32)) dX9_load_126 (by decide) ?_
    refine r_icmp_ge (tgt := 144) dX9_load_127 (by decide) (fun c => absurd c (by decide)) (fun _ => ?_)
    refine r_aload_n dX9_load_130 rfl ?_
    refine g9_11 dX9_load_131 wd_367 (hE 0 (by decide)) ?_
    refine r_iload dX9_load_134 rfl ?_
    refine r_iconst (v := (0 : Int32)) dX9_load_136 (by decide) ?_
    refine a_zast dX9_load_137 (hE 85 (by decide)) (vpc rfl) ?_
    refine r_iincv (v := (2 : Int32)) dX9_load_138 rfl (by decide) (by decide) rfl ?_
    refine r_goto (tgt := 124) dX9_load_141 (by decide) ?_
    refine r_iload dX9_load_124 rfl ?_
    refine r_iconst (v := (2 : Int32)) dX9_load_126 (by decide) ?_
    refine r_icmp_ge (tgt := 144) dX9_load_127 (by decide) (fun _ => ?_) (fun c => absurd (show (2 : Int32) ≤ 2 by decide) c)
    refine r_aload_n dX9_load_144 rfl ?_
    refine r_iconst (v := (1 : Int32)) dX9_load_145 (by decide) ?_
    refine p9_4 dX9_load_146 wd_360 (hE 0 (by decide)) rfl rfl ?_
    refine r_aload_n dX9_load_149 rfl ?_
    refine g9_5 dX9_load_150 wd_361 (hE 0 (by decide)) ?_
    refine g7_5 dX9_load_153 wd_310 (gTk hE hT1).1 ?_
    refine r_iret dX9_load_156 rfl (Nat.le_of_ble_eq_true rfl) (Nat.le_of_ble_eq_true rfl) ⟨?_, rfl, rfl⟩
    have e : (sI (sI (sI (sI (cp (IcL I3 o) 2 10) 18 2 0) 85 0 0) 85 1 0) 0 4 1) T1 5 = I3 T1 5 := by
      rw [sI_o (by omega), sI_o (by omega), sI_o (by omega), sI_o (by omega), cp_o _ _ _ _ _ (by omega)]
      unfold IcL
      rw [sI_o (by omega), sI_o (by omega)]
    exact congrArg (fun v => (Sum.inl (some (Value.int v)) : gO)) e
  · unfold IcL
    rw [sI_k (by decide), sI_self]; exact ok
end
end LOADB
