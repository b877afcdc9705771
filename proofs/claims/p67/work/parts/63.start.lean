/-! THE LAW, FROM ITS ENTRY TO ITS LOOP -/
theorem r_swap {G : gG} {mi : gM} {Qp : List Frame → Array Value → State → State → Prop} {pc : Nat} {L : List (Option Value)} {st : List Value} {f f' : gF} {sz k n : Nat} (h : ∀ a, f' a = gj ∨ (f a ≠ gj ∧ ∀ H, va_at G.2.1 vwCl (a, f a) H → va_at G.2.1 vwCl (a, f' a) H)) (kk : gAt G mi Qp pc L st f' sz k n) : gAt G mi Qp pc L st f sz k n := by
  intro p e s m args below meth c F H locs ls hl hw
  refine kk p e s m args below meth c F H locs ls hl ⟨fun a ha => ?_, hw.2⟩
  rcases h a with z | ⟨z1, z2⟩
  · exact absurd z ha
  · exact ⟨z2 _ (hw.1 a z1).1, (hw.1 a z1).2⟩

theorem lRU : RU lI0 := by
  intro x y hx hy
  show pt 640 (20 * x + y) = dst x y
  unfold pt
  rw [if_pos (by omega), show (20 * x + y) / 20 = x by omega, show (20 * x + y) % 20 = y by omega]
def lyW : Nat → Nat × Nat := va_up (va_up lyC 153 (202, 7)) 154 (202, 90)
theorem lyW_lay : gLay lyW := by
  intro o ho
  unfold lyW
  by_cases h : o = 154
  · rw [h, va_up_self]; rfl
  · rw [va_up_ne _ _ h]
    by_cases h2 : o = 153
    · rw [h2, va_up_self]; rfl
    · rw [va_up_ne _ _ h2]; exact if_pos (by omega)
theorem lyW_end : gEnd lyW := fun o ho => by
  unfold lyW
  rw [va_up_ne _ _ (by omega), va_up_ne _ _ (by omega)]
  exact lyC_end o (by omega)
section LST
variable {G : gG} {Qp : List Frame → Array Value → State → State → Prop} {zS : Nat} {S : Nat → Int32}
set_option maxHeartbeats 8000000 in
set_option maxRecDepth 100000 in
theorem law_start (hs : G.1.stackTraces = false) (hz : zS < 2147483648) (hS : gScr G zS S) (hU : gUA G (fun _ _ => 0)) (hend : lwEnd G Qp (fun _ _ => 0)) (f : gF) : gAt G mL_law Qp 0 [some (.ref (gsA G)), none, none, none, none, none, none, none, none, none, none, none, none, none, none, none, none, none, none, none, none, none] [] (fA G.2.2.1 f []) G.2.2.1 0 0 := by
  obtain ⟨W0, hW0⟩ : ∃ W0 : gI, W0 = va_up (va_up lK0 153 (fun _ => 0)) 154 (fun _ => 0) := ⟨_, rfl⟩
  obtain ⟨K2, ed, kf, D⟩ := drw_s (n := 30000) (S := S) (by decide) hz W0
  have k153 : ∀ i, K2 153 i = 0 := fun i => by rw [kf 153 (by decide), hW0, va_up_ne _ _ (by decide), va_up_self]
  have P : PB lI0 K2 lI0 K2 [] := ⟨by decide, fun i => by rw [show ([] : List Nat).getD i 0 = 0 by simp]; decide, ⟨rfl, fun i hi => absurd hi (Nat.not_lt_zero i), fun _ _ _ _ => rfl⟩, k153 5, k153 6, fun i hi => absurd hi (Nat.not_lt_zero i), fun _ _ _ => rfl⟩
  obtain ⟨I1, K3, Ln, es, b1, b2, b3, b4, b5, b6, b7⟩ := says_s (n := 30000) (T0 := 95) (T1 := 116) (by decide) D (fun k hk => (D.2.1 k hk).ok D.1) P
  obtain ⟨I3, er, e0, e5, cps, p, s, C, w, ph, sm, am, st0⟩ := ld_s (n := 30000) (T0 := 95) (T1 := 116) (o := 155) (I := I1) (K := K3) (W := K2 154) (by decide) D (fun i => b6 154 i (by decide)) (Or.inl ⟨rfl, rfl⟩) (by decide) b4 b7 (fun x y hx hy => by rw [b5 94 _ (by decide) (Or.inl (by decide))]; exact lRU x y hx hy) (by rw [b5 18 1 (by decide) (Or.inl (by decide))]; exact ⟨by decide, by decide⟩) (fun k hk => Or.inl (by rw [b5 11 k (by decide) (Or.inl (by decide))]; rfl))
  have tl := tText_l D
  refine r_new (ci := 9) (fs := dfX9) tyX9 tyX9_ok uX9 rfl dL_law_0 wd_73 wd_74 wd_45 dfX9_ok (Nat.le_of_ble_eq_true rfl) (Nat.le_of_ble_eq_true rfl) ?_
  rw [show va_up (fA G.2.2.1 f []) G.2.2.1 (.inr (9, dfX9)) = fA G.2.2.1 f [.inr (9, dfX9)] from fA_new (b := G.2.2.1) (n := 0) (T := []) rfl]
  refine r_dup dL_law_3 rfl ?_
  refine r_callI (rest := [.ref G.2.2.1]) (ct_X9_init hs) (fun E f' sz' h => by cases h.1) dL_law_4 wd_75 zX9_init wd_76 rfl rfl rfl rfl rfl ⟨Nat.le_of_ble_eq_true rfl, Nat.le_of_ble_eq_true rfl⟩ (Nat.le_of_ble_eq_true rfl) ⟨Nat.le_of_ble_eq_true rfl, Nat.le_of_ble_eq_true rfl⟩ (fun v f' sz' h => ?_)
  obtain ⟨h1, h2, h3⟩ := h
  cases h1
  subst h2
  subst h3
  refine r_swap (lT_swap G f) ?_
  refine r_astore_n dL_law_7 (by decide) rfl ?_
  refine r_bipush (v := (7 : Int32)) dL_law_8 (by decide) ?_
  refine r_newa (ty := FieldType.int) (N := 7) (a0 := (7, .inl (fun _ => 0))) 2 rfl rfl ⟨rfl, fun _ _ h => h⟩ na_i wd_142 (by decide) (by decide) (by decide) (Nat.le_of_ble_eq_true rfl) (Nat.le_of_ble_eq_true rfl) dL_law_10 ?_
  unfold lE0
  rw [fO_r2]
  refine r_astore_n dL_law_12 (by decide) rfl ?_
  refine r_aload_n dL_law_13 rfl ?_
  rw [hW0] at ed
  have hCd := ct_L_drawn (G := G) (lay := va_up lyC 153 (202, 7)) (T0 := 95) (T1 := 116) (Dd := fun _ _ => 0) (I := lI0) (J := lJ0) (K := va_up lK0 153 (fun _ => 0)) (N := lJ0) hs lyW_lay hS ed
  refine r_cSx (mz := mL_drawn) (As := [.ref (gsA G)]) (rest := []) hCd dL_law_14 wd_780 zL_drawn wd_781 rfl rfl rfl ⟨Nat.le_of_ble_eq_true rfl, Nat.le_of_ble_eq_true rfl⟩ (Nat.le_of_ble_eq_true rfl) ⟨Nat.le_of_ble_eq_true rfl, Nat.le_of_ble_eq_true rfl⟩ ?_
  refine r_astore_n dL_law_17 (by decide) rfl ?_
  refine r_aload_n dL_law_18 rfl ?_
  refine r_aload_n dL_law_19 rfl ?_
  refine r_aload_n dL_law_20 rfl ?_
  have hv : 0 ≤ (Int32.ofNat (tText (K2 154)).length).toInt ∧ (Int32.ofNat (tText (K2 154)).length).toInt ≤ (I1 0 1).toInt := by rw [b3, i_of (by omega), i_of (by omega)]; omega
  have hCs := ct_L_says (G := G) (lay := lyW) (T0 := 95) (T1 := 116) (Dd := fun _ _ => 0) (I := lI0) (J := lJ0) (K := K2) (N := lJ0) (o := 155) hs lyW_lay lyW_end (Or.inl rfl) (Or.inr rfl) (by decide) es er hv e0 cps
  refine r_cSx (mz := mL_says) (As := [.ref (G.2.2.1 + 0), .ref (G.2.2.1 + 153), .ref (G.2.2.1 + 154)]) (rest := []) hCs dL_law_21 wd_786 zL_says wd_787 rfl rfl rfl ⟨Nat.le_of_ble_eq_true rfl, Nat.le_of_ble_eq_true rfl⟩ (Nat.le_of_ble_eq_true rfl) ⟨Nat.le_of_ble_eq_true rfl, Nat.le_of_ble_eq_true rfl⟩ ?_
  refine r_aload_n dL_law_24 rfl ?_
  refine r_bipush (v := (6 : Int32)) dL_law_25 (by decide) ?_
  refine m_ialdc 6 dL_law_27 (lyW_lay 154 (by decide)) (vpc rfl) rfl ?_
  refine r_icmp_eq (tgt := 33) dL_law_28 (by decide) (fun _ => ?_) (fun c => absurd (by rw [e5, b6 154 6 (by decide)]) c)
  refine r_iconst (v := (0 : Int32)) dL_law_33 (by decide) ?_
  refine r_istore dL_law_34 (by decide) rfl ?_
  exact r_widen (k2 := 400) (n2 := 50000) (Nat.le_of_ble_eq_true rfl) (Nat.le_of_ble_eq_true rfl) (lw_loop (n := 30000) hs (by decide) hz hS hU hend 6 0 156 400 50000 116 95 lyW (IfL I3 155) lJ0 K3 lJ0 p s rfl (by decide) (by decide) (by decide) lyW_lay C w sm ph am (by rw [st0, ii_0]; decide))
end LST
