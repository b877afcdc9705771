/-! THE LAW: rules of its body, its wrappers' calls; which exceptions a method of the face throws; no NaN -/
def gVs (v : Value) (f : gF) : gO → gF → Nat → Prop := fun o f' _ => o = .inl (some v) ∧ f' = f
theorem lk {k a A : Nat} (h : k + 64 ≤ A) (h2 : Nat.ble a 64 = true) : k + a ≤ A := by
  have := Nat.le_of_ble_eq_true h2
  omega
section GL
variable {G : gG} {mi : gM} {Qp : List Frame → Array Value → State → State → Prop} {pc : Nat} {L : List (Option Value)} {st : List Value} {f f1 : gF} {sz k n : Nat}
theorem r_callVX {mz : gM} {index na ci b : Nat} {As rest st0 fs : List Value} {q : vw_C} {E : String} (hC : gCt G mz (.ref b :: As) f sz (gT E f1)) (hd : decode mi.2.1 pc = .ok (.invokevirtual index, 3)) (hl : Cond.methodLink mi.1.cls index mz.1 ∈ gW) (hz : gZ mz na) (hi : Cond.instanceMethod mz.1 ∈ gW) (hse : Cond.selects mz.1.cls mz.1 mz.1 ∈ gW) (hT : mz.2.2.2.2.2 = []) (hst : st0 = As.reverse ++ .ref b :: rest) (hna : As.length = na) (hb : f b = .inr (ci, fs)) (hq : vwCl[ci]? = some q) (hqc : q.1 = mz.1.cls) (hR : mz.2.2.2.2.1.frames + 1 ≤ mi.2.2.2.2.1.frames ∧ 8 + (mz.2.2.1 + 11) + mz.2.2.2.2.1.locals ≤ mi.2.2.2.2.1.locals) (hW : (rest.map fun v => v.category).sum ≤ 8) (hk : k + mz.2.2.2.2.1.cells ≤ mi.2.2.2.2.1.cells ∧ n + mz.2.2.2.2.1.slots ≤ mi.2.2.2.2.1.slots)
    (hx : ∀ sz', gAtX G mi Qp pc E L f1 sz' (k + mz.2.2.2.2.1.cells) (n + mz.2.2.2.2.1.slots)) : gAt G mi Qp pc L st0 f sz k n :=
  r_callV hC hd hl hz hi hse hT hst hna hb hq hqc hR hW hk (fun E' f' sz' h => by obtain ⟨h1, h2⟩ := h; cases h1; subst h2; exact hx sz') (fun v f' sz' h => by cases h.1)
/-- a call that makes nothing -/
theorem r_cV0 {mz : gM} {index na : Nat} {As rest st0 : List Value} {ci b : Nat} {fs : List Value} {q : vw_C} {u : Value} (hC : gCt G mz (.ref b :: As) f sz (gR (some u) f1 sz)) (hd : decode mi.2.1 pc = .ok (.invokevirtual index, 3)) (hl : Cond.methodLink mi.1.cls index mz.1 ∈ gW) (hz : gZ mz na) (hi : Cond.instanceMethod mz.1 ∈ gW) (hse : Cond.selects mz.1.cls mz.1 mz.1 ∈ gW) (hT : mz.2.2.2.2.2 = []) (hst : st0 = As.reverse ++ .ref b :: rest) (hna : As.length = na) (hb : f b = .inr (ci, fs)) (hq : vwCl[ci]? = some q) (hqc : q.1 = mz.1.cls) (hR : mz.2.2.2.2.1.frames + 1 ≤ mi.2.2.2.2.1.frames ∧ 8 + (mz.2.2.1 + 11) + mz.2.2.2.2.1.locals ≤ mi.2.2.2.2.1.locals) (hW : (rest.map fun v => v.category).sum ≤ 8) (h0 : mz.2.2.2.2.1.cells = 0 ∧ mz.2.2.2.2.1.slots = 0) (hk : k ≤ mi.2.2.2.2.1.cells ∧ n ≤ mi.2.2.2.2.1.slots) (kk : gAt G mi Qp (pc + 3) L (u :: rest) f1 sz k n) : gAt G mi Qp pc L st0 f sz k n := by
  refine r_cVi hC hd hl hz hi hse hT hst hna hb hq hqc hR hW (by rw [h0.1, h0.2]; exact hk) ?_
  rw [h0.1, h0.2]
  exact kk
/-- a static call of a method with handlers -/
theorem r_callSW {mz : gM} {index na : Nat} {As rest st0 : List Value} {Ψ : gO → gF → Nat → Prop} {h0 : Nat × Nat × Nat × Nat} {ht : List (Nat × Nat × Nat × Nat)} (hC : gCt G mz As f sz Ψ) (hx : ∀ E f' sz', ¬ Ψ (.inr E) f' sz') (hd : decode mi.2.1 pc = .ok (.invokestatic index, 3)) (hl : Cond.methodLink mi.1.cls index mz.1 ∈ gW) (hz : gZ mz na) (hs : Cond.static mz.1 ∈ gW) (hT : mz.2.2.2.2.2 = h0 :: ht)
    (hst : st0 = As.reverse ++ rest) (hna : As.length = na) (hR : mz.2.2.2.2.1.frames + 1 ≤ mi.2.2.2.2.1.frames ∧ 8 + (mz.2.2.1 + 11) + mz.2.2.2.2.1.locals ≤ mi.2.2.2.2.1.locals) (hW : (rest.map fun v => v.category).sum ≤ 8) (hk : k + mz.2.2.2.2.1.cells ≤ mi.2.2.2.2.1.cells ∧ n + mz.2.2.2.2.1.slots ≤ mi.2.2.2.2.1.slots)
    (kk : ∀ (v : Option Value) (f' : gF) (sz' : Nat), Ψ (.inl v) f' sz' → gAt G mi Qp (pc + 3) L (v.toList ++ rest) f' sz' (k + mz.2.2.2.2.1.cells) (n + mz.2.2.2.2.1.slots)) : gAt G mi Qp pc L st0 f sz k n := by
  intro p e s m args below meth c F H locs ls hl2 hw
  have hcw : gCode mz = .codeWith mz.1 mz.2.1 mz.2.2.1 mz.2.2.2.1 (h0 :: ht) := by unfold gCode; rw [hT]
  have hin : GoodIn gW (va_wsS mi.1.cls index mz.1 (gCode mz :: gW)) := by
    intro w hw9
    have h9 : w ∈ gW := by
      rcases List.mem_append.mp hw9 with h | h
      · rcases List.mem_cons.mp h with rfl | h
        · exact hl
        · rcases List.mem_cons.mp h with rfl | h
          · exact hs
          · rcases List.mem_cons.mp h with rfl | h
            · exact hz.2.1
            · cases h
      · exact gW_cons hz.1 w h
    exact ⟨h9, good_of_word (List.mem_filter.mp h9).2⟩
  have cw : vx_CSW mi.2.2.2.2.1 s args mi.1.cls index mz.1 mz.2.1 mz.2.2.1 mz.2.2.2.1 (h0 :: ht) (gCode mz :: gW) mz.2.2.2.2.1 mz.2.2.2.2.1.cells mz.2.2.2.2.1.slots na :=
    vx_cwSW (ws' := gW) na F.2.2.2.2.1 hin (by rw [hcw]) rfl rfl hz.2.2 hR
  have hrun : va_Run p G.1 e mi.2.2.2.2.1 s m args below meth c H locs k n mz.2.2.2.2.1.cells mz.2.2.2.2.1.slots (F0 m pc ls st0) rest (gQ G Ψ As.toArray) (gA G) := vx_runSW (As := As) (rest := rest) (g_fix F) (hC.met hx) cw ⟨gBlind, fun U hU hWm => ⟨rfl, hw.wd hU hWm⟩⟩ rfl hna hl2.1 hst (lv_room hW) hd hk
  intro T hT9 X
  obtain ⟨v, st₀, t, T', L9, h09, X', hL, e1, e2, ⟨⟨v', f', sz', hv, hp, hb, hz9⟩, hF⟩, st9⟩ := hrun T hT9 X
  cases hv
  obtain ⟨t2, a1, b1⟩ := kk v f' sz' hp p e s m args below meth c F T'.heap (locs ++ L9) ls hl2 (g_keep hw h09 e1 hL hF hb hz9) T' rfl X'
  exact ⟨t2, st9 t2 a1, b1⟩
theorem r_cSW1 {mz : gM} {index na : Nat} {As rest st0 : List Value} {u : Value} {h0 : Nat × Nat × Nat × Nat} {ht : List (Nat × Nat × Nat × Nat)} (hC : gCt G mz As f sz (gR (some u) f1 sz)) (hd : decode mi.2.1 pc = .ok (.invokestatic index, 3)) (hl : Cond.methodLink mi.1.cls index mz.1 ∈ gW) (hz : gZ mz na) (hs : Cond.static mz.1 ∈ gW) (hT : mz.2.2.2.2.2 = h0 :: ht)
    (hst : st0 = As.reverse ++ rest) (hna : As.length = na) (hR : mz.2.2.2.2.1.frames + 1 ≤ mi.2.2.2.2.1.frames ∧ 8 + (mz.2.2.1 + 11) + mz.2.2.2.2.1.locals ≤ mi.2.2.2.2.1.locals) (hW : (rest.map fun v => v.category).sum ≤ 8) (hk : k + mz.2.2.2.2.1.cells ≤ mi.2.2.2.2.1.cells ∧ n + mz.2.2.2.2.1.slots ≤ mi.2.2.2.2.1.slots)
    (kk : gAt G mi Qp (pc + 3) L (u :: rest) f1 sz (k + mz.2.2.2.2.1.cells) (n + mz.2.2.2.2.1.slots)) : gAt G mi Qp pc L st0 f sz k n :=
  r_callSW hC (fun E f' sz' h => by cases h.1) hd hl hz hs hT hst hna hR hW hk (fun v f' sz' h => by
    obtain ⟨h1, h2, h3⟩ := h
    cases h1
    subst h2
    subst h3
    exact kk)
/-- the same, where the heap's new size isn't told -/
theorem r_cSWs {mz : gM} {index na : Nat} {As rest st0 : List Value} {u : Value} {h0 : Nat × Nat × Nat × Nat} {ht : List (Nat × Nat × Nat × Nat)} (hC : gCt G mz As f sz (gVs u f1)) (hd : decode mi.2.1 pc = .ok (.invokestatic index, 3)) (hl : Cond.methodLink mi.1.cls index mz.1 ∈ gW) (hz : gZ mz na) (hs : Cond.static mz.1 ∈ gW) (hT : mz.2.2.2.2.2 = h0 :: ht)
    (hst : st0 = As.reverse ++ rest) (hna : As.length = na) (hR : mz.2.2.2.2.1.frames + 1 ≤ mi.2.2.2.2.1.frames ∧ 8 + (mz.2.2.1 + 11) + mz.2.2.2.2.1.locals ≤ mi.2.2.2.2.1.locals) (hW : (rest.map fun v => v.category).sum ≤ 8) (hk : k + mz.2.2.2.2.1.cells ≤ mi.2.2.2.2.1.cells ∧ n + mz.2.2.2.2.1.slots ≤ mi.2.2.2.2.1.slots)
    (kk : ∀ sz', gAt G mi Qp (pc + 3) L (u :: rest) f1 sz' (k + mz.2.2.2.2.1.cells) (n + mz.2.2.2.2.1.slots)) : gAt G mi Qp pc L st0 f sz k n :=
  r_callSW hC (fun E f' sz' h => by cases h.1) hd hl hz hs hT hst hna hR hW hk (fun v f' sz' h => by
    obtain ⟨h1, h2⟩ := h
    cases h1
    subst h2
    exact kk sz')
theorem r_tl {x y : Int64} (h : x = y) (kk : gAt G mi Qp pc L (.long y :: st) f sz k n) : gAt G mi Qp pc L (.long x :: st) f sz k n := by
  subst h; exact kk
theorem r_td {x y : UInt64} (h : x = y) (kk : gAt G mi Qp pc L (.double y :: st) f sz k n) : gAt G mi Qp pc L (.double x :: st) f sz k n := by
  subst h; exact kk
theorem hp0 {P : ExceptionTableEntry → Prop} : ∀ z ∈ tableOf [], P z := fun z hz => by cases hz
theorem hp1 {q : Nat × Nat × Nat × Nat} {P : ExceptionTableEntry → Prop} (h : P ⟨q.1, q.2.1, q.2.2.1, q.2.2.2⟩) : ∀ z ∈ tableOf [q], P z := by
  intro z hz
  rcases List.mem_cons.mp hz with rfl | hz
  · exact h
  · cases hz
theorem hp2 {q r : Nat × Nat × Nat × Nat} {P : ExceptionTableEntry → Prop} (h : P ⟨q.1, q.2.1, q.2.2.1, q.2.2.2⟩) (h' : P ⟨r.1, r.2.1, r.2.2.1, r.2.2.2⟩) : ∀ z ∈ tableOf [q, r], P z := by
  intro z hz
  rcases List.mem_cons.mp hz with rfl | hz
  · exact h
  · rcases List.mem_cons.mp hz with rfl | hz
    · exact h'
    · cases hz
theorem nc_12 : (IOB, ISE) ∈ gNc := by decide +kernel
theorem nc_13 : (IAE, ISE) ∈ gNc := by decide +kernel
theorem nc_23 : (IAE, IOB) ∈ gNc := by decide +kernel
theorem nc_21 : (ISE, IOB) ∈ gNc := by decide +kernel
theorem thA_ne (E : String) : ¬ thA E = 0 := by
  unfold thA
  by_cases h : E = ISE
  · rw [if_pos h]; decide
  · rw [if_neg h]
    by_cases h : E = IOB
    · rw [if_pos h]; decide
    · rw [if_neg h]; decide
theorem thB_ne (E : String) : ¬ thB E = 0 := by
  unfold thB
  by_cases h : E = ISE
  · rw [if_pos h]; decide
  · rw [if_neg h]; decide
theorem thC_ne (E : String) : ¬ thC E = 0 := by
  unfold thC
  decide
theorem thE_ne (E : String) : ¬ thE E = 0 := by
  unfold thE
  by_cases h : E = IOB
  · rw [if_pos h]; decide
  · rw [if_neg h]; decide
section
variable {E : gE} {I : gI} {J : gJ} {K : gI} {N : gJ}
end
end GL
section GLS
variable {G : gG} {mi : gM} {Qp : List Frame → Array Value → State → State → Prop} {pc : Nat} {L : List (Option Value)} {st : List Value} {sz k n : Nat} {lay : Nat → Nat × Nat} {T0 T1 : Nat} {Dd : Nat → Nat → UInt64} {I : gI} {J : gJ} {K : gI} {N : gJ}
/-- the run's own objects lie in the heap -/
theorem r_sz (hE : gLay lay) (kk : G.2.2.1 + 172 ≤ sz → gAt G mi Qp pc L st (fO G (lay, T0, T1, Dd) I J K N) sz k n) : gAt G mi Qp pc L st (fO G (lay, T0, T1, Dd) I J K N) sz k n := by
  intro p e s m args below meth c F H locs ls hl hw
  refine kk ?_ p e s m args below meth c F H locs ls hl hw
  have h := (hw.1 (G.2.2.1 + 171) (by rw [fo104 (E := (lay, T0, T1, Dd)) (o := 171) (z := 1) (hE 171 (by decide))]; exact fun h => by cases h)).1.lt
  have hz := hw.2.2.1
  dsimp only at h
  omega
/-- a double into the law's row -/
def sD (Dd : Nat → Nat → UInt64) (o j : Nat) (v : UInt64) : Nat → Nat → UInt64 := va_up Dd o (vf_upd (Dd o) j v)
theorem sD_self {o j : Nat} {v : UInt64} : sD Dd o j v o j = v := by
  unfold sD
  rw [va_up_self]
  simp [vf_upd]
theorem sJ_self {o j : Nat} {v : Int64} : sJ J o j v o j = v := by
  unfold sJ
  rw [va_up_self]
  simp [vp_updL]
theorem r_dastO (hE : gLay lay) {i : Int32} {v : UInt64} (hd : decode mi.2.1 pc = .ok (.dastore, 1)) (hi : i = 0) (kk : gAt G mi Qp (pc + 1) L st (fO G (lay, T0, T1, sD Dd 171 0 v) I J K N) sz k n) : gAt G mi Qp pc L (.double v :: .int i :: .ref (G.2.2.1 + 171) :: st) (fO G (lay, T0, T1, Dd) I J K N) sz k n := by
  subst hi
  have h171 : lay 171 = (104, 1) := hE 171 (by decide)
  refine r_dast hd (fo104 (E := (lay, T0, T1, Dd)) (o := 171) (z := 1) h171) (vpc rfl) ?_
  have e : va_up (fO G (lay, T0, T1, Dd) I J K N) (G.2.2.1 + 171) (.inl (G.2.1.1 104, 1, .inr (.inr (.inr (.inl (vf_upd (Dd 171) 0 v)))))) = fO G (lay, T0, T1, sD Dd 171 0 v) I J K N := by
    refine fO_up ?_ ?_
    · show cE G.2.2.1 G.2.1.1 (lay, T0, T1, sD Dd 171 0 v) (lay 171) (I 171) (J 171) (K 171) (N 171) (sD Dd 171 0 v 171) 171 = _
      rw [h171]
      show (.inl (G.2.1.1 104, 1, .inr (.inr (.inr (.inl (va_up Dd 171 (vf_upd (Dd 171) 0 v) 171))))) : va_E) = _
      rw [va_up_self]
    · intro o' ho'
      show cE G.2.2.1 G.2.1.1 (lay, T0, T1, sD Dd 171 0 v) (lay o') (I o') (J o') (K o') (N o') (sD Dd 171 0 v o') o' = cE G.2.2.1 G.2.1.1 (lay, T0, T1, Dd) (lay o') (I o') (J o') (K o') (N o') (Dd o') o'
      rw [show sD Dd 171 0 v o' = Dd o' from va_up_ne _ _ ho']
      first | rfl | (unfold cE; rfl) | (unfold cE; split <;> rfl)
  exact (congrArg (fun g => gAt G mi Qp (pc + 1) L st g sz k n) e).mpr kk
end GLS
/-! which exceptions -/
def EXs {α : Type} (S : String → Prop) (x : Option (String ⊕ α)) : Prop := ∀ E, x = some (.inl E) → S E
section EX
variable {α β : Type} {S : String → Prop}
theorem ex_r {v : α} : EXs S (some (.inr v)) := fun E h => by cases h
theorem ex_n : EXs S (none : Option (String ⊕ α)) := fun E h => by cases h
theorem ex_l {E : String} (h : S E) : EXs S (some (.inl E) : Option (String ⊕ α)) := fun E' h' => by cases h'; exact h
theorem ex_b {x : Option β} {g : β → Option (String ⊕ α)} (h : ∀ v, EXs S (g v)) : EXs S (bd x g) := fun E h' => by
  obtain ⟨a, -, h2⟩ := bd_of h'
  exact h a E h2
theorem ex_bs {x : Option (String ⊕ β)} {g : β → Option (String ⊕ α)} (hx : EXs S x) (h : ∀ v, EXs S (g v)) : EXs S (bd x (fun v => sm v (fun e => some (.inl e)) g)) := fun E h' => by
  obtain ⟨a, h1, h2⟩ := bd_of h'
  rcases a with e | v
  · have h3 : some (Sum.inl e : String ⊕ α) = some (.inl E) := h2
    cases h3
    exact hx E h1
  · exact h v E h2
theorem ex_if {c : Prop} [Decidable c] {x y : Option (String ⊕ α)} (h1 : EXs S x) (h2 : EXs S y) : EXs S (if c then x else y) := fun E h => by
  by_cases hc : c
  · rw [if_pos hc] at h; exact h1 E h
  · rw [if_neg hc] at h; exact h2 E h
theorem ex_gd {c : Prop} [Decidable c] {x : Option (String ⊕ α)} (h1 : EXs S x) : EXs S (gd c x) := fun E h => h1 E (gd_of h).2
theorem ex_gv {i : Int32} {z : Nat} {x : Option (String ⊕ α)} (h1 : EXs S x) : EXs S (gv i z x) := fun E h => h1 E (gv_of h).2
theorem ex_gf {x y : UInt32} {u : Option (String ⊕ α)} (h1 : EXs S u) : EXs S (gfd x y u) := fun E h => h1 E (gfd_of h).2
end EX
/-! a float that is no NaN, as a double -/
theorem fw_asm (s : Bool) (e t : Nat) (he : e < 2048) (ht : t < 4503599627370496) : FP.Core.assemble FP.Core.b64 s e t % 9223372036854775808 = e * 4503599627370496 + t := by
  have h : FP.Core.assemble FP.Core.b64 s e t = (s.toNat * 2048 + e) * 4503599627370496 + t := rfl
  rw [h]
  cases s
  · simp only [Bool.toNat_false]; omega
  · simp only [Bool.toNat_true]; omega
def fwG (d : FP.Core.Datum) : Prop := (∃ s, d = .inf s) ∨ ∃ s c q, d = .fin s c q ∧ c < 9007199254740992 ∧ -1074 ≤ q ∧ q ≤ 971
theorem fw_enc {d : FP.Core.Datum} (h : fwG d) : FP.Core.encode FP.Core.b64 d % 9223372036854775808 ≤ 9218868437227405312 := by
  rcases h with ⟨s, rfl⟩ | ⟨s, c, q, rfl, h1, h2, h3⟩
  · show FP.Core.assemble FP.Core.b64 s 2047 0 % 9223372036854775808 ≤ _
    rw [fw_asm s 2047 0 (by decide) (by decide)]; decide
  · show (if c < 4503599627370496 then FP.Core.assemble FP.Core.b64 s 0 c else FP.Core.assemble FP.Core.b64 s ((q - (-1074)).toNat + 1) (c - 4503599627370496)) % 9223372036854775808 ≤ _
    by_cases hc : c < 4503599627370496
    · rw [if_pos hc, fw_asm s 0 c (by decide) hc]; omega
    · rw [if_neg hc, fw_asm s _ _ (by omega) (by omega)]; omega
theorem fw_settle (s : Bool) (c : Nat) (q : Int) (hq : -1074 ≤ q) : fwG (FP.Core.settle FP.Core.b64 s c q) := by
  show fwG (if c < 9007199254740992 then (if q ≤ 971 then .fin s c q else .inf s) else (if q + 1 ≤ 971 then .fin s 4503599627370496 (q + 1) else .inf s))
  by_cases h : c < 9007199254740992
  · rw [if_pos h]
    by_cases h2 : q ≤ 971
    · rw [if_pos h2]; exact Or.inr ⟨s, c, q, rfl, h, hq, h2⟩
    · rw [if_neg h2]; exact Or.inl ⟨s, rfl⟩
  · rw [if_neg h]
    by_cases h2 : q + 1 ≤ 971
    · rw [if_pos h2]; exact Or.inr ⟨s, _, _, rfl, by decide, by omega, h2⟩
    · rw [if_neg h2]; exact Or.inl ⟨s, rfl⟩
theorem fw_ratio (s : Bool) (num den : Nat) (e : Int) : fwG (FP.Core.roundRatio FP.Core.b64 s num den e) := by
  unfold FP.Core.roundRatio
  by_cases h : num = 0
  · rw [if_pos h]; exact Or.inr ⟨s, 0, -1074, rfl, by decide, by decide, by decide⟩
  · rw [if_neg h]
    refine fw_settle s _ _ ?_
    unfold FP.Core.quantum
    show (-1074 : Int) ≤ max (-1074) _
    omega
theorem fw_dec {n : Nat} (h : n % 2147483648 ≤ 2139095040) : ¬ FP.Core.decode FP.Core.b32 n = .nan := by
  have e : FP.Core.decode FP.Core.b32 n = if n / 8388608 % 256 = 255 then (if n % 8388608 = 0 then .inf (FP.Core.fieldS FP.Core.b32 n) else .nan) else if n / 8388608 % 256 = 0 then .fin (FP.Core.fieldS FP.Core.b32 n) (n % 8388608) (-149) else .fin (FP.Core.fieldS FP.Core.b32 n) (8388608 + n % 8388608) (-149 + (((n / 8388608 % 256 : Nat) : Int) - 1)) := rfl
  rw [e]
  by_cases h1 : n / 8388608 % 256 = 255
  · rw [if_pos h1, if_pos (by omega)]; exact fun h => by cases h
  · rw [if_neg h1]
    by_cases h0 : n / 8388608 % 256 = 0
    · rw [if_pos h0]; exact fun h => by cases h
    · rw [if_neg h0]; exact fun h => by cases h
theorem fw_dec64 {n : Nat} (h : n % 9223372036854775808 ≤ 9218868437227405312) : ¬ FP.Core.decode FP.Core.b64 n = .nan := by
  have e : FP.Core.decode FP.Core.b64 n = if n / 4503599627370496 % 2048 = 2047 then (if n % 4503599627370496 = 0 then .inf (FP.Core.fieldS FP.Core.b64 n) else .nan) else if n / 4503599627370496 % 2048 = 0 then .fin (FP.Core.fieldS FP.Core.b64 n) (n % 4503599627370496) (-1074) else .fin (FP.Core.fieldS FP.Core.b64 n) (4503599627370496 + n % 4503599627370496) (-1074 + (((n / 4503599627370496 % 2048 : Nat) : Int) - 1)) := rfl
  rw [e]
  by_cases h1 : n / 4503599627370496 % 2048 = 2047
  · rw [if_pos h1, if_pos (by omega)]; exact fun h => by cases h
  · rw [if_neg h1]
    by_cases h0 : n / 4503599627370496 % 2048 = 0
    · rw [if_pos h0]; exact fun h => by cases h
    · rw [if_neg h0]; exact fun h => by cases h
theorem fw_f2d {x : UInt32} (hx : vf_n32 x) : (FP.f2d x).toNat % 9223372036854775808 ≤ 9218868437227405312 := by
  have h31 : x.toNat % 2147483648 ≤ 2139095040 := by
    have h := hx
    unfold vf_n32 at h
    rw [UInt32.le_iff_toNat_le, UInt32.toNat_and] at h
    have k1 : (0x7fffffff : UInt32).toNat = 2 ^ 31 - 1 := by decide
    have k2 : (0x7f800000 : UInt32).toNat = 2139095040 := by decide
    rw [k1, k2, Nat.and_two_pow_sub_one_eq_mod] at h
    exact h
  have hn := fw_dec h31
  have hnan : FP.Core.fIsNaN x = false := decide_eq_false hn
  have e : FP.f2d x = UInt64.ofNat (FP.Core.encode FP.Core.b64 (FP.Core.round FP.Core.b64 (FP.Core.decode FP.Core.b32 x.toNat))) := by
    unfold FP.f2d
    rw [hnan]
    rfl
  rw [e]
  have g : fwG (FP.Core.round FP.Core.b64 (FP.Core.decode FP.Core.b32 x.toNat)) := by
    generalize FP.Core.decode FP.Core.b32 x.toNat = d at hn
    cases d with
    | nan => exact absurd rfl hn
    | inf s => exact Or.inl ⟨s, rfl⟩
    | fin s c q => exact fw_ratio s c 1 q
  have h := fw_enc g
  generalize FP.Core.encode FP.Core.b64 (FP.Core.round FP.Core.b64 (FP.Core.decode FP.Core.b32 x.toNat)) = m at h ⊢
  have et : (UInt64.ofNat m).toNat = m % 18446744073709551616 := by simp
  rw [et]
  omega
theorem fw_n64 {x : UInt32} (hx : vf_n32 x) : vf_n64 (FP.f2d x) := by
  have h := fw_f2d hx
  unfold vf_n64
  rw [UInt64.le_iff_toNat_le, UInt64.toNat_and]
  have k1 : (0x7fffffffffffffff : UInt64).toNat = 2 ^ 63 - 1 := by decide
  have k2 : (0x7ff0000000000000 : UInt64).toNat = 9218868437227405312 := by decide
  rw [k1, k2, Nat.and_two_pow_sub_one_eq_mod]
  exact h
theorem fw_cmp {x : UInt32} (hx : vf_n32 x) (op : CmpOp) : Op.cmpValue (FP.dcmp (FP.f2d x) (FP.f2d x)) op = 0 := by
  have h := fw_dec64 (fw_f2d hx)
  have e : FP.dcmp (FP.f2d x) (FP.f2d x) = FP.Core.order (FP.Core.decode FP.Core.b64 (FP.f2d x).toNat) (FP.Core.decode FP.Core.b64 (FP.f2d x).toNat) := rfl
  rw [e]
  generalize FP.Core.decode FP.Core.b64 (FP.f2d x).toNat = d at h
  have c : ∀ a : Int, compare a a = .eq := fun a => by simp [compare, compareOfLessAndEq]
  cases d with
  | nan => exact absurd rfl h
  | inf s =>
    show Op.cmpValue (some (compare (FP.Core.signed s 1) (FP.Core.signed s 1))) op = 0
    rw [c]; rfl
  | fin s cc q =>
    show Op.cmpValue (some (compare _ _)) op = 0
    rw [c]; rfl
theorem xsL_X9_reached {S : String → Prop} (n : Nat) (T0 T1 : Nat) (I : gI) (a1 : Int32) : ∀ (j c : Nat) (x0 : Int32) (x1 : Int32) (x2 : Int32), EXs S (L_X9_reached n T0 T1 I a1 j c x0 x1 x2) := by
  intro j
  induction j with
  | zero => intro c x0 x1 x2 E h; cases h
  | succ j ih =>
    intro c x0 x1 x2
    rcases c with _ | c
    · refine (congrArg (EXs S) (L_X9_reached_e0 _ _ _ _ _ _ _ _ _)).mpr ?_
      repeat' with_reducible first | exact ex_r | exact ih _ _ _ _ | refine ex_if ?_ ?_ | refine ex_gd ?_ | refine ex_gv ?_ | refine ex_gf ?_ | refine ex_b (fun _ => ?_)
    rcases c with _ | c
    · refine (congrArg (EXs S) (L_X9_reached_e1 _ _ _ _ _ _ _ _ _)).mpr ?_
      repeat' with_reducible first | exact ex_r | exact ih _ _ _ _ | refine ex_if ?_ ?_ | refine ex_gd ?_ | refine ex_gv ?_ | refine ex_gf ?_ | refine ex_b (fun _ => ?_)
    · exact ex_n
theorem xsL_X9_quietIn {S : String → Prop} (n : Nat) (T0 T1 : Nat) (I : gI) (a1 : Int32) (a2 : Int32) (a3 : Int32) (a4 : Int32) : ∀ (j c : Nat) (x0 : Int32), EXs S (L_X9_quietIn n T0 T1 I a1 a2 a3 a4 j c x0) := by
  intro j
  induction j with
  | zero => intro c x0 E h; cases h
  | succ j ih =>
    intro c x0
    rcases c with _ | c
    · refine (congrArg (EXs S) (L_X9_quietIn_e0 _ _ _ _ _ _ _ _ _ _)).mpr ?_
      repeat' with_reducible first | exact ex_r | exact ih _ _ | refine ex_if ?_ ?_ | refine ex_gd ?_ | refine ex_gv ?_ | refine ex_gf ?_ | refine ex_b (fun _ => ?_)
    · exact ex_n
theorem xsL_X9_peak {S : String → Prop} (n : Nat) (T0 T1 : Nat) (a1 : Int32) (a2 : Int32) : ∀ (j c : Nat) (x0 : Int32) (x1 : Int32) (x2 : gI), EXs S (L_X9_peak n T0 T1 a1 a2 j c x0 x1 x2) := by
  intro j
  induction j with
  | zero => intro c x0 x1 x2 E h; cases h
  | succ j ih =>
    intro c x0 x1 x2
    rcases c with _ | c
    · refine (congrArg (EXs S) (L_X9_peak_e0 _ _ _ _ _ _ _ _ _)).mpr ?_
      repeat' with_reducible first | exact ex_r | exact ih _ _ _ _ | refine ex_if ?_ ?_ | refine ex_gd ?_ | refine ex_gv ?_ | refine ex_gf ?_ | refine ex_b (fun _ => ?_)
    · exact ex_n
theorem xsL_X9_crossings {S : String → Prop} (n : Nat) (T0 T1 : Nat) (a1 : Int32) (a2 : Int32) : ∀ (j c : Nat) (x0 : Int32) (x1 : Int32) (x2 : Int32) (x3 : gI), EXs S (L_X9_crossings n T0 T1 a1 a2 j c x0 x1 x2 x3) := by
  intro j
  induction j with
  | zero => intro c x0 x1 x2 x3 E h; cases h
  | succ j ih =>
    intro c x0 x1 x2 x3
    rcases c with _ | c
    · refine (congrArg (EXs S) (L_X9_crossings_e0 _ _ _ _ _ _ _ _ _ _)).mpr ?_
      repeat' with_reducible first | exact ex_r | exact ih _ _ _ _ _ | refine ex_if ?_ ?_ | refine ex_gd ?_ | refine ex_gv ?_ | refine ex_gf ?_ | refine ex_b (fun _ => ?_)
    · exact ex_n
theorem xsL_X9_rhythm {S : String → Prop} (n : Nat) (T0 T1 : Nat) (a1 : Int32) (a2 : Int32) : ∀ (j c : Nat) (x0 : Int32) (x1 : Int64) (x2 : Int32) (x3 : gI), EXs S (L_X9_rhythm n T0 T1 a1 a2 j c x0 x1 x2 x3) := by
  intro j
  induction j with
  | zero => intro c x0 x1 x2 x3 E h; cases h
  | succ j ih =>
    intro c x0 x1 x2 x3
    rcases c with _ | c
    · refine (congrArg (EXs S) (L_X9_rhythm_e0 _ _ _ _ _ _ _ _ _ _)).mpr ?_
      repeat' with_reducible first | exact ex_r | exact ih _ _ _ _ _ | refine ex_if ?_ ?_ | refine ex_gd ?_ | refine ex_gv ?_ | refine ex_gf ?_ | refine ex_b (fun _ => ?_)
    · exact ex_n
theorem xsL_X9_nodeGroups {S : String → Prop} (n : Nat) (T0 T1 : Nat) (a1 : Int32) (a2 : Int32) : ∀ (j c : Nat) (x0 : Int32) (x1 : gI), EXs S (L_X9_nodeGroups n T0 T1 a1 a2 j c x0 x1) := by
  intro j
  induction j with
  | zero => intro c x0 x1 E h; cases h
  | succ j ih =>
    intro c x0 x1
    rcases c with _ | c
    · refine (congrArg (EXs S) (L_X9_nodeGroups_e0 _ _ _ _ _ _ _ _)).mpr ?_
      repeat' with_reducible first | exact ex_r | exact ih _ _ _ | refine ex_if ?_ ?_ | refine ex_gd ?_ | refine ex_gv ?_ | refine ex_gf ?_ | refine ex_b (fun _ => ?_)
    · exact ex_n
theorem xsL_X9_rowEnergy {S : String → Prop} (n : Nat) (T0 T1 : Nat) (I : gI) (a1 : Int32) (a2 : Int32) : ∀ (j c : Nat) (x0 : Int64) (x1 : Int32), EXs S (L_X9_rowEnergy n T0 T1 I a1 a2 j c x0 x1) := by
  intro j
  induction j with
  | zero => intro c x0 x1 E h; cases h
  | succ j ih =>
    intro c x0 x1
    rcases c with _ | c
    · refine (congrArg (EXs S) (L_X9_rowEnergy_e0 _ _ _ _ _ _ _ _ _)).mpr ?_
      repeat' with_reducible first | exact ex_r | exact ih _ _ _ | refine ex_if ?_ ?_ | refine ex_gd ?_ | refine ex_gv ?_ | refine ex_gf ?_ | refine ex_b (fun _ => ?_)
    · exact ex_n
theorem xsL_X9_allEnergy {S : String → Prop} (n : Nat) (T0 T1 : Nat) (I : gI) (a1 : Int32) : ∀ (j c : Nat) (x0 : Int64) (x1 : Int32) (x2 : gJ), EXs S (L_X9_allEnergy n T0 T1 I a1 j c x0 x1 x2) := by
  intro j
  induction j with
  | zero => intro c x0 x1 x2 E h; cases h
  | succ j ih =>
    intro c x0 x1 x2
    rcases c with _ | c
    · refine (congrArg (EXs S) (L_X9_allEnergy_e0 _ _ _ _ _ _ _ _ _)).mpr ?_
      repeat' with_reducible first | exact ex_r | exact ih _ _ _ _ | refine ex_if ?_ ?_ | refine ex_gd ?_ | refine ex_gv ?_ | refine ex_gf ?_ | refine ex_b (fun _ => ?_)
    · exact ex_n
theorem xsL_X9_strongest {S : String → Prop} (n : Nat) (T0 T1 : Nat) (I : gI) (a1 : Int32) (a2 : Int32) : ∀ (j c : Nat) (x0 : Int32) (x1 : Int32) (x2 : gJ), EXs S (L_X9_strongest n T0 T1 I a1 a2 j c x0 x1 x2) := by
  intro j
  induction j with
  | zero => intro c x0 x1 x2 E h; cases h
  | succ j ih =>
    intro c x0 x1 x2
    rcases c with _ | c
    · refine (congrArg (EXs S) (L_X9_strongest_e0 _ _ _ _ _ _ _ _ _ _)).mpr ?_
      repeat' with_reducible first | exact ex_r | exact ih _ _ _ _ | refine ex_if ?_ ?_ | refine ex_gd ?_ | refine ex_gv ?_ | refine ex_gf ?_ | refine ex_b (fun _ => ?_)
    · exact ex_n
theorem xsL_X9_marks {S : String → Prop} (n : Nat) (T0 T1 : Nat) (I : gI) (a1 : Int32) (a2 : Int32) : ∀ (j c : Nat) (x0 : Int64) (x1 : Int32) (x2 : Int32) (x3 : gJ), EXs S (L_X9_marks n T0 T1 I a1 a2 j c x0 x1 x2 x3) := by
  intro j
  induction j with
  | zero => intro c x0 x1 x2 x3 E h; cases h
  | succ j ih =>
    intro c x0 x1 x2 x3
    rcases c with _ | c
    · refine (congrArg (EXs S) (L_X9_marks_e0 _ _ _ _ _ _ _ _ _ _ _)).mpr ?_
      repeat' with_reducible first | exact ex_r | exact ih _ _ _ _ _ | refine ex_if ?_ ?_ | refine ex_gd ?_ | refine ex_gv ?_ | refine ex_gf ?_ | refine ex_b (fun _ => ?_)
    · exact ex_n
theorem xsL_X9_fringes {S : String → Prop} (n : Nat) (T0 T1 : Nat) (I : gI) (a1 : Int32) (a2 : Int32) : ∀ (j c : Nat) (x0 : Int32) (x1 : Int32) (x2 : Int32) (x3 : gJ), EXs S (L_X9_fringes n T0 T1 I a1 a2 j c x0 x1 x2 x3) := by
  intro j
  induction j with
  | zero => intro c x0 x1 x2 x3 E h; cases h
  | succ j ih =>
    intro c x0 x1 x2 x3
    rcases c with _ | c
    · refine (congrArg (EXs S) (L_X9_fringes_e0 _ _ _ _ _ _ _ _ _ _ _)).mpr ?_
      repeat' with_reducible first | exact ex_r | exact ih _ _ _ _ _ | refine ex_if ?_ ?_ | refine ex_gd ?_ | refine ex_gv ?_ | refine ex_gf ?_ | refine ex_b (fun _ => ?_)
    rcases c with _ | c
    · refine (congrArg (EXs S) (L_X9_fringes_e1 _ _ _ _ _ _ _ _ _ _ _)).mpr ?_
      repeat' with_reducible first | exact ex_r | exact ih _ _ _ _ _ | refine ex_if ?_ ?_ | refine ex_gd ?_ | refine ex_gv ?_ | refine ex_gf ?_ | refine ex_b (fun _ => ?_)
    · exact ex_n
theorem xsL_X9_visibility {S : String → Prop} (n : Nat) (T0 T1 : Nat) (I : gI) (a1 : Int32) (a2 : Int32) : ∀ (j c : Nat) (x0 : Int64) (x1 : Int64) (x2 : Int32) (x3 : gJ), EXs S (L_X9_visibility n T0 T1 I a1 a2 j c x0 x1 x2 x3) := by
  intro j
  induction j with
  | zero => intro c x0 x1 x2 x3 E h; cases h
  | succ j ih =>
    intro c x0 x1 x2 x3
    rcases c with _ | c
    · refine (congrArg (EXs S) (L_X9_visibility_e0 _ _ _ _ _ _ _ _ _ _ _)).mpr ?_
      repeat' with_reducible first | exact ex_r | exact ih _ _ _ _ _ | refine ex_if ?_ ?_ | refine ex_gd ?_ | refine ex_gv ?_ | refine ex_gf ?_ | refine ex_b (fun _ => ?_)
    · exact ex_n
theorem xsL_X9_writeRow {S : String → Prop} (n : Nat) (T0 T1 : Nat) (a1 : Int32) : ∀ (j c : Nat) (x0 : Int32) (x1 : gI), EXs S (L_X9_writeRow n T0 T1 a1 j c x0 x1) := by
  intro j
  induction j with
  | zero => intro c x0 x1 E h; cases h
  | succ j ih =>
    intro c x0 x1
    rcases c with _ | c
    · refine (congrArg (EXs S) (L_X9_writeRow_e0 _ _ _ _ _ _ _)).mpr ?_
      repeat' with_reducible first | exact ex_r | exact ih _ _ _ | refine ex_if ?_ ?_ | refine ex_gd ?_ | refine ex_gv ?_ | refine ex_gf ?_ | refine ex_b (fun _ => ?_)
    · exact ex_n
theorem xsL_X9_writeMap {S : String → Prop} (n : Nat) (T0 T1 : Nat) (a1 : Int32) : ∀ (j c : Nat) (x0 : Int64) (x1 : Int32) (x2 : gI) (x3 : gJ), EXs S (L_X9_writeMap n T0 T1 a1 j c x0 x1 x2 x3) := by
  intro j
  induction j with
  | zero => intro c x0 x1 x2 x3 E h; cases h
  | succ j ih =>
    intro c x0 x1 x2 x3
    rcases c with _ | c
    · refine (congrArg (EXs S) (L_X9_writeMap_e0 _ _ _ _ _ _ _ _ _)).mpr ?_
      repeat' with_reducible first | exact ex_r | exact ih _ _ _ _ _ | refine ex_if ?_ ?_ | refine ex_gd ?_ | refine ex_gv ?_ | refine ex_gf ?_ | refine ex_b (fun _ => ?_)
    · exact ex_n
theorem xsL_X9_bestPhase {S : String → Prop} (n : Nat) (T0 T1 : Nat) (a1 : Int32) (a2 : Int32) (a3 : Int32) (a4 : Int32) : ∀ (j c : Nat) (x0 : Int32) (x1 : Int64) (x2 : Int32) (x3 : gI), EXs S (L_X9_bestPhase n T0 T1 a1 a2 a3 a4 j c x0 x1 x2 x3) := by
  intro j
  induction j with
  | zero => intro c x0 x1 x2 x3 E h; cases h
  | succ j ih =>
    intro c x0 x1 x2 x3
    rcases c with _ | c
    · refine (congrArg (EXs S) (L_X9_bestPhase_e0 _ _ _ _ _ _ _ _ _ _ _ _)).mpr ?_
      repeat' with_reducible first | exact ex_r | exact ih _ _ _ _ _ | refine ex_if ?_ ?_ | refine ex_gd ?_ | refine ex_gv ?_ | refine ex_gf ?_ | refine ex_b (fun _ => ?_)
    · exact ex_n
theorem xsL_X9_bestPlace {S : String → Prop} (n : Nat) (T0 T1 : Nat) (a1 : Int32) (a2 : Int32) (a3 : Int32) (a4 : Int32) : ∀ (j c : Nat) (x0 : Int32) (x1 : Int64) (x2 : Int32) (x3 : gI), EXs S (L_X9_bestPlace n T0 T1 a1 a2 a3 a4 j c x0 x1 x2 x3) := by
  intro j
  induction j with
  | zero => intro c x0 x1 x2 x3 E h; cases h
  | succ j ih =>
    intro c x0 x1 x2 x3
    rcases c with _ | c
    · refine (congrArg (EXs S) (L_X9_bestPlace_e0 _ _ _ _ _ _ _ _ _ _ _ _)).mpr ?_
      repeat' with_reducible first | exact ex_r | exact ih _ _ _ _ _ | refine ex_if ?_ ?_ | refine ex_gd ?_ | refine ex_gv ?_ | refine ex_gf ?_ | refine ex_b (fun _ => ?_)
    · exact ex_n
theorem xsL_X9_bestRow {S : String → Prop} (n : Nat) (T0 T1 : Nat) (a1 : Int32) (a2 : Int32) (a3 : Int32) : ∀ (j c : Nat) (x0 : Int32) (x1 : Int64) (x2 : Int32) (x3 : gI), EXs S (L_X9_bestRow n T0 T1 a1 a2 a3 j c x0 x1 x2 x3) := by
  intro j
  induction j with
  | zero => intro c x0 x1 x2 x3 E h; cases h
  | succ j ih =>
    intro c x0 x1 x2 x3
    rcases c with _ | c
    · refine (congrArg (EXs S) (L_X9_bestRow_e0 _ _ _ _ _ _ _ _ _ _ _)).mpr ?_
      repeat' with_reducible first | exact ex_r | exact ih _ _ _ _ _ | refine ex_if ?_ ?_ | refine ex_gd ?_ | refine ex_gv ?_ | refine ex_gf ?_ | refine ex_b (fun _ => ?_)
    · exact ex_n
theorem xsF_X9_needTank {S : String → Prop} (n : Nat) (T0 T1 : Nat) (I : gI) (h1 : S "java/lang/IllegalStateException") : EXs S (F_X9_needTank n T0 T1 I) := by
  unfold F_X9_needTank
  repeat' with_reducible first | exact ex_r | exact ex_l h1 | refine ex_bs ?_ (fun _ => ?_) | refine ex_if ?_ ?_ | refine ex_gd ?_ | refine ex_gv ?_ | refine ex_gf ?_ | refine ex_b (fun _ => ?_)
theorem xsF_X9_wall {S : String → Prop} (n : Nat) (T0 T1 : Nat) (I : gI) (h1 : S "java/lang/IllegalStateException") : EXs S (F_X9_wall n T0 T1 I) := by
  unfold F_X9_wall
  repeat' with_reducible first | exact ex_r | exact ex_l h1 | exact xsF_X9_needTank _ _ _ _ h1 | refine ex_bs ?_ (fun _ => ?_) | refine ex_if ?_ ?_ | refine ex_gd ?_ | refine ex_gv ?_ | refine ex_gf ?_ | refine ex_b (fun _ => ?_)
theorem xsF_X9_openRows {S : String → Prop} (n : Nat) (T0 T1 : Nat) (I : gI) (h1 : S "java/lang/IllegalStateException") : EXs S (F_X9_openRows n T0 T1 I) := by
  unfold F_X9_openRows
  repeat' with_reducible first | exact ex_r | exact ex_l h1 | exact xsF_X9_needTank _ _ _ _ h1 | refine ex_bs ?_ (fun _ => ?_) | refine ex_if ?_ ?_ | refine ex_gd ?_ | refine ex_gv ?_ | refine ex_gf ?_ | refine ex_b (fun _ => ?_)
theorem xsF_X9_needRow {S : String → Prop} (n : Nat) (T0 T1 : Nat) (I : gI) (a1 : Int32) (h2 : S "java/lang/IndexOutOfBoundsException") : EXs S (F_X9_needRow n T0 T1 I a1) := by
  unfold F_X9_needRow
  repeat' with_reducible first | exact ex_r | exact ex_l h2 | refine ex_bs ?_ (fun _ => ?_) | refine ex_if ?_ ?_ | refine ex_gd ?_ | refine ex_gv ?_ | refine ex_gf ?_ | refine ex_b (fun _ => ?_)
theorem xsF_X9_isOpen {S : String → Prop} (n : Nat) (T0 T1 : Nat) (I : gI) (a1 : Int32) (h1 : S "java/lang/IllegalStateException") (h2 : S "java/lang/IndexOutOfBoundsException") : EXs S (F_X9_isOpen n T0 T1 I a1) := by
  unfold F_X9_isOpen
  repeat' with_reducible first | exact ex_r | exact ex_l h1 | exact ex_l h2 | exact xsF_X9_needRow _ _ _ _ _ h2 | exact xsF_X9_needTank _ _ _ _ h1 | refine ex_bs ?_ (fun _ => ?_) | refine ex_if ?_ ?_ | refine ex_gd ?_ | refine ex_gv ?_ | refine ex_gf ?_ | refine ex_b (fun _ => ?_)
theorem xsF_X9_needSource {S : String → Prop} (n : Nat) (T0 T1 : Nat) (I : gI) (a1 : Int32) (h2 : S "java/lang/IndexOutOfBoundsException") : EXs S (F_X9_needSource n T0 T1 I a1) := by
  unfold F_X9_needSource
  repeat' with_reducible first | exact ex_r | exact ex_l h2 | refine ex_bs ?_ (fun _ => ?_) | refine ex_if ?_ ?_ | refine ex_gd ?_ | refine ex_gv ?_ | refine ex_gf ?_ | refine ex_b (fun _ => ?_)
theorem xsF_X9_needRange {S : String → Prop} (n : Nat) (a0 : Int32) (a1 : Int32) (a2 : Int32) (h3 : S "java/lang/IllegalArgumentException") : EXs S (F_X9_needRange n a0 a1 a2) := by
  unfold F_X9_needRange
  repeat' with_reducible first | exact ex_r | exact ex_l h3 | refine ex_bs ?_ (fun _ => ?_) | refine ex_if ?_ ?_ | refine ex_gd ?_ | refine ex_gv ?_ | refine ex_gf ?_ | refine ex_b (fun _ => ?_)
theorem xsF_X9_sourceAt {S : String → Prop} (n : Nat) (T0 T1 : Nat) (I : gI) (a1 : Int32) (a2 : Int32) (a3 : Int32) (h1 : S "java/lang/IllegalStateException") (h2 : S "java/lang/IndexOutOfBoundsException") (h3 : S "java/lang/IllegalArgumentException") : EXs S (F_X9_sourceAt n T0 T1 I a1 a2 a3) := by
  unfold F_X9_sourceAt
  repeat' with_reducible first | exact ex_r | exact ex_l h1 | exact ex_l h2 | exact ex_l h3 | exact xsF_X9_needRange _ _ _ _ h3 | exact xsF_X9_needSource _ _ _ _ _ h2 | exact xsF_X9_needTank _ _ _ _ h1 | refine ex_bs ?_ (fun _ => ?_) | refine ex_if ?_ ?_ | refine ex_gd ?_ | refine ex_gv ?_ | refine ex_gf ?_ | refine ex_b (fun _ => ?_)
theorem xsF_X9_property {S : String → Prop} (n : Nat) (T0 T1 : Nat) (I : gI) (a1 : Int32) (a2 : Int32) (h1 : S "java/lang/IllegalStateException") (h2 : S "java/lang/IndexOutOfBoundsException") (h3 : S "java/lang/IllegalArgumentException") : EXs S (F_X9_property n T0 T1 I a1 a2) := by
  unfold F_X9_property
  repeat' with_reducible first | exact ex_r | exact ex_l h1 | exact ex_l h2 | exact ex_l h3 | exact xsF_X9_needRange _ _ _ _ h3 | exact xsF_X9_needSource _ _ _ _ _ h2 | exact xsF_X9_needTank _ _ _ _ h1 | refine ex_bs ?_ (fun _ => ?_) | refine ex_if ?_ ?_ | refine ex_gd ?_ | refine ex_gv ?_ | refine ex_gf ?_ | refine ex_b (fun _ => ?_)
theorem xsF_X9_isOn {S : String → Prop} (n : Nat) (T0 T1 : Nat) (I : gI) (a1 : Int32) (h1 : S "java/lang/IllegalStateException") (h2 : S "java/lang/IndexOutOfBoundsException") : EXs S (F_X9_isOn n T0 T1 I a1) := by
  unfold F_X9_isOn
  repeat' with_reducible first | exact ex_r | exact ex_l h1 | exact ex_l h2 | exact xsF_X9_needSource _ _ _ _ _ h2 | exact xsF_X9_needTank _ _ _ _ h1 | refine ex_bs ?_ (fun _ => ?_) | refine ex_if ?_ ?_ | refine ex_gd ?_ | refine ex_gv ?_ | refine ex_gf ?_ | refine ex_b (fun _ => ?_)
theorem xsF_X9_amplitude {S : String → Prop} (n : Nat) (T0 T1 : Nat) (I : gI) (a1 : Int32) (a2 : Int32) (h1 : S "java/lang/IllegalStateException") (h2 : S "java/lang/IndexOutOfBoundsException") (h3 : S "java/lang/IllegalArgumentException") : EXs S (F_X9_amplitude n T0 T1 I a1 a2) := by
  unfold F_X9_amplitude
  repeat' with_reducible first | exact ex_r | exact ex_l h1 | exact ex_l h2 | exact ex_l h3 | exact xsF_X9_needRange _ _ _ _ h3 | exact xsF_X9_needSource _ _ _ _ _ h2 | exact xsF_X9_needTank _ _ _ _ h1 | refine ex_bs ?_ (fun _ => ?_) | refine ex_if ?_ ?_ | refine ex_gd ?_ | refine ex_gv ?_ | refine ex_gf ?_ | refine ex_b (fun _ => ?_)
theorem xsF_X9_sine {S : String → Prop} (n : Nat) (T0 T1 : Nat) (a1 : Int32) (h3 : S "java/lang/IllegalArgumentException") : EXs S (F_X9_sine n T0 T1 a1) := by
  unfold F_X9_sine
  repeat' with_reducible first | exact ex_r | exact ex_l h3 | exact xsF_X9_needRange _ _ _ _ h3 | refine ex_bs ?_ (fun _ => ?_) | refine ex_if ?_ ?_ | refine ex_gd ?_ | refine ex_gv ?_ | refine ex_gf ?_ | refine ex_b (fun _ => ?_)
theorem xsF_X9_distance {S : String → Prop} (n : Nat) (T0 T1 : Nat) (I : gI) (a1 : Int32) (a2 : Int32) (h3 : S "java/lang/IllegalArgumentException") : EXs S (F_X9_distance n T0 T1 I a1 a2) := by
  unfold F_X9_distance
  repeat' with_reducible first | exact ex_r | exact ex_l h3 | exact xsF_X9_needRange _ _ _ _ h3 | refine ex_bs ?_ (fun _ => ?_) | refine ex_if ?_ ?_ | refine ex_gd ?_ | refine ex_gv ?_ | refine ex_gf ?_ | refine ex_b (fun _ => ?_)
theorem xsF_X9_needColumn {S : String → Prop} (n : Nat) (T0 T1 : Nat) (I : gI) (a1 : Int32) (h2 : S "java/lang/IndexOutOfBoundsException") : EXs S (F_X9_needColumn n T0 T1 I a1) := by
  unfold F_X9_needColumn
  repeat' with_reducible first | exact ex_r | exact ex_l h2 | refine ex_bs ?_ (fun _ => ?_) | refine ex_if ?_ ?_ | refine ex_gd ?_ | refine ex_gv ?_ | refine ex_gf ?_ | refine ex_b (fun _ => ?_)
theorem xsF_X9_needCell {S : String → Prop} (n : Nat) (T0 T1 : Nat) (I : gI) (a1 : Int32) (a2 : Int32) (h2 : S "java/lang/IndexOutOfBoundsException") : EXs S (F_X9_needCell n T0 T1 I a1 a2) := by
  unfold F_X9_needCell
  repeat' with_reducible first | exact ex_r | exact ex_l h2 | exact xsF_X9_needColumn _ _ _ _ _ h2 | exact xsF_X9_needRow _ _ _ _ _ h2 | refine ex_bs ?_ (fun _ => ?_) | refine ex_if ?_ ?_ | refine ex_gd ?_ | refine ex_gv ?_ | refine ex_gf ?_ | refine ex_b (fun _ => ?_)
theorem xsF_X9_isBehind {S : String → Prop} (n : Nat) (T0 T1 : Nat) (I : gI) (a1 : Int32) (a2 : Int32) (a3 : Int32) (h1 : S "java/lang/IllegalStateException") (h2 : S "java/lang/IndexOutOfBoundsException") : EXs S (F_X9_isBehind n T0 T1 I a1 a2 a3) := by
  unfold F_X9_isBehind
  repeat' with_reducible first | exact ex_r | exact ex_l h1 | exact ex_l h2 | exact xsF_X9_needCell _ _ _ _ _ _ h2 | exact xsF_X9_needSource _ _ _ _ _ h2 | exact xsF_X9_needTank _ _ _ _ h1 | refine ex_bs ?_ (fun _ => ?_) | refine ex_if ?_ ?_ | refine ex_gd ?_ | refine ex_gv ?_ | refine ex_gf ?_ | refine ex_b (fun _ => ?_)
theorem xsF_X9_path {S : String → Prop} (n : Nat) (T0 T1 : Nat) (I : gI) (a1 : Int32) (a2 : Int32) (a3 : Int32) (a4 : Int32) (h1 : S "java/lang/IllegalStateException") (h2 : S "java/lang/IndexOutOfBoundsException") : EXs S (F_X9_path n T0 T1 I a1 a2 a3 a4) := by
  unfold F_X9_path
  repeat' with_reducible first | exact ex_r | exact ex_l h1 | exact ex_l h2 | exact xsF_X9_needCell _ _ _ _ _ _ h2 | exact xsF_X9_needRow _ _ _ _ _ h2 | exact xsF_X9_needSource _ _ _ _ _ h2 | exact xsF_X9_needTank _ _ _ _ h1 | refine ex_bs ?_ (fun _ => ?_) | refine ex_if ?_ ?_ | refine ex_gd ?_ | refine ex_gv ?_ | refine ex_gf ?_ | refine ex_b (fun _ => ?_)
theorem xsF_X9_shortest {S : String → Prop} (n : Nat) (T0 T1 : Nat) (I : gI) (a1 : Int32) (a2 : Int32) (a3 : Int32) (h1 : S "java/lang/IllegalStateException") (h2 : S "java/lang/IndexOutOfBoundsException") : EXs S (F_X9_shortest n T0 T1 I a1 a2 a3) := by
  unfold F_X9_shortest
  repeat' with_reducible first | exact ex_r | exact ex_l h1 | exact ex_l h2 | exact xsF_X9_needCell _ _ _ _ _ _ h2 | exact xsF_X9_needSource _ _ _ _ _ h2 | exact xsF_X9_needTank _ _ _ _ h1 | refine ex_bs ?_ (fun _ => ?_) | refine ex_if ?_ ?_ | refine ex_gd ?_ | refine ex_gv ?_ | refine ex_gf ?_ | refine ex_b (fun _ => ?_)
theorem xsF_X9_phase {S : String → Prop} (n : Nat) (T0 T1 : Nat) (I : gI) (a1 : Int32) (a2 : Int32) (a3 : Int32) (h1 : S "java/lang/IllegalStateException") (h2 : S "java/lang/IndexOutOfBoundsException") : EXs S (F_X9_phase n T0 T1 I a1 a2 a3) := by
  unfold F_X9_phase
  repeat' with_reducible first | exact ex_r | exact ex_l h1 | exact ex_l h2 | exact xsF_X9_needCell _ _ _ _ _ _ h2 | exact xsF_X9_needSource _ _ _ _ _ h2 | exact xsF_X9_needTank _ _ _ _ h1 | refine ex_bs ?_ (fun _ => ?_) | refine ex_if ?_ ?_ | refine ex_gd ?_ | refine ex_gv ?_ | refine ex_gf ?_ | refine ex_b (fun _ => ?_)
theorem xsF_X9_arrival {S : String → Prop} (n : Nat) (T0 T1 : Nat) (I : gI) (a1 : Int32) (a2 : Int32) (a3 : Int32) (h1 : S "java/lang/IllegalStateException") (h2 : S "java/lang/IndexOutOfBoundsException") : EXs S (F_X9_arrival n T0 T1 I a1 a2 a3) := by
  unfold F_X9_arrival
  repeat' with_reducible first | exact ex_r | exact ex_l h1 | exact ex_l h2 | exact xsF_X9_needCell _ _ _ _ _ _ h2 | exact xsF_X9_needSource _ _ _ _ _ h2 | exact xsF_X9_needTank _ _ _ _ h1 | refine ex_bs ?_ (fun _ => ?_) | refine ex_if ?_ ?_ | refine ex_gd ?_ | refine ex_gv ?_ | refine ex_gf ?_ | refine ex_b (fun _ => ?_)
theorem xsF_X9_reached {S : String → Prop} (n : Nat) (T0 T1 : Nat) (I : gI) (a1 : Int32) (h1 : S "java/lang/IllegalStateException") (h2 : S "java/lang/IndexOutOfBoundsException") : EXs S (F_X9_reached n T0 T1 I a1) := by
  unfold F_X9_reached
  repeat' with_reducible first | exact ex_r | exact ex_l h1 | exact ex_l h2 | exact xsF_X9_needSource _ _ _ _ _ h2 | exact xsF_X9_needTank _ _ _ _ h1 | exact xsL_X9_reached _ _ _ _ _ _ _ _ _ _ | refine ex_bs ?_ (fun _ => ?_) | refine ex_if ?_ ?_ | refine ex_gd ?_ | refine ex_gv ?_ | refine ex_gf ?_ | refine ex_b (fun _ => ?_)
theorem xsF_X9_part {S : String → Prop} (n : Nat) (T0 T1 : Nat) (I : gI) (a1 : Int32) (a2 : Int32) (a3 : Int32) (h1 : S "java/lang/IllegalStateException") (h2 : S "java/lang/IndexOutOfBoundsException") : EXs S (F_X9_part n T0 T1 I a1 a2 a3) := by
  unfold F_X9_part
  repeat' with_reducible first | exact ex_r | exact ex_l h1 | exact ex_l h2 | exact xsF_X9_needCell _ _ _ _ _ _ h2 | exact xsF_X9_needSource _ _ _ _ _ h2 | exact xsF_X9_needTank _ _ _ _ h1 | refine ex_bs ?_ (fun _ => ?_) | refine ex_if ?_ ?_ | refine ex_gd ?_ | refine ex_gv ?_ | refine ex_gf ?_ | refine ex_b (fun _ => ?_)
theorem xsF_X9_wave {S : String → Prop} (n : Nat) (T0 T1 : Nat) (I : gI) (a1 : Int32) (a2 : Int32) (h1 : S "java/lang/IllegalStateException") (h2 : S "java/lang/IndexOutOfBoundsException") : EXs S (F_X9_wave n T0 T1 I a1 a2) := by
  unfold F_X9_wave
  repeat' with_reducible first | exact ex_r | exact ex_l h1 | exact ex_l h2 | exact xsF_X9_needCell _ _ _ _ _ _ h2 | exact xsF_X9_needTank _ _ _ _ h1 | refine ex_bs ?_ (fun _ => ?_) | refine ex_if ?_ ?_ | refine ex_gd ?_ | refine ex_gv ?_ | refine ex_gf ?_ | refine ex_b (fun _ => ?_)
theorem xsF_X9_waveAt {S : String → Prop} (n : Nat) (T0 T1 : Nat) (I : gI) (a1 : Int32) (a2 : Int32) (a3 : Int32) (h1 : S "java/lang/IllegalStateException") (h2 : S "java/lang/IndexOutOfBoundsException") (h3 : S "java/lang/IllegalArgumentException") : EXs S (F_X9_waveAt n T0 T1 I a1 a2 a3) := by
  unfold F_X9_waveAt
  repeat' with_reducible first | exact ex_r | exact ex_l h1 | exact ex_l h2 | exact ex_l h3 | exact xsF_X9_needCell _ _ _ _ _ _ h2 | exact xsF_X9_needRange _ _ _ _ h3 | exact xsF_X9_needTank _ _ _ _ h1 | refine ex_bs ?_ (fun _ => ?_) | refine ex_if ?_ ?_ | refine ex_gd ?_ | refine ex_gv ?_ | refine ex_gf ?_ | refine ex_b (fun _ => ?_)
theorem xsF_X9_needTolerance {S : String → Prop} (n : Nat) (a0 : Int32) (h3 : S "java/lang/IllegalArgumentException") : EXs S (F_X9_needTolerance n a0) := by
  unfold F_X9_needTolerance
  repeat' with_reducible first | exact ex_r | exact ex_l h3 | exact xsF_X9_needRange _ _ _ _ h3 | refine ex_bs ?_ (fun _ => ?_) | refine ex_if ?_ ?_ | refine ex_gd ?_ | refine ex_gv ?_ | refine ex_gf ?_ | refine ex_b (fun _ => ?_)
theorem xsF_X9_quietIn {S : String → Prop} (n : Nat) (T0 T1 : Nat) (I : gI) (a1 : Int32) (a2 : Int32) (a3 : Int32) (a4 : Int32) (h1 : S "java/lang/IllegalStateException") (h2 : S "java/lang/IndexOutOfBoundsException") (h3 : S "java/lang/IllegalArgumentException") : EXs S (F_X9_quietIn n T0 T1 I a1 a2 a3 a4) := by
  unfold F_X9_quietIn
  repeat' with_reducible first | exact ex_r | exact ex_l h1 | exact ex_l h2 | exact ex_l h3 | exact xsF_X9_needCell _ _ _ _ _ _ h2 | exact xsF_X9_needRange _ _ _ _ h3 | exact xsF_X9_needTank _ _ _ _ h1 | exact xsF_X9_needTolerance _ _ h3 | exact xsL_X9_quietIn _ _ _ _ _ _ _ _ _ _ _ | refine ex_bs ?_ (fun _ => ?_) | refine ex_if ?_ ?_ | refine ex_gd ?_ | refine ex_gv ?_ | refine ex_gf ?_ | refine ex_b (fun _ => ?_)
theorem xsF_X9_needGauge {S : String → Prop} (n : Nat) (T0 T1 : Nat) (I : gI) (a1 : Int32) (h2 : S "java/lang/IndexOutOfBoundsException") : EXs S (F_X9_needGauge n T0 T1 I a1) := by
  unfold F_X9_needGauge
  repeat' with_reducible first | exact ex_r | exact ex_l h2 | refine ex_bs ?_ (fun _ => ?_) | refine ex_if ?_ ?_ | refine ex_gd ?_ | refine ex_gv ?_ | refine ex_gf ?_ | refine ex_b (fun _ => ?_)
theorem xsF_X9_gaugeAt {S : String → Prop} (n : Nat) (T0 T1 : Nat) (I : gI) (a1 : Int32) (a2 : Int32) (h1 : S "java/lang/IllegalStateException") (h2 : S "java/lang/IndexOutOfBoundsException") (h3 : S "java/lang/IllegalArgumentException") : EXs S (F_X9_gaugeAt n T0 T1 I a1 a2) := by
  unfold F_X9_gaugeAt
  repeat' with_reducible first | exact ex_r | exact ex_l h1 | exact ex_l h2 | exact ex_l h3 | exact xsF_X9_needGauge _ _ _ _ _ h2 | exact xsF_X9_needRange _ _ _ _ h3 | exact xsF_X9_needTank _ _ _ _ h1 | refine ex_bs ?_ (fun _ => ?_) | refine ex_if ?_ ?_ | refine ex_gd ?_ | refine ex_gv ?_ | refine ex_gf ?_ | refine ex_b (fun _ => ?_)
theorem xsF_X9_needTimes {S : String → Prop} (n : Nat) (a0 : Int32) (h3 : S "java/lang/IllegalArgumentException") : EXs S (F_X9_needTimes n a0) := by
  unfold F_X9_needTimes
  repeat' with_reducible first | exact ex_r | exact ex_l h3 | exact xsF_X9_needRange _ _ _ _ h3 | refine ex_bs ?_ (fun _ => ?_) | refine ex_if ?_ ?_ | refine ex_gd ?_ | refine ex_gv ?_ | refine ex_gf ?_ | refine ex_b (fun _ => ?_)
theorem xsF_X9_peak {S : String → Prop} (n : Nat) (T0 T1 : Nat) (I : gI) (a1 : Int32) (a2 : Int32) (h1 : S "java/lang/IllegalStateException") (h2 : S "java/lang/IndexOutOfBoundsException") (h3 : S "java/lang/IllegalArgumentException") : EXs S (F_X9_peak n T0 T1 I a1 a2) := by
  unfold F_X9_peak
  repeat' with_reducible first | exact ex_r | exact ex_l h1 | exact ex_l h2 | exact ex_l h3 | exact xsF_X9_needGauge _ _ _ _ _ h2 | exact xsF_X9_needTank _ _ _ _ h1 | exact xsF_X9_needTimes _ _ h3 | exact xsL_X9_peak _ _ _ _ _ _ _ _ _ _ | refine ex_bs ?_ (fun _ => ?_) | refine ex_if ?_ ?_ | refine ex_gd ?_ | refine ex_gv ?_ | refine ex_gf ?_ | refine ex_b (fun _ => ?_)
theorem xsF_X9_crossings {S : String → Prop} (n : Nat) (T0 T1 : Nat) (I : gI) (a1 : Int32) (a2 : Int32) (h1 : S "java/lang/IllegalStateException") (h2 : S "java/lang/IndexOutOfBoundsException") (h3 : S "java/lang/IllegalArgumentException") : EXs S (F_X9_crossings n T0 T1 I a1 a2) := by
  unfold F_X9_crossings
  repeat' with_reducible first | exact ex_r | exact ex_l h1 | exact ex_l h2 | exact ex_l h3 | exact xsF_X9_needGauge _ _ _ _ _ h2 | exact xsF_X9_needTank _ _ _ _ h1 | exact xsF_X9_needTimes _ _ h3 | exact xsL_X9_crossings _ _ _ _ _ _ _ _ _ _ _ | refine ex_bs ?_ (fun _ => ?_) | refine ex_if ?_ ?_ | refine ex_gd ?_ | refine ex_gv ?_ | refine ex_gf ?_ | refine ex_b (fun _ => ?_)
theorem xsF_X9_rhythm {S : String → Prop} (n : Nat) (T0 T1 : Nat) (I : gI) (a1 : Int32) (a2 : Int32) (h1 : S "java/lang/IllegalStateException") (h2 : S "java/lang/IndexOutOfBoundsException") (h3 : S "java/lang/IllegalArgumentException") : EXs S (F_X9_rhythm n T0 T1 I a1 a2) := by
  unfold F_X9_rhythm
  repeat' with_reducible first | exact ex_r | exact ex_l h1 | exact ex_l h2 | exact ex_l h3 | exact xsF_X9_needGauge _ _ _ _ _ h2 | exact xsF_X9_needTank _ _ _ _ h1 | exact xsF_X9_needTimes _ _ h3 | exact xsL_X9_rhythm _ _ _ _ _ _ _ _ _ _ _ | refine ex_bs ?_ (fun _ => ?_) | refine ex_if ?_ ?_ | refine ex_gd ?_ | refine ex_gv ?_ | refine ex_gf ?_ | refine ex_b (fun _ => ?_)
theorem xsF_X9_isNode {S : String → Prop} (n : Nat) (T0 T1 : Nat) (I : gI) (a1 : Int32) (a2 : Int32) (a3 : Int32) (a4 : Int32) (h1 : S "java/lang/IllegalStateException") (h2 : S "java/lang/IndexOutOfBoundsException") (h3 : S "java/lang/IllegalArgumentException") : EXs S (F_X9_isNode n T0 T1 I a1 a2 a3 a4) := by
  unfold F_X9_isNode
  repeat' with_reducible first | exact ex_r | exact ex_l h1 | exact ex_l h2 | exact ex_l h3 | exact xsF_X9_needCell _ _ _ _ _ _ h2 | exact xsF_X9_needTank _ _ _ _ h1 | exact xsF_X9_needTimes _ _ h3 | exact xsF_X9_needTolerance _ _ h3 | refine ex_bs ?_ (fun _ => ?_) | refine ex_if ?_ ?_ | refine ex_gd ?_ | refine ex_gv ?_ | refine ex_gf ?_ | refine ex_b (fun _ => ?_)
theorem xsF_X9_nodes {S : String → Prop} (n : Nat) (T0 T1 : Nat) (I : gI) (a1 : Int32) (a2 : Int32) (h1 : S "java/lang/IllegalStateException") (h3 : S "java/lang/IllegalArgumentException") : EXs S (F_X9_nodes n T0 T1 I a1 a2) := by
  unfold F_X9_nodes
  repeat' with_reducible first | exact ex_r | exact ex_l h1 | exact ex_l h3 | exact xsF_X9_needTank _ _ _ _ h1 | exact xsF_X9_needTimes _ _ h3 | exact xsF_X9_needTolerance _ _ h3 | refine ex_bs ?_ (fun _ => ?_) | refine ex_if ?_ ?_ | refine ex_gd ?_ | refine ex_gv ?_ | refine ex_gf ?_ | refine ex_b (fun _ => ?_)
theorem xsF_X9_nodeRows {S : String → Prop} (n : Nat) (T0 T1 : Nat) (I : gI) (a1 : Int32) (a2 : Int32) (a3 : Int32) (h1 : S "java/lang/IllegalStateException") (h2 : S "java/lang/IndexOutOfBoundsException") (h3 : S "java/lang/IllegalArgumentException") : EXs S (F_X9_nodeRows n T0 T1 I a1 a2 a3) := by
  unfold F_X9_nodeRows
  repeat' with_reducible first | exact ex_r | exact ex_l h1 | exact ex_l h2 | exact ex_l h3 | exact xsF_X9_needRow _ _ _ _ _ h2 | exact xsF_X9_needTank _ _ _ _ h1 | exact xsF_X9_needTimes _ _ h3 | exact xsF_X9_needTolerance _ _ h3 | refine ex_bs ?_ (fun _ => ?_) | refine ex_if ?_ ?_ | refine ex_gd ?_ | refine ex_gv ?_ | refine ex_gf ?_ | refine ex_b (fun _ => ?_)
theorem xsF_X9_nodeGroups {S : String → Prop} (n : Nat) (T0 T1 : Nat) (I : gI) (a1 : Int32) (a2 : Int32) (h1 : S "java/lang/IllegalStateException") (h3 : S "java/lang/IllegalArgumentException") : EXs S (F_X9_nodeGroups n T0 T1 I a1 a2) := by
  unfold F_X9_nodeGroups
  repeat' with_reducible first | exact ex_r | exact ex_l h1 | exact ex_l h3 | exact xsF_X9_needTank _ _ _ _ h1 | exact xsF_X9_needTimes _ _ h3 | exact xsF_X9_needTolerance _ _ h3 | exact xsL_X9_nodeGroups _ _ _ _ _ _ _ _ _ | refine ex_bs ?_ (fun _ => ?_) | refine ex_if ?_ ?_ | refine ex_gd ?_ | refine ex_gv ?_ | refine ex_gf ?_ | refine ex_b (fun _ => ?_)
theorem xsF_X9_energy {S : String → Prop} (n : Nat) (T0 T1 : Nat) (I : gI) (a1 : Int32) (a2 : Int32) (a3 : Int32) (h1 : S "java/lang/IllegalStateException") (h2 : S "java/lang/IndexOutOfBoundsException") (h3 : S "java/lang/IllegalArgumentException") : EXs S (F_X9_energy n T0 T1 I a1 a2 a3) := by
  unfold F_X9_energy
  repeat' with_reducible first | exact ex_r | exact ex_l h1 | exact ex_l h2 | exact ex_l h3 | exact xsF_X9_needCell _ _ _ _ _ _ h2 | exact xsF_X9_needTank _ _ _ _ h1 | exact xsF_X9_needTimes _ _ h3 | refine ex_bs ?_ (fun _ => ?_) | refine ex_if ?_ ?_ | refine ex_gd ?_ | refine ex_gv ?_ | refine ex_gf ?_ | refine ex_b (fun _ => ?_)
theorem xsF_X9_rowEnergy {S : String → Prop} (n : Nat) (T0 T1 : Nat) (I : gI) (a1 : Int32) (a2 : Int32) (h1 : S "java/lang/IllegalStateException") (h2 : S "java/lang/IndexOutOfBoundsException") (h3 : S "java/lang/IllegalArgumentException") : EXs S (F_X9_rowEnergy n T0 T1 I a1 a2) := by
  unfold F_X9_rowEnergy
  repeat' with_reducible first | exact ex_r | exact ex_l h1 | exact ex_l h2 | exact ex_l h3 | exact xsF_X9_needRow _ _ _ _ _ h2 | exact xsF_X9_needTank _ _ _ _ h1 | exact xsF_X9_needTimes _ _ h3 | exact xsL_X9_rowEnergy _ _ _ _ _ _ _ _ _ _ | refine ex_bs ?_ (fun _ => ?_) | refine ex_if ?_ ?_ | refine ex_gd ?_ | refine ex_gv ?_ | refine ex_gf ?_ | refine ex_b (fun _ => ?_)
theorem xsF_X9_allEnergy {S : String → Prop} (n : Nat) (T0 T1 : Nat) (I : gI) (J : gJ) (a1 : Int32) (h1 : S "java/lang/IllegalStateException") (h3 : S "java/lang/IllegalArgumentException") : EXs S (F_X9_allEnergy n T0 T1 I J a1) := by
  unfold F_X9_allEnergy
  repeat' with_reducible first | exact ex_r | exact ex_l h1 | exact ex_l h3 | exact xsF_X9_needTank _ _ _ _ h1 | exact xsF_X9_needTimes _ _ h3 | exact xsL_X9_allEnergy _ _ _ _ _ _ _ _ _ _ | refine ex_bs ?_ (fun _ => ?_) | refine ex_if ?_ ?_ | refine ex_gd ?_ | refine ex_gv ?_ | refine ex_gf ?_ | refine ex_b (fun _ => ?_)
theorem xsF_X9_strongest {S : String → Prop} (n : Nat) (T0 T1 : Nat) (I : gI) (J : gJ) (a1 : Int32) (a2 : Int32) (h1 : S "java/lang/IllegalStateException") (h2 : S "java/lang/IndexOutOfBoundsException") (h3 : S "java/lang/IllegalArgumentException") : EXs S (F_X9_strongest n T0 T1 I J a1 a2) := by
  unfold F_X9_strongest
  repeat' with_reducible first | exact ex_r | exact ex_l h1 | exact ex_l h2 | exact ex_l h3 | exact xsF_X9_needTank _ _ _ _ h1 | exact xsF_X9_needTimes _ _ h3 | exact xsL_X9_strongest _ _ _ _ _ _ _ _ _ _ _ | refine ex_bs ?_ (fun _ => ?_) | refine ex_if ?_ ?_ | refine ex_gd ?_ | refine ex_gv ?_ | refine ex_gf ?_ | refine ex_b (fun _ => ?_)
theorem xsF_X9_marks {S : String → Prop} (n : Nat) (T0 T1 : Nat) (I : gI) (J : gJ) (a1 : Int32) (a2 : Int32) (h1 : S "java/lang/IllegalStateException") (h3 : S "java/lang/IllegalArgumentException") : EXs S (F_X9_marks n T0 T1 I J a1 a2) := by
  unfold F_X9_marks
  repeat' with_reducible first | exact ex_r | exact ex_l h1 | exact ex_l h3 | exact xsF_X9_needRange _ _ _ _ h3 | exact xsF_X9_needTank _ _ _ _ h1 | exact xsF_X9_needTimes _ _ h3 | exact xsL_X9_marks _ _ _ _ _ _ _ _ _ _ _ _ | refine ex_bs ?_ (fun _ => ?_) | refine ex_if ?_ ?_ | refine ex_gd ?_ | refine ex_gv ?_ | refine ex_gf ?_ | refine ex_b (fun _ => ?_)
theorem xsF_X9_isMark {S : String → Prop} (n : Nat) (T0 T1 : Nat) (I : gI) (J : gJ) (a1 : Int32) (a2 : Int32) (a3 : Int32) (a4 : Int32) (h1 : S "java/lang/IllegalStateException") (h2 : S "java/lang/IndexOutOfBoundsException") (h3 : S "java/lang/IllegalArgumentException") : EXs S (F_X9_isMark n T0 T1 I J a1 a2 a3 a4) := by
  unfold F_X9_isMark
  repeat' with_reducible first | exact ex_r | exact ex_l h1 | exact ex_l h2 | exact ex_l h3 | exact xsF_X9_needCell _ _ _ _ _ _ h2 | exact xsF_X9_needRange _ _ _ _ h3 | exact xsF_X9_needTank _ _ _ _ h1 | exact xsF_X9_needTimes _ _ h3 | refine ex_bs ?_ (fun _ => ?_) | refine ex_if ?_ ?_ | refine ex_gd ?_ | refine ex_gv ?_ | refine ex_gf ?_ | refine ex_b (fun _ => ?_)
theorem xsF_X9_fringes {S : String → Prop} (n : Nat) (T0 T1 : Nat) (I : gI) (J : gJ) (a1 : Int32) (a2 : Int32) (h1 : S "java/lang/IllegalStateException") (h2 : S "java/lang/IndexOutOfBoundsException") (h3 : S "java/lang/IllegalArgumentException") : EXs S (F_X9_fringes n T0 T1 I J a1 a2) := by
  unfold F_X9_fringes
  repeat' with_reducible first | exact ex_r | exact ex_l h1 | exact ex_l h2 | exact ex_l h3 | exact xsF_X9_needColumn _ _ _ _ _ h2 | exact xsF_X9_needTank _ _ _ _ h1 | exact xsF_X9_needTimes _ _ h3 | exact xsL_X9_fringes _ _ _ _ _ _ _ _ _ _ _ _ | refine ex_bs ?_ (fun _ => ?_) | refine ex_if ?_ ?_ | refine ex_gd ?_ | refine ex_gv ?_ | refine ex_gf ?_ | refine ex_b (fun _ => ?_)
theorem xsF_X9_visibility {S : String → Prop} (n : Nat) (T0 T1 : Nat) (I : gI) (J : gJ) (a1 : Int32) (a2 : Int32) (h1 : S "java/lang/IllegalStateException") (h2 : S "java/lang/IndexOutOfBoundsException") (h3 : S "java/lang/IllegalArgumentException") : EXs S (F_X9_visibility n T0 T1 I J a1 a2) := by
  unfold F_X9_visibility
  repeat' with_reducible first | exact ex_r | exact ex_l h1 | exact ex_l h2 | exact ex_l h3 | exact xsF_X9_needColumn _ _ _ _ _ h2 | exact xsF_X9_needTank _ _ _ _ h1 | exact xsF_X9_needTimes _ _ h3 | exact xsL_X9_visibility _ _ _ _ _ _ _ _ _ _ _ _ | refine ex_bs ?_ (fun _ => ?_) | refine ex_if ?_ ?_ | refine ex_gd ?_ | refine ex_gv ?_ | refine ex_gf ?_ | refine ex_b (fun _ => ?_)
theorem xsF_X9_writeRow {S : String → Prop} (n : Nat) (T0 T1 : Nat) (I : gI) (a1 : Int32) (h1 : S "java/lang/IllegalStateException") (h2 : S "java/lang/IndexOutOfBoundsException") : EXs S (F_X9_writeRow n T0 T1 I a1) := by
  unfold F_X9_writeRow
  repeat' with_reducible first | exact ex_r | exact ex_l h1 | exact ex_l h2 | exact xsF_X9_needRow _ _ _ _ _ h2 | exact xsF_X9_needTank _ _ _ _ h1 | exact xsL_X9_writeRow _ _ _ _ _ _ _ _ | refine ex_bs ?_ (fun _ => ?_) | refine ex_if ?_ ?_ | refine ex_gd ?_ | refine ex_gv ?_ | refine ex_gf ?_ | refine ex_b (fun _ => ?_)
theorem xsF_X9_writeMap {S : String → Prop} (n : Nat) (T0 T1 : Nat) (I : gI) (J : gJ) (a1 : Int32) (h1 : S "java/lang/IllegalStateException") (h3 : S "java/lang/IllegalArgumentException") : EXs S (F_X9_writeMap n T0 T1 I J a1) := by
  unfold F_X9_writeMap
  repeat' with_reducible first | exact ex_r | exact ex_l h1 | exact ex_l h3 | exact xsF_X9_needTank _ _ _ _ h1 | exact xsF_X9_needTimes _ _ h3 | exact xsL_X9_writeMap _ _ _ _ _ _ _ _ _ _ | refine ex_bs ?_ (fun _ => ?_) | refine ex_if ?_ ?_ | refine ex_gd ?_ | refine ex_gv ?_ | refine ex_gf ?_ | refine ex_b (fun _ => ?_)
theorem xsF_X9_textByte {S : String → Prop} (n : Nat) (T0 T1 : Nat) (I : gI) (a1 : Int32) (h2 : S "java/lang/IndexOutOfBoundsException") : EXs S (F_X9_textByte n T0 T1 I a1) := by
  unfold F_X9_textByte
  repeat' with_reducible first | exact ex_r | exact ex_l h2 | refine ex_bs ?_ (fun _ => ?_) | refine ex_if ?_ ?_ | refine ex_gd ?_ | refine ex_gv ?_ | refine ex_gf ?_ | refine ex_b (fun _ => ?_)
theorem xsF_X9_nodesIfOff {S : String → Prop} (n : Nat) (T0 T1 : Nat) (I : gI) (a1 : Int32) (a2 : Int32) (a3 : Int32) (h1 : S "java/lang/IllegalStateException") (h2 : S "java/lang/IndexOutOfBoundsException") (h3 : S "java/lang/IllegalArgumentException") : EXs S (F_X9_nodesIfOff n T0 T1 I a1 a2 a3) := by
  unfold F_X9_nodesIfOff
  repeat' with_reducible first | exact ex_r | exact ex_l h1 | exact ex_l h2 | exact ex_l h3 | exact xsF_X9_needSource _ _ _ _ _ h2 | exact xsF_X9_needTank _ _ _ _ h1 | exact xsF_X9_needTimes _ _ h3 | exact xsF_X9_needTolerance _ _ h3 | refine ex_bs ?_ (fun _ => ?_) | refine ex_if ?_ ?_ | refine ex_gd ?_ | refine ex_gv ?_ | refine ex_gf ?_ | refine ex_b (fun _ => ?_)
theorem xsF_X9_bestPhase {S : String → Prop} (n : Nat) (T0 T1 : Nat) (I : gI) (a1 : Int32) (a2 : Int32) (a3 : Int32) (a4 : Int32) (h1 : S "java/lang/IllegalStateException") (h2 : S "java/lang/IndexOutOfBoundsException") (h3 : S "java/lang/IllegalArgumentException") : EXs S (F_X9_bestPhase n T0 T1 I a1 a2 a3 a4) := by
  unfold F_X9_bestPhase
  repeat' with_reducible first | exact ex_r | exact ex_l h1 | exact ex_l h2 | exact ex_l h3 | exact xsF_X9_needCell _ _ _ _ _ _ h2 | exact xsF_X9_needSource _ _ _ _ _ h2 | exact xsF_X9_needTank _ _ _ _ h1 | exact xsF_X9_needTimes _ _ h3 | exact xsL_X9_bestPhase _ _ _ _ _ _ _ _ _ _ _ _ _ | refine ex_bs ?_ (fun _ => ?_) | refine ex_if ?_ ?_ | refine ex_gd ?_ | refine ex_gv ?_ | refine ex_gf ?_ | refine ex_b (fun _ => ?_)
theorem xsF_X9_bestPlace {S : String → Prop} (n : Nat) (T0 T1 : Nat) (I : gI) (a1 : Int32) (a2 : Int32) (a3 : Int32) (a4 : Int32) (h1 : S "java/lang/IllegalStateException") (h2 : S "java/lang/IndexOutOfBoundsException") (h3 : S "java/lang/IllegalArgumentException") : EXs S (F_X9_bestPlace n T0 T1 I a1 a2 a3 a4) := by
  unfold F_X9_bestPlace
  repeat' with_reducible first | exact ex_r | exact ex_l h1 | exact ex_l h2 | exact ex_l h3 | exact xsF_X9_needCell _ _ _ _ _ _ h2 | exact xsF_X9_needSource _ _ _ _ _ h2 | exact xsF_X9_needTank _ _ _ _ h1 | exact xsF_X9_needTimes _ _ h3 | exact xsL_X9_bestPlace _ _ _ _ _ _ _ _ _ _ _ _ _ | refine ex_bs ?_ (fun _ => ?_) | refine ex_if ?_ ?_ | refine ex_gd ?_ | refine ex_gv ?_ | refine ex_gf ?_ | refine ex_b (fun _ => ?_)
theorem xsF_X9_energyIfTurned {S : String → Prop} (n : Nat) (T0 T1 : Nat) (I : gI) (a1 : Int32) (a2 : Int32) (a3 : Int32) (a4 : Int32) (h1 : S "java/lang/IllegalStateException") (h2 : S "java/lang/IndexOutOfBoundsException") (h3 : S "java/lang/IllegalArgumentException") : EXs S (F_X9_energyIfTurned n T0 T1 I a1 a2 a3 a4) := by
  unfold F_X9_energyIfTurned
  repeat' with_reducible first | exact ex_r | exact ex_l h1 | exact ex_l h2 | exact ex_l h3 | exact xsF_X9_needCell _ _ _ _ _ _ h2 | exact xsF_X9_needRow _ _ _ _ _ h2 | exact xsF_X9_needTank _ _ _ _ h1 | exact xsF_X9_needTimes _ _ h3 | refine ex_bs ?_ (fun _ => ?_) | refine ex_if ?_ ?_ | refine ex_gd ?_ | refine ex_gv ?_ | refine ex_gf ?_ | refine ex_b (fun _ => ?_)
theorem xsF_X9_bestRow {S : String → Prop} (n : Nat) (T0 T1 : Nat) (I : gI) (a1 : Int32) (a2 : Int32) (a3 : Int32) (h1 : S "java/lang/IllegalStateException") (h2 : S "java/lang/IndexOutOfBoundsException") (h3 : S "java/lang/IllegalArgumentException") : EXs S (F_X9_bestRow n T0 T1 I a1 a2 a3) := by
  unfold F_X9_bestRow
  repeat' with_reducible first | exact ex_r | exact ex_l h1 | exact ex_l h2 | exact ex_l h3 | exact xsF_X9_needCell _ _ _ _ _ _ h2 | exact xsF_X9_needTank _ _ _ _ h1 | exact xsF_X9_needTimes _ _ h3 | exact xsL_X9_bestRow _ _ _ _ _ _ _ _ _ _ _ _ | refine ex_bs ?_ (fun _ => ?_) | refine ex_if ?_ ?_ | refine ex_gd ?_ | refine ex_gv ?_ | refine ex_gf ?_ | refine ex_b (fun _ => ?_)
theorem xsF_X9_advance {S : String → Prop} (n : Nat) (T0 T1 : Nat) (I : gI) (a1 : Int32) (h1 : S "java/lang/IllegalStateException") (h3 : S "java/lang/IllegalArgumentException") : EXs S (F_X9_advance n T0 T1 I a1) := by
  unfold F_X9_advance
  repeat' with_reducible first | exact ex_r | exact ex_l h1 | exact ex_l h3 | exact xsF_X9_needRange _ _ _ _ h3 | exact xsF_X9_needTank _ _ _ _ h1 | refine ex_bs ?_ (fun _ => ?_) | refine ex_if ?_ ?_ | refine ex_gd ?_ | refine ex_gv ?_ | refine ex_gf ?_ | refine ex_b (fun _ => ?_)
theorem xsF_X9_setOn {S : String → Prop} (n : Nat) (T0 T1 : Nat) (I : gI) (a1 : Int32) (a2 : Int32) (h1 : S "java/lang/IllegalStateException") (h2 : S "java/lang/IndexOutOfBoundsException") : EXs S (F_X9_setOn n T0 T1 I a1 a2) := by
  unfold F_X9_setOn
  repeat' with_reducible first | exact ex_r | exact ex_l h1 | exact ex_l h2 | exact xsF_X9_needSource _ _ _ _ _ h2 | exact xsF_X9_needTank _ _ _ _ h1 | refine ex_bs ?_ (fun _ => ?_) | refine ex_if ?_ ?_ | refine ex_gd ?_ | refine ex_gv ?_ | refine ex_gf ?_ | refine ex_b (fun _ => ?_)
theorem xsF_X9_setPhase {S : String → Prop} (n : Nat) (T0 T1 : Nat) (I : gI) (a1 : Int32) (a2 : Int32) (h1 : S "java/lang/IllegalStateException") (h2 : S "java/lang/IndexOutOfBoundsException") (h3 : S "java/lang/IllegalArgumentException") : EXs S (F_X9_setPhase n T0 T1 I a1 a2) := by
  unfold F_X9_setPhase
  repeat' with_reducible first | exact ex_r | exact ex_l h1 | exact ex_l h2 | exact ex_l h3 | exact xsF_X9_needRange _ _ _ _ h3 | exact xsF_X9_needSource _ _ _ _ _ h2 | exact xsF_X9_needTank _ _ _ _ h1 | refine ex_bs ?_ (fun _ => ?_) | refine ex_if ?_ ?_ | refine ex_gd ?_ | refine ex_gv ?_ | refine ex_gf ?_ | refine ex_b (fun _ => ?_)
theorem xsF_X9_setAmp {S : String → Prop} (n : Nat) (T0 T1 : Nat) (I : gI) (a1 : Int32) (a2 : Int32) (h1 : S "java/lang/IllegalStateException") (h2 : S "java/lang/IndexOutOfBoundsException") (h3 : S "java/lang/IllegalArgumentException") : EXs S (F_X9_setAmp n T0 T1 I a1 a2) := by
  unfold F_X9_setAmp
  repeat' with_reducible first | exact ex_r | exact ex_l h1 | exact ex_l h2 | exact ex_l h3 | exact xsF_X9_needRange _ _ _ _ h3 | exact xsF_X9_needSource _ _ _ _ _ h2 | exact xsF_X9_needTank _ _ _ _ h1 | refine ex_bs ?_ (fun _ => ?_) | refine ex_if ?_ ?_ | refine ex_gd ?_ | refine ex_gv ?_ | refine ex_gf ?_ | refine ex_b (fun _ => ?_)
theorem xsF_X9_moveSource {S : String → Prop} (n : Nat) (T0 T1 : Nat) (I : gI) (a1 : Int32) (a2 : Int32) (a3 : Int32) (h1 : S "java/lang/IllegalStateException") (h2 : S "java/lang/IndexOutOfBoundsException") : EXs S (F_X9_moveSource n T0 T1 I a1 a2 a3) := by
  unfold F_X9_moveSource
  repeat' with_reducible first | exact ex_r | exact ex_l h1 | exact ex_l h2 | exact xsF_X9_needCell _ _ _ _ _ _ h2 | exact xsF_X9_needSource _ _ _ _ _ h2 | exact xsF_X9_needTank _ _ _ _ h1 | refine ex_bs ?_ (fun _ => ?_) | refine ex_if ?_ ?_ | refine ex_gd ?_ | refine ex_gv ?_ | refine ex_gf ?_ | refine ex_b (fun _ => ?_)
theorem xsF_X9_setDrift {S : String → Prop} (n : Nat) (T0 T1 : Nat) (I : gI) (a1 : Int32) (a2 : Int32) (a3 : Int32) (h1 : S "java/lang/IllegalStateException") (h2 : S "java/lang/IndexOutOfBoundsException") (h3 : S "java/lang/IllegalArgumentException") : EXs S (F_X9_setDrift n T0 T1 I a1 a2 a3) := by
  unfold F_X9_setDrift
  repeat' with_reducible first | exact ex_r | exact ex_l h1 | exact ex_l h2 | exact ex_l h3 | exact xsF_X9_needRange _ _ _ _ h3 | exact xsF_X9_needSource _ _ _ _ _ h2 | exact xsF_X9_needTank _ _ _ _ h1 | refine ex_bs ?_ (fun _ => ?_) | refine ex_if ?_ ?_ | refine ex_gd ?_ | refine ex_gv ?_ | refine ex_gf ?_ | refine ex_b (fun _ => ?_)
theorem xsF_X9_turnRow {S : String → Prop} (n : Nat) (T0 T1 : Nat) (I : gI) (a1 : Int32) (h1 : S "java/lang/IllegalStateException") (h2 : S "java/lang/IndexOutOfBoundsException") : EXs S (F_X9_turnRow n T0 T1 I a1) := by
  unfold F_X9_turnRow
  repeat' with_reducible first | exact ex_r | exact ex_l h1 | exact ex_l h2 | exact xsF_X9_needRow _ _ _ _ _ h2 | exact xsF_X9_needTank _ _ _ _ h1 | refine ex_bs ?_ (fun _ => ?_) | refine ex_if ?_ ?_ | refine ex_gd ?_ | refine ex_gv ?_ | refine ex_gf ?_ | refine ex_b (fun _ => ?_)
theorem xsF_X9_undo {S : String → Prop} (n : Nat) (T0 T1 : Nat) (I : gI) (h1 : S "java/lang/IllegalStateException") : EXs S (F_X9_undo n T0 T1 I) := by
  unfold F_X9_undo
  repeat' with_reducible first | exact ex_r | exact ex_l h1 | refine ex_bs ?_ (fun _ => ?_) | refine ex_if ?_ ?_ | refine ex_gd ?_ | refine ex_gv ?_ | refine ex_gf ?_ | refine ex_b (fun _ => ?_)
theorem xsF_X9_needSlot {S : String → Prop} (n : Nat) (a0 : Int32) (h2 : S "java/lang/IndexOutOfBoundsException") : EXs S (F_X9_needSlot n a0) := by
  unfold F_X9_needSlot
  repeat' with_reducible first | exact ex_r | exact ex_l h2 | refine ex_bs ?_ (fun _ => ?_) | refine ex_if ?_ ?_ | refine ex_gd ?_ | refine ex_gv ?_ | refine ex_gf ?_ | refine ex_b (fun _ => ?_)
theorem xsF_X9_save {S : String → Prop} (n : Nat) (T0 T1 : Nat) (I : gI) (a1 : Int32) (h1 : S "java/lang/IllegalStateException") (h2 : S "java/lang/IndexOutOfBoundsException") : EXs S (F_X9_save n T0 T1 I a1) := by
  unfold F_X9_save
  repeat' with_reducible first | exact ex_r | exact ex_l h1 | exact ex_l h2 | exact xsF_X9_needSlot _ _ h2 | exact xsF_X9_needTank _ _ _ _ h1 | refine ex_bs ?_ (fun _ => ?_) | refine ex_if ?_ ?_ | refine ex_gd ?_ | refine ex_gv ?_ | refine ex_gf ?_ | refine ex_b (fun _ => ?_)
theorem xsF_X9_restore {S : String → Prop} (n : Nat) (T0 T1 : Nat) (I : gI) (a1 : Int32) (h1 : S "java/lang/IllegalStateException") (h2 : S "java/lang/IndexOutOfBoundsException") : EXs S (F_X9_restore n T0 T1 I a1) := by
  unfold F_X9_restore
  repeat' with_reducible first | exact ex_r | exact ex_l h1 | exact ex_l h2 | exact xsF_X9_needSlot _ _ h2 | refine ex_bs ?_ (fun _ => ?_) | refine ex_if ?_ ?_ | refine ex_gd ?_ | refine ex_gv ?_ | refine ex_gf ?_ | refine ex_b (fun _ => ?_)
