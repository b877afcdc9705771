/-! FUNCTIONS AS PRINTED OUT OF THE BYTECODE: words for them, and the rules that tie them to bodies -/
def bd {α β : Type} (x : Option α) (g : α → Option β) : Option β := match x with
  | none => none
  | some a => g a
def gd {α : Type} (c : Prop) [Decidable c] (x : Option α) : Option α := if c then x else none
def gv {α : Type} (i : Int32) (z : Nat) (x : Option α) : Option α := if ¬ (i < 0 ∨ z ≤ i.toNatClampNeg) then x else none
def sm {ε α β : Type} (x : ε ⊕ α) (a : ε → β) (b : α → β) : β := match x with
  | .inl e => a e
  | .inr v => b v
theorem bd_of {α β : Type} {x : Option α} {g : α → Option β} {r : β} (h : bd x g = some r) : ∃ a, x = some a ∧ g a = some r := by
  cases x with
  | none => cases h
  | some a => exact ⟨a, rfl, h⟩
theorem gd_of {α : Type} {c : Prop} [Decidable c] {x : Option α} {r : α} (h : gd c x = some r) : c ∧ x = some r := by
  unfold gd at h
  by_cases hc : c
  · rw [if_pos hc] at h; exact ⟨hc, h⟩
  · rw [if_neg hc] at h; cases h
theorem gv_of {α : Type} {i : Int32} {z : Nat} {x : Option α} {r : α} (h : gv i z x = some r) : vp_in i z ∧ x = some r := by
  unfold gv at h
  by_cases hc : ¬ (i < 0 ∨ z ≤ i.toNatClampNeg)
  · rw [if_pos hc] at h; exact ⟨hc, h⟩
  · rw [if_neg hc] at h; cases h
theorem if_t {α : Type} {c : Prop} [Decidable c] {x y r : α} (h : (if c then x else y) = r) (hc : c) : x = r := by rw [if_pos hc] at h; exact h
theorem if_f {α : Type} {c : Prop} [Decidable c] {x y r : α} (h : (if c then x else y) = r) (hc : ¬ c) : y = r := by rw [if_neg hc] at h; exact h
/-- returns v, the cells are f -/
def gR (v : Option Value) (f : gF) (sz : Nat) : gO → gF → Nat → Prop := fun o f' sz' => o = .inl v ∧ f' = f ∧ sz' = sz
/-- throws E, the cells are f -/
def gT (E : String) (f : gF) : gO → gF → Nat → Prop := fun o f' _ => o = .inr E ∧ f' = f
def gB (x : Int32) : Prop := x = 0 ∨ x = 1
theorem gB_nar {x : Int32} (h : x = 0 ∨ x = 1) : narrow .boolean (.int x) = .int x := by
  rcases h with rfl | rfl <;> rfl
theorem gB_fit {x : Int32} (h : x = 0 ∨ x = 1) : fits .boolean (.int x) = true := by
  rcases h with rfl | rfl <;> rfl
theorem gB_vp {x : Int32} (h : x = 0 ∨ x = 1) : vp_nar .boolean x = x := by
  rcases h with rfl | rfl <;> rfl
section GFUN
variable {G : gG} {mi : gM} {Qp : List Frame → Array Value → State → State → Prop} {pc : Nat} {L : List (Option Value)} {st : List Value} {f f1 : gF} {sz k n : Nat}
def gMask (L : List (Option Value)) (m : List Bool) : List (Option Value) := List.zipWith (fun x b => if b then x else none) L m
theorem gMask_at {L : List (Option Value)} {m : List Bool} {i : Nat} {v : Value} (h : (gMask L m)[i]? = some (some v)) : L[i]? = some (some v) := by
  unfold gMask at h
  rw [List.getElem?_zipWith] at h
  cases hL : L[i]? with
  | none => rw [hL] at h; cases h
  | some x =>
    cases hm : m[i]? with
    | none => rw [hL, hm] at h; cases h
    | some b =>
      rw [hL, hm] at h
      cases b with
      | false => cases h
      | true => exact h
theorem r_mask {L2 : List (Option Value)} (m : List Bool) (h : gMask L m = L2) (kk : gAt G mi Qp pc L2 st f sz k n) : gAt G mi Qp pc L st f sz k n := by
  subst h
  intro p e s m9 args below meth c F H locs ls hl hw
  refine kk p e s m9 args below meth c F H locs ls ⟨hl.1, hl.2.1, fun q hq => ?_⟩ hw
  obtain ⟨j, v⟩ := q
  have h1 := (gLp_mem.mp hq).2
  exact gL_at hl (gMask_at (by simpa using h1))
theorem r_callV1 {mz : gM} {index na ci b : Nat} {As rest st0 fs : List Value} {q : vw_C} {v : Option Value} (hC : gCt G mz (.ref b :: As) f sz (gR v f1 sz)) (hd : decode mi.2.1 pc = .ok (.invokevirtual index, 3)) (hl : Cond.methodLink mi.1.cls index mz.1 ∈ gW) (hz : gZ mz na) (hi : Cond.instanceMethod mz.1 ∈ gW) (hse : Cond.selects mz.1.cls mz.1 mz.1 ∈ gW) (hT : mz.2.2.2.2.2 = [])
    (hst : st0 = As.reverse ++ .ref b :: rest) (hna : As.length = na) (hb : f b = .inr (ci, fs)) (hq : vwCl[ci]? = some q) (hqc : q.1 = mz.1.cls) (hR : mz.2.2.2.2.1.frames + 1 ≤ mi.2.2.2.2.1.frames ∧ 8 + (mz.2.2.1 + 11) + mz.2.2.2.2.1.locals ≤ mi.2.2.2.2.1.locals) (hW : (rest.map fun v => v.category).sum ≤ 8) (hk : k + mz.2.2.2.2.1.cells ≤ mi.2.2.2.2.1.cells ∧ n + mz.2.2.2.2.1.slots ≤ mi.2.2.2.2.1.slots)
    (kk : gAt G mi Qp (pc + 3) L (v.toList ++ rest) f1 sz (k + mz.2.2.2.2.1.cells) (n + mz.2.2.2.2.1.slots)) : gAt G mi Qp pc L st0 f sz k n :=
  r_callV hC hd hl hz hi hse hT hst hna hb hq hqc hR hW hk (fun E f' sz' h => by cases h.1) (fun v' f' sz' h => by
    obtain ⟨h1, h2, h3⟩ := h
    cases h1; subst h2; subst h3
    exact kk)
theorem r_callS1 {mz : gM} {index na : Nat} {As rest st0 : List Value} {v : Option Value} (hC : gCt G mz As f sz (gR v f1 sz)) (hd : decode mi.2.1 pc = .ok (.invokestatic index, 3)) (hl : Cond.methodLink mi.1.cls index mz.1 ∈ gW) (hz : gZ mz na) (hs : Cond.static mz.1 ∈ gW) (hT : mz.2.2.2.2.2 = [])
    (hst : st0 = As.reverse ++ rest) (hna : As.length = na) (hR : mz.2.2.2.2.1.frames + 1 ≤ mi.2.2.2.2.1.frames ∧ 8 + (mz.2.2.1 + 11) + mz.2.2.2.2.1.locals ≤ mi.2.2.2.2.1.locals) (hW : (rest.map fun v => v.category).sum ≤ 8) (hk : k + mz.2.2.2.2.1.cells ≤ mi.2.2.2.2.1.cells ∧ n + mz.2.2.2.2.1.slots ≤ mi.2.2.2.2.1.slots)
    (kk : gAt G mi Qp (pc + 3) L (v.toList ++ rest) f1 sz (k + mz.2.2.2.2.1.cells) (n + mz.2.2.2.2.1.slots)) : gAt G mi Qp pc L st0 f sz k n :=
  r_callS hC hd hl hz hs hT hst hna hR hW hk (fun E f' sz' h => by cases h.1) (fun v' f' sz' h => by
    obtain ⟨h1, h2, h3⟩ := h
    cases h1; subst h2; subst h3
    exact kk)
/-- a call that throws, in a method without handlers that hands it on -/
theorem r_callVT {mz : gM} {index na ci b : Nat} {As rest st0 fs : List Value} {q : vw_C} {E : String} {Φ : gO → gF → Nat → Prop} (hC : gCt G mz (.ref b :: As) f sz (gT E f1)) (hd : decode mi.2.1 pc = .ok (.invokevirtual index, 3)) (hl : Cond.methodLink mi.1.cls index mz.1 ∈ gW) (hz : gZ mz na) (hi : Cond.instanceMethod mz.1 ∈ gW) (hse : Cond.selects mz.1.cls mz.1 mz.1 ∈ gW) (hT : mz.2.2.2.2.2 = []) (hTm : mi.2.2.2.2.2 = [])
    (hst : st0 = As.reverse ++ .ref b :: rest) (hna : As.length = na) (hb : f b = .inr (ci, fs)) (hq : vwCl[ci]? = some q) (hqc : q.1 = mz.1.cls) (hR : mz.2.2.2.2.1.frames + 1 ≤ mi.2.2.2.2.1.frames ∧ 8 + (mz.2.2.1 + 11) + mz.2.2.2.2.1.locals ≤ mi.2.2.2.2.1.locals) (hW : (rest.map fun v => v.category).sum ≤ 8) (hk : k + mz.2.2.2.2.1.cells ≤ mi.2.2.2.2.1.cells ∧ n + mz.2.2.2.2.1.slots ≤ mi.2.2.2.2.1.slots)
    (hΦ : ∀ sz', Φ (.inr E) f1 sz') : gAt G mi (gQp G mi Φ) pc L st0 f sz k n :=
  r_callV hC hd hl hz hi hse hT hst hna hb hq hqc hR hW hk (fun E' f' sz' h => by
    obtain ⟨h1, h2⟩ := h
    cases h1; subst h2
    exact x_out hTm hk.1 hk.2 (hΦ _)) (fun v' f' sz' h => by cases h.1)
theorem r_callST {mz : gM} {index na : Nat} {As rest st0 : List Value} {E : String} {Φ : gO → gF → Nat → Prop} (hC : gCt G mz As f sz (gT E f1)) (hd : decode mi.2.1 pc = .ok (.invokestatic index, 3)) (hl : Cond.methodLink mi.1.cls index mz.1 ∈ gW) (hz : gZ mz na) (hs : Cond.static mz.1 ∈ gW) (hT : mz.2.2.2.2.2 = []) (hTm : mi.2.2.2.2.2 = [])
    (hst : st0 = As.reverse ++ rest) (hna : As.length = na) (hR : mz.2.2.2.2.1.frames + 1 ≤ mi.2.2.2.2.1.frames ∧ 8 + (mz.2.2.1 + 11) + mz.2.2.2.2.1.locals ≤ mi.2.2.2.2.1.locals) (hW : (rest.map fun v => v.category).sum ≤ 8) (hk : k + mz.2.2.2.2.1.cells ≤ mi.2.2.2.2.1.cells ∧ n + mz.2.2.2.2.1.slots ≤ mi.2.2.2.2.1.slots)
    (hΦ : ∀ sz', Φ (.inr E) f1 sz') : gAt G mi (gQp G mi Φ) pc L st0 f sz k n :=
  r_callS hC hd hl hz hs hT hst hna hR hW hk (fun E' f' sz' h => by
    obtain ⟨h1, h2⟩ := h
    cases h1; subst h2
    exact x_out hTm hk.1 hk.2 (hΦ _)) (fun v' f' sz' h => by cases h.1)
theorem r_mmax {index : Nat} {x y : Int32} (hd : decode mi.2.1 pc = .ok (.invokestatic index, 3)) (hl : Cond.methodLink mi.1.cls index Lib.Math.max.name ∈ gW) (hs : Cond.static Lib.Math.max.name ∈ gW) (hi : Cond.initialized "java/lang/Math" ∈ gW) (hc : Cond.code Lib.Math.max.name Lib.Math.max.code 2 (some .int) ∈ gW) (hf : 1 ≤ mi.2.2.2.2.1.frames) (hlo : (st.map fun v => v.category).sum + 13 ≤ mi.2.2.2.2.1.locals) (hk : k ≤ mi.2.2.2.2.1.cells) (hn : n ≤ mi.2.2.2.2.1.slots) (kk : gAt G mi Qp (pc + 3) L (.int (if x < y then y else x) :: st) f sz k n) : gAt G mi Qp pc L (.int y :: .int x :: st) f sz k n := by
  intro p e s m args below meth c F H locs ls hl2 hw
  have hts := F.2.2.2.2.1
  exact va_mmax F.1 F.2.1 (by rw [F.2.2.1]; exact hl2.1.symm) F.2.2.2.1 (hts _ hl) (hts _ hs) (hts _ hi) (hts _ hc) hf hlo hk hn hd (kk p e s m args below meth c F H locs ls hl2 hw)
theorem r_mmin {index : Nat} {x y : Int32} (hd : decode mi.2.1 pc = .ok (.invokestatic index, 3)) (hl : Cond.methodLink mi.1.cls index Lib.Math.min.name ∈ gW) (hs : Cond.static Lib.Math.min.name ∈ gW) (hi : Cond.initialized "java/lang/Math" ∈ gW) (hc : Cond.code Lib.Math.min.name Lib.Math.min.code 2 (some .int) ∈ gW) (hf : 1 ≤ mi.2.2.2.2.1.frames) (hlo : (st.map fun v => v.category).sum + 13 ≤ mi.2.2.2.2.1.locals) (hk : k ≤ mi.2.2.2.2.1.cells) (hn : n ≤ mi.2.2.2.2.1.slots) (kk : gAt G mi Qp (pc + 3) L (.int (if y < x then y else x) :: st) f sz k n) : gAt G mi Qp pc L (.int y :: .int x :: st) f sz k n := by
  intro p e s m args below meth c F H locs ls hl2 hw
  have hts := F.2.2.2.2.1
  exact va_mmin F.1 F.2.1 (by rw [F.2.2.1]; exact hl2.1.symm) F.2.2.2.1 (hts _ hl) (hts _ hs) (hts _ hi) (hts _ hc) hf hlo hk hn hd (kk p e s m args below meth c F H locs ls hl2 hw)
theorem r_mabs {index : Nat} {x : Int32} (hd : decode mi.2.1 pc = .ok (.invokestatic index, 3)) (hl : Cond.methodLink mi.1.cls index Lib.Math.abs.name ∈ gW) (hs : Cond.static Lib.Math.abs.name ∈ gW) (hi : Cond.initialized "java/lang/Math" ∈ gW) (hc : Cond.code Lib.Math.abs.name Lib.Math.abs.code 1 (some .int) ∈ gW) (hf : 1 ≤ mi.2.2.2.2.1.frames) (hlo : (st.map fun v => v.category).sum + 13 ≤ mi.2.2.2.2.1.locals) (hk : k ≤ mi.2.2.2.2.1.cells) (hn : n ≤ mi.2.2.2.2.1.slots) (kk : gAt G mi Qp (pc + 3) L (.int (if 0 ≤ x then x else 0 - x) :: st) f sz k n) : gAt G mi Qp pc L (.int x :: st) f sz k n := by
  intro p e s m args below meth c F H locs ls hl2 hw
  have hts := F.2.2.2.2.1
  exact va_mabs F.1 F.2.1 (by rw [F.2.2.1]; exact hl2.1.symm) F.2.2.2.1 (hts _ hl) (hts _ hs) (hts _ hi) (hts _ hc) hf hlo hk hn hd (kk p e s m args below meth c F H locs ls hl2 hw)
theorem r_mmaxl {index : Nat} {x y : Int64} (hd : decode mi.2.1 pc = .ok (.invokestatic index, 3)) (hl : Cond.methodLink mi.1.cls index Lib.MathLoose.max_long.x ∈ gW) (hs : Cond.static Lib.MathLoose.max_long.x ∈ gW) (hi : Cond.initialized "java/lang/Math" ∈ gW) (hc : Cond.code Lib.MathLoose.max_long.x Lib.MathLoose.max_long.code 4 (some .long) ∈ gW) (hf : 1 ≤ mi.2.2.2.2.1.frames) (hlo : (st.map fun v => v.category).sum + 15 ≤ mi.2.2.2.2.1.locals) (hk : k ≤ mi.2.2.2.2.1.cells) (hn : n ≤ mi.2.2.2.2.1.slots) (kk : gAt G mi Qp (pc + 3) L (.long (if y < x then x else y) :: st) f sz k n) : gAt G mi Qp pc L (.long y :: .long x :: st) f sz k n := by
  intro p e s m args below meth c F H locs ls hl2 hw
  have hts := F.2.2.2.2.1
  exact va_mmax_long F.1 F.2.1 (by rw [F.2.2.1]; exact hl2.1.symm) F.2.2.2.1 (hts _ hl) (hts _ hs) (hts _ hi) (hts _ hc) hf hlo hk hn hd (kk p e s m args below meth c F H locs ls hl2 hw)
theorem r_mminl {index : Nat} {x y : Int64} (hd : decode mi.2.1 pc = .ok (.invokestatic index, 3)) (hl : Cond.methodLink mi.1.cls index Lib.MathLoose.min_long.x ∈ gW) (hs : Cond.static Lib.MathLoose.min_long.x ∈ gW) (hi : Cond.initialized "java/lang/Math" ∈ gW) (hc : Cond.code Lib.MathLoose.min_long.x Lib.MathLoose.min_long.code 4 (some .long) ∈ gW) (hf : 1 ≤ mi.2.2.2.2.1.frames) (hlo : (st.map fun v => v.category).sum + 15 ≤ mi.2.2.2.2.1.locals) (hk : k ≤ mi.2.2.2.2.1.cells) (hn : n ≤ mi.2.2.2.2.1.slots) (kk : gAt G mi Qp (pc + 3) L (.long (if y < x then y else x) :: st) f sz k n) : gAt G mi Qp pc L (.long y :: .long x :: st) f sz k n := by
  intro p e s m args below meth c F H locs ls hl2 hw
  have hts := F.2.2.2.2.1
  exact va_mmin_long F.1 F.2.1 (by rw [F.2.2.1]; exact hl2.1.symm) F.2.2.2.1 (hts _ hl) (hts _ hs) (hts _ hi) (hts _ hc) hf hlo hk hn hd (kk p e s m args below meth c F H locs ls hl2 hw)

theorem wMath_mmax : Cond.code Lib.Math.max.name Lib.Math.max.code 2 (some .int) ∈ gW := gW_of 545 (by decide +kernel) (by decide +kernel)
theorem wMath_mmin : Cond.code Lib.Math.min.name Lib.Math.min.code 2 (some .int) ∈ gW := gW_of 542 (by decide +kernel) (by decide +kernel)
theorem wMath_mabs : Cond.code Lib.Math.abs.name Lib.Math.abs.code 1 (some .int) ∈ gW := gW_of 596 (by decide +kernel) (by decide +kernel)
theorem wMath_mmaxl : Cond.code Lib.MathLoose.max_long.x Lib.MathLoose.max_long.code 4 (some .long) ∈ gW := gW_of 1166 (by decide +kernel) (by decide +kernel)
abbrev jmax (x y : Int32) : Int32 := if x < y then y else x
abbrev jmin (x y : Int32) : Int32 := if y < x then y else x
abbrev jabs (x : Int32) : Int32 := if 0 ≤ x then x else 0 - x
abbrev jmaxl (x y : Int64) : Int64 := if y < x then x else y
abbrev jminl (x y : Int64) : Int64 := if y < x then y else x
theorem vpc {i : Int32} {z : Nat} (h : (decide (i < 0) || decide (z ≤ i.toNatClampNeg)) = false) : vp_in i z := by
  simp only [Bool.or_eq_false_iff, decide_eq_false_iff_not] at h
  exact fun q => q.elim h.1 h.2
def gfd {α : Type} (x y : UInt32) (r : Option α) : Option α := if (FP.fdiv x y) &&& 0x7fffffff ≤ 0x7f800000 then r else none
theorem gfd_of {α : Type} {x y : UInt32} {u : Option α} {r : α} (h : gfd x y u = some r) : vf_n32 (FP.fdiv x y) ∧ u = some r := by
  unfold gfd at h
  by_cases hc : (FP.fdiv x y) &&& 0x7fffffff ≤ 0x7f800000
  · rw [if_pos hc] at h; exact ⟨hc, h⟩
  · rw [if_neg hc] at h; cases h
theorem r_iincv {i : Nat} {d : Int} {x v : Int32} (hd : decode mi.2.1 pc = .ok (.iinc i d, 3)) (hx : L[i]? = some (some (.int x))) (hv : x + Int32.ofInt d = v) (hi : i < mi.2.2.1) (hc : gNo L i = true) (kk : gAt G mi Qp (pc + 3) (L.set i (some (.int v))) st f sz k n) : gAt G mi Qp pc L st f sz k n := by
  subst hv
  exact r_iinc hd hx hi hc kk
theorem sw5 {x : Int32} (h0 : ¬ x = 0) (h1 : ¬ x = 1) (h2 : ¬ x = 2) (h3 : ¬ x = 3) (h4 : ¬ x = 4) : x.toInt < 0 ∨ 4 < x.toInt := by
  have e : ∀ c : Int32, ¬ x = c → x.toInt ≠ c.toInt := fun c h q => h (Int32.toInt_inj.mp q)
  have a0 : x.toInt ≠ 0 := e 0 h0
  have a1 : x.toInt ≠ 1 := e 1 h1
  have a2 : x.toInt ≠ 2 := e 2 h2
  have a3 : x.toInt ≠ 3 := e 3 h3
  have a4 : x.toInt ≠ 4 := e 4 h4
  omega
theorem r_cVi {mz : gM} {index na : Nat} {As rest st0 : List Value} {ci b : Nat} {fs : List Value} {q : vw_C} {u : Value} (hC : gCt G mz (.ref b :: As) f sz (gR (some u) f1 sz)) (hd : decode mi.2.1 pc = .ok (.invokevirtual index, 3)) (hl : Cond.methodLink mi.1.cls index mz.1 ∈ gW) (hz : gZ mz na) (hi : Cond.instanceMethod mz.1 ∈ gW) (hse : Cond.selects mz.1.cls mz.1 mz.1 ∈ gW) (hT : mz.2.2.2.2.2 = []) (hst : st0 = As.reverse ++ .ref b :: rest) (hna : As.length = na) (hb : f b = .inr (ci, fs)) (hq : vwCl[ci]? = some q) (hqc : q.1 = mz.1.cls) (hR : mz.2.2.2.2.1.frames + 1 ≤ mi.2.2.2.2.1.frames ∧ 8 + (mz.2.2.1 + 11) + mz.2.2.2.2.1.locals ≤ mi.2.2.2.2.1.locals) (hW : (rest.map fun v => v.category).sum ≤ 8) (hk : k + mz.2.2.2.2.1.cells ≤ mi.2.2.2.2.1.cells ∧ n + mz.2.2.2.2.1.slots ≤ mi.2.2.2.2.1.slots) (kk : gAt G mi Qp (pc + 3) L (u :: rest) f1 sz (k + mz.2.2.2.2.1.cells) (n + mz.2.2.2.2.1.slots)) : gAt G mi Qp pc L st0 f sz k n :=
  r_callV1 hC hd hl hz hi hse hT hst hna hb hq hqc hR hW hk kk
theorem r_cVv {mz : gM} {index na : Nat} {As rest st0 : List Value} {ci b : Nat} {fs : List Value} {q : vw_C} (hC : gCt G mz (.ref b :: As) f sz (gR none f1 sz)) (hd : decode mi.2.1 pc = .ok (.invokevirtual index, 3)) (hl : Cond.methodLink mi.1.cls index mz.1 ∈ gW) (hz : gZ mz na) (hi : Cond.instanceMethod mz.1 ∈ gW) (hse : Cond.selects mz.1.cls mz.1 mz.1 ∈ gW) (hT : mz.2.2.2.2.2 = []) (hst : st0 = As.reverse ++ .ref b :: rest) (hna : As.length = na) (hb : f b = .inr (ci, fs)) (hq : vwCl[ci]? = some q) (hqc : q.1 = mz.1.cls) (hR : mz.2.2.2.2.1.frames + 1 ≤ mi.2.2.2.2.1.frames ∧ 8 + (mz.2.2.1 + 11) + mz.2.2.2.2.1.locals ≤ mi.2.2.2.2.1.locals) (hW : (rest.map fun v => v.category).sum ≤ 8) (hk : k + mz.2.2.2.2.1.cells ≤ mi.2.2.2.2.1.cells ∧ n + mz.2.2.2.2.1.slots ≤ mi.2.2.2.2.1.slots) (kk : gAt G mi Qp (pc + 3) L (rest) f1 sz (k + mz.2.2.2.2.1.cells) (n + mz.2.2.2.2.1.slots)) : gAt G mi Qp pc L st0 f sz k n :=
  r_callV1 hC hd hl hz hi hse hT hst hna hb hq hqc hR hW hk kk
theorem r_cSi {mz : gM} {index na : Nat} {As rest st0 : List Value} {u : Value} (hC : gCt G mz As f sz (gR (some u) f1 sz)) (hd : decode mi.2.1 pc = .ok (.invokestatic index, 3)) (hl : Cond.methodLink mi.1.cls index mz.1 ∈ gW) (hz : gZ mz na) (hs : Cond.static mz.1 ∈ gW) (hT : mz.2.2.2.2.2 = []) (hst : st0 = As.reverse ++ rest) (hna : As.length = na) (hR : mz.2.2.2.2.1.frames + 1 ≤ mi.2.2.2.2.1.frames ∧ 8 + (mz.2.2.1 + 11) + mz.2.2.2.2.1.locals ≤ mi.2.2.2.2.1.locals) (hW : (rest.map fun v => v.category).sum ≤ 8) (hk : k + mz.2.2.2.2.1.cells ≤ mi.2.2.2.2.1.cells ∧ n + mz.2.2.2.2.1.slots ≤ mi.2.2.2.2.1.slots) (kk : gAt G mi Qp (pc + 3) L (u :: rest) f1 sz (k + mz.2.2.2.2.1.cells) (n + mz.2.2.2.2.1.slots)) : gAt G mi Qp pc L st0 f sz k n :=
  r_callS1 hC hd hl hz hs hT hst hna hR hW hk kk
theorem r_cSv {mz : gM} {index na : Nat} {As rest st0 : List Value} (hC : gCt G mz As f sz (gR none f1 sz)) (hd : decode mi.2.1 pc = .ok (.invokestatic index, 3)) (hl : Cond.methodLink mi.1.cls index mz.1 ∈ gW) (hz : gZ mz na) (hs : Cond.static mz.1 ∈ gW) (hT : mz.2.2.2.2.2 = []) (hst : st0 = As.reverse ++ rest) (hna : As.length = na) (hR : mz.2.2.2.2.1.frames + 1 ≤ mi.2.2.2.2.1.frames ∧ 8 + (mz.2.2.1 + 11) + mz.2.2.2.2.1.locals ≤ mi.2.2.2.2.1.locals) (hW : (rest.map fun v => v.category).sum ≤ 8) (hk : k + mz.2.2.2.2.1.cells ≤ mi.2.2.2.2.1.cells ∧ n + mz.2.2.2.2.1.slots ≤ mi.2.2.2.2.1.slots) (kk : gAt G mi Qp (pc + 3) L (rest) f1 sz (k + mz.2.2.2.2.1.cells) (n + mz.2.2.2.2.1.slots)) : gAt G mi Qp pc L st0 f sz k n :=
  r_callS1 hC hd hl hz hs hT hst hna hR hW hk kk
section
variable {E : gE} {I : gI} {J : gJ} {K : gI} {N : gJ} {o z : Nat} {i : Int32}
theorem a_ialdc (j : Nat) (hd : decode mi.2.1 pc = .ok (.iaload, 1)) (ho : E.1 o = (102, z)) (hin : vp_in i z) (hj : i.toNatClampNeg = j) (kk : gAt G mi Qp (pc + 1) L (.int (I o j) :: st) (fO G E I J K N) sz k n) : gAt G mi Qp pc L (.int i :: .ref (G.2.2.1 + o) :: st) (fO G E I J K N) sz k n := by
  subst hj; exact a_iald hd ho hin kk
theorem a_zaldc (j : Nat) (hd : decode mi.2.1 pc = .ok (.baload, 1)) (ho : E.1 o = (100, z)) (hin : vp_in i z) (hj : i.toNatClampNeg = j) (kk : gAt G mi Qp (pc + 1) L (.int (I o j) :: st) (fO G E I J K N) sz k n) : gAt G mi Qp pc L (.int i :: .ref (G.2.2.1 + o) :: st) (fO G E I J K N) sz k n := by
  subst hj; exact a_zald hd ho hin kk
theorem a_baldc (j : Nat) (hd : decode mi.2.1 pc = .ok (.baload, 1)) (ho : E.1 o = (101, z)) (hin : vp_in i z) (hj : i.toNatClampNeg = j) (kk : gAt G mi Qp (pc + 1) L (.int (I o j) :: st) (fO G E I J K N) sz k n) : gAt G mi Qp pc L (.int i :: .ref (G.2.2.1 + o) :: st) (fO G E I J K N) sz k n := by
  subst hj; exact a_bald hd ho hin kk
theorem a_laldc (j : Nat) (hd : decode mi.2.1 pc = .ok (.laload, 1)) (ho : E.1 o = (103, z)) (hin : vp_in i z) (hj : i.toNatClampNeg = j) (kk : gAt G mi Qp (pc + 1) L (.long (J o j) :: st) (fO G E I J K N) sz k n) : gAt G mi Qp pc L (.int i :: .ref (G.2.2.1 + o) :: st) (fO G E I J K N) sz k n := by
  subst hj; exact a_lald hd ho hin kk
theorem m_ialdc (j : Nat) (hd : decode mi.2.1 pc = .ok (.iaload, 1)) (ho : E.1 o = (202, z)) (hin : vp_in i z) (hj : i.toNatClampNeg = j) (kk : gAt G mi Qp (pc + 1) L (.int (K o j) :: st) (fO G E I J K N) sz k n) : gAt G mi Qp pc L (.int i :: .ref (G.2.2.1 + o) :: st) (fO G E I J K N) sz k n := by
  subst hj; exact m_iald hd ho hin kk
theorem m_zaldc (j : Nat) (hd : decode mi.2.1 pc = .ok (.baload, 1)) (ho : E.1 o = (200, z)) (hin : vp_in i z) (hj : i.toNatClampNeg = j) (kk : gAt G mi Qp (pc + 1) L (.int (K o j) :: st) (fO G E I J K N) sz k n) : gAt G mi Qp pc L (.int i :: .ref (G.2.2.1 + o) :: st) (fO G E I J K N) sz k n := by
  subst hj; exact m_zald hd ho hin kk
theorem m_laldc (j : Nat) (hd : decode mi.2.1 pc = .ok (.laload, 1)) (ho : E.1 o = (203, z)) (hin : vp_in i z) (hj : i.toNatClampNeg = j) (kk : gAt G mi Qp (pc + 1) L (.long (N o j) :: st) (fO G E I J K N) sz k n) : gAt G mi Qp pc L (.int i :: .ref (G.2.2.1 + o) :: st) (fO G E I J K N) sz k n := by
  subst hj; exact m_lald hd ho hin kk
theorem a_iastc (j : Nat) {v : Int32} (hd : decode mi.2.1 pc = .ok (.iastore, 1)) (ho : E.1 o = (102, z)) (hin : vp_in i z) (hj : i.toNatClampNeg = j) (kk : gAt G mi Qp (pc + 1) L st (fO G E (sI I o j v) J K N) sz k n) : gAt G mi Qp pc L (.int v :: .int i :: .ref (G.2.2.1 + o) :: st) (fO G E I J K N) sz k n := by
  subst hj; exact a_iast hd ho hin kk
theorem a_bastc (j : Nat) {v : Int32} (hd : decode mi.2.1 pc = .ok (.bastore, 1)) (ho : E.1 o = (101, z)) (hin : vp_in i z) (hj : i.toNatClampNeg = j) (kk : gAt G mi Qp (pc + 1) L st (fO G E (sI I o j (vp_nar .byte v)) J K N) sz k n) : gAt G mi Qp pc L (.int v :: .int i :: .ref (G.2.2.1 + o) :: st) (fO G E I J K N) sz k n := by
  subst hj; exact a_bast hd ho hin kk
theorem a_lastc (j : Nat) {v : Int64} (hd : decode mi.2.1 pc = .ok (.lastore, 1)) (ho : E.1 o = (103, z)) (hin : vp_in i z) (hj : i.toNatClampNeg = j) (kk : gAt G mi Qp (pc + 1) L st (fO G E I (sJ J o j v) K N) sz k n) : gAt G mi Qp pc L (.long v :: .int i :: .ref (G.2.2.1 + o) :: st) (fO G E I J K N) sz k n := by
  subst hj; exact a_last hd ho hin kk
theorem m_iastc (j : Nat) {v : Int32} (hd : decode mi.2.1 pc = .ok (.iastore, 1)) (ho : E.1 o = (202, z)) (hin : vp_in i z) (hj : i.toNatClampNeg = j) (kk : gAt G mi Qp (pc + 1) L st (fO G E I J (sI K o j v) N) sz k n) : gAt G mi Qp pc L (.int v :: .int i :: .ref (G.2.2.1 + o) :: st) (fO G E I J K N) sz k n := by
  subst hj; exact m_iast hd ho hin kk
theorem m_lastc (j : Nat) {v : Int64} (hd : decode mi.2.1 pc = .ok (.lastore, 1)) (ho : E.1 o = (203, z)) (hin : vp_in i z) (hj : i.toNatClampNeg = j) (kk : gAt G mi Qp (pc + 1) L st (fO G E I J K (sJ N o j v)) sz k n) : gAt G mi Qp pc L (.long v :: .int i :: .ref (G.2.2.1 + o) :: st) (fO G E I J K N) sz k n := by
  subst hj; exact m_last hd ho hin kk
theorem a_zastb {v : Int32} (hd : decode mi.2.1 pc = .ok (.bastore, 1)) (ho : E.1 o = (100, z)) (hin : vp_in i z) (hv : v = 0 ∨ v = 1) (kk : gAt G mi Qp (pc + 1) L st (fO G E (sI I o i.toNatClampNeg v) J K N) sz k n) : gAt G mi Qp pc L (.int v :: .int i :: .ref (G.2.2.1 + o) :: st) (fO G E I J K N) sz k n := by
  refine a_zast hd ho hin ?_
  rw [gB_vp hv]
  exact kk
theorem a_zastbc (j : Nat) {v : Int32} (hd : decode mi.2.1 pc = .ok (.bastore, 1)) (ho : E.1 o = (100, z)) (hin : vp_in i z) (hj : i.toNatClampNeg = j) (hv : v = 0 ∨ v = 1) (kk : gAt G mi Qp (pc + 1) L st (fO G E (sI I o j v) J K N) sz k n) : gAt G mi Qp pc L (.int v :: .int i :: .ref (G.2.2.1 + o) :: st) (fO G E I J K N) sz k n := by
  subst hj; exact a_zastb hd ho hin hv kk
theorem m_zastb {v : Int32} (hd : decode mi.2.1 pc = .ok (.bastore, 1)) (ho : E.1 o = (200, z)) (hin : vp_in i z) (hv : v = 0 ∨ v = 1) (kk : gAt G mi Qp (pc + 1) L st (fO G E I J (sI K o i.toNatClampNeg v) N) sz k n) : gAt G mi Qp pc L (.int v :: .int i :: .ref (G.2.2.1 + o) :: st) (fO G E I J K N) sz k n := by
  refine m_zast hd ho hin ?_
  rw [gB_vp hv]
  exact kk
theorem m_zastbc (j : Nat) {v : Int32} (hd : decode mi.2.1 pc = .ok (.bastore, 1)) (ho : E.1 o = (200, z)) (hin : vp_in i z) (hj : i.toNatClampNeg = j) (hv : v = 0 ∨ v = 1) (kk : gAt G mi Qp (pc + 1) L st (fO G E I J (sI K o j v) N) sz k n) : gAt G mi Qp pc L (.int v :: .int i :: .ref (G.2.2.1 + o) :: st) (fO G E I J K N) sz k n := by
  subst hj; exact m_zastb hd ho hin hv kk
end
end GFUN
theorem gSt2 {lay : Nat → Nat × Nat} (hE : gLay lay) : gState lay 2 := ⟨hE 2 (by decide), hE 3 (by decide), hE 4 (by decide), hE 5 (by decide), hE 6 (by decide), hE 7 (by decide), hE 8 (by decide), hE 9 (by decide)⟩
theorem gSt10 {lay : Nat → Nat × Nat} (hE : gLay lay) : gState lay 10 := ⟨hE 10 (by decide), hE 11 (by decide), hE 12 (by decide), hE 13 (by decide), hE 14 (by decide), hE 15 (by decide), hE 16 (by decide), hE 17 (by decide)⟩
theorem gKept {lay : Nat → Nat × Nat} (hE : gLay lay) {x : Nat} (h : x < 8) : gState lay (18 + 1 + 1 + 8 * x) := by
  rcases (show x = 0 ∨ x = 1 ∨ x = 2 ∨ x = 3 ∨ x = 4 ∨ x = 5 ∨ x = 6 ∨ x = 7 by omega) with rfl | rfl | rfl | rfl | rfl | rfl | rfl | rfl
  · exact ⟨hE 20 (by decide), hE 21 (by decide), hE 22 (by decide), hE 23 (by decide), hE 24 (by decide), hE 25 (by decide), hE 26 (by decide), hE 27 (by decide)⟩
  · exact ⟨hE 28 (by decide), hE 29 (by decide), hE 30 (by decide), hE 31 (by decide), hE 32 (by decide), hE 33 (by decide), hE 34 (by decide), hE 35 (by decide)⟩
  · exact ⟨hE 36 (by decide), hE 37 (by decide), hE 38 (by decide), hE 39 (by decide), hE 40 (by decide), hE 41 (by decide), hE 42 (by decide), hE 43 (by decide)⟩
  · exact ⟨hE 44 (by decide), hE 45 (by decide), hE 46 (by decide), hE 47 (by decide), hE 48 (by decide), hE 49 (by decide), hE 50 (by decide), hE 51 (by decide)⟩
  · exact ⟨hE 52 (by decide), hE 53 (by decide), hE 54 (by decide), hE 55 (by decide), hE 56 (by decide), hE 57 (by decide), hE 58 (by decide), hE 59 (by decide)⟩
  · exact ⟨hE 60 (by decide), hE 61 (by decide), hE 62 (by decide), hE 63 (by decide), hE 64 (by decide), hE 65 (by decide), hE 66 (by decide), hE 67 (by decide)⟩
  · exact ⟨hE 68 (by decide), hE 69 (by decide), hE 70 (by decide), hE 71 (by decide), hE 72 (by decide), hE 73 (by decide), hE 74 (by decide), hE 75 (by decide)⟩
  · exact ⟨hE 76 (by decide), hE 77 (by decide), hE 78 (by decide), hE 79 (by decide), hE 80 (by decide), hE 81 (by decide), hE 82 (by decide), hE 83 (by decide)⟩
theorem gSlot {lay : Nat → Nat × Nat} (hE : gLay lay) {x : Nat} (h : x < 2) : gState lay (137 + 8 * x) := by
  rcases (show x = 0 ∨ x = 1 by omega) with rfl | rfl
  · exact ⟨hE 137 (by decide), hE 138 (by decide), hE 139 (by decide), hE 140 (by decide), hE 141 (by decide), hE 142 (by decide), hE 143 (by decide), hE 144 (by decide)⟩
  · exact ⟨hE 145 (by decide), hE 146 (by decide), hE 147 (by decide), hE 148 (by decide), hE 149 (by decide), hE 150 (by decide), hE 151 (by decide), hE 152 (by decide)⟩
