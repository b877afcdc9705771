def R_law : String := "RippleTankLaw"
def lw_P (b : Addr) (xs : List Int32) (args : Array Value) (s : State) : Prop := args = #[.ref b] ∧ s.IntsAt b xs ∧ xs.length ≤ 3072 ∧ (Jvm.Cond.and given_1 narrow_1).before args s = true
/-- what a walk over the start with the record d0 says of its end, said of the start itself -/
theorem lw_closed {s t : State} {o : Outcome} {d0 : Drawn} {L : List Loc} {k n : Nat} (hd0 : s.drawn.sameBut d0 lw_cs) (hv : ∃ v, o = .returned v) (hW : (s.setDrawn d0).WarmedH t.vm) (hs : (s.setDrawn d0).sameButNew ({ t with vm := s.vm } : State) L k n) : State.butDraws s t lw_cs (fun t1 => Framed s o t1 L k n) := by
  have h2 : t.drawn = d0 := congrArg State.drawn hs.1
  refine ⟨⟨hv, hW, State.sameButNew.setDrawn hs s.drawn⟩, ?_, by decide⟩
  rw [h2]
  exact hd0
def lw_Q (_ : Array Value) (s : State) (o : Outcome) (t : State) : Prop := o = .returned (some (.int 1)) ∧ State.butDraws s t lw_cs (fun t1 => Framed s o t1 [] 601024 7293034)
def lw_Z (below : List Frame) (a : Array Value) (s : State) : State → Prop := fun t => ∃ o, t.status = .running ∧ Ended t below o ∧ lw_Q a s o t
/-- the law's own end, with 1 on the stack, nothing written that was there before, its room as the claim has it; d0: the record of draws at this point (at the entry s.drawn: begin with 'refine W.base ?_' and 'have hd0 := Drawn.sameBut.refl s.drawn lw_cs') -/
theorem lw_ret {p : Program} {l : Launch} {e : Env} {s : State} {m : MethodId} {below : List Frame} {meth : Method} {c : Code} {b : Nat} {d0 : Drawn} (hd0 : s.drawn.sameBut d0 lw_cs) (hx : p.tables.exec = Jvm.exec) (hb : c.code = code) (hr : meth.sig.returnType = ret) (hlocks : meth.locks = false) {pc : Nat} {H : Heap} {ls : Array Slot} (hdg : decode code pc = .ok (.ireturn, 1)) : W p l e room_1 (s.setDrawn d0) m #[Value.ref b] below meth c H [] 601024 7293034 (lw_Z below #[Value.ref b] s) (F0 m pc ls [.int 1]) := by
  intro T hT X
  obtain ⟨fs, hret, hrun, hended, hW, hframe⟩ := X.leave (v := some (.int 1)) (hlocks := hlocks) (fun h => by rw [hr] at h; cases h)
  have hmeth' : T.vm.method? m = some meth := X.method'
  refine ⟨T.setFrames fs, ?_, .returned (some (.int 1)), hrun, hended, rfl, lw_closed hd0 ⟨_, rfl⟩ hW hframe⟩
  jvm_step X.here [X.here.top, hx, hb, hdg, hmeth', hr, ret, narrow_b1]
  (try refine ⟨rfl, ?_⟩); (try refine ⟨rfl, ?_⟩)
  first | (intro acts; rw [hret _ acts rfl rfl rfl]) | rw [hret _ _ rfl rfl rfl]
  exact Steps.refl _
/-- what holds at the law's entry: the machine, the code, the tables' words (any of lw_tbl by 'hts w (by decide +kernel)'), the script of L ints xs at the cell b, what the Statement gives of the start (any of its parts by flat_of_before) -/
def lw_At (p : Program) (s : State) (m : MethodId) (meth : Method) (c : Code) (b L : Nat) (xs : Nat → Int32) : Prop :=
  p.tables.exec = Jvm.exec ∧ c.code = code ∧ meth.sig.returnType = ret ∧ c.maxLocals = 9 ∧ s.vm.findClass R_law = some m.cls ∧ (∀ w ∈ lw_tbl, w.before #[Value.ref b] s = true) ∧ va_X b L xs s s.heap ∧ b < s.heap.size ∧ meth.locks = false ∧ (Jvm.Cond.and given_1 narrow_1).before #[Value.ref b] s = true
/-! THE LAW'S BODY: its row of the table, its goal, rules over the script -/
def mL_law : gM := (x, code, 9, ret, room_1, [])
def lQ (G : gG) (b Lx : Nat) (xs : Nat → Int32) : List Frame → Array Value → State → State → Prop := fun below args s t => (args = #[Value.ref b] ∧ va_X b Lx xs s s.heap ∧ b < s.heap.size ∧ s.heap.size = G.2.2.1) → lw_Z below #[Value.ref b] s t
abbrev lLL (G : gG) (b i : Nat) : List (Option Value) := [some (.ref b), some (.ref (G.2.2.1 + 0)), some (.ref (G.2.2.1 + 153)), some (.ref (G.2.2.1 + 170)), some (.ref (G.2.2.1 + 171)), some (.int (Int32.ofNat i)), none, none, none]
def lNx (G : gG) (b Lx : Nat) (xs : Nat → Int32) (lay : Nat → Nat × Nat) (i k n : Nat) : Prop := ∀ (T0 T1 : Nat) (Dd : Nat → Nat → UInt64) (I : gI) (J : gJ) (K : gI) (N : gJ) (sz : Nat), Rel T0 T1 I K → gAt G mL_law (lQ G b Lx xs) 4357 (lLL G b i) [] (fO G (lay, T0, T1, Dd) I J K N) sz (k + 64) (n + 64)
theorem lkk {a A b B : Nat} (h : a ≤ A) (h2 : b ≤ B) : a ≤ A ∧ b ≤ B := ⟨h, h2⟩
section LW
variable {G : gG} {b Lx i : Nat} {xs : Nat → Int32} {pc : Nat} {Lc : List (Option Value)} {st : List Value} {f : gF} {sz k n : Nat}
theorem s_ld {j : Int32} (hd : decode mL_law.2.1 pc = .ok (.iaload, 1)) (hin : vp_in j Lx) (kk : gAt G mL_law (lQ G b Lx xs) (pc + 1) Lc (.int (xs j.toNatClampNeg) :: st) f sz k n) : gAt G mL_law (lQ G b Lx xs) pc Lc (.int j :: .ref b :: st) f sz k n := by
  intro p e s m args below meth c F H locs ls hl hw
  by_cases hq : args = #[Value.ref b] ∧ va_X b Lx xs s s.heap ∧ b < s.heap.size ∧ s.heap.size = G.2.2.1
  · refine va_sld (A := gA G) F.1 F.2.1 hq.2.1 hq.2.2.1 (fun h => ?_) hw.2.2.2.2 hin hd (kk p e s m args below meth c F H locs ls hl hw)
    have h1 : G.2.2.1 ≤ b := h
    have h2 := hq.2.2.1
    have h3 := hq.2.2.2
    omega
  · intro T hT X
    exact ⟨_, Steps.refl _, fun h => absurd h hq⟩
theorem s_len (hd : decode mL_law.2.1 pc = .ok (.arraylength, 1)) (kk : gAt G mL_law (lQ G b Lx xs) (pc + 1) Lc (.int (Int32.ofNat Lx) :: st) f sz k n) : gAt G mL_law (lQ G b Lx xs) pc Lc (.ref b :: st) f sz k n := by
  intro p e s m args below meth c F H locs ls hl hw
  by_cases hq : args = #[Value.ref b] ∧ va_X b Lx xs s s.heap ∧ b < s.heap.size ∧ s.heap.size = G.2.2.1
  · refine va_slen (A := gA G) F.1 F.2.1 hq.2.1 hq.2.2.1 (fun h => ?_) hw.2.2.2.2 hd (kk p e s m args below meth c F H locs ls hl hw)
    have h1 : G.2.2.1 ≤ b := h
    have h2 := hq.2.2.1
    have h3 := hq.2.2.2
    omega
  · intro T hT X
    exact ⟨_, Steps.refl _, fun h => absurd h hq⟩
theorem s_vin {j : Nat} (hL : Lx ≤ 3072) (h : j < Lx) : vp_in (Int32.ofNat j) Lx := by
  intro q
  rcases q with q | q
  · rw [i_lt, i_of (by omega)] at q
    have : (0 : Int32).toInt = 0 := rfl
    omega
  · rw [i_tno (by omega)] at q
    omega
theorem s_arg {q : Int} (kq : Nat) (hL : Lx ≤ 3072) (hi : i + 6 ≤ Lx) (hq : Int32.ofInt q = Int32.ofNat kq) (hkq : kq < 6) (d0 : decode mL_law.2.1 pc = .ok (.aload_n 0, 1)) (d1 : decode mL_law.2.1 (pc + 1) = .ok (.iload 5, 2)) (d3 : decode mL_law.2.1 (pc + 3) = .ok (.iconst q, 1)) (d4 : decode mL_law.2.1 (pc + 4) = .ok (.iadd, 1)) (d5 : decode mL_law.2.1 (pc + 5) = .ok (.iaload, 1)) (h0 : Lc[0]? = some (some (.ref b))) (h5 : Lc[5]? = some (some (.int (Int32.ofNat i)))) (kk : gAt G mL_law (lQ G b Lx xs) (pc + 6) Lc (.int (xs (i + kq)) :: st) f sz k n) : gAt G mL_law (lQ G b Lx xs) pc Lc st f sz k n := by
  refine r_aload_n (j := 0) (x := b) d0 h0 ?_
  refine r_iload (x := Int32.ofNat i) d1 h5 ?_
  refine r_iconst (v := Int32.ofNat kq) d3 hq ?_
  refine r_iadd d4 ?_
  refine r_ti (y := Int32.ofNat (i + kq)) (Int32.ofNat_add i kq).symm ?_
  refine s_ld d5 (s_vin hL (by omega)) ?_
  rw [i_tno (by omega)]
  exact kk
theorem s_ret (hd : decode mL_law.2.1 pc = .ok (.ireturn, 1)) (hk : k ≤ 601024) (hn : n ≤ 7293034) : gAt G mL_law (lQ G b Lx xs) pc Lc [.int 1] f sz k n := by
  intro p e s m args below meth c F H locs ls hl hw
  by_cases hq : args = #[Value.ref b] ∧ va_X b Lx xs s s.heap ∧ b < s.heap.size ∧ s.heap.size = G.2.2.1
  · obtain ⟨ha, hX, hb, hB⟩ := hq
    subst ha
    have k1 : W p G.1 e room_1 s m #[Value.ref b] below meth c H locs k n (lw_Z below #[Value.ref b] s) (F0 m pc ls [.int 1]) := by
      refine va_forget (fun q hq => ?_) ?_
      · have h := hw.2.2.2.2.2.2 q hq
        have h1 : G.2.2.1 ≤ q.base := h
        omega
      · exact W.widen hk hn (W.base (lw_ret (Drawn.sameBut.refl s.drawn lw_cs) F.1 F.2.1 F.2.2.2.2.2.1 F.2.2.2.2.2.2.1 hd))
    intro T hT X
    obtain ⟨t, a1, b1⟩ := k1 T hT X
    exact ⟨t, a1, fun _ => b1⟩
  · intro T hT X
    exact ⟨_, Steps.refl _, fun h => absurd h hq⟩
end LW
