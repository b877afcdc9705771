section GC
variable {G : gG} {mi : gM} {Qp : List Frame → Array Value → State → State → Prop} {pc : Nat} {L : List (Option Value)} {st : List Value} {f : gF} {sz k n : Nat} {Φ : gO → gF → Nat → Prop}
theorem gCt.of {av : List Value} (L0 : List (Option Value)) (hp : plainName mi.1.cls = true) (hT : mi.2.2.2.2.2 = []) (hs : G.1.stackTraces = false) (hL : gLp 0 L0 = lv_args 0 av) (hn : (lg_sl av).length ≤ mi.2.2.1) (h : gAt G mi (gQp G mi Φ) 0 L0 [] f sz 0 0) : gCt G mi av f sz Φ := by
  unfold gCt
  refine vx_ofW (cc := mi.2.1) (maxL := mi.2.2.1) (ret := mi.2.2.2.1) hp (by unfold gCode; rw [hT]) ?_
  intro p e s m args below meth c s₁ B hml hne hv
  obtain ⟨rfl, h1, h2, h3, h4⟩ := hv
  have hts := atoms_spec (ws := gCode mi :: gW) B.pre
  have hl := lv_entry av (n := mi.2.2.1) hn
  rw [← hL] at hl
  rw [lg_entry_eq]
  exact h p e s m _ below meth c ⟨B.exec, B.bytes, hml, findClass_of_methodNamed B.named, fun w hw => hts w (List.mem_cons_of_mem _ hw), B.returns, B.notSynchronized, (name_of_methodNamed B.named B.method).1, by rw [hT]; exact List.eq_nil_iff_forall_not_mem.mpr (fun x hx => hne x hx), hs⟩ s.heap [] _ hl ⟨h1, h2, h3, by rw [h3]; exact h4, va_S.rf⟩
theorem gCt.ofH {av : List Value} (L0 : List (Option Value)) {h0 : Nat × Nat × Nat × Nat} {ht : List (Nat × Nat × Nat × Nat)} (hp : plainName mi.1.cls = true) (hT : mi.2.2.2.2.2 = h0 :: ht) (hs : G.1.stackTraces = false) (hL : gLp 0 L0 = lv_args 0 av) (hn : (lg_sl av).length ≤ mi.2.2.1) (h : gAt G mi (gQp G mi Φ) 0 L0 [] f sz 0 0) : gCt G mi av f sz Φ := by
  unfold gCt
  have hc : gCode mi = .codeWith mi.1 mi.2.1 mi.2.2.1 mi.2.2.2.1 (h0 :: ht) := by unfold gCode; rw [hT]
  refine vx_ofWH (cc := mi.2.1) (maxL := mi.2.2.1) (ret := mi.2.2.2.1) (hh := h0 :: ht) hp (by rw [hc]) ?_
  intro p e s m args below meth c s₁ B hml hv
  obtain ⟨rfl, h1, h2, h3, h4⟩ := hv
  have hts := atoms_spec (ws := gCode mi :: gW) B.pre
  have hl := lv_entry av (n := mi.2.2.1) hn
  rw [← hL] at hl
  rw [lg_entry_eq]
  have hcw : (Cond.codeWith mi.1 mi.2.1 mi.2.2.1 mi.2.2.2.1 (h0 :: ht)).before av.toArray s = true := hc ▸ hts (gCode mi) List.mem_cons_self
  have htab : c.exceptionTable.toList = tableOf (h0 :: ht) := vx_table (x := mi.1) (y := mi.1) (bytes := mi.2.1) (maxL' := mi.2.2.1) (ret' := mi.2.2.2.1) B hcw
  exact h p e s m _ below meth c ⟨B.exec, B.bytes, hml, findClass_of_methodNamed B.named, fun w hw => hts w (List.mem_cons_of_mem _ hw), B.returns, B.notSynchronized, (name_of_methodNamed B.named B.method).1, by rw [hT]; exact htab, hs⟩ s.heap [] _ hl ⟨h1, h2, h3, by rw [h3]; exact h4, va_S.rf⟩
theorem r_iret {v : Int32} (hd : decode mi.2.1 pc = .ok (.ireturn, 1)) (hr : mi.2.2.2.1 = some .int) (hk : k ≤ mi.2.2.2.2.1.cells) (hn : n ≤ mi.2.2.2.2.1.slots) (hΦ : Φ (.inl (some (.int v))) f sz) : gAt G mi (gQp G mi Φ) pc L [.int v] f sz k n := by
  intro p e s m args below meth c F H locs ls hl hw
  refine W.widen hk hn (vx_ret ?_)
  exact W.iret F.1 F.2.1 (F.2.2.2.2.2.1.trans hr) (fun t ht hW => ⟨⟨_, f, sz, rfl, hΦ, by rw [ht]; exact hw.1, by rw [ht]; exact hw.2.2.1⟩, hw.2.2.2.2.F ht⟩) hw.2.2.2.2.2.2 hd F.2.2.2.2.2.2.1
theorem r_zret {v : Int32} (hd : decode mi.2.1 pc = .ok (.ireturn, 1)) (hr : mi.2.2.2.1 = some .boolean) (hz : narrow .boolean (.int v) = .int v) (hk : k ≤ mi.2.2.2.2.1.cells) (hn : n ≤ mi.2.2.2.2.1.slots) (hΦ : Φ (.inl (some (.int v))) f sz) : gAt G mi (gQp G mi Φ) pc L [.int v] f sz k n := by
  intro p e s m args below meth c F H locs ls hl hw
  refine W.widen hk hn (vx_ret ?_)
  exact W.zret F.1 F.2.1 (F.2.2.2.2.2.1.trans hr) hz (fun t ht hW => ⟨⟨_, f, sz, rfl, hΦ, by rw [ht]; exact hw.1, by rw [ht]; exact hw.2.2.1⟩, hw.2.2.2.2.F ht⟩) hw.2.2.2.2.2.2 hd F.2.2.2.2.2.2.1
theorem r_lret {v : Int64} (hd : decode mi.2.1 pc = .ok (.lreturn, 1)) (hr : mi.2.2.2.1 = some .long) (hk : k ≤ mi.2.2.2.2.1.cells) (hn : n ≤ mi.2.2.2.2.1.slots) (hΦ : Φ (.inl (some (.long v))) f sz) : gAt G mi (gQp G mi Φ) pc L [.long v] f sz k n := by
  intro p e s m args below meth c F H locs ls hl hw
  refine W.widen hk hn (vx_ret ?_)
  exact W.lret F.1 F.2.1 (F.2.2.2.2.2.1.trans hr) (fun t ht hW => ⟨⟨_, f, sz, rfl, hΦ, by rw [ht]; exact hw.1, by rw [ht]; exact hw.2.2.1⟩, hw.2.2.2.2.F ht⟩) hw.2.2.2.2.2.2 hd F.2.2.2.2.2.2.1
theorem r_fret {v : UInt32} (hd : decode mi.2.1 pc = .ok (.freturn, 1)) (hr : mi.2.2.2.1 = some .float) (hk : k ≤ mi.2.2.2.2.1.cells) (hn : n ≤ mi.2.2.2.2.1.slots) (hΦ : Φ (.inl (some (.float v))) f sz) : gAt G mi (gQp G mi Φ) pc L [.float v] f sz k n := by
  intro p e s m args below meth c F H locs ls hl hw
  refine W.widen hk hn (vx_ret ?_)
  exact W.fret F.1 F.2.1 (F.2.2.2.2.2.1.trans hr) (fun t ht hW => ⟨⟨_, f, sz, rfl, hΦ, by rw [ht]; exact hw.1, by rw [ht]; exact hw.2.2.1⟩, hw.2.2.2.2.F ht⟩) hw.2.2.2.2.2.2 hd F.2.2.2.2.2.2.1
theorem r_vret (hd : decode mi.2.1 pc = .ok (.return_, 1)) (hr : mi.2.2.2.1 = none) (hk : k ≤ mi.2.2.2.2.1.cells) (hn : n ≤ mi.2.2.2.2.1.slots) (hΦ : Φ (.inl none) f sz) : gAt G mi (gQp G mi Φ) pc L [] f sz k n := by
  intro p e s m args below meth c F H locs ls hl hw
  refine W.widen hk hn (vx_ret ?_)
  exact W.vret F.1 F.2.1 (F.2.2.2.2.2.1.trans hr) (fun t ht hW => ⟨⟨_, f, sz, rfl, hΦ, by rw [ht]; exact hw.1, by rw [ht]; exact hw.2.2.1⟩, hw.2.2.2.2.F ht⟩) hw.2.2.2.2.2.2 hd F.2.2.2.2.2.2.1
/-- thrown out of a method without handlers -/
theorem x_out {E : String} (hT : mi.2.2.2.2.2 = []) (hk : k ≤ mi.2.2.2.2.1.cells) (hn : n ≤ mi.2.2.2.2.1.slots) (hΦ : Φ (.inr E) f sz) : gAtX G mi (gQp G mi Φ) pc E L f sz k n := by
  intro p e s m args below meth c F H locs ls rest q ce hl hw hc hv hcl
  refine vx_out (fun x hx => ?_) F.2.2.2.2.2.2.1 hc hv hcl (fun t ht hW => ⟨⟨f, sz, hΦ, by rw [ht]; exact hw.1, by rw [ht]; exact hw.2.2.1⟩, hw.2.2.2.2.F ht⟩) hw.2.2.2.2.2.2 hk hn
  rw [F.2.2.2.2.2.2.2.2.1, hT] at hx
  cases hx
theorem g_keep {st₀ t T' s : State} {H : Heap} {locs Ls : List Loc} {f' : gF} {sz' : Nat} (hw : gH G f sz s H locs) (h0 : st₀.heap = H) (e1 : T'.heap = t.heap) (hL : ∀ q ∈ Ls, gA G q.base) (hF : va_F (gA G) st₀ t) (h1 : gRep G f' t.heap) (h2 : t.heap.size = sz') : gH G f' sz' s T'.heap (locs ++ Ls) := by
  obtain ⟨k1, k2, k3⟩ := vx_keep h0 e1 hw.2.2.2.2 (fun _ _ h => h) (fun _ h => h) hL hF
  exact ⟨by rw [e1]; exact h1, hw.2.1, by rw [e1]; exact h2, hw.2.2.2.1, k3⟩
/-- what the tables say of a callee -/
def gZ (mz : gM) (na : Nat) : Prop := gCode mz ∈ gW ∧ Cond.initialized mz.1.cls ∈ gW ∧ (mz.1.cls ≠ "java/lang/invoke/MethodHandle" ∧ mz.1.cls ≠ "java/lang/invoke/VarHandle" ∧ (parseMethodDescriptor mz.1.desc).map (fun d => d.parameters.length) = some na)
theorem gW_gin {c : Cond} (h : c ∈ gW) : GoodIn gW (c :: gW) := fun w hw => ⟨gW_cons h w hw, good_of_word (List.mem_filter.mp (gW_cons h w hw)).2⟩
theorem g_callB {mz : gM} {index na : Nat} {p : Program} {s : State} {m : MethodId} {args : Array Value} {meth : Method} {c : Code} (F : gFit G mi p s m args meth c) (hz : gZ mz na) (hT : mz.2.2.2.2.2 = []) (hl : Cond.methodLink mi.1.cls index mz.1 ∈ gW) (hR : mz.2.2.2.2.1.frames + 1 ≤ mi.2.2.2.2.1.frames ∧ 8 + (mz.2.2.1 + 11) + mz.2.2.2.2.1.locals ≤ mi.2.2.2.2.1.locals) :
    CallB mi.2.2.2.2.1 s args mi.1.cls index mz.1 mz.2.1 mz.2.2.1 mz.2.2.2.1 (gCode mz :: gW) mz.2.2.2.2.1 mz.2.2.2.2.1.cells mz.2.2.2.2.1.slots na :=
  callB_of na F.2.2.2.2.1 (gW_gin hz.1) (by unfold gCode; rw [hT]) rfl rfl (F.2.2.2.2.1 _ hz.2.1) (F.2.2.2.2.1 _ hl) hz.2.2 hR
theorem g_fix {p : Program} {s : State} {m : MethodId} {args : Array Value} {meth : Method} {c : Code} (F : gFit G mi p s m args meth c) : CallFix p m c mi.2.1 mi.2.2.1 s args gW mi.1.cls := ⟨F.1, F.2.1, F.2.2.1, F.2.2.2.1, F.2.2.2.2.1⟩
/-- behind a call that returns or throws -/
theorem g_call {mc ms : Nat} {p : Program} {e : Env} {s : State} {m : MethodId} {args a : Array Value} {below : List Frame} {meth : Method} {c : Code} {H : Heap} {locs : List Loc} {ls : Array Slot} {rest st0 : List Value} {Q : State → Prop} {R : Room} {Ψ : gO → gF → Nat → Prop}
    (hr : vx_Run p G.1 e R s m args below meth c H locs k n mc ms (F0 m pc ls st0) rest (gQ G Ψ a) (gX G Ψ) (gA G)) (hw : gH G f sz s H locs)
    (kx : ∀ (E : String) (f' : gF) (sz' : Nat) (ce : Cell) (q9 : Addr) (H1 : Heap) (locs1 : List Loc), Ψ (.inr E) f' sz' → gH G f' sz' s H1 locs1 → H1[q9]? = some ce → ce.vm = .none → s.vm.findClass E = some ce.cls → vx_W p G.1 e R s m args below meth c H1 locs1 (k + mc) (n + ms) Q (F0 m pc ls rest) q9)
    (kk : ∀ (v : Option Value) (f' : gF) (sz' : Nat) (H1 : Heap) (locs1 : List Loc), Ψ (.inl v) f' sz' → gH G f' sz' s H1 locs1 → W p G.1 e R s m args below meth c H1 locs1 (k + mc) (n + ms) Q (F0 m (pc + 3) ls (v.toList ++ rest))) : W p G.1 e R s m args below meth c H locs k n Q (F0 m pc ls st0) := by
  intro T hT X
  rcases hr T hT X with ⟨v, st₀, t, T', L9, h0, X', hL, e1, e2, ⟨⟨v', f', sz', hv, hp, hb, hz⟩, hF⟩, st⟩ | ⟨q, st₀, t, T', L9, E, ce, h0, X', hL, e1, e2, ⟨⟨f', sz', hp, hb, hz⟩, hF⟩, hce, hcv, hcl, st⟩
  · cases hv
    obtain ⟨t2, a1, b1⟩ := kk v f' sz' T'.heap (locs ++ L9) hp (g_keep hw h0 e1 hL hF hb hz) T' rfl X'
    exact ⟨t2, st t2 a1, b1⟩
  · obtain ⟨t2, a1, b1⟩ := kx E f' sz' ce q T'.heap (locs ++ L9) hp (g_keep hw h0 e1 hL hF hb hz) (by rw [e1]; exact hce) hcv hcl T' rfl X'
    exact ⟨t2, st.trans a1, b1⟩
theorem r_callV {mz : gM} {index na ci : Nat} {b : Nat} {As rest st0 fs : List Value} {q : vw_C} {Ψ : gO → gF → Nat → Prop} (hC : gCt G mz (.ref b :: As) f sz Ψ) (hd : decode mi.2.1 pc = .ok (.invokevirtual index, 3)) (hl : Cond.methodLink mi.1.cls index mz.1 ∈ gW) (hz : gZ mz na) (hi : Cond.instanceMethod mz.1 ∈ gW) (hse : Cond.selects mz.1.cls mz.1 mz.1 ∈ gW) (hT : mz.2.2.2.2.2 = [])
    (hst : st0 = As.reverse ++ .ref b :: rest) (hna : As.length = na) (hb : f b = .inr (ci, fs)) (hq : vwCl[ci]? = some q) (hqc : q.1 = mz.1.cls) (hR : mz.2.2.2.2.1.frames + 1 ≤ mi.2.2.2.2.1.frames ∧ 8 + (mz.2.2.1 + 11) + mz.2.2.2.2.1.locals ≤ mi.2.2.2.2.1.locals) (hW : (rest.map fun v => v.category).sum ≤ 8) (hk : k + mz.2.2.2.2.1.cells ≤ mi.2.2.2.2.1.cells ∧ n + mz.2.2.2.2.1.slots ≤ mi.2.2.2.2.1.slots)
    (kx : ∀ (E : String) (f' : gF) (sz' : Nat), Ψ (.inr E) f' sz' → gAtX G mi Qp pc E L f' sz' (k + mz.2.2.2.2.1.cells) (n + mz.2.2.2.2.1.slots))
    (kk : ∀ (v : Option Value) (f' : gF) (sz' : Nat), Ψ (.inl v) f' sz' → gAt G mi Qp (pc + 3) L (v.toList ++ rest) f' sz' (k + mz.2.2.2.2.1.cells) (n + mz.2.2.2.2.1.slots)) : gAt G mi Qp pc L st0 f sz k n := by
  intro p e s m args below meth c F H locs ls hl2 hw
  have hcj : ((.inr (ci, fs) : va_E)) ≠ gj := fun h => by
    have h1 : ci = 1000 := by cases h; rfl
    rw [h1] at hq
    simp at hq
  obtain ⟨hP, hA⟩ := gRep.one hw.1 hb hcj
  refine g_call (vx_runV (As := As) (rest := rest) (C := mz.1.cls) (g_fix F) hC ⟨g_callB F hz hT hl hR, F.2.2.2.2.1 _ hi, F.2.2.2.2.1 _ hse⟩ ⟨gBlind, hqc ▸ va_recv hw.2.1.1 hP hq (q0 := 0) rfl, fun U hU hWm => ⟨rfl, hw.wd hU hWm⟩⟩ rfl hna hl2.1 hst (lv_room hW) hd hk) hw ?_ ?_
  · intro E f' sz' ce q9 H1 locs1 h1 h2 h3 h4 h5
    exact kx E f' sz' h1 p e s m args below meth c F H1 locs1 ls rest q9 ce hl2 h2 h3 h4 h5
  · intro v f' sz' H1 locs1 h1 h2
    exact kk v f' sz' h1 p e s m args below meth c F H1 locs1 ls hl2 h2
theorem r_callS {mz : gM} {index na : Nat} {As rest st0 : List Value} {Ψ : gO → gF → Nat → Prop} (hC : gCt G mz As f sz Ψ) (hd : decode mi.2.1 pc = .ok (.invokestatic index, 3)) (hl : Cond.methodLink mi.1.cls index mz.1 ∈ gW) (hz : gZ mz na) (hs : Cond.static mz.1 ∈ gW) (hT : mz.2.2.2.2.2 = [])
    (hst : st0 = As.reverse ++ rest) (hna : As.length = na) (hR : mz.2.2.2.2.1.frames + 1 ≤ mi.2.2.2.2.1.frames ∧ 8 + (mz.2.2.1 + 11) + mz.2.2.2.2.1.locals ≤ mi.2.2.2.2.1.locals) (hW : (rest.map fun v => v.category).sum ≤ 8) (hk : k + mz.2.2.2.2.1.cells ≤ mi.2.2.2.2.1.cells ∧ n + mz.2.2.2.2.1.slots ≤ mi.2.2.2.2.1.slots)
    (kx : ∀ (E : String) (f' : gF) (sz' : Nat), Ψ (.inr E) f' sz' → gAtX G mi Qp pc E L f' sz' (k + mz.2.2.2.2.1.cells) (n + mz.2.2.2.2.1.slots))
    (kk : ∀ (v : Option Value) (f' : gF) (sz' : Nat), Ψ (.inl v) f' sz' → gAt G mi Qp (pc + 3) L (v.toList ++ rest) f' sz' (k + mz.2.2.2.2.1.cells) (n + mz.2.2.2.2.1.slots)) : gAt G mi Qp pc L st0 f sz k n := by
  intro p e s m args below meth c F H locs ls hl2 hw
  refine g_call (vx_runS (As := As) (rest := rest) (g_fix F) hC ⟨g_callB F hz hT hl hR, F.2.2.2.2.1 _ hs⟩ ⟨gBlind, fun U hU hWm => ⟨rfl, hw.wd hU hWm⟩⟩ rfl hna hl2.1 hst (lv_room hW) hd hk) hw ?_ ?_
  · intro E f' sz' ce q9 H1 locs1 h1 h2 h3 h4 h5
    exact kx E f' sz' h1 p e s m args below meth c F H1 locs1 ls rest q9 ce hl2 h2 h3 h4 h5
  · intro v f' sz' H1 locs1 h1 h2
    exact kk v f' sz' h1 p e s m args below meth c F H1 locs1 ls hl2 h2
end GC
