section GF
variable {G : gG} {mi : gM} {Qp : List Frame → Array Value → State → State → Prop} {pc : Nat} {L : List (Option Value)} {st : List Value} {f : gF} {sz k n : Nat} {Φ : gO → gF → Nat → Prop}
theorem gci {ci : Nat} {fs : List Value} {q : vw_C} (hq : vwCl[ci]? = some q) : ((.inr (ci, fs) : va_E)) ≠ gj := fun h => by
  have h1 : ci = 1000 := by cases h; rfl
  rw [h1] at hq
  simp at hq
theorem r_get {index ci k0 a N : Nat} {fs : List Value} {C : String} {T : u_T} {v : Value} (hin : ∀ w ∈ u_ws C T N, w ∈ gW) (hc : vwCl[ci]? = some (C, T, N)) (hd : decode mi.2.1 pc = .ok (.getfield index, 3)) (hl : Cond.fieldLink mi.1.cls index (T k0).1 (T k0).2.1 (T k0).2.2.1 ∈ gW) (ha : f a = .inr (ci, fs)) (hk : k0 < N) (hv : fs[k0]? = some v) (kk : gAt G mi Qp (pc + 3) L (v :: st) f sz k n) : gAt G mi Qp pc L (.ref a :: st) f sz k n := by
  intro p e s m args below meth c F H locs ls hl2 hw
  obtain ⟨hP, hA⟩ := gRep.one hw.1 ha (gci hc)
  exact va_get F.1 F.2.1 F.2.2.2.2.1 hin F.2.2.2.1 hw.2.1.1 hP 0 rfl hc k0 hk (F.2.2.2.2.1 _ hl) (fun _ h => h) hv hd (kk p e s m args below meth c F H locs ls hl2 hw)
theorem r_put {index ci k0 a N : Nat} {fs : List Value} {C : String} {T : u_T} {v : Value} (ty0 : Nat → FieldType) (hty : ∀ k, k < N → parseFieldDescriptor (T k).2.2.1 = some (ty0 k)) (hnm : ∀ a, a < N → ∀ b, b < N → a ≠ b → (T a).2.1 ≠ (T b).2.1) (hin : ∀ w ∈ u_ws C T N, w ∈ gW) (hc : vwCl[ci]? = some (C, T, N)) (hd : decode mi.2.1 pc = .ok (.putfield index, 3)) (hl : Cond.fieldLink mi.1.cls index (T k0).1 (T k0).2.1 (T k0).2.2.1 ∈ gW) (ha : f a = .inr (ci, fs)) (hk : k0 < N) (hfin : (T k0).2.2.2 = false) (hn : narrow (ty0 k0) v = v) (hfit : fits (ty0 k0) v = true) (hlen : k0 < fs.length) (kk : gAt G mi Qp (pc + 3) L st (va_up f a (.inr (ci, fs.set k0 v))) sz k n) : gAt G mi Qp pc L (v :: .ref a :: st) f sz k n := by
  intro p e s m args below meth c F H locs ls hl2 hw
  obtain ⟨hP, hA⟩ := gRep.one hw.1 ha (gci hc)
  have hK := hw.2.1.1
  have hts := F.2.2.2.2.1
  have hap := va_apart (own := mi.1.cls) hts hin ty0 hty hnm hK hc
  obtain ⟨r, h1, cell, q1, q2, q3, q4⟩ := hP 0 _ rfl
  have hr : r = (C, T, N) := Option.some.inj (h1.symm.trans hc)
  subst hr
  obtain ⟨hS, hfc, kC, hkC, hkind⟩ := hK.1 ci _ hc
  obtain ⟨cf, kf, fi, fd, hi, hsl⟩ := hS k0 hk
  have hlay := hts _ (hin _ (u_in_lay hk))
  unfold u_lay at hlay
  rw [if_neg (by rw [hfin]; decide)] at hlay
  have hst := (u_facts hfc hkC (u_lays hts hin hk) hi).1
  have h6 := u_store hfc hkC hkind hlay hi (hty k0 hk) hn hfit
  refine W.putK F.1 F.2.1 (f := fd) ⟨F.2.2.2.1, hts _ hl, ⟨_, _, _, hi⟩, hst⟩ (by rw [q2]; exact h6) q1 q3 (by rw [hsl]; exact k2_hasslot (q4 k0 hk)) rfl rfl hd fun H' e1 e2 e3 => ?_
  rw [hsl] at e1 ⊢
  exact kk p e s m args below meth c F H' _ ls hl2 ⟨gRep.set hw.1 hA ⟨_, hc, t_OB.to (V := updV (vp_V fs) k0 v) ⟨_, e1, q2, q3, t_set q4 hap hk v⟩ (fun j _ => vp_updV_set hlen v j)⟩ e3, hw.2.1, e2.trans hw.2.2.1, hw.2.2.2.1, hw.2.2.2.2.put e2 e3 hA⟩
theorem r_putF {index ci k0 a N : Nat} {fs : List Value} {C : String} {T : u_T} {v : Value} (ty0 : Nat → FieldType) (hty : ∀ k, k < N → parseFieldDescriptor (T k).2.2.1 = some (ty0 k)) (hnm : ∀ a, a < N → ∀ b, b < N → a ≠ b → (T a).2.1 ≠ (T b).2.1) (hin : ∀ w ∈ u_ws C T N, w ∈ gW) (hc : vwCl[ci]? = some (C, T, N)) (hd : decode mi.2.1 pc = .ok (.putfield index, 3)) (hl : Cond.fieldLink mi.1.cls index (T k0).1 (T k0).2.1 (T k0).2.2.1 ∈ gW) (ha : f a = .inr (ci, fs)) (hk : k0 < N) (hfin : (T k0).2.2.2 = true) (hnit : mi.1.name = "<init>") (hdecl : (T k0).1 = mi.1.cls) (hn : narrow (ty0 k0) v = v) (hfit : fits (ty0 k0) v = true) (hlen : k0 < fs.length) (kk : gAt G mi Qp (pc + 3) L st (va_up f a (.inr (ci, fs.set k0 v))) sz k n) : gAt G mi Qp pc L (v :: .ref a :: st) f sz k n := by
  intro p e s m args below meth c F H locs ls hl2 hw
  obtain ⟨hP, hA⟩ := gRep.one hw.1 ha (gci hc)
  have hK := hw.2.1.1
  have hts := F.2.2.2.2.1
  have hown := F.2.2.2.1
  have hap := va_apart (own := mi.1.cls) hts hin ty0 hty hnm hK hc
  obtain ⟨r, h1, cell, q1, q2, q3, q4⟩ := hP 0 _ rfl
  have hr : r = (C, T, N) := Option.some.inj (h1.symm.trans hc)
  subst hr
  obtain ⟨hS, hfc, kC, hkC, hkind⟩ := hK.1 ci _ hc
  obtain ⟨cf, kf, fi, fd, hi, hsl⟩ := hS k0 hk
  have hlay := hts _ (hin _ (u_in_lay hk))
  unfold u_lay at hlay
  rw [if_pos hfin] at hlay
  have hst := (u_facts hfc hkC (u_lays hts hin hk) hi).1
  have hcf : m.cls = cf := by
    obtain ⟨_, _, c', _, _, _, -, -, hf', -, -, -, hown2, -⟩ := Cond.laysFinal_spec hlay
    have e1 : c' = cf := by have := hi.symm.trans hf'; simp at this; exact this.1.symm
    rw [hdecl] at hown2
    rw [← e1]; exact Option.some.inj (hown.symm.trans hown2)
  have h6 := u_fits hfc hkC hkind (Or.inr hlay) hi (hty k0 hk) hn hfit
  refine W.putFinK F.1 F.2.1 hown (hts _ hl) hi hst hcf (F.2.2.2.2.2.2.2.1.trans hnit) (by rw [q2]; exact h6) q1 q3 (by rw [hsl]; exact k2_hasslot (q4 k0 hk)) rfl rfl hd fun H' e1 e2 e3 => ?_
  rw [hsl] at e1 ⊢
  exact kk p e s m args below meth c F H' _ ls hl2 ⟨gRep.set hw.1 hA ⟨_, hc, t_OB.to (V := updV (vp_V fs) k0 v) ⟨_, e1, q2, q3, t_set q4 hap hk v⟩ (fun j _ => vp_updV_set hlen v j)⟩ e3, hw.2.1, e2.trans hw.2.2.1, hw.2.2.2.1, hw.2.2.2.2.put e2 e3 hA⟩
theorem gH.push {s : State} {H H1 : Heap} {locs : List Loc} {e : va_E} (hw : gH G f sz s H locs) (he : va_at G.2.1 vwCl (sz, e) H1) (z : H1.size = H.size + 1) (o : ∀ q : Nat, q < H.size → H1[q]? = H[q]?) : gH G (va_up f sz e) (sz + 1) s H1 locs := by
  obtain ⟨h1, h2, h3, h4, h5⟩ := hw
  have hA : gA G sz := by
    rw [← h3]
    exact Nat.le_trans h4 h5.1
  exact ⟨gRep.push h1 h3 hA he (fun q hq => o q (by omega)), h2, by omega, h4, ⟨Nat.le_trans h5.1 (by omega), fun x g1 g2 => (o x (Nat.lt_of_lt_of_le g1 h5.1)).trans (h5.2.1 x g1 g2), h5.2.2⟩⟩
theorem r_new {index ci N : Nat} {fs : List Value} {C : String} {T : u_T} (ty0 : Nat → FieldType) (hty : ∀ k, k < N → parseFieldDescriptor (T k).2.2.1 = some (ty0 k)) (hin : ∀ w ∈ u_ws C T N, w ∈ gW) (hc : vwCl[ci]? = some (C, T, N)) (hd : decode mi.2.1 pc = .ok (.new index, 3)) (hcl : Cond.classLink mi.1.cls index C ∈ gW) (hinst : Cond.instantiable C N ∈ gW) (hini : Cond.initialized C ∈ gW) (hfs : ∀ j, j < N → defaultValue (ty0 j) = vp_V fs j) (hk : k + 1 ≤ mi.2.2.2.2.1.cells) (hn : n + N ≤ mi.2.2.2.2.1.slots) (kk : gAt G mi Qp (pc + 3) L (.ref sz :: st) (va_up f sz (.inr (ci, fs))) (sz + 1) (k + 1) (n + N)) : gAt G mi Qp pc L st f sz k n := by
  intro p e s m args below meth c F H locs ls hl2 hw
  have hts := F.2.2.2.2.1
  have hKn := hw.2.1.1.1 ci _ hc
  refine W.newcK F.1 F.2.1 F.2.2.2.1 (hts _ hcl) (hts _ hinst) (hts _ hini) rfl hd hk hn hKn.2.1 hw.2.2.1 fun H1 kC hkC e1 z1 o1 => ?_
  exact kk p e s m args below meth c F H1 locs ls hl2 (gH.push hw ⟨_, hc, (u_born ty0 hts hin hKn hkC e1 hty).to hfs⟩ (by rw [hw.2.2.1]; exact z1) (by rw [hw.2.2.1]; exact o1))
theorem r_newa {atype : ArrayType} {ty : FieldType} (t : Nat) {i : Int32} {N : Nat} {a0 : vp_A} (hty : newarray.typeOf atype = ty) (ht : (gTys G.2.1)[t]? = some (G.2.1.1 (100 + t), ty)) (hnq : va_RA = va_RA ∧ ∀ (U : State) (cA : ClassId), va_RA U cA ty → U.vm.findClass ("[" ++ ty.toString) = some cA) (ha : ∀ cA : ClassId, vp_cell cA a0 = arrV cA N (fun _ => defaultValue ty)) (har : Cond.arrayClass ty ∈ gW) (hneg : ¬ i < 0) (hN : i.toNatClampNeg = N) (hbytes : N * componentBytes ty ≤ 536870912) (hk : k + 1 ≤ mi.2.2.2.2.1.cells) (hn : n + N ≤ mi.2.2.2.2.1.slots) (hd : decode mi.2.1 pc = .ok (.newarray atype, 2)) (kk : gAt G mi Qp (pc + 2) L (.ref sz :: st) (va_up f sz (.inl (G.2.1.1 (100 + t), a0))) (sz + 1) (k + 1) (n + N)) : gAt G mi Qp pc L (.int i :: st) f sz k n := by
  intro p e s m args below meth c F H locs ls hl2 hw
  subst hty
  refine va_newaK F.1 F.2.1 (F.2.2.2.2.1 _ har) rfl hd rfl hneg hN hbytes hk hn hw.2.2.1 fun H1 cA e1 z1 o1 hAr hNm => ?_
  have hcA : cA = G.2.1.1 (100 + t) := Option.some.inj (hNm.symm.trans (hnq.2 s _ (hw.2.1.1.2 t _ ht).2))
  subst hcA
  refine kk p e s m args below meth c F H1 locs ls hl2 (gH.push hw ?_ (by rw [hw.2.2.1]; exact z1) (by rw [hw.2.2.1]; exact o1))
  show H1[sz]? = some (vp_cell _ _)
  rw [ha]
  exact e1
theorem r_newq {index : Nat} (t : Nat) {C : String} {i : Int32} {N : Nat} (ht : (gTys G.2.1)[t]? = some (G.2.1.1 (100 + t), .object C)) (hcl : Cond.classLink mi.1.cls index C ∈ gW) (hov : Cond.arrayOver (.object C) ∈ gN) (hneg : ¬ i < 0) (hN : i.toNatClampNeg = N) (hbytes : N * 4 ≤ 536870912) (hk : k + 1 ≤ mi.2.2.2.2.1.cells) (hn : n + N ≤ mi.2.2.2.2.1.slots) (hd : decode mi.2.1 pc = .ok (.anewarray index, 3)) (kk : gAt G mi Qp (pc + 3) L (.ref sz :: st) (va_up f sz (.inl (G.2.1.1 (100 + t), N, .inr (.inr (.inr (.inr (fun _ => none))))))) (sz + 1) (k + 1) (n + N)) : gAt G mi Qp pc L (.int i :: st) f sz k n := by
  intro p e s m args below meth c F H locs ls hl2 hw
  subst hN
  have hts := F.2.2.2.2.1
  refine W.anew F.1 F.2.1 F.2.2.2.1 (hts _ hcl) (gN_use hov (hw.2.1.2.2.2.2.2.1 _ hov)) rfl hd rfl hneg hbytes hk hn fun cA kA comp f1 f2 f3 f4 => ?_
  obtain ⟨kA9, comp9, k1, k2, k3, k4⟩ := (hw.2.1.1.2 t _ ht).2
  have hcA : cA = G.2.1.1 (100 + t) := Option.some.inj (f1.symm.trans k4)
  subst hcA
  have hz := hw.2.2.1
  generalize hH1 : H.push ({ cls := G.2.1.1 (100 + t), slots := Array.replicate i.toNatClampNeg .null, vm := .none } : Cell) = H1
  have z1 : H1.size = H.size + 1 := by rw [← hH1, Array.size_push]
  have e1 : H1[H.size]? = some (arrV (G.2.1.1 (100 + t)) i.toNatClampNeg (fun _ => .null)) := by rw [← hH1, Array.getElem?_push_size, ← arrV_new]
  have o1 : ∀ q : Nat, q < H.size → H1[q]? = H[q]? := fun q hq => by rw [← hH1, Array.getElem?_push, if_neg (Nat.ne_of_lt hq)]
  rw [hz] at e1
  rw [hz]
  refine kk p e s m args below meth c F H1 locs ls hl2 (gH.push hw ?_ z1 o1)
  show H1[sz]? = some (vp_cell _ _)
  rw [vp_cell_q]
  exact e1
theorem r_aast {a v ci N : Nat} {g : Nat → Option Nat} {i : Int32} {vs : List Value} (t : Nat) {r : vw_C} (ht : (gTys G.2.1)[t]? = some (G.2.1.1 (100 + t), .object r.1)) (hd : decode mi.2.1 pc = .ok (.aastore, 1)) (ha : f a = .inl (G.2.1.1 (100 + t), N, .inr (.inr (.inr (.inr g))))) (hv : f v = .inr (ci, vs)) (hc : vwCl[ci]? = some r) (hin : vp_in i N) (kk : gAt G mi Qp (pc + 1) L st (va_up f a (.inl (G.2.1.1 (100 + t), N, .inr (.inr (.inr (.inr (va_up g i.toNatClampNeg (some v)))))))) sz k n) : gAt G mi Qp pc L (.ref v :: .int i :: .ref a :: st) f sz k n := by
  intro p e s m args below meth c F H locs ls hl2 hw
  have hlt : i.toNatClampNeg < N := Nat.not_le.mp fun q => hin (Or.inr q)
  have h0 : ¬ i < 0 := fun q => hin (Or.inl q)
  obtain ⟨hPa, hA⟩ := gRep.one hw.1 ha (fun h => by cases h)
  obtain ⟨hPv, -⟩ := gRep.one hw.1 hv (gci hc)
  have hK := hw.2.1.1
  obtain ⟨r', hr', cellV, g1, g2, g3, -⟩ := hPv 0 _ rfl
  have hcls := (hK.1 ci r hc).2
  obtain ⟨kA, comp, k1, k2, k3, -⟩ := (hK.2 t _ ht).2
  have hcomp : comp = G.2.1.1 ci := Option.some.inj (k3.symm.trans hcls.1)
  subst hcomp
  obtain ⟨kC, hkC, -⟩ := hcls.2
  refine W.aast F.1 F.2.1 (hPa 0 _ rfl) (fun q h => by cases h) (fun h => by cases h) k1 k2 rfl hkC ⟨h0, by show _ < (arrV _ _ _).slots.size; rw [arrV_size]; exact hlt⟩ g1 (fun q h => by rw [g3] at h; cases h) (by rw [g2]; exact hkC) (by rw [g2]; exact va_assign hcls) rfl rfl hd fun H1 e1 z oq => ?_
  refine kk p e s m args below meth c F H1 _ ls hl2 ⟨gRep.set hw.1 hA ?_ oq, hw.2.1, z.trans hw.2.2.1, hw.2.2.2.1, hw.2.2.2.2.put z oq hA⟩
  show H1[a]? = some (vp_cell _ _)
  rw [e1]
  rw [vp_cell_q, vp_cell_q, arrV_store]
  congr 2
  funext q
  by_cases hq : q = i.toNatClampNeg
  · subst hq
    simp [updV, va_up, va_rf]
  · simp [updV, va_up, hq]
theorem r_objInit {index a : Nat} (hd : decode mi.2.1 pc = .ok (.invokespecial index, 3)) (hl : Cond.methodLink mi.1.cls index objectInit ∈ gW) (hi : Cond.instanceMethod objectInit ∈ gW) (hc : Cond.code objectInit ⟨#[0xb1]⟩ 1 none ∈ gW) (hf : 1 ≤ mi.2.2.2.2.1.frames) (hlo : 2 * 0 + (st.map fun v => v.category).sum + 12 ≤ mi.2.2.2.2.1.locals) (kk : gAt G mi Qp (pc + 3) L st f sz k n) : gAt G mi Qp pc L (.ref a :: st) f sz k n := by
  intro p e s m args below meth c F H locs ls hl2 hw
  have hts := F.2.2.2.2.1
  refine W.objInit F.1 F.2.1 F.2.2.2.1 (hts _ hl) (hts _ hi) (hts _ hc) rfl (by rw [F.2.2.1]; exact hl2.1) rfl hd hf hlo ?_
  exact kk p e s m args below meth c F H locs ls hl2 hw
/-- a contract without throws, as the kit's -/
theorem gCt.met {mz : gM} {av : List Value} {Ψ : gO → gF → Nat → Prop} (h : gCt G mz av f sz Ψ) (hx : ∀ E f' sz', ¬ Ψ (.inr E) f' sz') : Met G.1 mz.1 (gCode mz :: gW) mz.2.2.2.2.1 (va_Pc av (gWd G f sz)) (gQ G Ψ) mz.2.2.2.2.1.cells mz.2.2.2.2.1.slots (gA G) := by
  intro p e ha hc hk s m args below hf happ hP hK
  obtain ⟨n9, o, h1, h2, h3, h4⟩ := h p e ha hc hk s m args below hf happ hP hK
  refine ⟨n9, o, h1, h2, h3, ?_⟩
  rcases h4 with h4 | ⟨q, -, E, ce, L9, ⟨⟨f', sz', h5, -⟩, -⟩, -⟩
  · exact h4
  · exact absurd h5 (hx E f' sz')
theorem r_callI {mz : gM} {index na : Nat} {b : Nat} {As rest st0 : List Value} {Ψ : gO → gF → Nat → Prop} (hC : gCt G mz (.ref b :: As) f sz Ψ) (hx : ∀ E f' sz', ¬ Ψ (.inr E) f' sz') (hd : decode mi.2.1 pc = .ok (.invokespecial index, 3)) (hl : Cond.methodLink mi.1.cls index mz.1 ∈ gW) (hz : gZ mz na) (hi : Cond.instanceMethod mz.1 ∈ gW) (hnm : mz.1.name = "<init>") (hr0 : mz.2.2.2.1 = none) (hT : mz.2.2.2.2.2 = [])
    (hst : st0 = As.reverse ++ .ref b :: rest) (hna : As.length = na) (hR : mz.2.2.2.2.1.frames + 1 ≤ mi.2.2.2.2.1.frames ∧ 8 + (mz.2.2.1 + 11) + mz.2.2.2.2.1.locals ≤ mi.2.2.2.2.1.locals) (hW : (rest.map fun v => v.category).sum ≤ 8) (hk : k + mz.2.2.2.2.1.cells ≤ mi.2.2.2.2.1.cells ∧ n + mz.2.2.2.2.1.slots ≤ mi.2.2.2.2.1.slots)
    (kk : ∀ (v : Option Value) (f' : gF) (sz' : Nat), Ψ (.inl v) f' sz' → gAt G mi Qp (pc + 3) L (v.toList ++ rest) f' sz' (k + mz.2.2.2.2.1.cells) (n + mz.2.2.2.2.1.slots)) : gAt G mi Qp pc L st0 f sz k n := by
  intro p e s m args below meth c F H locs ls hl2 hw
  have hrun : va_Run p G.1 e mi.2.2.2.2.1 s m args below meth c H locs k n mz.2.2.2.2.1.cells mz.2.2.2.2.1.slots (F0 m pc ls st0) rest (gQ G Ψ (Value.ref b :: As).toArray) (gA G) := va_runI (As := As) (rest := rest) (g_fix F) (hC.met hx) ⟨hr0 ▸ g_callB F hz hT hl hR, hnm, F.2.2.2.2.1 _ hi⟩ ⟨gBlind, fun U hU hWm => ⟨rfl, hw.wd hU hWm⟩⟩ rfl hna hl2.1 hst (lv_room hW) hd hk
  intro T hT X
  obtain ⟨v, st₀, t, T', L9, h0, X', hL, e1, e2, ⟨⟨v', f', sz', hv, hp, hb, hz9⟩, hF⟩, st9⟩ := hrun T hT X
  cases hv
  obtain ⟨t2, a1, b1⟩ := kk v f' sz' hp p e s m args below meth c F T'.heap (locs ++ L9) ls hl2 (g_keep hw h0 e1 hL hF hb hz9) T' rfl X'
  exact ⟨t2, st9 t2 a1, b1⟩
theorem r_callIN {mz : gM} {index na : Nat} {host : String} {b : Nat} {As rest st0 : List Value} {Ψ : gO → gF → Nat → Prop} (hC : gCt G mz (.ref b :: As) f sz Ψ) (hx : ∀ E f' sz', ¬ Ψ (.inr E) f' sz') (hd : decode mi.2.1 pc = .ok (.invokespecial index, 3)) (hl : Cond.methodLinkNest mi.1.cls index mz.1 host ∈ gN) (hz : gZ mz na) (hi : Cond.instanceMethod mz.1 ∈ gW) (hnm : mz.1.name = "<init>") (hr0 : mz.2.2.2.1 = none) (hT : mz.2.2.2.2.2 = [])
    (hst : st0 = As.reverse ++ .ref b :: rest) (hna : As.length = na) (hR : mz.2.2.2.2.1.frames + 1 ≤ mi.2.2.2.2.1.frames ∧ 8 + (mz.2.2.1 + 11) + mz.2.2.2.2.1.locals ≤ mi.2.2.2.2.1.locals) (hW : (rest.map fun v => v.category).sum ≤ 8) (hk : k + mz.2.2.2.2.1.cells ≤ mi.2.2.2.2.1.cells ∧ n + mz.2.2.2.2.1.slots ≤ mi.2.2.2.2.1.slots)
    (kk : ∀ (v : Option Value) (f' : gF) (sz' : Nat), Ψ (.inl v) f' sz' → gAt G mi Qp (pc + 3) L (v.toList ++ rest) f' sz' (k + mz.2.2.2.2.1.cells) (n + mz.2.2.2.2.1.slots)) : gAt G mi Qp pc L st0 f sz k n := by
  intro p e s m args below meth c F H locs ls hl2 hw
  have hcn : va_CN mi.2.2.2.2.1 s args mi.1.cls index mz.1 host mz.2.1 mz.2.2.1 none (gCode mz :: gW) mz.2.2.2.2.1 mz.2.2.2.2.1.cells mz.2.2.2.2.1.slots na :=
    va_cnB na F.2.2.2.2.1 (gW_gin hz.1) (ws' := gW) (by unfold gCode; rw [hT, hr0]) rfl rfl (hw.2.1.2.2.2.2.2.1 _ hl) (F.2.2.2.2.1 _ hz.2.1) hz.2.2 hR
  have hrun : va_Run p G.1 e mi.2.2.2.2.1 s m args below meth c H locs k n mz.2.2.2.2.1.cells mz.2.2.2.2.1.slots (F0 m pc ls st0) rest (gQ G Ψ (Value.ref b :: As).toArray) (gA G) := va_runIN (As := As) (rest := rest) (g_fix F) (hC.met hx) ⟨hcn, hnm, F.2.2.2.2.1 _ hi⟩ ⟨gBlind, fun U hU hWm => ⟨rfl, hw.wd hU hWm⟩⟩ rfl hna hl2.1 hst (lv_room hW) hd hk
  intro T hT X
  obtain ⟨v, st₀, t, T', L9, h0, X', hL, e1, e2, ⟨⟨v', f', sz', hv, hp, hb, hz9⟩, hF⟩, st9⟩ := hrun T hT X
  cases hv
  obtain ⟨t2, a1, b1⟩ := kk v f' sz' hp p e s m args below meth c F T'.heap (locs ++ L9) ls hl2 (g_keep hw h0 e1 hL hF hb hz9) T' rfl X'
  exact ⟨t2, st9 t2 a1, b1⟩
/-- throw new E("text") -/
theorem r_throw {cls text : String} {names : List String} {ik is ic i : Nat} {rest : List Value} (hT : mi.2.2.2.2.2 = []) (hcls : Bundle.fit cls = true) (hnames : ∀ n ∈ names, Bundle.fit n = true) (hk : Cond.classLink mi.1.cls ik cls ∈ gW) (hini : Cond.initialized cls ∈ gW) (hstr : (mi.1.cls, is, text, i) ∈ gStr) (hat : ∀ w ∈ vx_atS mi.1.cls ic cls names, w ∈ gW ∨ w ∈ gN) (hgood : ∀ w ∈ Cond.classLink mi.1.cls ik cls :: Cond.initialized cls :: vx_atS mi.1.cls ic cls names, vx_ot w = true)
    (d0 : decode mi.2.1 pc = .ok (.new ik, 3)) (d3 : decode mi.2.1 (pc + 3) = .ok (.dup, 1)) (d4 : decode mi.2.1 (pc + 4) = .ok (.ldc is, 2)) (d6 : decode mi.2.1 (pc + 6) = .ok (.invokespecial ic, 3)) (d9 : decode mi.2.1 (pc + 9) = .ok (.athrow, 1))
    (hRf : names.length + 3 < mi.2.2.2.2.1.frames) (hRl : (rest.map fun v => v.category).sum + (13 * (names.length + 1) + 43) ≤ mi.2.2.2.2.1.locals) (hkc : k + 1 ≤ mi.2.2.2.2.1.cells) (hns : n + 6 ≤ mi.2.2.2.2.1.slots) (hΦ : ∀ sz', Φ (.inr cls) f sz') : gAt G mi (gQp G mi Φ) pc L rest f sz k n := by
  intro p e s m args below meth c F H locs ls hl2 hw
  have hts := F.2.2.2.2.1
  refine vx_throwS (A := gA G) F.1 F.2.1 F.2.2.2.2.2.2.2.2.2 F.2.2.2.1 hcls hnames (hts _ hk) (hts _ hini) (hw.2.1.2.2.2.1 _ hstr) (fun w h => (hat w h).elim (hts w) (fun h => gN_use h (hw.2.1.2.2.2.2.2.1 _ h))) hgood hw.2.1.2.1 hw.2.1.2.2.1 hw.2.2.2.2 (by rw [F.2.2.1]; exact hl2.1) d0 d3 d4 d6 d9 (fun x hx => ?_) hRf hRl hkc hns F.2.2.2.2.2.2.1 (fun t ht h1 h2 => ⟨⟨f, t.heap.size, hΦ _, fun a ha => ⟨(hw.1 a ha).1.kept (h2 a ((hw.1 a ha).1.lt)), (hw.1 a ha).2⟩, rfl⟩, Nat.le_trans hw.2.2.2.2.1 h1, fun q g1 g2 => (h2 q (Nat.lt_of_lt_of_le g1 hw.2.2.2.2.1)).trans (hw.2.2.2.2.2.1 q g1 g2)⟩) hw.2.2.2.2.2.2 hkc hns
  rw [F.2.2.2.2.2.2.2.2.1, hT] at hx
  cases hx
/-- caught -/
theorem x_catch {E name : String} (pre : List (Nat × Nat × Nat × Nat)) (x : Nat × Nat × Nat × Nat) (suf : List (Nat × Nat × Nat × Nat)) (hT : mi.2.2.2.2.2 = pre ++ x :: suf)
    (hpass : ∀ z ∈ tableOf pre, covers z pc = false ∨ (z.catchType ≠ 0 ∧ ∃ nm : String, Cond.classLink mi.1.cls z.catchType nm ∈ gW ∧ (E, nm) ∈ gNc)) (hx : covers ⟨x.1, x.2.1, x.2.2.1, x.2.2.2⟩ pc = true) (h0 : x.2.2.2 ≠ 0)
    (hlink : Cond.classLink mi.1.cls x.2.2.2 name ∈ gW) (hcast : Cond.castable E name ∈ gN) (kk : ∀ q, gAt G mi Qp x.2.2.1 L [.ref q] f sz k n) : gAtX G mi Qp pc E L f sz k n := by
  intro p e s m args below meth c F H locs ls rest q ce hl2 hw hc hv hcl
  have hts := F.2.2.2.2.1
  refine vx_catch F.2.2.2.1 (tableOf pre) ⟨x.1, x.2.1, x.2.2.1, x.2.2.2⟩ (tableOf suf) (by rw [F.2.2.2.2.2.2.2.2.1, hT]; simp [tableOf]) (fun z hz => ?_) hx h0 (hts _ hlink) (gN_use hcast (hw.2.1.2.2.2.2.2.1 _ hcast)) hc hv hcl ?_
  · rcases hpass z hz with h | ⟨h1, nm, h2, h3⟩
    · exact Or.inl h
    · exact Or.inr ⟨h1, nm, hts _ h2, hw.2.1.2.2.2.2.2.2.1 _ h3⟩
  · exact kk q p e s m args below meth c F H locs ls hl2 hw
end GF
