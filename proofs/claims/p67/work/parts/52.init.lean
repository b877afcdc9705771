/-! MAKERS: fA b f T: the cells f below b, the list T from b on; a maker runs on fA b f (e :: R), e its own object -/
def fA (b : Nat) (f : gF) (T : List va_E) : gF := fun a => if a < b then f a else T.getD (a - b) gj
theorem fA_at {b : Nat} {f : gF} {T : List va_E} (i : Nat) : fA b f T (b + i) = T.getD i gj := by
  unfold fA
  rw [if_neg (by omega), Nat.add_sub_cancel_left]
theorem fA_0 {b : Nat} {f : gF} {e : va_E} {R : List va_E} : fA b f (e :: R) b = e := fA_at (b := b) (f := f) (T := e :: R) 0
theorem fA_new {b n : Nat} {f : gF} {T : List va_E} {e : va_E} (hT : T.length = n) : va_up (fA b f T) (b + n) e = fA b f (T ++ [e]) := by
  funext a
  by_cases ha : a = b + n
  · subst ha
    rw [va_up_self, fA_at, List.getD_eq_getElem?_getD, List.getElem?_append_right (by omega), hT, Nat.sub_self]
    rfl
  · rw [va_up_ne _ _ ha]
    unfold fA
    by_cases hb : a < b
    · rw [if_pos hb, if_pos hb]
    · rw [if_neg hb, if_neg hb, List.getD_eq_getElem?_getD, List.getD_eq_getElem?_getD]
      by_cases hc : a - b < T.length
      · rw [List.getElem?_append_left hc]
      · rw [List.getElem?_eq_none (by omega), List.getElem?_eq_none (by simp; omega)]
theorem fA_set {b i : Nat} {f : gF} {T : List va_E} {e : va_E} (h : i < T.length) : va_up (fA b f T) (b + i) e = fA b f (T.set i e) := by
  funext a
  by_cases ha : a = b + i
  · subst ha
    rw [va_up_self, fA_at, List.getD_eq_getElem?_getD, List.getElem?_set_self h]
    rfl
  · rw [va_up_ne _ _ ha]
    unfold fA
    by_cases hb : a < b
    · rw [if_pos hb, if_pos hb]
    · rw [if_neg hb, if_neg hb, List.getD_eq_getElem?_getD, List.getD_eq_getElem?_getD, List.getElem?_set_ne (by omega)]
theorem fA_nest {b n : Nat} {f : gF} {T T2 : List va_E} (hT : T.length = n) : fA (b + n) (fA b f T) T2 = fA b f (T ++ T2) := by
  funext a
  unfold fA
  by_cases hb : a < b
  · rw [if_pos (by omega), if_pos hb, if_pos hb]
  · rw [if_neg hb, if_neg hb]
    by_cases hc : a < b + n
    · rw [if_pos hc, List.getD_eq_getElem?_getD, List.getD_eq_getElem?_getD, List.getElem?_append_left (by omega)]
    · rw [if_neg hc, List.getD_eq_getElem?_getD, List.getD_eq_getElem?_getD, List.getElem?_append_right (by omega), hT, Nat.sub_sub]
section GI
variable {G : gG} {mi : gM} {Qp : List Frame → Array Value → State → State → Prop} {pc : Nat} {L : List (Option Value)} {st : List Value} {b : Nat} {f : gF} {R : List va_E} {e : va_E} {sz k s n : Nat}
theorem k_put {index ci k0 N : Nat} {fs : List Value} {C : String} {T : u_T} {v : Value} (ty0 : Nat → FieldType) (hty : ∀ k, k < N → parseFieldDescriptor (T k).2.2.1 = some (ty0 k)) (hnm : ∀ a, a < N → ∀ b, b < N → a ≠ b → (T a).2.1 ≠ (T b).2.1) (hin : ∀ w ∈ u_ws C T N, w ∈ gW) (hc : vwCl[ci]? = some (C, T, N)) (hd : decode mi.2.1 pc = .ok (.putfield index, 3)) (hl : Cond.fieldLink mi.1.cls index (T k0).1 (T k0).2.1 (T k0).2.2.1 ∈ gW) (hk : k0 < N) (hfin : (T k0).2.2.2 = false) (hn : narrow (ty0 k0) v = v) (hfit : fits (ty0 k0) v = true) (hlen : k0 < fs.length) (kk : gAt G mi Qp (pc + 3) L st (fA b f (.inr (ci, fs.set k0 v) :: R)) sz k n) : gAt G mi Qp pc L (v :: .ref b :: st) (fA b f (.inr (ci, fs) :: R)) sz k n := by
  refine r_put ty0 hty hnm hin hc hd hl fA_0 hk hfin hn hfit hlen ?_
  have := fA_set (b := b) (i := 0) (f := f) (T := .inr (ci, fs) :: R) (e := .inr (ci, fs.set k0 v)) (by simp)
  rw [Nat.add_zero] at this
  rw [this]
  exact kk
theorem k_putF {index ci k0 N : Nat} {fs : List Value} {C : String} {T : u_T} {v : Value} (ty0 : Nat → FieldType) (hty : ∀ k, k < N → parseFieldDescriptor (T k).2.2.1 = some (ty0 k)) (hnm : ∀ a, a < N → ∀ b, b < N → a ≠ b → (T a).2.1 ≠ (T b).2.1) (hin : ∀ w ∈ u_ws C T N, w ∈ gW) (hc : vwCl[ci]? = some (C, T, N)) (hd : decode mi.2.1 pc = .ok (.putfield index, 3)) (hl : Cond.fieldLink mi.1.cls index (T k0).1 (T k0).2.1 (T k0).2.2.1 ∈ gW) (hk : k0 < N) (hfin : (T k0).2.2.2 = true) (hnit : mi.1.name = "<init>") (hdecl : (T k0).1 = mi.1.cls) (hn : narrow (ty0 k0) v = v) (hfit : fits (ty0 k0) v = true) (hlen : k0 < fs.length) (kk : gAt G mi Qp (pc + 3) L st (fA b f (.inr (ci, fs.set k0 v) :: R)) sz k n) : gAt G mi Qp pc L (v :: .ref b :: st) (fA b f (.inr (ci, fs) :: R)) sz k n := by
  refine r_putF ty0 hty hnm hin hc hd hl fA_0 hk hfin hnit hdecl hn hfit hlen ?_
  have := fA_set (b := b) (i := 0) (f := f) (T := .inr (ci, fs) :: R) (e := .inr (ci, fs.set k0 v)) (by simp)
  rw [Nat.add_zero] at this
  rw [this]
  exact kk
theorem k_get {index ci k0 N : Nat} {fs : List Value} {C : String} {T : u_T} {v : Value} (hin : ∀ w ∈ u_ws C T N, w ∈ gW) (hc : vwCl[ci]? = some (C, T, N)) (hd : decode mi.2.1 pc = .ok (.getfield index, 3)) (hl : Cond.fieldLink mi.1.cls index (T k0).1 (T k0).2.1 (T k0).2.2.1 ∈ gW) (hk : k0 < N) (hv : fs[k0]? = some v) (kk : gAt G mi Qp (pc + 3) L (v :: st) (fA b f (.inr (ci, fs) :: R)) sz k n) : gAt G mi Qp pc L (.ref b :: st) (fA b f (.inr (ci, fs) :: R)) sz k n :=
  r_get hin hc hd hl fA_0 hk hv kk
theorem k_new {index ci N m : Nat} {fs : List Value} {C : String} {T : u_T} (ty0 : Nat → FieldType) (hty : ∀ k, k < N → parseFieldDescriptor (T k).2.2.1 = some (ty0 k)) (hin : ∀ w ∈ u_ws C T N, w ∈ gW) (hc : vwCl[ci]? = some (C, T, N)) (hd : decode mi.2.1 pc = .ok (.new index, 3)) (hcl : Cond.classLink mi.1.cls index C ∈ gW) (hinst : Cond.instantiable C N ∈ gW) (hini : Cond.initialized C ∈ gW) (hfs : ∀ j, j < N → defaultValue (ty0 j) = vp_V fs j) (hk : k + 1 ≤ mi.2.2.2.2.1.cells) (hn : n + N ≤ mi.2.2.2.2.1.slots) (hT : R.length + 1 = m) (kk : gAt G mi Qp (pc + 3) L (.ref (b + m) :: st) (fA b f (e :: (R ++ [.inr (ci, fs)]))) (b + (m + 1)) (k + 1) (n + N)) : gAt G mi Qp pc L st (fA b f (e :: R)) (b + m) k n := by
  refine r_new ty0 hty hin hc hd hcl hinst hini hfs hk hn ?_
  rw [fA_new (T := e :: R) hT]
  exact kk
theorem na_i {N : Nat} (cA : ClassId) : vp_cell cA (N, .inl (fun _ => 0)) = arrV cA N (fun _ => defaultValue .int) := rfl
theorem na_b {N : Nat} (cA : ClassId) : vp_cell cA (N, .inl (fun _ => 0)) = arrV cA N (fun _ => defaultValue .byte) := rfl
theorem na_z {N : Nat} (cA : ClassId) : vp_cell cA (N, .inl (fun _ => 0)) = arrV cA N (fun _ => defaultValue .boolean) := rfl
theorem na_l {N : Nat} (cA : ClassId) : vp_cell cA (N, .inr (.inl (fun _ => 0))) = arrV cA N (fun _ => defaultValue .long) := rfl
theorem na_d {N : Nat} (cA : ClassId) : vp_cell cA (N, .inr (.inr (.inr (.inl (fun _ => 0))))) = arrV cA N (fun _ => defaultValue .double) := rfl
theorem cd_80 : Cond.code objectInit ⟨#[0xb1]⟩ 1 none ∈ gW := gW_of 80 (by decide +kernel) (by decide +kernel)
theorem k_newa {atype : ArrayType} {ty : FieldType} (t : Nat) {i : Int32} {N m : Nat} {a0 : vp_A} (hty : newarray.typeOf atype = ty) (ht : (gTys G.2.1)[t]? = some (G.2.1.1 (100 + t), ty)) (hnq : va_RA = va_RA ∧ ∀ (U : State) (cA : ClassId), va_RA U cA ty → U.vm.findClass ("[" ++ ty.toString) = some cA) (ha : ∀ cA : ClassId, vp_cell cA a0 = arrV cA N (fun _ => defaultValue ty)) (har : Cond.arrayClass ty ∈ gW) (hneg : ¬ i < 0) (hN : i.toNatClampNeg = N) (hbytes : N * componentBytes ty ≤ 536870912) (hk : k + 1 ≤ mi.2.2.2.2.1.cells) (hn : n + N ≤ mi.2.2.2.2.1.slots) (hd : decode mi.2.1 pc = .ok (.newarray atype, 2)) (hT : R.length + 1 = m) (kk : gAt G mi Qp (pc + 2) L (.ref (b + m) :: st) (fA b f (e :: (R ++ [.inl (G.2.1.1 (100 + t), a0)]))) (b + (m + 1)) (k + 1) (n + N)) : gAt G mi Qp pc L (.int i :: st) (fA b f (e :: R)) (b + m) k n := by
  refine r_newa t hty ht hnq ha har hneg hN hbytes hk hn hd ?_
  rw [fA_new (T := e :: R) hT]
  exact kk
theorem k_newq {index : Nat} (t : Nat) {C : String} {i : Int32} {N m : Nat} (ht : (gTys G.2.1)[t]? = some (G.2.1.1 (100 + t), .object C)) (hcl : Cond.classLink mi.1.cls index C ∈ gW) (hov : Cond.arrayOver (.object C) ∈ gN) (hneg : ¬ i < 0) (hN : i.toNatClampNeg = N) (hbytes : N * 4 ≤ 536870912) (hk : k + 1 ≤ mi.2.2.2.2.1.cells) (hn : n + N ≤ mi.2.2.2.2.1.slots) (hd : decode mi.2.1 pc = .ok (.anewarray index, 3)) (hT : R.length + 1 = m) (kk : gAt G mi Qp (pc + 3) L (.ref (b + m) :: st) (fA b f (e :: (R ++ [.inl (G.2.1.1 (100 + t), N, .inr (.inr (.inr (.inr (fun _ => none)))))]))) (b + (m + 1)) (k + 1) (n + N)) : gAt G mi Qp pc L (.int i :: st) (fA b f (e :: R)) (b + m) k n := by
  refine r_newq t ht hcl hov hneg hN hbytes hk hn hd ?_
  rw [fA_new (T := e :: R) hT]
  exact kk
theorem k_aast {x y ci N : Nat} (j : Nat) {g : Nat → Option Nat} {i : Int32} {vs : List Value} (t : Nat) {r : vw_C} (ht : (gTys G.2.1)[t]? = some (G.2.1.1 (100 + t), .object r.1)) (hd : decode mi.2.1 pc = .ok (.aastore, 1)) (ha : R.getD x gj = .inl (G.2.1.1 (100 + t), N, .inr (.inr (.inr (.inr g))))) (hx : x < R.length) (hv : R.getD y gj = .inr (ci, vs)) (hc : vwCl[ci]? = some r) (hin : vp_in i N) (hj : i.toNatClampNeg = j) (kk : gAt G mi Qp (pc + 1) L st (fA b f (e :: R.set x (.inl (G.2.1.1 (100 + t), N, .inr (.inr (.inr (.inr (va_up g j (some (b + (y + 1))))))))))) sz k n) : gAt G mi Qp pc L (.ref (b + (y + 1)) :: .int i :: .ref (b + (x + 1)) :: st) (fA b f (e :: R)) sz k n := by
  subst hj
  refine r_aast (v := b + (y + 1)) t ht hd (by rw [fA_at]; exact ha) (by rw [fA_at]; exact hv) hc hin ?_
  rw [fA_set (T := e :: R) (by simp; omega)]
  exact kk
theorem k_callI {mz : gM} {index m w : Nat} {e2 : va_E} {T2 : List va_E} {As rest : List Value} {na : Nat} {st0 : List Value} (hC : gCt G mz (.ref (b + m) :: As) (fA (b + m) (fA b f (e :: R)) [e2]) (b + m + 1) (gR none (fA (b + m) (fA b f (e :: R)) T2) (b + m + w))) (hd : decode mi.2.1 pc = .ok (.invokespecial index, 3)) (hl : Cond.methodLink mi.1.cls index mz.1 ∈ gW) (hz : gZ mz na) (hi : Cond.instanceMethod mz.1 ∈ gW) (hnm : mz.1.name = "<init>") (hr0 : mz.2.2.2.1 = none) (hT : mz.2.2.2.2.2 = [])
    (hst : st0 = As.reverse ++ .ref (b + m) :: rest) (hna : As.length = na) (hR : mz.2.2.2.2.1.frames + 1 ≤ mi.2.2.2.2.1.frames ∧ 8 + (mz.2.2.1 + 11) + mz.2.2.2.2.1.locals ≤ mi.2.2.2.2.1.locals) (hW : (rest.map fun v => v.category).sum ≤ 8) (hk : k + mz.2.2.2.2.1.cells ≤ mi.2.2.2.2.1.cells ∧ n + mz.2.2.2.2.1.slots ≤ mi.2.2.2.2.1.slots) (hm : R.length + 1 = m)
    (kk : gAt G mi Qp (pc + 3) L rest (fA b f (e :: (R ++ T2))) (b + (m + w)) (k + mz.2.2.2.2.1.cells) (n + mz.2.2.2.2.1.slots)) : gAt G mi Qp pc L st0 (fA b f (e :: (R ++ [e2]))) (b + (m + 1)) k n := by
  rw [fA_nest (T := e :: R) hm] at hC
  refine r_callI hC (fun E f' sz' h => by cases h.1) hd hl hz hi hnm hr0 hT hst hna hR hW hk (fun v f' sz' h => ?_)
  obtain ⟨h1, h2, h3⟩ := h
  cases h1
  rw [fA_nest (T := e :: R) hm] at h2
  subst h2
  subst h3
  rw [Nat.add_assoc]
  exact kk
theorem k_callIN {mz : gM} {index m w : Nat} {host : String} {e2 : va_E} {T2 : List va_E} {As rest : List Value} {na : Nat} {st0 : List Value} (hC : gCt G mz (.ref (b + m) :: As) (fA (b + m) (fA b f (e :: R)) [e2]) (b + m + 1) (gR none (fA (b + m) (fA b f (e :: R)) T2) (b + m + w))) (hd : decode mi.2.1 pc = .ok (.invokespecial index, 3)) (hl : Cond.methodLinkNest mi.1.cls index mz.1 host ∈ gN) (hz : gZ mz na) (hi : Cond.instanceMethod mz.1 ∈ gW) (hnm : mz.1.name = "<init>") (hr0 : mz.2.2.2.1 = none) (hT : mz.2.2.2.2.2 = [])
    (hst : st0 = As.reverse ++ .ref (b + m) :: rest) (hna : As.length = na) (hR : mz.2.2.2.2.1.frames + 1 ≤ mi.2.2.2.2.1.frames ∧ 8 + (mz.2.2.1 + 11) + mz.2.2.2.2.1.locals ≤ mi.2.2.2.2.1.locals) (hW : (rest.map fun v => v.category).sum ≤ 8) (hk : k + mz.2.2.2.2.1.cells ≤ mi.2.2.2.2.1.cells ∧ n + mz.2.2.2.2.1.slots ≤ mi.2.2.2.2.1.slots) (hm : R.length + 1 = m)
    (kk : gAt G mi Qp (pc + 3) L rest (fA b f (e :: (R ++ T2))) (b + (m + w)) (k + mz.2.2.2.2.1.cells) (n + mz.2.2.2.2.1.slots)) : gAt G mi Qp pc L st0 (fA b f (e :: (R ++ [e2]))) (b + (m + 1)) k n := by
  rw [fA_nest (T := e :: R) hm] at hC
  refine r_callIN hC (fun E f' sz' h => by cases h.1) hd hl hz hi hnm hr0 hT hst hna hR hW hk (fun v f' sz' h => ?_)
  obtain ⟨h1, h2, h3⟩ := h
  cases h1
  rw [fA_nest (T := e :: R) hm] at h2
  subst h2
  subst h3
  rw [Nat.add_assoc]
  exact kk
theorem k_end {Φ : gO → gF → Nat → Prop} {f1 : gF} {sz1 : Nat} (hΦ : Φ (.inl none) f1 sz1) (hd : decode mi.2.1 pc = .ok (.return_, 1)) (hr : mi.2.2.2.1 = none) (hk : k ≤ mi.2.2.2.2.1.cells) (hn : n ≤ mi.2.2.2.2.1.slots) (h1 : f = f1) (h2 : sz = sz1) : gAt G mi (gQp G mi Φ) pc L [] f sz k n := by
  subst h1; subst h2
  exact r_vret hd hr hk hn hΦ
end GI
abbrev dfX0 : List Value := [.null, .int 0, .int 0]
theorem dfX0_ok : ∀ j, j < 3 → defaultValue (tyX0 j) = vp_V dfX0 j := by decide +kernel
abbrev dfX1 : List Value := [.null, .null, .int 0]
theorem dfX1_ok : ∀ j, j < 3 → defaultValue (tyX1 j) = vp_V dfX1 j := by decide +kernel
abbrev dfX2 : List Value := [.null, .int 0]
theorem dfX2_ok : ∀ j, j < 2 → defaultValue (tyX2 j) = vp_V dfX2 j := by decide +kernel
abbrev dfX3 : List Value := [.int 0, .int 0, .null, .int 0, .null, .null, .int 0, .int 0, .int 0, .int 0, .int 0, .int 0, .int 0, .int 0]
theorem dfX3_ok : ∀ j, j < 14 → defaultValue (tyX3 j) = vp_V dfX3 j := by decide +kernel
abbrev dfX4 : List Value := [.null]
theorem dfX4_ok : ∀ j, j < 1 → defaultValue (tyX4 j) = vp_V dfX4 j := by decide +kernel
abbrev dfX5 : List Value := [.int 0, .int 0, .int 0, .int 0, .int 0]
theorem dfX5_ok : ∀ j, j < 5 → defaultValue (tyX5 j) = vp_V dfX5 j := by decide +kernel
abbrev dfX6 : List Value := [.int 0, .int 0, .null, .null, .null, .null, .null, .null, .null]
theorem dfX6_ok : ∀ j, j < 9 → defaultValue (tyX6 j) = vp_V dfX6 j := by decide +kernel
abbrev dfX7 : List Value := [.null, .int 0, .int 0, .int 0, .int 0, .int 0, .null, .int 0, .null, .int 0, .null, .null, .null]
theorem dfX7_ok : ∀ j, j < 13 → defaultValue (tyX7 j) = vp_V dfX7 j := by decide +kernel
abbrev dfX8 : List Value := [.int 0, .int 0, .int 0, .int 0, .int 0, .int 0, .int 0, .int 0, .int 0, .null, .null]
theorem dfX8_ok : ∀ j, j < 11 → defaultValue (tyX8 j) = vp_V dfX8 j := by decide +kernel
abbrev dfX9 : List Value := [.null, .int 0, .int 0, .int 0, .int 0, .null, .null, .null, .null, .null, .null, .null, .null, .null, .null, .null]
theorem dfX9_ok : ∀ j, j < 16 → defaultValue (tyX9 j) = vp_V dfX9 j := by decide +kernel
def eX5 (G : gG) (b : Nat) : List va_E := [.inr (5, [.int 0, .int 0, .int 0, .int 0, .int 0])]
set_option maxHeartbeats 4000000 in
set_option maxRecDepth 100000 in
theorem ct_X5_init {G : gG} (hs : G.1.stackTraces = false) {b : Nat} {f : gF} : gCt G mX5_init [.ref b] (fA b f [.inr (5, dfX5)]) (b + 1) (gR none (fA b f (eX5 G b)) (b + 1)) := by
  refine gCt.of [some (.ref b)] (by decide +kernel) rfl hs rfl (Nat.le_of_ble_eq_true rfl) ?_
  refine r_aload_n dX5_init_0 rfl ?_
  refine r_objInit dX5_init_1 wd_273 wd_79 cd_80 (Nat.le_of_ble_eq_true rfl) (Nat.le_of_ble_eq_true rfl) ?_
  exact k_end (f1 := fA b f (eX5 G b)) (sz1 := b + 1) ⟨rfl, rfl, rfl⟩ dX5_init_4 rfl (Nat.le_of_ble_eq_true rfl) (Nat.le_of_ble_eq_true rfl) rfl rfl
def eX6 (G : gG) (b : Nat) : List va_E := [.inr (6, [.int 0, .int 0, .ref (b + 1), .ref (b + 2), .ref (b + 3), .ref (b + 4), .ref (b + 5), .ref (b + 6), .ref (b + 7)]), .inl (G.2.1.1 100, 4, .inl (fun _ => 0)), .inl (G.2.1.1 102, 4, .inl (fun _ => 0)), .inl (G.2.1.1 102, 4, .inl (fun _ => 0)), .inl (G.2.1.1 102, 4, .inl (fun _ => 0)), .inl (G.2.1.1 102, 4, .inl (fun _ => 0)), .inl (G.2.1.1 102, 4, .inl (fun _ => 0)), .inl (G.2.1.1 102, 4, .inl (fun _ => 0))]
set_option maxHeartbeats 4000000 in
set_option maxRecDepth 100000 in
theorem ct_X6_init {G : gG} (hs : G.1.stackTraces = false) {b : Nat} {f : gF} : gCt G mX6_init [.ref b] (fA b f [.inr (6, dfX6)]) (b + 1) (gR none (fA b f (eX6 G b)) (b + 8)) := by
  refine gCt.of [some (.ref b)] (by decide +kernel) rfl hs rfl (Nat.le_of_ble_eq_true rfl) ?_
  refine r_aload_n dX6_init_0 rfl ?_
  refine r_objInit dX6_init_1 wd_86 wd_79 cd_80 (Nat.le_of_ble_eq_true rfl) (Nat.le_of_ble_eq_true rfl) ?_
  refine r_aload_n dX6_init_4 rfl ?_
  refine r_iconst (v := (4 : Int32)) dX6_init_5 (by decide) ?_
  refine k_newa (ty := FieldType.boolean) (m := 1) (N := 4) (a0 := (4, .inl (fun _ => 0))) 0 rfl rfl ⟨rfl, fun _ _ h => h⟩ na_z wd_141 (by decide) (by decide) (by decide) (Nat.le_of_ble_eq_true rfl) (Nat.le_of_ble_eq_true rfl) dX6_init_6 rfl ?_
  refine k_putF (k0 := 2) tyX6 tyX6_ok nmX6 uX6 rfl dX6_init_8 wd_95 (by decide) rfl rfl rfl rfl rfl (Nat.le_of_ble_eq_true rfl) ?_
  refine r_aload_n dX6_init_11 rfl ?_
  refine r_iconst (v := (4 : Int32)) dX6_init_12 (by decide) ?_
  refine k_newa (ty := FieldType.int) (m := 2) (N := 4) (a0 := (4, .inl (fun _ => 0))) 2 rfl rfl ⟨rfl, fun _ _ h => h⟩ na_i wd_142 (by decide) (by decide) (by decide) (Nat.le_of_ble_eq_true rfl) (Nat.le_of_ble_eq_true rfl) dX6_init_13 rfl ?_
  refine k_putF (k0 := 3) tyX6 tyX6_ok nmX6 uX6 rfl dX6_init_15 wd_99 (by decide) rfl rfl rfl rfl rfl (Nat.le_of_ble_eq_true rfl) ?_
  refine r_aload_n dX6_init_18 rfl ?_
  refine r_iconst (v := (4 : Int32)) dX6_init_19 (by decide) ?_
  refine k_newa (ty := FieldType.int) (m := 3) (N := 4) (a0 := (4, .inl (fun _ => 0))) 2 rfl rfl ⟨rfl, fun _ _ h => h⟩ na_i wd_142 (by decide) (by decide) (by decide) (Nat.le_of_ble_eq_true rfl) (Nat.le_of_ble_eq_true rfl) dX6_init_20 rfl ?_
  refine k_putF (k0 := 4) tyX6 tyX6_ok nmX6 uX6 rfl dX6_init_22 wd_103 (by decide) rfl rfl rfl rfl rfl (Nat.le_of_ble_eq_true rfl) ?_
  refine r_aload_n dX6_init_25 rfl ?_
  refine r_iconst (v := (4 : Int32)) dX6_init_26 (by decide) ?_
  refine k_newa (ty := FieldType.int) (m := 4) (N := 4) (a0 := (4, .inl (fun _ => 0))) 2 rfl rfl ⟨rfl, fun _ _ h => h⟩ na_i wd_142 (by decide) (by decide) (by decide) (Nat.le_of_ble_eq_true rfl) (Nat.le_of_ble_eq_true rfl) dX6_init_27 rfl ?_
  refine k_putF (k0 := 5) tyX6 tyX6_ok nmX6 uX6 rfl dX6_init_29 wd_107 (by decide) rfl rfl rfl rfl rfl (Nat.le_of_ble_eq_true rfl) ?_
  refine r_aload_n dX6_init_32 rfl ?_
  refine r_iconst (v := (4 : Int32)) dX6_init_33 (by decide) ?_
  refine k_newa (ty := FieldType.int) (m := 5) (N := 4) (a0 := (4, .inl (fun _ => 0))) 2 rfl rfl ⟨rfl, fun _ _ h => h⟩ na_i wd_142 (by decide) (by decide) (by decide) (Nat.le_of_ble_eq_true rfl) (Nat.le_of_ble_eq_true rfl) dX6_init_34 rfl ?_
  refine k_putF (k0 := 6) tyX6 tyX6_ok nmX6 uX6 rfl dX6_init_36 wd_111 (by decide) rfl rfl rfl rfl rfl (Nat.le_of_ble_eq_true rfl) ?_
  refine r_aload_n dX6_init_39 rfl ?_
  refine r_iconst (v := (4 : Int32)) dX6_init_40 (by decide) ?_
  refine k_newa (ty := FieldType.int) (m := 6) (N := 4) (a0 := (4, .inl (fun _ => 0))) 2 rfl rfl ⟨rfl, fun _ _ h => h⟩ na_i wd_142 (by decide) (by decide) (by decide) (Nat.le_of_ble_eq_true rfl) (Nat.le_of_ble_eq_true rfl) dX6_init_41 rfl ?_
  refine k_putF (k0 := 7) tyX6 tyX6_ok nmX6 uX6 rfl dX6_init_43 wd_115 (by decide) rfl rfl rfl rfl rfl (Nat.le_of_ble_eq_true rfl) ?_
  refine r_aload_n dX6_init_46 rfl ?_
  refine r_iconst (v := (4 : Int32)) dX6_init_47 (by decide) ?_
  refine k_newa (ty := FieldType.int) (m := 7) (N := 4) (a0 := (4, .inl (fun _ => 0))) 2 rfl rfl ⟨rfl, fun _ _ h => h⟩ na_i wd_142 (by decide) (by decide) (by decide) (Nat.le_of_ble_eq_true rfl) (Nat.le_of_ble_eq_true rfl) dX6_init_48 rfl ?_
  refine k_putF (k0 := 8) tyX6 tyX6_ok nmX6 uX6 rfl dX6_init_50 wd_118 (by decide) rfl rfl rfl rfl rfl (Nat.le_of_ble_eq_true rfl) ?_
  exact k_end (f1 := fA b f (eX6 G b)) (sz1 := b + 8) ⟨rfl, rfl, rfl⟩ dX6_init_53 rfl (Nat.le_of_ble_eq_true rfl) (Nat.le_of_ble_eq_true rfl) rfl rfl
def eX8 (G : gG) (b : Nat) : List va_E := [.inr (8, [.int (50 : Int32), .int (2 : Int32), .int 0, .int 0, .int 0, .int 0, .int 0, .int 0, .int 0, .ref (b + 1), .ref (b + 2)]), .inl (G.2.1.1 102, 6, .inl (fun _ => 0)), .inl (G.2.1.1 102, 6, .inl (fun _ => 0))]
set_option maxHeartbeats 4000000 in
set_option maxRecDepth 100000 in
theorem ct_X8_init {G : gG} (hs : G.1.stackTraces = false) {b : Nat} {f : gF} : gCt G mX8_init [.ref b] (fA b f [.inr (8, dfX8)]) (b + 1) (gR none (fA b f (eX8 G b)) (b + 3)) := by
  refine gCt.of [some (.ref b)] (by decide +kernel) rfl hs rfl (Nat.le_of_ble_eq_true rfl) ?_
  refine r_aload_n dX8_init_0 rfl ?_
  refine r_objInit dX8_init_1 wd_220 wd_79 cd_80 (Nat.le_of_ble_eq_true rfl) (Nat.le_of_ble_eq_true rfl) ?_
  refine r_aload_n dX8_init_4 rfl ?_
  refine r_bipush (v := (50 : Int32)) dX8_init_5 (by decide) ?_
  refine k_put (k0 := 0) tyX8 tyX8_ok nmX8 uX8 rfl dX8_init_7 wd_221 (by decide) rfl rfl rfl (Nat.le_of_ble_eq_true rfl) ?_
  refine r_aload_n dX8_init_10 rfl ?_
  refine r_iconst (v := (2 : Int32)) dX8_init_11 (by decide) ?_
  refine k_put (k0 := 1) tyX8 tyX8_ok nmX8 uX8 rfl dX8_init_12 wd_224 (by decide) rfl rfl rfl (Nat.le_of_ble_eq_true rfl) ?_
  refine r_aload_n dX8_init_15 rfl ?_
  refine r_bipush (v := (6 : Int32)) dX8_init_16 (by decide) ?_
  refine k_newa (ty := FieldType.int) (m := 1) (N := 6) (a0 := (6, .inl (fun _ => 0))) 2 rfl rfl ⟨rfl, fun _ _ h => h⟩ na_i wd_142 (by decide) (by decide) (by decide) (Nat.le_of_ble_eq_true rfl) (Nat.le_of_ble_eq_true rfl) dX8_init_18 rfl ?_
  refine k_putF (k0 := 9) tyX8 tyX8_ok nmX8 uX8 rfl dX8_init_20 wd_244 (by decide) rfl rfl rfl rfl rfl (Nat.le_of_ble_eq_true rfl) ?_
  refine r_aload_n dX8_init_23 rfl ?_
  refine r_bipush (v := (6 : Int32)) dX8_init_24 (by decide) ?_
  refine k_newa (ty := FieldType.int) (m := 2) (N := 6) (a0 := (6, .inl (fun _ => 0))) 2 rfl rfl ⟨rfl, fun _ _ h => h⟩ na_i wd_142 (by decide) (by decide) (by decide) (Nat.le_of_ble_eq_true rfl) (Nat.le_of_ble_eq_true rfl) dX8_init_26 rfl ?_
  refine k_putF (k0 := 10) tyX8 tyX8_ok nmX8 uX8 rfl dX8_init_28 wd_245 (by decide) rfl rfl rfl rfl rfl (Nat.le_of_ble_eq_true rfl) ?_
  exact k_end (f1 := fA b f (eX8 G b)) (sz1 := b + 3) ⟨rfl, rfl, rfl⟩ dX8_init_31 rfl (Nat.le_of_ble_eq_true rfl) (Nat.le_of_ble_eq_true rfl) rfl rfl
def eX1 (G : gG) (b : Nat) : List va_E := [.inr (1, [.ref (b + 1), .ref (b + 2), .int 0]), .inl (G.2.1.1 102, 10, .inl (fun _ => 0)), .inl (G.2.1.1 102, 160, .inl (fun _ => 0))]
set_option maxHeartbeats 4000000 in
set_option maxRecDepth 100000 in
theorem ct_X1_init {G : gG} (hs : G.1.stackTraces = false) {b : Nat} {f : gF} : gCt G mX1_init [.ref b] (fA b f [.inr (1, dfX1)]) (b + 1) (gR none (fA b f (eX1 G b)) (b + 3)) := by
  refine gCt.of [some (.ref b)] (by decide +kernel) rfl hs rfl (Nat.le_of_ble_eq_true rfl) ?_
  refine r_aload_n dX1_init_0 rfl ?_
  refine r_objInit dX1_init_1 wd_180 wd_79 cd_80 (Nat.le_of_ble_eq_true rfl) (Nat.le_of_ble_eq_true rfl) ?_
  refine r_aload_n dX1_init_4 rfl ?_
  refine r_bipush (v := (10 : Int32)) dX1_init_5 (by decide) ?_
  refine k_newa (ty := FieldType.int) (m := 1) (N := 10) (a0 := (10, .inl (fun _ => 0))) 2 rfl rfl ⟨rfl, fun _ _ h => h⟩ na_i wd_142 (by decide) (by decide) (by decide) (Nat.le_of_ble_eq_true rfl) (Nat.le_of_ble_eq_true rfl) dX1_init_7 rfl ?_
  refine k_putF (k0 := 0) tyX1 tyX1_ok nmX1 uX1 rfl dX1_init_9 wd_181 (by decide) rfl rfl rfl rfl rfl (Nat.le_of_ble_eq_true rfl) ?_
  refine r_aload_n dX1_init_12 rfl ?_
  refine r_sipush (v := (160 : Int32)) dX1_init_13 (by decide) ?_
  refine k_newa (ty := FieldType.int) (m := 2) (N := 160) (a0 := (160, .inl (fun _ => 0))) 2 rfl rfl ⟨rfl, fun _ _ h => h⟩ na_i wd_142 (by decide) (by decide) (by decide) (Nat.le_of_ble_eq_true rfl) (Nat.le_of_ble_eq_true rfl) dX1_init_16 rfl ?_
  refine k_putF (k0 := 1) tyX1 tyX1_ok nmX1 uX1 rfl dX1_init_18 wd_183 (by decide) rfl rfl rfl rfl rfl (Nat.le_of_ble_eq_true rfl) ?_
  exact k_end (f1 := fA b f (eX1 G b)) (sz1 := b + 3) ⟨rfl, rfl, rfl⟩ dX1_init_21 rfl (Nat.le_of_ble_eq_true rfl) (Nat.le_of_ble_eq_true rfl) rfl rfl
def eX2 (G : gG) (b : Nat) : List va_E := [.inr (2, [.ref (b + 1), .int 0]), .inl (G.2.1.1 101, 256, .inl (fun _ => 0))]
set_option maxHeartbeats 4000000 in
set_option maxRecDepth 100000 in
theorem ct_X2_init {G : gG} (hs : G.1.stackTraces = false) {b : Nat} {f : gF} : gCt G mX2_init [.ref b] (fA b f [.inr (2, dfX2)]) (b + 1) (gR none (fA b f (eX2 G b)) (b + 2)) := by
  refine gCt.of [some (.ref b)] (by decide +kernel) rfl hs rfl (Nat.le_of_ble_eq_true rfl) ?_
  refine r_aload_n dX2_init_0 rfl ?_
  refine r_objInit dX2_init_1 wd_168 wd_79 cd_80 (Nat.le_of_ble_eq_true rfl) (Nat.le_of_ble_eq_true rfl) ?_
  refine r_aload_n dX2_init_4 rfl ?_
  refine r_sipush (v := (256 : Int32)) dX2_init_5 (by decide) ?_
  refine k_newa (ty := FieldType.byte) (m := 1) (N := 256) (a0 := (256, .inl (fun _ => 0))) 1 rfl rfl ⟨rfl, fun _ _ h => h⟩ na_b wd_140 (by decide) (by decide) (by decide) (Nat.le_of_ble_eq_true rfl) (Nat.le_of_ble_eq_true rfl) dX2_init_8 rfl ?_
  refine k_putF (k0 := 0) tyX2 tyX2_ok nmX2 uX2 rfl dX2_init_10 wd_169 (by decide) rfl rfl rfl rfl rfl (Nat.le_of_ble_eq_true rfl) ?_
  exact k_end (f1 := fA b f (eX2 G b)) (sz1 := b + 2) ⟨rfl, rfl, rfl⟩ dX2_init_13 rfl (Nat.le_of_ble_eq_true rfl) (Nat.le_of_ble_eq_true rfl) rfl rfl
def eX7 (G : gG) (b rl : Nat) : List va_E := [.inr (7, [.ref rl, .int (1 : Int32), .int (1 : Int32), .int 0, .int (-1 : Int32), .int 0, .ref (b + 1), .int 0, .ref (b + 2), .int 0, .ref (b + 3), .ref (b + 4), .ref (b + 5)]), .inl (G.2.1.1 105, 4, .inr (.inr (.inr (.inr (va_up (va_up (va_up (va_up (fun _ => none) 0 (some (b + 6))) 1 (some (b + 9))) 2 (some (b + 12))) 3 (some (b + 15))))))), .inl (G.2.1.1 106, 3, .inr (.inr (.inr (.inr (va_up (va_up (va_up (fun _ => none) 0 (some (b + 18))) 1 (some (b + 19))) 2 (some (b + 20))))))), .inl (G.2.1.1 102, 4, .inl (fun _ => 0)), .inl (G.2.1.1 102, 4, .inl (fun _ => 0)), .inl (G.2.1.1 102, 4, .inl (fun _ => 0))] ++ eX8 G (b + 6) ++ eX8 G (b + 9) ++ eX8 G (b + 12) ++ eX8 G (b + 15) ++ eX5 G (b + 18) ++ eX5 G (b + 19) ++ eX5 G (b + 20)
set_option maxHeartbeats 4000000 in
set_option maxRecDepth 100000 in
theorem ct_X7_init {G : gG} (hs : G.1.stackTraces = false) {b rl : Nat} {f : gF} : gCt G mX7_init [.ref b, .ref rl] (fA b f [.inr (7, dfX7)]) (b + 1) (gR none (fA b f (eX7 G b rl)) (b + 21)) := by
  refine gCt.of [some (.ref b), some (.ref rl), none] (by decide +kernel) rfl hs rfl (Nat.le_of_ble_eq_true rfl) ?_
  refine r_aload_n dX7_init_0 rfl ?_
  refine r_objInit dX7_init_1 wd_211 wd_79 cd_80 (Nat.le_of_ble_eq_true rfl) (Nat.le_of_ble_eq_true rfl) ?_
  refine r_aload_n dX7_init_4 rfl ?_
  refine r_iconst (v := (1 : Int32)) dX7_init_5 (by decide) ?_
  refine k_put (k0 := 1) tyX7 tyX7_ok nmX7 uX7 rfl dX7_init_6 wd_297 (by decide) rfl rfl rfl (Nat.le_of_ble_eq_true rfl) ?_
  refine r_aload_n dX7_init_9 rfl ?_
  refine r_iconst (v := (1 : Int32)) dX7_init_10 (by decide) ?_
  refine k_put (k0 := 2) tyX7 tyX7_ok nmX7 uX7 rfl dX7_init_11 wd_300 (by decide) rfl rfl rfl (Nat.le_of_ble_eq_true rfl) ?_
  refine r_aload_n dX7_init_14 rfl ?_
  refine r_iconst (v := (-1 : Int32)) dX7_init_15 (by decide) ?_
  refine k_put (k0 := 4) tyX7 tyX7_ok nmX7 uX7 rfl dX7_init_16 wd_305 (by decide) rfl rfl rfl (Nat.le_of_ble_eq_true rfl) ?_
  refine r_aload_n dX7_init_19 rfl ?_
  refine r_iconst (v := (4 : Int32)) dX7_init_20 (by decide) ?_
  refine k_newq (m := 1) (N := 4) 5 rfl wd_212 (gN_of 213 (by decide +kernel) rfl) (by decide) rfl (by decide) (Nat.le_of_ble_eq_true rfl) (Nat.le_of_ble_eq_true rfl) dX7_init_21 rfl ?_
  refine k_putF (k0 := 6) tyX7 tyX7_ok nmX7 uX7 rfl dX7_init_24 wd_311 (by decide) rfl rfl rfl rfl rfl (Nat.le_of_ble_eq_true rfl) ?_
  refine r_aload_n dX7_init_27 rfl ?_
  refine r_iconst (v := (3 : Int32)) dX7_init_28 (by decide) ?_
  refine k_newq (m := 2) (N := 3) 6 rfl wd_214 (gN_of 215 (by decide +kernel) rfl) (by decide) rfl (by decide) (Nat.le_of_ble_eq_true rfl) (Nat.le_of_ble_eq_true rfl) dX7_init_29 rfl ?_
  refine k_putF (k0 := 8) tyX7 tyX7_ok nmX7 uX7 rfl dX7_init_32 wd_316 (by decide) rfl rfl rfl rfl rfl (Nat.le_of_ble_eq_true rfl) ?_
  refine r_aload_n dX7_init_35 rfl ?_
  refine r_iconst (v := (4 : Int32)) dX7_init_36 (by decide) ?_
  refine k_newa (ty := FieldType.int) (m := 3) (N := 4) (a0 := (4, .inl (fun _ => 0))) 2 rfl rfl ⟨rfl, fun _ _ h => h⟩ na_i wd_142 (by decide) (by decide) (by decide) (Nat.le_of_ble_eq_true rfl) (Nat.le_of_ble_eq_true rfl) dX7_init_37 rfl ?_
  refine k_putF (k0 := 10) tyX7 tyX7_ok nmX7 uX7 rfl dX7_init_39 wd_321 (by decide) rfl rfl rfl rfl rfl (Nat.le_of_ble_eq_true rfl) ?_
  refine r_aload_n dX7_init_42 rfl ?_
  refine r_iconst (v := (4 : Int32)) dX7_init_43 (by decide) ?_
  refine k_newa (ty := FieldType.int) (m := 4) (N := 4) (a0 := (4, .inl (fun _ => 0))) 2 rfl rfl ⟨rfl, fun _ _ h => h⟩ na_i wd_142 (by decide) (by decide) (by decide) (Nat.le_of_ble_eq_true rfl) (Nat.le_of_ble_eq_true rfl) dX7_init_44 rfl ?_
  refine k_putF (k0 := 11) tyX7 tyX7_ok nmX7 uX7 rfl dX7_init_46 wd_324 (by decide) rfl rfl rfl rfl rfl (Nat.le_of_ble_eq_true rfl) ?_
  refine r_aload_n dX7_init_49 rfl ?_
  refine r_iconst (v := (4 : Int32)) dX7_init_50 (by decide) ?_
  refine k_newa (ty := FieldType.int) (m := 5) (N := 4) (a0 := (4, .inl (fun _ => 0))) 2 rfl rfl ⟨rfl, fun _ _ h => h⟩ na_i wd_142 (by decide) (by decide) (by decide) (Nat.le_of_ble_eq_true rfl) (Nat.le_of_ble_eq_true rfl) dX7_init_51 rfl ?_
  refine k_putF (k0 := 12) tyX7 tyX7_ok nmX7 uX7 rfl dX7_init_53 wd_327 (by decide) rfl rfl rfl rfl rfl (Nat.le_of_ble_eq_true rfl) ?_
  refine r_aload_n dX7_init_56 rfl ?_
  refine r_aload_n dX7_init_57 rfl ?_
  refine k_putF (k0 := 0) tyX7 tyX7_ok nmX7 uX7 rfl dX7_init_58 wd_295 (by decide) rfl rfl rfl rfl rfl (Nat.le_of_ble_eq_true rfl) ?_
  refine r_iconst (v := (0 : Int32)) dX7_init_61 (by decide) ?_
  refine r_istore_n dX7_init_62 (by decide) rfl ?_
  refine r_iload_n dX7_init_63 rfl ?_
  refine r_iconst (v := (4 : Int32)) dX7_init_64 (by decide) ?_
  refine r_icmp_ge (tgt := 87) dX7_init_65 (by decide) (fun c => absurd c (by decide)) (fun _ => ?_)
  refine r_aload_n dX7_init_68 rfl ?_
  refine k_get (k0 := 6) uX7 rfl dX7_init_69 wd_311 (by decide) rfl ?_
  refine r_iload_n dX7_init_72 rfl ?_
  refine k_new (ci := 8) (m := 6) tyX8 tyX8_ok uX8 rfl dX7_init_73 wd_212 wd_216 wd_52 dfX8_ok (Nat.le_of_ble_eq_true rfl) (Nat.le_of_ble_eq_true rfl) rfl ?_
  refine r_dup dX7_init_76 rfl ?_
  refine k_callIN (host := "RippleTank") (m := 6) (w := 3) (rest := [.ref (b + 6), .int (0 : Int32), .ref (b + 1)]) (ct_X8_init hs) dX7_init_77 (gN_of 217 (by decide +kernel) rfl) zX8_init wd_218 rfl rfl rfl rfl rfl ⟨(Nat.le_of_ble_eq_true rfl), (Nat.le_of_ble_eq_true rfl)⟩ (Nat.le_of_ble_eq_true rfl) ⟨(Nat.le_of_ble_eq_true rfl), (Nat.le_of_ble_eq_true rfl)⟩ rfl ?_
  refine k_aast (x := 0) (y := 5) 0 5 rfl dX7_init_80 rfl (Nat.le_of_ble_eq_true rfl) rfl rfl (vpc rfl) (by decide) ?_
  refine r_iincv (v := (1 : Int32)) dX7_init_81 rfl (by decide) (by decide) rfl ?_
  refine r_goto (tgt := 63) dX7_init_84 (by decide) ?_
  refine r_iload_n dX7_init_63 rfl ?_
  refine r_iconst (v := (4 : Int32)) dX7_init_64 (by decide) ?_
  refine r_icmp_ge (tgt := 87) dX7_init_65 (by decide) (fun c => absurd c (by decide)) (fun _ => ?_)
  refine r_aload_n dX7_init_68 rfl ?_
  refine k_get (k0 := 6) uX7 rfl dX7_init_69 wd_311 (by decide) rfl ?_
  refine r_iload_n dX7_init_72 rfl ?_
  refine k_new (ci := 8) (m := 9) tyX8 tyX8_ok uX8 rfl dX7_init_73 wd_212 wd_216 wd_52 dfX8_ok (Nat.le_of_ble_eq_true rfl) (Nat.le_of_ble_eq_true rfl) rfl ?_
  refine r_dup dX7_init_76 rfl ?_
  refine k_callIN (host := "RippleTank") (m := 9) (w := 3) (rest := [.ref (b + 9), .int (1 : Int32), .ref (b + 1)]) (ct_X8_init hs) dX7_init_77 (gN_of 217 (by decide +kernel) rfl) zX8_init wd_218 rfl rfl rfl rfl rfl ⟨(Nat.le_of_ble_eq_true rfl), (Nat.le_of_ble_eq_true rfl)⟩ (Nat.le_of_ble_eq_true rfl) ⟨(Nat.le_of_ble_eq_true rfl), (Nat.le_of_ble_eq_true rfl)⟩ rfl ?_
  refine k_aast (x := 0) (y := 8) 1 5 rfl dX7_init_80 rfl (Nat.le_of_ble_eq_true rfl) rfl rfl (vpc rfl) (by decide) ?_
  refine r_iincv (v := (2 : Int32)) dX7_init_81 rfl (by decide) (by decide) rfl ?_
  refine r_goto (tgt := 63) dX7_init_84 (by decide) ?_
  refine r_iload_n dX7_init_63 rfl ?_
  refine r_iconst (v := (4 : Int32)) dX7_init_64 (by decide) ?_
  refine r_icmp_ge (tgt := 87) dX7_init_65 (by decide) (fun c => absurd c (by decide)) (fun _ => ?_)
  refine r_aload_n dX7_init_68 rfl ?_
  refine k_get (k0 := 6) uX7 rfl dX7_init_69 wd_311 (by decide) rfl ?_
  refine r_iload_n dX7_init_72 rfl ?_
  refine k_new (ci := 8) (m := 12) tyX8 tyX8_ok uX8 rfl dX7_init_73 wd_212 wd_216 wd_52 dfX8_ok (Nat.le_of_ble_eq_true rfl) (Nat.le_of_ble_eq_true rfl) rfl ?_
  refine r_dup dX7_init_76 rfl ?_
  refine k_callIN (host := "RippleTank") (m := 12) (w := 3) (rest := [.ref (b + 12), .int (2 : Int32), .ref (b + 1)]) (ct_X8_init hs) dX7_init_77 (gN_of 217 (by decide +kernel) rfl) zX8_init wd_218 rfl rfl rfl rfl rfl ⟨(Nat.le_of_ble_eq_true rfl), (Nat.le_of_ble_eq_true rfl)⟩ (Nat.le_of_ble_eq_true rfl) ⟨(Nat.le_of_ble_eq_true rfl), (Nat.le_of_ble_eq_true rfl)⟩ rfl ?_
  refine k_aast (x := 0) (y := 11) 2 5 rfl dX7_init_80 rfl (Nat.le_of_ble_eq_true rfl) rfl rfl (vpc rfl) (by decide) ?_
  refine r_iincv (v := (3 : Int32)) dX7_init_81 rfl (by decide) (by decide) rfl ?_
  refine r_goto (tgt := 63) dX7_init_84 (by decide) ?_
  refine r_iload_n dX7_init_63 rfl ?_
  refine r_iconst (v := (4 : Int32)) dX7_init_64 (by decide) ?_
  refine r_icmp_ge (tgt := 87) dX7_init_65 (by decide) (fun c => absurd c (by decide)) (fun _ => ?_)
  refine r_aload_n dX7_init_68 rfl ?_
  refine k_get (k0 := 6) uX7 rfl dX7_init_69 wd_311 (by decide) rfl ?_
  refine r_iload_n dX7_init_72 rfl ?_
  refine k_new (ci := 8) (m := 15) tyX8 tyX8_ok uX8 rfl dX7_init_73 wd_212 wd_216 wd_52 dfX8_ok (Nat.le_of_ble_eq_true rfl) (Nat.le_of_ble_eq_true rfl) rfl ?_
  refine r_dup dX7_init_76 rfl ?_
  refine k_callIN (host := "RippleTank") (m := 15) (w := 3) (rest := [.ref (b + 15), .int (3 : Int32), .ref (b + 1)]) (ct_X8_init hs) dX7_init_77 (gN_of 217 (by decide +kernel) rfl) zX8_init wd_218 rfl rfl rfl rfl rfl ⟨(Nat.le_of_ble_eq_true rfl), (Nat.le_of_ble_eq_true rfl)⟩ (Nat.le_of_ble_eq_true rfl) ⟨(Nat.le_of_ble_eq_true rfl), (Nat.le_of_ble_eq_true rfl)⟩ rfl ?_
  refine k_aast (x := 0) (y := 14) 3 5 rfl dX7_init_80 rfl (Nat.le_of_ble_eq_true rfl) rfl rfl (vpc rfl) (by decide) ?_
  refine r_iincv (v := (4 : Int32)) dX7_init_81 rfl (by decide) (by decide) rfl ?_
  refine r_goto (tgt := 63) dX7_init_84 (by decide) ?_
  refine r_iload_n dX7_init_63 rfl ?_
  refine r_iconst (v := (4 : Int32)) dX7_init_64 (by decide) ?_
  refine r_icmp_ge (tgt := 87) dX7_init_65 (by decide) (fun _ => ?_) (fun c => absurd c (by decide))
  refine r_iconst (v := (0 : Int32)) dX7_init_87 (by decide) ?_
  refine r_istore_n dX7_init_88 (by decide) rfl ?_
  refine r_iload_n dX7_init_89 rfl ?_
  refine r_iconst (v := (3 : Int32)) dX7_init_90 (by decide) ?_
  refine r_icmp_ge (tgt := 113) dX7_init_91 (by decide) (fun c => absurd c (by decide)) (fun _ => ?_)
  refine r_aload_n dX7_init_94 rfl ?_
  refine k_get (k0 := 8) uX7 rfl dX7_init_95 wd_316 (by decide) rfl ?_
  refine r_iload_n dX7_init_98 rfl ?_
  refine k_new (ci := 5) (m := 18) tyX5 tyX5_ok uX5 rfl dX7_init_99 wd_214 wd_269 wd_53 dfX5_ok (Nat.le_of_ble_eq_true rfl) (Nat.le_of_ble_eq_true rfl) rfl ?_
  refine r_dup dX7_init_102 rfl ?_
  refine k_callIN (host := "RippleTank") (m := 18) (w := 1) (rest := [.ref (b + 18), .int (0 : Int32), .ref (b + 2)]) (ct_X5_init hs) dX7_init_103 (gN_of 270 (by decide +kernel) rfl) zX5_init wd_271 rfl rfl rfl rfl rfl ⟨(Nat.le_of_ble_eq_true rfl), (Nat.le_of_ble_eq_true rfl)⟩ (Nat.le_of_ble_eq_true rfl) ⟨(Nat.le_of_ble_eq_true rfl), (Nat.le_of_ble_eq_true rfl)⟩ rfl ?_
  refine k_aast (x := 1) (y := 17) 0 6 rfl dX7_init_106 rfl (Nat.le_of_ble_eq_true rfl) rfl rfl (vpc rfl) (by decide) ?_
  refine r_iincv (v := (1 : Int32)) dX7_init_107 rfl (by decide) (by decide) rfl ?_
  refine r_goto (tgt := 89) dX7_init_110 (by decide) ?_
  refine r_iload_n dX7_init_89 rfl ?_
  refine r_iconst (v := (3 : Int32)) dX7_init_90 (by decide) ?_
  refine r_icmp_ge (tgt := 113) dX7_init_91 (by decide) (fun c => absurd c (by decide)) (fun _ => ?_)
  refine r_aload_n dX7_init_94 rfl ?_
  refine k_get (k0 := 8) uX7 rfl dX7_init_95 wd_316 (by decide) rfl ?_
  refine r_iload_n dX7_init_98 rfl ?_
  refine k_new (ci := 5) (m := 19) tyX5 tyX5_ok uX5 rfl dX7_init_99 wd_214 wd_269 wd_53 dfX5_ok (Nat.le_of_ble_eq_true rfl) (Nat.le_of_ble_eq_true rfl) rfl ?_
  refine r_dup dX7_init_102 rfl ?_
  refine k_callIN (host := "RippleTank") (m := 19) (w := 1) (rest := [.ref (b + 19), .int (1 : Int32), .ref (b + 2)]) (ct_X5_init hs) dX7_init_103 (gN_of 270 (by decide +kernel) rfl) zX5_init wd_271 rfl rfl rfl rfl rfl ⟨(Nat.le_of_ble_eq_true rfl), (Nat.le_of_ble_eq_true rfl)⟩ (Nat.le_of_ble_eq_true rfl) ⟨(Nat.le_of_ble_eq_true rfl), (Nat.le_of_ble_eq_true rfl)⟩ rfl ?_
  refine k_aast (x := 1) (y := 18) 1 6 rfl dX7_init_106 rfl (Nat.le_of_ble_eq_true rfl) rfl rfl (vpc rfl) (by decide) ?_
  refine r_iincv (v := (2 : Int32)) dX7_init_107 rfl (by decide) (by decide) rfl ?_
  refine r_goto (tgt := 89) dX7_init_110 (by decide) ?_
  refine r_iload_n dX7_init_89 rfl ?_
  refine r_iconst (v := (3 : Int32)) dX7_init_90 (by decide) ?_
  refine r_icmp_ge (tgt := 113) dX7_init_91 (by decide) (fun c => absurd c (by decide)) (fun _ => ?_)
  refine r_aload_n dX7_init_94 rfl ?_
  refine k_get (k0 := 8) uX7 rfl dX7_init_95 wd_316 (by decide) rfl ?_
  refine r_iload_n dX7_init_98 rfl ?_
  refine k_new (ci := 5) (m := 20) tyX5 tyX5_ok uX5 rfl dX7_init_99 wd_214 wd_269 wd_53 dfX5_ok (Nat.le_of_ble_eq_true rfl) (Nat.le_of_ble_eq_true rfl) rfl ?_
  refine r_dup dX7_init_102 rfl ?_
  refine k_callIN (host := "RippleTank") (m := 20) (w := 1) (rest := [.ref (b + 20), .int (2 : Int32), .ref (b + 2)]) (ct_X5_init hs) dX7_init_103 (gN_of 270 (by decide +kernel) rfl) zX5_init wd_271 rfl rfl rfl rfl rfl ⟨(Nat.le_of_ble_eq_true rfl), (Nat.le_of_ble_eq_true rfl)⟩ (Nat.le_of_ble_eq_true rfl) ⟨(Nat.le_of_ble_eq_true rfl), (Nat.le_of_ble_eq_true rfl)⟩ rfl ?_
  refine k_aast (x := 1) (y := 19) 2 6 rfl dX7_init_106 rfl (Nat.le_of_ble_eq_true rfl) rfl rfl (vpc rfl) (by decide) ?_
  refine r_iincv (v := (3 : Int32)) dX7_init_107 rfl (by decide) (by decide) rfl ?_
  refine r_goto (tgt := 89) dX7_init_110 (by decide) ?_
  refine r_iload_n dX7_init_89 rfl ?_
  refine r_iconst (v := (3 : Int32)) dX7_init_90 (by decide) ?_
  refine r_icmp_ge (tgt := 113) dX7_init_91 (by decide) (fun _ => ?_) (fun c => absurd c (by decide))
  exact k_end (f1 := fA b f (eX7 G b rl)) (sz1 := b + 21) ⟨rfl, rfl, rfl⟩ dX7_init_113 rfl (Nat.le_of_ble_eq_true rfl) (Nat.le_of_ble_eq_true rfl) rfl rfl
def eX0 (G : gG) (b : Nat) : List va_E := [.inr (0, [.ref (b + 1), .int 0, .int 0]), .inl (G.2.1.1 107, 8, .inr (.inr (.inr (.inr (va_up (va_up (va_up (va_up (va_up (va_up (va_up (va_up (fun _ => none) 0 (some (b + 2))) 1 (some (b + 10))) 2 (some (b + 18))) 3 (some (b + 26))) 4 (some (b + 34))) 5 (some (b + 42))) 6 (some (b + 50))) 7 (some (b + 58)))))))] ++ eX6 G (b + 2) ++ eX6 G (b + 10) ++ eX6 G (b + 18) ++ eX6 G (b + 26) ++ eX6 G (b + 34) ++ eX6 G (b + 42) ++ eX6 G (b + 50) ++ eX6 G (b + 58)
set_option maxHeartbeats 4000000 in
set_option maxRecDepth 100000 in
theorem ct_X0_init {G : gG} (hs : G.1.stackTraces = false) {b : Nat} {f : gF} : gCt G mX0_init [.ref b] (fA b f [.inr (0, dfX0)]) (b + 1) (gR none (fA b f (eX0 G b)) (b + 66)) := by
  refine gCt.of [some (.ref b), none] (by decide +kernel) rfl hs rfl (Nat.le_of_ble_eq_true rfl) ?_
  refine r_aload_n dX0_init_0 rfl ?_
  refine r_objInit dX0_init_1 wd_148 wd_79 cd_80 (Nat.le_of_ble_eq_true rfl) (Nat.le_of_ble_eq_true rfl) ?_
  refine r_aload_n dX0_init_4 rfl ?_
  refine r_bipush (v := (8 : Int32)) dX0_init_5 (by decide) ?_
  refine k_newq (m := 1) (N := 8) 7 rfl wd_149 (gN_of 150 (by decide +kernel) rfl) (by decide) rfl (by decide) (Nat.le_of_ble_eq_true rfl) (Nat.le_of_ble_eq_true rfl) dX0_init_7 rfl ?_
  refine k_putF (k0 := 0) tyX0 tyX0_ok nmX0 uX0 rfl dX0_init_10 wd_152 (by decide) rfl rfl rfl rfl rfl (Nat.le_of_ble_eq_true rfl) ?_
  refine r_iconst (v := (0 : Int32)) dX0_init_13 (by decide) ?_
  refine r_istore_n dX0_init_14 (by decide) rfl ?_
  refine r_iload_n dX0_init_15 rfl ?_
  refine r_bipush (v := (8 : Int32)) dX0_init_16 (by decide) ?_
  refine r_icmp_ge (tgt := 40) dX0_init_18 (by decide) (fun c => absurd c (by decide)) (fun _ => ?_)
  refine r_aload_n dX0_init_21 rfl ?_
  refine k_get (k0 := 0) uX0 rfl dX0_init_22 wd_152 (by decide) rfl ?_
  refine r_iload_n dX0_init_25 rfl ?_
  refine k_new (ci := 6) (m := 2) tyX6 tyX6_ok uX6 rfl dX0_init_26 wd_149 wd_82 wd_46 dfX6_ok (Nat.le_of_ble_eq_true rfl) (Nat.le_of_ble_eq_true rfl) rfl ?_
  refine r_dup dX0_init_29 rfl ?_
  refine k_callIN (host := "RippleTank") (m := 2) (w := 8) (rest := [.ref (b + 2), .int (0 : Int32), .ref (b + 1)]) (ct_X6_init hs) dX0_init_30 (gN_of 151 (by decide +kernel) rfl) zX6_init wd_84 rfl rfl rfl rfl rfl ⟨(Nat.le_of_ble_eq_true rfl), (Nat.le_of_ble_eq_true rfl)⟩ (Nat.le_of_ble_eq_true rfl) ⟨(Nat.le_of_ble_eq_true rfl), (Nat.le_of_ble_eq_true rfl)⟩ rfl ?_
  refine k_aast (x := 0) (y := 1) 0 7 rfl dX0_init_33 rfl (Nat.le_of_ble_eq_true rfl) rfl rfl (vpc rfl) (by decide) ?_
  refine r_iincv (v := (1 : Int32)) dX0_init_34 rfl (by decide) (by decide) rfl ?_
  refine r_goto (tgt := 15) dX0_init_37 (by decide) ?_
  refine r_iload_n dX0_init_15 rfl ?_
  refine r_bipush (v := (8 : Int32)) dX0_init_16 (by decide) ?_
  refine r_icmp_ge (tgt := 40) dX0_init_18 (by decide) (fun c => absurd c (by decide)) (fun _ => ?_)
  refine r_aload_n dX0_init_21 rfl ?_
  refine k_get (k0 := 0) uX0 rfl dX0_init_22 wd_152 (by decide) rfl ?_
  refine r_iload_n dX0_init_25 rfl ?_
  refine k_new (ci := 6) (m := 10) tyX6 tyX6_ok uX6 rfl dX0_init_26 wd_149 wd_82 wd_46 dfX6_ok (Nat.le_of_ble_eq_true rfl) (Nat.le_of_ble_eq_true rfl) rfl ?_
  refine r_dup dX0_init_29 rfl ?_
  refine k_callIN (host := "RippleTank") (m := 10) (w := 8) (rest := [.ref (b + 10), .int (1 : Int32), .ref (b + 1)]) (ct_X6_init hs) dX0_init_30 (gN_of 151 (by decide +kernel) rfl) zX6_init wd_84 rfl rfl rfl rfl rfl ⟨(Nat.le_of_ble_eq_true rfl), (Nat.le_of_ble_eq_true rfl)⟩ (Nat.le_of_ble_eq_true rfl) ⟨(Nat.le_of_ble_eq_true rfl), (Nat.le_of_ble_eq_true rfl)⟩ rfl ?_
  refine k_aast (x := 0) (y := 9) 1 7 rfl dX0_init_33 rfl (Nat.le_of_ble_eq_true rfl) rfl rfl (vpc rfl) (by decide) ?_
  refine r_iincv (v := (2 : Int32)) dX0_init_34 rfl (by decide) (by decide) rfl ?_
  refine r_goto (tgt := 15) dX0_init_37 (by decide) ?_
  refine r_iload_n dX0_init_15 rfl ?_
  refine r_bipush (v := (8 : Int32)) dX0_init_16 (by decide) ?_
  refine r_icmp_ge (tgt := 40) dX0_init_18 (by decide) (fun c => absurd c (by decide)) (fun _ => ?_)
  refine r_aload_n dX0_init_21 rfl ?_
  refine k_get (k0 := 0) uX0 rfl dX0_init_22 wd_152 (by decide) rfl ?_
  refine r_iload_n dX0_init_25 rfl ?_
  refine k_new (ci := 6) (m := 18) tyX6 tyX6_ok uX6 rfl dX0_init_26 wd_149 wd_82 wd_46 dfX6_ok (Nat.le_of_ble_eq_true rfl) (Nat.le_of_ble_eq_true rfl) rfl ?_
  refine r_dup dX0_init_29 rfl ?_
  refine k_callIN (host := "RippleTank") (m := 18) (w := 8) (rest := [.ref (b + 18), .int (2 : Int32), .ref (b + 1)]) (ct_X6_init hs) dX0_init_30 (gN_of 151 (by decide +kernel) rfl) zX6_init wd_84 rfl rfl rfl rfl rfl ⟨(Nat.le_of_ble_eq_true rfl), (Nat.le_of_ble_eq_true rfl)⟩ (Nat.le_of_ble_eq_true rfl) ⟨(Nat.le_of_ble_eq_true rfl), (Nat.le_of_ble_eq_true rfl)⟩ rfl ?_
  refine k_aast (x := 0) (y := 17) 2 7 rfl dX0_init_33 rfl (Nat.le_of_ble_eq_true rfl) rfl rfl (vpc rfl) (by decide) ?_
  refine r_iincv (v := (3 : Int32)) dX0_init_34 rfl (by decide) (by decide) rfl ?_
  refine r_goto (tgt := 15) dX0_init_37 (by decide) ?_
  refine r_iload_n dX0_init_15 rfl ?_
  refine r_bipush (v := (8 : Int32)) dX0_init_16 (by decide) ?_
  refine r_icmp_ge (tgt := 40) dX0_init_18 (by decide) (fun c => absurd c (by decide)) (fun _ => ?_)
  refine r_aload_n dX0_init_21 rfl ?_
  refine k_get (k0 := 0) uX0 rfl dX0_init_22 wd_152 (by decide) rfl ?_
  refine r_iload_n dX0_init_25 rfl ?_
  refine k_new (ci := 6) (m := 26) tyX6 tyX6_ok uX6 rfl dX0_init_26 wd_149 wd_82 wd_46 dfX6_ok (Nat.le_of_ble_eq_true rfl) (Nat.le_of_ble_eq_true rfl) rfl ?_
  refine r_dup dX0_init_29 rfl ?_
  refine k_callIN (host := "RippleTank") (m := 26) (w := 8) (rest := [.ref (b + 26), .int (3 : Int32), .ref (b + 1)]) (ct_X6_init hs) dX0_init_30 (gN_of 151 (by decide +kernel) rfl) zX6_init wd_84 rfl rfl rfl rfl rfl ⟨(Nat.le_of_ble_eq_true rfl), (Nat.le_of_ble_eq_true rfl)⟩ (Nat.le_of_ble_eq_true rfl) ⟨(Nat.le_of_ble_eq_true rfl), (Nat.le_of_ble_eq_true rfl)⟩ rfl ?_
  refine k_aast (x := 0) (y := 25) 3 7 rfl dX0_init_33 rfl (Nat.le_of_ble_eq_true rfl) rfl rfl (vpc rfl) (by decide) ?_
  refine r_iincv (v := (4 : Int32)) dX0_init_34 rfl (by decide) (by decide) rfl ?_
  refine r_goto (tgt := 15) dX0_init_37 (by decide) ?_
  refine r_iload_n dX0_init_15 rfl ?_
  refine r_bipush (v := (8 : Int32)) dX0_init_16 (by decide) ?_
  refine r_icmp_ge (tgt := 40) dX0_init_18 (by decide) (fun c => absurd c (by decide)) (fun _ => ?_)
  refine r_aload_n dX0_init_21 rfl ?_
  refine k_get (k0 := 0) uX0 rfl dX0_init_22 wd_152 (by decide) rfl ?_
  refine r_iload_n dX0_init_25 rfl ?_
  refine k_new (ci := 6) (m := 34) tyX6 tyX6_ok uX6 rfl dX0_init_26 wd_149 wd_82 wd_46 dfX6_ok (Nat.le_of_ble_eq_true rfl) (Nat.le_of_ble_eq_true rfl) rfl ?_
  refine r_dup dX0_init_29 rfl ?_
  refine k_callIN (host := "RippleTank") (m := 34) (w := 8) (rest := [.ref (b + 34), .int (4 : Int32), .ref (b + 1)]) (ct_X6_init hs) dX0_init_30 (gN_of 151 (by decide +kernel) rfl) zX6_init wd_84 rfl rfl rfl rfl rfl ⟨(Nat.le_of_ble_eq_true rfl), (Nat.le_of_ble_eq_true rfl)⟩ (Nat.le_of_ble_eq_true rfl) ⟨(Nat.le_of_ble_eq_true rfl), (Nat.le_of_ble_eq_true rfl)⟩ rfl ?_
  refine k_aast (x := 0) (y := 33) 4 7 rfl dX0_init_33 rfl (Nat.le_of_ble_eq_true rfl) rfl rfl (vpc rfl) (by decide) ?_
  refine r_iincv (v := (5 : Int32)) dX0_init_34 rfl (by decide) (by decide) rfl ?_
  refine r_goto (tgt := 15) dX0_init_37 (by decide) ?_
  refine r_iload_n dX0_init_15 rfl ?_
  refine r_bipush (v := (8 : Int32)) dX0_init_16 (by decide) ?_
  refine r_icmp_ge (tgt := 40) dX0_init_18 (by decide) (fun c => absurd c (by decide)) (fun _ => ?_)
  refine r_aload_n dX0_init_21 rfl ?_
  refine k_get (k0 := 0) uX0 rfl dX0_init_22 wd_152 (by decide) rfl ?_
  refine r_iload_n dX0_init_25 rfl ?_
  refine k_new (ci := 6) (m := 42) tyX6 tyX6_ok uX6 rfl dX0_init_26 wd_149 wd_82 wd_46 dfX6_ok (Nat.le_of_ble_eq_true rfl) (Nat.le_of_ble_eq_true rfl) rfl ?_
  refine r_dup dX0_init_29 rfl ?_
  refine k_callIN (host := "RippleTank") (m := 42) (w := 8) (rest := [.ref (b + 42), .int (5 : Int32), .ref (b + 1)]) (ct_X6_init hs) dX0_init_30 (gN_of 151 (by decide +kernel) rfl) zX6_init wd_84 rfl rfl rfl rfl rfl ⟨(Nat.le_of_ble_eq_true rfl), (Nat.le_of_ble_eq_true rfl)⟩ (Nat.le_of_ble_eq_true rfl) ⟨(Nat.le_of_ble_eq_true rfl), (Nat.le_of_ble_eq_true rfl)⟩ rfl ?_
  refine k_aast (x := 0) (y := 41) 5 7 rfl dX0_init_33 rfl (Nat.le_of_ble_eq_true rfl) rfl rfl (vpc rfl) (by decide) ?_
  refine r_iincv (v := (6 : Int32)) dX0_init_34 rfl (by decide) (by decide) rfl ?_
  refine r_goto (tgt := 15) dX0_init_37 (by decide) ?_
  refine r_iload_n dX0_init_15 rfl ?_
  refine r_bipush (v := (8 : Int32)) dX0_init_16 (by decide) ?_
  refine r_icmp_ge (tgt := 40) dX0_init_18 (by decide) (fun c => absurd c (by decide)) (fun _ => ?_)
  refine r_aload_n dX0_init_21 rfl ?_
  refine k_get (k0 := 0) uX0 rfl dX0_init_22 wd_152 (by decide) rfl ?_
  refine r_iload_n dX0_init_25 rfl ?_
  refine k_new (ci := 6) (m := 50) tyX6 tyX6_ok uX6 rfl dX0_init_26 wd_149 wd_82 wd_46 dfX6_ok (Nat.le_of_ble_eq_true rfl) (Nat.le_of_ble_eq_true rfl) rfl ?_
  refine r_dup dX0_init_29 rfl ?_
  refine k_callIN (host := "RippleTank") (m := 50) (w := 8) (rest := [.ref (b + 50), .int (6 : Int32), .ref (b + 1)]) (ct_X6_init hs) dX0_init_30 (gN_of 151 (by decide +kernel) rfl) zX6_init wd_84 rfl rfl rfl rfl rfl ⟨(Nat.le_of_ble_eq_true rfl), (Nat.le_of_ble_eq_true rfl)⟩ (Nat.le_of_ble_eq_true rfl) ⟨(Nat.le_of_ble_eq_true rfl), (Nat.le_of_ble_eq_true rfl)⟩ rfl ?_
  refine k_aast (x := 0) (y := 49) 6 7 rfl dX0_init_33 rfl (Nat.le_of_ble_eq_true rfl) rfl rfl (vpc rfl) (by decide) ?_
  refine r_iincv (v := (7 : Int32)) dX0_init_34 rfl (by decide) (by decide) rfl ?_
  refine r_goto (tgt := 15) dX0_init_37 (by decide) ?_
  refine r_iload_n dX0_init_15 rfl ?_
  refine r_bipush (v := (8 : Int32)) dX0_init_16 (by decide) ?_
  refine r_icmp_ge (tgt := 40) dX0_init_18 (by decide) (fun c => absurd c (by decide)) (fun _ => ?_)
  refine r_aload_n dX0_init_21 rfl ?_
  refine k_get (k0 := 0) uX0 rfl dX0_init_22 wd_152 (by decide) rfl ?_
  refine r_iload_n dX0_init_25 rfl ?_
  refine k_new (ci := 6) (m := 58) tyX6 tyX6_ok uX6 rfl dX0_init_26 wd_149 wd_82 wd_46 dfX6_ok (Nat.le_of_ble_eq_true rfl) (Nat.le_of_ble_eq_true rfl) rfl ?_
  refine r_dup dX0_init_29 rfl ?_
  refine k_callIN (host := "RippleTank") (m := 58) (w := 8) (rest := [.ref (b + 58), .int (7 : Int32), .ref (b + 1)]) (ct_X6_init hs) dX0_init_30 (gN_of 151 (by decide +kernel) rfl) zX6_init wd_84 rfl rfl rfl rfl rfl ⟨(Nat.le_of_ble_eq_true rfl), (Nat.le_of_ble_eq_true rfl)⟩ (Nat.le_of_ble_eq_true rfl) ⟨(Nat.le_of_ble_eq_true rfl), (Nat.le_of_ble_eq_true rfl)⟩ rfl ?_
  refine k_aast (x := 0) (y := 57) 7 7 rfl dX0_init_33 rfl (Nat.le_of_ble_eq_true rfl) rfl rfl (vpc rfl) (by decide) ?_
  refine r_iincv (v := (8 : Int32)) dX0_init_34 rfl (by decide) (by decide) rfl ?_
  refine r_goto (tgt := 15) dX0_init_37 (by decide) ?_
  refine r_iload_n dX0_init_15 rfl ?_
  refine r_bipush (v := (8 : Int32)) dX0_init_16 (by decide) ?_
  refine r_icmp_ge (tgt := 40) dX0_init_18 (by decide) (fun _ => ?_) (fun c => absurd c (by decide))
  exact k_end (f1 := fA b f (eX0 G b)) (sz1 := b + 66) ⟨rfl, rfl, rfl⟩ dX0_init_40 rfl (Nat.le_of_ble_eq_true rfl) (Nat.le_of_ble_eq_true rfl) rfl rfl
