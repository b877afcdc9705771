/-- a state with one number another -/
def up (s : gP) (t : Nat) (v : Int32) : gP := fun i => if i = t then v else s i
theorem up_up (s : gP) (t : Nat) (c v : Int32) : up (up s t c) t v = up s t v := by
  funext i; unfold up
  by_cases h : i = t
  · rw [if_pos h, if_pos h]
  · rw [if_neg h, if_neg h, if_neg h]
theorem up_t (s : gP) (t : Nat) (v : Int32) : up s t v t = v := if_pos rfl
theorem up_o {s : gP} {t i : Nat} {v : Int32} (h : i ≠ t) : up s t v i = s i := if_neg h
theorem xor_all : ∀ a : Fin 1024, ∀ r : Fin 10, 0 ≤ (Int32.ofNat a.1 ^^^ ((1 : Int32) <<< (Int32.ofNat r.1 &&& 31))).toInt ∧ (Int32.ofNat a.1 ^^^ ((1 : Int32) <<< (Int32.ofNat r.1 &&& 31))).toInt < 1024 := by decide +kernel
theorem xor_b {v r : Int32} (h0 : 0 ≤ v.toInt ∧ v.toInt < 1024) (h1 : 0 ≤ r.toInt) (h2 : r.toInt < 10) : 0 ≤ (v ^^^ ((1 : Int32) <<< (r &&& 31))).toInt ∧ (v ^^^ ((1 : Int32) <<< (r &&& 31))).toInt < 1024 := by
  have := xor_all ⟨v.toInt.toNat, by omega⟩ ⟨r.toInt.toNat, by omega⟩
  rw [i_on h0.1, i_on h1] at this
  exact this
theorem e20 : ((2 : Int32) = 0) = False := by decide
theorem e30 : ((3 : Int32) = 0) = False := by decide
theorem bd_x {α β : Type} {x : Option α} {g : α → Option β} {r : β} (h : bd x g = some r) : ∃ a, x = some a ∧ g a = some r := by
  cases x with
  | none => cases h
  | some a => exact ⟨a, rfl, h⟩
section FACEF
variable {n T0 T1 : Nat} {I K : gI}
theorem SR.uon {I : gI} {a : Nat} {p s : gP} (h : SR I a p s) (h4 : (p 4).toInt ≤ 4) {k : Nat} (hk : k < 4) (v : Int32) (hv : v = 0 ∨ v = 1) : SR (sI I (a + 1) k v) a p (up s (2 + k) v) := by
  refine SR.mk ?_ ?_ ?_ ?_ ?_ ?_ ?_ ?_ ?_ ?_
  · rw [sI_o (by omega), up_o (by omega)]; exact h.t
  · rw [sI_o (by omega), up_o (by omega)]; exact h.op
  · intro i hi
    rw [sI_get]
    by_cases q : i = k
    · rw [if_pos ⟨rfl, q⟩]; exact hv
    · rw [if_neg (fun z => q z.2)]; exact h.b i hi
  · intro i hi
    rw [sI_get]
    by_cases q : i = k
    · rw [if_pos ⟨rfl, q⟩, q, up_t]
    · rw [if_neg (fun z => q z.2), up_o (by omega)]; exact h.on i hi
  · intro i hi; rw [sI_o (by omega), up_o (by omega)]; exact h.amp i hi
  · intro i hi; rw [sI_o (by omega), up_o (by omega)]; exact h.ph i hi
  · intro i hi; rw [sI_o (by omega), up_o (by omega)]; exact h.x i hi
  · intro i hi; rw [sI_o (by omega), up_o (by omega)]; exact h.y i hi
  · intro i hi; rw [sI_o (by omega), up_o (by omega)]; exact h.vx i hi
  · intro i hi; rw [sI_o (by omega), up_o (by omega)]; exact h.vy i hi
theorem SR.uamp {I : gI} {a : Nat} {p s : gP} (h : SR I a p s) (h4 : (p 4).toInt ≤ 4) {k : Nat} (hk : k < 4) (v : Int32) : SR (sI I (a + 2) k v) a p (up s (6 + k) v) := by
  refine SR.mk ?_ ?_ ?_ ?_ ?_ ?_ ?_ ?_ ?_ ?_
  · rw [sI_o (by omega), up_o (by omega)]; exact h.t
  · rw [sI_o (by omega), up_o (by omega)]; exact h.op
  · intro i hi; rw [sI_o (by omega)]; exact h.b i hi
  · intro i hi; rw [sI_o (by omega), up_o (by omega)]; exact h.on i hi
  · intro i hi
    rw [sI_get]
    by_cases q : i = k
    · rw [if_pos ⟨rfl, q⟩, q, up_t]
    · rw [if_neg (fun z => q z.2), up_o (by omega)]; exact h.amp i hi
  · intro i hi; rw [sI_o (by omega), up_o (by omega)]; exact h.ph i hi
  · intro i hi; rw [sI_o (by omega), up_o (by omega)]; exact h.x i hi
  · intro i hi; rw [sI_o (by omega), up_o (by omega)]; exact h.y i hi
  · intro i hi; rw [sI_o (by omega), up_o (by omega)]; exact h.vx i hi
  · intro i hi; rw [sI_o (by omega), up_o (by omega)]; exact h.vy i hi
theorem SR.uph {I : gI} {a : Nat} {p s : gP} (h : SR I a p s) (h4 : (p 4).toInt ≤ 4) {k : Nat} (hk : k < 4) (v : Int32) : SR (sI I (a + 3) k v) a p (up s (10 + k) v) := by
  refine SR.mk ?_ ?_ ?_ ?_ ?_ ?_ ?_ ?_ ?_ ?_
  · rw [sI_o (by omega), up_o (by omega)]; exact h.t
  · rw [sI_o (by omega), up_o (by omega)]; exact h.op
  · intro i hi; rw [sI_o (by omega)]; exact h.b i hi
  · intro i hi; rw [sI_o (by omega), up_o (by omega)]; exact h.on i hi
  · intro i hi; rw [sI_o (by omega), up_o (by omega)]; exact h.amp i hi
  · intro i hi
    rw [sI_get]
    by_cases q : i = k
    · rw [if_pos ⟨rfl, q⟩, q, up_t]
    · rw [if_neg (fun z => q z.2), up_o (by omega)]; exact h.ph i hi
  · intro i hi; rw [sI_o (by omega), up_o (by omega)]; exact h.x i hi
  · intro i hi; rw [sI_o (by omega), up_o (by omega)]; exact h.y i hi
  · intro i hi; rw [sI_o (by omega), up_o (by omega)]; exact h.vx i hi
  · intro i hi; rw [sI_o (by omega), up_o (by omega)]; exact h.vy i hi
theorem SR.ux {I : gI} {a : Nat} {p s : gP} (h : SR I a p s) (h4 : (p 4).toInt ≤ 4) {k : Nat} (hk : k < 4) (v : Int32) : SR (sI I (a + 4) k v) a p (up s (14 + k) v) := by
  refine SR.mk ?_ ?_ ?_ ?_ ?_ ?_ ?_ ?_ ?_ ?_
  · rw [sI_o (by omega), up_o (by omega)]; exact h.t
  · rw [sI_o (by omega), up_o (by omega)]; exact h.op
  · intro i hi; rw [sI_o (by omega)]; exact h.b i hi
  · intro i hi; rw [sI_o (by omega), up_o (by omega)]; exact h.on i hi
  · intro i hi; rw [sI_o (by omega), up_o (by omega)]; exact h.amp i hi
  · intro i hi; rw [sI_o (by omega), up_o (by omega)]; exact h.ph i hi
  · intro i hi
    rw [sI_get]
    by_cases q : i = k
    · rw [if_pos ⟨rfl, q⟩, q, up_t]
    · rw [if_neg (fun z => q z.2), up_o (by omega)]; exact h.x i hi
  · intro i hi; rw [sI_o (by omega), up_o (by omega)]; exact h.y i hi
  · intro i hi; rw [sI_o (by omega), up_o (by omega)]; exact h.vx i hi
  · intro i hi; rw [sI_o (by omega), up_o (by omega)]; exact h.vy i hi
theorem SR.uy {I : gI} {a : Nat} {p s : gP} (h : SR I a p s) (h4 : (p 4).toInt ≤ 4) {k : Nat} (hk : k < 4) (v : Int32) : SR (sI I (a + 5) k v) a p (up s (18 + k) v) := by
  refine SR.mk ?_ ?_ ?_ ?_ ?_ ?_ ?_ ?_ ?_ ?_
  · rw [sI_o (by omega), up_o (by omega)]; exact h.t
  · rw [sI_o (by omega), up_o (by omega)]; exact h.op
  · intro i hi; rw [sI_o (by omega)]; exact h.b i hi
  · intro i hi; rw [sI_o (by omega), up_o (by omega)]; exact h.on i hi
  · intro i hi; rw [sI_o (by omega), up_o (by omega)]; exact h.amp i hi
  · intro i hi; rw [sI_o (by omega), up_o (by omega)]; exact h.ph i hi
  · intro i hi; rw [sI_o (by omega), up_o (by omega)]; exact h.x i hi
  · intro i hi
    rw [sI_get]
    by_cases q : i = k
    · rw [if_pos ⟨rfl, q⟩, q, up_t]
    · rw [if_neg (fun z => q z.2), up_o (by omega)]; exact h.y i hi
  · intro i hi; rw [sI_o (by omega), up_o (by omega)]; exact h.vx i hi
  · intro i hi; rw [sI_o (by omega), up_o (by omega)]; exact h.vy i hi
theorem SR.uvx {I : gI} {a : Nat} {p s : gP} (h : SR I a p s) (h4 : (p 4).toInt ≤ 4) {k : Nat} (hk : k < 4) (v : Int32) : SR (sI I (a + 6) k v) a p (up s (22 + k) v) := by
  refine SR.mk ?_ ?_ ?_ ?_ ?_ ?_ ?_ ?_ ?_ ?_
  · rw [sI_o (by omega), up_o (by omega)]; exact h.t
  · rw [sI_o (by omega), up_o (by omega)]; exact h.op
  · intro i hi; rw [sI_o (by omega)]; exact h.b i hi
  · intro i hi; rw [sI_o (by omega), up_o (by omega)]; exact h.on i hi
  · intro i hi; rw [sI_o (by omega), up_o (by omega)]; exact h.amp i hi
  · intro i hi; rw [sI_o (by omega), up_o (by omega)]; exact h.ph i hi
  · intro i hi; rw [sI_o (by omega), up_o (by omega)]; exact h.x i hi
  · intro i hi; rw [sI_o (by omega), up_o (by omega)]; exact h.y i hi
  · intro i hi
    rw [sI_get]
    by_cases q : i = k
    · rw [if_pos ⟨rfl, q⟩, q, up_t]
    · rw [if_neg (fun z => q z.2), up_o (by omega)]; exact h.vx i hi
  · intro i hi; rw [sI_o (by omega), up_o (by omega)]; exact h.vy i hi
theorem SR.uvy {I : gI} {a : Nat} {p s : gP} (h : SR I a p s) (h4 : (p 4).toInt ≤ 4) {k : Nat} (hk : k < 4) (v : Int32) : SR (sI I (a + 7) k v) a p (up s (26 + k) v) := by
  refine SR.mk ?_ ?_ ?_ ?_ ?_ ?_ ?_ ?_ ?_ ?_
  · rw [sI_o (by omega), up_o (by omega)]; exact h.t
  · rw [sI_o (by omega), up_o (by omega)]; exact h.op
  · intro i hi; rw [sI_o (by omega)]; exact h.b i hi
  · intro i hi; rw [sI_o (by omega), up_o (by omega)]; exact h.on i hi
  · intro i hi; rw [sI_o (by omega), up_o (by omega)]; exact h.amp i hi
  · intro i hi; rw [sI_o (by omega), up_o (by omega)]; exact h.ph i hi
  · intro i hi; rw [sI_o (by omega), up_o (by omega)]; exact h.x i hi
  · intro i hi; rw [sI_o (by omega), up_o (by omega)]; exact h.y i hi
  · intro i hi; rw [sI_o (by omega), up_o (by omega)]; exact h.vx i hi
  · intro i hi
    rw [sI_get]
    by_cases q : i = k
    · rw [if_pos ⟨rfl, q⟩, q, up_t]
    · rw [if_neg (fun z => q z.2), up_o (by omega)]; exact h.vy i hi
theorem SR.uop {I : gI} {a : Nat} {p s : gP} (h : SR I a p s) (h4 : (p 4).toInt ≤ 4) (v : Int32) : SR (sI I a 1 v) a p (up s 1 v) := by
  refine SR.mk ?_ ?_ ?_ ?_ ?_ ?_ ?_ ?_ ?_ ?_
  · rw [sI_k (by decide), up_o (by decide)]; exact h.t
  · rw [sI_self, up_t]
  · intro i hi; rw [sI_o (by omega)]; exact h.b i hi
  · intro i hi; rw [sI_o (by omega), up_o (by omega)]; exact h.on i hi
  · intro i hi; rw [sI_o (by omega), up_o (by omega)]; exact h.amp i hi
  · intro i hi; rw [sI_o (by omega), up_o (by omega)]; exact h.ph i hi
  · intro i hi; rw [sI_o (by omega), up_o (by omega)]; exact h.x i hi
  · intro i hi; rw [sI_o (by omega), up_o (by omega)]; exact h.y i hi
  · intro i hi; rw [sI_o (by omega), up_o (by omega)]; exact h.vx i hi
  · intro i hi; rw [sI_o (by omega), up_o (by omega)]; exact h.vy i hi
theorem SR.ut {I : gI} {a : Nat} {p s : gP} (h : SR I a p s) (h4 : (p 4).toInt ≤ 4) (v : Int32) : SR (sI I a 0 v) a p (up s 0 v) := by
  refine SR.mk ?_ ?_ ?_ ?_ ?_ ?_ ?_ ?_ ?_ ?_
  · rw [sI_self, up_t]
  · rw [sI_k (by decide), up_o (by decide)]; exact h.op
  · intro i hi; rw [sI_o (by omega)]; exact h.b i hi
  · intro i hi; rw [sI_o (by omega), up_o (by omega)]; exact h.on i hi
  · intro i hi; rw [sI_o (by omega), up_o (by omega)]; exact h.amp i hi
  · intro i hi; rw [sI_o (by omega), up_o (by omega)]; exact h.ph i hi
  · intro i hi; rw [sI_o (by omega), up_o (by omega)]; exact h.x i hi
  · intro i hi; rw [sI_o (by omega), up_o (by omega)]; exact h.y i hi
  · intro i hi; rw [sI_o (by omega), up_o (by omega)]; exact h.vx i hi
  · intro i hi; rw [sI_o (by omega), up_o (by omega)]; exact h.vy i hi
theorem SV.u {p s : gP} (h : SV p s) (h4 : (p 4).toInt ≤ 4) {t : Nat} (ht : 10 ≤ t) (v : Int32) : SV p (up s t v) := by
  refine SV.mk ?_ ?_ ?_ ?_
  · rw [up_o (by omega)]; exact h.t
  · rw [up_o (by omega)]; exact h.o
  · intro i hi; rw [up_o (by omega)]; exact h.on i hi
  · intro i hi; rw [up_o (by omega)]; exact h.amp i hi
theorem SV.uop {p s : gP} (h : SV p s) (h4 : (p 4).toInt ≤ 4) {v : Int32} (hv : 0 ≤ v.toInt ∧ v.toInt < 1024) : SV p (up s 1 v) := by
  refine SV.mk ?_ ?_ ?_ ?_
  · rw [up_o (by omega)]; exact h.t
  · rw [up_t]; exact hv
  · intro i hi; rw [up_o (by omega)]; exact h.on i hi
  · intro i hi; rw [up_o (by omega)]; exact h.amp i hi
theorem SV.ut {p s : gP} (h : SV p s) (h4 : (p 4).toInt ≤ 4) {v : Int32} (hv : 0 ≤ v.toInt ∧ v.toInt ≤ 9999) : SV p (up s 0 v) := by
  refine SV.mk ?_ ?_ ?_ ?_
  · rw [up_t]; exact hv
  · rw [up_o (by omega)]; exact h.o
  · intro i hi; rw [up_o (by omega)]; exact h.on i hi
  · intro i hi; rw [up_o (by omega)]; exact h.amp i hi
theorem SV.uon {p s : gP} (h : SV p s) (h4 : (p 4).toInt ≤ 4) {k : Nat} (hk : k < 4) {v : Int32} (hv : v = 0 ∨ v = 1) : SV p (up s (2 + k) v) := by
  refine SV.mk ?_ ?_ ?_ ?_
  · rw [up_o (by omega)]; exact h.t
  · rw [up_o (by omega)]; exact h.o
  · intro i hi
    by_cases q : i = k
    · rw [q, up_t]; exact hv
    · rw [up_o (by omega)]; exact h.on i hi
  · intro i hi; rw [up_o (by omega)]; exact h.amp i hi
theorem SV.uamp {p s : gP} (h : SV p s) (h4 : (p 4).toInt ≤ 4) {k : Nat} (hk : k < 4) {v : Int32} (hv : 0 ≤ v.toInt ∧ v.toInt ≤ 999) : SV p (up s (6 + k) v) := by
  refine SV.mk ?_ ?_ ?_ ?_
  · rw [up_o (by omega)]; exact h.t
  · rw [up_o (by omega)]; exact h.o
  · intro i hi; rw [up_o (by omega)]; exact h.on i hi
  · intro i hi
    by_cases q : i = k
    · rw [q, up_t]; exact hv
    · rw [up_o (by omega)]; exact h.amp i hi
/-- an energy of a state tried, by both -/
theorem w_en (hn : 2000 ≤ n) {Kw : gI} {p s : gP} (hp : PV p) (C : CK I T0 10 p s) (V : SV p s) (h1 : ∀ i, Kw (153 + 2) i = p i) (h2 : ∀ i, i < 30 → Kw (153 + 6) i = s i) (tv : TV Kw) {x y m : Int32} (hx : xIn p x) (hy : yIn p y) (hm0 : 0 ≤ m.toInt) (hm : m.toInt ≤ 200) : ∃ E K2, F_X10_energyIn n (153 + 6) 30 Kw x y m = some (E, K2) ∧ F_X7_energyOf n T0 10 I x y m = some E ∧ Tq Kw K2 ∧ 0 ≤ E.toInt := by
  have h4 := hp.c.2
  have M : MK Kw (153 + 6) p (fun i => Kw (153 + 6) i) := MK.mk h1 (fun _ => rfl) tv (by decide)
  have V' : SV p (fun i => Kw (153 + 6) i) := V.s h4 h2
  have C' : CK I T0 10 p (fun i => Kw (153 + 6) i) := CK.mk C.tr (C.sr.s h4 h2) C.ru
  obtain ⟨K2, e, q⟩ := m_ener hn hp V' M hx hy hm0 hm
  exact ⟨_, K2, e, c_ener hn hp V' C' hx hy hm0 hm, q, (sEner_b hp V' x y hm).1⟩
theorem wk_mk {p s : gP} (M : MK K (153 + 4) p s) (t : Nat) (v : Int32) : (∀ i, wk K t v (153 + 2) i = p i) ∧ (∀ i, i < 30 → wk K t v (153 + 6) i = up s t v i) ∧ TV (wk K t v) ∧ MK (wk K t v) (153 + 4) p s := by
  have tv : TV (wk K t v) := M.tv.cg (fun i => wk_o (by decide)) (wk_o (by decide))
  refine ⟨fun i => by rw [wk_o (by decide)]; exact M.hp i, fun i hi => ?_, tv, MK.mk (fun i => by rw [wk_o (by decide)]; exact M.hp i) (fun i => by rw [wk_o (by decide)]; exact M.hs i) tv M.ho⟩
  rw [wk_t hi]; unfold up; rw [M.hs]
theorem e_bestPhase (hn : 2000 ≤ n) (R : Rel T0 T1 I K) (a1 a2 a3 a4 : Int32) : AG (F_X9_bestPhase n T0 T1 I a1 a2 a3 a4) (F_X10_bestPhase n K a1 a2 a3 a4) (fun v b => v.1 = b.1 ∧ Rel T0 T1 v.2 b.2 ∧ b.2 153 0 = 0) (fun E b => Tt K (thA E) b.2) := by
  rcases R.ld with ⟨h9, h10⟩ | ⟨h9, h10, L⟩
  · refine AG.er (E := ISE) (b := (0, sI K 153 0 1)) ?_ ?_ (Tt.r 1)
    · unfold F_X9_bestPhase; rw [n_tank0 h9]; rfl
    · unfold F_X10_bestPhase
      simp only [x_src, x_cel, x_run, bd_s]
      cases src (pl K) a1 <;> cases cel (pl K) a2 a3 <;> cases rng a4 1 40 <;> simp only [b2_tv, b2_fv, e10, if_true, if_false, bd_s, ask0 h10, askF0 h10]
  unfold F_X9_bestPhase F_X10_bestPhase
  simp only [n_tank1 h9, nt_s, n_src L, n_cel L, n_tim, nd_s, x_src, x_cel, x_run, bd_s]
  cases g0 : src (pl K) a1
  · refine AG.er (E := IOB) (b := (0, sI K 153 0 2)) ?_ ?_ (Tt.r 2)
    · rfl
    · cases cel (pl K) a2 a3 <;> cases rng a4 1 40 <;> simp only [b2_tv, b2_fv, e10, if_true, if_false, bd_s, ask2 h10, askF2 h10, askF3 h10]
  cases g1 : cel (pl K) a2 a3
  · refine AG.er (E := IOB) (b := (0, sI K 153 0 2)) ?_ ?_ (Tt.r 2)
    · rfl
    · cases rng a4 1 40 <;> simp only [b2_tv, b2_fv, e10, if_true, if_false, bd_s, ask2 h10, askF2 h10, askF3 h10]
  cases g2 : rng a4 1 40
  · refine AG.er (E := IAE) (b := (0, sI K 153 0 3)) ?_ ?_ (Tt.r 3)
    · rfl
    · simp only [b2_tv, b2_fv, e10, if_true, if_false, bd_s, ask2 h10, askF2 h10, askF3 h10]
  simp only [b2_tv, b2_fv, e10, if_true, if_false, bd_s, ask1 h10, askF1 h10]
  have M := L.mk' (Tt.r 0) R.tv
  have C := L.ck R.ru
  have h4 := rng_t.mp g2
  have c1 : (1 : Int32).toInt = 1 := rfl
  have c2 : (40 : Int32).toInt = 40 := rfl
  have h44 := L.pv.c.2
  have ht := R.tt
  have ec : F_X6_copyFrom n 10 2 I = some (cp I 10 2) := cp_s hn (by decide) L.sr.b
  have cir : ∀ o i, ¬ irI T1 o → cp I 10 2 o i = I o i := fun o i h => by
    unfold irI at h
    rw [cp_o _ _ _ _ _ (by omega)]
  have kir : ∀ o i, ¬ irK o i → sI K 153 0 0 o i = K o i := fun o i h => by
    unfold irK at h
    rw [sI_get, if_neg (by omega)]
  obtain ⟨k, hk, hk4, rfl⟩ := src_k L.pv g0
  obtain ⟨hx, hy⟩ := (cel_t L.pv).mp g1
  rw [ec]
  have key : ∀ (d c j : Nat) (b : Int32) (g : Int64) (w : Int32) (I1 K1 : gI), MK K1 (153 + 4) (pl K) (st K) → SR I1 10 (pl K) (up (st K) (10 + k) w) → (∀ o i, ¬ irI T1 o → I1 o i = I o i) → (∀ o i, ¬ irK o i → K1 o i = K o i) → K1 153 0 = 0 → c + d = 24 → d < j → ∃ v I' K', L_X9_bestPhase n T0 T1 (Int32.ofNat k) a2 a3 a4 j 0 b g (Int32.ofNat (15 * c)) I1 = some (.inr (v, I')) ∧ L_X10_bestPhase n (Int32.ofNat k) a2 a3 a4 j 0 b g (Int32.ofNat (15 * c)) K1 = some (v, K') ∧ Rel T0 T1 I' K' ∧ K' 153 0 = 0 := by
    intro d
    induction d with
    | zero =>
      intro c j b g w I1 K1 M1 S1 hI hK h0 hc hj
      obtain ⟨j, rfl⟩ : ∃ i, j = i + 1 := ⟨j - 1, by omega⟩
      obtain rfl : c = 24 := by omega
      refine ⟨b, I1, K1, ?_, ?_, R.cg hI hK M1.tv S1.b, h0⟩
      · rw [L_X9_bestPhase_e0, if_pos (by decide)]
      · rw [L_X10_bestPhase_e0, if_pos (by decide)]
    | succ d ih =>
      intro c j b g w I1 K1 M1 S1 hI hK h0 hc hj
      obtain ⟨j, rfl⟩ : ∃ i, j = i + 1 := ⟨j - 1, by omega⟩
      have W := wk_mk M1 (10 + k) (Int32.ofNat (15 * c))
      have S2 := SR.uph S1 h44 hk4 (Int32.ofNat (15 * c))
      rw [up_up] at S2
      have hI2 : ∀ o i, ¬ irI T1 o → sI I1 (10 + 3) k (Int32.ofNat (15 * c)) o i = I o i := fun o i h => by
        rw [sI_o (by unfold irI at h; omega)]; exact hI o i h
      have C2 : CK (sI I1 (10 + 3) k (Int32.ofNat (15 * c))) T0 10 (pl K) (up (st K) (10 + k) (Int32.ofNat (15 * c))) := CK.mk (L.ir ht hI2).tr S2 (R.ru.ir (T1 := T1) (by omega) hI2)
      obtain ⟨E, K2, e10, e9, q, _⟩ := w_en hn L.pv C2 (L.sv.u h44 (by omega) _) W.1 W.2.1 W.2.2.1 hx hy (m := a4) (by omega) (by omega)
      have hK2 : ∀ o i, ¬ irK o i → K2 o i = K o i := fun o i h => by
        rw [q.get (by unfold irK at h; omega) (by unfold irK at h; omega), wk_o (by unfold irK at h; omega)]; exact hK o i h
      have h02 : K2 153 0 = 0 := by rw [q.get (by decide) (by decide), wk_o (by decide)]; exact h0
      have M2 := W.2.2.2.tq q
      have hna : ¬ ((360 : Int32) ≤ Int32.ofNat (15 * c)) := by rw [show (360 : Int32) = Int32.ofNat 360 from rfl, i_ole (by omega) (by omega)]; omega
      have e15 : Int32.ofNat (15 * c) + (15 : Int32) = Int32.ofNat (15 * (c + 1)) := by rw [show (15 : Int32) = Int32.ofNat 15 from rfl, i_oadd, Nat.mul_succ]
      rw [L_X9_bestPhase_e0, if_neg hna, gv_o hk4, i_tno (by omega), e9, bd_s, e15, L_X10_bestPhase_e0, if_neg hna, ix_10, wk_s hn _ (by omega), bd_s, e10, bd_s, e15]
      dsimp only
      by_cases hb : b = -1
      · rw [if_pos hb, if_pos hb]
        exact ih (c + 1) j _ E _ _ K2 M2 S2 hI2 hK2 h02 (by omega) (by omega)
      · rw [if_neg hb, if_neg hb]
        by_cases hg : 0 ≤ lg_cmp E g
        · rw [if_pos hg, if_neg (by rw [i_lt]; rw [i_le] at hg; omega)]
          exact ih (c + 1) j b g _ _ K2 M2 S2 hI2 hK2 h02 (by omega) (by omega)
        · rw [if_neg hg, if_pos (by rw [i_lt]; rw [i_le] at hg; omega)]
          exact ih (c + 1) j _ E _ _ K2 M2 S2 hI2 hK2 h02 (by omega) (by omega)
  have S0 := cp_SR (a := 10) L.sr h44 (by decide)
  have S0' : SR (cp I 10 2) 10 (pl K) (up (st K) (10 + k) (st K (10 + k))) := by
    have : up (st K) (10 + k) (st K (10 + k)) = st K := by
      funext i; unfold up
      by_cases h : i = 10 + k
      · rw [if_pos h, h]
      · rw [if_neg h]
    rw [this]; exact S0
  obtain ⟨v, I', K', e1, e2, r1, r2⟩ := key 24 0 n (-1) 0 _ _ _ M S0' cir kir (sI_self _ _ _ _) (by omega) (by omega)
  exact AG.ok e1 e2 ⟨rfl, r1, r2⟩
theorem e_bestPlace (hn : 2000 ≤ n) (R : Rel T0 T1 I K) (a1 a2 a3 a4 : Int32) : AG (F_X9_bestPlace n T0 T1 I a1 a2 a3 a4) (F_X10_bestPlace n K a1 a2 a3 a4) (fun v b => v.1 = b.1 ∧ Rel T0 T1 v.2 b.2 ∧ b.2 153 0 = 0) (fun E b => Tt K (thA E) b.2) := by
  rcases R.ld with ⟨h9, h10⟩ | ⟨h9, h10, L⟩
  · refine AG.er (E := ISE) (b := (0, sI K 153 0 1)) ?_ ?_ (Tt.r 1)
    · unfold F_X9_bestPlace; rw [n_tank0 h9]; rfl
    · unfold F_X10_bestPlace
      simp only [x_src, x_cel, x_run, bd_s]
      cases src (pl K) a1 <;> cases cel (pl K) a2 a3 <;> cases rng a4 1 40 <;> simp only [b2_tv, b2_fv, e10, if_true, if_false, bd_s, ask0 h10, askF0 h10]
  unfold F_X9_bestPlace F_X10_bestPlace
  simp only [n_tank1 h9, nt_s, n_src L, n_cel L, n_tim, nd_s, x_src, x_cel, x_run, bd_s]
  cases g0 : src (pl K) a1
  · refine AG.er (E := IOB) (b := (0, sI K 153 0 2)) ?_ ?_ (Tt.r 2)
    · rfl
    · cases cel (pl K) a2 a3 <;> cases rng a4 1 40 <;> simp only [b2_tv, b2_fv, e10, if_true, if_false, bd_s, ask2 h10, askF2 h10, askF3 h10]
  cases g1 : cel (pl K) a2 a3
  · refine AG.er (E := IOB) (b := (0, sI K 153 0 2)) ?_ ?_ (Tt.r 2)
    · rfl
    · cases rng a4 1 40 <;> simp only [b2_tv, b2_fv, e10, if_true, if_false, bd_s, ask2 h10, askF2 h10, askF3 h10]
  cases g2 : rng a4 1 40
  · refine AG.er (E := IAE) (b := (0, sI K 153 0 3)) ?_ ?_ (Tt.r 3)
    · rfl
    · simp only [b2_tv, b2_fv, e10, if_true, if_false, bd_s, ask2 h10, askF2 h10, askF3 h10]
  simp only [b2_tv, b2_fv, e10, if_true, if_false, bd_s, ask1 h10, askF1 h10]
  have M := L.mk' (Tt.r 0) R.tv
  have C := L.ck R.ru
  have h4 := rng_t.mp g2
  have c1 : (1 : Int32).toInt = 1 := rfl
  have c2 : (40 : Int32).toInt = 40 := rfl
  have h44 := L.pv.c.2
  have ht := R.tt
  have ec : F_X6_copyFrom n 10 2 I = some (cp I 10 2) := cp_s hn (by decide) L.sr.b
  have cir : ∀ o i, ¬ irI T1 o → cp I 10 2 o i = I o i := fun o i h => by
    unfold irI at h
    rw [cp_o _ _ _ _ _ (by omega)]
  have kir : ∀ o i, ¬ irK o i → sI K 153 0 0 o i = K o i := fun o i h => by
    unfold irK at h
    rw [sI_get, if_neg (by omega)]
  obtain ⟨k, hk, hk4, rfl⟩ := src_k L.pv g0
  obtain ⟨hx, hy⟩ := (cel_t L.pv).mp g1
  have hN := nC_b L.pv
  rw [ec]
  have key : ∀ (d c j : Nat) (b : Int32) (g : Int64) (w1 w2 : Int32) (I1 K1 : gI), MK K1 (153 + 4) (pl K) (st K) → SR I1 10 (pl K) (up (up (st K) (14 + k) w1) (18 + k) w2) → (∀ o i, ¬ irI T1 o → I1 o i = I o i) → (∀ o i, ¬ irK o i → K1 o i = K o i) → K1 153 0 = 0 → c + d = nC (pl K) → d < j → ∃ v I' K', L_X9_bestPlace n T0 T1 (Int32.ofNat k) a2 a3 a4 j 0 b g (Int32.ofNat c) I1 = some (.inr (v, I')) ∧ L_X10_bestPlace n (Int32.ofNat k) a2 a3 a4 j 0 b g (Int32.ofNat c) K1 = some (v, K') ∧ Rel T0 T1 I' K' ∧ K' 153 0 = 0 := by
    intro d
    induction d with
    | zero =>
      intro c j b g w1 w2 I1 K1 M1 S1 hI hK h0 hc hj
      obtain ⟨j, rfl⟩ : ∃ i, j = i + 1 := ⟨j - 1, by omega⟩
      have C1 : CK I1 T0 10 (pl K) _ := CK.mk (L.ir ht hI).tr S1 (R.ru.ir (T1 := T1) (by omega) hI)
      refine ⟨b, I1, K1, ?_, ?_, R.cg hI hK M1.tv S1.b, h0⟩
      · rw [L_X9_bestPlace_e0, c_cells L.pv C1, bd_s, if_pos (by rw [i_ole (by omega) (by omega)]; omega)]
      · rw [L_X10_bestPlace_e0, m_cells L.pv M1, bd_s, if_pos (by rw [i_ole (by omega) (by omega)]; omega)]
    | succ d ih =>
      intro c j b g w1 w2 I1 K1 M1 S1 hI hK h0 hc hj
      obtain ⟨j, rfl⟩ : ∃ i, j = i + 1 := ⟨j - 1, by omega⟩
      have C1 : CK I1 T0 10 (pl K) _ := CK.mk (L.ir ht hI).tr S1 (R.ru.ir (T1 := T1) (by omega) hI)
      have cx := cell_x L.pv (k := c) (by unfold nC at hc; omega)
      obtain ⟨X, hX⟩ : ∃ X, X = Int32.ofNat (c % (pl K 0).toInt.toNat) := ⟨_, rfl⟩
      obtain ⟨Y, hY⟩ : ∃ Y, Y = Int32.ofNat (c / (pl K 0).toInt.toNat) := ⟨_, rfl⟩
      rw [← hX, ← hY] at cx
      have W := wk_mk M1 (14 + k) X
      have S2 := SR.uy (SR.ux S1 h44 hk4 X) h44 hk4 Y
      have eu : up (up (up (up (st K) (14 + k) w1) (18 + k) w2) (14 + k) X) (18 + k) Y = up (up (st K) (14 + k) X) (18 + k) Y := by
        funext i
        by_cases h1 : i = 18 + k
        · rw [h1, up_t, up_t]
        · rw [up_o h1, up_o h1]
          by_cases h2 : i = 14 + k
          · rw [h2, up_t, up_t]
          · rw [up_o h2, up_o h2, up_o h1, up_o h2]
      rw [eu] at S2
      have hI2 : ∀ o i, ¬ irI T1 o → sI (sI I1 (10 + 4) k X) (10 + 5) k Y o i = I o i := fun o i h => by
        rw [sI_o (by unfold irI at h; omega), sI_o (by unfold irI at h; omega)]; exact hI o i h
      have C2 : CK (sI (sI I1 (10 + 4) k X) (10 + 5) k Y) T0 10 (pl K) (up (up (st K) (14 + k) X) (18 + k) Y) := CK.mk (L.ir ht hI2).tr S2 (R.ru.ir (T1 := T1) (by omega) hI2)
      have tw : TV (sI (wk K1 (14 + k) X) (153 + 6) (18 + k) Y) := W.2.2.1.up (by decide) (Or.inl (by decide))
      obtain ⟨E, K2, e10, e9, q, _⟩ := w_en (Kw := sI (wk K1 (14 + k) X) (153 + 6) (18 + k) Y) hn L.pv C2 ((L.sv.u h44 (by omega) _).u h44 (by omega) _) (fun i => by rw [sI_o (by decide)]; exact W.1 i) (fun i hi => by
        rw [sI_get]
        by_cases h1 : i = 18 + k
        · rw [if_pos ⟨rfl, h1⟩, h1, up_t]
        · rw [if_neg (fun q => h1 q.2), up_o h1]; exact W.2.1 i hi) tw hx hy (m := a4) (by omega) (by omega)
      have hK2 : ∀ o i, ¬ irK o i → K2 o i = K o i := fun o i h => by
        rw [q.get (by unfold irK at h; omega) (by unfold irK at h; omega), sI_o (by unfold irK at h; omega), wk_o (by unfold irK at h; omega)]; exact hK o i h
      have h02 : K2 153 0 = 0 := by rw [q.get (by decide) (by decide), sI_o (by decide), wk_o (by decide)]; exact h0
      have M2 : MK K2 (153 + 4) (pl K) (st K) := MK.tq (MK.mk (fun i => by rw [sI_o (by decide)]; exact W.2.2.2.hp i) (fun i => by rw [sI_o (by decide)]; exact W.2.2.2.hs i) tw ⟨by decide, by decide⟩) q
      have hna : ¬ (Int32.ofNat (nC (pl K)) ≤ Int32.ofNat c) := by rw [i_ole (by omega) (by omega)]; omega
      have w0 : I1 T0 1 = pl K 0 := C1.tr.w
      have w1' : sI I1 (10 + 4) k X T0 1 = pl K 0 := by rw [sI_o (by omega)]; exact w0
      have w2' : wk K1 (14 + k) X (153 + 2) 0 = pl K 0 := W.1 0
      rw [L_X9_bestPlace_e0, c_cells L.pv C1, bd_s, if_neg hna, w0, gd_t cx.1, gv_o hk4, i_tno (by omega), cx.2.2.2.2.1, w1', gd_t cx.1, gv_o hk4, cx.2.2.2.2.2, e9, bd_s, ixp_1]
      rw [L_X10_bestPlace_e0, m_cells L.pv M1, bd_s, if_neg hna, M1.hp, gd_t cx.1, cx.2.2.2.2.1, ix_14, wk_s hn _ (by omega), bd_s, w2', gd_t cx.1, ix_18, gv_o (by omega), i_tno (by omega), cx.2.2.2.2.2, e10, bd_s, ixp_1]
      dsimp only
      by_cases hb : b = -1
      · rw [if_pos hb, if_pos hb]
        exact ih (c + 1) j _ E _ _ _ K2 M2 S2 hI2 hK2 h02 (by omega) (by omega)
      · rw [if_neg hb, if_neg hb]
        by_cases hg : 0 ≤ lg_cmp E g
        · rw [if_pos hg, if_neg (by rw [i_lt]; rw [i_le] at hg; omega)]
          exact ih (c + 1) j b g _ _ _ K2 M2 S2 hI2 hK2 h02 (by omega) (by omega)
        · rw [if_neg hg, if_pos (by rw [i_lt]; rw [i_le] at hg; omega)]
          exact ih (c + 1) j _ E _ _ _ K2 M2 S2 hI2 hK2 h02 (by omega) (by omega)
  have S0 := cp_SR (a := 10) L.sr h44 (by decide)
  have S0' : SR (cp I 10 2) 10 (pl K) (up (up (st K) (14 + k) (st K (14 + k))) (18 + k) (st K (18 + k))) := by
    have : up (up (st K) (14 + k) (st K (14 + k))) (18 + k) (st K (18 + k)) = st K := by
      funext i
      by_cases h1 : i = 18 + k
      · rw [h1, up_t]
      · rw [up_o h1]
        by_cases h2 : i = 14 + k
        · rw [h2, up_t]
        · rw [up_o h2]
    rw [this]; exact S0
  obtain ⟨v, I', K', e1, e2, r1, r2⟩ := key (nC (pl K)) 0 n (-1) 0 _ _ _ _ M S0' cir kir (sI_self _ _ _ _) (by omega) (by omega)
  exact AG.ok e1 e2 ⟨rfl, r1, r2⟩
/-- the energy of a row turned, by both -/
theorem t_en (hn : 2000 ≤ n) {K1 : gI} (R : Rel T0 T1 I K) (L : LD T0 I K) (I1 : gI) (hI : ∀ o i, ¬ irI T1 o → I1 o i = I o i) (M1 : MK K1 (153 + 4) (pl K) (st K)) {x y m r : Int32} (hx : xIn (pl K) x) (hy : yIn (pl K) y) (hr : yIn (pl K) r) (hm0 : 0 ≤ m.toInt) (hm : m.toInt ≤ 200) (hw : pl K 3 ≠ -1) : ∃ E I' K', F_X9_turnedEnergy n T0 T1 I1 x y r m = some (E, I') ∧ F_X10_turnedEnergy n K1 x y r m = some (E, K') ∧ (∀ o i, ¬ irI T1 o → I' o i = I o i) ∧ (∀ o i, ¬ irK o i → K' o i = K1 o i) ∧ K' 153 0 = K1 153 0 ∧ MK K' (153 + 4) (pl K) (st K) ∧ 0 ≤ E.toInt ∧ (∀ k, k < 4 → I' (10 + 1) k = 0 ∨ I' (10 + 1) k = 1) := by
  have h44 := L.pv.c.2
  have ht := R.tt
  have hh := L.pv.h
  have L1 : LD T0 I1 K := L.ir ht hI
  have ec : F_X6_copyFrom n 10 2 I1 = some (cp I1 10 2) := cp_s hn (by decide) L1.sr.b
  have hI2 : ∀ o i, ¬ irI T1 o → sI (cp I1 10 2) 10 1 (st K 1 ^^^ ((1 : Int32) <<< (r &&& 31))) o i = I o i := fun o i h => by
    rw [sI_o (by unfold irI at h; omega), cp_o _ _ _ _ _ (by unfold irI at h; omega)]; exact hI o i h
  have S2 := SR.uop (cp_SR (a := 10) L1.sr h44 (by decide)) h44 (st K 1 ^^^ ((1 : Int32) <<< (r &&& 31)))
  have C2 : CK (sI (cp I1 10 2) 10 1 (st K 1 ^^^ ((1 : Int32) <<< (r &&& 31)))) T0 10 (pl K) (up (st K) 1 (st K 1 ^^^ ((1 : Int32) <<< (r &&& 31)))) := CK.mk (L.ir ht hI2).tr S2 (R.ru.ir (T1 := T1) (by omega) hI2)
  have W := wk_mk M1 1 (st K 1 ^^^ ((1 : Int32) <<< (r &&& 31)))
  have V2 := L.sv.uop h44 (xor_b L.sv.o hr.1 (by unfold yIn at hr; omega))
  obtain ⟨E, K2, e10, e9, q, hE⟩ := w_en hn L.pv C2 V2 W.1 W.2.1 W.2.2.1 hx hy hm0 hm
  refine ⟨E, _, K2, ?_, ?_, hI2, fun o i h => ?_, ?_, W.2.2.2.tq q, hE, S2.b⟩
  · unfold F_X9_turnedEnergy F_X6_turn
    rw [L1.tr.wl, if_neg hw, ec, bd_s, bd_s, cp_1, L1.sr.op, e9, bd_s]
  · unfold F_X10_turnedEnergy
    rw [M1.hs, show (1 : Int32) = Int32.ofNat 1 from rfl, wk_s hn _ (by omega), bd_s]
    rw [show (Int32.ofNat 1) = (1 : Int32) from rfl, e10, bd_s]
  · rw [q.get (by unfold irK at h; omega) (by unfold irK at h; omega), wk_o (by unfold irK at h; omega)]
  · rw [q.get (by decide) (by decide), wk_o (by decide)]
theorem e_energyIfTurned (hn : 2000 ≤ n) (R : Rel T0 T1 I K) (a1 a2 a3 a4 : Int32) : AG (F_X9_energyIfTurned n T0 T1 I a1 a2 a3 a4) (F_X10_energyIfTurned n K a1 a2 a3 a4) (fun v b => v.1 = b.1 ∧ Rel T0 T1 v.2 b.2 ∧ b.2 153 0 = 0) (fun E b => Tt K (thA E) b.2) := by
  rcases R.ld with ⟨h9, h10⟩ | ⟨h9, h10, L⟩
  · refine AG.er (E := ISE) (b := (0, sI K 153 0 1)) ?_ ?_ (Tt.r 1)
    · unfold F_X9_energyIfTurned; rw [n_tank0 h9]; rfl
    · unfold F_X10_energyIfTurned
      simp only [x_cel, x_row, x_run, bd_s]
      cases cel (pl K) a1 a2 <;> cases row (pl K) a3 <;> cases rng a4 1 40 <;> simp only [b2_tv, b2_fv, e10, if_true, if_false, bd_s, ask0 h10, askF0 h10]
  unfold F_X9_energyIfTurned F_X10_energyIfTurned
  simp only [n_tank1 h9, nt_s, n_cel L, n_row L, n_tim, nd_s, x_cel, x_row, x_run, bd_s]
  cases g0 : cel (pl K) a1 a2
  · refine AG.er (E := IOB) (b := (0, sI K 153 0 2)) ?_ ?_ (Tt.r 2)
    · rfl
    · cases row (pl K) a3 <;> cases rng a4 1 40 <;> simp only [b2_tv, b2_fv, e10, if_true, if_false, bd_s, ask2 h10, askF2 h10, askF3 h10]
  cases g1 : row (pl K) a3
  · refine AG.er (E := IOB) (b := (0, sI K 153 0 2)) ?_ ?_ (Tt.r 2)
    · rfl
    · cases rng a4 1 40 <;> simp only [b2_tv, b2_fv, e10, if_true, if_false, bd_s, ask2 h10, askF2 h10, askF3 h10]
  cases g2 : rng a4 1 40
  · refine AG.er (E := IAE) (b := (0, sI K 153 0 3)) ?_ ?_ (Tt.r 3)
    · rfl
    · simp only [b2_tv, b2_fv, e10, if_true, if_false, bd_s, ask2 h10, askF2 h10, askF3 h10]
  simp only [b2_tv, b2_fv, e10, if_true, if_false, bd_s, ask1 h10, askF1 h10]
  have M := L.mk' (Tt.r 0) R.tv
  have C := L.ck R.ru
  have h4 := rng_t.mp g2
  have c1 : (1 : Int32).toInt = 1 := rfl
  have c2 : (40 : Int32).toInt = 40 := rfl
  obtain ⟨hx, hy⟩ := (cel_t L.pv).mp g0
  have hr := (row_t L.pv).mp g1
  rw [m_wall M]
  simp only [bd_s]
  by_cases hw : pl K 3 = -1
  · have e9 : F_X9_turnedEnergy n T0 T1 I a1 a2 a3 a4 = some (-1, I) := by
      unfold F_X9_turnedEnergy
      rw [L.tr.wl, if_pos hw]
    rw [e9, if_pos (by rw [hw]; decide)]
    exact AG.ok rfl rfl ⟨rfl, R.tt' (Tt.r 0), (Tt.r (K := K) 0).t⟩
  · obtain ⟨E, I', K', e9, e10, h1, h2, h3, h5, _, tb⟩ := t_en hn R L I (fun _ _ _ => rfl) M hx hy hr (m := a4) (by omega) (by omega) hw
    rw [e9, if_neg (by rw [b2_0]; simp [hw]), e10]
    refine AG.ok rfl rfl ⟨rfl, R.cg h1 (fun o i h => ?_) h5.tv tb, ?_⟩
    · dsimp only
      rw [h2 o i h, sI_get, if_neg (by unfold irK at h; omega)]
    · dsimp only
      rw [h3, sI_self]
theorem e_bestRow (hn : 2000 ≤ n) (R : Rel T0 T1 I K) (a1 a2 a3 : Int32) : AG (F_X9_bestRow n T0 T1 I a1 a2 a3) (F_X10_bestRow n K a1 a2 a3) (fun v b => v.1 = b.1 ∧ Rel T0 T1 v.2 b.2 ∧ b.2 153 0 = 0) (fun E b => Tt K (thA E) b.2) := by
  rcases R.ld with ⟨h9, h10⟩ | ⟨h9, h10, L⟩
  · refine AG.er (E := ISE) (b := (0, sI K 153 0 1)) ?_ ?_ (Tt.r 1)
    · unfold F_X9_bestRow; rw [n_tank0 h9]; rfl
    · unfold F_X10_bestRow
      simp only [x_cel, x_run, bd_s]
      cases cel (pl K) a1 a2 <;> cases rng a3 1 40 <;> simp only [b2_tv, b2_fv, e10, if_true, if_false, bd_s, ask0 h10, askF0 h10, sI_self, e20, e30]
  unfold F_X9_bestRow F_X10_bestRow
  simp only [n_tank1 h9, nt_s, n_cel L, n_tim, nd_s, x_cel, x_run, bd_s]
  cases g0 : cel (pl K) a1 a2
  · refine AG.er (E := IOB) (b := (0, sI K 153 0 2)) ?_ ?_ (Tt.r 2)
    · rfl
    · cases rng a3 1 40 <;> simp only [b2_tv, b2_fv, e10, if_true, if_false, bd_s, ask2 h10, askF2 h10, askF3 h10, sI_self, e20, e30]
  cases g1 : rng a3 1 40
  · refine AG.er (E := IAE) (b := (0, sI K 153 0 3)) ?_ ?_ (Tt.r 3)
    · rfl
    · simp only [b2_tv, b2_fv, e10, if_true, if_false, bd_s, ask2 h10, askF2 h10, askF3 h10, sI_self, e20, e30]
  simp only [b2_tv, b2_fv, e10, if_true, if_false, bd_s, ask1 h10, askF1 h10]
  have M := L.mk' (Tt.r 0) R.tv
  have C := L.ck R.ru
  have h4 := rng_t.mp g1
  have c1 : (1 : Int32).toInt = 1 := rfl
  have c2 : (40 : Int32).toInt = 40 := rfl
  have hh := L.pv.h
  obtain ⟨hx, hy⟩ := (cel_t L.pv).mp g0
  rw [m_wall M]
  simp only [bd_s]
  by_cases hw : pl K 3 = -1
  · have e9 : ∀ r, F_X9_turnedEnergy n T0 T1 I a1 a2 r a3 = some (-1, I) := fun r => by
      unfold F_X9_turnedEnergy
      rw [L.tr.wl, if_pos hw]
    have key : ∀ (d c j : Nat), c + d = (pl K 1).toInt.toNat → d < j → L_X9_bestRow n T0 T1 a1 a2 a3 j 0 (-1) (-1) (Int32.ofNat c) I = some (.inr (-1, I)) := by
      intro d
      induction d with
      | zero =>
        intro c j hc hj
        obtain ⟨j, rfl⟩ : ∃ i, j = i + 1 := ⟨j - 1, by omega⟩
        rw [L_X9_bestRow_e0, L.tr.h, if_pos (by rw [i_le, i_of (by omega)]; omega)]
      | succ d ih =>
        intro c j hc hj
        obtain ⟨j, rfl⟩ : ∃ i, j = i + 1 := ⟨j - 1, by omega⟩
        rw [L_X9_bestRow_e0, L.tr.h, if_neg (by rw [i_le, i_of (by omega)]; omega), e9, bd_s, if_pos (show lg_cmp ((-1 : Int64), I).1 (-1) ≤ 0 from (by decide : lg_cmp (-1) (-1) ≤ 0)), ixp_1]
        exact ih (c + 1) j (by omega) (by omega)
    have k0 := key (pl K 1).toInt.toNat 0 n (by omega) (by omega)
    rw [if_pos (by rw [hw]; decide), sI_self, if_pos rfl]
    exact AG.ok k0 rfl ⟨rfl, R.tt' (Tt.r 0), (Tt.r (K := K) 0).t⟩
  · rw [if_neg (by rw [b2_0]; simp [hw])]
    have hro : ∀ r : Nat, r < (pl K 1).toInt.toNat → yIn (pl K) (Int32.ofNat r) := fun r h => by unfold yIn; rw [i_of (by omega)]; omega
    have key : ∀ (d c j : Nat) (b : Int32) (g : Int64) (I1 K1 : gI), (∀ o i, ¬ irI T1 o → I1 o i = I o i) → (∀ o i, ¬ irK o i → K1 o i = K o i) → K1 153 0 = 0 → MK K1 (153 + 4) (pl K) (st K) → (∀ k, k < 4 → I1 (10 + 1) k = 0 ∨ I1 (10 + 1) k = 1) → c + d = (pl K 1).toInt.toNat → d < j → ∃ v I' K', L_X9_bestRow n T0 T1 a1 a2 a3 j 0 b g (Int32.ofNat c) I1 = some (.inr (v, I')) ∧ L_X10_bestRow n a1 a2 a3 j 0 b g (Int32.ofNat c) K1 = some (v, K') ∧ Rel T0 T1 I' K' ∧ K' 153 0 = 0 := by
      intro d
      induction d with
      | zero =>
        intro c j b g I1 K1 hI hK h0 M1 tb hc hj
        obtain ⟨j, rfl⟩ : ∃ i, j = i + 1 := ⟨j - 1, by omega⟩
        refine ⟨b, I1, K1, ?_, ?_, R.cg hI hK M1.tv tb, h0⟩
        · rw [L_X9_bestRow_e0, (L.ir R.tt hI).tr.h, if_pos (by rw [i_le, i_of (by omega)]; omega)]
        · rw [L_X10_bestRow_e0, M1.hp, if_pos (by rw [i_le, i_of (by omega)]; omega)]
      | succ d ih =>
        intro c j b g I1 K1 hI hK h0 M1 tb hc hj
        obtain ⟨j, rfl⟩ : ∃ i, j = i + 1 := ⟨j - 1, by omega⟩
        obtain ⟨E, I2, K2, e9, e10, h1, h2, h3, h5, _, tb2⟩ := t_en hn R L I1 hI M1 hx hy (hro c (by omega)) (m := a3) (by omega) (by omega) hw
        have hna : ¬ (pl K 1 ≤ Int32.ofNat c) := by rw [i_le, i_of (by omega)]; omega
        have IH := fun b g => ih (c + 1) j b g I2 K2 h1 (fun o i h => (h2 o i h).trans (hK o i h)) (h3.trans h0) h5 tb2 (by omega) (by omega)
        rw [L_X9_bestRow_e0, (L.ir R.tt hI).tr.h, if_neg hna, e9, bd_s, ixp_1, L_X10_bestRow_e0, M1.hp, if_neg hna, e10, bd_s, ixp_1]
        dsimp only
        by_cases hg : lg_cmp E g ≤ 0
        · rw [if_pos hg, if_neg (by rw [i_lt]; rw [i_le] at hg; omega)]; exact IH b g
        · rw [if_neg hg, if_pos (by rw [i_lt]; rw [i_le] at hg; omega)]; exact IH _ E
    obtain ⟨E, I2, K2, e9, e10, h1, h2, h3, h5, hE, tb2⟩ := t_en hn R L I (fun _ _ _ => rfl) M hx hy (hro 0 (by omega)) (m := a3) (by omega) (by omega) hw
    have z0 : Int32.ofNat 0 = 0 := rfl
    rw [z0] at e9 e10
    have kir : ∀ o i, ¬ irK o i → K2 o i = K o i := fun o i h => by
      rw [h2 o i h, sI_get, if_neg (by unfold irK at h; omega)]
    obtain ⟨v, I', K', f9, f10, r1, r2⟩ := key ((pl K 1).toInt.toNat - 1) 1 (n - 1) 0 E I2 K2 h1 kir (by rw [h3, sI_self]) h5 tb2 (by omega) (by omega)
    have f9' : L_X9_bestRow n T0 T1 a1 a2 a3 n 0 (-1) (-1) 0 I = some (.inr (v, I')) := by
      obtain ⟨j, hj⟩ : ∃ i, n = i + 1 := ⟨n - 1, by omega⟩
      have hz : ¬ (pl K 1 ≤ 0) := by rw [i_le, ii_0]; omega
      have hc : ¬ (lg_cmp E (-1) ≤ 0) := by
        rw [cmp_n]
        intro q
        apply q
        rw [Int64.lt_iff_toInt_lt]
        have : (-1 : Int64).toInt = -1 := rfl
        omega
      have e : L_X9_bestRow n T0 T1 a1 a2 a3 (n - 1 + 1) 0 (-1) (-1) 0 I = some (.inr (v, I')) := by
        rw [L_X9_bestRow_e0, L.tr.h, if_neg hz, e9, bd_s]
        dsimp only
        rw [if_neg hc]
        exact f9
      rw [show n - 1 + 1 = n by omega] at e
      exact e
    have f10' : L_X10_bestRow n a1 a2 a3 n 0 0 E 1 K2 = some (v, K') := by
      obtain ⟨v2, I2', K2', g9, g10, _⟩ := key ((pl K 1).toInt.toNat - 1) 1 n 0 E I2 K2 h1 kir (by rw [h3, sI_self]) h5 tb2 (by omega) (by omega)
      obtain ⟨v3, I3', K3', k9, k10, _⟩ := key ((pl K 1).toInt.toNat - 1) 1 (n - 1) 0 E I2 K2 h1 kir (by rw [h3, sI_self]) h5 tb2 (by omega) (by omega)
      have mono : ∀ (j : Nat) (b : Int32) (g : Int64) (c : Int32) (K1 : gI) (r : Int32 × gI), L_X10_bestRow n a1 a2 a3 j 0 b g c K1 = some r → L_X10_bestRow n a1 a2 a3 (j + 1) 0 b g c K1 = some r := by
        intro j
        induction j with
        | zero => intro b g c K1 r h; exact absurd h (by simp [L_X10_bestRow])
        | succ j ih =>
          intro b g c K1 r h
          rw [L_X10_bestRow_e0] at h ⊢
          by_cases hc : K1 (153 + 2) 1 ≤ c
          · rw [if_pos hc] at h ⊢; exact h
          · rw [if_neg hc] at h ⊢
            obtain ⟨a, ha, h⟩ := bd_x h
            rw [ha, bd_s]
            by_cases hg : 0 < lg_cmp a.1 g
            · rw [if_pos hg] at h ⊢; exact ih _ _ _ _ _ h
            · rw [if_neg hg] at h ⊢; exact ih _ _ _ _ _ h
      have := mono _ _ _ _ _ _ f10
      rw [show n - 1 + 1 = n by omega] at this
      exact this
    rw [e10]
    exact AG.ok f9' f10' ⟨rfl, r1, r2⟩
end FACEF
