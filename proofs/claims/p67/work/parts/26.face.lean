/-! THE RUN'S BOND: what the program and the reference hold in common between calls -/
def LD (T0 : Nat) (I : gI) (p s : gP) : Prop := (PV p) ∧ (1 ≤ (p 4).toInt) ∧ (TR I T0 p) ∧ (SR I 2 p s) ∧ (SV p s)
theorem LD.pv {T0 : Nat} {I : gI} {p s : gP} (H : LD T0 I p s) : PV p := H.1
theorem LD.c1 {T0 : Nat} {I : gI} {p s : gP} (H : LD T0 I p s) : 1 ≤ (p 4).toInt := H.2.1
theorem LD.tr {T0 : Nat} {I : gI} {p s : gP} (H : LD T0 I p s) : TR I T0 p := H.2.2.1
theorem LD.sr {T0 : Nat} {I : gI} {p s : gP} (H : LD T0 I p s) : SR I 2 p s := H.2.2.2.1
theorem LD.sv {T0 : Nat} {I : gI} {p s : gP} (H : LD T0 I p s) : SV p s := H.2.2.2.2
theorem LD.mk {T0 : Nat} {I : gI} {p s : gP} (x_pv : PV p) (x_c1 : 1 ≤ (p 4).toInt) (x_tr : TR I T0 p) (x_sr : SR I 2 p s) (x_sv : SV p s) : LD T0 I p s := by
  unfold LD
  exact ⟨x_pv, x_c1, x_tr, x_sr, x_sv⟩
/-- cells of the program that no later call asks for -/
def irI (T1 o : Nat) : Prop := (10 ≤ o ∧ o < 18) ∨ (88 ≤ o ∧ o < 91) ∨ o = 92 ∨ (T1 ≤ o ∧ o < T1 + 21) ∨ 155 ≤ o
theorem TR.cg {I I' : gI} {o : Nat} {p : gP} (h : TR I o p) (h4 : (p 4).toInt ≤ 4) (h3 : (p 60).toInt ≤ 3) (e : ∀ q i, o ≤ q → q < o + 21 → I' q i = I q i) : TR I' o p := by
  have w := e o 1 (by omega) (by omega)
  refine TR.mk ?_ ?_ ?_ ?_ ?_ ?_ ?_ ?_ ?_ ?_ ?_ ?_ ?_ ?_ ?_ ?_ ?_ ?_ ?_ ?_ ?_ ?_ ?_
  · rw [e _ _ (by omega) (by omega)]; exact h.w
  · rw [e _ _ (by omega) (by omega)]; exact h.h
  · rw [e _ _ (by omega) (by omega)]; exact h.f
  · rw [e _ _ (by omega) (by omega)]; exact h.wl
  · rw [e _ _ (by omega) (by omega)]; exact h.c
  · rw [e _ _ (by omega) (by omega)]; exact h.shc
  · rw [e _ _ (by omega) (by omega)]; exact h.gc
  · intro k hk; rw [e _ _ (by omega) (by omega)]; exact h.len k hk
  · intro k hk; rw [e _ _ (by omega) (by omega)]; exact h.per k hk
  · intro k hk; rw [e _ _ (by omega) (by omega)]; exact h.frm k hk
  · intro k hk; rw [e _ _ (by omega) (by omega)]; exact h.unt k hk
  · intro k hk; rw [e _ 4 (by omega) (by omega), e _ 5 (by omega) (by omega), e _ 6 (by omega) (by omega)]; exact h.srt k hk
  · intro k hk; rw [e _ _ (by omega) (by omega)]; exact h.shp k hk
  · intro k hk; rw [e _ _ (by omega) (by omega)]; exact h.cc k hk
  · intro k hk
    have e1 : ∀ i, I' (o + 1 + 5 + 3 * k + 1) i = I (o + 1 + 5 + 3 * k + 1) i := fun i => e _ _ (by omega) (by omega)
    have e2 : ∀ i, I' (o + 1 + 5 + 3 * k + 2) i = I (o + 1 + 5 + 3 * k + 2) i := fun i => e _ _ (by omega) (by omega)
    simp only [e1, e2]
    rw [e _ 8 (by omega) (by omega)]; exact h.cut k hk
  · intro i hi; rw [e _ _ (by omega) (by omega)]; exact h.mir i hi
  · intro i hi; rw [e _ _ (by omega) (by omega)]; exact h.s0 i hi
  · intro i hi; rw [e _ _ (by omega) (by omega)]; exact h.s1 i hi
  · intro i hi; rw [e _ _ (by omega) (by omega)]; exact h.s2 i hi
  · intro i hi; rw [e _ _ (by omega) (by omega)]; exact h.s3 i hi
  · intro i hi; rw [e _ _ (by omega) (by omega)]; exact h.s4 i hi
  · intro i hi; rw [e _ _ (by omega) (by omega)]; exact h.gx i hi
  · intro i hi; rw [e _ _ (by omega) (by omega)]; exact h.gy i hi
theorem SR.cg {I I' : gI} {o : Nat} {p s : gP} (h : SR I o p s) (e : ∀ q i, o ≤ q → q < o + 8 → I' q i = I q i) : SR I' o p s := by
  refine SR.mk ?_ ?_ ?_ ?_ ?_ ?_ ?_ ?_ ?_ ?_
  · rw [e _ _ (by omega) (by omega)]; exact h.t
  · rw [e _ _ (by omega) (by omega)]; exact h.op
  · intro i hi; rw [e _ _ (by omega) (by omega)]; exact h.b i hi
  · intro i hi; rw [e _ _ (by omega) (by omega)]; exact h.on i hi
  · intro i hi; rw [e _ _ (by omega) (by omega)]; exact h.amp i hi
  · intro i hi; rw [e _ _ (by omega) (by omega)]; exact h.ph i hi
  · intro i hi; rw [e _ _ (by omega) (by omega)]; exact h.x i hi
  · intro i hi; rw [e _ _ (by omega) (by omega)]; exact h.y i hi
  · intro i hi; rw [e _ _ (by omega) (by omega)]; exact h.vx i hi
  · intro i hi; rw [e _ _ (by omega) (by omega)]; exact h.vy i hi
/-! what is needed, told by both -/
def ISE : String := "java/lang/IllegalStateException"
def IOB : String := "java/lang/IndexOutOfBoundsException"
def IAE : String := "java/lang/IllegalArgumentException"
def nd (c : Bool) (E : String) : String ⊕ Unit := if c then .inr () else .inl E
def rng (a l u : Int32) : Bool := decide (l ≤ a ∧ a ≤ u)
def src (p : gP) (a : Int32) : Bool := rng a 0 (p 4 - 1)
def col (p : gP) (a : Int32) : Bool := rng a 0 (p 0 - 1)
def row (p : gP) (a : Int32) : Bool := rng a 0 (p 1 - 1)
def gau (p : gP) (a : Int32) : Bool := rng a 0 (p 76 - 1)
def cel (p : gP) (a b : Int32) : Bool := col p a && row p b
theorem rng_t {a l u : Int32} : rng a l u = true ↔ l.toInt ≤ a.toInt ∧ a.toInt ≤ u.toInt := by
  unfold rng; rw [decide_eq_true_iff, i_le, i_le]
theorem i_m1 {a : Int32} (h : 0 ≤ a.toInt) : (a - 1).toInt = a.toInt - 1 := by
  have := i_hi a
  rw [i_sub (by rw [ii_1]; omega) (by rw [ii_1]; omega), ii_1]
theorem src_t {p : gP} (hp : PV p) {a : Int32} : src p a = true ↔ 0 ≤ a.toInt ∧ a.toInt < (p 4).toInt := by
  have := hp.c
  unfold src; rw [rng_t, i_m1 (by omega), ii_0]; omega
theorem col_t {p : gP} (hp : PV p) {a : Int32} : col p a = true ↔ xIn p a := by
  have := hp.w
  unfold col xIn; rw [rng_t, i_m1 (by omega), ii_0]; omega
theorem row_t {p : gP} (hp : PV p) {a : Int32} : row p a = true ↔ yIn p a := by
  have := hp.h
  unfold row yIn; rw [rng_t, i_m1 (by omega), ii_0]; omega
theorem gau_t {p : gP} (hp : PV p) {a : Int32} : gau p a = true ↔ 0 ≤ a.toInt ∧ a.toInt < (p 76).toInt := by
  have := hp.ga
  unfold gau; rw [rng_t, i_m1 (by omega), ii_0]; omega
theorem cel_t {p : gP} (hp : PV p) {a b : Int32} : cel p a b = true ↔ xIn p a ∧ yIn p b := by
  unfold cel; rw [Bool.and_eq_true, col_t hp, row_t hp]
theorem lt_m1 {a b : Int32} (h : 0 ≤ b.toInt) : a < b ↔ a ≤ b - 1 := by
  rw [i_lt, i_le, i_m1 h]; omega
theorem nd_if {a b : Int32} (h : 0 ≤ b.toInt) (E : String) : (if a < 0 then some (.inl E : String ⊕ Unit) else (if a < b then some (.inr ()) else some (.inl E))) = some (nd (rng a 0 (b - 1)) E) := by
  unfold nd rng
  by_cases h1 : a < 0
  · rw [if_pos h1, decide_eq_false (fun q => by have := q.1; rw [i_le] at this; rw [i_lt] at h1; omega)]; rfl
  · rw [if_neg h1]
    have h1' : 0 ≤ a := by rw [i_le]; rw [i_lt] at h1; omega
    by_cases h2 : a < b
    · rw [if_pos h2, decide_eq_true ⟨h1', (lt_m1 h).mp h2⟩]; rfl
    · rw [if_neg h2, decide_eq_false (fun q => h2 ((lt_m1 h).mpr q.2))]; rfl
section NEED
variable {n T0 T1 : Nat} {I : gI} {p s : gP}
theorem n_rng (n : Nat) (a l u : Int32) : F_X9_needRange n a l u = some (nd (rng a l u) IAE) := by
  unfold F_X9_needRange nd rng
  by_cases h1 : a < l
  · rw [if_pos h1, decide_eq_false (fun q => by have := q.1; rw [i_le] at this; rw [i_lt] at h1; omega)]; rfl
  · rw [if_neg h1]
    have h1' : l ≤ a := by rw [i_le]; rw [i_lt] at h1; omega
    by_cases h2 : a ≤ u
    · rw [if_pos h2, decide_eq_true ⟨h1', h2⟩]; rfl
    · rw [if_neg h2, decide_eq_false (fun q => h2 q.2)]; rfl
theorem n_tank0 (h : I 0 4 = 0) : F_X9_needTank n T0 T1 I = some (.inl ISE) := by
  unfold F_X9_needTank; rw [if_pos h]; rfl
theorem n_tank1 (h : I 0 4 = 1) : F_X9_needTank n T0 T1 I = some (.inr ()) := by
  unfold F_X9_needTank; rw [if_neg (by rw [h]; decide)]
theorem n_src (L : LD T0 I p s) (a : Int32) : F_X9_needSource n T0 T1 I a = some (nd (src p a) IOB) := by
  unfold F_X9_needSource src; rw [L.tr.c]; exact nd_if (by have := L.pv.c; omega) IOB
theorem n_gau (L : LD T0 I p s) (a : Int32) : F_X9_needGauge n T0 T1 I a = some (nd (gau p a) IOB) := by
  unfold F_X9_needGauge gau; rw [L.tr.gc]; exact nd_if (by have := L.pv.ga; omega) IOB
theorem n_col (L : LD T0 I p s) (a : Int32) : F_X9_needColumn n T0 T1 I a = some (nd (col p a) IOB) := by
  unfold F_X9_needColumn col; rw [L.tr.w]; exact nd_if (by have := L.pv.w; omega) IOB
theorem n_row (L : LD T0 I p s) (a : Int32) : F_X9_needRow n T0 T1 I a = some (nd (row p a) IOB) := by
  unfold F_X9_needRow row; rw [L.tr.h]; exact nd_if (by have := L.pv.h; omega) IOB
theorem n_cel (L : LD T0 I p s) (a b : Int32) : F_X9_needCell n T0 T1 I a b = some (nd (cel p a b) IOB) := by
  unfold F_X9_needCell cel; rw [n_col L, n_row L]
  cases col p a <;> cases row p b <;> rfl
theorem n_tim (n : Nat) (a : Int32) : F_X9_needTimes n a = some (nd (rng a 1 40) IAE) := by
  unfold F_X9_needTimes; rw [n_rng]
  cases rng a 1 40 <;> rfl
theorem n_tol (n : Nat) (a : Int32) : F_X9_needTolerance n a = some (nd (rng a 0 9999) IAE) := by
  unfold F_X9_needTolerance; rw [n_rng]
  cases rng a 0 9999 <;> rfl
theorem n_slo (n : Nat) (a : Int32) : F_X9_needSlot n a = some (nd (rng a 0 1) IOB) := by
  unfold F_X9_needSlot; exact nd_if (b := 2) (by decide) IOB
theorem nd_s {α : Type} (c : Bool) (E : String) (g : Unit → Option (String ⊕ α)) : bd (some (nd c E)) (fun v => sm v (fun e => some (.inl e)) g) = if c then g () else some (.inl E) := by
  cases c <;> rfl
theorem LD.ck (L : LD T0 I p s) (ru : RU I) : CK I T0 2 p s := CK.mk L.tr L.sr ru
end NEED

