/-! PLANS WITH ONE THING MORE -/
theorem PV.umir {p : gP} (hp : PV p) {i : Nat} (hi : i < 4) {v : Int32} (hv : 0 ≤ v.toInt ∧ v.toInt ≤ 100) : PV (up p (33 + i) v) := by
  have h4 := hp.c.2
  have h3 := hp.sh.2
  have hg := hp.ga.2
  refine PV.mk ?_ ?_ ?_ ?_ ?_ ?_ ?_ ?_ ?_ ?_ ?_ ?_ ?_ ?_ ?_ ?_ ?_
  · simp (disch := omega) only [up_o]
    exact hp.w
  · simp (disch := omega) only [up_o]
    exact hp.h
  · simp (disch := omega) only [up_o]
    exact hp.f
  · simp (disch := omega) only [up_o]
    exact hp.wl
  · simp (disch := omega) only [up_o]
    exact hp.c
  · intro k hk
    have hk' : k < (p 4).toInt.toNat := by simpa (disch := omega) only [up_o] using hk
    simp (disch := omega) only [up_o]
    exact hp.len k hk'
  · intro k hk
    have hk' : k < (p 4).toInt.toNat := by simpa (disch := omega) only [up_o] using hk
    simp (disch := omega) only [up_o]
    exact hp.per k hk'
  · intro k hk
    have hk' : k < (p 4).toInt.toNat := by simpa (disch := omega) only [up_o] using hk
    simp (disch := omega) only [up_o]
    exact hp.frm k hk'
  · intro k hk
    have hk' : k < (p 4).toInt.toNat := by simpa (disch := omega) only [up_o] using hk
    simp (disch := omega) only [up_o]
    exact hp.unt k hk'
  · intro k hk
    have hk' : k < (p 4).toInt.toNat := by simpa (disch := omega) only [up_o] using hk
    simp (disch := omega) only [up_o]
    exact hp.srt k hk'
  · intro k hk
    by_cases q : k = i
    · rw [q, up_t]; exact hv
    · rw [up_o (by omega)]; exact hp.mir k hk
  · simp (disch := omega) only [up_o]
    exact hp.cut
  · simp (disch := omega) only [up_o]
    exact hp.sh
  · intro k hk
    have hk' : k < (p 60).toInt.toNat := by simpa (disch := omega) only [up_o] using hk
    simp (disch := omega) only [up_o]
    exact hp.pct k hk'
  · simp (disch := omega) only [up_o]
    exact hp.ga
  · intro k hk
    have hk' : k < (p 76).toInt.toNat := by simpa (disch := omega) only [up_o] using hk
    simp (disch := omega) only [up_o]
    exact hp.gx k hk'
  · intro k hk
    have hk' : k < (p 76).toInt.toNat := by simpa (disch := omega) only [up_o] using hk
    simp (disch := omega) only [up_o]
    exact hp.gy k hk'
theorem PV.ushp {p : gP} (hp : PV p) {k0 : Nat} (hk0 : k0 < 4) (v : Int32) : PV (up p (37 + k0) v) := by
  have h4 := hp.c.2
  have h3 := hp.sh.2
  have hg := hp.ga.2
  refine PV.mk ?_ ?_ ?_ ?_ ?_ ?_ ?_ ?_ ?_ ?_ ?_ ?_ ?_ ?_ ?_ ?_ ?_
  · simp (disch := omega) only [up_o]
    exact hp.w
  · simp (disch := omega) only [up_o]
    exact hp.h
  · simp (disch := omega) only [up_o]
    exact hp.f
  · simp (disch := omega) only [up_o]
    exact hp.wl
  · simp (disch := omega) only [up_o]
    exact hp.c
  · intro k hk
    have hk' : k < (p 4).toInt.toNat := by simpa (disch := omega) only [up_o] using hk
    simp (disch := omega) only [up_o]
    exact hp.len k hk'
  · intro k hk
    have hk' : k < (p 4).toInt.toNat := by simpa (disch := omega) only [up_o] using hk
    simp (disch := omega) only [up_o]
    exact hp.per k hk'
  · intro k hk
    have hk' : k < (p 4).toInt.toNat := by simpa (disch := omega) only [up_o] using hk
    simp (disch := omega) only [up_o]
    exact hp.frm k hk'
  · intro k hk
    have hk' : k < (p 4).toInt.toNat := by simpa (disch := omega) only [up_o] using hk
    simp (disch := omega) only [up_o]
    exact hp.unt k hk'
  · intro k hk
    have hk' : k < (p 4).toInt.toNat := by simpa (disch := omega) only [up_o] using hk
    simp (disch := omega) only [up_o]
    exact hp.srt k hk'
  · intro k hk
    have hk' : k < 4 := by simpa (disch := omega) only [up_o] using hk
    simp (disch := omega) only [up_o]
    exact hp.mir k hk'
  · simp (disch := omega) only [up_o]
    exact hp.cut
  · simp (disch := omega) only [up_o]
    exact hp.sh
  · intro k hk
    have hk' : k < (p 60).toInt.toNat := by simpa (disch := omega) only [up_o] using hk
    simp (disch := omega) only [up_o]
    exact hp.pct k hk'
  · simp (disch := omega) only [up_o]
    exact hp.ga
  · intro k hk
    have hk' : k < (p 76).toInt.toNat := by simpa (disch := omega) only [up_o] using hk
    simp (disch := omega) only [up_o]
    exact hp.gx k hk'
  · intro k hk
    have hk' : k < (p 76).toInt.toNat := by simpa (disch := omega) only [up_o] using hk
    simp (disch := omega) only [up_o]
    exact hp.gy k hk'
theorem PV.ucut {p : gP} (hp : PV p) {c : Nat} (hc : c < 6) (a b d : Int32) : PV (up (up (up (up p (42 + 3 * c) a) (42 + 3 * c + 1) b) (42 + 3 * c + 2) d) 41 (Int32.ofNat (c + 1))) := by
  have h4 := hp.c.2
  have h3 := hp.sh.2
  have hg := hp.ga.2
  refine PV.mk ?_ ?_ ?_ ?_ ?_ ?_ ?_ ?_ ?_ ?_ ?_ ?_ ?_ ?_ ?_ ?_ ?_
  · simp (disch := omega) only [up_o]
    exact hp.w
  · simp (disch := omega) only [up_o]
    exact hp.h
  · simp (disch := omega) only [up_o]
    exact hp.f
  · simp (disch := omega) only [up_o]
    exact hp.wl
  · simp (disch := omega) only [up_o]
    exact hp.c
  · intro k hk
    have hk' : k < (p 4).toInt.toNat := by simpa (disch := omega) only [up_o] using hk
    simp (disch := omega) only [up_o]
    exact hp.len k hk'
  · intro k hk
    have hk' : k < (p 4).toInt.toNat := by simpa (disch := omega) only [up_o] using hk
    simp (disch := omega) only [up_o]
    exact hp.per k hk'
  · intro k hk
    have hk' : k < (p 4).toInt.toNat := by simpa (disch := omega) only [up_o] using hk
    simp (disch := omega) only [up_o]
    exact hp.frm k hk'
  · intro k hk
    have hk' : k < (p 4).toInt.toNat := by simpa (disch := omega) only [up_o] using hk
    simp (disch := omega) only [up_o]
    exact hp.unt k hk'
  · intro k hk
    have hk' : k < (p 4).toInt.toNat := by simpa (disch := omega) only [up_o] using hk
    simp (disch := omega) only [up_o]
    exact hp.srt k hk'
  · intro k hk
    have hk' : k < 4 := by simpa (disch := omega) only [up_o] using hk
    simp (disch := omega) only [up_o]
    exact hp.mir k hk'
  · rw [up_t, i_of (by omega)]; omega
  · simp (disch := omega) only [up_o]
    exact hp.sh
  · intro k hk
    have hk' : k < (p 60).toInt.toNat := by simpa (disch := omega) only [up_o] using hk
    simp (disch := omega) only [up_o]
    exact hp.pct k hk'
  · simp (disch := omega) only [up_o]
    exact hp.ga
  · intro k hk
    have hk' : k < (p 76).toInt.toNat := by simpa (disch := omega) only [up_o] using hk
    simp (disch := omega) only [up_o]
    exact hp.gx k hk'
  · intro k hk
    have hk' : k < (p 76).toInt.toNat := by simpa (disch := omega) only [up_o] using hk
    simp (disch := omega) only [up_o]
    exact hp.gy k hk'
theorem PV.uga {p : gP} (hp : PV p) {g : Nat} (hg4 : g < 4) (eg : p 76 = Int32.ofNat g) {x y : Int32} (hx : 0 ≤ x.toInt ∧ x.toInt < (p 0).toInt) (hy : 0 ≤ y.toInt ∧ y.toInt < (p 1).toInt) : PV (up (up (up p (77 + 2 * g) x) (77 + 2 * g + 1) y) 76 (Int32.ofNat (g + 1))) := by
  have h4 := hp.c.2
  have h3 := hp.sh.2
  have hg := hp.ga.2
  have e1 := i_of (k := g) (by omega)
  have e2 := i_of (k := g + 1) (by omega)
  refine PV.mk ?_ ?_ ?_ ?_ ?_ ?_ ?_ ?_ ?_ ?_ ?_ ?_ ?_ ?_ ?_ ?_ ?_
  · simp (disch := omega) only [up_o]
    exact hp.w
  · simp (disch := omega) only [up_o]
    exact hp.h
  · simp (disch := omega) only [up_o]
    exact hp.f
  · simp (disch := omega) only [up_o]
    exact hp.wl
  · simp (disch := omega) only [up_o]
    exact hp.c
  · intro k hk
    have hk' : k < (p 4).toInt.toNat := by simpa (disch := omega) only [up_o] using hk
    simp (disch := omega) only [up_o]
    exact hp.len k hk'
  · intro k hk
    have hk' : k < (p 4).toInt.toNat := by simpa (disch := omega) only [up_o] using hk
    simp (disch := omega) only [up_o]
    exact hp.per k hk'
  · intro k hk
    have hk' : k < (p 4).toInt.toNat := by simpa (disch := omega) only [up_o] using hk
    simp (disch := omega) only [up_o]
    exact hp.frm k hk'
  · intro k hk
    have hk' : k < (p 4).toInt.toNat := by simpa (disch := omega) only [up_o] using hk
    simp (disch := omega) only [up_o]
    exact hp.unt k hk'
  · intro k hk
    have hk' : k < (p 4).toInt.toNat := by simpa (disch := omega) only [up_o] using hk
    simp (disch := omega) only [up_o]
    exact hp.srt k hk'
  · intro k hk
    have hk' : k < 4 := by simpa (disch := omega) only [up_o] using hk
    simp (disch := omega) only [up_o]
    exact hp.mir k hk'
  · simp (disch := omega) only [up_o]
    exact hp.cut
  · simp (disch := omega) only [up_o]
    exact hp.sh
  · intro k hk
    have hk' : k < (p 60).toInt.toNat := by simpa (disch := omega) only [up_o] using hk
    simp (disch := omega) only [up_o]
    exact hp.pct k hk'
  · rw [up_t, e2]; omega
  · intro k hk
    rw [up_t, e2] at hk
    by_cases q : k = g
    · subst q
      simp (disch := omega) only [up_o, up_t]
      exact hx
    · simp (disch := omega) only [up_o]
      exact hp.gx k (by rw [eg, e1]; omega)
  · intro k hk
    rw [up_t, e2] at hk
    by_cases q : k = g
    · subst q
      simp (disch := omega) only [up_o, up_t]
      exact hy
    · simp (disch := omega) only [up_o]
      exact hp.gy k (by rw [eg, e1]; omega)
theorem PV.ush {p : gP} (hp : PV p) {g : Nat} (hg4 : g < 3) (eg : p 60 = Int32.ofNat g) {a b c d v : Int32} (hv : 0 ≤ v.toInt ∧ v.toInt ≤ 200) : PV (up (up (up (up (up (up p (61 + 5 * g) a) (61 + 5 * g + 1) b) (61 + 5 * g + 2) c) (61 + 5 * g + 3) d) (61 + 5 * g + 4) v) 60 (Int32.ofNat (g + 1))) := by
  have h4 := hp.c.2
  have h3 := hp.sh.2
  have hg := hp.ga.2
  have e1 := i_of (k := g) (by omega)
  have e2 := i_of (k := g + 1) (by omega)
  refine PV.mk ?_ ?_ ?_ ?_ ?_ ?_ ?_ ?_ ?_ ?_ ?_ ?_ ?_ ?_ ?_ ?_ ?_
  · simp (disch := omega) only [up_o]
    exact hp.w
  · simp (disch := omega) only [up_o]
    exact hp.h
  · simp (disch := omega) only [up_o]
    exact hp.f
  · simp (disch := omega) only [up_o]
    exact hp.wl
  · simp (disch := omega) only [up_o]
    exact hp.c
  · intro k hk
    have hk' : k < (p 4).toInt.toNat := by simpa (disch := omega) only [up_o] using hk
    simp (disch := omega) only [up_o]
    exact hp.len k hk'
  · intro k hk
    have hk' : k < (p 4).toInt.toNat := by simpa (disch := omega) only [up_o] using hk
    simp (disch := omega) only [up_o]
    exact hp.per k hk'
  · intro k hk
    have hk' : k < (p 4).toInt.toNat := by simpa (disch := omega) only [up_o] using hk
    simp (disch := omega) only [up_o]
    exact hp.frm k hk'
  · intro k hk
    have hk' : k < (p 4).toInt.toNat := by simpa (disch := omega) only [up_o] using hk
    simp (disch := omega) only [up_o]
    exact hp.unt k hk'
  · intro k hk
    have hk' : k < (p 4).toInt.toNat := by simpa (disch := omega) only [up_o] using hk
    simp (disch := omega) only [up_o]
    exact hp.srt k hk'
  · intro k hk
    have hk' : k < 4 := by simpa (disch := omega) only [up_o] using hk
    simp (disch := omega) only [up_o]
    exact hp.mir k hk'
  · simp (disch := omega) only [up_o]
    exact hp.cut
  · rw [up_t, e2]; omega
  · intro k hk
    rw [up_t, e2] at hk
    by_cases q : k = g
    · subst q
      simp (disch := omega) only [up_o, up_t]
      exact hv
    · simp (disch := omega) only [up_o]
      exact hp.pct k (by rw [eg, e1]; omega)
  · simp (disch := omega) only [up_o]
    exact hp.ga
  · intro k hk
    have hk' : k < (p 76).toInt.toNat := by simpa (disch := omega) only [up_o] using hk
    simp (disch := omega) only [up_o]
    exact hp.gx k hk'
  · intro k hk
    have hk' : k < (p 76).toInt.toNat := by simpa (disch := omega) only [up_o] using hk
    simp (disch := omega) only [up_o]
    exact hp.gy k hk'
theorem an_0 (P : Nat → Bool) (k : Nat) : an P 0 k = false := rfl
/-- cuts depend on their numbers alone -/
theorem sCut_cg {p p' : gP} {k : Nat} {e : Int32} (h : ∀ i, 42 ≤ i → i < 60 → p' i = p i) (h41 : p' 41 = p 41) (h6 : (p' 41).toInt ≤ 6) : sCutOff p' k e = sCutOff p k e := by
  unfold sCutOff
  rw [h41]
  rw [h41] at h6
  have key : ∀ (d c : Nat), c + d ≤ 6 → an (fun c => decide (p' (42 + 3 * c) = Int32.ofNat k ∧ p' (42 + 3 * c + 1) ≤ e ∧ e ≤ p' (42 + 3 * c + 2))) d c = an (fun c => decide (p (42 + 3 * c) = Int32.ofNat k ∧ p (42 + 3 * c + 1) ≤ e ∧ e ≤ p (42 + 3 * c + 2))) d c := by
    intro d
    induction d with
    | zero => intro c _; rw [an_0, an_0]
    | succ d ih =>
      intro c hc
      rw [an_s, an_s, ih (c + 1) (by omega), h _ (by omega) (by omega), h _ (by omega) (by omega), h _ (by omega) (by omega)]
  exact key _ 0 (by rw [i_tn]; omega)
/-- the tank with one thing more -/
theorem TR.umir {I : gI} {T : Nat} {p : gP} (hp : PV p) (h : TR I T p) {i : Nat} (hi : i < 4) (v : Int32) : TR (sI I (T + 5) i v) T (up p (33 + i) v) := by
  have h4 := hp.c.2
  have h3 := hp.sh.2
  have hg := hp.ga.2
  have h6 := hp.cut.2
  refine TR.mk ?_ ?_ ?_ ?_ ?_ ?_ ?_ ?_ ?_ ?_ ?_ ?_ ?_ ?_ ?_ ?_ ?_ ?_ ?_ ?_ ?_ ?_ ?_
  · simp (disch := omega) only [up_o, sI_o, sI_k]
    exact h.w
  · simp (disch := omega) only [up_o, sI_o, sI_k]
    exact h.h
  · simp (disch := omega) only [up_o, sI_o, sI_k]
    exact h.f
  · simp (disch := omega) only [up_o, sI_o, sI_k]
    exact h.wl
  · simp (disch := omega) only [up_o, sI_o, sI_k]
    exact h.c
  · simp (disch := omega) only [up_o, sI_o, sI_k]
    exact h.shc
  · simp (disch := omega) only [up_o, sI_o, sI_k]
    exact h.gc
  · intro k hk
    have hk' : k < (p 4).toInt.toNat := by simpa (disch := omega) only [up_o] using hk
    simp (disch := omega) only [up_o, sI_o, sI_k]
    exact h.len k hk'
  · intro k hk
    have hk' : k < (p 4).toInt.toNat := by simpa (disch := omega) only [up_o] using hk
    simp (disch := omega) only [up_o, sI_o, sI_k]
    exact h.per k hk'
  · intro k hk
    have hk' : k < (p 4).toInt.toNat := by simpa (disch := omega) only [up_o] using hk
    simp (disch := omega) only [up_o, sI_o, sI_k]
    exact h.frm k hk'
  · intro k hk
    have hk' : k < (p 4).toInt.toNat := by simpa (disch := omega) only [up_o] using hk
    simp (disch := omega) only [up_o, sI_o, sI_k]
    exact h.unt k hk'
  · intro k hk
    have hk' : k < (p 4).toInt.toNat := by simpa (disch := omega) only [up_o] using hk
    simp (disch := omega) only [up_o, sI_o, sI_k]
    exact h.srt k hk'
  · intro k hk
    have hk' : k < (p 4).toInt.toNat := by simpa (disch := omega) only [up_o] using hk
    simp (disch := omega) only [up_o, sI_o, sI_k]
    exact h.shp k hk'
  · intro k hk
    have hk' : k < (p 4).toInt.toNat := by simpa (disch := omega) only [up_o] using hk
    simp (disch := omega) only [up_o, sI_o, sI_k]
    exact h.cc k hk'
  · intro k hk0 e
    have hk : k < (p 4).toInt.toNat := by simpa (disch := omega) only [up_o] using hk0
    have z1 : ∀ cc, (sI I (T + 5) i v) (T + 1 + 5 + 3 * k + 1) cc = I (T + 1 + 5 + 3 * k + 1) cc := fun cc => by simp (disch := omega) only [sI_o, sI_k]
    have z2 : ∀ cc, (sI I (T + 5) i v) (T + 1 + 5 + 3 * k + 2) cc = I (T + 1 + 5 + 3 * k + 2) cc := fun cc => by simp (disch := omega) only [sI_o, sI_k]
    have z3 : (sI I (T + 5) i v) (T + 1 + 5 + 3 * k) 8 = I (T + 1 + 5 + 3 * k) 8 := by simp (disch := omega) only [sI_o, sI_k]
    simp only [z1, z2, z3]
    rw [h.cut k hk e]
    exact (sCut_cg (fun i a b => by simp (disch := omega) only [up_o]) (by simp (disch := omega) only [up_o]) (by simp (disch := omega) only [up_o]; exact h6)).symm
  · intro k hk
    by_cases q : k = i
    · rw [q, up_t, sI_self]
    · rw [up_o (by omega), sI_k q]; exact h.mir k hk
  · intro k hk
    have hk' : k < (p 60).toInt.toNat := by simpa (disch := omega) only [up_o] using hk
    simp (disch := omega) only [up_o, sI_o, sI_k]
    exact h.s0 k hk'
  · intro k hk
    have hk' : k < (p 60).toInt.toNat := by simpa (disch := omega) only [up_o] using hk
    simp (disch := omega) only [up_o, sI_o, sI_k]
    exact h.s1 k hk'
  · intro k hk
    have hk' : k < (p 60).toInt.toNat := by simpa (disch := omega) only [up_o] using hk
    simp (disch := omega) only [up_o, sI_o, sI_k]
    exact h.s2 k hk'
  · intro k hk
    have hk' : k < (p 60).toInt.toNat := by simpa (disch := omega) only [up_o] using hk
    simp (disch := omega) only [up_o, sI_o, sI_k]
    exact h.s3 k hk'
  · intro k hk
    have hk' : k < (p 60).toInt.toNat := by simpa (disch := omega) only [up_o] using hk
    simp (disch := omega) only [up_o, sI_o, sI_k]
    exact h.s4 k hk'
  · intro k hk
    have hk' : k < (p 76).toInt.toNat := by simpa (disch := omega) only [up_o] using hk
    simp (disch := omega) only [up_o, sI_o, sI_k]
    exact h.gx k hk'
  · intro k hk
    have hk' : k < (p 76).toInt.toNat := by simpa (disch := omega) only [up_o] using hk
    simp (disch := omega) only [up_o, sI_o, sI_k]
    exact h.gy k hk'
theorem TR.ushp {I : gI} {T : Nat} {p : gP} (hp : PV p) (h : TR I T p) {k0 : Nat} (hk0 : k0 < 4) (v : Int32) : TR (sI I (T + 1 + 5 + 3 * k0) 7 v) T (up p (37 + k0) v) := by
  have h4 := hp.c.2
  have h3 := hp.sh.2
  have hg := hp.ga.2
  have h6 := hp.cut.2
  refine TR.mk ?_ ?_ ?_ ?_ ?_ ?_ ?_ ?_ ?_ ?_ ?_ ?_ ?_ ?_ ?_ ?_ ?_ ?_ ?_ ?_ ?_ ?_ ?_
  · simp (disch := omega) only [up_o, sI_o, sI_k]
    exact h.w
  · simp (disch := omega) only [up_o, sI_o, sI_k]
    exact h.h
  · simp (disch := omega) only [up_o, sI_o, sI_k]
    exact h.f
  · simp (disch := omega) only [up_o, sI_o, sI_k]
    exact h.wl
  · simp (disch := omega) only [up_o, sI_o, sI_k]
    exact h.c
  · simp (disch := omega) only [up_o, sI_o, sI_k]
    exact h.shc
  · simp (disch := omega) only [up_o, sI_o, sI_k]
    exact h.gc
  · intro k hk
    have hk' : k < (p 4).toInt.toNat := by simpa (disch := omega) only [up_o] using hk
    simp (disch := omega) only [up_o, sI_o, sI_k]
    exact h.len k hk'
  · intro k hk
    have hk' : k < (p 4).toInt.toNat := by simpa (disch := omega) only [up_o] using hk
    simp (disch := omega) only [up_o, sI_o, sI_k]
    exact h.per k hk'
  · intro k hk
    have hk' : k < (p 4).toInt.toNat := by simpa (disch := omega) only [up_o] using hk
    simp (disch := omega) only [up_o, sI_o, sI_k]
    exact h.frm k hk'
  · intro k hk
    have hk' : k < (p 4).toInt.toNat := by simpa (disch := omega) only [up_o] using hk
    simp (disch := omega) only [up_o, sI_o, sI_k]
    exact h.unt k hk'
  · intro k hk
    have hk' : k < (p 4).toInt.toNat := by simpa (disch := omega) only [up_o] using hk
    simp (disch := omega) only [up_o, sI_o, sI_k]
    exact h.srt k hk'
  · intro k hk
    by_cases q : k = k0
    · rw [q, up_t, sI_self]
    · have hk' : k < (p 4).toInt.toNat := by simpa (disch := omega) only [up_o] using hk
      simp (disch := omega) only [up_o, sI_o]
      exact (h.shp k) (by omega)
  · intro k hk
    have hk' : k < (p 4).toInt.toNat := by simpa (disch := omega) only [up_o] using hk
    simp (disch := omega) only [up_o, sI_o, sI_k]
    exact h.cc k hk'
  · intro k hk0 e
    have hk : k < (p 4).toInt.toNat := by simpa (disch := omega) only [up_o] using hk0
    have z1 : ∀ cc, (sI I (T + 1 + 5 + 3 * k0) 7 v) (T + 1 + 5 + 3 * k + 1) cc = I (T + 1 + 5 + 3 * k + 1) cc := fun cc => by simp (disch := omega) only [sI_o, sI_k]
    have z2 : ∀ cc, (sI I (T + 1 + 5 + 3 * k0) 7 v) (T + 1 + 5 + 3 * k + 2) cc = I (T + 1 + 5 + 3 * k + 2) cc := fun cc => by simp (disch := omega) only [sI_o, sI_k]
    have z3 : (sI I (T + 1 + 5 + 3 * k0) 7 v) (T + 1 + 5 + 3 * k) 8 = I (T + 1 + 5 + 3 * k) 8 := by simp (disch := omega) only [sI_o, sI_k]
    simp only [z1, z2, z3]
    rw [h.cut k hk e]
    exact (sCut_cg (fun i a b => by simp (disch := omega) only [up_o]) (by simp (disch := omega) only [up_o]) (by simp (disch := omega) only [up_o]; exact h6)).symm
  · intro k hk
    have hk' : k < 4 := by simpa (disch := omega) only [up_o] using hk
    simp (disch := omega) only [up_o, sI_o, sI_k]
    exact h.mir k hk'
  · intro k hk
    have hk' : k < (p 60).toInt.toNat := by simpa (disch := omega) only [up_o] using hk
    simp (disch := omega) only [up_o, sI_o, sI_k]
    exact h.s0 k hk'
  · intro k hk
    have hk' : k < (p 60).toInt.toNat := by simpa (disch := omega) only [up_o] using hk
    simp (disch := omega) only [up_o, sI_o, sI_k]
    exact h.s1 k hk'
  · intro k hk
    have hk' : k < (p 60).toInt.toNat := by simpa (disch := omega) only [up_o] using hk
    simp (disch := omega) only [up_o, sI_o, sI_k]
    exact h.s2 k hk'
  · intro k hk
    have hk' : k < (p 60).toInt.toNat := by simpa (disch := omega) only [up_o] using hk
    simp (disch := omega) only [up_o, sI_o, sI_k]
    exact h.s3 k hk'
  · intro k hk
    have hk' : k < (p 60).toInt.toNat := by simpa (disch := omega) only [up_o] using hk
    simp (disch := omega) only [up_o, sI_o, sI_k]
    exact h.s4 k hk'
  · intro k hk
    have hk' : k < (p 76).toInt.toNat := by simpa (disch := omega) only [up_o] using hk
    simp (disch := omega) only [up_o, sI_o, sI_k]
    exact h.gx k hk'
  · intro k hk
    have hk' : k < (p 76).toInt.toNat := by simpa (disch := omega) only [up_o] using hk
    simp (disch := omega) only [up_o, sI_o, sI_k]
    exact h.gy k hk'
theorem TR.uga {I : gI} {T : Nat} {p : gP} (hp : PV p) (h : TR I T p) {g : Nat} (hg4 : g < 4) (eg : p 76 = Int32.ofNat g) (x y : Int32) : TR (sI (sI (sI I (T + 3) g x) (T + 4) g y) T 9 (Int32.ofNat (g + 1))) T (up (up (up p (77 + 2 * g) x) (77 + 2 * g + 1) y) 76 (Int32.ofNat (g + 1))) := by
  have h4 := hp.c.2
  have h3 := hp.sh.2
  have hg := hp.ga.2
  have h6 := hp.cut.2
  have e1 := i_of (k := g) (by omega)
  have e2 := i_of (k := g + 1) (by omega)
  refine TR.mk ?_ ?_ ?_ ?_ ?_ ?_ ?_ ?_ ?_ ?_ ?_ ?_ ?_ ?_ ?_ ?_ ?_ ?_ ?_ ?_ ?_ ?_ ?_
  · simp (disch := omega) only [up_o, sI_o, sI_k]
    exact h.w
  · simp (disch := omega) only [up_o, sI_o, sI_k]
    exact h.h
  · simp (disch := omega) only [up_o, sI_o, sI_k]
    exact h.f
  · simp (disch := omega) only [up_o, sI_o, sI_k]
    exact h.wl
  · simp (disch := omega) only [up_o, sI_o, sI_k]
    exact h.c
  · simp (disch := omega) only [up_o, sI_o, sI_k]
    exact h.shc
  · rw [sI_self, up_t]
  · intro k hk
    have hk' : k < (p 4).toInt.toNat := by simpa (disch := omega) only [up_o] using hk
    simp (disch := omega) only [up_o, sI_o, sI_k]
    exact h.len k hk'
  · intro k hk
    have hk' : k < (p 4).toInt.toNat := by simpa (disch := omega) only [up_o] using hk
    simp (disch := omega) only [up_o, sI_o, sI_k]
    exact h.per k hk'
  · intro k hk
    have hk' : k < (p 4).toInt.toNat := by simpa (disch := omega) only [up_o] using hk
    simp (disch := omega) only [up_o, sI_o, sI_k]
    exact h.frm k hk'
  · intro k hk
    have hk' : k < (p 4).toInt.toNat := by simpa (disch := omega) only [up_o] using hk
    simp (disch := omega) only [up_o, sI_o, sI_k]
    exact h.unt k hk'
  · intro k hk
    have hk' : k < (p 4).toInt.toNat := by simpa (disch := omega) only [up_o] using hk
    simp (disch := omega) only [up_o, sI_o, sI_k]
    exact h.srt k hk'
  · intro k hk
    have hk' : k < (p 4).toInt.toNat := by simpa (disch := omega) only [up_o] using hk
    simp (disch := omega) only [up_o, sI_o, sI_k]
    exact h.shp k hk'
  · intro k hk
    have hk' : k < (p 4).toInt.toNat := by simpa (disch := omega) only [up_o] using hk
    simp (disch := omega) only [up_o, sI_o, sI_k]
    exact h.cc k hk'
  · intro k hk0 e
    have hk : k < (p 4).toInt.toNat := by simpa (disch := omega) only [up_o] using hk0
    have z1 : ∀ cc, (sI (sI (sI I (T + 3) g x) (T + 4) g y) T 9 (Int32.ofNat (g + 1))) (T + 1 + 5 + 3 * k + 1) cc = I (T + 1 + 5 + 3 * k + 1) cc := fun cc => by simp (disch := omega) only [sI_o, sI_k]
    have z2 : ∀ cc, (sI (sI (sI I (T + 3) g x) (T + 4) g y) T 9 (Int32.ofNat (g + 1))) (T + 1 + 5 + 3 * k + 2) cc = I (T + 1 + 5 + 3 * k + 2) cc := fun cc => by simp (disch := omega) only [sI_o, sI_k]
    have z3 : (sI (sI (sI I (T + 3) g x) (T + 4) g y) T 9 (Int32.ofNat (g + 1))) (T + 1 + 5 + 3 * k) 8 = I (T + 1 + 5 + 3 * k) 8 := by simp (disch := omega) only [sI_o, sI_k]
    simp only [z1, z2, z3]
    rw [h.cut k hk e]
    exact (sCut_cg (fun i a b => by simp (disch := omega) only [up_o]) (by simp (disch := omega) only [up_o]) (by simp (disch := omega) only [up_o]; exact h6)).symm
  · intro k hk
    have hk' : k < 4 := by simpa (disch := omega) only [up_o] using hk
    simp (disch := omega) only [up_o, sI_o, sI_k]
    exact h.mir k hk'
  · intro k hk
    have hk' : k < (p 60).toInt.toNat := by simpa (disch := omega) only [up_o] using hk
    simp (disch := omega) only [up_o, sI_o, sI_k]
    exact h.s0 k hk'
  · intro k hk
    have hk' : k < (p 60).toInt.toNat := by simpa (disch := omega) only [up_o] using hk
    simp (disch := omega) only [up_o, sI_o, sI_k]
    exact h.s1 k hk'
  · intro k hk
    have hk' : k < (p 60).toInt.toNat := by simpa (disch := omega) only [up_o] using hk
    simp (disch := omega) only [up_o, sI_o, sI_k]
    exact h.s2 k hk'
  · intro k hk
    have hk' : k < (p 60).toInt.toNat := by simpa (disch := omega) only [up_o] using hk
    simp (disch := omega) only [up_o, sI_o, sI_k]
    exact h.s3 k hk'
  · intro k hk
    have hk' : k < (p 60).toInt.toNat := by simpa (disch := omega) only [up_o] using hk
    simp (disch := omega) only [up_o, sI_o, sI_k]
    exact h.s4 k hk'
  · intro k hk
    rw [up_t, e2] at hk
    by_cases q : k = g
    · subst q
      simp (disch := omega) only [up_o, up_t, sI_o, sI_self]
    · simp (disch := omega) only [up_o, sI_o, sI_k]
      exact h.gx k (by rw [eg, e1]; omega)
  · intro k hk
    rw [up_t, e2] at hk
    by_cases q : k = g
    · subst q
      simp (disch := omega) only [up_o, up_t, sI_o, sI_self]
    · simp (disch := omega) only [up_o, sI_o, sI_k]
      exact h.gy k (by rw [eg, e1]; omega)
theorem TR.ush {I : gI} {T : Nat} {p : gP} (hp : PV p) (h : TR I T p) {g : Nat} (hg4 : g < 3) (eg : p 60 = Int32.ofNat g) (a b c d v : Int32) : TR (sI (sI (sI (sI (sI (sI I (T + 2 + 16 + g) 0 a) (T + 2 + 16 + g) 1 b) (T + 2 + 16 + g) 2 c) (T + 2 + 16 + g) 3 d) (T + 2 + 16 + g) 4 v) T 7 (Int32.ofNat (g + 1))) T (up (up (up (up (up (up p (61 + 5 * g) a) (61 + 5 * g + 1) b) (61 + 5 * g + 2) c) (61 + 5 * g + 3) d) (61 + 5 * g + 4) v) 60 (Int32.ofNat (g + 1))) := by
  have h4 := hp.c.2
  have h3 := hp.sh.2
  have hg := hp.ga.2
  have h6 := hp.cut.2
  have e1 := i_of (k := g) (by omega)
  have e2 := i_of (k := g + 1) (by omega)
  refine TR.mk ?_ ?_ ?_ ?_ ?_ ?_ ?_ ?_ ?_ ?_ ?_ ?_ ?_ ?_ ?_ ?_ ?_ ?_ ?_ ?_ ?_ ?_ ?_
  · simp (disch := omega) only [up_o, sI_o, sI_k]
    exact h.w
  · simp (disch := omega) only [up_o, sI_o, sI_k]
    exact h.h
  · simp (disch := omega) only [up_o, sI_o, sI_k]
    exact h.f
  · simp (disch := omega) only [up_o, sI_o, sI_k]
    exact h.wl
  · simp (disch := omega) only [up_o, sI_o, sI_k]
    exact h.c
  · rw [sI_self, up_t]
  · simp (disch := omega) only [up_o, sI_o, sI_k]
    exact h.gc
  · intro k hk
    have hk' : k < (p 4).toInt.toNat := by simpa (disch := omega) only [up_o] using hk
    simp (disch := omega) only [up_o, sI_o, sI_k]
    exact h.len k hk'
  · intro k hk
    have hk' : k < (p 4).toInt.toNat := by simpa (disch := omega) only [up_o] using hk
    simp (disch := omega) only [up_o, sI_o, sI_k]
    exact h.per k hk'
  · intro k hk
    have hk' : k < (p 4).toInt.toNat := by simpa (disch := omega) only [up_o] using hk
    simp (disch := omega) only [up_o, sI_o, sI_k]
    exact h.frm k hk'
  · intro k hk
    have hk' : k < (p 4).toInt.toNat := by simpa (disch := omega) only [up_o] using hk
    simp (disch := omega) only [up_o, sI_o, sI_k]
    exact h.unt k hk'
  · intro k hk
    have hk' : k < (p 4).toInt.toNat := by simpa (disch := omega) only [up_o] using hk
    simp (disch := omega) only [up_o, sI_o, sI_k]
    exact h.srt k hk'
  · intro k hk
    have hk' : k < (p 4).toInt.toNat := by simpa (disch := omega) only [up_o] using hk
    simp (disch := omega) only [up_o, sI_o, sI_k]
    exact h.shp k hk'
  · intro k hk
    have hk' : k < (p 4).toInt.toNat := by simpa (disch := omega) only [up_o] using hk
    simp (disch := omega) only [up_o, sI_o, sI_k]
    exact h.cc k hk'
  · intro k hk0 e
    have hk : k < (p 4).toInt.toNat := by simpa (disch := omega) only [up_o] using hk0
    have z1 : ∀ cc, (sI (sI (sI (sI (sI (sI I (T + 2 + 16 + g) 0 a) (T + 2 + 16 + g) 1 b) (T + 2 + 16 + g) 2 c) (T + 2 + 16 + g) 3 d) (T + 2 + 16 + g) 4 v) T 7 (Int32.ofNat (g + 1))) (T + 1 + 5 + 3 * k + 1) cc = I (T + 1 + 5 + 3 * k + 1) cc := fun cc => by simp (disch := omega) only [sI_o, sI_k]
    have z2 : ∀ cc, (sI (sI (sI (sI (sI (sI I (T + 2 + 16 + g) 0 a) (T + 2 + 16 + g) 1 b) (T + 2 + 16 + g) 2 c) (T + 2 + 16 + g) 3 d) (T + 2 + 16 + g) 4 v) T 7 (Int32.ofNat (g + 1))) (T + 1 + 5 + 3 * k + 2) cc = I (T + 1 + 5 + 3 * k + 2) cc := fun cc => by simp (disch := omega) only [sI_o, sI_k]
    have z3 : (sI (sI (sI (sI (sI (sI I (T + 2 + 16 + g) 0 a) (T + 2 + 16 + g) 1 b) (T + 2 + 16 + g) 2 c) (T + 2 + 16 + g) 3 d) (T + 2 + 16 + g) 4 v) T 7 (Int32.ofNat (g + 1))) (T + 1 + 5 + 3 * k) 8 = I (T + 1 + 5 + 3 * k) 8 := by simp (disch := omega) only [sI_o, sI_k]
    simp only [z1, z2, z3]
    rw [h.cut k hk e]
    exact (sCut_cg (fun i a b => by simp (disch := omega) only [up_o]) (by simp (disch := omega) only [up_o]) (by simp (disch := omega) only [up_o]; exact h6)).symm
  · intro k hk
    have hk' : k < 4 := by simpa (disch := omega) only [up_o] using hk
    simp (disch := omega) only [up_o, sI_o, sI_k]
    exact h.mir k hk'
  · intro k hk
    rw [up_t, e2] at hk
    by_cases q : k = g
    · subst q
      simp (disch := omega) only [up_o, up_t, sI_o, sI_k, sI_self]
    · simp (disch := omega) only [up_o, sI_o, sI_k]
      exact h.s0 k (by rw [eg, e1]; omega)
  · intro k hk
    rw [up_t, e2] at hk
    by_cases q : k = g
    · subst q
      simp (disch := omega) only [up_o, up_t, sI_o, sI_k, sI_self]
    · simp (disch := omega) only [up_o, sI_o, sI_k]
      exact h.s1 k (by rw [eg, e1]; omega)
  · intro k hk
    rw [up_t, e2] at hk
    by_cases q : k = g
    · subst q
      simp (disch := omega) only [up_o, up_t, sI_o, sI_k, sI_self]
    · simp (disch := omega) only [up_o, sI_o, sI_k]
      exact h.s2 k (by rw [eg, e1]; omega)
  · intro k hk
    rw [up_t, e2] at hk
    by_cases q : k = g
    · subst q
      simp (disch := omega) only [up_o, up_t, sI_o, sI_k, sI_self]
    · simp (disch := omega) only [up_o, sI_o, sI_k]
      exact h.s3 k (by rw [eg, e1]; omega)
  · intro k hk
    rw [up_t, e2] at hk
    by_cases q : k = g
    · subst q
      simp (disch := omega) only [up_o, up_t, sI_o, sI_k, sI_self]
    · simp (disch := omega) only [up_o, sI_o, sI_k]
      exact h.s4 k (by rw [eg, e1]; omega)
  · intro k hk
    have hk' : k < (p 76).toInt.toNat := by simpa (disch := omega) only [up_o] using hk
    simp (disch := omega) only [up_o, sI_o, sI_k]
    exact h.gx k hk'
  · intro k hk
    have hk' : k < (p 76).toInt.toNat := by simpa (disch := omega) only [up_o] using hk
    simp (disch := omega) only [up_o, sI_o, sI_k]
    exact h.gy k hk'
