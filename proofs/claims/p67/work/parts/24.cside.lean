/-! THE PROGRAM'S SIDE: a tank at o that holds the plan p, a state at o that holds s -/
def TR (I : gI) (o : Nat) (p : gP) : Prop := (I o 1 = p 0) ∧ (I o 2 = p 1) ∧ (I o 3 = p 2) ∧ (I o 4 = p 3) ∧ (I o 5 = p 4) ∧ (I o 7 = p 60) ∧ (I o 9 = p 76) ∧ (∀ k, k < (p 4).toInt.toNat → I (o + 1 + 5 + 3 * k) 0 = p (5 + k)) ∧ (∀ k, k < (p 4).toInt.toNat → I (o + 1 + 5 + 3 * k) 1 = p (9 + k)) ∧ (∀ k, k < (p 4).toInt.toNat → I (o + 1 + 5 + 3 * k) 2 = p (13 + k)) ∧ (∀ k, k < (p 4).toInt.toNat → I (o + 1 + 5 + 3 * k) 3 = p (17 + k)) ∧ (∀ k, k < (p 4).toInt.toNat → (p (21 + k) = 0 ∧ I (o + 1 + 5 + 3 * k) 4 = 0 ∧ I (o + 1 + 5 + 3 * k) 6 = 0) ∨ (p (21 + k) = 1 ∧ I (o + 1 + 5 + 3 * k) 4 = p (25 + k) ∧ I (o + 1 + 5 + 3 * k) 5 = p (29 + k)) ∨ (p (21 + k) = 2 ∧ I (o + 1 + 5 + 3 * k) 4 = 0 ∧ I (o + 1 + 5 + 3 * k) 6 = p (25 + k))) ∧ (∀ k, k < (p 4).toInt.toNat → I (o + 1 + 5 + 3 * k) 7 = p (37 + k)) ∧ (∀ k, k < (p 4).toInt.toNat → 0 ≤ (I (o + 1 + 5 + 3 * k) 8).toInt ∧ (I (o + 1 + 5 + 3 * k) 8).toInt ≤ 6) ∧ (∀ k, k < (p 4).toInt.toNat → ∀ e, an (fun i => decide (I (o + 1 + 5 + 3 * k + 1) i ≤ e ∧ e ≤ I (o + 1 + 5 + 3 * k + 2) i)) (I (o + 1 + 5 + 3 * k) 8).toInt.toNat 0 = sCutOff p k e) ∧ (∀ i, i < 4 → I (o + 5) i = p (33 + i)) ∧ (∀ i, i < (p 60).toInt.toNat → I (o + 2 + 16 + i) 0 = p (61 + 5 * i)) ∧ (∀ i, i < (p 60).toInt.toNat → I (o + 2 + 16 + i) 1 = p (61 + 5 * i + 1)) ∧ (∀ i, i < (p 60).toInt.toNat → I (o + 2 + 16 + i) 2 = p (61 + 5 * i + 2)) ∧ (∀ i, i < (p 60).toInt.toNat → I (o + 2 + 16 + i) 3 = p (61 + 5 * i + 3)) ∧ (∀ i, i < (p 60).toInt.toNat → I (o + 2 + 16 + i) 4 = p (61 + 5 * i + 4)) ∧ (∀ i, i < (p 76).toInt.toNat → I (o + 3) i = p (77 + 2 * i)) ∧ (∀ i, i < (p 76).toInt.toNat → I (o + 4) i = p (77 + 2 * i + 1))
theorem TR.w {I : gI} {o : Nat} {p : gP} (H : TR I o p) : I o 1 = p 0 := H.1
theorem TR.h {I : gI} {o : Nat} {p : gP} (H : TR I o p) : I o 2 = p 1 := H.2.1
theorem TR.f {I : gI} {o : Nat} {p : gP} (H : TR I o p) : I o 3 = p 2 := H.2.2.1
theorem TR.wl {I : gI} {o : Nat} {p : gP} (H : TR I o p) : I o 4 = p 3 := H.2.2.2.1
theorem TR.c {I : gI} {o : Nat} {p : gP} (H : TR I o p) : I o 5 = p 4 := H.2.2.2.2.1
theorem TR.shc {I : gI} {o : Nat} {p : gP} (H : TR I o p) : I o 7 = p 60 := H.2.2.2.2.2.1
theorem TR.gc {I : gI} {o : Nat} {p : gP} (H : TR I o p) : I o 9 = p 76 := H.2.2.2.2.2.2.1
theorem TR.len {I : gI} {o : Nat} {p : gP} (H : TR I o p) : ∀ k, k < (p 4).toInt.toNat → I (o + 1 + 5 + 3 * k) 0 = p (5 + k) := H.2.2.2.2.2.2.2.1
theorem TR.per {I : gI} {o : Nat} {p : gP} (H : TR I o p) : ∀ k, k < (p 4).toInt.toNat → I (o + 1 + 5 + 3 * k) 1 = p (9 + k) := H.2.2.2.2.2.2.2.2.1
theorem TR.frm {I : gI} {o : Nat} {p : gP} (H : TR I o p) : ∀ k, k < (p 4).toInt.toNat → I (o + 1 + 5 + 3 * k) 2 = p (13 + k) := H.2.2.2.2.2.2.2.2.2.1
theorem TR.unt {I : gI} {o : Nat} {p : gP} (H : TR I o p) : ∀ k, k < (p 4).toInt.toNat → I (o + 1 + 5 + 3 * k) 3 = p (17 + k) := H.2.2.2.2.2.2.2.2.2.2.1
theorem TR.srt {I : gI} {o : Nat} {p : gP} (H : TR I o p) : ∀ k, k < (p 4).toInt.toNat → (p (21 + k) = 0 ∧ I (o + 1 + 5 + 3 * k) 4 = 0 ∧ I (o + 1 + 5 + 3 * k) 6 = 0) ∨ (p (21 + k) = 1 ∧ I (o + 1 + 5 + 3 * k) 4 = p (25 + k) ∧ I (o + 1 + 5 + 3 * k) 5 = p (29 + k)) ∨ (p (21 + k) = 2 ∧ I (o + 1 + 5 + 3 * k) 4 = 0 ∧ I (o + 1 + 5 + 3 * k) 6 = p (25 + k)) := H.2.2.2.2.2.2.2.2.2.2.2.1
theorem TR.shp {I : gI} {o : Nat} {p : gP} (H : TR I o p) : ∀ k, k < (p 4).toInt.toNat → I (o + 1 + 5 + 3 * k) 7 = p (37 + k) := H.2.2.2.2.2.2.2.2.2.2.2.2.1
theorem TR.cc {I : gI} {o : Nat} {p : gP} (H : TR I o p) : ∀ k, k < (p 4).toInt.toNat → 0 ≤ (I (o + 1 + 5 + 3 * k) 8).toInt ∧ (I (o + 1 + 5 + 3 * k) 8).toInt ≤ 6 := H.2.2.2.2.2.2.2.2.2.2.2.2.2.1
theorem TR.cut {I : gI} {o : Nat} {p : gP} (H : TR I o p) : ∀ k, k < (p 4).toInt.toNat → ∀ e, an (fun i => decide (I (o + 1 + 5 + 3 * k + 1) i ≤ e ∧ e ≤ I (o + 1 + 5 + 3 * k + 2) i)) (I (o + 1 + 5 + 3 * k) 8).toInt.toNat 0 = sCutOff p k e := H.2.2.2.2.2.2.2.2.2.2.2.2.2.2.1
theorem TR.mir {I : gI} {o : Nat} {p : gP} (H : TR I o p) : ∀ i, i < 4 → I (o + 5) i = p (33 + i) := H.2.2.2.2.2.2.2.2.2.2.2.2.2.2.2.1
theorem TR.s0 {I : gI} {o : Nat} {p : gP} (H : TR I o p) : ∀ i, i < (p 60).toInt.toNat → I (o + 2 + 16 + i) 0 = p (61 + 5 * i) := H.2.2.2.2.2.2.2.2.2.2.2.2.2.2.2.2.1
theorem TR.s1 {I : gI} {o : Nat} {p : gP} (H : TR I o p) : ∀ i, i < (p 60).toInt.toNat → I (o + 2 + 16 + i) 1 = p (61 + 5 * i + 1) := H.2.2.2.2.2.2.2.2.2.2.2.2.2.2.2.2.2.1
theorem TR.s2 {I : gI} {o : Nat} {p : gP} (H : TR I o p) : ∀ i, i < (p 60).toInt.toNat → I (o + 2 + 16 + i) 2 = p (61 + 5 * i + 2) := H.2.2.2.2.2.2.2.2.2.2.2.2.2.2.2.2.2.2.1
theorem TR.s3 {I : gI} {o : Nat} {p : gP} (H : TR I o p) : ∀ i, i < (p 60).toInt.toNat → I (o + 2 + 16 + i) 3 = p (61 + 5 * i + 3) := H.2.2.2.2.2.2.2.2.2.2.2.2.2.2.2.2.2.2.2.1
theorem TR.s4 {I : gI} {o : Nat} {p : gP} (H : TR I o p) : ∀ i, i < (p 60).toInt.toNat → I (o + 2 + 16 + i) 4 = p (61 + 5 * i + 4) := H.2.2.2.2.2.2.2.2.2.2.2.2.2.2.2.2.2.2.2.2.1
theorem TR.gx {I : gI} {o : Nat} {p : gP} (H : TR I o p) : ∀ i, i < (p 76).toInt.toNat → I (o + 3) i = p (77 + 2 * i) := H.2.2.2.2.2.2.2.2.2.2.2.2.2.2.2.2.2.2.2.2.2.1
theorem TR.gy {I : gI} {o : Nat} {p : gP} (H : TR I o p) : ∀ i, i < (p 76).toInt.toNat → I (o + 4) i = p (77 + 2 * i + 1) := H.2.2.2.2.2.2.2.2.2.2.2.2.2.2.2.2.2.2.2.2.2.2
theorem TR.mk {I : gI} {o : Nat} {p : gP} (x_w : I o 1 = p 0) (x_h : I o 2 = p 1) (x_f : I o 3 = p 2) (x_wl : I o 4 = p 3) (x_c : I o 5 = p 4) (x_shc : I o 7 = p 60) (x_gc : I o 9 = p 76) (x_len : ∀ k, k < (p 4).toInt.toNat → I (o + 1 + 5 + 3 * k) 0 = p (5 + k)) (x_per : ∀ k, k < (p 4).toInt.toNat → I (o + 1 + 5 + 3 * k) 1 = p (9 + k)) (x_frm : ∀ k, k < (p 4).toInt.toNat → I (o + 1 + 5 + 3 * k) 2 = p (13 + k)) (x_unt : ∀ k, k < (p 4).toInt.toNat → I (o + 1 + 5 + 3 * k) 3 = p (17 + k)) (x_srt : ∀ k, k < (p 4).toInt.toNat → (p (21 + k) = 0 ∧ I (o + 1 + 5 + 3 * k) 4 = 0 ∧ I (o + 1 + 5 + 3 * k) 6 = 0) ∨ (p (21 + k) = 1 ∧ I (o + 1 + 5 + 3 * k) 4 = p (25 + k) ∧ I (o + 1 + 5 + 3 * k) 5 = p (29 + k)) ∨ (p (21 + k) = 2 ∧ I (o + 1 + 5 + 3 * k) 4 = 0 ∧ I (o + 1 + 5 + 3 * k) 6 = p (25 + k))) (x_shp : ∀ k, k < (p 4).toInt.toNat → I (o + 1 + 5 + 3 * k) 7 = p (37 + k)) (x_cc : ∀ k, k < (p 4).toInt.toNat → 0 ≤ (I (o + 1 + 5 + 3 * k) 8).toInt ∧ (I (o + 1 + 5 + 3 * k) 8).toInt ≤ 6) (x_cut : ∀ k, k < (p 4).toInt.toNat → ∀ e, an (fun i => decide (I (o + 1 + 5 + 3 * k + 1) i ≤ e ∧ e ≤ I (o + 1 + 5 + 3 * k + 2) i)) (I (o + 1 + 5 + 3 * k) 8).toInt.toNat 0 = sCutOff p k e) (x_mir : ∀ i, i < 4 → I (o + 5) i = p (33 + i)) (x_s0 : ∀ i, i < (p 60).toInt.toNat → I (o + 2 + 16 + i) 0 = p (61 + 5 * i)) (x_s1 : ∀ i, i < (p 60).toInt.toNat → I (o + 2 + 16 + i) 1 = p (61 + 5 * i + 1)) (x_s2 : ∀ i, i < (p 60).toInt.toNat → I (o + 2 + 16 + i) 2 = p (61 + 5 * i + 2)) (x_s3 : ∀ i, i < (p 60).toInt.toNat → I (o + 2 + 16 + i) 3 = p (61 + 5 * i + 3)) (x_s4 : ∀ i, i < (p 60).toInt.toNat → I (o + 2 + 16 + i) 4 = p (61 + 5 * i + 4)) (x_gx : ∀ i, i < (p 76).toInt.toNat → I (o + 3) i = p (77 + 2 * i)) (x_gy : ∀ i, i < (p 76).toInt.toNat → I (o + 4) i = p (77 + 2 * i + 1)) : TR I o p := by
  unfold TR
  exact ⟨x_w, x_h, x_f, x_wl, x_c, x_shc, x_gc, x_len, x_per, x_frm, x_unt, x_srt, x_shp, x_cc, x_cut, x_mir, x_s0, x_s1, x_s2, x_s3, x_s4, x_gx, x_gy⟩
def SR (I : gI) (o : Nat) (p s : gP) : Prop := (I o 0 = s 0) ∧ (I o 1 = s 1) ∧ (∀ k, k < 4 → I (o + 1) k = 0 ∨ I (o + 1) k = 1) ∧ (∀ k, k < (p 4).toInt.toNat → I (o + 1) k = s (2 + k)) ∧ (∀ k, k < (p 4).toInt.toNat → I (o + 2) k = s (6 + k)) ∧ (∀ k, k < (p 4).toInt.toNat → I (o + 3) k = s (10 + k)) ∧ (∀ k, k < (p 4).toInt.toNat → I (o + 4) k = s (14 + k)) ∧ (∀ k, k < (p 4).toInt.toNat → I (o + 5) k = s (18 + k)) ∧ (∀ k, k < (p 4).toInt.toNat → I (o + 6) k = s (22 + k)) ∧ (∀ k, k < (p 4).toInt.toNat → I (o + 7) k = s (26 + k))
theorem SR.t {I : gI} {o : Nat} {p s : gP} (H : SR I o p s) : I o 0 = s 0 := H.1
theorem SR.op {I : gI} {o : Nat} {p s : gP} (H : SR I o p s) : I o 1 = s 1 := H.2.1
theorem SR.b {I : gI} {o : Nat} {p s : gP} (H : SR I o p s) : ∀ k, k < 4 → I (o + 1) k = 0 ∨ I (o + 1) k = 1 := H.2.2.1
theorem SR.on {I : gI} {o : Nat} {p s : gP} (H : SR I o p s) : ∀ k, k < (p 4).toInt.toNat → I (o + 1) k = s (2 + k) := H.2.2.2.1
theorem SR.amp {I : gI} {o : Nat} {p s : gP} (H : SR I o p s) : ∀ k, k < (p 4).toInt.toNat → I (o + 2) k = s (6 + k) := H.2.2.2.2.1
theorem SR.ph {I : gI} {o : Nat} {p s : gP} (H : SR I o p s) : ∀ k, k < (p 4).toInt.toNat → I (o + 3) k = s (10 + k) := H.2.2.2.2.2.1
theorem SR.x {I : gI} {o : Nat} {p s : gP} (H : SR I o p s) : ∀ k, k < (p 4).toInt.toNat → I (o + 4) k = s (14 + k) := H.2.2.2.2.2.2.1
theorem SR.y {I : gI} {o : Nat} {p s : gP} (H : SR I o p s) : ∀ k, k < (p 4).toInt.toNat → I (o + 5) k = s (18 + k) := H.2.2.2.2.2.2.2.1
theorem SR.vx {I : gI} {o : Nat} {p s : gP} (H : SR I o p s) : ∀ k, k < (p 4).toInt.toNat → I (o + 6) k = s (22 + k) := H.2.2.2.2.2.2.2.2.1
theorem SR.vy {I : gI} {o : Nat} {p s : gP} (H : SR I o p s) : ∀ k, k < (p 4).toInt.toNat → I (o + 7) k = s (26 + k) := H.2.2.2.2.2.2.2.2.2
theorem SR.mk {I : gI} {o : Nat} {p s : gP} (x_t : I o 0 = s 0) (x_op : I o 1 = s 1) (x_b : ∀ k, k < 4 → I (o + 1) k = 0 ∨ I (o + 1) k = 1) (x_on : ∀ k, k < (p 4).toInt.toNat → I (o + 1) k = s (2 + k)) (x_amp : ∀ k, k < (p 4).toInt.toNat → I (o + 2) k = s (6 + k)) (x_ph : ∀ k, k < (p 4).toInt.toNat → I (o + 3) k = s (10 + k)) (x_x : ∀ k, k < (p 4).toInt.toNat → I (o + 4) k = s (14 + k)) (x_y : ∀ k, k < (p 4).toInt.toNat → I (o + 5) k = s (18 + k)) (x_vx : ∀ k, k < (p 4).toInt.toNat → I (o + 6) k = s (22 + k)) (x_vy : ∀ k, k < (p 4).toInt.toNat → I (o + 7) k = s (26 + k)) : SR I o p s := by
  unfold SR
  exact ⟨x_t, x_op, x_b, x_on, x_amp, x_ph, x_x, x_y, x_vx, x_vy⟩
/-- the program's arrays -/
def CK (I : gI) (o os : Nat) (p s : gP) : Prop := (TR I o p) ∧ (SR I os p s) ∧ (RU I)
theorem CK.tr {I : gI} {o os : Nat} {p s : gP} (H : CK I o os p s) : TR I o p := H.1
theorem CK.sr {I : gI} {o os : Nat} {p s : gP} (H : CK I o os p s) : SR I os p s := H.2.1
theorem CK.ru {I : gI} {o os : Nat} {p s : gP} (H : CK I o os p s) : RU I := H.2.2
theorem CK.mk {I : gI} {o os : Nat} {p s : gP} (x_tr : TR I o p) (x_sr : SR I os p s) (x_ru : RU I) : CK I o os p s := by
  unfold CK
  exact ⟨x_tr, x_sr, x_ru⟩
section CLASS
variable {n : Nat} {I : gI} {o os : Nat} {p s : gP}
theorem c_col (hp : PV p) (h : CK I o os p s) {k : Nat} (hk : k < (p 4).toInt.toNat) (t : Int32) : F_X7_columnOf n o os I (Int32.ofNat k) t = some (sCol p s k t) := by
  have h4 := hp.c
  unfold F_X7_columnOf
  simp (disch := omega) only [gv_k, i_tno, h.tr.w, h.sr.x k hk, h.sr.vx k hk]
  rfl
theorem c_row (hp : PV p) (h : CK I o os p s) {k : Nat} (hk : k < (p 4).toInt.toNat) (t : Int32) : F_X7_rowOf n o os I (Int32.ofNat k) t = some (sRow p s k t) := by
  have h4 := hp.c
  unfold F_X7_rowOf
  simp (disch := omega) only [gv_k, i_tno, h.tr.h, h.sr.y k hk, h.sr.vy k hk]
  rfl
theorem c_open (h : CK I o os p s) (y : Int32) : F_X6_hasOpen n os I y = some (b2 (sOpen s y)) := by
  unfold F_X6_hasOpen
  rw [h.sr.op]
  unfold sOpen b2
  by_cases hq : (s 1 >>> (y &&& 31)) &&& 1 = 1
  · rw [if_pos hq, decide_eq_true hq, if_pos rfl]
  · rw [if_neg hq, decide_eq_false hq]; rfl
theorem c_cut (h : CK I o os p s) (a b : Int32) : F_X7_isShadowed n o I a b = some (b2 (sCut p a b)) := by
  unfold F_X7_isShadowed
  rw [h.tr.wl]
  by_cases hq : p 3 = -1
  · simp [hq, b2, sCut]
  · rw [if_neg hq, cut_f]
    unfold sCut
    simp [hq]
theorem c_shut (h : CK I o os p s) (x y : Int32) : F_X7_isBlocked n o os I x y = some (b2 (sShut p s x y)) := by
  unfold F_X7_isBlocked
  rw [h.tr.wl]
  by_cases hq : p 3 = -1
  · simp [hq, b2, sShut]
  · rw [if_neg hq, c_open h, bd_s]
    unfold sShut
    by_cases hx : x = p 3
    · rw [if_pos hx]
      cases hy : sOpen s y <;> simp [hq, hx, b2]
    · rw [if_neg hx]
      simp [hx, b2]
theorem c_thr (hp : PV p) (h : CK I o os p s) {fx fy x y row : Int32} (h1 : xIn p fx) (h2 : yIn p fy) (h3 : xIn p x) (h4 : yIn p y) (h5 : yIn p row) : F_X7_lengthThrough n o I row fx fy x y = some (sThru p fx fy x y row) := by
  have hw := hp.w
  have hh := hp.h
  have hl := hp.wl
  unfold xIn at h1 h3
  unfold yIn at h2 h4 h5
  unfold F_X7_lengthThrough
  have d1 : (fx - p 3).toInt = fx.toInt - (p 3).toInt := i_sub (by omega) (by omega)
  have d2 : (fy - row).toInt = fy.toInt - row.toInt := i_sub (by omega) (by omega)
  have d3 : (p 3 - x).toInt = (p 3).toInt - x.toInt := i_sub (by omega) (by omega)
  have d4 : (row - y).toInt = row.toInt - y.toInt := i_sub (by omega) (by omega)
  rw [h.tr.wl, btw_s n h.ru (by omega) (by omega), bd_s, btw_s n h.ru (by omega) (by omega), bd_s, far_neg fx (p 3) fy row, far_neg (p 3) x row y]
  unfold sThru
  rfl
theorem c_del (hp : PV p) (h : CK I o os p s) {k : Nat} (hk : k < (p 4).toInt.toNat) (way : Int32) : F_X8_delayOf n (o + 1 + 5 + 3 * k) I way = some (sDel p k way) := by
  have hl := hp.len k hk
  unfold F_X8_delayOf
  rw [h.tr.len k hk, h.tr.per k hk, gd_t]
  · rfl
  · rw [i_eq, ii_0]; omega
theorem c_emit (hn : 2000 ≤ n) (hp : PV p) (h : CK I o os p s) {k : Nat} (hk : k < (p 4).toInt.toNat) (amp e : Int32) : F_X8_emitted n (o + 1 + 5 + 3 * k) I amp e = some (sEmit p k amp e) := by
  have hs := hp.srt k hk
  have hr := h.tr.srt k hk
  have hc := h.tr.cc k hk
  unfold F_X8_emitted sEmit
  rw [h.tr.frm k hk, h.tr.unt k hk]
  by_cases h1 : e < p (13 + k)
  · rw [if_pos h1, if_pos h1]
  rw [if_neg h1, if_neg h1]
  by_cases h2 : p (17 + k) < e
  · rw [if_pos h2, if_neg (by rw [i_le]; rw [i_lt] at h2; omega)]
  rw [if_neg h2, if_pos (by rw [i_le]; rw [i_lt] at h2; omega)]
  have key : ∀ (d c j : Nat), c + d = (I (o + 1 + 5 + 3 * k) 8).toInt.toNat → d < j → L_X8_emitted n (o + 1 + 5 + 3 * k) I amp e j 0 (Int32.ofNat c) = if an (fun i => decide (I (o + 1 + 5 + 3 * k + 1) i ≤ e ∧ e ≤ I (o + 1 + 5 + 3 * k + 2) i)) d c then some 0 else some (if p (21 + k) = 1 then (if p (25 + k) ≤ md (e - p (13 + k)) (p (25 + k) + p (29 + k)) then 0 else amp) else if p (21 + k) = 2 then amp * jmin (e - p (13 + k) + 1) (p (25 + k)) / p (25 + k) else amp) := by
    intro d
    induction d with
    | zero =>
      intro c j hcd hj
      obtain ⟨j, rfl⟩ : ∃ i, j = i + 1 := ⟨j - 1, by omega⟩
      rw [L_X8_emitted_e0, if_pos (by rw [i_le, i_of (by omega)]; omega), show an _ 0 c = false from rfl, if_neg (show ¬ (false = true) by decide), h.tr.frm k hk]
      rcases hs with hs | ⟨hs, q1, q2, q3, q4⟩ | ⟨hs, q1, q2⟩
      · have a1 : ¬ p (21 + k) = 1 := by rw [hs]; decide
        have a2 : ¬ p (21 + k) = 2 := by rw [hs]; decide
        rcases hr with hr | hr | hr
        · rw [if_neg a1, if_neg a2, hr.2.1, hr.2.2, if_pos (by decide), if_pos (by decide)]
        · exact absurd hr.1 a1
        · exact absurd hr.1 a2
      · have a0 : ¬ p (21 + k) = 0 := by rw [hs]; decide
        have a2 : ¬ p (21 + k) = 2 := by rw [hs]; decide
        rcases hr with hr | hr | hr
        · exact absurd hr.1 a0
        · rw [if_pos hs, hr.2.1, hr.2.2, if_neg (by rw [i_le, ii_0]; omega), gd_t (by rw [i_eq, ii_0, i_add (by omega) (by omega)]; omega)]
          by_cases h5 : p (25 + k) ≤ md (e - p (13 + k)) (p (25 + k) + p (29 + k))
          · rw [if_pos h5]; exact if_pos h5
          · rw [if_neg h5]; exact if_neg h5
        · exact absurd hr.1 a2
      · have a0 : ¬ p (21 + k) = 0 := by rw [hs]; decide
        have a1 : ¬ p (21 + k) = 1 := by rw [hs]; decide
        rcases hr with hr | hr | hr
        · exact absurd hr.1 a0
        · exact absurd hr.1 a1
        · rw [if_neg a1, if_pos hs, hr.2.1, hr.2.2, if_pos (show (0 : Int32) ≤ 0 by decide), if_neg (by rw [i_le, ii_0]; omega), gd_t (by rw [i_eq, ii_0]; omega)]
    | succ d ih =>
      intro c j hcd hj
      obtain ⟨j, rfl⟩ : ∃ i, j = i + 1 := ⟨j - 1, by omega⟩
      rw [L_X8_emitted_e0, if_neg (by rw [i_le, i_of (by omega)]; omega), an_s]
      simp (disch := omega) only [ixp_1, gv_k, i_tno, ih (c + 1) j (by omega) (by omega)]
      by_cases c1 : e < I (o + 1 + 5 + 3 * k + 1) c
      · rw [if_pos c1, if_neg (c := decide _ = true) (by simp only [decide_eq_true_eq]; exact fun q => by rw [i_lt] at c1; rw [i_le] at q; omega)]
      · rw [if_neg c1]
        by_cases c2 : I (o + 1 + 5 + 3 * k + 2) c < e
        · rw [if_pos c2, if_neg (c := decide _ = true) (by simp only [decide_eq_true_eq]; exact fun q => by rw [i_lt] at c2; rw [i_le, i_le] at q; omega)]
        · rw [if_neg c2, if_pos (c := decide _ = true) (by simp only [decide_eq_true_eq]; rw [i_le, i_le]; rw [i_lt] at c1 c2; omega)]
          rfl
  have := key (I (o + 1 + 5 + 3 * k) 8).toInt.toNat 0 n (by omega) (by omega)
  rw [h.tr.cut k hk] at this
  refine Eq.trans this ?_
  cases sCutOff p k e
  · rfl
  · rfl
theorem c_val (hp : PV p) (h : CK I o os p s) {k : Nat} (hk : k < (p 4).toInt.toNat) {a : Int32} (h0 : 0 ≤ a.toInt) (h1 : a.toInt < 360) : F_X8_valueOf n (o + 1 + 5 + 3 * k) I a = some (sVal p k a) := by
  unfold F_X8_valueOf sVal
  rw [h.tr.shp k hk, (sin_at h0 h1 n).1]
  simp only [bd_s]
  by_cases h2 : p (37 + k) = 1
  · rw [if_pos h2, if_pos h2]
    by_cases h3 : (180 : Int32) ≤ a
    · rw [if_pos h3, if_pos h3]
    · rw [if_neg h3, if_neg h3]
  · rw [if_neg h2, if_neg h2]
    by_cases h3 : p (37 + k) = 2
    · rw [if_pos h3, if_pos h3]
    · rw [if_neg h3, if_neg h3]
theorem c_ang (hp : PV p) (h : CK I o os p s) {k : Nat} (hk : k < (p 4).toInt.toNat) (ph way t : Int32) : F_X8_angleOf n (o + 1 + 5 + 3 * k) I ph way t = some (sAng p k ph way t) := by
  have hl := hp.len k hk
  have hl2 := hp.per k hk
  unfold F_X8_angleOf
  rw [h.tr.len k hk, h.tr.per k hk, gd_t, gd_t, fmod_s, bd_s]
  · rfl
  · rw [i_eq, ii_0]; omega
  · rw [i_eq, ii_0]; omega
theorem zmd (x : Int32) : 0 * x = 0 := by simp
theorem zdv (x : Int32) : 0 / x = 0 := by
  rw [i_eq, Int32.toInt_div, ii_0, Int.zero_tdiv]; rfl
theorem c_brt (hn : 2000 ≤ n) (hp : PV p) (h : CK I o os p s) {k : Nat} (hk : k < (p 4).toInt.toNat) (amp ph : Int32) {way : Int32} (hw0 : 0 ≤ way.toInt) (hw1 : way.toInt ≤ 8190) (t : Int32) : F_X8_brings n (o + 1 + 5 + 3 * k) I amp ph way t (p 2) = some (sBrt p k amp ph way t) := by
  have hf := hp.f
  have ha := fm_b (ph + 360 * t / p (9 + k) - 360 * way / p (5 + k))
  unfold F_X8_brings sBrt sFad
  rw [c_del hp h hk, bd_s, c_emit hn hp h hk, bd_s, c_ang hp h hk]
  simp only [bd_s]
  rw [c_val hp h hk (a := sAng p k ph way t) ha.1 ha.2]
  simp only [bd_s]
  by_cases h0 : sEmit p k amp (t - sDel p k way) = 0
  · rw [if_pos h0, h0]
    by_cases h2 : p 2 ≤ 0
    · rw [if_pos h2, zmd, zdv]
    · rw [if_neg h2, zmd, zdv, zmd, zdv]
  rw [if_neg h0]
  by_cases h2 : p 2 ≤ 0
  · rw [if_pos h2, if_pos h2]
  · rw [if_neg h2, if_neg h2, gd_t]
    rw [i_le, ii_0] at h2
    rw [i_eq, ii_0, i_add (by omega) (by omega)]; omega
theorem c_short (hn : 2000 ≤ n) (hp : PV p) (h : CK I o os p s) {k : Nat} (hk : k < (p 4).toInt.toNat) {x y : Int32} (hx : xIn p x) (hy : yIn p y) : F_X7_shortestLength n o os I (Int32.ofNat k) x y = some (sShort p s k x y (s 0)) := by
  have hw := hp.w
  have hh := hp.h
  have hcol := sCol_b hp s k (s 0)
  have hrow := sRow_b hp s k (s 0)
  unfold F_X7_shortestLength sShort
  rw [h.sr.t, c_col hp h hk, bd_s, c_row hp h hk, bd_s, c_shut h, bd_s]
  cases h1 : sShut p s x y
  · rw [if_pos (show b2 false = 0 from rfl), c_cut h, bd_s, if_neg (show ¬ (false = true) by decide)]
    cases h2 : sCut p (sCol p s k (s 0)) x
    · rw [if_pos (show b2 false = 0 from rfl), if_neg (show ¬ (false = true) by decide)]
      have d1 : (sCol p s k (s 0) - x).toInt = (sCol p s k (s 0)).toInt - x.toInt := i_sub (by unfold xIn at hx hcol; omega) (by unfold xIn at hx hcol; omega)
      have d2 : (sRow p s k (s 0) - y).toInt = (sRow p s k (s 0)).toInt - y.toInt := i_sub (by unfold yIn at hy hrow; omega) (by unfold yIn at hy hrow; omega)
      rw [btw_s n h.ru (by unfold xIn at hx hcol; omega) (by unfold yIn at hy hrow; omega), bd_s, far_neg]
    · rw [if_neg (show ¬ b2 true = 0 by decide), if_pos (show true = true from rfl)]
      have key : ∀ (d r j : Nat) (b : Int32), r + d = (p 1).toInt.toNat → d < j → L_X7_shortestLength n o os I (Int32.ofNat k) x y j 0 (sCol p s k (s 0)) (sRow p s k (s 0)) b (Int32.ofNat r) = some (lp (fun r best => if sOpen s (Int32.ofNat r) then (if best = -1 ∨ sThru p (sCol p s k (s 0)) (sRow p s k (s 0)) x y (Int32.ofNat r) < best then sThru p (sCol p s k (s 0)) (sRow p s k (s 0)) x y (Int32.ofNat r) else best) else best) d r b) := by
        intro d
        induction d with
        | zero =>
          intro r j b hr hj
          obtain ⟨j, rfl⟩ : ∃ i, j = i + 1 := ⟨j - 1, by omega⟩
          rw [L_X7_shortestLength_e0, h.tr.h, if_pos (by rw [i_le, i_of (by omega)]; omega)]
          rfl
        | succ d ih =>
          intro r j b hr hj
          obtain ⟨j, rfl⟩ : ∃ i, j = i + 1 := ⟨j - 1, by omega⟩
          have hro : yIn p (Int32.ofNat r) := by unfold yIn; rw [i_of (by omega)]; omega
          rw [L_X7_shortestLength_e0, h.tr.h, if_neg (by rw [i_le, i_of (by omega)]; omega), c_open h, bd_s, c_thr hp h hcol hrow hx hy hro, bd_s, lp_s, ixp_1]
          cases h3 : sOpen s (Int32.ofNat r)
          · rw [if_pos (show b2 false = 0 from rfl), if_neg (show ¬ (false = true) by decide)]
            exact ih (r + 1) j b (by omega) (by omega)
          · rw [if_neg (show ¬ b2 true = 0 by decide), if_pos (show true = true from rfl)]
            by_cases h4 : b = -1
            · rw [if_pos h4, if_pos (Or.inl h4)]
              exact ih (r + 1) j _ (by omega) (by omega)
            · rw [if_neg h4]
              by_cases h5 : sThru p (sCol p s k (s 0)) (sRow p s k (s 0)) x y (Int32.ofNat r) < b
              · rw [if_pos (c := b = -1 ∨ _) (Or.inr h5), show jmin b (sThru p (sCol p s k (s 0)) (sRow p s k (s 0)) x y (Int32.ofNat r)) = sThru p (sCol p s k (s 0)) (sRow p s k (s 0)) x y (Int32.ofNat r) from if_pos h5]
                exact ih (r + 1) j _ (by omega) (by omega)
              · rw [if_neg (c := b = -1 ∨ _) (fun q => q.elim h4 h5), show jmin b (sThru p (sCol p s k (s 0)) (sRow p s k (s 0)) x y (Int32.ofNat r)) = b from if_neg h5]
                exact ih (r + 1) j _ (by omega) (by omega)
      exact key (p 1).toNatClampNeg 0 n (-1) (by rw [i_tn]; omega) (by rw [i_tn]; omega)
  · rw [if_neg (show ¬ b2 true = 0 by decide), if_pos (show true = true from rfl)]
theorem c_imx (h : CK I o os p s) {side : Nat} (hs : side < 4) (x : Int32) : F_X7_imageColumn n o I (Int32.ofNat side) x = some (sImX p side x) := by
  unfold F_X7_imageColumn sImX
  rw [h.tr.w]
  rcases (show side = 0 ∨ side = 1 ∨ side = 2 ∨ side = 3 by omega) with rfl | rfl | rfl | rfl <;> rfl
theorem c_imy (h : CK I o os p s) {side : Nat} (hs : side < 4) (x : Int32) : F_X7_imageRow n o I (Int32.ofNat side) x = some (sImY p side x) := by
  unfold F_X7_imageRow sImY
  rw [h.tr.h]
  rcases (show side = 0 ∨ side = 1 ∨ side = 2 ∨ side = 3 by omega) with rfl | rfl | rfl | rfl <;> rfl
theorem add5 (d a b c e : Int32) : d + a + b + c + e = 0 + a + b + c + e + d := by
  rw [Int32.zero_add]
  ac_rfl
theorem c_part (hn : 2000 ≤ n) (hp : PV p) (hv : SV p s) (h : CK I o os p s) {k : Nat} (hk : k < (p 4).toInt.toNat) {x y : Int32} (hx : xIn p x) (hy : yIn p y) (t : Int32) : F_X7_partOf n o os I (Int32.ofNat k) x y t = some (sPart p s k x y t) := by
  have h4 := hp.c
  have hw := hp.w
  have hh := hp.h
  have hcol := sCol_b hp s k t
  have hrow := sRow_b hp s k t
  unfold F_X7_partOf sPart
  simp (disch := omega) only [gv_k, i_tno, h.sr.on k hk, h.sr.amp k hk, h.sr.ph k hk, c_col hp h hk, c_row hp h hk, c_shut h, c_cut h, bd_s, h.tr.f]
  by_cases h1 : s (2 + k) = 0
  · rw [if_pos h1, if_pos h1]
  rw [if_neg h1, if_neg h1]
  rcases Bool.eq_false_or_eq_true (sShut p s x y) with h2 | h2
  · rw [h2, if_neg (show ¬ b2 true = 0 by decide), if_pos (show true = true from rfl)]
  rw [h2, if_pos (show b2 false = 0 from rfl), if_neg (show ¬ (false = true) by decide)]
  cases h3 : sCut p (sCol p s k t) x
  · rw [if_pos (show b2 false = 0 from rfl), if_neg (show ¬ (false = true) by decide)]
    have d1 : (sCol p s k t - x).toInt = (sCol p s k t).toInt - x.toInt := i_sub (by unfold xIn at hx hcol; omega) (by unfold xIn at hx hcol; omega)
    have d2 : (sRow p s k t - y).toInt = (sRow p s k t).toInt - y.toInt := i_sub (by unfold yIn at hy hrow; omega) (by unfold yIn at hy hrow; omega)
    have hb := far_b (x - sCol p s k t) (y - sRow p s k t)
    rw [btw_s n h.ru (by unfold xIn at hx hcol; omega) (by unfold yIn at hy hrow; omega), bd_s, far_neg, c_brt hn hp h hk _ _ hb.1 (by omega), bd_s]
    have c4 : ∀ c : Nat, c < 4 → ¬ ((4 : Int32) ≤ Int32.ofNat c) := by
      intro c hc
      have : (4 : Int32) = Int32.ofNat 4 := rfl
      rw [this, i_ole (by omega) (by omega)]; omega
    have step : ∀ (j side : Nat) (a : Int32), side < 4 → L_X7_partOf n o os I (Int32.ofNat k) x y t (j + 1) 1 (o + 1 + 5 + 3 * k) (s (6 + k)) (s (10 + k)) (sCol p s k t) (sRow p s k t) a (Int32.ofNat side) = L_X7_partOf n o os I (Int32.ofNat k) x y t j 1 (o + 1 + 5 + 3 * k) (s (6 + k)) (s (10 + k)) (sCol p s k t) (sRow p s k t) (a + sMir p s k side x y t) (Int32.ofNat (side + 1)) := by
      intro j side a hs
      have hm := hp.mir side hs
      rw [L_X7_partOf_e1, if_neg (c4 side hs)]
      simp (disch := omega) only [gv_k, i_tno, h.tr.mir side hs, c_imx h hs, c_imy h hs, bd_s, ixp_1, h.tr.f]
      unfold sMir
      by_cases hz : p (33 + side) = 0
      · rw [if_pos (by rw [hz]; decide), if_pos hz, Int32.add_zero]
      · have hz' : (p (33 + side)).toInt ≠ 0 := fun q => hz (i_eq.mpr (by rw [q]; rfl))
        have e1 := sImX_d (s := s) (side := side) hp hx hcol
        have e2 := sImY_d (s := s) (side := side) hp hy hrow
        rw [if_neg (by rw [i_le, ii_0]; omega), if_neg hz]
        have b1 : (sImX p side (sCol p s k t) - x).toInt.natAbs < 32 := by
          rw [← Int32.neg_sub]
          rw [i_neg (by omega)]; omega
        have b2 : (sImY p side (sRow p s k t) - y).toInt.natAbs < 20 := by
          rw [← Int32.neg_sub]
          rw [i_neg (by omega)]; omega
        have hb := far_b (x - sImX p side (sCol p s k t)) (y - sImY p side (sRow p s k t))
        rw [btw_s n h.ru b1 b2, bd_s, far_neg, c_brt hn hp h hk _ _ hb.1 (by omega), bd_s]
    obtain ⟨j, rfl⟩ : ∃ i, n = i + 5 := ⟨n - 5, by omega⟩
    have z0 : (0 : Int32) = Int32.ofNat 0 := rfl
    have L : L_X7_partOf (j + 5) o os I (Int32.ofNat k) x y t (j + 4 + 1) 1 (o + 1 + 5 + 3 * k) (s (6 + k)) (s (10 + k)) (sCol p s k t) (sRow p s k t) (sBrt p k (s (6 + k)) (s (10 + k)) (far (x - sCol p s k t) (y - sRow p s k t)) t) (Int32.ofNat 0) = some (0 + sMir p s k 0 x y t + sMir p s k 1 x y t + sMir p s k 2 x y t + sMir p s k 3 x y t + sBrt p k (s (6 + k)) (s (10 + k)) (far (x - sCol p s k t) (y - sRow p s k t)) t) := by
      rw [step _ _ _ (by decide), step _ _ _ (by decide), step _ _ _ (by decide), step _ _ _ (by decide), L_X7_partOf_e1, if_pos (by decide)]
      congr 1
      exact add5 _ _ _ _ _
    exact L
  · rw [if_neg (show ¬ b2 true = 0 by decide), if_pos (show true = true from rfl)]
    have ho := hv.o
    have key : ∀ (d r j : Nat) (a : Int32), r + d = (p 1).toInt.toNat → d < j → L_X7_partOf n o os I (Int32.ofNat k) x y t j 0 (o + 1 + 5 + 3 * k) (s (6 + k)) (s (10 + k)) (sCol p s k t) (sRow p s k t) a (Int32.ofNat r) = some (if s 1 = 0 then 0 else lp (fun r a => if sOpen s (Int32.ofNat r) then a + sBrt p k (s (6 + k)) (s (10 + k)) (sThru p (sCol p s k t) (sRow p s k t) x y (Int32.ofNat r)) t else a) d r a / one (s 1)) := by
      intro d
      induction d with
      | zero =>
        intro r j a hr hj
        obtain ⟨j, rfl⟩ : ∃ i, j = i + 1 := ⟨j - 1, by omega⟩
        rw [L_X7_partOf_e0, h.tr.h, if_pos (by rw [i_le, i_of (by omega)]; omega), h.sr.op, bitc_s, bd_s]
        by_cases h5 : s 1 = 0
        · rw [if_pos h5, if_pos h5]
        · have ho1 : (s 1).toInt ≠ 0 := fun q => h5 (i_eq.mpr (by rw [q]; rfl))
          have hone := one_b (v := s 1) (by omega) (by omega)
          rw [if_neg h5, if_neg h5, gd_t (by rw [i_eq, ii_0]; omega)]
          rfl
      | succ d ih =>
        intro r j a hr hj
        obtain ⟨j, rfl⟩ : ∃ i, j = i + 1 := ⟨j - 1, by omega⟩
        have hro : yIn p (Int32.ofNat r) := by unfold yIn; rw [i_of (by omega)]; omega
        have hb := sThru_b p (sCol p s k t) (sRow p s k t) x y (Int32.ofNat r)
        rw [L_X7_partOf_e0, h.tr.h, if_neg (by rw [i_le, i_of (by omega)]; omega), c_open h, bd_s, c_thr hp h hcol hrow hx hy hro, bd_s, h.tr.f, c_brt hn hp h hk _ _ hb.1 hb.2, bd_s, lp_s, ixp_1]
        cases h6 : sOpen s (Int32.ofNat r)
        · rw [if_pos (show b2 false = 0 from rfl), if_neg (show ¬ (false = true) by decide)]
          exact ih (r + 1) j a (by omega) (by omega)
        · rw [if_neg (show ¬ b2 true = 0 by decide), if_pos (show true = true from rfl)]
          exact ih (r + 1) j _ (by omega) (by omega)
    exact key (p 1).toNatClampNeg 0 n 0 (by rw [i_tn]; omega) (by rw [i_tn]; omega)
theorem c_wave (hn : 2000 ≤ n) (hp : PV p) (hv : SV p s) (h : CK I o os p s) {x y : Int32} (hx : xIn p x) (hy : yIn p y) (t : Int32) : F_X7_waveOf n o os I x y t = some (sWave p s x y t) := by
  have h4 := hp.c
  have h3 := hp.sh
  have l2 : ∀ (d i j : Nat) (a : Int32), i + d = (p 60).toInt.toNat → d < j → L_X7_waveOf n o os I x y t j 1 a (Int32.ofNat i) = some (lp (fun i a => if sHold p i x y then a * p (61 + 5 * i + 4) / 100 else a) d i a) := by
    intro d
    induction d with
    | zero =>
      intro i j a hi hj
      obtain ⟨j, rfl⟩ : ∃ i, j = i + 1 := ⟨j - 1, by omega⟩
      rw [L_X7_waveOf_e1, h.tr.shc, if_pos (by rw [i_le, i_of (by omega)]; omega)]
      rfl
    | succ d ih =>
      intro i j a hi hj
      obtain ⟨j, rfl⟩ : ∃ i, j = i + 1 := ⟨j - 1, by omega⟩
      have hi' : i < (p 60).toInt.toNat := by omega
      rw [L_X7_waveOf_e1, h.tr.shc, if_neg (by rw [i_le, i_of (by omega)]; omega), lp_s]
      have A := fun a => ih (i + 1) j a (by omega) (by omega)
      have hh : F_X5_holds n (o + 2 + 16 + i) I x y = some (b2 (sHold p i x y)) := by
        unfold F_X5_holds sHold
        rw [h.tr.s0 i hi', h.tr.s1 i hi', h.tr.s2 i hi', h.tr.s3 i hi']
        simp only [i_lt, i_le]
        by_cases c1 : x.toInt < (p (61 + 5 * i)).toInt
        · rw [if_pos c1, decide_eq_false (by omega)]; rfl
        rw [if_neg c1]
        by_cases c2 : (p (61 + 5 * i + 2)).toInt < x.toInt
        · rw [if_pos c2, decide_eq_false (by omega)]; rfl
        rw [if_neg c2]
        by_cases c3 : y.toInt < (p (61 + 5 * i + 1)).toInt
        · rw [if_pos c3, decide_eq_false (by omega)]; rfl
        rw [if_neg c3]
        by_cases c4 : (p (61 + 5 * i + 3)).toInt < y.toInt
        · rw [if_pos c4, decide_eq_false (by omega)]; rfl
        rw [if_neg c4, decide_eq_true (by omega)]; rfl
      simp (disch := omega) only [ixp_1, gv_k, i_tno, hh, bd_s, A, h.tr.s4 i hi']
      cases sHold p i x y
      · rfl
      · rfl
  have l1 : ∀ (d k j : Nat) (a : Int32), k + d = (p 4).toInt.toNat → d + 5 < j → L_X7_waveOf n o os I x y t j 0 a (Int32.ofNat k) = some (lp (fun i a => if sHold p i x y then a * p (61 + 5 * i + 4) / 100 else a) (p 60).toNatClampNeg 0 (lp (fun k a => a + sPart p s k x y t) d k a)) := by
    intro d
    induction d with
    | zero =>
      intro k j a hk hj
      obtain ⟨j, rfl⟩ : ∃ i, j = i + 1 := ⟨j - 1, by omega⟩
      rw [L_X7_waveOf_e0, h.tr.c, if_pos (by rw [i_le, i_of (by omega)]; omega)]
      exact l2 (p 60).toNatClampNeg 0 j a (by rw [i_tn]; omega) (by rw [i_tn]; omega)
    | succ d ih =>
      intro k j a hk hj
      obtain ⟨j, rfl⟩ : ∃ i, j = i + 1 := ⟨j - 1, by omega⟩
      rw [L_X7_waveOf_e0, h.tr.c, if_neg (by rw [i_le, i_of (by omega)]; omega), c_part hn hp hv h (by omega) hx hy t, bd_s, lp_s, ixp_1]
      exact ih (k + 1) j (a + sPart p s k x y t) (by omega) (by omega)
  exact l1 (p 4).toNatClampNeg 0 n 0 (by rw [i_tn]; omega) (by rw [i_tn]; omega)
theorem c_calm (hn : 2000 ≤ n) (hp : PV p) (hv : SV p s) (h : CK I o os p s) {x y : Int32} (hx : xIn p x) (hy : yIn p y) {m : Int32} (hm0 : 0 ≤ m.toInt) (hm : m.toInt ≤ 200) (tol : Int32) : F_X7_staysCalm n o os I x y m tol = some (b2 (sCalm p s x y m tol)) := by
  have key : ∀ (d i j : Nat), i + d = m.toInt.toNat → d < j → L_X7_staysCalm n o os I x y m tol j 0 (Int32.ofNat i) = some (b2 (al (fun i => decide (jabs (sWave p s x y (s 0 + Int32.ofNat i)) ≤ tol)) d i)) := by
    intro d
    induction d with
    | zero =>
      intro i j hi hj
      obtain ⟨j, rfl⟩ : ∃ i, j = i + 1 := ⟨j - 1, by omega⟩
      rw [L_X7_staysCalm_e0, if_pos (by rw [i_le, i_of (by omega)]; omega)]
      rfl
    | succ d ih =>
      intro i j hi hj
      obtain ⟨j, rfl⟩ : ∃ i, j = i + 1 := ⟨j - 1, by omega⟩
      rw [L_X7_staysCalm_e0, if_neg (by rw [i_le, i_of (by omega)]; omega), h.sr.t, ixp_1, al_s, c_wave hn hp hv h hx hy, bd_s]
      by_cases c : jabs (sWave p s x y (s 0 + Int32.ofNat i)) ≤ tol
      · rw [if_pos c, if_pos (decide_eq_true c)]
        exact ih (i + 1) j (by omega) (by omega)
      · rw [if_neg c, if_neg (by simp only [decide_eq_true_eq]; exact c)]
        rfl
  exact key m.toNatClampNeg 0 n (by rw [i_tn]; omega) (by rw [i_tn]; omega)
theorem c_ener (hn : 2000 ≤ n) (hp : PV p) (hv : SV p s) (h : CK I o os p s) {x y : Int32} (hx : xIn p x) (hy : yIn p y) {m : Int32} (hm0 : 0 ≤ m.toInt) (hm : m.toInt ≤ 200) : F_X7_energyOf n o os I x y m = some (sEner p s x y m) := by
  have key : ∀ (d i j : Nat) (a : Int64), i + d = m.toInt.toNat → d < j → L_X7_energyOf n o os I x y m j 0 a (Int32.ofNat i) = some (lp (fun i a => a + (sWave p s x y (s 0 + Int32.ofNat i)).toInt64 * (sWave p s x y (s 0 + Int32.ofNat i)).toInt64) d i a) := by
    intro d
    induction d with
    | zero =>
      intro i j a hi hj
      obtain ⟨j, rfl⟩ : ∃ i, j = i + 1 := ⟨j - 1, by omega⟩
      rw [L_X7_energyOf_e0, if_pos (by rw [i_le, i_of (by omega)]; omega)]
      rfl
    | succ d ih =>
      intro i j a hi hj
      obtain ⟨j, rfl⟩ : ∃ i, j = i + 1 := ⟨j - 1, by omega⟩
      rw [L_X7_energyOf_e0, if_neg (by rw [i_le, i_of (by omega)]; omega), h.sr.t, ixp_1, lp_s, c_wave hn hp hv h hx hy, bd_s]
      exact ih (i + 1) j _ (by omega) (by omega)
  exact key m.toNatClampNeg 0 n 0 (by rw [i_tn]; omega) (by rw [i_tn]; omega)
end CLASS

