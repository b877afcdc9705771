/-! WHAT IS SAID: the waves of a plan p and a state s, written after the reference; p and s are its arrays -/
abbrev gP : Type := Nat → Int32
def rtS (v r b : Int32) : Int32 := if v < (r + b) * (r + b) then r else r + b
def rtL (v : Int32) : List Int32 → Int32 → Int32
  | [], r => r
  | b :: l, r => rtL v l (rtS v r b)
def rt (v : Int32) : Int32 := rtL v [2048, 1024, 512, 256, 128, 64, 32, 16, 8, 4, 2, 1] 0
def dst (x y : Nat) : Int32 := rt (Int32.ofNat (10000 * (x * x + y * y)))
def far (dx dy : Int32) : Int32 := dst (jabs dx).toNatClampNeg (jabs dy).toNatClampNeg
def md (a b : Int32) : Int32 := a - a / b * b
def fm (a : Int32) : Int32 := md (md a 360 + 360) 360
def sCol (p s : gP) (k : Nat) (t : Int32) : Int32 := jmax 0 (jmin (p 0 - 1) (s (14 + k) + s (22 + k) * t / 100))
def sRow (p s : gP) (k : Nat) (t : Int32) : Int32 := jmax 0 (jmin (p 1 - 1) (s (18 + k) + s (26 + k) * t / 100))
def sOpen (s : gP) (y : Int32) : Bool := decide ((s 1 >>> (y &&& 31)) &&& 1 = 1)
def sCut (p : gP) (a b : Int32) : Bool := decide (p 3 ≠ -1 ∧ (a < p 3 ∧ p 3 < b ∨ p 3 < a ∧ b < p 3))
def sShut (p s : gP) (x y : Int32) : Bool := decide (p 3 ≠ -1 ∧ x = p 3 ∧ sOpen s y = false)
def sThru (p : gP) (fx fy x y row : Int32) : Int32 := far (p 3 - fx) (row - fy) + far (x - p 3) (y - row)
def sShort (p s : gP) (k : Nat) (x y t : Int32) : Int32 :=
  if sShut p s x y then -1
  else if sCut p (sCol p s k t) x then
    lp (fun r best => if sOpen s (Int32.ofNat r) then (if best = -1 ∨ sThru p (sCol p s k t) (sRow p s k t) x y (Int32.ofNat r) < best then sThru p (sCol p s k t) (sRow p s k t) x y (Int32.ofNat r) else best) else best) (p 1).toNatClampNeg 0 (-1)
  else far (x - sCol p s k t) (y - sRow p s k t)
/-- P holds at one of the d places from k on -/
def an (P : Nat → Bool) : Nat → Nat → Bool
  | 0, _ => false
  | d + 1, k => if P k then true else an P d (k + 1)
theorem an_s (P : Nat → Bool) (d k : Nat) : an P (d + 1) k = if P k then true else an P d (k + 1) := rfl
theorem an_iff {P : Nat → Bool} : ∀ (d k : Nat), an P d k = true ↔ ∃ i, k ≤ i ∧ i < k + d ∧ P i = true
  | 0, k => ⟨fun h => by simp [an] at h, fun ⟨i, h1, h2, _⟩ => by omega⟩
  | d + 1, k => by
    unfold an
    by_cases h : P k = true
    · rw [if_pos h]; exact ⟨fun _ => ⟨k, by omega, by omega, h⟩, fun _ => rfl⟩
    · rw [if_neg h, an_iff d (k + 1)]
      constructor
      · rintro ⟨i, h1, h2, h3⟩; exact ⟨i, by omega, by omega, h3⟩
      · rintro ⟨i, h1, h2, h3⟩
        by_cases e : i = k
        · subst e; exact absurd h3 h
        · exact ⟨i, by omega, by omega, h3⟩
def sCutOff (p : gP) (k : Nat) (e : Int32) : Bool := an (fun i => decide (p (100 + 20 * k + i) ≤ e ∧ e ≤ p (110 + 20 * k + i))) (p (90 + k)).toInt.toNat 0
def sEmit (p : gP) (k : Nat) (amp e : Int32) : Int32 :=
  if e < p (13 + k) then 0
  else if p (17 + k) < e then 0
  else if sCutOff p k e then 0
  else if p (21 + k) = 1 then (if p (25 + k) ≤ md (e - p (13 + k)) (p (25 + k) + p (29 + k)) then 0 else amp)
  else if p (21 + k) = 2 then amp * jmin (e - p (13 + k) + 1) (p (25 + k)) / p (25 + k)
  else amp
def sAng (p : gP) (k : Nat) (ph way t : Int32) : Int32 := fm (ph + 360 * t / p (9 + k) - 360 * way / p (5 + k))
def sSin (a : Int32) : Int32 :=
  if 180 ≤ a then -(4000 * md a 180 * (180 - md a 180) / (40500 - md a 180 * (180 - md a 180)))
  else 4000 * md a 180 * (180 - md a 180) / (40500 - md a 180 * (180 - md a 180))
def sVal (p : gP) (k : Nat) (a : Int32) : Int32 :=
  if p (37 + k) = 1 then (if 180 ≤ a then -1000 else 1000)
  else if p (37 + k) = 2 then a * 1000 / 180 - 1000
  else sSin a
def sDel (p : gP) (k : Nat) (way : Int32) : Int32 := way * p (9 + k) / p (5 + k)
def sFad (p : gP) (a way : Int32) : Int32 := if p 2 ≤ 0 then a else a * p 2 / (p 2 + way)
def sBrt (p : gP) (k : Nat) (amp ph way t : Int32) : Int32 := sFad p (sEmit p k amp (t - sDel p k way)) way * sVal p k (sAng p k ph way t) / 1000
def sImX (p : gP) (side : Nat) (x : Int32) : Int32 := if side = 0 then -1 - x else if side = 1 then 2 * p 0 - 1 - x else x
def sImY (p : gP) (side : Nat) (y : Int32) : Int32 := if side = 2 then -1 - y else if side = 3 then 2 * p 1 - 1 - y else y
def sMir (p s : gP) (k side : Nat) (x y t : Int32) : Int32 :=
  if p (33 + side) = 0 then 0
  else sBrt p k (s (6 + k)) (s (10 + k)) (far (x - sImX p side (sCol p s k t)) (y - sImY p side (sRow p s k t))) t * p (33 + side) / 100
def one (v : Int32) : Int32 := (F_J6_bitCount_0f7a4 0 v).getD 0
def sPart (p s : gP) (k : Nat) (x y t : Int32) : Int32 :=
  if s (2 + k) = 0 then 0
  else if sShut p s x y then 0
  else if sCut p (sCol p s k t) x then
    (if s 1 = 0 then 0
     else lp (fun r a => if sOpen s (Int32.ofNat r) then a + sBrt p k (s (6 + k)) (s (10 + k)) (sThru p (sCol p s k t) (sRow p s k t) x y (Int32.ofNat r)) t else a) (p 1).toNatClampNeg 0 0 / one (s 1))
  else 0 + sMir p s k 0 x y t + sMir p s k 1 x y t + sMir p s k 2 x y t + sMir p s k 3 x y t + sBrt p k (s (6 + k)) (s (10 + k)) (far (x - sCol p s k t) (y - sRow p s k t)) t
def sHold (p : gP) (i : Nat) (x y : Int32) : Bool := decide (p (61 + 5 * i) ≤ x ∧ x ≤ p (61 + 5 * i + 2) ∧ p (61 + 5 * i + 1) ≤ y ∧ y ≤ p (61 + 5 * i + 3))
def sWave (p s : gP) (x y t : Int32) : Int32 :=
  lp (fun i a => if sHold p i x y then a * p (61 + 5 * i + 4) / 100 else a) (p 60).toNatClampNeg 0 (lp (fun k a => a + sPart p s k x y t) (p 4).toNatClampNeg 0 0)
/-- P holds at the d places from k on -/
def al (P : Nat → Bool) : Nat → Nat → Bool
  | 0, _ => true
  | d + 1, k => if P k then al P d (k + 1) else false
theorem al_s (P : Nat → Bool) (d k : Nat) : al P (d + 1) k = if P k then al P d (k + 1) else false := rfl
def sCalm (p s : gP) (x y n tol : Int32) : Bool := al (fun i => decide (jabs (sWave p s x y (s 0 + Int32.ofNat i)) ≤ tol)) n.toNatClampNeg 0
def sEner (p s : gP) (x y n : Int32) : Int64 := lp (fun i a => a + (sWave p s x y (s 0 + Int32.ofNat i)).toInt64 * (sWave p s x y (s 0 + Int32.ofNat i)).toInt64) n.toNatClampNeg 0 0
/-- a plan within its bounds -/
def PV (p : gP) : Prop := (1 ≤ (p 0).toInt ∧ (p 0).toInt ≤ 16) ∧ (1 ≤ (p 1).toInt ∧ (p 1).toInt ≤ 10) ∧ (0 ≤ (p 2).toInt ∧ (p 2).toInt ≤ 9999) ∧ (-1 ≤ (p 3).toInt ∧ (p 3).toInt < (p 0).toInt) ∧ (0 ≤ (p 4).toInt ∧ (p 4).toInt ≤ 4) ∧ (∀ k, k < (p 4).toInt.toNat → 50 ≤ (p (5 + k)).toInt ∧ (p (5 + k)).toInt ≤ 9999) ∧ (∀ k, k < (p 4).toInt.toNat → 2 ≤ (p (9 + k)).toInt ∧ (p (9 + k)).toInt ≤ 99) ∧ (∀ k, k < (p 4).toInt.toNat → 0 ≤ (p (13 + k)).toInt ∧ (p (13 + k)).toInt ≤ 9999) ∧ (∀ k, k < (p 4).toInt.toNat → (p (13 + k)).toInt ≤ (p (17 + k)).toInt ∧ (p (17 + k)).toInt ≤ 9999) ∧ (∀ k, k < (p 4).toInt.toNat → p (21 + k) = 0 ∨ (p (21 + k) = 1 ∧ 1 ≤ (p (25 + k)).toInt ∧ (p (25 + k)).toInt ≤ 99 ∧ 1 ≤ (p (29 + k)).toInt ∧ (p (29 + k)).toInt ≤ 99) ∨ (p (21 + k) = 2 ∧ 1 ≤ (p (25 + k)).toInt ∧ (p (25 + k)).toInt ≤ 99)) ∧ (∀ i, i < 4 → 0 ≤ (p (33 + i)).toInt ∧ (p (33 + i)).toInt ≤ 100) ∧ (0 ≤ (p 41).toInt ∧ (p 41).toInt ≤ 6) ∧ (0 ≤ (p 60).toInt ∧ (p 60).toInt ≤ 3) ∧ (∀ i, i < (p 60).toInt.toNat → 0 ≤ (p (61 + 5 * i + 4)).toInt ∧ (p (61 + 5 * i + 4)).toInt ≤ 200) ∧ (0 ≤ (p 76).toInt ∧ (p 76).toInt ≤ 4) ∧ (∀ i, i < (p 76).toInt.toNat → 0 ≤ (p (77 + 2 * i)).toInt ∧ (p (77 + 2 * i)).toInt < (p 0).toInt) ∧ (∀ i, i < (p 76).toInt.toNat → 0 ≤ (p (77 + 2 * i + 1)).toInt ∧ (p (77 + 2 * i + 1)).toInt < (p 1).toInt)
theorem PV.w {p : gP} (H : PV p) : 1 ≤ (p 0).toInt ∧ (p 0).toInt ≤ 16 := H.1
theorem PV.h {p : gP} (H : PV p) : 1 ≤ (p 1).toInt ∧ (p 1).toInt ≤ 10 := H.2.1
theorem PV.f {p : gP} (H : PV p) : 0 ≤ (p 2).toInt ∧ (p 2).toInt ≤ 9999 := H.2.2.1
theorem PV.wl {p : gP} (H : PV p) : -1 ≤ (p 3).toInt ∧ (p 3).toInt < (p 0).toInt := H.2.2.2.1
theorem PV.c {p : gP} (H : PV p) : 0 ≤ (p 4).toInt ∧ (p 4).toInt ≤ 4 := H.2.2.2.2.1
theorem PV.len {p : gP} (H : PV p) : ∀ k, k < (p 4).toInt.toNat → 50 ≤ (p (5 + k)).toInt ∧ (p (5 + k)).toInt ≤ 9999 := H.2.2.2.2.2.1
theorem PV.per {p : gP} (H : PV p) : ∀ k, k < (p 4).toInt.toNat → 2 ≤ (p (9 + k)).toInt ∧ (p (9 + k)).toInt ≤ 99 := H.2.2.2.2.2.2.1
theorem PV.frm {p : gP} (H : PV p) : ∀ k, k < (p 4).toInt.toNat → 0 ≤ (p (13 + k)).toInt ∧ (p (13 + k)).toInt ≤ 9999 := H.2.2.2.2.2.2.2.1
theorem PV.unt {p : gP} (H : PV p) : ∀ k, k < (p 4).toInt.toNat → (p (13 + k)).toInt ≤ (p (17 + k)).toInt ∧ (p (17 + k)).toInt ≤ 9999 := H.2.2.2.2.2.2.2.2.1
theorem PV.srt {p : gP} (H : PV p) : ∀ k, k < (p 4).toInt.toNat → p (21 + k) = 0 ∨ (p (21 + k) = 1 ∧ 1 ≤ (p (25 + k)).toInt ∧ (p (25 + k)).toInt ≤ 99 ∧ 1 ≤ (p (29 + k)).toInt ∧ (p (29 + k)).toInt ≤ 99) ∨ (p (21 + k) = 2 ∧ 1 ≤ (p (25 + k)).toInt ∧ (p (25 + k)).toInt ≤ 99) := H.2.2.2.2.2.2.2.2.2.1
theorem PV.mir {p : gP} (H : PV p) : ∀ i, i < 4 → 0 ≤ (p (33 + i)).toInt ∧ (p (33 + i)).toInt ≤ 100 := H.2.2.2.2.2.2.2.2.2.2.1
theorem PV.cut {p : gP} (H : PV p) : 0 ≤ (p 41).toInt ∧ (p 41).toInt ≤ 6 := H.2.2.2.2.2.2.2.2.2.2.2.1
theorem PV.sh {p : gP} (H : PV p) : 0 ≤ (p 60).toInt ∧ (p 60).toInt ≤ 3 := H.2.2.2.2.2.2.2.2.2.2.2.2.1
theorem PV.pct {p : gP} (H : PV p) : ∀ i, i < (p 60).toInt.toNat → 0 ≤ (p (61 + 5 * i + 4)).toInt ∧ (p (61 + 5 * i + 4)).toInt ≤ 200 := H.2.2.2.2.2.2.2.2.2.2.2.2.2.1
theorem PV.ga {p : gP} (H : PV p) : 0 ≤ (p 76).toInt ∧ (p 76).toInt ≤ 4 := H.2.2.2.2.2.2.2.2.2.2.2.2.2.2.1
theorem PV.gx {p : gP} (H : PV p) : ∀ i, i < (p 76).toInt.toNat → 0 ≤ (p (77 + 2 * i)).toInt ∧ (p (77 + 2 * i)).toInt < (p 0).toInt := H.2.2.2.2.2.2.2.2.2.2.2.2.2.2.2.1
theorem PV.gy {p : gP} (H : PV p) : ∀ i, i < (p 76).toInt.toNat → 0 ≤ (p (77 + 2 * i + 1)).toInt ∧ (p (77 + 2 * i + 1)).toInt < (p 1).toInt := H.2.2.2.2.2.2.2.2.2.2.2.2.2.2.2.2
theorem PV.mk {p : gP} (x_w : 1 ≤ (p 0).toInt ∧ (p 0).toInt ≤ 16) (x_h : 1 ≤ (p 1).toInt ∧ (p 1).toInt ≤ 10) (x_f : 0 ≤ (p 2).toInt ∧ (p 2).toInt ≤ 9999) (x_wl : -1 ≤ (p 3).toInt ∧ (p 3).toInt < (p 0).toInt) (x_c : 0 ≤ (p 4).toInt ∧ (p 4).toInt ≤ 4) (x_len : ∀ k, k < (p 4).toInt.toNat → 50 ≤ (p (5 + k)).toInt ∧ (p (5 + k)).toInt ≤ 9999) (x_per : ∀ k, k < (p 4).toInt.toNat → 2 ≤ (p (9 + k)).toInt ∧ (p (9 + k)).toInt ≤ 99) (x_frm : ∀ k, k < (p 4).toInt.toNat → 0 ≤ (p (13 + k)).toInt ∧ (p (13 + k)).toInt ≤ 9999) (x_unt : ∀ k, k < (p 4).toInt.toNat → (p (13 + k)).toInt ≤ (p (17 + k)).toInt ∧ (p (17 + k)).toInt ≤ 9999) (x_srt : ∀ k, k < (p 4).toInt.toNat → p (21 + k) = 0 ∨ (p (21 + k) = 1 ∧ 1 ≤ (p (25 + k)).toInt ∧ (p (25 + k)).toInt ≤ 99 ∧ 1 ≤ (p (29 + k)).toInt ∧ (p (29 + k)).toInt ≤ 99) ∨ (p (21 + k) = 2 ∧ 1 ≤ (p (25 + k)).toInt ∧ (p (25 + k)).toInt ≤ 99)) (x_mir : ∀ i, i < 4 → 0 ≤ (p (33 + i)).toInt ∧ (p (33 + i)).toInt ≤ 100) (x_cut : 0 ≤ (p 41).toInt ∧ (p 41).toInt ≤ 6) (x_sh : 0 ≤ (p 60).toInt ∧ (p 60).toInt ≤ 3) (x_pct : ∀ i, i < (p 60).toInt.toNat → 0 ≤ (p (61 + 5 * i + 4)).toInt ∧ (p (61 + 5 * i + 4)).toInt ≤ 200) (x_ga : 0 ≤ (p 76).toInt ∧ (p 76).toInt ≤ 4) (x_gx : ∀ i, i < (p 76).toInt.toNat → 0 ≤ (p (77 + 2 * i)).toInt ∧ (p (77 + 2 * i)).toInt < (p 0).toInt) (x_gy : ∀ i, i < (p 76).toInt.toNat → 0 ≤ (p (77 + 2 * i + 1)).toInt ∧ (p (77 + 2 * i + 1)).toInt < (p 1).toInt) : PV p := by
  unfold PV
  exact ⟨x_w, x_h, x_f, x_wl, x_c, x_len, x_per, x_frm, x_unt, x_srt, x_mir, x_cut, x_sh, x_pct, x_ga, x_gx, x_gy⟩
/-- a state within its bounds -/
def SV (p s : gP) : Prop := (0 ≤ (s 0).toInt ∧ (s 0).toInt ≤ 9999) ∧ (0 ≤ (s 1).toInt ∧ (s 1).toInt < 1024) ∧ (∀ k, k < 4 → s (2 + k) = 0 ∨ s (2 + k) = 1) ∧ (∀ k, k < (p 4).toInt.toNat → 0 ≤ (s (6 + k)).toInt ∧ (s (6 + k)).toInt ≤ 999)
theorem SV.t {p s : gP} (H : SV p s) : 0 ≤ (s 0).toInt ∧ (s 0).toInt ≤ 9999 := H.1
theorem SV.o {p s : gP} (H : SV p s) : 0 ≤ (s 1).toInt ∧ (s 1).toInt < 1024 := H.2.1
theorem SV.on {p s : gP} (H : SV p s) : ∀ k, k < 4 → s (2 + k) = 0 ∨ s (2 + k) = 1 := H.2.2.1
theorem SV.amp {p s : gP} (H : SV p s) : ∀ k, k < (p 4).toInt.toNat → 0 ≤ (s (6 + k)).toInt ∧ (s (6 + k)).toInt ≤ 999 := H.2.2.2
theorem SV.mk {p s : gP} (x_t : 0 ≤ (s 0).toInt ∧ (s 0).toInt ≤ 9999) (x_o : 0 ≤ (s 1).toInt ∧ (s 1).toInt < 1024) (x_on : ∀ k, k < 4 → s (2 + k) = 0 ∨ s (2 + k) = 1) (x_amp : ∀ k, k < (p 4).toInt.toNat → 0 ≤ (s (6 + k)).toInt ∧ (s (6 + k)).toInt ≤ 999) : SV p s := by
  unfold SV
  exact ⟨x_t, x_o, x_on, x_amp⟩
def xIn (p : gP) (x : Int32) : Prop := 0 ≤ x.toInt ∧ x.toInt < (p 0).toInt
def yIn (p : gP) (y : Int32) : Prop := 0 ≤ y.toInt ∧ y.toInt < (p 1).toInt
/-! numbers of the waves -/
theorem rtS_b {v r b : Int32} {R B : Int} (h1 : 0 ≤ r.toInt) (h2 : r.toInt ≤ R) (h3 : 0 ≤ b.toInt) (h4 : b.toInt ≤ B) (h5 : R + B < 2147483648) : 0 ≤ (rtS v r b).toInt ∧ (rtS v r b).toInt ≤ R + B := by
  unfold rtS
  have e : (r + b).toInt = r.toInt + b.toInt := i_add (by omega) (by omega)
  by_cases h : v < (r + b) * (r + b)
  · rw [if_pos h]; omega
  · rw [if_neg h, e]; omega
theorem rtL_b {v : Int32} : ∀ (l : List Int32) (r : Int32) (R : Int), 0 ≤ r.toInt → r.toInt ≤ R → (∀ b ∈ l, 0 ≤ b.toInt) → R + (l.map fun b => b.toInt).sum < 2147483648 → 0 ≤ (rtL v l r).toInt ∧ (rtL v l r).toInt ≤ R + (l.map fun b => b.toInt).sum
  | [], r, R, h1, h2, _, _ => by simp [rtL]; omega
  | b :: l, r, R, h1, h2, h3, h4 => by
    have hb := h3 b (by simp)
    have hl : ∀ b ∈ l, 0 ≤ b.toInt := fun c hc => h3 c (by simp [hc])
    have hs : 0 ≤ (l.map fun b => b.toInt).sum := by
      clear h4 h3
      induction l with
      | nil => simp
      | cons c l ih =>
        have := hl c (by simp)
        have := ih fun d hd => hl d (by simp [hd])
        simp only [List.map_cons, List.sum_cons]; omega
    simp only [List.map_cons, List.sum_cons] at h4 ⊢
    have q := rtS_b (v := v) (r := r) (b := b) (R := R) (B := b.toInt) h1 h2 hb (Int.le_refl _) (by omega)
    have := rtL_b (v := v) l (rtS v r b) (R + b.toInt) q.1 q.2 hl (by omega)
    show 0 ≤ (rtL v l (rtS v r b)).toInt ∧ (rtL v l (rtS v r b)).toInt ≤ _
    omega
theorem rt_b (v : Int32) : 0 ≤ (rt v).toInt ∧ (rt v).toInt ≤ 4095 := by
  have := rtL_b (v := v) [2048, 1024, 512, 256, 128, 64, 32, 16, 8, 4, 2, 1] 0 0 (by decide) (by decide) (by decide) (by decide)
  exact this
theorem far_b (dx dy : Int32) : 0 ≤ (far dx dy).toInt ∧ (far dx dy).toInt ≤ 4095 := rt_b _
theorem far_neg (a b c d : Int32) : far (a - b) (c - d) = far (b - a) (d - c) := by unfold far; rw [jabs_sub a b, jabs_sub c d]
theorem sThru_b (p : gP) (fx fy x y row : Int32) : 0 ≤ (sThru p fx fy x y row).toInt ∧ (sThru p fx fy x y row).toInt ≤ 8190 := by
  unfold sThru
  have h1 := far_b (p 3 - fx) (row - fy)
  have h2 := far_b (x - p 3) (y - row)
  rw [i_add (by omega) (by omega)]; omega
theorem tm_np {a b : Int} (h : a ≤ 0) : a.tmod b ≤ 0 := by
  have := Int.tmod_nonneg b (a := -a) (by omega)
  rw [Int.neg_tmod] at this; omega
theorem td_np {a b : Int} (h : a ≤ 0) (hb : 0 ≤ b) : a.tdiv b ≤ 0 := by
  have := Int.tdiv_nonneg (a := -a) (b := b) (by omega) hb
  rw [Int.neg_tdiv] at this; omega
theorem md_i {a b : Int32} (hb : 0 < b.toInt) : (md a b).toInt = a.toInt.tmod b.toInt := by
  unfold md
  have hd : (a / b).toInt = a.toInt.tdiv b.toInt := i_div (Or.inr (by omega))
  have e := Int.tmod_add_mul_tdiv a.toInt b.toInt
  have h1 := i_lo a
  have h2 := i_hi a
  have hm : (a / b * b).toInt = a.toInt.tdiv b.toInt * b.toInt := by
    rw [i_mul, hd]
    · rw [hd, Int.mul_comm]
      rcases Int.lt_or_le a.toInt 0 with h | h
      · have := tm_np (b := b.toInt) (Int.le_of_lt h)
        omega
      · have := Int.tmod_lt_of_pos a.toInt hb
        have := Int.tmod_nonneg b.toInt h
        have : 0 ≤ b.toInt * a.toInt.tdiv b.toInt := Int.mul_nonneg (by omega) (Int.tdiv_nonneg h (by omega))
        omega
    · rw [hd, Int.mul_comm]
      rcases Int.lt_or_le a.toInt 0 with h | h
      · have h0 : a.toInt.tdiv b.toInt ≤ 0 := td_np (by omega) (by omega)
        have : b.toInt * a.toInt.tdiv b.toInt ≤ 0 := Int.mul_nonpos_of_nonneg_of_nonpos (by omega) h0
        omega
      · have := Int.tmod_nonneg b.toInt h
        omega
  have e' : a.toInt.tmod b.toInt = a.toInt - a.toInt.tdiv b.toInt * b.toInt := by rw [Int.mul_comm]; omega
  have hlt := Int.tmod_lt_of_pos a.toInt hb
  have hgt : -b.toInt < a.toInt.tmod b.toInt := by
    rcases Int.lt_or_le a.toInt 0 with h | h
    · have := Int.tmod_lt_of_pos (-a.toInt) hb
      rw [Int.neg_tmod] at this; omega
    · have := Int.tmod_nonneg b.toInt h; omega
  have hb2 := i_hi b
  rw [i_sub, hm, e']
  · rw [hm]; omega
  · rw [hm]; omega
theorem md_b {a b : Int32} (hb : 0 < b.toInt) : -b.toInt < (md a b).toInt ∧ (md a b).toInt < b.toInt ∧ (0 ≤ a.toInt → 0 ≤ (md a b).toInt) := by
  rw [md_i hb]
  refine ⟨?_, Int.tmod_lt_of_pos a.toInt hb, fun h => Int.tmod_nonneg _ h⟩
  rcases Int.lt_or_le a.toInt 0 with h | h
  · have := Int.tmod_lt_of_pos (-a.toInt) hb
    rw [Int.neg_tmod] at this; omega
  · have := Int.tmod_nonneg b.toInt h; omega
theorem md_small {a b : Int32} (h0 : 0 ≤ a.toInt) (h1 : a.toInt < b.toInt) : md a b = a := by
  rw [i_eq, md_i (by omega)]
  exact Int.tmod_eq_of_lt h0 h1
theorem fm_b (a : Int32) : 0 ≤ (fm a).toInt ∧ (fm a).toInt < 360 := by
  have c : (360 : Int32).toInt = 360 := rfl
  have h := md_b (a := a) (b := 360) (by decide)
  have e : (md a 360 + 360).toInt = (md a 360).toInt + 360 := by rw [i_add (by omega) (by omega), c]
  have h2 := md_b (a := md a 360 + 360) (b := 360) (by decide)
  unfold fm
  omega
theorem fm_eq (a : Int32) : fm a = if (md a 360).toInt < 0 then md a 360 + 360 else md a 360 := by
  have c : (360 : Int32).toInt = 360 := rfl
  have h := md_b (a := a) (b := 360) (by decide)
  have e : (md a 360 + 360).toInt = (md a 360).toInt + 360 := by rw [i_add (by omega) (by omega), c]
  unfold fm
  by_cases hn : (md a 360).toInt < 0
  · rw [if_pos hn]; exact md_small (by omega) (by omega)
  · rw [if_neg hn, i_eq, md_i (by decide), e, c]
    have : ((md a 360).toInt + 360).tmod 360 = (md a 360).toInt := by
      rw [Int.tmod_eq_emod_of_nonneg (by omega)]
      omega
    exact this
theorem fmod_s (n : Nat) (a : Int32) : F_J9_floorMod_7cf53 n a 360 = some (fm a) := by
  unfold F_J9_floorMod_7cf53
  rw [gd_t (by decide)]
  have c : (360 : Int32).toInt = 360 := rfl
  have hx : (0 ≤ (a ^^^ 360)) ↔ 0 ≤ a.toInt := by
    rw [i_le]
    have z : (0 : Int32).toInt = 0 := rfl
    rw [z]
    have h1 : (0 ≤ (a ^^^ 360).toInt) ↔ (a ^^^ 360).toBitVec.msb = false := by
      have := BitVec.toInt_neg_iff (x := (a ^^^ 360).toBitVec)
      rw [BitVec.msb_eq_false_iff_two_mul_lt]
      show 0 ≤ (a ^^^ 360).toBitVec.toInt ↔ _
      omega
    have h2 : (0 ≤ a.toInt) ↔ a.toBitVec.msb = false := by
      have := BitVec.toInt_neg_iff (x := a.toBitVec)
      rw [BitVec.msb_eq_false_iff_two_mul_lt]
      show 0 ≤ a.toBitVec.toInt ↔ _
      omega
    rw [h1, h2, Int32.toBitVec_xor, BitVec.msb_xor]
    have : (360 : Int32).toBitVec.msb = false := by decide
    rw [this]
    cases a.toBitVec.msb <;> simp
  have hb := md_b (a := a) (b := 360) (by decide)
  rw [fm_eq]
  show (if 0 ≤ (a ^^^ 360) then some (md a 360) else if md a 360 = 0 then some (md a 360) else some (md a 360 + 360)) = _
  by_cases h : 0 ≤ (a ^^^ 360)
  · rw [if_pos h, if_neg (by have := hb.2.2 (hx.mp h); omega)]
  · rw [if_neg h]
    have hneg : a.toInt < 0 := by
      rcases Int.lt_or_le a.toInt 0 with q | q
      · exact q
      · exact absurd (hx.mpr q) h
    have hle : (md a 360).toInt ≤ 0 := by
      rw [md_i (by decide)]; exact tm_np (by omega)
    by_cases h0 : md a 360 = 0
    · rw [if_pos h0, if_neg (by rw [h0]; decide)]
    · have : (md a 360).toInt ≠ 0 := fun q => h0 (i_eq.mpr (by rw [q]; rfl))
      rw [if_neg h0, if_pos (by omega)]

