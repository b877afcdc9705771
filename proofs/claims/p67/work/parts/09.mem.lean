/-! THE CELLS OF THE RUN: every object has an id o, its address is B + o; lay says what it is; I, J the class side's ints and longs, K, N the model's -/
abbrev gE : Type := (Nat → Nat × Nat) × Nat × Nat × (Nat → Nat → UInt64)
def cE (B : Nat) (D : Nat → ClassId) (E : gE) (q : Nat × Nat) (i : Nat → Int32) (j : Nat → Int64) (k : Nat → Int32) (n : Nat → Int64) (d : Nat → UInt64) (o : Nat) : va_E := match q.1 with
  | 0 => .inr (0, [.ref (B + (o + 1)), .int (i 1), .int (i 2)])
  | 1 => .inr (1, [.ref (B + (o + 1)), .ref (B + (o + 2)), .int (i 2)])
  | 2 => .inr (2, [.ref (B + (o + 1)), .int (i 1)])
  | 3 => .inr (3, [.int (i 0), .int (i 1), .ref (B + 1), .int (i 3), .ref (B + E.2.2.1), .ref (B + 10), .int (i 6), .int (i 7), .int (i 8), .int (i 9), .int (i 10), .int (i 11), .int (i 12), .int (i 13)])
  | 4 => .inr (4, [.ref (B + (o + 1))])
  | 5 => .inr (5, [.int (i 0), .int (i 1), .int (i 2), .int (i 3), .int (i 4)])
  | 6 => .inr (6, [.int (i 0), .int (i 1), .ref (B + (o + 1)), .ref (B + (o + 2)), .ref (B + (o + 3)), .ref (B + (o + 4)), .ref (B + (o + 5)), .ref (B + (o + 6)), .ref (B + (o + 7))])
  | 7 => .inr (7, [.ref (B + 93), .int (i 1), .int (i 2), .int (i 3), .int (i 4), .int (i 5), .ref (B + (o + 1)), .int (i 7), .ref (B + (o + 2)), .int (i 9), .ref (B + (o + 3)), .ref (B + (o + 4)), .ref (B + (o + 5))])
  | 8 => .inr (8, [.int (i 0), .int (i 1), .int (i 2), .int (i 3), .int (i 4), .int (i 5), .int (i 6), .int (i 7), .int (i 8), .ref (B + (o + 1)), .ref (B + (o + 2))])
  | 9 => .inr (9, [.ref (B + 1), .int (i 1), .int (i 2), .int (i 3), .int (i 4), .ref (B + E.2.1), .ref (B + E.2.2.1), .ref (B + 2), .ref (B + 10), .ref (B + 18), .ref (B + 84), .ref (B + 85), .ref (B + 86), .ref (B + 88), .ref (B + 91), .ref (B + 92)])
  | 100 => .inl (D 100, q.2, .inl i)
  | 101 => .inl (D 101, q.2, .inl i)
  | 102 => .inl (D 102, q.2, .inl i)
  | 103 => .inl (D 103, q.2, .inr (.inl j))
  | 104 => .inl (D 104, q.2, .inr (.inr (.inr (.inl d))))
  | 105 => .inl (D 105, q.2, .inr (.inr (.inr (.inr (fun x => some (B + (o + 5 + 3 * x)))))))
  | 106 => .inl (D 106, q.2, .inr (.inr (.inr (.inr (fun x => some (B + (o + 16 + x)))))))
  | 107 => .inl (D 107, q.2, .inr (.inr (.inr (.inr (fun x => some (B + (o + 1 + 8 * x)))))))
  | 108 => .inl (D 107, q.2, .inr (.inr (.inr (.inr (fun x => some (B + (137 + 8 * x)))))))
  | 200 => .inl (D 100, q.2, .inl k)
  | 202 => .inl (D 102, q.2, .inl k)
  | 203 => .inl (D 103, q.2, .inr (.inl n))
  | _ => gj
def lay0L : List (Nat × Nat) := [(9, 0), (101, 900), (6, 0), (100, 4), (102, 4), (102, 4), (102, 4), (102, 4), (102, 4), (102, 4), (6, 0), (100, 4), (102, 4), (102, 4), (102, 4), (102, 4), (102, 4), (102, 4), (0, 0), (107, 8), (6, 0), (100, 4), (102, 4), (102, 4), (102, 4), (102, 4), (102, 4), (102, 4), (6, 0), (100, 4), (102, 4), (102, 4), (102, 4), (102, 4), (102, 4), (102, 4), (6, 0), (100, 4), (102, 4), (102, 4), (102, 4), (102, 4), (102, 4), (102, 4), (6, 0), (100, 4), (102, 4), (102, 4), (102, 4), (102, 4), (102, 4), (102, 4), (6, 0), (100, 4), (102, 4), (102, 4), (102, 4), (102, 4), (102, 4), (102, 4), (6, 0), (100, 4), (102, 4), (102, 4), (102, 4), (102, 4), (102, 4), (102, 4), (6, 0), (100, 4), (102, 4), (102, 4), (102, 4), (102, 4), (102, 4), (102, 4), (6, 0), (100, 4), (102, 4), (102, 4), (102, 4), (102, 4), (102, 4), (102, 4), (108, 2), (100, 2), (2, 0), (101, 256), (1, 0), (102, 10), (102, 160), (103, 160), (102, 60), (4, 0), (102, 640), (7, 0), (105, 4), (106, 3), (102, 4), (102, 4), (102, 4), (8, 0), (102, 6), (102, 6), (8, 0), (102, 6), (102, 6), (8, 0), (102, 6), (102, 6), (8, 0), (102, 6), (102, 6), (5, 0), (5, 0), (5, 0), (7, 0), (105, 4), (106, 3), (102, 4), (102, 4), (102, 4), (8, 0), (102, 6), (102, 6), (8, 0), (102, 6), (102, 6), (8, 0), (102, 6), (102, 6), (8, 0), (102, 6), (102, 6), (5, 0), (5, 0), (5, 0), (6, 0), (100, 4), (102, 4), (102, 4), (102, 4), (102, 4), (102, 4), (102, 4), (6, 0), (100, 4), (102, 4), (102, 4), (102, 4), (102, 4), (102, 4), (102, 4), (202, 7), (202, 90)]
def lay0 (o : Nat) : Nat × Nat := lay0L.getD o (99, 0)
abbrev gI : Type := Nat → Nat → Int32
abbrev gJ : Type := Nat → Nat → Int64
def cO (G : gG) (E : gE) (I : gI) (J : gJ) (K : gI) (N : gJ) (o : Nat) : va_E := cE G.2.2.1 G.2.1.1 E (E.1 o) (I o) (J o) (K o) (N o) (E.2.2.2 o) o
def fO (G : gG) (E : gE) (I : gI) (J : gJ) (K : gI) (N : gJ) : gF := fun a => if a < G.2.2.1 then gj else cO G E I J K N (a - G.2.2.1)
def sI (I : gI) (o k : Nat) (v : Int32) : gI := va_up I o (upd (I o) k v)
def sJ (J : gJ) (o k : Nat) (v : Int64) : gJ := va_up J o (vp_updL (J o) k v)
section GMEM
variable {G : gG} {E : gE} {I : gI} {J : gJ} {K : gI} {N : gJ}
theorem fO_at (o : Nat) : fO G E I J K N (G.2.2.1 + o) = cO G E I J K N o := by
  unfold fO
  rw [if_neg (by omega), Nat.add_sub_cancel_left]
theorem fO_up {E' : gE} {I' : gI} {J' : gJ} {K' : gI} {N' : gJ} {o : Nat} {e : va_E} (he : cO G E' I' J' K' N' o = e) (h : ∀ o', o' ≠ o → cO G E' I' J' K' N' o' = cO G E I J K N o') : va_up (fO G E I J K N) (G.2.2.1 + o) e = fO G E' I' J' K' N' := by
  funext a
  by_cases ha : a = G.2.2.1 + o
  · subst ha
    rw [va_up_self, fO_at, he]
  · rw [va_up_ne _ _ ha]
    unfold fO
    by_cases hb : a < G.2.2.1
    · rw [if_pos hb, if_pos hb]
    · rw [if_neg hb, if_neg hb, h _ (by omega)]
theorem fO_I {o : Nat} {g : Nat → Int32} {e : va_E} (he : cO G E (va_up I o g) J K N o = e) : va_up (fO G E I J K N) (G.2.2.1 + o) e = fO G E (va_up I o g) J K N :=
  fO_up he fun o' h => by unfold cO; rw [va_up_ne _ _ h]
theorem fO_J {o : Nat} {g : Nat → Int64} {e : va_E} (he : cO G E I (va_up J o g) K N o = e) : va_up (fO G E I J K N) (G.2.2.1 + o) e = fO G E I (va_up J o g) K N :=
  fO_up he fun o' h => by unfold cO; rw [va_up_ne _ _ h]
theorem fO_K {o : Nat} {g : Nat → Int32} {e : va_E} (he : cO G E I J (va_up K o g) N o = e) : va_up (fO G E I J K N) (G.2.2.1 + o) e = fO G E I J (va_up K o g) N :=
  fO_up he fun o' h => by unfold cO; rw [va_up_ne _ _ h]
theorem fO_N {o : Nat} {g : Nat → Int64} {e : va_E} (he : cO G E I J K (va_up N o g) o = e) : va_up (fO G E I J K N) (G.2.2.1 + o) e = fO G E I J K (va_up N o g) :=
  fO_up he fun o' h => by unfold cO; rw [va_up_ne _ _ h]
theorem uX0 : ∀ w ∈ u_ws RX0 TX0 3, w ∈ gW := by
  show ∀ w ∈ [Cond.laysFinal "RippleTank$History" "RippleTank$History" "kept" "[LRippleTank$State;", Cond.lays "RippleTank$History" "RippleTank$History" "oldest" "I", Cond.lays "RippleTank$History" "RippleTank$History" "count" "I"], w ∈ gW
  exact List.forall_mem_cons.mpr ⟨gW_of 156 (by decide +kernel) rfl, List.forall_mem_cons.mpr ⟨gW_of 158 (by decide +kernel) rfl, List.forall_mem_cons.mpr ⟨gW_of 160 (by decide +kernel) rfl, fun _ h => nomatch h⟩⟩⟩
theorem fo0 {o z : Nat} (ho : E.1 o = (0, z)) : fO G E I J K N (G.2.2.1 + o) = .inr (0, [.ref (G.2.2.1 + (o + 1)), .int (I o 1), .int (I o 2)]) := by
  rw [fO_at]; unfold cO; rw [ho]; rfl
theorem uX1 : ∀ w ∈ u_ws RX1 TX1 3, w ∈ gW := by
  show ∀ w ∈ [Cond.laysFinal "RippleTank$NodeMap" "RippleTank$NodeMap" "rowBits" "[I", Cond.laysFinal "RippleTank$NodeMap" "RippleTank$NodeMap" "gathered" "[I", Cond.lays "RippleTank$NodeMap" "RippleTank$NodeMap" "gatheredCount" "I"], w ∈ gW
  exact List.forall_mem_cons.mpr ⟨gW_of 185 (by decide +kernel) rfl, List.forall_mem_cons.mpr ⟨gW_of 187 (by decide +kernel) rfl, List.forall_mem_cons.mpr ⟨gW_of 189 (by decide +kernel) rfl, fun _ h => nomatch h⟩⟩⟩
theorem fo1 {o z : Nat} (ho : E.1 o = (1, z)) : fO G E I J K N (G.2.2.1 + o) = .inr (1, [.ref (G.2.2.1 + (o + 1)), .ref (G.2.2.1 + (o + 2)), .int (I o 2)]) := by
  rw [fO_at]; unfold cO; rw [ho]; rfl
theorem uX2 : ∀ w ∈ u_ws RX2 TX2 2, w ∈ gW := by
  show ∀ w ∈ [Cond.laysFinal "RippleTank$Page" "RippleTank$Page" "bytes" "[B", Cond.lays "RippleTank$Page" "RippleTank$Page" "length" "I"], w ∈ gW
  exact List.forall_mem_cons.mpr ⟨gW_of 170 (by decide +kernel) rfl, List.forall_mem_cons.mpr ⟨gW_of 172 (by decide +kernel) rfl, fun _ h => nomatch h⟩⟩
theorem fo2 {o z : Nat} (ho : E.1 o = (2, z)) : fO G E I J K N (G.2.2.1 + o) = .inr (2, [.ref (G.2.2.1 + (o + 1)), .int (I o 1)]) := by
  rw [fO_at]; unfold cO; rw [ho]; rfl
theorem uX3 : ∀ w ∈ u_ws RX3 TX3 14, w ∈ gW := by
  show ∀ w ∈ [Cond.lays "RippleTank$Parser" "RippleTank$Parser" "errorCode" "I", Cond.lays "RippleTank$Parser" "RippleTank$Parser" "errorPlace" "I", Cond.laysFinal "RippleTank$Parser" "RippleTank$Parser" "bytes" "[B", Cond.laysFinal "RippleTank$Parser" "RippleTank$Parser" "end" "I", Cond.laysFinal "RippleTank$Parser" "RippleTank$Parser" "tank" "LRippleTank$Tank;", Cond.laysFinal "RippleTank$Parser" "RippleTank$Parser" "state" "LRippleTank$State;", Cond.lays "RippleTank$Parser" "RippleTank$Parser" "kind" "I", Cond.lays "RippleTank$Parser" "RippleTank$Parser" "start" "I", Cond.lays "RippleTank$Parser" "RippleTank$Parser" "stop" "I", Cond.lays "RippleTank$Parser" "RippleTank$Parser" "value" "I", Cond.lays "RippleTank$Parser" "RippleTank$Parser" "cutCount" "I", Cond.lays "RippleTank$Parser" "RippleTank$Parser" "toldDrifts" "I", Cond.lays "RippleTank$Parser" "RippleTank$Parser" "toldOffs" "I", Cond.lays "RippleTank$Parser" "RippleTank$Parser" "toldShapes" "I"], w ∈ gW
  exact List.forall_mem_cons.mpr ⟨gW_of 873 (by decide +kernel) rfl, List.forall_mem_cons.mpr ⟨gW_of 875 (by decide +kernel) rfl, List.forall_mem_cons.mpr ⟨gW_of 877 (by decide +kernel) rfl, List.forall_mem_cons.mpr ⟨gW_of 879 (by decide +kernel) rfl, List.forall_mem_cons.mpr ⟨gW_of 881 (by decide +kernel) rfl, List.forall_mem_cons.mpr ⟨gW_of 883 (by decide +kernel) rfl, List.forall_mem_cons.mpr ⟨gW_of 885 (by decide +kernel) rfl, List.forall_mem_cons.mpr ⟨gW_of 887 (by decide +kernel) rfl, List.forall_mem_cons.mpr ⟨gW_of 889 (by decide +kernel) rfl, List.forall_mem_cons.mpr ⟨gW_of 891 (by decide +kernel) rfl, List.forall_mem_cons.mpr ⟨gW_of 893 (by decide +kernel) rfl, List.forall_mem_cons.mpr ⟨gW_of 895 (by decide +kernel) rfl, List.forall_mem_cons.mpr ⟨gW_of 897 (by decide +kernel) rfl, List.forall_mem_cons.mpr ⟨gW_of 899 (by decide +kernel) rfl, fun _ h => nomatch h⟩⟩⟩⟩⟩⟩⟩⟩⟩⟩⟩⟩⟩⟩
theorem fo3 {o z : Nat} (ho : E.1 o = (3, z)) : fO G E I J K N (G.2.2.1 + o) = .inr (3, [.int (I o 0), .int (I o 1), .ref (G.2.2.1 + 1), .int (I o 3), .ref (G.2.2.1 + E.2.2.1), .ref (G.2.2.1 + 10), .int (I o 6), .int (I o 7), .int (I o 8), .int (I o 9), .int (I o 10), .int (I o 11), .int (I o 12), .int (I o 13)]) := by
  rw [fO_at]; unfold cO; rw [ho]; rfl
theorem uX4 : ∀ w ∈ u_ws RX4 TX4 1, w ∈ gW := by
  show ∀ w ∈ [Cond.laysFinal "RippleTank$Ruler" "RippleTank$Ruler" "lengths" "[I"], w ∈ gW
  exact List.forall_mem_cons.mpr ⟨gW_of 202 (by decide +kernel) rfl, fun _ h => nomatch h⟩
theorem fo4 {o z : Nat} (ho : E.1 o = (4, z)) : fO G E I J K N (G.2.2.1 + o) = .inr (4, [.ref (G.2.2.1 + (o + 1))]) := by
  rw [fO_at]; unfold cO; rw [ho]; rfl
theorem uX5 : ∀ w ∈ u_ws RX5 TX5 5, w ∈ gW := by
  show ∀ w ∈ [Cond.lays "RippleTank$Shoal" "RippleTank$Shoal" "firstX" "I", Cond.lays "RippleTank$Shoal" "RippleTank$Shoal" "firstY" "I", Cond.lays "RippleTank$Shoal" "RippleTank$Shoal" "lastX" "I", Cond.lays "RippleTank$Shoal" "RippleTank$Shoal" "lastY" "I", Cond.lays "RippleTank$Shoal" "RippleTank$Shoal" "percent" "I"], w ∈ gW
  exact List.forall_mem_cons.mpr ⟨gW_of 284 (by decide +kernel) rfl, List.forall_mem_cons.mpr ⟨gW_of 286 (by decide +kernel) rfl, List.forall_mem_cons.mpr ⟨gW_of 288 (by decide +kernel) rfl, List.forall_mem_cons.mpr ⟨gW_of 290 (by decide +kernel) rfl, List.forall_mem_cons.mpr ⟨gW_of 292 (by decide +kernel) rfl, fun _ h => nomatch h⟩⟩⟩⟩⟩
theorem fo5 {o z : Nat} (ho : E.1 o = (5, z)) : fO G E I J K N (G.2.2.1 + o) = .inr (5, [.int (I o 0), .int (I o 1), .int (I o 2), .int (I o 3), .int (I o 4)]) := by
  rw [fO_at]; unfold cO; rw [ho]; rfl
theorem uX6 : ∀ w ∈ u_ws RX6 TX6 9, w ∈ gW := by
  show ∀ w ∈ [Cond.lays "RippleTank$State" "RippleTank$State" "now" "I", Cond.lays "RippleTank$State" "RippleTank$State" "open" "I", Cond.laysFinal "RippleTank$State" "RippleTank$State" "on" "[Z", Cond.laysFinal "RippleTank$State" "RippleTank$State" "amps" "[I", Cond.laysFinal "RippleTank$State" "RippleTank$State" "phases" "[I", Cond.laysFinal "RippleTank$State" "RippleTank$State" "columns" "[I", Cond.laysFinal "RippleTank$State" "RippleTank$State" "rows" "[I", Cond.laysFinal "RippleTank$State" "RippleTank$State" "driftsX" "[I", Cond.laysFinal "RippleTank$State" "RippleTank$State" "driftsY" "[I"], w ∈ gW
  exact List.forall_mem_cons.mpr ⟨gW_of 121 (by decide +kernel) rfl, List.forall_mem_cons.mpr ⟨gW_of 123 (by decide +kernel) rfl, List.forall_mem_cons.mpr ⟨gW_of 125 (by decide +kernel) rfl, List.forall_mem_cons.mpr ⟨gW_of 127 (by decide +kernel) rfl, List.forall_mem_cons.mpr ⟨gW_of 129 (by decide +kernel) rfl, List.forall_mem_cons.mpr ⟨gW_of 131 (by decide +kernel) rfl, List.forall_mem_cons.mpr ⟨gW_of 133 (by decide +kernel) rfl, List.forall_mem_cons.mpr ⟨gW_of 135 (by decide +kernel) rfl, List.forall_mem_cons.mpr ⟨gW_of 137 (by decide +kernel) rfl, fun _ h => nomatch h⟩⟩⟩⟩⟩⟩⟩⟩⟩
theorem fo6 {o z : Nat} (ho : E.1 o = (6, z)) : fO G E I J K N (G.2.2.1 + o) = .inr (6, [.int (I o 0), .int (I o 1), .ref (G.2.2.1 + (o + 1)), .ref (G.2.2.1 + (o + 2)), .ref (G.2.2.1 + (o + 3)), .ref (G.2.2.1 + (o + 4)), .ref (G.2.2.1 + (o + 5)), .ref (G.2.2.1 + (o + 6)), .ref (G.2.2.1 + (o + 7))]) := by
  rw [fO_at]; unfold cO; rw [ho]; rfl
theorem uX7 : ∀ w ∈ u_ws RX7 TX7 13, w ∈ gW := by
  show ∀ w ∈ [Cond.laysFinal "RippleTank$Tank" "RippleTank$Tank" "ruler" "LRippleTank$Ruler;", Cond.lays "RippleTank$Tank" "RippleTank$Tank" "columns" "I", Cond.lays "RippleTank$Tank" "RippleTank$Tank" "rows" "I", Cond.lays "RippleTank$Tank" "RippleTank$Tank" "fade" "I", Cond.lays "RippleTank$Tank" "RippleTank$Tank" "wallColumn" "I", Cond.lays "RippleTank$Tank" "RippleTank$Tank" "sourceCount" "I", Cond.laysFinal "RippleTank$Tank" "RippleTank$Tank" "trains" "[LRippleTank$Train;", Cond.lays "RippleTank$Tank" "RippleTank$Tank" "shoalCount" "I", Cond.laysFinal "RippleTank$Tank" "RippleTank$Tank" "shoals" "[LRippleTank$Shoal;", Cond.lays "RippleTank$Tank" "RippleTank$Tank" "gaugeCount" "I", Cond.laysFinal "RippleTank$Tank" "RippleTank$Tank" "gaugeColumns" "[I", Cond.laysFinal "RippleTank$Tank" "RippleTank$Tank" "gaugeRows" "[I", Cond.laysFinal "RippleTank$Tank" "RippleTank$Tank" "mirrors" "[I"], w ∈ gW
  exact List.forall_mem_cons.mpr ⟨gW_of 329 (by decide +kernel) rfl, List.forall_mem_cons.mpr ⟨gW_of 331 (by decide +kernel) rfl, List.forall_mem_cons.mpr ⟨gW_of 333 (by decide +kernel) rfl, List.forall_mem_cons.mpr ⟨gW_of 335 (by decide +kernel) rfl, List.forall_mem_cons.mpr ⟨gW_of 337 (by decide +kernel) rfl, List.forall_mem_cons.mpr ⟨gW_of 339 (by decide +kernel) rfl, List.forall_mem_cons.mpr ⟨gW_of 341 (by decide +kernel) rfl, List.forall_mem_cons.mpr ⟨gW_of 343 (by decide +kernel) rfl, List.forall_mem_cons.mpr ⟨gW_of 345 (by decide +kernel) rfl, List.forall_mem_cons.mpr ⟨gW_of 347 (by decide +kernel) rfl, List.forall_mem_cons.mpr ⟨gW_of 349 (by decide +kernel) rfl, List.forall_mem_cons.mpr ⟨gW_of 351 (by decide +kernel) rfl, List.forall_mem_cons.mpr ⟨gW_of 353 (by decide +kernel) rfl, fun _ h => nomatch h⟩⟩⟩⟩⟩⟩⟩⟩⟩⟩⟩⟩⟩
theorem fo7 {o z : Nat} (ho : E.1 o = (7, z)) : fO G E I J K N (G.2.2.1 + o) = .inr (7, [.ref (G.2.2.1 + 93), .int (I o 1), .int (I o 2), .int (I o 3), .int (I o 4), .int (I o 5), .ref (G.2.2.1 + (o + 1)), .int (I o 7), .ref (G.2.2.1 + (o + 2)), .int (I o 9), .ref (G.2.2.1 + (o + 3)), .ref (G.2.2.1 + (o + 4)), .ref (G.2.2.1 + (o + 5))]) := by
  rw [fO_at]; unfold cO; rw [ho]; rfl
theorem uX8 : ∀ w ∈ u_ws RX8 TX8 11, w ∈ gW := by
  show ∀ w ∈ [Cond.lays "RippleTank$Train" "RippleTank$Train" "length" "I", Cond.lays "RippleTank$Train" "RippleTank$Train" "period" "I", Cond.lays "RippleTank$Train" "RippleTank$Train" "from" "I", Cond.lays "RippleTank$Train" "RippleTank$Train" "until" "I", Cond.lays "RippleTank$Train" "RippleTank$Train" "burstOn" "I", Cond.lays "RippleTank$Train" "RippleTank$Train" "burstOff" "I", Cond.lays "RippleTank$Train" "RippleTank$Train" "rise" "I", Cond.lays "RippleTank$Train" "RippleTank$Train" "shape" "I", Cond.lays "RippleTank$Train" "RippleTank$Train" "cutCount" "I", Cond.laysFinal "RippleTank$Train" "RippleTank$Train" "cutFrom" "[I", Cond.laysFinal "RippleTank$Train" "RippleTank$Train" "cutUntil" "[I"], w ∈ gW
  exact List.forall_mem_cons.mpr ⟨gW_of 246 (by decide +kernel) rfl, List.forall_mem_cons.mpr ⟨gW_of 248 (by decide +kernel) rfl, List.forall_mem_cons.mpr ⟨gW_of 250 (by decide +kernel) rfl, List.forall_mem_cons.mpr ⟨gW_of 252 (by decide +kernel) rfl, List.forall_mem_cons.mpr ⟨gW_of 254 (by decide +kernel) rfl, List.forall_mem_cons.mpr ⟨gW_of 256 (by decide +kernel) rfl, List.forall_mem_cons.mpr ⟨gW_of 258 (by decide +kernel) rfl, List.forall_mem_cons.mpr ⟨gW_of 260 (by decide +kernel) rfl, List.forall_mem_cons.mpr ⟨gW_of 262 (by decide +kernel) rfl, List.forall_mem_cons.mpr ⟨gW_of 264 (by decide +kernel) rfl, List.forall_mem_cons.mpr ⟨gW_of 266 (by decide +kernel) rfl, fun _ h => nomatch h⟩⟩⟩⟩⟩⟩⟩⟩⟩⟩⟩
theorem fo8 {o z : Nat} (ho : E.1 o = (8, z)) : fO G E I J K N (G.2.2.1 + o) = .inr (8, [.int (I o 0), .int (I o 1), .int (I o 2), .int (I o 3), .int (I o 4), .int (I o 5), .int (I o 6), .int (I o 7), .int (I o 8), .ref (G.2.2.1 + (o + 1)), .ref (G.2.2.1 + (o + 2))]) := by
  rw [fO_at]; unfold cO; rw [ho]; rfl
theorem uX9 : ∀ w ∈ u_ws RX9 TX9 16, w ∈ gW := by
  show ∀ w ∈ [Cond.laysFinal "RippleTank" "RippleTank" "input" "[B", Cond.lays "RippleTank" "RippleTank" "inputLength" "I", Cond.lays "RippleTank" "RippleTank" "errorCode" "I", Cond.lays "RippleTank" "RippleTank" "errorPlace" "I", Cond.lays "RippleTank" "RippleTank" "loaded" "Z", Cond.lays "RippleTank" "RippleTank" "tank" "LRippleTank$Tank;", Cond.lays "RippleTank" "RippleTank" "draft" "LRippleTank$Tank;", Cond.laysFinal "RippleTank" "RippleTank" "state" "LRippleTank$State;", Cond.laysFinal "RippleTank" "RippleTank" "trial" "LRippleTank$State;", Cond.laysFinal "RippleTank" "RippleTank" "history" "LRippleTank$History;", Cond.laysFinal "RippleTank" "RippleTank" "slots" "[LRippleTank$State;", Cond.laysFinal "RippleTank" "RippleTank" "filled" "[Z", Cond.laysFinal "RippleTank" "RippleTank" "page" "LRippleTank$Page;", Cond.laysFinal "RippleTank" "RippleTank" "nodeMap" "LRippleTank$NodeMap;", Cond.laysFinal "RippleTank" "RippleTank" "energies" "[J", Cond.laysFinal "RippleTank" "RippleTank" "series" "[I"], w ∈ gW
  exact List.forall_mem_cons.mpr ⟨gW_of 372 (by decide +kernel) rfl, List.forall_mem_cons.mpr ⟨gW_of 374 (by decide +kernel) rfl, List.forall_mem_cons.mpr ⟨gW_of 376 (by decide +kernel) rfl, List.forall_mem_cons.mpr ⟨gW_of 378 (by decide +kernel) rfl, List.forall_mem_cons.mpr ⟨gW_of 380 (by decide +kernel) rfl, List.forall_mem_cons.mpr ⟨gW_of 382 (by decide +kernel) rfl, List.forall_mem_cons.mpr ⟨gW_of 384 (by decide +kernel) rfl, List.forall_mem_cons.mpr ⟨gW_of 386 (by decide +kernel) rfl, List.forall_mem_cons.mpr ⟨gW_of 388 (by decide +kernel) rfl, List.forall_mem_cons.mpr ⟨gW_of 390 (by decide +kernel) rfl, List.forall_mem_cons.mpr ⟨gW_of 392 (by decide +kernel) rfl, List.forall_mem_cons.mpr ⟨gW_of 394 (by decide +kernel) rfl, List.forall_mem_cons.mpr ⟨gW_of 396 (by decide +kernel) rfl, List.forall_mem_cons.mpr ⟨gW_of 398 (by decide +kernel) rfl, List.forall_mem_cons.mpr ⟨gW_of 400 (by decide +kernel) rfl, List.forall_mem_cons.mpr ⟨gW_of 402 (by decide +kernel) rfl, fun _ h => nomatch h⟩⟩⟩⟩⟩⟩⟩⟩⟩⟩⟩⟩⟩⟩⟩⟩
theorem fo9 {o z : Nat} (ho : E.1 o = (9, z)) : fO G E I J K N (G.2.2.1 + o) = .inr (9, [.ref (G.2.2.1 + 1), .int (I o 1), .int (I o 2), .int (I o 3), .int (I o 4), .ref (G.2.2.1 + E.2.1), .ref (G.2.2.1 + E.2.2.1), .ref (G.2.2.1 + 2), .ref (G.2.2.1 + 10), .ref (G.2.2.1 + 18), .ref (G.2.2.1 + 84), .ref (G.2.2.1 + 85), .ref (G.2.2.1 + 86), .ref (G.2.2.1 + 88), .ref (G.2.2.1 + 91), .ref (G.2.2.1 + 92)]) := by
  rw [fO_at]; unfold cO; rw [ho]; rfl
theorem fo100 {o z : Nat} (ho : E.1 o = (100, z)) : fO G E I J K N (G.2.2.1 + o) = .inl (G.2.1.1 100, z, .inl (I o)) := by
  rw [fO_at]; unfold cO; rw [ho]; rfl
theorem fo101 {o z : Nat} (ho : E.1 o = (101, z)) : fO G E I J K N (G.2.2.1 + o) = .inl (G.2.1.1 101, z, .inl (I o)) := by
  rw [fO_at]; unfold cO; rw [ho]; rfl
theorem fo102 {o z : Nat} (ho : E.1 o = (102, z)) : fO G E I J K N (G.2.2.1 + o) = .inl (G.2.1.1 102, z, .inl (I o)) := by
  rw [fO_at]; unfold cO; rw [ho]; rfl
theorem fo103 {o z : Nat} (ho : E.1 o = (103, z)) : fO G E I J K N (G.2.2.1 + o) = .inl (G.2.1.1 103, z, .inr (.inl (J o))) := by
  rw [fO_at]; unfold cO; rw [ho]; rfl
theorem fo104 {o z : Nat} (ho : E.1 o = (104, z)) : fO G E I J K N (G.2.2.1 + o) = .inl (G.2.1.1 104, z, .inr (.inr (.inr (.inl (E.2.2.2 o))))) := by
  rw [fO_at]; unfold cO; rw [ho]; rfl
theorem fo200 {o z : Nat} (ho : E.1 o = (200, z)) : fO G E I J K N (G.2.2.1 + o) = .inl (G.2.1.1 100, z, .inl (K o)) := by
  rw [fO_at]; unfold cO; rw [ho]; rfl
theorem fo202 {o z : Nat} (ho : E.1 o = (202, z)) : fO G E I J K N (G.2.2.1 + o) = .inl (G.2.1.1 102, z, .inl (K o)) := by
  rw [fO_at]; unfold cO; rw [ho]; rfl
theorem fo203 {o z : Nat} (ho : E.1 o = (203, z)) : fO G E I J K N (G.2.2.1 + o) = .inl (G.2.1.1 103, z, .inr (.inl (N o))) := by
  rw [fO_at]; unfold cO; rw [ho]; rfl
theorem fo105 {o z : Nat} (ho : E.1 o = (105, z)) : fO G E I J K N (G.2.2.1 + o) = .inl (G.2.1.1 105, z, .inr (.inr (.inr (.inr (fun x => some (G.2.2.1 + (o + 5 + 3 * x))))))) := by
  rw [fO_at]; unfold cO; rw [ho]; rfl
theorem fo106 {o z : Nat} (ho : E.1 o = (106, z)) : fO G E I J K N (G.2.2.1 + o) = .inl (G.2.1.1 106, z, .inr (.inr (.inr (.inr (fun x => some (G.2.2.1 + (o + 16 + x))))))) := by
  rw [fO_at]; unfold cO; rw [ho]; rfl
theorem fo107 {o z : Nat} (ho : E.1 o = (107, z)) : fO G E I J K N (G.2.2.1 + o) = .inl (G.2.1.1 107, z, .inr (.inr (.inr (.inr (fun x => some (G.2.2.1 + (o + 1 + 8 * x))))))) := by
  rw [fO_at]; unfold cO; rw [ho]; rfl
theorem fo108 {o z : Nat} (ho : E.1 o = (108, z)) : fO G E I J K N (G.2.2.1 + o) = .inl (G.2.1.1 107, z, .inr (.inr (.inr (.inr (fun x => some (G.2.2.1 + (137 + 8 * x))))))) := by
  rw [fO_at]; unfold cO; rw [ho]; rfl
variable {mi : gM} {Qp : List Frame → Array Value → State → State → Prop} {pc : Nat} {L : List (Option Value)} {st : List Value} {sz k n : Nat}
theorem g0_0 {index o z : Nat} (hd : decode mi.2.1 pc = .ok (.getfield index, 3)) (hl : Cond.fieldLink mi.1.cls index "RippleTank$History" "kept" "[LRippleTank$State;" ∈ gW) (ho : E.1 o = (0, z)) (kk : gAt G mi Qp (pc + 3) L (.ref (G.2.2.1 + (o + 1)) :: st) (fO G E I J K N) sz k n) : gAt G mi Qp pc L (.ref (G.2.2.1 + o) :: st) (fO G E I J K N) sz k n :=
  r_get (k0 := 0) uX0 rfl hd hl (fo0 ho) (by decide) rfl kk
theorem g0_1 {index o z : Nat} (hd : decode mi.2.1 pc = .ok (.getfield index, 3)) (hl : Cond.fieldLink mi.1.cls index "RippleTank$History" "oldest" "I" ∈ gW) (ho : E.1 o = (0, z)) (kk : gAt G mi Qp (pc + 3) L (.int (I o 1) :: st) (fO G E I J K N) sz k n) : gAt G mi Qp pc L (.ref (G.2.2.1 + o) :: st) (fO G E I J K N) sz k n :=
  r_get (k0 := 1) uX0 rfl hd hl (fo0 ho) (by decide) rfl kk
theorem p0_1 {index o z : Nat} {v : Int32} (hd : decode mi.2.1 pc = .ok (.putfield index, 3)) (hl : Cond.fieldLink mi.1.cls index "RippleTank$History" "oldest" "I" ∈ gW) (ho : E.1 o = (0, z)) (kk : gAt G mi Qp (pc + 3) L st (fO G E (sI I o 1 v) J K N) sz k n) : gAt G mi Qp pc L (.int v :: .ref (G.2.2.1 + o) :: st) (fO G E I J K N) sz k n := by
  refine r_put (k0 := 1) tyX0 tyX0_ok nmX0 uX0 rfl hd hl (fo0 ho) (by decide) rfl rfl rfl (Nat.le_of_ble_eq_true rfl) ?_
  rw [fO_I (g := upd (I o) 1 v) (by unfold cO; rw [ho]; simp only [cE, va_up_self, upd]; rfl)]
  exact kk
theorem g0_2 {index o z : Nat} (hd : decode mi.2.1 pc = .ok (.getfield index, 3)) (hl : Cond.fieldLink mi.1.cls index "RippleTank$History" "count" "I" ∈ gW) (ho : E.1 o = (0, z)) (kk : gAt G mi Qp (pc + 3) L (.int (I o 2) :: st) (fO G E I J K N) sz k n) : gAt G mi Qp pc L (.ref (G.2.2.1 + o) :: st) (fO G E I J K N) sz k n :=
  r_get (k0 := 2) uX0 rfl hd hl (fo0 ho) (by decide) rfl kk
theorem p0_2 {index o z : Nat} {v : Int32} (hd : decode mi.2.1 pc = .ok (.putfield index, 3)) (hl : Cond.fieldLink mi.1.cls index "RippleTank$History" "count" "I" ∈ gW) (ho : E.1 o = (0, z)) (kk : gAt G mi Qp (pc + 3) L st (fO G E (sI I o 2 v) J K N) sz k n) : gAt G mi Qp pc L (.int v :: .ref (G.2.2.1 + o) :: st) (fO G E I J K N) sz k n := by
  refine r_put (k0 := 2) tyX0 tyX0_ok nmX0 uX0 rfl hd hl (fo0 ho) (by decide) rfl rfl rfl (Nat.le_of_ble_eq_true rfl) ?_
  rw [fO_I (g := upd (I o) 2 v) (by unfold cO; rw [ho]; simp only [cE, va_up_self, upd]; rfl)]
  exact kk
theorem g1_0 {index o z : Nat} (hd : decode mi.2.1 pc = .ok (.getfield index, 3)) (hl : Cond.fieldLink mi.1.cls index "RippleTank$NodeMap" "rowBits" "[I" ∈ gW) (ho : E.1 o = (1, z)) (kk : gAt G mi Qp (pc + 3) L (.ref (G.2.2.1 + (o + 1)) :: st) (fO G E I J K N) sz k n) : gAt G mi Qp pc L (.ref (G.2.2.1 + o) :: st) (fO G E I J K N) sz k n :=
  r_get (k0 := 0) uX1 rfl hd hl (fo1 ho) (by decide) rfl kk
theorem g1_1 {index o z : Nat} (hd : decode mi.2.1 pc = .ok (.getfield index, 3)) (hl : Cond.fieldLink mi.1.cls index "RippleTank$NodeMap" "gathered" "[I" ∈ gW) (ho : E.1 o = (1, z)) (kk : gAt G mi Qp (pc + 3) L (.ref (G.2.2.1 + (o + 2)) :: st) (fO G E I J K N) sz k n) : gAt G mi Qp pc L (.ref (G.2.2.1 + o) :: st) (fO G E I J K N) sz k n :=
  r_get (k0 := 1) uX1 rfl hd hl (fo1 ho) (by decide) rfl kk
theorem g1_2 {index o z : Nat} (hd : decode mi.2.1 pc = .ok (.getfield index, 3)) (hl : Cond.fieldLink mi.1.cls index "RippleTank$NodeMap" "gatheredCount" "I" ∈ gW) (ho : E.1 o = (1, z)) (kk : gAt G mi Qp (pc + 3) L (.int (I o 2) :: st) (fO G E I J K N) sz k n) : gAt G mi Qp pc L (.ref (G.2.2.1 + o) :: st) (fO G E I J K N) sz k n :=
  r_get (k0 := 2) uX1 rfl hd hl (fo1 ho) (by decide) rfl kk
theorem p1_2 {index o z : Nat} {v : Int32} (hd : decode mi.2.1 pc = .ok (.putfield index, 3)) (hl : Cond.fieldLink mi.1.cls index "RippleTank$NodeMap" "gatheredCount" "I" ∈ gW) (ho : E.1 o = (1, z)) (kk : gAt G mi Qp (pc + 3) L st (fO G E (sI I o 2 v) J K N) sz k n) : gAt G mi Qp pc L (.int v :: .ref (G.2.2.1 + o) :: st) (fO G E I J K N) sz k n := by
  refine r_put (k0 := 2) tyX1 tyX1_ok nmX1 uX1 rfl hd hl (fo1 ho) (by decide) rfl rfl rfl (Nat.le_of_ble_eq_true rfl) ?_
  rw [fO_I (g := upd (I o) 2 v) (by unfold cO; rw [ho]; simp only [cE, va_up_self, upd]; rfl)]
  exact kk
theorem g2_0 {index o z : Nat} (hd : decode mi.2.1 pc = .ok (.getfield index, 3)) (hl : Cond.fieldLink mi.1.cls index "RippleTank$Page" "bytes" "[B" ∈ gW) (ho : E.1 o = (2, z)) (kk : gAt G mi Qp (pc + 3) L (.ref (G.2.2.1 + (o + 1)) :: st) (fO G E I J K N) sz k n) : gAt G mi Qp pc L (.ref (G.2.2.1 + o) :: st) (fO G E I J K N) sz k n :=
  r_get (k0 := 0) uX2 rfl hd hl (fo2 ho) (by decide) rfl kk
theorem g2_1 {index o z : Nat} (hd : decode mi.2.1 pc = .ok (.getfield index, 3)) (hl : Cond.fieldLink mi.1.cls index "RippleTank$Page" "length" "I" ∈ gW) (ho : E.1 o = (2, z)) (kk : gAt G mi Qp (pc + 3) L (.int (I o 1) :: st) (fO G E I J K N) sz k n) : gAt G mi Qp pc L (.ref (G.2.2.1 + o) :: st) (fO G E I J K N) sz k n :=
  r_get (k0 := 1) uX2 rfl hd hl (fo2 ho) (by decide) rfl kk
theorem p2_1 {index o z : Nat} {v : Int32} (hd : decode mi.2.1 pc = .ok (.putfield index, 3)) (hl : Cond.fieldLink mi.1.cls index "RippleTank$Page" "length" "I" ∈ gW) (ho : E.1 o = (2, z)) (kk : gAt G mi Qp (pc + 3) L st (fO G E (sI I o 1 v) J K N) sz k n) : gAt G mi Qp pc L (.int v :: .ref (G.2.2.1 + o) :: st) (fO G E I J K N) sz k n := by
  refine r_put (k0 := 1) tyX2 tyX2_ok nmX2 uX2 rfl hd hl (fo2 ho) (by decide) rfl rfl rfl (Nat.le_of_ble_eq_true rfl) ?_
  rw [fO_I (g := upd (I o) 1 v) (by unfold cO; rw [ho]; simp only [cE, va_up_self, upd]; rfl)]
  exact kk
theorem g3_0 {index o z : Nat} (hd : decode mi.2.1 pc = .ok (.getfield index, 3)) (hl : Cond.fieldLink mi.1.cls index "RippleTank$Parser" "errorCode" "I" ∈ gW) (ho : E.1 o = (3, z)) (kk : gAt G mi Qp (pc + 3) L (.int (I o 0) :: st) (fO G E I J K N) sz k n) : gAt G mi Qp pc L (.ref (G.2.2.1 + o) :: st) (fO G E I J K N) sz k n :=
  r_get (k0 := 0) uX3 rfl hd hl (fo3 ho) (by decide) rfl kk
theorem p3_0 {index o z : Nat} {v : Int32} (hd : decode mi.2.1 pc = .ok (.putfield index, 3)) (hl : Cond.fieldLink mi.1.cls index "RippleTank$Parser" "errorCode" "I" ∈ gW) (ho : E.1 o = (3, z)) (kk : gAt G mi Qp (pc + 3) L st (fO G E (sI I o 0 v) J K N) sz k n) : gAt G mi Qp pc L (.int v :: .ref (G.2.2.1 + o) :: st) (fO G E I J K N) sz k n := by
  refine r_put (k0 := 0) tyX3 tyX3_ok nmX3 uX3 rfl hd hl (fo3 ho) (by decide) rfl rfl rfl (Nat.le_of_ble_eq_true rfl) ?_
  rw [fO_I (g := upd (I o) 0 v) (by unfold cO; rw [ho]; simp only [cE, va_up_self, upd]; rfl)]
  exact kk
theorem g3_1 {index o z : Nat} (hd : decode mi.2.1 pc = .ok (.getfield index, 3)) (hl : Cond.fieldLink mi.1.cls index "RippleTank$Parser" "errorPlace" "I" ∈ gW) (ho : E.1 o = (3, z)) (kk : gAt G mi Qp (pc + 3) L (.int (I o 1) :: st) (fO G E I J K N) sz k n) : gAt G mi Qp pc L (.ref (G.2.2.1 + o) :: st) (fO G E I J K N) sz k n :=
  r_get (k0 := 1) uX3 rfl hd hl (fo3 ho) (by decide) rfl kk
theorem p3_1 {index o z : Nat} {v : Int32} (hd : decode mi.2.1 pc = .ok (.putfield index, 3)) (hl : Cond.fieldLink mi.1.cls index "RippleTank$Parser" "errorPlace" "I" ∈ gW) (ho : E.1 o = (3, z)) (kk : gAt G mi Qp (pc + 3) L st (fO G E (sI I o 1 v) J K N) sz k n) : gAt G mi Qp pc L (.int v :: .ref (G.2.2.1 + o) :: st) (fO G E I J K N) sz k n := by
  refine r_put (k0 := 1) tyX3 tyX3_ok nmX3 uX3 rfl hd hl (fo3 ho) (by decide) rfl rfl rfl (Nat.le_of_ble_eq_true rfl) ?_
  rw [fO_I (g := upd (I o) 1 v) (by unfold cO; rw [ho]; simp only [cE, va_up_self, upd]; rfl)]
  exact kk
theorem g3_2 {index o z : Nat} (hd : decode mi.2.1 pc = .ok (.getfield index, 3)) (hl : Cond.fieldLink mi.1.cls index "RippleTank$Parser" "bytes" "[B" ∈ gW) (ho : E.1 o = (3, z)) (kk : gAt G mi Qp (pc + 3) L (.ref (G.2.2.1 + 1) :: st) (fO G E I J K N) sz k n) : gAt G mi Qp pc L (.ref (G.2.2.1 + o) :: st) (fO G E I J K N) sz k n :=
  r_get (k0 := 2) uX3 rfl hd hl (fo3 ho) (by decide) rfl kk
theorem g3_3 {index o z : Nat} (hd : decode mi.2.1 pc = .ok (.getfield index, 3)) (hl : Cond.fieldLink mi.1.cls index "RippleTank$Parser" "end" "I" ∈ gW) (ho : E.1 o = (3, z)) (kk : gAt G mi Qp (pc + 3) L (.int (I o 3) :: st) (fO G E I J K N) sz k n) : gAt G mi Qp pc L (.ref (G.2.2.1 + o) :: st) (fO G E I J K N) sz k n :=
  r_get (k0 := 3) uX3 rfl hd hl (fo3 ho) (by decide) rfl kk
theorem p3_3 {index o z : Nat} {v : Int32} (hd : decode mi.2.1 pc = .ok (.putfield index, 3)) (hl : Cond.fieldLink mi.1.cls index "RippleTank$Parser" "end" "I" ∈ gW) (ho : E.1 o = (3, z)) (hnm : mi.1.name = "<init>") (hcl : "RippleTank$Parser" = mi.1.cls) (kk : gAt G mi Qp (pc + 3) L st (fO G E (sI I o 3 v) J K N) sz k n) : gAt G mi Qp pc L (.int v :: .ref (G.2.2.1 + o) :: st) (fO G E I J K N) sz k n := by
  refine r_putF (k0 := 3) tyX3 tyX3_ok nmX3 uX3 rfl hd hl (fo3 ho) (by decide) rfl hnm hcl rfl rfl (Nat.le_of_ble_eq_true rfl) ?_
  rw [fO_I (g := upd (I o) 3 v) (by unfold cO; rw [ho]; simp only [cE, va_up_self, upd]; rfl)]
  exact kk
theorem g3_4 {index o z : Nat} (hd : decode mi.2.1 pc = .ok (.getfield index, 3)) (hl : Cond.fieldLink mi.1.cls index "RippleTank$Parser" "tank" "LRippleTank$Tank;" ∈ gW) (ho : E.1 o = (3, z)) (kk : gAt G mi Qp (pc + 3) L (.ref (G.2.2.1 + E.2.2.1) :: st) (fO G E I J K N) sz k n) : gAt G mi Qp pc L (.ref (G.2.2.1 + o) :: st) (fO G E I J K N) sz k n :=
  r_get (k0 := 4) uX3 rfl hd hl (fo3 ho) (by decide) rfl kk
theorem g3_5 {index o z : Nat} (hd : decode mi.2.1 pc = .ok (.getfield index, 3)) (hl : Cond.fieldLink mi.1.cls index "RippleTank$Parser" "state" "LRippleTank$State;" ∈ gW) (ho : E.1 o = (3, z)) (kk : gAt G mi Qp (pc + 3) L (.ref (G.2.2.1 + 10) :: st) (fO G E I J K N) sz k n) : gAt G mi Qp pc L (.ref (G.2.2.1 + o) :: st) (fO G E I J K N) sz k n :=
  r_get (k0 := 5) uX3 rfl hd hl (fo3 ho) (by decide) rfl kk
theorem g3_6 {index o z : Nat} (hd : decode mi.2.1 pc = .ok (.getfield index, 3)) (hl : Cond.fieldLink mi.1.cls index "RippleTank$Parser" "kind" "I" ∈ gW) (ho : E.1 o = (3, z)) (kk : gAt G mi Qp (pc + 3) L (.int (I o 6) :: st) (fO G E I J K N) sz k n) : gAt G mi Qp pc L (.ref (G.2.2.1 + o) :: st) (fO G E I J K N) sz k n :=
  r_get (k0 := 6) uX3 rfl hd hl (fo3 ho) (by decide) rfl kk
theorem p3_6 {index o z : Nat} {v : Int32} (hd : decode mi.2.1 pc = .ok (.putfield index, 3)) (hl : Cond.fieldLink mi.1.cls index "RippleTank$Parser" "kind" "I" ∈ gW) (ho : E.1 o = (3, z)) (kk : gAt G mi Qp (pc + 3) L st (fO G E (sI I o 6 v) J K N) sz k n) : gAt G mi Qp pc L (.int v :: .ref (G.2.2.1 + o) :: st) (fO G E I J K N) sz k n := by
  refine r_put (k0 := 6) tyX3 tyX3_ok nmX3 uX3 rfl hd hl (fo3 ho) (by decide) rfl rfl rfl (Nat.le_of_ble_eq_true rfl) ?_
  rw [fO_I (g := upd (I o) 6 v) (by unfold cO; rw [ho]; simp only [cE, va_up_self, upd]; rfl)]
  exact kk
theorem g3_7 {index o z : Nat} (hd : decode mi.2.1 pc = .ok (.getfield index, 3)) (hl : Cond.fieldLink mi.1.cls index "RippleTank$Parser" "start" "I" ∈ gW) (ho : E.1 o = (3, z)) (kk : gAt G mi Qp (pc + 3) L (.int (I o 7) :: st) (fO G E I J K N) sz k n) : gAt G mi Qp pc L (.ref (G.2.2.1 + o) :: st) (fO G E I J K N) sz k n :=
  r_get (k0 := 7) uX3 rfl hd hl (fo3 ho) (by decide) rfl kk
theorem p3_7 {index o z : Nat} {v : Int32} (hd : decode mi.2.1 pc = .ok (.putfield index, 3)) (hl : Cond.fieldLink mi.1.cls index "RippleTank$Parser" "start" "I" ∈ gW) (ho : E.1 o = (3, z)) (kk : gAt G mi Qp (pc + 3) L st (fO G E (sI I o 7 v) J K N) sz k n) : gAt G mi Qp pc L (.int v :: .ref (G.2.2.1 + o) :: st) (fO G E I J K N) sz k n := by
  refine r_put (k0 := 7) tyX3 tyX3_ok nmX3 uX3 rfl hd hl (fo3 ho) (by decide) rfl rfl rfl (Nat.le_of_ble_eq_true rfl) ?_
  rw [fO_I (g := upd (I o) 7 v) (by unfold cO; rw [ho]; simp only [cE, va_up_self, upd]; rfl)]
  exact kk
theorem g3_8 {index o z : Nat} (hd : decode mi.2.1 pc = .ok (.getfield index, 3)) (hl : Cond.fieldLink mi.1.cls index "RippleTank$Parser" "stop" "I" ∈ gW) (ho : E.1 o = (3, z)) (kk : gAt G mi Qp (pc + 3) L (.int (I o 8) :: st) (fO G E I J K N) sz k n) : gAt G mi Qp pc L (.ref (G.2.2.1 + o) :: st) (fO G E I J K N) sz k n :=
  r_get (k0 := 8) uX3 rfl hd hl (fo3 ho) (by decide) rfl kk
theorem p3_8 {index o z : Nat} {v : Int32} (hd : decode mi.2.1 pc = .ok (.putfield index, 3)) (hl : Cond.fieldLink mi.1.cls index "RippleTank$Parser" "stop" "I" ∈ gW) (ho : E.1 o = (3, z)) (kk : gAt G mi Qp (pc + 3) L st (fO G E (sI I o 8 v) J K N) sz k n) : gAt G mi Qp pc L (.int v :: .ref (G.2.2.1 + o) :: st) (fO G E I J K N) sz k n := by
  refine r_put (k0 := 8) tyX3 tyX3_ok nmX3 uX3 rfl hd hl (fo3 ho) (by decide) rfl rfl rfl (Nat.le_of_ble_eq_true rfl) ?_
  rw [fO_I (g := upd (I o) 8 v) (by unfold cO; rw [ho]; simp only [cE, va_up_self, upd]; rfl)]
  exact kk
theorem g3_9 {index o z : Nat} (hd : decode mi.2.1 pc = .ok (.getfield index, 3)) (hl : Cond.fieldLink mi.1.cls index "RippleTank$Parser" "value" "I" ∈ gW) (ho : E.1 o = (3, z)) (kk : gAt G mi Qp (pc + 3) L (.int (I o 9) :: st) (fO G E I J K N) sz k n) : gAt G mi Qp pc L (.ref (G.2.2.1 + o) :: st) (fO G E I J K N) sz k n :=
  r_get (k0 := 9) uX3 rfl hd hl (fo3 ho) (by decide) rfl kk
theorem p3_9 {index o z : Nat} {v : Int32} (hd : decode mi.2.1 pc = .ok (.putfield index, 3)) (hl : Cond.fieldLink mi.1.cls index "RippleTank$Parser" "value" "I" ∈ gW) (ho : E.1 o = (3, z)) (kk : gAt G mi Qp (pc + 3) L st (fO G E (sI I o 9 v) J K N) sz k n) : gAt G mi Qp pc L (.int v :: .ref (G.2.2.1 + o) :: st) (fO G E I J K N) sz k n := by
  refine r_put (k0 := 9) tyX3 tyX3_ok nmX3 uX3 rfl hd hl (fo3 ho) (by decide) rfl rfl rfl (Nat.le_of_ble_eq_true rfl) ?_
  rw [fO_I (g := upd (I o) 9 v) (by unfold cO; rw [ho]; simp only [cE, va_up_self, upd]; rfl)]
  exact kk
theorem g3_10 {index o z : Nat} (hd : decode mi.2.1 pc = .ok (.getfield index, 3)) (hl : Cond.fieldLink mi.1.cls index "RippleTank$Parser" "cutCount" "I" ∈ gW) (ho : E.1 o = (3, z)) (kk : gAt G mi Qp (pc + 3) L (.int (I o 10) :: st) (fO G E I J K N) sz k n) : gAt G mi Qp pc L (.ref (G.2.2.1 + o) :: st) (fO G E I J K N) sz k n :=
  r_get (k0 := 10) uX3 rfl hd hl (fo3 ho) (by decide) rfl kk
theorem p3_10 {index o z : Nat} {v : Int32} (hd : decode mi.2.1 pc = .ok (.putfield index, 3)) (hl : Cond.fieldLink mi.1.cls index "RippleTank$Parser" "cutCount" "I" ∈ gW) (ho : E.1 o = (3, z)) (kk : gAt G mi Qp (pc + 3) L st (fO G E (sI I o 10 v) J K N) sz k n) : gAt G mi Qp pc L (.int v :: .ref (G.2.2.1 + o) :: st) (fO G E I J K N) sz k n := by
  refine r_put (k0 := 10) tyX3 tyX3_ok nmX3 uX3 rfl hd hl (fo3 ho) (by decide) rfl rfl rfl (Nat.le_of_ble_eq_true rfl) ?_
  rw [fO_I (g := upd (I o) 10 v) (by unfold cO; rw [ho]; simp only [cE, va_up_self, upd]; rfl)]
  exact kk
theorem g3_11 {index o z : Nat} (hd : decode mi.2.1 pc = .ok (.getfield index, 3)) (hl : Cond.fieldLink mi.1.cls index "RippleTank$Parser" "toldDrifts" "I" ∈ gW) (ho : E.1 o = (3, z)) (kk : gAt G mi Qp (pc + 3) L (.int (I o 11) :: st) (fO G E I J K N) sz k n) : gAt G mi Qp pc L (.ref (G.2.2.1 + o) :: st) (fO G E I J K N) sz k n :=
  r_get (k0 := 11) uX3 rfl hd hl (fo3 ho) (by decide) rfl kk
theorem p3_11 {index o z : Nat} {v : Int32} (hd : decode mi.2.1 pc = .ok (.putfield index, 3)) (hl : Cond.fieldLink mi.1.cls index "RippleTank$Parser" "toldDrifts" "I" ∈ gW) (ho : E.1 o = (3, z)) (kk : gAt G mi Qp (pc + 3) L st (fO G E (sI I o 11 v) J K N) sz k n) : gAt G mi Qp pc L (.int v :: .ref (G.2.2.1 + o) :: st) (fO G E I J K N) sz k n := by
  refine r_put (k0 := 11) tyX3 tyX3_ok nmX3 uX3 rfl hd hl (fo3 ho) (by decide) rfl rfl rfl (Nat.le_of_ble_eq_true rfl) ?_
  rw [fO_I (g := upd (I o) 11 v) (by unfold cO; rw [ho]; simp only [cE, va_up_self, upd]; rfl)]
  exact kk
theorem g3_12 {index o z : Nat} (hd : decode mi.2.1 pc = .ok (.getfield index, 3)) (hl : Cond.fieldLink mi.1.cls index "RippleTank$Parser" "toldOffs" "I" ∈ gW) (ho : E.1 o = (3, z)) (kk : gAt G mi Qp (pc + 3) L (.int (I o 12) :: st) (fO G E I J K N) sz k n) : gAt G mi Qp pc L (.ref (G.2.2.1 + o) :: st) (fO G E I J K N) sz k n :=
  r_get (k0 := 12) uX3 rfl hd hl (fo3 ho) (by decide) rfl kk
theorem p3_12 {index o z : Nat} {v : Int32} (hd : decode mi.2.1 pc = .ok (.putfield index, 3)) (hl : Cond.fieldLink mi.1.cls index "RippleTank$Parser" "toldOffs" "I" ∈ gW) (ho : E.1 o = (3, z)) (kk : gAt G mi Qp (pc + 3) L st (fO G E (sI I o 12 v) J K N) sz k n) : gAt G mi Qp pc L (.int v :: .ref (G.2.2.1 + o) :: st) (fO G E I J K N) sz k n := by
  refine r_put (k0 := 12) tyX3 tyX3_ok nmX3 uX3 rfl hd hl (fo3 ho) (by decide) rfl rfl rfl (Nat.le_of_ble_eq_true rfl) ?_
  rw [fO_I (g := upd (I o) 12 v) (by unfold cO; rw [ho]; simp only [cE, va_up_self, upd]; rfl)]
  exact kk
theorem g3_13 {index o z : Nat} (hd : decode mi.2.1 pc = .ok (.getfield index, 3)) (hl : Cond.fieldLink mi.1.cls index "RippleTank$Parser" "toldShapes" "I" ∈ gW) (ho : E.1 o = (3, z)) (kk : gAt G mi Qp (pc + 3) L (.int (I o 13) :: st) (fO G E I J K N) sz k n) : gAt G mi Qp pc L (.ref (G.2.2.1 + o) :: st) (fO G E I J K N) sz k n :=
  r_get (k0 := 13) uX3 rfl hd hl (fo3 ho) (by decide) rfl kk
theorem p3_13 {index o z : Nat} {v : Int32} (hd : decode mi.2.1 pc = .ok (.putfield index, 3)) (hl : Cond.fieldLink mi.1.cls index "RippleTank$Parser" "toldShapes" "I" ∈ gW) (ho : E.1 o = (3, z)) (kk : gAt G mi Qp (pc + 3) L st (fO G E (sI I o 13 v) J K N) sz k n) : gAt G mi Qp pc L (.int v :: .ref (G.2.2.1 + o) :: st) (fO G E I J K N) sz k n := by
  refine r_put (k0 := 13) tyX3 tyX3_ok nmX3 uX3 rfl hd hl (fo3 ho) (by decide) rfl rfl rfl (Nat.le_of_ble_eq_true rfl) ?_
  rw [fO_I (g := upd (I o) 13 v) (by unfold cO; rw [ho]; simp only [cE, va_up_self, upd]; rfl)]
  exact kk
theorem g4_0 {index o z : Nat} (hd : decode mi.2.1 pc = .ok (.getfield index, 3)) (hl : Cond.fieldLink mi.1.cls index "RippleTank$Ruler" "lengths" "[I" ∈ gW) (ho : E.1 o = (4, z)) (kk : gAt G mi Qp (pc + 3) L (.ref (G.2.2.1 + (o + 1)) :: st) (fO G E I J K N) sz k n) : gAt G mi Qp pc L (.ref (G.2.2.1 + o) :: st) (fO G E I J K N) sz k n :=
  r_get (k0 := 0) uX4 rfl hd hl (fo4 ho) (by decide) rfl kk
theorem g5_0 {index o z : Nat} (hd : decode mi.2.1 pc = .ok (.getfield index, 3)) (hl : Cond.fieldLink mi.1.cls index "RippleTank$Shoal" "firstX" "I" ∈ gW) (ho : E.1 o = (5, z)) (kk : gAt G mi Qp (pc + 3) L (.int (I o 0) :: st) (fO G E I J K N) sz k n) : gAt G mi Qp pc L (.ref (G.2.2.1 + o) :: st) (fO G E I J K N) sz k n :=
  r_get (k0 := 0) uX5 rfl hd hl (fo5 ho) (by decide) rfl kk
theorem p5_0 {index o z : Nat} {v : Int32} (hd : decode mi.2.1 pc = .ok (.putfield index, 3)) (hl : Cond.fieldLink mi.1.cls index "RippleTank$Shoal" "firstX" "I" ∈ gW) (ho : E.1 o = (5, z)) (kk : gAt G mi Qp (pc + 3) L st (fO G E (sI I o 0 v) J K N) sz k n) : gAt G mi Qp pc L (.int v :: .ref (G.2.2.1 + o) :: st) (fO G E I J K N) sz k n := by
  refine r_put (k0 := 0) tyX5 tyX5_ok nmX5 uX5 rfl hd hl (fo5 ho) (by decide) rfl rfl rfl (Nat.le_of_ble_eq_true rfl) ?_
  rw [fO_I (g := upd (I o) 0 v) (by unfold cO; rw [ho]; simp only [cE, va_up_self, upd]; rfl)]
  exact kk
theorem g5_1 {index o z : Nat} (hd : decode mi.2.1 pc = .ok (.getfield index, 3)) (hl : Cond.fieldLink mi.1.cls index "RippleTank$Shoal" "firstY" "I" ∈ gW) (ho : E.1 o = (5, z)) (kk : gAt G mi Qp (pc + 3) L (.int (I o 1) :: st) (fO G E I J K N) sz k n) : gAt G mi Qp pc L (.ref (G.2.2.1 + o) :: st) (fO G E I J K N) sz k n :=
  r_get (k0 := 1) uX5 rfl hd hl (fo5 ho) (by decide) rfl kk
theorem p5_1 {index o z : Nat} {v : Int32} (hd : decode mi.2.1 pc = .ok (.putfield index, 3)) (hl : Cond.fieldLink mi.1.cls index "RippleTank$Shoal" "firstY" "I" ∈ gW) (ho : E.1 o = (5, z)) (kk : gAt G mi Qp (pc + 3) L st (fO G E (sI I o 1 v) J K N) sz k n) : gAt G mi Qp pc L (.int v :: .ref (G.2.2.1 + o) :: st) (fO G E I J K N) sz k n := by
  refine r_put (k0 := 1) tyX5 tyX5_ok nmX5 uX5 rfl hd hl (fo5 ho) (by decide) rfl rfl rfl (Nat.le_of_ble_eq_true rfl) ?_
  rw [fO_I (g := upd (I o) 1 v) (by unfold cO; rw [ho]; simp only [cE, va_up_self, upd]; rfl)]
  exact kk
theorem g5_2 {index o z : Nat} (hd : decode mi.2.1 pc = .ok (.getfield index, 3)) (hl : Cond.fieldLink mi.1.cls index "RippleTank$Shoal" "lastX" "I" ∈ gW) (ho : E.1 o = (5, z)) (kk : gAt G mi Qp (pc + 3) L (.int (I o 2) :: st) (fO G E I J K N) sz k n) : gAt G mi Qp pc L (.ref (G.2.2.1 + o) :: st) (fO G E I J K N) sz k n :=
  r_get (k0 := 2) uX5 rfl hd hl (fo5 ho) (by decide) rfl kk
theorem p5_2 {index o z : Nat} {v : Int32} (hd : decode mi.2.1 pc = .ok (.putfield index, 3)) (hl : Cond.fieldLink mi.1.cls index "RippleTank$Shoal" "lastX" "I" ∈ gW) (ho : E.1 o = (5, z)) (kk : gAt G mi Qp (pc + 3) L st (fO G E (sI I o 2 v) J K N) sz k n) : gAt G mi Qp pc L (.int v :: .ref (G.2.2.1 + o) :: st) (fO G E I J K N) sz k n := by
  refine r_put (k0 := 2) tyX5 tyX5_ok nmX5 uX5 rfl hd hl (fo5 ho) (by decide) rfl rfl rfl (Nat.le_of_ble_eq_true rfl) ?_
  rw [fO_I (g := upd (I o) 2 v) (by unfold cO; rw [ho]; simp only [cE, va_up_self, upd]; rfl)]
  exact kk
theorem g5_3 {index o z : Nat} (hd : decode mi.2.1 pc = .ok (.getfield index, 3)) (hl : Cond.fieldLink mi.1.cls index "RippleTank$Shoal" "lastY" "I" ∈ gW) (ho : E.1 o = (5, z)) (kk : gAt G mi Qp (pc + 3) L (.int (I o 3) :: st) (fO G E I J K N) sz k n) : gAt G mi Qp pc L (.ref (G.2.2.1 + o) :: st) (fO G E I J K N) sz k n :=
  r_get (k0 := 3) uX5 rfl hd hl (fo5 ho) (by decide) rfl kk
theorem p5_3 {index o z : Nat} {v : Int32} (hd : decode mi.2.1 pc = .ok (.putfield index, 3)) (hl : Cond.fieldLink mi.1.cls index "RippleTank$Shoal" "lastY" "I" ∈ gW) (ho : E.1 o = (5, z)) (kk : gAt G mi Qp (pc + 3) L st (fO G E (sI I o 3 v) J K N) sz k n) : gAt G mi Qp pc L (.int v :: .ref (G.2.2.1 + o) :: st) (fO G E I J K N) sz k n := by
  refine r_put (k0 := 3) tyX5 tyX5_ok nmX5 uX5 rfl hd hl (fo5 ho) (by decide) rfl rfl rfl (Nat.le_of_ble_eq_true rfl) ?_
  rw [fO_I (g := upd (I o) 3 v) (by unfold cO; rw [ho]; simp only [cE, va_up_self, upd]; rfl)]
  exact kk
theorem g5_4 {index o z : Nat} (hd : decode mi.2.1 pc = .ok (.getfield index, 3)) (hl : Cond.fieldLink mi.1.cls index "RippleTank$Shoal" "percent" "I" ∈ gW) (ho : E.1 o = (5, z)) (kk : gAt G mi Qp (pc + 3) L (.int (I o 4) :: st) (fO G E I J K N) sz k n) : gAt G mi Qp pc L (.ref (G.2.2.1 + o) :: st) (fO G E I J K N) sz k n :=
  r_get (k0 := 4) uX5 rfl hd hl (fo5 ho) (by decide) rfl kk
theorem p5_4 {index o z : Nat} {v : Int32} (hd : decode mi.2.1 pc = .ok (.putfield index, 3)) (hl : Cond.fieldLink mi.1.cls index "RippleTank$Shoal" "percent" "I" ∈ gW) (ho : E.1 o = (5, z)) (kk : gAt G mi Qp (pc + 3) L st (fO G E (sI I o 4 v) J K N) sz k n) : gAt G mi Qp pc L (.int v :: .ref (G.2.2.1 + o) :: st) (fO G E I J K N) sz k n := by
  refine r_put (k0 := 4) tyX5 tyX5_ok nmX5 uX5 rfl hd hl (fo5 ho) (by decide) rfl rfl rfl (Nat.le_of_ble_eq_true rfl) ?_
  rw [fO_I (g := upd (I o) 4 v) (by unfold cO; rw [ho]; simp only [cE, va_up_self, upd]; rfl)]
  exact kk
theorem g6_0 {index o z : Nat} (hd : decode mi.2.1 pc = .ok (.getfield index, 3)) (hl : Cond.fieldLink mi.1.cls index "RippleTank$State" "now" "I" ∈ gW) (ho : E.1 o = (6, z)) (kk : gAt G mi Qp (pc + 3) L (.int (I o 0) :: st) (fO G E I J K N) sz k n) : gAt G mi Qp pc L (.ref (G.2.2.1 + o) :: st) (fO G E I J K N) sz k n :=
  r_get (k0 := 0) uX6 rfl hd hl (fo6 ho) (by decide) rfl kk
theorem p6_0 {index o z : Nat} {v : Int32} (hd : decode mi.2.1 pc = .ok (.putfield index, 3)) (hl : Cond.fieldLink mi.1.cls index "RippleTank$State" "now" "I" ∈ gW) (ho : E.1 o = (6, z)) (kk : gAt G mi Qp (pc + 3) L st (fO G E (sI I o 0 v) J K N) sz k n) : gAt G mi Qp pc L (.int v :: .ref (G.2.2.1 + o) :: st) (fO G E I J K N) sz k n := by
  refine r_put (k0 := 0) tyX6 tyX6_ok nmX6 uX6 rfl hd hl (fo6 ho) (by decide) rfl rfl rfl (Nat.le_of_ble_eq_true rfl) ?_
  rw [fO_I (g := upd (I o) 0 v) (by unfold cO; rw [ho]; simp only [cE, va_up_self, upd]; rfl)]
  exact kk
theorem g6_1 {index o z : Nat} (hd : decode mi.2.1 pc = .ok (.getfield index, 3)) (hl : Cond.fieldLink mi.1.cls index "RippleTank$State" "open" "I" ∈ gW) (ho : E.1 o = (6, z)) (kk : gAt G mi Qp (pc + 3) L (.int (I o 1) :: st) (fO G E I J K N) sz k n) : gAt G mi Qp pc L (.ref (G.2.2.1 + o) :: st) (fO G E I J K N) sz k n :=
  r_get (k0 := 1) uX6 rfl hd hl (fo6 ho) (by decide) rfl kk
theorem p6_1 {index o z : Nat} {v : Int32} (hd : decode mi.2.1 pc = .ok (.putfield index, 3)) (hl : Cond.fieldLink mi.1.cls index "RippleTank$State" "open" "I" ∈ gW) (ho : E.1 o = (6, z)) (kk : gAt G mi Qp (pc + 3) L st (fO G E (sI I o 1 v) J K N) sz k n) : gAt G mi Qp pc L (.int v :: .ref (G.2.2.1 + o) :: st) (fO G E I J K N) sz k n := by
  refine r_put (k0 := 1) tyX6 tyX6_ok nmX6 uX6 rfl hd hl (fo6 ho) (by decide) rfl rfl rfl (Nat.le_of_ble_eq_true rfl) ?_
  rw [fO_I (g := upd (I o) 1 v) (by unfold cO; rw [ho]; simp only [cE, va_up_self, upd]; rfl)]
  exact kk
theorem g6_2 {index o z : Nat} (hd : decode mi.2.1 pc = .ok (.getfield index, 3)) (hl : Cond.fieldLink mi.1.cls index "RippleTank$State" "on" "[Z" ∈ gW) (ho : E.1 o = (6, z)) (kk : gAt G mi Qp (pc + 3) L (.ref (G.2.2.1 + (o + 1)) :: st) (fO G E I J K N) sz k n) : gAt G mi Qp pc L (.ref (G.2.2.1 + o) :: st) (fO G E I J K N) sz k n :=
  r_get (k0 := 2) uX6 rfl hd hl (fo6 ho) (by decide) rfl kk
theorem g6_3 {index o z : Nat} (hd : decode mi.2.1 pc = .ok (.getfield index, 3)) (hl : Cond.fieldLink mi.1.cls index "RippleTank$State" "amps" "[I" ∈ gW) (ho : E.1 o = (6, z)) (kk : gAt G mi Qp (pc + 3) L (.ref (G.2.2.1 + (o + 2)) :: st) (fO G E I J K N) sz k n) : gAt G mi Qp pc L (.ref (G.2.2.1 + o) :: st) (fO G E I J K N) sz k n :=
  r_get (k0 := 3) uX6 rfl hd hl (fo6 ho) (by decide) rfl kk
theorem g6_4 {index o z : Nat} (hd : decode mi.2.1 pc = .ok (.getfield index, 3)) (hl : Cond.fieldLink mi.1.cls index "RippleTank$State" "phases" "[I" ∈ gW) (ho : E.1 o = (6, z)) (kk : gAt G mi Qp (pc + 3) L (.ref (G.2.2.1 + (o + 3)) :: st) (fO G E I J K N) sz k n) : gAt G mi Qp pc L (.ref (G.2.2.1 + o) :: st) (fO G E I J K N) sz k n :=
  r_get (k0 := 4) uX6 rfl hd hl (fo6 ho) (by decide) rfl kk
theorem g6_5 {index o z : Nat} (hd : decode mi.2.1 pc = .ok (.getfield index, 3)) (hl : Cond.fieldLink mi.1.cls index "RippleTank$State" "columns" "[I" ∈ gW) (ho : E.1 o = (6, z)) (kk : gAt G mi Qp (pc + 3) L (.ref (G.2.2.1 + (o + 4)) :: st) (fO G E I J K N) sz k n) : gAt G mi Qp pc L (.ref (G.2.2.1 + o) :: st) (fO G E I J K N) sz k n :=
  r_get (k0 := 5) uX6 rfl hd hl (fo6 ho) (by decide) rfl kk
theorem g6_6 {index o z : Nat} (hd : decode mi.2.1 pc = .ok (.getfield index, 3)) (hl : Cond.fieldLink mi.1.cls index "RippleTank$State" "rows" "[I" ∈ gW) (ho : E.1 o = (6, z)) (kk : gAt G mi Qp (pc + 3) L (.ref (G.2.2.1 + (o + 5)) :: st) (fO G E I J K N) sz k n) : gAt G mi Qp pc L (.ref (G.2.2.1 + o) :: st) (fO G E I J K N) sz k n :=
  r_get (k0 := 6) uX6 rfl hd hl (fo6 ho) (by decide) rfl kk
theorem g6_7 {index o z : Nat} (hd : decode mi.2.1 pc = .ok (.getfield index, 3)) (hl : Cond.fieldLink mi.1.cls index "RippleTank$State" "driftsX" "[I" ∈ gW) (ho : E.1 o = (6, z)) (kk : gAt G mi Qp (pc + 3) L (.ref (G.2.2.1 + (o + 6)) :: st) (fO G E I J K N) sz k n) : gAt G mi Qp pc L (.ref (G.2.2.1 + o) :: st) (fO G E I J K N) sz k n :=
  r_get (k0 := 7) uX6 rfl hd hl (fo6 ho) (by decide) rfl kk
theorem g6_8 {index o z : Nat} (hd : decode mi.2.1 pc = .ok (.getfield index, 3)) (hl : Cond.fieldLink mi.1.cls index "RippleTank$State" "driftsY" "[I" ∈ gW) (ho : E.1 o = (6, z)) (kk : gAt G mi Qp (pc + 3) L (.ref (G.2.2.1 + (o + 7)) :: st) (fO G E I J K N) sz k n) : gAt G mi Qp pc L (.ref (G.2.2.1 + o) :: st) (fO G E I J K N) sz k n :=
  r_get (k0 := 8) uX6 rfl hd hl (fo6 ho) (by decide) rfl kk
theorem g7_0 {index o z : Nat} (hd : decode mi.2.1 pc = .ok (.getfield index, 3)) (hl : Cond.fieldLink mi.1.cls index "RippleTank$Tank" "ruler" "LRippleTank$Ruler;" ∈ gW) (ho : E.1 o = (7, z)) (kk : gAt G mi Qp (pc + 3) L (.ref (G.2.2.1 + 93) :: st) (fO G E I J K N) sz k n) : gAt G mi Qp pc L (.ref (G.2.2.1 + o) :: st) (fO G E I J K N) sz k n :=
  r_get (k0 := 0) uX7 rfl hd hl (fo7 ho) (by decide) rfl kk
theorem g7_1 {index o z : Nat} (hd : decode mi.2.1 pc = .ok (.getfield index, 3)) (hl : Cond.fieldLink mi.1.cls index "RippleTank$Tank" "columns" "I" ∈ gW) (ho : E.1 o = (7, z)) (kk : gAt G mi Qp (pc + 3) L (.int (I o 1) :: st) (fO G E I J K N) sz k n) : gAt G mi Qp pc L (.ref (G.2.2.1 + o) :: st) (fO G E I J K N) sz k n :=
  r_get (k0 := 1) uX7 rfl hd hl (fo7 ho) (by decide) rfl kk
theorem p7_1 {index o z : Nat} {v : Int32} (hd : decode mi.2.1 pc = .ok (.putfield index, 3)) (hl : Cond.fieldLink mi.1.cls index "RippleTank$Tank" "columns" "I" ∈ gW) (ho : E.1 o = (7, z)) (kk : gAt G mi Qp (pc + 3) L st (fO G E (sI I o 1 v) J K N) sz k n) : gAt G mi Qp pc L (.int v :: .ref (G.2.2.1 + o) :: st) (fO G E I J K N) sz k n := by
  refine r_put (k0 := 1) tyX7 tyX7_ok nmX7 uX7 rfl hd hl (fo7 ho) (by decide) rfl rfl rfl (Nat.le_of_ble_eq_true rfl) ?_
  rw [fO_I (g := upd (I o) 1 v) (by unfold cO; rw [ho]; simp only [cE, va_up_self, upd]; rfl)]
  exact kk
theorem g7_2 {index o z : Nat} (hd : decode mi.2.1 pc = .ok (.getfield index, 3)) (hl : Cond.fieldLink mi.1.cls index "RippleTank$Tank" "rows" "I" ∈ gW) (ho : E.1 o = (7, z)) (kk : gAt G mi Qp (pc + 3) L (.int (I o 2) :: st) (fO G E I J K N) sz k n) : gAt G mi Qp pc L (.ref (G.2.2.1 + o) :: st) (fO G E I J K N) sz k n :=
  r_get (k0 := 2) uX7 rfl hd hl (fo7 ho) (by decide) rfl kk
theorem p7_2 {index o z : Nat} {v : Int32} (hd : decode mi.2.1 pc = .ok (.putfield index, 3)) (hl : Cond.fieldLink mi.1.cls index "RippleTank$Tank" "rows" "I" ∈ gW) (ho : E.1 o = (7, z)) (kk : gAt G mi Qp (pc + 3) L st (fO G E (sI I o 2 v) J K N) sz k n) : gAt G mi Qp pc L (.int v :: .ref (G.2.2.1 + o) :: st) (fO G E I J K N) sz k n := by
  refine r_put (k0 := 2) tyX7 tyX7_ok nmX7 uX7 rfl hd hl (fo7 ho) (by decide) rfl rfl rfl (Nat.le_of_ble_eq_true rfl) ?_
  rw [fO_I (g := upd (I o) 2 v) (by unfold cO; rw [ho]; simp only [cE, va_up_self, upd]; rfl)]
  exact kk
theorem g7_3 {index o z : Nat} (hd : decode mi.2.1 pc = .ok (.getfield index, 3)) (hl : Cond.fieldLink mi.1.cls index "RippleTank$Tank" "fade" "I" ∈ gW) (ho : E.1 o = (7, z)) (kk : gAt G mi Qp (pc + 3) L (.int (I o 3) :: st) (fO G E I J K N) sz k n) : gAt G mi Qp pc L (.ref (G.2.2.1 + o) :: st) (fO G E I J K N) sz k n :=
  r_get (k0 := 3) uX7 rfl hd hl (fo7 ho) (by decide) rfl kk
theorem p7_3 {index o z : Nat} {v : Int32} (hd : decode mi.2.1 pc = .ok (.putfield index, 3)) (hl : Cond.fieldLink mi.1.cls index "RippleTank$Tank" "fade" "I" ∈ gW) (ho : E.1 o = (7, z)) (kk : gAt G mi Qp (pc + 3) L st (fO G E (sI I o 3 v) J K N) sz k n) : gAt G mi Qp pc L (.int v :: .ref (G.2.2.1 + o) :: st) (fO G E I J K N) sz k n := by
  refine r_put (k0 := 3) tyX7 tyX7_ok nmX7 uX7 rfl hd hl (fo7 ho) (by decide) rfl rfl rfl (Nat.le_of_ble_eq_true rfl) ?_
  rw [fO_I (g := upd (I o) 3 v) (by unfold cO; rw [ho]; simp only [cE, va_up_self, upd]; rfl)]
  exact kk
theorem g7_4 {index o z : Nat} (hd : decode mi.2.1 pc = .ok (.getfield index, 3)) (hl : Cond.fieldLink mi.1.cls index "RippleTank$Tank" "wallColumn" "I" ∈ gW) (ho : E.1 o = (7, z)) (kk : gAt G mi Qp (pc + 3) L (.int (I o 4) :: st) (fO G E I J K N) sz k n) : gAt G mi Qp pc L (.ref (G.2.2.1 + o) :: st) (fO G E I J K N) sz k n :=
  r_get (k0 := 4) uX7 rfl hd hl (fo7 ho) (by decide) rfl kk
theorem p7_4 {index o z : Nat} {v : Int32} (hd : decode mi.2.1 pc = .ok (.putfield index, 3)) (hl : Cond.fieldLink mi.1.cls index "RippleTank$Tank" "wallColumn" "I" ∈ gW) (ho : E.1 o = (7, z)) (kk : gAt G mi Qp (pc + 3) L st (fO G E (sI I o 4 v) J K N) sz k n) : gAt G mi Qp pc L (.int v :: .ref (G.2.2.1 + o) :: st) (fO G E I J K N) sz k n := by
  refine r_put (k0 := 4) tyX7 tyX7_ok nmX7 uX7 rfl hd hl (fo7 ho) (by decide) rfl rfl rfl (Nat.le_of_ble_eq_true rfl) ?_
  rw [fO_I (g := upd (I o) 4 v) (by unfold cO; rw [ho]; simp only [cE, va_up_self, upd]; rfl)]
  exact kk
theorem g7_5 {index o z : Nat} (hd : decode mi.2.1 pc = .ok (.getfield index, 3)) (hl : Cond.fieldLink mi.1.cls index "RippleTank$Tank" "sourceCount" "I" ∈ gW) (ho : E.1 o = (7, z)) (kk : gAt G mi Qp (pc + 3) L (.int (I o 5) :: st) (fO G E I J K N) sz k n) : gAt G mi Qp pc L (.ref (G.2.2.1 + o) :: st) (fO G E I J K N) sz k n :=
  r_get (k0 := 5) uX7 rfl hd hl (fo7 ho) (by decide) rfl kk
theorem p7_5 {index o z : Nat} {v : Int32} (hd : decode mi.2.1 pc = .ok (.putfield index, 3)) (hl : Cond.fieldLink mi.1.cls index "RippleTank$Tank" "sourceCount" "I" ∈ gW) (ho : E.1 o = (7, z)) (kk : gAt G mi Qp (pc + 3) L st (fO G E (sI I o 5 v) J K N) sz k n) : gAt G mi Qp pc L (.int v :: .ref (G.2.2.1 + o) :: st) (fO G E I J K N) sz k n := by
  refine r_put (k0 := 5) tyX7 tyX7_ok nmX7 uX7 rfl hd hl (fo7 ho) (by decide) rfl rfl rfl (Nat.le_of_ble_eq_true rfl) ?_
  rw [fO_I (g := upd (I o) 5 v) (by unfold cO; rw [ho]; simp only [cE, va_up_self, upd]; rfl)]
  exact kk
theorem g7_6 {index o z : Nat} (hd : decode mi.2.1 pc = .ok (.getfield index, 3)) (hl : Cond.fieldLink mi.1.cls index "RippleTank$Tank" "trains" "[LRippleTank$Train;" ∈ gW) (ho : E.1 o = (7, z)) (kk : gAt G mi Qp (pc + 3) L (.ref (G.2.2.1 + (o + 1)) :: st) (fO G E I J K N) sz k n) : gAt G mi Qp pc L (.ref (G.2.2.1 + o) :: st) (fO G E I J K N) sz k n :=
  r_get (k0 := 6) uX7 rfl hd hl (fo7 ho) (by decide) rfl kk
theorem g7_7 {index o z : Nat} (hd : decode mi.2.1 pc = .ok (.getfield index, 3)) (hl : Cond.fieldLink mi.1.cls index "RippleTank$Tank" "shoalCount" "I" ∈ gW) (ho : E.1 o = (7, z)) (kk : gAt G mi Qp (pc + 3) L (.int (I o 7) :: st) (fO G E I J K N) sz k n) : gAt G mi Qp pc L (.ref (G.2.2.1 + o) :: st) (fO G E I J K N) sz k n :=
  r_get (k0 := 7) uX7 rfl hd hl (fo7 ho) (by decide) rfl kk
theorem p7_7 {index o z : Nat} {v : Int32} (hd : decode mi.2.1 pc = .ok (.putfield index, 3)) (hl : Cond.fieldLink mi.1.cls index "RippleTank$Tank" "shoalCount" "I" ∈ gW) (ho : E.1 o = (7, z)) (kk : gAt G mi Qp (pc + 3) L st (fO G E (sI I o 7 v) J K N) sz k n) : gAt G mi Qp pc L (.int v :: .ref (G.2.2.1 + o) :: st) (fO G E I J K N) sz k n := by
  refine r_put (k0 := 7) tyX7 tyX7_ok nmX7 uX7 rfl hd hl (fo7 ho) (by decide) rfl rfl rfl (Nat.le_of_ble_eq_true rfl) ?_
  rw [fO_I (g := upd (I o) 7 v) (by unfold cO; rw [ho]; simp only [cE, va_up_self, upd]; rfl)]
  exact kk
theorem g7_8 {index o z : Nat} (hd : decode mi.2.1 pc = .ok (.getfield index, 3)) (hl : Cond.fieldLink mi.1.cls index "RippleTank$Tank" "shoals" "[LRippleTank$Shoal;" ∈ gW) (ho : E.1 o = (7, z)) (kk : gAt G mi Qp (pc + 3) L (.ref (G.2.2.1 + (o + 2)) :: st) (fO G E I J K N) sz k n) : gAt G mi Qp pc L (.ref (G.2.2.1 + o) :: st) (fO G E I J K N) sz k n :=
  r_get (k0 := 8) uX7 rfl hd hl (fo7 ho) (by decide) rfl kk
theorem g7_9 {index o z : Nat} (hd : decode mi.2.1 pc = .ok (.getfield index, 3)) (hl : Cond.fieldLink mi.1.cls index "RippleTank$Tank" "gaugeCount" "I" ∈ gW) (ho : E.1 o = (7, z)) (kk : gAt G mi Qp (pc + 3) L (.int (I o 9) :: st) (fO G E I J K N) sz k n) : gAt G mi Qp pc L (.ref (G.2.2.1 + o) :: st) (fO G E I J K N) sz k n :=
  r_get (k0 := 9) uX7 rfl hd hl (fo7 ho) (by decide) rfl kk
theorem p7_9 {index o z : Nat} {v : Int32} (hd : decode mi.2.1 pc = .ok (.putfield index, 3)) (hl : Cond.fieldLink mi.1.cls index "RippleTank$Tank" "gaugeCount" "I" ∈ gW) (ho : E.1 o = (7, z)) (kk : gAt G mi Qp (pc + 3) L st (fO G E (sI I o 9 v) J K N) sz k n) : gAt G mi Qp pc L (.int v :: .ref (G.2.2.1 + o) :: st) (fO G E I J K N) sz k n := by
  refine r_put (k0 := 9) tyX7 tyX7_ok nmX7 uX7 rfl hd hl (fo7 ho) (by decide) rfl rfl rfl (Nat.le_of_ble_eq_true rfl) ?_
  rw [fO_I (g := upd (I o) 9 v) (by unfold cO; rw [ho]; simp only [cE, va_up_self, upd]; rfl)]
  exact kk
theorem g7_10 {index o z : Nat} (hd : decode mi.2.1 pc = .ok (.getfield index, 3)) (hl : Cond.fieldLink mi.1.cls index "RippleTank$Tank" "gaugeColumns" "[I" ∈ gW) (ho : E.1 o = (7, z)) (kk : gAt G mi Qp (pc + 3) L (.ref (G.2.2.1 + (o + 3)) :: st) (fO G E I J K N) sz k n) : gAt G mi Qp pc L (.ref (G.2.2.1 + o) :: st) (fO G E I J K N) sz k n :=
  r_get (k0 := 10) uX7 rfl hd hl (fo7 ho) (by decide) rfl kk
theorem g7_11 {index o z : Nat} (hd : decode mi.2.1 pc = .ok (.getfield index, 3)) (hl : Cond.fieldLink mi.1.cls index "RippleTank$Tank" "gaugeRows" "[I" ∈ gW) (ho : E.1 o = (7, z)) (kk : gAt G mi Qp (pc + 3) L (.ref (G.2.2.1 + (o + 4)) :: st) (fO G E I J K N) sz k n) : gAt G mi Qp pc L (.ref (G.2.2.1 + o) :: st) (fO G E I J K N) sz k n :=
  r_get (k0 := 11) uX7 rfl hd hl (fo7 ho) (by decide) rfl kk
theorem g7_12 {index o z : Nat} (hd : decode mi.2.1 pc = .ok (.getfield index, 3)) (hl : Cond.fieldLink mi.1.cls index "RippleTank$Tank" "mirrors" "[I" ∈ gW) (ho : E.1 o = (7, z)) (kk : gAt G mi Qp (pc + 3) L (.ref (G.2.2.1 + (o + 5)) :: st) (fO G E I J K N) sz k n) : gAt G mi Qp pc L (.ref (G.2.2.1 + o) :: st) (fO G E I J K N) sz k n :=
  r_get (k0 := 12) uX7 rfl hd hl (fo7 ho) (by decide) rfl kk
theorem g8_0 {index o z : Nat} (hd : decode mi.2.1 pc = .ok (.getfield index, 3)) (hl : Cond.fieldLink mi.1.cls index "RippleTank$Train" "length" "I" ∈ gW) (ho : E.1 o = (8, z)) (kk : gAt G mi Qp (pc + 3) L (.int (I o 0) :: st) (fO G E I J K N) sz k n) : gAt G mi Qp pc L (.ref (G.2.2.1 + o) :: st) (fO G E I J K N) sz k n :=
  r_get (k0 := 0) uX8 rfl hd hl (fo8 ho) (by decide) rfl kk
theorem p8_0 {index o z : Nat} {v : Int32} (hd : decode mi.2.1 pc = .ok (.putfield index, 3)) (hl : Cond.fieldLink mi.1.cls index "RippleTank$Train" "length" "I" ∈ gW) (ho : E.1 o = (8, z)) (kk : gAt G mi Qp (pc + 3) L st (fO G E (sI I o 0 v) J K N) sz k n) : gAt G mi Qp pc L (.int v :: .ref (G.2.2.1 + o) :: st) (fO G E I J K N) sz k n := by
  refine r_put (k0 := 0) tyX8 tyX8_ok nmX8 uX8 rfl hd hl (fo8 ho) (by decide) rfl rfl rfl (Nat.le_of_ble_eq_true rfl) ?_
  rw [fO_I (g := upd (I o) 0 v) (by unfold cO; rw [ho]; simp only [cE, va_up_self, upd]; rfl)]
  exact kk
theorem g8_1 {index o z : Nat} (hd : decode mi.2.1 pc = .ok (.getfield index, 3)) (hl : Cond.fieldLink mi.1.cls index "RippleTank$Train" "period" "I" ∈ gW) (ho : E.1 o = (8, z)) (kk : gAt G mi Qp (pc + 3) L (.int (I o 1) :: st) (fO G E I J K N) sz k n) : gAt G mi Qp pc L (.ref (G.2.2.1 + o) :: st) (fO G E I J K N) sz k n :=
  r_get (k0 := 1) uX8 rfl hd hl (fo8 ho) (by decide) rfl kk
theorem p8_1 {index o z : Nat} {v : Int32} (hd : decode mi.2.1 pc = .ok (.putfield index, 3)) (hl : Cond.fieldLink mi.1.cls index "RippleTank$Train" "period" "I" ∈ gW) (ho : E.1 o = (8, z)) (kk : gAt G mi Qp (pc + 3) L st (fO G E (sI I o 1 v) J K N) sz k n) : gAt G mi Qp pc L (.int v :: .ref (G.2.2.1 + o) :: st) (fO G E I J K N) sz k n := by
  refine r_put (k0 := 1) tyX8 tyX8_ok nmX8 uX8 rfl hd hl (fo8 ho) (by decide) rfl rfl rfl (Nat.le_of_ble_eq_true rfl) ?_
  rw [fO_I (g := upd (I o) 1 v) (by unfold cO; rw [ho]; simp only [cE, va_up_self, upd]; rfl)]
  exact kk
theorem g8_2 {index o z : Nat} (hd : decode mi.2.1 pc = .ok (.getfield index, 3)) (hl : Cond.fieldLink mi.1.cls index "RippleTank$Train" "from" "I" ∈ gW) (ho : E.1 o = (8, z)) (kk : gAt G mi Qp (pc + 3) L (.int (I o 2) :: st) (fO G E I J K N) sz k n) : gAt G mi Qp pc L (.ref (G.2.2.1 + o) :: st) (fO G E I J K N) sz k n :=
  r_get (k0 := 2) uX8 rfl hd hl (fo8 ho) (by decide) rfl kk
theorem p8_2 {index o z : Nat} {v : Int32} (hd : decode mi.2.1 pc = .ok (.putfield index, 3)) (hl : Cond.fieldLink mi.1.cls index "RippleTank$Train" "from" "I" ∈ gW) (ho : E.1 o = (8, z)) (kk : gAt G mi Qp (pc + 3) L st (fO G E (sI I o 2 v) J K N) sz k n) : gAt G mi Qp pc L (.int v :: .ref (G.2.2.1 + o) :: st) (fO G E I J K N) sz k n := by
  refine r_put (k0 := 2) tyX8 tyX8_ok nmX8 uX8 rfl hd hl (fo8 ho) (by decide) rfl rfl rfl (Nat.le_of_ble_eq_true rfl) ?_
  rw [fO_I (g := upd (I o) 2 v) (by unfold cO; rw [ho]; simp only [cE, va_up_self, upd]; rfl)]
  exact kk
theorem g8_3 {index o z : Nat} (hd : decode mi.2.1 pc = .ok (.getfield index, 3)) (hl : Cond.fieldLink mi.1.cls index "RippleTank$Train" "until" "I" ∈ gW) (ho : E.1 o = (8, z)) (kk : gAt G mi Qp (pc + 3) L (.int (I o 3) :: st) (fO G E I J K N) sz k n) : gAt G mi Qp pc L (.ref (G.2.2.1 + o) :: st) (fO G E I J K N) sz k n :=
  r_get (k0 := 3) uX8 rfl hd hl (fo8 ho) (by decide) rfl kk
theorem p8_3 {index o z : Nat} {v : Int32} (hd : decode mi.2.1 pc = .ok (.putfield index, 3)) (hl : Cond.fieldLink mi.1.cls index "RippleTank$Train" "until" "I" ∈ gW) (ho : E.1 o = (8, z)) (kk : gAt G mi Qp (pc + 3) L st (fO G E (sI I o 3 v) J K N) sz k n) : gAt G mi Qp pc L (.int v :: .ref (G.2.2.1 + o) :: st) (fO G E I J K N) sz k n := by
  refine r_put (k0 := 3) tyX8 tyX8_ok nmX8 uX8 rfl hd hl (fo8 ho) (by decide) rfl rfl rfl (Nat.le_of_ble_eq_true rfl) ?_
  rw [fO_I (g := upd (I o) 3 v) (by unfold cO; rw [ho]; simp only [cE, va_up_self, upd]; rfl)]
  exact kk
theorem g8_4 {index o z : Nat} (hd : decode mi.2.1 pc = .ok (.getfield index, 3)) (hl : Cond.fieldLink mi.1.cls index "RippleTank$Train" "burstOn" "I" ∈ gW) (ho : E.1 o = (8, z)) (kk : gAt G mi Qp (pc + 3) L (.int (I o 4) :: st) (fO G E I J K N) sz k n) : gAt G mi Qp pc L (.ref (G.2.2.1 + o) :: st) (fO G E I J K N) sz k n :=
  r_get (k0 := 4) uX8 rfl hd hl (fo8 ho) (by decide) rfl kk
theorem p8_4 {index o z : Nat} {v : Int32} (hd : decode mi.2.1 pc = .ok (.putfield index, 3)) (hl : Cond.fieldLink mi.1.cls index "RippleTank$Train" "burstOn" "I" ∈ gW) (ho : E.1 o = (8, z)) (kk : gAt G mi Qp (pc + 3) L st (fO G E (sI I o 4 v) J K N) sz k n) : gAt G mi Qp pc L (.int v :: .ref (G.2.2.1 + o) :: st) (fO G E I J K N) sz k n := by
  refine r_put (k0 := 4) tyX8 tyX8_ok nmX8 uX8 rfl hd hl (fo8 ho) (by decide) rfl rfl rfl (Nat.le_of_ble_eq_true rfl) ?_
  rw [fO_I (g := upd (I o) 4 v) (by unfold cO; rw [ho]; simp only [cE, va_up_self, upd]; rfl)]
  exact kk
theorem g8_5 {index o z : Nat} (hd : decode mi.2.1 pc = .ok (.getfield index, 3)) (hl : Cond.fieldLink mi.1.cls index "RippleTank$Train" "burstOff" "I" ∈ gW) (ho : E.1 o = (8, z)) (kk : gAt G mi Qp (pc + 3) L (.int (I o 5) :: st) (fO G E I J K N) sz k n) : gAt G mi Qp pc L (.ref (G.2.2.1 + o) :: st) (fO G E I J K N) sz k n :=
  r_get (k0 := 5) uX8 rfl hd hl (fo8 ho) (by decide) rfl kk
theorem p8_5 {index o z : Nat} {v : Int32} (hd : decode mi.2.1 pc = .ok (.putfield index, 3)) (hl : Cond.fieldLink mi.1.cls index "RippleTank$Train" "burstOff" "I" ∈ gW) (ho : E.1 o = (8, z)) (kk : gAt G mi Qp (pc + 3) L st (fO G E (sI I o 5 v) J K N) sz k n) : gAt G mi Qp pc L (.int v :: .ref (G.2.2.1 + o) :: st) (fO G E I J K N) sz k n := by
  refine r_put (k0 := 5) tyX8 tyX8_ok nmX8 uX8 rfl hd hl (fo8 ho) (by decide) rfl rfl rfl (Nat.le_of_ble_eq_true rfl) ?_
  rw [fO_I (g := upd (I o) 5 v) (by unfold cO; rw [ho]; simp only [cE, va_up_self, upd]; rfl)]
  exact kk
theorem g8_6 {index o z : Nat} (hd : decode mi.2.1 pc = .ok (.getfield index, 3)) (hl : Cond.fieldLink mi.1.cls index "RippleTank$Train" "rise" "I" ∈ gW) (ho : E.1 o = (8, z)) (kk : gAt G mi Qp (pc + 3) L (.int (I o 6) :: st) (fO G E I J K N) sz k n) : gAt G mi Qp pc L (.ref (G.2.2.1 + o) :: st) (fO G E I J K N) sz k n :=
  r_get (k0 := 6) uX8 rfl hd hl (fo8 ho) (by decide) rfl kk
theorem p8_6 {index o z : Nat} {v : Int32} (hd : decode mi.2.1 pc = .ok (.putfield index, 3)) (hl : Cond.fieldLink mi.1.cls index "RippleTank$Train" "rise" "I" ∈ gW) (ho : E.1 o = (8, z)) (kk : gAt G mi Qp (pc + 3) L st (fO G E (sI I o 6 v) J K N) sz k n) : gAt G mi Qp pc L (.int v :: .ref (G.2.2.1 + o) :: st) (fO G E I J K N) sz k n := by
  refine r_put (k0 := 6) tyX8 tyX8_ok nmX8 uX8 rfl hd hl (fo8 ho) (by decide) rfl rfl rfl (Nat.le_of_ble_eq_true rfl) ?_
  rw [fO_I (g := upd (I o) 6 v) (by unfold cO; rw [ho]; simp only [cE, va_up_self, upd]; rfl)]
  exact kk
theorem g8_7 {index o z : Nat} (hd : decode mi.2.1 pc = .ok (.getfield index, 3)) (hl : Cond.fieldLink mi.1.cls index "RippleTank$Train" "shape" "I" ∈ gW) (ho : E.1 o = (8, z)) (kk : gAt G mi Qp (pc + 3) L (.int (I o 7) :: st) (fO G E I J K N) sz k n) : gAt G mi Qp pc L (.ref (G.2.2.1 + o) :: st) (fO G E I J K N) sz k n :=
  r_get (k0 := 7) uX8 rfl hd hl (fo8 ho) (by decide) rfl kk
theorem p8_7 {index o z : Nat} {v : Int32} (hd : decode mi.2.1 pc = .ok (.putfield index, 3)) (hl : Cond.fieldLink mi.1.cls index "RippleTank$Train" "shape" "I" ∈ gW) (ho : E.1 o = (8, z)) (kk : gAt G mi Qp (pc + 3) L st (fO G E (sI I o 7 v) J K N) sz k n) : gAt G mi Qp pc L (.int v :: .ref (G.2.2.1 + o) :: st) (fO G E I J K N) sz k n := by
  refine r_put (k0 := 7) tyX8 tyX8_ok nmX8 uX8 rfl hd hl (fo8 ho) (by decide) rfl rfl rfl (Nat.le_of_ble_eq_true rfl) ?_
  rw [fO_I (g := upd (I o) 7 v) (by unfold cO; rw [ho]; simp only [cE, va_up_self, upd]; rfl)]
  exact kk
theorem g8_8 {index o z : Nat} (hd : decode mi.2.1 pc = .ok (.getfield index, 3)) (hl : Cond.fieldLink mi.1.cls index "RippleTank$Train" "cutCount" "I" ∈ gW) (ho : E.1 o = (8, z)) (kk : gAt G mi Qp (pc + 3) L (.int (I o 8) :: st) (fO G E I J K N) sz k n) : gAt G mi Qp pc L (.ref (G.2.2.1 + o) :: st) (fO G E I J K N) sz k n :=
  r_get (k0 := 8) uX8 rfl hd hl (fo8 ho) (by decide) rfl kk
theorem p8_8 {index o z : Nat} {v : Int32} (hd : decode mi.2.1 pc = .ok (.putfield index, 3)) (hl : Cond.fieldLink mi.1.cls index "RippleTank$Train" "cutCount" "I" ∈ gW) (ho : E.1 o = (8, z)) (kk : gAt G mi Qp (pc + 3) L st (fO G E (sI I o 8 v) J K N) sz k n) : gAt G mi Qp pc L (.int v :: .ref (G.2.2.1 + o) :: st) (fO G E I J K N) sz k n := by
  refine r_put (k0 := 8) tyX8 tyX8_ok nmX8 uX8 rfl hd hl (fo8 ho) (by decide) rfl rfl rfl (Nat.le_of_ble_eq_true rfl) ?_
  rw [fO_I (g := upd (I o) 8 v) (by unfold cO; rw [ho]; simp only [cE, va_up_self, upd]; rfl)]
  exact kk
theorem g8_9 {index o z : Nat} (hd : decode mi.2.1 pc = .ok (.getfield index, 3)) (hl : Cond.fieldLink mi.1.cls index "RippleTank$Train" "cutFrom" "[I" ∈ gW) (ho : E.1 o = (8, z)) (kk : gAt G mi Qp (pc + 3) L (.ref (G.2.2.1 + (o + 1)) :: st) (fO G E I J K N) sz k n) : gAt G mi Qp pc L (.ref (G.2.2.1 + o) :: st) (fO G E I J K N) sz k n :=
  r_get (k0 := 9) uX8 rfl hd hl (fo8 ho) (by decide) rfl kk
theorem g8_10 {index o z : Nat} (hd : decode mi.2.1 pc = .ok (.getfield index, 3)) (hl : Cond.fieldLink mi.1.cls index "RippleTank$Train" "cutUntil" "[I" ∈ gW) (ho : E.1 o = (8, z)) (kk : gAt G mi Qp (pc + 3) L (.ref (G.2.2.1 + (o + 2)) :: st) (fO G E I J K N) sz k n) : gAt G mi Qp pc L (.ref (G.2.2.1 + o) :: st) (fO G E I J K N) sz k n :=
  r_get (k0 := 10) uX8 rfl hd hl (fo8 ho) (by decide) rfl kk
theorem g9_0 {index o z : Nat} (hd : decode mi.2.1 pc = .ok (.getfield index, 3)) (hl : Cond.fieldLink mi.1.cls index "RippleTank" "input" "[B" ∈ gW) (ho : E.1 o = (9, z)) (kk : gAt G mi Qp (pc + 3) L (.ref (G.2.2.1 + 1) :: st) (fO G E I J K N) sz k n) : gAt G mi Qp pc L (.ref (G.2.2.1 + o) :: st) (fO G E I J K N) sz k n :=
  r_get (k0 := 0) uX9 rfl hd hl (fo9 ho) (by decide) rfl kk
theorem g9_1 {index o z : Nat} (hd : decode mi.2.1 pc = .ok (.getfield index, 3)) (hl : Cond.fieldLink mi.1.cls index "RippleTank" "inputLength" "I" ∈ gW) (ho : E.1 o = (9, z)) (kk : gAt G mi Qp (pc + 3) L (.int (I o 1) :: st) (fO G E I J K N) sz k n) : gAt G mi Qp pc L (.ref (G.2.2.1 + o) :: st) (fO G E I J K N) sz k n :=
  r_get (k0 := 1) uX9 rfl hd hl (fo9 ho) (by decide) rfl kk
theorem p9_1 {index o z : Nat} {v : Int32} (hd : decode mi.2.1 pc = .ok (.putfield index, 3)) (hl : Cond.fieldLink mi.1.cls index "RippleTank" "inputLength" "I" ∈ gW) (ho : E.1 o = (9, z)) (kk : gAt G mi Qp (pc + 3) L st (fO G E (sI I o 1 v) J K N) sz k n) : gAt G mi Qp pc L (.int v :: .ref (G.2.2.1 + o) :: st) (fO G E I J K N) sz k n := by
  refine r_put (k0 := 1) tyX9 tyX9_ok nmX9 uX9 rfl hd hl (fo9 ho) (by decide) rfl rfl rfl (Nat.le_of_ble_eq_true rfl) ?_
  rw [fO_I (g := upd (I o) 1 v) (by unfold cO; rw [ho]; simp only [cE, va_up_self, upd]; rfl)]
  exact kk
theorem g9_2 {index o z : Nat} (hd : decode mi.2.1 pc = .ok (.getfield index, 3)) (hl : Cond.fieldLink mi.1.cls index "RippleTank" "errorCode" "I" ∈ gW) (ho : E.1 o = (9, z)) (kk : gAt G mi Qp (pc + 3) L (.int (I o 2) :: st) (fO G E I J K N) sz k n) : gAt G mi Qp pc L (.ref (G.2.2.1 + o) :: st) (fO G E I J K N) sz k n :=
  r_get (k0 := 2) uX9 rfl hd hl (fo9 ho) (by decide) rfl kk
theorem p9_2 {index o z : Nat} {v : Int32} (hd : decode mi.2.1 pc = .ok (.putfield index, 3)) (hl : Cond.fieldLink mi.1.cls index "RippleTank" "errorCode" "I" ∈ gW) (ho : E.1 o = (9, z)) (kk : gAt G mi Qp (pc + 3) L st (fO G E (sI I o 2 v) J K N) sz k n) : gAt G mi Qp pc L (.int v :: .ref (G.2.2.1 + o) :: st) (fO G E I J K N) sz k n := by
  refine r_put (k0 := 2) tyX9 tyX9_ok nmX9 uX9 rfl hd hl (fo9 ho) (by decide) rfl rfl rfl (Nat.le_of_ble_eq_true rfl) ?_
  rw [fO_I (g := upd (I o) 2 v) (by unfold cO; rw [ho]; simp only [cE, va_up_self, upd]; rfl)]
  exact kk
theorem g9_3 {index o z : Nat} (hd : decode mi.2.1 pc = .ok (.getfield index, 3)) (hl : Cond.fieldLink mi.1.cls index "RippleTank" "errorPlace" "I" ∈ gW) (ho : E.1 o = (9, z)) (kk : gAt G mi Qp (pc + 3) L (.int (I o 3) :: st) (fO G E I J K N) sz k n) : gAt G mi Qp pc L (.ref (G.2.2.1 + o) :: st) (fO G E I J K N) sz k n :=
  r_get (k0 := 3) uX9 rfl hd hl (fo9 ho) (by decide) rfl kk
theorem p9_3 {index o z : Nat} {v : Int32} (hd : decode mi.2.1 pc = .ok (.putfield index, 3)) (hl : Cond.fieldLink mi.1.cls index "RippleTank" "errorPlace" "I" ∈ gW) (ho : E.1 o = (9, z)) (kk : gAt G mi Qp (pc + 3) L st (fO G E (sI I o 3 v) J K N) sz k n) : gAt G mi Qp pc L (.int v :: .ref (G.2.2.1 + o) :: st) (fO G E I J K N) sz k n := by
  refine r_put (k0 := 3) tyX9 tyX9_ok nmX9 uX9 rfl hd hl (fo9 ho) (by decide) rfl rfl rfl (Nat.le_of_ble_eq_true rfl) ?_
  rw [fO_I (g := upd (I o) 3 v) (by unfold cO; rw [ho]; simp only [cE, va_up_self, upd]; rfl)]
  exact kk
theorem g9_4 {index o z : Nat} (hd : decode mi.2.1 pc = .ok (.getfield index, 3)) (hl : Cond.fieldLink mi.1.cls index "RippleTank" "loaded" "Z" ∈ gW) (ho : E.1 o = (9, z)) (kk : gAt G mi Qp (pc + 3) L (.int (I o 4) :: st) (fO G E I J K N) sz k n) : gAt G mi Qp pc L (.ref (G.2.2.1 + o) :: st) (fO G E I J K N) sz k n :=
  r_get (k0 := 4) uX9 rfl hd hl (fo9 ho) (by decide) rfl kk
theorem p9_4 {index o z : Nat} {v : Int32} (hd : decode mi.2.1 pc = .ok (.putfield index, 3)) (hl : Cond.fieldLink mi.1.cls index "RippleTank" "loaded" "Z" ∈ gW) (ho : E.1 o = (9, z)) (hz : narrow .boolean (.int v) = .int v) (hf : fits .boolean (.int v) = true) (kk : gAt G mi Qp (pc + 3) L st (fO G E (sI I o 4 v) J K N) sz k n) : gAt G mi Qp pc L (.int v :: .ref (G.2.2.1 + o) :: st) (fO G E I J K N) sz k n := by
  refine r_put (k0 := 4) tyX9 tyX9_ok nmX9 uX9 rfl hd hl (fo9 ho) (by decide) rfl hz hf (Nat.le_of_ble_eq_true rfl) ?_
  rw [fO_I (g := upd (I o) 4 v) (by unfold cO; rw [ho]; simp only [cE, va_up_self, upd]; rfl)]
  exact kk
theorem g9_5 {index o z : Nat} (hd : decode mi.2.1 pc = .ok (.getfield index, 3)) (hl : Cond.fieldLink mi.1.cls index "RippleTank" "tank" "LRippleTank$Tank;" ∈ gW) (ho : E.1 o = (9, z)) (kk : gAt G mi Qp (pc + 3) L (.ref (G.2.2.1 + E.2.1) :: st) (fO G E I J K N) sz k n) : gAt G mi Qp pc L (.ref (G.2.2.1 + o) :: st) (fO G E I J K N) sz k n :=
  r_get (k0 := 5) uX9 rfl hd hl (fo9 ho) (by decide) rfl kk
theorem g9_6 {index o z : Nat} (hd : decode mi.2.1 pc = .ok (.getfield index, 3)) (hl : Cond.fieldLink mi.1.cls index "RippleTank" "draft" "LRippleTank$Tank;" ∈ gW) (ho : E.1 o = (9, z)) (kk : gAt G mi Qp (pc + 3) L (.ref (G.2.2.1 + E.2.2.1) :: st) (fO G E I J K N) sz k n) : gAt G mi Qp pc L (.ref (G.2.2.1 + o) :: st) (fO G E I J K N) sz k n :=
  r_get (k0 := 6) uX9 rfl hd hl (fo9 ho) (by decide) rfl kk
theorem g9_7 {index o z : Nat} (hd : decode mi.2.1 pc = .ok (.getfield index, 3)) (hl : Cond.fieldLink mi.1.cls index "RippleTank" "state" "LRippleTank$State;" ∈ gW) (ho : E.1 o = (9, z)) (kk : gAt G mi Qp (pc + 3) L (.ref (G.2.2.1 + 2) :: st) (fO G E I J K N) sz k n) : gAt G mi Qp pc L (.ref (G.2.2.1 + o) :: st) (fO G E I J K N) sz k n :=
  r_get (k0 := 7) uX9 rfl hd hl (fo9 ho) (by decide) rfl kk
theorem g9_8 {index o z : Nat} (hd : decode mi.2.1 pc = .ok (.getfield index, 3)) (hl : Cond.fieldLink mi.1.cls index "RippleTank" "trial" "LRippleTank$State;" ∈ gW) (ho : E.1 o = (9, z)) (kk : gAt G mi Qp (pc + 3) L (.ref (G.2.2.1 + 10) :: st) (fO G E I J K N) sz k n) : gAt G mi Qp pc L (.ref (G.2.2.1 + o) :: st) (fO G E I J K N) sz k n :=
  r_get (k0 := 8) uX9 rfl hd hl (fo9 ho) (by decide) rfl kk
theorem g9_9 {index o z : Nat} (hd : decode mi.2.1 pc = .ok (.getfield index, 3)) (hl : Cond.fieldLink mi.1.cls index "RippleTank" "history" "LRippleTank$History;" ∈ gW) (ho : E.1 o = (9, z)) (kk : gAt G mi Qp (pc + 3) L (.ref (G.2.2.1 + 18) :: st) (fO G E I J K N) sz k n) : gAt G mi Qp pc L (.ref (G.2.2.1 + o) :: st) (fO G E I J K N) sz k n :=
  r_get (k0 := 9) uX9 rfl hd hl (fo9 ho) (by decide) rfl kk
theorem g9_10 {index o z : Nat} (hd : decode mi.2.1 pc = .ok (.getfield index, 3)) (hl : Cond.fieldLink mi.1.cls index "RippleTank" "slots" "[LRippleTank$State;" ∈ gW) (ho : E.1 o = (9, z)) (kk : gAt G mi Qp (pc + 3) L (.ref (G.2.2.1 + 84) :: st) (fO G E I J K N) sz k n) : gAt G mi Qp pc L (.ref (G.2.2.1 + o) :: st) (fO G E I J K N) sz k n :=
  r_get (k0 := 10) uX9 rfl hd hl (fo9 ho) (by decide) rfl kk
theorem g9_11 {index o z : Nat} (hd : decode mi.2.1 pc = .ok (.getfield index, 3)) (hl : Cond.fieldLink mi.1.cls index "RippleTank" "filled" "[Z" ∈ gW) (ho : E.1 o = (9, z)) (kk : gAt G mi Qp (pc + 3) L (.ref (G.2.2.1 + 85) :: st) (fO G E I J K N) sz k n) : gAt G mi Qp pc L (.ref (G.2.2.1 + o) :: st) (fO G E I J K N) sz k n :=
  r_get (k0 := 11) uX9 rfl hd hl (fo9 ho) (by decide) rfl kk
theorem g9_12 {index o z : Nat} (hd : decode mi.2.1 pc = .ok (.getfield index, 3)) (hl : Cond.fieldLink mi.1.cls index "RippleTank" "page" "LRippleTank$Page;" ∈ gW) (ho : E.1 o = (9, z)) (kk : gAt G mi Qp (pc + 3) L (.ref (G.2.2.1 + 86) :: st) (fO G E I J K N) sz k n) : gAt G mi Qp pc L (.ref (G.2.2.1 + o) :: st) (fO G E I J K N) sz k n :=
  r_get (k0 := 12) uX9 rfl hd hl (fo9 ho) (by decide) rfl kk
theorem g9_13 {index o z : Nat} (hd : decode mi.2.1 pc = .ok (.getfield index, 3)) (hl : Cond.fieldLink mi.1.cls index "RippleTank" "nodeMap" "LRippleTank$NodeMap;" ∈ gW) (ho : E.1 o = (9, z)) (kk : gAt G mi Qp (pc + 3) L (.ref (G.2.2.1 + 88) :: st) (fO G E I J K N) sz k n) : gAt G mi Qp pc L (.ref (G.2.2.1 + o) :: st) (fO G E I J K N) sz k n :=
  r_get (k0 := 13) uX9 rfl hd hl (fo9 ho) (by decide) rfl kk
theorem g9_14 {index o z : Nat} (hd : decode mi.2.1 pc = .ok (.getfield index, 3)) (hl : Cond.fieldLink mi.1.cls index "RippleTank" "energies" "[J" ∈ gW) (ho : E.1 o = (9, z)) (kk : gAt G mi Qp (pc + 3) L (.ref (G.2.2.1 + 91) :: st) (fO G E I J K N) sz k n) : gAt G mi Qp pc L (.ref (G.2.2.1 + o) :: st) (fO G E I J K N) sz k n :=
  r_get (k0 := 14) uX9 rfl hd hl (fo9 ho) (by decide) rfl kk
theorem g9_15 {index o z : Nat} (hd : decode mi.2.1 pc = .ok (.getfield index, 3)) (hl : Cond.fieldLink mi.1.cls index "RippleTank" "series" "[I" ∈ gW) (ho : E.1 o = (9, z)) (kk : gAt G mi Qp (pc + 3) L (.ref (G.2.2.1 + 92) :: st) (fO G E I J K N) sz k n) : gAt G mi Qp pc L (.ref (G.2.2.1 + o) :: st) (fO G E I J K N) sz k n :=
  r_get (k0 := 15) uX9 rfl hd hl (fo9 ho) (by decide) rfl kk
section
variable {o z : Nat} {i : Int32}
theorem a_iald (hd : decode mi.2.1 pc = .ok (.iaload, 1)) (ho : E.1 o = (102, z)) (hin : vp_in i z) (kk : gAt G mi Qp (pc + 1) L (.int (I o i.toNatClampNeg) :: st) (fO G E I J K N) sz k n) : gAt G mi Qp pc L (.int i :: .ref (G.2.2.1 + o) :: st) (fO G E I J K N) sz k n := r_iald hd (fo102 ho) hin kk
theorem a_zald (hd : decode mi.2.1 pc = .ok (.baload, 1)) (ho : E.1 o = (100, z)) (hin : vp_in i z) (kk : gAt G mi Qp (pc + 1) L (.int (I o i.toNatClampNeg) :: st) (fO G E I J K N) sz k n) : gAt G mi Qp pc L (.int i :: .ref (G.2.2.1 + o) :: st) (fO G E I J K N) sz k n := r_zald hd (fo100 ho) hin kk
theorem a_bald (hd : decode mi.2.1 pc = .ok (.baload, 1)) (ho : E.1 o = (101, z)) (hin : vp_in i z) (kk : gAt G mi Qp (pc + 1) L (.int (I o i.toNatClampNeg) :: st) (fO G E I J K N) sz k n) : gAt G mi Qp pc L (.int i :: .ref (G.2.2.1 + o) :: st) (fO G E I J K N) sz k n := r_bald hd (fo101 ho) hin kk
theorem m_iald (hd : decode mi.2.1 pc = .ok (.iaload, 1)) (ho : E.1 o = (202, z)) (hin : vp_in i z) (kk : gAt G mi Qp (pc + 1) L (.int (K o i.toNatClampNeg) :: st) (fO G E I J K N) sz k n) : gAt G mi Qp pc L (.int i :: .ref (G.2.2.1 + o) :: st) (fO G E I J K N) sz k n := r_iald hd (fo202 ho) hin kk
theorem m_zald (hd : decode mi.2.1 pc = .ok (.baload, 1)) (ho : E.1 o = (200, z)) (hin : vp_in i z) (kk : gAt G mi Qp (pc + 1) L (.int (K o i.toNatClampNeg) :: st) (fO G E I J K N) sz k n) : gAt G mi Qp pc L (.int i :: .ref (G.2.2.1 + o) :: st) (fO G E I J K N) sz k n := r_zald hd (fo200 ho) hin kk
theorem a_lald (hd : decode mi.2.1 pc = .ok (.laload, 1)) (ho : E.1 o = (103, z)) (hin : vp_in i z) (kk : gAt G mi Qp (pc + 1) L (.long (J o i.toNatClampNeg) :: st) (fO G E I J K N) sz k n) : gAt G mi Qp pc L (.int i :: .ref (G.2.2.1 + o) :: st) (fO G E I J K N) sz k n := r_lald hd (fo103 ho) hin kk
theorem m_lald (hd : decode mi.2.1 pc = .ok (.laload, 1)) (ho : E.1 o = (203, z)) (hin : vp_in i z) (kk : gAt G mi Qp (pc + 1) L (.long (N o i.toNatClampNeg) :: st) (fO G E I J K N) sz k n) : gAt G mi Qp pc L (.int i :: .ref (G.2.2.1 + o) :: st) (fO G E I J K N) sz k n := r_lald hd (fo203 ho) hin kk
theorem a_aald105 (hd : decode mi.2.1 pc = .ok (.aaload, 1)) (ho : E.1 o = (105, z)) (hin : vp_in i z) (kk : gAt G mi Qp (pc + 1) L (.ref (G.2.2.1 + (o + 5 + 3 * i.toNatClampNeg)) :: st) (fO G E I J K N) sz k n) : gAt G mi Qp pc L (.int i :: .ref (G.2.2.1 + o) :: st) (fO G E I J K N) sz k n := r_aald 5 hd (fo105 ho) rfl hin rfl kk
theorem a_aald106 (hd : decode mi.2.1 pc = .ok (.aaload, 1)) (ho : E.1 o = (106, z)) (hin : vp_in i z) (kk : gAt G mi Qp (pc + 1) L (.ref (G.2.2.1 + (o + 16 + i.toNatClampNeg)) :: st) (fO G E I J K N) sz k n) : gAt G mi Qp pc L (.int i :: .ref (G.2.2.1 + o) :: st) (fO G E I J K N) sz k n := r_aald 6 hd (fo106 ho) rfl hin rfl kk
theorem a_aald107 (hd : decode mi.2.1 pc = .ok (.aaload, 1)) (ho : E.1 o = (107, z)) (hin : vp_in i z) (kk : gAt G mi Qp (pc + 1) L (.ref (G.2.2.1 + (o + 1 + 8 * i.toNatClampNeg)) :: st) (fO G E I J K N) sz k n) : gAt G mi Qp pc L (.int i :: .ref (G.2.2.1 + o) :: st) (fO G E I J K N) sz k n := r_aald 7 hd (fo107 ho) rfl hin rfl kk
theorem a_aald108 (hd : decode mi.2.1 pc = .ok (.aaload, 1)) (ho : E.1 o = (108, z)) (hin : vp_in i z) (kk : gAt G mi Qp (pc + 1) L (.ref (G.2.2.1 + (137 + 8 * i.toNatClampNeg)) :: st) (fO G E I J K N) sz k n) : gAt G mi Qp pc L (.int i :: .ref (G.2.2.1 + o) :: st) (fO G E I J K N) sz k n := r_aald 7 hd (fo108 ho) rfl hin rfl kk
theorem a_iast {v : Int32} (hd : decode mi.2.1 pc = .ok (.iastore, 1)) (ho : E.1 o = (102, z)) (hin : vp_in i z) (kk : gAt G mi Qp (pc + 1) L st (fO G E (sI I o i.toNatClampNeg v) J K N) sz k n) : gAt G mi Qp pc L (.int v :: .int i :: .ref (G.2.2.1 + o) :: st) (fO G E I J K N) sz k n := by
  refine r_iast hd (fo102 ho) hin ?_
  rw [fO_I (g := upd (I o) i.toNatClampNeg v) (by unfold cO; rw [ho]; simp only [cE, va_up_self])]
  exact kk
theorem a_zast {v : Int32} (hd : decode mi.2.1 pc = .ok (.bastore, 1)) (ho : E.1 o = (100, z)) (hin : vp_in i z) (kk : gAt G mi Qp (pc + 1) L st (fO G E (sI I o i.toNatClampNeg (vp_nar .boolean v)) J K N) sz k n) : gAt G mi Qp pc L (.int v :: .int i :: .ref (G.2.2.1 + o) :: st) (fO G E I J K N) sz k n := by
  refine r_zast hd (fo100 ho) hin ?_
  rw [fO_I (g := upd (I o) i.toNatClampNeg (vp_nar .boolean v)) (by unfold cO; rw [ho]; simp only [cE, va_up_self])]
  exact kk
theorem a_bast {v : Int32} (hd : decode mi.2.1 pc = .ok (.bastore, 1)) (ho : E.1 o = (101, z)) (hin : vp_in i z) (kk : gAt G mi Qp (pc + 1) L st (fO G E (sI I o i.toNatClampNeg (vp_nar .byte v)) J K N) sz k n) : gAt G mi Qp pc L (.int v :: .int i :: .ref (G.2.2.1 + o) :: st) (fO G E I J K N) sz k n := by
  refine r_bast hd (fo101 ho) hin ?_
  rw [fO_I (g := upd (I o) i.toNatClampNeg (vp_nar .byte v)) (by unfold cO; rw [ho]; simp only [cE, va_up_self])]
  exact kk
theorem m_iast {v : Int32} (hd : decode mi.2.1 pc = .ok (.iastore, 1)) (ho : E.1 o = (202, z)) (hin : vp_in i z) (kk : gAt G mi Qp (pc + 1) L st (fO G E I J (sI K o i.toNatClampNeg v) N) sz k n) : gAt G mi Qp pc L (.int v :: .int i :: .ref (G.2.2.1 + o) :: st) (fO G E I J K N) sz k n := by
  refine r_iast hd (fo202 ho) hin ?_
  rw [fO_K (g := upd (K o) i.toNatClampNeg v) (by unfold cO; rw [ho]; simp only [cE, va_up_self])]
  exact kk
theorem m_zast {v : Int32} (hd : decode mi.2.1 pc = .ok (.bastore, 1)) (ho : E.1 o = (200, z)) (hin : vp_in i z) (kk : gAt G mi Qp (pc + 1) L st (fO G E I J (sI K o i.toNatClampNeg (vp_nar .boolean v)) N) sz k n) : gAt G mi Qp pc L (.int v :: .int i :: .ref (G.2.2.1 + o) :: st) (fO G E I J K N) sz k n := by
  refine r_zast hd (fo200 ho) hin ?_
  rw [fO_K (g := upd (K o) i.toNatClampNeg (vp_nar .boolean v)) (by unfold cO; rw [ho]; simp only [cE, va_up_self])]
  exact kk
theorem a_last {v : Int64} (hd : decode mi.2.1 pc = .ok (.lastore, 1)) (ho : E.1 o = (103, z)) (hin : vp_in i z) (kk : gAt G mi Qp (pc + 1) L st (fO G E I (sJ J o i.toNatClampNeg v) K N) sz k n) : gAt G mi Qp pc L (.long v :: .int i :: .ref (G.2.2.1 + o) :: st) (fO G E I J K N) sz k n := by
  refine r_last hd (fo103 ho) hin ?_
  rw [fO_J (g := vp_updL (J o) i.toNatClampNeg v) (by unfold cO; rw [ho]; simp only [cE, va_up_self])]
  exact kk
theorem m_last {v : Int64} (hd : decode mi.2.1 pc = .ok (.lastore, 1)) (ho : E.1 o = (203, z)) (hin : vp_in i z) (kk : gAt G mi Qp (pc + 1) L st (fO G E I J K (sJ N o i.toNatClampNeg v)) sz k n) : gAt G mi Qp pc L (.long v :: .int i :: .ref (G.2.2.1 + o) :: st) (fO G E I J K N) sz k n := by
  refine r_last hd (fo203 ho) hin ?_
  rw [fO_N (g := vp_updL (N o) i.toNatClampNeg v) (by unfold cO; rw [ho]; simp only [cE, va_up_self])]
  exact kk
theorem a_alen2 {v : Int32} (hd : decode mi.2.1 pc = .ok (.arraylength, 1)) (ho : E.1 o = (202, z)) (hv : Int32.ofNat z = v) (kk : gAt G mi Qp (pc + 1) L (.int v :: st) (fO G E I J K N) sz k n) : gAt G mi Qp pc L (.ref (G.2.2.1 + o) :: st) (fO G E I J K N) sz k n := r_alen hd (fo202 ho) hv kk
end
end GMEM
def gState (lay : Nat → Nat × Nat) (s : Nat) : Prop := lay s = (6, 0) ∧ lay (s + 1) = (100, 4) ∧ lay (s + 2) = (102, 4) ∧ lay (s + 3) = (102, 4) ∧ lay (s + 4) = (102, 4) ∧ lay (s + 5) = (102, 4) ∧ lay (s + 6) = (102, 4) ∧ lay (s + 7) = (102, 4)
def gTrain (lay : Nat → Nat × Nat) (r : Nat) : Prop := lay r = (8, 0) ∧ lay (r + 1) = (102, 6) ∧ lay (r + 2) = (102, 6)
def gTank (lay : Nat → Nat × Nat) (t : Nat) : Prop := lay t = (7, 0) ∧ lay (t + 1) = (105, 4) ∧ lay (t + 2) = (106, 3) ∧ lay (t + 3) = (102, 4) ∧ lay (t + 4) = (102, 4) ∧ lay (t + 5) = (102, 4) ∧ (∀ x, x < 4 → gTrain lay (t + 1 + 5 + 3 * x)) ∧ ∀ x, x < 3 → lay (t + 2 + 16 + x) = (5, 0)
def gLay (lay : Nat → Nat × Nat) : Prop := ∀ o, o < 155 → lay o = lay0 o
theorem vp_lt {i : Int32} {z : Nat} (h : vp_in i z) : i.toNatClampNeg < z := Nat.not_le.mp fun q => h (Or.inr q)
