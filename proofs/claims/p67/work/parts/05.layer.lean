/-! THE LAYER: a method's body as rules over (pc, locals, stack, cells): gAt; a method's contract: gCt. Addresses at and above G.2.2.1 are the run's own. -/
def gW : List Cond := lw_tbl.filter goodWord
theorem gW_of {w : Cond} (i : Nat) (h : lw_tbl[i]? = some w) (hg : goodWord w = true) : w ∈ gW := List.mem_filter.mpr ⟨List.mem_of_getElem? h, hg⟩
theorem gW_in {ws : List Cond} {c0 : Cond} (h : ∀ w ∈ ws, w ∈ gW) : GoodIn (c0 :: gW) ws := fun w hw => ⟨List.mem_cons_of_mem _ (h w hw), good_of_word (List.mem_filter.mp (h w hw)).2⟩
theorem gW_cons {c : Cond} (h : c ∈ gW) : ∀ w ∈ c :: gW, w ∈ gW := fun w hw => (List.mem_cons.mp hw).elim (fun e => e ▸ h) (fun h => h)
abbrev gG : Type := Launch × va_G × Nat × (Nat → Nat) × (Nat → Nat) × Nat × Nat × (Nat → Int32) × Nat
abbrev gF : Type := Nat → va_E
abbrev gM : Type := MethodName × ByteArray × Nat × Option FieldType × Room × List (Nat × Nat × Nat × Nat)
def gj : va_E := .inr (1000, [])
def gA (G : gG) : Nat → Prop := fun q => G.2.2.1 ≤ q
def gTys (D : va_G) : List (ClassId × FieldType) := [(D.1 100, .boolean), (D.1 101, .byte), (D.1 102, .int), (D.1 103, .long), (D.1 103, .long), (D.1 105, .object "RippleTank$Train"), (D.1 106, .object "RippleTank$Shoal"), (D.1 107, .object "RippleTank$State")]
def gStr : List (String × Nat × String × Nat) := [("RippleTank", 382, "no text was loaded", 0), ("RippleTank", 390, "no such row", 1), ("RippleTank", 384, "no such source", 2), ("RippleTank", 394, "a number out of range", 3), ("RippleTank", 388, "no such column", 4), ("RippleTank", 363, "there is no wall", 5), ("RippleTank", 372, "nothing can be undone", 6), ("RippleTank", 392, "no such slot", 7), ("RippleTank", 380, "nothing is saved in this slot", 8), ("RippleTank", 88, "more bytes than the buffer holds", 9), ("RippleTank$Parser", 69, "tank", 10), ("RippleTank$Parser", 74, "width", 11), ("RippleTank$Parser", 80, "height", 12), ("RippleTank$Parser", 82, "fade", 13), ("RippleTank$Parser", 92, "wall", 14), ("RippleTank$Parser", 101, "train", 15), ("RippleTank$Parser", 192, "burst", 16), ("RippleTank$Parser", 194, "rising", 17), ("RippleTank$Parser", 109, "drift", 18), ("RippleTank$Parser", 114, "slit", 19), ("RippleTank$Parser", 119, "off", 20), ("RippleTank$Parser", 124, "mirror", 21), ("RippleTank$Parser", 284, "left", 22), ("RippleTank$Parser", 286, "right", 23), ("RippleTank$Parser", 288, "top", 24), ("RippleTank$Parser", 290, "bottom", 25), ("RippleTank$Parser", 129, "cut", 26), ("RippleTank$Parser", 134, "shape", 27), ("RippleTank$Parser", 244, "square", 28), ("RippleTank$Parser", 246, "saw", 29), ("RippleTank$Parser", 139, "shoal", 30), ("RippleTank$Parser", 144, "gauge", 31), ("RippleTank", 108, "the text has an error", 32), ("RippleTank", 386, "no such gauge", 33), ("RippleTank", 296, "no such rank", 34)]
def gTxt : List (List Int32) := [[110, 111, 32, 116, 101, 120, 116, 32, 119, 97, 115, 32, 108, 111, 97, 100, 101, 100], [110, 111, 32, 115, 117, 99, 104, 32, 114, 111, 119], [110, 111, 32, 115, 117, 99, 104, 32, 115, 111, 117, 114, 99, 101], [97, 32, 110, 117, 109, 98, 101, 114, 32, 111, 117, 116, 32, 111, 102, 32, 114, 97, 110, 103, 101], [110, 111, 32, 115, 117, 99, 104, 32, 99, 111, 108, 117, 109, 110], [116, 104, 101, 114, 101, 32, 105, 115, 32, 110, 111, 32, 119, 97, 108, 108], [110, 111, 116, 104, 105, 110, 103, 32, 99, 97, 110, 32, 98, 101, 32, 117, 110, 100, 111, 110, 101], [110, 111, 32, 115, 117, 99, 104, 32, 115, 108, 111, 116], [110, 111, 116, 104, 105, 110, 103, 32, 105, 115, 32, 115, 97, 118, 101, 100, 32, 105, 110, 32, 116, 104, 105, 115, 32, 115, 108, 111, 116], [109, 111, 114, 101, 32, 98, 121, 116, 101, 115, 32, 116, 104, 97, 110, 32, 116, 104, 101, 32, 98, 117, 102, 102, 101, 114, 32, 104, 111, 108, 100, 115], [116, 97, 110, 107], [119, 105, 100, 116, 104], [104, 101, 105, 103, 104, 116], [102, 97, 100, 101], [119, 97, 108, 108], [116, 114, 97, 105, 110], [98, 117, 114, 115, 116], [114, 105, 115, 105, 110, 103], [100, 114, 105, 102, 116], [115, 108, 105, 116], [111, 102, 102], [109, 105, 114, 114, 111, 114], [108, 101, 102, 116], [114, 105, 103, 104, 116], [116, 111, 112], [98, 111, 116, 116, 111, 109], [99, 117, 116], [115, 104, 97, 112, 101], [115, 113, 117, 97, 114, 101], [115, 97, 119], [115, 104, 111, 97, 108], [103, 97, 117, 103, 101], [116, 104, 101, 32, 116, 101, 120, 116, 32, 104, 97, 115, 32, 97, 110, 32, 101, 114, 114, 111, 114], [110, 111, 32, 115, 117, 99, 104, 32, 103, 97, 117, 103, 101], [110, 111, 32, 115, 117, 99, 104, 32, 114, 97, 110, 107]]
def gLen (i : Nat) : Nat := (gTxt.getD i []).length
def gByt (i j : Nat) : Int32 := (gTxt.getD i []).getD j 0
def gSt (G : gG) (U : State) (H : Heap) : Prop := ∀ i : Nat, i < 35 → va_O "java/lang/String" (G.2.2.2.1 i) (gA G) U H ∧ va_OF "java/lang/String" "coder" "B" (.int 0) (G.2.2.2.1 i) (gA G) U H ∧ va_OF "java/lang/String" "value" "[B" (.ref (G.2.2.2.2.1 i)) (G.2.2.2.1 i) (gA G) U H ∧ va_T .byte (G.2.2.2.2.1 i) (gLen i) (fun j => .int (gByt i j)) (gA G) U H
def gNc : List (String × String) := []
def gNq (w : Cond) : Bool := match w with
  | .methodLinkNest .. | .castable .. | .declares .. | .arrayOver (.object _) => true
  | _ => false
def gN : List Cond := lw_tbl.filter gNq
theorem gN_of {w : Cond} (i : Nat) (h : lw_tbl[i]? = some w) (hg : gNq w = true) : w ∈ gN := List.mem_filter.mpr ⟨List.mem_of_getElem? h, hg⟩
theorem gN_use {w : Cond} {A : Array Value} {U : State} (h : w ∈ gN) (hz : va_Nw w U) : w.before A U = true := by
  have h1 := (List.mem_filter.mp h).2
  cases w <;> first | exact va_Nw.use rfl hz | exact hz | (simp [gNq] at h1; done)
theorem gN_warm {w : Cond} {s U : State} (h : w ∈ gN) (hW : s.WarmedH U.vm) (hz : va_Nw w s) : va_Nw w U := by
  have h1 := (List.mem_filter.mp h).2
  cases w <;> first | exact va_Nw.warmM hW hz | exact va_Nw.warmC hW hz | exact va_Nw.warmD hW hz | (rename_i ty; cases ty <;> first | exact va_AO.moved hW.alike hz | (simp [gNq] at h1; done)) | (simp [gNq] at h1; done)
/-- the script, and what the comparison of long rows reads -/
def gsA (G : gG) : Nat := G.2.2.2.2.2.1
def gsL (G : gG) : Nat := G.2.2.2.2.2.2.1
def gsX (G : gG) : Nat → Int32 := G.2.2.2.2.2.2.2.1
def guA (G : gG) : Nat := G.2.2.2.2.2.2.2.2
def gXt (G : gG) (U : State) (H : Heap) : Prop := va_X (gsA G) (gsL G) (gsX G) U H ∧ ¬ gA G (gsA G) ∧ va_Z "jdk/internal/util/ArraysSupport" "LOG2_ARRAY_LONG_INDEX_SCALE" "I" (.int 3) (gA G) U H ∧ va_Z "jdk/internal/misc/Unsafe" "ARRAY_LONG_BASE_OFFSET" "I" (.int 16) (gA G) U H ∧ va_Z "jdk/internal/util/ArraysSupport" "LOG2_ARRAY_INT_INDEX_SCALE" "I" (.int 2) (gA G) U H ∧ va_Z "jdk/internal/util/ArraysSupport" "U" "Ljdk/internal/misc/Unsafe;" (.ref (guA G)) (gA G) U H ∧ va_O "jdk/internal/misc/Unsafe" (guA G) (gA G) U H
theorem va_X.moved9 {b L : Nat} {xs : Nat → Int32} {u U : State} {H : Heap} (hvm : u.vm.Alike U.vm) (h : va_X b L xs u H) : va_X b L xs U H := by
  obtain ⟨scr, h1, h2, h3⟩ := h
  exact ⟨scr, h1, State.isArrayOf_alike hvm h2, h3⟩
theorem va_X.kept9 {b L : Nat} {xs : Nat → Int32} {A : Nat → Prop} {U : State} {H H1 : Heap} (h : va_X b L xs U H) (hA : ¬ A b) (hq : ∀ a : Nat, a < H.size → ¬ A a → H1[a]? = H[a]?) : va_X b L xs U H1 := by
  obtain ⟨scr, h1, h2⟩ := h
  exact ⟨scr, by rw [hq b (Array.getElem?_eq_some_iff.mp h1).1 hA]; exact h1, h2⟩
theorem gXt.moved {G : gG} {u U : State} {H : Heap} (hvm : u.vm.Alike U.vm) (h : gXt G u H) : gXt G U H :=
  ⟨va_X.moved9 hvm h.1, h.2.1, va_Z.moved hvm h.2.2.1, va_Z.moved hvm h.2.2.2.1, va_Z.moved hvm h.2.2.2.2.1, va_Z.moved hvm h.2.2.2.2.2.1, va_O.moved hvm h.2.2.2.2.2.2⟩
theorem gXt.kept {G : gG} {U : State} {H H1 : Heap} (hq : ∀ a : Nat, a < H.size → ¬ gA G a → H1[a]? = H[a]?) (h : gXt G U H) : gXt G U H1 :=
  ⟨va_X.kept9 h.1 h.2.1 hq, h.2.1, va_Z.kept h.2.2.1 hq, va_Z.kept h.2.2.2.1 hq, va_Z.kept h.2.2.2.2.1 hq, va_Z.kept h.2.2.2.2.2.1 hq, va_O.kept h.2.2.2.2.2.2 hq⟩
def gK (G : gG) (U : State) (H : Heap) : Prop := va_K G.2.1 vwCl (gTys G.2.1) U ∧ vx_Zq Bundle.tN "UNASSIGNED_STACK" Bundle.steD (gA G) U H ∧ vx_Zq Bundle.tN "SUPPRESSED_SENTINEL" Bundle.listD (gA G) U H ∧ (∀ q ∈ gStr, vk_R q.1 q.2.1 q.2.2.1 (G.2.2.2.1 q.2.2.2) U) ∧ gSt G U H ∧ (∀ w ∈ gN, va_Nw w U) ∧ (∀ q ∈ gNc, va_Nc q.1 q.2 U) ∧ va_Z "java/lang/String" "COMPACT_STRINGS" "Z" (.int 1) (gA G) U H ∧ va_Zq "jdk/internal/util/Preconditions" "SIOOBE_FORMATTER" "Ljava/util/function/BiFunction;" (gA G) U H ∧ gXt G U H
theorem gK.warm {G : gG} {s U : State} {H : Heap} (hW : s.WarmedH U.vm) (h : gK G s H) : gK G U H :=
  ⟨va_K.moved hW.alike h.1, vx_Zq.moved hW.alike h.2.1, vx_Zq.moved hW.alike h.2.2.1, fun q hq => vk_R.warm hW (h.2.2.2.1 q hq), fun i hi => ⟨va_O.moved hW.alike (h.2.2.2.2.1 i hi).1, va_OF.moved hW.alike (h.2.2.2.2.1 i hi).2.1, va_OF.moved hW.alike (h.2.2.2.2.1 i hi).2.2.1, va_T.moved hW.alike (h.2.2.2.2.1 i hi).2.2.2⟩, fun w hw => gN_warm hw hW (h.2.2.2.2.2.1 w hw), fun q hq => va_Nc.moved hW.alike (h.2.2.2.2.2.2.1 q hq), va_Z.moved hW.alike h.2.2.2.2.2.2.2.1, va_Zq.moved hW.alike h.2.2.2.2.2.2.2.2.1, gXt.moved hW.alike h.2.2.2.2.2.2.2.2.2⟩
theorem gK.kept {G : gG} {U : State} {H H1 : Heap} (hq : ∀ a : Nat, a < H.size → ¬ gA G a → H1[a]? = H[a]?) (h : gK G U H) : gK G U H1 :=
  ⟨h.1, h.2.1.kept hq, h.2.2.1.kept hq, h.2.2.2.1, fun i hi => ⟨(h.2.2.2.2.1 i hi).1.kept hq, (h.2.2.2.2.1 i hi).2.1.kept hq, (h.2.2.2.2.1 i hi).2.2.1.kept hq, (h.2.2.2.2.1 i hi).2.2.2.kept hq⟩, h.2.2.2.2.2.1, h.2.2.2.2.2.2.1, va_Z.kept h.2.2.2.2.2.2.2.1 hq, va_Zq.kept h.2.2.2.2.2.2.2.2.1 hq, gXt.kept hq h.2.2.2.2.2.2.2.2.2⟩
def gRep (G : gG) (f : gF) (H : Heap) : Prop := ∀ a, f a ≠ gj → va_at G.2.1 vwCl (a, f a) H ∧ gA G a
theorem gRep.set {G : gG} {f : gF} {H H1 : Heap} {a : Nat} {e : va_E} (h : gRep G f H) (ha : gA G a) (he : va_at G.2.1 vwCl (a, e) H1) (oq : ∀ q : Nat, q ≠ a → H1[q]? = H[q]?) : gRep G (va_up f a e) H1 := by
  intro b hb
  by_cases hba : b = a
  · subst hba
    rw [va_up_self]
    exact ⟨he, ha⟩
  · rw [va_up_ne f e hba] at hb ⊢
    exact ⟨(h b hb).1.kept (oq b hba), (h b hb).2⟩
theorem gRep.push {G : gG} {f : gF} {H H1 : Heap} {a : Nat} {e : va_E} (h : gRep G f H) (hz : H.size = a) (ha : gA G a) (he : va_at G.2.1 vwCl (a, e) H1) (oq : ∀ q : Nat, q < a → H1[q]? = H[q]?) : gRep G (va_up f a e) H1 := by
  intro b hb
  by_cases hba : b = a
  · subst hba
    rw [va_up_self]
    exact ⟨he, ha⟩
  · rw [va_up_ne f e hba] at hb ⊢
    exact ⟨(h b hb).1.kept (oq b (by have := (h b hb).1.lt; dsimp only at this; omega)), (h b hb).2⟩
theorem gRep.one {G : gG} {f : gF} {H : Heap} {a : Nat} {e : va_E} (h : gRep G f H) (he : f a = e) (hj : e ≠ gj) : va_P G.2.1 vwCl [(a, e)] H ∧ gA G a := by
  have h1 := h a (by rw [he]; exact hj)
  rw [he] at h1
  refine ⟨fun k q hq => ?_, h1.2⟩
  have hz : k < 1 := (List.getElem?_eq_some_iff.mp hq).1
  rw [show k = 0 by omega] at hq
  cases hq
  exact h1.1
def gWd (G : gG) (f : gF) (sz : Nat) (U : State) : Prop := gRep G f U.heap ∧ gK G U U.heap ∧ U.heap.size = sz ∧ G.2.2.1 ≤ sz
def gH (G : gG) (f : gF) (sz : Nat) (s : State) (H : Heap) (locs : List Loc) : Prop := gRep G f H ∧ gK G s s.heap ∧ H.size = sz ∧ G.2.2.1 ≤ s.heap.size ∧ va_S (gA G) s.heap H locs
theorem gH.wd {G : gG} {f : gF} {sz : Nat} {s U : State} {H : Heap} {locs : List Loc} (h : gH G f sz s H locs) (hU : U.heap = H) (hW : s.WarmedH U.vm) : gWd G f sz U := by
  obtain ⟨h1, h2, h3, h4, h5⟩ := h
  refine ⟨by rw [hU]; exact h1, ?_, by rw [hU]; exact h3, by rw [← h3]; exact Nat.le_trans h4 h5.1⟩
  rw [hU]
  exact gK.kept h5.2.1 (gK.warm hW h2)
def gLp : Nat → List (Option Value) → List (Nat × Value)
  | _, [] => []
  | i, none :: t => gLp (i + 1) t
  | i, some v :: t => (i, v) :: gLp (i + 1) t
theorem gLp_mem {L : List (Option Value)} : ∀ {i j : Nat} {v : Value}, (j, v) ∈ gLp i L ↔ i ≤ j ∧ L[j - i]? = some (some v) := by
  induction L with
  | nil => intro i j v; simp [gLp]
  | cons x t ih =>
    intro i j v
    have e1 : ∀ (P : Prop), (P ∨ (j, v) ∈ gLp (i + 1) t) ↔ (P ∨ (i + 1 ≤ j ∧ t[j - (i + 1)]? = some (some v))) := fun P => by rw [ih]
    have e2 : i + 1 ≤ j → (x :: t)[j - i]? = t[j - (i + 1)]? := fun h => by rw [show j - i = (j - (i + 1)) + 1 by omega, List.getElem?_cons_succ]
    cases x with
    | none =>
      rw [gLp, ih]
      constructor
      · rintro ⟨a, b⟩
        exact ⟨by omega, by rw [e2 a]; exact b⟩
      · rintro ⟨a, b⟩
        rcases Nat.lt_or_ge i j with h | h
        · exact ⟨h, by rw [← e2 h]; exact b⟩
        · rw [show j - i = 0 by omega] at b
          simp at b
    | some w =>
      rw [gLp, List.mem_cons, e1]
      constructor
      · rintro (h | ⟨a, b⟩)
        · cases h
          exact ⟨Nat.le_refl _, by simp⟩
        · exact ⟨by omega, by rw [e2 a]; exact b⟩
      · rintro ⟨a, b⟩
        rcases Nat.lt_or_ge i j with h | h
        · exact Or.inr ⟨h, by rw [← e2 h]; exact b⟩
        · have hj : j = i := by omega
          subst hj
          simp at b
          exact Or.inl (by rw [b])
theorem gL_at {ls : Array Slot} {nL : Nat} {L : List (Option Value)} {i : Nat} {v : Value} (h : lv_has ls nL (gLp 0 L)) (hi : L[i]? = some (some v)) : ls[i]? = some (.val v) := h.2.2 (i, v) (gLp_mem.mpr ⟨Nat.zero_le _, by simpa using hi⟩)
def gNo (L : List (Option Value)) (i : Nat) : Bool := match i with
  | 0 => true
  | j + 1 => match L[j]? with
    | some (some v) => !(v.category == 2)
    | _ => true
theorem gL_set1 {ls : Array Slot} {nL : Nat} {L : List (Option Value)} {i : Nat} {v : Value} (hc : gNo L i = true) (h : lv_has ls nL ((i, v) :: (gLp 0 L).filter (fun q => !(q.1 == i) && !(q.1 + 1 == i && q.2.category == 2)))) : lv_has ls nL (gLp 0 (L.set i (some v))) := by
  refine ⟨h.1, h.2.1, fun q hq => h.2.2 q ?_⟩
  obtain ⟨j, w⟩ := q
  have h1 := (gLp_mem.mp hq).2
  simp only [Nat.sub_zero] at h1
  by_cases hj : j = i
  · subst hj
    rw [List.getElem?_set_self'] at h1
    cases hx : L[j]? with
    | none => rw [hx] at h1; cases h1
    | some y => rw [hx] at h1; cases h1; exact List.mem_cons_self
  · rw [List.getElem?_set_ne (Ne.symm hj)] at h1
    refine List.mem_cons_of_mem _ (List.mem_filter.mpr ⟨gLp_mem.mpr ⟨Nat.zero_le _, by simpa using h1⟩, ?_⟩)
    have hj1 : (j == i) = false := by simpa using hj
    rw [hj1]
    by_cases hk : j + 1 = i
    · subst hk
      have hc2 : (w.category == 2) = false := by simpa [gNo, h1] using hc
      simp only [hc2]
      simp
    · have hk1 : (j + 1 == i) = false := by simpa using hk
      rw [hk1]
      rfl
theorem gL_set2 {ls : Array Slot} {nL : Nat} {L : List (Option Value)} {i : Nat} {v : Value} (hc : gNo L i = true) (h : lv_has ls nL ((i, v) :: (gLp 0 L).filter (fun q => !(q.1 == i) && (!(q.1 == i + 1) && !(q.1 + 1 == i && q.2.category == 2))))) : lv_has ls nL (gLp 0 ((L.set i (some v)).set (i + 1) none)) := by
  refine ⟨h.1, h.2.1, fun q hq => h.2.2 q ?_⟩
  obtain ⟨j, w⟩ := q
  have h1 := (gLp_mem.mp hq).2
  simp only [Nat.sub_zero] at h1
  by_cases hj2 : j = i + 1
  · subst hj2
    rw [List.getElem?_set_self'] at h1
    cases hx : (L.set i (some v))[i + 1]? with
    | none => rw [hx] at h1; cases h1
    | some y => rw [hx] at h1; cases h1
  rw [List.getElem?_set_ne (Ne.symm hj2)] at h1
  by_cases hj : j = i
  · subst hj
    rw [List.getElem?_set_self'] at h1
    cases hx : L[j]? with
    | none => rw [hx] at h1; cases h1
    | some y => rw [hx] at h1; cases h1; exact List.mem_cons_self
  · rw [List.getElem?_set_ne (Ne.symm hj)] at h1
    refine List.mem_cons_of_mem _ (List.mem_filter.mpr ⟨gLp_mem.mpr ⟨Nat.zero_le _, by simpa using h1⟩, ?_⟩)
    have hj1 : (j == i) = false := by simpa using hj
    have hj3 : (j == i + 1) = false := by simpa using hj2
    rw [hj1, hj3]
    by_cases hk : j + 1 = i
    · subst hk
      have hc2 : (w.category == 2) = false := by simpa [gNo, h1] using hc
      simp only [hc2]
      simp
    · have hk1 : (j + 1 == i) = false := by simpa using hk
      rw [hk1]
      rfl
/-- the body of a method m of the table row mi, seen from its start s -/
def gFit (G : gG) (mi : gM) (p : Program) (s : State) (m : MethodId) (args : Array Value) (meth : Method) (c : Code) : Prop :=
  p.tables.exec = Jvm.exec ∧ c.code = mi.2.1 ∧ c.maxLocals = mi.2.2.1 ∧ s.vm.findClass mi.1.cls = some m.cls ∧ (∀ w ∈ gW, w.before args s = true) ∧ meth.sig.returnType = mi.2.2.2.1 ∧ meth.locks = false ∧ meth.name = mi.1.name ∧ c.exceptionTable.toList = tableOf mi.2.2.2.2.2 ∧ G.1.stackTraces = false
def gAt (G : gG) (mi : gM) (Qp : List Frame → Array Value → State → State → Prop) (pc : Nat) (L : List (Option Value)) (st : List Value) (f : gF) (sz k n : Nat) : Prop :=
  ∀ (p : Program) (e : Env) (s : State) (m : MethodId) (args : Array Value) (below : List Frame) (meth : Method) (c : Code), gFit G mi p s m args meth c → ∀ (H : Heap) (locs : List Loc) (ls : Array Slot), lv_has ls mi.2.2.1 (gLp 0 L) → gH G f sz s H locs →
    W p G.1 e mi.2.2.2.2.1 s m args below meth c H locs k n (Qp below args s) (F0 m pc ls st)
def gAtX (G : gG) (mi : gM) (Qp : List Frame → Array Value → State → State → Prop) (pc : Nat) (E : String) (L : List (Option Value)) (f : gF) (sz k n : Nat) : Prop :=
  ∀ (p : Program) (e : Env) (s : State) (m : MethodId) (args : Array Value) (below : List Frame) (meth : Method) (c : Code), gFit G mi p s m args meth c → ∀ (H : Heap) (locs : List Loc) (ls : Array Slot) (rest : List Value) (q : Addr) (ce : Cell), lv_has ls mi.2.2.1 (gLp 0 L) → gH G f sz s H locs → H[q]? = some ce → ce.vm = .none → s.vm.findClass E = some ce.cls →
    vx_W p G.1 e mi.2.2.2.2.1 s m args below meth c H locs k n (Qp below args s) (F0 m pc ls rest) q
abbrev gO : Type := Option Value ⊕ String
def gQ (G : gG) (Φ : gO → gF → Nat → Prop) : Array Value → State → Outcome → State → Prop := fun _ st oc t => (∃ (v : Option Value) (f : gF) (sz : Nat), oc = .returned v ∧ Φ (.inl v) f sz ∧ gRep G f t.heap ∧ t.heap.size = sz) ∧ va_F (gA G) st t
def gX (G : gG) (Φ : gO → gF → Nat → Prop) : String → State → State → Prop := fun E st t => (∃ (f : gF) (sz : Nat), Φ (.inr E) f sz ∧ gRep G f t.heap ∧ t.heap.size = sz) ∧ va_F (gA G) st t
def gQp (G : gG) (mi : gM) (Φ : gO → gF → Nat → Prop) : List Frame → Array Value → State → State → Prop := fun below args s => vx_MQ below (gQ G Φ) (gX G Φ) args s mi.2.2.2.2.1.cells mi.2.2.2.2.1.slots (gA G)
def gCode (mi : gM) : Cond := match mi.2.2.2.2.2 with
  | [] => .code mi.1 mi.2.1 mi.2.2.1 mi.2.2.2.1
  | hh => .codeWith mi.1 mi.2.1 mi.2.2.1 mi.2.2.2.1 hh
/-- a method's contract: from cells f and a heap of sz it ends as Φ says -/
def gCt (G : gG) (mi : gM) (av : List Value) (f : gF) (sz : Nat) (Φ : gO → gF → Nat → Prop) : Prop :=
  vx_Met G.1 mi.1 (gCode mi :: gW) mi.2.2.2.2.1 (va_Pc av (gWd G f sz)) (gQ G Φ) (gX G Φ) mi.2.2.2.2.1.cells mi.2.2.2.2.1.slots (gA G)
theorem gBlind {G : gG} {av : List Value} {f : gF} {sz : Nat} : FrameBlind (va_Pc av (gWd G f sz)) := by
  intro a U g mk h
  obtain ⟨h1, h2, h3, h4⟩ := h
  exact ⟨h1, h2, gK.warm (U := U.calling g mk a) (State.WarmedH.refl U) h3, h4⟩

