/-! THE START: what the Statement gives of it -/
def lcc : Cond := Jvm.Cond.and given_1 narrow_1
def gTo : List (String × Nat) := [("RippleTank", 382), ("RippleTank", 390), ("RippleTank", 384), ("RippleTank", 394), ("RippleTank", 388), ("RippleTank", 363), ("RippleTank", 372), ("RippleTank", 392), ("RippleTank", 380), ("RippleTank", 88), ("RippleTank$Parser", 69), ("RippleTank$Parser", 74), ("RippleTank$Parser", 80), ("RippleTank$Parser", 82), ("RippleTank$Parser", 92), ("RippleTank$Parser", 101), ("RippleTank$Parser", 192), ("RippleTank$Parser", 194), ("RippleTank$Parser", 109), ("RippleTank$Parser", 114), ("RippleTank$Parser", 119), ("RippleTank$Parser", 124), ("RippleTank$Parser", 284), ("RippleTank$Parser", 286), ("RippleTank$Parser", 288), ("RippleTank$Parser", 290), ("RippleTank$Parser", 129), ("RippleTank$Parser", 134), ("RippleTank$Parser", 244), ("RippleTank$Parser", 246), ("RippleTank$Parser", 139), ("RippleTank$Parser", 144), ("RippleTank", 108), ("RippleTank", 386), ("RippleTank", 296)]
def gTm (i : Nat) : Term := .string ((gTo.getD i ("", 0)).1) ((gTo.getD i ("", 0)).2)
def kst : List Nat := [18, 40, 55, 73, 98, 116, 136, 161, 177, 210, 246, 254, 263, 273, 281, 289, 298, 307, 317, 326, 334, 341, 351, 359, 368, 375, 385, 392, 401, 411, 418, 427, 436, 461, 478]
def strC (i : Nat) : List Cond := [.exactly (gTm i) "java/lang/String", .eq (.field (gTm i) "java/lang/String" "coder" "B") (.int 0), .arrayOf (.field (gTm i) "java/lang/String" "value" "[B") .byte, .eq (.length (.field (gTm i) "java/lang/String" "value" "[B")) (.int (Int32.ofNat (gLen i)))] ++ (List.range (gLen i)).map (fun j => .eq (.elem (.field (gTm i) "java/lang/String" "value" "[B") (.int (Int32.ofNat j))) (.int (gByt i j)))
set_option maxRecDepth 100000 in
theorem stc : ∀ i, i < 35 → ((flatC lcc).drop (kst.getD i 0)).take (4 + gLen i) = strC i := by decide +kernel
theorem st_in {i : Nat} (hi : i < 35) {c : Cond} (h : c ∈ strC i) : c ∈ flatC lcc := by
  rw [← stc i hi] at h
  exact List.mem_of_mem_drop (List.mem_of_mem_take h)
theorem gLen_31 : ∀ i, i < 35 → gLen i < 2 ^ 31 := by decide +kernel
section GST
variable {args : Array Value} {s : State} {A : Nat → Prop}
theorem gSof (hs : ∀ c ∈ flatC lcc, c.before args s = true) (hA : ∀ a : Nat, a < s.heap.size → ¬ A a) (i : Nat) : ∃ q : Nat × Nat, i < 35 → (gTm i).eval args s none [] s = some (.ref q.1) ∧ va_O "java/lang/String" q.1 A s s.heap ∧ va_OF "java/lang/String" "coder" "B" (.int 0) q.1 A s s.heap ∧ va_OF "java/lang/String" "value" "[B" (.ref q.2) q.1 A s s.heap ∧ va_T .byte q.2 (gLen i) (fun j => .int (gByt i j)) A s s.heap := by
  by_cases hi : i < 35
  · have hex := hs _ (st_in hi (c := .exactly (gTm i) "java/lang/String") List.mem_cons_self)
    have hco := hs _ (st_in hi (c := .eq (.field (gTm i) "java/lang/String" "coder" "B") (.int 0)) (List.mem_cons_of_mem _ List.mem_cons_self))
    have har := hs _ (st_in hi (c := .arrayOf (.field (gTm i) "java/lang/String" "value" "[B") .byte) (List.mem_cons_of_mem _ (List.mem_cons_of_mem _ List.mem_cons_self)))
    have hle := hs _ (st_in hi (c := .eq (.length (.field (gTm i) "java/lang/String" "value" "[B")) (.int (Int32.ofNat (gLen i)))) (List.mem_cons_of_mem _ (List.mem_cons_of_mem _ (List.mem_cons_of_mem _ List.mem_cons_self))))
    have hel : ∀ j, j < gLen i → (Cond.eq (.elem (.field (gTm i) "java/lang/String" "value" "[B") (.int (Int32.ofNat j))) (.int (gByt i j))).before args s = true := fun j hj => hs _ (st_in hi (List.mem_append_right _ (List.mem_map.mpr ⟨j, List.mem_range.mpr hj, rfl⟩)))
    obtain ⟨a, c, cA, kA, q1, q2, q3, q4, q5, q6, -⟩ := Cond.exactly_spec (args := args) (first := s) (o := none) (s := s) (idx := []) (t := gTm i) (cls := "java/lang/String") hex
    obtain ⟨t, ht, hT⟩ := va_Tof (f := fun j => .int (gByt i j)) (A := A) (gLen_31 i hi) har (va_eqt hle) (fun j hj => va_eqt (hel j hj)) hA
    exact ⟨(a, t), fun _ => ⟨q1, ⟨cA, q3, q5, by rw [q6]; exact q2, hA a (Array.getElem?_eq_some_iff.mp q3).1⟩, vk_OFof q1 (va_eqt hco) hA, vk_OFof q1 ht hA, hT⟩⟩
  · exact ⟨(0, 0), fun h => absurd h hi⟩
theorem g_prim {ty : FieldType} (h : (Cond.arrayClass ty).before args s = true) : ∃ cA, ArrOfT s cA ty ∧ s.vm.findClass ("[" ++ ty.toString) = some cA := by
  obtain ⟨c, k, comp, h1, h2, h3⟩ := Cond.arrayClass_spec h
  exact ⟨c, fun n z => ⟨fun k h => (by cases h), k, h2, comp, h3⟩, h1⟩
theorem g_obj {C : String} (h : (Cond.arrayOver (.object C)).before args s = true) : ∃ cA, ArrOfT s cA (.object C) ∧ va_RA s cA (.object C) := by
  obtain ⟨comp, c, k, h1, h2, h3, h4, h5⟩ := Cond.arrayOver_spec h
  exact ⟨c, fun n z => ⟨fun k h => (by cases h), k, h3, comp, h4⟩, k, comp, h3, h4, h1, h5⟩
theorem g_gN (hts : ∀ w ∈ lw_tbl, w.before args s = true) : ∀ w ∈ gN, va_Nw w s := by
  intro w hw
  have h1 := (List.mem_filter.mp hw).2
  have h := hts w (List.mem_filter.mp hw).1
  cases w <;> first | exact va_Nw.of rfl h | exact h | (simp [gNq] at h1; done)
theorem g_gStr (hts : ∀ w ∈ lw_tbl, w.before args s = true) {ad : Nat → Nat} (hev : ∀ i, i < 35 → (gTm i).eval args s none [] s = some (.ref (ad i))) : ∀ q ∈ gStr, vk_R q.1 q.2.1 q.2.2.1 (ad q.2.2.2) s := by
  have s0 : vk_R "RippleTank" 382 "no text was loaded" (ad 0) s := vk_R.of (A := args) (hts _ (List.mem_of_getElem? (i := 458) (by decide +kernel))) (hev 0 (by decide))
  have s1 : vk_R "RippleTank" 390 "no such row" (ad 1) s := vk_R.of (A := args) (hts _ (List.mem_of_getElem? (i := 497) (by decide +kernel))) (hev 1 (by decide))
  have s2 : vk_R "RippleTank" 384 "no such source" (ad 2) s := vk_R.of (A := args) (hts _ (List.mem_of_getElem? (i := 516) (by decide +kernel))) (hev 2 (by decide))
  have s3 : vk_R "RippleTank" 394 "a number out of range" (ad 3) s := vk_R.of (A := args) (hts _ (List.mem_of_getElem? (i := 529) (by decide +kernel))) (hev 3 (by decide))
  have s4 : vk_R "RippleTank" 388 "no such column" (ad 4) s := vk_R.of (A := args) (hts _ (List.mem_of_getElem? (i := 570) (by decide +kernel))) (hev 4 (by decide))
  have s5 : vk_R "RippleTank" 363 "there is no wall" (ad 5) s := vk_R.of (A := args) (hts _ (List.mem_of_getElem? (i := 746) (by decide +kernel))) (hev 5 (by decide))
  have s6 : vk_R "RippleTank" 372 "nothing can be undone" (ad 6) s := vk_R.of (A := args) (hts _ (List.mem_of_getElem? (i := 751) (by decide +kernel))) (hev 6 (by decide))
  have s7 : vk_R "RippleTank" 392 "no such slot" (ad 7) s := vk_R.of (A := args) (hts _ (List.mem_of_getElem? (i := 767) (by decide +kernel))) (hev 7 (by decide))
  have s8 : vk_R "RippleTank" 380 "nothing is saved in this slot" (ad 8) s := vk_R.of (A := args) (hts _ (List.mem_of_getElem? (i := 772) (by decide +kernel))) (hev 8 (by decide))
  have s9 : vk_R "RippleTank" 88 "more bytes than the buffer holds" (ad 9) s := vk_R.of (A := args) (hts _ (List.mem_of_getElem? (i := 850) (by decide +kernel))) (hev 9 (by decide))
  have s10 : vk_R "RippleTank$Parser" 69 "tank" (ad 10) s := vk_R.of (A := args) (hts _ (List.mem_of_getElem? (i := 929) (by decide +kernel))) (hev 10 (by decide))
  have s11 : vk_R "RippleTank$Parser" 74 "width" (ad 11) s := vk_R.of (A := args) (hts _ (List.mem_of_getElem? (i := 994) (by decide +kernel))) (hev 11 (by decide))
  have s12 : vk_R "RippleTank$Parser" 80 "height" (ad 12) s := vk_R.of (A := args) (hts _ (List.mem_of_getElem? (i := 999) (by decide +kernel))) (hev 12 (by decide))
  have s13 : vk_R "RippleTank$Parser" 82 "fade" (ad 13) s := vk_R.of (A := args) (hts _ (List.mem_of_getElem? (i := 1000) (by decide +kernel))) (hev 13 (by decide))
  have s14 : vk_R "RippleTank$Parser" 92 "wall" (ad 14) s := vk_R.of (A := args) (hts _ (List.mem_of_getElem? (i := 1001) (by decide +kernel))) (hev 14 (by decide))
  have s15 : vk_R "RippleTank$Parser" 101 "train" (ad 15) s := vk_R.of (A := args) (hts _ (List.mem_of_getElem? (i := 1010) (by decide +kernel))) (hev 15 (by decide))
  have s16 : vk_R "RippleTank$Parser" 192 "burst" (ad 16) s := vk_R.of (A := args) (hts _ (List.mem_of_getElem? (i := 1027) (by decide +kernel))) (hev 16 (by decide))
  have s17 : vk_R "RippleTank$Parser" 194 "rising" (ad 17) s := vk_R.of (A := args) (hts _ (List.mem_of_getElem? (i := 1028) (by decide +kernel))) (hev 17 (by decide))
  have s18 : vk_R "RippleTank$Parser" 109 "drift" (ad 18) s := vk_R.of (A := args) (hts _ (List.mem_of_getElem? (i := 1029) (by decide +kernel))) (hev 18 (by decide))
  have s19 : vk_R "RippleTank$Parser" 114 "slit" (ad 19) s := vk_R.of (A := args) (hts _ (List.mem_of_getElem? (i := 1042) (by decide +kernel))) (hev 19 (by decide))
  have s20 : vk_R "RippleTank$Parser" 119 "off" (ad 20) s := vk_R.of (A := args) (hts _ (List.mem_of_getElem? (i := 1047) (by decide +kernel))) (hev 20 (by decide))
  have s21 : vk_R "RippleTank$Parser" 124 "mirror" (ad 21) s := vk_R.of (A := args) (hts _ (List.mem_of_getElem? (i := 1052) (by decide +kernel))) (hev 21 (by decide))
  have s22 : vk_R "RippleTank$Parser" 284 "left" (ad 22) s := vk_R.of (A := args) (hts _ (List.mem_of_getElem? (i := 1061) (by decide +kernel))) (hev 22 (by decide))
  have s23 : vk_R "RippleTank$Parser" 286 "right" (ad 23) s := vk_R.of (A := args) (hts _ (List.mem_of_getElem? (i := 1062) (by decide +kernel))) (hev 23 (by decide))
  have s24 : vk_R "RippleTank$Parser" 288 "top" (ad 24) s := vk_R.of (A := args) (hts _ (List.mem_of_getElem? (i := 1063) (by decide +kernel))) (hev 24 (by decide))
  have s25 : vk_R "RippleTank$Parser" 290 "bottom" (ad 25) s := vk_R.of (A := args) (hts _ (List.mem_of_getElem? (i := 1064) (by decide +kernel))) (hev 25 (by decide))
  have s26 : vk_R "RippleTank$Parser" 129 "cut" (ad 26) s := vk_R.of (A := args) (hts _ (List.mem_of_getElem? (i := 1065) (by decide +kernel))) (hev 26 (by decide))
  have s27 : vk_R "RippleTank$Parser" 134 "shape" (ad 27) s := vk_R.of (A := args) (hts _ (List.mem_of_getElem? (i := 1074) (by decide +kernel))) (hev 27 (by decide))
  have s28 : vk_R "RippleTank$Parser" 244 "square" (ad 28) s := vk_R.of (A := args) (hts _ (List.mem_of_getElem? (i := 1079) (by decide +kernel))) (hev 28 (by decide))
  have s29 : vk_R "RippleTank$Parser" 246 "saw" (ad 29) s := vk_R.of (A := args) (hts _ (List.mem_of_getElem? (i := 1080) (by decide +kernel))) (hev 29 (by decide))
  have s30 : vk_R "RippleTank$Parser" 139 "shoal" (ad 30) s := vk_R.of (A := args) (hts _ (List.mem_of_getElem? (i := 1081) (by decide +kernel))) (hev 30 (by decide))
  have s31 : vk_R "RippleTank$Parser" 144 "gauge" (ad 31) s := vk_R.of (A := args) (hts _ (List.mem_of_getElem? (i := 1086) (by decide +kernel))) (hev 31 (by decide))
  have s32 : vk_R "RippleTank" 108 "the text has an error" (ad 32) s := vk_R.of (A := args) (hts _ (List.mem_of_getElem? (i := 1091) (by decide +kernel))) (hev 32 (by decide))
  have s33 : vk_R "RippleTank" 386 "no such gauge" (ad 33) s := vk_R.of (A := args) (hts _ (List.mem_of_getElem? (i := 1211) (by decide +kernel))) (hev 33 (by decide))
  have s34 : vk_R "RippleTank" 296 "no such rank" (ad 34) s := vk_R.of (A := args) (hts _ (List.mem_of_getElem? (i := 1238) (by decide +kernel))) (hev 34 (by decide))
  exact List.forall_mem_cons.mpr ⟨s0, List.forall_mem_cons.mpr ⟨s1, List.forall_mem_cons.mpr ⟨s2, List.forall_mem_cons.mpr ⟨s3, List.forall_mem_cons.mpr ⟨s4, List.forall_mem_cons.mpr ⟨s5, List.forall_mem_cons.mpr ⟨s6, List.forall_mem_cons.mpr ⟨s7, List.forall_mem_cons.mpr ⟨s8, List.forall_mem_cons.mpr ⟨s9, List.forall_mem_cons.mpr ⟨s10, List.forall_mem_cons.mpr ⟨s11, List.forall_mem_cons.mpr ⟨s12, List.forall_mem_cons.mpr ⟨s13, List.forall_mem_cons.mpr ⟨s14, List.forall_mem_cons.mpr ⟨s15, List.forall_mem_cons.mpr ⟨s16, List.forall_mem_cons.mpr ⟨s17, List.forall_mem_cons.mpr ⟨s18, List.forall_mem_cons.mpr ⟨s19, List.forall_mem_cons.mpr ⟨s20, List.forall_mem_cons.mpr ⟨s21, List.forall_mem_cons.mpr ⟨s22, List.forall_mem_cons.mpr ⟨s23, List.forall_mem_cons.mpr ⟨s24, List.forall_mem_cons.mpr ⟨s25, List.forall_mem_cons.mpr ⟨s26, List.forall_mem_cons.mpr ⟨s27, List.forall_mem_cons.mpr ⟨s28, List.forall_mem_cons.mpr ⟨s29, List.forall_mem_cons.mpr ⟨s30, List.forall_mem_cons.mpr ⟨s31, List.forall_mem_cons.mpr ⟨s32, List.forall_mem_cons.mpr ⟨s33, List.forall_mem_cons.mpr ⟨s34, fun _ h => absurd h List.not_mem_nil⟩⟩⟩⟩⟩⟩⟩⟩⟩⟩⟩⟩⟩⟩⟩⟩⟩⟩⟩⟩⟩⟩⟩⟩⟩⟩⟩⟩⟩⟩⟩⟩⟩⟩⟩
theorem g_K (hts : ∀ w ∈ lw_tbl, w.before args s = true) : ∃ D : va_G, va_K D vwCl (gTys D) s := by
  have htw : ∀ w ∈ gW, w.before args s = true := fun w hw => hts w (List.mem_filter.mp hw).1
  obtain ⟨c0, i0, h0⟩ := u_known (C := RX0) (T := TX0) (N := 3) (n := 3) htw uX0 (htw _ wd_144)
  obtain ⟨c1, i1, h1⟩ := u_known (C := RX1) (T := TX1) (N := 3) (n := 3) htw uX1 (htw _ wd_176)
  obtain ⟨c2, i2, h2⟩ := u_known (C := RX2) (T := TX2) (N := 2) (n := 2) htw uX2 (htw _ wd_164)
  obtain ⟨c3, i3, h3⟩ := u_known (C := RX3) (T := TX3) (N := 14) (n := 14) htw uX3 (htw _ wd_852)
  obtain ⟨c4, i4, h4⟩ := u_known (C := RX4) (T := TX4) (N := 1) (n := 1) htw uX4 (htw _ wd_193)
  obtain ⟨c5, i5, h5⟩ := u_known (C := RX5) (T := TX5) (N := 5) (n := 5) htw uX5 (htw _ wd_269)
  obtain ⟨c6, i6, h6⟩ := u_known (C := RX6) (T := TX6) (N := 9) (n := 9) htw uX6 (htw _ wd_82)
  obtain ⟨c7, i7, h7⟩ := u_known (C := RX7) (T := TX7) (N := 13) (n := 13) htw uX7 (htw _ wd_207)
  obtain ⟨c8, i8, h8⟩ := u_known (C := RX8) (T := TX8) (N := 11) (n := 11) htw uX8 (htw _ wd_216)
  obtain ⟨c9, i9, h9⟩ := u_known (C := RX9) (T := TX9) (N := 16) (n := 16) htw uX9 (htw _ wd_74)
  obtain ⟨a0, r0, q0⟩ := g_prim (ty := .boolean) (hts _ (List.mem_of_getElem? (i := 141) (by decide +kernel)))
  obtain ⟨a1, r1, q1⟩ := g_prim (ty := .byte) (hts _ (List.mem_of_getElem? (i := 140) (by decide +kernel)))
  obtain ⟨a2, r2, q2⟩ := g_prim (ty := .int) (hts _ (List.mem_of_getElem? (i := 142) (by decide +kernel)))
  obtain ⟨a3, r3, q3⟩ := g_prim (ty := .long) (hts _ (List.mem_of_getElem? (i := 205) (by decide +kernel)))
  obtain ⟨a5, r5, q5⟩ := g_obj (C := "RippleTank$Train") (hts _ (List.mem_of_getElem? (i := 213) (by decide +kernel)))
  obtain ⟨a6, r6, q6⟩ := g_obj (C := "RippleTank$Shoal") (hts _ (List.mem_of_getElem? (i := 215) (by decide +kernel)))
  obtain ⟨a7, r7, q7⟩ := g_obj (C := "RippleTank$State") (hts _ (List.mem_of_getElem? (i := 150) (by decide +kernel)))
  refine ⟨(fun k => match k with | 0 => c0 | 1 => c1 | 2 => c2 | 3 => c3 | 4 => c4 | 5 => c5 | 6 => c6 | 7 => c7 | 8 => c8 | 9 => c9 | 100 => a0 | 101 => a1 | 102 => a2 | 103 => a3 | 105 => a5 | 106 => a6 | _ => a7, fun k => match k with | 0 => i0 | 1 => i1 | 2 => i2 | 3 => i3 | 4 => i4 | 5 => i5 | 6 => i6 | 7 => i7 | 8 => i8 | _ => i9), fun k q hq => ?_, fun k q hq => ?_⟩
  · match k, hq with
    | 0, hq => cases hq; exact h0
    | 1, hq => cases hq; exact h1
    | 2, hq => cases hq; exact h2
    | 3, hq => cases hq; exact h3
    | 4, hq => cases hq; exact h4
    | 5, hq => cases hq; exact h5
    | 6, hq => cases hq; exact h6
    | 7, hq => cases hq; exact h7
    | 8, hq => cases hq; exact h8
    | 9, hq => cases hq; exact h9
    | k + 10, hq => simp at hq
  · match k, hq with
    | 0, hq => cases hq; exact ⟨r0, q0⟩
    | 1, hq => cases hq; exact ⟨r1, q1⟩
    | 2, hq => cases hq; exact ⟨r2, q2⟩
    | 3, hq => cases hq; exact ⟨r3, q3⟩
    | 4, hq => cases hq; exact ⟨r3, q3⟩
    | 5, hq => cases hq; exact ⟨r5, q5⟩
    | 6, hq => cases hq; exact ⟨r6, q6⟩
    | 7, hq => cases hq; exact ⟨r7, q7⟩
    | k + 8, hq => simp [gTys] at hq
theorem g_start (l : Launch) (hts : ∀ w ∈ lw_tbl, w.before args s = true) (hs : ∀ c ∈ flatC lcc, c.before args s = true) {b zL : Nat} {xs : Nat → Int32} (hX : va_X b zL xs s s.heap) (hbl : b < s.heap.size) : ∃ G : gG, G.1 = l ∧ G.2.2.1 = s.heap.size ∧ gsA G = b ∧ gScr G zL xs ∧ gK G s s.heap := by
  obtain ⟨D, hK⟩ := g_K hts
  have hA : ∀ a : Nat, a < s.heap.size → ¬ (fun q : Nat => s.heap.size ≤ q) a := fun a h1 h2 => absurd h1 (Nat.not_lt.mpr h2)
  obtain ⟨ad, had⟩ : ∃ ad : Nat → Nat × Nat, ∀ i, i < 35 → (gTm i).eval args s none [] s = some (.ref (ad i).1) ∧ va_O "java/lang/String" (ad i).1 (fun q : Nat => s.heap.size ≤ q) s s.heap ∧ va_OF "java/lang/String" "coder" "B" (.int 0) (ad i).1 (fun q : Nat => s.heap.size ≤ q) s s.heap ∧ va_OF "java/lang/String" "value" "[B" (.ref (ad i).2) (ad i).1 (fun q : Nat => s.heap.size ≤ q) s s.heap ∧ va_T .byte (ad i).2 (gLen i) (fun j => .int (gByt i j)) (fun q : Nat => s.heap.size ≤ q) s s.heap := ⟨fun i => Classical.choose (gSof hs hA i), fun i hi => Classical.choose_spec (gSof hs hA i) hi⟩
  have hxU : (Cond.exactly (.static "jdk/internal/util/ArraysSupport" "U" "Ljdk/internal/misc/Unsafe;") "jdk/internal/misc/Unsafe").before args s = true := (hs _ (List.mem_of_getElem? (i := 13) (by decide +kernel)))
  obtain ⟨uA, cu, xu, ku, hu, -⟩ := Cond.exactly_spec (args := args) (first := s) (o := none) (s := s) (idx := []) (t := .static "jdk/internal/util/ArraysSupport" "U" "Ljdk/internal/misc/Unsafe;") (cls := "jdk/internal/misc/Unsafe") hxU
  refine ⟨(l, D, s.heap.size, fun i => (ad i).1, fun i => (ad i).2, b, zL, xs, uA), rfl, rfl, rfl, ⟨rfl, rfl⟩, hK, ?_, ?_, ?_, ?_, g_gN hts, ?_, ?_, ?_, hX, hA b hbl, ?_, ?_, ?_, ?_, ?_⟩
  · exact vx_Zqof (hts _ (List.mem_of_getElem? (i := 444) (by decide +kernel))) (hts _ (List.mem_of_getElem? (i := 55) (by decide +kernel))) (hs _ (List.mem_of_getElem? (i := 4) (by decide +kernel))) hA
  · exact vx_Zqof (hts _ (List.mem_of_getElem? (i := 446) (by decide +kernel))) (hts _ (List.mem_of_getElem? (i := 55) (by decide +kernel))) (hs _ (List.mem_of_getElem? (i := 5) (by decide +kernel))) hA
  · exact g_gStr hts (fun i hi => (had i hi).1)
  · exact fun i hi => (had i hi).2
  · exact fun q hq => absurd hq List.not_mem_nil
  · exact va_Zof (hts _ (List.mem_of_getElem? (i := 951) (by decide +kernel))) (hts _ (List.mem_of_getElem? (i := 60) (by decide +kernel))) (va_eqi (hs _ (List.mem_of_getElem? (i := 6) (by decide +kernel)))) hA
  · exact va_Zqof (hts _ (List.mem_of_getElem? (i := 967) (by decide +kernel))) (hts _ (List.mem_of_getElem? (i := 62) (by decide +kernel))) (hs _ (List.mem_of_getElem? (i := 7) (by decide +kernel))) hA
  · exact va_Zof (hts _ (List.mem_of_getElem? (i := 1259) (by decide +kernel))) (hts _ (List.mem_of_getElem? (i := 69) (by decide +kernel))) (va_eqi (hs _ (List.mem_of_getElem? (i := 12) (by decide +kernel)))) hA
  · exact va_Zof (hts _ (List.mem_of_getElem? (i := 1257) (by decide +kernel))) (hts _ (List.mem_of_getElem? (i := 70) (by decide +kernel))) (va_eqi (hs _ (List.mem_of_getElem? (i := 11) (by decide +kernel)))) hA
  · exact va_Zof (hts _ (List.mem_of_getElem? (i := 1335) (by decide +kernel))) (hts _ (List.mem_of_getElem? (i := 69) (by decide +kernel))) (va_eqi (hs _ (List.mem_of_getElem? (i := 17) (by decide +kernel)))) hA
  · exact va_Zof (hts _ (List.mem_of_getElem? (i := 1264) (by decide +kernel))) (hts _ (List.mem_of_getElem? (i := 69) (by decide +kernel))) hu hA
  · exact va_Oof hxU hu hA
end GST
