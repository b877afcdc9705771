/-! THE START: what the Statement gives of it -/
def lcc : Cond := Jvm.Cond.and given_1 narrow_1
def gTo : List (String × Nat) := [("RippleTank", 88), ("RippleTank$Parser", 69), ("RippleTank$Parser", 74), ("RippleTank$Parser", 80), ("RippleTank$Parser", 82), ("RippleTank$Parser", 92), ("RippleTank$Parser", 101), ("RippleTank$Parser", 192), ("RippleTank$Parser", 194), ("RippleTank$Parser", 109), ("RippleTank$Parser", 114), ("RippleTank$Parser", 119), ("RippleTank$Parser", 124), ("RippleTank$Parser", 284), ("RippleTank$Parser", 286), ("RippleTank$Parser", 288), ("RippleTank$Parser", 290), ("RippleTank$Parser", 129), ("RippleTank$Parser", 134), ("RippleTank$Parser", 244), ("RippleTank$Parser", 246), ("RippleTank$Parser", 139), ("RippleTank$Parser", 144), ("RippleTank", 108), ("RippleTank", 382), ("RippleTank", 390), ("RippleTank", 384), ("RippleTank", 394), ("RippleTank", 388), ("RippleTank", 386), ("RippleTank", 296), ("RippleTank", 333), ("RippleTank", 363), ("RippleTank", 372), ("RippleTank", 392), ("RippleTank", 380)]
def gTm (i : Nat) : Term := .string ((gTo.getD i ("", 0)).1) ((gTo.getD i ("", 0)).2)
def kst : List Nat := [50, 86, 94, 103, 113, 121, 129, 138, 147, 157, 166, 174, 181, 191, 199, 208, 215, 225, 232, 241, 251, 258, 267, 276, 301, 323, 338, 356, 381, 399, 416, 432, 448, 468, 493, 509]
def strC (i : Nat) : List Cond := [.exactly (gTm i) "java/lang/String", .eq (.field (gTm i) "java/lang/String" "coder" "B") (.int 0), .arrayOf (.field (gTm i) "java/lang/String" "value" "[B") .byte, .eq (.length (.field (gTm i) "java/lang/String" "value" "[B")) (.int (Int32.ofNat (gLen i)))] ++ (List.range (gLen i)).map (fun j => .eq (.elem (.field (gTm i) "java/lang/String" "value" "[B") (.int (Int32.ofNat j))) (.int (gByt i j)))
set_option maxRecDepth 100000 in
theorem stc : ∀ i, i < 36 → ((flatC lcc).drop (kst.getD i 0)).take (4 + gLen i) = strC i := by decide +kernel
set_option maxRecDepth 100000 in
theorem ncc : ((flatC lcc).drop 11).take 39 = gNc.map (fun q => Cond.not (.castable q.1 q.2)) := by decide +kernel
theorem st_in {i : Nat} (hi : i < 36) {c : Cond} (h : c ∈ strC i) : c ∈ flatC lcc := by
  rw [← stc i hi] at h
  exact List.mem_of_mem_drop (List.mem_of_mem_take h)
theorem gLen_31 : ∀ i, i < 36 → gLen i < 2 ^ 31 := by decide +kernel
section GST
variable {args : Array Value} {s : State} {A : Nat → Prop}
theorem gSof (hs : ∀ c ∈ flatC lcc, c.before args s = true) (hA : ∀ a : Nat, a < s.heap.size → ¬ A a) (i : Nat) : ∃ q : Nat × Nat, i < 36 → (gTm i).eval args s none [] s = some (.ref q.1) ∧ va_O "java/lang/String" q.1 A s s.heap ∧ va_OF "java/lang/String" "coder" "B" (.int 0) q.1 A s s.heap ∧ va_OF "java/lang/String" "value" "[B" (.ref q.2) q.1 A s s.heap ∧ va_T .byte q.2 (gLen i) (fun j => .int (gByt i j)) A s s.heap := by
  by_cases hi : i < 36
  · have hex := hs _ (st_in hi (c := .exactly (gTm i) "java/lang/String") List.mem_cons_self)
    have hco := hs _ (st_in hi (c := .eq (.field (gTm i) "java/lang/String" "coder" "B") (.int 0)) (List.mem_cons_of_mem _ List.mem_cons_self))
    have har := hs _ (st_in hi (c := .arrayOf (.field (gTm i) "java/lang/String" "value" "[B") .byte) (List.mem_cons_of_mem _ (List.mem_cons_of_mem _ List.mem_cons_self)))
    have hle := hs _ (st_in hi (c := .eq (.length (.field (gTm i) "java/lang/String" "value" "[B")) (.int (Int32.ofNat (gLen i)))) (List.mem_cons_of_mem _ (List.mem_cons_of_mem _ (List.mem_cons_of_mem _ List.mem_cons_self))))
    have hel : ∀ j, j < gLen i → (Cond.eq (.elem (.field (gTm i) "java/lang/String" "value" "[B") (.int (Int32.ofNat j))) (.int (gByt i j))).before args s = true := fun j hj => hs _ (st_in hi (List.mem_append_right _ (List.mem_map.mpr ⟨j, List.mem_range.mpr hj, rfl⟩)))
    obtain ⟨a, c, cA, kA, q1, q2, q3, q4, q5, q6, -⟩ := Cond.exactly_spec (args := args) (first := s) (o := none) (s := s) (idx := []) (t := gTm i) (cls := "java/lang/String") hex
    obtain ⟨t, ht, hT⟩ := va_Tof (f := fun j => .int (gByt i j)) (A := A) (gLen_31 i hi) har (va_eqt hle) (fun j hj => va_eqt (hel j hj)) hA
    exact ⟨(a, t), fun _ => ⟨q1, ⟨cA, q3, q5, by rw [q6]; exact q2, hA a (Array.getElem?_eq_some_iff.mp q3).1⟩, vk_OFof q1 (va_eqt hco) hA, vk_OFof q1 ht hA, hT⟩⟩
  · exact ⟨(0, 0), fun h => absurd h hi⟩
theorem g_prim {ty : FieldType} (h : (Cond.arrayClass ty).before args s = true) : ∃ cA, ArrOfT s cA ty ∧ s.vm.findClass ("[" ++ ty.toString) = some cA := by
  obtain ⟨c, k, comp, h1, h2, h3⟩ := Cond.arrayClass_spec h
  exact ⟨c, fun n z => ⟨fun k h => (by cases h), k, h2, comp, h3⟩, h1⟩
theorem g_obj {C : String} (h : (Cond.arrayOver (.object C)).before args s = true) : ∃ cA, ArrOfT s cA (.object C) ∧ va_RA s cA (.object C) := by
  obtain ⟨comp, c, k, h1, h2, h3, h4, h5⟩ := Cond.arrayOver_spec h
  exact ⟨c, fun n z => ⟨fun k h => (by cases h), k, h3, comp, h4⟩, k, comp, h3, h4, h1, h5⟩
theorem g_gN (hts : ∀ w ∈ lw_tbl, w.before args s = true) : ∀ w ∈ gN, va_Nw w s := by
  intro w hw
  have h1 := (List.mem_filter.mp hw).2
  have h := hts w (List.mem_filter.mp hw).1
  cases w <;> first | exact va_Nw.of rfl h | exact h | (simp [gNq] at h1; done)
theorem g_gNc (hs : ∀ c ∈ flatC lcc, c.before args s = true) : ∀ q ∈ gNc, va_Nc q.1 q.2 s := by
  intro q hq
  have h : Cond.not (.castable q.1 q.2) ∈ gNc.map (fun q => Cond.not (.castable q.1 q.2)) := List.mem_map.mpr ⟨q, hq, rfl⟩
  rw [← ncc] at h
  exact va_Nc.of (hs _ (List.mem_of_mem_drop (List.mem_of_mem_take h)))
theorem g_gStr (hts : ∀ w ∈ lw_tbl, w.before args s = true) (hs : ∀ c ∈ flatC lcc, c.before args s = true) {ad : Nat → Nat} (hev : ∀ i, i < 36 → (gTm i).eval args s none [] s = some (.ref (ad i))) : ∀ q ∈ gStr, vk_R q.1 q.2.1 q.2.2.1 (ad q.2.2.2) s := by
  have s0 : vk_R "RippleTank" 88 "more bytes than the buffer holds" (ad 0) s := vk_R.of (A := args) (hts _ (List.mem_of_getElem? (i := 571) (by decide +kernel))) (hev 0 (by decide))
  have s1 : vk_R "RippleTank$Parser" 69 "tank" (ad 1) s := vk_R.of (A := args) (hts _ (List.mem_of_getElem? (i := 675) (by decide +kernel))) (hev 1 (by decide))
  have s2 : vk_R "RippleTank$Parser" 74 "width" (ad 2) s := vk_R.of (A := args) (hts _ (List.mem_of_getElem? (i := 740) (by decide +kernel))) (hev 2 (by decide))
  have s3 : vk_R "RippleTank$Parser" 80 "height" (ad 3) s := vk_R.of (A := args) (hts _ (List.mem_of_getElem? (i := 745) (by decide +kernel))) (hev 3 (by decide))
  have s4 : vk_R "RippleTank$Parser" 82 "fade" (ad 4) s := vk_R.of (A := args) (hts _ (List.mem_of_getElem? (i := 746) (by decide +kernel))) (hev 4 (by decide))
  have s5 : vk_R "RippleTank$Parser" 92 "wall" (ad 5) s := vk_R.of (A := args) (hts _ (List.mem_of_getElem? (i := 747) (by decide +kernel))) (hev 5 (by decide))
  have s6 : vk_R "RippleTank$Parser" 101 "train" (ad 6) s := vk_R.of (A := args) (hts _ (List.mem_of_getElem? (i := 756) (by decide +kernel))) (hev 6 (by decide))
  have s7 : vk_R "RippleTank$Parser" 192 "burst" (ad 7) s := vk_R.of (A := args) (hts _ (List.mem_of_getElem? (i := 773) (by decide +kernel))) (hev 7 (by decide))
  have s8 : vk_R "RippleTank$Parser" 194 "rising" (ad 8) s := vk_R.of (A := args) (hts _ (List.mem_of_getElem? (i := 774) (by decide +kernel))) (hev 8 (by decide))
  have s9 : vk_R "RippleTank$Parser" 109 "drift" (ad 9) s := vk_R.of (A := args) (hts _ (List.mem_of_getElem? (i := 775) (by decide +kernel))) (hev 9 (by decide))
  have s10 : vk_R "RippleTank$Parser" 114 "slit" (ad 10) s := vk_R.of (A := args) (hts _ (List.mem_of_getElem? (i := 788) (by decide +kernel))) (hev 10 (by decide))
  have s11 : vk_R "RippleTank$Parser" 119 "off" (ad 11) s := vk_R.of (A := args) (hts _ (List.mem_of_getElem? (i := 793) (by decide +kernel))) (hev 11 (by decide))
  have s12 : vk_R "RippleTank$Parser" 124 "mirror" (ad 12) s := vk_R.of (A := args) (hts _ (List.mem_of_getElem? (i := 798) (by decide +kernel))) (hev 12 (by decide))
  have s13 : vk_R "RippleTank$Parser" 284 "left" (ad 13) s := vk_R.of (A := args) (hts _ (List.mem_of_getElem? (i := 807) (by decide +kernel))) (hev 13 (by decide))
  have s14 : vk_R "RippleTank$Parser" 286 "right" (ad 14) s := vk_R.of (A := args) (hts _ (List.mem_of_getElem? (i := 808) (by decide +kernel))) (hev 14 (by decide))
  have s15 : vk_R "RippleTank$Parser" 288 "top" (ad 15) s := vk_R.of (A := args) (hts _ (List.mem_of_getElem? (i := 809) (by decide +kernel))) (hev 15 (by decide))
  have s16 : vk_R "RippleTank$Parser" 290 "bottom" (ad 16) s := vk_R.of (A := args) (hts _ (List.mem_of_getElem? (i := 810) (by decide +kernel))) (hev 16 (by decide))
  have s17 : vk_R "RippleTank$Parser" 129 "cut" (ad 17) s := vk_R.of (A := args) (hts _ (List.mem_of_getElem? (i := 811) (by decide +kernel))) (hev 17 (by decide))
  have s18 : vk_R "RippleTank$Parser" 134 "shape" (ad 18) s := vk_R.of (A := args) (hts _ (List.mem_of_getElem? (i := 820) (by decide +kernel))) (hev 18 (by decide))
  have s19 : vk_R "RippleTank$Parser" 244 "square" (ad 19) s := vk_R.of (A := args) (hts _ (List.mem_of_getElem? (i := 825) (by decide +kernel))) (hev 19 (by decide))
  have s20 : vk_R "RippleTank$Parser" 246 "saw" (ad 20) s := vk_R.of (A := args) (hts _ (List.mem_of_getElem? (i := 826) (by decide +kernel))) (hev 20 (by decide))
  have s21 : vk_R "RippleTank$Parser" 139 "shoal" (ad 21) s := vk_R.of (A := args) (hts _ (List.mem_of_getElem? (i := 827) (by decide +kernel))) (hev 21 (by decide))
  have s22 : vk_R "RippleTank$Parser" 144 "gauge" (ad 22) s := vk_R.of (A := args) (hts _ (List.mem_of_getElem? (i := 832) (by decide +kernel))) (hev 22 (by decide))
  have s23 : vk_R "RippleTank" 108 "the text has an error" (ad 23) s := vk_R.of (A := args) (hts _ (List.mem_of_getElem? (i := 846) (by decide +kernel))) (hev 23 (by decide))
  have s24 : vk_R "RippleTank" 382 "no text was loaded" (ad 24) s := vk_R.of (A := args) (hts _ (List.mem_of_getElem? (i := 882) (by decide +kernel))) (hev 24 (by decide))
  have s25 : vk_R "RippleTank" 390 "no such row" (ad 25) s := vk_R.of (A := args) (hts _ (List.mem_of_getElem? (i := 907) (by decide +kernel))) (hev 25 (by decide))
  have s26 : vk_R "RippleTank" 384 "no such source" (ad 26) s := vk_R.of (A := args) (hts _ (List.mem_of_getElem? (i := 923) (by decide +kernel))) (hev 26 (by decide))
  have s27 : vk_R "RippleTank" 394 "a number out of range" (ad 27) s := vk_R.of (A := args) (hts _ (List.mem_of_getElem? (i := 927) (by decide +kernel))) (hev 27 (by decide))
  have s28 : vk_R "RippleTank" 388 "no such column" (ad 28) s := vk_R.of (A := args) (hts _ (List.mem_of_getElem? (i := 1008) (by decide +kernel))) (hev 28 (by decide))
  have s29 : vk_R "RippleTank" 386 "no such gauge" (ad 29) s := vk_R.of (A := args) (hts _ (List.mem_of_getElem? (i := 1164) (by decide +kernel))) (hev 29 (by decide))
  have s30 : vk_R "RippleTank" 296 "no such rank" (ad 30) s := vk_R.of (A := args) (hts _ (List.mem_of_getElem? (i := 1292) (by decide +kernel))) (hev 30 (by decide))
  have s31 : vk_R "RippleTank" 333 "no such byte" (ad 31) s := vk_R.of (A := args) (hts _ (List.mem_of_getElem? (i := 1379) (by decide +kernel))) (hev 31 (by decide))
  have s32 : vk_R "RippleTank" 363 "there is no wall" (ad 32) s := vk_R.of (A := args) (hts _ (List.mem_of_getElem? (i := 1483) (by decide +kernel))) (hev 32 (by decide))
  have s33 : vk_R "RippleTank" 372 "nothing can be undone" (ad 33) s := vk_R.of (A := args) (hts _ (List.mem_of_getElem? (i := 1491) (by decide +kernel))) (hev 33 (by decide))
  have s34 : vk_R "RippleTank" 392 "no such slot" (ad 34) s := vk_R.of (A := args) (hts _ (List.mem_of_getElem? (i := 1506) (by decide +kernel))) (hev 34 (by decide))
  have s35 : vk_R "RippleTank" 380 "nothing is saved in this slot" (ad 35) s := vk_R.of (A := args) (hts _ (List.mem_of_getElem? (i := 1514) (by decide +kernel))) (hev 35 (by decide))
  have s36 : vk_R "RippleTankModel" 141 "tank" (ad 1) s := vk_R.of (A := args) (hts _ (List.mem_of_getElem? (i := 1675) (by decide +kernel))) (va_eqR (hs _ (List.mem_of_getElem? (i := 550) (by decide +kernel))) (hev 1 (by decide)))
  have s37 : vk_R "RippleTankModel" 143 "width" (ad 2) s := vk_R.of (A := args) (hts _ (List.mem_of_getElem? (i := 1694) (by decide +kernel))) (va_eqR (hs _ (List.mem_of_getElem? (i := 560) (by decide +kernel))) (hev 2 (by decide)))
  have s38 : vk_R "RippleTankModel" 149 "height" (ad 3) s := vk_R.of (A := args) (hts _ (List.mem_of_getElem? (i := 1707) (by decide +kernel))) (va_eqR (hs _ (List.mem_of_getElem? (i := 571) (by decide +kernel))) (hev 3 (by decide)))
  have s39 : vk_R "RippleTankModel" 151 "fade" (ad 4) s := vk_R.of (A := args) (hts _ (List.mem_of_getElem? (i := 1708) (by decide +kernel))) (va_eqR (hs _ (List.mem_of_getElem? (i := 580) (by decide +kernel))) (hev 4 (by decide)))
  have s40 : vk_R "RippleTankModel" 153 "wall" (ad 5) s := vk_R.of (A := args) (hts _ (List.mem_of_getElem? (i := 1709) (by decide +kernel))) (va_eqR (hs _ (List.mem_of_getElem? (i := 589) (by decide +kernel))) (hev 5 (by decide)))
  have s41 : vk_R "RippleTankModel" 189 "train" (ad 6) s := vk_R.of (A := args) (hts _ (List.mem_of_getElem? (i := 1718) (by decide +kernel))) (va_eqR (hs _ (List.mem_of_getElem? (i := 599) (by decide +kernel))) (hev 6 (by decide)))
  have s42 : vk_R "RippleTankModel" 158 "burst" (ad 7) s := vk_R.of (A := args) (hts _ (List.mem_of_getElem? (i := 1727) (by decide +kernel))) (va_eqR (hs _ (List.mem_of_getElem? (i := 609) (by decide +kernel))) (hev 7 (by decide)))
  have s43 : vk_R "RippleTankModel" 160 "rising" (ad 8) s := vk_R.of (A := args) (hts _ (List.mem_of_getElem? (i := 1728) (by decide +kernel))) (va_eqR (hs _ (List.mem_of_getElem? (i := 620) (by decide +kernel))) (hev 8 (by decide)))
  have s44 : vk_R "RippleTankModel" 194 "drift" (ad 9) s := vk_R.of (A := args) (hts _ (List.mem_of_getElem? (i := 1729) (by decide +kernel))) (va_eqR (hs _ (List.mem_of_getElem? (i := 630) (by decide +kernel))) (hev 9 (by decide)))
  have s45 : vk_R "RippleTankModel" 199 "slit" (ad 10) s := vk_R.of (A := args) (hts _ (List.mem_of_getElem? (i := 1742) (by decide +kernel))) (va_eqR (hs _ (List.mem_of_getElem? (i := 639) (by decide +kernel))) (hev 10 (by decide)))
  have s46 : vk_R "RippleTankModel" 204 "off" (ad 11) s := vk_R.of (A := args) (hts _ (List.mem_of_getElem? (i := 1747) (by decide +kernel))) (va_eqR (hs _ (List.mem_of_getElem? (i := 647) (by decide +kernel))) (hev 11 (by decide)))
  have s47 : vk_R "RippleTankModel" 209 "mirror" (ad 12) s := vk_R.of (A := args) (hts _ (List.mem_of_getElem? (i := 1752) (by decide +kernel))) (va_eqR (hs _ (List.mem_of_getElem? (i := 658) (by decide +kernel))) (hev 12 (by decide)))
  have s48 : vk_R "RippleTankModel" 174 "left" (ad 13) s := vk_R.of (A := args) (hts _ (List.mem_of_getElem? (i := 1757) (by decide +kernel))) (va_eqR (hs _ (List.mem_of_getElem? (i := 667) (by decide +kernel))) (hev 13 (by decide)))
  have s49 : vk_R "RippleTankModel" 176 "right" (ad 14) s := vk_R.of (A := args) (hts _ (List.mem_of_getElem? (i := 1758) (by decide +kernel))) (va_eqR (hs _ (List.mem_of_getElem? (i := 677) (by decide +kernel))) (hev 14 (by decide)))
  have s50 : vk_R "RippleTankModel" 178 "top" (ad 15) s := vk_R.of (A := args) (hts _ (List.mem_of_getElem? (i := 1759) (by decide +kernel))) (va_eqR (hs _ (List.mem_of_getElem? (i := 685) (by decide +kernel))) (hev 15 (by decide)))
  have s51 : vk_R "RippleTankModel" 180 "bottom" (ad 16) s := vk_R.of (A := args) (hts _ (List.mem_of_getElem? (i := 1760) (by decide +kernel))) (va_eqR (hs _ (List.mem_of_getElem? (i := 696) (by decide +kernel))) (hev 16 (by decide)))
  have s52 : vk_R "RippleTankModel" 214 "cut" (ad 17) s := vk_R.of (A := args) (hts _ (List.mem_of_getElem? (i := 1761) (by decide +kernel))) (va_eqR (hs _ (List.mem_of_getElem? (i := 704) (by decide +kernel))) (hev 17 (by decide)))
  have s53 : vk_R "RippleTankModel" 219 "shape" (ad 18) s := vk_R.of (A := args) (hts _ (List.mem_of_getElem? (i := 1766) (by decide +kernel))) (va_eqR (hs _ (List.mem_of_getElem? (i := 714) (by decide +kernel))) (hev 18 (by decide)))
  have s54 : vk_R "RippleTankModel" 185 "square" (ad 19) s := vk_R.of (A := args) (hts _ (List.mem_of_getElem? (i := 1771) (by decide +kernel))) (va_eqR (hs _ (List.mem_of_getElem? (i := 725) (by decide +kernel))) (hev 19 (by decide)))
  have s55 : vk_R "RippleTankModel" 187 "saw" (ad 20) s := vk_R.of (A := args) (hts _ (List.mem_of_getElem? (i := 1772) (by decide +kernel))) (va_eqR (hs _ (List.mem_of_getElem? (i := 733) (by decide +kernel))) (hev 20 (by decide)))
  have s56 : vk_R "RippleTankModel" 224 "shoal" (ad 21) s := vk_R.of (A := args) (hts _ (List.mem_of_getElem? (i := 1773) (by decide +kernel))) (va_eqR (hs _ (List.mem_of_getElem? (i := 743) (by decide +kernel))) (hev 21 (by decide)))
  have s57 : vk_R "RippleTankModel" 229 "gauge" (ad 22) s := vk_R.of (A := args) (hts _ (List.mem_of_getElem? (i := 1778) (by decide +kernel))) (va_eqR (hs _ (List.mem_of_getElem? (i := 753) (by decide +kernel))) (hev 22 (by decide)))
  exact List.forall_mem_cons.mpr ⟨s0, List.forall_mem_cons.mpr ⟨s1, List.forall_mem_cons.mpr ⟨s2, List.forall_mem_cons.mpr ⟨s3, List.forall_mem_cons.mpr ⟨s4, List.forall_mem_cons.mpr ⟨s5, List.forall_mem_cons.mpr ⟨s6, List.forall_mem_cons.mpr ⟨s7, List.forall_mem_cons.mpr ⟨s8, List.forall_mem_cons.mpr ⟨s9, List.forall_mem_cons.mpr ⟨s10, List.forall_mem_cons.mpr ⟨s11, List.forall_mem_cons.mpr ⟨s12, List.forall_mem_cons.mpr ⟨s13, List.forall_mem_cons.mpr ⟨s14, List.forall_mem_cons.mpr ⟨s15, List.forall_mem_cons.mpr ⟨s16, List.forall_mem_cons.mpr ⟨s17, List.forall_mem_cons.mpr ⟨s18, List.forall_mem_cons.mpr ⟨s19, List.forall_mem_cons.mpr ⟨s20, List.forall_mem_cons.mpr ⟨s21, List.forall_mem_cons.mpr ⟨s22, List.forall_mem_cons.mpr ⟨s23, List.forall_mem_cons.mpr ⟨s24, List.forall_mem_cons.mpr ⟨s25, List.forall_mem_cons.mpr ⟨s26, List.forall_mem_cons.mpr ⟨s27, List.forall_mem_cons.mpr ⟨s28, List.forall_mem_cons.mpr ⟨s29, List.forall_mem_cons.mpr ⟨s30, List.forall_mem_cons.mpr ⟨s31, List.forall_mem_cons.mpr ⟨s32, List.forall_mem_cons.mpr ⟨s33, List.forall_mem_cons.mpr ⟨s34, List.forall_mem_cons.mpr ⟨s35, List.forall_mem_cons.mpr ⟨s36, List.forall_mem_cons.mpr ⟨s37, List.forall_mem_cons.mpr ⟨s38, List.forall_mem_cons.mpr ⟨s39, List.forall_mem_cons.mpr ⟨s40, List.forall_mem_cons.mpr ⟨s41, List.forall_mem_cons.mpr ⟨s42, List.forall_mem_cons.mpr ⟨s43, List.forall_mem_cons.mpr ⟨s44, List.forall_mem_cons.mpr ⟨s45, List.forall_mem_cons.mpr ⟨s46, List.forall_mem_cons.mpr ⟨s47, List.forall_mem_cons.mpr ⟨s48, List.forall_mem_cons.mpr ⟨s49, List.forall_mem_cons.mpr ⟨s50, List.forall_mem_cons.mpr ⟨s51, List.forall_mem_cons.mpr ⟨s52, List.forall_mem_cons.mpr ⟨s53, List.forall_mem_cons.mpr ⟨s54, List.forall_mem_cons.mpr ⟨s55, List.forall_mem_cons.mpr ⟨s56, List.forall_mem_cons.mpr ⟨s57, fun _ h => absurd h List.not_mem_nil⟩⟩⟩⟩⟩⟩⟩⟩⟩⟩⟩⟩⟩⟩⟩⟩⟩⟩⟩⟩⟩⟩⟩⟩⟩⟩⟩⟩⟩⟩⟩⟩⟩⟩⟩⟩⟩⟩⟩⟩⟩⟩⟩⟩⟩⟩⟩⟩⟩⟩⟩⟩⟩⟩⟩⟩⟩⟩
theorem g_K (hts : ∀ w ∈ lw_tbl, w.before args s = true) : ∃ D : va_G, va_K D vwCl (gTys D) s := by
  have htw : ∀ w ∈ gW, w.before args s = true := fun w hw => hts w (List.mem_filter.mp hw).1
  obtain ⟨c0, i0, h0⟩ := u_known (C := RX0) (T := TX0) (N := 3) (n := 3) htw uX0 (htw _ wd_213)
  obtain ⟨c1, i1, h1⟩ := u_known (C := RX1) (T := TX1) (N := 3) (n := 3) htw uX1 (htw _ wd_248)
  obtain ⟨c2, i2, h2⟩ := u_known (C := RX2) (T := TX2) (N := 2) (n := 2) htw uX2 (htw _ wd_233)
  obtain ⟨c3, i3, h3⟩ := u_known (C := RX3) (T := TX3) (N := 14) (n := 14) htw uX3 (htw _ wd_598)
  obtain ⟨c4, i4, h4⟩ := u_known (C := RX4) (T := TX4) (N := 1) (n := 1) htw uX4 (htw _ wd_265)
  obtain ⟨c5, i5, h5⟩ := u_known (C := RX5) (T := TX5) (N := 5) (n := 5) htw uX5 (htw _ wd_341)
  obtain ⟨c6, i6, h6⟩ := u_known (C := RX6) (T := TX6) (N := 9) (n := 9) htw uX6 (htw _ wd_149)
  obtain ⟨c7, i7, h7⟩ := u_known (C := RX7) (T := TX7) (N := 13) (n := 13) htw uX7 (htw _ wd_279)
  obtain ⟨c8, i8, h8⟩ := u_known (C := RX8) (T := TX8) (N := 11) (n := 11) htw uX8 (htw _ wd_288)
  obtain ⟨c9, i9, h9⟩ := u_known (C := RX9) (T := TX9) (N := 16) (n := 16) htw uX9 (htw _ wd_141)
  obtain ⟨c10, i10, h10⟩ := u_known (C := RX10) (T := TX10) (N := 33) (n := 33) htw uX10 (htw _ wd_1516)
  obtain ⟨a0, r0, q0⟩ := g_prim (ty := .boolean) (hts _ (List.mem_of_getElem? (i := 210) (by decide +kernel)))
  obtain ⟨a1, r1, q1⟩ := g_prim (ty := .byte) (hts _ (List.mem_of_getElem? (i := 209) (by decide +kernel)))
  obtain ⟨a2, r2, q2⟩ := g_prim (ty := .int) (hts _ (List.mem_of_getElem? (i := 211) (by decide +kernel)))
  obtain ⟨a3, r3, q3⟩ := g_prim (ty := .long) (hts _ (List.mem_of_getElem? (i := 277) (by decide +kernel)))
  obtain ⟨a4, r4, q4⟩ := g_prim (ty := .double) (hts _ (List.mem_of_getElem? (i := 2228) (by decide +kernel)))
  obtain ⟨a5, r5, q5⟩ := g_obj (C := "RippleTank$Train") (hts _ (List.mem_of_getElem? (i := 285) (by decide +kernel)))
  obtain ⟨a6, r6, q6⟩ := g_obj (C := "RippleTank$Shoal") (hts _ (List.mem_of_getElem? (i := 287) (by decide +kernel)))
  obtain ⟨a7, r7, q7⟩ := g_obj (C := "RippleTank$State") (hts _ (List.mem_of_getElem? (i := 219) (by decide +kernel)))
  refine ⟨(fun k => match k with | 0 => c0 | 1 => c1 | 2 => c2 | 3 => c3 | 4 => c4 | 5 => c5 | 6 => c6 | 7 => c7 | 8 => c8 | 9 => c9 | 10 => c10 | 100 => a0 | 101 => a1 | 102 => a2 | 103 => a3 | 104 => a4 | 105 => a5 | 106 => a6 | _ => a7, fun k => match k with | 0 => i0 | 1 => i1 | 2 => i2 | 3 => i3 | 4 => i4 | 5 => i5 | 6 => i6 | 7 => i7 | 8 => i8 | 9 => i9 | _ => i10), fun k q hq => ?_, fun k q hq => ?_⟩
  · match k, hq with
    | 0, hq => cases hq; exact h0
    | 1, hq => cases hq; exact h1
    | 2, hq => cases hq; exact h2
    | 3, hq => cases hq; exact h3
    | 4, hq => cases hq; exact h4
    | 5, hq => cases hq; exact h5
    | 6, hq => cases hq; exact h6
    | 7, hq => cases hq; exact h7
    | 8, hq => cases hq; exact h8
    | 9, hq => cases hq; exact h9
    | 10, hq => cases hq; exact h10
    | k + 11, hq => simp at hq
  · match k, hq with
    | 0, hq => cases hq; exact ⟨r0, q0⟩
    | 1, hq => cases hq; exact ⟨r1, q1⟩
    | 2, hq => cases hq; exact ⟨r2, q2⟩
    | 3, hq => cases hq; exact ⟨r3, q3⟩
    | 4, hq => cases hq; exact ⟨r4, q4⟩
    | 5, hq => cases hq; exact ⟨r5, q5⟩
    | 6, hq => cases hq; exact ⟨r6, q6⟩
    | 7, hq => cases hq; exact ⟨r7, q7⟩
    | k + 8, hq => simp [gTys] at hq
theorem g_start (l : Launch) (hts : ∀ w ∈ lw_tbl, w.before args s = true) (hs : ∀ c ∈ flatC lcc, c.before args s = true) : ∃ G : gG, G.1 = l ∧ G.2.2.1 = s.heap.size ∧ gK G s s.heap := by
  obtain ⟨D, hK⟩ := g_K hts
  have hA : ∀ a : Nat, a < s.heap.size → ¬ (fun q : Nat => s.heap.size ≤ q) a := fun a h1 h2 => absurd h1 (Nat.not_lt.mpr h2)
  obtain ⟨ad, had⟩ : ∃ ad : Nat → Nat × Nat, ∀ i, i < 36 → (gTm i).eval args s none [] s = some (.ref (ad i).1) ∧ va_O "java/lang/String" (ad i).1 (fun q : Nat => s.heap.size ≤ q) s s.heap ∧ va_OF "java/lang/String" "coder" "B" (.int 0) (ad i).1 (fun q : Nat => s.heap.size ≤ q) s s.heap ∧ va_OF "java/lang/String" "value" "[B" (.ref (ad i).2) (ad i).1 (fun q : Nat => s.heap.size ≤ q) s s.heap ∧ va_T .byte (ad i).2 (gLen i) (fun j => .int (gByt i j)) (fun q : Nat => s.heap.size ≤ q) s s.heap := ⟨fun i => Classical.choose (gSof hs hA i), fun i hi => Classical.choose_spec (gSof hs hA i) hi⟩
  refine ⟨(l, D, s.heap.size, fun i => (ad i).1, fun i => (ad i).2), rfl, rfl, hK, ?_, ?_, ?_, ?_, g_gN hts, g_gNc hs, ?_, ?_⟩
  · exact vx_Zqof (hts _ (List.mem_of_getElem? (i := 557) (by decide +kernel))) (hts _ (List.mem_of_getElem? (i := 127) (by decide +kernel))) (hs _ (List.mem_of_getElem? (i := 4) (by decide +kernel))) hA
  · exact vx_Zqof (hts _ (List.mem_of_getElem? (i := 559) (by decide +kernel))) (hts _ (List.mem_of_getElem? (i := 127) (by decide +kernel))) (hs _ (List.mem_of_getElem? (i := 5) (by decide +kernel))) hA
  · exact g_gStr hts hs (fun i hi => (had i hi).1)
  · exact fun i hi => (had i hi).2
  · exact va_Zof (hts _ (List.mem_of_getElem? (i := 697) (by decide +kernel))) (hts _ (List.mem_of_getElem? (i := 132) (by decide +kernel))) (va_eqi (hs _ (List.mem_of_getElem? (i := 6) (by decide +kernel)))) hA
  · exact va_Zqof (hts _ (List.mem_of_getElem? (i := 713) (by decide +kernel))) (hts _ (List.mem_of_getElem? (i := 134) (by decide +kernel))) (hs _ (List.mem_of_getElem? (i := 7) (by decide +kernel))) hA
end GST
