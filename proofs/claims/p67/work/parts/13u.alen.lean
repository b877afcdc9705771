section GAL
variable {G : gG} {E : gE} {I : gI} {J : gJ} {K : gI} {N : gJ} {mi : gM} {Qp : List Frame → Array Value → State → State → Prop} {pc : Nat} {L : List (Option Value)} {st : List Value} {sz k n o z : Nat}
theorem a_alen1 {v : Int32} (hd : decode mi.2.1 pc = .ok (.arraylength, 1)) (ho : E.1 o = (101, z)) (hv : Int32.ofNat z = v) (kk : gAt G mi Qp (pc + 1) L (.int v :: st) (fO G E I J K N) sz k n) : gAt G mi Qp pc L (.ref (G.2.2.1 + o) :: st) (fO G E I J K N) sz k n := by
  intro p e s m args below meth c F H locs ls hl hw
  obtain ⟨hP, hA⟩ := gRep.one hw.1 (fo101 ho) (fun h => by cases h)
  refine W.alen (n := v) F.1 F.2.1 (hP 0 _ rfl) ((hw.2.1.1.2 1 _ rfl).1 z (fun j => .int (I o j))) ?_ rfl rfl hd (kk p e s m args below meth c F H locs ls hl hw)
  show (arrV _ _ _).slots.size.toInt32 = v
  rw [arrV_size]
  exact hv
theorem r_ldcSW {f : gF} {index : Nat} {tx : String} {i : Nat} (hd : decode mi.2.1 pc = .ok (.ldc_w index, 3)) (hs : (mi.1.cls, index, tx, i) ∈ gStr) (kk : gAt G mi Qp (pc + 3) L (.ref (G.2.2.2.1 i) :: st) f sz k n) : gAt G mi Qp pc L st f sz k n := by
  intro p e s m args below meth c F H locs ls hl hw
  have hZ := hw.2.1.2.2.2.1 _ hs
  have hb := F.2.1
  intro T hT X
  obtain ⟨t, a1, b1⟩ := kk p e s m args below meth c F H locs ls hl hw T hT X
  exact ⟨t, X.ldcStringW F.1 F.2.2.2.1 (text := tx) (a := G.2.2.2.1 i) hZ.1 hZ.2 (g := F0 m pc ls st) rfl (by rw [hb]; exact hd) t a1, b1⟩
end GAL
