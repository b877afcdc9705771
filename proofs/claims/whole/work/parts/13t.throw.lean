section GTW
variable {G : gG} {mi : gM} {pc : Nat} {L : List (Option Value)} {f : gF} {sz k n : Nat} {Φ : gO → gF → Nat → Prop}
/-- throw new E("text") -/
theorem r_throwW {cls text : String} {names : List String} {ik is ic i : Nat} {rest : List Value} (hT : mi.2.2.2.2.2 = []) (hcls : Bundle.fit cls = true) (hnames : ∀ n ∈ names, Bundle.fit n = true) (hk : Cond.classLink mi.1.cls ik cls ∈ gW) (hini : Cond.initialized cls ∈ gW) (hstr : (mi.1.cls, is, text, i) ∈ gStr) (hat : ∀ w ∈ vx_atS mi.1.cls ic cls names, w ∈ gW ∨ w ∈ gN) (hgood : ∀ w ∈ Cond.classLink mi.1.cls ik cls :: Cond.initialized cls :: vx_atS mi.1.cls ic cls names, vx_ot w = true)
    (d0 : decode mi.2.1 pc = .ok (.new ik, 3)) (d3 : decode mi.2.1 (pc + 3) = .ok (.dup, 1)) (d4 : decode mi.2.1 (pc + 4) = .ok (.ldc_w is, 3)) (d6 : decode mi.2.1 (pc + 7) = .ok (.invokespecial ic, 3)) (d9 : decode mi.2.1 (pc + 10) = .ok (.athrow, 1))
    (hRf : names.length + 3 < mi.2.2.2.2.1.frames) (hRl : (rest.map fun v => v.category).sum + (13 * (names.length + 1) + 43) ≤ mi.2.2.2.2.1.locals) (hkc : k + 1 ≤ mi.2.2.2.2.1.cells) (hns : n + 6 ≤ mi.2.2.2.2.1.slots) (hΦ : ∀ sz', Φ (.inr cls) f sz') : gAt G mi (gQp G mi Φ) pc L rest f sz k n := by
  intro p e s m args below meth c F H locs ls hl2 hw
  have hts := F.2.2.2.2.1
  refine vx_throwSW (A := gA G) F.1 F.2.1 F.2.2.2.2.2.2.2.2.2 F.2.2.2.1 hcls hnames (hts _ hk) (hts _ hini) (hw.2.1.2.2.2.1 _ hstr) (fun w h => (hat w h).elim (hts w) (fun h => gN_use h (hw.2.1.2.2.2.2.2.1 _ h))) hgood hw.2.1.2.1 hw.2.1.2.2.1 hw.2.2.2.2 (by rw [F.2.2.1]; exact hl2.1) d0 d3 d4 d6 d9 (fun x hx => ?_) hRf hRl hkc hns F.2.2.2.2.2.2.1 (fun t ht h1 h2 => ⟨⟨f, t.heap.size, hΦ _, fun a ha => ⟨(hw.1 a ha).1.kept (h2 a ((hw.1 a ha).1.lt)), (hw.1 a ha).2⟩, rfl⟩, Nat.le_trans hw.2.2.2.2.1 h1, fun q g1 g2 => (h2 q (Nat.lt_of_lt_of_le g1 hw.2.2.2.2.1)).trans (hw.2.2.2.2.2.1 q g1 g2)⟩) hw.2.2.2.2.2.2 hkc hns
  rw [F.2.2.2.2.2.2.2.2.1, hT] at hx
  cases hx
end GTW
theorem xat_X9_110 : ∀ w ∈ vx_atS "RippleTank" 110 "java/lang/IllegalArgumentException" ["java/lang/RuntimeException", "java/lang/Exception"], w ∈ gW ∨ w ∈ gN := by
  have h : (vx_atS "RippleTank" 110 "java/lang/IllegalArgumentException" ["java/lang/RuntimeException", "java/lang/Exception"]).all (fun w => decide (w ∈ lw_tbl) && (goodWord w || gNq w)) = true := by decide +kernel
  intro w hw
  have h1 := List.all_eq_true.mp h w hw
  simp only [Bool.and_eq_true, decide_eq_true_eq, Bool.or_eq_true] at h1
  rcases h1.2 with h2 | h2
  · exact Or.inl (List.mem_filter.mpr ⟨h1.1, h2⟩)
  · exact Or.inr (List.mem_filter.mpr ⟨h1.1, h2⟩)
theorem xgd_X9_110_106 : ∀ w ∈ Cond.classLink "RippleTank" 106 "java/lang/IllegalArgumentException" :: Cond.initialized "java/lang/IllegalArgumentException" :: vx_atS "RippleTank" 110 "java/lang/IllegalArgumentException" ["java/lang/RuntimeException", "java/lang/Exception"], vx_ot w = true := by
  have h : (Cond.classLink "RippleTank" 106 "java/lang/IllegalArgumentException" :: Cond.initialized "java/lang/IllegalArgumentException" :: vx_atS "RippleTank" 110 "java/lang/IllegalArgumentException" ["java/lang/RuntimeException", "java/lang/Exception"]).all vx_ot = true := by decide +kernel
  exact fun w hw => List.all_eq_true.mp h w hw
theorem xat_X9_365 : ∀ w ∈ vx_atS "RippleTank" 365 "java/lang/IllegalStateException" ["java/lang/RuntimeException", "java/lang/Exception"], w ∈ gW ∨ w ∈ gN := by
  have h : (vx_atS "RippleTank" 365 "java/lang/IllegalStateException" ["java/lang/RuntimeException", "java/lang/Exception"]).all (fun w => decide (w ∈ lw_tbl) && (goodWord w || gNq w)) = true := by decide +kernel
  intro w hw
  have h1 := List.all_eq_true.mp h w hw
  simp only [Bool.and_eq_true, decide_eq_true_eq, Bool.or_eq_true] at h1
  rcases h1.2 with h2 | h2
  · exact Or.inl (List.mem_filter.mpr ⟨h1.1, h2⟩)
  · exact Or.inr (List.mem_filter.mpr ⟨h1.1, h2⟩)
theorem xgd_X9_365_361 : ∀ w ∈ Cond.classLink "RippleTank" 361 "java/lang/IllegalStateException" :: Cond.initialized "java/lang/IllegalStateException" :: vx_atS "RippleTank" 365 "java/lang/IllegalStateException" ["java/lang/RuntimeException", "java/lang/Exception"], vx_ot w = true := by
  have h : (Cond.classLink "RippleTank" 361 "java/lang/IllegalStateException" :: Cond.initialized "java/lang/IllegalStateException" :: vx_atS "RippleTank" 365 "java/lang/IllegalStateException" ["java/lang/RuntimeException", "java/lang/Exception"]).all vx_ot = true := by decide +kernel
  exact fun w hw => List.all_eq_true.mp h w hw
theorem xat_X9_90 : ∀ w ∈ vx_atS "RippleTank" 90 "java/lang/IndexOutOfBoundsException" ["java/lang/RuntimeException", "java/lang/Exception"], w ∈ gW ∨ w ∈ gN := by
  have h : (vx_atS "RippleTank" 90 "java/lang/IndexOutOfBoundsException" ["java/lang/RuntimeException", "java/lang/Exception"]).all (fun w => decide (w ∈ lw_tbl) && (goodWord w || gNq w)) = true := by decide +kernel
  intro w hw
  have h1 := List.all_eq_true.mp h w hw
  simp only [Bool.and_eq_true, decide_eq_true_eq, Bool.or_eq_true] at h1
  rcases h1.2 with h2 | h2
  · exact Or.inl (List.mem_filter.mpr ⟨h1.1, h2⟩)
  · exact Or.inr (List.mem_filter.mpr ⟨h1.1, h2⟩)
theorem xgd_X9_90_86 : ∀ w ∈ Cond.classLink "RippleTank" 86 "java/lang/IndexOutOfBoundsException" :: Cond.initialized "java/lang/IndexOutOfBoundsException" :: vx_atS "RippleTank" 90 "java/lang/IndexOutOfBoundsException" ["java/lang/RuntimeException", "java/lang/Exception"], vx_ot w = true := by
  have h : (Cond.classLink "RippleTank" 86 "java/lang/IndexOutOfBoundsException" :: Cond.initialized "java/lang/IndexOutOfBoundsException" :: vx_atS "RippleTank" 90 "java/lang/IndexOutOfBoundsException" ["java/lang/RuntimeException", "java/lang/Exception"]).all vx_ot = true := by decide +kernel
  exact fun w hw => List.all_eq_true.mp h w hw
