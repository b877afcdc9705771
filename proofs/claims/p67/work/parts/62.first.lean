/-! THE FIRST MEMORY -/
def lyC (o : Nat) : Nat × Nat := if o < 153 then lay0 o else (99, 0)
def lE0 : gE := (lyC, 95, 116, fun _ _ => 0)
def lI0 : gI := fun o i => match o with | 0 => (if i = 3 then -1 else 0) | 94 => pt 640 i | 95 => (if i = 1 then 1 else if i = 2 then 1 else if i = 4 then -1 else 0) | 116 => (if i = 1 then 1 else if i = 2 then 1 else if i = 4 then -1 else 0) | 101 => (if i = 0 then 50 else if i = 1 then 2 else 0) | 104 => (if i = 0 then 50 else if i = 1 then 2 else 0) | 107 => (if i = 0 then 50 else if i = 1 then 2 else 0) | 110 => (if i = 0 then 50 else if i = 1 then 2 else 0) | 122 => (if i = 0 then 50 else if i = 1 then 2 else 0) | 125 => (if i = 0 then 50 else if i = 1 then 2 else 0) | 128 => (if i = 0 then 50 else if i = 1 then 2 else 0) | 131 => (if i = 0 then 50 else if i = 1 then 2 else 0) | _ => 0
def lK0 : gI := fun _ _ => 0
def lJ0 : gJ := fun _ _ => 0
def lT (G : gG) : List va_E := eX9 G G.2.2.1
def lOk (G : gG) (o : Nat) (e : va_E) : Prop := e ≠ gj ∧ ∀ H, va_at G.2.1 vwCl (G.2.2.1 + o, e) H → va_at G.2.1 vwCl (G.2.2.1 + o, cO G lE0 lI0 lJ0 lK0 lJ0 o) H
/-- the cells T are the run's own from s to t -/
def Sg (G : gG) (s t : Nat) (T : List va_E) : Prop := T.length + s = t ∧ ∀ i, i < T.length → lOk G (s + i) (T.getD i gj)
theorem at_refs {D : va_G} {a n : Nat} {cA : ClassId} {f g : Nat → Option Nat} (h : ∀ j, j < n → f j = g j) (H : Heap) (h1 : va_at D vwCl (a, .inl (cA, n, .inr (.inr (.inr (.inr f))))) H) : va_at D vwCl (a, .inl (cA, n, .inr (.inr (.inr (.inr g))))) H := by
  have e : (fun j : Fin n => va_rf (f j.val)) = (fun j : Fin n => va_rf (g j.val)) := funext fun j => by rw [h _ j.isLt]
  have h2 : H[a]? = some ({ cls := cA, slots := Array.ofFn (n := n) (fun j => va_rf (f j.val)), vm := .none } : Cell) := h1
  rw [e] at h2
  exact h2
theorem inl_ne {x : ClassId × vp_A} : (.inl x : va_E) ≠ gj := fun h => by cases h
section SG
variable {G : gG} {s t u : Nat} {e : va_E} {A B T : List va_E}
theorem sg_nil : Sg G s s [] := ⟨Nat.zero_add s, fun i h => absurd h (Nat.not_lt_zero i)⟩
theorem sg_cons (h : lOk G s e) (k : Sg G (s + 1) t T) : Sg G s t (e :: T) := by
  refine ⟨?_, fun i hi => ?_⟩
  · have := k.1
    rw [List.length_cons]
    omega
  · cases i with
    | zero => exact h
    | succ i =>
      have h2 := k.2 i (Nat.lt_of_succ_lt_succ hi)
      rw [show s + (i + 1) = s + 1 + i by omega]
      exact h2
theorem sg_app (a : Sg G s t A) (b : Sg G t u B) : Sg G s u (A ++ B) := by
  have a1 := a.1
  have b1 := b.1
  refine ⟨?_, fun i hi => ?_⟩
  · rw [List.length_append]
    omega
  · rw [List.length_append] at hi
    by_cases h : i < A.length
    · rw [gdl h]; exact a.2 i h
    · obtain ⟨j, rfl⟩ : ∃ j, i = A.length + j := ⟨i - A.length, by omega⟩
      have hb := b.2 j (by omega)
      rw [show (A ++ B).getD (A.length + j) gj = B.getD j gj from by rw [List.getD_eq_getElem?_getD, List.getD_eq_getElem?_getD, List.getElem?_append_right (by omega), Nat.add_sub_cancel_left]]
      rw [show s + (A.length + j) = t + j by omega]
      exact hb
end SG
theorem sg6_2 {G : gG} : Sg G 2 10 (eX6 G (G.2.2.1 + 2)) := sg_cons ⟨gci (ci := 6) rfl, fun _ h => h⟩ (sg_cons ⟨inl_ne, fun _ h => h⟩ (sg_cons ⟨inl_ne, fun _ h => h⟩ (sg_cons ⟨inl_ne, fun _ h => h⟩ (sg_cons ⟨inl_ne, fun _ h => h⟩ (sg_cons ⟨inl_ne, fun _ h => h⟩ (sg_cons ⟨inl_ne, fun _ h => h⟩ (sg_cons ⟨inl_ne, fun _ h => h⟩ (sg_nil))))))))
theorem sg6_10 {G : gG} : Sg G 10 18 (eX6 G (G.2.2.1 + 10)) := sg_cons ⟨gci (ci := 6) rfl, fun _ h => h⟩ (sg_cons ⟨inl_ne, fun _ h => h⟩ (sg_cons ⟨inl_ne, fun _ h => h⟩ (sg_cons ⟨inl_ne, fun _ h => h⟩ (sg_cons ⟨inl_ne, fun _ h => h⟩ (sg_cons ⟨inl_ne, fun _ h => h⟩ (sg_cons ⟨inl_ne, fun _ h => h⟩ (sg_cons ⟨inl_ne, fun _ h => h⟩ (sg_nil))))))))
theorem sg6_137 {G : gG} : Sg G 137 145 (eX6 G (G.2.2.1 + 137)) := sg_cons ⟨gci (ci := 6) rfl, fun _ h => h⟩ (sg_cons ⟨inl_ne, fun _ h => h⟩ (sg_cons ⟨inl_ne, fun _ h => h⟩ (sg_cons ⟨inl_ne, fun _ h => h⟩ (sg_cons ⟨inl_ne, fun _ h => h⟩ (sg_cons ⟨inl_ne, fun _ h => h⟩ (sg_cons ⟨inl_ne, fun _ h => h⟩ (sg_cons ⟨inl_ne, fun _ h => h⟩ (sg_nil))))))))
theorem sg6_145 {G : gG} : Sg G 145 153 (eX6 G (G.2.2.1 + 145)) := sg_cons ⟨gci (ci := 6) rfl, fun _ h => h⟩ (sg_cons ⟨inl_ne, fun _ h => h⟩ (sg_cons ⟨inl_ne, fun _ h => h⟩ (sg_cons ⟨inl_ne, fun _ h => h⟩ (sg_cons ⟨inl_ne, fun _ h => h⟩ (sg_cons ⟨inl_ne, fun _ h => h⟩ (sg_cons ⟨inl_ne, fun _ h => h⟩ (sg_cons ⟨inl_ne, fun _ h => h⟩ (sg_nil))))))))
theorem sg6_20 {G : gG} : Sg G 20 28 (eX6 G (G.2.2.1 + 18 + 2)) := sg_cons ⟨gci (ci := 6) rfl, fun _ h => h⟩ (sg_cons ⟨inl_ne, fun _ h => h⟩ (sg_cons ⟨inl_ne, fun _ h => h⟩ (sg_cons ⟨inl_ne, fun _ h => h⟩ (sg_cons ⟨inl_ne, fun _ h => h⟩ (sg_cons ⟨inl_ne, fun _ h => h⟩ (sg_cons ⟨inl_ne, fun _ h => h⟩ (sg_cons ⟨inl_ne, fun _ h => h⟩ (sg_nil))))))))
theorem sg6_28 {G : gG} : Sg G 28 36 (eX6 G (G.2.2.1 + 18 + 10)) := sg_cons ⟨gci (ci := 6) rfl, fun _ h => h⟩ (sg_cons ⟨inl_ne, fun _ h => h⟩ (sg_cons ⟨inl_ne, fun _ h => h⟩ (sg_cons ⟨inl_ne, fun _ h => h⟩ (sg_cons ⟨inl_ne, fun _ h => h⟩ (sg_cons ⟨inl_ne, fun _ h => h⟩ (sg_cons ⟨inl_ne, fun _ h => h⟩ (sg_cons ⟨inl_ne, fun _ h => h⟩ (sg_nil))))))))
theorem sg6_36 {G : gG} : Sg G 36 44 (eX6 G (G.2.2.1 + 18 + 18)) := sg_cons ⟨gci (ci := 6) rfl, fun _ h => h⟩ (sg_cons ⟨inl_ne, fun _ h => h⟩ (sg_cons ⟨inl_ne, fun _ h => h⟩ (sg_cons ⟨inl_ne, fun _ h => h⟩ (sg_cons ⟨inl_ne, fun _ h => h⟩ (sg_cons ⟨inl_ne, fun _ h => h⟩ (sg_cons ⟨inl_ne, fun _ h => h⟩ (sg_cons ⟨inl_ne, fun _ h => h⟩ (sg_nil))))))))
theorem sg6_44 {G : gG} : Sg G 44 52 (eX6 G (G.2.2.1 + 18 + 26)) := sg_cons ⟨gci (ci := 6) rfl, fun _ h => h⟩ (sg_cons ⟨inl_ne, fun _ h => h⟩ (sg_cons ⟨inl_ne, fun _ h => h⟩ (sg_cons ⟨inl_ne, fun _ h => h⟩ (sg_cons ⟨inl_ne, fun _ h => h⟩ (sg_cons ⟨inl_ne, fun _ h => h⟩ (sg_cons ⟨inl_ne, fun _ h => h⟩ (sg_cons ⟨inl_ne, fun _ h => h⟩ (sg_nil))))))))
theorem sg6_52 {G : gG} : Sg G 52 60 (eX6 G (G.2.2.1 + 18 + 34)) := sg_cons ⟨gci (ci := 6) rfl, fun _ h => h⟩ (sg_cons ⟨inl_ne, fun _ h => h⟩ (sg_cons ⟨inl_ne, fun _ h => h⟩ (sg_cons ⟨inl_ne, fun _ h => h⟩ (sg_cons ⟨inl_ne, fun _ h => h⟩ (sg_cons ⟨inl_ne, fun _ h => h⟩ (sg_cons ⟨inl_ne, fun _ h => h⟩ (sg_cons ⟨inl_ne, fun _ h => h⟩ (sg_nil))))))))
theorem sg6_60 {G : gG} : Sg G 60 68 (eX6 G (G.2.2.1 + 18 + 42)) := sg_cons ⟨gci (ci := 6) rfl, fun _ h => h⟩ (sg_cons ⟨inl_ne, fun _ h => h⟩ (sg_cons ⟨inl_ne, fun _ h => h⟩ (sg_cons ⟨inl_ne, fun _ h => h⟩ (sg_cons ⟨inl_ne, fun _ h => h⟩ (sg_cons ⟨inl_ne, fun _ h => h⟩ (sg_cons ⟨inl_ne, fun _ h => h⟩ (sg_cons ⟨inl_ne, fun _ h => h⟩ (sg_nil))))))))
theorem sg6_68 {G : gG} : Sg G 68 76 (eX6 G (G.2.2.1 + 18 + 50)) := sg_cons ⟨gci (ci := 6) rfl, fun _ h => h⟩ (sg_cons ⟨inl_ne, fun _ h => h⟩ (sg_cons ⟨inl_ne, fun _ h => h⟩ (sg_cons ⟨inl_ne, fun _ h => h⟩ (sg_cons ⟨inl_ne, fun _ h => h⟩ (sg_cons ⟨inl_ne, fun _ h => h⟩ (sg_cons ⟨inl_ne, fun _ h => h⟩ (sg_cons ⟨inl_ne, fun _ h => h⟩ (sg_nil))))))))
theorem sg6_76 {G : gG} : Sg G 76 84 (eX6 G (G.2.2.1 + 18 + 58)) := sg_cons ⟨gci (ci := 6) rfl, fun _ h => h⟩ (sg_cons ⟨inl_ne, fun _ h => h⟩ (sg_cons ⟨inl_ne, fun _ h => h⟩ (sg_cons ⟨inl_ne, fun _ h => h⟩ (sg_cons ⟨inl_ne, fun _ h => h⟩ (sg_cons ⟨inl_ne, fun _ h => h⟩ (sg_cons ⟨inl_ne, fun _ h => h⟩ (sg_cons ⟨inl_ne, fun _ h => h⟩ (sg_nil))))))))
theorem sg0_18 {G : gG} : Sg G 18 84 (eX0 G (G.2.2.1 + 18)) := sg_app (sg_app (sg_app (sg_app (sg_app (sg_app (sg_app (sg_app (sg_cons ⟨gci (ci := 0) rfl, fun _ h => h⟩ (sg_cons ⟨inl_ne, at_refs (fun j hj => match j, hj with | 0, _ => rfl | 1, _ => rfl | 2, _ => rfl | 3, _ => rfl | 4, _ => rfl | 5, _ => rfl | 6, _ => rfl | 7, _ => rfl | j + 8, hj => absurd hj (by omega))⟩ (sg_nil))) sg6_20) sg6_28) sg6_36) sg6_44) sg6_52) sg6_60) sg6_68) sg6_76
theorem sg2_86 {G : gG} : Sg G 86 88 (eX2 G (G.2.2.1 + 86)) := sg_cons ⟨gci (ci := 2) rfl, fun _ h => h⟩ (sg_cons ⟨inl_ne, fun _ h => h⟩ (sg_nil))
theorem sg1_88 {G : gG} : Sg G 88 91 (eX1 G (G.2.2.1 + 88)) := sg_cons ⟨gci (ci := 1) rfl, fun _ h => h⟩ (sg_cons ⟨inl_ne, fun _ h => h⟩ (sg_cons ⟨inl_ne, fun _ h => h⟩ (sg_nil)))
theorem sg4_93 {G : gG} : Sg G 93 95 (eX4 G (G.2.2.1 + 93)) := sg_cons ⟨gci (ci := 4) rfl, fun _ h => h⟩ (sg_cons ⟨inl_ne, fun _ h => h⟩ (sg_nil))
theorem sg8_101 {G : gG} : Sg G 101 104 (eX8 G (G.2.2.1 + 95 + 6)) := sg_cons ⟨gci (ci := 8) rfl, fun _ h => h⟩ (sg_cons ⟨inl_ne, fun _ h => h⟩ (sg_cons ⟨inl_ne, fun _ h => h⟩ (sg_nil)))
theorem sg8_104 {G : gG} : Sg G 104 107 (eX8 G (G.2.2.1 + 95 + 9)) := sg_cons ⟨gci (ci := 8) rfl, fun _ h => h⟩ (sg_cons ⟨inl_ne, fun _ h => h⟩ (sg_cons ⟨inl_ne, fun _ h => h⟩ (sg_nil)))
theorem sg8_107 {G : gG} : Sg G 107 110 (eX8 G (G.2.2.1 + 95 + 12)) := sg_cons ⟨gci (ci := 8) rfl, fun _ h => h⟩ (sg_cons ⟨inl_ne, fun _ h => h⟩ (sg_cons ⟨inl_ne, fun _ h => h⟩ (sg_nil)))
theorem sg8_110 {G : gG} : Sg G 110 113 (eX8 G (G.2.2.1 + 95 + 15)) := sg_cons ⟨gci (ci := 8) rfl, fun _ h => h⟩ (sg_cons ⟨inl_ne, fun _ h => h⟩ (sg_cons ⟨inl_ne, fun _ h => h⟩ (sg_nil)))
theorem sg5_113 {G : gG} : Sg G 113 114 (eX5 G (G.2.2.1 + 95 + 18)) := sg_cons ⟨gci (ci := 5) rfl, fun _ h => h⟩ (sg_nil)
theorem sg5_114 {G : gG} : Sg G 114 115 (eX5 G (G.2.2.1 + 95 + 19)) := sg_cons ⟨gci (ci := 5) rfl, fun _ h => h⟩ (sg_nil)
theorem sg5_115 {G : gG} : Sg G 115 116 (eX5 G (G.2.2.1 + 95 + 20)) := sg_cons ⟨gci (ci := 5) rfl, fun _ h => h⟩ (sg_nil)
theorem sg7_95 {G : gG} : Sg G 95 116 (eX7 G (G.2.2.1 + 95) (G.2.2.1 + 93)) := sg_app (sg_app (sg_app (sg_app (sg_app (sg_app (sg_app (sg_cons ⟨gci (ci := 7) rfl, fun _ h => h⟩ (sg_cons ⟨inl_ne, at_refs (fun j hj => match j, hj with | 0, _ => rfl | 1, _ => rfl | 2, _ => rfl | 3, _ => rfl | j + 4, hj => absurd hj (by omega))⟩ (sg_cons ⟨inl_ne, at_refs (fun j hj => match j, hj with | 0, _ => rfl | 1, _ => rfl | 2, _ => rfl | j + 3, hj => absurd hj (by omega))⟩ (sg_cons ⟨inl_ne, fun _ h => h⟩ (sg_cons ⟨inl_ne, fun _ h => h⟩ (sg_cons ⟨inl_ne, fun _ h => h⟩ (sg_nil))))))) sg8_101) sg8_104) sg8_107) sg8_110) sg5_113) sg5_114) sg5_115
theorem sg8_122 {G : gG} : Sg G 122 125 (eX8 G (G.2.2.1 + 116 + 6)) := sg_cons ⟨gci (ci := 8) rfl, fun _ h => h⟩ (sg_cons ⟨inl_ne, fun _ h => h⟩ (sg_cons ⟨inl_ne, fun _ h => h⟩ (sg_nil)))
theorem sg8_125 {G : gG} : Sg G 125 128 (eX8 G (G.2.2.1 + 116 + 9)) := sg_cons ⟨gci (ci := 8) rfl, fun _ h => h⟩ (sg_cons ⟨inl_ne, fun _ h => h⟩ (sg_cons ⟨inl_ne, fun _ h => h⟩ (sg_nil)))
theorem sg8_128 {G : gG} : Sg G 128 131 (eX8 G (G.2.2.1 + 116 + 12)) := sg_cons ⟨gci (ci := 8) rfl, fun _ h => h⟩ (sg_cons ⟨inl_ne, fun _ h => h⟩ (sg_cons ⟨inl_ne, fun _ h => h⟩ (sg_nil)))
theorem sg8_131 {G : gG} : Sg G 131 134 (eX8 G (G.2.2.1 + 116 + 15)) := sg_cons ⟨gci (ci := 8) rfl, fun _ h => h⟩ (sg_cons ⟨inl_ne, fun _ h => h⟩ (sg_cons ⟨inl_ne, fun _ h => h⟩ (sg_nil)))
theorem sg5_134 {G : gG} : Sg G 134 135 (eX5 G (G.2.2.1 + 116 + 18)) := sg_cons ⟨gci (ci := 5) rfl, fun _ h => h⟩ (sg_nil)
theorem sg5_135 {G : gG} : Sg G 135 136 (eX5 G (G.2.2.1 + 116 + 19)) := sg_cons ⟨gci (ci := 5) rfl, fun _ h => h⟩ (sg_nil)
theorem sg5_136 {G : gG} : Sg G 136 137 (eX5 G (G.2.2.1 + 116 + 20)) := sg_cons ⟨gci (ci := 5) rfl, fun _ h => h⟩ (sg_nil)
theorem sg7_116 {G : gG} : Sg G 116 137 (eX7 G (G.2.2.1 + 116) (G.2.2.1 + 93)) := sg_app (sg_app (sg_app (sg_app (sg_app (sg_app (sg_app (sg_cons ⟨gci (ci := 7) rfl, fun _ h => h⟩ (sg_cons ⟨inl_ne, at_refs (fun j hj => match j, hj with | 0, _ => rfl | 1, _ => rfl | 2, _ => rfl | 3, _ => rfl | j + 4, hj => absurd hj (by omega))⟩ (sg_cons ⟨inl_ne, at_refs (fun j hj => match j, hj with | 0, _ => rfl | 1, _ => rfl | 2, _ => rfl | j + 3, hj => absurd hj (by omega))⟩ (sg_cons ⟨inl_ne, fun _ h => h⟩ (sg_cons ⟨inl_ne, fun _ h => h⟩ (sg_cons ⟨inl_ne, fun _ h => h⟩ (sg_nil))))))) sg8_122) sg8_125) sg8_128) sg8_131) sg5_134) sg5_135) sg5_136
theorem sg9 {G : gG} : Sg G 0 153 (eX9 G G.2.2.1) := sg_cons ⟨gci (ci := 9) rfl, fun _ h => h⟩ (sg_app (sg_app (sg_app (sg_app (sg_app (sg_app (sg_app (sg_app (sg_app (sg_app (sg_app (sg_app (sg_app (sg_app (sg_app (sg_nil) (sg_cons ⟨inl_ne, fun _ h => h⟩ (sg_nil))) sg6_2) sg6_10) sg0_18) (sg_cons ⟨inl_ne, at_refs (fun j hj => match j, hj with | 0, _ => rfl | 1, _ => rfl | j + 2, hj => absurd hj (by omega))⟩ (sg_nil))) (sg_cons ⟨inl_ne, fun _ h => h⟩ (sg_nil))) sg2_86) sg1_88) (sg_cons ⟨inl_ne, fun _ h => h⟩ (sg_nil))) (sg_cons ⟨inl_ne, fun _ h => h⟩ (sg_nil))) sg4_93) sg7_95) sg7_116) sg6_137) sg6_145)
theorem sgT {G : gG} : Sg G 0 153 (lT G) := sg9
theorem lat_all (G : gG) (o : Nat) (ho : o < 153) : lOk G o ((lT G).getD o gj) := by
  have h := (sgT (G := G)).2 o (by have := (sgT (G := G)).1; omega)
  rw [Nat.zero_add] at h
  exact h
theorem lyC_end (o : Nat) (ho : 153 ≤ o) : lyC o = (99, 0) := if_neg (by omega)
theorem lT_swap (G : gG) (f : gF) (a : Nat) : fO G lE0 lI0 lJ0 lK0 lJ0 a = gj ∨ (fA G.2.2.1 f (lT G) a ≠ gj ∧ ∀ H, va_at G.2.1 vwCl (a, fA G.2.2.1 f (lT G) a) H → va_at G.2.1 vwCl (a, fO G lE0 lI0 lJ0 lK0 lJ0 a) H) := by
  by_cases h : a < G.2.2.1
  · left
    unfold fO
    rw [if_pos h]
  · obtain ⟨o, rfl⟩ : ∃ o, a = G.2.2.1 + o := ⟨a - G.2.2.1, by omega⟩
    rw [fA_at, fO_at]
    by_cases ho : o < 153
    · exact Or.inr (lat_all G o ho)
    · left
      unfold cO
      rw [show lE0.1 o = (99, 0) from lyC_end o (by omega)]
      rfl
