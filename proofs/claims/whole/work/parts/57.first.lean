/-! THE FIRST MEMORY -/
def lE0 : gE := (lay0, 95, 116, fun _ _ => 0)
def lI0 : gI := fun o i => match o with | 0 => (if i = 3 then -1 else 0) | 94 => pt 640 i | 95 => (if i = 1 then 1 else if i = 2 then 1 else if i = 4 then -1 else 0) | 116 => (if i = 1 then 1 else if i = 2 then 1 else if i = 4 then -1 else 0) | 101 => (if i = 0 then 50 else if i = 1 then 2 else 0) | 104 => (if i = 0 then 50 else if i = 1 then 2 else 0) | 107 => (if i = 0 then 50 else if i = 1 then 2 else 0) | 110 => (if i = 0 then 50 else if i = 1 then 2 else 0) | 122 => (if i = 0 then 50 else if i = 1 then 2 else 0) | 125 => (if i = 0 then 50 else if i = 1 then 2 else 0) | 128 => (if i = 0 then 50 else if i = 1 then 2 else 0) | 131 => (if i = 0 then 50 else if i = 1 then 2 else 0) | _ => 0
def lK0 : gI := fun o i => match o with | 153 => (if i = 6 then -1 else 0) | _ => 0
def lJ0 : gJ := fun _ _ => 0
def lT (G : gG) : List va_E := (eX9 G G.2.2.1 ++ eX10 G (G.2.2.1 + 153)) ++ [.inl (G.2.1.1 103, 1, .inr (.inl (fun _ => 0)))] ++ [.inl (G.2.1.1 104, 1, .inr (.inr (.inr (.inl (fun _ => 0)))))]
abbrev lAt (G : gG) (o : Nat) : Prop := (lT G).getD o gj ≠ gj ∧ ∀ H, va_at G.2.1 vwCl (G.2.2.1 + o, (lT G).getD o gj) H → va_at G.2.1 vwCl (G.2.2.1 + o, cO G lE0 lI0 lJ0 lK0 lJ0 o) H
theorem at_refs {D : va_G} {a n : Nat} {cA : ClassId} {f g : Nat → Option Nat} (h : ∀ j, j < n → f j = g j) (H : Heap) (h1 : va_at D vwCl (a, .inl (cA, n, .inr (.inr (.inr (.inr f))))) H) : va_at D vwCl (a, .inl (cA, n, .inr (.inr (.inr (.inr g))))) H := by
  have e : (fun j : Fin n => va_rf (f j.val)) = (fun j : Fin n => va_rf (g j.val)) := funext fun j => by rw [h _ j.isLt]
  have h2 : H[a]? = some ({ cls := cA, slots := Array.ofFn (n := n) (fun j => va_rf (f j.val)), vm := .none } : Cell) := h1
  rw [e] at h2
  exact h2
theorem lat_0 (G : gG) : lAt G 0 := ⟨gci (ci := 9) rfl, fun _ h => h⟩
theorem lat_1 (G : gG) : lAt G 1 := ⟨fun h => by cases h, fun _ h => h⟩
theorem lat_2 (G : gG) : lAt G 2 := ⟨gci (ci := 6) rfl, fun _ h => h⟩
theorem lat_3 (G : gG) : lAt G 3 := ⟨fun h => by cases h, fun _ h => h⟩
theorem lat_4 (G : gG) : lAt G 4 := ⟨fun h => by cases h, fun _ h => h⟩
theorem lat_5 (G : gG) : lAt G 5 := ⟨fun h => by cases h, fun _ h => h⟩
theorem lat_6 (G : gG) : lAt G 6 := ⟨fun h => by cases h, fun _ h => h⟩
theorem lat_7 (G : gG) : lAt G 7 := ⟨fun h => by cases h, fun _ h => h⟩
theorem lat_8 (G : gG) : lAt G 8 := ⟨fun h => by cases h, fun _ h => h⟩
theorem lat_9 (G : gG) : lAt G 9 := ⟨fun h => by cases h, fun _ h => h⟩
theorem lat_10 (G : gG) : lAt G 10 := ⟨gci (ci := 6) rfl, fun _ h => h⟩
theorem lat_11 (G : gG) : lAt G 11 := ⟨fun h => by cases h, fun _ h => h⟩
theorem lat_12 (G : gG) : lAt G 12 := ⟨fun h => by cases h, fun _ h => h⟩
theorem lat_13 (G : gG) : lAt G 13 := ⟨fun h => by cases h, fun _ h => h⟩
theorem lat_14 (G : gG) : lAt G 14 := ⟨fun h => by cases h, fun _ h => h⟩
theorem lat_15 (G : gG) : lAt G 15 := ⟨fun h => by cases h, fun _ h => h⟩
theorem lat_16 (G : gG) : lAt G 16 := ⟨fun h => by cases h, fun _ h => h⟩
theorem lat_17 (G : gG) : lAt G 17 := ⟨fun h => by cases h, fun _ h => h⟩
theorem lat_18 (G : gG) : lAt G 18 := ⟨gci (ci := 0) rfl, fun _ h => h⟩
theorem lat_19 (G : gG) : lAt G 19 := ⟨fun h => by cases h, at_refs (fun j hj => match j, hj with | 0, _ => rfl | 1, _ => rfl | 2, _ => rfl | 3, _ => rfl | 4, _ => rfl | 5, _ => rfl | 6, _ => rfl | 7, _ => rfl | j + 8, hj => absurd hj (by omega))⟩
theorem lat_20 (G : gG) : lAt G 20 := ⟨gci (ci := 6) rfl, fun _ h => h⟩
theorem lat_21 (G : gG) : lAt G 21 := ⟨fun h => by cases h, fun _ h => h⟩
theorem lat_22 (G : gG) : lAt G 22 := ⟨fun h => by cases h, fun _ h => h⟩
theorem lat_23 (G : gG) : lAt G 23 := ⟨fun h => by cases h, fun _ h => h⟩
theorem lat_24 (G : gG) : lAt G 24 := ⟨fun h => by cases h, fun _ h => h⟩
theorem lat_25 (G : gG) : lAt G 25 := ⟨fun h => by cases h, fun _ h => h⟩
theorem lat_26 (G : gG) : lAt G 26 := ⟨fun h => by cases h, fun _ h => h⟩
theorem lat_27 (G : gG) : lAt G 27 := ⟨fun h => by cases h, fun _ h => h⟩
theorem lat_28 (G : gG) : lAt G 28 := ⟨gci (ci := 6) rfl, fun _ h => h⟩
theorem lat_29 (G : gG) : lAt G 29 := ⟨fun h => by cases h, fun _ h => h⟩
theorem lat_30 (G : gG) : lAt G 30 := ⟨fun h => by cases h, fun _ h => h⟩
theorem lat_31 (G : gG) : lAt G 31 := ⟨fun h => by cases h, fun _ h => h⟩
theorem lat_32 (G : gG) : lAt G 32 := ⟨fun h => by cases h, fun _ h => h⟩
theorem lat_33 (G : gG) : lAt G 33 := ⟨fun h => by cases h, fun _ h => h⟩
theorem lat_34 (G : gG) : lAt G 34 := ⟨fun h => by cases h, fun _ h => h⟩
theorem lat_35 (G : gG) : lAt G 35 := ⟨fun h => by cases h, fun _ h => h⟩
theorem lat_36 (G : gG) : lAt G 36 := ⟨gci (ci := 6) rfl, fun _ h => h⟩
theorem lat_37 (G : gG) : lAt G 37 := ⟨fun h => by cases h, fun _ h => h⟩
theorem lat_38 (G : gG) : lAt G 38 := ⟨fun h => by cases h, fun _ h => h⟩
theorem lat_39 (G : gG) : lAt G 39 := ⟨fun h => by cases h, fun _ h => h⟩
theorem lat_40 (G : gG) : lAt G 40 := ⟨fun h => by cases h, fun _ h => h⟩
theorem lat_41 (G : gG) : lAt G 41 := ⟨fun h => by cases h, fun _ h => h⟩
theorem lat_42 (G : gG) : lAt G 42 := ⟨fun h => by cases h, fun _ h => h⟩
theorem lat_43 (G : gG) : lAt G 43 := ⟨fun h => by cases h, fun _ h => h⟩
theorem lat_44 (G : gG) : lAt G 44 := ⟨gci (ci := 6) rfl, fun _ h => h⟩
theorem lat_45 (G : gG) : lAt G 45 := ⟨fun h => by cases h, fun _ h => h⟩
theorem lat_46 (G : gG) : lAt G 46 := ⟨fun h => by cases h, fun _ h => h⟩
theorem lat_47 (G : gG) : lAt G 47 := ⟨fun h => by cases h, fun _ h => h⟩
theorem lat_48 (G : gG) : lAt G 48 := ⟨fun h => by cases h, fun _ h => h⟩
theorem lat_49 (G : gG) : lAt G 49 := ⟨fun h => by cases h, fun _ h => h⟩
theorem lat_50 (G : gG) : lAt G 50 := ⟨fun h => by cases h, fun _ h => h⟩
theorem lat_51 (G : gG) : lAt G 51 := ⟨fun h => by cases h, fun _ h => h⟩
theorem lat_52 (G : gG) : lAt G 52 := ⟨gci (ci := 6) rfl, fun _ h => h⟩
theorem lat_53 (G : gG) : lAt G 53 := ⟨fun h => by cases h, fun _ h => h⟩
theorem lat_54 (G : gG) : lAt G 54 := ⟨fun h => by cases h, fun _ h => h⟩
theorem lat_55 (G : gG) : lAt G 55 := ⟨fun h => by cases h, fun _ h => h⟩
theorem lat_56 (G : gG) : lAt G 56 := ⟨fun h => by cases h, fun _ h => h⟩
theorem lat_57 (G : gG) : lAt G 57 := ⟨fun h => by cases h, fun _ h => h⟩
theorem lat_58 (G : gG) : lAt G 58 := ⟨fun h => by cases h, fun _ h => h⟩
theorem lat_59 (G : gG) : lAt G 59 := ⟨fun h => by cases h, fun _ h => h⟩
theorem lat_60 (G : gG) : lAt G 60 := ⟨gci (ci := 6) rfl, fun _ h => h⟩
theorem lat_61 (G : gG) : lAt G 61 := ⟨fun h => by cases h, fun _ h => h⟩
theorem lat_62 (G : gG) : lAt G 62 := ⟨fun h => by cases h, fun _ h => h⟩
theorem lat_63 (G : gG) : lAt G 63 := ⟨fun h => by cases h, fun _ h => h⟩
theorem lat_64 (G : gG) : lAt G 64 := ⟨fun h => by cases h, fun _ h => h⟩
theorem lat_65 (G : gG) : lAt G 65 := ⟨fun h => by cases h, fun _ h => h⟩
theorem lat_66 (G : gG) : lAt G 66 := ⟨fun h => by cases h, fun _ h => h⟩
theorem lat_67 (G : gG) : lAt G 67 := ⟨fun h => by cases h, fun _ h => h⟩
theorem lat_68 (G : gG) : lAt G 68 := ⟨gci (ci := 6) rfl, fun _ h => h⟩
theorem lat_69 (G : gG) : lAt G 69 := ⟨fun h => by cases h, fun _ h => h⟩
theorem lat_70 (G : gG) : lAt G 70 := ⟨fun h => by cases h, fun _ h => h⟩
theorem lat_71 (G : gG) : lAt G 71 := ⟨fun h => by cases h, fun _ h => h⟩
theorem lat_72 (G : gG) : lAt G 72 := ⟨fun h => by cases h, fun _ h => h⟩
theorem lat_73 (G : gG) : lAt G 73 := ⟨fun h => by cases h, fun _ h => h⟩
theorem lat_74 (G : gG) : lAt G 74 := ⟨fun h => by cases h, fun _ h => h⟩
theorem lat_75 (G : gG) : lAt G 75 := ⟨fun h => by cases h, fun _ h => h⟩
theorem lat_76 (G : gG) : lAt G 76 := ⟨gci (ci := 6) rfl, fun _ h => h⟩
theorem lat_77 (G : gG) : lAt G 77 := ⟨fun h => by cases h, fun _ h => h⟩
theorem lat_78 (G : gG) : lAt G 78 := ⟨fun h => by cases h, fun _ h => h⟩
theorem lat_79 (G : gG) : lAt G 79 := ⟨fun h => by cases h, fun _ h => h⟩
theorem lat_80 (G : gG) : lAt G 80 := ⟨fun h => by cases h, fun _ h => h⟩
theorem lat_81 (G : gG) : lAt G 81 := ⟨fun h => by cases h, fun _ h => h⟩
theorem lat_82 (G : gG) : lAt G 82 := ⟨fun h => by cases h, fun _ h => h⟩
theorem lat_83 (G : gG) : lAt G 83 := ⟨fun h => by cases h, fun _ h => h⟩
theorem lat_84 (G : gG) : lAt G 84 := ⟨fun h => by cases h, at_refs (fun j hj => match j, hj with | 0, _ => rfl | 1, _ => rfl | j + 2, hj => absurd hj (by omega))⟩
theorem lat_85 (G : gG) : lAt G 85 := ⟨fun h => by cases h, fun _ h => h⟩
theorem lat_86 (G : gG) : lAt G 86 := ⟨gci (ci := 2) rfl, fun _ h => h⟩
theorem lat_87 (G : gG) : lAt G 87 := ⟨fun h => by cases h, fun _ h => h⟩
theorem lat_88 (G : gG) : lAt G 88 := ⟨gci (ci := 1) rfl, fun _ h => h⟩
theorem lat_89 (G : gG) : lAt G 89 := ⟨fun h => by cases h, fun _ h => h⟩
theorem lat_90 (G : gG) : lAt G 90 := ⟨fun h => by cases h, fun _ h => h⟩
theorem lat_91 (G : gG) : lAt G 91 := ⟨fun h => by cases h, fun _ h => h⟩
theorem lat_92 (G : gG) : lAt G 92 := ⟨fun h => by cases h, fun _ h => h⟩
theorem lat_93 (G : gG) : lAt G 93 := ⟨gci (ci := 4) rfl, fun _ h => h⟩
theorem lat_94 (G : gG) : lAt G 94 := ⟨fun h => by cases h, fun _ h => h⟩
theorem lat_95 (G : gG) : lAt G 95 := ⟨gci (ci := 7) rfl, fun _ h => h⟩
theorem lat_96 (G : gG) : lAt G 96 := ⟨fun h => by cases h, at_refs (fun j hj => match j, hj with | 0, _ => rfl | 1, _ => rfl | 2, _ => rfl | 3, _ => rfl | j + 4, hj => absurd hj (by omega))⟩
theorem lat_97 (G : gG) : lAt G 97 := ⟨fun h => by cases h, at_refs (fun j hj => match j, hj with | 0, _ => rfl | 1, _ => rfl | 2, _ => rfl | j + 3, hj => absurd hj (by omega))⟩
theorem lat_98 (G : gG) : lAt G 98 := ⟨fun h => by cases h, fun _ h => h⟩
theorem lat_99 (G : gG) : lAt G 99 := ⟨fun h => by cases h, fun _ h => h⟩
theorem lat_100 (G : gG) : lAt G 100 := ⟨fun h => by cases h, fun _ h => h⟩
theorem lat_101 (G : gG) : lAt G 101 := ⟨gci (ci := 8) rfl, fun _ h => h⟩
theorem lat_102 (G : gG) : lAt G 102 := ⟨fun h => by cases h, fun _ h => h⟩
theorem lat_103 (G : gG) : lAt G 103 := ⟨fun h => by cases h, fun _ h => h⟩
theorem lat_104 (G : gG) : lAt G 104 := ⟨gci (ci := 8) rfl, fun _ h => h⟩
theorem lat_105 (G : gG) : lAt G 105 := ⟨fun h => by cases h, fun _ h => h⟩
theorem lat_106 (G : gG) : lAt G 106 := ⟨fun h => by cases h, fun _ h => h⟩
theorem lat_107 (G : gG) : lAt G 107 := ⟨gci (ci := 8) rfl, fun _ h => h⟩
theorem lat_108 (G : gG) : lAt G 108 := ⟨fun h => by cases h, fun _ h => h⟩
theorem lat_109 (G : gG) : lAt G 109 := ⟨fun h => by cases h, fun _ h => h⟩
theorem lat_110 (G : gG) : lAt G 110 := ⟨gci (ci := 8) rfl, fun _ h => h⟩
theorem lat_111 (G : gG) : lAt G 111 := ⟨fun h => by cases h, fun _ h => h⟩
theorem lat_112 (G : gG) : lAt G 112 := ⟨fun h => by cases h, fun _ h => h⟩
theorem lat_113 (G : gG) : lAt G 113 := ⟨gci (ci := 5) rfl, fun _ h => h⟩
theorem lat_114 (G : gG) : lAt G 114 := ⟨gci (ci := 5) rfl, fun _ h => h⟩
theorem lat_115 (G : gG) : lAt G 115 := ⟨gci (ci := 5) rfl, fun _ h => h⟩
theorem lat_116 (G : gG) : lAt G 116 := ⟨gci (ci := 7) rfl, fun _ h => h⟩
theorem lat_117 (G : gG) : lAt G 117 := ⟨fun h => by cases h, at_refs (fun j hj => match j, hj with | 0, _ => rfl | 1, _ => rfl | 2, _ => rfl | 3, _ => rfl | j + 4, hj => absurd hj (by omega))⟩
theorem lat_118 (G : gG) : lAt G 118 := ⟨fun h => by cases h, at_refs (fun j hj => match j, hj with | 0, _ => rfl | 1, _ => rfl | 2, _ => rfl | j + 3, hj => absurd hj (by omega))⟩
theorem lat_119 (G : gG) : lAt G 119 := ⟨fun h => by cases h, fun _ h => h⟩
theorem lat_120 (G : gG) : lAt G 120 := ⟨fun h => by cases h, fun _ h => h⟩
theorem lat_121 (G : gG) : lAt G 121 := ⟨fun h => by cases h, fun _ h => h⟩
theorem lat_122 (G : gG) : lAt G 122 := ⟨gci (ci := 8) rfl, fun _ h => h⟩
theorem lat_123 (G : gG) : lAt G 123 := ⟨fun h => by cases h, fun _ h => h⟩
theorem lat_124 (G : gG) : lAt G 124 := ⟨fun h => by cases h, fun _ h => h⟩
theorem lat_125 (G : gG) : lAt G 125 := ⟨gci (ci := 8) rfl, fun _ h => h⟩
theorem lat_126 (G : gG) : lAt G 126 := ⟨fun h => by cases h, fun _ h => h⟩
theorem lat_127 (G : gG) : lAt G 127 := ⟨fun h => by cases h, fun _ h => h⟩
theorem lat_128 (G : gG) : lAt G 128 := ⟨gci (ci := 8) rfl, fun _ h => h⟩
theorem lat_129 (G : gG) : lAt G 129 := ⟨fun h => by cases h, fun _ h => h⟩
theorem lat_130 (G : gG) : lAt G 130 := ⟨fun h => by cases h, fun _ h => h⟩
theorem lat_131 (G : gG) : lAt G 131 := ⟨gci (ci := 8) rfl, fun _ h => h⟩
theorem lat_132 (G : gG) : lAt G 132 := ⟨fun h => by cases h, fun _ h => h⟩
theorem lat_133 (G : gG) : lAt G 133 := ⟨fun h => by cases h, fun _ h => h⟩
theorem lat_134 (G : gG) : lAt G 134 := ⟨gci (ci := 5) rfl, fun _ h => h⟩
theorem lat_135 (G : gG) : lAt G 135 := ⟨gci (ci := 5) rfl, fun _ h => h⟩
theorem lat_136 (G : gG) : lAt G 136 := ⟨gci (ci := 5) rfl, fun _ h => h⟩
theorem lat_137 (G : gG) : lAt G 137 := ⟨gci (ci := 6) rfl, fun _ h => h⟩
theorem lat_138 (G : gG) : lAt G 138 := ⟨fun h => by cases h, fun _ h => h⟩
theorem lat_139 (G : gG) : lAt G 139 := ⟨fun h => by cases h, fun _ h => h⟩
theorem lat_140 (G : gG) : lAt G 140 := ⟨fun h => by cases h, fun _ h => h⟩
theorem lat_141 (G : gG) : lAt G 141 := ⟨fun h => by cases h, fun _ h => h⟩
theorem lat_142 (G : gG) : lAt G 142 := ⟨fun h => by cases h, fun _ h => h⟩
theorem lat_143 (G : gG) : lAt G 143 := ⟨fun h => by cases h, fun _ h => h⟩
theorem lat_144 (G : gG) : lAt G 144 := ⟨fun h => by cases h, fun _ h => h⟩
theorem lat_145 (G : gG) : lAt G 145 := ⟨gci (ci := 6) rfl, fun _ h => h⟩
theorem lat_146 (G : gG) : lAt G 146 := ⟨fun h => by cases h, fun _ h => h⟩
theorem lat_147 (G : gG) : lAt G 147 := ⟨fun h => by cases h, fun _ h => h⟩
theorem lat_148 (G : gG) : lAt G 148 := ⟨fun h => by cases h, fun _ h => h⟩
theorem lat_149 (G : gG) : lAt G 149 := ⟨fun h => by cases h, fun _ h => h⟩
theorem lat_150 (G : gG) : lAt G 150 := ⟨fun h => by cases h, fun _ h => h⟩
theorem lat_151 (G : gG) : lAt G 151 := ⟨fun h => by cases h, fun _ h => h⟩
theorem lat_152 (G : gG) : lAt G 152 := ⟨fun h => by cases h, fun _ h => h⟩
theorem lat_153 (G : gG) : lAt G 153 := ⟨gci (ci := 10) rfl, fun _ h => h⟩
theorem lat_154 (G : gG) : lAt G 154 := ⟨fun h => by cases h, fun _ h => h⟩
theorem lat_155 (G : gG) : lAt G 155 := ⟨fun h => by cases h, fun _ h => h⟩
theorem lat_156 (G : gG) : lAt G 156 := ⟨fun h => by cases h, fun _ h => h⟩
theorem lat_157 (G : gG) : lAt G 157 := ⟨fun h => by cases h, fun _ h => h⟩
theorem lat_158 (G : gG) : lAt G 158 := ⟨fun h => by cases h, fun _ h => h⟩
theorem lat_159 (G : gG) : lAt G 159 := ⟨fun h => by cases h, fun _ h => h⟩
theorem lat_160 (G : gG) : lAt G 160 := ⟨fun h => by cases h, fun _ h => h⟩
theorem lat_161 (G : gG) : lAt G 161 := ⟨fun h => by cases h, fun _ h => h⟩
theorem lat_162 (G : gG) : lAt G 162 := ⟨fun h => by cases h, fun _ h => h⟩
theorem lat_163 (G : gG) : lAt G 163 := ⟨fun h => by cases h, fun _ h => h⟩
theorem lat_164 (G : gG) : lAt G 164 := ⟨fun h => by cases h, fun _ h => h⟩
theorem lat_165 (G : gG) : lAt G 165 := ⟨fun h => by cases h, fun _ h => h⟩
theorem lat_166 (G : gG) : lAt G 166 := ⟨fun h => by cases h, fun _ h => h⟩
theorem lat_167 (G : gG) : lAt G 167 := ⟨fun h => by cases h, fun _ h => h⟩
theorem lat_168 (G : gG) : lAt G 168 := ⟨fun h => by cases h, fun _ h => h⟩
theorem lat_169 (G : gG) : lAt G 169 := ⟨fun h => by cases h, fun _ h => h⟩
theorem lat_170 (G : gG) : lAt G 170 := ⟨fun h => by cases h, fun _ h => h⟩
theorem lat_171 (G : gG) : lAt G 171 := ⟨fun h => by cases h, fun _ h => h⟩
theorem lat_all (G : gG) : ∀ o, o < 172 → lAt G o := by
  intro o ho
  match o, ho with
  | 0, _ => exact lat_0 G
  | 1, _ => exact lat_1 G
  | 2, _ => exact lat_2 G
  | 3, _ => exact lat_3 G
  | 4, _ => exact lat_4 G
  | 5, _ => exact lat_5 G
  | 6, _ => exact lat_6 G
  | 7, _ => exact lat_7 G
  | 8, _ => exact lat_8 G
  | 9, _ => exact lat_9 G
  | 10, _ => exact lat_10 G
  | 11, _ => exact lat_11 G
  | 12, _ => exact lat_12 G
  | 13, _ => exact lat_13 G
  | 14, _ => exact lat_14 G
  | 15, _ => exact lat_15 G
  | 16, _ => exact lat_16 G
  | 17, _ => exact lat_17 G
  | 18, _ => exact lat_18 G
  | 19, _ => exact lat_19 G
  | 20, _ => exact lat_20 G
  | 21, _ => exact lat_21 G
  | 22, _ => exact lat_22 G
  | 23, _ => exact lat_23 G
  | 24, _ => exact lat_24 G
  | 25, _ => exact lat_25 G
  | 26, _ => exact lat_26 G
  | 27, _ => exact lat_27 G
  | 28, _ => exact lat_28 G
  | 29, _ => exact lat_29 G
  | 30, _ => exact lat_30 G
  | 31, _ => exact lat_31 G
  | 32, _ => exact lat_32 G
  | 33, _ => exact lat_33 G
  | 34, _ => exact lat_34 G
  | 35, _ => exact lat_35 G
  | 36, _ => exact lat_36 G
  | 37, _ => exact lat_37 G
  | 38, _ => exact lat_38 G
  | 39, _ => exact lat_39 G
  | 40, _ => exact lat_40 G
  | 41, _ => exact lat_41 G
  | 42, _ => exact lat_42 G
  | 43, _ => exact lat_43 G
  | 44, _ => exact lat_44 G
  | 45, _ => exact lat_45 G
  | 46, _ => exact lat_46 G
  | 47, _ => exact lat_47 G
  | 48, _ => exact lat_48 G
  | 49, _ => exact lat_49 G
  | 50, _ => exact lat_50 G
  | 51, _ => exact lat_51 G
  | 52, _ => exact lat_52 G
  | 53, _ => exact lat_53 G
  | 54, _ => exact lat_54 G
  | 55, _ => exact lat_55 G
  | 56, _ => exact lat_56 G
  | 57, _ => exact lat_57 G
  | 58, _ => exact lat_58 G
  | 59, _ => exact lat_59 G
  | 60, _ => exact lat_60 G
  | 61, _ => exact lat_61 G
  | 62, _ => exact lat_62 G
  | 63, _ => exact lat_63 G
  | 64, _ => exact lat_64 G
  | 65, _ => exact lat_65 G
  | 66, _ => exact lat_66 G
  | 67, _ => exact lat_67 G
  | 68, _ => exact lat_68 G
  | 69, _ => exact lat_69 G
  | 70, _ => exact lat_70 G
  | 71, _ => exact lat_71 G
  | 72, _ => exact lat_72 G
  | 73, _ => exact lat_73 G
  | 74, _ => exact lat_74 G
  | 75, _ => exact lat_75 G
  | 76, _ => exact lat_76 G
  | 77, _ => exact lat_77 G
  | 78, _ => exact lat_78 G
  | 79, _ => exact lat_79 G
  | 80, _ => exact lat_80 G
  | 81, _ => exact lat_81 G
  | 82, _ => exact lat_82 G
  | 83, _ => exact lat_83 G
  | 84, _ => exact lat_84 G
  | 85, _ => exact lat_85 G
  | 86, _ => exact lat_86 G
  | 87, _ => exact lat_87 G
  | 88, _ => exact lat_88 G
  | 89, _ => exact lat_89 G
  | 90, _ => exact lat_90 G
  | 91, _ => exact lat_91 G
  | 92, _ => exact lat_92 G
  | 93, _ => exact lat_93 G
  | 94, _ => exact lat_94 G
  | 95, _ => exact lat_95 G
  | 96, _ => exact lat_96 G
  | 97, _ => exact lat_97 G
  | 98, _ => exact lat_98 G
  | 99, _ => exact lat_99 G
  | 100, _ => exact lat_100 G
  | 101, _ => exact lat_101 G
  | 102, _ => exact lat_102 G
  | 103, _ => exact lat_103 G
  | 104, _ => exact lat_104 G
  | 105, _ => exact lat_105 G
  | 106, _ => exact lat_106 G
  | 107, _ => exact lat_107 G
  | 108, _ => exact lat_108 G
  | 109, _ => exact lat_109 G
  | 110, _ => exact lat_110 G
  | 111, _ => exact lat_111 G
  | 112, _ => exact lat_112 G
  | 113, _ => exact lat_113 G
  | 114, _ => exact lat_114 G
  | 115, _ => exact lat_115 G
  | 116, _ => exact lat_116 G
  | 117, _ => exact lat_117 G
  | 118, _ => exact lat_118 G
  | 119, _ => exact lat_119 G
  | 120, _ => exact lat_120 G
  | 121, _ => exact lat_121 G
  | 122, _ => exact lat_122 G
  | 123, _ => exact lat_123 G
  | 124, _ => exact lat_124 G
  | 125, _ => exact lat_125 G
  | 126, _ => exact lat_126 G
  | 127, _ => exact lat_127 G
  | 128, _ => exact lat_128 G
  | 129, _ => exact lat_129 G
  | 130, _ => exact lat_130 G
  | 131, _ => exact lat_131 G
  | 132, _ => exact lat_132 G
  | 133, _ => exact lat_133 G
  | 134, _ => exact lat_134 G
  | 135, _ => exact lat_135 G
  | 136, _ => exact lat_136 G
  | 137, _ => exact lat_137 G
  | 138, _ => exact lat_138 G
  | 139, _ => exact lat_139 G
  | 140, _ => exact lat_140 G
  | 141, _ => exact lat_141 G
  | 142, _ => exact lat_142 G
  | 143, _ => exact lat_143 G
  | 144, _ => exact lat_144 G
  | 145, _ => exact lat_145 G
  | 146, _ => exact lat_146 G
  | 147, _ => exact lat_147 G
  | 148, _ => exact lat_148 G
  | 149, _ => exact lat_149 G
  | 150, _ => exact lat_150 G
  | 151, _ => exact lat_151 G
  | 152, _ => exact lat_152 G
  | 153, _ => exact lat_153 G
  | 154, _ => exact lat_154 G
  | 155, _ => exact lat_155 G
  | 156, _ => exact lat_156 G
  | 157, _ => exact lat_157 G
  | 158, _ => exact lat_158 G
  | 159, _ => exact lat_159 G
  | 160, _ => exact lat_160 G
  | 161, _ => exact lat_161 G
  | 162, _ => exact lat_162 G
  | 163, _ => exact lat_163 G
  | 164, _ => exact lat_164 G
  | 165, _ => exact lat_165 G
  | 166, _ => exact lat_166 G
  | 167, _ => exact lat_167 G
  | 168, _ => exact lat_168 G
  | 169, _ => exact lat_169 G
  | 170, _ => exact lat_170 G
  | 171, _ => exact lat_171 G
  | o + 172, ho => exact absurd ho (by omega)
theorem lay0_end : gEnd lay0 := by
  intro o ho
  have h : lay0L.length = 172 := by decide
  unfold lay0
  rw [List.getD_eq_getElem?_getD, List.getElem?_eq_none (by omega)]
  rfl
theorem lay0_lay : gLay lay0 := fun _ _ => rfl
theorem lT_swap (G : gG) (f : gF) (a : Nat) : fO G lE0 lI0 lJ0 lK0 lJ0 a = gj ∨ (fA G.2.2.1 f (lT G) a ≠ gj ∧ ∀ H, va_at G.2.1 vwCl (a, fA G.2.2.1 f (lT G) a) H → va_at G.2.1 vwCl (a, fO G lE0 lI0 lJ0 lK0 lJ0 a) H) := by
  by_cases h : a < G.2.2.1
  · left
    unfold fO
    rw [if_pos h]
  · obtain ⟨o, rfl⟩ : ∃ o, a = G.2.2.1 + o := ⟨a - G.2.2.1, by omega⟩
    rw [fA_at, fO_at]
    by_cases ho : o < 172
    · exact Or.inr (lat_all G o ho)
    · left
      unfold cO
      rw [show lE0.1 o = (99, 0) from lay0_end o (by omega)]
      rfl
theorem lRel : Rel 95 116 lI0 lK0 := by
  have hru : RU lI0 := by
    intro x y hx hy
    show pt 640 (20 * x + y) = dst x y
    unfold pt
    rw [if_pos (by omega), show (20 * x + y) / 20 = x by omega, show (20 * x + y) % 20 = y by omega]
  refine Rel.mk (Or.inl ⟨rfl, rfl⟩) rfl ⟨by decide, by decide⟩ ?_ ?_ rfl rfl (Or.inl ⟨rfl, rfl⟩) (Or.inl rfl) hru rfl ⟨by decide, by decide⟩ ⟨by decide, by decide⟩ (Or.inl rfl) ?_ (fun b hb => ⟨rfl, Or.inl rfl⟩) rfl ⟨by decide, by decide⟩ ?_ (fun k hk => Or.inl rfl)
  · intro i hi
    exact absurd (show i < 0 from hi) (Nat.not_lt_zero i)
  · intro i hi
    exact absurd (show i < 0 from hi) (Nat.not_lt_zero i)
  · intro i hi
    exact absurd (show i < 0 from hi) (Nat.not_lt_zero i)
  · intro i hi
    exact absurd (show i < 0 from hi) (Nat.not_lt_zero i)
