/-! the maker of the class: its cells -/
theorem lX0 {G : gG} {b : Nat} : (eX0 G b).length = 66 := rfl
theorem lX1 {G : gG} {b : Nat} : (eX1 G b).length = 3 := rfl
theorem lX2 {G : gG} {b : Nat} : (eX2 G b).length = 2 := rfl
theorem lX4 {G : gG} {b : Nat} : (eX4 G b).length = 2 := rfl
theorem lX6 {G : gG} {b : Nat} : (eX6 G b).length = 8 := rfl
theorem lX7 {G : gG} {b rl : Nat} : (eX7 G b rl).length = 21 := rfl
def eX9 (G : gG) (b : Nat) : List va_E := .inr (9, [.ref (b + 1), .int 0, .int 0, .int (-1 : Int32), .int 0, .ref (b + 95), .ref (b + 116), .ref (b + 2), .ref (b + 10), .ref (b + 18), .ref (b + 84), .ref (b + 85), .ref (b + 86), .ref (b + 88), .ref (b + 91), .ref (b + 92)]) :: ((((((((((((((([] ++ [(.inl (G.2.1.1 (100 + 1), 900, .inl (fun _ => 0)) : va_E)]) ++ eX6 G (b + 2)) ++ eX6 G (b + 10)) ++ eX0 G (b + 18)) ++ [(.inl (G.2.1.1 (100 + 7), 2, .inr (.inr (.inr (.inr (va_up (va_up (fun _ => none) 0 (some (b + (136 + 1)))) 1 (some (b + (144 + 1)))))))) : va_E)]) ++ [(.inl (G.2.1.1 (100 + 0), 2, .inl (fun _ => 0)) : va_E)]) ++ eX2 G (b + 86)) ++ eX1 G (b + 88)) ++ [(.inl (G.2.1.1 (100 + 3), 160, .inr (.inl (fun _ => 0))) : va_E)]) ++ [(.inl (G.2.1.1 (100 + 2), 60, .inl (fun _ => 0)) : va_E)]) ++ eX4 G (b + 93)) ++ eX7 G (b + 95) (b + 93)) ++ eX7 G (b + 116) (b + 93)) ++ eX6 G (b + 137)) ++ eX6 G (b + 145))
theorem lX9 {G : gG} {b : Nat} : (eX9 G b).length = 153 := by
  unfold eX9
  simp only [List.length_append, List.length_set, List.length_cons, List.length_nil, lX0, lX1, lX2, lX4, lX6, lX7, Nat.reduceAdd]
theorem gdl {A B : List va_E} {i : Nat} (h : i < A.length) : (A ++ B).getD i gj = A.getD i gj := by
  rw [List.getD_eq_getElem?_getD, List.getD_eq_getElem?_getD, List.getElem?_append_left h]
theorem gdr {A B : List va_E} {i : Nat} (h : A.length = i) : (A ++ B).getD i gj = B.getD 0 gj := by
  rw [List.getD_eq_getElem?_getD, List.getD_eq_getElem?_getD, List.getElem?_append_right (by omega), h, Nat.sub_self]
theorem sapc {A A' B : List va_E} {i : Nat} {x : va_E} (h : i < A.length) (e : A.set i x = A') : (A ++ B).set i x = A' ++ B := by
  rw [List.set_append_left _ _ h, e]
theorem sar {A : List va_E} {i : Nat} {x y : va_E} (h : A.length = i) : (A ++ [y]).set i x = A ++ [x] := by
  rw [List.set_append_right _ _ (by omega), h, Nat.sub_self]
  rfl
theorem gds {A : List va_E} {i : Nat} {x : va_E} (h : i < A.length) : (A.set i x).getD i gj = x := by
  rw [List.getD_eq_getElem?_getD, List.getElem?_set_self h]
  rfl
