/-! WHAT getLongUnaligned ANSWERS ON EVERY LONG ROW OF THE LAW'S OWN -/
section GUA
variable {G : gG}
theorem gua_all {Dd : Nat → Nat → UInt64} (hs : G.1.stackTraces = false) : gUA G Dd := by
  intro lay T0 T1 I J K N sz q hq i hi
  refine ct_glu hs hi ?_
  refine r_callN (i := i) (rest := []) dJx9a822_getLongUnaligned_f02c6_13 wd_1270 wd_1271 wd_1272 (fo203 hq) hi (off_n ⟨i, hi⟩).2 (off_n ⟨i, hi⟩).1 ⟨Nat.le_of_ble_eq_true rfl, Nat.le_of_ble_eq_true rfl⟩ (Nat.zero_le _) ?_
  exact r_lret dJx9a822_getLongUnaligned_f02c6_16 rfl (Nat.le_of_ble_eq_true rfl) (Nat.le_of_ble_eq_true rfl) ⟨rfl, rfl, rfl⟩
end GUA
