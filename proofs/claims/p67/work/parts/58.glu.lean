/-! getLongUnaligned ON A ROW, up to the native -/
theorem off_7 : ∀ i : Fin 80, lg_cmp (offL i.1 &&& (7 : Int64)) (0 : Int64) = 0 := by decide +kernel
theorem off_n : ∀ i : Fin 80, (offL i.1).toNatClampNeg = 16 + 8 * i.1 ∧ ¬ offL i.1 < 0 := by decide +kernel
section GLU
variable {G : gG} {f : gF} {sz a : Nat} {v : Int64}
set_option maxHeartbeats 4000000 in
set_option maxRecDepth 100000 in
/-- what is left: the native's call at pc 13 -/
theorem ct_glu (hs : G.1.stackTraces = false) {i : Nat} (hi : i < 80) (kk : gAt G mJx9a822_getLongUnaligned_f02c6 (gQp G mJx9a822_getLongUnaligned_f02c6 (gR (some (.long v)) f sz)) 13 [some (.ref (guA G)), some (.ref a), some (.long (offL i)), none] [.long (offL i), .ref a, .ref (guA G)] f sz 0 0) : gCt G mJx9a822_getLongUnaligned_f02c6 [.ref (guA G), .ref a, .long (offL i)] f sz (gR (some (.long v)) f sz) := by
  refine gCt.ofF [some (.ref (guA G)), some (.ref a), some (.long (offL i)), none] (by decide +kernel) rfl hs rfl (Nat.le_of_ble_eq_true rfl) ?_
  refine r_lload_n dJx9a822_getLongUnaligned_f02c6_0 rfl ?_
  refine r_ldc2 dJx9a822_getLongUnaligned_f02c6_1 wd_1269 ?_
  refine r_land dJx9a822_getLongUnaligned_f02c6_4 ?_
  refine r_lconst (v := (0 : Int64)) dJx9a822_getLongUnaligned_f02c6_5 (by decide) ?_
  refine r_lcmp dJx9a822_getLongUnaligned_f02c6_6 ?_
  refine r_if_ne (tgt := 17) dJx9a822_getLongUnaligned_f02c6_7 (by decide) (fun c => absurd (off_7 ⟨i, hi⟩) c) (fun _ => ?_)
  refine r_aload_n dJx9a822_getLongUnaligned_f02c6_10 rfl ?_
  refine r_aload_n dJx9a822_getLongUnaligned_f02c6_11 rfl ?_
  refine r_lload_n dJx9a822_getLongUnaligned_f02c6_12 rfl ?_
  exact kk
end GLU
