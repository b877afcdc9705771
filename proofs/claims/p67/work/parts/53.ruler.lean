/-! THE RULER'S MAKER -/
theorem cL_root {G : gG} {f : gF} {sz n : Nat} {a0 : Int32} (hs : G.1.stackTraces = false) : ∀ j : Nat, (∀ (x1 : Int32) (x2 : Int32) (r : Int32), L_X4_root n a0 j 0 x1 x2 = some r → gAt G mX4_root (gQp G mX4_root (gR (some (.int r)) f sz)) 6 [some (.int a0), some (.int x1), some (.int x2)] [] f sz 0 0) := by
  intro j
  induction j with
  | zero => exact fun _ _ _ hf => (by cases hf)
  | succ j ih =>
    refine ?_
    · intro x1 x2 r hf
      rw [L_X4_root_e0] at hf
      refine r_iload_n dX4_root_6 rfl ?_
      refine r_if_le (tgt := 32) dX4_root_7 (by decide) (fun c7 => ?_) (fun c7 => ?_)
      · replace hf := if_t hf c7
        refine r_iload_n dX4_root_32 rfl ?_
        have hr := Option.some.inj hf
        subst hr
        exact r_iret dX4_root_33 rfl (Nat.le_of_ble_eq_true rfl) (Nat.le_of_ble_eq_true rfl) ⟨rfl, rfl, rfl⟩
      · replace hf := if_f hf c7
        refine r_iload_n dX4_root_10 rfl ?_
        refine r_iload_n dX4_root_11 rfl ?_
        refine r_iadd dX4_root_12 ?_
        refine r_iload_n dX4_root_13 rfl ?_
        refine r_iload_n dX4_root_14 rfl ?_
        refine r_iadd dX4_root_15 ?_
        refine r_imul dX4_root_16 ?_
        refine r_iload_n dX4_root_17 rfl ?_
        refine r_icmp_gt (tgt := 25) dX4_root_18 (by decide) (fun c18 => ?_) (fun c18 => ?_)
        · replace hf := if_t hf c18
          refine r_iload_n dX4_root_25 rfl ?_
          refine r_iconst (v := (1 : Int32)) dX4_root_26 (by decide) ?_
          refine r_ishr dX4_root_27 ?_
          refine r_istore_n dX4_root_28 (by decide) rfl ?_
          refine r_goto (tgt := 6) dX4_root_29 (by decide) ?_
          exact r_widen (k2 := 0) (n2 := 0) (Nat.le_of_ble_eq_true rfl) (Nat.le_of_ble_eq_true rfl) (r_mask [true, true, true] rfl (ih x1 (x2 >>> ((1 : Int32) &&& 31)) r hf))
        · replace hf := if_f hf c18
          refine r_iload_n dX4_root_21 rfl ?_
          refine r_iload_n dX4_root_22 rfl ?_
          refine r_iadd dX4_root_23 ?_
          refine r_istore_n dX4_root_24 (by decide) rfl ?_
          refine r_iload_n dX4_root_25 rfl ?_
          refine r_iconst (v := (1 : Int32)) dX4_root_26 (by decide) ?_
          refine r_ishr dX4_root_27 ?_
          refine r_istore_n dX4_root_28 (by decide) rfl ?_
          refine r_goto (tgt := 6) dX4_root_29 (by decide) ?_
          exact r_widen (k2 := 0) (n2 := 0) (Nat.le_of_ble_eq_true rfl) (Nat.le_of_ble_eq_true rfl) (r_mask [true, true, true] rfl (ih (x1 + x2) (x2 >>> ((1 : Int32) &&& 31)) r hf))
theorem ct_root {G : gG} {f : gF} {sz : Nat} {a0 : Int32} (hs : G.1.stackTraces = false) : gCt G mX4_root [.int a0] f sz (gR (some (.int (rt a0))) f sz) := by
  have hf := root4 (n := 14) (by decide) a0
  unfold F_X4_root at hf
  refine gCt.of [some (.int a0), none, none] (by decide +kernel) rfl hs rfl (Nat.le_of_ble_eq_true rfl) ?_
  refine r_iconst (v := (0 : Int32)) dX4_root_0 (by decide) ?_
  refine r_istore_n dX4_root_1 (by decide) rfl ?_
  refine r_sipush (v := (2048 : Int32)) dX4_root_2 (by decide) ?_
  refine r_istore_n dX4_root_5 (by decide) rfl ?_
  exact r_widen (k2 := 0) (n2 := 0) (Nat.le_of_ble_eq_true rfl) (Nat.le_of_ble_eq_true rfl) (r_mask [true, true, true] rfl ((cL_root hs 14) (0 : Int32) (2048 : Int32) _ hf))
/-- the first m lengths -/
def pt (m : Nat) : Nat → Int32 := fun i => if i < m then dst (i / 20) (i % 20) else 0
theorem pt_up {x y : Nat} (hy : y < 20) : upd (pt (20 * x + y)) (20 * x + y) (dst x y) = pt (20 * x + y + 1) := by
  funext i
  unfold upd pt
  by_cases h : i = 20 * x + y
  · rw [if_pos h, if_pos (by omega), show i / 20 = x by omega, show i % 20 = y by omega]
  · rw [if_neg h]
    by_cases h2 : i < 20 * x + y
    · rw [if_pos h2, if_pos (by omega)]
    · rw [if_neg h2, if_neg (by omega)]
theorem pt_0 : pt 0 = fun _ => 0 := by funext i; unfold pt; rw [if_neg (Nat.not_lt_zero _)]
theorem pt_v (x y : Nat) : (10000 : Int32) * (Int32.ofNat x * Int32.ofNat x + Int32.ofNat y * Int32.ofNat y) = Int32.ofNat (10000 * (x * x + y * y)) := by
  rw [i_omul, i_omul, i_oadd]
  exact i_omul 10000 _
theorem pt_i (x y : Nat) : Int32.ofNat x * (20 : Int32) + Int32.ofNat y = Int32.ofNat (20 * x + y) := by
  rw [show (20 : Int32) = Int32.ofNat 20 from rfl, i_omul, i_oadd, Nat.mul_comm]
def eX4 (G : gG) (b : Nat) : List va_E := [.inr (4, [.ref (b + 1)]), .inl (G.2.1.1 102, 640, .inl (pt 640))]
def eR4 (G : gG) (b m : Nat) : List va_E := [.inr (4, [.ref (b + 1)]), .inl (G.2.1.1 102, 640, .inl (pt m))]
section RULER
variable {G : gG} {b : Nat} {f : gF}
theorem rl_in (hs : G.1.stackTraces = false) {x : Nat} (hx : x < 32) (Q : gAt G mX4_init (gQp G mX4_init (gR none (fA b f (eX4 G b)) (b + 2))) 60 [some (.ref b), some (.int (Int32.ofNat x)), none] [] (fA b f (eR4 G b (20 * (x + 1)))) (b + 2) 1 640) : ∀ (d y : Nat), y + d = 20 → gAt G mX4_init (gQp G mX4_init (gR none (fA b f (eX4 G b)) (b + 2))) 23 [some (.ref b), some (.int (Int32.ofNat x)), some (.int (Int32.ofNat y))] [] (fA b f (eR4 G b (20 * x + y))) (b + 2) 1 640 := by
  intro d
  induction d with
  | zero =>
    intro y hy
    refine r_iload_n dX4_init_23 rfl ?_
    refine r_bipush (v := (20 : Int32)) dX4_init_24 (by decide) ?_
    refine r_icmp_ge (tgt := 60) dX4_init_26 (by decide) (fun _ => ?_) (fun c => absurd (show (20 : Int32) ≤ Int32.ofNat y by rw [i_le, i_of (by omega)]; show (20 : Int) ≤ y; omega) c)
    rw [show 20 * x + y = 20 * (x + 1) by omega]
    exact r_mask [true, true, false] rfl Q
  | succ d ih =>
    intro y hy
    refine r_iload_n dX4_init_23 rfl ?_
    refine r_bipush (v := (20 : Int32)) dX4_init_24 (by decide) ?_
    refine r_icmp_ge (tgt := 60) dX4_init_26 (by decide) (fun c => absurd c (show ¬ (20 : Int32) ≤ Int32.ofNat y by rw [i_le, i_of (by omega)]; show ¬ (20 : Int) ≤ y; omega)) (fun _ => ?_)
    refine r_aload_n dX4_init_29 rfl ?_
    refine r_get (k0 := 0) uX4 rfl dX4_init_30 wd_201 fA_0 (by decide) rfl ?_
    refine r_iload_n dX4_init_33 rfl ?_
    refine r_bipush (v := (20 : Int32)) dX4_init_34 (by decide) ?_
    refine r_imul dX4_init_36 ?_
    refine r_iload_n dX4_init_37 rfl ?_
    refine r_iadd dX4_init_38 ?_
    refine r_sipush (v := (10000 : Int32)) dX4_init_39 (by decide) ?_
    refine r_iload_n dX4_init_42 rfl ?_
    refine r_iload_n dX4_init_43 rfl ?_
    refine r_imul dX4_init_44 ?_
    refine r_iload_n dX4_init_45 rfl ?_
    refine r_iload_n dX4_init_46 rfl ?_
    refine r_imul dX4_init_47 ?_
    refine r_iadd dX4_init_48 ?_
    refine r_imul dX4_init_49 ?_
    refine r_callS1 (rest := [.int (Int32.ofNat x * 20 + Int32.ofNat y), .ref (b + 1)]) (ct_root hs) dX4_init_50 wd_198 zX4_root wd_199 rfl rfl rfl ⟨Nat.le_of_ble_eq_true rfl, Nat.le_of_ble_eq_true rfl⟩ (Nat.le_of_ble_eq_true rfl) ⟨Nat.le_of_ble_eq_true rfl, Nat.le_of_ble_eq_true rfl⟩ ?_
    rw [pt_v, pt_i]
    have hin : vp_in (Int32.ofNat (20 * x + y)) 640 := by
      refine fun z => ?_
      rcases z with z | z
      · rw [i_lt, i_of (by omega), ii_0] at z; omega
      · rw [i_tno (by omega)] at z; omega
    refine r_iast dX4_init_53 (fA_at (b := b) (f := f) (T := eR4 G b (20 * x + y)) 1) hin ?_
    rw [i_tno (by omega), show rt (Int32.ofNat (10000 * (x * x + y * y))) = dst x y from rfl, pt_up (by omega), fA_set (T := eR4 G b (20 * x + y)) (i := 1) (Nat.le_of_ble_eq_true rfl)]
    refine r_iinc dX4_init_54 rfl (by decide) rfl ?_
    refine r_goto (tgt := 23) dX4_init_57 (by decide) ?_
    have e : Int32.ofNat y + Int32.ofInt 1 = Int32.ofNat (y + 1) := ixp_1 y
    rw [e]
    exact ih (y + 1) (by omega)
theorem rl_out (hs : G.1.stackTraces = false) : ∀ (d x : Nat), x + d = 32 → gAt G mX4_init (gQp G mX4_init (gR none (fA b f (eX4 G b)) (b + 2))) 15 [some (.ref b), some (.int (Int32.ofNat x)), none] [] (fA b f (eR4 G b (20 * x))) (b + 2) 1 640 := by
  intro d
  induction d with
  | zero =>
    intro x hx
    refine r_iload_n dX4_init_15 rfl ?_
    refine r_bipush (v := (32 : Int32)) dX4_init_16 (by decide) ?_
    refine r_icmp_ge (tgt := 66) dX4_init_18 (by decide) (fun _ => ?_) (fun c => absurd (show (32 : Int32) ≤ Int32.ofNat x by rw [i_le, i_of (by omega)]; show (32 : Int) ≤ x; omega) c)
    rw [show 20 * x = 640 by omega]
    exact r_vret dX4_init_66 rfl (Nat.le_of_ble_eq_true rfl) (Nat.le_of_ble_eq_true rfl) ⟨rfl, rfl, rfl⟩
  | succ d ih =>
    intro x hx
    refine r_iload_n dX4_init_15 rfl ?_
    refine r_bipush (v := (32 : Int32)) dX4_init_16 (by decide) ?_
    refine r_icmp_ge (tgt := 66) dX4_init_18 (by decide) (fun c => absurd c (show ¬ (32 : Int32) ≤ Int32.ofNat x by rw [i_le, i_of (by omega)]; show ¬ (32 : Int) ≤ x; omega)) (fun _ => ?_)
    refine r_iconst (v := (0 : Int32)) dX4_init_21 (by decide) ?_
    refine r_istore_n dX4_init_22 (by decide) rfl ?_
    refine rl_in hs (x := x) (by omega) ?_ 20 0 (by omega)
    refine r_iinc dX4_init_60 rfl (by decide) rfl ?_
    refine r_goto (tgt := 15) dX4_init_63 (by decide) ?_
    have e : Int32.ofNat x + Int32.ofInt 1 = Int32.ofNat (x + 1) := ixp_1 x
    rw [e]
    exact ih (x + 1) (by omega)
set_option maxHeartbeats 4000000 in
set_option maxRecDepth 100000 in
theorem ct_X4_init (hs : G.1.stackTraces = false) : gCt G mX4_init [.ref b] (fA b f [.inr (4, dfX4)]) (b + 1) (gR none (fA b f (eX4 G b)) (b + 2)) := by
  refine gCt.of [some (.ref b), none, none] (by decide +kernel) rfl hs rfl (Nat.le_of_ble_eq_true rfl) ?_
  refine r_aload_n dX4_init_0 rfl ?_
  refine r_objInit dX4_init_1 wd_197 wd_79 cd_80 (Nat.le_of_ble_eq_true rfl) (Nat.le_of_ble_eq_true rfl) ?_
  refine r_aload_n dX4_init_4 rfl ?_
  refine r_sipush (v := (640 : Int32)) dX4_init_5 (by decide) ?_
  refine k_newa (ty := FieldType.int) (m := 1) (N := 640) (a0 := (640, .inl (fun _ => 0))) 2 rfl rfl ⟨rfl, fun _ _ h => h⟩ na_i wd_142 (by decide) (by decide) (by decide) (Nat.le_of_ble_eq_true rfl) (Nat.le_of_ble_eq_true rfl) dX4_init_8 rfl ?_
  refine k_putF (k0 := 0) tyX4 tyX4_ok nmX4 uX4 rfl dX4_init_10 wd_201 (by decide) rfl rfl rfl rfl rfl (Nat.le_of_ble_eq_true rfl) ?_
  refine r_iconst (v := (0 : Int32)) dX4_init_13 (by decide) ?_
  refine r_istore_n dX4_init_14 (by decide) rfl ?_
  have := rl_out (G := G) (b := b) (f := f) hs 32 0 (by omega)
  unfold eR4 at this
  rw [pt_0] at this
  exact this
end RULER
