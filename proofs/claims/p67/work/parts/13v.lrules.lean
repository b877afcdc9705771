/-! RULES FOR THE LAW'S OWN METHODS -/
def gScr (G : gG) (zS : Nat) (S : Nat → Int32) : Prop := gsL G = zS ∧ gsX G = S
theorem no_th {ε α : Type} {e : ε} {r : α} (h : (some (.inl e) : Option (ε ⊕ α)) = some (.inr r)) : False := by cases h
theorem no_no {α : Type} {r : α} (h : (none : Option α) = some r) : False := by cases h
def lt {α β : Type} (x : α) (g : α → β) : β := g x
theorem lt_of {α β : Type} {x : α} {g : α → Option β} {r : β} (h : lt x g = some r) : ∃ y, x = y ∧ g y = some r := ⟨x, rfl, h⟩
section GLR
variable {G : gG} {mi : gM} {Qp : List Frame → Array Value → State → State → Prop} {pc : Nat} {L : List (Option Value)} {st : List Value} {f : gF} {sz k n : Nat} {Φ : gO → gF → Nat → Prop} {zS : Nat} {S : Nat → Int32}
theorem r_slen (hS : gScr G zS S) (hd : decode mi.2.1 pc = .ok (.arraylength, 1)) (kk : gAt G mi Qp (pc + 1) L (.int (nI zS) :: st) f sz k n) : gAt G mi Qp pc L (.ref (gsA G) :: st) f sz k n := by
  intro p e s m args below meth c F H locs ls hl hw
  obtain ⟨h1, h2⟩ := hS
  subst h1
  have hx := hw.2.1.2.2.2.2.2.2.2.2.2
  obtain ⟨scr, hc, -⟩ := id hx.1
  exact va_slen F.1 F.2.1 hx.1 (Array.getElem?_eq_some_iff.mp hc).1 hx.2.1 hw.2.2.2.2 hd (kk p e s m args below meth c F H locs ls hl hw)
theorem r_sld {i : Int32} (hS : gScr G zS S) (hd : decode mi.2.1 pc = .ok (.iaload, 1)) (hin : vp_in i zS) (kk : gAt G mi Qp (pc + 1) L (.int (S i.toNatClampNeg) :: st) f sz k n) : gAt G mi Qp pc L (.int i :: .ref (gsA G) :: st) f sz k n := by
  intro p e s m args below meth c F H locs ls hl hw
  obtain ⟨h1, h2⟩ := hS
  subst h1
  subst h2
  have hx := hw.2.1.2.2.2.2.2.2.2.2.2
  obtain ⟨scr, hc, -⟩ := id hx.1
  exact va_sld F.1 F.2.1 hx.1 (Array.getElem?_eq_some_iff.mp hc).1 hx.2.1 hw.2.2.2.2 hin hd (kk p e s m args below meth c F H locs ls hl hw)
theorem r_aret {v : Nat} {t : FieldType} (hd : decode mi.2.1 pc = .ok (.areturn, 1)) (hr : mi.2.2.2.1 = some (.array t)) (hk : k ≤ mi.2.2.2.2.1.cells) (hn : n ≤ mi.2.2.2.2.1.slots) (hΦ : Φ (.inl (some (.ref v))) f sz) : gAt G mi (gQp G mi Φ) pc L [.ref v] f sz k n := by
  intro p e s m args below meth c F H locs ls hl hw
  refine W.widen hk hn (vx_ret ?_)
  exact W.aret F.1 F.2.1 (F.2.2.2.2.2.1.trans hr) (Or.inr ⟨t, rfl⟩) (Or.inr ⟨v, rfl⟩) (fun t ht hW => ⟨⟨_, f, sz, rfl, hΦ, by rw [ht]; exact hw.1, by rw [ht]; exact hw.2.2.1⟩, hw.2.2.2.2.F ht⟩) hw.2.2.2.2.2.2 hd F.2.2.2.2.2.2.1
theorem r_land {x y : Int64} (hd : decode mi.2.1 pc = .ok (.land, 1)) (kk : gAt G mi Qp (pc + 1) L (.long (x &&& y) :: st) f sz k n) : gAt G mi Qp pc L (.long y :: .long x :: st) f sz k n := by
  intro p e s m args below meth c F H locs ls hl hw
  exact lv_land F.1 F.2.1 hd (kk p e s m args below meth c F H locs ls hl hw)
theorem r_lshr {x : Int64} {y : Int32} (hd : decode mi.2.1 pc = .ok (.lshr, 1)) (kk : gAt G mi Qp (pc + 1) L (.long (x >>> (y.toInt64 &&& 63)) :: st) f sz k n) : gAt G mi Qp pc L (.int y :: .long x :: st) f sz k n := by
  intro p e s m args below meth c F H locs ls hl hw
  exact lv_lshr F.1 F.2.1 hd rfl (kk p e s m args below meth c F H locs ls hl hw)
end GLR
