/-! READING IT -/
theorem nl_get {E : CtlPost} {e : Env} {d : Bool} {acts : List Action} {s : State} {a : Addr} {A : Cell} {k : Class} {comp : ClassId} {i : Nat} {off : Int64} {x : Int64} {Q : Value → Pre} (hA : s.heap[a]? = some A) (hvm : A.vm = .none) (hk : s.vm.classes[A.cls]? = some k) (hkind : k.kind = .array comp .long) (hneg : ¬ off < 0) (hoff : off.toNatClampNeg = 16 + 8 * i) (hi : A.slots[i]? = some (.long x)) (hQ : ∀ d' acts', Q (.long x) d' acts' s) : wp (UnsafeMem.get .long (.ref a) off .plain) Q E e d acts s := by
  simp only [UnsafeMem.get, wp_bind', nl_loc hA hvm hk hkind hneg hoff]
  simp [hA, hvm, hi, UnsafeMem.handedOut]
  exact hQ _ _
