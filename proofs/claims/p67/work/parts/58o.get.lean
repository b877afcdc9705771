/-! READING A LONG OF A LONG ROW THROUGH Unsafe -/
section NGT
theorem nl_loc {E : CtlPost} {e : Env} {d : Bool} {acts : List Action} {s : State} {a : Addr} {A : Cell} {k : Class} {comp : ClassId} {i : Nat} {off : Int64} {Q : UnsafeMem.Target → Pre} (hA : s.heap[a]? = some A) (hvm : A.vm = .none) (hk : s.vm.classes[A.cls]? = some k) (hkind : k.kind = .array comp .long) (hneg : ¬ off < 0) (hoff : off.toNatClampNeg = 16 + 8 * i) : wp (UnsafeMem.locate (.ref a) off .long) Q E e d acts s ↔ Q (UnsafeMem.Target.slot a i .long) d acts s := by
  have h1 : ¬ 16 + 8 * i < 16 := by omega
  have h2 : (16 + 8 * i - 16) / 8 = i := by omega
  have h3 : (16 + 8 * i - 16) % 8 = 0 := by omega
  simp [UnsafeMem.locate, hneg, hoff, hA, Cell.info, hvm, hk, hkind, UnsafeMem.arrayBase, UnsafeMem.scaleOf, UnsafeMem.isRefType, h1, h2, h3]
end NGT
