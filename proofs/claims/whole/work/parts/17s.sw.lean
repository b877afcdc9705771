theorem sw_ne {x : Int32} {c : Int32} (h : ¬ x = c) : x.toInt ≠ c.toInt := fun q => h (Int32.toInt_inj.mp q)
theorem sw6 {x : Int32} (h0 : ¬ x = 0) (h1 : ¬ x = 1) (h2 : ¬ x = 2) (h3 : ¬ x = 3) (h4 : ¬ x = 4) (h5 : ¬ x = 5) : x.toInt < 0 ∨ 5 < x.toInt := by
  have a0 : x.toInt ≠ 0 := sw_ne h0
  have a1 : x.toInt ≠ 1 := sw_ne h1
  have a2 : x.toInt ≠ 2 := sw_ne h2
  have a3 : x.toInt ≠ 3 := sw_ne h3
  have a4 : x.toInt ≠ 4 := sw_ne h4
  have a5 : x.toInt ≠ 5 := sw_ne h5
  omega
theorem swl1_2 {x : Int32} {o1 o2 d : Int} (h1 : ¬ x = 1) (h2 : ¬ x = 2) : Op.lookupswitch.offset (#[(1, o1), (2, o2)] : Array (Int × Int)).toList d x.toInt = d := by
  have a1 : x.toInt ≠ 1 := sw_ne h1
  have a2 : x.toInt ≠ 2 := sw_ne h2
  have b1 : ¬ (1 : Int) = x.toInt := fun q => a1 q.symm
  have b2 : ¬ (2 : Int) = x.toInt := fun q => a2 q.symm
  simp [Op.lookupswitch.offset, a1, a2, b1, b2]
