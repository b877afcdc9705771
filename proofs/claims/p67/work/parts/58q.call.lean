/-! THE CALL OF THE NATIVE getLong ON A LONG ROW, AND WHAT getLongUnaligned ANSWERS -/
def yUgl : MethodName := { cls := "jdk/internal/misc/Unsafe", name := "getLong", desc := "(Ljava/lang/Object;J)J" }
theorem ngl_word : Cond.native yUgl ∈ gW := gW_of 1273 (by decide +kernel) (by decide +kernel)
theorem ngl_desc : parseMethodDescriptor yUgl.desc = some { parameters := [.object "java/lang/Object", .long], returnType := some .long } := by decide +kernel
theorem ngl_words : nativeFrameWords "jdk/internal/misc/Unsafe" "getLong" 4 = 6 := by decide +kernel
theorem ngl_sem {E : CtlPost} {e : Env} {s : State} {u a : Addr} {A : Cell} {k : Class} {comp : ClassId} {i : Nat} {off : Int64} {x : Int64} {Q : Option Value → Pre} (hA : s.heap[a]? = some A) (hvm : A.vm = .none) (hk : s.vm.classes[A.cls]? = some k) (hkind : k.kind = .array comp .long) (hneg : ¬ off < 0) (hoff : off.toNatClampNeg = 16 + 8 * i) (hi : A.slots[i]? = some (.long x)) (hQ : ∀ d' acts', Q (some (.long x)) d' acts' s) : wp ((Native.jdk_internal_misc_Unsafe.memory.getRow "Long" "J" .long "" .plain).sem #[.ref u, .ref a, .long off]) Q E e false [] s := by
  show wp (do let v ← UnsafeMem.get .long (.ref a) off .plain; Jvm.mark "nat.jdk_internal_misc_Unsafe.get"; Pure.pure (some v)) Q E e false [] s
  simp only [wp_bind']
  refine nl_get hA hvm hk hkind hneg hoff hi fun d' acts' => ?_
  simp
  exact hQ _ _
section CNG
variable {G : gG} {mi : gM} {Qp : List Frame → Array Value → State → State → Prop} {pc : Nat} {L : List (Option Value)} {f : gF} {sz k n : Nat}
set_option maxHeartbeats 1000000 in
theorem r_callN {index a i N : Nat} {off : Int64} {g : Nat → Int64} {rest : List Value} (hd : decode mi.2.1 pc = .ok (.invokevirtual index, 3)) (hl : Cond.methodLink mi.1.cls index yUgl ∈ gW) (hi : Cond.instanceMethod yUgl ∈ gW) (hse : Cond.selects "jdk/internal/misc/Unsafe" yUgl yUgl ∈ gW) (ha : f a = .inl (G.2.1.1 103, N, .inr (.inl g))) (hiN : i < N) (hneg : ¬ off < 0) (hoff : off.toNatClampNeg = 16 + 8 * i) (hR : 1 ≤ mi.2.2.2.2.1.frames ∧ 25 ≤ mi.2.2.2.2.1.locals) (hW : (rest.map fun v => v.category).sum ≤ 8)
    (kk : gAt G mi Qp (pc + 3) L (.long (g i) :: rest) f sz k n) : gAt G mi Qp pc L (.long off :: .ref a :: .ref (guA G) :: rest) f sz k n := by
  intro p e s m args below meth c F H locs ls hl2 hh T hT X
  obtain ⟨hP, -⟩ := gRep.one hh.1 ha (fun h => by cases h)
  have hcell : H[a]? = some (arrV (G.2.1.1 103) N (fun j => .long (g j))) := hP 0 _ rfl
  have harr : s.isArrayOf (arrV (G.2.1.1 103) N (fun j => .long (g j))) .long := (hh.2.1.1.2 3 _ rfl).1 N (fun j => .long (g j))
  obtain ⟨ru, hru, hst, hcu⟩ := va_Orecv hh.2.1.2.2.2.2.2.2.2.2.2.2.2.2.2.2.2 hh.2.2.2.2
  have hw := F.2.2.2.2.1
  have hnat := hw _ ngl_word
  have hinst := hw _ hi
  obtain ⟨r, kO, methO, hnO, hmO, hkO, Nn⟩ := NativeOf.of_instance hnat hinst ngl_desc
  obtain ⟨r', methO', hnO', hmO', -, habs⟩ := Cond.instanceMethod_spec hinst
  cases hnO.symm.trans hnO'
  cases hmO.symm.trans hmO'
  obtain ⟨c2, r2, m2, q1, q2, q3, q4, kP, hkP, hkPi⟩ := Cond.selects_spec (hw _ hse)
  cases hcu.symm.trans q1
  cases (State.methodFound?_of_named hnO (by decide)).symm.trans q2
  cases hnO.symm.trans q3
  have hselP : selectMethod e.platform s.vm ru.cls r = .method r := by rw [Launch.admits_selectMethod X.admits]; exact q4
  obtain ⟨vm₁, X₁, step⟩ := X.invokevirtual F.1 F.2.2.2.1 (hw _ hl) hnO hmO Nn.static hkP hkPi (by decide) (a := guA G) (cell := ru) (by rw [hT]; exact hru) (fun z h => by rw [h] at hst; cases hst) hselP hmO habs hkP hkPi (g := F0 m pc ls (.long off :: .ref a :: .ref (guA G) :: rest)) rfl (argsL := [.ref a, .long off]) (rest := rest) (by rw [Nn.sig]; rfl) rfl (by rw [F.2.1]; exact hd)
  obtain ⟨t2, a1, b1⟩ := kk p e s m args below meth c F H locs ls hl2 hh (T.setVm vm₁) hT X₁
  refine ⟨t2, step _ fun acts => ?_, b1⟩
  obtain ⟨kO', N'⟩ := Nn.alike X₁.warmed.alike
  obtain ⟨-, k9, hk9, comp, hkind⟩ := State.isArrayOf_alike (T := T.setVm vm₁) X₁.warmed.alike harr
  have hseen : seenByNative methO ([Value.ref (guA G), Value.ref a, Value.long off]).toArray = #[Value.ref (guA G), Value.ref a, Value.long off] := by simp [seenByNative, N'.static, N'.sig, narrow]
  have hop : operandWords ([Value.ref (guA G), Value.ref a, Value.long off].toArray).toList = 4 := rfl
  have hrm := lv_room (m := m) (pc := pc) (ls := ls) (rest := rest) hW
  refine Steps.nativeEnds (row := Native.jdk_internal_misc_Unsafe.memory.getRow "Long" "J" .long "" .plain) (v := some (.long (g i))) (T := id) (g := F0 m pc ls rest) (ig := .invokevirtual index) (len := 3) X₁.here acts N'.cls N'.meth N'.boot N'.native N'.noCode N'.noLock
    (by rw [N'.className, N'.name, N'.desc]; exact nl_row p)
    (by rw [N'.className, N'.name, hop]; exact X₁.notFull (g := F0 m pc ls rest) (vars := nativeFrameWords "jdk/internal/misc/Unsafe" "getLong" 4) (hl2.1.trans F.2.2.1.symm) hR.1 (by have h9 := hR.2; show 2 * (F0 m pc ls rest).monitorRoom + (rest.map fun v => v.category).sum + (nativeFrameWords "jdk/internal/misc/Unsafe" "getLong" 4 + 11) ≤ _; rw [ngl_words]; omega))
    (fun _ => rfl) rfl (fun _ => X₁.here.code) ?_ (by rw [F.2.1]; exact hd) a1
  intro Q hq
  rw [hseen] at hq ⊢
  exact ngl_sem (A := arrV (G.2.1.1 103) N (fun j => .long (g j))) (k := k9) (comp := comp) (i := i) (by show T.heap[a]? = _; rw [hT]; exact hcell) rfl hk9 hkind hneg hoff (arrV_read _ _ hiN) hq
end CNG
