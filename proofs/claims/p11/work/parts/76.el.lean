set_option maxRecDepth 100000 in
theorem nwx_5 : (Jvm.Cond.arrayOf (Jvm.Term.static "java/util/ArrayList" "DEFAULTCAPACITY_EMPTY_ELEMENTDATA" "[Ljava/lang/Object;") (Jvm.ClassFile.FieldType.object "java/lang/Object")) ∈ flatC (Jvm.Cond.and given_1 narrow_1) := List.mem_of_getElem? (i := 5) (by rfl)
set_option maxRecDepth 100000 in
theorem nwx_7 : (Jvm.Cond.eq (Jvm.Term.length (Jvm.Term.static "java/util/ArrayList" "DEFAULTCAPACITY_EMPTY_ELEMENTDATA" "[Ljava/lang/Object;")) (Jvm.Term.int (0 : Int32))) ∈ flatC (Jvm.Cond.and given_1 narrow_1) := List.mem_of_getElem? (i := 7) (by rfl)
set_option maxRecDepth 100000 in
theorem nwx_283 : (Jvm.Cond.isRef (Jvm.Term.mirror "[Ljava/lang/Object;")) ∈ flatC (Jvm.Cond.and given_1 narrow_1) := List.mem_of_getElem? (i := 283) (by rfl)
theorem va_Z_eval {C n d : String} {v : Value} {A : Nat → Prop} {U : State} {args : Array Value} (h : va_Z C n d v A U U.heap) : (Term.static C n d).eval args U none [] U = some v := by
  obtain ⟨cf, kf, fi, f, a, cell, h1, h2, h3, h4, h5, h6, h7, -⟩ := h
  simp [Term.eval, State.fieldNamed?, h1, h2, h4, h5, h6, h7]
theorem EL_of {b e0 : Nat} {tk : Nat → Nat} {s : State} (hg : (Jvm.Cond.and given_1 narrow_1).before #[Value.ref b] s = true) (hE : ES e0 tk (fun q : Nat => s.heap.size ≤ q) s) : ∃ mi : Nat, EL e0 mi (fun q : Nat => s.heap.size ≤ q) s := by
  have hs := flat_of_before _ hg
  have hA : ∀ a : Nat, a < s.heap.size → ¬ (fun q : Nat => s.heap.size ≤ q) a := fun a ha => Nat.not_le.mpr ha
  have hl : (Term.length (Jvm.Term.static "java/util/ArrayList" "DEFAULTCAPACITY_EMPTY_ELEMENTDATA" "[Ljava/lang/Object;")).eval #[Value.ref b] s none [] s = some (.int 0) := by
    have h := hs _ nwx_7
    cases hv : (Term.length (Jvm.Term.static "java/util/ArrayList" "DEFAULTCAPACITY_EMPTY_ELEMENTDATA" "[Ljava/lang/Object;")).eval #[Value.ref b] s none [] s with
    | none => simp [Cond.before, Cond.holds, Cond.value, hv] at h
    | some w =>
      have hz : (Term.int 0).eval #[Value.ref b] s none [] s = some (.int 0) := rfl
      simp only [Cond.before, Cond.holds, Cond.value, hv, hz] at h
      cases w <;> simp_all
  obtain ⟨t, ht, hT⟩ := va_Tof (N := 0) (f := fun _ => .null) (A := fun q : Nat => s.heap.size ≤ q) (by decide) (hs _ nwx_5) hl (fun j hj => absurd hj (Nat.not_lt_zero j)) hA
  have he : (Term.static "java/util/ArrayList" "DEFAULTCAPACITY_EMPTY_ELEMENTDATA" "[Ljava/lang/Object;").eval #[Value.ref b] s none [] s = some (.ref e0) := va_Z_eval hE.1
  have e1 : t = e0 := by
    have z := ht.symm.trans he
    injection z with z
    injection z
  obtain ⟨mi, hmi⟩ := va_Mi.of (hs _ nwx_283)
  exact ⟨mi, by rw [← e1]; exact hT, hmi⟩
