/-! ===== arrays' classes; addresses that differ by what stands there ===== -/
abbrev tyL (cy : Nat → ClassId) : List (ClassId × FieldType) := [(cy 0, .byte), (cy 1, .int), (cy 2, .long), (cy 3, .boolean), (cy 4, .object "java/lang/Object"), (cy 5, .object "DescribeText$Token"), (cy 6, .object "DescribeText$Edition")]
section MNE
variable {G : Nat → Option va_E} {a b : Nat}
theorem mm_ne_e {e1 e2 : va_E} (h1 : G a = some e1) (h2 : G b = some e2) (h : e1 ≠ e2) : a ≠ b := fun z => by
  subst z
  rw [h1] at h2
  exact h (Option.some.inj h2)
theorem mm_ne_oo {i j : Nat} {fs gs : List Value} (h1 : G a = some (.inr (i, fs))) (h2 : G b = some (.inr (j, gs))) (h : i ≠ j) : a ≠ b := mm_ne_e h1 h2 (fun z => h (Prod.mk.inj (Sum.inr.inj z)).1)
theorem mm_ne_oa {o : Nat × List Value} {x : ClassId × vp_A} (h1 : G a = some (.inr o)) (h2 : G b = some (.inl x)) : a ≠ b := mm_ne_e h1 h2 (fun z => by cases z)
theorem mm_ne_ao {o : Nat × List Value} {x : ClassId × vp_A} (h1 : G a = some (.inl x)) (h2 : G b = some (.inr o)) : a ≠ b := mm_ne_e h1 h2 (fun z => by cases z)
theorem mm_ne_ij {c1 c2 : ClassId} {n1 n2 : Nat} {f : Nat → Int32} {g : Nat → Int64} (h1 : G a = some (.inl (c1, n1, .inl f))) (h2 : G b = some (.inl (c2, n2, .inr (.inl g)))) : a ≠ b := mm_ne_e h1 h2 (fun z => by cases z)
theorem mm_ne_ji {c1 c2 : ClassId} {n1 n2 : Nat} {f : Nat → Int32} {g : Nat → Int64} (h1 : G a = some (.inl (c1, n1, .inr (.inl g)))) (h2 : G b = some (.inl (c2, n2, .inl f))) : a ≠ b := mm_ne_e h1 h2 (fun z => by cases z)
end MNE
theorem mk_end {D : va_G} {cl : List vw_C} {A : Nat → Prop} {G : Nat → Option va_E} {H : Heap} {t : State} (hG : mm D cl A G H) (ht : t.heap = H) : mk_B D cl A G t := by
  show mm D cl A G t.heap
  rw [ht]
  exact hG
theorem vp_in_lt {x m : Int32} {n : Nat} (h0 : ¬ x < 0) (h : x < m) (hm : m.toInt = n) : vp_in x n := by
  refine vp_in_iff.mpr ⟨?_, ?_⟩
  · have h1 := Int32.not_lt.mp h0
    exact Int32.le_iff_toInt_le.mp h1
  · have h2 := Int32.lt_iff_toInt_lt.mp h
    omega
theorem vp_in_ge {x m : Int32} {n : Nat} (h0 : ¬ x < 0) (h : ¬ m ≤ x) (hm : m.toInt = n) : vp_in x n := vp_in_lt h0 (Int32.not_le.mp h) hm
theorem tb_arr {ty : FieldType} {s : State} {args : Array Value} (hT : TB s) (h : Cond.arrayClass ty ∈ lw_tbl) : (Cond.arrayClass ty).before args s = true := hT _ h rfl
theorem mm_ne_n {G : Nat → Option va_E} {a b : Nat} {c1 c2 : ClassId} {n1 n2 : Nat} {x y : (Nat → Int32) ⊕ (Nat → Int64) ⊕ (Nat → UInt32) ⊕ (Nat → UInt64) ⊕ (Nat → Option Nat)} (h1 : G a = some (.inl (c1, n1, x))) (h2 : G b = some (.inl (c2, n2, y))) (h : n1 ≠ n2) : a ≠ b := mm_ne_e h1 h2 (fun z => h (Prod.mk.inj (Prod.mk.inj (Sum.inl.inj z)).2).1)
theorem mm_ne_new {G : Nat → Option va_E} {b q : Nat} {e : va_E} (h : G b = some e) (hn : G q = none) : b ≠ q := fun z => by
  subst z
  rw [hn] at h
  cases h
