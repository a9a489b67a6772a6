def q_ops (K : Nat → Nat) (S : Nat → Int32) (V : Nat → Int64) : Nat → Nat → Nat → Nat → (Nat → Int32) → (Nat → OpD) → Nat × Int32 → Nat × (Nat → OpD) × (Nat × Int32)
  | 0, kk, _, _, _, d, q => (kk, d, q)
  | n + 1, kk, ta, on, wf, d, q =>
    if 0 < on ∧ se K q.1 q.2 5 = true then q_ops K S V n (kk + 1) ta (on - 1) wf (q_clw kk (wf (on - 1)).toNatClampNeg d) (q_take K S 5 q)
    else if isO (K q.1) = true ∧ q.2 < 0 then q_ops K S V n (kk + 1) (ta + 1) (q_op K S V ta on kk q wf).2.1 (q_op K S V ta on kk q wf).2.2.1 (upO d kk (q_op K S V ta on kk q wf).2.2.2) (q_op K S V ta on kk q wf).1
    else (kk, d, q)
def d0O : Nat → OpD := fun _ => (0, 0, 0, 0, 0, 0, 0)
/-- a job: (place, fault); where, name; its OPS. wf0: what stood in the row of whiles -/
def q_job (K : Nat → Nat) (S : Nat → Int32) (V : Nat → Int64) (nC : Nat) (q : Nat × Int32) (wf : Nat → Int32) : (Nat × Int32) × (Int32 × Int64) × (Nat × (Nat → OpD)) :=
  let q1 := q_begin S (nI nC) 4 q
  let a := q_name K S V q1
  let q3 := q_take K S 4 a.2
  (q_take K S 5 (q_ops K S V 81 0 0 0 wf d0O q3).2.2, (S q1.1, a.1), ((q_ops K S V 81 0 0 0 wf d0O q3).1, (q_ops K S V 81 0 0 0 wf d0O q3).2.1))
theorem q_op_le {K : Nat → Nat} {S : Nat → Int32} {V : Nat → Int64} {ta on nC : Nat} {q : Nat × Int32} {wf : Nat → Int32} : (q_op K S V ta on nC q wf).1.1 ≤ q.1 + 5 := by
  obtain ⟨q0, e0⟩ : ∃ y, y = (if K q.1 = 34 then (if on < 3 then q else (q.1, fl S q.1 q.2)) else q) := ⟨_, rfl⟩
  have l0 : q0.1 ≤ q.1 := by rw [e0]; split <;> (try split) <;> exact Nat.le_refl _
  obtain ⟨q1, e1⟩ : ∃ y, y = q_begin S (nI ta) 40 q0 := ⟨_, rfl⟩
  have l1 : q1.1 ≤ q0.1 + 1 := by rw [e1]; exact q_begin_le
  obtain ⟨a, e2⟩ : ∃ y, y = q_name K S V q1 := ⟨_, rfl⟩
  have l2 : a.2.1 ≤ q1.1 + 1 := by rw [e2]; exact q_name_le
  obtain ⟨b, e3⟩ : ∃ y, y = q_name K S V a.2 := ⟨_, rfl⟩
  have l3 : b.2.1 ≤ a.2.1 + 1 := by rw [e3]; exact q_name_le
  obtain ⟨v, e4⟩ : ∃ y, y = q_val K S V q1 := ⟨_, rfl⟩
  have l4 : v.2.1 ≤ q1.1 + 2 := by rw [e4]; exact q_val_le
  have l5 : (q_opw K S (nC + 1) on q1 wf).1.1 ≤ q1.1 + 1 := by
    unfold q_opw
    split
    · exact q_take_le
    · show q1.1 ≤ _
      omega
  have m1 := @q_take_le K S 6 v.2
  have m2 := @q_take_le K S 6 b.2
  have m3 := @q_take_le K S 6 q1
  simp only [q_op, ← e0, ← e1, ← e2, ← e3, ← e4]
  split
  · show (q_opw K S (nC + 1) on q1 wf).1.1 ≤ _
    omega
  · split
    · show (q_take K S 6 v.2).1 ≤ _
      omega
    · split
      · show (q_take K S 6 b.2).1 ≤ _
        omega
      · show (q_take K S 6 q1).1 ≤ _
        omega
theorem q_op_on {K : Nat → Nat} {S : Nat → Int32} {V : Nat → Int64} {ta on nC : Nat} {q : Nat × Int32} {wf : Nat → Int32} (h : on ≤ 3) (hw : ∀ a, a < on → ∃ sx, sx < nC ∧ wf a = nI sx) : (q_op K S V ta on nC q wf).2.1 ≤ 3 ∧ ∀ a, a < (q_op K S V ta on nC q wf).2.1 → ∃ sx, sx < nC + 1 ∧ (q_op K S V ta on nC q wf).2.2.1 a = nI sx := by
  have hw2 : ∀ a, a < on → ∃ sx, sx < nC + 1 ∧ wf a = nI sx := fun a ha => by
    obtain ⟨sx, h1, h2⟩ := hw a ha
    exact ⟨sx, by omega, h2⟩
  have key : ∀ q1, (q_opw K S (nC + 1) on q1 wf).2.1 ≤ 3 ∧ ∀ a, a < (q_opw K S (nC + 1) on q1 wf).2.1 → ∃ sx, sx < nC + 1 ∧ (q_opw K S (nC + 1) on q1 wf).2.2 a = nI sx := by
    intro q1
    unfold q_opw
    split
    · rename_i h3
      refine ⟨by show on + 1 ≤ 3; omega, fun a ha => ?_⟩
      have ha2 : a < on + 1 := ha
      by_cases hz : a = on
      · exact ⟨nC, by omega, by show upd wf on (nI (nC + 1 - 1)) a = _; rw [hz]; simp [upd]⟩
      · obtain ⟨sx, h1, h2⟩ := hw2 a (by omega)
        exact ⟨sx, h1, by show upd wf on (nI (nC + 1 - 1)) a = _; simp only [upd, hz, if_false]; exact h2⟩
    · exact ⟨h, hw2⟩
  simp only [q_op]
  split
  · exact key _
  · split
    · exact ⟨h, hw2⟩
    · split
      · exact ⟨h, hw2⟩
      · exact ⟨h, hw2⟩
/-- what the row of ops costs with its growth -/
def slj : Nat → Nat
  | 0 => 0
  | n + 1 => slj n + 9 + gco n
theorem slj_mono : ∀ n, n < 82 → slj n ≤ slj 81 := by decide +kernel
theorem slj_81 : slj 81 = 1040 := by decide +kernel
