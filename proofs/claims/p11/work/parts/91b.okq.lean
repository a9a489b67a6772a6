
section

variable {K : Nat → Nat} {S : Nat → Int32} {V : Nat → Int64}
/-- what stood in the row of whiles is never read -/
theorem q_opw_wf {nC on : Nat} {q : Nat × Int32} {wf wf' : Nat → Int32} (h : ∀ i, i < on → wf i = wf' i) : (q_opw K S nC on q wf).1 = (q_opw K S nC on q wf').1 ∧ (q_opw K S nC on q wf).2.1 = (q_opw K S nC on q wf').2.1 ∧ ∀ i, i < (q_opw K S nC on q wf).2.1 → (q_opw K S nC on q wf).2.2 i = (q_opw K S nC on q wf').2.2 i := by
  unfold q_opw
  split
  · refine ⟨rfl, rfl, fun i hi => ?_⟩
    have hi2 : i < on + 1 := hi
    show upd wf on (nI (nC - 1)) i = upd wf' on (nI (nC - 1)) i
    unfold upd
    split
    · rfl
    · exact h i (by omega)
  · exact ⟨rfl, rfl, h⟩
theorem q_op_wf {ta on nC : Nat} {q : Nat × Int32} {wf wf' : Nat → Int32} (h : ∀ i, i < on → wf i = wf' i) : (q_op K S V ta on nC q wf).1 = (q_op K S V ta on nC q wf').1 ∧ (q_op K S V ta on nC q wf).2.1 = (q_op K S V ta on nC q wf').2.1 ∧ (q_op K S V ta on nC q wf).2.2.2 = (q_op K S V ta on nC q wf').2.2.2 ∧ ∀ i, i < (q_op K S V ta on nC q wf).2.1 → (q_op K S V ta on nC q wf).2.2.1 i = (q_op K S V ta on nC q wf').2.2.1 i := by
  obtain ⟨q1, e1⟩ : ∃ y, y = q_begin S (nI ta) 40 (if K q.1 = 34 then (if on < 3 then q else (q.1, fl S q.1 q.2)) else q) := ⟨_, rfl⟩
  have h2 := q_opw_wf (K := K) (S := S) (nC := nC + 1) (q := q1) h
  simp only [q_op, ← e1]
  split
  · exact ⟨h2.1, h2.2.1, rfl, h2.2.2⟩
  · split
    · exact ⟨rfl, rfl, rfl, h⟩
    · split
      · exact ⟨rfl, rfl, rfl, h⟩
      · exact ⟨rfl, rfl, rfl, h⟩
theorem q_ops_wf {n : Nat} : ∀ {kk ta on : Nat} {wf wf' : Nat → Int32} {d : Nat → OpD} {q : Nat × Int32}, (∀ i, i < on → wf i = wf' i) → q_ops K S V n kk ta on wf d q = q_ops K S V n kk ta on wf' d q := by
  induction n with
  | zero => intro kk ta on wf wf' d q h; rfl
  | succ n ih =>
    intro kk ta on wf wf' d q h
    rw [q_ops, q_ops]
    by_cases h1 : 0 < on ∧ se K q.1 q.2 5 = true
    · rw [if_pos h1, if_pos h1, h (on - 1) (by omega)]
      exact ih (fun i hi => h i (by omega))
    · rw [if_neg h1, if_neg h1]
      obtain ⟨a, b, c, e⟩ := q_op_wf (K := K) (S := S) (V := V) (ta := ta) (nC := kk) (q := q) h
      split
      · rw [← a, ← b, ← c]
        exact ih e
      · rfl
theorem q_job_wf {nC : Nat} {q : Nat × Int32} {wf : Nat → Int32} : q_job K S V nC q wf = q_job K S V nC q (fun _ => 0) := by
  simp only [q_job]
  rw [q_ops_wf (wf := wf) (wf' := fun _ => 0) (fun i hi => absurd hi (Nat.not_lt_zero i))]
theorem q_rows_le {n : Nat} : ∀ {j : Nat} {q : Nat × Int32} {d : Nat → RwD}, (q_rows K S V n j q d).2.2.1 ≤ q.1 + 3 * n := by
  induction n with
  | zero => intro j q d; exact Nat.le_refl _
  | succ n ih =>
    intro j q d
    rw [q_rows]
    split
    · have h1 := @ih (j + 1) (q_row K S V j q).2 (dup' d j (q_row K S V j q).1)
      have h2 : (q_row K S V j q).2.1 ≤ q.1 + 3 := by
        simp only [q_row]
        obtain ⟨q0, e0⟩ : ∃ y, y = (if j = 8 then (q.1, fl S q.1 q.2) else q) := ⟨_, rfl⟩
        have l0 : q0.1 ≤ q.1 := by rw [e0]; split <;> exact Nat.le_refl _
        rw [← e0]
        have l1 := @q_num_le K S V 0 999999 q0
        have l2 := @q_name_le K S V (q_num K S V 0 999999 q0).2
        have l3 := @q_take_le K S 6 (q_name K S V (q_num K S V 0 999999 q0).2).2
        omega
      omega
    · show q.1 ≤ _
      omega
theorem q_form_le {q : Nat × Int32} : (q_form K S V q).1.1 ≤ q.1 + 9 := by
  unfold q_form
  split
  · have l1 := @q_take_le K S 6 (q.1 + 1, q.2)
    simp only [] at l1 ⊢
    omega
  · split
    · obtain ⟨a, e1⟩ : ∃ y, y = q_val K S V (q.1 + 1, q.2) := ⟨_, rfl⟩
      have l1 : a.2.1 ≤ q.1 + 1 + 2 := by rw [e1]; exact q_val_le
      rw [← e1]
      have l2 := @q_take_le K S 9 a.2
      have l3 := @q_num_le K S V 1 999999 (q_take K S 9 a.2)
      obtain ⟨b, e2⟩ : ∃ y, y = q_num K S V 1 999999 (q_take K S 9 a.2) := ⟨_, rfl⟩
      rw [← e2] at l3 ⊢
      have l4 := @q_take_le K S 15 b.2
      have l5 := @q_val_le K S V (q_take K S 15 b.2)
      have l6 := @q_take_le K S 6 (q_val K S V (q_take K S 15 b.2)).2
      simp only []
      omega
    · have l1 := @q_take_le K S 6 q
      simp only []
      omega
theorem q_cod_le {nC : Nat} {q : Nat × Int32} : (q_cod K S V nC q).1.1 ≤ q.1 + 60 := by
  simp only [q_cod]
  obtain ⟨q1, e1⟩ : ∃ y, y = q_begin S (nI nC) 12 q := ⟨_, rfl⟩
  have l1 : q1.1 ≤ q.1 + 1 := by rw [e1]; exact q_begin_le
  obtain ⟨a, e2⟩ : ∃ y, y = q_name K S V q1 := ⟨_, rfl⟩
  have l2 : a.2.1 ≤ q1.1 + 1 := by rw [e2]; exact q_name_le
  obtain ⟨q2, e3⟩ : ∃ y, y = q_take K S 8 a.2 := ⟨_, rfl⟩
  have l3 : q2.1 ≤ a.2.1 + 1 := by rw [e3]; exact q_take_le
  obtain ⟨w, e4⟩ : ∃ y, y = q_num K S V 1 4 q2 := ⟨_, rfl⟩
  have l4 : w.2.1 ≤ q2.1 + 1 := by rw [e4]; exact q_num_le
  obtain ⟨q3, e5⟩ : ∃ y, y = q_take K S 12 w.2 := ⟨_, rfl⟩
  have l5 : q3.1 ≤ w.2.1 + 1 := by rw [e5]; exact q_take_le
  simp only [← e1, ← e2, ← e3, ← e4, ← e5]
  split
  · have l6 := @q_rows_le K S V 9 0 (q3.1 + 1, q3.2) (fun _ => (0, 0, 0, 0))
    have l7 := @q_take_le K S 5 (q_rows K S V 9 0 (q3.1 + 1, q3.2) (fun _ => (0, 0, 0, 0))).2.2
    simp only [] at l6 ⊢
    omega
  · have l6 := @q_form_le K S V q3
    simp only []
    omega
theorem q_code_le {nC : Nat} {q : Nat × Int32} : (q_code K S V nC q).1.1 ≤ q.1 + 5 := by
  have l1 := @q_begin_le S (nI nC) 12 q
  have l2 := @q_num_le K S V 0 999999 (q_begin S (nI nC) 12 q)
  have l3 := @q_take_le K S 8 (q_num K S V 0 999999 (q_begin S (nI nC) 12 q)).2
  have l4 := @q_name_le K S V (q_take K S 8 (q_num K S V 0 999999 (q_begin S (nI nC) 12 q)).2)
  have l5 := @q_take_le K S 6 (q_name K S V (q_take K S 8 (q_num K S V 0 999999 (q_begin S (nI nC) 12 q)).2)).2
  simp only [q_code]
  omega
theorem q_vari_le {nC : Nat} {q : Nat × Int32} : (q_vari K S V nC q).1.1 ≤ q.1 + 5 := by
  have l1 := @q_begin_le S (nI nC) 6 q
  have l2 := @q_name_le K S V (q_begin S (nI nC) 6 q)
  have l3 := @q_take_le K S 8 (q_name K S V (q_begin S (nI nC) 6 q)).2
  have l4 := @q_num_le K S V 0 999999 (q_take K S 8 (q_name K S V (q_begin S (nI nC) 6 q)).2)
  have l5 := @q_take_le K S 6 (q_num K S V 0 999999 (q_take K S 8 (q_name K S V (q_begin S (nI nC) 6 q)).2)).2
  simp only [q_vari]
  omega
theorem q_ops_le {n : Nat} : ∀ {kk ta on : Nat} {wf : Nat → Int32} {d : Nat → OpD} {q : Nat × Int32}, (q_ops K S V n kk ta on wf d q).2.2.1 ≤ q.1 + 5 * n := by
  induction n with
  | zero => intro kk ta on wf d q; exact Nat.le_refl _
  | succ n ih =>
    intro kk ta on wf d q
    rw [q_ops]
    split
    · have h1 := @ih (kk + 1) ta (on - 1) wf (q_clw kk (wf (on - 1)).toNatClampNeg d) (q_take K S 5 q)
      have h2 := @q_take_le K S 5 q
      omega
    · split
      · have h1 := @ih (kk + 1) (ta + 1) (q_op K S V ta on kk q wf).2.1 (q_op K S V ta on kk q wf).2.2.1 (upO d kk (q_op K S V ta on kk q wf).2.2.2) (q_op K S V ta on kk q wf).1
        have h2 := @q_op_le K S V ta on kk q wf
        omega
      · show q.1 ≤ _
        omega
theorem q_job_le {nC : Nat} {q : Nat × Int32} {wf : Nat → Int32} : (q_job K S V nC q wf).1.1 ≤ q.1 + 500 := by
  have l1 := @q_begin_le S (nI nC) 4 q
  have l2 := @q_name_le K S V (q_begin S (nI nC) 4 q)
  have l3 := @q_take_le K S 4 (q_name K S V (q_begin S (nI nC) 4 q)).2
  have l4 := @q_ops_le K S V 81 0 0 0 wf d0O (q_take K S 4 (q_name K S V (q_begin S (nI nC) 4 q)).2)
  have l5 := @q_take_le K S 5 (q_ops K S V 81 0 0 0 wf d0O (q_take K S 4 (q_name K S V (q_begin S (nI nC) 4 q)).2)).2.2
  simp only [q_job]
  omega
end
