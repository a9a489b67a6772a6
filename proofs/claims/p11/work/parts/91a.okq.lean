/-! ===== the reader's steps: what holds of (place, fault) all along; the reader's main loop as a function ===== -/
/-- a fault is where the reader stands -/
def OKQ (S : Nat → Int32) (q : Nat × Int32) : Prop := q.2 < 0 ∨ q.2 = S q.1
section

variable {K : Nat → Nat} {S : Nat → Int32} {V : Nat → Int64}
theorem okq_inc {p : Nat} {fa : Int32} {j n : Nat} (h : se K p fa j = true) : OKQ S (n, fa) := Or.inl (se_t h).1
theorem okq_fl {q : Nat × Int32} (h : OKQ S q) : OKQ S (q.1, fl S q.1 q.2) := by
  unfold fl
  split
  · exact Or.inr rfl
  · exact h
theorem okq_take {j : Nat} {q : Nat × Int32} (h : OKQ S q) : OKQ S (q_take K S j q) := by
  unfold q_take
  split
  · rename_i hs; (try dsimp only); exact okq_inc hs
  · (try dsimp only); exact okq_fl h
theorem okq_name {q : Nat × Int32} (h : OKQ S q) : OKQ S (q_name K S V q).2 := by
  unfold q_name
  split
  · rename_i hs; (try dsimp only); exact okq_inc hs
  · (try dsimp only); exact okq_fl h
theorem okq_num {lo hi : Int32} {q : Nat × Int32} (h : OKQ S q) : OKQ S (q_num K S V lo hi q).2 := by
  unfold q_num
  split
  · rename_i hs; (try dsimp only); exact okq_inc hs.1
  · (try dsimp only); exact okq_fl h
theorem okq_begin {hv mo : Int32} {q : Nat × Int32} (h : OKQ S q) : OKQ S (q_begin S hv mo q) := by
  unfold q_begin
  split
  · split
    · rename_i hs; exact Or.inl hs
    · exact h
  · (try dsimp only); exact okq_fl h
theorem okq_val {q : Nat × Int32} (h : OKQ S q) : OKQ S (q_val K S V q).2 := by
  unfold q_val
  split
  · rename_i hs; (try dsimp only); exact okq_num (okq_inc hs)
  · (try dsimp only); exact okq_num h
theorem okq_row {j : Nat} {q : Nat × Int32} (h : OKQ S q) : OKQ S (q_row K S V j q).2 := by
  simp only [q_row]
  refine okq_take (okq_name (okq_num ?_))
  split
  · (try dsimp only); exact okq_fl h
  · exact h
theorem okq_rows {n : Nat} : ∀ {j : Nat} {q : Nat × Int32} {d : Nat → RwD}, OKQ S q → OKQ S (q_rows K S V n j q d).2.2 := by
  induction n with
  | zero => intro j q d h; exact h
  | succ n ih =>
    intro j q d h
    rw [q_rows]
    split
    · exact ih (okq_row h)
    · exact h
theorem okq_form {q : Nat × Int32} (h : OKQ S q) : OKQ S (q_form K S V q).1 := by
  unfold q_form
  split
  · rename_i hs; (try dsimp only); exact okq_take (okq_inc hs)
  · split
    · rename_i hs; (try dsimp only); exact okq_take (okq_val (okq_take (okq_num (okq_take (okq_val (okq_inc hs))))))
    · (try dsimp only); exact okq_take h
theorem okq_cod {nC : Nat} {q : Nat × Int32} (h : OKQ S q) : OKQ S (q_cod K S V nC q).1 := by
  simp only [q_cod]
  split
  · rename_i hs; (try dsimp only); exact okq_take (okq_rows (okq_inc hs))
  · (try dsimp only); exact okq_form (okq_take (okq_num (okq_take (okq_name (okq_begin h)))))
theorem okq_code {nC : Nat} {q : Nat × Int32} (h : OKQ S q) : OKQ S (q_code K S V nC q).1 := by
  simp only [q_code]
  exact okq_take (okq_name (okq_take (okq_num (okq_begin h))))
theorem okq_vari {nC : Nat} {q : Nat × Int32} (h : OKQ S q) : OKQ S (q_vari K S V nC q).1 := by
  simp only [q_vari]
  exact okq_take (okq_num (okq_take (okq_name (okq_begin h))))
theorem okq_par {nC : Nat} {q : Nat × Int32} (h : OKQ S q) : OKQ S (q_par K S V nC q).1 := by
  simp only [q_par]
  split
  · rename_i hs; (try dsimp only); exact okq_take (okq_num (okq_take (okq_name (okq_inc hs))))
  · split
    · rename_i hs; (try dsimp only); exact okq_take (okq_name (okq_inc hs))
    · (try dsimp only); exact okq_take (okq_name (okq_take (okq_name (okq_begin h))))
theorem okq_pars {n : Nat} : ∀ {j : Nat} {q : Nat × Int32} {d : Nat → PrD}, OKQ S q → OKQ S (q_pars K S V n j q d).2.2 := by
  induction n with
  | zero => intro j q d h; exact h
  | succ n ih =>
    intro j q d h
    rw [q_pars]
    split
    · exact ih (okq_par h)
    · exact h
theorem okq_ser {nC : Nat} {q : Nat × Int32} (h : OKQ S q) : OKQ S (q_ser K S V nC q).1 := by
  simp only [q_ser]
  exact okq_take (okq_pars (okq_take (okq_num (okq_take (okq_name (okq_begin h))))))
theorem okq_svs {n : Nat} : ∀ {la : Nat} {v : EdV} {q : Nat × Int32}, OKQ S q → OKQ S (q_svs K S V n la v q).2 := by
  induction n with
  | zero => intro la v q h; exact h
  | succ n ih =>
    intro la v q h
    rw [q_svs]
    split
    · exact ih (okq_ser h)
    · exact h
theorem okq_lay {v : EdV} {q : Nat × Int32} (h : OKQ S q) : OKQ S (q_lay K S V v q).2 := by
  simp only [q_lay]
  refine okq_take (okq_svs (okq_take ?_))
  split
  · rename_i hs; (try dsimp only); exact okq_name (okq_inc hs)
  · (try dsimp only); exact okq_name (okq_begin h)
theorem okq_opw {nC on : Nat} {q : Nat × Int32} {wf : Nat → Int32} (h : OKQ S q) : OKQ S (q_opw K S nC on q wf).1 := by
  unfold q_opw
  split
  · (try dsimp only); exact okq_take h
  · exact h
theorem okq_op {ta on nC : Nat} {q : Nat × Int32} {wf : Nat → Int32} (h : OKQ S q) : OKQ S (q_op K S V ta on nC q wf).1 := by
  simp only [q_op]
  obtain ⟨q1, e1⟩ : ∃ y, y = q_begin S (nI ta) 40 (if K q.1 = 34 then (if on < 3 then q else (q.1, fl S q.1 q.2)) else q) := ⟨_, rfl⟩
  have h1 : OKQ S q1 := by
    rw [e1]
    refine okq_begin ?_
    split
    · split
      · exact h
      · exact okq_fl h
    · exact h
  simp only [← e1]
  split
  · (try dsimp only); exact okq_opw h1
  · split
    · (try dsimp only); exact okq_take (okq_val h1)
    · split
      · (try dsimp only); exact okq_take (okq_name (okq_name h1))
      · (try dsimp only); exact okq_take h1
theorem okq_ops {n : Nat} : ∀ {kk ta on : Nat} {wf : Nat → Int32} {d : Nat → OpD} {q : Nat × Int32}, OKQ S q → OKQ S (q_ops K S V n kk ta on wf d q).2.2 := by
  induction n with
  | zero => intro kk ta on wf d q h; exact h
  | succ n ih =>
    intro kk ta on wf d q h
    rw [q_ops]
    split
    · exact ih (okq_take h)
    · split
      · exact ih (okq_op h)
      · exact h
theorem okq_job {nC : Nat} {q : Nat × Int32} {wf : Nat → Int32} (h : OKQ S q) : OKQ S (q_job K S V nC q wf).1 := by
  simp only [q_job]
  exact okq_take (okq_ops (okq_take (okq_name (okq_begin h))))
end
