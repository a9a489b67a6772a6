/-! ===== a statement takes a token ===== -/
section

variable {K : Nat → Nat} {S : Nat → Int32} {V : Nat → Int64}
theorem ge_row {j : Nat} {q : Nat × Int32} : q.1 ≤ (q_row K S V j q).2.1 := by
  obtain ⟨q0, e0⟩ : ∃ y, y = (if j = 8 then (q.1, fl S q.1 q.2) else q) := ⟨_, rfl⟩
  have h0 : q0.1 = q.1 := by rw [e0]; split <;> rfl
  obtain ⟨a, e1⟩ : ∃ y, y = q_num K S V 0 999999 q0 := ⟨_, rfl⟩
  obtain ⟨b, e2⟩ : ∃ y, y = q_name K S V a.2 := ⟨_, rfl⟩
  have h1 : q0.1 ≤ a.2.1 := by rw [e1]; exact ge_num
  have h2 : a.2.1 ≤ b.2.1 := by rw [e2]; exact ge_name
  have h3 := @ge_take K S 6 b.2
  simp only [q_row, ← e0, ← e1, ← e2]
  omega
theorem ge_rows {n : Nat} : ∀ {j : Nat} {q : Nat × Int32} {d : Nat → RwD}, q.1 ≤ (q_rows K S V n j q d).2.2.1 := by
  induction n with
  | zero => intro j q d; exact Nat.le_refl _
  | succ n ih =>
    intro j q d
    rw [q_rows]
    split
    · exact Nat.le_trans ge_row ih
    · exact Nat.le_refl _
theorem ge_form {q : Nat × Int32} : q.1 ≤ (q_form K S V q).1.1 := by
  obtain ⟨a, e1⟩ : ∃ y, y = q_val K S V (q.1 + 1, q.2) := ⟨_, rfl⟩
  obtain ⟨b, e2⟩ : ∃ y, y = q_take K S 9 a.2 := ⟨_, rfl⟩
  obtain ⟨c, e3⟩ : ∃ y, y = q_num K S V 1 999999 b := ⟨_, rfl⟩
  obtain ⟨d, e4⟩ : ∃ y, y = q_take K S 15 c.2 := ⟨_, rfl⟩
  obtain ⟨e, e5⟩ : ∃ y, y = q_val K S V d := ⟨_, rfl⟩
  have h1 : q.1 + 1 ≤ a.2.1 := by rw [e1]; exact ge_val (q := (q.1 + 1, q.2))
  have h2 : a.2.1 ≤ b.1 := by rw [e2]; exact ge_take
  have h3 : b.1 ≤ c.2.1 := by rw [e3]; exact ge_num
  have h4 : c.2.1 ≤ d.1 := by rw [e4]; exact ge_take
  have h5 : d.1 ≤ e.2.1 := by rw [e5]; exact ge_val
  have h6 := @ge_take K S 6 e.2
  have h7 := @ge_take K S 6 (q.1 + 1, q.2)
  have h8 := @ge_take K S 6 q
  simp only [q_form, ← e1, ← e2, ← e3, ← e4, ← e5]
  dsimp only at h7
  split
  · dsimp only; omega
  · split
    · dsimp only; omega
    · dsimp only; omega
theorem adv_cod (hS : ∀ p, ¬ S p < 0) {nC : Nat} {q : Nat × Int32} (h : (q_cod K S V nC q).1.2 < 0) : q.1 < (q_cod K S V nC q).1.1 := by
  obtain ⟨q1, e1⟩ : ∃ y, y = q_begin S (nI nC) 12 q := ⟨_, rfl⟩
  by_cases hb : q1.2 < 0
  · have hb2 := ad_begin hS (hv := nI nC) (mo := 12) (q := q) (by rw [← e1]; exact hb)
    rw [← e1] at hb2
    obtain ⟨a, e2⟩ : ∃ y, y = q_name K S V q1 := ⟨_, rfl⟩
    obtain ⟨b, e3⟩ : ∃ y, y = q_take K S 8 a.2 := ⟨_, rfl⟩
    obtain ⟨c, e4⟩ : ∃ y, y = q_num K S V 1 4 b := ⟨_, rfl⟩
    obtain ⟨d, e5⟩ : ∃ y, y = q_take K S 12 c.2 := ⟨_, rfl⟩
    have h2 : q1.1 ≤ a.2.1 := by rw [e2]; exact ge_name
    have h3 : a.2.1 ≤ b.1 := by rw [e3]; exact ge_take
    have h4 : b.1 ≤ c.2.1 := by rw [e4]; exact ge_num
    have h5 : c.2.1 ≤ d.1 := by rw [e5]; exact ge_take
    have h6 := @ge_form K S V d
    have h7 := @ge_rows K S V 9 0 (d.1 + 1, d.2) (fun _ => (0, 0, 0, 0))
    have h8 := @ge_take K S 5 (q_rows K S V 9 0 (d.1 + 1, d.2) (fun _ => (0, 0, 0, 0))).2.2
    simp only [q_cod, ← e1, ← e2, ← e3, ← e4, ← e5]
    split
    · dsimp only at h7 ⊢; omega
    · dsimp only; omega
  · exfalso
    have hq : (q_cod K S V nC q).1 = q1 := by
      simp only [q_cod, q_form, ← e1]
      rw [q_name_f hb]
      dsimp only
      rw [q_take_f hb, q_num_f hb, q_take_f hb, se_f hb, if_neg Bool.false_ne_true]
      dsimp only
      rw [se_f hb, se_f hb, if_neg Bool.false_ne_true, if_neg Bool.false_ne_true]
      dsimp only
      rw [q_take_f hb]
    rw [hq] at h
    exact hb h
theorem adv_code (hS : ∀ p, ¬ S p < 0) {nC : Nat} {q : Nat × Int32} (h : (q_code K S V nC q).1.2 < 0) : q.1 < (q_code K S V nC q).1.1 := by
  obtain ⟨q1, e1⟩ : ∃ y, y = q_begin S (nI nC) 12 q := ⟨_, rfl⟩
  obtain ⟨a, e2⟩ : ∃ y, y = q_num K S V 0 999999 q1 := ⟨_, rfl⟩
  obtain ⟨b, e3⟩ : ∃ y, y = q_take K S 8 a.2 := ⟨_, rfl⟩
  obtain ⟨c, e4⟩ : ∃ y, y = q_name K S V b := ⟨_, rfl⟩
  obtain ⟨d, e5⟩ : ∃ y, y = q_take K S 6 c.2 := ⟨_, rfl⟩
  simp only [q_code, ← e1, ← e2, ← e3, ← e4, ← e5] at h ⊢
  have y5 := ad_take hS (K := K) (j := 6) (q := c.2) (by rw [← e5]; exact h)
  have y4 := ad_name hS (K := K) (V := V) (q := b) (by rw [← e4]; exact y5.1)
  have y3 := ad_take hS (K := K) (j := 8) (q := a.2) (by rw [← e3]; exact y4.1)
  have y2 := ad_num hS (K := K) (V := V) (lo := 0) (hi := 999999) (q := q1) (by rw [← e2]; exact y3.1)
  have y1 := ad_begin hS (hv := nI nC) (mo := 12) (q := q) (by rw [← e1]; exact y2.1)
  rw [← e5] at y5
  rw [← e4] at y4
  rw [← e3] at y3
  rw [← e2] at y2
  rw [← e1] at y1
  omega
theorem adv_vari (hS : ∀ p, ¬ S p < 0) {nC : Nat} {q : Nat × Int32} (h : (q_vari K S V nC q).1.2 < 0) : q.1 < (q_vari K S V nC q).1.1 := by
  obtain ⟨q1, e1⟩ : ∃ y, y = q_begin S (nI nC) 6 q := ⟨_, rfl⟩
  obtain ⟨a, e2⟩ : ∃ y, y = q_name K S V q1 := ⟨_, rfl⟩
  obtain ⟨b, e3⟩ : ∃ y, y = q_take K S 8 a.2 := ⟨_, rfl⟩
  obtain ⟨c, e4⟩ : ∃ y, y = q_num K S V 0 999999 b := ⟨_, rfl⟩
  obtain ⟨d, e5⟩ : ∃ y, y = q_take K S 6 c.2 := ⟨_, rfl⟩
  simp only [q_vari, ← e1, ← e2, ← e3, ← e4, ← e5] at h ⊢
  have y5 := ad_take hS (K := K) (j := 6) (q := c.2) (by rw [← e5]; exact h)
  have y4 := ad_num hS (K := K) (V := V) (lo := 0) (hi := 999999) (q := b) (by rw [← e4]; exact y5.1)
  have y3 := ad_take hS (K := K) (j := 8) (q := a.2) (by rw [← e3]; exact y4.1)
  have y2 := ad_name hS (K := K) (V := V) (q := q1) (by rw [← e2]; exact y3.1)
  have y1 := ad_begin hS (hv := nI nC) (mo := 6) (q := q) (by rw [← e1]; exact y2.1)
  rw [← e5] at y5
  rw [← e4] at y4
  rw [← e3] at y3
  rw [← e2] at y2
  rw [← e1] at y1
  omega
theorem ge_par {j : Nat} {q : Nat × Int32} : q.1 ≤ (q_par K S V j q).1.1 := by
  obtain ⟨q1, e1⟩ : ∃ y, y = q_begin S (nI j) 8 q := ⟨_, rfl⟩
  obtain ⟨a, e2⟩ : ∃ y, y = q_name K S V q1 := ⟨_, rfl⟩
  obtain ⟨b, e3⟩ : ∃ y, y = q_take K S 7 a.2 := ⟨_, rfl⟩
  obtain ⟨c, e4⟩ : ∃ y, y = q_name K S V b := ⟨_, rfl⟩
  obtain ⟨d, e5⟩ : ∃ y, y = q_name K S V (c.2.1 + 1, c.2.2) := ⟨_, rfl⟩
  obtain ⟨e, e6⟩ : ∃ y, y = q_take K S 8 d.2 := ⟨_, rfl⟩
  obtain ⟨f, e7⟩ : ∃ y, y = q_num K S V 0 999999 e := ⟨_, rfl⟩
  have h1 : q.1 ≤ q1.1 := by rw [e1]; exact ge_begin
  have h2 : q1.1 ≤ a.2.1 := by rw [e2]; exact ge_name
  have h3 : a.2.1 ≤ b.1 := by rw [e3]; exact ge_take
  have h4 : b.1 ≤ c.2.1 := by rw [e4]; exact ge_name
  have h5 : c.2.1 + 1 ≤ d.2.1 := by rw [e5]; exact ge_name (q := (c.2.1 + 1, c.2.2))
  have h6 : d.2.1 ≤ e.1 := by rw [e6]; exact ge_take
  have h7 : e.1 ≤ f.2.1 := by rw [e7]; exact ge_num
  have h8 := @ge_take K S 6 f.2
  have h9 := @ge_take K S 6 d.2
  have h10 := @ge_take K S 6 c.2
  simp only [q_par, ← e1, ← e2, ← e3, ← e4, ← e5, ← e6, ← e7]
  split
  · dsimp only; omega
  · split
    · dsimp only; omega
    · dsimp only; omega
theorem ge_pars {n : Nat} : ∀ {j : Nat} {q : Nat × Int32} {d : Nat → PrD}, q.1 ≤ (q_pars K S V n j q d).2.2.1 := by
  induction n with
  | zero => intro j q d; exact Nat.le_refl _
  | succ n ih =>
    intro j q d
    rw [q_pars]
    split
    · exact Nat.le_trans ge_par ih
    · exact Nat.le_refl _
theorem ge_ser {nC : Nat} {q : Nat × Int32} : q.1 ≤ (q_ser K S V nC q).1.1 := by
  obtain ⟨q1, e1⟩ : ∃ y, y = q_begin S (nI nC) 16 q := ⟨_, rfl⟩
  obtain ⟨a, e2⟩ : ∃ y, y = q_name K S V q1 := ⟨_, rfl⟩
  obtain ⟨b, e3⟩ : ∃ y, y = q_take K S 8 a.2 := ⟨_, rfl⟩
  obtain ⟨c, e4⟩ : ∃ y, y = q_num K S V 0 191 b := ⟨_, rfl⟩
  obtain ⟨d, e5⟩ : ∃ y, y = q_take K S 4 c.2 := ⟨_, rfl⟩
  have h1 : q.1 ≤ q1.1 := by rw [e1]; exact ge_begin
  have h2 : q1.1 ≤ a.2.1 := by rw [e2]; exact ge_name
  have h3 : a.2.1 ≤ b.1 := by rw [e3]; exact ge_take
  have h4 : b.1 ≤ c.2.1 := by rw [e4]; exact ge_num
  have h5 : c.2.1 ≤ d.1 := by rw [e5]; exact ge_take
  have h6 := @ge_pars K S V 9 0 d d0P
  have h7 := @ge_take K S 5 (q_pars K S V 9 0 d d0P).2.2
  simp only [q_ser, ← e1, ← e2, ← e3, ← e4, ← e5]
  omega
theorem ge_svs {n : Nat} : ∀ {la : Nat} {v : EdV} {q : Nat × Int32}, q.1 ≤ (q_svs K S V n la v q).2.1 := by
  induction n with
  | zero => intro la v q; exact Nat.le_refl _
  | succ n ih =>
    intro la v q
    rw [q_svs]
    split
    · exact Nat.le_trans ge_ser ih
    · exact Nat.le_refl _
theorem adv_lay (hS : ∀ p, ¬ S p < 0) {v : EdV} {q : Nat × Int32} (h : (q_lay K S V v q).2.2 < 0) : q.1 < (q_lay K S V v q).2.1 := by
  obtain ⟨q1, e1⟩ : ∃ y, y = q_begin S (nI v.nL) 6 q := ⟨_, rfl⟩
  by_cases hb : q1.2 < 0
  · have hb2 := ad_begin hS (hv := nI v.nL) (mo := 6) (q := q) (by rw [← e1]; exact hb)
    rw [← e1] at hb2
    obtain ⟨a, e2⟩ : ∃ y, y = q_name K S V q1 := ⟨_, rfl⟩
    obtain ⟨b, e3⟩ : ∃ y, y = (if se K a.2.1 a.2.2 17 then (S (a.2.1 + 1), q_name K S V (a.2.1 + 1, a.2.2)) else (0, (0, a.2))) := ⟨_, rfl⟩
    obtain ⟨c, e4⟩ : ∃ y, y = q_take K S 4 b.2.2 := ⟨_, rfl⟩
    have h2 : q1.1 ≤ a.2.1 := by rw [e2]; exact ge_name
    have h3 : a.2.1 ≤ b.2.2.1 := by
      rw [e3]
      split
      · have := @ge_name K S V (a.2.1 + 1, a.2.2)
        dsimp only at this ⊢
        omega
      · exact Nat.le_refl _
    have h4 : b.2.2.1 ≤ c.1 := by rw [e4]; exact ge_take
    have h5 := @ge_svs K S V 17 v.nL (v.addL (S q1.1, a.1, b.2.1, b.1)) c
    have h6 := @ge_take K S 5 (q_svs K S V 17 v.nL (v.addL (S q1.1, a.1, b.2.1, b.1)) c).2
    simp only [q_lay, ← e1, ← e2, ← e3, ← e4]
    omega
  · exfalso
    have hq : (q_lay K S V v q).2 = q1 := by
      simp only [q_lay, ← e1]
      rw [q_name_f hb]
      dsimp only
      rw [se_f hb, if_neg Bool.false_ne_true]
      dsimp only
      rw [q_take_f hb, q_svs_f hb]
      dsimp only
      rw [q_take_f hb]
    rw [hq] at h
    exact hb h
theorem ge_op {ta on nC : Nat} {q : Nat × Int32} {wf : Nat → Int32} : q.1 ≤ (q_op K S V ta on nC q wf).1.1 := by
  obtain ⟨q0, e0⟩ : ∃ y, y = (if K q.1 = 34 then (if on < 3 then q else (q.1, fl S q.1 q.2)) else q) := ⟨_, rfl⟩
  have h0 : q.1 = q0.1 := by
    rw [e0]
    split
    · split <;> rfl
    · rfl
  obtain ⟨q1, e1⟩ : ∃ y, y = q_begin S (nI ta) 40 q0 := ⟨_, rfl⟩
  have h1 : q0.1 ≤ q1.1 := by rw [e1]; exact ge_begin
  obtain ⟨a, e2⟩ : ∃ y, y = q_name K S V q1 := ⟨_, rfl⟩
  obtain ⟨b, e3⟩ : ∃ y, y = q_name K S V a.2 := ⟨_, rfl⟩
  obtain ⟨w, e4⟩ : ∃ y, y = q_val K S V q1 := ⟨_, rfl⟩
  have h2 : q1.1 ≤ a.2.1 := by rw [e2]; exact ge_name
  have h3 : a.2.1 ≤ b.2.1 := by rw [e3]; exact ge_name
  have h4 : q1.1 ≤ w.2.1 := by rw [e4]; exact ge_val
  have h5 : q1.1 ≤ (q_opw K S (nC + 1) on q1 wf).1.1 := by
    unfold q_opw
    split
    · exact ge_take
    · exact Nat.le_refl _
  have h6 := @ge_take K S 6 w.2
  have h7 := @ge_take K S 6 b.2
  have h8 := @ge_take K S 6 q1
  simp only [q_op, ← e0, ← e1, ← e2, ← e3, ← e4]
  split
  · dsimp only; omega
  · split
    · dsimp only; omega
    · split
      · dsimp only; omega
      · dsimp only; omega
theorem ge_ops {n : Nat} : ∀ {kk ta on : Nat} {wf : Nat → Int32} {d : Nat → OpD} {q : Nat × Int32}, q.1 ≤ (q_ops K S V n kk ta on wf d q).2.2.1 := by
  induction n with
  | zero => intro kk ta on wf d q; exact Nat.le_refl _
  | succ n ih =>
    intro kk ta on wf d q
    rw [q_ops]
    split
    · exact Nat.le_trans ge_take ih
    · split
      · exact Nat.le_trans ge_op ih
      · exact Nat.le_refl _
theorem adv_job (hS : ∀ p, ¬ S p < 0) {nC : Nat} {q : Nat × Int32} {wf : Nat → Int32} (h : (q_job K S V nC q wf).1.2 < 0) : q.1 < (q_job K S V nC q wf).1.1 := by
  obtain ⟨q1, e1⟩ : ∃ y, y = q_begin S (nI nC) 4 q := ⟨_, rfl⟩
  by_cases hb : q1.2 < 0
  · have hb2 := ad_begin hS (hv := nI nC) (mo := 4) (q := q) (by rw [← e1]; exact hb)
    rw [← e1] at hb2
    obtain ⟨a, e2⟩ : ∃ y, y = q_name K S V q1 := ⟨_, rfl⟩
    obtain ⟨b, e3⟩ : ∃ y, y = q_take K S 4 a.2 := ⟨_, rfl⟩
    obtain ⟨r, e4⟩ : ∃ y, y = q_ops K S V 81 0 0 0 wf d0O b := ⟨_, rfl⟩
    have h2 : q1.1 ≤ a.2.1 := by rw [e2]; exact ge_name
    have h3 : a.2.1 ≤ b.1 := by rw [e3]; exact ge_take
    have h5 : b.1 ≤ r.2.2.1 := by rw [e4]; exact ge_ops
    have h6 := @ge_take K S 5 r.2.2
    simp only [q_job, ← e1, ← e2, ← e3, ← e4]
    omega
  · exfalso
    have hq : (q_job K S V nC q wf).1 = q1 := by
      simp only [q_job, ← e1]
      rw [q_name_f hb]
      dsimp only
      rw [q_take_f hb, q_ops_f hb]
      dsimp only
      rw [q_take_f hb]
    rw [hq] at h
    exact hb h
theorem adv_stm (hS : ∀ p, ¬ S p < 0) {v : EdV} {q : Nat × Int32} (h : (q_stm K S V v q).2.2 < 0) : q.1 < (q_stm K S V v q).2.1 := by
  unfold q_stm at h ⊢
  split at h
  · rename_i hk
    rw [if_pos hk]
    try dsimp only at h ⊢
    exact adv_cod hS h
  · rename_i hk
    rw [if_neg hk]
    split at h
    · rename_i hk
      rw [if_pos hk]
      try dsimp only at h ⊢
      exact adv_lay hS h
    · rename_i hk
      rw [if_neg hk]
      split at h
      · rename_i hk
        rw [if_pos hk]
        try dsimp only at h ⊢
        exact adv_code hS h
      · rename_i hk
        rw [if_neg hk]
        split at h
        · rename_i hk
          rw [if_pos hk]
          try dsimp only at h ⊢
          exact adv_vari hS h
        · rename_i hk
          rw [if_neg hk]
          split at h
          · rename_i hk
            rw [if_pos hk]
            try dsimp only at h ⊢
            exact adv_job hS h
          · exact absurd h (fl_ge hS)
end
