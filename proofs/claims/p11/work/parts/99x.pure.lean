/-! ===== what every edition is that a read made ===== -/
section

variable {K : Nat → Nat} {S : Nat → Int32} {V : Nat → Int64}
theorem i32_w {x : Int64} (h1 : (1 : Int32).toInt64 ≤ x) (h2 : x ≤ (4 : Int32).toInt64) : ∃ n, 1 ≤ n ∧ n ≤ 4 ∧ x.toInt32 = nI n := by
  have a1 := Int64.le_iff_toInt_le.mp h1
  have a2 := Int64.le_iff_toInt_le.mp h2
  rw [show ((1 : Int32).toInt64).toInt = 1 by decide] at a1
  rw [show ((4 : Int32).toInt64).toInt = 4 by decide] at a2
  refine ⟨x.toInt.toNat, by omega, by omega, Int32.toInt_inj.mp ?_⟩
  rw [nI_toInt (by omega), Int64.toInt_toInt32]
  have e : x.toInt.bmod (2 ^ 32) = x.toInt := by
    apply Int.bmod_eq_of_le_mul_two <;> omega
  rw [e]
  omega
theorem q_num_w {q : Nat × Int32} : ∃ n, 1 ≤ n ∧ n ≤ 4 ∧ (q_num K S V 1 4 q).1 = nI n := by
  unfold q_num
  split
  · rename_i h
    exact i32_w h.2.1 h.2.2
  · exact ⟨1, by decide, by decide, rfl⟩
theorem q_cod_w {nC : Nat} {q : Nat × Int32} : ∃ n, 1 ≤ n ∧ n ≤ 4 ∧ (q_cod K S V nC q).2.1.2.2 = nI n := by
  obtain ⟨n, h1, h2, h3⟩ := @q_num_w K S V (q_take K S 8 (q_name K S V (q_begin S (nI nC) 12 q)).2)
  refine ⟨n, h1, h2, ?_⟩
  simp only [q_cod]
  split <;> exact h3
theorem wd_of {v : EdV} (h : ∀ k, k < v.nC → ∃ n, 1 ≤ n ∧ n ≤ 4 ∧ (v.C k).1.2.2 = nI n) : WDv v := by
  intro k hk
  obtain ⟨n, h1, h2, h3⟩ := h k hk
  have e : wdN v k = n := by
    unfold wdN
    rw [h3]
    exact nI_clamp (by omega)
  rw [e]
  exact ⟨h3, h1, h2⟩
theorem WDv.to {v : EdV} (h : WDv v) : ∀ k, k < v.nC → ∃ n, 1 ≤ n ∧ n ≤ 4 ∧ (v.C k).1.2.2 = nI n := fun k hk => ⟨wdN v k, (h k hk).2.1, (h k hk).2.2, (h k hk).1⟩
theorem q_svs_c {n : Nat} : ∀ {la : Nat} {v : EdV} {q : Nat × Int32}, (q_svs K S V n la v q).1.C = v.C := by
  induction n with
  | zero => intro la v q; rfl
  | succ n ih =>
    intro la v q
    rw [q_svs]
    split
    · exact ih
    · rfl
theorem q_lay_c {v : EdV} {q : Nat × Int32} : (q_lay K S V v q).1.C = v.C := by
  obtain ⟨q1, e1⟩ : ∃ y, y = q_begin S (nI v.nL) 6 q := ⟨_, rfl⟩
  obtain ⟨a, e2⟩ : ∃ y, y = q_name K S V q1 := ⟨_, rfl⟩
  obtain ⟨b, e3⟩ : ∃ y, y = (if se K a.2.1 a.2.2 17 then (S (a.2.1 + 1), q_name K S V (a.2.1 + 1, a.2.2)) else (0, (0, a.2))) := ⟨_, rfl⟩
  have h1 := @q_svs_c K S V 17 v.nL (v.addL (S q1.1, a.1, b.2.1, b.1)) (q_take K S 4 b.2.2)
  simp only [q_lay, ← e1, ← e2, ← e3]
  exact h1
theorem q_stm_w {v : EdV} {q : Nat × Int32} (h : WDv v) : WDv (q_stm K S V v q).1 := by
  unfold q_stm
  split
  · dsimp only
    obtain ⟨x, ex⟩ : ∃ y, y = (q_cod K S V v.nC q).2 := ⟨_, rfl⟩
    rw [← ex]
    refine wd_of (fun k hk => ?_)
    rw [addC_nC] at hk
    rw [addC_C]
    by_cases e : k = v.nC
    · obtain ⟨n, h1, h2, h3⟩ := @q_cod_w K S V v.nC q
      rw [← ex] at h3
      refine ⟨n, h1, h2, ?_⟩
      rw [e, up1_eq]
      exact h3
    · rw [up1_ne e]
      exact h.to k (by omega)
  · split
    · refine wd_of (fun k hk => ?_)
      rw [(@q_lay_o K S V v q).1] at hk
      rw [q_lay_c]
      exact h.to k hk
    · split
      · exact h
      · split
        · exact h
        · split
          · exact h
          · exact h
theorem q_fill_w {n : Nat} : ∀ {v : EdV} {q : Nat × Int32}, WDv v → WDv (q_fill K S V n v q).1 := by
  induction n with
  | zero => intro v q h; exact h
  | succ n ih =>
    intro v q h
    rw [q_fill]
    split
    · exact ih (q_stm_w h)
    · exact h
end
theorem rdV_w {ft : Nat → Int32} {tn : Nat} : WDv (rdV ft tn) := q_fill_w (fun k hk => absurd hk (Nat.not_lt_zero k))
