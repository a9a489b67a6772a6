/-! ===== names by number are names ===== -/
theorem ntL_inj {K : Nat → Nat} {V : Nat → Int64} : ∀ {n j k : Nat}, n < 2 ^ 30 → j < (ntL K V n).1 → k < (ntL K V n).1 → (ntL K V n).2 j = (ntL K V n).2 k → j = k := by
  intro n
  induction n with
  | zero => intro j k _ hj; exact absurd hj (Nat.not_lt_zero j)
  | succ n ih =>
    intro j k hn hj hk h
    have hle := @ntL_le K V n
    rw [ntL] at hj hk h
    by_cases hc : K n = 0 ∧ nof (fun j => decide ((ntL K V n).2 j = V n)) (ntL K V n).1 = 0
    · rw [if_pos hc] at hj hk h
      dsimp only at hj hk h
      have hno : ∀ i, i < (ntL K V n).1 → ¬ (ntL K V n).2 i = V n := by
        intro i hi z
        have h2 := hc.2
        unfold nof at h2
        cases hq : fndF (fun j => decide ((ntL K V n).2 j = V n)) (ntL K V n).1 0 with
        | none =>
          have := fnd_none hq i (Nat.zero_le i) (by omega)
          rw [decide_eq_true z] at this
          cases this
        | some i2 =>
          rw [hq] at h2
          have h4 := (fndF_some hq).2.1
          exact nI_ne0 (n := i2 + 1) (by omega) (by omega) h2
      unfold kup at h
      by_cases e1 : j = (ntL K V n).1
      · by_cases e2 : k = (ntL K V n).1
        · rw [e1, e2]
        · rw [if_pos e1, if_neg e2] at h
          exact absurd h.symm (hno k (by omega))
      · by_cases e2 : k = (ntL K V n).1
        · rw [if_neg e1, if_pos e2] at h
          exact absurd h (hno j (by omega))
        · rw [if_neg e1, if_neg e2] at h
          exact ih (by omega) (by omega) (by omega) h
    · rw [if_neg hc] at hj hk h
      exact ih (by omega) hj hk h
theorem NMt.inj {K : Nat → Nat} {V : Nat → Int64} {n : Nat} {r r2 : Int32} {x x2 : Int64} (hn : n < 2 ^ 30) (h1 : NMt K V n r x) (h2 : NMt K V n r2 x2) : r = r2 ↔ x = x2 := by
  have hle := @ntL_le K V n
  rcases h1 with ⟨a1, a2⟩ | ⟨a0, j, a1, a2, a3⟩
  · rcases h2 with ⟨b1, b2⟩ | ⟨b0, k, b1, b2, b3⟩
    · rw [a1, a2, b1, b2]
      exact ⟨fun _ => rfl, fun _ => rfl⟩
    · rw [a1, a2, b2]
      exact ⟨fun z => absurd z.symm (nI_ne0 (by omega) (by omega)), fun z => absurd z.symm b0⟩
  · rcases h2 with ⟨b1, b2⟩ | ⟨b0, k, b1, b2, b3⟩
    · rw [a2, b1, b2]
      exact ⟨fun z => absurd z (nI_ne0 (by omega) (by omega)), fun z => absurd z a0⟩
    · rw [a2, b2]
      constructor
      · intro z
        have := nI_inj (by omega) (by omega) z
        rw [← a3, ← b3, show j = k by omega]
      · intro z
        rw [ntL_inj hn a1 b1 (by rw [a3, b3, z])]
/-- 0 is no name -/
theorem NMt.z0 {K : Nat → Nat} {V : Nat → Int64} {n : Nat} {r : Int32} {x : Int64} (hn : n < 2 ^ 30) (h : NMt K V n r x) : r = 0 ↔ x = 0 := h.inj hn NMt.z
theorem fnI_cg {p p2 : Nat → Bool} {n : Nat} (h : ∀ i, i < n → p i = p2 i) : fnI p n = fnI p2 n := by
  unfold fnI
  rw [fndF_cg (fun i _ hi => h i (by omega))]
/-- is there one before: the first one that is like a is not a -/
theorem fnd_lt {p : Nat → Bool} {n a : Nat} (ha : a < n) (hp : p a = true) : ∃ i, fndF p n 0 = some i ∧ i ≤ a := by
  cases hq : fndF p n 0 with
  | none =>
    have := fnd_none hq a (Nat.zero_le a) (by omega)
    rw [hp] at this
    cases this
  | some i =>
    refine ⟨i, rfl, ?_⟩
    rcases Nat.lt_or_ge a i with y | y
    · have := fnd_first hq a (Nat.zero_le a) y
      rw [hp] at this
      cases this
    · exact y
section

variable {K : Nat → Nat} {V : Nat → Int64} {n : Nat} {F : Nat → Nat → Int32} {bo : Nat} {v : EdV} {r : Int32} {x : Int64}
/-- the reference's finders, by names -/
theorem bkC.at (h : bkC K V n F bo v) (hn : n < 2 ^ 30) (hr : NMt K V n r x) : fnI (fun j => decide (F 9 (12 * bo + j) = r)) v.nC = (match cdN v x with | none => -1 | some k => nI k) := by
  unfold cdN
  rw [fnI_cg (p2 := fun j => decide ((v.C j).1.2.1 = x)) (fun i hi => by rw [decide_eq_decide]; exact (h.2.2 i hi).1.1.inj hn hr)]
  rfl
theorem bkL.at (h : bkL K V n F bo v) (hn : n < 2 ^ 30) (hr : NMt K V n r x) : fnI (fun j => decide (F 18 (6 * bo + j) = r)) v.nL = (match lyN v x with | none => -1 | some k => nI k) := by
  unfold lyN
  rw [fnI_cg (p2 := fun j => decide ((v.L j).2.1 = x)) (fun i hi => by rw [decide_eq_decide]; exact (h.2.2 i hi).1.inj hn hr)]
  rfl
end
