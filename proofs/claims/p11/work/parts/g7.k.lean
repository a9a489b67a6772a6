theorem oc_n_le {n : Nat} (h : n ≤ 64) : ∃ m, m ≤ 64 ∧ oc_n (nI n) + 1 = nI m ∧ 1 ≤ m ∧ (oc_n (nI n)).toNatClampNeg = m - 1 := by
  unfold oc_n
  by_cases z : n = 64
  · rw [z, if_pos (by decide)]
    exact ⟨1, by omega, by decide, by omega, by decide⟩
  · rw [if_neg (fun y => z (nI_inj (by omega) (by omega) (y.trans (show (64 : Int32) = nI 64 from rfl))))]
    exact ⟨n + 1, by omega, (nI_succ n).symm, by omega, by rw [nI_clamp (by omega)]; rfl⟩

theorem spO_lt {v : EdV} {i j : Int32} {y : Nat × Nat} (h : spO v i j = some y) : y.1 < v.nS ∧ y.2 < v.nP y.1 := by
  unfold spO at h
  cases hs : svO v i with
  | none => rw [hs] at h; cases h
  | some c =>
    rw [hs] at h
    cases hp : paO v c j with
    | none => simp only [hp] at h; cases h
    | some p => simp only [hp] at h; cases h; exact ⟨oIx_lt hs, oIx_lt hp⟩
