/-! ===== the ring ===== -/
theorem rgF_orb {v : EdV} {b m : Nat} (h : RGe v b m) (hm : 1 ≤ m) : ∀ n j, j < m → rgF v b n (some (orb v b j)) = if j + n < m then some (orb v b (j + n)) else none := by
  intro n
  induction n with
  | zero => intro j hj; rw [if_pos (by omega)]; rfl
  | succ n ih =>
    intro j hj
    rw [rgF]
    by_cases z : j + 1 < m
    · obtain ⟨h1, k, h2⟩ := h.2 j z
      have e : orb v b (j + 1) = k := by show (nx v (orb v b j)).getD 0 = k; rw [h2]; rfl
      rw [if_neg h1, h2, ← e, ih (j + 1) z, show j + 1 + n = j + (n + 1) by omega]
    · have e : j = m - 1 := by omega
      rw [e, if_pos h.1, rgF_none, if_neg (by omega)]
theorem ring_eq {v : EdV} {Iv : Nat → Int32} {F : Nat → Nat → Int32} {b : Nat} {iv : Int32} (h : RGS v Iv F b) : rgM Iv F iv = if 0 ≤ iv ∧ iv < 6 then nu1 (rgF v b iv.toNatClampNeg (some b)) else 0 := by
  obtain ⟨m, h1, h2, h3, h4, h5⟩ := h
  unfold rgM
  rw [h3]
  by_cases z : 0 ≤ iv ∧ iv < 6
  · obtain ⟨i, hi, e⟩ := nI_of (Int32.not_lt.mpr z.1)
    have h6 : i < 6 := (nI_ltI hi (by decide)).mp (show nI i < nI 6 by rw [← e]; exact z.2)
    rw [if_pos z, e, nI_clamp hi]
    have o := rgF_orb h5 h1 i 0 h1
    by_cases y : i < m
    · rw [if_pos (by omega), Nat.zero_add] at o
      rw [if_pos ⟨nI_pos hi, nI_lt y (by omega)⟩, h4 i y, show rgF v b i (some b) = some (orb v b i) from o]
      rfl
    · rw [if_neg (by omega)] at o
      rw [if_neg (fun q => nI_nlt (by omega) hi q.2), show rgF v b i (some b) = none from o]
      rfl
  · rw [if_neg z, if_neg]
    intro y
    exact z ⟨Int32.not_lt.mp y.1, Int32.lt_of_lt_of_le y.2 (nI_le (b := 6) h2 (by decide))⟩
