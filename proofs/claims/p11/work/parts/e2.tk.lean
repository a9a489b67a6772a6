/-! ===== the tokens' starts increase; a name is not 0 ===== -/
theorem cutA_no {f : Nat → Int32} {a : Nat} : ∀ {n j : Nat}, j ≤ 12 → cutA f a n j = none → 12 < j + n := by
  intro n
  induction n with
  | zero => intro j _ h; cases h
  | succ n ih =>
    intro j hj h
    rw [cutA] at h
    split at h
    · split at h
      · omega
      · have y := ih (by omega) h
        omega
    · cases h
theorem cutN_no {f : Nat → Int32} {a : Nat} : ∀ {n j : Nat}, j ≤ 6 → cutN f a n j = none → 6 < j + n := by
  intro n
  induction n with
  | zero => intro j _ h; cases h
  | succ n ih =>
    intro j hj h
    rw [cutN] at h
    split at h
    · split at h
      · omega
      · have y := ih (by omega) h
        omega
    · cases h
theorem cutA_so {f : Nat → Int32} {a k : Nat} : ∀ {n j : Nat}, j ≤ 12 → cutA f a n j = some k → k ≤ 12 ∧ ∀ i, j ≤ i → i < k → aln (f (a + i)) = true := by
  intro n
  induction n with
  | zero => intro j hj h; injection h with h; exact ⟨by omega, fun i x y => by omega⟩
  | succ n ih =>
    intro j hj h
    rw [cutA] at h
    split at h
    · rename_i hc
      split at h
      · cases h
      · obtain ⟨h1, h2⟩ := ih (by omega) h
        refine ⟨h1, fun i x y => ?_⟩
        by_cases e : i = j
        · rw [e]
          exact hc
        · exact h2 i (by omega) y
    · injection h with h
      exact ⟨by omega, fun i x y => by omega⟩
theorem cutA_1 {f : Nat → Int32} {a k n : Nat} (hn : 0 < n) (ha : isLe (f a) = true) (h : cutA f a n 0 = some k) : 1 ≤ k := by
  cases n with
  | zero => omega
  | succ n =>
    rw [cutA, Nat.add_zero, ha, Bool.true_or, if_pos rfl, if_neg (by decide)] at h
    exact (cutA_le h).1
theorem cutN_1 {f : Nat → Int32} {a k n : Nat} (hn : 0 < n) (ha : isDi (f a) = true) (h : cutN f a n 0 = some k) : 1 ≤ k := by
  cases n with
  | zero => omega
  | succ n =>
    rw [cutN, Nat.add_zero, ha, if_pos rfl, if_neg (by decide)] at h
    exact (cutN_le h).1
theorem sgK_4 {c : Int32} {i : Nat} (h : sgK c = some i) : i ≠ 0 := by
  unfold sgK at h
  repeat' split at h
  all_goals first | (injection h with h; omega) | cases h
/-- a token: its start, its end, its value -/
theorem c1R_b {f : Nat → Int32} {a en : Nat} (ha : a < en) : ∃ m, (c1R f a en).1.2.1 = nI m ∧ a ≤ m ∧ m < (c1R f a en).2 ∧ (c1R f a en).2 ≤ en ∧ ((c1R f a en).1.1 = 0 → (c1R f a en).1.2.2 ≠ 0) := by
  unfold c1R
  split
  · rename_i hL
    unfold nmR
    split
    · rename_i hc
      have y := cutA_no (by omega) hc
      exact ⟨a + 12, rfl, by omega, by show a + 12 < en; omega, Nat.le_refl _, fun z => absurd z (by show ¬ (3 : Nat) = 0; decide)⟩
    · rename_i j hc
      have y1 := cutA_le hc
      have y2 := cutA_so (by omega) hc
      have y3 := cutA_1 (by omega) hL hc
      exact ⟨a, rfl, Nat.le_refl _, by show a < a + j; omega, by show a + j ≤ en; omega, fun _ => pkd_pos y2.1 y3 (fun k hk => y2.2 k (Nat.zero_le k) hk)⟩
  · split
    · rename_i hD
      unfold cnR
      split
      · rename_i hc
        have y := cutN_no (by omega) hc
        exact ⟨a + 6, rfl, by omega, by show a + 6 < en; omega, Nat.le_refl _, fun z => absurd z (by show ¬ (3 : Nat) = 0; decide)⟩
      · rename_i j hc
        have y1 := cutN_le hc
        have y3 := cutN_1 (by omega) hD hc
        split
        · rename_i h2
          exact ⟨a + j, rfl, by omega, by show a + j < en; omega, Nat.le_refl _, fun z => absurd z (by show ¬ (3 : Nat) = 0; decide)⟩
        · exact ⟨a, rfl, Nat.le_refl _, by show a < a + j; omega, by show a + j ≤ en; omega, fun z => absurd z (by show ¬ (1 : Nat) = 0; decide)⟩
    · split
      · exact ⟨a, rfl, Nat.le_refl _, ha, Nat.le_refl _, fun z => absurd z (by show ¬ (3 : Nat) = 0; decide)⟩
      · rename_i i hi
        rw [stF_1] at hi
        exact ⟨a, rfl, Nat.le_refl _, by show a < a + 1; omega, by show a + 1 ≤ en; omega, fun z => absurd z (sgK_4 hi)⟩
/-- what has been cut -/
def CUI (en : Nat) (x : CuS) : Prop := x.1 ≤ en ∧ (∀ j, j < x.2.1 → ∃ m, x.2.2.2.1 j = nI m ∧ m < x.1) ∧ (∀ i j, i < j → j < x.2.1 → ∃ m n, x.2.2.2.1 i = nI m ∧ x.2.2.2.1 j = nI n ∧ m < n ∧ n < x.1) ∧ ∀ j, x.2.2.1 j = 0 → x.2.2.2.2 j ≠ 0
theorem cutL_i {f : Nat → Int32} {en : Nat} : ∀ {n : Nat} {x : CuS}, CUI en x → CUI en (cutL f en n x) := by
  intro n
  induction n with
  | zero => intro x h; exact h
  | succ n ih =>
    intro x h
    rw [cutL]
    split
    · rename_i hx
      split
      · exact ih ⟨hx, fun j hj => by obtain ⟨m, h1, h2⟩ := h.2.1 j hj; exact ⟨m, h1, Nat.lt_succ_of_lt h2⟩, fun i j hij hj => by obtain ⟨m, n, h1, h2, h3, h4⟩ := h.2.2.1 i j hij hj; exact ⟨m, n, h1, h2, h3, Nat.lt_succ_of_lt h4⟩, h.2.2.2⟩
      · obtain ⟨m, c1, c2, c3, c4, c5⟩ := @c1R_b f x.1 en hx
        refine ih ⟨c4, fun j hj => ?_, fun i j hij hj => ?_, fun j hj => ?_⟩
        · have hj : j < x.2.1 + 1 := hj
          show ∃ m, kup x.2.2.2.1 x.2.1 (c1R f x.1 en).1.2.1 j = nI m ∧ m < (c1R f x.1 en).2
          by_cases e : j = x.2.1
          · rw [kup, if_pos e]
            exact ⟨m, c1, c3⟩
          · obtain ⟨m2, d1, d2⟩ := h.2.1 j (by omega)
            rw [kup, if_neg e]
            exact ⟨m2, d1, by omega⟩
        · have hj : j < x.2.1 + 1 := hj
          show ∃ m n, kup x.2.2.2.1 x.2.1 (c1R f x.1 en).1.2.1 i = nI m ∧ kup x.2.2.2.1 x.2.1 (c1R f x.1 en).1.2.1 j = nI n ∧ m < n ∧ n < (c1R f x.1 en).2
          rw [kup, if_neg (show ¬ i = x.2.1 by omega)]
          by_cases e : j = x.2.1
          · obtain ⟨m2, d1, d2⟩ := h.2.1 i (by omega)
            rw [kup, if_pos e]
            exact ⟨m2, m, d1, c1, by omega, c3⟩
          · rw [kup, if_neg e]
            obtain ⟨m2, n2, d1, d2, d3, d4⟩ := h.2.2.1 i j hij (by omega)
            exact ⟨m2, n2, d1, d2, d3, by omega⟩
        · have hj : kup x.2.2.1 x.2.1 (c1R f x.1 en).1.1 j = 0 := hj
          show kup x.2.2.2.2 x.2.1 (c1R f x.1 en).1.2.2 j ≠ 0
          unfold kup at hj ⊢
          by_cases e : j = x.2.1
          · rw [if_pos e] at hj ⊢
            exact c5 hj
          · rw [if_neg e] at hj ⊢
            exact h.2.2.2 j hj
    · exact h
theorem cutT_i {f : Nat → Int32} {en : Nat} : CUI en (cutT f en) := cutL_i ⟨Nat.zero_le _, fun j hj => absurd hj (Nat.not_lt_zero _), fun i j _ hj => absurd hj (Nat.not_lt_zero _), fun j hj => absurd hj (by show ¬ (3 : Nat) = 0; decide)⟩
theorem tkS_lt {f : Nat → Int32} {en i j : Nat} (hij : i < j) (hj : j < tkN f en) : ∃ m n, tkS f en i = nI m ∧ tkS f en j = nI n ∧ m < n ∧ n ≤ en := by
  obtain ⟨h1, h2, h3, -⟩ := @cutT_i f en
  have hj : j < (cutT f en).2.1 + 1 := hj
  unfold tkS kup
  rw [if_neg (show ¬ i = (cutT f en).2.1 by omega)]
  by_cases e : j = (cutT f en).2.1
  · obtain ⟨m, d1, d2⟩ := h2 i (by omega)
    rw [if_pos e]
    exact ⟨m, en, d1, rfl, by omega, Nat.le_refl _⟩
  · obtain ⟨m, n, d1, d2, d3, d4⟩ := h3 i j hij (by omega)
    rw [if_neg e]
    exact ⟨m, n, d1, d2, d3, by omega⟩
theorem tkS_le {f : Nat → Int32} {en j : Nat} (hj : j < tkN f en) : ∃ m, tkS f en j = nI m ∧ m ≤ en := by
  obtain ⟨h1, h2, -, -⟩ := @cutT_i f en
  have hj : j < (cutT f en).2.1 + 1 := hj
  unfold tkS kup
  by_cases e : j = (cutT f en).2.1
  · rw [if_pos e]
    exact ⟨en, rfl, Nat.le_refl _⟩
  · obtain ⟨m, d1, d2⟩ := h2 j (by omega)
    rw [if_neg e]
    exact ⟨m, d1, by omega⟩
theorem tkV_ne {f : Nat → Int32} {en p : Nat} (h : tkK f en p = 0) : tkV f en p ≠ 0 := by
  obtain ⟨-, -, -, h4⟩ := @cutT_i f en
  unfold tkK kup at h
  unfold tkV kup
  by_cases e : p = (cutT f en).2.1
  · rw [if_pos e] at h
    cases h
  · rw [if_neg e] at h ⊢
    exact h4 p h
/-! the first wrong claim is the first wrong place -/
theorem fw_none {S : Nat → Int32} {v : EdV} {cl : List CLi} {hi : Nat} (hcl : CLn S (PK v) 0 hi cl) (hSn : ∀ p, ¬ S p < 0) (hP : ∀ s, s < v.nS → v.nP s ≤ 8) (hO : ∀ j, j < v.nJ → v.nO j ≤ 80) (h : ∀ x, x ∈ cl → wrC v x.1 x.2.2.1 x.2.2.2 = false) : mAll v (-1, none) = (-1, none) := by
  have hN : ∀ k a b p, PK v k a b p → ¬ p < 0 := fun k a b p z => by
    obtain ⟨t, -, e⟩ := hcl.2.1 k a b p z
    rw [e]
    exact hSn t
  obtain ⟨h1, -, -⟩ := mAll_mn hN hP hO (w := (-1, none))
  rcases h1 with z | ⟨k, a, b, hp, hw, -⟩
  · exact z
  · obtain ⟨t, hm, -⟩ := hcl.2.1 k a b _ hp
    exact absurd (hw.symm.trans (h _ hm)) (by decide)
theorem fw_some {S : Nat → Int32} {v : EdV} {cl : List CLi} {hi : Nat} (hcl : CLn S (PK v) 0 hi cl) (hSm : ∀ i j, i < j → j < hi → S i < S j) (hSn : ∀ p, ¬ S p < 0) (hP : ∀ s, s < v.nS → v.nP s ≤ 8) (hO : ∀ j, j < v.nJ → v.nO j ≤ 80) {i : Nat} {x : CLi} (hi9 : cl[i]? = some x) (hx : wrC v x.1 x.2.2.1 x.2.2.2 = true) (h : ∀ j y, j < i → cl[j]? = some y → wrC v y.1 y.2.2.1 y.2.2.2 = false) : mAll v (-1, none) = (S x.2.1, rgC v x.1 x.2.2.1) := by
  have hN : ∀ k a b p, PK v k a b p → ¬ p < 0 := fun k a b p z => by
    obtain ⟨t, -, e⟩ := hcl.2.1 k a b p z
    rw [e]
    exact hSn t
  have hxm : x ∈ cl := List.mem_of_getElem? hi9
  obtain ⟨h1, h2, -⟩ := mAll_mn hN hP hO (w := (-1, none))
  obtain ⟨R, eR⟩ : ∃ y, mAll v (-1, none) = y := ⟨_, rfl⟩
  rw [eR] at h1 h2 ⊢
  obtain ⟨h3, h4⟩ := isF_ff (h2 (S x.2.1) (rgC v x.1 x.2.2.1) ⟨x.1, x.2.2.1, x.2.2.2, hcl.1 x hxm, hx, rfl⟩)
  rcases h1 with z | ⟨k, a, b, hp, hw, hg⟩
  · rw [z] at h3
    exact absurd (by decide) h3
  · obtain ⟨t, hm, ht⟩ := hcl.2.1 k a b _ hp
    obtain ⟨j, hj⟩ := List.mem_iff_getElem?.mp hm
    rcases Nat.lt_trichotomy j i with u | u | u
    · exact absurd (hw.symm.trans (h j _ u hj)) (by decide)
    · rw [u, hi9] at hj
      injection hj with hj
      rw [hj]
      exact Prod.ext ht hg
    · exfalso
      obtain ⟨l1, g1⟩ := List.getElem?_eq_some_iff.mp hi9
      obtain ⟨l2, g2⟩ := List.getElem?_eq_some_iff.mp hj
      have y := List.pairwise_iff_getElem.mp hcl.2.2.2 i j l1 l2 u
      rw [g1, g2] at y
      exact h4 (by rw [ht]; exact hSm _ _ y (hcl.2.2.1 _ hm).2)
