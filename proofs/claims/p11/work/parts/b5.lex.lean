/-! numbers -/
theorem di_k {b : Int32} (h : isDi b = true) : ∃ k, k < 10 ∧ b = nI (48 + k) := by
  unfold isDi at h
  simp only [Bool.and_eq_true, decide_eq_true_eq] at h
  obtain ⟨k, hk, e⟩ := nI_of (show ¬ b < 0 from Int32.not_lt.mpr (Int32.le_trans (by decide) h.1))
  have h3 := nI_ge_of (a := 57) (b := k) (by decide) hk (by rw [← e]; exact h.2)
  have h4 := nI_ge_of (a := k) (b := 48) hk (by decide) (by rw [← e]; exact h.1)
  exact ⟨k - 48, by omega, by rw [e]; congr 1; omega⟩
/-- the number of j digits from a on -/
def dnn (f : Nat → Int32) (a : Nat) : Nat → Nat
  | 0 => 0
  | j + 1 => 10 * dnn f a j + ((f (a + j)).toNatClampNeg - 48)
theorem dnn_lt {f : Nat → Int32} {a : Nat} : ∀ {n : Nat}, (∀ k, k < n → isDi (f (a + k)) = true) → dnn f a n < 10 ^ n := by
  intro n
  induction n with
  | zero => intro _; exact Nat.one_pos
  | succ n ih =>
    intro h
    have h1 := ih (fun k hk => h k (by omega))
    obtain ⟨k, hk, e⟩ := di_k (h n (Nat.lt_succ_self n))
    rw [dnn, e, nI_clamp (by omega), Nat.pow_succ]
    omega
theorem dn_n {f : Nat → Int32} {a : Nat} : ∀ {n : Nat}, (∀ k, k < n → isDi (f (a + k)) = true) → dn f a n = Int64.ofNat (dnn f a n) := by
  intro n
  induction n with
  | zero => intro _; rfl
  | succ n ih =>
    intro h
    have h1 := ih (fun k hk => h k (by omega))
    obtain ⟨k, hk, e⟩ := di_k (h n (Nat.lt_succ_self n))
    rw [dn, dnn, e, nI_clamp (by omega), h1, show nI (48 + k) - 48 = nI k from (nI_sb (a := 48) (b := 48 + k) (by omega)).trans (by congr 1; omega), nI_64 (by omega), show 48 + k - 48 = k by omega, Int64.ofNat_add, Int64.ofNat_mul, Int64.mul_comm]
    rfl
theorem dn_st {b : Int32} {x : Nat} (h : isDi b = true) : 10 * nI x + b - 48 = nI (10 * x + (b.toNatClampNeg - 48)) := by
  obtain ⟨k, hk, e⟩ := di_k h
  rw [e, nI_clamp (by omega), show (10 : Int32) * nI x + nI (48 + k) = nI (10 * x + (48 + k)) from nI_ma 10 x (48 + k), show nI (10 * x + (48 + k)) - 48 = nI (10 * x + (48 + k)) - nI 48 from rfl, nI_sb (by omega)]
  congr 1
  omega
/-! where letters and digits end -/
theorem cutA_is {f : Nat → Int32} {a j en : Nat} (h1 : ∀ k, k < j → aln (f (a + k)) = true) (h2 : a + j = en ∨ aln (f (a + j)) = false) (h3 : a + j ≤ en) : ∀ (n k : Nat), a + k + n = en → k ≤ j → k ≤ 12 → cutA f a n k = if j ≤ 12 then some j else none := by
  intro n
  induction n with
  | zero =>
    intro k hk hkj h12
    rw [cutA, show j = k by omega, if_pos h12]
  | succ n ih =>
    intro k hk hkj h12
    rw [cutA]
    by_cases e : k < j
    · rw [if_pos (show (isLe (f (a + k)) || isDi (f (a + k))) = true from h1 k e)]
      by_cases e2 : k = 12
      · rw [if_pos e2, if_neg (by omega)]
      · rw [if_neg e2]
        exact ih (k + 1) (by omega) (by omega) (by omega)
    · have e3 : k = j := by omega
      rw [e3]
      rcases h2 with h2 | h2
      · omega
      · rw [if_neg (by unfold aln at h2; rw [h2]; exact Bool.false_ne_true), if_pos (by omega)]
theorem cutN_is {f : Nat → Int32} {a j en : Nat} (h1 : ∀ k, k < j → isDi (f (a + k)) = true) (h2 : a + j = en ∨ isDi (f (a + j)) = false ∨ 6 < j) (h3 : a + j ≤ en) : ∀ (n k : Nat), a + k + n = en → k ≤ j → k ≤ 6 → cutN f a n k = if j ≤ 6 then some j else none := by
  intro n
  induction n with
  | zero =>
    intro k hk hkj h12
    rw [cutN, show j = k by omega, if_pos h12]
  | succ n ih =>
    intro k hk hkj h12
    rw [cutN]
    by_cases e : k < j
    · rw [if_pos (h1 k e)]
      by_cases e2 : k = 6
      · rw [if_pos e2, if_neg (by omega)]
      · rw [if_neg e2]
        exact ih (k + 1) (by omega) (by omega) (by omega)
    · have e3 : k = j := by omega
      rw [e3]
      rcases h2 with h2 | h2 | h2
      · omega
      · rw [if_neg (by rw [h2]; exact Bool.false_ne_true), if_pos (by omega)]
      · omega
theorem lnc_al {f : Nat → Int32} {a : Nat} : ∀ {j : Nat}, (∀ k, k < j → aln (f (a + k)) = true) → lnc f (a + j) = lnc f a := by
  intro j
  induction j with
  | zero => intro _; rfl
  | succ j ih =>
    intro h
    rw [← Nat.add_assoc, lnc, if_neg (fun z => by have := h j (Nat.lt_succ_self j); rw [z] at this; exact absurd this (by decide))]
    exact ih (fun k hk => h k (by omega))
theorem di_al {b : Int32} (h : isDi b = true) : aln b = true := by unfold aln; rw [h, Bool.or_true]
theorem le_al {b : Int32} (h : isLe b = true) : aln b = true := by unfold aln; rw [h, Bool.true_or]
theorem al_nb {b : Int32} (h : aln b = true) : isBl b = false := by
  obtain ⟨k, hk, e⟩ := al_128 h
  rw [e] at h ⊢
  exact (by decide +kernel : ∀ k, k < 128 → aln (nI k) = true → isBl (nI k) = false) k hk h
/-! names and their places -/
def NB (f : Nat → Int32) (en m p : Nat) : Prop := 2 * m ≤ p ∨ (2 * m = p + 1 ∧ (p < en → aln (f p) = false))
/-- the reference may cut the i-th token from p on -/
def PA (f : Nat → Int32) (en p i : Nat) : Prop := CutAt f en p i ∧ p ≤ en ∧ i ≤ p ∧ NB f en (ntL (tkK f en) (tkV f en) i).1 p
theorem PA.zero {f : Nat → Int32} {en : Nat} : PA f en 0 0 := ⟨CutAt.zero, Nat.zero_le _, Nat.le_refl 0, Or.inl (Nat.le_refl 0)⟩
theorem PA.lt {f : Nat → Int32} {en p i : Nat} (h : PA f en p i) : i < tkN f en := by
  obtain ⟨n, x, _, h2⟩ := h.1
  have h3 := (@cutL_keep f en n (p, i, x)).1
  rw [h2] at h3
  unfold tkN
  exact Nat.lt_succ_of_le h3
theorem PA.blank {f : Nat → Int32} {en p i : Nat} (h : PA f en p i) (hp : p < en) (hb : isBl (f p) = true) : PA f en (p + 1) i := by
  obtain ⟨h1, h2, h3, h4⟩ := h
  refine ⟨h1.blank hp hb, by omega, by omega, Or.inl ?_⟩
  rcases h4 with h | ⟨h, _⟩ <;> omega
theorem ntL_ne {K : Nat → Nat} {V : Nat → Int64} {i : Nat} (h : K i ≠ 0) : ntL K V (i + 1) = ntL K V i := by rw [ntL, if_neg (fun z => h z.1)]
theorem ntL_1 {K : Nat → Nat} {V : Nat → Int64} {i : Nat} : (ntL K V (i + 1)).1 ≤ (ntL K V i).1 + 1 := by
  rw [ntL]
  split
  · exact Nat.le_refl _
  · exact Nat.le_succ _
theorem PA.m {f : Nat → Int32} {en p i : Nat} (h : PA f en p i) (hp : p < en) (ha : aln (f p) = true) : 2 * (ntL (tkK f en) (tkV f en) i).1 ≤ p := by
  rcases h.2.2.2 with h | ⟨_, h⟩
  · exact h
  · rw [h hp] at ha; cases ha
/-- a name or a word -/
theorem PA.nam {f : Nat → Int32} {en p i j : Nat} (h : PA f en p i) (hp : p < en) (hl : isLe (f p) = true) (h1 : ∀ k, k < j → aln (f (p + k)) = true) (h2 : p + j = en ∨ aln (f (p + j)) = false) (h3 : p + j ≤ en) (h12 : j ≤ 12) : tkK f en i = (stF f p (p + j)).getD 0 ∧ tkS f en i = nI p ∧ tkV f en i = pkd f p j ∧ PA f en (p + j) (i + 1) := by
  have hj : 1 ≤ j := by
    rcases Nat.eq_zero_or_pos j with e | e
    · rw [e, Nat.add_zero] at h2
      rcases h2 with h2 | h2
      · omega
      · rw [le_al hl] at h2; cases h2
    · exact e
  have hc : c1R f p en = (((stF f p (p + j)).getD 0, nI p, pkd f p j), p + j) := by
    unfold c1R nmR
    rw [if_pos hl, cutA_is h1 h2 h3 (en - p) 0 (by omega) (by omega) (by omega), if_pos h12]
  obtain ⟨a1, a2, a3, a4⟩ := h.1.tok hp (al_nb (le_al hl)) hc (by omega)
  refine ⟨a2, a3, a4, a1, h3, by have := h.2.2.1; omega, ?_⟩
  have m1 := h.m hp (le_al hl)
  have m2 := @ntL_1 (tkK f en) (tkV f en) i
  rcases Nat.lt_or_ge (p + j) (2 * (ntL (tkK f en) (tkV f en) (i + 1)).1) with h5 | h5
  · refine Or.inr ⟨by omega, fun h6 => ?_⟩
    rcases h2 with h2 | h2
    · omega
    · exact h2
  · exact Or.inl h5
theorem PA.nab {f : Nat → Int32} {en p i j : Nat} (hen : en ≤ 2000) (h : PA f en p i) (hp : p < en) (hl : isLe (f p) = true) (h1 : ∀ k, k < j → aln (f (p + k)) = true) (h2 : p + j = en ∨ aln (f (p + j)) = false) (h3 : p + j ≤ en) (h12 : ¬ j ≤ 12) : tkK f en i = 3 ∧ ∃ x, x ≤ en ∧ tkS f en i = nI x ∧ lnc f x = lnc f p := by
  have hc : c1R f p en = ((3, nI (p + 12), 0), en) := by
    unfold c1R nmR
    rw [if_pos hl, cutA_is h1 h2 h3 (en - p) 0 (by omega) (by omega) (by omega), if_neg h12]
  obtain ⟨_, a2, a3, _⟩ := h.1.tok hp (al_nb (le_al hl)) hc (by omega)
  exact ⟨a2, p + 12, by omega, a3, lnc_al (fun k hk => h1 k (by omega))⟩
/-- a number -/
theorem PA.num {f : Nat → Int32} {en p i j : Nat} (h : PA f en p i) (hp : p < en) (hl : isLe (f p) = false) (hd : isDi (f p) = true) (h1 : ∀ k, k < j → isDi (f (p + k)) = true) (h2 : p + j = en ∨ isDi (f (p + j)) = false) (h3 : p + j ≤ en) (h6 : j ≤ 6) (h7 : p + j < en → isLe (f (p + j)) = false) : tkK f en i = 1 ∧ tkS f en i = nI p ∧ tkV f en i = Int64.ofNat (dnn f p j) ∧ PA f en (p + j) (i + 1) := by
  have hj : 1 ≤ j := by
    rcases Nat.eq_zero_or_pos j with e | e
    · rw [e, Nat.add_zero] at h2
      rcases h2 with h2 | h2
      · omega
      · rw [hd] at h2; cases h2
    · exact e
  have hc : c1R f p en = ((1, nI p, dn f p j), p + j) := by
    unfold c1R cnR
    rw [if_neg (by rw [hl]; exact Bool.false_ne_true), if_pos hd, cutN_is h1 (by rcases h2 with h2 | h2; exact Or.inl h2; exact Or.inr (Or.inl h2)) h3 (en - p) 0 (by omega) (by omega) (by omega), if_pos h6]
    exact if_neg (fun z => by rw [h7 z.1] at z; exact Bool.false_ne_true z.2)
  obtain ⟨a1, a2, a3, a4⟩ := h.1.tok hp (al_nb (di_al hd)) hc (by omega)
  refine ⟨a2, a3, a4.trans (dn_n h1), a1, h3, by have := h.2.2.1; omega, ?_⟩
  rw [ntL_ne (by rw [a2]; decide)]
  rcases h.2.2.2 with h8 | ⟨h8, _⟩
  · exact Or.inl (by omega)
  · exact Or.inl (by omega)
theorem PA.nub {f : Nat → Int32} {en p i j : Nat} (hen : en ≤ 2000) (h : PA f en p i) (hp : p < en) (hl : isLe (f p) = false) (hd : isDi (f p) = true) (h1 : ∀ k, k < j → isDi (f (p + k)) = true) (h2 : p + j = en ∨ isDi (f (p + j)) = false ∨ 6 < j) (h3 : p + j ≤ en) (h7 : 6 < j ∨ (p + j < en ∧ isLe (f (p + j)) = true)) : tkK f en i = 3 ∧ ∃ x, x ≤ en ∧ tkS f en i = nI x ∧ lnc f x = lnc f p := by
  have hq := cutN_is h1 h2 h3 (en - p) 0 (by omega) (by omega) (by omega)
  by_cases h6 : j ≤ 6
  · have hc : c1R f p en = ((3, nI (p + j), 0), en) := by
      unfold c1R cnR
      rw [if_neg (by rw [hl]; exact Bool.false_ne_true), if_pos hd, hq, if_pos h6]
      exact if_pos (by rcases h7 with h7 | h7; omega; exact h7)
    obtain ⟨_, a2, a3, _⟩ := h.1.tok hp (al_nb (di_al hd)) hc (by omega)
    exact ⟨a2, p + j, by omega, a3, lnc_al (fun k hk => di_al (h1 k hk))⟩
  · have hc : c1R f p en = ((3, nI (p + 6), 0), en) := by
      unfold c1R cnR
      rw [if_neg (by rw [hl]; exact Bool.false_ne_true), if_pos hd, hq, if_neg h6]
    obtain ⟨_, a2, a3, _⟩ := h.1.tok hp (al_nb (di_al hd)) hc (by omega)
    exact ⟨a2, p + 6, by omega, a3, lnc_al (fun k hk => di_al (h1 k (by omega)))⟩
theorem PA.sig {f : Nat → Int32} {en p i k : Nat} (h : PA f en p i) (hp : p < en) (hb : isBl (f p) = false) (hl : isLe (f p) = false) (hd : isDi (f p) = false) (hk : sgK (f p) = some k) : tkK f en i = k ∧ tkS f en i = nI p ∧ PA f en (p + 1) (i + 1) := by
  have hc : c1R f p en = ((k, nI p, 0), p + 1) := by
    unfold c1R
    rw [if_neg (by rw [hl]; exact Bool.false_ne_true), if_neg (by rw [hd]; exact Bool.false_ne_true), stF_1, hk]
  obtain ⟨a1, a2, a3, a4⟩ := h.1.tok hp hb hc (by omega)
  refine ⟨a2, a3, a1, by omega, by have := h.2.2.1; omega, ?_⟩
  rw [ntL_ne (by rw [a2]; have := (sgK_ok hk).1; omega)]
  rcases h.2.2.2 with h8 | ⟨h8, _⟩
  · exact Or.inl (by omega)
  · exact Or.inl (by omega)
theorem PA.sib {f : Nat → Int32} {en p i : Nat} (h : PA f en p i) (hp : p < en) (hb : isBl (f p) = false) (hl : isLe (f p) = false) (hd : isDi (f p) = false) (hk : sgK (f p) = none) : tkK f en i = 3 ∧ tkS f en i = nI p := by
  have hc : c1R f p en = ((3, nI p, 0), en) := by
    unfold c1R
    rw [if_neg (by rw [hl]; exact Bool.false_ne_true), if_neg (by rw [hd]; exact Bool.false_ne_true), stF_1, hk]
  obtain ⟨a1, a2, a3, a4⟩ := h.1.tok hp hb hc (by omega)
  exact ⟨a2, a3⟩
