theorem fnd_is {p : Nat → Bool} {i : Nat} : ∀ {n j : Nat}, j ≤ i → i < j + n → p i = true → (∀ k, j ≤ k → k < i → p k = false) → fndF p n j = some i := by
  intro n
  induction n with
  | zero => intro j h1 h2; omega
  | succ n ih =>
    intro j h1 h2 h3 h4
    rw [fndF]
    by_cases e : j = i
    · rw [e, if_pos h3]
    · rw [if_neg (by rw [h4 j (Nat.le_refl j) (by omega)]; exact Bool.false_ne_true)]
      exact ih (by omega) (by omega) h3 (fun k a b => h4 k (by omega) b)
theorem fnd_no {p : Nat → Bool} : ∀ {n j : Nat}, (∀ k, j ≤ k → k < j + n → p k = false) → fndF p n j = none := by
  intro n
  induction n with
  | zero => intro j _; rfl
  | succ n ih =>
    intro j h
    rw [fndF, if_neg (by rw [h j (Nat.le_refl j) (by omega)]; exact Bool.false_ne_true)]
    exact ih (fun k a b => h k (by omega) (by omega))
theorem fnd_none {p : Nat → Bool} : ∀ {n j : Nat}, fndF p n j = none → ∀ k, j ≤ k → k < j + n → p k = false := by
  intro n
  induction n with
  | zero => intro j _ k h1 h2; omega
  | succ n ih =>
    intro j h k h1 h2
    rw [fndF] at h
    by_cases e : p j = true
    · rw [if_pos e] at h; cases h
    · rw [if_neg e] at h
      by_cases e2 : k = j
      · rw [e2]; exact Bool.eq_false_iff.mpr e
      · exact ih h k (by omega) (by omega)
theorem fnd_first {p : Nat → Bool} {i : Nat} : ∀ {n j : Nat}, fndF p n j = some i → ∀ k, j ≤ k → k < i → p k = false := by
  intro n
  induction n with
  | zero => intro j h; cases h
  | succ n ih =>
    intro j h k h1 h2
    rw [fndF] at h
    by_cases e : p j = true
    · rw [if_pos e] at h; injection h; omega
    · rw [if_neg e] at h
      by_cases e2 : k = j
      · rw [e2]; exact Bool.eq_false_iff.mpr e
      · exact ih h k (by omega) h2
/-! a sign's kind -/
def sgK (c : Int32) : Option Nat := if c = 123 then some 4 else if c = 125 then some 5 else if c = 59 then some 6 else if c = 58 then some 7 else if c = 61 then some 8 else if c = 47 then some 9 else if c = 45 then some 10 else none
theorem tLn_1 : ∀ i, i < 35 → (tLn i = 1 ↔ 4 ≤ i ∧ i ≤ 10) := by decide +kernel
theorem stT_1 {f : Nat → Int32} {i a : Nat} (hi : i < 35) : stT f i a (a + 1) = (decide (4 ≤ i ∧ i ≤ 10) && decide (f a = tBy i 0)) := by
  unfold stT
  by_cases h : tLn i = 1
  · rw [h, decide_eq_true ((tLn_1 i hi).mp h), decide_eq_true rfl, mtc, mtc, Nat.add_zero]
    by_cases e : f a = tBy i 0
    · rw [if_pos e, decide_eq_true e]; rfl
    · rw [if_neg e, decide_eq_false e]; rfl
  · rw [decide_eq_false (fun z => h ((tLn_1 i hi).mpr z)), decide_eq_false (by omega)]; rfl
theorem stF_1 {f : Nat → Int32} {a : Nat} : stF f a (a + 1) = sgK (f a) := by
  have e : stF f a (a + 1) = fndF (fun i => decide (4 ≤ i ∧ i ≤ 10) && decide (f a = tBy i 0)) 35 0 := fndF_cg (fun i _ h => stT_1 (by omega))
  rw [e]
  generalize f a = c
  unfold sgK
  by_cases h4 : c = 123
  · rw [if_pos h4, h4]; decide +kernel
  by_cases h5 : c = 125
  · rw [if_neg h4, if_pos h5, h5]; decide +kernel
  by_cases h6 : c = 59
  · rw [if_neg h4, if_neg h5, if_pos h6, h6]; decide +kernel
  by_cases h7 : c = 58
  · rw [if_neg h4, if_neg h5, if_neg h6, if_pos h7, h7]; decide +kernel
  by_cases h8 : c = 61
  · rw [if_neg h4, if_neg h5, if_neg h6, if_neg h7, if_pos h8, h8]; decide +kernel
  by_cases h9 : c = 47
  · rw [if_neg h4, if_neg h5, if_neg h6, if_neg h7, if_neg h8, if_pos h9, h9]; decide +kernel
  by_cases h10 : c = 45
  · rw [if_neg h4, if_neg h5, if_neg h6, if_neg h7, if_neg h8, if_neg h9, if_pos h10, h10]; decide +kernel
  rw [if_neg h4, if_neg h5, if_neg h6, if_neg h7, if_neg h8, if_neg h9, if_neg h10]
  refine fnd_no (fun k _ hk => ?_)
  by_cases h : 4 ≤ k ∧ k ≤ 10
  · have h0 : ¬ c = tBy k 0 := by
      rcases (show k = 4 ∨ k = 5 ∨ k = 6 ∨ k = 7 ∨ k = 8 ∨ k = 9 ∨ k = 10 by omega) with e | e | e | e | e | e | e <;> rw [e]
      · exact h4
      · exact h5
      · exact h6
      · exact h7
      · exact h8
      · exact h9
      · exact h10
    rw [decide_eq_false h0, Bool.and_false]
  · rw [decide_eq_false h]; rfl
theorem sgK_ok {c : Int32} {k : Nat} (h : sgK c = some k) : 4 ≤ k ∧ k ≤ 10 ∧ c = tBy k 0 := by
  unfold sgK at h
  repeat' split at h
  all_goals (try cases h)
  all_goals (rename_i e; exact ⟨by decide, by decide, e⟩)
/-! words -/
theorem sh8 {x y : Int64} (hy : y.toBitVec.toNat < 256) : x <<< 8 ||| y = x * 256 + y := by
  have h1 : ((8 : Int64).toBitVec.smod 64) = 8#64 := by decide
  apply Int64.toBitVec_inj.mp
  apply BitVec.eq_of_toNat_eq
  rw [Int64.toBitVec_or, Int64.toBitVec_add, Int64.toBitVec_mul, Int64.toBitVec_shiftLeft, h1, BitVec.toNat_or, BitVec.toNat_add, BitVec.toNat_mul]
  show ((x.toBitVec <<< (8 : Nat)).toNat ||| y.toBitVec.toNat) = (x.toBitVec.toNat * 256 % 2 ^ 64 + y.toBitVec.toNat) % 2 ^ 64
  rw [BitVec.toNat_shiftLeft]
  generalize x.toBitVec.toNat = a at *
  generalize y.toBitVec.toNat = b at *
  have h2 : a <<< 8 % 2 ^ 64 = (a % 2 ^ 56) <<< 8 := by
    rw [Nat.shiftLeft_eq, Nat.shiftLeft_eq]
    omega
  rw [h2, ← Nat.shiftLeft_add_eq_or_of_lt (show b < 2 ^ 8 from hy), Nat.shiftLeft_eq]
  omega
theorem nI_64 {k : Nat} (h : k < 2 ^ 31) : (nI k).toInt64 = Int64.ofNat k := by
  apply Int64.toInt_inj.mp
  rw [Int32.toInt_toInt64, i64_on (by omega)]
  exact nI_toInt h
def w8 (f : Nat → Int32) : Nat → Nat → Nat
  | _, 0 => 0
  | a, n + 1 => w8 f (a + 1) n * 256 + (f a).toNatClampNeg
theorem al_nc {b : Int32} (h : aln b = true) : 1 ≤ b.toNatClampNeg ∧ b.toNatClampNeg < 128 ∧ b = nI b.toNatClampNeg := by
  obtain ⟨k, hk, e⟩ := al_128 h
  rw [e] at h ⊢
  rw [nI_clamp (by omega)]
  refine ⟨?_, hk, rfl⟩
  cases k with
  | zero => exact absurd h (by decide)
  | succ k => omega
theorem w8_lt {f : Nat → Int32} : ∀ {n a : Nat}, (∀ k, k < n → aln (f (a + k)) = true) → w8 f a n < 128 * 256 ^ (n - 1) := by
  intro n
  induction n with
  | zero => intro a _; exact Nat.mul_pos (by decide) (Nat.pow_pos (by decide))
  | succ n ih =>
    intro a h
    have h1 := ih (a := a + 1) (fun k hk => by rw [show a + 1 + k = a + (k + 1) by omega]; exact h (k + 1) (by omega))
    have h2 := (al_nc (h 0 (by omega))).2.1
    rw [Nat.add_zero] at h2
    rw [w8]
    cases n with
    | zero => rw [w8]; exact (by omega)
    | succ n =>
      rw [Nat.add_sub_cancel] at h1 ⊢
      rw [Nat.pow_succ]
      omega
theorem pk8_n {f : Nat → Int32} : ∀ {n a : Nat}, (∀ k, k < n → aln (f (a + k)) = true) → pk8 f a n = Int64.ofNat (w8 f a n) := by
  intro n
  induction n with
  | zero => intro a _; rfl
  | succ n ih =>
    intro a h
    have h1 := ih (a := a + 1) (fun k hk => by rw [show a + 1 + k = a + (k + 1) by omega]; exact h (k + 1) (by omega))
    obtain ⟨h2, h3, h4⟩ := al_nc (h 0 (by omega))
    rw [Nat.add_zero] at h2 h3 h4
    have h5 : (f a).toInt64 = Int64.ofNat (f a).toNatClampNeg := by
      generalize hk : (f a).toNatClampNeg = k at *
      rw [h4]
      exact nI_64 (by omega)
    rw [pk8, w8, sh8, h1, h5, Int64.ofNat_add, Int64.ofNat_mul]
    · rfl
    · rw [h5]
      show (BitVec.ofNat 64 _).toNat < 256
      rw [BitVec.toNat_ofNat]
      omega
theorem w8_inj {f g : Nat → Int32} : ∀ {n m a b : Nat}, (∀ k, k < n → aln (f (a + k)) = true) → (∀ k, k < m → aln (g (b + k)) = true) → w8 f a n = w8 g b m → n = m ∧ ∀ k, k < n → f (a + k) = g (b + k) := by
  intro n
  induction n with
  | zero =>
    intro m a b _ h2 h
    cases m with
    | zero => exact ⟨rfl, fun k hk => absurd hk (Nat.not_lt_zero k)⟩
    | succ m =>
      have := (al_nc (h2 0 (by omega))).1
      rw [Nat.add_zero] at this
      rw [w8, w8] at h
      omega
  | succ n ih =>
    intro m a b h1 h2 h
    have a1 := al_nc (h1 0 (by omega))
    rw [Nat.add_zero] at a1
    cases m with
    | zero =>
      rw [w8, w8] at h
      omega
    | succ m =>
      have a2 := al_nc (h2 0 (by omega))
      rw [Nat.add_zero] at a2
      rw [w8, w8] at h
      have h3 : w8 f (a + 1) n = w8 g (b + 1) m := by omega
      have h4 : (f a).toNatClampNeg = (g b).toNatClampNeg := by omega
      obtain ⟨h5, h6⟩ := ih (a := a + 1) (b := b + 1) (fun k hk => by rw [show a + 1 + k = a + (k + 1) by omega]; exact h1 (k + 1) (by omega)) (fun k hk => by rw [show b + 1 + k = b + (k + 1) by omega]; exact h2 (k + 1) (by omega)) h3
      subst h5
      refine ⟨rfl, fun k hk => ?_⟩
      cases k with
      | zero => rw [Nat.add_zero, Nat.add_zero, a1.2.2, a2.2.2, h4]
      | succ k =>
        have := h6 k (by omega)
        rw [show a + 1 + k = a + (k + 1) by omega, show b + 1 + k = b + (k + 1) by omega] at this
        exact this
/-- a word as the reference packs it -/
def wc (i : Nat) : Int64 := Int64.ofNat (w8 (tBy i) 0 (tLn i))
theorem wd_al : ∀ i, i < 35 → 11 ≤ i → 1 ≤ tLn i ∧ tLn i ≤ 8 ∧ ∀ k, k < tLn i → aln (tBy i (0 + k)) = true := by decide +kernel
theorem wd_fw : ∀ i, i < 35 → 11 ≤ i → woF (wc i) = nI (i - 10) := by decide +kernel
theorem wd_b1 : ∀ p ∈ owL, ((List.range 24).any (fun k => decide (p.1 = wc (k + 11)))) = true := by decide +kernel
theorem wd_b2 : ∀ p ∈ woL, ((List.range 24).any (fun k => decide (p.1 = wc (k + 11)))) = true := by decide +kernel
theorem lk_no {x : Int32} {v : Int64} : ∀ {L : List (Int64 × Int32)}, (∀ p ∈ L, ¬ v = p.1) → lkW x L v = x := by
  intro L
  induction L with
  | nil => intro _; rfl
  | cons p L ih =>
    intro h
    obtain ⟨c, w⟩ := p
    rw [lkW, if_neg (h (c, w) List.mem_cons_self)]
    exact ih (fun p hp => h p (List.mem_cons_of_mem _ hp))
theorem wd_no {v : Int64} (h : ∀ i, i < 35 → 11 ≤ i → ¬ v = wc i) : woF v = 0 := by
  have h1 : ∀ {p : Int64 × Int32}, ((List.range 24).any (fun k => decide (p.1 = wc (k + 11)))) = true → ¬ v = p.1 := by
    intro p hp e
    obtain ⟨k, hk, hz⟩ := List.any_eq_true.mp hp
    exact h (k + 11) (by have := List.mem_range.mp hk; omega) (by omega) (e.trans (of_decide_eq_true hz))
  rw [woF, lk_no (fun p hp => h1 (wd_b2 p hp)), owF, lk_no (fun p hp => h1 (wd_b1 p hp))]
theorem mtc_iff {f : Nat → Int32} {i a : Nat} : ∀ {n j : Nat}, mtc f i a n j = true ↔ ∀ k, k < n → f (a + (j + k)) = tBy i (j + k) := by
  intro n
  induction n with
  | zero => intro j; exact ⟨fun _ k hk => absurd hk (Nat.not_lt_zero k), fun _ => rfl⟩
  | succ n ih =>
    intro j
    rw [mtc]
    constructor
    · intro h k hk
      by_cases e : f (a + j) = tBy i j
      · rw [if_pos e] at h
        cases k with
        | zero => exact e
        | succ k =>
          have := ih.mp h k (by omega)
          rw [show j + 1 + k = j + (k + 1) by omega] at this
          exact this
      · rw [if_neg e] at h; cases h
    · intro h
      rw [if_pos (show f (a + j) = tBy i j from h 0 (by omega))]
      exact ih.mpr (fun k hk => by rw [show j + 1 + k = j + (k + 1) by omega]; exact h (k + 1) (by omega))
theorem stT_iff {f : Nat → Int32} {i a n : Nat} (hn : 1 ≤ n) : stT f i a (a + n) = true ↔ tLn i = n ∧ ∀ k, k < n → f (a + k) = tBy i k := by
  unfold stT
  simp only [Bool.and_eq_true, decide_eq_true_eq]
  rw [mtc_iff]
  constructor
  · rintro ⟨⟨h1, h2⟩, h3⟩
    have h4 : tLn i = n := by omega
    rw [h4] at h3
    exact ⟨h4, fun k hk => by have := h3 k hk; rw [Nat.zero_add] at this; exact this⟩
  · rintro ⟨h1, h2⟩
    rw [h1]
    exact ⟨⟨rfl, hn⟩, fun k hk => by rw [Nat.zero_add]; exact h2 k hk⟩
theorem st_11 : ∀ i, i < 35 → i < 11 → 1 ≤ tLn i → isLe (tBy i 0) = false := by decide +kernel
/-- a word of the reference is the class's word -/
theorem wo_st {sf f : Nat → Int32} {fr a n : Nat} (he : ∀ k, k < n → sf (fr + a + k) = f (a + k)) (hal : ∀ k, k < n → aln (f (a + k)) = true) (hle : isLe (f a) = true) (h1 : 1 ≤ n) : (stF f a (a + n) = none ∧ woR sf (fr + a) (fr + a + n) = 0) ∨ ∃ i, 11 ≤ i ∧ i < 35 ∧ stF f a (a + n) = some i ∧ woR sf (fr + a) (fr + a + n) = nI (i - 10) := by
  have hal2 : ∀ k, k < n → aln (sf (fr + a + k)) = true := fun k hk => by rw [he k hk]; exact hal k hk
  have hd : fr + a + n - (fr + a) = n := by omega
  have key : ∀ i, i < 35 → 11 ≤ i → n ≤ 8 → (pk8 sf (fr + a) n = wc i ↔ stT f i a (a + n) = true) := by
    intro i hi h11 h8
    obtain ⟨l1, l2, l3⟩ := wd_al i hi h11
    rw [stT_iff h1, pk8_n hal2]
    constructor
    · intro h
      have b1 : w8 sf (fr + a) n < 2 ^ 63 := Nat.lt_of_lt_of_le (w8_lt hal2) (Nat.le_trans (Nat.mul_le_mul_left 128 (Nat.pow_le_pow_right (by decide) (show n - 1 ≤ 7 by omega))) (by decide))
      have b2 : w8 (tBy i) 0 (tLn i) < 2 ^ 63 := Nat.lt_of_lt_of_le (w8_lt l3) (Nat.le_trans (Nat.mul_le_mul_left 128 (Nat.pow_le_pow_right (by decide) (show tLn i - 1 ≤ 7 by omega))) (by decide))
      have h3 := congrArg Int64.toInt h
      rw [wc, i64_on b1, i64_on b2] at h3
      obtain ⟨h4, h5⟩ := w8_inj hal2 l3 (by omega)
      refine ⟨h4.symm, fun k hk => ?_⟩
      have := h5 k hk
      rw [he k hk, Nat.zero_add] at this
      exact this
    · rintro ⟨h2, h3⟩
      rw [wc, h2]
      congr 1
      have : ∀ (m x y : Nat), (∀ k, k < m → sf (x + k) = tBy i (y + k)) → w8 sf x m = w8 (tBy i) y m := by
        intro m
        induction m with
        | zero => intro x y _; rfl
        | succ m ih =>
          intro x y h
          rw [w8, w8, ih (x + 1) (y + 1) (fun k hk => by rw [show x + 1 + k = x + (k + 1) by omega, show y + 1 + k = y + (k + 1) by omega]; exact h (k + 1) (by omega))]
          have := h 0 (by omega)
          rw [Nat.add_zero, Nat.add_zero] at this
          rw [this]
      exact this n _ 0 (fun k hk => by rw [he k hk, Nat.zero_add]; exact h3 k hk)
  cases hst : stF f a (a + n) with
  | none =>
    refine Or.inl ⟨rfl, ?_⟩
    unfold woR
    rw [hd]
    by_cases h8 : n ≤ 8
    · rw [if_pos h8]
      refine wd_no (fun i hi h11 z => ?_)
      have := (key i hi h11 h8).mp z
      rw [fnd_none hst i (Nat.zero_le i) (by omega)] at this
      cases this
    · rw [if_neg h8]
  | some i =>
    obtain ⟨_, h2, h3⟩ := fndF_some hst
    rw [Nat.zero_add] at h2
    have h4 := (stT_iff h1).mp h3
    have h11 : 11 ≤ i := by
      rcases Nat.lt_or_ge i 11 with h | h
      · have z := st_11 i h2 h (by omega)
        have := h4.2 0 (by omega)
        rw [Nat.add_zero] at this
        rw [← this, hle] at z
        cases z
      · exact h
    have h8 : n ≤ 8 := by have := (wd_al i h2 h11).2.1; omega
    refine Or.inr ⟨i, h11, h2, rfl, ?_⟩
    unfold woR
    rw [hd, if_pos h8, (key i h2 h11 h8).mpr h3]
    exact wd_fw i h2 h11
