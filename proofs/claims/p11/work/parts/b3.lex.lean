/-! ===== the reference's signs against the class's tokens ===== -/
/-- a sign of the reference's row against the class's octet -/
def chr (a b : Int32) : Prop := (¬ b < 0 ∧ a = b) ∨ (b < 0 ∧ 127 < a)
theorem chr_le {a b : Int32} (h : chr a b) : isLe a = isLe b := by
  rcases h with ⟨_, h⟩ | ⟨h1, h2⟩
  · rw [h]
  · unfold isLe
    rw [decide_eq_false (Int32.not_le.mpr (Int32.lt_of_le_of_lt (by decide) h2) : ¬ a ≤ 122), decide_eq_false (Int32.not_le.mpr (Int32.lt_of_lt_of_le h1 (by decide)) : ¬ 97 ≤ b), Bool.and_false, Bool.false_and]
theorem chr_di {a b : Int32} (h : chr a b) : isDi a = isDi b := by
  rcases h with ⟨_, h⟩ | ⟨h1, h2⟩
  · rw [h]
  · unfold isDi
    rw [decide_eq_false (Int32.not_le.mpr (Int32.lt_of_le_of_lt (by decide) h2) : ¬ a ≤ 57), decide_eq_false (Int32.not_le.mpr (Int32.lt_of_lt_of_le h1 (by decide)) : ¬ 48 ≤ b), Bool.and_false, Bool.false_and]
theorem chr_eq {a b c : Int32} (h : chr a b) (h1 : ¬ c < 0) (h2 : ¬ 127 < c) : a = c ↔ b = c := by
  rcases h with ⟨_, h⟩ | ⟨h3, h4⟩
  · rw [h]
  · exact ⟨fun z => absurd (z ▸ h4) h2, fun z => absurd (z ▸ h3) h1⟩
theorem chr_ne {a b : Int32} (h : chr a b) : ¬ a < 0 := by
  rcases h with ⟨h, e⟩ | ⟨_, h⟩
  · rw [e]; exact h
  · exact Int32.not_lt.mpr (Int32.le_of_lt (Int32.lt_of_le_of_lt (by decide) h))
/-- a letter or a digit -/
def aln (b : Int32) : Bool := isLe b || isDi b
theorem chr_al {a b : Int32} (h : chr a b) : aln a = aln b := by
  unfold aln
  rw [chr_le h, chr_di h]
theorem al_128 {b : Int32} (h : aln b = true) : ∃ k, k < 128 ∧ b = nI k := by
  have h2 : 48 ≤ b ∧ b ≤ 122 := by
    unfold aln isLe isDi at h
    simp only [Bool.or_eq_true, Bool.and_eq_true, decide_eq_true_eq] at h
    rcases h with ⟨h1, h2⟩ | ⟨h1, h2⟩
    · exact ⟨Int32.le_trans (by decide) h1, h2⟩
    · exact ⟨h1, Int32.le_trans h2 (by decide)⟩
  obtain ⟨k, hk, e⟩ := nI_of (show ¬ b < 0 from Int32.not_lt.mpr (Int32.le_trans (by decide) h2.1))
  refine ⟨k, ?_, e⟩
  have h3 := nI_ge_of (a := 122) (b := k) (by decide) hk (by rw [← e]; exact h2.2)
  omega
theorem al_eq {a b : Int32} (h : chr a b) (hb : aln b = true) : a = b := by
  rcases h with ⟨_, h⟩ | ⟨h1, _⟩
  · exact h
  · obtain ⟨k, hk, e⟩ := al_128 hb
    rw [e] at h1
    exact absurd h1 (nI_pos (by omega))
/-- a sign as a digit of a name's number -/
def sg (b : Int32) : Nat := (sgn b).toNatClampNeg
theorem sg_tab : ∀ k, k < 128 → aln (nI k) = true → 1 ≤ sg (nI k) ∧ sg (nI k) ≤ 36 ∧ (sgn (nI k)).toInt64 = Int64.ofNat (sg (nI k)) ∧ (if sg (nI k) ≤ 26 then 96 + sg (nI k) else 21 + sg (nI k)) = k := by decide +kernel
theorem sg_ok {b : Int32} (h : aln b = true) : 1 ≤ sg b ∧ sg b ≤ 36 ∧ (sgn b).toInt64 = Int64.ofNat (sg b) := by
  obtain ⟨k, hk, e⟩ := al_128 h
  rw [e] at h ⊢
  obtain ⟨h1, h2, h3, _⟩ := sg_tab k hk h
  exact ⟨h1, h2, h3⟩
theorem sg_inj {a b : Int32} (ha : aln a = true) (hb : aln b = true) (h : sg a = sg b) : a = b := by
  obtain ⟨j, hj, ea⟩ := al_128 ha
  obtain ⟨k, hk, eb⟩ := al_128 hb
  rw [ea] at ha h
  rw [eb] at hb h
  have h1 := (sg_tab j hj ha).2.2.2
  have h2 := (sg_tab k hk hb).2.2.2
  rw [ea, eb, ← h1, ← h2, h]
def pkn (f : Nat → Int32) (a : Nat) : Nat → Nat
  | 0 => 0
  | j + 1 => pkn f a j * 37 + sg (f (a + j))
theorem pkn_lt {f : Nat → Int32} {a : Nat} : ∀ {n : Nat}, (∀ k, k < n → aln (f (a + k)) = true) → pkn f a n < 37 ^ n := by
  intro n
  induction n with
  | zero => intro _; exact Nat.one_pos
  | succ n ih =>
    intro h
    have h1 := ih (fun k hk => h k (by omega))
    have h2 := (sg_ok (h n (Nat.lt_succ_self n))).2.1
    rw [pkn, Nat.pow_succ]
    omega
theorem pkd_n {f : Nat → Int32} {a : Nat} : ∀ {n : Nat}, (∀ k, k < n → aln (f (a + k)) = true) → pkd f a n = Int64.ofNat (pkn f a n) := by
  intro n
  induction n with
  | zero => intro _; rfl
  | succ n ih =>
    intro h
    have h1 := ih (fun k hk => h k (by omega))
    have h2 := (sg_ok (h n (Nat.lt_succ_self n))).2.2
    rw [pkd, pkn, h1, h2, Int64.ofNat_add, Int64.ofNat_mul]
    rfl
theorem pkn_inj {f g : Nat → Int32} {a b : Nat} : ∀ {n m : Nat}, (∀ k, k < n → aln (f (a + k)) = true) → (∀ k, k < m → aln (g (b + k)) = true) → pkn f a n = pkn g b m → n = m ∧ ∀ k, k < n → f (a + k) = g (b + k) := by
  intro n
  induction n with
  | zero =>
    intro m _ h2 h
    cases m with
    | zero => exact ⟨rfl, fun k hk => absurd hk (Nat.not_lt_zero k)⟩
    | succ m =>
      have := (sg_ok (h2 m (Nat.lt_succ_self m))).1
      rw [pkn, pkn] at h
      omega
  | succ n ih =>
    intro m h1 h2 h
    have a1 := sg_ok (h1 n (Nat.lt_succ_self n))
    cases m with
    | zero =>
      rw [pkn, pkn] at h
      omega
    | succ m =>
      have a2 := sg_ok (h2 m (Nat.lt_succ_self m))
      rw [pkn, pkn] at h
      have h3 : pkn f a n = pkn g b m := by omega
      have h4 : sg (f (a + n)) = sg (g (b + m)) := by omega
      obtain ⟨h5, h6⟩ := ih (fun k hk => h1 k (by omega)) (fun k hk => h2 k (by omega)) h3
      subst h5
      refine ⟨rfl, fun k hk => ?_⟩
      rcases Nat.lt_or_ge k n with h7 | h7
      · exact h6 k h7
      · rw [show k = n by omega]
        exact sg_inj (h1 n (Nat.lt_succ_self n)) (h2 n (Nat.lt_succ_self n)) h4
theorem i64_on {n : Nat} (h : n < 2 ^ 63) : (Int64.ofNat n).toInt = n := Int64.toInt_ofNat_of_lt h
theorem pkd_inj {f g : Nat → Int32} {a b n m : Nat} (hn : n ≤ 12) (hm : m ≤ 12) (h1 : ∀ k, k < n → aln (f (a + k)) = true) (h2 : ∀ k, k < m → aln (g (b + k)) = true) (h : pkd f a n = pkd g b m) : n = m ∧ ∀ k, k < n → f (a + k) = g (b + k) := by
  have p12 : 37 ^ 12 < 2 ^ 63 := by decide
  have b1 : pkn f a n < 2 ^ 63 := Nat.lt_of_lt_of_le (pkn_lt h1) (Nat.le_trans (Nat.pow_le_pow_right (by decide) hn) (Nat.le_of_lt p12))
  have b2 : pkn g b m < 2 ^ 63 := Nat.lt_of_lt_of_le (pkn_lt h2) (Nat.le_trans (Nat.pow_le_pow_right (by decide) hm) (Nat.le_of_lt p12))
  rw [pkd_n h1, pkd_n h2] at h
  have h3 := congrArg Int64.toInt h
  rw [i64_on b1, i64_on b2] at h3
  exact pkn_inj h1 h2 (by omega)
theorem pkd_pos {f : Nat → Int32} {a n : Nat} (hn : n ≤ 12) (h0 : 1 ≤ n) (h1 : ∀ k, k < n → aln (f (a + k)) = true) : pkd f a n ≠ 0 := by
  intro h
  have := (pkd_inj (g := f) (b := a) (m := 0) hn (by omega) h1 (fun k hk => absurd hk (Nat.not_lt_zero k)) h).1
  omega
theorem pkd_cg {f g : Nat → Int32} {a b : Nat} : ∀ {n : Nat}, (∀ k, k < n → f (a + k) = g (b + k)) → pkd f a n = pkd g b n := by
  intro n
  induction n with
  | zero => intro _; rfl
  | succ n ih =>
    intro h
    rw [pkd, pkd, ih (fun k hk => h k (by omega)), h n (Nat.lt_succ_self n)]
/-! the tokens one after another -/
theorem cutL_keep {f : Nat → Int32} {en : Nat} : ∀ {n : Nat} {x : CuS}, x.2.1 ≤ (cutL f en n x).2.1 ∧ ∀ j, j < x.2.1 → (cutL f en n x).2.2.1 j = x.2.2.1 j ∧ (cutL f en n x).2.2.2.1 j = x.2.2.2.1 j ∧ (cutL f en n x).2.2.2.2 j = x.2.2.2.2 j := by
  intro n
  induction n with
  | zero => intro x; exact ⟨Nat.le_refl _, fun j _ => ⟨rfl, rfl, rfl⟩⟩
  | succ n ih =>
    intro x
    rw [cutL]
    split
    · split
      · exact ih (x := (x.1 + 1, x.2))
      · have h := ih (x := ((c1R f x.1 en).2, x.2.1 + 1, kup x.2.2.1 x.2.1 (c1R f x.1 en).1.1, kup x.2.2.2.1 x.2.1 (c1R f x.1 en).1.2.1, kup x.2.2.2.2 x.2.1 (c1R f x.1 en).1.2.2))
        dsimp only at h
        refine ⟨by omega, fun j hj => ?_⟩
        obtain ⟨h1, h2, h3⟩ := h.2 j (by omega)
        rw [h1, h2, h3]
        unfold kup
        rw [if_neg (by omega), if_neg (by omega), if_neg (by omega)]
        exact ⟨rfl, rfl, rfl⟩
    · exact ⟨Nat.le_refl _, fun j _ => ⟨rfl, rfl, rfl⟩⟩
/-- the tokens from the i-th on are cut from p on -/
def CutAt (f : Nat → Int32) (en p i : Nat) : Prop := ∃ (n : Nat) (x : (Nat → Nat) × (Nat → Int32) × (Nat → Int64)), en ≤ n + p ∧ cutL f en n (p, i, x) = cutT f en
theorem CutAt.zero {f : Nat → Int32} {en : Nat} : CutAt f en 0 0 := ⟨en, (fun _ => 3, fun _ => 0, fun _ => 0), by omega, rfl⟩
theorem CutAt.blank {f : Nat → Int32} {en p i : Nat} (h : CutAt f en p i) (hp : p < en) (hb : isBl (f p) = true) : CutAt f en (p + 1) i := by
  obtain ⟨n, x, h1, h2⟩ := h
  cases n with
  | zero => omega
  | succ n =>
    rw [cutL] at h2
    dsimp only at h2
    rw [if_pos hp, if_pos hb] at h2
    exact ⟨n, x, by omega, h2⟩
theorem CutAt.tok {f : Nat → Int32} {en p i : Nat} (h : CutAt f en p i) (hp : p < en) (hb : isBl (f p) = false) {k : Nat} {st : Int32} {v : Int64} {e : Nat} (hc : c1R f p en = ((k, st, v), e)) (he : p < e) : CutAt f en e (i + 1) ∧ tkK f en i = k ∧ tkS f en i = st ∧ tkV f en i = v := by
  obtain ⟨n, x, h1, h2⟩ := h
  cases n with
  | zero => omega
  | succ n =>
    rw [cutL] at h2
    dsimp only at h2
    rw [if_pos hp, if_neg (by rw [hb]; exact Bool.false_ne_true), hc] at h2
    dsimp only at h2
    have h3 := @cutL_keep f en n (e, i + 1, kup x.1 i k, kup x.2.1 i st, kup x.2.2 i v)
    rw [h2] at h3
    dsimp only at h3
    obtain ⟨h4, h5⟩ := h3
    obtain ⟨h6, h7, h8⟩ := h5 i (Nat.lt_succ_self i)
    have h9 : i ≠ (cutT f en).2.1 := by omega
    refine ⟨⟨n, _, by omega, h2⟩, ?_, ?_, ?_⟩
    · rw [tkK, kup, if_neg h9, h6, kup, if_pos rfl]
    · rw [tkS, kup, if_neg h9, h7, kup, if_pos rfl]
    · rw [tkV, kup, if_neg h9, h8, kup, if_pos rfl]
theorem CutAt.fin {f : Nat → Int32} {en p i : Nat} (h : CutAt f en p i) (hp : en ≤ p) : tkN f en = i + 1 ∧ tkK f en i = 2 ∧ tkS f en i = nI en ∧ tkV f en i = 0 := by
  obtain ⟨n, x, h1, h2⟩ := h
  have h3 : (cutT f en).2.1 = i := by
    cases n with
    | zero => rw [cutL] at h2; rw [← h2]
    | succ n => rw [cutL] at h2; dsimp only at h2; rw [if_neg (by omega)] at h2; rw [← h2]
  refine ⟨by rw [tkN, h3], ?_, ?_, ?_⟩
  · rw [tkK, kup, h3, if_pos rfl]
  · rw [tkS, kup, h3, if_pos rfl]
  · rw [tkV, kup, h3, if_pos rfl]
