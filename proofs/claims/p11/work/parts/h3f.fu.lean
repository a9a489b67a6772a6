/-! ===== the divisor is found in few turns ===== -/
theorem lrm_eq {x y : Int64} (hx : ¬ x < 0) (hy : ¬ y < 0) (h0 : ¬ y = 0) : (x - x / y * y).toInt = x.toInt.tmod y.toInt ∧ ¬ (x - x / y * y) < 0 := by
  have a1 := i64_n0 hx
  have a2 := i64_n0 hy
  have a3 : y.toInt ≠ 0 := fun z => h0 (Int64.toInt_inj.mp (by rw [z]; decide))
  have a4 := Int.tmod_nonneg y.toInt a1
  have a5 := Int.tmod_lt_of_pos x.toInt (show 0 < y.toInt by omega)
  have a6 : x.toInt.tdiv y.toInt * y.toInt + x.toInt.tmod y.toInt = x.toInt := by rw [Int.mul_comm]; exact Int.mul_tdiv_add_tmod _ _
  have b1 := Int64.toInt_lt x
  have b2 := Int.tdiv_nonneg a1 a2
  have b3 := Int.tdiv_le_self y.toInt a1
  have e1 : (x / y).toInt = x.toInt.tdiv y.toInt := by
    rw [Int64.toInt_div]
    apply Int.bmod_eq_of_le_mul_two <;> omega
  have b4 := Int.mul_nonneg b2 a2
  have e2 : (x / y * y).toInt = x.toInt.tdiv y.toInt * y.toInt := by
    rw [Int64.toInt_mul, e1]
    generalize x.toInt.tdiv y.toInt * y.toInt = P at *
    apply Int.bmod_eq_of_le_mul_two <;> omega
  have e : (x - x / y * y).toInt = x.toInt.tmod y.toInt := by
    rw [Int64.toInt_sub, e2]
    generalize x.toInt.tdiv y.toInt * y.toInt = P at *
    rw [show x.toInt - P = x.toInt.tmod y.toInt by omega]
    apply Int.bmod_eq_of_le_mul_two <;> omega
  refine ⟨e, Int64.not_lt.mpr (Int64.le_iff_toInt_le.mpr ?_)⟩
  rw [e, show (0 : Int64).toInt = 0 by decide]
  exact a4
theorem cdv_s {n : Nat} {a b : Int64} : cdv (n + 1) a b = if b = 0 then a else cdv n b (a - a / b * b) := rfl
theorem cdv_st : ∀ (k : Nat) {n m : Nat} {a b : Int64}, ¬ a < 0 → ¬ b < 0 → b.toInt < 2 ^ k → 2 * k + 1 ≤ n → 2 * k + 1 ≤ m → cdv n a b = cdv m a b := by
  intro k
  induction k with
  | zero =>
    intro n m a b ha hb hk hn hm
    have h0 := i64_n0 hb
    have e : b = 0 := Int64.toInt_inj.mp (by rw [show (0 : Int64).toInt = 0 by decide]; omega)
    obtain ⟨n, rfl⟩ : ∃ y, n = y + 1 := ⟨n - 1, by omega⟩
    obtain ⟨m, rfl⟩ : ∃ y, m = y + 1 := ⟨m - 1, by omega⟩
    rw [cdv_s, cdv_s, if_pos e, if_pos e]
  | succ k ih =>
    intro n m a b ha hb hk hn hm
    obtain ⟨n, rfl⟩ : ∃ y, n = y + 1 + 1 := ⟨n - 2, by omega⟩
    obtain ⟨m, rfl⟩ : ∃ y, m = y + 1 + 1 := ⟨m - 2, by omega⟩
    rw [cdv_s (n := n + 1), cdv_s (n := m + 1)]
    by_cases e : b = 0
    · rw [if_pos e, if_pos e]
    rw [if_neg e, if_neg e]
    obtain ⟨r1, r2⟩ := lrm_eq ha hb e
    generalize a - a / b * b = r at r1 r2
    rw [cdv_s (n := n), cdv_s (n := m)]
    by_cases e2 : r = 0
    · rw [if_pos e2, if_pos e2]
    rw [if_neg e2, if_neg e2]
    obtain ⟨s1, s2⟩ := lrm_eq hb r2 e2
    have h1 := i64_n0 hb
    have h2 := i64_n0 r2
    have h3 : r.toInt ≠ 0 := fun z => e2 (Int64.toInt_inj.mp (by rw [z]; decide))
    have h4 : b.toInt ≠ 0 := fun z => e (Int64.toInt_inj.mp (by rw [z]; decide))
    have h5 := Int.tmod_lt_of_pos a.toInt (show 0 < b.toInt by omega)
    have h6 := Int.tmod_lt_of_pos b.toInt (show 0 < r.toInt by omega)
    have h7 : r.toInt * b.toInt.tdiv r.toInt + b.toInt.tmod r.toInt = b.toInt := Int.mul_tdiv_add_tmod _ _
    have h8 : 1 ≤ b.toInt.tdiv r.toInt := by
      rw [Int.tdiv_eq_ediv_of_nonneg h1]
      exact (Int.le_ediv_iff_mul_le (by omega)).mpr (by omega)
    have h9 : r.toInt ≤ r.toInt * b.toInt.tdiv r.toInt := by
      have := Int.mul_le_mul_of_nonneg_left h8 h2
      omega
    refine ih r2 s2 ?_ (by omega) (by omega)
    rw [s1]
    have h10 : (2 : Int) ^ (k + 1) = 2 * 2 ^ k := by rw [Int.pow_succ]; omega
    omega
theorem dc_eq {v : EdV} {nm : Int64 → Int32} {P : PdT} {c p : Nat} {x : Int32} (hC : CBv v) (hP : RBx (P p)) : dcA v nm P c p x = dcN 999999 v nm P c p x := by
  unfold dcA dcN
  cases hk : cdN v (v.P c p).2.2.1 with
  | none => rfl
  | some k =>
    have hx := hC k (cdN_lt hk)
    obtain ⟨w1, w2⟩ := cWh_b hx hP
    obtain ⟨l1, l2⟩ := labs_b w1
    have o1 := hx.1
    have on : ¬ (v.C k).2.2.2.2.1 < 0 := fun z => by
      have y := Int64.lt_iff_toInt_lt.mp z
      rw [show (0 : Int64).toInt = 0 by decide] at y
      omega
    have e : cdv 200 (labs (cWh (v.C k).2.2.2.1 (v.C k).2.2.2.2.1 (v.C k).2.2.2.2.2 (P p).2.2.1)) (v.C k).2.2.2.2.1 = cdv 999999 (labs (cWh (v.C k).2.2.2.1 (v.C k).2.2.2.2.1 (v.C k).2.2.2.2.2 (P p).2.2.1)) (v.C k).2.2.2.2.1 := cdv_st 20 l1 on (by omega) (by omega) (by omega)
    have hp := cdv_pos (n := 999999) l1 on (Or.inr (by omega)) (by omega)
    have hz : ¬ cdv 999999 (labs (cWh (v.C k).2.2.2.1 (v.C k).2.2.2.2.1 (v.C k).2.2.2.2.2 (P p).2.2.1)) (v.C k).2.2.2.2.1 = 0 := fun z => by
      rw [z, show (0 : Int64).toInt = 0 by decide] at hp
      omega
    have ea : abv (v.C k).2.2.2.1 (v.C k).2.2.2.2.1 (v.C k).2.2.2.2.2 (P p).2.2.1 = cWh (v.C k).2.2.2.1 (v.C k).2.2.2.2.1 (v.C k).2.2.2.2.2 (P p).2.2.1 / cdv 999999 (labs (cWh (v.C k).2.2.2.1 (v.C k).2.2.2.2.1 (v.C k).2.2.2.2.2 (P p).2.2.1)) (v.C k).2.2.2.2.1 := by unfold abv; rw [e, if_neg hz]
    have eb : blw (v.C k).2.2.2.1 (v.C k).2.2.2.2.1 (v.C k).2.2.2.2.2 (P p).2.2.1 = (v.C k).2.2.2.2.1 / cdv 999999 (labs (cWh (v.C k).2.2.2.1 (v.C k).2.2.2.2.1 (v.C k).2.2.2.2.2 (P p).2.2.1)) (v.C k).2.2.2.2.1 := by unfold blw; rw [e, if_neg hz]
    simp only []
    rw [ea, eb]
    cases fnR v k (P p).2.2.1 <;> rfl
theorem DC_eq {N : Nat} {f : Nat → Int32} {n ln : Nat} {fo : Nat → Int32} {P : Nat → PdT} {iv jv wv : Int32} : DCr N f n ln fo P iv jv wv = DCn N f n ln fo P iv jv wv := by
  unfold DCr DCn
  by_cases hN : N = 0
  · rw [if_pos hN, if_pos hN]
  rw [if_neg hN, if_neg hN]
  cases hy : spO (rdV f n) iv jv with
  | none => rfl
  | some y =>
    obtain ⟨y1, y2⟩ := spO_lt hy
    simp only []
    by_cases hw : 0 ≤ wv ∧ wv ≤ 4
    · rw [if_pos hw, if_pos hw]; exact dc_eq rdV_cb (teF_b rdV_w y2)
    · rw [if_neg hw, if_neg hw]
