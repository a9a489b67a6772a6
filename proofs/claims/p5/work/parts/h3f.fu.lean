/-! ===== the divisor is found in few turns ===== -/
theorem lrm_eq {x y : Int64} (hx : ¬ x < 0) (hy : ¬ y < 0) (h0 : ¬ y = 0) : (x - x / y * y).toInt = x.toInt.tmod y.toInt ∧ ¬ (x - x / y * y) < 0 := by
  have a1 := i64_n0 hx
  have a2 := i64_n0 hy
  have a3 : y.toInt ≠ 0 := fun z => h0 (Int64.toInt_inj.mp (by rw [z]; decide))
  have a4 := Int.tmod_nonneg y.toInt a1
  have a5 := Int.tmod_lt_of_pos x.toInt (show 0 < y.toInt by omega)
  have a6 : x.toInt.tdiv y.toInt * y.toInt + x.toInt.tmod y.toInt = x.toInt := by rw [Int.mul_comm]; exact Int.mul_tdiv_add_tmod _ _
  have b1 := Int64.toInt_lt x
  have b2 := Int.tdiv_nonneg a1 a2
  have b3 := Int.tdiv_le_self y.toInt a1
  have e1 : (x / y).toInt = x.toInt.tdiv y.toInt := by
    rw [Int64.toInt_div]
    apply Int.bmod_eq_of_le_mul_two <;> omega
  have b4 := Int.mul_nonneg b2 a2
  have e2 : (x / y * y).toInt = x.toInt.tdiv y.toInt * y.toInt := by
    rw [Int64.toInt_mul, e1]
    generalize x.toInt.tdiv y.toInt * y.toInt = P at *
    apply Int.bmod_eq_of_le_mul_two <;> omega
  have e : (x - x / y * y).toInt = x.toInt.tmod y.toInt := by
    rw [Int64.toInt_sub, e2]
    generalize x.toInt.tdiv y.toInt * y.toInt = P at *
    rw [show x.toInt - P = x.toInt.tmod y.toInt by omega]
    apply Int.bmod_eq_of_le_mul_two <;> omega
  refine ⟨e, Int64.not_lt.mpr (Int64.le_iff_toInt_le.mpr ?_)⟩
  rw [e, show (0 : Int64).toInt = 0 by decide]
  exact a4
theorem cdv_s {n : Nat} {a b : Int64} : cdv (n + 1) a b = if b = 0 then a else cdv n b (a - a / b * b) := rfl
theorem DC_eq {N : Nat} {f : Nat → Int32} {n ln : Nat} {fo : Nat → Int32} {P : Nat → PdT} {iv jv wv : Int32} : DCr N f n ln fo P iv jv wv = DCn N f n ln fo P iv jv wv := by
  unfold DCr DCn
  by_cases hN : N = 0
  · rw [if_pos hN, if_pos hN]
  rw [if_neg hN, if_neg hN]
  cases hy : spO (rdV f n) iv jv with
  | none => rfl
  | some y =>
    obtain ⟨y1, y2⟩ := spO_lt hy
    simp only []
    by_cases hw : 0 ≤ wv ∧ wv ≤ 4
    · rw [if_pos hw, if_pos hw]; exact dc_eq rdV_cb (teF_b rdV_w y2)
    · rw [if_neg hw, if_neg hw]
