/-! ===== bounds of what a read made: scales ===== -/
def CBx (x : Int32 × Int32 × Int64 × Int64 × Int64) : Prop := (1 ≤ x.2.2.2.1.toInt ∧ x.2.2.2.1.toInt ≤ 999999) ∧ (-999999 ≤ x.2.2.1.toInt ∧ x.2.2.1.toInt ≤ 999999) ∧ (-999999 ≤ x.2.2.2.2.toInt ∧ x.2.2.2.2.toInt ≤ 999999)
def CBv (v : EdV) : Prop := ∀ k, k < v.nC → CBx (v.C k).2
section

variable {K : Nat → Nat} {S : Nat → Int32} {V : Nat → Int64}
theorem q_num_b {lo hi : Int32} {q : Nat × Int32} (h : lo.toInt ≤ hi.toInt) : lo.toInt ≤ (q_num K S V lo hi q).1.toInt ∧ (q_num K S V lo hi q).1.toInt ≤ hi.toInt := by
  have b1 := lo.le_toInt
  have b2 := hi.toInt_lt
  unfold q_num
  split
  · rename_i h9
    have a1 := Int64.le_iff_toInt_le.mp h9.2.1
    have a2 := Int64.le_iff_toInt_le.mp h9.2.2
    rw [Int32.toInt_toInt64] at a1 a2
    dsimp only
    rw [Int64.toInt_toInt32]
    have e : (V q.1).toInt.bmod (2 ^ 32) = (V q.1).toInt := by
      apply Int.bmod_eq_of_le_mul_two <;> omega
    rw [e]
    exact ⟨a1, a2⟩
  · exact ⟨Int.le_refl _, h⟩
theorem q_val_b {q : Nat × Int32} : -999999 ≤ (q_val K S V q).1.toInt ∧ (q_val K S V q).1.toInt ≤ 999999 := by
  have h0 : (0 : Int32).toInt = 0 := by decide
  have h9 : (999999 : Int32).toInt = 999999 := by decide
  unfold q_val
  split
  · obtain ⟨a1, a2⟩ := @q_num_b K S V 0 999999 (q.1 + 1, q.2) (by decide)
    rw [h0] at a1
    rw [h9] at a2
    dsimp only
    rw [Int32.toInt_neg]
    generalize (q_num K S V 0 999999 (q.1 + 1, q.2)).1.toInt = y at *
    have e : (-y).bmod (2 ^ 32) = -y := by
      apply Int.bmod_eq_of_le_mul_two <;> omega
    rw [e]
    omega
  · obtain ⟨a1, a2⟩ := @q_num_b K S V 0 999999 q (by decide)
    rw [h0] at a1
    rw [h9] at a2
    omega
theorem CBx.z {a b : Int32} : CBx (a, b, 1, 1, 0) := by
  show (1 ≤ (1 : Int64).toInt ∧ (1 : Int64).toInt ≤ 999999) ∧ (-999999 ≤ (1 : Int64).toInt ∧ (1 : Int64).toInt ≤ 999999) ∧ (-999999 ≤ (0 : Int64).toInt ∧ (0 : Int64).toInt ≤ 999999)
  decide
theorem q_form_b {q : Nat × Int32} : CBx (q_form K S V q).2 := by
  unfold q_form
  split
  · exact CBx.z
  · split
    · have h1 : (1 : Int32).toInt = 1 := by decide
      have h9 : (999999 : Int32).toInt = 999999 := by decide
      have a1 := @q_val_b K S V (q.1 + 1, q.2)
      have a2 := @q_num_b K S V 1 999999 (q_take K S 9 (q_val K S V (q.1 + 1, q.2)).2) (by decide)
      have a3 := @q_val_b K S V (q_take K S 15 (q_num K S V 1 999999 (q_take K S 9 (q_val K S V (q.1 + 1, q.2)).2)).2)
      rw [h1, h9] at a2
      unfold CBx
      dsimp only
      rw [Int32.toInt_toInt64, Int32.toInt_toInt64, Int32.toInt_toInt64]
      exact ⟨a2, a1, a3⟩
    · exact CBx.z
theorem q_cod_b {nC : Nat} {q : Nat × Int32} : CBx (q_cod K S V nC q).2.2.1 := by
  obtain ⟨q3, e3⟩ : ∃ y, y = q_take K S 12 (q_num K S V 1 4 (q_take K S 8 (q_name K S V (q_begin S (nI nC) 12 q)).2)).2 := ⟨_, rfl⟩
  have h := @q_form_b K S V q3
  simp only [q_cod, ← e3]
  split
  · exact CBx.z
  · exact h
theorem q_stm_cb {v : EdV} {q : Nat × Int32} (h : CBv v) : CBv (q_stm K S V v q).1 := by
  unfold q_stm
  split
  · dsimp only
    have hb := @q_cod_b K S V v.nC q
    obtain ⟨x, ex⟩ : ∃ y, y = (q_cod K S V v.nC q).2 := ⟨_, rfl⟩
    rw [← ex] at hb ⊢
    intro k hk
    rw [addC_nC] at hk
    rw [addC_C]
    by_cases e : k = v.nC
    · rw [e, up1_eq]
      exact hb
    · rw [up1_ne e]
      exact h k (by omega)
  · split
    · intro k hk
      rw [(@q_lay_o K S V v q).1] at hk
      rw [q_lay_c]
      exact h k hk
    · split
      · exact h
      · split
        · exact h
        · split
          · exact h
          · exact h
theorem q_fill_cb {n : Nat} : ∀ {v : EdV} {q : Nat × Int32}, CBv v → CBv (q_fill K S V n v q).1 := by
  induction n with
  | zero => intro v q h; exact h
  | succ n ih =>
    intro v q h
    rw [q_fill]
    split
    · exact ih (q_stm_cb h)
    · exact h
end
theorem rdV_cb {ft : Nat → Int32} {tn : Nat} : CBv (rdV ft tn) := q_fill_cb (fun k hk => absurd hk (Nat.not_lt_zero k))
/-! ===== octets as a number, by shifts ===== -/
theorem shO8 {x c : Int64} (h1 : -1099511627776 ≤ x.toInt) (h2 : x.toInt < 1099511627776) (h3 : 0 ≤ c.toInt) (h4 : c.toInt < 256) : (x <<< (8 : Int64) ||| c).toInt = x.toInt * 256 + c.toInt := by
  have hX := x.toBitVec.isLt
  have hC := c.toBitVec.isLt
  have ex : x.toInt = if 2 * x.toBitVec.toNat < 2 ^ 64 then (x.toBitVec.toNat : Int) else (x.toBitVec.toNat : Int) - (2 ^ 64 : Nat) := BitVec.toInt_eq_toNat_cond x.toBitVec
  have ec : c.toInt = if 2 * c.toBitVec.toNat < 2 ^ 64 then (c.toBitVec.toNat : Int) else (c.toBitVec.toNat : Int) - (2 ^ 64 : Nat) := BitVec.toInt_eq_toNat_cond c.toBitVec
  have er : (x <<< (8 : Int64) ||| c).toInt = if 2 * (x <<< (8 : Int64) ||| c).toBitVec.toNat < 2 ^ 64 then ((x <<< (8 : Int64) ||| c).toBitVec.toNat : Int) else ((x <<< (8 : Int64) ||| c).toBitVec.toNat : Int) - (2 ^ 64 : Nat) := BitVec.toInt_eq_toNat_cond _
  have hc : c.toBitVec.toNat < 256 := by
    split at ec <;> omega
  have eR : (x <<< (8 : Int64) ||| c).toBitVec.toNat = (x.toBitVec.toNat % 2 ^ 56) * 256 + c.toBitVec.toNat := by
    have e1 : (x <<< (8 : Int64) ||| c).toBitVec = (x.toBitVec <<< 8) ||| c.toBitVec := rfl
    rw [e1, BitVec.toNat_or, BitVec.toNat_shiftLeft]
    have e2 : x.toBitVec.toNat <<< 8 % 2 ^ 64 = (x.toBitVec.toNat % 2 ^ 56) <<< 8 := by
      rw [Nat.shiftLeft_eq, Nat.shiftLeft_eq]
      omega
    rw [e2, ← Nat.shiftLeft_add_eq_or_of_lt (by omega : c.toBitVec.toNat < 2 ^ 8), Nat.shiftLeft_eq]
  rw [er, eR]
  generalize x.toBitVec.toNat = X at *
  generalize c.toBitVec.toNat = C at *
  split at ex <;> split at ec <;> split <;> omega
def rwR (g : Nat → Int32) (b : Bool) : Nat → Int64
  | 0 => if b then -1 else 0
  | j + 1 => rwR g b j <<< ((8 : Int32).toInt64 &&& 63) ||| (g j).toInt64
def rwI (g : Nat → Int32) : Nat → Int
  | 0 => 0
  | j + 1 => rwI g j * 256 + (g j).toInt
theorem rwI_b {g : Nat → Int32} : ∀ {j : Nat}, (∀ i, i < j → 0 ≤ (g i).toInt ∧ (g i).toInt < 256) → 0 ≤ rwI g j ∧ rwI g j < (256 : Int) ^ j := by
  intro j
  induction j with
  | zero => intro _; show (0 : Int) ≤ 0 ∧ (0 : Int) < 256 ^ 0; decide
  | succ j ih =>
    intro h
    have h1 := ih (fun i hi => h i (by omega))
    have h2 := h j (Nat.lt_succ_self j)
    rw [rwI, Int.pow_succ]
    omega
theorem pw_le {j : Nat} (h : j ≤ 4) : (256 : Int) ^ j ≤ 4294967296 := by
  have : ∀ j : Nat, j ≤ 4 → (256 : Int) ^ j ≤ 4294967296 := by
    intro j hj
    rcases (show j = 0 ∨ j = 1 ∨ j = 2 ∨ j = 3 ∨ j = 4 by omega) with e | e | e | e | e <;> (rw [e]; decide)
  exact this j h
theorem i64_add {a b : Int64} (h1 : -4611686018427387904 ≤ a.toInt + b.toInt) (h2 : a.toInt + b.toInt < 4611686018427387904) : (a + b).toInt = a.toInt + b.toInt := by
  rw [Int64.toInt_add]
  apply Int.bmod_eq_of_le_mul_two <;> omega
theorem i64_sub {a b : Int64} (h1 : -4611686018427387904 ≤ a.toInt - b.toInt) (h2 : a.toInt - b.toInt < 4611686018427387904) : (a - b).toInt = a.toInt - b.toInt := by
  rw [Int64.toInt_sub]
  apply Int.bmod_eq_of_le_mul_two <;> omega
theorem i64_mul {a b : Int64} (h1 : -4611686018427387904 ≤ a.toInt * b.toInt) (h2 : a.toInt * b.toInt < 4611686018427387904) : (a * b).toInt = a.toInt * b.toInt := by
  rw [Int64.toInt_mul]
  apply Int.bmod_eq_of_le_mul_two <;> omega
theorem rwL_i {g : Nat → Int32} : ∀ {j : Nat}, j ≤ 4 → (∀ i, i < j → 0 ≤ (g i).toInt ∧ (g i).toInt < 256) → (rwL g j).toInt = rwI g j := by
  intro j
  induction j with
  | zero => intro _ _; show (0 : Int64).toInt = 0; decide
  | succ j ih =>
    intro hj h
    have h1 := ih (by omega) (fun i hi => h i (by omega))
    have h2 := h j (Nat.lt_succ_self j)
    have h3 := rwI_b (g := g) (j := j) (fun i hi => h i (by omega))
    have h4 := pw_le (j := j) (by omega)
    have e256 : (256 : Int64).toInt = 256 := by decide
    have em : (rwL g j * 256).toInt = rwI g j * 256 := by
      rw [i64_mul (by rw [h1, e256]; omega) (by rw [h1, e256]; omega), h1, e256]
    rw [rwL, i64_add (by rw [em, Int32.toInt_toInt64]; omega) (by rw [em, Int32.toInt_toInt64]; omega), em, Int32.toInt_toInt64, rwI]
theorem rwR_i {g : Nat → Int32} {b : Bool} : ∀ {j : Nat}, j ≤ 4 → (∀ i, i < j → 0 ≤ (g i).toInt ∧ (g i).toInt < 256) → (rwR g b j).toInt = rwI g j - (if b then (256 : Int) ^ j else 0) := by
  intro j
  induction j with
  | zero =>
    intro _ _
    cases b with
    | false => show (0 : Int64).toInt = 0 - (if false = true then (256 : Int) ^ 0 else 0); decide
    | true => show (-1 : Int64).toInt = 0 - (if true = true then (256 : Int) ^ 0 else 0); decide
  | succ j ih =>
    intro hj h
    have h1 := ih (by omega) (fun i hi => h i (by omega))
    have h2 := h j (Nat.lt_succ_self j)
    have h3 := rwI_b (g := g) (j := j) (fun i hi => h i (by omega))
    have h4 := pw_le (j := j) (by omega)
    have h5 : (if b then (256 : Int) ^ j else 0) ≤ 4294967296 ∧ 0 ≤ (if b then (256 : Int) ^ j else 0) := by
      split
      · exact ⟨h4, by omega⟩
      · omega
    have e8 : ((8 : Int32).toInt64 &&& 63) = (8 : Int64) := by decide
    rw [rwR, e8, shO8 (by rw [h1]; omega) (by rw [h1]; omega) (by rw [Int32.toInt_toInt64]; omega) (by rw [Int32.toInt_toInt64]; omega), h1, Int32.toInt_toInt64, rwI]
    have e9 : (if b then (256 : Int) ^ (j + 1) else 0) = (if b then (256 : Int) ^ j else 0) * 256 := by
      split
      · exact Int.pow_succ 256 j
      · rfl
    rw [e9]
    omega
/-- both ways to read a number of octets -/
theorem rwR_A {g : Nat → Int32} {sg : Int32} {w : Nat} (hs : sg = 0 ∨ sg = 1) (h1 : 1 ≤ w) (h4 : w ≤ 4) (h : ∀ i, i < w → 0 ≤ (g i).toInt ∧ (g i).toInt < 256) : rwR g (decide (sg = 1) && decide (127 < g 0)) w = rwA sg (nI w) w g := by
  apply Int64.toInt_inj.mp
  have hL := rwL_i h4 h
  have hR := @rwR_i g (decide (sg = 1) && decide (127 < g 0)) w h4 h
  have e127 : (127 : Int32).toInt = 127 := by decide
  have g0 := h 0 (by omega)
  rw [hR]
  rcases hs with e | e
  · rw [e]
    unfold rwA
    rw [if_pos (Or.inl rfl), hL]
    rw [show (decide ((0 : Int32) = 1) && decide (127 < g 0)) = false from rfl, if_neg Bool.false_ne_true]
    omega
  · rw [e]
    unfold rwA
    rw [show (decide ((1 : Int32) = 1) && decide (127 < g 0)) = decide (127 < g 0) from rfl]
    have hw : w = 1 ∨ w = 2 ∨ w = 3 ∨ w = 4 := by omega
    have key : ∃ P : Int, (256 : Int) ^ w = 2 * P ∧ (cHi 1 (nI w)).toInt = P - 1 ∧ ((1 : Int64) <<< ((8 * nI w : Int32).toInt64 &&& 63)).toInt = 2 * P ∧ 0 < P ∧ P ≤ 2147483648 ∧ (rwI g w < P ↔ (g 0).toInt < 128) := by
      rcases hw with e | e | e | e
      · rw [e]
        refine ⟨128, by decide, by decide, by decide, by decide, by decide, ?_⟩
        simp only [rwI]
        omega
      · rw [e]
        have g1 := h 1 (by omega)
        refine ⟨32768, by decide, by decide, by decide, by decide, by decide, ?_⟩
        simp only [rwI]
        omega
      · rw [e]
        have g1 := h 1 (by omega)
        have g2 := h 2 (by omega)
        refine ⟨8388608, by decide, by decide, by decide, by decide, by decide, ?_⟩
        simp only [rwI]
        omega
      · rw [e]
        have g1 := h 1 (by omega)
        have g2 := h 2 (by omega)
        have g3 := h 3 (by omega)
        refine ⟨2147483648, by decide, by decide, by decide, by decide, by decide, ?_⟩
        simp only [rwI]
        omega
    obtain ⟨P, k1, k2, k3, k4, k5, k6⟩ := key
    have hb := rwI_b h
    by_cases hc : 127 < g 0
    · have hc2 := Int32.lt_iff_toInt_lt.mp hc
      rw [e127] at hc2
      rw [decide_eq_true hc, if_pos rfl, if_neg]
      · rw [i64_sub (by rw [hL, k3]; omega) (by rw [hL, k3]; omega), hL, k3, k1]
      · rintro (z | z)
        · exact absurd z (by decide)
        · have z2 := Int64.le_iff_toInt_le.mp z
          rw [hL, k2] at z2
          omega
    · have hc2 : ¬ 127 < (g 0).toInt := fun z => hc (Int32.lt_iff_toInt_lt.mpr (by rw [e127]; exact z))
      rw [decide_eq_false hc, if_neg Bool.false_ne_true, if_pos]
      · rw [hL]
        omega
      · refine Or.inr (Int64.le_iff_toInt_le.mpr ?_)
        rw [hL, k2]
        omega
