/-! ===== bounds of raws; the greatest common divisor isn't 0 ===== -/
theorem and255 (x : Int32) : 0 ≤ (x &&& 255).toInt ∧ (x &&& 255).toInt < 256 := by
  have e : (x &&& 255).toBitVec.toNat = x.toBitVec.toNat % 256 := by
    show (x.toBitVec &&& 255#32).toNat = _
    rw [BitVec.toNat_and]
    exact Nat.and_two_pow_sub_one_eq_mod _ 8
  have t : (x &&& 255).toInt = if 2 * (x &&& 255).toBitVec.toNat < 2 ^ 32 then ((x &&& 255).toBitVec.toNat : Int) else ((x &&& 255).toBitVec.toNat : Int) - (2 ^ 32 : Nat) := BitVec.toInt_eq_toNat_cond _
  rw [e] at t
  split at t <;> omega
theorem oc_b {n i : Int32} {f : Nat → Int32} : 0 ≤ (oc_at n f i).toInt ∧ (oc_at n f i).toInt < 256 := by
  unfold oc_at
  split
  · decide
  · split
    · decide
    · split
      · exact and255 _
      · decide
def RBx (x : Int32 × Int32 × Int64 × Int64) : Prop := -4294967296 ≤ x.2.2.1.toInt ∧ x.2.2.1.toInt ≤ 4294967296
theorem rwA_b {g : Nat → Int32} {sg : Int32} {w : Nat} (h1 : 1 ≤ w) (h4 : w ≤ 4) (h : ∀ i, i < w → 0 ≤ (g i).toInt ∧ (g i).toInt < 256) : -4294967296 ≤ (rwA sg (nI w) w g).toInt ∧ (rwA sg (nI w) w g).toInt ≤ 4294967296 := by
  have hL := rwL_i h4 h
  have hb := rwI_b h
  have hp := pw_le h4
  unfold rwA
  split
  · rw [hL]
    omega
  · have hk : ∃ P : Int, ((1 : Int64) <<< ((8 * nI w : Int32).toInt64 &&& 63)).toInt = P ∧ 0 < P ∧ P ≤ 4294967296 := by
      have hw : w = 1 ∨ w = 2 ∨ w = 3 ∨ w = 4 := by omega
      rcases hw with e | e | e | e
      · rw [e]; exact ⟨256, by decide, by decide, by decide⟩
      · rw [e]; exact ⟨65536, by decide, by decide, by decide⟩
      · rw [e]; exact ⟨16777216, by decide, by decide, by decide⟩
      · rw [e]; exact ⟨4294967296, by decide, by decide, by decide⟩
    obtain ⟨P, k1, k2, k3⟩ := hk
    rw [i64_sub (by rw [hL, k1]; omega) (by rw [hL, k1]; omega), hL, k1]
    omega
theorem rwO_b {v : EdV} (hW : WDv v) {c p ln en : Nat} {f : Nat → Int32} : -4294967296 ≤ (rwO v c p ln f en).toInt ∧ (rwO v c p ln f en).toInt ≤ 4294967296 := by
  unfold rwO
  split
  · decide
  · rename_i k hk
    obtain ⟨h1, h2, h3⟩ := hW k (cdN_lt hk)
    rw [h1]
    rw [show wdN v k = wdN v k from rfl]
    exact rwA_b h2 h3 (fun i _ => oc_b)
theorem tlF_b {v : EdV} (hW : WDv v) {c ln : Nat} {f : Nat → Int32} : ∀ {n i en : Nat} {P : PdT}, (∀ j, RBx (P j)) → ∀ j, RBx (tlF v c ln f n i en P j) := by
  intro n
  induction n with
  | zero => intro i en P h; exact h
  | succ n ih =>
    intro i en P h
    rw [tlF]
    split
    · refine ih (fun j => ?_)
      split
      · by_cases e : j = i
        · rw [e, up1_eq]
          exact rwO_b hW
        · rw [up1_ne e]
          exact h j
      · exact h j
    · exact h
theorem teF_b {v : EdV} (hW : WDv v) {c ln : Nat} {f : Nat → Int32} {P : PdT} {j : Nat} (hj : j < v.nP c) : RBx (teF v c ln f P j) := by
  have h0 : RBx (fgF (v.nP c) P j) := by
    unfold fgF
    rw [if_pos hj]
    exact ⟨by show (-4294967296 : Int) ≤ (0 : Int64).toInt; decide, by show (0 : Int64).toInt ≤ 4294967296; decide⟩
  unfold teF
  split
  · exact h0
  · -- the others of the row don't matter: cut them off
    have key : ∀ {n i en : Nat} {P : PdT}, (∀ j, j < v.nP c → RBx (P j)) → ∀ j, j < v.nP c → RBx (tlF v c ln f n i en P j) := by
      intro n
      induction n with
      | zero => intro i en P h; exact h
      | succ n ih =>
        intro i en P h
        rw [tlF]
        split
        · refine ih (fun j hj => ?_)
          split
          · by_cases e : j = i
            · rw [e, up1_eq]
              exact rwO_b hW
            · rw [up1_ne e]
              exact h j hj
          · exact h j hj
        · exact h
    refine key (fun j hj => ?_) j hj
    unfold fgF
    rw [if_pos hj]
    exact ⟨by show (-4294967296 : Int) ≤ (0 : Int64).toInt; decide, by show (0 : Int64).toInt ≤ 4294967296; decide⟩
theorem mul_b {a b : Int} {A B : Nat} (ha : -(A : Int) ≤ a ∧ a ≤ A) (hb : -(B : Int) ≤ b ∧ b ≤ B) : -((A * B : Nat) : Int) ≤ a * b ∧ a * b ≤ ((A * B : Nat) : Int) := by
  have h1 : a.natAbs ≤ A := by omega
  have h2 : b.natAbs ≤ B := by omega
  have h3 : (a * b).natAbs ≤ A * B := by
    rw [Int.natAbs_mul]
    exact Nat.mul_le_mul h1 h2
  omega
theorem cWh_b {x : Int32 × Int32 × Int64 × Int64 × Int64} {r : Int64} (hx : CBx x) (hr : -4294967296 ≤ r.toInt ∧ r.toInt ≤ 4294967296) : -4611686018427387904 < (cWh x.2.2.1 x.2.2.2.1 x.2.2.2.2 r).toInt ∧ (cWh x.2.2.1 x.2.2.2.1 x.2.2.2.2 r).toInt < 4611686018427387904 := by
  obtain ⟨h1, h2, h3⟩ := hx
  have m1 := mul_b (A := 4294967296) (B := 999999) (a := r.toInt) (b := x.2.2.1.toInt) hr h2
  have m2 := mul_b (A := 999999) (B := 999999) (a := x.2.2.2.2.toInt) (b := x.2.2.2.1.toInt) h3 ⟨by omega, h1.2⟩
  unfold cWh
  have e1 : (r * x.2.2.1).toInt = r.toInt * x.2.2.1.toInt := i64_mul (by omega) (by omega)
  have e2 : (x.2.2.2.2 * x.2.2.2.1).toInt = x.2.2.2.2.toInt * x.2.2.2.1.toInt := i64_mul (by omega) (by omega)
  rw [i64_add (by rw [e1, e2]; omega) (by rw [e1, e2]; omega), e1, e2]
  omega
theorem labs_b {a : Int64} (h : -4611686018427387904 < a.toInt) : ¬ labs a < 0 ∧ (labs a).toInt = a.toInt.natAbs := by
  have h0 : (0 : Int64).toInt = 0 := by decide
  have hl := Int64.toInt_lt a
  have e : (labs a).toInt = a.toInt.natAbs := by
    unfold labs
    split
    · rename_i hn
      have y := Int64.lt_iff_toInt_lt.mp hn
      rw [h0] at y
      rw [Int64.toInt_neg]
      have e : (-a.toInt).bmod (2 ^ 64) = -a.toInt := by
        apply Int.bmod_eq_of_le_mul_two <;> omega
      rw [e]
      omega
    · rename_i hn
      have y : ¬ a.toInt < 0 := fun z => hn (Int64.lt_iff_toInt_lt.mpr (by rw [h0]; exact z))
      omega
  refine ⟨fun z => ?_, e⟩
  have y := Int64.lt_iff_toInt_lt.mp z
  rw [e, h0] at y
  omega
theorem cdv_pos : ∀ {n : Nat} {a b : Int64}, ¬ a < 0 → ¬ b < 0 → (0 < a.toInt ∨ 0 < b.toInt) → b.toInt.toNat ≤ n → 0 < (cdv n a b).toInt := by
  intro n
  induction n with
  | zero =>
    intro a b h1 h2 h3 h4
    have y := i64_n0 h2
    show 0 < a.toInt
    omega
  | succ n ih =>
    intro a b h1 h2 h3 h4
    rw [cdv]
    split
    · rename_i hb
      rw [hb, show (0 : Int64).toInt = 0 by decide] at h3
      omega
    · rename_i hb
      have y := i64_n0 h2
      have z : b.toInt ≠ 0 := fun z => hb (Int64.toInt_inj.mp (by rw [z]; decide))
      have hr := lrm_ok h1 h2 hb h4
      exact ih h2 hr.1 (Or.inl (by omega)) hr.2
theorem cd_of {K : Nat → Nat} {V : Nat → Int64} {n : Nat} {F : Nat → Nat → Int32} {i : Nat} {x : (Int32 × Int64 × Int32) × (Int32 × Int32 × Int64 × Int64 × Int64)} (h : CDf K V n F i x) : (F 11 i = 2 ∧ x.2.2.2.1 = (F 12 i).toInt64 ∧ x.2.2.2.2.1 = (F 13 i).toInt64 ∧ x.2.2.2.2.2 = (F 14 i).toInt64) ∨ (¬ F 11 i = 2 ∧ x.2.2.2.1 = 1 ∧ x.2.2.2.2.1 = 1 ∧ x.2.2.2.2.2 = 0) := by
  rcases h.2.2 with ⟨a, b⟩ | ⟨a, b⟩ | ⟨a, b⟩
  · rw [b]
    exact Or.inr ⟨by rw [a]; decide, rfl, rfl, rfl⟩
  · rw [b]
    exact Or.inl ⟨a, rfl, rfl, rfl⟩
  · rw [b]
    refine Or.inr ⟨?_, rfl, rfl, rfl⟩
    rcases a with a | a <;> (rw [a]; decide)
theorem ab_eq {K : Nat → Nat} {V : Nat → Int64} {n : Nat} {F : Nat → Nat → Int32} {b c : Nat} {x : (Int32 × Int64 × Int32) × (Int32 × Int32 × Int64 × Int64 × Int64)} {r : Int64} (h : CDf K V n F (12 * b + c) x) : abM F b c r = cWh x.2.2.2.1 x.2.2.2.2.1 x.2.2.2.2.2 r ∧ (blM F b c).toInt64 = x.2.2.2.2.1 := by
  unfold abM blM cWh
  rcases cd_of h with ⟨a, e1, e2, e3⟩ | ⟨a, e1, e2, e3⟩
  · rw [if_pos a, if_pos a, e1, e2, e3]
    exact ⟨rfl, rfl⟩
  · rw [if_neg a, if_neg a, e1, e2, e3, Int64.mul_one, Int64.mul_one, Int64.add_zero]
    exact ⟨rfl, rfl⟩
/-- a decoded value, the divisor found in at most N turns -/
def dcN (N : Nat) (v : EdV) (nm : Int64 → Int32) (P : PdT) (c p : Nat) (x : Int32) : Int64 := match cdN v (v.P c p).2.2.1 with
  | none => if x = 2 then -1 else 0
  | some k => if (P p).2.1 = 0 then (if x = 2 then -1 else 0) else if x = 0 then cWh (v.C k).2.2.2.1 (v.C k).2.2.2.2.1 (v.C k).2.2.2.2.2 (P p).2.2.1 / cdv N (labs (cWh (v.C k).2.2.2.1 (v.C k).2.2.2.2.1 (v.C k).2.2.2.2.2 (P p).2.2.1)) (v.C k).2.2.2.2.1 else if x = 1 then (v.C k).2.2.2.2.1 / cdv N (labs (cWh (v.C k).2.2.2.1 (v.C k).2.2.2.2.1 (v.C k).2.2.2.2.2 (P p).2.2.1)) (v.C k).2.2.2.2.1 else if x = 2 then ((P p).1).toInt64 else if x = 3 then ((P p).2.1).toInt64 else (nm (match fnR v k (P p).2.2.1 with | none => 0 | some j => (v.R k j).2.2.1)).toInt64
