/-! ===== the raw of a value, on both sides ===== -/
def rwG (B K lo hi ti ov pl x : Int64) : Int64 :=
  if ti = 0 ∨ ov = 0 ∨ x < -B ∨ B < x then noR
  else if K * labs ti / ov < labs (x - pl) then noR
  else if ¬ ((x - pl) * ov - (x - pl) * ov / ti * ti = 0) then noR
  else if (x - pl) * ov / ti < lo ∨ hi < (x - pl) * ov / ti then noR else (x - pl) * ov / ti
theorem i64_div {a b : Int64} (h1 : -4611686018427387904 ≤ a.toInt) (h2 : a.toInt ≤ 4611686018427387904) : (a / b).toInt = a.toInt.tdiv b.toInt := by
  rw [Int64.toInt_div]
  have h3 := Int.natAbs_tdiv_le_natAbs a.toInt b.toInt
  apply Int.bmod_eq_of_le_mul_two <;> omega
theorem i64_neg {a : Int64} (h1 : -4611686018427387904 ≤ a.toInt) (h2 : a.toInt ≤ 4611686018427387904) : (-a).toInt = -a.toInt := by
  rw [Int64.toInt_neg]
  apply Int.bmod_eq_of_le_mul_two <;> omega
theorem i64_lt {a b : Int64} : a < b ↔ a.toInt < b.toInt := Int64.lt_iff_toInt_lt
theorem i64_z : (0 : Int64).toInt = 0 := by decide
theorem i64_ez {a : Int64} : a = 0 ↔ a.toInt = 0 := ⟨fun h => by rw [h]; exact i64_z, fun h => Int64.toInt_inj.mp (h.trans i64_z.symm)⟩
theorem rw_fa {K ti ov : Int64} (hK : 4294967295 ≤ K.toInt) (hK2 : K.toInt ≤ 4294967296) (ho : 1 ≤ ov.toInt ∧ ov.toInt ≤ 999999) (ht : -999999 ≤ ti.toInt ∧ ti.toInt ≤ 999999) : (K * labs ti / ov).toInt = K.toInt * (ti.toInt.natAbs : Int) / ov.toInt ∧ 0 ≤ K.toInt * (ti.toInt.natAbs : Int) ∧ K.toInt * (ti.toInt.natAbs : Int) ≤ 4294967296 * 999999 := by
  have hl := (labs_b (a := ti) (by omega)).2
  have m := mul_b (A := 4294967296) (B := 999999) (a := K.toInt) (b := (ti.toInt.natAbs : Int)) ⟨by omega, by omega⟩ ⟨by omega, by omega⟩
  have m0 : 0 ≤ K.toInt * (ti.toInt.natAbs : Int) := Int.mul_nonneg (by omega) (by omega)
  have e : (K * labs ti).toInt = K.toInt * (ti.toInt.natAbs : Int) := by
    rw [i64_mul (by rw [hl]; omega) (by rw [hl]; omega), hl]
  refine ⟨?_, m0, by omega⟩
  rw [i64_div (by rw [e]; omega) (by rw [e]; omega), e]
  exact Int.tdiv_eq_ediv_of_nonneg m0
section
variable {B K lo hi ti ov pl x : Int64}
theorem rwG_some (hB : 4294963001032704 ≤ B.toInt) (hB2 : B.toInt ≤ 10000000000000000) (hK : 4294967295 ≤ K.toInt) (hK2 : K.toInt ≤ 4294967296) (ho : 1 ≤ ov.toInt ∧ ov.toInt ≤ 999999) (ht : -999999 ≤ ti.toInt ∧ ti.toInt ≤ 999999) (hp : -999999 ≤ pl.toInt ∧ pl.toInt ≤ 999999) (hlo : -4294967295 ≤ lo.toInt) (hhi : hi.toInt ≤ 4294967295) {R : Int} (h0 : ti.toInt ≠ 0) (hR : R * ti.toInt = (x.toInt - pl.toInt) * ov.toInt) (h1 : lo.toInt ≤ R) (h2 : R ≤ hi.toInt) : (rwG B K lo hi ti ov pl x).toInt = R := by
  have m1 := mul_b (A := 4294967295) (B := 999999) (a := R) (b := ti.toInt) ⟨by omega, by omega⟩ ⟨by omega, by omega⟩
  rw [hR] at m1
  have m2 : (x.toInt - pl.toInt).natAbs ≤ ((x.toInt - pl.toInt) * ov.toInt).natAbs := by
    rw [Int.natAbs_mul]
    exact Nat.le_mul_of_pos_right _ (by omega)
  have e1 : (x - pl).toInt = x.toInt - pl.toInt := i64_sub (by omega) (by omega)
  have e2 : ((x - pl) * ov).toInt = (x.toInt - pl.toInt) * ov.toInt := by
    rw [i64_mul (by rw [e1]; omega) (by rw [e1]; omega), e1]
  have e3 : ((x - pl) * ov / ti).toInt = R := by
    rw [i64_div (by rw [e2]; omega) (by rw [e2]; omega), e2, ← hR]
    exact Int.mul_tdiv_cancel R h0
  have e4 : ((x - pl) * ov / ti * ti).toInt = (x.toInt - pl.toInt) * ov.toInt := by
    rw [i64_mul (by rw [e3, hR]; omega) (by rw [e3, hR]; omega), e3, hR]
  have eB := i64_neg (a := B) (by omega) (by omega)
  obtain ⟨f1, f2, f3⟩ := rw_fa hK hK2 ho ht
  have eL := (labs_b (a := x - pl) (by rw [e1]; omega)).2
  rw [e1] at eL
  have q1 : (x.toInt - pl.toInt).natAbs * ov.toInt.natAbs = R.natAbs * ti.toInt.natAbs := by rw [← Int.natAbs_mul, ← Int.natAbs_mul, hR]
  have q2 : R.natAbs * ti.toInt.natAbs ≤ 4294967295 * ti.toInt.natAbs := Nat.mul_le_mul_right _ (by omega)
  have q3 : (4294967295 : Int) * (ti.toInt.natAbs : Int) ≤ K.toInt * (ti.toInt.natAbs : Int) := Int.mul_le_mul_of_nonneg_right hK (by omega)
  have q4 : ((x.toInt - pl.toInt).natAbs : Int) * ov.toInt = (((x.toInt - pl.toInt).natAbs * ov.toInt.natAbs : Nat) : Int) := by
    rw [Int.natCast_mul, Int.natAbs_of_nonneg (show 0 ≤ ov.toInt by omega)]
  have q5 : ((x.toInt - pl.toInt).natAbs : Int) ≤ K.toInt * (ti.toInt.natAbs : Int) / ov.toInt := by
    rw [Int.le_ediv_iff_mul_le (by omega), q4, q1]
    omega
  unfold rwG
  rw [if_neg, if_neg, if_neg, if_neg]
  · exact e3
  · rintro (z | z)
    · rw [i64_lt, e3] at z; omega
    · rw [i64_lt, e3] at z; omega
  · refine fun z => z (i64_ez.mpr ?_)
    rw [i64_sub (by rw [e2, e4]; omega) (by rw [e2, e4]; omega), e2, e4]
    omega
  · rw [i64_lt, f1, eL]
    omega
  · rintro (z | z | z | z)
    · exact h0 (i64_ez.mp z)
    · rw [i64_ez] at z; omega
    · rw [i64_lt, eB] at z; omega
    · rw [i64_lt] at z; omega
theorem rwG_none (hB2 : B.toInt ≤ 10000000000000000) (hB : 0 ≤ B.toInt) (hK : 4294967295 ≤ K.toInt) (hK2 : K.toInt ≤ 4294967296) (ho : 1 ≤ ov.toInt ∧ ov.toInt ≤ 999999) (ht : -999999 ≤ ti.toInt ∧ ti.toInt ≤ 999999) (hp : -999999 ≤ pl.toInt ∧ pl.toInt ≤ 999999) (hn : ¬ ∃ R : Int, ti.toInt ≠ 0 ∧ R * ti.toInt = (x.toInt - pl.toInt) * ov.toInt ∧ lo.toInt ≤ R ∧ R ≤ hi.toInt) : rwG B K lo hi ti ov pl x = noR := by
  unfold rwG
  by_cases c1 : ti = 0 ∨ ov = 0 ∨ x < -B ∨ B < x
  · rw [if_pos c1]
  rw [if_neg c1]
  have eB := i64_neg (a := B) (by omega) (by omega)
  have b0 : ti.toInt ≠ 0 := fun z => c1 (Or.inl (i64_ez.mpr z))
  have b1 : ¬ x.toInt < -B.toInt := fun z => c1 (Or.inr (Or.inr (Or.inl (by rw [i64_lt, eB]; exact z))))
  have b2 : ¬ B.toInt < x.toInt := fun z => c1 (Or.inr (Or.inr (Or.inr (by rw [i64_lt]; exact z))))
  have e1 : (x - pl).toInt = x.toInt - pl.toInt := i64_sub (by omega) (by omega)
  obtain ⟨f1, f2, f3⟩ := rw_fa hK hK2 ho ht
  have eL := (labs_b (a := x - pl) (by rw [e1]; omega)).2
  rw [e1] at eL
  by_cases c2 : K * labs ti / ov < labs (x - pl)
  · rw [if_pos c2]
  rw [if_neg c2]
  rw [i64_lt, f1, eL] at c2
  have q5 : ((x.toInt - pl.toInt).natAbs : Int) * ov.toInt ≤ K.toInt * (ti.toInt.natAbs : Int) := by
    rw [← Int.le_ediv_iff_mul_le (by omega)]
    omega
  have q4 : ((x.toInt - pl.toInt).natAbs : Int) * ov.toInt = ((((x.toInt - pl.toInt) * ov.toInt).natAbs : Nat) : Int) := by
    rw [Int.natAbs_mul, Int.natCast_mul, Int.natAbs_of_nonneg (show 0 ≤ ov.toInt by omega)]
  have e2 : ((x - pl) * ov).toInt = (x.toInt - pl.toInt) * ov.toInt := by
    rw [i64_mul (by rw [e1]; omega) (by rw [e1]; omega), e1]
  obtain ⟨a, ea⟩ : ∃ y, y = (x.toInt - pl.toInt) * ov.toInt := ⟨_, rfl⟩
  rw [← ea] at e2 q4 hn
  have e3 : ((x - pl) * ov / ti).toInt = a.tdiv ti.toInt := by
    rw [i64_div (by rw [e2]; omega) (by rw [e2]; omega), e2]
  have q6 : (a.tdiv ti.toInt * ti.toInt).natAbs ≤ a.natAbs := by
    rw [Int.natAbs_mul, Int.natAbs_tdiv]
    exact Nat.div_mul_le_self _ _
  have e4 : ((x - pl) * ov / ti * ti).toInt = a.tdiv ti.toInt * ti.toInt := by
    rw [i64_mul (by rw [e3]; omega) (by rw [e3]; omega), e3]
  by_cases c3 : (x - pl) * ov - (x - pl) * ov / ti * ti = 0
  · rw [if_neg (fun z => z c3)]
    have c4 := i64_ez.mp c3
    rw [i64_sub (by rw [e2, e4]; omega) (by rw [e2, e4]; omega), e2, e4] at c4
    rw [if_pos]
    refine Classical.byContradiction (fun z => hn ⟨_, b0, show a.tdiv ti.toInt * ti.toInt = a by omega, ?_, ?_⟩)
    · refine Int.not_lt.mp (fun y => z (Or.inl ?_))
      rw [i64_lt, e3]
      exact y
    · refine Int.not_lt.mp (fun y => z (Or.inr ?_))
      rw [i64_lt, e3]
      exact y
  · rw [if_pos c3]
end
theorem rwG_eq {B K B2 K2 lo hi ti ov pl x : Int64} (hB : 4294963001032704 ≤ B.toInt ∧ B.toInt ≤ 10000000000000000) (hK : 4294967295 ≤ K.toInt ∧ K.toInt ≤ 4294967296) (hB2 : 4294963001032704 ≤ B2.toInt ∧ B2.toInt ≤ 10000000000000000) (hK2 : 4294967295 ≤ K2.toInt ∧ K2.toInt ≤ 4294967296) (ho : 1 ≤ ov.toInt ∧ ov.toInt ≤ 999999) (ht : -999999 ≤ ti.toInt ∧ ti.toInt ≤ 999999) (hp : -999999 ≤ pl.toInt ∧ pl.toInt ≤ 999999) (hlo : -4294967295 ≤ lo.toInt) (hhi : hi.toInt ≤ 4294967295) : rwG B K lo hi ti ov pl x = rwG B2 K2 lo hi ti ov pl x := by
  by_cases h : ∃ R : Int, ti.toInt ≠ 0 ∧ R * ti.toInt = (x.toInt - pl.toInt) * ov.toInt ∧ lo.toInt ≤ R ∧ R ≤ hi.toInt
  · obtain ⟨R, h0, hR, h1, h2⟩ := h
    exact Int64.toInt_inj.mp ((rwG_some hB.1 hB.2 hK.1 hK.2 ho ht hp hlo hhi h0 hR h1 h2).trans (rwG_some hB2.1 hB2.2 hK2.1 hK2.2 ho ht hp hlo hhi h0 hR h1 h2).symm)
  · rw [rwG_none hB.2 (by omega) hK.1 hK.2 ho ht hp h, rwG_none hB2.2 (by omega) hK2.1 hK2.2 ho ht hp h]
/-- the reference's own way -/
def enL (f10 : Int32) : Int64 := (1 : Int64) <<< ((8 * f10 : Int32).toInt64 &&& 63)
def enG (f10 f11 : Int32) (r : Int64) : Int64 := if f11 = 1 then (if r < -enL f10 / 2 then noR else if r < enL f10 / 2 then r else noR) else (if r < 0 then noR else if r < enL f10 then r else noR)
def enA (f12 f13 : Int32) : Int64 := 4294967295 * (if f12 < 0 then -f12 else f12 : Int32).toInt64 / f13.toInt64
def enM (f10 f11 f12 f13 f14 : Int32) (x : Int64) : Int64 :=
  if f11 = 2 then
    if f12 = 0 then noR else if 4294967295000000 < x then noR else if x < -4294967295000000 then noR
    else if enA f12 f13 < x - f14.toInt64 then noR else if x - f14.toInt64 < -enA f12 f13 then noR
    else if (x - f14.toInt64) * f13.toInt64 - (x - f14.toInt64) * f13.toInt64 / f12.toInt64 * f12.toInt64 = 0 then enG f10 f11 ((x - f14.toInt64) * f13.toInt64 / f12.toInt64) else noR
  else enG f10 f11 x
theorem enL_c {w : Nat} (h1 : 1 ≤ w) (h4 : w ≤ 4) : ∃ N : Int, (enL (nI w)).toInt = 2 * N ∧ (enL (nI w) / 2).toInt = N ∧ (-enL (nI w) / 2).toInt = -N ∧ (cLo 1 (nI w)).toInt = -N ∧ (cHi 1 (nI w)).toInt = N - 1 ∧ (cLo 0 (nI w)).toInt = 0 ∧ (cHi 0 (nI w)).toInt = 2 * N - 1 ∧ 128 ≤ N ∧ N ≤ 2147483648 := by
  have hw : w = 1 ∨ w = 2 ∨ w = 3 ∨ w = 4 := by omega
  rcases hw with e | e | e | e
  · rw [e]; exact ⟨128, by decide, by decide, by decide, by decide, by decide, by decide, by decide, by decide, by decide⟩
  · rw [e]; exact ⟨32768, by decide, by decide, by decide, by decide, by decide, by decide, by decide, by decide, by decide⟩
  · rw [e]; exact ⟨8388608, by decide, by decide, by decide, by decide, by decide, by decide, by decide, by decide, by decide⟩
  · rw [e]; exact ⟨2147483648, by decide, by decide, by decide, by decide, by decide, by decide, by decide, by decide, by decide⟩
theorem enG_1 {w : Nat} (h1 : 1 ≤ w) (h4 : w ≤ 4) {r : Int64} : enG (nI w) 1 r = if r < cLo 1 (nI w) ∨ cHi 1 (nI w) < r then noR else r := by
  obtain ⟨N, a1, a2, a3, a4, a5, a6, a7, a8, a9⟩ := enL_c h1 h4
  unfold enG
  rw [if_pos rfl]
  by_cases z : r < -enL (nI w) / 2
  · rw [if_pos z, if_pos (Or.inl (by rw [i64_lt, a4, ← a3]; exact i64_lt.mp z))]
  · rw [if_neg z]
    rw [i64_lt, a3] at z
    by_cases y : r < enL (nI w) / 2
    · rw [if_pos y, if_neg]
      rw [i64_lt, a2] at y
      rintro (u | u)
      · rw [i64_lt, a4] at u; omega
      · rw [i64_lt, a5] at u; omega
    · rw [if_neg y, if_pos]
      rw [i64_lt, a2] at y
      refine Or.inr ?_
      rw [i64_lt, a5]; omega
theorem enG_0 {w : Nat} (h1 : 1 ≤ w) (h4 : w ≤ 4) {f11 : Int32} (hf : ¬ f11 = 1) {r : Int64} : enG (nI w) f11 r = if r < cLo 0 (nI w) ∨ cHi 0 (nI w) < r then noR else r := by
  obtain ⟨N, a1, a2, a3, a4, a5, a6, a7, a8, a9⟩ := enL_c h1 h4
  unfold enG
  rw [if_neg hf]
  by_cases z : r < 0
  · rw [if_pos z, if_pos (Or.inl (by rw [i64_lt, a6, ← i64_z]; exact i64_lt.mp z))]
  · rw [if_neg z]
    rw [i64_lt, i64_z] at z
    by_cases y : r < enL (nI w)
    · rw [if_pos y, if_neg]
      rw [i64_lt, a1] at y
      rintro (u | u)
      · rw [i64_lt, a6] at u; omega
      · rw [i64_lt, a7] at u; omega
    · rw [if_neg y, if_pos]
      rw [i64_lt, a1] at y
      refine Or.inr ?_
      rw [i64_lt, a7]; omega
theorem lab32 {f : Int32} (h1 : -999999 ≤ f.toInt) (h2 : f.toInt ≤ 999999) : (if f < 0 then -f else f : Int32).toInt64 = labs f.toInt64 := by
  have h0 : (0 : Int32).toInt = 0 := by decide
  have e : f.toInt64.toInt = f.toInt := Int32.toInt_toInt64 f
  unfold labs
  by_cases z : f < 0
  · rw [if_pos z, if_pos (by rw [i64_lt, i64_z, e]; have y := Int32.lt_iff_toInt_lt.mp z; rw [h0] at y; exact y)]
    apply Int64.toInt_inj.mp
    rw [i64_neg (by rw [e]; omega) (by rw [e]; omega), Int32.toInt_toInt64, e, Int32.toInt_neg]
    apply Int.bmod_eq_of_le_mul_two <;> omega
  · rw [if_neg z, if_neg]
    intro y
    rw [i64_lt, i64_z, e] at y
    exact z (Int32.lt_iff_toInt_lt.mpr (by rw [h0]; exact y))
theorem en_eq {f10 f11 f12 f13 f14 wd : Int32} {y : Int32 × Int32 × Int64 × Int64 × Int64} {w : Nat} (h10 : f10 = wd) (hw : wd = nI w) (h1 : 1 ≤ w) (h4 : w ≤ 4) (hc : (f11 = 1 ∧ y = (1, 0, 1, 1, 0)) ∨ (f11 = 2 ∧ y = (0, 1, f12.toInt64, f13.toInt64, f14.toInt64)) ∨ ((f11 = 0 ∨ f11 = 3) ∧ y = (0, 0, 1, 1, 0))) (hb : CBx y) (x : Int64) : rwF y.1 wd y.2.2.1 y.2.2.2.1 y.2.2.2.2 x = enM f10 f11 f12 f13 f14 x := by
  obtain ⟨N, a1, a2, a3, a4, a5, a6, a7, a8, a9⟩ := enL_c h1 h4
  have o1 : (1 : Int64).toInt = 1 := by decide
  have gen : ∀ sg : Int32, (cLo sg (nI w)).toInt ≥ -4294967295 → (cHi sg (nI w)).toInt ≤ 4294967295 → rwF sg (nI w) 1 1 0 x = if x < cLo sg (nI w) ∨ cHi sg (nI w) < x then noR else x := by
    intro sg g1 g2
    show rwG 10000000000000000 4294967296 (cLo sg (nI w)) (cHi sg (nI w)) 1 1 0 x = _
    by_cases z : x < cLo sg (nI w) ∨ cHi sg (nI w) < x
    · rw [if_pos z]
      refine rwG_none (by decide) (by decide) (by decide) (by decide) (by decide) (by decide) (by decide) ?_
      rintro ⟨R, r0, r1, r2, r3⟩
      rw [o1, i64_z] at r1
      rw [i64_lt, i64_lt] at z
      omega
    · rw [if_neg z]
      rw [i64_lt, i64_lt] at z
      exact Int64.toInt_inj.mp (rwG_some (by decide) (by decide) (by decide) (by decide) (by decide) (by decide) (by decide) (by omega) (by omega) (R := x.toInt) (by decide) (by rw [o1, i64_z]; omega) (by omega) (by omega))
  rw [h10, hw]
  rcases hc with ⟨c1, c2⟩ | ⟨c1, c2⟩ | ⟨c1, c2⟩
  · rw [c2, c1]
    show rwF 1 (nI w) 1 1 0 x = _
    have e : enM (nI w) 1 f12 f13 f14 x = enG (nI w) 1 x := by rw [enM, if_neg (by decide)]
    rw [gen 1 (by omega) (by omega), e, enG_1 h1 h4]
  · rw [c2] at hb
    obtain ⟨b1, b2, b3⟩ := hb
    have b1 : 1 ≤ f13.toInt64.toInt ∧ f13.toInt64.toInt ≤ 999999 := b1
    have b2 : -999999 ≤ f12.toInt64.toInt ∧ f12.toInt64.toInt ≤ 999999 := b2
    have b3 : -999999 ≤ f14.toInt64.toInt ∧ f14.toInt64.toInt ≤ 999999 := b3
    rw [c2]
    show rwG 10000000000000000 4294967296 (cLo 0 (nI w)) (cHi 0 (nI w)) f12.toInt64 f13.toInt64 f14.toInt64 x = _
    rw [rwG_eq (B2 := 4294967295000000) (K2 := 4294967295) (by decide) (by decide) (by decide) (by decide) b1 b2 b3 (by omega) (by omega)]
    have e12 : f12.toInt64.toInt = f12.toInt := Int32.toInt_toInt64 f12
    have hA : enA f12 f13 = 4294967295 * labs f12.toInt64 / f13.toInt64 := by unfold enA; rw [lab32 (by omega) (by omega)]
    obtain ⟨f1, f2, f3⟩ := rw_fa (K := 4294967295) (by decide) (by decide) b1 b2
    rw [← hA] at f1
    have f4 : 0 ≤ (enA f12 f13).toInt := by rw [f1]; exact Int.ediv_nonneg f2 (by omega)
    have f5 : (enA f12 f13).toInt ≤ 4294967296 * 999999 := by rw [f1]; exact Int.le_trans (Int.ediv_le_self _ f2) f3
    have eA := i64_neg (a := enA f12 f13) (by omega) (by omega)
    have kB : (4294967295000000 : Int64).toInt = 4294967295000000 := by decide
    have kB2 : (-4294967295000000 : Int64).toInt = -4294967295000000 := by decide
    unfold enM rwG
    rw [if_pos c1]
    by_cases z1 : f12 = 0
    · rw [if_pos z1, if_pos (Or.inl (by rw [z1]; decide))]
    rw [if_neg z1]
    by_cases z2 : 4294967295000000 < x
    · rw [if_pos z2, if_pos (Or.inr (Or.inr (Or.inr z2)))]
    rw [if_neg z2]
    by_cases z3 : x < -4294967295000000
    · rw [if_pos z3, if_pos (Or.inr (Or.inr (Or.inl z3)))]
    rw [if_neg z3, if_neg (c := f12.toInt64 = 0 ∨ f13.toInt64 = 0 ∨ x < -4294967295000000 ∨ 4294967295000000 < x)]
    · rw [i64_lt, kB] at z2
      rw [i64_lt, kB2] at z3
      have e1 : (x - f14.toInt64).toInt = x.toInt - f14.toInt64.toInt := i64_sub (by omega) (by omega)
      have eL := (labs_b (a := x - f14.toInt64) (by rw [e1]; omega)).2
      rw [e1] at eL
      rw [← hA]
      by_cases z4 : enA f12 f13 < x - f14.toInt64
      · rw [if_pos z4, if_pos (by rw [i64_lt, eL]; rw [i64_lt, e1] at z4; omega)]
      rw [if_neg z4]
      by_cases z5 : x - f14.toInt64 < -enA f12 f13
      · rw [if_pos z5, if_pos (by rw [i64_lt, eL]; rw [i64_lt, e1, eA] at z5; omega)]
      rw [if_neg z5, if_neg (c := enA f12 f13 < labs (x - f14.toInt64))]
      · by_cases z6 : (x - f14.toInt64) * f13.toInt64 - (x - f14.toInt64) * f13.toInt64 / f12.toInt64 * f12.toInt64 = 0
        · rw [if_pos z6, if_neg (fun u => u z6), enG_0 h1 h4 (by rw [c1]; decide)]
        · rw [if_neg z6, if_pos z6]
      · rw [i64_lt, e1] at z4
        rw [i64_lt, e1, eA] at z5
        rw [i64_lt, eL]
        omega
    · rintro (u | u | u | u)
      · exact z1 (i32_64.mp (u.trans (by decide)))
      · rw [i64_ez] at u; omega
      · exact z3 u
      · exact z2 u
  · rw [c2]
    show rwF 0 (nI w) 1 1 0 x = _
    have e : enM (nI w) f11 f12 f13 f14 x = enG (nI w) f11 x := by rw [enM, if_neg (by rcases c1 with c | c <;> (rw [c]; decide))]
    rw [gen 0 (by omega) (by omega), e, enG_0 h1 h4 (by rcases c1 with c | c <;> (rw [c]; decide))]
theorem noR_lt {r : Int64} (h : -4294967296 ≤ r.toInt) : r ≠ noR := fun z => by
  rw [z, show noR.toInt = -9223372036854775808 by decide] at h
  omega
theorem enG_ne {w : Nat} (h1 : 1 ≤ w) (h4 : w ≤ 4) {r : Int64} (h : ¬ r < -enL (nI w) / 2 ∨ ¬ r < 0) : r ≠ noR := by
  obtain ⟨N, a1, a2, a3, a4, a5, a6, a7, a8, a9⟩ := enL_c h1 h4
  rw [i64_lt, i64_lt, a3, i64_z] at h
  exact noR_lt (by omega)
def enW (v : EdV) (k : Nat) (xv : Int64) : Int64 := rwF (v.C k).2.1 (v.C k).1.2.2 (v.C k).2.2.2.1 (v.C k).2.2.2.2.1 (v.C k).2.2.2.2.2 xv
def enP (P : PdT) (i : Nat) (x : Int64) : PdT := up1 P i ((P i).1, (P i).2.1, (P i).2.2.1, x)
/-- encode's answer -/
def enR (v : EdV) (iv jv : Int32) (xv : Int64) : Int32 := match spO v iv jv with
  | none => -1
  | some y => match cdN v (v.P y.1 y.2).2.2.1 with
    | none => -1
    | some k => if enW v k xv = noR then 0 else 1
