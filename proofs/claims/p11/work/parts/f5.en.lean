/-! ===== the raw of a value, on both sides ===== -/
def rwG (B K lo hi ti ov pl x : Int64) : Int64 :=
  if ti = 0 ∨ ov = 0 ∨ x < -B ∨ B < x then noR
  else if K * labs ti / ov < labs (x - pl) then noR
  else if ¬ ((x - pl) * ov - (x - pl) * ov / ti * ti = 0) then noR
  else if (x - pl) * ov / ti < lo ∨ hi < (x - pl) * ov / ti then noR else (x - pl) * ov / ti
theorem i64_div {a b : Int64} (h1 : -4611686018427387904 ≤ a.toInt) (h2 : a.toInt ≤ 4611686018427387904) : (a / b).toInt = a.toInt.tdiv b.toInt := by
  rw [Int64.toInt_div]
  have h3 := Int.natAbs_tdiv_le_natAbs a.toInt b.toInt
  apply Int.bmod_eq_of_le_mul_two <;> omega
theorem i64_neg {a : Int64} (h1 : -4611686018427387904 ≤ a.toInt) (h2 : a.toInt ≤ 4611686018427387904) : (-a).toInt = -a.toInt := by
  rw [Int64.toInt_neg]
  apply Int.bmod_eq_of_le_mul_two <;> omega
theorem i64_lt {a b : Int64} : a < b ↔ a.toInt < b.toInt := Int64.lt_iff_toInt_lt
theorem i64_z : (0 : Int64).toInt = 0 := by decide
theorem i64_ez {a : Int64} : a = 0 ↔ a.toInt = 0 := ⟨fun h => by rw [h]; exact i64_z, fun h => Int64.toInt_inj.mp (h.trans i64_z.symm)⟩
theorem rw_fa {K ti ov : Int64} (hK : 4294967295 ≤ K.toInt) (hK2 : K.toInt ≤ 4294967296) (ho : 1 ≤ ov.toInt ∧ ov.toInt ≤ 999999) (ht : -999999 ≤ ti.toInt ∧ ti.toInt ≤ 999999) : (K * labs ti / ov).toInt = K.toInt * (ti.toInt.natAbs : Int) / ov.toInt ∧ 0 ≤ K.toInt * (ti.toInt.natAbs : Int) ∧ K.toInt * (ti.toInt.natAbs : Int) ≤ 4294967296 * 999999 := by
  have hl := (labs_b (a := ti) (by omega)).2
  have m := mul_b (A := 4294967296) (B := 999999) (a := K.toInt) (b := (ti.toInt.natAbs : Int)) ⟨by omega, by omega⟩ ⟨by omega, by omega⟩
  have m0 : 0 ≤ K.toInt * (ti.toInt.natAbs : Int) := Int.mul_nonneg (by omega) (by omega)
  have e : (K * labs ti).toInt = K.toInt * (ti.toInt.natAbs : Int) := by
    rw [i64_mul (by rw [hl]; omega) (by rw [hl]; omega), hl]
  refine ⟨?_, m0, by omega⟩
  rw [i64_div (by rw [e]; omega) (by rw [e]; omega), e]
  exact Int.tdiv_eq_ediv_of_nonneg m0
section

variable {B K lo hi ti ov pl x : Int64}
theorem rwG_some (hB : 4294963001032704 ≤ B.toInt) (hB2 : B.toInt ≤ 10000000000000000) (hK : 4294967295 ≤ K.toInt) (hK2 : K.toInt ≤ 4294967296) (ho : 1 ≤ ov.toInt ∧ ov.toInt ≤ 999999) (ht : -999999 ≤ ti.toInt ∧ ti.toInt ≤ 999999) (hp : -999999 ≤ pl.toInt ∧ pl.toInt ≤ 999999) (hlo : -4294967295 ≤ lo.toInt) (hhi : hi.toInt ≤ 4294967295) {R : Int} (h0 : ti.toInt ≠ 0) (hR : R * ti.toInt = (x.toInt - pl.toInt) * ov.toInt) (h1 : lo.toInt ≤ R) (h2 : R ≤ hi.toInt) : (rwG B K lo hi ti ov pl x).toInt = R := by
  have m1 := mul_b (A := 4294967295) (B := 999999) (a := R) (b := ti.toInt) ⟨by omega, by omega⟩ ⟨by omega, by omega⟩
  rw [hR] at m1
  have m2 : (x.toInt - pl.toInt).natAbs ≤ ((x.toInt - pl.toInt) * ov.toInt).natAbs := by
    rw [Int.natAbs_mul]
    exact Nat.le_mul_of_pos_right _ (by omega)
  have e1 : (x - pl).toInt = x.toInt - pl.toInt := i64_sub (by omega) (by omega)
  have e2 : ((x - pl) * ov).toInt = (x.toInt - pl.toInt) * ov.toInt := by
    rw [i64_mul (by rw [e1]; omega) (by rw [e1]; omega), e1]
  have e3 : ((x - pl) * ov / ti).toInt = R := by
    rw [i64_div (by rw [e2]; omega) (by rw [e2]; omega), e2, ← hR]
    exact Int.mul_tdiv_cancel R h0
  have e4 : ((x - pl) * ov / ti * ti).toInt = (x.toInt - pl.toInt) * ov.toInt := by
    rw [i64_mul (by rw [e3, hR]; omega) (by rw [e3, hR]; omega), e3, hR]
  have eB := i64_neg (a := B) (by omega) (by omega)
  obtain ⟨f1, f2, f3⟩ := rw_fa hK hK2 ho ht
  have eL := (labs_b (a := x - pl) (by rw [e1]; omega)).2
  rw [e1] at eL
  have q1 : (x.toInt - pl.toInt).natAbs * ov.toInt.natAbs = R.natAbs * ti.toInt.natAbs := by rw [← Int.natAbs_mul, ← Int.natAbs_mul, hR]
  have q2 : R.natAbs * ti.toInt.natAbs ≤ 4294967295 * ti.toInt.natAbs := Nat.mul_le_mul_right _ (by omega)
  have q3 : (4294967295 : Int) * (ti.toInt.natAbs : Int) ≤ K.toInt * (ti.toInt.natAbs : Int) := Int.mul_le_mul_of_nonneg_right hK (by omega)
  have q4 : ((x.toInt - pl.toInt).natAbs : Int) * ov.toInt = (((x.toInt - pl.toInt).natAbs * ov.toInt.natAbs : Nat) : Int) := by
    rw [Int.natCast_mul, Int.natAbs_of_nonneg (show 0 ≤ ov.toInt by omega)]
  have q5 : ((x.toInt - pl.toInt).natAbs : Int) ≤ K.toInt * (ti.toInt.natAbs : Int) / ov.toInt := by
    rw [Int.le_ediv_iff_mul_le (by omega), q4, q1]
    omega
  unfold rwG
  rw [if_neg, if_neg, if_neg, if_neg]
  · exact e3
  · rintro (z | z)
    · rw [i64_lt, e3] at z; omega
    · rw [i64_lt, e3] at z; omega
  · refine fun z => z (i64_ez.mpr ?_)
    rw [i64_sub (by rw [e2, e4]; omega) (by rw [e2, e4]; omega), e2, e4]
    omega
  · rw [i64_lt, f1, eL]
    omega
  · rintro (z | z | z | z)
    · exact h0 (i64_ez.mp z)
    · rw [i64_ez] at z; omega
    · rw [i64_lt, eB] at z; omega
    · rw [i64_lt] at z; omega
theorem rwG_none (hB2 : B.toInt ≤ 10000000000000000) (hB : 0 ≤ B.toInt) (hK : 4294967295 ≤ K.toInt) (hK2 : K.toInt ≤ 4294967296) (ho : 1 ≤ ov.toInt ∧ ov.toInt ≤ 999999) (ht : -999999 ≤ ti.toInt ∧ ti.toInt ≤ 999999) (hp : -999999 ≤ pl.toInt ∧ pl.toInt ≤ 999999) (hn : ¬ ∃ R : Int, ti.toInt ≠ 0 ∧ R * ti.toInt = (x.toInt - pl.toInt) * ov.toInt ∧ lo.toInt ≤ R ∧ R ≤ hi.toInt) : rwG B K lo hi ti ov pl x = noR := by
  unfold rwG
  by_cases c1 : ti = 0 ∨ ov = 0 ∨ x < -B ∨ B < x
  · rw [if_pos c1]
  rw [if_neg c1]
  have eB := i64_neg (a := B) (by omega) (by omega)
  have b0 : ti.toInt ≠ 0 := fun z => c1 (Or.inl (i64_ez.mpr z))
  have b1 : ¬ x.toInt < -B.toInt := fun z => c1 (Or.inr (Or.inr (Or.inl (by rw [i64_lt, eB]; exact z))))
  have b2 : ¬ B.toInt < x.toInt := fun z => c1 (Or.inr (Or.inr (Or.inr (by rw [i64_lt]; exact z))))
  have e1 : (x - pl).toInt = x.toInt - pl.toInt := i64_sub (by omega) (by omega)
  obtain ⟨f1, f2, f3⟩ := rw_fa hK hK2 ho ht
  have eL := (labs_b (a := x - pl) (by rw [e1]; omega)).2
  rw [e1] at eL
  by_cases c2 : K * labs ti / ov < labs (x - pl)
  · rw [if_pos c2]
  rw [if_neg c2]
  rw [i64_lt, f1, eL] at c2
  have q5 : ((x.toInt - pl.toInt).natAbs : Int) * ov.toInt ≤ K.toInt * (ti.toInt.natAbs : Int) := by
    rw [← Int.le_ediv_iff_mul_le (by omega)]
    omega
  have q4 : ((x.toInt - pl.toInt).natAbs : Int) * ov.toInt = ((((x.toInt - pl.toInt) * ov.toInt).natAbs : Nat) : Int) := by
    rw [Int.natAbs_mul, Int.natCast_mul, Int.natAbs_of_nonneg (show 0 ≤ ov.toInt by omega)]
  have e2 : ((x - pl) * ov).toInt = (x.toInt - pl.toInt) * ov.toInt := by
    rw [i64_mul (by rw [e1]; omega) (by rw [e1]; omega), e1]
  obtain ⟨a, ea⟩ : ∃ y, y = (x.toInt - pl.toInt) * ov.toInt := ⟨_, rfl⟩
  rw [← ea] at e2 q4 hn
  have e3 : ((x - pl) * ov / ti).toInt = a.tdiv ti.toInt := by
    rw [i64_div (by rw [e2]; omega) (by rw [e2]; omega), e2]
  have q6 : (a.tdiv ti.toInt * ti.toInt).natAbs ≤ a.natAbs := by
    rw [Int.natAbs_mul, Int.natAbs_tdiv]
    exact Nat.div_mul_le_self _ _
  have e4 : ((x - pl) * ov / ti * ti).toInt = a.tdiv ti.toInt * ti.toInt := by
    rw [i64_mul (by rw [e3]; omega) (by rw [e3]; omega), e3]
  by_cases c3 : (x - pl) * ov - (x - pl) * ov / ti * ti = 0
  · rw [if_neg (fun z => z c3)]
    have c4 := i64_ez.mp c3
    rw [i64_sub (by rw [e2, e4]; omega) (by rw [e2, e4]; omega), e2, e4] at c4
    rw [if_pos]
    refine Classical.byContradiction (fun z => hn ⟨_, b0, show a.tdiv ti.toInt * ti.toInt = a by omega, ?_, ?_⟩)
    · refine Int.not_lt.mp (fun y => z (Or.inl ?_))
      rw [i64_lt, e3]
      exact y
    · refine Int.not_lt.mp (fun y => z (Or.inr ?_))
      rw [i64_lt, e3]
      exact y
  · rw [if_pos c3]
end
theorem rwG_eq {B K B2 K2 lo hi ti ov pl x : Int64} (hB : 4294963001032704 ≤ B.toInt ∧ B.toInt ≤ 10000000000000000) (hK : 4294967295 ≤ K.toInt ∧ K.toInt ≤ 4294967296) (hB2 : 4294963001032704 ≤ B2.toInt ∧ B2.toInt ≤ 10000000000000000) (hK2 : 4294967295 ≤ K2.toInt ∧ K2.toInt ≤ 4294967296) (ho : 1 ≤ ov.toInt ∧ ov.toInt ≤ 999999) (ht : -999999 ≤ ti.toInt ∧ ti.toInt ≤ 999999) (hp : -999999 ≤ pl.toInt ∧ pl.toInt ≤ 999999) (hlo : -4294967295 ≤ lo.toInt) (hhi : hi.toInt ≤ 4294967295) : rwG B K lo hi ti ov pl x = rwG B2 K2 lo hi ti ov pl x := by
  by_cases h : ∃ R : Int, ti.toInt ≠ 0 ∧ R * ti.toInt = (x.toInt - pl.toInt) * ov.toInt ∧ lo.toInt ≤ R ∧ R ≤ hi.toInt
  · obtain ⟨R, h0, hR, h1, h2⟩ := h
    exact Int64.toInt_inj.mp ((rwG_some hB.1 hB.2 hK.1 hK.2 ho ht hp hlo hhi h0 hR h1 h2).trans (rwG_some hB2.1 hB2.2 hK2.1 hK2.2 ho ht hp hlo hhi h0 hR h1 h2).symm)
  · rw [rwG_none hB.2 (by omega) hK.1 hK.2 ho ht hp h, rwG_none hB2.2 (by omega) hK2.1 hK2.2 ho ht hp h]
/-- the reference's own way -/
def enL (f10 : Int32) : Int64 := (1 : Int64) <<< ((8 * f10 : Int32).toInt64 &&& 63)
def enG (f10 f11 : Int32) (r : Int64) : Int64 := if f11 = 1 then (if r < -enL f10 / 2 then noR else if r < enL f10 / 2 then r else noR) else (if r < 0 then noR else if r < enL f10 then r else noR)
def enA (f12 f13 : Int32) : Int64 := 4294967295 * (if f12 < 0 then -f12 else f12 : Int32).toInt64 / f13.toInt64
def enM (f10 f11 f12 f13 f14 : Int32) (x : Int64) : Int64 :=
  if f11 = 2 then
    if f12 = 0 then noR else if 4294967295000000 < x then noR else if x < -4294967295000000 then noR
    else if enA f12 f13 < x - f14.toInt64 then noR else if x - f14.toInt64 < -enA f12 f13 then noR
    else if (x - f14.toInt64) * f13.toInt64 - (x - f14.toInt64) * f13.toInt64 / f12.toInt64 * f12.toInt64 = 0 then enG f10 f11 ((x - f14.toInt64) * f13.toInt64 / f12.toInt64) else noR
  else enG f10 f11 x
theorem enL_c {w : Nat} (h1 : 1 ≤ w) (h4 : w ≤ 4) : ∃ N : Int, (enL (nI w)).toInt = 2 * N ∧ (enL (nI w) / 2).toInt = N ∧ (-enL (nI w) / 2).toInt = -N ∧ (cLo 1 (nI w)).toInt = -N ∧ (cHi 1 (nI w)).toInt = N - 1 ∧ (cLo 0 (nI w)).toInt = 0 ∧ (cHi 0 (nI w)).toInt = 2 * N - 1 ∧ 128 ≤ N ∧ N ≤ 2147483648 := by
  have hw : w = 1 ∨ w = 2 ∨ w = 3 ∨ w = 4 := by omega
  rcases hw with e | e | e | e
  · rw [e]; exact ⟨128, by decide, by decide, by decide, by decide, by decide, by decide, by decide, by decide, by decide⟩
  · rw [e]; exact ⟨32768, by decide, by decide, by decide, by decide, by decide, by decide, by decide, by decide, by decide⟩
  · rw [e]; exact ⟨8388608, by decide, by decide, by decide, by decide, by decide, by decide, by decide, by decide, by decide⟩
  · rw [e]; exact ⟨2147483648, by decide, by decide, by decide, by decide, by decide, by decide, by decide, by decide, by decide⟩
theorem enG_1 {w : Nat} (h1 : 1 ≤ w) (h4 : w ≤ 4) {r : Int64} : enG (nI w) 1 r = if r < cLo 1 (nI w) ∨ cHi 1 (nI w) < r then noR else r := by
  obtain ⟨N, a1, a2, a3, a4, a5, a6, a7, a8, a9⟩ := enL_c h1 h4
  unfold enG
  rw [if_pos rfl]
  by_cases z : r < -enL (nI w) / 2
  · rw [if_pos z, if_pos (Or.inl (by rw [i64_lt, a4, ← a3]; exact i64_lt.mp z))]
  · rw [if_neg z]
    rw [i64_lt, a3] at z
    by_cases y : r < enL (nI w) / 2
    · rw [if_pos y, if_neg]
      rw [i64_lt, a2] at y
      rintro (u | u)
      · rw [i64_lt, a4] at u; omega
      · rw [i64_lt, a5] at u; omega
    · rw [if_neg y, if_pos]
      rw [i64_lt, a2] at y
      refine Or.inr ?_
      rw [i64_lt, a5]; omega
theorem enG_0 {w : Nat} (h1 : 1 ≤ w) (h4 : w ≤ 4) {f11 : Int32} (hf : ¬ f11 = 1) {r : Int64} : enG (nI w) f11 r = if r < cLo 0 (nI w) ∨ cHi 0 (nI w) < r then noR else r := by
  obtain ⟨N, a1, a2, a3, a4, a5, a6, a7, a8, a9⟩ := enL_c h1 h4
  unfold enG
  rw [if_neg hf]
  by_cases z : r < 0
  · rw [if_pos z, if_pos (Or.inl (by rw [i64_lt, a6, ← i64_z]; exact i64_lt.mp z))]
  · rw [if_neg z]
    rw [i64_lt, i64_z] at z
    by_cases y : r < enL (nI w)
    · rw [if_pos y, if_neg]
      rw [i64_lt, a1] at y
      rintro (u | u)
      · rw [i64_lt, a6] at u; omega
      · rw [i64_lt, a7] at u; omega
    · rw [if_neg y, if_pos]
      rw [i64_lt, a1] at y
      refine Or.inr ?_
      rw [i64_lt, a7]; omega
theorem lab32 {f : Int32} (h1 : -999999 ≤ f.toInt) (h2 : f.toInt ≤ 999999) : (if f < 0 then -f else f : Int32).toInt64 = labs f.toInt64 := by
  have h0 : (0 : Int32).toInt = 0 := by decide
  have e : f.toInt64.toInt = f.toInt := Int32.toInt_toInt64 f
  unfold labs
  by_cases z : f < 0
  · rw [if_pos z, if_pos (by rw [i64_lt, i64_z, e]; have y := Int32.lt_iff_toInt_lt.mp z; rw [h0] at y; exact y)]
    apply Int64.toInt_inj.mp
    rw [i64_neg (by rw [e]; omega) (by rw [e]; omega), Int32.toInt_toInt64, e, Int32.toInt_neg]
    apply Int.bmod_eq_of_le_mul_two <;> omega
  · rw [if_neg z, if_neg]
    intro y
    rw [i64_lt, i64_z, e] at y
    exact z (Int32.lt_iff_toInt_lt.mpr (by rw [h0]; exact y))
theorem en_eq {f10 f11 f12 f13 f14 wd : Int32} {y : Int32 × Int32 × Int64 × Int64 × Int64} {w : Nat} (h10 : f10 = wd) (hw : wd = nI w) (h1 : 1 ≤ w) (h4 : w ≤ 4) (hc : (f11 = 1 ∧ y = (1, 0, 1, 1, 0)) ∨ (f11 = 2 ∧ y = (0, 1, f12.toInt64, f13.toInt64, f14.toInt64)) ∨ ((f11 = 0 ∨ f11 = 3) ∧ y = (0, 0, 1, 1, 0))) (hb : CBx y) (x : Int64) : rwF y.1 wd y.2.2.1 y.2.2.2.1 y.2.2.2.2 x = enM f10 f11 f12 f13 f14 x := by
  obtain ⟨N, a1, a2, a3, a4, a5, a6, a7, a8, a9⟩ := enL_c h1 h4
  have o1 : (1 : Int64).toInt = 1 := by decide
  have gen : ∀ sg : Int32, (cLo sg (nI w)).toInt ≥ -4294967295 → (cHi sg (nI w)).toInt ≤ 4294967295 → rwF sg (nI w) 1 1 0 x = if x < cLo sg (nI w) ∨ cHi sg (nI w) < x then noR else x := by
    intro sg g1 g2
    show rwG 10000000000000000 4294967296 (cLo sg (nI w)) (cHi sg (nI w)) 1 1 0 x = _
    by_cases z : x < cLo sg (nI w) ∨ cHi sg (nI w) < x
    · rw [if_pos z]
      refine rwG_none (by decide) (by decide) (by decide) (by decide) (by decide) (by decide) (by decide) ?_
      rintro ⟨R, r0, r1, r2, r3⟩
      rw [o1, i64_z] at r1
      rw [i64_lt, i64_lt] at z
      omega
    · rw [if_neg z]
      rw [i64_lt, i64_lt] at z
      exact Int64.toInt_inj.mp (rwG_some (by decide) (by decide) (by decide) (by decide) (by decide) (by decide) (by decide) (by omega) (by omega) (R := x.toInt) (by decide) (by rw [o1, i64_z]; omega) (by omega) (by omega))
  rw [h10, hw]
  rcases hc with ⟨c1, c2⟩ | ⟨c1, c2⟩ | ⟨c1, c2⟩
  · rw [c2, c1]
    show rwF 1 (nI w) 1 1 0 x = _
    have e : enM (nI w) 1 f12 f13 f14 x = enG (nI w) 1 x := by rw [enM, if_neg (by decide)]
    rw [gen 1 (by omega) (by omega), e, enG_1 h1 h4]
  · rw [c2] at hb
    obtain ⟨b1, b2, b3⟩ := hb
    have b1 : 1 ≤ f13.toInt64.toInt ∧ f13.toInt64.toInt ≤ 999999 := b1
    have b2 : -999999 ≤ f12.toInt64.toInt ∧ f12.toInt64.toInt ≤ 999999 := b2
    have b3 : -999999 ≤ f14.toInt64.toInt ∧ f14.toInt64.toInt ≤ 999999 := b3
    rw [c2]
    show rwG 10000000000000000 4294967296 (cLo 0 (nI w)) (cHi 0 (nI w)) f12.toInt64 f13.toInt64 f14.toInt64 x = _
    rw [rwG_eq (B2 := 4294967295000000) (K2 := 4294967295) (by decide) (by decide) (by decide) (by decide) b1 b2 b3 (by omega) (by omega)]
    have e12 : f12.toInt64.toInt = f12.toInt := Int32.toInt_toInt64 f12
    have hA : enA f12 f13 = 4294967295 * labs f12.toInt64 / f13.toInt64 := by unfold enA; rw [lab32 (by omega) (by omega)]
    obtain ⟨f1, f2, f3⟩ := rw_fa (K := 4294967295) (by decide) (by decide) b1 b2
    rw [← hA] at f1
    have f4 : 0 ≤ (enA f12 f13).toInt := by rw [f1]; exact Int.ediv_nonneg f2 (by omega)
    have f5 : (enA f12 f13).toInt ≤ 4294967296 * 999999 := by rw [f1]; exact Int.le_trans (Int.ediv_le_self _ f2) f3
    have eA := i64_neg (a := enA f12 f13) (by omega) (by omega)
    have kB : (4294967295000000 : Int64).toInt = 4294967295000000 := by decide
    have kB2 : (-4294967295000000 : Int64).toInt = -4294967295000000 := by decide
    unfold enM rwG
    rw [if_pos c1]
    by_cases z1 : f12 = 0
    · rw [if_pos z1, if_pos (Or.inl (by rw [z1]; decide))]
    rw [if_neg z1]
    by_cases z2 : 4294967295000000 < x
    · rw [if_pos z2, if_pos (Or.inr (Or.inr (Or.inr z2)))]
    rw [if_neg z2]
    by_cases z3 : x < -4294967295000000
    · rw [if_pos z3, if_pos (Or.inr (Or.inr (Or.inl z3)))]
    rw [if_neg z3, if_neg (c := f12.toInt64 = 0 ∨ f13.toInt64 = 0 ∨ x < -4294967295000000 ∨ 4294967295000000 < x)]
    · rw [i64_lt, kB] at z2
      rw [i64_lt, kB2] at z3
      have e1 : (x - f14.toInt64).toInt = x.toInt - f14.toInt64.toInt := i64_sub (by omega) (by omega)
      have eL := (labs_b (a := x - f14.toInt64) (by rw [e1]; omega)).2
      rw [e1] at eL
      rw [← hA]
      by_cases z4 : enA f12 f13 < x - f14.toInt64
      · rw [if_pos z4, if_pos (by rw [i64_lt, eL]; rw [i64_lt, e1] at z4; omega)]
      rw [if_neg z4]
      by_cases z5 : x - f14.toInt64 < -enA f12 f13
      · rw [if_pos z5, if_pos (by rw [i64_lt, eL]; rw [i64_lt, e1, eA] at z5; omega)]
      rw [if_neg z5, if_neg (c := enA f12 f13 < labs (x - f14.toInt64))]
      · by_cases z6 : (x - f14.toInt64) * f13.toInt64 - (x - f14.toInt64) * f13.toInt64 / f12.toInt64 * f12.toInt64 = 0
        · rw [if_pos z6, if_neg (fun u => u z6), enG_0 h1 h4 (by rw [c1]; decide)]
        · rw [if_neg z6, if_pos z6]
      · rw [i64_lt, e1] at z4
        rw [i64_lt, e1, eA] at z5
        rw [i64_lt, eL]
        omega
    · rintro (u | u | u | u)
      · exact z1 (i32_64.mp (u.trans (by decide)))
      · rw [i64_ez] at u; omega
      · exact z3 u
      · exact z2 u
  · rw [c2]
    show rwF 0 (nI w) 1 1 0 x = _
    have e : enM (nI w) f11 f12 f13 f14 x = enG (nI w) f11 x := by rw [enM, if_neg (by rcases c1 with c | c <;> (rw [c]; decide))]
    rw [gen 0 (by omega) (by omega), e, enG_0 h1 h4 (by rcases c1 with c | c <;> (rw [c]; decide))]
theorem noR_lt {r : Int64} (h : -4294967296 ≤ r.toInt) : r ≠ noR := fun z => by
  rw [z, show noR.toInt = -9223372036854775808 by decide] at h
  omega
theorem enG_ne {w : Nat} (h1 : 1 ≤ w) (h4 : w ≤ 4) {r : Int64} (h : ¬ r < -enL (nI w) / 2 ∨ ¬ r < 0) : r ≠ noR := by
  obtain ⟨N, a1, a2, a3, a4, a5, a6, a7, a8, a9⟩ := enL_c h1 h4
  rw [i64_lt, i64_lt, a3, i64_z] at h
  exact noR_lt (by omega)
def enW (v : EdV) (k : Nat) (xv : Int64) : Int64 := rwF (v.C k).2.1 (v.C k).1.2.2 (v.C k).2.2.2.1 (v.C k).2.2.2.2.1 (v.C k).2.2.2.2.2 xv
def enP (P : PdT) (i : Nat) (x : Int64) : PdT := up1 P i ((P i).1, (P i).2.1, (P i).2.2.1, x)
/-- encode's answer -/
def enR (v : EdV) (iv jv : Int32) (xv : Int64) : Int32 := match spO v iv jv with
  | none => -1
  | some y => match cdN v (v.P y.1 y.2).2.2.1 with
    | none => -1
    | some k => if enW v k xv = noR then 0 else 1
set_option maxHeartbeats 4000000 in
set_option maxRecDepth 100000 in
theorem c_M_encode (l : Launch) (D : va_G) (cy : Nat → ClassId) (A : Nat → Prop) (X : State → Prop) (hst : mk_St A X) (hXT : ∀ U : State, X U → TB U) (G : Nat → Option va_E) (o : Nat) (Ar : Nat → Nat) (Iv : Nat → Int32) (F : Nat → Nat → Int32) (L : Nat → Nat → Int64) (ft : Nat → Int32) (en b9 n9 : Nat) (v9 : EdV) (nm : Int64 → Int32) (sl9 : Nat) (P9 : Nat → PdT) (so : Nat → Int32) (iv jv : Int32) (xv : Int64) (hM : MD cy G o Ar Iv F L) (hB : BK (tkK ft en) (tkV ft en) n9 F b9 v9) (hLS : LSv v9) (hVL : VLD v9) (hn30 : n9 < 2 ^ 30) (hb9 : b9 < 2) (hbk : Iv 42 = nI b9) (h43 : ¬ Iv 43 = 0) (hnm : ∀ r x, NMt (tkK ft en) (tkV ft en) n9 r x → r = nm x) (hWd : WDv v9) (hCB : CBv v9) (h68 : Iv 68 = nI sl9) (hsl : sl9 ≤ 64) (hrm : ∀ s, s < v9.nS → ∀ i, i < v9.nP s → (P9 s i).2.2.2 = L 70 (8 * s + i)) : Met l yX14_encode [.code yX14_encode cX14_encode 15 (some .int)] ({ frames := 3, cells := 0, slots := 0, locals := 120 }) (mk_Pre D vwCl (tyL cy) A X G [.ref o, .int iv, .int jv, .long xv]) (va_Qi (fun (r : Int32) (G2 : Nat → Option va_E) => ∃ (I2 : Nat → Int32) (F2 : Nat → Nat → Int32) (L2 : Nat → Nat → Int64), MD cy G2 o Ar I2 F2 L2 ∧ MF G G2 o Ar ∧ (∀ j, ¬ j = 38 → ¬ j = 68 → I2 j = Iv j) ∧ I2 38 = 0 ∧ (∃ k, k ≤ 64 ∧ I2 68 = nI k) ∧ (∀ j, ¬ (j = 67 ∨ (71 ≤ j ∧ j ≤ 73)) → F2 j = F j) ∧ (∀ j, ¬ j = 70 → ¬ j = 74 → L2 j = L j) ∧ r = enR v9 iv jv xv ∧ (¬ r = 1 → I2 68 = Iv 68 ∧ F2 67 = F 67 ∧ L2 70 = L 70) ∧ (∀ y k, spO v9 iv jv = some y → cdN v9 (v9.P y.1 y.2).2.2.1 = some k → ¬ enW v9 k xv = noR → L2 70 = vp_updL (L 70) (8 * y.1 + y.2) (enW v9 k xv) ∧ I2 68 = nI (maF v9 y.1 (enP (P9 y.1) y.2 (enW v9 k xv)) so).2.1 ∧ JS (maF v9 y.1 (enP (P9 y.1) y.2 (enW v9 k xv)) so).2 (maF v9 y.1 (enP (P9 y.1) y.2 (enW v9 k xv)) so).2.1 (F2 67))) (mk_B D vwCl A) A) 0 0 A := by
  refine Met.ofW (cc := cX14_encode) (maxL := 15) (ret := (some .int)) (by decide) rfl ?_
  intro p e s m args below meth c s₁ B hml hv
  obtain ⟨rfl, hG, hK, hA, hX⟩ := hv
  have hx := B.exec
  have hb := B.bytes
  have hr := B.returns
  have hlocks := B.notSynchronized
  have hT := hXT s hX
  have hown : s.vm.findClass RX14 = some m.cls := findClass_of_methodNamed B.named
  have hf_X14 : ∀ w ∈ u_ws RX14 TX14 76, w.before ([.ref o, .int iv, .int jv, .long xv] : List Value).toArray s = true := tb_list hT fX14
  have hS : va_S A s.heap s.heap [] := va_S.rf
  have hl := lv_entry ([.ref o, .int iv, .int jv, .long xv]) (n := 15) (Nat.le_of_ble_eq_true rfl)
  rw [lg_entry_eq]
  generalize (lg_sl ([.ref o, .int iv, .int jv, .long xv]) ++ List.replicate (15 - (lg_sl ([.ref o, .int iv, .int jv, .long xv])).length) Slot.unset).toArray = ls at hl ⊢
  have hl : lv_has ls 15 [(0, .ref o), (1, .int iv), (2, .int jv), (3, .long xv)] := hl
  have hF : MF G G o Ar := MF.rf
  refine lv_aload_n hx hb dX14_encode_0 rfl (lv_at hl 0 rfl) ?_
  refine lv_iconst (v := 0) hx hb dX14_encode_1 (by decide) ?_
  refine mm_put (v := .int 0) (ty := .int) hx hb hf_X14 (fun _ h9 => h9) tyX14 tyX14_ok nmX14 hown hK hG hS hM.1 rfl 38 (by decide) (tb_use hT tw_1429) (fun _ h9 => h9) rfl (by decide +kernel) rfl rfl (mfs_l38 _ _) dX14_encode_2 (fun H locs hG hS => ?_)
  have hM := MD.puti (k := 38) (v := 0) hM (mfs_s38 _ _ _)
  have hF := hF.wo (e' := .inr (15, (mfs Ar Iv).set 38 (.int 0)))
  obtain ⟨I1, eI1⟩ : ∃ g, g = upd Iv 38 0 := ⟨_, rfl⟩
  rw [← eI1] at hM
  have hgn := gn_MD hG hM hF
  clear hG hM hF
  obtain ⟨G2, hG, hM, hF⟩ := hgn
  refine lv_aload_n hx hb dX14_encode_5 rfl (lv_at hl 0 rfl) ?_
  refine lv_iload_n hx hb dX14_encode_6 rfl (lv_at hl 1 rfl) ?_
  refine lv_iload_n hx hb dX14_encode_7 rfl (lv_at hl 2 rfl) ?_
  refine va_calli (va_runV (As := [.int iv, .int jv]) (rest := []) ⟨hx, hb, hml, hown, (fun _ h9 => absurd h9 List.not_mem_nil : ∀ w ∈ ([] : List Cond), w.before _ s = true)⟩ (c_M_isParam l D cy A X hst hXT G2 o Ar I1 F L b9 v9.nS v9.nP iv jv hM hb9 (by rw [eI1]; exact hbk) hB.2.2.1.1 hB.2.2.1.2.1 (fun s hs => ⟨(hB.2.2.1.2.2 s hs).2.2.2.1, (hB.2.2.1.2.2 s hs).2.2.2.2.1⟩)) (tb_cw (C := RX14) 2 hT tw_1818 tw_109 tw_1815 tw_1817 tw_95 rfl rfl hq_X14_isParam ⟨Nat.le_of_ble_eq_true rfl, Nat.le_of_ble_eq_true rfl⟩) (mk_preC hst hG hK hA hX hS vc_15 hM.1) rfl rfl hl.1 rfl (lv_room (Nat.le_of_ble_eq_true rfl)) dX14_encode_8 ⟨Nat.le_of_ble_eq_true rfl, Nat.le_of_ble_eq_true rfl⟩) hS (fun q _ h => h) (fun q h => h) (fun r3 G4 t H locs ht hvm hw hB hz1 hk1 hS => ?_)
  have hG : mm D vwCl A G4 H := by rw [← ht]; exact hB
  clear hB hz1 hk1 hvm ht
  obtain ⟨er3, hw⟩ := hw
  rw [hw] at hG
  refine lv_if_ne (tgt := 16) hx hb dX14_encode_11 (by decide) (fun c_11 => ?_) (fun c_11 => ?_)
  · skip
    have hsv : isPv I1 v9.nS v9.nP iv jv = true := b2i_t (by rw [← er3]; exact c_11)
    have hs16 := hB.2.2.1.2.1
    obtain ⟨s9, i9, hs9, hi9, hxs, hxi, ho9, hoi⟩ := isPv_ix (by omega) (fun s hs => by have y := (hB.2.2.1.2.2 s hs).2.2.2.2.1; omega) hsv
    have hp8 := (hB.2.2.1.2.2 s9 hs9).2.2.2.2.1
    have hpr := (hB.2.2.1.2.2 s9 hs9).2.2.2.2.2 i9 hi9
    have hsp : spO v9 iv jv = some (s9, i9) := by unfold spO; rw [show svO v9 iv = some s9 from ho9]; dsimp only; rw [show paO v9 s9 jv = some i9 from hoi]; rfl
    refine lv_bipush (v := 8) hx hb dX14_encode_16 (by decide) ?_
    refine lv_iload_n hx hb dX14_encode_18 rfl (lv_at hl 1 rfl) ?_
    refine lv_iconst (v := 1) hx hb dX14_encode_19 (by decide) ?_
    refine lv_isub hx hb dX14_encode_20 ?_
    refine lv_imul hx hb dX14_encode_21 ?_
    refine lv_iload_n hx hb dX14_encode_22 rfl (lv_at hl 2 rfl) ?_
    refine lv_iadd hx hb dX14_encode_23 ?_
    refine lv_iconst (v := 1) hx hb dX14_encode_24 (by decide) ?_
    refine lv_isub hx hb dX14_encode_25 ?_
    rw [show (((8 * (iv - 1)) + jv) - 1) = nI (8 * s9 + i9) by rw [hxs, hxi, show nI (s9 + 1) - 1 = nI s9 from nI_pred s9, show (8 : Int32) * nI s9 + nI (i9 + 1) = nI (8 * s9 + (i9 + 1)) from nI_ma 8 s9 (i9 + 1)]; exact nI_pred (8 * s9 + i9)]
    refine lv_istore (lv' := [(5, .int (nI (8 * s9 + i9))), (0, .ref o), (1, .int iv), (2, .int jv), (3, .long xv)]) hx hb dX14_encode_26 hl (by decide) rfl (fun ls hl => ?_)
    refine lv_aload_n hx hb dX14_encode_28 rfl (lv_at hl 1 rfl) ?_
    refine lv_aload_n hx hb dX14_encode_29 rfl (lv_at hl 1 rfl) ?_
    refine mm_get (v := .int (Iv 42)) hx hb hf_X14 (fun _ h9 => h9) hown hK hG hM.1 rfl 42 (by decide) (tb_use hT tw_1433) (fun _ h9 => h9) (by rw [mfs_g42, eI1] <;> rfl) dX14_encode_30 ?_
    rw [show (Iv 42) = nI b9 from hbk]
    refine lv_aload_n hx hb dX14_encode_33 rfl (lv_at hl 1 rfl) ?_
    refine mm_get (v := .ref (Ar 25)) hx hb hf_X14 (fun _ h9 => h9) hown hK hG hM.1 rfl 25 (by decide) (tb_use hT tw_1416) (fun _ h9 => h9) (mfs_g25 _ _) dX14_encode_34 ?_
    refine lv_sipush (v := 128) hx hb dX14_encode_37 (by decide) ?_
    refine lv_aload_n hx hb dX14_encode_40 rfl (lv_at hl 1 rfl) ?_
    refine mm_get (v := .int (Iv 42)) hx hb hf_X14 (fun _ h9 => h9) hown hK hG hM.1 rfl 42 (by decide) (tb_use hT tw_1433) (fun _ h9 => h9) (by rw [mfs_g42, eI1] <;> rfl) dX14_encode_41 ?_
    rw [show (Iv 42) = nI b9 from hbk]
    refine lv_imul hx hb dX14_encode_44 ?_
    refine lv_iload hx hb dX14_encode_45 (lv_at hl 0 rfl) ?_
    refine lv_iadd hx hb dX14_encode_47 ?_
    refine mm_iald (n := 256) (f := F 25) hx hb hK hG 1 (hM.2.1 25 rfl) rfl (by rw [show (128 : Int32) * nI b9 + nI (8 * s9 + i9) = nI (128 * b9 + (8 * s9 + i9)) from nI_ma 128 b9 (8 * s9 + i9)]; exact nI_in (N := 256) (by omega) (by decide)) dX14_encode_48 ?_
    refine lv_topi (fun x5 ex5 => ?_)
    refine va_calli (va_runV (As := [.int (nI b9), .int x5]) (rest := []) ⟨hx, hb, hml, hown, (fun _ h9 => absurd h9 List.not_mem_nil : ∀ w ∈ ([] : List Cond), w.before _ s = true)⟩ (c_M_codingAt l D cy A X hst hXT G2 o Ar I1 F L b9 v9.nC x5 hM hb9 hB.1.1 hB.1.2.1) (tb_cw (C := RX14) 2 hT tw_1782 tw_109 tw_1779 tw_1781 tw_89 rfl rfl hq_X14_codingAt ⟨Nat.le_of_ble_eq_true rfl, Nat.le_of_ble_eq_true rfl⟩) (mk_preC hst hG hK hA hX hS vc_15 hM.1) rfl rfl hl.1 rfl (lv_room (Nat.le_of_ble_eq_true rfl)) dX14_encode_49 ⟨Nat.le_of_ble_eq_true rfl, Nat.le_of_ble_eq_true rfl⟩) hS (fun q _ h => h) (fun q h => h) (fun r6 G7 t H locs ht hvm hw hB hz1 hk1 hS => ?_)
    have hG : mm D vwCl A G7 H := by rw [← ht]; exact hB
    clear hB hz1 hk1 hvm ht
    obtain ⟨er6, hw⟩ := hw
    rw [hw] at hG
    obtain ⟨c9, hc9, hcl⟩ := hVL.cd hp8 hs9 hi9
    have hc12 := hB.1.2.1
    have hxc : x5 = F 25 (128 * b9 + (8 * s9 + i9)) := by rw [ex5, show (128 : Int32) * nI b9 + nI (8 * s9 + i9) = nI (128 * b9 + (8 * s9 + i9)) from nI_ma 128 b9 (8 * s9 + i9), nI_clamp (by omega)]
    have hrc : r6 = nI c9 := by rw [er6, hxc]; exact (hB.1.at hn30 hpr.2.1).trans (by rw [hc9])
    rw [hrc]
    have hcb := hCB c9 hcl
    obtain ⟨f10, ef10⟩ : ∃ y, F 10 (12 * b9 + c9) = y := ⟨_, rfl⟩
    obtain ⟨f11, ef11⟩ : ∃ y, F 11 (12 * b9 + c9) = y := ⟨_, rfl⟩
    obtain ⟨f12, ef12⟩ : ∃ y, F 12 (12 * b9 + c9) = y := ⟨_, rfl⟩
    obtain ⟨f13, ef13⟩ : ∃ y, F 13 (12 * b9 + c9) = y := ⟨_, rfl⟩
    obtain ⟨f14, ef14⟩ : ∃ y, F 14 (12 * b9 + c9) = y := ⟨_, rfl⟩
    have hcf := (hB.1.2.2 c9 hcl).1.2
    rw [ef10, ef11, ef12, ef13, ef14] at hcf
    have hwd := hWd c9 hcl
    have h10 : f10 = nI (wdN v9 c9) := hcf.1.trans hwd.1
    have hen := en_eq hcf.1 hwd.1 hwd.2.1 hwd.2.2 hcf.2 hcb xv
    have hR9 : enR v9 iv jv xv = if enM f10 f11 f12 f13 f14 xv = noR then 0 else 1 := by unfold enR; rw [hsp]; dsimp only; rw [hc9]; dsimp only; unfold enW; rw [hen]
    refine lv_istore (lv' := [(6, .int (nI c9)), (5, .int (nI (8 * s9 + i9))), (0, .ref o), (1, .int iv), (2, .int jv), (3, .long xv)]) hx hb dX14_encode_52 hl (by decide) rfl (fun ls hl => ?_)
    refine lv_lload_n hx hb dX14_encode_54 rfl (lv_at hl 5 rfl) ?_
    refine lv_lstore (lv' := [(7, .long xv), (6, .int (nI c9)), (5, .int (nI (8 * s9 + i9))), (0, .ref o), (1, .int iv), (2, .int jv), (3, .long xv)]) hx hb dX14_encode_55 hl (by decide) rfl (fun ls hl => ?_)
    refine lv_aload_n hx hb dX14_encode_57 rfl (lv_at hl 3 rfl) ?_
    refine mm_get (v := .ref (Ar 11)) hx hb hf_X14 (fun _ h9 => h9) hown hK hG hM.1 rfl 11 (by decide) (tb_use hT tw_1402) (fun _ h9 => h9) (mfs_g11 _ _) dX14_encode_58 ?_
    refine lv_bipush (v := 12) hx hb dX14_encode_61 (by decide) ?_
    refine lv_aload_n hx hb dX14_encode_63 rfl (lv_at hl 3 rfl) ?_
    refine mm_get (v := .int (Iv 42)) hx hb hf_X14 (fun _ h9 => h9) hown hK hG hM.1 rfl 42 (by decide) (tb_use hT tw_1433) (fun _ h9 => h9) (by rw [mfs_g42, eI1] <;> rfl) dX14_encode_64 ?_
    rw [show (Iv 42) = nI b9 from hbk]
    refine lv_imul hx hb dX14_encode_67 ?_
    refine lv_iload hx hb dX14_encode_68 (lv_at hl 1 rfl) ?_
    refine lv_iadd hx hb dX14_encode_70 ?_
    refine mm_iald (n := 24) (f := F 11) hx hb hK hG 1 (hM.2.1 11 rfl) rfl (by rw [show (12 : Int32) * nI b9 + nI c9 = nI (12 * b9 + c9) from nI_ma 12 b9 c9]; exact nI_in (N := 24) (by omega) (by decide)) dX14_encode_71 ?_
    refine lv_topi (fun x8 ex8 => ?_)
    rw [show x8 = f11 by rw [ex8, show (12 : Int32) * nI b9 + nI c9 = nI (12 * b9 + c9) from nI_ma 12 b9 c9, nI_clamp (by omega)]; exact ef11]
    refine lv_iconst (v := 2) hx hb dX14_encode_72 (by decide) ?_
    refine lv_icmp_ne (tgt := 295) hx hb dX14_encode_73 (by decide) (fun c_73 => ?_) (fun c_73 => ?_)
    · skip
      refine lv_lconst (v := 1) hx hb dX14_encode_295 (by decide) ?_
      refine lv_bipush (v := 8) hx hb dX14_encode_296 (by decide) ?_
      refine lv_aload_n hx hb dX14_encode_298 rfl (lv_at hl 3 rfl) ?_
      refine mm_get (v := .ref (Ar 10)) hx hb hf_X14 (fun _ h9 => h9) hown hK hG hM.1 rfl 10 (by decide) (tb_use hT tw_1401) (fun _ h9 => h9) (mfs_g10 _ _) dX14_encode_299 ?_
      refine lv_bipush (v := 12) hx hb dX14_encode_302 (by decide) ?_
      refine lv_aload_n hx hb dX14_encode_304 rfl (lv_at hl 3 rfl) ?_
      refine mm_get (v := .int (Iv 42)) hx hb hf_X14 (fun _ h9 => h9) hown hK hG hM.1 rfl 42 (by decide) (tb_use hT tw_1433) (fun _ h9 => h9) (by rw [mfs_g42, eI1] <;> rfl) dX14_encode_305 ?_
      rw [show (Iv 42) = nI b9 from hbk]
      refine lv_imul hx hb dX14_encode_308 ?_
      refine lv_iload hx hb dX14_encode_309 (lv_at hl 1 rfl) ?_
      refine lv_iadd hx hb dX14_encode_311 ?_
      refine mm_iald (n := 24) (f := F 10) hx hb hK hG 1 (hM.2.1 10 rfl) rfl (by rw [show (12 : Int32) * nI b9 + nI c9 = nI (12 * b9 + c9) from nI_ma 12 b9 c9]; exact nI_in (N := 24) (by omega) (by decide)) dX14_encode_312 ?_
      refine lv_topi (fun x9 ex9 => ?_)
      rw [show x9 = f10 by rw [ex9, show (12 : Int32) * nI b9 + nI c9 = nI (12 * b9 + c9) from nI_ma 12 b9 c9, nI_clamp (by omega)]; exact ef10]
      refine lv_imul hx hb dX14_encode_313 ?_
      obtain ⟨x10, ex10⟩ : ∃ y, y = (1 : Int64) <<< (((8 * f10) : Int32).toInt64 &&& 63) := ⟨_, rfl⟩
      refine lv_lshl (v := x10) hx hb dX14_encode_314 ex10.symm ?_
      have hll : enL f10 = x10 := ex10.symm
      refine lv_lstore (lv' := [(9, .long x10), (7, .long xv), (6, .int (nI c9)), (5, .int (nI (8 * s9 + i9))), (0, .ref o), (1, .int iv), (2, .int jv), (3, .long xv)]) hx hb dX14_encode_315 hl (by decide) rfl (fun ls hl => ?_)
      refine lv_aload_n hx hb dX14_encode_317 rfl (lv_at hl 4 rfl) ?_
      refine mm_get (v := .ref (Ar 11)) hx hb hf_X14 (fun _ h9 => h9) hown hK hG hM.1 rfl 11 (by decide) (tb_use hT tw_1402) (fun _ h9 => h9) (mfs_g11 _ _) dX14_encode_318 ?_
      refine lv_bipush (v := 12) hx hb dX14_encode_321 (by decide) ?_
      refine lv_aload_n hx hb dX14_encode_323 rfl (lv_at hl 4 rfl) ?_
      refine mm_get (v := .int (Iv 42)) hx hb hf_X14 (fun _ h9 => h9) hown hK hG hM.1 rfl 42 (by decide) (tb_use hT tw_1433) (fun _ h9 => h9) (by rw [mfs_g42, eI1] <;> rfl) dX14_encode_324 ?_
      rw [show (Iv 42) = nI b9 from hbk]
      refine lv_imul hx hb dX14_encode_327 ?_
      refine lv_iload hx hb dX14_encode_328 (lv_at hl 2 rfl) ?_
      refine lv_iadd hx hb dX14_encode_330 ?_
      refine mm_iald (n := 24) (f := F 11) hx hb hK hG 1 (hM.2.1 11 rfl) rfl (by rw [show (12 : Int32) * nI b9 + nI c9 = nI (12 * b9 + c9) from nI_ma 12 b9 c9]; exact nI_in (N := 24) (by omega) (by decide)) dX14_encode_331 ?_
      refine lv_topi (fun x11 ex11 => ?_)
      rw [show x11 = f11 by rw [ex11, show (12 : Int32) * nI b9 + nI c9 = nI (12 * b9 + c9) from nI_ma 12 b9 c9, nI_clamp (by omega)]; exact ef11]
      refine lv_iconst (v := 1) hx hb dX14_encode_332 (by decide) ?_
      refine lv_icmp_ne (tgt := 340) hx hb dX14_encode_333 (by decide) (fun c_333 => ?_) (fun c_333 => ?_)
      · skip
        refine lv_iconst (v := 0) hx hb dX14_encode_340 (by decide) ?_
        refine lv_istore (lv' := [(11, .int 0), (9, .long x10), (7, .long xv), (6, .int (nI c9)), (5, .int (nI (8 * s9 + i9))), (0, .ref o), (1, .int iv), (2, .int jv), (3, .long xv)]) hx hb dX14_encode_341 hl (by decide) rfl (fun ls hl => ?_)
        refine lv_iload hx hb dX14_encode_343 (lv_at hl 0 rfl) ?_
        refine lv_if_eq (tgt := 376) hx hb dX14_encode_345 (by decide) (fun c_345 => ?_) (fun c_345 => ?_)
        · skip
          refine lv_lload hx hb dX14_encode_376 (lv_at hl 2 rfl) ?_
          refine lv_lconst (v := 0) hx hb dX14_encode_378 (by decide) ?_
          refine W.lcmp hx hb dX14_encode_379 ?_
          refine lv_if_lt (tgt := 391) hx hb dX14_encode_380 (by decide) (fun c_380 => ?_) (fun c_380 => ?_)
          · skip
            refine lv_iconst (v := 0) hx hb dX14_encode_391 (by decide) ?_
            have hzz : enM f10 f11 f12 f13 f14 xv = noR := by rw [enM, if_neg c_73, enG, if_neg c_333, if_pos ((lg_cmp_lt _ _).mp c_380)]
            have hans : (0 : Int32) = enR v9 iv jv xv := by rw [hR9, if_pos hzz]
            exact W.iret (v := 0) hx hb hr (fun t ht hW => ⟨⟨_, _, rfl, ⟨I1, F, L, hM, hF, (fun j h1 h2 => by rw [eI1, pk_un h1]), (by rw [eI1, pk_us]), ⟨sl9, (by omega), (by rw [eI1, pk_un (by decide)]; exact h68)⟩, (fun _ _ => rfl), (fun _ _ _ => rfl), hans, (fun _ => ⟨by rw [eI1, pk_un (by decide)], rfl, rfl⟩), (fun y k hy hk hn => by rw [hsp] at hy; rw [← Option.some.inj hy] at hk; exact absurd (by rw [← Option.some.inj (hc9.symm.trans hk)]; exact hen.trans hzz) hn)⟩, mk_end hG ht⟩, hS.F ht⟩) hS.2.2 dX14_encode_392
          · skip
            refine lv_lload hx hb dX14_encode_383 (lv_at hl 2 rfl) ?_
            refine lv_lload hx hb dX14_encode_385 (lv_at hl 1 rfl) ?_
            refine W.lcmp hx hb dX14_encode_387 ?_
            refine lv_if_lt (tgt := 393) hx hb dX14_encode_388 (by decide) (fun c_388 => ?_) (fun c_388 => ?_)
            · skip
              refine lv_aload_n hx hb dX14_encode_393 rfl (lv_at hl 5 rfl) ?_
              refine mm_get (v := .ref (Ar 70)) hx hb hf_X14 (fun _ h9 => h9) hown hK hG hM.1 rfl 70 (by decide) (tb_use hT tw_1461) (fun _ h9 => h9) (mfs_g70 _ _) dX14_encode_394 ?_
              refine lv_iload hx hb dX14_encode_397 (lv_at hl 4 rfl) ?_
              refine lv_lload hx hb dX14_encode_399 (lv_at hl 2 rfl) ?_
              refine mm_last (n := mdN 70) (f := L 70) hx hb hK hG hS 2 (hM.2.2.1 70 rfl) rfl (nI_in (N := mdN 70) (by show _ < 128; omega) (by decide)) dX14_encode_401 (fun H locs hG hS => ?_)
              have hM := MD.setj (k := 70) (vp_updL (L 70) (nI (8 * s9 + i9)).toNatClampNeg xv) hM rfl
              have hF := hF.wa (k := 70) (e' := .inl (cy 2, mdN 70, .inr (.inl (vp_updL (L 70) (nI (8 * s9 + i9)).toNatClampNeg xv)))) rfl
              obtain ⟨L14, eL14⟩ : ∃ g, g = va_up L 70 (vp_updL (L 70) (nI (8 * s9 + i9)).toNatClampNeg xv) := ⟨_, rfl⟩
              rw [← eL14] at hM
              have hgn := gn_MD hG hM hF
              clear hG hM hF
              obtain ⟨G15, hG, hM, hF⟩ := hgn
              refine lv_aload_n hx hb dX14_encode_402 rfl (lv_at hl 5 rfl) ?_
              refine mm_get (v := .ref (Ar 67)) hx hb hf_X14 (fun _ h9 => h9) hown hK hG hM.1 rfl 67 (by decide) (tb_use hT tw_1458) (fun _ h9 => h9) (mfs_g67 _ _) dX14_encode_403 ?_
              refine lv_iconst (v := 0) hx hb dX14_encode_406 (by decide) ?_
              refine lv_aload_n hx hb dX14_encode_407 rfl (lv_at hl 5 rfl) ?_
              refine mm_get (v := .ref (Ar 21)) hx hb hf_X14 (fun _ h9 => h9) hown hK hG hM.1 rfl 21 (by decide) (tb_use hT tw_1412) (fun _ h9 => h9) (mfs_g21 _ _) dX14_encode_408 ?_
              refine lv_bipush (v := 16) hx hb dX14_encode_411 (by decide) ?_
              refine lv_aload_n hx hb dX14_encode_413 rfl (lv_at hl 5 rfl) ?_
              refine mm_get (v := .int (Iv 42)) hx hb hf_X14 (fun _ h9 => h9) hown hK hG hM.1 rfl 42 (by decide) (tb_use hT tw_1433) (fun _ h9 => h9) (by rw [mfs_g42, eI1] <;> rfl) dX14_encode_414 ?_
              rw [show (Iv 42) = nI b9 from hbk]
              refine lv_imul hx hb dX14_encode_417 ?_
              refine lv_iload_n hx hb dX14_encode_418 rfl (lv_at hl 6 rfl) ?_
              refine lv_iadd hx hb dX14_encode_419 ?_
              refine lv_iconst (v := 1) hx hb dX14_encode_420 (by decide) ?_
              refine lv_isub hx hb dX14_encode_421 ?_
              rw [show (((16 * (nI b9)) + iv) - 1) = nI (16 * b9 + s9) by rw [hxs, show (16 : Int32) * nI b9 + nI (s9 + 1) = nI (16 * b9 + (s9 + 1)) from nI_ma 16 b9 (s9 + 1)]; exact nI_pred (16 * b9 + s9)]
              refine mm_iald (n := 32) (f := F 21) hx hb hK hG 1 (hM.2.1 21 rfl) rfl (nI_in (N := 32) (by omega) (by decide)) dX14_encode_422 ?_
              refine lv_topi (fun x16 ex16 => ?_)
              refine lv_bipush (v := 64) hx hb dX14_encode_423 (by decide) ?_
              refine lv_iadd hx hb dX14_encode_425 ?_
              refine lv_topi (fun x17 ex17 => ?_)
              refine mm_iast (n := mdN 67) (f := F 67) hx hb hK hG hS 1 (hM.2.1 67 rfl) rfl (nI_in (c := 0) (N := mdN 67) (by decide) (by decide)) dX14_encode_426 (fun H locs hG hS => ?_)
              have hM := MD.seti (k := 67) (upd (F 67) (0 : Int32).toNatClampNeg x17) hM rfl
              have hF := hF.wa (k := 67) (e' := .inl (cy 1, mdN 67, .inl (upd (F 67) (0 : Int32).toNatClampNeg x17))) rfl
              obtain ⟨F18, eF18⟩ : ∃ g, g = va_up F 67 (upd (F 67) (0 : Int32).toNatClampNeg x17) := ⟨_, rfl⟩
              rw [← eF18] at hM
              have hgn := gn_MD hG hM hF
              clear hG hM hF
              obtain ⟨G19, hG, hM, hF⟩ := hgn
              refine lv_aload_n hx hb dX14_encode_427 rfl (lv_at hl 5 rfl) ?_
              refine lv_aload_n hx hb dX14_encode_428 rfl (lv_at hl 5 rfl) ?_
              refine lv_iload_n hx hb dX14_encode_429 rfl (lv_at hl 6 rfl) ?_
              refine lv_iconst (v := 1) hx hb dX14_encode_430 (by decide) ?_
              refine lv_isub hx hb dX14_encode_431 ?_
              rw [show iv - 1 = nI s9 by rw [hxs]; exact nI_pred s9]
              refine lv_aload_n hx hb dX14_encode_432 rfl (lv_at hl 5 rfl) ?_
              refine mm_get (v := .ref (Ar 67)) hx hb hf_X14 (fun _ h9 => h9) hown hK hG hM.1 rfl 67 (by decide) (tb_use hT tw_1458) (fun _ h9 => h9) (mfs_g67 _ _) dX14_encode_433 ?_
              refine lv_bipush (v := 64) hx hb dX14_encode_436 (by decide) ?_
              refine lv_iconst (v := 1) hx hb dX14_encode_438 (by decide) ?_
              have hB8 : BK (tkK ft en) (tkV ft en) n9 F18 b9 v9 := ⟨hB.1.mv (Nat.le_refl _) (fun k i hk => by rw [eF18, va_up_ne _ _ (by omega)]) rfl rfl rfl rfl, hB.2.1.mv (Nat.le_refl _) (fun k i hk => by rw [eF18, va_up_ne _ _ (by omega)]) rfl rfl, hB.2.2.1.mv (Nat.le_refl _) (fun k i hk => by rw [eF18, va_up_ne _ _ (by omega)]) rfl rfl rfl rfl, hB.2.2.2.1.mv (Nat.le_refl _) (fun k i hk => by rw [eF18, va_up_ne _ _ (by omega)]) rfl rfl, hB.2.2.2.2.1.mv (Nat.le_refl _) (fun k i hk => by rw [eF18, va_up_ne _ _ (by omega)]) rfl rfl, hB.2.2.2.2.2.mv (Nat.le_refl _) (fun k i hk => by rw [eF18, va_up_ne _ _ (by omega)]) rfl rfl rfl rfl⟩
              have hzz : enM f10 f11 f12 f13 f14 xv = xv := by rw [enM, if_neg c_73, enG, if_neg c_333, if_neg (fun z => c_380 ((lg_cmp_lt _ _).mpr z)), if_pos (by rw [hll]; exact (lg_cmp_lt _ _).mp c_388)]
              have hew : enW v9 c9 xv = xv := hen.trans hzz
              have hrm0 : ∀ i, i < v9.nP s9 → (enP (P9 s9) i9 (enW v9 c9 xv) i).2.2.2 = L14 70 (8 * s9 + i) := fun i hi => by
                unfold enP
                rw [eL14, va_up_self, nI_clamp (by omega)]
                by_cases y : i = i9
                · rw [y, up1_eq, pk_uLs]; exact hew
                · rw [up1_ne y, pk_uLn (by omega)]; exact hrm s9 hs9 i hi
              have hf0 : upd so 0 (vp_nar .byte (((v9.S s9).2.2.2 + 64).toInt8.toInt32)) 0 &&& 255 = F18 67 0 &&& 255 := by rw [pk_us, nar_255, eF18, va_up_self]; show _ = upd (F 67) 0 x17 0 &&& 255; rw [pk_us, ex17, ex16, nI_clamp (by omega), (hB.2.2.1.2.2 s9 hs9).2.1]
              refine va_calli (va_runV (As := [.int (nI s9), .ref (Ar 67), .int 64, .int 1]) (rest := [.ref o]) ⟨hx, hb, hml, hown, (fun _ h9 => absurd h9 List.not_mem_nil : ∀ w ∈ ([] : List Cond), w.before _ s = true)⟩ (c_M_findS l D cy A X hst hXT G19 o Ar I1 F18 L14 ft en b9 n9 v9 s9 (enP (P9 s9) i9 (enW v9 c9 xv)) (upd so 0 (vp_nar .byte (((v9.S s9).2.2.2 + 64).toInt8.toInt32))) hM hB8 hVL hWd hn30 hb9 (by rw [eI1]; exact hbk) hs9 hrm0 hf0) (tb_cw (C := RX14) 4 hT tw_1832 tw_109 tw_1829 tw_1831 tw_96 rfl rfl hq_X14_find ⟨Nat.le_of_ble_eq_true rfl, Nat.le_of_ble_eq_true rfl⟩) (mk_preC hst hG hK hA hX hS vc_15 hM.1) rfl rfl hl.1 rfl (lv_room (Nat.le_of_ble_eq_true rfl)) dX14_encode_439 ⟨Nat.le_of_ble_eq_true rfl, Nat.le_of_ble_eq_true rfl⟩) hS (fun q _ h => h) (fun q h => h) (fun r20 G21 t H locs ht hvm hw hB hz1 hk1 hS => ?_)
              have hG : mm D vwCl A G21 H := by rw [← ht]; exact hB
              clear hB hz1 hk1 hvm ht
              obtain ⟨k9, F9, L9, er20, hk1, hk64, hM2, hF2, hf9, hL9, hmk1, hmk2⟩ := hw
              replace hF := hF.tr hF2; replace hM := hM2; clear hM2 hF2
              refine mm_put (v := .int r20) (ty := .int) hx hb hf_X14 (fun _ h9 => h9) tyX14 tyX14_ok nmX14 hown hK hG hS hM.1 rfl 68 (by decide) (tb_use hT tw_1459) (fun _ h9 => h9) rfl (by decide +kernel) rfl rfl (mfs_l68 _ _) dX14_encode_442 (fun H locs hG hS => ?_)
              have hM := MD.puti (k := 68) (v := r20) hM (mfs_s68 _ _ _)
              have hF := hF.wo (e' := .inr (15, (mfs Ar I1).set 68 (.int r20)))
              obtain ⟨I22, eI22⟩ : ∃ g, g = upd I1 68 r20 := ⟨_, rfl⟩
              rw [← eI22] at hM
              have hgn := gn_MD hG hM hF
              clear hG hM hF
              obtain ⟨G23, hG, hM, hF⟩ := hgn
              refine lv_iconst (v := 1) hx hb dX14_encode_445 (by decide) ?_
              have hans : (1 : Int32) = enR v9 iv jv xv := by rw [hR9, if_neg (by rw [hzz]; exact enG_ne hwd.2.1 hwd.2.2 (Or.inr (fun z => c_380 ((lg_cmp_lt _ _).mpr z))))]
              have hs70 : L9 70 = vp_updL (L 70) (8 * s9 + i9) (enW v9 c9 xv) := by rw [hL9 70 (by decide), eL14, va_up_self, nI_clamp (by omega), hew]
              have hs68 : I22 68 = nI (maF v9 s9 (enP (P9 s9) i9 (enW v9 c9 xv)) so).2.1 := by rw [eI22, pk_us, er20, ← hmk1]; rfl
              have hsj : JS (maF v9 s9 (enP (P9 s9) i9 (enW v9 c9 xv)) so).2 (maF v9 s9 (enP (P9 s9) i9 (enW v9 c9 xv)) so).2.1 (F9 67) := ⟨rfl, (show _ ≤ 64 from Nat.le_trans (Nat.le_of_eq hmk1) hk64), (fun i hi => hmk2 i (Nat.lt_of_lt_of_eq hi hmk1))⟩
              exact W.iret (v := 1) hx hb hr (fun t ht hW => ⟨⟨_, _, rfl, ⟨I22, F9, L9, hM, hF, (fun j h1 h2 => by rw [eI22, pk_un h2, eI1, pk_un h1]), (by rw [eI22, pk_un (by decide), eI1, pk_us]), ⟨k9, hk64, (by rw [eI22, pk_us]; exact er20)⟩, (fun j hj => by rw [hf9 j hj, eF18, va_up_ne _ _ (by omega)]), (fun j h1 h2 => by rw [hL9 j h2, eL14, va_up_ne _ _ h1]), hans, (fun z => absurd rfl z), (fun y k hy hk hn => by rw [hsp] at hy; rw [← Option.some.inj hy] at hk ⊢; rw [← Option.some.inj (hc9.symm.trans hk)]; exact ⟨hs70, hs68, hsj⟩)⟩, mk_end hG ht⟩, hS.F ht⟩) hS.2.2 dX14_encode_446
            · skip
              refine lv_iconst (v := 0) hx hb dX14_encode_391 (by decide) ?_
              have hzz : enM f10 f11 f12 f13 f14 xv = noR := by rw [enM, if_neg c_73, enG, if_neg c_333, if_neg (fun z => c_380 ((lg_cmp_lt _ _).mpr z)), if_neg (by rw [hll]; exact fun z => c_388 ((lg_cmp_lt _ _).mpr z))]
              have hans : (0 : Int32) = enR v9 iv jv xv := by rw [hR9, if_pos hzz]
              exact W.iret (v := 0) hx hb hr (fun t ht hW => ⟨⟨_, _, rfl, ⟨I1, F, L, hM, hF, (fun j h1 h2 => by rw [eI1, pk_un h1]), (by rw [eI1, pk_us]), ⟨sl9, (by omega), (by rw [eI1, pk_un (by decide)]; exact h68)⟩, (fun _ _ => rfl), (fun _ _ _ => rfl), hans, (fun _ => ⟨by rw [eI1, pk_un (by decide)], rfl, rfl⟩), (fun y k hy hk hn => by rw [hsp] at hy; rw [← Option.some.inj hy] at hk; exact absurd (by rw [← Option.some.inj (hc9.symm.trans hk)]; exact hen.trans hzz) hn)⟩, mk_end hG ht⟩, hS.F ht⟩) hS.2.2 dX14_encode_392
        · skip
          exact absurd rfl c_345
      · skip
        refine lv_iconst (v := 1) hx hb dX14_encode_336 (by decide) ?_
        refine lv_goto (tgt := 341) hx hb dX14_encode_337 (by decide) ?_
        refine lv_istore (lv' := [(11, .int 1), (9, .long x10), (7, .long xv), (6, .int (nI c9)), (5, .int (nI (8 * s9 + i9))), (0, .ref o), (1, .int iv), (2, .int jv), (3, .long xv)]) hx hb dX14_encode_341 hl (by decide) rfl (fun ls hl => ?_)
        refine lv_iload hx hb dX14_encode_343 (lv_at hl 0 rfl) ?_
        refine lv_if_eq (tgt := 376) hx hb dX14_encode_345 (by decide) (fun c_345 => ?_) (fun c_345 => ?_)
        · skip
          exact absurd c_345 (by decide)
        · skip
          refine lv_lload hx hb dX14_encode_348 (lv_at hl 2 rfl) ?_
          refine lv_lload hx hb dX14_encode_350 (lv_at hl 1 rfl) ?_
          refine lv_lneg hx hb dX14_encode_352 ?_
          refine lv_ldc2 hx hb hown (tb_use hT tw_1857) dX14_encode_353 ?_
          refine lv_ldiv hx hb dX14_encode_356 (by decide) ?_
          refine lv_topl (fun x24 ex24 => ?_)
          have hlo : -enL f10 / 2 = x24 := by rw [hll]; exact ex24.symm
          refine W.lcmp hx hb dX14_encode_357 ?_
          refine lv_if_lt (tgt := 391) hx hb dX14_encode_358 (by decide) (fun c_358 => ?_) (fun c_358 => ?_)
          · skip
            refine lv_iconst (v := 0) hx hb dX14_encode_391 (by decide) ?_
            have hzz : enM f10 f11 f12 f13 f14 xv = noR := by rw [enM, if_neg c_73, enG, if_pos c_333, if_pos (by rw [hlo]; exact (lg_cmp_lt _ _).mp c_358)]
            have hans : (0 : Int32) = enR v9 iv jv xv := by rw [hR9, if_pos hzz]
            exact W.iret (v := 0) hx hb hr (fun t ht hW => ⟨⟨_, _, rfl, ⟨I1, F, L, hM, hF, (fun j h1 h2 => by rw [eI1, pk_un h1]), (by rw [eI1, pk_us]), ⟨sl9, (by omega), (by rw [eI1, pk_un (by decide)]; exact h68)⟩, (fun _ _ => rfl), (fun _ _ _ => rfl), hans, (fun _ => ⟨by rw [eI1, pk_un (by decide)], rfl, rfl⟩), (fun y k hy hk hn => by rw [hsp] at hy; rw [← Option.some.inj hy] at hk; exact absurd (by rw [← Option.some.inj (hc9.symm.trans hk)]; exact hen.trans hzz) hn)⟩, mk_end hG ht⟩, hS.F ht⟩) hS.2.2 dX14_encode_392
          · skip
            refine lv_lload hx hb dX14_encode_361 (lv_at hl 2 rfl) ?_
            refine lv_lload hx hb dX14_encode_363 (lv_at hl 1 rfl) ?_
            refine lv_ldc2 hx hb hown (tb_use hT tw_1857) dX14_encode_365 ?_
            refine lv_ldiv hx hb dX14_encode_368 (by decide) ?_
            refine lv_topl (fun x26 ex26 => ?_)
            have hhi : enL f10 / 2 = x26 := by rw [hll]; exact ex26.symm
            refine W.lcmp hx hb dX14_encode_369 ?_
            refine lv_if_lt (tgt := 393) hx hb dX14_encode_370 (by decide) (fun c_370 => ?_) (fun c_370 => ?_)
            · skip
              refine lv_aload_n hx hb dX14_encode_393 rfl (lv_at hl 5 rfl) ?_
              refine mm_get (v := .ref (Ar 70)) hx hb hf_X14 (fun _ h9 => h9) hown hK hG hM.1 rfl 70 (by decide) (tb_use hT tw_1461) (fun _ h9 => h9) (mfs_g70 _ _) dX14_encode_394 ?_
              refine lv_iload hx hb dX14_encode_397 (lv_at hl 4 rfl) ?_
              refine lv_lload hx hb dX14_encode_399 (lv_at hl 2 rfl) ?_
              refine mm_last (n := mdN 70) (f := L 70) hx hb hK hG hS 2 (hM.2.2.1 70 rfl) rfl (nI_in (N := mdN 70) (by show _ < 128; omega) (by decide)) dX14_encode_401 (fun H locs hG hS => ?_)
              have hM := MD.setj (k := 70) (vp_updL (L 70) (nI (8 * s9 + i9)).toNatClampNeg xv) hM rfl
              have hF := hF.wa (k := 70) (e' := .inl (cy 2, mdN 70, .inr (.inl (vp_updL (L 70) (nI (8 * s9 + i9)).toNatClampNeg xv)))) rfl
              obtain ⟨L28, eL28⟩ : ∃ g, g = va_up L 70 (vp_updL (L 70) (nI (8 * s9 + i9)).toNatClampNeg xv) := ⟨_, rfl⟩
              rw [← eL28] at hM
              have hgn := gn_MD hG hM hF
              clear hG hM hF
              obtain ⟨G29, hG, hM, hF⟩ := hgn
              refine lv_aload_n hx hb dX14_encode_402 rfl (lv_at hl 5 rfl) ?_
              refine mm_get (v := .ref (Ar 67)) hx hb hf_X14 (fun _ h9 => h9) hown hK hG hM.1 rfl 67 (by decide) (tb_use hT tw_1458) (fun _ h9 => h9) (mfs_g67 _ _) dX14_encode_403 ?_
              refine lv_iconst (v := 0) hx hb dX14_encode_406 (by decide) ?_
              refine lv_aload_n hx hb dX14_encode_407 rfl (lv_at hl 5 rfl) ?_
              refine mm_get (v := .ref (Ar 21)) hx hb hf_X14 (fun _ h9 => h9) hown hK hG hM.1 rfl 21 (by decide) (tb_use hT tw_1412) (fun _ h9 => h9) (mfs_g21 _ _) dX14_encode_408 ?_
              refine lv_bipush (v := 16) hx hb dX14_encode_411 (by decide) ?_
              refine lv_aload_n hx hb dX14_encode_413 rfl (lv_at hl 5 rfl) ?_
              refine mm_get (v := .int (Iv 42)) hx hb hf_X14 (fun _ h9 => h9) hown hK hG hM.1 rfl 42 (by decide) (tb_use hT tw_1433) (fun _ h9 => h9) (by rw [mfs_g42, eI1] <;> rfl) dX14_encode_414 ?_
              rw [show (Iv 42) = nI b9 from hbk]
              refine lv_imul hx hb dX14_encode_417 ?_
              refine lv_iload_n hx hb dX14_encode_418 rfl (lv_at hl 6 rfl) ?_
              refine lv_iadd hx hb dX14_encode_419 ?_
              refine lv_iconst (v := 1) hx hb dX14_encode_420 (by decide) ?_
              refine lv_isub hx hb dX14_encode_421 ?_
              rw [show (((16 * (nI b9)) + iv) - 1) = nI (16 * b9 + s9) by rw [hxs, show (16 : Int32) * nI b9 + nI (s9 + 1) = nI (16 * b9 + (s9 + 1)) from nI_ma 16 b9 (s9 + 1)]; exact nI_pred (16 * b9 + s9)]
              refine mm_iald (n := 32) (f := F 21) hx hb hK hG 1 (hM.2.1 21 rfl) rfl (nI_in (N := 32) (by omega) (by decide)) dX14_encode_422 ?_
              refine lv_topi (fun x30 ex30 => ?_)
              refine lv_bipush (v := 64) hx hb dX14_encode_423 (by decide) ?_
              refine lv_iadd hx hb dX14_encode_425 ?_
              refine lv_topi (fun x31 ex31 => ?_)
              refine mm_iast (n := mdN 67) (f := F 67) hx hb hK hG hS 1 (hM.2.1 67 rfl) rfl (nI_in (c := 0) (N := mdN 67) (by decide) (by decide)) dX14_encode_426 (fun H locs hG hS => ?_)
              have hM := MD.seti (k := 67) (upd (F 67) (0 : Int32).toNatClampNeg x31) hM rfl
              have hF := hF.wa (k := 67) (e' := .inl (cy 1, mdN 67, .inl (upd (F 67) (0 : Int32).toNatClampNeg x31))) rfl
              obtain ⟨F32, eF32⟩ : ∃ g, g = va_up F 67 (upd (F 67) (0 : Int32).toNatClampNeg x31) := ⟨_, rfl⟩
              rw [← eF32] at hM
              have hgn := gn_MD hG hM hF
              clear hG hM hF
              obtain ⟨G33, hG, hM, hF⟩ := hgn
              refine lv_aload_n hx hb dX14_encode_427 rfl (lv_at hl 5 rfl) ?_
              refine lv_aload_n hx hb dX14_encode_428 rfl (lv_at hl 5 rfl) ?_
              refine lv_iload_n hx hb dX14_encode_429 rfl (lv_at hl 6 rfl) ?_
              refine lv_iconst (v := 1) hx hb dX14_encode_430 (by decide) ?_
              refine lv_isub hx hb dX14_encode_431 ?_
              rw [show iv - 1 = nI s9 by rw [hxs]; exact nI_pred s9]
              refine lv_aload_n hx hb dX14_encode_432 rfl (lv_at hl 5 rfl) ?_
              refine mm_get (v := .ref (Ar 67)) hx hb hf_X14 (fun _ h9 => h9) hown hK hG hM.1 rfl 67 (by decide) (tb_use hT tw_1458) (fun _ h9 => h9) (mfs_g67 _ _) dX14_encode_433 ?_
              refine lv_bipush (v := 64) hx hb dX14_encode_436 (by decide) ?_
              refine lv_iconst (v := 1) hx hb dX14_encode_438 (by decide) ?_
              have hB8 : BK (tkK ft en) (tkV ft en) n9 F32 b9 v9 := ⟨hB.1.mv (Nat.le_refl _) (fun k i hk => by rw [eF32, va_up_ne _ _ (by omega)]) rfl rfl rfl rfl, hB.2.1.mv (Nat.le_refl _) (fun k i hk => by rw [eF32, va_up_ne _ _ (by omega)]) rfl rfl, hB.2.2.1.mv (Nat.le_refl _) (fun k i hk => by rw [eF32, va_up_ne _ _ (by omega)]) rfl rfl rfl rfl, hB.2.2.2.1.mv (Nat.le_refl _) (fun k i hk => by rw [eF32, va_up_ne _ _ (by omega)]) rfl rfl, hB.2.2.2.2.1.mv (Nat.le_refl _) (fun k i hk => by rw [eF32, va_up_ne _ _ (by omega)]) rfl rfl, hB.2.2.2.2.2.mv (Nat.le_refl _) (fun k i hk => by rw [eF32, va_up_ne _ _ (by omega)]) rfl rfl rfl rfl⟩
              have hzz : enM f10 f11 f12 f13 f14 xv = xv := by rw [enM, if_neg c_73, enG, if_pos c_333, if_neg (by rw [hlo]; exact fun z => c_358 ((lg_cmp_lt _ _).mpr z)), if_pos (by rw [hhi]; exact (lg_cmp_lt _ _).mp c_370)]
              have hew : enW v9 c9 xv = xv := hen.trans hzz
              have hrm0 : ∀ i, i < v9.nP s9 → (enP (P9 s9) i9 (enW v9 c9 xv) i).2.2.2 = L28 70 (8 * s9 + i) := fun i hi => by
                unfold enP
                rw [eL28, va_up_self, nI_clamp (by omega)]
                by_cases y : i = i9
                · rw [y, up1_eq, pk_uLs]; exact hew
                · rw [up1_ne y, pk_uLn (by omega)]; exact hrm s9 hs9 i hi
              have hf0 : upd so 0 (vp_nar .byte (((v9.S s9).2.2.2 + 64).toInt8.toInt32)) 0 &&& 255 = F32 67 0 &&& 255 := by rw [pk_us, nar_255, eF32, va_up_self]; show _ = upd (F 67) 0 x31 0 &&& 255; rw [pk_us, ex31, ex30, nI_clamp (by omega), (hB.2.2.1.2.2 s9 hs9).2.1]
              refine va_calli (va_runV (As := [.int (nI s9), .ref (Ar 67), .int 64, .int 1]) (rest := [.ref o]) ⟨hx, hb, hml, hown, (fun _ h9 => absurd h9 List.not_mem_nil : ∀ w ∈ ([] : List Cond), w.before _ s = true)⟩ (c_M_findS l D cy A X hst hXT G33 o Ar I1 F32 L28 ft en b9 n9 v9 s9 (enP (P9 s9) i9 (enW v9 c9 xv)) (upd so 0 (vp_nar .byte (((v9.S s9).2.2.2 + 64).toInt8.toInt32))) hM hB8 hVL hWd hn30 hb9 (by rw [eI1]; exact hbk) hs9 hrm0 hf0) (tb_cw (C := RX14) 4 hT tw_1832 tw_109 tw_1829 tw_1831 tw_96 rfl rfl hq_X14_find ⟨Nat.le_of_ble_eq_true rfl, Nat.le_of_ble_eq_true rfl⟩) (mk_preC hst hG hK hA hX hS vc_15 hM.1) rfl rfl hl.1 rfl (lv_room (Nat.le_of_ble_eq_true rfl)) dX14_encode_439 ⟨Nat.le_of_ble_eq_true rfl, Nat.le_of_ble_eq_true rfl⟩) hS (fun q _ h => h) (fun q h => h) (fun r34 G35 t H locs ht hvm hw hB hz1 hk1 hS => ?_)
              have hG : mm D vwCl A G35 H := by rw [← ht]; exact hB
              clear hB hz1 hk1 hvm ht
              obtain ⟨k9, F9, L9, er34, hk1, hk64, hM2, hF2, hf9, hL9, hmk1, hmk2⟩ := hw
              replace hF := hF.tr hF2; replace hM := hM2; clear hM2 hF2
              refine mm_put (v := .int r34) (ty := .int) hx hb hf_X14 (fun _ h9 => h9) tyX14 tyX14_ok nmX14 hown hK hG hS hM.1 rfl 68 (by decide) (tb_use hT tw_1459) (fun _ h9 => h9) rfl (by decide +kernel) rfl rfl (mfs_l68 _ _) dX14_encode_442 (fun H locs hG hS => ?_)
              have hM := MD.puti (k := 68) (v := r34) hM (mfs_s68 _ _ _)
              have hF := hF.wo (e' := .inr (15, (mfs Ar I1).set 68 (.int r34)))
              obtain ⟨I36, eI36⟩ : ∃ g, g = upd I1 68 r34 := ⟨_, rfl⟩
              rw [← eI36] at hM
              have hgn := gn_MD hG hM hF
              clear hG hM hF
              obtain ⟨G37, hG, hM, hF⟩ := hgn
              refine lv_iconst (v := 1) hx hb dX14_encode_445 (by decide) ?_
              have hans : (1 : Int32) = enR v9 iv jv xv := by rw [hR9, if_neg (by rw [hzz]; exact enG_ne hwd.2.1 hwd.2.2 (Or.inl (by rw [← h10, hlo]; exact fun z => c_358 ((lg_cmp_lt _ _).mpr z))))]
              have hs70 : L9 70 = vp_updL (L 70) (8 * s9 + i9) (enW v9 c9 xv) := by rw [hL9 70 (by decide), eL28, va_up_self, nI_clamp (by omega), hew]
              have hs68 : I36 68 = nI (maF v9 s9 (enP (P9 s9) i9 (enW v9 c9 xv)) so).2.1 := by rw [eI36, pk_us, er34, ← hmk1]; rfl
              have hsj : JS (maF v9 s9 (enP (P9 s9) i9 (enW v9 c9 xv)) so).2 (maF v9 s9 (enP (P9 s9) i9 (enW v9 c9 xv)) so).2.1 (F9 67) := ⟨rfl, (show _ ≤ 64 from Nat.le_trans (Nat.le_of_eq hmk1) hk64), (fun i hi => hmk2 i (Nat.lt_of_lt_of_eq hi hmk1))⟩
              exact W.iret (v := 1) hx hb hr (fun t ht hW => ⟨⟨_, _, rfl, ⟨I36, F9, L9, hM, hF, (fun j h1 h2 => by rw [eI36, pk_un h2, eI1, pk_un h1]), (by rw [eI36, pk_un (by decide), eI1, pk_us]), ⟨k9, hk64, (by rw [eI36, pk_us]; exact er34)⟩, (fun j hj => by rw [hf9 j hj, eF32, va_up_ne _ _ (by omega)]), (fun j h1 h2 => by rw [hL9 j h2, eL28, va_up_ne _ _ h1]), hans, (fun z => absurd rfl z), (fun y k hy hk hn => by rw [hsp] at hy; rw [← Option.some.inj hy] at hk ⊢; rw [← Option.some.inj (hc9.symm.trans hk)]; exact ⟨hs70, hs68, hsj⟩)⟩, mk_end hG ht⟩, hS.F ht⟩) hS.2.2 dX14_encode_446
            · skip
              refine lv_goto (tgt := 391) hx hb dX14_encode_373 (by decide) ?_
              refine lv_iconst (v := 0) hx hb dX14_encode_391 (by decide) ?_
              have hzz : enM f10 f11 f12 f13 f14 xv = noR := by rw [enM, if_neg c_73, enG, if_pos c_333, if_neg (by rw [hlo]; exact fun z => c_358 ((lg_cmp_lt _ _).mpr z)), if_neg (by rw [hhi]; exact fun z => c_370 ((lg_cmp_lt _ _).mpr z))]
              have hans : (0 : Int32) = enR v9 iv jv xv := by rw [hR9, if_pos hzz]
              exact W.iret (v := 0) hx hb hr (fun t ht hW => ⟨⟨_, _, rfl, ⟨I1, F, L, hM, hF, (fun j h1 h2 => by rw [eI1, pk_un h1]), (by rw [eI1, pk_us]), ⟨sl9, (by omega), (by rw [eI1, pk_un (by decide)]; exact h68)⟩, (fun _ _ => rfl), (fun _ _ _ => rfl), hans, (fun _ => ⟨by rw [eI1, pk_un (by decide)], rfl, rfl⟩), (fun y k hy hk hn => by rw [hsp] at hy; rw [← Option.some.inj hy] at hk; exact absurd (by rw [← Option.some.inj (hc9.symm.trans hk)]; exact hen.trans hzz) hn)⟩, mk_end hG ht⟩, hS.F ht⟩) hS.2.2 dX14_encode_392
    · skip
      refine lv_aload_n hx hb dX14_encode_76 rfl (lv_at hl 3 rfl) ?_
      refine mm_get (v := .ref (Ar 12)) hx hb hf_X14 (fun _ h9 => h9) hown hK hG hM.1 rfl 12 (by decide) (tb_use hT tw_1403) (fun _ h9 => h9) (mfs_g12 _ _) dX14_encode_77 ?_
      refine lv_bipush (v := 12) hx hb dX14_encode_80 (by decide) ?_
      refine lv_aload_n hx hb dX14_encode_82 rfl (lv_at hl 3 rfl) ?_
      refine mm_get (v := .int (Iv 42)) hx hb hf_X14 (fun _ h9 => h9) hown hK hG hM.1 rfl 42 (by decide) (tb_use hT tw_1433) (fun _ h9 => h9) (by rw [mfs_g42, eI1] <;> rfl) dX14_encode_83 ?_
      rw [show (Iv 42) = nI b9 from hbk]
      refine lv_imul hx hb dX14_encode_86 ?_
      refine lv_iload hx hb dX14_encode_87 (lv_at hl 1 rfl) ?_
      refine lv_iadd hx hb dX14_encode_89 ?_
      refine mm_iald (n := 24) (f := F 12) hx hb hK hG 1 (hM.2.1 12 rfl) rfl (by rw [show (12 : Int32) * nI b9 + nI c9 = nI (12 * b9 + c9) from nI_ma 12 b9 c9]; exact nI_in (N := 24) (by omega) (by decide)) dX14_encode_90 ?_
      refine lv_topi (fun x38 ex38 => ?_)
      rw [show x38 = f12 by rw [ex38, show (12 : Int32) * nI b9 + nI c9 = nI (12 * b9 + c9) from nI_ma 12 b9 c9, nI_clamp (by omega)]; exact ef12]
      refine lv_if_eq (tgt := 110) hx hb dX14_encode_91 (by decide) (fun c_91 => ?_) (fun c_91 => ?_)
      · skip
        refine lv_iconst (v := 0) hx hb dX14_encode_110 (by decide) ?_
        have hzz : enM f10 f11 f12 f13 f14 xv = noR := by rw [enM, if_pos c_73, if_pos c_91]
        have hans : (0 : Int32) = enR v9 iv jv xv := by rw [hR9, if_pos hzz]
        exact W.iret (v := 0) hx hb hr (fun t ht hW => ⟨⟨_, _, rfl, ⟨I1, F, L, hM, hF, (fun j h1 h2 => by rw [eI1, pk_un h1]), (by rw [eI1, pk_us]), ⟨sl9, (by omega), (by rw [eI1, pk_un (by decide)]; exact h68)⟩, (fun _ _ => rfl), (fun _ _ _ => rfl), hans, (fun _ => ⟨by rw [eI1, pk_un (by decide)], rfl, rfl⟩), (fun y k hy hk hn => by rw [hsp] at hy; rw [← Option.some.inj hy] at hk; exact absurd (by rw [← Option.some.inj (hc9.symm.trans hk)]; exact hen.trans hzz) hn)⟩, mk_end hG ht⟩, hS.F ht⟩) hS.2.2 dX14_encode_111
      · skip
        have hdn : ¬ f13.toInt64 = 0 := by rcases hcf.2 with ⟨y, _⟩ | ⟨_, y⟩ | ⟨y, _⟩; (rw [c_73] at y; exact absurd y (by decide)); (intro z; have u := hcb.1.1; rw [y] at u; have u2 : 1 ≤ f13.toInt64.toInt := u; rw [z] at u2; revert u2; decide); (rcases y with y | y <;> (rw [c_73] at y; exact absurd y (by decide)))
        have hup2 : ¬ f12.toInt64 = 0 := fun z => c_91 (i32_64.mp (z.trans (by decide)))
        refine lv_lload_n hx hb dX14_encode_94 rfl (lv_at hl 6 rfl) ?_
        refine lv_ldc2 hx hb hown (tb_use hT tw_1854) dX14_encode_95 ?_
        refine W.lcmp hx hb dX14_encode_98 ?_
        refine lv_if_gt (tgt := 110) hx hb dX14_encode_99 (by decide) (fun c_99 => ?_) (fun c_99 => ?_)
        · skip
          refine lv_iconst (v := 0) hx hb dX14_encode_110 (by decide) ?_
          have hzz : enM f10 f11 f12 f13 f14 xv = noR := by rw [enM, if_pos c_73, if_neg c_91, if_pos ((lg_cmp_gt _ _).mp c_99)]
          have hans : (0 : Int32) = enR v9 iv jv xv := by rw [hR9, if_pos hzz]
          exact W.iret (v := 0) hx hb hr (fun t ht hW => ⟨⟨_, _, rfl, ⟨I1, F, L, hM, hF, (fun j h1 h2 => by rw [eI1, pk_un h1]), (by rw [eI1, pk_us]), ⟨sl9, (by omega), (by rw [eI1, pk_un (by decide)]; exact h68)⟩, (fun _ _ => rfl), (fun _ _ _ => rfl), hans, (fun _ => ⟨by rw [eI1, pk_un (by decide)], rfl, rfl⟩), (fun y k hy hk hn => by rw [hsp] at hy; rw [← Option.some.inj hy] at hk; exact absurd (by rw [← Option.some.inj (hc9.symm.trans hk)]; exact hen.trans hzz) hn)⟩, mk_end hG ht⟩, hS.F ht⟩) hS.2.2 dX14_encode_111
        · skip
          refine lv_lload_n hx hb dX14_encode_102 rfl (lv_at hl 6 rfl) ?_
          refine lv_ldc2 hx hb hown (tb_use hT tw_1855) dX14_encode_103 ?_
          refine W.lcmp hx hb dX14_encode_106 ?_
          refine lv_if_ge (tgt := 112) hx hb dX14_encode_107 (by decide) (fun c_107 => ?_) (fun c_107 => ?_)
          · skip
            refine lv_lload_n hx hb dX14_encode_112 rfl (lv_at hl 6 rfl) ?_
            refine lv_aload_n hx hb dX14_encode_113 rfl (lv_at hl 3 rfl) ?_
            refine mm_get (v := .ref (Ar 14)) hx hb hf_X14 (fun _ h9 => h9) hown hK hG hM.1 rfl 14 (by decide) (tb_use hT tw_1405) (fun _ h9 => h9) (mfs_g14 _ _) dX14_encode_114 ?_
            refine lv_bipush (v := 12) hx hb dX14_encode_117 (by decide) ?_
            refine lv_aload_n hx hb dX14_encode_119 rfl (lv_at hl 3 rfl) ?_
            refine mm_get (v := .int (Iv 42)) hx hb hf_X14 (fun _ h9 => h9) hown hK hG hM.1 rfl 42 (by decide) (tb_use hT tw_1433) (fun _ h9 => h9) (by rw [mfs_g42, eI1] <;> rfl) dX14_encode_120 ?_
            rw [show (Iv 42) = nI b9 from hbk]
            refine lv_imul hx hb dX14_encode_123 ?_
            refine lv_iload hx hb dX14_encode_124 (lv_at hl 1 rfl) ?_
            refine lv_iadd hx hb dX14_encode_126 ?_
            refine mm_iald (n := 24) (f := F 14) hx hb hK hG 1 (hM.2.1 14 rfl) rfl (by rw [show (12 : Int32) * nI b9 + nI c9 = nI (12 * b9 + c9) from nI_ma 12 b9 c9]; exact nI_in (N := 24) (by omega) (by decide)) dX14_encode_127 ?_
            refine lv_topi (fun x41 ex41 => ?_)
            rw [show x41 = f14 by rw [ex41, show (12 : Int32) * nI b9 + nI c9 = nI (12 * b9 + c9) from nI_ma 12 b9 c9, nI_clamp (by omega)]; exact ef14]
            obtain ⟨x42, ex42⟩ : ∃ y, y = (f14 : Int32).toInt64 := ⟨_, rfl⟩
            refine lv_i2l (v := x42) hx hb dX14_encode_128 ex42.symm ?_
            refine lv_lsub hx hb dX14_encode_129 ?_
            refine lv_topl (fun x43 ex43 => ?_)
            refine lv_lstore (lv' := [(9, .long x43), (7, .long xv), (6, .int (nI c9)), (5, .int (nI (8 * s9 + i9))), (0, .ref o), (1, .int iv), (2, .int jv), (3, .long xv)]) hx hb dX14_encode_130 hl (by decide) rfl (fun ls hl => ?_)
            have hof : xv - f14.toInt64 = x43 := by rw [ex43, ex42]
            refine lv_ldc2 hx hb hown (tb_use hT tw_1856) dX14_encode_132 ?_
            refine lv_aload_n hx hb dX14_encode_135 rfl (lv_at hl 4 rfl) ?_
            refine mm_get (v := .ref (Ar 12)) hx hb hf_X14 (fun _ h9 => h9) hown hK hG hM.1 rfl 12 (by decide) (tb_use hT tw_1403) (fun _ h9 => h9) (mfs_g12 _ _) dX14_encode_136 ?_
            refine lv_bipush (v := 12) hx hb dX14_encode_139 (by decide) ?_
            refine lv_aload_n hx hb dX14_encode_141 rfl (lv_at hl 4 rfl) ?_
            refine mm_get (v := .int (Iv 42)) hx hb hf_X14 (fun _ h9 => h9) hown hK hG hM.1 rfl 42 (by decide) (tb_use hT tw_1433) (fun _ h9 => h9) (by rw [mfs_g42, eI1] <;> rfl) dX14_encode_142 ?_
            rw [show (Iv 42) = nI b9 from hbk]
            refine lv_imul hx hb dX14_encode_145 ?_
            refine lv_iload hx hb dX14_encode_146 (lv_at hl 2 rfl) ?_
            refine lv_iadd hx hb dX14_encode_148 ?_
            refine mm_iald (n := 24) (f := F 12) hx hb hK hG 1 (hM.2.1 12 rfl) rfl (by rw [show (12 : Int32) * nI b9 + nI c9 = nI (12 * b9 + c9) from nI_ma 12 b9 c9]; exact nI_in (N := 24) (by omega) (by decide)) dX14_encode_149 ?_
            refine lv_topi (fun x44 ex44 => ?_)
            rw [show x44 = f12 by rw [ex44, show (12 : Int32) * nI b9 + nI c9 = nI (12 * b9 + c9) from nI_ma 12 b9 c9, nI_clamp (by omega)]; exact ef12]
            refine lv_if_ge (tgt := 172) hx hb dX14_encode_150 (by decide) (fun c_150 => ?_) (fun c_150 => ?_)
            · skip
              refine lv_aload_n hx hb dX14_encode_172 rfl (lv_at hl 4 rfl) ?_
              refine mm_get (v := .ref (Ar 12)) hx hb hf_X14 (fun _ h9 => h9) hown hK hG hM.1 rfl 12 (by decide) (tb_use hT tw_1403) (fun _ h9 => h9) (mfs_g12 _ _) dX14_encode_173 ?_
              refine lv_bipush (v := 12) hx hb dX14_encode_176 (by decide) ?_
              refine lv_aload_n hx hb dX14_encode_178 rfl (lv_at hl 4 rfl) ?_
              refine mm_get (v := .int (Iv 42)) hx hb hf_X14 (fun _ h9 => h9) hown hK hG hM.1 rfl 42 (by decide) (tb_use hT tw_1433) (fun _ h9 => h9) (by rw [mfs_g42, eI1] <;> rfl) dX14_encode_179 ?_
              rw [show (Iv 42) = nI b9 from hbk]
              refine lv_imul hx hb dX14_encode_182 ?_
              refine lv_iload hx hb dX14_encode_183 (lv_at hl 2 rfl) ?_
              refine lv_iadd hx hb dX14_encode_185 ?_
              refine mm_iald (n := 24) (f := F 12) hx hb hK hG 1 (hM.2.1 12 rfl) rfl (by rw [show (12 : Int32) * nI b9 + nI c9 = nI (12 * b9 + c9) from nI_ma 12 b9 c9]; exact nI_in (N := 24) (by omega) (by decide)) dX14_encode_186 ?_
              refine lv_topi (fun x45 ex45 => ?_)
              rw [show x45 = f12 by rw [ex45, show (12 : Int32) * nI b9 + nI c9 = nI (12 * b9 + c9) from nI_ma 12 b9 c9, nI_clamp (by omega)]; exact ef12]
              obtain ⟨x46, ex46⟩ : ∃ y, y = (f12 : Int32).toInt64 := ⟨_, rfl⟩
              refine lv_i2l (v := x46) hx hb dX14_encode_187 ex46.symm ?_
              refine lv_lmul hx hb dX14_encode_188 ?_
              refine lv_aload_n hx hb dX14_encode_189 rfl (lv_at hl 4 rfl) ?_
              refine mm_get (v := .ref (Ar 13)) hx hb hf_X14 (fun _ h9 => h9) hown hK hG hM.1 rfl 13 (by decide) (tb_use hT tw_1404) (fun _ h9 => h9) (mfs_g13 _ _) dX14_encode_190 ?_
              refine lv_bipush (v := 12) hx hb dX14_encode_193 (by decide) ?_
              refine lv_aload_n hx hb dX14_encode_195 rfl (lv_at hl 4 rfl) ?_
              refine mm_get (v := .int (Iv 42)) hx hb hf_X14 (fun _ h9 => h9) hown hK hG hM.1 rfl 42 (by decide) (tb_use hT tw_1433) (fun _ h9 => h9) (by rw [mfs_g42, eI1] <;> rfl) dX14_encode_196 ?_
              rw [show (Iv 42) = nI b9 from hbk]
              refine lv_imul hx hb dX14_encode_199 ?_
              refine lv_iload hx hb dX14_encode_200 (lv_at hl 2 rfl) ?_
              refine lv_iadd hx hb dX14_encode_202 ?_
              refine mm_iald (n := 24) (f := F 13) hx hb hK hG 1 (hM.2.1 13 rfl) rfl (by rw [show (12 : Int32) * nI b9 + nI c9 = nI (12 * b9 + c9) from nI_ma 12 b9 c9]; exact nI_in (N := 24) (by omega) (by decide)) dX14_encode_203 ?_
              refine lv_topi (fun x47 ex47 => ?_)
              rw [show x47 = f13 by rw [ex47, show (12 : Int32) * nI b9 + nI c9 = nI (12 * b9 + c9) from nI_ma 12 b9 c9, nI_clamp (by omega)]; exact ef13]
              obtain ⟨x48, ex48⟩ : ∃ y, y = (f13 : Int32).toInt64 := ⟨_, rfl⟩
              refine lv_i2l (v := x48) hx hb dX14_encode_204 ex48.symm ?_
              have hz_x48 : ¬ x48 = 0 := by rw [ex48]; exact hdn
              refine lv_ldiv hx hb dX14_encode_205 (by assumption) ?_
              refine lv_topl (fun x49 ex49 => ?_)
              have hfa : enA f12 f13 = x49 := by rw [enA, if_neg (Int32.not_lt.mpr c_150), ex49, ex46, ex48]
              refine lv_lstore (lv' := [(11, .long x49), (9, .long x43), (7, .long xv), (6, .int (nI c9)), (5, .int (nI (8 * s9 + i9))), (0, .ref o), (1, .int iv), (2, .int jv), (3, .long xv)]) hx hb dX14_encode_206 hl (by decide) rfl (fun ls hl => ?_)
              refine lv_lload hx hb dX14_encode_208 (lv_at hl 1 rfl) ?_
              refine lv_lload hx hb dX14_encode_210 (lv_at hl 0 rfl) ?_
              refine W.lcmp hx hb dX14_encode_212 ?_
              refine lv_if_gt (tgt := 225) hx hb dX14_encode_213 (by decide) (fun c_213 => ?_) (fun c_213 => ?_)
              · skip
                refine lv_iconst (v := 0) hx hb dX14_encode_225 (by decide) ?_
                have hzz : enM f10 f11 f12 f13 f14 xv = noR := by rw [enM, if_pos c_73, if_neg c_91, if_neg (fun z => c_99 ((lg_cmp_gt _ _).mpr z)), if_neg (Int64.not_lt.mpr ((lg_cmp_ge _ _).mp c_107)), if_pos (by rw [hof, hfa]; exact (lg_cmp_gt _ _).mp c_213)]
                have hans : (0 : Int32) = enR v9 iv jv xv := by rw [hR9, if_pos hzz]
                exact W.iret (v := 0) hx hb hr (fun t ht hW => ⟨⟨_, _, rfl, ⟨I1, F, L, hM, hF, (fun j h1 h2 => by rw [eI1, pk_un h1]), (by rw [eI1, pk_us]), ⟨sl9, (by omega), (by rw [eI1, pk_un (by decide)]; exact h68)⟩, (fun _ _ => rfl), (fun _ _ _ => rfl), hans, (fun _ => ⟨by rw [eI1, pk_un (by decide)], rfl, rfl⟩), (fun y k hy hk hn => by rw [hsp] at hy; rw [← Option.some.inj hy] at hk; exact absurd (by rw [← Option.some.inj (hc9.symm.trans hk)]; exact hen.trans hzz) hn)⟩, mk_end hG ht⟩, hS.F ht⟩) hS.2.2 dX14_encode_226
              · skip
                refine lv_lload hx hb dX14_encode_216 (lv_at hl 1 rfl) ?_
                refine lv_lload hx hb dX14_encode_218 (lv_at hl 0 rfl) ?_
                refine lv_lneg hx hb dX14_encode_220 ?_
                refine W.lcmp hx hb dX14_encode_221 ?_
                refine lv_if_ge (tgt := 227) hx hb dX14_encode_222 (by decide) (fun c_222 => ?_) (fun c_222 => ?_)
                · skip
                  refine lv_lload hx hb dX14_encode_227 (lv_at hl 1 rfl) ?_
                  refine lv_aload_n hx hb dX14_encode_229 rfl (lv_at hl 5 rfl) ?_
                  refine mm_get (v := .ref (Ar 13)) hx hb hf_X14 (fun _ h9 => h9) hown hK hG hM.1 rfl 13 (by decide) (tb_use hT tw_1404) (fun _ h9 => h9) (mfs_g13 _ _) dX14_encode_230 ?_
                  refine lv_bipush (v := 12) hx hb dX14_encode_233 (by decide) ?_
                  refine lv_aload_n hx hb dX14_encode_235 rfl (lv_at hl 5 rfl) ?_
                  refine mm_get (v := .int (Iv 42)) hx hb hf_X14 (fun _ h9 => h9) hown hK hG hM.1 rfl 42 (by decide) (tb_use hT tw_1433) (fun _ h9 => h9) (by rw [mfs_g42, eI1] <;> rfl) dX14_encode_236 ?_
                  rw [show (Iv 42) = nI b9 from hbk]
                  refine lv_imul hx hb dX14_encode_239 ?_
                  refine lv_iload hx hb dX14_encode_240 (lv_at hl 3 rfl) ?_
                  refine lv_iadd hx hb dX14_encode_242 ?_
                  refine mm_iald (n := 24) (f := F 13) hx hb hK hG 1 (hM.2.1 13 rfl) rfl (by rw [show (12 : Int32) * nI b9 + nI c9 = nI (12 * b9 + c9) from nI_ma 12 b9 c9]; exact nI_in (N := 24) (by omega) (by decide)) dX14_encode_243 ?_
                  refine lv_topi (fun x52 ex52 => ?_)
                  rw [show x52 = f13 by rw [ex52, show (12 : Int32) * nI b9 + nI c9 = nI (12 * b9 + c9) from nI_ma 12 b9 c9, nI_clamp (by omega)]; exact ef13]
                  obtain ⟨x53, ex53⟩ : ∃ y, y = (f13 : Int32).toInt64 := ⟨_, rfl⟩
                  refine lv_i2l (v := x53) hx hb dX14_encode_244 ex53.symm ?_
                  refine lv_lmul hx hb dX14_encode_245 ?_
                  refine lv_topl (fun x54 ex54 => ?_)
                  refine lv_lstore (lv' := [(13, .long x54), (11, .long x49), (9, .long x43), (7, .long xv), (6, .int (nI c9)), (5, .int (nI (8 * s9 + i9))), (0, .ref o), (1, .int iv), (2, .int jv), (3, .long xv)]) hx hb dX14_encode_246 hl (by decide) rfl (fun ls hl => ?_)
                  have hpd : (xv - f14.toInt64) * f13.toInt64 = x54 := by rw [hof, ex54, ex53]
                  refine lv_lload hx hb dX14_encode_248 (lv_at hl 0 rfl) ?_
                  refine lv_aload_n hx hb dX14_encode_250 rfl (lv_at hl 6 rfl) ?_
                  refine mm_get (v := .ref (Ar 12)) hx hb hf_X14 (fun _ h9 => h9) hown hK hG hM.1 rfl 12 (by decide) (tb_use hT tw_1403) (fun _ h9 => h9) (mfs_g12 _ _) dX14_encode_251 ?_
                  refine lv_bipush (v := 12) hx hb dX14_encode_254 (by decide) ?_
                  refine lv_aload_n hx hb dX14_encode_256 rfl (lv_at hl 6 rfl) ?_
                  refine mm_get (v := .int (Iv 42)) hx hb hf_X14 (fun _ h9 => h9) hown hK hG hM.1 rfl 42 (by decide) (tb_use hT tw_1433) (fun _ h9 => h9) (by rw [mfs_g42, eI1] <;> rfl) dX14_encode_257 ?_
                  rw [show (Iv 42) = nI b9 from hbk]
                  refine lv_imul hx hb dX14_encode_260 ?_
                  refine lv_iload hx hb dX14_encode_261 (lv_at hl 4 rfl) ?_
                  refine lv_iadd hx hb dX14_encode_263 ?_
                  refine mm_iald (n := 24) (f := F 12) hx hb hK hG 1 (hM.2.1 12 rfl) rfl (by rw [show (12 : Int32) * nI b9 + nI c9 = nI (12 * b9 + c9) from nI_ma 12 b9 c9]; exact nI_in (N := 24) (by omega) (by decide)) dX14_encode_264 ?_
                  refine lv_topi (fun x55 ex55 => ?_)
                  rw [show x55 = f12 by rw [ex55, show (12 : Int32) * nI b9 + nI c9 = nI (12 * b9 + c9) from nI_ma 12 b9 c9, nI_clamp (by omega)]; exact ef12]
                  obtain ⟨x56, ex56⟩ : ∃ y, y = (f12 : Int32).toInt64 := ⟨_, rfl⟩
                  refine lv_i2l (v := x56) hx hb dX14_encode_265 ex56.symm ?_
                  have hz_x56 : ¬ x56 = 0 := by rw [ex56]; exact hup2
                  refine lv_lrem hx hb dX14_encode_266 (by assumption) ?_
                  refine lv_topl (fun x57 ex57 => ?_)
                  have hrmd : (xv - f14.toInt64) * f13.toInt64 - (xv - f14.toInt64) * f13.toInt64 / f12.toInt64 * f12.toInt64 = x57 := by rw [hpd, ex57, ex56]
                  refine lv_lconst (v := 0) hx hb dX14_encode_267 (by decide) ?_
                  refine W.lcmp hx hb dX14_encode_268 ?_
                  refine lv_if_eq (tgt := 274) hx hb dX14_encode_269 (by decide) (fun c_269 => ?_) (fun c_269 => ?_)
                  · skip
                    refine lv_lload hx hb dX14_encode_274 (lv_at hl 0 rfl) ?_
                    refine lv_aload_n hx hb dX14_encode_276 rfl (lv_at hl 6 rfl) ?_
                    refine mm_get (v := .ref (Ar 12)) hx hb hf_X14 (fun _ h9 => h9) hown hK hG hM.1 rfl 12 (by decide) (tb_use hT tw_1403) (fun _ h9 => h9) (mfs_g12 _ _) dX14_encode_277 ?_
                    refine lv_bipush (v := 12) hx hb dX14_encode_280 (by decide) ?_
                    refine lv_aload_n hx hb dX14_encode_282 rfl (lv_at hl 6 rfl) ?_
                    refine mm_get (v := .int (Iv 42)) hx hb hf_X14 (fun _ h9 => h9) hown hK hG hM.1 rfl 42 (by decide) (tb_use hT tw_1433) (fun _ h9 => h9) (by rw [mfs_g42, eI1] <;> rfl) dX14_encode_283 ?_
                    rw [show (Iv 42) = nI b9 from hbk]
                    refine lv_imul hx hb dX14_encode_286 ?_
                    refine lv_iload hx hb dX14_encode_287 (lv_at hl 4 rfl) ?_
                    refine lv_iadd hx hb dX14_encode_289 ?_
                    refine mm_iald (n := 24) (f := F 12) hx hb hK hG 1 (hM.2.1 12 rfl) rfl (by rw [show (12 : Int32) * nI b9 + nI c9 = nI (12 * b9 + c9) from nI_ma 12 b9 c9]; exact nI_in (N := 24) (by omega) (by decide)) dX14_encode_290 ?_
                    refine lv_topi (fun x59 ex59 => ?_)
                    rw [show x59 = f12 by rw [ex59, show (12 : Int32) * nI b9 + nI c9 = nI (12 * b9 + c9) from nI_ma 12 b9 c9, nI_clamp (by omega)]; exact ef12]
                    obtain ⟨x60, ex60⟩ : ∃ y, y = (f12 : Int32).toInt64 := ⟨_, rfl⟩
                    refine lv_i2l (v := x60) hx hb dX14_encode_291 ex60.symm ?_
                    have hz_x60 : ¬ x60 = 0 := by rw [ex60]; exact hup2
                    refine lv_ldiv hx hb dX14_encode_292 (by assumption) ?_
                    refine lv_topl (fun x61 ex61 => ?_)
                    have hqq : (xv - f14.toInt64) * f13.toInt64 / f12.toInt64 = x61 := by rw [hpd, ex61, ex60]
                    refine lv_lstore (lv' := [(7, .long x61), (13, .long x54), (11, .long x49), (9, .long x43), (6, .int (nI c9)), (5, .int (nI (8 * s9 + i9))), (0, .ref o), (1, .int iv), (2, .int jv), (3, .long xv)]) hx hb dX14_encode_293 hl (by decide) rfl (fun ls hl => ?_)
                    refine lv_lconst (v := 1) hx hb dX14_encode_295 (by decide) ?_
                    refine lv_bipush (v := 8) hx hb dX14_encode_296 (by decide) ?_
                    refine lv_aload_n hx hb dX14_encode_298 rfl (lv_at hl 6 rfl) ?_
                    refine mm_get (v := .ref (Ar 10)) hx hb hf_X14 (fun _ h9 => h9) hown hK hG hM.1 rfl 10 (by decide) (tb_use hT tw_1401) (fun _ h9 => h9) (mfs_g10 _ _) dX14_encode_299 ?_
                    refine lv_bipush (v := 12) hx hb dX14_encode_302 (by decide) ?_
                    refine lv_aload_n hx hb dX14_encode_304 rfl (lv_at hl 6 rfl) ?_
                    refine mm_get (v := .int (Iv 42)) hx hb hf_X14 (fun _ h9 => h9) hown hK hG hM.1 rfl 42 (by decide) (tb_use hT tw_1433) (fun _ h9 => h9) (by rw [mfs_g42, eI1] <;> rfl) dX14_encode_305 ?_
                    rw [show (Iv 42) = nI b9 from hbk]
                    refine lv_imul hx hb dX14_encode_308 ?_
                    refine lv_iload hx hb dX14_encode_309 (lv_at hl 4 rfl) ?_
                    refine lv_iadd hx hb dX14_encode_311 ?_
                    refine mm_iald (n := 24) (f := F 10) hx hb hK hG 1 (hM.2.1 10 rfl) rfl (by rw [show (12 : Int32) * nI b9 + nI c9 = nI (12 * b9 + c9) from nI_ma 12 b9 c9]; exact nI_in (N := 24) (by omega) (by decide)) dX14_encode_312 ?_
                    refine lv_topi (fun x62 ex62 => ?_)
                    rw [show x62 = f10 by rw [ex62, show (12 : Int32) * nI b9 + nI c9 = nI (12 * b9 + c9) from nI_ma 12 b9 c9, nI_clamp (by omega)]; exact ef10]
                    refine lv_imul hx hb dX14_encode_313 ?_
                    obtain ⟨x63, ex63⟩ : ∃ y, y = (1 : Int64) <<< (((8 * f10) : Int32).toInt64 &&& 63) := ⟨_, rfl⟩
                    refine lv_lshl (v := x63) hx hb dX14_encode_314 ex63.symm ?_
                    have hll : enL f10 = x63 := ex63.symm
                    refine lv_lstore (lv' := [(9, .long x63), (7, .long x61), (13, .long x54), (11, .long x49), (6, .int (nI c9)), (5, .int (nI (8 * s9 + i9))), (0, .ref o), (1, .int iv), (2, .int jv), (3, .long xv)]) hx hb dX14_encode_315 hl (by decide) rfl (fun ls hl => ?_)
                    refine lv_aload_n hx hb dX14_encode_317 rfl (lv_at hl 6 rfl) ?_
                    refine mm_get (v := .ref (Ar 11)) hx hb hf_X14 (fun _ h9 => h9) hown hK hG hM.1 rfl 11 (by decide) (tb_use hT tw_1402) (fun _ h9 => h9) (mfs_g11 _ _) dX14_encode_318 ?_
                    refine lv_bipush (v := 12) hx hb dX14_encode_321 (by decide) ?_
                    refine lv_aload_n hx hb dX14_encode_323 rfl (lv_at hl 6 rfl) ?_
                    refine mm_get (v := .int (Iv 42)) hx hb hf_X14 (fun _ h9 => h9) hown hK hG hM.1 rfl 42 (by decide) (tb_use hT tw_1433) (fun _ h9 => h9) (by rw [mfs_g42, eI1] <;> rfl) dX14_encode_324 ?_
                    rw [show (Iv 42) = nI b9 from hbk]
                    refine lv_imul hx hb dX14_encode_327 ?_
                    refine lv_iload hx hb dX14_encode_328 (lv_at hl 4 rfl) ?_
                    refine lv_iadd hx hb dX14_encode_330 ?_
                    refine mm_iald (n := 24) (f := F 11) hx hb hK hG 1 (hM.2.1 11 rfl) rfl (by rw [show (12 : Int32) * nI b9 + nI c9 = nI (12 * b9 + c9) from nI_ma 12 b9 c9]; exact nI_in (N := 24) (by omega) (by decide)) dX14_encode_331 ?_
                    refine lv_topi (fun x64 ex64 => ?_)
                    rw [show x64 = f11 by rw [ex64, show (12 : Int32) * nI b9 + nI c9 = nI (12 * b9 + c9) from nI_ma 12 b9 c9, nI_clamp (by omega)]; exact ef11]
                    refine lv_iconst (v := 1) hx hb dX14_encode_332 (by decide) ?_
                    refine lv_icmp_ne (tgt := 340) hx hb dX14_encode_333 (by decide) (fun c_333 => ?_) (fun c_333 => ?_)
                    · skip
                      refine lv_iconst (v := 0) hx hb dX14_encode_340 (by decide) ?_
                      refine lv_istore (lv' := [(11, .int 0), (9, .long x63), (7, .long x61), (13, .long x54), (6, .int (nI c9)), (5, .int (nI (8 * s9 + i9))), (0, .ref o), (1, .int iv), (2, .int jv), (3, .long xv)]) hx hb dX14_encode_341 hl (by decide) rfl (fun ls hl => ?_)
                      refine lv_iload hx hb dX14_encode_343 (lv_at hl 0 rfl) ?_
                      refine lv_if_eq (tgt := 376) hx hb dX14_encode_345 (by decide) (fun c_345 => ?_) (fun c_345 => ?_)
                      · skip
                        refine lv_lload hx hb dX14_encode_376 (lv_at hl 2 rfl) ?_
                        refine lv_lconst (v := 0) hx hb dX14_encode_378 (by decide) ?_
                        refine W.lcmp hx hb dX14_encode_379 ?_
                        refine lv_if_lt (tgt := 391) hx hb dX14_encode_380 (by decide) (fun c_380 => ?_) (fun c_380 => ?_)
                        · skip
                          refine lv_iconst (v := 0) hx hb dX14_encode_391 (by decide) ?_
                          have hzz : enM f10 f11 f12 f13 f14 xv = noR := by rw [enM, if_pos c_73, if_neg c_91, if_neg (fun z => c_99 ((lg_cmp_gt _ _).mpr z)), if_neg (Int64.not_lt.mpr ((lg_cmp_ge _ _).mp c_107)), if_neg (by rw [hof, hfa]; exact fun z => c_213 ((lg_cmp_gt _ _).mpr z)), if_neg (by rw [hof, hfa]; exact Int64.not_lt.mpr ((lg_cmp_ge _ _).mp c_222)), if_pos (by rw [hrmd]; exact (lg_cmp_eq _ _).mp c_269), hqq, enG, if_neg c_333, if_pos ((lg_cmp_lt _ _).mp c_380)]
                          have hans : (0 : Int32) = enR v9 iv jv xv := by rw [hR9, if_pos hzz]
                          exact W.iret (v := 0) hx hb hr (fun t ht hW => ⟨⟨_, _, rfl, ⟨I1, F, L, hM, hF, (fun j h1 h2 => by rw [eI1, pk_un h1]), (by rw [eI1, pk_us]), ⟨sl9, (by omega), (by rw [eI1, pk_un (by decide)]; exact h68)⟩, (fun _ _ => rfl), (fun _ _ _ => rfl), hans, (fun _ => ⟨by rw [eI1, pk_un (by decide)], rfl, rfl⟩), (fun y k hy hk hn => by rw [hsp] at hy; rw [← Option.some.inj hy] at hk; exact absurd (by rw [← Option.some.inj (hc9.symm.trans hk)]; exact hen.trans hzz) hn)⟩, mk_end hG ht⟩, hS.F ht⟩) hS.2.2 dX14_encode_392
                        · skip
                          refine lv_lload hx hb dX14_encode_383 (lv_at hl 2 rfl) ?_
                          refine lv_lload hx hb dX14_encode_385 (lv_at hl 1 rfl) ?_
                          refine W.lcmp hx hb dX14_encode_387 ?_
                          refine lv_if_lt (tgt := 393) hx hb dX14_encode_388 (by decide) (fun c_388 => ?_) (fun c_388 => ?_)
                          · skip
                            refine lv_aload_n hx hb dX14_encode_393 rfl (lv_at hl 6 rfl) ?_
                            refine mm_get (v := .ref (Ar 70)) hx hb hf_X14 (fun _ h9 => h9) hown hK hG hM.1 rfl 70 (by decide) (tb_use hT tw_1461) (fun _ h9 => h9) (mfs_g70 _ _) dX14_encode_394 ?_
                            refine lv_iload hx hb dX14_encode_397 (lv_at hl 5 rfl) ?_
                            refine lv_lload hx hb dX14_encode_399 (lv_at hl 2 rfl) ?_
                            refine mm_last (n := mdN 70) (f := L 70) hx hb hK hG hS 2 (hM.2.2.1 70 rfl) rfl (nI_in (N := mdN 70) (by show _ < 128; omega) (by decide)) dX14_encode_401 (fun H locs hG hS => ?_)
                            have hM := MD.setj (k := 70) (vp_updL (L 70) (nI (8 * s9 + i9)).toNatClampNeg x61) hM rfl
                            have hF := hF.wa (k := 70) (e' := .inl (cy 2, mdN 70, .inr (.inl (vp_updL (L 70) (nI (8 * s9 + i9)).toNatClampNeg x61)))) rfl
                            obtain ⟨L67, eL67⟩ : ∃ g, g = va_up L 70 (vp_updL (L 70) (nI (8 * s9 + i9)).toNatClampNeg x61) := ⟨_, rfl⟩
                            rw [← eL67] at hM
                            have hgn := gn_MD hG hM hF
                            clear hG hM hF
                            obtain ⟨G68, hG, hM, hF⟩ := hgn
                            refine lv_aload_n hx hb dX14_encode_402 rfl (lv_at hl 6 rfl) ?_
                            refine mm_get (v := .ref (Ar 67)) hx hb hf_X14 (fun _ h9 => h9) hown hK hG hM.1 rfl 67 (by decide) (tb_use hT tw_1458) (fun _ h9 => h9) (mfs_g67 _ _) dX14_encode_403 ?_
                            refine lv_iconst (v := 0) hx hb dX14_encode_406 (by decide) ?_
                            refine lv_aload_n hx hb dX14_encode_407 rfl (lv_at hl 6 rfl) ?_
                            refine mm_get (v := .ref (Ar 21)) hx hb hf_X14 (fun _ h9 => h9) hown hK hG hM.1 rfl 21 (by decide) (tb_use hT tw_1412) (fun _ h9 => h9) (mfs_g21 _ _) dX14_encode_408 ?_
                            refine lv_bipush (v := 16) hx hb dX14_encode_411 (by decide) ?_
                            refine lv_aload_n hx hb dX14_encode_413 rfl (lv_at hl 6 rfl) ?_
                            refine mm_get (v := .int (Iv 42)) hx hb hf_X14 (fun _ h9 => h9) hown hK hG hM.1 rfl 42 (by decide) (tb_use hT tw_1433) (fun _ h9 => h9) (by rw [mfs_g42, eI1] <;> rfl) dX14_encode_414 ?_
                            rw [show (Iv 42) = nI b9 from hbk]
                            refine lv_imul hx hb dX14_encode_417 ?_
                            refine lv_iload_n hx hb dX14_encode_418 rfl (lv_at hl 7 rfl) ?_
                            refine lv_iadd hx hb dX14_encode_419 ?_
                            refine lv_iconst (v := 1) hx hb dX14_encode_420 (by decide) ?_
                            refine lv_isub hx hb dX14_encode_421 ?_
                            rw [show (((16 * (nI b9)) + iv) - 1) = nI (16 * b9 + s9) by rw [hxs, show (16 : Int32) * nI b9 + nI (s9 + 1) = nI (16 * b9 + (s9 + 1)) from nI_ma 16 b9 (s9 + 1)]; exact nI_pred (16 * b9 + s9)]
                            refine mm_iald (n := 32) (f := F 21) hx hb hK hG 1 (hM.2.1 21 rfl) rfl (nI_in (N := 32) (by omega) (by decide)) dX14_encode_422 ?_
                            refine lv_topi (fun x69 ex69 => ?_)
                            refine lv_bipush (v := 64) hx hb dX14_encode_423 (by decide) ?_
                            refine lv_iadd hx hb dX14_encode_425 ?_
                            refine lv_topi (fun x70 ex70 => ?_)
                            refine mm_iast (n := mdN 67) (f := F 67) hx hb hK hG hS 1 (hM.2.1 67 rfl) rfl (nI_in (c := 0) (N := mdN 67) (by decide) (by decide)) dX14_encode_426 (fun H locs hG hS => ?_)
                            have hM := MD.seti (k := 67) (upd (F 67) (0 : Int32).toNatClampNeg x70) hM rfl
                            have hF := hF.wa (k := 67) (e' := .inl (cy 1, mdN 67, .inl (upd (F 67) (0 : Int32).toNatClampNeg x70))) rfl
                            obtain ⟨F71, eF71⟩ : ∃ g, g = va_up F 67 (upd (F 67) (0 : Int32).toNatClampNeg x70) := ⟨_, rfl⟩
                            rw [← eF71] at hM
                            have hgn := gn_MD hG hM hF
                            clear hG hM hF
                            obtain ⟨G72, hG, hM, hF⟩ := hgn
                            refine lv_aload_n hx hb dX14_encode_427 rfl (lv_at hl 6 rfl) ?_
                            refine lv_aload_n hx hb dX14_encode_428 rfl (lv_at hl 6 rfl) ?_
                            refine lv_iload_n hx hb dX14_encode_429 rfl (lv_at hl 7 rfl) ?_
                            refine lv_iconst (v := 1) hx hb dX14_encode_430 (by decide) ?_
                            refine lv_isub hx hb dX14_encode_431 ?_
                            rw [show iv - 1 = nI s9 by rw [hxs]; exact nI_pred s9]
                            refine lv_aload_n hx hb dX14_encode_432 rfl (lv_at hl 6 rfl) ?_
                            refine mm_get (v := .ref (Ar 67)) hx hb hf_X14 (fun _ h9 => h9) hown hK hG hM.1 rfl 67 (by decide) (tb_use hT tw_1458) (fun _ h9 => h9) (mfs_g67 _ _) dX14_encode_433 ?_
                            refine lv_bipush (v := 64) hx hb dX14_encode_436 (by decide) ?_
                            refine lv_iconst (v := 1) hx hb dX14_encode_438 (by decide) ?_
                            have hB8 : BK (tkK ft en) (tkV ft en) n9 F71 b9 v9 := ⟨hB.1.mv (Nat.le_refl _) (fun k i hk => by rw [eF71, va_up_ne _ _ (by omega)]) rfl rfl rfl rfl, hB.2.1.mv (Nat.le_refl _) (fun k i hk => by rw [eF71, va_up_ne _ _ (by omega)]) rfl rfl, hB.2.2.1.mv (Nat.le_refl _) (fun k i hk => by rw [eF71, va_up_ne _ _ (by omega)]) rfl rfl rfl rfl, hB.2.2.2.1.mv (Nat.le_refl _) (fun k i hk => by rw [eF71, va_up_ne _ _ (by omega)]) rfl rfl, hB.2.2.2.2.1.mv (Nat.le_refl _) (fun k i hk => by rw [eF71, va_up_ne _ _ (by omega)]) rfl rfl, hB.2.2.2.2.2.mv (Nat.le_refl _) (fun k i hk => by rw [eF71, va_up_ne _ _ (by omega)]) rfl rfl rfl rfl⟩
                            have hzz : enM f10 f11 f12 f13 f14 xv = x61 := by rw [enM, if_pos c_73, if_neg c_91, if_neg (fun z => c_99 ((lg_cmp_gt _ _).mpr z)), if_neg (Int64.not_lt.mpr ((lg_cmp_ge _ _).mp c_107)), if_neg (by rw [hof, hfa]; exact fun z => c_213 ((lg_cmp_gt _ _).mpr z)), if_neg (by rw [hof, hfa]; exact Int64.not_lt.mpr ((lg_cmp_ge _ _).mp c_222)), if_pos (by rw [hrmd]; exact (lg_cmp_eq _ _).mp c_269), hqq, enG, if_neg c_333, if_neg (fun z => c_380 ((lg_cmp_lt _ _).mpr z)), if_pos (by rw [hll]; exact (lg_cmp_lt _ _).mp c_388)]
                            have hew : enW v9 c9 xv = x61 := hen.trans hzz
                            have hrm0 : ∀ i, i < v9.nP s9 → (enP (P9 s9) i9 (enW v9 c9 xv) i).2.2.2 = L67 70 (8 * s9 + i) := fun i hi => by
                              unfold enP
                              rw [eL67, va_up_self, nI_clamp (by omega)]
                              by_cases y : i = i9
                              · rw [y, up1_eq, pk_uLs]; exact hew
                              · rw [up1_ne y, pk_uLn (by omega)]; exact hrm s9 hs9 i hi
                            have hf0 : upd so 0 (vp_nar .byte (((v9.S s9).2.2.2 + 64).toInt8.toInt32)) 0 &&& 255 = F71 67 0 &&& 255 := by rw [pk_us, nar_255, eF71, va_up_self]; show _ = upd (F 67) 0 x70 0 &&& 255; rw [pk_us, ex70, ex69, nI_clamp (by omega), (hB.2.2.1.2.2 s9 hs9).2.1]
                            refine va_calli (va_runV (As := [.int (nI s9), .ref (Ar 67), .int 64, .int 1]) (rest := [.ref o]) ⟨hx, hb, hml, hown, (fun _ h9 => absurd h9 List.not_mem_nil : ∀ w ∈ ([] : List Cond), w.before _ s = true)⟩ (c_M_findS l D cy A X hst hXT G72 o Ar I1 F71 L67 ft en b9 n9 v9 s9 (enP (P9 s9) i9 (enW v9 c9 xv)) (upd so 0 (vp_nar .byte (((v9.S s9).2.2.2 + 64).toInt8.toInt32))) hM hB8 hVL hWd hn30 hb9 (by rw [eI1]; exact hbk) hs9 hrm0 hf0) (tb_cw (C := RX14) 4 hT tw_1832 tw_109 tw_1829 tw_1831 tw_96 rfl rfl hq_X14_find ⟨Nat.le_of_ble_eq_true rfl, Nat.le_of_ble_eq_true rfl⟩) (mk_preC hst hG hK hA hX hS vc_15 hM.1) rfl rfl hl.1 rfl (lv_room (Nat.le_of_ble_eq_true rfl)) dX14_encode_439 ⟨Nat.le_of_ble_eq_true rfl, Nat.le_of_ble_eq_true rfl⟩) hS (fun q _ h => h) (fun q h => h) (fun r73 G74 t H locs ht hvm hw hB hz1 hk1 hS => ?_)
                            have hG : mm D vwCl A G74 H := by rw [← ht]; exact hB
                            clear hB hz1 hk1 hvm ht
                            obtain ⟨k9, F9, L9, er73, hk1, hk64, hM2, hF2, hf9, hL9, hmk1, hmk2⟩ := hw
                            replace hF := hF.tr hF2; replace hM := hM2; clear hM2 hF2
                            refine mm_put (v := .int r73) (ty := .int) hx hb hf_X14 (fun _ h9 => h9) tyX14 tyX14_ok nmX14 hown hK hG hS hM.1 rfl 68 (by decide) (tb_use hT tw_1459) (fun _ h9 => h9) rfl (by decide +kernel) rfl rfl (mfs_l68 _ _) dX14_encode_442 (fun H locs hG hS => ?_)
                            have hM := MD.puti (k := 68) (v := r73) hM (mfs_s68 _ _ _)
                            have hF := hF.wo (e' := .inr (15, (mfs Ar I1).set 68 (.int r73)))
                            obtain ⟨I75, eI75⟩ : ∃ g, g = upd I1 68 r73 := ⟨_, rfl⟩
                            rw [← eI75] at hM
                            have hgn := gn_MD hG hM hF
                            clear hG hM hF
                            obtain ⟨G76, hG, hM, hF⟩ := hgn
                            refine lv_iconst (v := 1) hx hb dX14_encode_445 (by decide) ?_
                            have hans : (1 : Int32) = enR v9 iv jv xv := by rw [hR9, if_neg (by rw [hzz]; exact enG_ne hwd.2.1 hwd.2.2 (Or.inr (fun z => c_380 ((lg_cmp_lt _ _).mpr z))))]
                            have hs70 : L9 70 = vp_updL (L 70) (8 * s9 + i9) (enW v9 c9 xv) := by rw [hL9 70 (by decide), eL67, va_up_self, nI_clamp (by omega), hew]
                            have hs68 : I75 68 = nI (maF v9 s9 (enP (P9 s9) i9 (enW v9 c9 xv)) so).2.1 := by rw [eI75, pk_us, er73, ← hmk1]; rfl
                            have hsj : JS (maF v9 s9 (enP (P9 s9) i9 (enW v9 c9 xv)) so).2 (maF v9 s9 (enP (P9 s9) i9 (enW v9 c9 xv)) so).2.1 (F9 67) := ⟨rfl, (show _ ≤ 64 from Nat.le_trans (Nat.le_of_eq hmk1) hk64), (fun i hi => hmk2 i (Nat.lt_of_lt_of_eq hi hmk1))⟩
                            exact W.iret (v := 1) hx hb hr (fun t ht hW => ⟨⟨_, _, rfl, ⟨I75, F9, L9, hM, hF, (fun j h1 h2 => by rw [eI75, pk_un h2, eI1, pk_un h1]), (by rw [eI75, pk_un (by decide), eI1, pk_us]), ⟨k9, hk64, (by rw [eI75, pk_us]; exact er73)⟩, (fun j hj => by rw [hf9 j hj, eF71, va_up_ne _ _ (by omega)]), (fun j h1 h2 => by rw [hL9 j h2, eL67, va_up_ne _ _ h1]), hans, (fun z => absurd rfl z), (fun y k hy hk hn => by rw [hsp] at hy; rw [← Option.some.inj hy] at hk ⊢; rw [← Option.some.inj (hc9.symm.trans hk)]; exact ⟨hs70, hs68, hsj⟩)⟩, mk_end hG ht⟩, hS.F ht⟩) hS.2.2 dX14_encode_446
                          · skip
                            refine lv_iconst (v := 0) hx hb dX14_encode_391 (by decide) ?_
                            have hzz : enM f10 f11 f12 f13 f14 xv = noR := by rw [enM, if_pos c_73, if_neg c_91, if_neg (fun z => c_99 ((lg_cmp_gt _ _).mpr z)), if_neg (Int64.not_lt.mpr ((lg_cmp_ge _ _).mp c_107)), if_neg (by rw [hof, hfa]; exact fun z => c_213 ((lg_cmp_gt _ _).mpr z)), if_neg (by rw [hof, hfa]; exact Int64.not_lt.mpr ((lg_cmp_ge _ _).mp c_222)), if_pos (by rw [hrmd]; exact (lg_cmp_eq _ _).mp c_269), hqq, enG, if_neg c_333, if_neg (fun z => c_380 ((lg_cmp_lt _ _).mpr z)), if_neg (by rw [hll]; exact fun z => c_388 ((lg_cmp_lt _ _).mpr z))]
                            have hans : (0 : Int32) = enR v9 iv jv xv := by rw [hR9, if_pos hzz]
                            exact W.iret (v := 0) hx hb hr (fun t ht hW => ⟨⟨_, _, rfl, ⟨I1, F, L, hM, hF, (fun j h1 h2 => by rw [eI1, pk_un h1]), (by rw [eI1, pk_us]), ⟨sl9, (by omega), (by rw [eI1, pk_un (by decide)]; exact h68)⟩, (fun _ _ => rfl), (fun _ _ _ => rfl), hans, (fun _ => ⟨by rw [eI1, pk_un (by decide)], rfl, rfl⟩), (fun y k hy hk hn => by rw [hsp] at hy; rw [← Option.some.inj hy] at hk; exact absurd (by rw [← Option.some.inj (hc9.symm.trans hk)]; exact hen.trans hzz) hn)⟩, mk_end hG ht⟩, hS.F ht⟩) hS.2.2 dX14_encode_392
                      · skip
                        exact absurd rfl c_345
                    · skip
                      refine lv_iconst (v := 1) hx hb dX14_encode_336 (by decide) ?_
                      refine lv_goto (tgt := 341) hx hb dX14_encode_337 (by decide) ?_
                      refine lv_istore (lv' := [(11, .int 1), (9, .long x63), (7, .long x61), (13, .long x54), (6, .int (nI c9)), (5, .int (nI (8 * s9 + i9))), (0, .ref o), (1, .int iv), (2, .int jv), (3, .long xv)]) hx hb dX14_encode_341 hl (by decide) rfl (fun ls hl => ?_)
                      refine lv_iload hx hb dX14_encode_343 (lv_at hl 0 rfl) ?_
                      refine lv_if_eq (tgt := 376) hx hb dX14_encode_345 (by decide) (fun c_345 => ?_) (fun c_345 => ?_)
                      · skip
                        exact absurd c_345 (by decide)
                      · skip
                        refine lv_lload hx hb dX14_encode_348 (lv_at hl 2 rfl) ?_
                        refine lv_lload hx hb dX14_encode_350 (lv_at hl 1 rfl) ?_
                        refine lv_lneg hx hb dX14_encode_352 ?_
                        refine lv_ldc2 hx hb hown (tb_use hT tw_1857) dX14_encode_353 ?_
                        refine lv_ldiv hx hb dX14_encode_356 (by decide) ?_
                        refine lv_topl (fun x77 ex77 => ?_)
                        have hlo : -enL f10 / 2 = x77 := by rw [hll]; exact ex77.symm
                        refine W.lcmp hx hb dX14_encode_357 ?_
                        refine lv_if_lt (tgt := 391) hx hb dX14_encode_358 (by decide) (fun c_358 => ?_) (fun c_358 => ?_)
                        · skip
                          refine lv_iconst (v := 0) hx hb dX14_encode_391 (by decide) ?_
                          have hzz : enM f10 f11 f12 f13 f14 xv = noR := by rw [enM, if_pos c_73, if_neg c_91, if_neg (fun z => c_99 ((lg_cmp_gt _ _).mpr z)), if_neg (Int64.not_lt.mpr ((lg_cmp_ge _ _).mp c_107)), if_neg (by rw [hof, hfa]; exact fun z => c_213 ((lg_cmp_gt _ _).mpr z)), if_neg (by rw [hof, hfa]; exact Int64.not_lt.mpr ((lg_cmp_ge _ _).mp c_222)), if_pos (by rw [hrmd]; exact (lg_cmp_eq _ _).mp c_269), hqq, enG, if_pos c_333, if_pos (by rw [hlo]; exact (lg_cmp_lt _ _).mp c_358)]
                          have hans : (0 : Int32) = enR v9 iv jv xv := by rw [hR9, if_pos hzz]
                          exact W.iret (v := 0) hx hb hr (fun t ht hW => ⟨⟨_, _, rfl, ⟨I1, F, L, hM, hF, (fun j h1 h2 => by rw [eI1, pk_un h1]), (by rw [eI1, pk_us]), ⟨sl9, (by omega), (by rw [eI1, pk_un (by decide)]; exact h68)⟩, (fun _ _ => rfl), (fun _ _ _ => rfl), hans, (fun _ => ⟨by rw [eI1, pk_un (by decide)], rfl, rfl⟩), (fun y k hy hk hn => by rw [hsp] at hy; rw [← Option.some.inj hy] at hk; exact absurd (by rw [← Option.some.inj (hc9.symm.trans hk)]; exact hen.trans hzz) hn)⟩, mk_end hG ht⟩, hS.F ht⟩) hS.2.2 dX14_encode_392
                        · skip
                          refine lv_lload hx hb dX14_encode_361 (lv_at hl 2 rfl) ?_
                          refine lv_lload hx hb dX14_encode_363 (lv_at hl 1 rfl) ?_
                          refine lv_ldc2 hx hb hown (tb_use hT tw_1857) dX14_encode_365 ?_
                          refine lv_ldiv hx hb dX14_encode_368 (by decide) ?_
                          refine lv_topl (fun x79 ex79 => ?_)
                          have hhi : enL f10 / 2 = x79 := by rw [hll]; exact ex79.symm
                          refine W.lcmp hx hb dX14_encode_369 ?_
                          refine lv_if_lt (tgt := 393) hx hb dX14_encode_370 (by decide) (fun c_370 => ?_) (fun c_370 => ?_)
                          · skip
                            refine lv_aload_n hx hb dX14_encode_393 rfl (lv_at hl 6 rfl) ?_
                            refine mm_get (v := .ref (Ar 70)) hx hb hf_X14 (fun _ h9 => h9) hown hK hG hM.1 rfl 70 (by decide) (tb_use hT tw_1461) (fun _ h9 => h9) (mfs_g70 _ _) dX14_encode_394 ?_
                            refine lv_iload hx hb dX14_encode_397 (lv_at hl 5 rfl) ?_
                            refine lv_lload hx hb dX14_encode_399 (lv_at hl 2 rfl) ?_
                            refine mm_last (n := mdN 70) (f := L 70) hx hb hK hG hS 2 (hM.2.2.1 70 rfl) rfl (nI_in (N := mdN 70) (by show _ < 128; omega) (by decide)) dX14_encode_401 (fun H locs hG hS => ?_)
                            have hM := MD.setj (k := 70) (vp_updL (L 70) (nI (8 * s9 + i9)).toNatClampNeg x61) hM rfl
                            have hF := hF.wa (k := 70) (e' := .inl (cy 2, mdN 70, .inr (.inl (vp_updL (L 70) (nI (8 * s9 + i9)).toNatClampNeg x61)))) rfl
                            obtain ⟨L81, eL81⟩ : ∃ g, g = va_up L 70 (vp_updL (L 70) (nI (8 * s9 + i9)).toNatClampNeg x61) := ⟨_, rfl⟩
                            rw [← eL81] at hM
                            have hgn := gn_MD hG hM hF
                            clear hG hM hF
                            obtain ⟨G82, hG, hM, hF⟩ := hgn
                            refine lv_aload_n hx hb dX14_encode_402 rfl (lv_at hl 6 rfl) ?_
                            refine mm_get (v := .ref (Ar 67)) hx hb hf_X14 (fun _ h9 => h9) hown hK hG hM.1 rfl 67 (by decide) (tb_use hT tw_1458) (fun _ h9 => h9) (mfs_g67 _ _) dX14_encode_403 ?_
                            refine lv_iconst (v := 0) hx hb dX14_encode_406 (by decide) ?_
                            refine lv_aload_n hx hb dX14_encode_407 rfl (lv_at hl 6 rfl) ?_
                            refine mm_get (v := .ref (Ar 21)) hx hb hf_X14 (fun _ h9 => h9) hown hK hG hM.1 rfl 21 (by decide) (tb_use hT tw_1412) (fun _ h9 => h9) (mfs_g21 _ _) dX14_encode_408 ?_
                            refine lv_bipush (v := 16) hx hb dX14_encode_411 (by decide) ?_
                            refine lv_aload_n hx hb dX14_encode_413 rfl (lv_at hl 6 rfl) ?_
                            refine mm_get (v := .int (Iv 42)) hx hb hf_X14 (fun _ h9 => h9) hown hK hG hM.1 rfl 42 (by decide) (tb_use hT tw_1433) (fun _ h9 => h9) (by rw [mfs_g42, eI1] <;> rfl) dX14_encode_414 ?_
                            rw [show (Iv 42) = nI b9 from hbk]
                            refine lv_imul hx hb dX14_encode_417 ?_
                            refine lv_iload_n hx hb dX14_encode_418 rfl (lv_at hl 7 rfl) ?_
                            refine lv_iadd hx hb dX14_encode_419 ?_
                            refine lv_iconst (v := 1) hx hb dX14_encode_420 (by decide) ?_
                            refine lv_isub hx hb dX14_encode_421 ?_
                            rw [show (((16 * (nI b9)) + iv) - 1) = nI (16 * b9 + s9) by rw [hxs, show (16 : Int32) * nI b9 + nI (s9 + 1) = nI (16 * b9 + (s9 + 1)) from nI_ma 16 b9 (s9 + 1)]; exact nI_pred (16 * b9 + s9)]
                            refine mm_iald (n := 32) (f := F 21) hx hb hK hG 1 (hM.2.1 21 rfl) rfl (nI_in (N := 32) (by omega) (by decide)) dX14_encode_422 ?_
                            refine lv_topi (fun x83 ex83 => ?_)
                            refine lv_bipush (v := 64) hx hb dX14_encode_423 (by decide) ?_
                            refine lv_iadd hx hb dX14_encode_425 ?_
                            refine lv_topi (fun x84 ex84 => ?_)
                            refine mm_iast (n := mdN 67) (f := F 67) hx hb hK hG hS 1 (hM.2.1 67 rfl) rfl (nI_in (c := 0) (N := mdN 67) (by decide) (by decide)) dX14_encode_426 (fun H locs hG hS => ?_)
                            have hM := MD.seti (k := 67) (upd (F 67) (0 : Int32).toNatClampNeg x84) hM rfl
                            have hF := hF.wa (k := 67) (e' := .inl (cy 1, mdN 67, .inl (upd (F 67) (0 : Int32).toNatClampNeg x84))) rfl
                            obtain ⟨F85, eF85⟩ : ∃ g, g = va_up F 67 (upd (F 67) (0 : Int32).toNatClampNeg x84) := ⟨_, rfl⟩
                            rw [← eF85] at hM
                            have hgn := gn_MD hG hM hF
                            clear hG hM hF
                            obtain ⟨G86, hG, hM, hF⟩ := hgn
                            refine lv_aload_n hx hb dX14_encode_427 rfl (lv_at hl 6 rfl) ?_
                            refine lv_aload_n hx hb dX14_encode_428 rfl (lv_at hl 6 rfl) ?_
                            refine lv_iload_n hx hb dX14_encode_429 rfl (lv_at hl 7 rfl) ?_
                            refine lv_iconst (v := 1) hx hb dX14_encode_430 (by decide) ?_
                            refine lv_isub hx hb dX14_encode_431 ?_
                            rw [show iv - 1 = nI s9 by rw [hxs]; exact nI_pred s9]
                            refine lv_aload_n hx hb dX14_encode_432 rfl (lv_at hl 6 rfl) ?_
                            refine mm_get (v := .ref (Ar 67)) hx hb hf_X14 (fun _ h9 => h9) hown hK hG hM.1 rfl 67 (by decide) (tb_use hT tw_1458) (fun _ h9 => h9) (mfs_g67 _ _) dX14_encode_433 ?_
                            refine lv_bipush (v := 64) hx hb dX14_encode_436 (by decide) ?_
                            refine lv_iconst (v := 1) hx hb dX14_encode_438 (by decide) ?_
                            have hB8 : BK (tkK ft en) (tkV ft en) n9 F85 b9 v9 := ⟨hB.1.mv (Nat.le_refl _) (fun k i hk => by rw [eF85, va_up_ne _ _ (by omega)]) rfl rfl rfl rfl, hB.2.1.mv (Nat.le_refl _) (fun k i hk => by rw [eF85, va_up_ne _ _ (by omega)]) rfl rfl, hB.2.2.1.mv (Nat.le_refl _) (fun k i hk => by rw [eF85, va_up_ne _ _ (by omega)]) rfl rfl rfl rfl, hB.2.2.2.1.mv (Nat.le_refl _) (fun k i hk => by rw [eF85, va_up_ne _ _ (by omega)]) rfl rfl, hB.2.2.2.2.1.mv (Nat.le_refl _) (fun k i hk => by rw [eF85, va_up_ne _ _ (by omega)]) rfl rfl, hB.2.2.2.2.2.mv (Nat.le_refl _) (fun k i hk => by rw [eF85, va_up_ne _ _ (by omega)]) rfl rfl rfl rfl⟩
                            have hzz : enM f10 f11 f12 f13 f14 xv = x61 := by rw [enM, if_pos c_73, if_neg c_91, if_neg (fun z => c_99 ((lg_cmp_gt _ _).mpr z)), if_neg (Int64.not_lt.mpr ((lg_cmp_ge _ _).mp c_107)), if_neg (by rw [hof, hfa]; exact fun z => c_213 ((lg_cmp_gt _ _).mpr z)), if_neg (by rw [hof, hfa]; exact Int64.not_lt.mpr ((lg_cmp_ge _ _).mp c_222)), if_pos (by rw [hrmd]; exact (lg_cmp_eq _ _).mp c_269), hqq, enG, if_pos c_333, if_neg (by rw [hlo]; exact fun z => c_358 ((lg_cmp_lt _ _).mpr z)), if_pos (by rw [hhi]; exact (lg_cmp_lt _ _).mp c_370)]
                            have hew : enW v9 c9 xv = x61 := hen.trans hzz
                            have hrm0 : ∀ i, i < v9.nP s9 → (enP (P9 s9) i9 (enW v9 c9 xv) i).2.2.2 = L81 70 (8 * s9 + i) := fun i hi => by
                              unfold enP
                              rw [eL81, va_up_self, nI_clamp (by omega)]
                              by_cases y : i = i9
                              · rw [y, up1_eq, pk_uLs]; exact hew
                              · rw [up1_ne y, pk_uLn (by omega)]; exact hrm s9 hs9 i hi
                            have hf0 : upd so 0 (vp_nar .byte (((v9.S s9).2.2.2 + 64).toInt8.toInt32)) 0 &&& 255 = F85 67 0 &&& 255 := by rw [pk_us, nar_255, eF85, va_up_self]; show _ = upd (F 67) 0 x84 0 &&& 255; rw [pk_us, ex84, ex83, nI_clamp (by omega), (hB.2.2.1.2.2 s9 hs9).2.1]
                            refine va_calli (va_runV (As := [.int (nI s9), .ref (Ar 67), .int 64, .int 1]) (rest := [.ref o]) ⟨hx, hb, hml, hown, (fun _ h9 => absurd h9 List.not_mem_nil : ∀ w ∈ ([] : List Cond), w.before _ s = true)⟩ (c_M_findS l D cy A X hst hXT G86 o Ar I1 F85 L81 ft en b9 n9 v9 s9 (enP (P9 s9) i9 (enW v9 c9 xv)) (upd so 0 (vp_nar .byte (((v9.S s9).2.2.2 + 64).toInt8.toInt32))) hM hB8 hVL hWd hn30 hb9 (by rw [eI1]; exact hbk) hs9 hrm0 hf0) (tb_cw (C := RX14) 4 hT tw_1832 tw_109 tw_1829 tw_1831 tw_96 rfl rfl hq_X14_find ⟨Nat.le_of_ble_eq_true rfl, Nat.le_of_ble_eq_true rfl⟩) (mk_preC hst hG hK hA hX hS vc_15 hM.1) rfl rfl hl.1 rfl (lv_room (Nat.le_of_ble_eq_true rfl)) dX14_encode_439 ⟨Nat.le_of_ble_eq_true rfl, Nat.le_of_ble_eq_true rfl⟩) hS (fun q _ h => h) (fun q h => h) (fun r87 G88 t H locs ht hvm hw hB hz1 hk1 hS => ?_)
                            have hG : mm D vwCl A G88 H := by rw [← ht]; exact hB
                            clear hB hz1 hk1 hvm ht
                            obtain ⟨k9, F9, L9, er87, hk1, hk64, hM2, hF2, hf9, hL9, hmk1, hmk2⟩ := hw
                            replace hF := hF.tr hF2; replace hM := hM2; clear hM2 hF2
                            refine mm_put (v := .int r87) (ty := .int) hx hb hf_X14 (fun _ h9 => h9) tyX14 tyX14_ok nmX14 hown hK hG hS hM.1 rfl 68 (by decide) (tb_use hT tw_1459) (fun _ h9 => h9) rfl (by decide +kernel) rfl rfl (mfs_l68 _ _) dX14_encode_442 (fun H locs hG hS => ?_)
                            have hM := MD.puti (k := 68) (v := r87) hM (mfs_s68 _ _ _)
                            have hF := hF.wo (e' := .inr (15, (mfs Ar I1).set 68 (.int r87)))
                            obtain ⟨I89, eI89⟩ : ∃ g, g = upd I1 68 r87 := ⟨_, rfl⟩
                            rw [← eI89] at hM
                            have hgn := gn_MD hG hM hF
                            clear hG hM hF
                            obtain ⟨G90, hG, hM, hF⟩ := hgn
                            refine lv_iconst (v := 1) hx hb dX14_encode_445 (by decide) ?_
                            have hans : (1 : Int32) = enR v9 iv jv xv := by rw [hR9, if_neg (by rw [hzz]; exact enG_ne hwd.2.1 hwd.2.2 (Or.inl (by rw [← h10, hlo]; exact fun z => c_358 ((lg_cmp_lt _ _).mpr z))))]
                            have hs70 : L9 70 = vp_updL (L 70) (8 * s9 + i9) (enW v9 c9 xv) := by rw [hL9 70 (by decide), eL81, va_up_self, nI_clamp (by omega), hew]
                            have hs68 : I89 68 = nI (maF v9 s9 (enP (P9 s9) i9 (enW v9 c9 xv)) so).2.1 := by rw [eI89, pk_us, er87, ← hmk1]; rfl
                            have hsj : JS (maF v9 s9 (enP (P9 s9) i9 (enW v9 c9 xv)) so).2 (maF v9 s9 (enP (P9 s9) i9 (enW v9 c9 xv)) so).2.1 (F9 67) := ⟨rfl, (show _ ≤ 64 from Nat.le_trans (Nat.le_of_eq hmk1) hk64), (fun i hi => hmk2 i (Nat.lt_of_lt_of_eq hi hmk1))⟩
                            exact W.iret (v := 1) hx hb hr (fun t ht hW => ⟨⟨_, _, rfl, ⟨I89, F9, L9, hM, hF, (fun j h1 h2 => by rw [eI89, pk_un h2, eI1, pk_un h1]), (by rw [eI89, pk_un (by decide), eI1, pk_us]), ⟨k9, hk64, (by rw [eI89, pk_us]; exact er87)⟩, (fun j hj => by rw [hf9 j hj, eF85, va_up_ne _ _ (by omega)]), (fun j h1 h2 => by rw [hL9 j h2, eL81, va_up_ne _ _ h1]), hans, (fun z => absurd rfl z), (fun y k hy hk hn => by rw [hsp] at hy; rw [← Option.some.inj hy] at hk ⊢; rw [← Option.some.inj (hc9.symm.trans hk)]; exact ⟨hs70, hs68, hsj⟩)⟩, mk_end hG ht⟩, hS.F ht⟩) hS.2.2 dX14_encode_446
                          · skip
                            refine lv_goto (tgt := 391) hx hb dX14_encode_373 (by decide) ?_
                            refine lv_iconst (v := 0) hx hb dX14_encode_391 (by decide) ?_
                            have hzz : enM f10 f11 f12 f13 f14 xv = noR := by rw [enM, if_pos c_73, if_neg c_91, if_neg (fun z => c_99 ((lg_cmp_gt _ _).mpr z)), if_neg (Int64.not_lt.mpr ((lg_cmp_ge _ _).mp c_107)), if_neg (by rw [hof, hfa]; exact fun z => c_213 ((lg_cmp_gt _ _).mpr z)), if_neg (by rw [hof, hfa]; exact Int64.not_lt.mpr ((lg_cmp_ge _ _).mp c_222)), if_pos (by rw [hrmd]; exact (lg_cmp_eq _ _).mp c_269), hqq, enG, if_pos c_333, if_neg (by rw [hlo]; exact fun z => c_358 ((lg_cmp_lt _ _).mpr z)), if_neg (by rw [hhi]; exact fun z => c_370 ((lg_cmp_lt _ _).mpr z))]
                            have hans : (0 : Int32) = enR v9 iv jv xv := by rw [hR9, if_pos hzz]
                            exact W.iret (v := 0) hx hb hr (fun t ht hW => ⟨⟨_, _, rfl, ⟨I1, F, L, hM, hF, (fun j h1 h2 => by rw [eI1, pk_un h1]), (by rw [eI1, pk_us]), ⟨sl9, (by omega), (by rw [eI1, pk_un (by decide)]; exact h68)⟩, (fun _ _ => rfl), (fun _ _ _ => rfl), hans, (fun _ => ⟨by rw [eI1, pk_un (by decide)], rfl, rfl⟩), (fun y k hy hk hn => by rw [hsp] at hy; rw [← Option.some.inj hy] at hk; exact absurd (by rw [← Option.some.inj (hc9.symm.trans hk)]; exact hen.trans hzz) hn)⟩, mk_end hG ht⟩, hS.F ht⟩) hS.2.2 dX14_encode_392
                  · skip
                    refine lv_iconst (v := 0) hx hb dX14_encode_272 (by decide) ?_
                    have hzz : enM f10 f11 f12 f13 f14 xv = noR := by rw [enM, if_pos c_73, if_neg c_91, if_neg (fun z => c_99 ((lg_cmp_gt _ _).mpr z)), if_neg (Int64.not_lt.mpr ((lg_cmp_ge _ _).mp c_107)), if_neg (by rw [hof, hfa]; exact fun z => c_213 ((lg_cmp_gt _ _).mpr z)), if_neg (by rw [hof, hfa]; exact Int64.not_lt.mpr ((lg_cmp_ge _ _).mp c_222)), if_neg (by rw [hrmd]; exact fun z => c_269 ((lg_cmp_eq _ _).mpr z))]
                    have hans : (0 : Int32) = enR v9 iv jv xv := by rw [hR9, if_pos hzz]
                    exact W.iret (v := 0) hx hb hr (fun t ht hW => ⟨⟨_, _, rfl, ⟨I1, F, L, hM, hF, (fun j h1 h2 => by rw [eI1, pk_un h1]), (by rw [eI1, pk_us]), ⟨sl9, (by omega), (by rw [eI1, pk_un (by decide)]; exact h68)⟩, (fun _ _ => rfl), (fun _ _ _ => rfl), hans, (fun _ => ⟨by rw [eI1, pk_un (by decide)], rfl, rfl⟩), (fun y k hy hk hn => by rw [hsp] at hy; rw [← Option.some.inj hy] at hk; exact absurd (by rw [← Option.some.inj (hc9.symm.trans hk)]; exact hen.trans hzz) hn)⟩, mk_end hG ht⟩, hS.F ht⟩) hS.2.2 dX14_encode_273
                · skip
                  refine lv_iconst (v := 0) hx hb dX14_encode_225 (by decide) ?_
                  have hzz : enM f10 f11 f12 f13 f14 xv = noR := by rw [enM, if_pos c_73, if_neg c_91, if_neg (fun z => c_99 ((lg_cmp_gt _ _).mpr z)), if_neg (Int64.not_lt.mpr ((lg_cmp_ge _ _).mp c_107)), if_neg (by rw [hof, hfa]; exact fun z => c_213 ((lg_cmp_gt _ _).mpr z)), if_pos (by rw [hof, hfa]; exact Int64.not_le.mp (fun z => c_222 ((lg_cmp_ge _ _).mpr z)))]
                  have hans : (0 : Int32) = enR v9 iv jv xv := by rw [hR9, if_pos hzz]
                  exact W.iret (v := 0) hx hb hr (fun t ht hW => ⟨⟨_, _, rfl, ⟨I1, F, L, hM, hF, (fun j h1 h2 => by rw [eI1, pk_un h1]), (by rw [eI1, pk_us]), ⟨sl9, (by omega), (by rw [eI1, pk_un (by decide)]; exact h68)⟩, (fun _ _ => rfl), (fun _ _ _ => rfl), hans, (fun _ => ⟨by rw [eI1, pk_un (by decide)], rfl, rfl⟩), (fun y k hy hk hn => by rw [hsp] at hy; rw [← Option.some.inj hy] at hk; exact absurd (by rw [← Option.some.inj (hc9.symm.trans hk)]; exact hen.trans hzz) hn)⟩, mk_end hG ht⟩, hS.F ht⟩) hS.2.2 dX14_encode_226
            · skip
              refine lv_aload_n hx hb dX14_encode_153 rfl (lv_at hl 4 rfl) ?_
              refine mm_get (v := .ref (Ar 12)) hx hb hf_X14 (fun _ h9 => h9) hown hK hG hM.1 rfl 12 (by decide) (tb_use hT tw_1403) (fun _ h9 => h9) (mfs_g12 _ _) dX14_encode_154 ?_
              refine lv_bipush (v := 12) hx hb dX14_encode_157 (by decide) ?_
              refine lv_aload_n hx hb dX14_encode_159 rfl (lv_at hl 4 rfl) ?_
              refine mm_get (v := .int (Iv 42)) hx hb hf_X14 (fun _ h9 => h9) hown hK hG hM.1 rfl 42 (by decide) (tb_use hT tw_1433) (fun _ h9 => h9) (by rw [mfs_g42, eI1] <;> rfl) dX14_encode_160 ?_
              rw [show (Iv 42) = nI b9 from hbk]
              refine lv_imul hx hb dX14_encode_163 ?_
              refine lv_iload hx hb dX14_encode_164 (lv_at hl 2 rfl) ?_
              refine lv_iadd hx hb dX14_encode_166 ?_
              refine mm_iald (n := 24) (f := F 12) hx hb hK hG 1 (hM.2.1 12 rfl) rfl (by rw [show (12 : Int32) * nI b9 + nI c9 = nI (12 * b9 + c9) from nI_ma 12 b9 c9]; exact nI_in (N := 24) (by omega) (by decide)) dX14_encode_167 ?_
              refine lv_topi (fun x91 ex91 => ?_)
              rw [show x91 = f12 by rw [ex91, show (12 : Int32) * nI b9 + nI c9 = nI (12 * b9 + c9) from nI_ma 12 b9 c9, nI_clamp (by omega)]; exact ef12]
              refine lv_ineg hx hb dX14_encode_168 ?_
              refine lv_goto (tgt := 187) hx hb dX14_encode_169 (by decide) ?_
              obtain ⟨x92, ex92⟩ : ∃ y, y = ((-f12) : Int32).toInt64 := ⟨_, rfl⟩
              refine lv_i2l (v := x92) hx hb dX14_encode_187 ex92.symm ?_
              refine lv_lmul hx hb dX14_encode_188 ?_
              refine lv_aload_n hx hb dX14_encode_189 rfl (lv_at hl 4 rfl) ?_
              refine mm_get (v := .ref (Ar 13)) hx hb hf_X14 (fun _ h9 => h9) hown hK hG hM.1 rfl 13 (by decide) (tb_use hT tw_1404) (fun _ h9 => h9) (mfs_g13 _ _) dX14_encode_190 ?_
              refine lv_bipush (v := 12) hx hb dX14_encode_193 (by decide) ?_
              refine lv_aload_n hx hb dX14_encode_195 rfl (lv_at hl 4 rfl) ?_
              refine mm_get (v := .int (Iv 42)) hx hb hf_X14 (fun _ h9 => h9) hown hK hG hM.1 rfl 42 (by decide) (tb_use hT tw_1433) (fun _ h9 => h9) (by rw [mfs_g42, eI1] <;> rfl) dX14_encode_196 ?_
              rw [show (Iv 42) = nI b9 from hbk]
              refine lv_imul hx hb dX14_encode_199 ?_
              refine lv_iload hx hb dX14_encode_200 (lv_at hl 2 rfl) ?_
              refine lv_iadd hx hb dX14_encode_202 ?_
              refine mm_iald (n := 24) (f := F 13) hx hb hK hG 1 (hM.2.1 13 rfl) rfl (by rw [show (12 : Int32) * nI b9 + nI c9 = nI (12 * b9 + c9) from nI_ma 12 b9 c9]; exact nI_in (N := 24) (by omega) (by decide)) dX14_encode_203 ?_
              refine lv_topi (fun x93 ex93 => ?_)
              rw [show x93 = f13 by rw [ex93, show (12 : Int32) * nI b9 + nI c9 = nI (12 * b9 + c9) from nI_ma 12 b9 c9, nI_clamp (by omega)]; exact ef13]
              obtain ⟨x94, ex94⟩ : ∃ y, y = (f13 : Int32).toInt64 := ⟨_, rfl⟩
              refine lv_i2l (v := x94) hx hb dX14_encode_204 ex94.symm ?_
              have hz_x94 : ¬ x94 = 0 := by rw [ex94]; exact hdn
              refine lv_ldiv hx hb dX14_encode_205 (by assumption) ?_
              refine lv_topl (fun x95 ex95 => ?_)
              have hfa : enA f12 f13 = x95 := by rw [enA, if_pos (Int32.not_le.mp c_150), ex95, ex92, ex94]
              refine lv_lstore (lv' := [(11, .long x95), (9, .long x43), (7, .long xv), (6, .int (nI c9)), (5, .int (nI (8 * s9 + i9))), (0, .ref o), (1, .int iv), (2, .int jv), (3, .long xv)]) hx hb dX14_encode_206 hl (by decide) rfl (fun ls hl => ?_)
              refine lv_lload hx hb dX14_encode_208 (lv_at hl 1 rfl) ?_
              refine lv_lload hx hb dX14_encode_210 (lv_at hl 0 rfl) ?_
              refine W.lcmp hx hb dX14_encode_212 ?_
              refine lv_if_gt (tgt := 225) hx hb dX14_encode_213 (by decide) (fun c_213 => ?_) (fun c_213 => ?_)
              · skip
                refine lv_iconst (v := 0) hx hb dX14_encode_225 (by decide) ?_
                have hzz : enM f10 f11 f12 f13 f14 xv = noR := by rw [enM, if_pos c_73, if_neg c_91, if_neg (fun z => c_99 ((lg_cmp_gt _ _).mpr z)), if_neg (Int64.not_lt.mpr ((lg_cmp_ge _ _).mp c_107)), if_pos (by rw [hof, hfa]; exact (lg_cmp_gt _ _).mp c_213)]
                have hans : (0 : Int32) = enR v9 iv jv xv := by rw [hR9, if_pos hzz]
                exact W.iret (v := 0) hx hb hr (fun t ht hW => ⟨⟨_, _, rfl, ⟨I1, F, L, hM, hF, (fun j h1 h2 => by rw [eI1, pk_un h1]), (by rw [eI1, pk_us]), ⟨sl9, (by omega), (by rw [eI1, pk_un (by decide)]; exact h68)⟩, (fun _ _ => rfl), (fun _ _ _ => rfl), hans, (fun _ => ⟨by rw [eI1, pk_un (by decide)], rfl, rfl⟩), (fun y k hy hk hn => by rw [hsp] at hy; rw [← Option.some.inj hy] at hk; exact absurd (by rw [← Option.some.inj (hc9.symm.trans hk)]; exact hen.trans hzz) hn)⟩, mk_end hG ht⟩, hS.F ht⟩) hS.2.2 dX14_encode_226
              · skip
                refine lv_lload hx hb dX14_encode_216 (lv_at hl 1 rfl) ?_
                refine lv_lload hx hb dX14_encode_218 (lv_at hl 0 rfl) ?_
                refine lv_lneg hx hb dX14_encode_220 ?_
                refine W.lcmp hx hb dX14_encode_221 ?_
                refine lv_if_ge (tgt := 227) hx hb dX14_encode_222 (by decide) (fun c_222 => ?_) (fun c_222 => ?_)
                · skip
                  refine lv_lload hx hb dX14_encode_227 (lv_at hl 1 rfl) ?_
                  refine lv_aload_n hx hb dX14_encode_229 rfl (lv_at hl 5 rfl) ?_
                  refine mm_get (v := .ref (Ar 13)) hx hb hf_X14 (fun _ h9 => h9) hown hK hG hM.1 rfl 13 (by decide) (tb_use hT tw_1404) (fun _ h9 => h9) (mfs_g13 _ _) dX14_encode_230 ?_
                  refine lv_bipush (v := 12) hx hb dX14_encode_233 (by decide) ?_
                  refine lv_aload_n hx hb dX14_encode_235 rfl (lv_at hl 5 rfl) ?_
                  refine mm_get (v := .int (Iv 42)) hx hb hf_X14 (fun _ h9 => h9) hown hK hG hM.1 rfl 42 (by decide) (tb_use hT tw_1433) (fun _ h9 => h9) (by rw [mfs_g42, eI1] <;> rfl) dX14_encode_236 ?_
                  rw [show (Iv 42) = nI b9 from hbk]
                  refine lv_imul hx hb dX14_encode_239 ?_
                  refine lv_iload hx hb dX14_encode_240 (lv_at hl 3 rfl) ?_
                  refine lv_iadd hx hb dX14_encode_242 ?_
                  refine mm_iald (n := 24) (f := F 13) hx hb hK hG 1 (hM.2.1 13 rfl) rfl (by rw [show (12 : Int32) * nI b9 + nI c9 = nI (12 * b9 + c9) from nI_ma 12 b9 c9]; exact nI_in (N := 24) (by omega) (by decide)) dX14_encode_243 ?_
                  refine lv_topi (fun x98 ex98 => ?_)
                  rw [show x98 = f13 by rw [ex98, show (12 : Int32) * nI b9 + nI c9 = nI (12 * b9 + c9) from nI_ma 12 b9 c9, nI_clamp (by omega)]; exact ef13]
                  obtain ⟨x99, ex99⟩ : ∃ y, y = (f13 : Int32).toInt64 := ⟨_, rfl⟩
                  refine lv_i2l (v := x99) hx hb dX14_encode_244 ex99.symm ?_
                  refine lv_lmul hx hb dX14_encode_245 ?_
                  refine lv_topl (fun x100 ex100 => ?_)
                  refine lv_lstore (lv' := [(13, .long x100), (11, .long x95), (9, .long x43), (7, .long xv), (6, .int (nI c9)), (5, .int (nI (8 * s9 + i9))), (0, .ref o), (1, .int iv), (2, .int jv), (3, .long xv)]) hx hb dX14_encode_246 hl (by decide) rfl (fun ls hl => ?_)
                  have hpd : (xv - f14.toInt64) * f13.toInt64 = x100 := by rw [hof, ex100, ex99]
                  refine lv_lload hx hb dX14_encode_248 (lv_at hl 0 rfl) ?_
                  refine lv_aload_n hx hb dX14_encode_250 rfl (lv_at hl 6 rfl) ?_
                  refine mm_get (v := .ref (Ar 12)) hx hb hf_X14 (fun _ h9 => h9) hown hK hG hM.1 rfl 12 (by decide) (tb_use hT tw_1403) (fun _ h9 => h9) (mfs_g12 _ _) dX14_encode_251 ?_
                  refine lv_bipush (v := 12) hx hb dX14_encode_254 (by decide) ?_
                  refine lv_aload_n hx hb dX14_encode_256 rfl (lv_at hl 6 rfl) ?_
                  refine mm_get (v := .int (Iv 42)) hx hb hf_X14 (fun _ h9 => h9) hown hK hG hM.1 rfl 42 (by decide) (tb_use hT tw_1433) (fun _ h9 => h9) (by rw [mfs_g42, eI1] <;> rfl) dX14_encode_257 ?_
                  rw [show (Iv 42) = nI b9 from hbk]
                  refine lv_imul hx hb dX14_encode_260 ?_
                  refine lv_iload hx hb dX14_encode_261 (lv_at hl 4 rfl) ?_
                  refine lv_iadd hx hb dX14_encode_263 ?_
                  refine mm_iald (n := 24) (f := F 12) hx hb hK hG 1 (hM.2.1 12 rfl) rfl (by rw [show (12 : Int32) * nI b9 + nI c9 = nI (12 * b9 + c9) from nI_ma 12 b9 c9]; exact nI_in (N := 24) (by omega) (by decide)) dX14_encode_264 ?_
                  refine lv_topi (fun x101 ex101 => ?_)
                  rw [show x101 = f12 by rw [ex101, show (12 : Int32) * nI b9 + nI c9 = nI (12 * b9 + c9) from nI_ma 12 b9 c9, nI_clamp (by omega)]; exact ef12]
                  obtain ⟨x102, ex102⟩ : ∃ y, y = (f12 : Int32).toInt64 := ⟨_, rfl⟩
                  refine lv_i2l (v := x102) hx hb dX14_encode_265 ex102.symm ?_
                  have hz_x102 : ¬ x102 = 0 := by rw [ex102]; exact hup2
                  refine lv_lrem hx hb dX14_encode_266 (by assumption) ?_
                  refine lv_topl (fun x103 ex103 => ?_)
                  have hrmd : (xv - f14.toInt64) * f13.toInt64 - (xv - f14.toInt64) * f13.toInt64 / f12.toInt64 * f12.toInt64 = x103 := by rw [hpd, ex103, ex102]
                  refine lv_lconst (v := 0) hx hb dX14_encode_267 (by decide) ?_
                  refine W.lcmp hx hb dX14_encode_268 ?_
                  refine lv_if_eq (tgt := 274) hx hb dX14_encode_269 (by decide) (fun c_269 => ?_) (fun c_269 => ?_)
                  · skip
                    refine lv_lload hx hb dX14_encode_274 (lv_at hl 0 rfl) ?_
                    refine lv_aload_n hx hb dX14_encode_276 rfl (lv_at hl 6 rfl) ?_
                    refine mm_get (v := .ref (Ar 12)) hx hb hf_X14 (fun _ h9 => h9) hown hK hG hM.1 rfl 12 (by decide) (tb_use hT tw_1403) (fun _ h9 => h9) (mfs_g12 _ _) dX14_encode_277 ?_
                    refine lv_bipush (v := 12) hx hb dX14_encode_280 (by decide) ?_
                    refine lv_aload_n hx hb dX14_encode_282 rfl (lv_at hl 6 rfl) ?_
                    refine mm_get (v := .int (Iv 42)) hx hb hf_X14 (fun _ h9 => h9) hown hK hG hM.1 rfl 42 (by decide) (tb_use hT tw_1433) (fun _ h9 => h9) (by rw [mfs_g42, eI1] <;> rfl) dX14_encode_283 ?_
                    rw [show (Iv 42) = nI b9 from hbk]
                    refine lv_imul hx hb dX14_encode_286 ?_
                    refine lv_iload hx hb dX14_encode_287 (lv_at hl 4 rfl) ?_
                    refine lv_iadd hx hb dX14_encode_289 ?_
                    refine mm_iald (n := 24) (f := F 12) hx hb hK hG 1 (hM.2.1 12 rfl) rfl (by rw [show (12 : Int32) * nI b9 + nI c9 = nI (12 * b9 + c9) from nI_ma 12 b9 c9]; exact nI_in (N := 24) (by omega) (by decide)) dX14_encode_290 ?_
                    refine lv_topi (fun x105 ex105 => ?_)
                    rw [show x105 = f12 by rw [ex105, show (12 : Int32) * nI b9 + nI c9 = nI (12 * b9 + c9) from nI_ma 12 b9 c9, nI_clamp (by omega)]; exact ef12]
                    obtain ⟨x106, ex106⟩ : ∃ y, y = (f12 : Int32).toInt64 := ⟨_, rfl⟩
                    refine lv_i2l (v := x106) hx hb dX14_encode_291 ex106.symm ?_
                    have hz_x106 : ¬ x106 = 0 := by rw [ex106]; exact hup2
                    refine lv_ldiv hx hb dX14_encode_292 (by assumption) ?_
                    refine lv_topl (fun x107 ex107 => ?_)
                    have hqq : (xv - f14.toInt64) * f13.toInt64 / f12.toInt64 = x107 := by rw [hpd, ex107, ex106]
                    refine lv_lstore (lv' := [(7, .long x107), (13, .long x100), (11, .long x95), (9, .long x43), (6, .int (nI c9)), (5, .int (nI (8 * s9 + i9))), (0, .ref o), (1, .int iv), (2, .int jv), (3, .long xv)]) hx hb dX14_encode_293 hl (by decide) rfl (fun ls hl => ?_)
                    refine lv_lconst (v := 1) hx hb dX14_encode_295 (by decide) ?_
                    refine lv_bipush (v := 8) hx hb dX14_encode_296 (by decide) ?_
                    refine lv_aload_n hx hb dX14_encode_298 rfl (lv_at hl 6 rfl) ?_
                    refine mm_get (v := .ref (Ar 10)) hx hb hf_X14 (fun _ h9 => h9) hown hK hG hM.1 rfl 10 (by decide) (tb_use hT tw_1401) (fun _ h9 => h9) (mfs_g10 _ _) dX14_encode_299 ?_
                    refine lv_bipush (v := 12) hx hb dX14_encode_302 (by decide) ?_
                    refine lv_aload_n hx hb dX14_encode_304 rfl (lv_at hl 6 rfl) ?_
                    refine mm_get (v := .int (Iv 42)) hx hb hf_X14 (fun _ h9 => h9) hown hK hG hM.1 rfl 42 (by decide) (tb_use hT tw_1433) (fun _ h9 => h9) (by rw [mfs_g42, eI1] <;> rfl) dX14_encode_305 ?_
                    rw [show (Iv 42) = nI b9 from hbk]
                    refine lv_imul hx hb dX14_encode_308 ?_
                    refine lv_iload hx hb dX14_encode_309 (lv_at hl 4 rfl) ?_
                    refine lv_iadd hx hb dX14_encode_311 ?_
                    refine mm_iald (n := 24) (f := F 10) hx hb hK hG 1 (hM.2.1 10 rfl) rfl (by rw [show (12 : Int32) * nI b9 + nI c9 = nI (12 * b9 + c9) from nI_ma 12 b9 c9]; exact nI_in (N := 24) (by omega) (by decide)) dX14_encode_312 ?_
                    refine lv_topi (fun x108 ex108 => ?_)
                    rw [show x108 = f10 by rw [ex108, show (12 : Int32) * nI b9 + nI c9 = nI (12 * b9 + c9) from nI_ma 12 b9 c9, nI_clamp (by omega)]; exact ef10]
                    refine lv_imul hx hb dX14_encode_313 ?_
                    obtain ⟨x109, ex109⟩ : ∃ y, y = (1 : Int64) <<< (((8 * f10) : Int32).toInt64 &&& 63) := ⟨_, rfl⟩
                    refine lv_lshl (v := x109) hx hb dX14_encode_314 ex109.symm ?_
                    have hll : enL f10 = x109 := ex109.symm
                    refine lv_lstore (lv' := [(9, .long x109), (7, .long x107), (13, .long x100), (11, .long x95), (6, .int (nI c9)), (5, .int (nI (8 * s9 + i9))), (0, .ref o), (1, .int iv), (2, .int jv), (3, .long xv)]) hx hb dX14_encode_315 hl (by decide) rfl (fun ls hl => ?_)
                    refine lv_aload_n hx hb dX14_encode_317 rfl (lv_at hl 6 rfl) ?_
                    refine mm_get (v := .ref (Ar 11)) hx hb hf_X14 (fun _ h9 => h9) hown hK hG hM.1 rfl 11 (by decide) (tb_use hT tw_1402) (fun _ h9 => h9) (mfs_g11 _ _) dX14_encode_318 ?_
                    refine lv_bipush (v := 12) hx hb dX14_encode_321 (by decide) ?_
                    refine lv_aload_n hx hb dX14_encode_323 rfl (lv_at hl 6 rfl) ?_
                    refine mm_get (v := .int (Iv 42)) hx hb hf_X14 (fun _ h9 => h9) hown hK hG hM.1 rfl 42 (by decide) (tb_use hT tw_1433) (fun _ h9 => h9) (by rw [mfs_g42, eI1] <;> rfl) dX14_encode_324 ?_
                    rw [show (Iv 42) = nI b9 from hbk]
                    refine lv_imul hx hb dX14_encode_327 ?_
                    refine lv_iload hx hb dX14_encode_328 (lv_at hl 4 rfl) ?_
                    refine lv_iadd hx hb dX14_encode_330 ?_
                    refine mm_iald (n := 24) (f := F 11) hx hb hK hG 1 (hM.2.1 11 rfl) rfl (by rw [show (12 : Int32) * nI b9 + nI c9 = nI (12 * b9 + c9) from nI_ma 12 b9 c9]; exact nI_in (N := 24) (by omega) (by decide)) dX14_encode_331 ?_
                    refine lv_topi (fun x110 ex110 => ?_)
                    rw [show x110 = f11 by rw [ex110, show (12 : Int32) * nI b9 + nI c9 = nI (12 * b9 + c9) from nI_ma 12 b9 c9, nI_clamp (by omega)]; exact ef11]
                    refine lv_iconst (v := 1) hx hb dX14_encode_332 (by decide) ?_
                    refine lv_icmp_ne (tgt := 340) hx hb dX14_encode_333 (by decide) (fun c_333 => ?_) (fun c_333 => ?_)
                    · skip
                      refine lv_iconst (v := 0) hx hb dX14_encode_340 (by decide) ?_
                      refine lv_istore (lv' := [(11, .int 0), (9, .long x109), (7, .long x107), (13, .long x100), (6, .int (nI c9)), (5, .int (nI (8 * s9 + i9))), (0, .ref o), (1, .int iv), (2, .int jv), (3, .long xv)]) hx hb dX14_encode_341 hl (by decide) rfl (fun ls hl => ?_)
                      refine lv_iload hx hb dX14_encode_343 (lv_at hl 0 rfl) ?_
                      refine lv_if_eq (tgt := 376) hx hb dX14_encode_345 (by decide) (fun c_345 => ?_) (fun c_345 => ?_)
                      · skip
                        refine lv_lload hx hb dX14_encode_376 (lv_at hl 2 rfl) ?_
                        refine lv_lconst (v := 0) hx hb dX14_encode_378 (by decide) ?_
                        refine W.lcmp hx hb dX14_encode_379 ?_
                        refine lv_if_lt (tgt := 391) hx hb dX14_encode_380 (by decide) (fun c_380 => ?_) (fun c_380 => ?_)
                        · skip
                          refine lv_iconst (v := 0) hx hb dX14_encode_391 (by decide) ?_
                          have hzz : enM f10 f11 f12 f13 f14 xv = noR := by rw [enM, if_pos c_73, if_neg c_91, if_neg (fun z => c_99 ((lg_cmp_gt _ _).mpr z)), if_neg (Int64.not_lt.mpr ((lg_cmp_ge _ _).mp c_107)), if_neg (by rw [hof, hfa]; exact fun z => c_213 ((lg_cmp_gt _ _).mpr z)), if_neg (by rw [hof, hfa]; exact Int64.not_lt.mpr ((lg_cmp_ge _ _).mp c_222)), if_pos (by rw [hrmd]; exact (lg_cmp_eq _ _).mp c_269), hqq, enG, if_neg c_333, if_pos ((lg_cmp_lt _ _).mp c_380)]
                          have hans : (0 : Int32) = enR v9 iv jv xv := by rw [hR9, if_pos hzz]
                          exact W.iret (v := 0) hx hb hr (fun t ht hW => ⟨⟨_, _, rfl, ⟨I1, F, L, hM, hF, (fun j h1 h2 => by rw [eI1, pk_un h1]), (by rw [eI1, pk_us]), ⟨sl9, (by omega), (by rw [eI1, pk_un (by decide)]; exact h68)⟩, (fun _ _ => rfl), (fun _ _ _ => rfl), hans, (fun _ => ⟨by rw [eI1, pk_un (by decide)], rfl, rfl⟩), (fun y k hy hk hn => by rw [hsp] at hy; rw [← Option.some.inj hy] at hk; exact absurd (by rw [← Option.some.inj (hc9.symm.trans hk)]; exact hen.trans hzz) hn)⟩, mk_end hG ht⟩, hS.F ht⟩) hS.2.2 dX14_encode_392
                        · skip
                          refine lv_lload hx hb dX14_encode_383 (lv_at hl 2 rfl) ?_
                          refine lv_lload hx hb dX14_encode_385 (lv_at hl 1 rfl) ?_
                          refine W.lcmp hx hb dX14_encode_387 ?_
                          refine lv_if_lt (tgt := 393) hx hb dX14_encode_388 (by decide) (fun c_388 => ?_) (fun c_388 => ?_)
                          · skip
                            refine lv_aload_n hx hb dX14_encode_393 rfl (lv_at hl 6 rfl) ?_
                            refine mm_get (v := .ref (Ar 70)) hx hb hf_X14 (fun _ h9 => h9) hown hK hG hM.1 rfl 70 (by decide) (tb_use hT tw_1461) (fun _ h9 => h9) (mfs_g70 _ _) dX14_encode_394 ?_
                            refine lv_iload hx hb dX14_encode_397 (lv_at hl 5 rfl) ?_
                            refine lv_lload hx hb dX14_encode_399 (lv_at hl 2 rfl) ?_
                            refine mm_last (n := mdN 70) (f := L 70) hx hb hK hG hS 2 (hM.2.2.1 70 rfl) rfl (nI_in (N := mdN 70) (by show _ < 128; omega) (by decide)) dX14_encode_401 (fun H locs hG hS => ?_)
                            have hM := MD.setj (k := 70) (vp_updL (L 70) (nI (8 * s9 + i9)).toNatClampNeg x107) hM rfl
                            have hF := hF.wa (k := 70) (e' := .inl (cy 2, mdN 70, .inr (.inl (vp_updL (L 70) (nI (8 * s9 + i9)).toNatClampNeg x107)))) rfl
                            obtain ⟨L113, eL113⟩ : ∃ g, g = va_up L 70 (vp_updL (L 70) (nI (8 * s9 + i9)).toNatClampNeg x107) := ⟨_, rfl⟩
                            rw [← eL113] at hM
                            have hgn := gn_MD hG hM hF
                            clear hG hM hF
                            obtain ⟨G114, hG, hM, hF⟩ := hgn
                            refine lv_aload_n hx hb dX14_encode_402 rfl (lv_at hl 6 rfl) ?_
                            refine mm_get (v := .ref (Ar 67)) hx hb hf_X14 (fun _ h9 => h9) hown hK hG hM.1 rfl 67 (by decide) (tb_use hT tw_1458) (fun _ h9 => h9) (mfs_g67 _ _) dX14_encode_403 ?_
                            refine lv_iconst (v := 0) hx hb dX14_encode_406 (by decide) ?_
                            refine lv_aload_n hx hb dX14_encode_407 rfl (lv_at hl 6 rfl) ?_
                            refine mm_get (v := .ref (Ar 21)) hx hb hf_X14 (fun _ h9 => h9) hown hK hG hM.1 rfl 21 (by decide) (tb_use hT tw_1412) (fun _ h9 => h9) (mfs_g21 _ _) dX14_encode_408 ?_
                            refine lv_bipush (v := 16) hx hb dX14_encode_411 (by decide) ?_
                            refine lv_aload_n hx hb dX14_encode_413 rfl (lv_at hl 6 rfl) ?_
                            refine mm_get (v := .int (Iv 42)) hx hb hf_X14 (fun _ h9 => h9) hown hK hG hM.1 rfl 42 (by decide) (tb_use hT tw_1433) (fun _ h9 => h9) (by rw [mfs_g42, eI1] <;> rfl) dX14_encode_414 ?_
                            rw [show (Iv 42) = nI b9 from hbk]
                            refine lv_imul hx hb dX14_encode_417 ?_
                            refine lv_iload_n hx hb dX14_encode_418 rfl (lv_at hl 7 rfl) ?_
                            refine lv_iadd hx hb dX14_encode_419 ?_
                            refine lv_iconst (v := 1) hx hb dX14_encode_420 (by decide) ?_
                            refine lv_isub hx hb dX14_encode_421 ?_
                            rw [show (((16 * (nI b9)) + iv) - 1) = nI (16 * b9 + s9) by rw [hxs, show (16 : Int32) * nI b9 + nI (s9 + 1) = nI (16 * b9 + (s9 + 1)) from nI_ma 16 b9 (s9 + 1)]; exact nI_pred (16 * b9 + s9)]
                            refine mm_iald (n := 32) (f := F 21) hx hb hK hG 1 (hM.2.1 21 rfl) rfl (nI_in (N := 32) (by omega) (by decide)) dX14_encode_422 ?_
                            refine lv_topi (fun x115 ex115 => ?_)
                            refine lv_bipush (v := 64) hx hb dX14_encode_423 (by decide) ?_
                            refine lv_iadd hx hb dX14_encode_425 ?_
                            refine lv_topi (fun x116 ex116 => ?_)
                            refine mm_iast (n := mdN 67) (f := F 67) hx hb hK hG hS 1 (hM.2.1 67 rfl) rfl (nI_in (c := 0) (N := mdN 67) (by decide) (by decide)) dX14_encode_426 (fun H locs hG hS => ?_)
                            have hM := MD.seti (k := 67) (upd (F 67) (0 : Int32).toNatClampNeg x116) hM rfl
                            have hF := hF.wa (k := 67) (e' := .inl (cy 1, mdN 67, .inl (upd (F 67) (0 : Int32).toNatClampNeg x116))) rfl
                            obtain ⟨F117, eF117⟩ : ∃ g, g = va_up F 67 (upd (F 67) (0 : Int32).toNatClampNeg x116) := ⟨_, rfl⟩
                            rw [← eF117] at hM
                            have hgn := gn_MD hG hM hF
                            clear hG hM hF
                            obtain ⟨G118, hG, hM, hF⟩ := hgn
                            refine lv_aload_n hx hb dX14_encode_427 rfl (lv_at hl 6 rfl) ?_
                            refine lv_aload_n hx hb dX14_encode_428 rfl (lv_at hl 6 rfl) ?_
                            refine lv_iload_n hx hb dX14_encode_429 rfl (lv_at hl 7 rfl) ?_
                            refine lv_iconst (v := 1) hx hb dX14_encode_430 (by decide) ?_
                            refine lv_isub hx hb dX14_encode_431 ?_
                            rw [show iv - 1 = nI s9 by rw [hxs]; exact nI_pred s9]
                            refine lv_aload_n hx hb dX14_encode_432 rfl (lv_at hl 6 rfl) ?_
                            refine mm_get (v := .ref (Ar 67)) hx hb hf_X14 (fun _ h9 => h9) hown hK hG hM.1 rfl 67 (by decide) (tb_use hT tw_1458) (fun _ h9 => h9) (mfs_g67 _ _) dX14_encode_433 ?_
                            refine lv_bipush (v := 64) hx hb dX14_encode_436 (by decide) ?_
                            refine lv_iconst (v := 1) hx hb dX14_encode_438 (by decide) ?_
                            have hB8 : BK (tkK ft en) (tkV ft en) n9 F117 b9 v9 := ⟨hB.1.mv (Nat.le_refl _) (fun k i hk => by rw [eF117, va_up_ne _ _ (by omega)]) rfl rfl rfl rfl, hB.2.1.mv (Nat.le_refl _) (fun k i hk => by rw [eF117, va_up_ne _ _ (by omega)]) rfl rfl, hB.2.2.1.mv (Nat.le_refl _) (fun k i hk => by rw [eF117, va_up_ne _ _ (by omega)]) rfl rfl rfl rfl, hB.2.2.2.1.mv (Nat.le_refl _) (fun k i hk => by rw [eF117, va_up_ne _ _ (by omega)]) rfl rfl, hB.2.2.2.2.1.mv (Nat.le_refl _) (fun k i hk => by rw [eF117, va_up_ne _ _ (by omega)]) rfl rfl, hB.2.2.2.2.2.mv (Nat.le_refl _) (fun k i hk => by rw [eF117, va_up_ne _ _ (by omega)]) rfl rfl rfl rfl⟩
                            have hzz : enM f10 f11 f12 f13 f14 xv = x107 := by rw [enM, if_pos c_73, if_neg c_91, if_neg (fun z => c_99 ((lg_cmp_gt _ _).mpr z)), if_neg (Int64.not_lt.mpr ((lg_cmp_ge _ _).mp c_107)), if_neg (by rw [hof, hfa]; exact fun z => c_213 ((lg_cmp_gt _ _).mpr z)), if_neg (by rw [hof, hfa]; exact Int64.not_lt.mpr ((lg_cmp_ge _ _).mp c_222)), if_pos (by rw [hrmd]; exact (lg_cmp_eq _ _).mp c_269), hqq, enG, if_neg c_333, if_neg (fun z => c_380 ((lg_cmp_lt _ _).mpr z)), if_pos (by rw [hll]; exact (lg_cmp_lt _ _).mp c_388)]
                            have hew : enW v9 c9 xv = x107 := hen.trans hzz
                            have hrm0 : ∀ i, i < v9.nP s9 → (enP (P9 s9) i9 (enW v9 c9 xv) i).2.2.2 = L113 70 (8 * s9 + i) := fun i hi => by
                              unfold enP
                              rw [eL113, va_up_self, nI_clamp (by omega)]
                              by_cases y : i = i9
                              · rw [y, up1_eq, pk_uLs]; exact hew
                              · rw [up1_ne y, pk_uLn (by omega)]; exact hrm s9 hs9 i hi
                            have hf0 : upd so 0 (vp_nar .byte (((v9.S s9).2.2.2 + 64).toInt8.toInt32)) 0 &&& 255 = F117 67 0 &&& 255 := by rw [pk_us, nar_255, eF117, va_up_self]; show _ = upd (F 67) 0 x116 0 &&& 255; rw [pk_us, ex116, ex115, nI_clamp (by omega), (hB.2.2.1.2.2 s9 hs9).2.1]
                            refine va_calli (va_runV (As := [.int (nI s9), .ref (Ar 67), .int 64, .int 1]) (rest := [.ref o]) ⟨hx, hb, hml, hown, (fun _ h9 => absurd h9 List.not_mem_nil : ∀ w ∈ ([] : List Cond), w.before _ s = true)⟩ (c_M_findS l D cy A X hst hXT G118 o Ar I1 F117 L113 ft en b9 n9 v9 s9 (enP (P9 s9) i9 (enW v9 c9 xv)) (upd so 0 (vp_nar .byte (((v9.S s9).2.2.2 + 64).toInt8.toInt32))) hM hB8 hVL hWd hn30 hb9 (by rw [eI1]; exact hbk) hs9 hrm0 hf0) (tb_cw (C := RX14) 4 hT tw_1832 tw_109 tw_1829 tw_1831 tw_96 rfl rfl hq_X14_find ⟨Nat.le_of_ble_eq_true rfl, Nat.le_of_ble_eq_true rfl⟩) (mk_preC hst hG hK hA hX hS vc_15 hM.1) rfl rfl hl.1 rfl (lv_room (Nat.le_of_ble_eq_true rfl)) dX14_encode_439 ⟨Nat.le_of_ble_eq_true rfl, Nat.le_of_ble_eq_true rfl⟩) hS (fun q _ h => h) (fun q h => h) (fun r119 G120 t H locs ht hvm hw hB hz1 hk1 hS => ?_)
                            have hG : mm D vwCl A G120 H := by rw [← ht]; exact hB
                            clear hB hz1 hk1 hvm ht
                            obtain ⟨k9, F9, L9, er119, hk1, hk64, hM2, hF2, hf9, hL9, hmk1, hmk2⟩ := hw
                            replace hF := hF.tr hF2; replace hM := hM2; clear hM2 hF2
                            refine mm_put (v := .int r119) (ty := .int) hx hb hf_X14 (fun _ h9 => h9) tyX14 tyX14_ok nmX14 hown hK hG hS hM.1 rfl 68 (by decide) (tb_use hT tw_1459) (fun _ h9 => h9) rfl (by decide +kernel) rfl rfl (mfs_l68 _ _) dX14_encode_442 (fun H locs hG hS => ?_)
                            have hM := MD.puti (k := 68) (v := r119) hM (mfs_s68 _ _ _)
                            have hF := hF.wo (e' := .inr (15, (mfs Ar I1).set 68 (.int r119)))
                            obtain ⟨I121, eI121⟩ : ∃ g, g = upd I1 68 r119 := ⟨_, rfl⟩
                            rw [← eI121] at hM
                            have hgn := gn_MD hG hM hF
                            clear hG hM hF
                            obtain ⟨G122, hG, hM, hF⟩ := hgn
                            refine lv_iconst (v := 1) hx hb dX14_encode_445 (by decide) ?_
                            have hans : (1 : Int32) = enR v9 iv jv xv := by rw [hR9, if_neg (by rw [hzz]; exact enG_ne hwd.2.1 hwd.2.2 (Or.inr (fun z => c_380 ((lg_cmp_lt _ _).mpr z))))]
                            have hs70 : L9 70 = vp_updL (L 70) (8 * s9 + i9) (enW v9 c9 xv) := by rw [hL9 70 (by decide), eL113, va_up_self, nI_clamp (by omega), hew]
                            have hs68 : I121 68 = nI (maF v9 s9 (enP (P9 s9) i9 (enW v9 c9 xv)) so).2.1 := by rw [eI121, pk_us, er119, ← hmk1]; rfl
                            have hsj : JS (maF v9 s9 (enP (P9 s9) i9 (enW v9 c9 xv)) so).2 (maF v9 s9 (enP (P9 s9) i9 (enW v9 c9 xv)) so).2.1 (F9 67) := ⟨rfl, (show _ ≤ 64 from Nat.le_trans (Nat.le_of_eq hmk1) hk64), (fun i hi => hmk2 i (Nat.lt_of_lt_of_eq hi hmk1))⟩
                            exact W.iret (v := 1) hx hb hr (fun t ht hW => ⟨⟨_, _, rfl, ⟨I121, F9, L9, hM, hF, (fun j h1 h2 => by rw [eI121, pk_un h2, eI1, pk_un h1]), (by rw [eI121, pk_un (by decide), eI1, pk_us]), ⟨k9, hk64, (by rw [eI121, pk_us]; exact er119)⟩, (fun j hj => by rw [hf9 j hj, eF117, va_up_ne _ _ (by omega)]), (fun j h1 h2 => by rw [hL9 j h2, eL113, va_up_ne _ _ h1]), hans, (fun z => absurd rfl z), (fun y k hy hk hn => by rw [hsp] at hy; rw [← Option.some.inj hy] at hk ⊢; rw [← Option.some.inj (hc9.symm.trans hk)]; exact ⟨hs70, hs68, hsj⟩)⟩, mk_end hG ht⟩, hS.F ht⟩) hS.2.2 dX14_encode_446
                          · skip
                            refine lv_iconst (v := 0) hx hb dX14_encode_391 (by decide) ?_
                            have hzz : enM f10 f11 f12 f13 f14 xv = noR := by rw [enM, if_pos c_73, if_neg c_91, if_neg (fun z => c_99 ((lg_cmp_gt _ _).mpr z)), if_neg (Int64.not_lt.mpr ((lg_cmp_ge _ _).mp c_107)), if_neg (by rw [hof, hfa]; exact fun z => c_213 ((lg_cmp_gt _ _).mpr z)), if_neg (by rw [hof, hfa]; exact Int64.not_lt.mpr ((lg_cmp_ge _ _).mp c_222)), if_pos (by rw [hrmd]; exact (lg_cmp_eq _ _).mp c_269), hqq, enG, if_neg c_333, if_neg (fun z => c_380 ((lg_cmp_lt _ _).mpr z)), if_neg (by rw [hll]; exact fun z => c_388 ((lg_cmp_lt _ _).mpr z))]
                            have hans : (0 : Int32) = enR v9 iv jv xv := by rw [hR9, if_pos hzz]
                            exact W.iret (v := 0) hx hb hr (fun t ht hW => ⟨⟨_, _, rfl, ⟨I1, F, L, hM, hF, (fun j h1 h2 => by rw [eI1, pk_un h1]), (by rw [eI1, pk_us]), ⟨sl9, (by omega), (by rw [eI1, pk_un (by decide)]; exact h68)⟩, (fun _ _ => rfl), (fun _ _ _ => rfl), hans, (fun _ => ⟨by rw [eI1, pk_un (by decide)], rfl, rfl⟩), (fun y k hy hk hn => by rw [hsp] at hy; rw [← Option.some.inj hy] at hk; exact absurd (by rw [← Option.some.inj (hc9.symm.trans hk)]; exact hen.trans hzz) hn)⟩, mk_end hG ht⟩, hS.F ht⟩) hS.2.2 dX14_encode_392
                      · skip
                        exact absurd rfl c_345
                    · skip
                      refine lv_iconst (v := 1) hx hb dX14_encode_336 (by decide) ?_
                      refine lv_goto (tgt := 341) hx hb dX14_encode_337 (by decide) ?_
                      refine lv_istore (lv' := [(11, .int 1), (9, .long x109), (7, .long x107), (13, .long x100), (6, .int (nI c9)), (5, .int (nI (8 * s9 + i9))), (0, .ref o), (1, .int iv), (2, .int jv), (3, .long xv)]) hx hb dX14_encode_341 hl (by decide) rfl (fun ls hl => ?_)
                      refine lv_iload hx hb dX14_encode_343 (lv_at hl 0 rfl) ?_
                      refine lv_if_eq (tgt := 376) hx hb dX14_encode_345 (by decide) (fun c_345 => ?_) (fun c_345 => ?_)
                      · skip
                        exact absurd c_345 (by decide)
                      · skip
                        refine lv_lload hx hb dX14_encode_348 (lv_at hl 2 rfl) ?_
                        refine lv_lload hx hb dX14_encode_350 (lv_at hl 1 rfl) ?_
                        refine lv_lneg hx hb dX14_encode_352 ?_
                        refine lv_ldc2 hx hb hown (tb_use hT tw_1857) dX14_encode_353 ?_
                        refine lv_ldiv hx hb dX14_encode_356 (by decide) ?_
                        refine lv_topl (fun x123 ex123 => ?_)
                        have hlo : -enL f10 / 2 = x123 := by rw [hll]; exact ex123.symm
                        refine W.lcmp hx hb dX14_encode_357 ?_
                        refine lv_if_lt (tgt := 391) hx hb dX14_encode_358 (by decide) (fun c_358 => ?_) (fun c_358 => ?_)
                        · skip
                          refine lv_iconst (v := 0) hx hb dX14_encode_391 (by decide) ?_
                          have hzz : enM f10 f11 f12 f13 f14 xv = noR := by rw [enM, if_pos c_73, if_neg c_91, if_neg (fun z => c_99 ((lg_cmp_gt _ _).mpr z)), if_neg (Int64.not_lt.mpr ((lg_cmp_ge _ _).mp c_107)), if_neg (by rw [hof, hfa]; exact fun z => c_213 ((lg_cmp_gt _ _).mpr z)), if_neg (by rw [hof, hfa]; exact Int64.not_lt.mpr ((lg_cmp_ge _ _).mp c_222)), if_pos (by rw [hrmd]; exact (lg_cmp_eq _ _).mp c_269), hqq, enG, if_pos c_333, if_pos (by rw [hlo]; exact (lg_cmp_lt _ _).mp c_358)]
                          have hans : (0 : Int32) = enR v9 iv jv xv := by rw [hR9, if_pos hzz]
                          exact W.iret (v := 0) hx hb hr (fun t ht hW => ⟨⟨_, _, rfl, ⟨I1, F, L, hM, hF, (fun j h1 h2 => by rw [eI1, pk_un h1]), (by rw [eI1, pk_us]), ⟨sl9, (by omega), (by rw [eI1, pk_un (by decide)]; exact h68)⟩, (fun _ _ => rfl), (fun _ _ _ => rfl), hans, (fun _ => ⟨by rw [eI1, pk_un (by decide)], rfl, rfl⟩), (fun y k hy hk hn => by rw [hsp] at hy; rw [← Option.some.inj hy] at hk; exact absurd (by rw [← Option.some.inj (hc9.symm.trans hk)]; exact hen.trans hzz) hn)⟩, mk_end hG ht⟩, hS.F ht⟩) hS.2.2 dX14_encode_392
                        · skip
                          refine lv_lload hx hb dX14_encode_361 (lv_at hl 2 rfl) ?_
                          refine lv_lload hx hb dX14_encode_363 (lv_at hl 1 rfl) ?_
                          refine lv_ldc2 hx hb hown (tb_use hT tw_1857) dX14_encode_365 ?_
                          refine lv_ldiv hx hb dX14_encode_368 (by decide) ?_
                          refine lv_topl (fun x125 ex125 => ?_)
                          have hhi : enL f10 / 2 = x125 := by rw [hll]; exact ex125.symm
                          refine W.lcmp hx hb dX14_encode_369 ?_
                          refine lv_if_lt (tgt := 393) hx hb dX14_encode_370 (by decide) (fun c_370 => ?_) (fun c_370 => ?_)
                          · skip
                            refine lv_aload_n hx hb dX14_encode_393 rfl (lv_at hl 6 rfl) ?_
                            refine mm_get (v := .ref (Ar 70)) hx hb hf_X14 (fun _ h9 => h9) hown hK hG hM.1 rfl 70 (by decide) (tb_use hT tw_1461) (fun _ h9 => h9) (mfs_g70 _ _) dX14_encode_394 ?_
                            refine lv_iload hx hb dX14_encode_397 (lv_at hl 5 rfl) ?_
                            refine lv_lload hx hb dX14_encode_399 (lv_at hl 2 rfl) ?_
                            refine mm_last (n := mdN 70) (f := L 70) hx hb hK hG hS 2 (hM.2.2.1 70 rfl) rfl (nI_in (N := mdN 70) (by show _ < 128; omega) (by decide)) dX14_encode_401 (fun H locs hG hS => ?_)
                            have hM := MD.setj (k := 70) (vp_updL (L 70) (nI (8 * s9 + i9)).toNatClampNeg x107) hM rfl
                            have hF := hF.wa (k := 70) (e' := .inl (cy 2, mdN 70, .inr (.inl (vp_updL (L 70) (nI (8 * s9 + i9)).toNatClampNeg x107)))) rfl
                            obtain ⟨L127, eL127⟩ : ∃ g, g = va_up L 70 (vp_updL (L 70) (nI (8 * s9 + i9)).toNatClampNeg x107) := ⟨_, rfl⟩
                            rw [← eL127] at hM
                            have hgn := gn_MD hG hM hF
                            clear hG hM hF
                            obtain ⟨G128, hG, hM, hF⟩ := hgn
                            refine lv_aload_n hx hb dX14_encode_402 rfl (lv_at hl 6 rfl) ?_
                            refine mm_get (v := .ref (Ar 67)) hx hb hf_X14 (fun _ h9 => h9) hown hK hG hM.1 rfl 67 (by decide) (tb_use hT tw_1458) (fun _ h9 => h9) (mfs_g67 _ _) dX14_encode_403 ?_
                            refine lv_iconst (v := 0) hx hb dX14_encode_406 (by decide) ?_
                            refine lv_aload_n hx hb dX14_encode_407 rfl (lv_at hl 6 rfl) ?_
                            refine mm_get (v := .ref (Ar 21)) hx hb hf_X14 (fun _ h9 => h9) hown hK hG hM.1 rfl 21 (by decide) (tb_use hT tw_1412) (fun _ h9 => h9) (mfs_g21 _ _) dX14_encode_408 ?_
                            refine lv_bipush (v := 16) hx hb dX14_encode_411 (by decide) ?_
                            refine lv_aload_n hx hb dX14_encode_413 rfl (lv_at hl 6 rfl) ?_
                            refine mm_get (v := .int (Iv 42)) hx hb hf_X14 (fun _ h9 => h9) hown hK hG hM.1 rfl 42 (by decide) (tb_use hT tw_1433) (fun _ h9 => h9) (by rw [mfs_g42, eI1] <;> rfl) dX14_encode_414 ?_
                            rw [show (Iv 42) = nI b9 from hbk]
                            refine lv_imul hx hb dX14_encode_417 ?_
                            refine lv_iload_n hx hb dX14_encode_418 rfl (lv_at hl 7 rfl) ?_
                            refine lv_iadd hx hb dX14_encode_419 ?_
                            refine lv_iconst (v := 1) hx hb dX14_encode_420 (by decide) ?_
                            refine lv_isub hx hb dX14_encode_421 ?_
                            rw [show (((16 * (nI b9)) + iv) - 1) = nI (16 * b9 + s9) by rw [hxs, show (16 : Int32) * nI b9 + nI (s9 + 1) = nI (16 * b9 + (s9 + 1)) from nI_ma 16 b9 (s9 + 1)]; exact nI_pred (16 * b9 + s9)]
                            refine mm_iald (n := 32) (f := F 21) hx hb hK hG 1 (hM.2.1 21 rfl) rfl (nI_in (N := 32) (by omega) (by decide)) dX14_encode_422 ?_
                            refine lv_topi (fun x129 ex129 => ?_)
                            refine lv_bipush (v := 64) hx hb dX14_encode_423 (by decide) ?_
                            refine lv_iadd hx hb dX14_encode_425 ?_
                            refine lv_topi (fun x130 ex130 => ?_)
                            refine mm_iast (n := mdN 67) (f := F 67) hx hb hK hG hS 1 (hM.2.1 67 rfl) rfl (nI_in (c := 0) (N := mdN 67) (by decide) (by decide)) dX14_encode_426 (fun H locs hG hS => ?_)
                            have hM := MD.seti (k := 67) (upd (F 67) (0 : Int32).toNatClampNeg x130) hM rfl
                            have hF := hF.wa (k := 67) (e' := .inl (cy 1, mdN 67, .inl (upd (F 67) (0 : Int32).toNatClampNeg x130))) rfl
                            obtain ⟨F131, eF131⟩ : ∃ g, g = va_up F 67 (upd (F 67) (0 : Int32).toNatClampNeg x130) := ⟨_, rfl⟩
                            rw [← eF131] at hM
                            have hgn := gn_MD hG hM hF
                            clear hG hM hF
                            obtain ⟨G132, hG, hM, hF⟩ := hgn
                            refine lv_aload_n hx hb dX14_encode_427 rfl (lv_at hl 6 rfl) ?_
                            refine lv_aload_n hx hb dX14_encode_428 rfl (lv_at hl 6 rfl) ?_
                            refine lv_iload_n hx hb dX14_encode_429 rfl (lv_at hl 7 rfl) ?_
                            refine lv_iconst (v := 1) hx hb dX14_encode_430 (by decide) ?_
                            refine lv_isub hx hb dX14_encode_431 ?_
                            rw [show iv - 1 = nI s9 by rw [hxs]; exact nI_pred s9]
                            refine lv_aload_n hx hb dX14_encode_432 rfl (lv_at hl 6 rfl) ?_
                            refine mm_get (v := .ref (Ar 67)) hx hb hf_X14 (fun _ h9 => h9) hown hK hG hM.1 rfl 67 (by decide) (tb_use hT tw_1458) (fun _ h9 => h9) (mfs_g67 _ _) dX14_encode_433 ?_
                            refine lv_bipush (v := 64) hx hb dX14_encode_436 (by decide) ?_
                            refine lv_iconst (v := 1) hx hb dX14_encode_438 (by decide) ?_
                            have hB8 : BK (tkK ft en) (tkV ft en) n9 F131 b9 v9 := ⟨hB.1.mv (Nat.le_refl _) (fun k i hk => by rw [eF131, va_up_ne _ _ (by omega)]) rfl rfl rfl rfl, hB.2.1.mv (Nat.le_refl _) (fun k i hk => by rw [eF131, va_up_ne _ _ (by omega)]) rfl rfl, hB.2.2.1.mv (Nat.le_refl _) (fun k i hk => by rw [eF131, va_up_ne _ _ (by omega)]) rfl rfl rfl rfl, hB.2.2.2.1.mv (Nat.le_refl _) (fun k i hk => by rw [eF131, va_up_ne _ _ (by omega)]) rfl rfl, hB.2.2.2.2.1.mv (Nat.le_refl _) (fun k i hk => by rw [eF131, va_up_ne _ _ (by omega)]) rfl rfl, hB.2.2.2.2.2.mv (Nat.le_refl _) (fun k i hk => by rw [eF131, va_up_ne _ _ (by omega)]) rfl rfl rfl rfl⟩
                            have hzz : enM f10 f11 f12 f13 f14 xv = x107 := by rw [enM, if_pos c_73, if_neg c_91, if_neg (fun z => c_99 ((lg_cmp_gt _ _).mpr z)), if_neg (Int64.not_lt.mpr ((lg_cmp_ge _ _).mp c_107)), if_neg (by rw [hof, hfa]; exact fun z => c_213 ((lg_cmp_gt _ _).mpr z)), if_neg (by rw [hof, hfa]; exact Int64.not_lt.mpr ((lg_cmp_ge _ _).mp c_222)), if_pos (by rw [hrmd]; exact (lg_cmp_eq _ _).mp c_269), hqq, enG, if_pos c_333, if_neg (by rw [hlo]; exact fun z => c_358 ((lg_cmp_lt _ _).mpr z)), if_pos (by rw [hhi]; exact (lg_cmp_lt _ _).mp c_370)]
                            have hew : enW v9 c9 xv = x107 := hen.trans hzz
                            have hrm0 : ∀ i, i < v9.nP s9 → (enP (P9 s9) i9 (enW v9 c9 xv) i).2.2.2 = L127 70 (8 * s9 + i) := fun i hi => by
                              unfold enP
                              rw [eL127, va_up_self, nI_clamp (by omega)]
                              by_cases y : i = i9
                              · rw [y, up1_eq, pk_uLs]; exact hew
                              · rw [up1_ne y, pk_uLn (by omega)]; exact hrm s9 hs9 i hi
                            have hf0 : upd so 0 (vp_nar .byte (((v9.S s9).2.2.2 + 64).toInt8.toInt32)) 0 &&& 255 = F131 67 0 &&& 255 := by rw [pk_us, nar_255, eF131, va_up_self]; show _ = upd (F 67) 0 x130 0 &&& 255; rw [pk_us, ex130, ex129, nI_clamp (by omega), (hB.2.2.1.2.2 s9 hs9).2.1]
                            refine va_calli (va_runV (As := [.int (nI s9), .ref (Ar 67), .int 64, .int 1]) (rest := [.ref o]) ⟨hx, hb, hml, hown, (fun _ h9 => absurd h9 List.not_mem_nil : ∀ w ∈ ([] : List Cond), w.before _ s = true)⟩ (c_M_findS l D cy A X hst hXT G132 o Ar I1 F131 L127 ft en b9 n9 v9 s9 (enP (P9 s9) i9 (enW v9 c9 xv)) (upd so 0 (vp_nar .byte (((v9.S s9).2.2.2 + 64).toInt8.toInt32))) hM hB8 hVL hWd hn30 hb9 (by rw [eI1]; exact hbk) hs9 hrm0 hf0) (tb_cw (C := RX14) 4 hT tw_1832 tw_109 tw_1829 tw_1831 tw_96 rfl rfl hq_X14_find ⟨Nat.le_of_ble_eq_true rfl, Nat.le_of_ble_eq_true rfl⟩) (mk_preC hst hG hK hA hX hS vc_15 hM.1) rfl rfl hl.1 rfl (lv_room (Nat.le_of_ble_eq_true rfl)) dX14_encode_439 ⟨Nat.le_of_ble_eq_true rfl, Nat.le_of_ble_eq_true rfl⟩) hS (fun q _ h => h) (fun q h => h) (fun r133 G134 t H locs ht hvm hw hB hz1 hk1 hS => ?_)
                            have hG : mm D vwCl A G134 H := by rw [← ht]; exact hB
                            clear hB hz1 hk1 hvm ht
                            obtain ⟨k9, F9, L9, er133, hk1, hk64, hM2, hF2, hf9, hL9, hmk1, hmk2⟩ := hw
                            replace hF := hF.tr hF2; replace hM := hM2; clear hM2 hF2
                            refine mm_put (v := .int r133) (ty := .int) hx hb hf_X14 (fun _ h9 => h9) tyX14 tyX14_ok nmX14 hown hK hG hS hM.1 rfl 68 (by decide) (tb_use hT tw_1459) (fun _ h9 => h9) rfl (by decide +kernel) rfl rfl (mfs_l68 _ _) dX14_encode_442 (fun H locs hG hS => ?_)
                            have hM := MD.puti (k := 68) (v := r133) hM (mfs_s68 _ _ _)
                            have hF := hF.wo (e' := .inr (15, (mfs Ar I1).set 68 (.int r133)))
                            obtain ⟨I135, eI135⟩ : ∃ g, g = upd I1 68 r133 := ⟨_, rfl⟩
                            rw [← eI135] at hM
                            have hgn := gn_MD hG hM hF
                            clear hG hM hF
                            obtain ⟨G136, hG, hM, hF⟩ := hgn
                            refine lv_iconst (v := 1) hx hb dX14_encode_445 (by decide) ?_
                            have hans : (1 : Int32) = enR v9 iv jv xv := by rw [hR9, if_neg (by rw [hzz]; exact enG_ne hwd.2.1 hwd.2.2 (Or.inl (by rw [← h10, hlo]; exact fun z => c_358 ((lg_cmp_lt _ _).mpr z))))]
                            have hs70 : L9 70 = vp_updL (L 70) (8 * s9 + i9) (enW v9 c9 xv) := by rw [hL9 70 (by decide), eL127, va_up_self, nI_clamp (by omega), hew]
                            have hs68 : I135 68 = nI (maF v9 s9 (enP (P9 s9) i9 (enW v9 c9 xv)) so).2.1 := by rw [eI135, pk_us, er133, ← hmk1]; rfl
                            have hsj : JS (maF v9 s9 (enP (P9 s9) i9 (enW v9 c9 xv)) so).2 (maF v9 s9 (enP (P9 s9) i9 (enW v9 c9 xv)) so).2.1 (F9 67) := ⟨rfl, (show _ ≤ 64 from Nat.le_trans (Nat.le_of_eq hmk1) hk64), (fun i hi => hmk2 i (Nat.lt_of_lt_of_eq hi hmk1))⟩
                            exact W.iret (v := 1) hx hb hr (fun t ht hW => ⟨⟨_, _, rfl, ⟨I135, F9, L9, hM, hF, (fun j h1 h2 => by rw [eI135, pk_un h2, eI1, pk_un h1]), (by rw [eI135, pk_un (by decide), eI1, pk_us]), ⟨k9, hk64, (by rw [eI135, pk_us]; exact er133)⟩, (fun j hj => by rw [hf9 j hj, eF131, va_up_ne _ _ (by omega)]), (fun j h1 h2 => by rw [hL9 j h2, eL127, va_up_ne _ _ h1]), hans, (fun z => absurd rfl z), (fun y k hy hk hn => by rw [hsp] at hy; rw [← Option.some.inj hy] at hk ⊢; rw [← Option.some.inj (hc9.symm.trans hk)]; exact ⟨hs70, hs68, hsj⟩)⟩, mk_end hG ht⟩, hS.F ht⟩) hS.2.2 dX14_encode_446
                          · skip
                            refine lv_goto (tgt := 391) hx hb dX14_encode_373 (by decide) ?_
                            refine lv_iconst (v := 0) hx hb dX14_encode_391 (by decide) ?_
                            have hzz : enM f10 f11 f12 f13 f14 xv = noR := by rw [enM, if_pos c_73, if_neg c_91, if_neg (fun z => c_99 ((lg_cmp_gt _ _).mpr z)), if_neg (Int64.not_lt.mpr ((lg_cmp_ge _ _).mp c_107)), if_neg (by rw [hof, hfa]; exact fun z => c_213 ((lg_cmp_gt _ _).mpr z)), if_neg (by rw [hof, hfa]; exact Int64.not_lt.mpr ((lg_cmp_ge _ _).mp c_222)), if_pos (by rw [hrmd]; exact (lg_cmp_eq _ _).mp c_269), hqq, enG, if_pos c_333, if_neg (by rw [hlo]; exact fun z => c_358 ((lg_cmp_lt _ _).mpr z)), if_neg (by rw [hhi]; exact fun z => c_370 ((lg_cmp_lt _ _).mpr z))]
                            have hans : (0 : Int32) = enR v9 iv jv xv := by rw [hR9, if_pos hzz]
                            exact W.iret (v := 0) hx hb hr (fun t ht hW => ⟨⟨_, _, rfl, ⟨I1, F, L, hM, hF, (fun j h1 h2 => by rw [eI1, pk_un h1]), (by rw [eI1, pk_us]), ⟨sl9, (by omega), (by rw [eI1, pk_un (by decide)]; exact h68)⟩, (fun _ _ => rfl), (fun _ _ _ => rfl), hans, (fun _ => ⟨by rw [eI1, pk_un (by decide)], rfl, rfl⟩), (fun y k hy hk hn => by rw [hsp] at hy; rw [← Option.some.inj hy] at hk; exact absurd (by rw [← Option.some.inj (hc9.symm.trans hk)]; exact hen.trans hzz) hn)⟩, mk_end hG ht⟩, hS.F ht⟩) hS.2.2 dX14_encode_392
                  · skip
                    refine lv_iconst (v := 0) hx hb dX14_encode_272 (by decide) ?_
                    have hzz : enM f10 f11 f12 f13 f14 xv = noR := by rw [enM, if_pos c_73, if_neg c_91, if_neg (fun z => c_99 ((lg_cmp_gt _ _).mpr z)), if_neg (Int64.not_lt.mpr ((lg_cmp_ge _ _).mp c_107)), if_neg (by rw [hof, hfa]; exact fun z => c_213 ((lg_cmp_gt _ _).mpr z)), if_neg (by rw [hof, hfa]; exact Int64.not_lt.mpr ((lg_cmp_ge _ _).mp c_222)), if_neg (by rw [hrmd]; exact fun z => c_269 ((lg_cmp_eq _ _).mpr z))]
                    have hans : (0 : Int32) = enR v9 iv jv xv := by rw [hR9, if_pos hzz]
                    exact W.iret (v := 0) hx hb hr (fun t ht hW => ⟨⟨_, _, rfl, ⟨I1, F, L, hM, hF, (fun j h1 h2 => by rw [eI1, pk_un h1]), (by rw [eI1, pk_us]), ⟨sl9, (by omega), (by rw [eI1, pk_un (by decide)]; exact h68)⟩, (fun _ _ => rfl), (fun _ _ _ => rfl), hans, (fun _ => ⟨by rw [eI1, pk_un (by decide)], rfl, rfl⟩), (fun y k hy hk hn => by rw [hsp] at hy; rw [← Option.some.inj hy] at hk; exact absurd (by rw [← Option.some.inj (hc9.symm.trans hk)]; exact hen.trans hzz) hn)⟩, mk_end hG ht⟩, hS.F ht⟩) hS.2.2 dX14_encode_273
                · skip
                  refine lv_iconst (v := 0) hx hb dX14_encode_225 (by decide) ?_
                  have hzz : enM f10 f11 f12 f13 f14 xv = noR := by rw [enM, if_pos c_73, if_neg c_91, if_neg (fun z => c_99 ((lg_cmp_gt _ _).mpr z)), if_neg (Int64.not_lt.mpr ((lg_cmp_ge _ _).mp c_107)), if_neg (by rw [hof, hfa]; exact fun z => c_213 ((lg_cmp_gt _ _).mpr z)), if_pos (by rw [hof, hfa]; exact Int64.not_le.mp (fun z => c_222 ((lg_cmp_ge _ _).mpr z)))]
                  have hans : (0 : Int32) = enR v9 iv jv xv := by rw [hR9, if_pos hzz]
                  exact W.iret (v := 0) hx hb hr (fun t ht hW => ⟨⟨_, _, rfl, ⟨I1, F, L, hM, hF, (fun j h1 h2 => by rw [eI1, pk_un h1]), (by rw [eI1, pk_us]), ⟨sl9, (by omega), (by rw [eI1, pk_un (by decide)]; exact h68)⟩, (fun _ _ => rfl), (fun _ _ _ => rfl), hans, (fun _ => ⟨by rw [eI1, pk_un (by decide)], rfl, rfl⟩), (fun y k hy hk hn => by rw [hsp] at hy; rw [← Option.some.inj hy] at hk; exact absurd (by rw [← Option.some.inj (hc9.symm.trans hk)]; exact hen.trans hzz) hn)⟩, mk_end hG ht⟩, hS.F ht⟩) hS.2.2 dX14_encode_226
          · skip
            refine lv_iconst (v := 0) hx hb dX14_encode_110 (by decide) ?_
            have hzz : enM f10 f11 f12 f13 f14 xv = noR := by rw [enM, if_pos c_73, if_neg c_91, if_neg (fun z => c_99 ((lg_cmp_gt _ _).mpr z)), if_pos (Int64.not_le.mp (fun z => c_107 ((lg_cmp_ge _ _).mpr z)))]
            have hans : (0 : Int32) = enR v9 iv jv xv := by rw [hR9, if_pos hzz]
            exact W.iret (v := 0) hx hb hr (fun t ht hW => ⟨⟨_, _, rfl, ⟨I1, F, L, hM, hF, (fun j h1 h2 => by rw [eI1, pk_un h1]), (by rw [eI1, pk_us]), ⟨sl9, (by omega), (by rw [eI1, pk_un (by decide)]; exact h68)⟩, (fun _ _ => rfl), (fun _ _ _ => rfl), hans, (fun _ => ⟨by rw [eI1, pk_un (by decide)], rfl, rfl⟩), (fun y k hy hk hn => by rw [hsp] at hy; rw [← Option.some.inj hy] at hk; exact absurd (by rw [← Option.some.inj (hc9.symm.trans hk)]; exact hen.trans hzz) hn)⟩, mk_end hG ht⟩, hS.F ht⟩) hS.2.2 dX14_encode_111
  · skip
    refine lv_iconst (v := (-1)) hx hb dX14_encode_14 (by decide) ?_
    have hno := isPv_f (v := v9) (by rw [eI1]; exact h43) (b2i_f (by rw [← er3]; exact c_11) : isPv I1 v9.nS v9.nP iv jv = false)
    have hsn : spO v9 iv jv = none := by unfold spO; rcases hno with y | ⟨c, y, z⟩; (rw [y]); (rw [y]; dsimp only; rw [z]; rfl)
    have hans : (-1 : Int32) = enR v9 iv jv xv := by unfold enR; rw [hsn]
    exact W.iret (v := (-1)) hx hb hr (fun t ht hW => ⟨⟨_, _, rfl, ⟨I1, F, L, hM, hF, (fun j h1 h2 => by rw [eI1, pk_un h1]), (by rw [eI1, pk_us]), ⟨sl9, (by omega), (by rw [eI1, pk_un (by decide)]; exact h68)⟩, (fun _ _ => rfl), (fun _ _ _ => rfl), hans, (fun _ => ⟨by rw [eI1, pk_un (by decide)], rfl, rfl⟩), (fun y k hy hk hn => by rw [hsn] at hy; cases hy)⟩, mk_end hG ht⟩, hS.F ht⟩) hS.2.2 dX14_encode_15
