/-! ===== what is asked of an edition, and the first that is wrong ===== -/
/-- T: the wrong places (and rings); R is the least of them and of w -/
def MN (T : Int32 → Option Nat → Prop) (w R : Int32 × Option Nat) : Prop := (R = w ∨ T R.1 R.2) ∧ (∀ p g, T p g → isF R.1 p = false) ∧ ∀ p, isF w.1 p = false → isF R.1 p = false
theorem MN.rf {w : Int32 × Option Nat} : MN (fun _ _ => False) w w := ⟨Or.inl rfl, fun _ _ h => h.elim, fun _ h => h⟩
theorem MN.tr {T T2 : Int32 → Option Nat → Prop} {w R R2 : Int32 × Option Nat} (h : MN T w R) (h2 : MN T2 R R2) : MN (fun p g => T p g ∨ T2 p g) w R2 := by
  refine ⟨?_, fun p g z => ?_, fun p z => h2.2.2 p (h.2.2 p z)⟩
  · rcases h2.1 with z | z
    · rw [z]
      rcases h.1 with y | y
      · exact Or.inl y
      · exact Or.inr (Or.inl y)
    · exact Or.inr (Or.inr z)
  · rcases z with z | z
    · exact h2.2.2 p (h.2.1 p g z)
    · exact h2.2.1 p g z
theorem MN.cg {T T2 : Int32 → Option Nat → Prop} {w R : Int32 × Option Nat} (h : MN T w R) (e : ∀ p g, T p g ↔ T2 p g) : MN T2 w R := ⟨h.1.imp (fun z => z) (fun z => (e _ _).mp z), fun p g z => h.2.1 p g ((e p g).mpr z), h.2.2⟩
theorem isF_self {a : Int32} (h : ¬ a < 0) : isF a a = false := by
  unfold isF
  rw [decide_eq_false h, decide_eq_false (fun z => absurd z (Int32.lt_irrefl))]
  rfl
theorem isF_ff {w p : Int32} (h : isF w p = false) : ¬ w < 0 ∧ ¬ p < w := by
  unfold isF at h
  rw [Bool.or_eq_false_iff, decide_eq_false_iff_not, decide_eq_false_iff_not] at h
  exact h
theorem isF_tr {w a p : Int32} (h1 : isF w a = true) (ha : ¬ a < 0) (h2 : isF w p = false) : isF a p = false := by
  obtain ⟨h3, h4⟩ := isF_ff h2
  unfold isF at h1 ⊢
  rw [decide_eq_false h3, Bool.false_or] at h1
  have h5 := of_decide_eq_true h1
  rw [decide_eq_false ha, decide_eq_false (fun z => h4 (Int32.lt_trans z h5))]
  rfl
theorem MN.one {b : Bool} {a : Int32} {g : Option Nat} {w : Int32 × Option Nat} (ha : ¬ a < 0) : MN (fun p q => b = true ∧ p = a ∧ q = g) w (if (b && isF w.1 a) = true then (a, g) else w) := by
  by_cases h : (b && isF w.1 a) = true
  · rw [if_pos h]
    rw [Bool.and_eq_true] at h
    refine ⟨Or.inr ⟨h.1, rfl, rfl⟩, fun p q z => ?_, fun p z => isF_tr h.2 ha z⟩
    rw [z.2.1]
    exact isF_self ha
  · rw [if_neg h]
    refine ⟨Or.inl rfl, fun p q z => ?_, fun p z => z⟩
    rw [z.2.1]
    cases hq : isF w.1 a with
    | false => rfl
    | true => exact absurd (by rw [z.1, hq]; rfl) h
theorem ex1_if {rt : Bool} {a : Int32} {w : Int32 × Option Nat} : ex1 rt a w = if (!rt && isF w.1 a) = true then (a, none) else w := by
  unfold ex1
  cases rt with
  | true =>
    have h1 : ¬ (b2i true = 0 ∧ isF w.1 a = true) := fun z => absurd z.1 (by decide)
    have h2 : ¬ ((!true && isF w.1 a) = true) := fun z => Bool.false_ne_true z
    rw [if_neg h1, if_neg h1, if_neg h2]
  | false =>
    by_cases h : isF w.1 a = true
    · have h1 : b2i false = 0 ∧ isF w.1 a = true := ⟨rfl, h⟩
      have h2 : (!false && isF w.1 a) = true := by rw [h]; rfl
      rw [if_pos h1, if_pos h1, if_pos h2]
    · have h1 : ¬ (b2i false = 0 ∧ isF w.1 a = true) := fun z => h z.2
      have h2 : ¬ ((!false && isF w.1 a) = true) := fun z => h z
      rw [if_neg h1, if_neg h1, if_neg h2]
theorem MN.ex {rt : Bool} {a : Int32} {w : Int32 × Option Nat} (ha : ¬ a < 0) : MN (fun p q => rt = false ∧ p = a ∧ q = none) w (ex1 rt a w) := by
  rw [ex1_if]
  refine (MN.one ha).cg (fun p q => ?_)
  cases rt with
  | true => exact ⟨fun z => absurd z.1 Bool.false_ne_true, fun z => absurd z.1.symm Bool.false_ne_true⟩
  | false => exact ⟨fun z => ⟨rfl, z.2⟩, fun z => ⟨rfl, z.2⟩⟩
theorem MN.loop {T : Nat → Int32 → Option Nat → Prop} {f : Nat → Int32 × Option Nat → Int32 × Option Nat} {g : Nat → Nat → Int32 × Option Nat → Int32 × Option Nat} (h0 : ∀ j w, g 0 j w = w) (h1 : ∀ n j w, g (n + 1) j w = g n (j + 1) (f j w)) {N : Nat} (hf : ∀ i w, i < N → MN (T i) w (f i w)) : ∀ (n j : Nat) (w : Int32 × Option Nat), j + n ≤ N → MN (fun p q => ∃ i, (j ≤ i ∧ i < j + n) ∧ T i p q) w (g n j w) := by
  intro n
  induction n with
  | zero => intro j w _; rw [h0]; exact MN.rf.cg (fun p q => ⟨fun z => z.elim, fun ⟨i, a, _⟩ => by omega⟩)
  | succ n ih =>
    intro j w h
    rw [h1]
    refine ((hf j w (by omega)).tr (ih (j + 1) (f j w) (by omega))).cg (fun p q => ⟨?_, ?_⟩)
    · rintro (z | ⟨i, a, z⟩)
      · exact ⟨j, ⟨Nat.le_refl j, by omega⟩, z⟩
      · exact ⟨i, ⟨by omega, by omega⟩, z⟩
    · rintro ⟨i, a, z⟩
      by_cases e : i = j
      · rw [e] at z
        exact Or.inl z
      · exact Or.inr ⟨i, ⟨by omega, by omega⟩, z⟩
/-- a whole loop -/
theorem MN.all {T : Nat → Int32 → Option Nat → Prop} {f : Nat → Int32 × Option Nat → Int32 × Option Nat} {g : Nat → Nat → Int32 × Option Nat → Int32 × Option Nat} (h0 : ∀ j w, g 0 j w = w) (h1 : ∀ n j w, g (n + 1) j w = g n (j + 1) (f j w)) {N : Nat} (hf : ∀ i w, i < N → MN (T i) w (f i w)) {w : Int32 × Option Nat} : MN (fun p q => ∃ i, i < N ∧ T i p q) w (g N 0 w) :=
  (MN.loop h0 h1 hf N 0 w (by omega)).cg (fun p q => ⟨fun ⟨i, a, z⟩ => ⟨i, by omega, z⟩, fun ⟨i, a, z⟩ => ⟨i, by omega, z⟩⟩)
/-- what is asked: kind, what of, where -/
def PK (v : EdV) (k a b : Nat) (p : Int32) : Prop := match k with
  | 1 => a < v.nC ∧ b = 0 ∧ p = (v.C a).1.1
  | 2 => a < v.nL ∧ b = 0 ∧ p = (v.L a).1
  | 3 => a < v.nJ ∧ b = 0 ∧ p = (v.J a).1
  | 4 => a < v.nS ∧ b = 0 ∧ p = (v.S a).2.1
  | 5 => a < v.nS ∧ b < v.nP a ∧ p = (v.P a b).1
  | 6 => a < v.nC ∧ b < v.nR a ∧ p = (v.R a b).2.1
  | 7 => a < v.nE ∧ b = 0 ∧ p = (v.E a).2.1
  | 8 => a < v.nV ∧ b = 0 ∧ p = (v.V a).2.1
  | 9 => a < v.nL ∧ b = 0 ∧ (v.L a).2.2.1 ≠ 0 ∧ p = (v.L a).2.2.2
  | 10 => ∃ s, s < v.nS ∧ ∃ i, i < v.nP s ∧ a = 8 * s + i ∧ b = 0 ∧ p = (v.P s i).2.2.2.1
  | 11 => a < v.nS ∧ ∃ i, i < v.nP a ∧ b = 8 * a + i ∧ (v.P a i).2.2.2.2.1 ≠ 0 ∧ p = (v.P a i).2.2.2.2.2.2.1
  | 12 => a < v.nV ∧ b = 0 ∧ p = (v.V a).2.2.2
  | 13 => ∃ j, j < v.nJ ∧ ∃ i, i < v.nO j ∧ a = 100 * j + i ∧ b = 0 ∧ (v.O j i).1 = 26 ∧ p = (v.O j i).2.2.2.1
  | 14 => ∃ j, j < v.nJ ∧ ∃ i, i < v.nO j ∧ a = 100 * j + i ∧ b = 0 ∧ (v.O j i).1 = 26 ∧ p = (v.O j i).2.2.2.2.2.1
  | _ => False
/-- is it wrong -/
def wrC (v : EdV) (k a b : Nat) : Bool := match k with
  | 1 => decide (cdN v (v.C a).1.2.1 ≠ some a)
  | 2 => decide (lyN v (v.L a).2.1 ≠ some a)
  | 3 => decide (jbN v (v.J a).2 ≠ some a)
  | 4 => decide (svI v (v.S a).1 (v.S a).2.2.1 ≠ some a)
  | 5 => decide (paN v a (v.P a b).2.1 ≠ some b)
  | 6 => decide (fndF (fun j => decide ((v.R a j).1 = (v.R a b).1)) (v.nR a) 0 ≠ some b)
  | 7 => decide (fndF (fun j => decide ((v.E j).1 = (v.E a).1)) v.nE 0 ≠ some a)
  | 8 => decide (fndF (fun j => decide ((v.V j).1 = (v.V a).1)) v.nV 0 ≠ some a)
  | 9 => (lyN v (v.L a).2.2.1).isNone || inR v a 6 (nx v a)
  | 10 => (cdN v (v.P (a / 8) (a % 8)).2.2.1).isNone
  | 11 => !(eB v a (b - 8 * a))
  | 12 => (lyN v (v.V a).2.2.1).isNone
  | 13 => (svN v (v.O (a / 100) (a % 100)).2.2.1).isNone
  | 14 => (opP v (v.O (a / 100) (a % 100))).isNone
  | _ => false
/-- the ring that it begins -/
def rgC (v : EdV) (k a : Nat) : Option Nat := if k = 9 ∧ inR v a 6 (nx v a) = true then some a else none
theorem rgC_n {v : EdV} {k a : Nat} (h : k ≠ 9) : rgC v k a = none := if_neg (fun z => h z.1)
/-- the wrong ones of a kind -/
def WK (v : EdV) (k : Nat) (p : Int32) (g : Option Nat) : Prop := ∃ a b, PK v k a b p ∧ wrC v k a b = true ∧ g = rgC v k a
theorem i32_64 {a b : Int32} : a.toInt64 = b.toInt64 ↔ a = b := ⟨fun h => by have h2 := congrArg Int64.toInt h; rw [Int32.toInt_toInt64, Int32.toInt_toInt64] at h2; exact Int32.toInt_inj.mp h2, fun h => by rw [h]⟩
theorem dn_ne {o : Option Nat} {i : Nat} : decide (o = some i) = false ↔ decide (o ≠ some i) = true := by
  rw [decide_eq_false_iff_not, decide_eq_true_iff]
theorem sm_no {α : Type} {o : Option α} : o.isSome = false ↔ o.isNone = true := by cases o <;> simp
section

variable {v : EdV}
theorem mL1_mn (hN : ∀ k a b p, PK v k a b p → ¬ p < 0) {w : Int32 × Option Nat} : MN (fun p q => ∃ i, i < v.nL ∧ ((decide (lyN v (v.L i).2.1 = some i) = false ∧ p = (v.L i).1 ∧ q = none) ∨ ((v.L i).2.2.1 ≠ 0 ∧ (lyN v (v.L i).2.2.1).isSome = false ∧ p = (v.L i).2.2.2 ∧ q = none))) w (mL1 v v.nL 0 w) := by
  refine MN.all (f := lS v) (fun _ _ => rfl) (fun _ _ _ => rfl) (fun i w hi => ?_)
  have n1 := hN 2 i 0 _ ⟨hi, rfl, rfl⟩
  unfold lS
  by_cases h : (v.L i).2.2.1 = 0
  · rw [if_pos h]
    exact (MN.ex n1).cg (fun p q => ⟨fun z => Or.inl z, fun z => z.elim (fun y => y) (fun y => absurd h y.1)⟩)
  · rw [if_neg h]
    have n2 := hN 9 i 0 _ ⟨hi, rfl, h, rfl⟩
    exact ((MN.ex n1).tr (MN.ex n2)).cg (fun p q => ⟨fun z => z.imp (fun y => y) (fun y => ⟨h, y⟩), fun z => z.imp (fun y => y) (fun y => y.2)⟩)
theorem inR_of {i : Nat} (h : inR v i 6 (nx v i) = true) : (v.L i).2.2.1 ≠ 0 := by
  intro z
  rw [show nx v i = none by unfold nx; rw [if_pos z]] at h
  cases h
theorem mL2_mn (hN : ∀ k a b p, PK v k a b p → ¬ p < 0) {w : Int32 × Option Nat} : MN (fun p q => ∃ i, i < v.nL ∧ (inR v i 6 (nx v i) = true ∧ p = (v.L i).2.2.2 ∧ q = some i)) w (mL2 v v.nL 0 w) := by
  refine MN.all (f := rS v) (fun _ _ => rfl) (fun _ _ _ => rfl) (fun i w hi => ?_)
  unfold rS
  cases hq : inR v i 6 (nx v i) with
  | false =>
    rw [Bool.false_and, if_neg Bool.false_ne_true]
    exact MN.rf.cg (fun p q => ⟨fun z => z.elim, fun z => absurd z.1 Bool.false_ne_true⟩)
  | true => exact (MN.one (b := true) (hN 9 i 0 _ ⟨hi, rfl, inR_of hq, rfl⟩)).cg (fun p q => Iff.rfl)
theorem mLy_mn (hN : ∀ k a b p, PK v k a b p → ¬ p < 0) {w : Int32 × Option Nat} : MN (fun p q => WK v 2 p q ∨ WK v 9 p q) w (mLy v w) := by
  refine ((mL1_mn hN).tr (mL2_mn hN)).cg (fun p q => ⟨?_, ?_⟩)
  · rintro (⟨i, hi, ⟨a, b, c⟩ | ⟨a, b, c, d⟩⟩ | ⟨i, hi, a, b, c⟩)
    · exact Or.inl ⟨i, 0, ⟨hi, rfl, b⟩, dn_ne.mp a, c.trans (rgC_n (by decide)).symm⟩
    · refine Or.inr ⟨i, 0, ⟨hi, rfl, a, c⟩, ?_, ?_⟩
      · show ((lyN v (v.L i).2.2.1).isNone || inR v i 6 (nx v i)) = true
        rw [sm_no.mp b]; rfl
      · rw [d, rgC, if_neg]
        intro z
        have h := z.2
        rw [show nx v i = none by unfold nx; rw [if_neg a]; exact Option.isNone_iff_eq_none.mp (sm_no.mp b)] at h
        cases h
    · refine Or.inr ⟨i, 0, ⟨hi, rfl, inR_of a, b⟩, ?_, ?_⟩
      · show ((lyN v (v.L i).2.2.1).isNone || inR v i 6 (nx v i)) = true
        rw [a, Bool.or_true]
      · rw [c, rgC, if_pos ⟨rfl, a⟩]
  · rintro (⟨i, b, ⟨h1, _, h3⟩, h4, h5⟩ | ⟨i, b, ⟨h1, _, h2, h3⟩, h4, h5⟩)
    · exact Or.inl ⟨i, h1, Or.inl ⟨dn_ne.mpr h4, h3, h5.trans (rgC_n (by decide))⟩⟩
    · have h4 : ((lyN v (v.L i).2.2.1).isNone || inR v i 6 (nx v i)) = true := h4
      cases hq : inR v i 6 (nx v i) with
      | true => exact Or.inr ⟨i, h1, hq, h3, by rw [h5, rgC, if_pos ⟨rfl, hq⟩]⟩
      | false =>
        rw [hq, Bool.or_false] at h4
        exact Or.inl ⟨i, h1, Or.inr ⟨h2, sm_no.mpr h4, h3, by rw [h5, rgC, if_neg (fun z => absurd (hq.symm.trans z.2) Bool.false_ne_true)]⟩⟩
theorem onN_mn {n : Nat} {zs za : Nat → Int32} (hz : ∀ i, i < n → ¬ za i < 0) {w : Int32 × Option Nat} : MN (fun p q => ∃ i, i < n ∧ (decide (fndF (fun j => decide (zs j = zs i)) n 0 = some i) = false ∧ p = za i ∧ q = none)) w (exN n zs za n 0 w) := by
  refine MN.all (f := fun j w => ex1 (decide (fndF (fun i => decide ((zs i).toInt64 = (zs j).toInt64)) n 0 = some j)) (za j) w) (fun _ _ => rfl) (fun _ _ _ => rfl) (fun i w hi => ?_)
  have e : (fun j => decide ((zs j).toInt64 = (zs i).toInt64)) = (fun j => decide (zs j = zs i)) := funext (fun j => decide_eq_decide.mpr i32_64)
  rw [e]
  exact MN.ex (hz i hi)
theorem mC_mn (hN : ∀ k a b p, PK v k a b p → ¬ p < 0) {w : Int32 × Option Nat} : MN (fun p q => WK v 1 p q ∨ WK v 6 p q) w (mC v v.nC 0 w) := by
  refine (MN.all (N := v.nC) (f := fun j w => onR v j (ex1 (decide (cdN v (v.C j).1.2.1 = some j)) (v.C j).1.1 w)) (g := mC v) (fun _ _ => rfl) (fun _ _ _ => rfl) (fun i w hi => (MN.ex (hN 1 i 0 _ ⟨hi, rfl, rfl⟩)).tr (onN_mn (fun j hj => hN 6 i j _ ⟨hi, hj, rfl⟩)))).cg (fun p q => ⟨?_, ?_⟩)
  · rintro ⟨i, hi, ⟨a, b, c⟩ | ⟨j, hj, a, b, c⟩⟩
    · exact Or.inl ⟨i, 0, ⟨hi, rfl, b⟩, dn_ne.mp a, c.trans (rgC_n (by decide)).symm⟩
    · exact Or.inr ⟨i, j, ⟨hi, hj, b⟩, dn_ne.mp a, c.trans (rgC_n (by decide)).symm⟩
  · rintro (⟨i, b, ⟨h1, _, h3⟩, h4, h5⟩ | ⟨i, j, ⟨h1, h2, h3⟩, h4, h5⟩)
    · exact ⟨i, h1, Or.inl ⟨dn_ne.mpr h4, h3, h5.trans (rgC_n (by decide))⟩⟩
    · exact ⟨i, h1, Or.inr ⟨j, h2, dn_ne.mpr h4, h3, h5.trans (rgC_n (by decide))⟩⟩
theorem onE_mn (hN : ∀ k a b p, PK v k a b p → ¬ p < 0) {w : Int32 × Option Nat} : MN (WK v 7) w (onE v w) := by
  refine (onN_mn (fun j hj => hN 7 j 0 _ ⟨hj, rfl, rfl⟩)).cg (fun p q => ⟨?_, ?_⟩)
  · rintro ⟨i, hi, a, b, c⟩
    exact ⟨i, 0, ⟨hi, rfl, b⟩, dn_ne.mp a, c.trans (rgC_n (by decide)).symm⟩
  · rintro ⟨i, b, ⟨h1, _, h3⟩, h4, h5⟩
    exact ⟨i, h1, dn_ne.mpr h4, h3, h5.trans (rgC_n (by decide))⟩
theorem onV_mn (hN : ∀ k a b p, PK v k a b p → ¬ p < 0) {w : Int32 × Option Nat} : MN (WK v 8) w (onV v w) := by
  refine (onN_mn (fun j hj => hN 8 j 0 _ ⟨hj, rfl, rfl⟩)).cg (fun p q => ⟨?_, ?_⟩)
  · rintro ⟨i, hi, a, b, c⟩
    exact ⟨i, 0, ⟨hi, rfl, b⟩, dn_ne.mp a, c.trans (rgC_n (by decide)).symm⟩
  · rintro ⟨i, b, ⟨h1, _, h3⟩, h4, h5⟩
    exact ⟨i, h1, dn_ne.mpr h4, h3, h5.trans (rgC_n (by decide))⟩
theorem mV_mn (hN : ∀ k a b p, PK v k a b p → ¬ p < 0) {w : Int32 × Option Nat} : MN (WK v 12) w (mV v v.nV 0 w) := by
  refine (MN.all (N := v.nV) (f := fun j w => ex1 (lyN v (v.V j).2.2.1).isSome (v.V j).2.2.2 w) (g := mV v) (fun _ _ => rfl) (fun _ _ _ => rfl) (fun i w hi => MN.ex (hN 12 i 0 _ ⟨hi, rfl, rfl⟩))).cg (fun p q => ⟨?_, ?_⟩)
  · rintro ⟨i, hi, a, b, c⟩
    exact ⟨i, 0, ⟨hi, rfl, b⟩, sm_no.mp a, c.trans (rgC_n (by decide)).symm⟩
  · rintro ⟨i, b, ⟨h1, _, h3⟩, h4, h5⟩
    exact ⟨i, h1, sm_no.mpr h4, h3, h5.trans (rgC_n (by decide))⟩
theorem mP_mn (hN : ∀ k a b p, PK v k a b p → ¬ p < 0) {c : Nat} (hc : c < v.nS) {w : Int32 × Option Nat} : MN (fun p q => ∃ i, i < v.nP c ∧ (((decide (paN v c (v.P c i).2.1 = some i) = false ∧ p = (v.P c i).1 ∧ q = none) ∨ ((cdN v (v.P c i).2.2.1).isSome = false ∧ p = (v.P c i).2.2.2.1 ∧ q = none)) ∨ ((v.P c i).2.2.2.2.1 ≠ 0 ∧ eB v c i = false ∧ p = (v.P c i).2.2.2.2.2.2.1 ∧ q = none))) w (mP v c (v.nP c) 0 w) := by
  refine MN.all (f := pS v c) (fun _ _ => rfl) (fun _ _ _ => rfl) (fun i w hi => ?_)
  have n1 := hN 5 c i _ ⟨hc, hi, rfl⟩
  have n2 := hN 10 (8 * c + i) 0 _ ⟨c, hc, i, hi, rfl, rfl, rfl⟩
  unfold pS
  by_cases h : (v.P c i).2.2.2.2.1 = 0
  · rw [if_pos h]
    exact ((MN.ex n1).tr (MN.ex n2)).cg (fun p q => ⟨fun z => Or.inl z, fun z => z.elim (fun y => y) (fun y => absurd h y.1)⟩)
  · rw [if_neg h]
    have n3 := hN 11 c (8 * c + i) _ ⟨hc, i, hi, rfl, h, rfl⟩
    exact (((MN.ex n1).tr (MN.ex n2)).tr (MN.ex n3)).cg (fun p q => ⟨fun z => z.imp (fun y => y) (fun y => ⟨h, y⟩), fun z => z.imp (fun y => y) (fun y => y.2)⟩)
theorem mS_mn (hN : ∀ k a b p, PK v k a b p → ¬ p < 0) (hP : ∀ s, s < v.nS → v.nP s ≤ 8) {w : Int32 × Option Nat} : MN (fun p q => WK v 4 p q ∨ (WK v 5 p q ∨ WK v 10 p q) ∨ WK v 11 p q) w (mS v v.nS 0 w) := by
  refine (MN.all (N := v.nS) (f := fun j w => mP v j (v.nP j) 0 (ex1 (decide (svI v (v.S j).1 (v.S j).2.2.1 = some j)) (v.S j).2.1 w)) (g := mS v) (fun _ _ => rfl) (fun _ _ _ => rfl) (fun i w hi => (MN.ex (hN 4 i 0 _ ⟨hi, rfl, rfl⟩)).tr (mP_mn hN hi))).cg (fun p q => ⟨?_, ?_⟩)
  · rintro ⟨i, hi, ⟨a, b, c⟩ | ⟨j, hj, (⟨a, b, c⟩ | ⟨a, b, c⟩) | ⟨a, b, c, d⟩⟩⟩
    · exact Or.inl ⟨i, 0, ⟨hi, rfl, b⟩, dn_ne.mp a, c.trans (rgC_n (by decide)).symm⟩
    · exact Or.inr (Or.inl (Or.inl ⟨i, j, ⟨hi, hj, b⟩, dn_ne.mp a, c.trans (rgC_n (by decide)).symm⟩))
    · refine Or.inr (Or.inl (Or.inr ⟨8 * i + j, 0, ⟨i, hi, j, hj, rfl, rfl, b⟩, ?_, c.trans (rgC_n (by decide)).symm⟩))
      have h8 := hP i hi
      show (cdN v (v.P ((8 * i + j) / 8) ((8 * i + j) % 8)).2.2.1).isNone = true
      rw [show (8 * i + j) / 8 = i by omega, show (8 * i + j) % 8 = j by omega]
      exact sm_no.mp a
    · refine Or.inr (Or.inr ⟨i, 8 * i + j, ⟨hi, j, hj, rfl, a, c⟩, ?_, d.trans (rgC_n (by decide)).symm⟩)
      show (!(eB v i (8 * i + j - 8 * i))) = true
      rw [show 8 * i + j - 8 * i = j by omega, b]
      rfl
  · rintro (⟨i, b, ⟨h1, _, h3⟩, h4, h5⟩ | (⟨i, j, ⟨h1, h2, h3⟩, h4, h5⟩ | ⟨x, b, ⟨i, h1, j, h2, e1, e2, h3⟩, h4, h5⟩) | ⟨i, b, ⟨h1, j, h2, e1, e2, h3⟩, h4, h5⟩)
    · exact ⟨i, h1, Or.inl ⟨dn_ne.mpr h4, h3, h5.trans (rgC_n (by decide))⟩⟩
    · exact ⟨i, h1, Or.inr ⟨j, h2, Or.inl (Or.inl ⟨dn_ne.mpr h4, h3, h5.trans (rgC_n (by decide))⟩)⟩⟩
    · have h8 := hP i h1
      have h4 : (cdN v (v.P (x / 8) (x % 8)).2.2.1).isNone = true := h4
      rw [e1, show (8 * i + j) / 8 = i by omega, show (8 * i + j) % 8 = j by omega] at h4
      exact ⟨i, h1, Or.inr ⟨j, h2, Or.inl (Or.inr ⟨sm_no.mpr h4, h3, h5.trans (rgC_n (by decide))⟩)⟩⟩
    · have h4 : (!(eB v i (b - 8 * i))) = true := h4
      rw [e1, show 8 * i + j - 8 * i = j by omega, Bool.not_eq_true'] at h4
      exact ⟨i, h1, Or.inr ⟨j, h2, Or.inr ⟨e2, h4, h3, h5.trans (rgC_n (by decide))⟩⟩⟩
theorem mO_mn (hN : ∀ k a b p, PK v k a b p → ¬ p < 0) {c : Nat} (hc : c < v.nJ) {w : Int32 × Option Nat} : MN (fun p q => ∃ i, i < v.nO c ∧ (v.O c i).1 = 26 ∧ (((opS v (v.O c i)).isSome = false ∧ p = (v.O c i).2.2.2.1 ∧ q = none) ∨ ((opP v (v.O c i)).isSome = false ∧ p = (v.O c i).2.2.2.2.2.1 ∧ q = none))) w (mO v c (v.nO c) 0 w) := by
  refine MN.all (f := oS v c) (fun _ _ => rfl) (fun _ _ _ => rfl) (fun i w hi => ?_)
  unfold oS
  by_cases h : (v.O c i).1 = 26
  · rw [if_pos h]
    have n1 := hN 13 (100 * c + i) 0 _ ⟨c, hc, i, hi, rfl, rfl, h, rfl⟩
    have n2 := hN 14 (100 * c + i) 0 _ ⟨c, hc, i, hi, rfl, rfl, h, rfl⟩
    exact ((MN.ex n1).tr (MN.ex n2)).cg (fun p q => ⟨fun z => ⟨h, z⟩, fun z => z.2⟩)
  · rw [if_neg h]
    exact MN.rf.cg (fun p q => ⟨fun z => z.elim, fun z => absurd z.1 h⟩)
theorem mJ_mn (hN : ∀ k a b p, PK v k a b p → ¬ p < 0) (hO : ∀ j, j < v.nJ → v.nO j ≤ 80) {w : Int32 × Option Nat} : MN (fun p q => WK v 3 p q ∨ WK v 13 p q ∨ WK v 14 p q) w (mJ v v.nJ 0 w) := by
  refine (MN.all (N := v.nJ) (f := fun j w => mO v j (v.nO j) 0 (ex1 (decide (jbN v (v.J j).2 = some j)) (v.J j).1 w)) (g := mJ v) (fun _ _ => rfl) (fun _ _ _ => rfl) (fun i w hi => (MN.ex (hN 3 i 0 _ ⟨hi, rfl, rfl⟩)).tr (mO_mn hN hi))).cg (fun p q => ⟨?_, ?_⟩)
  · rintro ⟨i, hi, ⟨a, b, c⟩ | ⟨j, hj, h26, ⟨a, b, c⟩ | ⟨a, b, c⟩⟩⟩
    · exact Or.inl ⟨i, 0, ⟨hi, rfl, b⟩, dn_ne.mp a, c.trans (rgC_n (by decide)).symm⟩
    · refine Or.inr (Or.inl ⟨100 * i + j, 0, ⟨i, hi, j, hj, rfl, rfl, h26, b⟩, ?_, c.trans (rgC_n (by decide)).symm⟩)
      have h8 := hO i hi
      show (svN v (v.O ((100 * i + j) / 100) ((100 * i + j) % 100)).2.2.1).isNone = true
      rw [show (100 * i + j) / 100 = i by omega, show (100 * i + j) % 100 = j by omega]
      unfold opS at a
      rw [if_pos h26] at a
      exact sm_no.mp a
    · refine Or.inr (Or.inr ⟨100 * i + j, 0, ⟨i, hi, j, hj, rfl, rfl, h26, b⟩, ?_, c.trans (rgC_n (by decide)).symm⟩)
      have h8 := hO i hi
      show (opP v (v.O ((100 * i + j) / 100) ((100 * i + j) % 100))).isNone = true
      rw [show (100 * i + j) / 100 = i by omega, show (100 * i + j) % 100 = j by omega]
      exact sm_no.mp a
  · rintro (⟨i, b, ⟨h1, _, h3⟩, h4, h5⟩ | ⟨x, b, ⟨i, h1, j, h2, e1, e2, h26, h3⟩, h4, h5⟩ | ⟨x, b, ⟨i, h1, j, h2, e1, e2, h26, h3⟩, h4, h5⟩)
    · exact ⟨i, h1, Or.inl ⟨dn_ne.mpr h4, h3, h5.trans (rgC_n (by decide))⟩⟩
    · have h8 := hO i h1
      have h4 : (svN v (v.O (x / 100) (x % 100)).2.2.1).isNone = true := h4
      rw [e1, show (100 * i + j) / 100 = i by omega, show (100 * i + j) % 100 = j by omega] at h4
      refine ⟨i, h1, Or.inr ⟨j, h2, h26, Or.inl ⟨?_, h3, h5.trans (rgC_n (by decide))⟩⟩⟩
      unfold opS
      rw [if_pos h26]
      exact sm_no.mpr h4
    · have h8 := hO i h1
      have h4 : (opP v (v.O (x / 100) (x % 100))).isNone = true := h4
      rw [e1, show (100 * i + j) / 100 = i by omega, show (100 * i + j) % 100 = j by omega] at h4
      exact ⟨i, h1, Or.inr ⟨j, h2, h26, Or.inr ⟨sm_no.mpr h4, h3, h5.trans (rgC_n (by decide))⟩⟩⟩
/-- the first wrong place is the least of all that are wrong -/
theorem mAll_mn (hN : ∀ k a b p, PK v k a b p → ¬ p < 0) (hP : ∀ s, s < v.nS → v.nP s ≤ 8) (hO : ∀ j, j < v.nJ → v.nO j ≤ 80) {w : Int32 × Option Nat} : MN (fun p q => ∃ k, WK v k p q) w (mAll v w) := by
  refine (((((((mLy_mn hN).tr (mC_mn hN)).tr (mS_mn hN hP)).tr (onE_mn hN)).tr (onV_mn hN)).tr (mV_mn hN)).tr (mJ_mn hN hO)).cg (fun p q => ⟨?_, ?_⟩)
  · rintro (((((((h | h) | h | h) | h | (h | h) | h) | h) | h) | h) | h | h | h)
    all_goals exact ⟨_, h⟩
  · rintro ⟨k, a, b, hp, hw⟩
    match k, hp, hw with
    | 0, hp, _ => exact False.elim hp
    | 1, hp, hw => exact Or.inl (Or.inl (Or.inl (Or.inl (Or.inl (Or.inr (Or.inl ⟨a, b, hp, hw⟩))))))
    | 2, hp, hw => exact Or.inl (Or.inl (Or.inl (Or.inl (Or.inl (Or.inl (Or.inl ⟨a, b, hp, hw⟩))))))
    | 3, hp, hw => exact Or.inr (Or.inl ⟨a, b, hp, hw⟩)
    | 4, hp, hw => exact Or.inl (Or.inl (Or.inl (Or.inl (Or.inr (Or.inl ⟨a, b, hp, hw⟩)))))
    | 5, hp, hw => exact Or.inl (Or.inl (Or.inl (Or.inl (Or.inr (Or.inr (Or.inl (Or.inl ⟨a, b, hp, hw⟩)))))))
    | 6, hp, hw => exact Or.inl (Or.inl (Or.inl (Or.inl (Or.inl (Or.inr (Or.inr ⟨a, b, hp, hw⟩))))))
    | 7, hp, hw => exact Or.inl (Or.inl (Or.inl (Or.inr ⟨a, b, hp, hw⟩)))
    | 8, hp, hw => exact Or.inl (Or.inl (Or.inr ⟨a, b, hp, hw⟩))
    | 9, hp, hw => exact Or.inl (Or.inl (Or.inl (Or.inl (Or.inl (Or.inl (Or.inr ⟨a, b, hp, hw⟩))))))
    | 10, hp, hw => exact Or.inl (Or.inl (Or.inl (Or.inl (Or.inr (Or.inr (Or.inl (Or.inr ⟨a, b, hp, hw⟩)))))))
    | 11, hp, hw => exact Or.inl (Or.inl (Or.inl (Or.inl (Or.inr (Or.inr (Or.inr ⟨a, b, hp, hw⟩))))))
    | 12, hp, hw => exact Or.inl (Or.inr ⟨a, b, hp, hw⟩)
    | 13, hp, hw => exact Or.inr (Or.inr (Or.inl ⟨a, b, hp, hw⟩))
    | 14, hp, hw => exact Or.inr (Or.inr (Or.inr ⟨a, b, hp, hw⟩))
    | _ + 15, hp, _ => exact False.elim hp
end
