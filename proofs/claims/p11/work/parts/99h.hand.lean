/-! ===== the answers of an edition in hand ===== -/
/-- the place that a number from 1 on names -/
def oIx (i : Int32) (n : Nat) : Option Nat := if 1 ≤ i.toInt ∧ i.toInt ≤ n then some (i.toInt.toNat - 1) else none
def svO (v : EdV) (i : Int32) : Option Nat := oIx i v.nS
def paO (v : EdV) (c : Nat) (i : Int32) : Option Nat := oIx i (v.nP c)
theorem oIx_lt {i : Int32} {n k : Nat} (h : oIx i n = some k) : k < n := by
  unfold oIx at h
  split at h
  · rename_i h1
    injection h with h
    omega
  · cases h
theorem svO_lt {v : EdV} {i : Int32} {k : Nat} (h : svO v i = some k) : k < v.nS := oIx_lt h
theorem paO_lt {v : EdV} {c : Nat} {i : Int32} {k : Nat} (h : paO v c i = some k) : k < v.nP c := oIx_lt h
theorem ix_of {i : Int32} {n : Nat} (hn : n < 1000) (h1 : ¬ i < 1) (h2 : i ≤ nI n) : ∃ k, k < n ∧ i = nI (k + 1) ∧ oIx i n = some k := by
  have a1 := Int32.le_iff_toInt_le.mp (Int32.not_lt.mp h1)
  have a2 := Int32.le_iff_toInt_le.mp h2
  rw [nI_toInt (by omega)] at a2
  have a3 : (1 : Int32).toInt = 1 := by decide
  rw [a3] at a1
  refine ⟨i.toInt.toNat - 1, by omega, ?_, ?_⟩
  · apply Int32.toInt_inj.mp
    rw [nI_toInt (by omega)]
    omega
  · unfold oIx
    rw [if_pos ⟨a1, a2⟩]
theorem ix_no1 {i : Int32} {n : Nat} (h : i < 1) : oIx i n = none := by
  have a1 := Int32.lt_iff_toInt_lt.mp h
  have a3 : (1 : Int32).toInt = 1 := by decide
  rw [a3] at a1
  unfold oIx
  rw [if_neg (by omega)]
theorem ix_no2 {i : Int32} {n : Nat} (hn : n < 1000) (h : ¬ i ≤ nI n) : oIx i n = none := by
  have a2 := fun z => h (Int32.le_iff_toInt_le.mpr z)
  rw [nI_toInt (by omega)] at a2
  unfold oIx
  rw [if_neg (fun z => a2 z.2)]
/-- the service that the layer in use, or one that it is of, has by a name -/
def nIU (v : EdV) (nm : Int64) : Nat → Option Nat → Int32
  | 0, _ => 0
  | _ + 1, none => 0
  | n + 1, some k => match svI v k nm with
    | some j => nI (j + 1)
    | none => nIU v nm n (nx v k)
/-- the layers of a ring, from its start on -/
def rgF (v : EdV) (b : Nat) : Nat → Option Nat → Option Nat
  | 0, o => o
  | _ + 1, none => none
  | n + 1, some k => rgF v b n (if nx v k = some b then none else nx v k)
theorem rgF_none {v : EdV} {b : Nat} : ∀ n, rgF v b n none = none := by
  intro n
  cases n <;> rfl
def nu1 (o : Option Nat) : Int32 := match o with
  | some k => nI (k + 1)
  | none => 0
def fnE (v : EdV) (x : Int32) : Option Nat := fndF (fun j => decide (((v.E j).1).toInt64 = x.toInt64)) v.nE 0
def fnV (v : EdV) (x : Int32) : Option Nat := fndF (fun j => decide (((v.V j).1).toInt64 = x.toInt64)) v.nV 0
theorem fnE_lt {v : EdV} {x : Int32} {k : Nat} (h : fnE v x = some k) : k < v.nE := by have := fndF_lt _ _ h; omega
theorem fnV_lt {v : EdV} {x : Int32} {k : Nat} (h : fnV v x = some k) : k < v.nV := by have := fndF_lt _ _ h; omega
/-- is a layer a variant's, from place j on -/
def isV (v : EdV) (k : Nat) : Nat → Nat → Bool
  | 0, _ => false
  | n + 1, j => if lyN v (v.V j).2.2.1 = some k then true else isV v k n (j + 1)
def lyF (v : EdV) : Nat → Nat → Option Nat
  | 0, _ => none
  | n + 1, j => if isV v j v.nV 0 then lyF v n (j + 1) else some j
/-- the layer that an answer speaks for -/
def lyA (v : EdV) (x : Int32) : Option Nat := match fnV v x with
  | some k => lyN v (v.V k).2.2.1
  | none => lyF v v.nL 0
theorem lyF_lt {v : EdV} {k : Nat} : ∀ {n j : Nat}, lyF v n j = some k → k < j + n := by
  intro n
  induction n with
  | zero => intro j h; cases h
  | succ n ih =>
    intro j h
    rw [lyF] at h
    split at h
    · have := ih h; omega
    · injection h with h; omega
theorem lyA_lt {v : EdV} {x : Int32} {k : Nat} (h : lyA v x = some k) : k < v.nL := by
  unfold lyA at h
  split at h
  · exact lyN_lt h
  · have := lyF_lt h; omega
theorem peI_lt {v : EdV} {c p k : Nat} (h : peI v c p = some k) : k < v.nP c := by
  unfold peI at h
  split at h
  · cases h
  · split at h
    · rename_i k2 h2
      split at h
      · injection h with h
        rw [← h]
        exact paN_lt h2
      · cases h
    · cases h
/-- the answers of service and parameter -/
def svA (v : EdV) (nm : Int64 → Int32) (ui : Option Nat) (c : Nat) (x : Int32) : Int32 :=
  if x = 0 then nm (v.S c).2.2.1 else if x = 1 then (v.S c).2.2.2 else if x = 2 then nI (v.nP c) else if x = 3 then nI ((v.S c).1 + 1) else if x = 4 then nIU v (v.S c).2.2.1 6 ui else -2
def paA (v : EdV) (nm : Int64 → Int32) (c p : Nat) (x : Int32) : Int32 :=
  if x = 0 then nm (v.P c p).2.1 else if x = 1 then nu1 (cdN v (v.P c p).2.2.1) else if x = 2 then (v.P c p).2.2.2.2.1 else if x = 3 then nu1 (peI v c p) else if x = 4 then (v.P c p).2.2.2.2.2.2.2 else -2
/-- the pointers are those of the meanings -/
def ZF (v : EdV) (AD : Nat → Nat → Nat) (z : PtV) : Prop := zLo v AD z ∧ zVl v AD z ∧ (∀ c, c < v.nS → zPr v AD z c) ∧ ∀ c, c < v.nJ → zOp v AD z c
theorem sw5 {x : Int32} {n : Nat} (hn : n < 5) (h : x.toInt = n) : x = nI n := i32_of (by omega) h
theorem sw5n {x : Int32} (h : x.toInt < 0 ∨ 4 < x.toInt) : ¬ x = 0 ∧ ¬ x = 1 ∧ ¬ x = 2 ∧ ¬ x = 3 ∧ ¬ x = 4 := by
  refine ⟨fun z => ?_, fun z => ?_, fun z => ?_, fun z => ?_, fun z => ?_⟩ <;> (rw [z] at h; revert h; decide)
