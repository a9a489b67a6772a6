/-! ===== names and what they mean, as functions of an edition's value ===== -/
def lyN (v : EdV) (nm : Int64) : Option Nat := fndF (fun j => decide ((v.L j).2.1 = nm)) v.nL 0
def cdN (v : EdV) (nm : Int64) : Option Nat := fndF (fun j => decide ((v.C j).1.2.1 = nm)) v.nC 0
def svN (v : EdV) (nm : Int64) : Option Nat := fndF (fun j => decide ((v.S j).2.2.1 = nm)) v.nS 0
def jbN (v : EdV) (nm : Int64) : Option Nat := fndF (fun j => decide ((v.J j).2 = nm)) v.nJ 0
def paN (v : EdV) (c : Nat) (nm : Int64) : Option Nat := fndF (fun j => decide ((v.P c j).2.1 = nm)) (v.nP c) 0
def svI (v : EdV) (li : Nat) (nm : Int64) : Option Nat := fndF (fun j => decide ((v.S j).1 = li) && decide ((v.S j).2.2.1 = nm)) v.nS 0
/-- the layer that a layer is of -/
def nx (v : EdV) (i : Nat) : Option Nat := if (v.L i).2.2.1 = 0 then none else lyN v (v.L i).2.2.1
def inR (v : EdV) (i : Nat) : Nat → Option Nat → Bool
  | 0, _ => false
  | _ + 1, none => false
  | n + 1, some j => if j = i then true else inR v i n (nx v j)
theorem lyN_lt {v : EdV} {nm : Int64} {k : Nat} (h : lyN v nm = some k) : k < v.nL := by have := fndF_lt _ _ h; omega
theorem cdN_lt {v : EdV} {nm : Int64} {k : Nat} (h : cdN v nm = some k) : k < v.nC := by have := fndF_lt _ _ h; omega
theorem svN_lt {v : EdV} {nm : Int64} {k : Nat} (h : svN v nm = some k) : k < v.nS := by have := fndF_lt _ _ h; omega
theorem jbN_lt {v : EdV} {nm : Int64} {k : Nat} (h : jbN v nm = some k) : k < v.nJ := by have := fndF_lt _ _ h; omega
theorem paN_lt {v : EdV} {c : Nat} {nm : Int64} {k : Nat} (h : paN v c nm = some k) : k < v.nP c := by have := fndF_lt _ _ h; omega
theorem svI_lt {v : EdV} {li : Nat} {nm : Int64} {k : Nat} (h : svI v li nm = some k) : k < v.nS := by have := fndF_lt _ _ h; omega
theorem nx_lt {v : EdV} {i k : Nat} (h : nx v i = some k) : k < v.nL := by
  unfold nx at h
  split at h
  · cases h
  · exact lyN_lt h
/-- is what was found the one that is meant -/
theorem map_eq {o : Option Nat} {f : Nat → Nat} {n i : Nat} (hl : ∀ k, o = some k → k < n) (hi : i < n) (hj : ∀ a b, a < n → b < n → f a = f b → a = b) : (o.map f = some (f i)) ↔ o = some i := by
  constructor
  · intro h
    cases o with
    | none => cases h
    | some k => exact congrArg some (hj k i (hl k rfl) hi (Option.some.inj h))
  · intro h
    rw [h]; rfl
theorem ex1_map {rt : Bool} {a : Int32} {w : Int32 × Option Nat} {f : Nat → Nat} : ex1 rt a (w.1, w.2.map f) = ((ex1 rt a w).1, (ex1 rt a w).2.map f) := by
  unfold ex1
  simp only []
  split <;> rfl
theorem exN_map {nC : Nat} {zs za : Nat → Int32} {f : Nat → Nat} : ∀ {m j : Nat} {w : Int32 × Option Nat}, exN nC zs za m j (w.1, w.2.map f) = ((exN nC zs za m j w).1, (exN nC zs za m j w).2.map f) := by
  intro m
  induction m with
  | zero => intro j w; rfl
  | succ m ih =>
    intro j w
    rw [exN, exN, ex1_map]
    exact ih
/-- layers: names once, what they are of; then rings -/
def lS (v : EdV) (j : Nat) (w : Int32 × Option Nat) : Int32 × Option Nat := if (v.L j).2.2.1 = 0 then ex1 (decide (lyN v (v.L j).2.1 = some j)) (v.L j).1 w else ex1 (lyN v (v.L j).2.2.1).isSome (v.L j).2.2.2 (ex1 (decide (lyN v (v.L j).2.1 = some j)) (v.L j).1 w)
def mL1 (v : EdV) : Nat → Nat → Int32 × Option Nat → Int32 × Option Nat
  | 0, _, w => w
  | n + 1, j, w => mL1 v n (j + 1) (lS v j w)
def rS (v : EdV) (j : Nat) (w : Int32 × Option Nat) : Int32 × Option Nat := if (inR v j 6 (nx v j) && isF w.1 (v.L j).2.2.2) = true then ((v.L j).2.2.2, some j) else w
def mL2 (v : EdV) : Nat → Nat → Int32 × Option Nat → Int32 × Option Nat
  | 0, _, w => w
  | n + 1, j, w => mL2 v n (j + 1) (rS v j w)
def eB (v : EdV) (c j : Nat) : Bool := match paN v c (v.P c j).2.2.2.2.2.1 with
  | some k => decide (k < j)
  | none => false
def pS (v : EdV) (c j : Nat) (w : Int32 × Option Nat) : Int32 × Option Nat :=
  if (v.P c j).2.2.2.2.1 = 0 then ex1 (cdN v (v.P c j).2.2.1).isSome (v.P c j).2.2.2.1 (ex1 (decide (paN v c (v.P c j).2.1 = some j)) (v.P c j).1 w)
  else ex1 (eB v c j) (v.P c j).2.2.2.2.2.2.1 (ex1 (cdN v (v.P c j).2.2.1).isSome (v.P c j).2.2.2.1 (ex1 (decide (paN v c (v.P c j).2.1 = some j)) (v.P c j).1 w))
def mP (v : EdV) (c : Nat) : Nat → Nat → Int32 × Option Nat → Int32 × Option Nat
  | 0, _, w => w
  | n + 1, j, w => mP v c n (j + 1) (pS v c j w)
def mV (v : EdV) : Nat → Nat → Int32 × Option Nat → Int32 × Option Nat
  | 0, _, w => w
  | n + 1, j, w => mV v n (j + 1) (ex1 (lyN v (v.V j).2.2.1).isSome (v.V j).2.2.2 w)
/-- what a GET asks for -/
def opS (v : EdV) (d : OpD) : Option Nat := if d.1 = 26 then svN v d.2.2.1 else none
def opP (v : EdV) (d : OpD) : Option (Nat × Nat) := match opS v d with
  | none => none
  | some k => (paN v k d.2.2.2.2.1).map (fun p => (k, p))
def oS (v : EdV) (c j : Nat) (w : Int32 × Option Nat) : Int32 × Option Nat := if (v.O c j).1 = 26 then ex1 (opP v (v.O c j)).isSome (v.O c j).2.2.2.2.2.1 (ex1 (opS v (v.O c j)).isSome (v.O c j).2.2.2.1 w) else w
def mO (v : EdV) (c : Nat) : Nat → Nat → Int32 × Option Nat → Int32 × Option Nat
  | 0, _, w => w
  | n + 1, j, w => mO v c n (j + 1) (oS v c j w)
def onR (v : EdV) (c : Nat) (w : Int32 × Option Nat) : Int32 × Option Nat := exN (v.nR c) (fun i => (v.R c i).1) (fun i => (v.R c i).2.1) (v.nR c) 0 w
def onE (v : EdV) (w : Int32 × Option Nat) : Int32 × Option Nat := exN v.nE (fun i => (v.E i).1) (fun i => (v.E i).2.1) v.nE 0 w
def onV (v : EdV) (w : Int32 × Option Nat) : Int32 × Option Nat := exN v.nV (fun i => (v.V i).1) (fun i => (v.V i).2.1) v.nV 0 w
def mC (v : EdV) : Nat → Nat → Int32 × Option Nat → Int32 × Option Nat
  | 0, _, w => w
  | n + 1, j, w => mC v n (j + 1) (onR v j (ex1 (decide (cdN v (v.C j).1.2.1 = some j)) (v.C j).1.1 w))
def mS (v : EdV) : Nat → Nat → Int32 × Option Nat → Int32 × Option Nat
  | 0, _, w => w
  | n + 1, j, w => mS v n (j + 1) (mP v j (v.nP j) 0 (ex1 (decide (svI v (v.S j).1 (v.S j).2.2.1 = some j)) (v.S j).2.1 w))
def mJ (v : EdV) : Nat → Nat → Int32 × Option Nat → Int32 × Option Nat
  | 0, _, w => w
  | n + 1, j, w => mJ v n (j + 1) (mO v j (v.nO j) 0 (ex1 (decide (jbN v (v.J j).2 = some j)) (v.J j).1 w))
def mLy (v : EdV) (w : Int32 × Option Nat) : Int32 × Option Nat := mL2 v v.nL 0 (mL1 v v.nL 0 w)
/-- the first wrong place, the ring's start -/
def mAll (v : EdV) (w : Int32 × Option Nat) : Int32 × Option Nat := mJ v v.nJ 0 (mV v v.nV 0 (onV v (onE v (mS v v.nS 0 (mC v v.nC 0 (mLy v w))))))
/-- the pointers of an edition whose meanings were found -/
def peI (v : EdV) (c p : Nat) : Option Nat := if (v.P c p).2.2.2.2.1 = 0 then none else match paN v c (v.P c p).2.2.2.2.2.1 with
  | some k => if k < p then some k else none
  | none => none
def zLo (v : EdV) (AD : Nat → Nat → Nat) (z : PtV) : Prop := ∀ i, i < v.nL → z.lo i = (nx v i).map (AD 1)
def zVl (v : EdV) (AD : Nat → Nat → Nat) (z : PtV) : Prop := ∀ i, i < v.nV → z.vl i = (lyN v (v.V i).2.2.1).map (AD 1)
def zPr (v : EdV) (AD : Nat → Nat → Nat) (z : PtV) (c : Nat) : Prop := ∀ p, p < v.nP c → z.pc c p = (cdN v (v.P c p).2.2.1).map (AD 0) ∧ z.pe c p = (peI v c p).map (AD (20 + c))
def zOp (v : EdV) (AD : Nat → Nat → Nat) (z : PtV) (c : Nat) : Prop := ∀ i, i < v.nO c → z.fo c i = (opS v (v.O c i)).map (AD 2) ∧ z.wo c i = (opP v (v.O c i)).map (fun y => AD (20 + y.1) y.2)
theorem ex1_f {a : Int32} {w : Int32 × Option Nat} (h : isF w.1 a = true) : ex1 false a w = (a, none) := by
  unfold ex1
  rw [if_pos ⟨rfl, h⟩, if_pos ⟨rfl, h⟩]
theorem LiS.le {cy : Nat → ClassId} {e0 : Nat} {G : Nat → Option va_E} {al ea n : Nat} {f : Nat → Nat} (h : LiS cy e0 G al ea n f) : n ≤ 109 := by
  obtain ⟨mo, -, h | ⟨a, b, -⟩⟩ := h
  · omega
  · exact Nat.le_trans b (cpf_le n)
/-- all else of the pointers stands -/
def zOth (z z2 : PtV) : Prop := z2.pd = z.pd ∧ z2.jh = z.jh ∧ z2.pv = z.pv
/-- nothing of it was found yet -/
def z0P (z : PtV) (c : Nat) : Prop := ∀ p, z.pc c p = none ∧ z.pe c p = none
def z0O (z : PtV) (c : Nat) : Prop := ∀ p, z.fo c p = none ∧ z.wo c p = none
section

variable {cy : Nat → ClassId} {e0 : Nat} {tk : Nat → Nat} {G0 : Nat → Option va_E} {Bx : Nat → Prop} {G G2 : Nat → Option va_E} {v : EdV} {z : PtV} {LA EA : Nat → Nat} {AD : Nat → Nat → Nat} {PI : Nat → Nat}
/-- only the edition's own cell was written -/
theorem EDP.mve (h : EDP cy e0 tk G0 Bx G v z LA EA AD PI) {o : Nat} {fs fs2 : List Value} (hBo : Bx o) (h0 : G o = some (.inr (3, fs))) (ho2 : G2 o = some (.inr (3, fs2))) (hf : ∀ (x : Nat) (e : va_E), G x = some e → x ≠ o → G2 x = some e) : EDP cy e0 tk G0 Bx G2 v z LA EA AD PI := by
  obtain ⟨w1, w2, w3, w4⟩ := h.oW (Or.inr rfl) h0
  exact h.mvG (fun y => y = o) (fun y hy => by rw [hy]; exact hBo) w1 w2 w3 w4 (fun y hy => by rw [hy]; exact ⟨_, ho2⟩) hf
theorem EDP.nmL (h : EDP cy e0 tk G0 Bx G v z LA EA AD PI) : ∀ j, j < v.nL → G (AD 1 j) = some (.inr (6, laF j (v.L j) (z.lo j))) ∧ (laF j (v.L j) (z.lo j))[2]? = some (.long (v.L j).2.1) := fun _ hj => ⟨h.elL hj, rfl⟩
theorem EDP.nmC (h : EDP cy e0 tk G0 Bx G v z LA EA AD PI) : ∀ j, j < v.nC → G (AD 0 j) = some (.inr (2, coF j (v.C j) (LA (6 + j)))) ∧ (coF j (v.C j) (LA (6 + j)))[2]? = some (.long (v.C j).1.2.1) := fun _ hj => ⟨h.elC hj, rfl⟩
theorem EDP.nmS (h : EDP cy e0 tk G0 Bx G v z LA EA AD PI) : ∀ j, j < v.nS → G (AD 2 j) = some (.inr (11, seF j (v.S j).2 (AD 1 (v.S j).1) (LA (20 + j)))) ∧ (seF j (v.S j).2 (AD 1 (v.S j).1) (LA (20 + j)))[3]? = some (.long (v.S j).2.2.1) := fun _ hj => ⟨h.elS hj, rfl⟩
theorem EDP.nmI (h : EDP cy e0 tk G0 Bx G v z LA EA AD PI) : ∀ j, j < v.nS → G (AD 2 j) = some (.inr (11, seF j (v.S j).2 (AD 1 (v.S j).1) (LA (20 + j)))) ∧ (seF j (v.S j).2 (AD 1 (v.S j).1) (LA (20 + j)))[1]? = some (.ref (AD 1 (v.S j).1)) ∧ (seF j (v.S j).2 (AD 1 (v.S j).1) (LA (20 + j)))[3]? = some (.long (v.S j).2.2.1) := fun _ hj => ⟨h.elS hj, rfl, rfl⟩
theorem EDP.nmJ (h : EDP cy e0 tk G0 Bx G v z LA EA AD PI) : ∀ j, j < v.nJ → G (AD 5 j) = some (.inr (5, joF (v.J j) (LA (40 + j)) (PI j) (z.jh j))) ∧ (joF (v.J j) (LA (40 + j)) (PI j) (z.jh j))[1]? = some (.long (v.J j).2) := fun _ hj => ⟨h.elJ hj, rfl⟩
theorem EDP.nmP (h : EDP cy e0 tk G0 Bx G v z LA EA AD PI) {c : Nat} (hc : c < v.nS) : ∀ j, j < v.nP c → G (AD (20 + c) j) = some (.inr (9, prF j (v.P c j) (z.pc c j) (z.pe c j) (z.pd c j))) ∧ (prF j (v.P c j) (z.pc c j) (z.pe c j) (z.pd c j))[2]? = some (.long (v.P c j).2.1) := fun _ hj => ⟨h.elP hc hj, rfl⟩
theorem EDP.nmR (h : EDP cy e0 tk G0 Bx G v z LA EA AD PI) {c : Nat} (hc : c < v.nC) : ∀ j, j < v.nR c → G (AD (6 + c) j) = some (.inr (4, enF (v.R c j) none)) ∧ (enF (v.R c j) none)[0]? = some (.int (v.R c j).1) ∧ (enF (v.R c j) none)[1]? = some (.int (v.R c j).2.1) := fun _ hj => ⟨h.elR hc hj, rfl, rfl⟩
theorem EDP.nmE (h : EDP cy e0 tk G0 Bx G v z LA EA AD PI) : ∀ j, j < v.nE → G (AD 3 j) = some (.inr (4, enF (v.E j) none)) ∧ (enF (v.E j) none)[0]? = some (.int (v.E j).1) ∧ (enF (v.E j) none)[1]? = some (.int (v.E j).2.1) := fun _ hj => ⟨h.elE hj, rfl, rfl⟩
theorem EDP.nmV (h : EDP cy e0 tk G0 Bx G v z LA EA AD PI) : ∀ j, j < v.nV → G (AD 4 j) = some (.inr (4, enF (v.V j) (z.vl j))) ∧ (enF (v.V j) (z.vl j))[0]? = some (.int (v.V j).1) ∧ (enF (v.V j) (z.vl j))[1]? = some (.int (v.V j).2.1) := fun _ hj => ⟨h.elV hj, rfl, rfl⟩
/-- services that are found by layer and name, by the layer's number -/
theorem EDP.svI (h : EDP cy e0 tk G0 Bx G v z LA EA AD PI) {li : Nat} {nm : Int64} (hl : li < v.nL) : fndF (fun j => decide (AD 1 (v.S j).1 = AD 1 li) && decide ((v.S j).2.2.1 = nm)) v.nS 0 = svI v li nm := by
  refine fndF_cg (fun i _ hi => ?_)
  have h1 := h.sl i (by omega)
  by_cases e : (v.S i).1 = li
  · rw [decide_eq_true e, e, decide_eq_true rfl]
  · rw [decide_eq_false e, decide_eq_false (fun y => e (h.inL _ _ h1 hl y))]
end
