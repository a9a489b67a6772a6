/-- an edition as it was read: what stands in its lists -/
def EdV : Type := ((Nat) × (Nat → (Int32 × Int64 × Int32) × (Int32 × Int32 × Int64 × Int64 × Int64)) × (Nat → Nat) × (Nat → Nat → RwD)) × ((Nat) × (Nat → Int32 × Int64 × Int64 × Int32)) × ((Nat) × (Nat → Nat × (Int32 × Int64 × Int32)) × (Nat → Nat) × (Nat → Nat → PrD)) × ((Nat) × (Nat → RwD)) × ((Nat) × (Nat → RwD)) × ((Nat) × (Nat → Int32 × Int64) × (Nat → Nat) × (Nat → Nat → OpD))
def EdV.nC (v : EdV) : Nat := v.1.1
def EdV.C (v : EdV) : Nat → (Int32 × Int64 × Int32) × (Int32 × Int32 × Int64 × Int64 × Int64) := v.1.2.1
def EdV.nR (v : EdV) : Nat → Nat := v.1.2.2.1
def EdV.R (v : EdV) : Nat → Nat → RwD := v.1.2.2.2
def EdV.nL (v : EdV) : Nat := v.2.1.1
def EdV.L (v : EdV) : Nat → Int32 × Int64 × Int64 × Int32 := v.2.1.2
def EdV.nS (v : EdV) : Nat := v.2.2.1.1
def EdV.S (v : EdV) : Nat → Nat × (Int32 × Int64 × Int32) := v.2.2.1.2.1
def EdV.nP (v : EdV) : Nat → Nat := v.2.2.1.2.2.1
def EdV.P (v : EdV) : Nat → Nat → PrD := v.2.2.1.2.2.2
def EdV.nE (v : EdV) : Nat := v.2.2.2.1.1
def EdV.E (v : EdV) : Nat → RwD := v.2.2.2.1.2
def EdV.nV (v : EdV) : Nat := v.2.2.2.2.1.1
def EdV.V (v : EdV) : Nat → RwD := v.2.2.2.2.1.2
def EdV.nJ (v : EdV) : Nat := v.2.2.2.2.2.1
def EdV.J (v : EdV) : Nat → Int32 × Int64 := v.2.2.2.2.2.2.1
def EdV.nO (v : EdV) : Nat → Nat := v.2.2.2.2.2.2.2.1
def EdV.O (v : EdV) : Nat → Nat → OpD := v.2.2.2.2.2.2.2.2
/-- its links, and what changes in it later -/
def PtV : Type := (Nat → Option Nat) × (Nat → Option Nat) × (Nat → Nat → Option Nat) × (Nat → Nat → Option Nat) × (Nat → Nat → Int32 × Int32 × Int64 × Int64) × (Nat → Nat → Option Nat) × (Nat → Nat → Option Nat) × (Nat → Int32) × (Nat → Nat → Int64)
def PtV.lo (z : PtV) : Nat → Option Nat := z.1
def PtV.vl (z : PtV) : Nat → Option Nat := z.2.1
def PtV.pc (z : PtV) : Nat → Nat → Option Nat := z.2.2.1
def PtV.pe (z : PtV) : Nat → Nat → Option Nat := z.2.2.2.1
def PtV.pd (z : PtV) : Nat → Nat → Int32 × Int32 × Int64 × Int64 := z.2.2.2.2.1
def PtV.fo (z : PtV) : Nat → Nat → Option Nat := z.2.2.2.2.2.1
def PtV.wo (z : PtV) : Nat → Nat → Option Nat := z.2.2.2.2.2.2.1
def PtV.jh (z : PtV) : Nat → Int32 := z.2.2.2.2.2.2.2.1
def PtV.pv (z : PtV) : Nat → Nat → Int64 := z.2.2.2.2.2.2.2.2
def EdV.nil : EdV := ((0, fun _ => ((0, 0, 0), (0, 0, 0, 0, 0)), fun _ => 0, fun _ _ => (0, 0, 0, 0)), (0, fun _ => (0, 0, 0, 0)), (0, fun _ => (0, 0, 0, 0), fun _ => 0, fun _ => d0P), (0, fun _ => (0, 0, 0, 0)), (0, fun _ => (0, 0, 0, 0)), (0, fun _ => (0, 0), fun _ => 0, fun _ => d0O))
def PtV.nil : PtV := (fun _ => none, fun _ => none, fun _ _ => none, fun _ _ => none, fun _ _ => (0, 0, 0, 0), fun _ _ => none, fun _ _ => none, fun _ => 0, fun _ _ => 0)
def EdV.addC (v : EdV) (x : (Int32 × Int64 × Int32) × (Int32 × Int32 × Int64 × Int64 × Int64) × (Nat × (Nat → RwD))) : EdV := ((v.nC + 1, up1 v.C v.nC (x.1, x.2.1), up1 v.nR v.nC x.2.2.1, up1 v.R v.nC x.2.2.2), v.2)
def EdV.addL (v : EdV) (x : Int32 × Int64 × Int64 × Int32) : EdV := (v.1, (v.nL + 1, up1 v.L v.nL x), v.2.2)
def EdV.addS (v : EdV) (la : Nat) (x : (Int32 × Int64 × Int32) × (Nat × (Nat → PrD))) : EdV := (v.1, v.2.1, (v.nS + 1, up1 v.S v.nS (la, x.1), up1 v.nP v.nS x.2.1, up1 v.P v.nS x.2.2), v.2.2.2)
def EdV.addE (v : EdV) (x : RwD) : EdV := (v.1, v.2.1, v.2.2.1, (v.nE + 1, up1 v.E v.nE x), v.2.2.2.2)
def EdV.addV (v : EdV) (x : RwD) : EdV := (v.1, v.2.1, v.2.2.1, v.2.2.2.1, (v.nV + 1, up1 v.V v.nV x), v.2.2.2.2.2)
def EdV.addJ (v : EdV) (x : (Int32 × Int64) × (Nat × (Nat → OpD))) : EdV := (v.1, v.2.1, v.2.2.1, v.2.2.2.1, v.2.2.2.2.1, (v.nJ + 1, up1 v.J v.nJ x.1, up1 v.nO v.nJ x.2.1, up1 v.O v.nJ x.2.2))
theorem addC_nC (v : EdV) (x : (Int32 × Int64 × Int32) × (Int32 × Int32 × Int64 × Int64 × Int64) × (Nat × (Nat → RwD))) : (v.addC x).nC = v.nC + 1 := rfl
theorem addC_C (v : EdV) (x : (Int32 × Int64 × Int32) × (Int32 × Int32 × Int64 × Int64 × Int64) × (Nat × (Nat → RwD))) : (v.addC x).C = up1 v.C v.nC (x.1, x.2.1) := rfl
theorem addC_nR (v : EdV) (x : (Int32 × Int64 × Int32) × (Int32 × Int32 × Int64 × Int64 × Int64) × (Nat × (Nat → RwD))) : (v.addC x).nR = up1 v.nR v.nC x.2.2.1 := rfl
theorem addC_R (v : EdV) (x : (Int32 × Int64 × Int32) × (Int32 × Int32 × Int64 × Int64 × Int64) × (Nat × (Nat → RwD))) : (v.addC x).R = up1 v.R v.nC x.2.2.2 := rfl
theorem addC_nL (v : EdV) (x : (Int32 × Int64 × Int32) × (Int32 × Int32 × Int64 × Int64 × Int64) × (Nat × (Nat → RwD))) : (v.addC x).nL = v.nL := rfl
theorem addC_L (v : EdV) (x : (Int32 × Int64 × Int32) × (Int32 × Int32 × Int64 × Int64 × Int64) × (Nat × (Nat → RwD))) : (v.addC x).L = v.L := rfl
theorem addC_nS (v : EdV) (x : (Int32 × Int64 × Int32) × (Int32 × Int32 × Int64 × Int64 × Int64) × (Nat × (Nat → RwD))) : (v.addC x).nS = v.nS := rfl
theorem addC_S (v : EdV) (x : (Int32 × Int64 × Int32) × (Int32 × Int32 × Int64 × Int64 × Int64) × (Nat × (Nat → RwD))) : (v.addC x).S = v.S := rfl
theorem addC_nP (v : EdV) (x : (Int32 × Int64 × Int32) × (Int32 × Int32 × Int64 × Int64 × Int64) × (Nat × (Nat → RwD))) : (v.addC x).nP = v.nP := rfl
theorem addC_P (v : EdV) (x : (Int32 × Int64 × Int32) × (Int32 × Int32 × Int64 × Int64 × Int64) × (Nat × (Nat → RwD))) : (v.addC x).P = v.P := rfl
theorem addC_nE (v : EdV) (x : (Int32 × Int64 × Int32) × (Int32 × Int32 × Int64 × Int64 × Int64) × (Nat × (Nat → RwD))) : (v.addC x).nE = v.nE := rfl
theorem addC_E (v : EdV) (x : (Int32 × Int64 × Int32) × (Int32 × Int32 × Int64 × Int64 × Int64) × (Nat × (Nat → RwD))) : (v.addC x).E = v.E := rfl
theorem addC_nV (v : EdV) (x : (Int32 × Int64 × Int32) × (Int32 × Int32 × Int64 × Int64 × Int64) × (Nat × (Nat → RwD))) : (v.addC x).nV = v.nV := rfl
theorem addC_V (v : EdV) (x : (Int32 × Int64 × Int32) × (Int32 × Int32 × Int64 × Int64 × Int64) × (Nat × (Nat → RwD))) : (v.addC x).V = v.V := rfl
theorem addC_nJ (v : EdV) (x : (Int32 × Int64 × Int32) × (Int32 × Int32 × Int64 × Int64 × Int64) × (Nat × (Nat → RwD))) : (v.addC x).nJ = v.nJ := rfl
theorem addC_J (v : EdV) (x : (Int32 × Int64 × Int32) × (Int32 × Int32 × Int64 × Int64 × Int64) × (Nat × (Nat → RwD))) : (v.addC x).J = v.J := rfl
theorem addC_nO (v : EdV) (x : (Int32 × Int64 × Int32) × (Int32 × Int32 × Int64 × Int64 × Int64) × (Nat × (Nat → RwD))) : (v.addC x).nO = v.nO := rfl
theorem addC_O (v : EdV) (x : (Int32 × Int64 × Int32) × (Int32 × Int32 × Int64 × Int64 × Int64) × (Nat × (Nat → RwD))) : (v.addC x).O = v.O := rfl
theorem addL_nC (v : EdV) (x : Int32 × Int64 × Int64 × Int32) : (v.addL x).nC = v.nC := rfl
theorem addL_C (v : EdV) (x : Int32 × Int64 × Int64 × Int32) : (v.addL x).C = v.C := rfl
theorem addL_nR (v : EdV) (x : Int32 × Int64 × Int64 × Int32) : (v.addL x).nR = v.nR := rfl
theorem addL_R (v : EdV) (x : Int32 × Int64 × Int64 × Int32) : (v.addL x).R = v.R := rfl
theorem addL_nL (v : EdV) (x : Int32 × Int64 × Int64 × Int32) : (v.addL x).nL = v.nL + 1 := rfl
theorem addL_L (v : EdV) (x : Int32 × Int64 × Int64 × Int32) : (v.addL x).L = up1 v.L v.nL x := rfl
theorem addL_nS (v : EdV) (x : Int32 × Int64 × Int64 × Int32) : (v.addL x).nS = v.nS := rfl
theorem addL_S (v : EdV) (x : Int32 × Int64 × Int64 × Int32) : (v.addL x).S = v.S := rfl
theorem addL_nP (v : EdV) (x : Int32 × Int64 × Int64 × Int32) : (v.addL x).nP = v.nP := rfl
theorem addL_P (v : EdV) (x : Int32 × Int64 × Int64 × Int32) : (v.addL x).P = v.P := rfl
theorem addL_nE (v : EdV) (x : Int32 × Int64 × Int64 × Int32) : (v.addL x).nE = v.nE := rfl
theorem addL_E (v : EdV) (x : Int32 × Int64 × Int64 × Int32) : (v.addL x).E = v.E := rfl
theorem addL_nV (v : EdV) (x : Int32 × Int64 × Int64 × Int32) : (v.addL x).nV = v.nV := rfl
theorem addL_V (v : EdV) (x : Int32 × Int64 × Int64 × Int32) : (v.addL x).V = v.V := rfl
theorem addL_nJ (v : EdV) (x : Int32 × Int64 × Int64 × Int32) : (v.addL x).nJ = v.nJ := rfl
theorem addL_J (v : EdV) (x : Int32 × Int64 × Int64 × Int32) : (v.addL x).J = v.J := rfl
theorem addL_nO (v : EdV) (x : Int32 × Int64 × Int64 × Int32) : (v.addL x).nO = v.nO := rfl
theorem addL_O (v : EdV) (x : Int32 × Int64 × Int64 × Int32) : (v.addL x).O = v.O := rfl
theorem addS_nC (v : EdV) (la : Nat) (x : (Int32 × Int64 × Int32) × (Nat × (Nat → PrD))) : (v.addS la x).nC = v.nC := rfl
theorem addS_C (v : EdV) (la : Nat) (x : (Int32 × Int64 × Int32) × (Nat × (Nat → PrD))) : (v.addS la x).C = v.C := rfl
theorem addS_nR (v : EdV) (la : Nat) (x : (Int32 × Int64 × Int32) × (Nat × (Nat → PrD))) : (v.addS la x).nR = v.nR := rfl
theorem addS_R (v : EdV) (la : Nat) (x : (Int32 × Int64 × Int32) × (Nat × (Nat → PrD))) : (v.addS la x).R = v.R := rfl
theorem addS_nL (v : EdV) (la : Nat) (x : (Int32 × Int64 × Int32) × (Nat × (Nat → PrD))) : (v.addS la x).nL = v.nL := rfl
theorem addS_L (v : EdV) (la : Nat) (x : (Int32 × Int64 × Int32) × (Nat × (Nat → PrD))) : (v.addS la x).L = v.L := rfl
theorem addS_nS (v : EdV) (la : Nat) (x : (Int32 × Int64 × Int32) × (Nat × (Nat → PrD))) : (v.addS la x).nS = v.nS + 1 := rfl
theorem addS_S (v : EdV) (la : Nat) (x : (Int32 × Int64 × Int32) × (Nat × (Nat → PrD))) : (v.addS la x).S = up1 v.S v.nS (la, x.1) := rfl
theorem addS_nP (v : EdV) (la : Nat) (x : (Int32 × Int64 × Int32) × (Nat × (Nat → PrD))) : (v.addS la x).nP = up1 v.nP v.nS x.2.1 := rfl
theorem addS_P (v : EdV) (la : Nat) (x : (Int32 × Int64 × Int32) × (Nat × (Nat → PrD))) : (v.addS la x).P = up1 v.P v.nS x.2.2 := rfl
theorem addS_nE (v : EdV) (la : Nat) (x : (Int32 × Int64 × Int32) × (Nat × (Nat → PrD))) : (v.addS la x).nE = v.nE := rfl
theorem addS_E (v : EdV) (la : Nat) (x : (Int32 × Int64 × Int32) × (Nat × (Nat → PrD))) : (v.addS la x).E = v.E := rfl
theorem addS_nV (v : EdV) (la : Nat) (x : (Int32 × Int64 × Int32) × (Nat × (Nat → PrD))) : (v.addS la x).nV = v.nV := rfl
theorem addS_V (v : EdV) (la : Nat) (x : (Int32 × Int64 × Int32) × (Nat × (Nat → PrD))) : (v.addS la x).V = v.V := rfl
theorem addS_nJ (v : EdV) (la : Nat) (x : (Int32 × Int64 × Int32) × (Nat × (Nat → PrD))) : (v.addS la x).nJ = v.nJ := rfl
theorem addS_J (v : EdV) (la : Nat) (x : (Int32 × Int64 × Int32) × (Nat × (Nat → PrD))) : (v.addS la x).J = v.J := rfl
theorem addS_nO (v : EdV) (la : Nat) (x : (Int32 × Int64 × Int32) × (Nat × (Nat → PrD))) : (v.addS la x).nO = v.nO := rfl
theorem addS_O (v : EdV) (la : Nat) (x : (Int32 × Int64 × Int32) × (Nat × (Nat → PrD))) : (v.addS la x).O = v.O := rfl
theorem addE_nC (v : EdV) (x : RwD) : (v.addE x).nC = v.nC := rfl
theorem addE_C (v : EdV) (x : RwD) : (v.addE x).C = v.C := rfl
theorem addE_nR (v : EdV) (x : RwD) : (v.addE x).nR = v.nR := rfl
theorem addE_R (v : EdV) (x : RwD) : (v.addE x).R = v.R := rfl
theorem addE_nL (v : EdV) (x : RwD) : (v.addE x).nL = v.nL := rfl
theorem addE_L (v : EdV) (x : RwD) : (v.addE x).L = v.L := rfl
theorem addE_nS (v : EdV) (x : RwD) : (v.addE x).nS = v.nS := rfl
theorem addE_S (v : EdV) (x : RwD) : (v.addE x).S = v.S := rfl
theorem addE_nP (v : EdV) (x : RwD) : (v.addE x).nP = v.nP := rfl
theorem addE_P (v : EdV) (x : RwD) : (v.addE x).P = v.P := rfl
theorem addE_nE (v : EdV) (x : RwD) : (v.addE x).nE = v.nE + 1 := rfl
theorem addE_E (v : EdV) (x : RwD) : (v.addE x).E = up1 v.E v.nE x := rfl
theorem addE_nV (v : EdV) (x : RwD) : (v.addE x).nV = v.nV := rfl
theorem addE_V (v : EdV) (x : RwD) : (v.addE x).V = v.V := rfl
theorem addE_nJ (v : EdV) (x : RwD) : (v.addE x).nJ = v.nJ := rfl
theorem addE_J (v : EdV) (x : RwD) : (v.addE x).J = v.J := rfl
theorem addE_nO (v : EdV) (x : RwD) : (v.addE x).nO = v.nO := rfl
theorem addE_O (v : EdV) (x : RwD) : (v.addE x).O = v.O := rfl
theorem addV_nC (v : EdV) (x : RwD) : (v.addV x).nC = v.nC := rfl
theorem addV_C (v : EdV) (x : RwD) : (v.addV x).C = v.C := rfl
theorem addV_nR (v : EdV) (x : RwD) : (v.addV x).nR = v.nR := rfl
theorem addV_R (v : EdV) (x : RwD) : (v.addV x).R = v.R := rfl
theorem addV_nL (v : EdV) (x : RwD) : (v.addV x).nL = v.nL := rfl
theorem addV_L (v : EdV) (x : RwD) : (v.addV x).L = v.L := rfl
theorem addV_nS (v : EdV) (x : RwD) : (v.addV x).nS = v.nS := rfl
theorem addV_S (v : EdV) (x : RwD) : (v.addV x).S = v.S := rfl
theorem addV_nP (v : EdV) (x : RwD) : (v.addV x).nP = v.nP := rfl
theorem addV_P (v : EdV) (x : RwD) : (v.addV x).P = v.P := rfl
theorem addV_nE (v : EdV) (x : RwD) : (v.addV x).nE = v.nE := rfl
theorem addV_E (v : EdV) (x : RwD) : (v.addV x).E = v.E := rfl
theorem addV_nV (v : EdV) (x : RwD) : (v.addV x).nV = v.nV + 1 := rfl
theorem addV_V (v : EdV) (x : RwD) : (v.addV x).V = up1 v.V v.nV x := rfl
theorem addV_nJ (v : EdV) (x : RwD) : (v.addV x).nJ = v.nJ := rfl
theorem addV_J (v : EdV) (x : RwD) : (v.addV x).J = v.J := rfl
theorem addV_nO (v : EdV) (x : RwD) : (v.addV x).nO = v.nO := rfl
theorem addV_O (v : EdV) (x : RwD) : (v.addV x).O = v.O := rfl
theorem addJ_nC (v : EdV) (x : (Int32 × Int64) × (Nat × (Nat → OpD))) : (v.addJ x).nC = v.nC := rfl
theorem addJ_C (v : EdV) (x : (Int32 × Int64) × (Nat × (Nat → OpD))) : (v.addJ x).C = v.C := rfl
theorem addJ_nR (v : EdV) (x : (Int32 × Int64) × (Nat × (Nat → OpD))) : (v.addJ x).nR = v.nR := rfl
theorem addJ_R (v : EdV) (x : (Int32 × Int64) × (Nat × (Nat → OpD))) : (v.addJ x).R = v.R := rfl
theorem addJ_nL (v : EdV) (x : (Int32 × Int64) × (Nat × (Nat → OpD))) : (v.addJ x).nL = v.nL := rfl
theorem addJ_L (v : EdV) (x : (Int32 × Int64) × (Nat × (Nat → OpD))) : (v.addJ x).L = v.L := rfl
theorem addJ_nS (v : EdV) (x : (Int32 × Int64) × (Nat × (Nat → OpD))) : (v.addJ x).nS = v.nS := rfl
theorem addJ_S (v : EdV) (x : (Int32 × Int64) × (Nat × (Nat → OpD))) : (v.addJ x).S = v.S := rfl
theorem addJ_nP (v : EdV) (x : (Int32 × Int64) × (Nat × (Nat → OpD))) : (v.addJ x).nP = v.nP := rfl
theorem addJ_P (v : EdV) (x : (Int32 × Int64) × (Nat × (Nat → OpD))) : (v.addJ x).P = v.P := rfl
theorem addJ_nE (v : EdV) (x : (Int32 × Int64) × (Nat × (Nat → OpD))) : (v.addJ x).nE = v.nE := rfl
theorem addJ_E (v : EdV) (x : (Int32 × Int64) × (Nat × (Nat → OpD))) : (v.addJ x).E = v.E := rfl
theorem addJ_nV (v : EdV) (x : (Int32 × Int64) × (Nat × (Nat → OpD))) : (v.addJ x).nV = v.nV := rfl
theorem addJ_V (v : EdV) (x : (Int32 × Int64) × (Nat × (Nat → OpD))) : (v.addJ x).V = v.V := rfl
theorem addJ_nJ (v : EdV) (x : (Int32 × Int64) × (Nat × (Nat → OpD))) : (v.addJ x).nJ = v.nJ + 1 := rfl
theorem addJ_J (v : EdV) (x : (Int32 × Int64) × (Nat × (Nat → OpD))) : (v.addJ x).J = up1 v.J v.nJ x.1 := rfl
theorem addJ_nO (v : EdV) (x : (Int32 × Int64) × (Nat × (Nat → OpD))) : (v.addJ x).nO = up1 v.nO v.nJ x.2.1 := rfl
theorem addJ_O (v : EdV) (x : (Int32 × Int64) × (Nat × (Nat → OpD))) : (v.addJ x).O = up1 v.O v.nJ x.2.2 := rfl
def enF (d : RwD) (l : Option Nat) : List Value := [.int d.1, .int d.2.1, .long d.2.2.1, .int d.2.2.2, va_rf l]
def prF (i : Nat) (d : PrD) (c e : Option Nat) (y : Int32 × Int32 × Int64 × Int64) : List Value := [.int (nI (i + 1)), .int d.1, .long d.2.1, .long d.2.2.1, .int d.2.2.2.1, va_rf c, .int d.2.2.2.2.1, .long d.2.2.2.2.2.1, .int d.2.2.2.2.2.2.1, va_rf e, .int d.2.2.2.2.2.2.2, .int y.1, .int y.2.1, .long y.2.2.1, .long y.2.2.2]
def opF (tk : Nat → Nat) (d : OpD) (f w : Option Nat) : List Value := [.ref (tk d.1), .long d.2.1, .long d.2.2.1, .int d.2.2.2.1, va_rf f, .long d.2.2.2.2.1, .int d.2.2.2.2.2.1, va_rf w, .int d.2.2.2.2.2.2]
def coF (i : Nat) (d : (Int32 × Int64 × Int32) × (Int32 × Int32 × Int64 × Int64 × Int64)) (rl : Nat) : List Value := [.int (nI (i + 1)), .int d.1.1, .long d.1.2.1, .ref rl, .int d.1.2.2, .int d.2.1, .int d.2.2.1, .long d.2.2.2.1, .long d.2.2.2.2.1, .long d.2.2.2.2.2]
def laF (i : Nat) (d : Int32 × Int64 × Int64 × Int32) (o : Option Nat) : List Value := [.int (nI (i + 1)), .int d.1, .long d.2.1, .long d.2.2.1, .int d.2.2.2, va_rf o]
def seF (i : Nat) (d : Int32 × Int64 × Int32) (la pl : Nat) : List Value := [.int (nI (i + 1)), .ref la, .int d.1, .long d.2.1, .ref pl, .int d.2.2]
def joF (d : Int32 × Int64) (ol pi : Nat) (h : Int32) : List Value := [.int d.1, .long d.2, .ref ol, .ref pi, .int h]
def lnV (v : EdV) (k : Nat) : Nat := if k = 0 then v.nC else if k = 1 then v.nL else if k = 2 then v.nS else if k = 3 then v.nE else if k = 4 then v.nV else if k = 5 then v.nJ else if k < 20 then v.nR (k - 6) else if k < 40 then v.nP (k - 20) else v.nO (k - 40)
def lvV (v : EdV) (k : Nat) : Prop := k < 6 ∨ (6 ≤ k ∧ k < 6 + v.nC) ∨ (20 ≤ k ∧ k < 20 + v.nS) ∨ (40 ≤ k ∧ k < 40 + v.nJ)
def fsV (tk : Nat → Nat) (v : EdV) (z : PtV) (LA : Nat → Nat) (AD : Nat → Nat → Nat) (PI : Nat → Nat) (k i : Nat) : List Value :=
  if k = 0 then coF i (v.C i) (LA (6 + i)) else if k = 1 then laF i (v.L i) (z.lo i) else if k = 2 then seF i (v.S i).2 (AD 1 (v.S i).1) (LA (20 + i))
  else if k = 3 then enF (v.E i) none else if k = 4 then enF (v.V i) (z.vl i) else if k = 5 then joF (v.J i) (LA (40 + i)) (PI i) (z.jh i)
  else if k < 20 then enF (v.R (k - 6) i) none else if k < 40 then prF i (v.P (k - 20) i) (z.pc (k - 20) i) (z.pe (k - 20) i) (z.pd (k - 20) i) else opF tk (v.O (k - 40) i) (z.fo (k - 40) i) (z.wo (k - 40) i)
def EDP (cy : Nat → ClassId) (e0 : Nat) (tk : Nat → Nat) (G0 : Nat → Option va_E) (Bx : Nat → Prop) (G : Nat → Option va_E) (v : EdV) (z : PtV) (LA EA : Nat → Nat) (AD : Nat → Nat → Nat) (PI : Nat → Nat) : Prop :=
  (LSS cy e0 G0 Bx G (lvV v) LA EA (lnV v) AD (fsV tk v z LA AD PI)) ∧ (v.nC ≤ 13 ∧ v.nL ≤ 7 ∧ v.nS ≤ 17 ∧ v.nE ≤ 13 ∧ v.nV ≤ 7 ∧ v.nJ ≤ 5) ∧ (∀ i, i < v.nS → (v.S i).1 < v.nL) ∧ (∀ i, i < v.nJ → G (PI i) = some (.inl (cy 2, 16, .inr (.inl (z.pv i))))) ∧ (∀ i, i < v.nJ → G0 (PI i) = none) ∧ (∀ i j, i < v.nJ → j < v.nJ → PI i = PI j → i = j)
theorem EDP.L {cy : Nat → ClassId} {e0 : Nat} {tk : Nat → Nat} {G0 : Nat → Option va_E} {Bx : Nat → Prop} {G : Nat → Option va_E} {v : EdV} {z : PtV} {LA EA : Nat → Nat} {AD : Nat → Nat → Nat} {PI : Nat → Nat} (h : EDP cy e0 tk G0 Bx G v z LA EA AD PI) : LSS cy e0 G0 Bx G (lvV v) LA EA (lnV v) AD (fsV tk v z LA AD PI) := h.1
theorem EDP.b {cy : Nat → ClassId} {e0 : Nat} {tk : Nat → Nat} {G0 : Nat → Option va_E} {Bx : Nat → Prop} {G : Nat → Option va_E} {v : EdV} {z : PtV} {LA EA : Nat → Nat} {AD : Nat → Nat → Nat} {PI : Nat → Nat} (h : EDP cy e0 tk G0 Bx G v z LA EA AD PI) : v.nC ≤ 13 ∧ v.nL ≤ 7 ∧ v.nS ≤ 17 ∧ v.nE ≤ 13 ∧ v.nV ≤ 7 ∧ v.nJ ≤ 5 := h.2.1
theorem EDP.sl {cy : Nat → ClassId} {e0 : Nat} {tk : Nat → Nat} {G0 : Nat → Option va_E} {Bx : Nat → Prop} {G : Nat → Option va_E} {v : EdV} {z : PtV} {LA EA : Nat → Nat} {AD : Nat → Nat → Nat} {PI : Nat → Nat} (h : EDP cy e0 tk G0 Bx G v z LA EA AD PI) : ∀ i, i < v.nS → (v.S i).1 < v.nL := h.2.2.1
theorem EDP.pi {cy : Nat → ClassId} {e0 : Nat} {tk : Nat → Nat} {G0 : Nat → Option va_E} {Bx : Nat → Prop} {G : Nat → Option va_E} {v : EdV} {z : PtV} {LA EA : Nat → Nat} {AD : Nat → Nat → Nat} {PI : Nat → Nat} (h : EDP cy e0 tk G0 Bx G v z LA EA AD PI) : ∀ i, i < v.nJ → G (PI i) = some (.inl (cy 2, 16, .inr (.inl (z.pv i)))) := h.2.2.2.1
theorem EDP.pn {cy : Nat → ClassId} {e0 : Nat} {tk : Nat → Nat} {G0 : Nat → Option va_E} {Bx : Nat → Prop} {G : Nat → Option va_E} {v : EdV} {z : PtV} {LA EA : Nat → Nat} {AD : Nat → Nat → Nat} {PI : Nat → Nat} (h : EDP cy e0 tk G0 Bx G v z LA EA AD PI) : ∀ i, i < v.nJ → G0 (PI i) = none := h.2.2.2.2.1
theorem EDP.pj {cy : Nat → ClassId} {e0 : Nat} {tk : Nat → Nat} {G0 : Nat → Option va_E} {Bx : Nat → Prop} {G : Nat → Option va_E} {v : EdV} {z : PtV} {LA EA : Nat → Nat} {AD : Nat → Nat → Nat} {PI : Nat → Nat} (h : EDP cy e0 tk G0 Bx G v z LA EA AD PI) : ∀ i j, i < v.nJ → j < v.nJ → PI i = PI j → i = j := h.2.2.2.2.2
section

variable {cy : Nat → ClassId} {e0 : Nat} {tk : Nat → Nat} {G0 : Nat → Option va_E} {Bx : Nat → Prop} {G G2 : Nat → Option va_E} {v : EdV} {z : PtV} {LA EA : Nat → Nat} {AD : Nat → Nat → Nat} {PI : Nat → Nat}
theorem EDP.oW (h : EDP cy e0 tk G0 Bx G v z LA EA AD PI) {o : Nat} {fs : List Value} {c : Nat} (hc : c = 10 ∨ c = 3) (h0 : G o = some (.inr (c, fs))) : (∀ k, lvV v k → ¬ LA k = o) ∧ (∀ k, lvV v k → 1 ≤ lnV v k → ¬ EA k = o) ∧ (∀ k i, lvV v k → i < lnV v k → ¬ AD k i = o) ∧ (∀ i, i < v.nJ → ¬ PI i = o) :=
  ⟨fun k hk => (h.L.ls k hk).ne h0 (by omega), fun k hk n => Ne.symm (LiS.nea (h.L.ls k hk) n h0), fun k i hk hi => mm_ne_oo (h.L.el k i hk hi) h0 (by have := cIL_ne k; omega), fun i hi => mm_ne_ao (h.pi i hi) h0⟩
theorem EDP.wW (h : EDP cy e0 tk G0 Bx G v z LA EA AD PI) {ow n : Nat} {y : ClassId} {wf : Nat → Int32} (h0 : G ow = some (.inl (y, n, .inl wf))) : (∀ k, lvV v k → ¬ LA k = ow) ∧ (∀ k, lvV v k → 1 ≤ lnV v k → ¬ EA k = ow) ∧ (∀ k i, lvV v k → i < lnV v k → ¬ AD k i = ow) ∧ (∀ i, i < v.nJ → ¬ PI i = ow) :=
  ⟨fun k hk => LiS.nal (h.L.ls k hk) h0, fun k hk n => Ne.symm (LiS.nar (h.L.ls k hk) n h0 (by intro gv9 z; have z2 := (Prod.mk.inj (Prod.mk.inj (Sum.inl.inj z)).2).2; cases z2)), fun k i hk hi => mm_ne_oa (h.L.el k i hk hi) h0, fun i hi => mm_ne_e (h.pi i hi) h0 (fun z => by have z2 := (Prod.mk.inj (Prod.mk.inj (Sum.inl.inj z)).2).2; cases z2)⟩
/-- a pile stands where only o, a list and its array are written -/
theorem EDP.pst (h : EDP cy e0 tk G0 Bx G v z LA EA AD PI) {k i : Nat} (hk : lvV v k) (hi : i < v.nJ) : PI i ≠ LA k ∧ (1 ≤ lnV v k → PI i ≠ EA k) :=
  ⟨Ne.symm (LiS.nal (h.L.ls k hk) (h.pi i hi)), fun n => LiS.nar (h.L.ls k hk) n (h.pi i hi) (by intro gv9 z; have z2 := (Prod.mk.inj (Prod.mk.inj (Sum.inl.inj z)).2).2; cases z2)⟩
/-- an entry more among the codes -/
theorem EDP.code (h : EDP cy e0 tk G0 Bx G v z LA EA AD PI) (hz : z = PtV.nil) {o ca ec2 : Nat} {fs fs2 : List Value} (hn : v.nE ≤ 12) (hBo : Bx o) (h0 : G o = some (.inr (10, fs))) (ho2 : G2 o = some (.inr (10, fs2))) {x : RwD} (hca : G ca = none) (hl : LiS cy e0 G2 (LA 3) ec2 (v.nE + 1) (fup (AD 3) v.nE ca)) (hec : (1 ≤ v.nE ∧ ec2 = EA 3) ∨ G ec2 = none) (hc2 : G2 ca = some (.inr (4, [.int x.1, .int x.2.1, .long x.2.2.1, .int x.2.2.2, .null]))) (hf : ∀ (x : Nat) (e : va_E), G x = some e → x ≠ o → x ≠ LA 3 → (1 ≤ v.nE → x ≠ EA 3) → G2 x = some e) :
    EDP cy e0 tk G0 Bx G2 (v.addE x) z LA (up1 EA 3 ec2) (up1 AD 3 (fup (AD 3) v.nE ca)) PI := by
  obtain ⟨w1, w2, w3, w4⟩ := h.oW (Or.inl rfl) h0
  have hk : lvV v 3 := Or.inl (by decide)
  refine ⟨(h.L.grow (G2 := G2) (k := 3) hk (fun y => y = o) (fun y hy => by rw [hy]; exact hBo) w1 w2 w3 (fun y hy => by rw [hy]; exact ⟨_, ho2⟩) hl hec hca hc2 hf).cg (fun k hk => hk) (fun _ _ => rfl) (fun _ _ => rfl) ?_ (fun _ _ _ _ => rfl) ?_, ?_, h.sl, ?_, h.pn, h.pj⟩
  · intro k _
    by_cases e : k = 3
    · rw [e, up1_eq]; rfl
    · rw [up1_ne e]; simp only [lnV, addE_nC, addE_C, addE_nR, addE_R, addE_nL, addE_L, addE_nS, addE_S, addE_nP, addE_P, addE_nE, addE_E, addE_nV, addE_V, addE_nJ, addE_J, addE_nO, addE_O, e, if_false]
  · intro k i _ hi
    by_cases e : k = 3
    · rw [e] at hi ⊢
      rw [up1_eq] at hi ⊢
      by_cases e2 : i = lnV v 3
      · rw [e2, up1_eq]
        show enF ((up1 v.E v.nE x) v.nE) none = _
        rw [up1_eq]; rfl
      · rw [up1_ne e2]
        show enF ((up1 v.E v.nE x) i) none = enF (v.E i) none
        rw [up1_ne (show i ≠ v.nE from e2)]
    · rw [up1_ne e]
      have a1 : (up1 AD 3 (fup (AD 3) v.nE ca)) 1 = AD 1 := up1_ne (by decide)
      simp only [fsV, addE_nC, addE_C, addE_nR, addE_R, addE_nL, addE_L, addE_nS, addE_S, addE_nP, addE_P, addE_nE, addE_E, addE_nV, addE_V, addE_nJ, addE_J, addE_nO, addE_O, e, if_false, a1]
  · have := h.b
    simp only [addE_nC, addE_C, addE_nR, addE_R, addE_nL, addE_L, addE_nS, addE_S, addE_nP, addE_P, addE_nE, addE_E, addE_nV, addE_V, addE_nJ, addE_J, addE_nO, addE_O]
    omega
  · intro i hi
    exact hf _ _ (h.pi i hi) (w4 i hi) (h.pst hk hi).1 (h.pst hk hi).2
/-- an entry more among the variants -/
theorem EDP.vari (h : EDP cy e0 tk G0 Bx G v z LA EA AD PI) (hz : z = PtV.nil) {o ca ec2 : Nat} {fs fs2 : List Value} (hn : v.nV ≤ 6) (hBo : Bx o) (h0 : G o = some (.inr (10, fs))) (ho2 : G2 o = some (.inr (10, fs2))) {x : RwD} (hca : G ca = none) (hl : LiS cy e0 G2 (LA 4) ec2 (v.nV + 1) (fup (AD 4) v.nV ca)) (hec : (1 ≤ v.nV ∧ ec2 = EA 4) ∨ G ec2 = none) (hc2 : G2 ca = some (.inr (4, [.int x.1, .int x.2.1, .long x.2.2.1, .int x.2.2.2, .null]))) (hf : ∀ (x : Nat) (e : va_E), G x = some e → x ≠ o → x ≠ LA 4 → (1 ≤ v.nV → x ≠ EA 4) → G2 x = some e) :
    EDP cy e0 tk G0 Bx G2 (v.addV x) z LA (up1 EA 4 ec2) (up1 AD 4 (fup (AD 4) v.nV ca)) PI := by
  obtain ⟨w1, w2, w3, w4⟩ := h.oW (Or.inl rfl) h0
  have hk : lvV v 4 := Or.inl (by decide)
  refine ⟨(h.L.grow (G2 := G2) (k := 4) hk (fun y => y = o) (fun y hy => by rw [hy]; exact hBo) w1 w2 w3 (fun y hy => by rw [hy]; exact ⟨_, ho2⟩) hl hec hca hc2 hf).cg (fun k hk => hk) (fun _ _ => rfl) (fun _ _ => rfl) ?_ (fun _ _ _ _ => rfl) ?_, ?_, h.sl, ?_, h.pn, h.pj⟩
  · intro k _
    by_cases e : k = 4
    · rw [e, up1_eq]; rfl
    · rw [up1_ne e]; simp only [lnV, addV_nC, addV_C, addV_nR, addV_R, addV_nL, addV_L, addV_nS, addV_S, addV_nP, addV_P, addV_nE, addV_E, addV_nV, addV_V, addV_nJ, addV_J, addV_nO, addV_O, e, if_false]
  · intro k i _ hi
    by_cases e : k = 4
    · rw [e] at hi ⊢
      rw [up1_eq] at hi ⊢
      by_cases e2 : i = lnV v 4
      · rw [e2, up1_eq]
        show enF ((up1 v.V v.nV x) v.nV) (z.vl v.nV) = _
        rw [up1_eq, hz]; rfl
      · rw [up1_ne e2]
        show enF ((up1 v.V v.nV x) i) (z.vl i) = enF (v.V i) (z.vl i)
        rw [up1_ne (show i ≠ v.nV from e2)]
    · rw [up1_ne e]
      have a1 : (up1 AD 4 (fup (AD 4) v.nV ca)) 1 = AD 1 := up1_ne (by decide)
      simp only [fsV, addV_nC, addV_C, addV_nR, addV_R, addV_nL, addV_L, addV_nS, addV_S, addV_nP, addV_P, addV_nE, addV_E, addV_nV, addV_V, addV_nJ, addV_J, addV_nO, addV_O, e, if_false, a1]
  · have := h.b
    simp only [addV_nC, addV_C, addV_nR, addV_R, addV_nL, addV_L, addV_nS, addV_S, addV_nP, addV_P, addV_nE, addV_E, addV_nV, addV_V, addV_nJ, addV_J, addV_nO, addV_O]
    omega
  · intro i hi
    exact hf _ _ (h.pi i hi) (w4 i hi) (h.pst hk hi).1 (h.pst hk hi).2
/-- a layer more -/
theorem EDP.layer (h : EDP cy e0 tk G0 Bx G v z LA EA AD PI) (hz : z = PtV.nil) {o ca ec2 : Nat} {fs fs2 : List Value} (hn : v.nL ≤ 6) (hBo : Bx o) (h0 : G o = some (.inr (10, fs))) (ho2 : G2 o = some (.inr (10, fs2))) {x : Int32 × Int64 × Int64 × Int32} (hca : G ca = none) (hl : LiS cy e0 G2 (LA 1) ec2 (v.nL + 1) (fup (AD 1) v.nL ca)) (hec : (1 ≤ v.nL ∧ ec2 = EA 1) ∨ G ec2 = none) (hc2 : G2 ca = some (.inr (6, [.int (nI (v.nL + 1)), .int x.1, .long x.2.1, .long x.2.2.1, .int x.2.2.2, .null]))) (hf : ∀ (x : Nat) (e : va_E), G x = some e → x ≠ o → x ≠ LA 1 → (1 ≤ v.nL → x ≠ EA 1) → G2 x = some e) :
    EDP cy e0 tk G0 Bx G2 (v.addL x) z LA (up1 EA 1 ec2) (up1 AD 1 (fup (AD 1) v.nL ca)) PI := by
  obtain ⟨w1, w2, w3, w4⟩ := h.oW (Or.inl rfl) h0
  have hk : lvV v 1 := Or.inl (by decide)
  refine ⟨(h.L.grow (G2 := G2) (k := 1) hk (fun y => y = o) (fun y hy => by rw [hy]; exact hBo) w1 w2 w3 (fun y hy => by rw [hy]; exact ⟨_, ho2⟩) hl hec hca hc2 hf).cg (fun k hk => hk) (fun _ _ => rfl) (fun _ _ => rfl) ?_ (fun _ _ _ _ => rfl) ?_, ?_, ?_, ?_, h.pn, h.pj⟩
  · intro k _
    by_cases e : k = 1
    · rw [e, up1_eq]; rfl
    · rw [up1_ne e]; simp only [lnV, addL_nC, addL_C, addL_nR, addL_R, addL_nL, addL_L, addL_nS, addL_S, addL_nP, addL_P, addL_nE, addL_E, addL_nV, addL_V, addL_nJ, addL_J, addL_nO, addL_O, e, if_false]
  · intro k i _ hi
    by_cases e : k = 1
    · rw [e] at hi ⊢
      rw [up1_eq] at hi ⊢
      by_cases e2 : i = lnV v 1
      · rw [e2, up1_eq]
        show laF v.nL ((up1 v.L v.nL x) v.nL) (z.lo v.nL) = _
        rw [up1_eq, hz]; rfl
      · rw [up1_ne e2]
        show laF i ((up1 v.L v.nL x) i) (z.lo i) = laF i (v.L i) (z.lo i)
        rw [up1_ne (show i ≠ v.nL from e2)]
    · rw [up1_ne e]
      by_cases e3 : k = 2
      · rw [e3] at hi ⊢
        rw [up1_ne (by decide)] at hi
        show seF i (v.S i).2 (up1 AD 1 (fup (AD 1) v.nL ca) 1 (v.S i).1) (LA (20 + i)) = seF i (v.S i).2 (AD 1 (v.S i).1) (LA (20 + i))
        rw [up1_eq, fup_lt (h.sl i hi)]
      · simp only [fsV, addL_nC, addL_C, addL_nR, addL_R, addL_nL, addL_L, addL_nS, addL_S, addL_nP, addL_P, addL_nE, addL_E, addL_nV, addL_V, addL_nJ, addL_J, addL_nO, addL_O, e, e3, if_false]
  · have := h.b
    simp only [addL_nC, addL_C, addL_nR, addL_R, addL_nL, addL_L, addL_nS, addL_S, addL_nP, addL_P, addL_nE, addL_E, addL_nV, addL_V, addL_nJ, addL_J, addL_nO, addL_O]
    omega
  · intro i hi
    have := h.sl i hi
    show _ < v.nL + 1
    simp only [addL_nC, addL_C, addL_nR, addL_R, addL_nL, addL_L, addL_nS, addL_S, addL_nP, addL_P, addL_nE, addL_E, addL_nV, addL_V, addL_nJ, addL_J, addL_nO, addL_O]
    omega
  · intro i hi
    exact hf _ _ (h.pi i hi) (w4 i hi) (h.pst hk hi).1 (h.pst hk hi).2
end
