/-! ===== a coding's arithmetic ===== -/
def lmin (a b : Int64) : Int64 := if a ≤ b then a else b
def lmax (a b : Int64) : Int64 := if b ≤ a then a else b
def labs (a : Int64) : Int64 := if a < 0 then -a else a
/-- rounded down -/
def fdv (x y : Int64) : Int64 := if x ^^^ y < 0 ∧ ¬ x / y * y = x then x / y - 1 else x / y
def cdv : Nat → Int64 → Int64 → Int64
  | 0, a, _ => a
  | n + 1, a, b => if b = 0 then a else cdv n b (a - a / b * b)
def abv (ti ov pl r : Int64) : Int64 := if cdv 200 (labs (cWh ti ov pl r)) ov = 0 then 0 else cWh ti ov pl r / cdv 200 (labs (cWh ti ov pl r)) ov
def blw (ti ov pl r : Int64) : Int64 := if cdv 200 (labs (cWh ti ov pl r)) ov = 0 then 0 else ov / cdv 200 (labs (cWh ti ov pl r)) ov
def flr (ti ov pl r : Int64) : Int64 := if ov = 0 then 0 else fdv (cWh ti ov pl r) ov
def noR : Int64 := -9223372036854775808
def rwF (sg wd : Int32) (ti ov pl x : Int64) : Int64 :=
  if ti = 0 ∨ ov = 0 ∨ x < -10000000000000000 ∨ 10000000000000000 < x then noR
  else if 4294967296 * labs ti / ov < labs (x - pl) then noR
  else if ¬ ((x - pl) * ov - (x - pl) * ov / ti * ti = 0) then noR
  else if (x - pl) * ov / ti < cLo sg wd ∨ cHi sg wd < (x - pl) * ov / ti then noR else (x - pl) * ov / ti
def fnR (v : EdV) (c : Nat) (x : Int64) : Option Nat := fndF (fun j => decide (((v.R c j).1).toInt64 = x)) (v.nR c) 0
theorem fnR_lt {v : EdV} {c : Nat} {x : Int64} {k : Nat} (h : fnR v c x = some k) : k < v.nR c := by have := fndF_lt _ _ h; omega
/-- octets as a number, the first one the highest -/
def rwL (g : Nat → Int32) : Nat → Int64
  | 0 => 0
  | j + 1 => rwL g j * 256 + (g j).toInt64
def rwA (sg wd : Int32) (w : Nat) (g : Nat → Int32) : Int64 := if sg = 0 ∨ rwL g w ≤ cHi sg wd then rwL g w else rwL g w - (1 : Int64) <<< ((8 * wd : Int32).toInt64 &&& 63)
/-- a method of a class that has rows of its own for other methods -/
theorem Met.ofWF {l : Launch} {y : MethodName} {ws ws' : List Cond} {rm : Room} {Pc : Array Value → State → Prop} {Qc : Array Value → State → Outcome → State → Prop} {mc ms : Nat} {free : Addr → Prop} {cc : ByteArray} {maxL : Nat} {ret : Option FieldType}
    (hy : plainFor y = true) (hw : ws = Cond.code y cc maxL ret :: ws')
    (body : ∀ p e s m args below meth c s₁, BodyLoose p l y (headSpec ws rm) cc maxL ret e s m args below meth c s₁ → c.maxLocals = maxL → Pc args s →
      W p l e (headSpec ws rm).room s m args below meth c s.heap [] 0 0 (MQ below Qc args s mc ms free) (entryFrame m args maxL)) : Met l y ws rm Pc Qc mc ms free := by
  refine MetFree.of_bodySF (code := cc) (maxLocals := maxL) (ret := ret) hy ?_ ?_
  · intro args s m h hn
    obtain ⟨meth, c, h1, h2, h3, h4, h5, h6, -, -⟩ := Cond.code_spec hn (atoms_spec (ws := ws) h _ (by rw [hw]; exact List.mem_cons_self))
    exact ⟨meth, c, h1, h2, h3, h4, h5, h6⟩
  · intro p e s m args below meth c s₁ B hml hP _
    have hh0 : s₁.heap = s.heap := by rw [B.state]; rfl
    obtain ⟨t, a1, o, b1, b2, b3⟩ := body p e s m args below meth c s₁ B hml hP s₁ hh0 (Stand.of_body B)
    exact ⟨t, o, a1, b1, b2, ⟨b3.1, b3.2⟩⟩
