/-! ===== parameters laid over octets ===== -/
abbrev PdT : Type := Nat → Int32 × Int32 × Int64 × Int64
def PtV.r_pd (z : PtV) (c : Nat) (P : PdT) : PtV := (z.lo, z.vl, z.pc, z.pe, up1 z.pd c P, z.fo, z.wo, z.jh, z.pv)
theorem r_pd_at {z : PtV} {c : Nat} {P : PdT} : (z.r_pd c P).pd c = P := up1_eq
theorem up1_up1 {α : Type} {f : Nat → α} {n : Nat} {x y : α} : up1 (up1 f n x) n y = up1 f n y := by
  funext j
  unfold up1
  split <;> rfl
theorem up1_id {α : Type} {f : Nat → α} {n : Nat} : up1 f n (f n) = f := by
  funext j
  unfold up1
  split
  · rename_i h; rw [h]
  · rfl
theorem r_s_pd {z : PtV} {c i : Nat} {P : PdT} {x : Int32 × Int32 × Int64 × Int64} : (z.r_pd c P).s_pd c i x = z.r_pd c (up1 P i x) := by
  show (z.lo, z.vl, z.pc, z.pe, up1 (up1 z.pd c P) c (up1 (up1 z.pd c P c) i x), z.fo, z.wo, z.jh, z.pv) = (z.lo, z.vl, z.pc, z.pe, up1 z.pd c (up1 P i x), z.fo, z.wo, z.jh, z.pv)
  rw [up1_up1, up1_eq]
theorem r_pd_id {z : PtV} {c : Nat} : z.r_pd c (z.pd c) = z := by
  show (z.lo, z.vl, z.pc, z.pe, up1 z.pd c (z.pd c), z.fo, z.wo, z.jh, z.pv) = z
  rw [up1_id]
  rfl
theorem r_r_pd {z : PtV} {c : Nat} {P Q : PdT} : (z.r_pd c P).r_pd c Q = z.r_pd c Q := by
  show (z.lo, z.vl, z.pc, z.pe, up1 (up1 z.pd c P) c Q, z.fo, z.wo, z.jh, z.pv) = _
  rw [up1_up1]
  rfl
/-- how many octets a coding has -/
def wdN (v : EdV) (k : Nat) : Nat := ((v.C k).1.2.2).toNatClampNeg
def WDv (v : EdV) : Prop := ∀ k, k < v.nC → (v.C k).1.2.2 = nI (wdN v k) ∧ 1 ≤ wdN v k ∧ wdN v k ≤ 4
def clN (r : Int64) : Nat := (lmax 0 (lmin r 8)).toInt.toNat
theorem clN_ok (r : Int64) : (lmax 0 (lmin r 8)).toInt32 = nI (clN r) ∧ clN r ≤ 8 := by
  have h0 : (0 : Int64).toInt = 0 := by decide
  have h8 : (8 : Int64).toInt = 8 := by decide
  have a1 : (lmax 0 (lmin r 8)).toInt ≤ 8 ∧ 0 ≤ (lmax 0 (lmin r 8)).toInt := by
    unfold lmax lmin
    split
    · rename_i h3
      have h4 := Int64.le_iff_toInt_le.mp h3
      rw [h8] at h4
      split
      · rw [h0]; omega
      · rename_i h
        have h2 := Int64.lt_iff_toInt_lt.mp (Int64.not_le.mp h)
        rw [h0] at h2
        omega
    · decide
  refine ⟨?_, by unfold clN; omega⟩
  apply Int32.toInt_inj.mp
  rw [nI_toInt (by unfold clN; omega), Int64.toInt_toInt32]
  unfold clN
  rw [Int.bmod_eq_of_le (by omega) (by omega)]
  omega
def grN (v : EdV) (c p : Nat) (P : PdT) : Nat :=
  if (v.P c p).2.2.2.2.1 = 0 then 1 else match peI v c p with
    | none => 0
    | some e => if (P e).2.1 = 0 then 0 else if (v.P c p).2.2.2.2.1 = 1 then (if (P e).2.2.1 = ((v.P c p).2.2.2.2.2.2.2).toInt64 then 1 else 0) else clN (P e).2.2.1
theorem grN_le (v : EdV) (c p : Nat) (P : PdT) : grN v c p P ≤ 8 := by
  unfold grN
  split
  · decide
  · split
    · decide
    · split
      · decide
      · split
        · split <;> decide
        · exact (clN_ok _).2
def wsN (v : EdV) (c p : Nat) (P : PdT) : Nat := match cdN v (v.P c p).2.2.1 with
  | none => 0
  | some k => grN v c p P * wdN v k
theorem wsN_le {v : EdV} (hW : WDv v) (c p : Nat) (P : PdT) : wsN v c p P ≤ 32 := by
  unfold wsN
  split
  · decide
  · rename_i k hk
    have h1 := grN_le v c p P
    have h2 := (hW k (cdN_lt hk)).2.2
    exact Nat.le_trans (Nat.mul_le_mul h1 h2) (by decide)
def rwO (v : EdV) (c p ln : Nat) (f : Nat → Int32) (en : Nat) : Int64 := match cdN v (v.P c p).2.2.1 with
  | none => 0
  | some k => rwA (v.C k).2.1 (v.C k).1.2.2 (wdN v k) (fun j => oc_at (nI ln) f (nI en + nI j))
/-- nothing laid -/
def fgF (n : Nat) (P : PdT) : PdT := fun i => if i < n then (0, 0, 0, (P i).2.2.2) else P i
def tlF (v : EdV) (c ln : Nat) (f : Nat → Int32) : Nat → Nat → Nat → PdT → PdT
  | 0, _, _, P => P
  | n + 1, i, en, P => if en + wsN v c i P ≤ ln then tlF v c ln f n (i + 1) (en + wsN v c i P) (if 0 < wsN v c i P then up1 P i (nI en, nI (wsN v c i P), rwO v c i ln f en, (P i).2.2.2) else P) else P
/-- a service told by an answer -/
def teF (v : EdV) (c ln : Nat) (f : Nat → Int32) (P : PdT) : PdT := if ln = 0 ∨ ¬ oc_at (nI ln) f 0 = (v.S c).2.2.2 + 64 then fgF (v.nP c) P else tlF v c ln f (v.nP c) 0 1 (fgF (v.nP c) P)
def wrO (r : Int64) (w i : Nat) : Int32 := if i < w then (r >>> ((8 * (nI w - 1 - nI i) : Int32).toInt64 &&& 63)).toInt32 else 0
def wrF (r : Int64) (w ln : Nat) (f : Nat → Int32) : Nat → (Nat → Int32)
  | 0 => f
  | k + 1 => upd (wrF r w ln f k) (ln + k) (vp_nar .byte ((wrO r w k).toInt8.toInt32))
def cwN (v : EdV) (c p : Nat) : Nat := match cdN v (v.P c p).2.2.1 with
  | none => 0
  | some k => wdN v k
def mkF (v : EdV) (c : Nat) : Nat → Nat → Nat → PdT → (Nat → Int32) → PdT × Nat × (Nat → Int32)
  | 0, _, ln, P, f => (P, ln, f)
  | n + 1, i, ln, P, f => if ln + wsN v c i P ≤ 64 then mkF v c n (i + 1) (ln + wsN v c i P) (up1 P i (nI ln, nI (wsN v c i P), (P i).2.2.2, (P i).2.2.2)) (wrF (P i).2.2.2 (cwN v c i) ln f (wsN v c i P)) else (P, ln, f)
/-- a service made of what is remembered -/
def maF (v : EdV) (c : Nat) (P : PdT) (f : Nat → Int32) : PdT × Nat × (Nat → Int32) := mkF v c (v.nP c) 0 1 (fgF (v.nP c) P) (upd f 0 (vp_nar .byte (((v.S c).2.2.2 + 64).toInt8.toInt32)))
theorem mul_nI {a b : Nat} : nI a * nI b = nI (a * b) := (Int32.ofNat_mul a b).symm
