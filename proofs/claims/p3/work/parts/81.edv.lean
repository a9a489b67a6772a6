/-- an edition as it was read: what stands in its lists -/
structure EdV where
  nC : Nat
  C : Nat → (Int32 × Int64 × Int32) × (Int32 × Int32 × Int64 × Int64 × Int64)
  nR : Nat → Nat
  R : Nat → Nat → RwD
  nL : Nat
  L : Nat → Int32 × Int64 × Int64 × Int32
  nS : Nat
  S : Nat → Nat × (Int32 × Int64 × Int32)
  nP : Nat → Nat
  P : Nat → Nat → PrD
  nE : Nat
  E : Nat → RwD
  nV : Nat
  V : Nat → RwD
  nJ : Nat
  J : Nat → Int32 × Int64
  nO : Nat → Nat
  O : Nat → Nat → OpD
/-- its links, and what changes in it later -/
structure PtV where
  lo : Nat → Option Nat
  vl : Nat → Option Nat
  pc : Nat → Nat → Option Nat
  pe : Nat → Nat → Option Nat
  pd : Nat → Nat → Int32 × Int32 × Int64 × Int64
  fo : Nat → Nat → Option Nat
  wo : Nat → Nat → Option Nat
  jh : Nat → Int32
  pv : Nat → Nat → Int64
def EdV.nil : EdV := { nC := 0, C := fun _ => ((0, 0, 0), (0, 0, 0, 0, 0)), nR := fun _ => 0, R := fun _ _ => (0, 0, 0, 0), nL := 0, L := fun _ => (0, 0, 0, 0), nS := 0, S := fun _ => (0, 0, 0, 0), nP := fun _ => 0, P := fun _ => d0P, nE := 0, E := fun _ => (0, 0, 0, 0), nV := 0, V := fun _ => (0, 0, 0, 0), nJ := 0, J := fun _ => (0, 0), nO := fun _ => 0, O := fun _ => d0O }
def PtV.nil : PtV := { lo := fun _ => none, vl := fun _ => none, pc := fun _ _ => none, pe := fun _ _ => none, pd := fun _ _ => (0, 0, 0, 0), fo := fun _ _ => none, wo := fun _ _ => none, jh := fun _ => 0, pv := fun _ _ => 0 }
def EdV.addC (v : EdV) (x : (Int32 × Int64 × Int32) × (Int32 × Int32 × Int64 × Int64 × Int64) × (Nat × (Nat → RwD))) : EdV := { v with nC := v.nC + 1, C := up1 v.C v.nC (x.1, x.2.1), nR := up1 v.nR v.nC x.2.2.1, R := up1 v.R v.nC x.2.2.2 }
def EdV.addL (v : EdV) (x : Int32 × Int64 × Int64 × Int32) : EdV := { v with nL := v.nL + 1, L := up1 v.L v.nL x }
def EdV.addS (v : EdV) (la : Nat) (x : (Int32 × Int64 × Int32) × (Nat × (Nat → PrD))) : EdV := { v with nS := v.nS + 1, S := up1 v.S v.nS (la, x.1), nP := up1 v.nP v.nS x.2.1, P := up1 v.P v.nS x.2.2 }
def EdV.addE (v : EdV) (x : RwD) : EdV := { v with nE := v.nE + 1, E := up1 v.E v.nE x }
def EdV.addV (v : EdV) (x : RwD) : EdV := { v with nV := v.nV + 1, V := up1 v.V v.nV x }
def EdV.addJ (v : EdV) (x : (Int32 × Int64) × (Nat × (Nat → OpD))) : EdV := { v with nJ := v.nJ + 1, J := up1 v.J v.nJ x.1, nO := up1 v.nO v.nJ x.2.1, O := up1 v.O v.nJ x.2.2 }
def enF (d : RwD) (l : Option Nat) : List Value := [.int d.1, .int d.2.1, .long d.2.2.1, .int d.2.2.2, va_rf l]
def prF (i : Nat) (d : PrD) (c e : Option Nat) (y : Int32 × Int32 × Int64 × Int64) : List Value := [.int (nI (i + 1)), .int d.1, .long d.2.1, .long d.2.2.1, .int d.2.2.2.1, va_rf c, .int d.2.2.2.2.1, .long d.2.2.2.2.2.1, .int d.2.2.2.2.2.2.1, va_rf e, .int d.2.2.2.2.2.2.2, .int y.1, .int y.2.1, .long y.2.2.1, .long y.2.2.2]
def opF (tk : Nat → Nat) (d : OpD) (f w : Option Nat) : List Value := [.ref (tk d.1), .long d.2.1, .long d.2.2.1, .int d.2.2.2.1, va_rf f, .long d.2.2.2.2.1, .int d.2.2.2.2.2.1, va_rf w, .int d.2.2.2.2.2.2]
def coF (i : Nat) (d : (Int32 × Int64 × Int32) × (Int32 × Int32 × Int64 × Int64 × Int64)) (rl : Nat) : List Value := [.int (nI (i + 1)), .int d.1.1, .long d.1.2.1, .ref rl, .int d.1.2.2, .int d.2.1, .int d.2.2.1, .long d.2.2.2.1, .long d.2.2.2.2.1, .long d.2.2.2.2.2]
def laF (i : Nat) (d : Int32 × Int64 × Int64 × Int32) (o : Option Nat) : List Value := [.int (nI (i + 1)), .int d.1, .long d.2.1, .long d.2.2.1, .int d.2.2.2, va_rf o]
def seF (i : Nat) (d : Int32 × Int64 × Int32) (la pl : Nat) : List Value := [.int (nI (i + 1)), .ref la, .int d.1, .long d.2.1, .ref pl, .int d.2.2]
def joF (d : Int32 × Int64) (ol pi : Nat) (h : Int32) : List Value := [.int d.1, .long d.2, .ref ol, .ref pi, .int h]
def lnV (v : EdV) (k : Nat) : Nat := if k = 0 then v.nC else if k = 1 then v.nL else if k = 2 then v.nS else if k = 3 then v.nE else if k = 4 then v.nV else if k = 5 then v.nJ else if k < 20 then v.nR (k - 6) else if k < 40 then v.nP (k - 20) else v.nO (k - 40)
def lvV (v : EdV) (k : Nat) : Prop := k < 6 ∨ (6 ≤ k ∧ k < 6 + v.nC) ∨ (20 ≤ k ∧ k < 20 + v.nS) ∨ (40 ≤ k ∧ k < 40 + v.nJ)
def fsV (tk : Nat → Nat) (v : EdV) (z : PtV) (LA : Nat → Nat) (AD : Nat → Nat → Nat) (PI : Nat → Nat) (k i : Nat) : List Value :=
  if k = 0 then coF i (v.C i) (LA (6 + i)) else if k = 1 then laF i (v.L i) (z.lo i) else if k = 2 then seF i (v.S i).2 (AD 1 (v.S i).1) (LA (20 + i))
  else if k = 3 then enF (v.E i) none else if k = 4 then enF (v.V i) (z.vl i) else if k = 5 then joF (v.J i) (LA (40 + i)) (PI i) (z.jh i)
  else if k < 20 then enF (v.R (k - 6) i) none else if k < 40 then prF i (v.P (k - 20) i) (z.pc (k - 20) i) (z.pe (k - 20) i) (z.pd (k - 20) i) else opF tk (v.O (k - 40) i) (z.fo (k - 40) i) (z.wo (k - 40) i)
structure EDP (cy : Nat → ClassId) (e0 : Nat) (tk : Nat → Nat) (G0 : Nat → Option va_E) (Bx : Nat → Prop) (G : Nat → Option va_E) (v : EdV) (z : PtV) (LA EA : Nat → Nat) (AD : Nat → Nat → Nat) (PI : Nat → Nat) : Prop where
  L : LSS cy e0 G0 Bx G (lvV v) LA EA (lnV v) AD (fsV tk v z LA AD PI)
  b : v.nC ≤ 13 ∧ v.nL ≤ 7 ∧ v.nS ≤ 17 ∧ v.nE ≤ 13 ∧ v.nV ≤ 7 ∧ v.nJ ≤ 5
  sl : ∀ i, i < v.nS → (v.S i).1 < v.nL
  pi : ∀ i, i < v.nJ → G (PI i) = some (.inl (cy 2, 16, .inr (.inl (z.pv i))))
  pn : ∀ i, i < v.nJ → G0 (PI i) = none
  pj : ∀ i j, i < v.nJ → j < v.nJ → PI i = PI j → i = j
section
variable {cy : Nat → ClassId} {e0 : Nat} {tk : Nat → Nat} {G0 : Nat → Option va_E} {Bx : Nat → Prop} {G G2 : Nat → Option va_E} {v : EdV} {z : PtV} {LA EA : Nat → Nat} {AD : Nat → Nat → Nat} {PI : Nat → Nat}
theorem EDP.oW (h : EDP cy e0 tk G0 Bx G v z LA EA AD PI) {o : Nat} {fs : List Value} {c : Nat} (hc : c = 10 ∨ c = 3) (h0 : G o = some (.inr (c, fs))) : (∀ k, lvV v k → ¬ LA k = o) ∧ (∀ k, lvV v k → 1 ≤ lnV v k → ¬ EA k = o) ∧ (∀ k i, lvV v k → i < lnV v k → ¬ AD k i = o) ∧ (∀ i, i < v.nJ → ¬ PI i = o) :=
  ⟨fun k hk => (h.L.ls k hk).ne h0 (by omega), fun k hk n => Ne.symm (LiS.nea (h.L.ls k hk) n h0), fun k i hk hi => mm_ne_oo (h.L.el k i hk hi) h0 (by have := cIL_ne k; omega), fun i hi => mm_ne_ao (h.pi i hi) h0⟩
theorem EDP.wW (h : EDP cy e0 tk G0 Bx G v z LA EA AD PI) {ow n : Nat} {y : ClassId} {wf : Nat → Int32} (h0 : G ow = some (.inl (y, n, .inl wf))) : (∀ k, lvV v k → ¬ LA k = ow) ∧ (∀ k, lvV v k → 1 ≤ lnV v k → ¬ EA k = ow) ∧ (∀ k i, lvV v k → i < lnV v k → ¬ AD k i = ow) ∧ (∀ i, i < v.nJ → ¬ PI i = ow) :=
  ⟨fun k hk => LiS.nal (h.L.ls k hk) h0, fun k hk n => Ne.symm (LiS.nar (h.L.ls k hk) n h0 (by intro gv9 z; have z2 := (Prod.mk.inj (Prod.mk.inj (Sum.inl.inj z)).2).2; cases z2)), fun k i hk hi => mm_ne_oa (h.L.el k i hk hi) h0, fun i hi => mm_ne_e (h.pi i hi) h0 (fun z => by have z2 := (Prod.mk.inj (Prod.mk.inj (Sum.inl.inj z)).2).2; cases z2)⟩
/-- a pile stands where only o, a list and its array are written -/
theorem EDP.pst (h : EDP cy e0 tk G0 Bx G v z LA EA AD PI) {k i : Nat} (hk : lvV v k) (hi : i < v.nJ) : PI i ≠ LA k ∧ (1 ≤ lnV v k → PI i ≠ EA k) :=
  ⟨Ne.symm (LiS.nal (h.L.ls k hk) (h.pi i hi)), fun n => LiS.nar (h.L.ls k hk) n (h.pi i hi) (by intro gv9 z; have z2 := (Prod.mk.inj (Prod.mk.inj (Sum.inl.inj z)).2).2; cases z2)⟩
/-- an entry more among the codes -/
theorem EDP.code (h : EDP cy e0 tk G0 Bx G v z LA EA AD PI) (hz : z = PtV.nil) {o ca ec2 : Nat} {fs fs2 : List Value} (hn : v.nE ≤ 12) (hBo : Bx o) (h0 : G o = some (.inr (10, fs))) (ho2 : G2 o = some (.inr (10, fs2))) {x : RwD} (hca : G ca = none) (hl : LiS cy e0 G2 (LA 3) ec2 (v.nE + 1) (fup (AD 3) v.nE ca)) (hec : (1 ≤ v.nE ∧ ec2 = EA 3) ∨ G ec2 = none) (hc2 : G2 ca = some (.inr (4, [.int x.1, .int x.2.1, .long x.2.2.1, .int x.2.2.2, .null]))) (hf : ∀ (x : Nat) (e : va_E), G x = some e → x ≠ o → x ≠ LA 3 → (1 ≤ v.nE → x ≠ EA 3) → G2 x = some e) :
    EDP cy e0 tk G0 Bx G2 (v.addE x) z LA (up1 EA 3 ec2) (up1 AD 3 (fup (AD 3) v.nE ca)) PI := by
  obtain ⟨w1, w2, w3, w4⟩ := h.oW (Or.inl rfl) h0
  have hk : lvV v 3 := Or.inl (by decide)
  refine ⟨(h.L.grow (G2 := G2) (k := 3) hk (fun y => y = o) (fun y hy => by rw [hy]; exact hBo) w1 w2 w3 (fun y hy => by rw [hy]; exact ⟨_, ho2⟩) hl hec hca hc2 hf).cg (fun k hk => hk) (fun _ _ => rfl) (fun _ _ => rfl) ?_ (fun _ _ _ _ => rfl) ?_, ?_, h.sl, ?_, h.pn, h.pj⟩
  · intro k _
    by_cases e : k = 3
    · rw [e, up1_eq]; rfl
    · rw [up1_ne e]; simp only [lnV, EdV.addE, e, if_false]
  · intro k i _ hi
    by_cases e : k = 3
    · rw [e] at hi ⊢
      rw [up1_eq] at hi ⊢
      by_cases e2 : i = lnV v 3
      · rw [e2, up1_eq]
        show enF ((up1 v.E v.nE x) v.nE) none = _
        rw [up1_eq]; rfl
      · rw [up1_ne e2]
        show enF ((up1 v.E v.nE x) i) none = enF (v.E i) none
        rw [up1_ne (show i ≠ v.nE from e2)]
    · rw [up1_ne e]
      have a1 : (up1 AD 3 (fup (AD 3) v.nE ca)) 1 = AD 1 := up1_ne (by decide)
      simp only [fsV, EdV.addE, e, if_false, a1]
  · have := h.b
    simp only [EdV.addE]
    omega
  · intro i hi
    exact hf _ _ (h.pi i hi) (w4 i hi) (h.pst hk hi).1 (h.pst hk hi).2
/-- an entry more among the variants -/
theorem EDP.vari (h : EDP cy e0 tk G0 Bx G v z LA EA AD PI) (hz : z = PtV.nil) {o ca ec2 : Nat} {fs fs2 : List Value} (hn : v.nV ≤ 6) (hBo : Bx o) (h0 : G o = some (.inr (10, fs))) (ho2 : G2 o = some (.inr (10, fs2))) {x : RwD} (hca : G ca = none) (hl : LiS cy e0 G2 (LA 4) ec2 (v.nV + 1) (fup (AD 4) v.nV ca)) (hec : (1 ≤ v.nV ∧ ec2 = EA 4) ∨ G ec2 = none) (hc2 : G2 ca = some (.inr (4, [.int x.1, .int x.2.1, .long x.2.2.1, .int x.2.2.2, .null]))) (hf : ∀ (x : Nat) (e : va_E), G x = some e → x ≠ o → x ≠ LA 4 → (1 ≤ v.nV → x ≠ EA 4) → G2 x = some e) :
    EDP cy e0 tk G0 Bx G2 (v.addV x) z LA (up1 EA 4 ec2) (up1 AD 4 (fup (AD 4) v.nV ca)) PI := by
  obtain ⟨w1, w2, w3, w4⟩ := h.oW (Or.inl rfl) h0
  have hk : lvV v 4 := Or.inl (by decide)
  refine ⟨(h.L.grow (G2 := G2) (k := 4) hk (fun y => y = o) (fun y hy => by rw [hy]; exact hBo) w1 w2 w3 (fun y hy => by rw [hy]; exact ⟨_, ho2⟩) hl hec hca hc2 hf).cg (fun k hk => hk) (fun _ _ => rfl) (fun _ _ => rfl) ?_ (fun _ _ _ _ => rfl) ?_, ?_, h.sl, ?_, h.pn, h.pj⟩
  · intro k _
    by_cases e : k = 4
    · rw [e, up1_eq]; rfl
    · rw [up1_ne e]; simp only [lnV, EdV.addV, e, if_false]
  · intro k i _ hi
    by_cases e : k = 4
    · rw [e] at hi ⊢
      rw [up1_eq] at hi ⊢
      by_cases e2 : i = lnV v 4
      · rw [e2, up1_eq]
        show enF ((up1 v.V v.nV x) v.nV) (z.vl v.nV) = _
        rw [up1_eq, hz]; rfl
      · rw [up1_ne e2]
        show enF ((up1 v.V v.nV x) i) (z.vl i) = enF (v.V i) (z.vl i)
        rw [up1_ne (show i ≠ v.nV from e2)]
    · rw [up1_ne e]
      have a1 : (up1 AD 4 (fup (AD 4) v.nV ca)) 1 = AD 1 := up1_ne (by decide)
      simp only [fsV, EdV.addV, e, if_false, a1]
  · have := h.b
    simp only [EdV.addV]
    omega
  · intro i hi
    exact hf _ _ (h.pi i hi) (w4 i hi) (h.pst hk hi).1 (h.pst hk hi).2
/-- a layer more -/
theorem EDP.layer (h : EDP cy e0 tk G0 Bx G v z LA EA AD PI) (hz : z = PtV.nil) {o ca ec2 : Nat} {fs fs2 : List Value} (hn : v.nL ≤ 6) (hBo : Bx o) (h0 : G o = some (.inr (10, fs))) (ho2 : G2 o = some (.inr (10, fs2))) {x : Int32 × Int64 × Int64 × Int32} (hca : G ca = none) (hl : LiS cy e0 G2 (LA 1) ec2 (v.nL + 1) (fup (AD 1) v.nL ca)) (hec : (1 ≤ v.nL ∧ ec2 = EA 1) ∨ G ec2 = none) (hc2 : G2 ca = some (.inr (6, [.int (nI (v.nL + 1)), .int x.1, .long x.2.1, .long x.2.2.1, .int x.2.2.2, .null]))) (hf : ∀ (x : Nat) (e : va_E), G x = some e → x ≠ o → x ≠ LA 1 → (1 ≤ v.nL → x ≠ EA 1) → G2 x = some e) :
    EDP cy e0 tk G0 Bx G2 (v.addL x) z LA (up1 EA 1 ec2) (up1 AD 1 (fup (AD 1) v.nL ca)) PI := by
  obtain ⟨w1, w2, w3, w4⟩ := h.oW (Or.inl rfl) h0
  have hk : lvV v 1 := Or.inl (by decide)
  refine ⟨(h.L.grow (G2 := G2) (k := 1) hk (fun y => y = o) (fun y hy => by rw [hy]; exact hBo) w1 w2 w3 (fun y hy => by rw [hy]; exact ⟨_, ho2⟩) hl hec hca hc2 hf).cg (fun k hk => hk) (fun _ _ => rfl) (fun _ _ => rfl) ?_ (fun _ _ _ _ => rfl) ?_, ?_, ?_, ?_, h.pn, h.pj⟩
  · intro k _
    by_cases e : k = 1
    · rw [e, up1_eq]; rfl
    · rw [up1_ne e]; simp only [lnV, EdV.addL, e, if_false]
  · intro k i _ hi
    by_cases e : k = 1
    · rw [e] at hi ⊢
      rw [up1_eq] at hi ⊢
      by_cases e2 : i = lnV v 1
      · rw [e2, up1_eq]
        show laF v.nL ((up1 v.L v.nL x) v.nL) (z.lo v.nL) = _
        rw [up1_eq, hz]; rfl
      · rw [up1_ne e2]
        show laF i ((up1 v.L v.nL x) i) (z.lo i) = laF i (v.L i) (z.lo i)
        rw [up1_ne (show i ≠ v.nL from e2)]
    · rw [up1_ne e]
      by_cases e3 : k = 2
      · rw [e3] at hi ⊢
        rw [up1_ne (by decide)] at hi
        show seF i (v.S i).2 (up1 AD 1 (fup (AD 1) v.nL ca) 1 (v.S i).1) (LA (20 + i)) = seF i (v.S i).2 (AD 1 (v.S i).1) (LA (20 + i))
        rw [up1_eq, fup_lt (h.sl i hi)]
      · simp only [fsV, EdV.addL, e, e3, if_false]
  · have := h.b
    simp only [EdV.addL]
    omega
  · intro i hi
    have := h.sl i hi
    show _ < v.nL + 1
    simp only [EdV.addL]
    omega
  · intro i hi
    exact hf _ _ (h.pi i hi) (w4 i hi) (h.pst hk hi).1 (h.pst hk hi).2
end
