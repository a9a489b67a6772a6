/-! ===== jobs ===== -/
def opK (v : EdV) (d : OpD) : Option (Nat × Nat × Nat) := match opP v d with
  | none => none
  | some y => (cdN v (v.P y.1 y.2).2.2.1).map (fun k => (y.1, y.2, k))
theorem opS_lt {v : EdV} {d : OpD} {k : Nat} (h : opS v d = some k) : k < v.nS := by
  unfold opS at h
  split at h
  · exact svN_lt h
  · cases h
/-- an edition's pointers while a job runs: the job's height and pile, all that is laid -/
def zJ (z : PtV) (j hh : Nat) (pf : Nat → Int64) (P : Nat → PdT) : PtV := (z.lo, z.vl, z.pc, z.pe, P, z.fo, z.wo, up1 z.jh j (nI hh), up1 z.pv j pf)
theorem zJ_r {z : PtV} {j hh c : Nat} {pf : Nat → Int64} {P : Nat → PdT} {Q : PdT} : (zJ z j hh pf P).r_pd c Q = zJ z j hh pf (up1 P c Q) := rfl
def zJx (z : PtV) (j : Nat) (x : Int32) (pf : Nat → Int64) (P : Nat → PdT) : PtV := (z.lo, z.vl, z.pc, z.pe, P, z.fo, z.wo, up1 z.jh j x, up1 z.pv j pf)
theorem zJ_x {z : PtV} {j hh : Nat} {pf : Nat → Int64} {P : Nat → PdT} : zJ z j hh pf P = zJx z j (nI hh) pf P := rfl
section

variable {cy : Nat → ClassId} {e0 : Nat} {tk : Nat → Nat} {G0 : Nat → Option va_E} {Bx : Nat → Prop} {G G2 : Nat → Option va_E} {v : EdV} {z : PtV} {LA EA : Nat → Nat} {AD : Nat → Nat → Nat} {PI : Nat → Nat}
/-- a job's own cells written -/
theorem EDP.jbx {j : Nat} {x1 x2 : Int32} {pf pf2 : Nat → Int64} {P : Nat → PdT} (h : EDP cy e0 tk G0 Bx G v (zJx z j x1 pf P) LA EA AD PI) (hj : j < v.nJ) (h1 : G2 (AD 5 j) = some (.inr (5, joF (v.J j) (LA (40 + j)) (PI j) x2))) (h2 : G2 (PI j) = some (.inl (cy 2, 16, .inr (.inl pf2)))) (hf : ∀ (x : Nat) (e : va_E), G x = some e → x ≠ AD 5 j → x ≠ PI j → G2 x = some e) : EDP cy e0 tk G0 Bx G2 v (zJx z j x2 pf2 P) LA EA AD PI := by
  have hA := h.elJ hj
  have hB := h.pi j hj
  have l5 : lvV v 5 := Or.inl (by decide)
  refine ⟨⟨fun k hk => ?_, fun k i hk hi => ?_, h.L.la, h.L.ea, h.L.ad, h.L.fl, h.L.fe, h.L.fa, fun x e hx => ?_, fun x e hx nb => ?_⟩, h.b, h.sl, fun i hi => ?_, h.pn, h.pj⟩
  · refine (h.L.ls k hk).fr2 (fun x => x ≠ AD 5 j ∧ x ≠ PI j) (fun x e h0 hp => hf x e h0 hp.1 hp.2) ⟨(h.L.ls k hk).ne hA (by decide), LiS.nal (h.L.ls k hk) hB⟩ (fun w n hw => ⟨mm_ne_ao hw hA, fun z9 => ?_⟩)
    exact LiS.nar (h.L.ls k hk) n hB (by intro gv9 z; have z2 := (Prod.mk.inj (Prod.mk.inj (Sum.inl.inj z)).2).2; cases z2) z9.symm
  · by_cases e1 : AD k i = AD 5 j
    · obtain ⟨e2, e3⟩ := h.L.ad k i 5 j hk l5 hi hj e1
      rw [e1, e2, e3]
      have e4 : fsV tk v (zJx z j x2 pf2 P) LA AD PI 5 j = joF (v.J j) (LA (40 + j)) (PI j) x2 := by
        show joF (v.J j) (LA (40 + j)) (PI j) (up1 z.jh j x2 j) = _
        rw [up1_eq]
      rw [e4]
      exact h1
    · have h3 := h.L.el k i hk hi
      have h4 := hf _ _ h3 e1 (mm_ne_oa h3 hB)
      have e5 : fsV tk v (zJx z j x2 pf2 P) LA AD PI k i = fsV tk v (zJx z j x1 pf P) LA AD PI k i := by
        unfold fsV
        by_cases e6 : k = 5
        · rw [e6]
          have e7 : i ≠ j := fun z9 => e1 (by rw [e6, z9])
          show joF (v.J i) (LA (40 + i)) (PI i) (up1 z.jh j x2 i) = joF (v.J i) (LA (40 + i)) (PI i) (up1 z.jh j x1 i)
          rw [up1_ne e7, up1_ne e7]
        · rw [if_neg e6, if_neg e6]
          rfl
      rw [e5]
      exact h4
  · obtain ⟨e', h'⟩ := h.L.al x e hx
    by_cases e1 : x = AD 5 j
    · exact ⟨_, by rw [e1]; exact h1⟩
    · by_cases e2 : x = PI j
      · exact ⟨_, by rw [e2]; exact h2⟩
      · exact ⟨e', hf x e' h' e1 e2⟩
  · exact hf x e (h.L.fr x e hx nb) (fun z9 => by rw [z9, h.L.fa 5 j l5 hj] at hx; cases hx) (fun z9 => by rw [z9, h.pn j hj] at hx; cases hx)
  · by_cases e1 : i = j
    · rw [e1]
      show G2 (PI j) = some (.inl (cy 2, 16, .inr (.inl (up1 z.pv j pf2 j))))
      rw [up1_eq]
      exact h2
    · have h3 := h.pi i hi
      have h4 := hf _ _ h3 (mm_ne_ao h3 hA) (fun z9 => e1 (h.pj i j hi hj z9))
      have e8 : (zJx z j x2 pf2 P).pv i = (zJx z j x1 pf P).pv i := by
        show up1 z.pv j pf2 i = up1 z.pv j pf i
        rw [up1_ne e1, up1_ne e1]
      rw [e8]
      exact h4
end
theorem EDP.jb {cy : Nat → ClassId} {e0 : Nat} {tk : Nat → Nat} {G0 : Nat → Option va_E} {Bx : Nat → Prop} {G G2 : Nat → Option va_E} {v : EdV} {z : PtV} {LA EA : Nat → Nat} {AD : Nat → Nat → Nat} {PI : Nat → Nat} {j hh hh2 : Nat} {pf pf2 : Nat → Int64} {P : Nat → PdT} (h : EDP cy e0 tk G0 Bx G v (zJ z j hh pf P) LA EA AD PI) (hj : j < v.nJ) (h1 : G2 (AD 5 j) = some (.inr (5, joF (v.J j) (LA (40 + j)) (PI j) (nI hh2)))) (h2 : G2 (PI j) = some (.inl (cy 2, 16, .inr (.inl pf2)))) (hf : ∀ (x : Nat) (e : va_E), G x = some e → x ≠ AD 5 j → x ≠ PI j → G2 x = some e) : EDP cy e0 tk G0 Bx G2 v (zJ z j hh2 pf2 P) LA EA AD PI := by
  rw [zJ_x] at h ⊢
  exact EDP.jbx h hj h1 h2 hf
/-- the pile -/
def lft (s : Nat × (Nat → Int64)) : Int64 := if s.1 = 0 then 0 else s.2 (s.1 - 1)
def ldn (s : Nat × (Nat → Int64)) : Nat × (Nat → Int64) := (s.1 - 1, s.2)
def lyy (x : Int64) (s : Nat × (Nat → Int64)) : Nat × (Nat → Int64) := (if s.1 < 16 then s.1 + 1 else s.1, if s.1 < 16 then vp_updL s.2 s.1 x else s.2)
theorem lyy_le {x : Int64} {s : Nat × (Nat → Int64)} (h : s.1 ≤ 16) : (lyy x s).1 ≤ 16 := by
  unfold lyy
  dsimp only
  split <;> omega
theorem ldn_le {s : Nat × (Nat → Int64)} (h : s.1 ≤ 16) : (ldn s).1 ≤ 16 := by
  unfold ldn
  dsimp only
  omega
def rfs (hh ti sl : Nat) : Int32 := if nI hh < tkT ti ∨ 16 < nI hh - tkT ti + tkL ti then -3 else if ti = 33 ∧ 64 ≤ sl then -4 else 0
def jnF (ti : Nat) (s : Nat × (Nat → Int64)) : Nat × (Nat → Int64) :=
  if ti = 27 then lyy (lft (ldn s) + lft s) (ldn (ldn s)) else if ti = 28 then lyy (lft (ldn s) - lft s) (ldn (ldn s)) else if ti = 29 then lyy (lft (ldn s) * lft s) (ldn (ldn s)) else lyy (lft (ldn s)) (lyy (lft s) (ldn (ldn s)))
/-- what a GET lays, and what it told -/
def gtV (v : EdV) (ln : Nat) (f : Nat → Int32) (P : Nat → PdT) (d : OpD) : Int64 := match opK v d with
  | none => 0
  | some y => if (teF v y.1 ln f (P y.1) y.2.1).2.1 = 0 then 0 else flr (v.C y.2.2).2.2.2.1 (v.C y.2.2).2.2.2.2.1 (v.C y.2.2).2.2.2.2.2 (teF v y.1 ln f (P y.1) y.2.1).2.2.1
def gtP (v : EdV) (ln : Nat) (f : Nat → Int32) (P : Nat → PdT) (d : OpD) : Nat → PdT := match opK v d with
  | none => P
  | some y => up1 P y.1 (teF v y.1 ln f (P y.1))
abbrev JST : Type := (Nat × (Nat → Int64)) × (Nat → PdT) × Nat × (Nat → Int32)
def stF9 (v : EdV) (ln : Nat) (f : Nat → Int32) (d : OpD) (s : JST) : JST :=
  if d.1 = 25 then (lyy d.2.1 s.1, s.2)
  else if d.1 = 26 then (lyy (gtV v ln f s.2.1 d) s.1, gtP v ln f s.2.1 d, s.2.2)
  else if d.1 = 32 then (ldn s.1, s.2)
  else if d.1 = 33 then (ldn s.1, s.2.1, s.2.2.1 + 1, upd s.2.2.2 s.2.2.1 (vp_nar .byte ((lft s.1).toInt32.toInt8.toInt32)))
  else if d.1 = 30 then (lyy (lft s.1) (lyy (lft s.1) (ldn s.1)), s.2)
  else (jnF d.1 s.1, s.2)
def jrF (v : EdV) (c ln : Nat) (f : Nat → Int32) : Nat → Nat → Int32 → JST → Int32 × JST
  | 0, _, _, s => (0, s)
  | n + 1, lf, pl, s =>
    if pl < 0 ∨ nI (v.nO c) ≤ pl then (1, s)
    else if (v.O c pl.toNatClampNeg).1 = 5 then jrF v c ln f n lf (v.O c pl.toNatClampNeg).2.2.2.2.2.2 s
    else if lf = 0 then (0, s)
    else if ¬ rfs s.1.1 (v.O c pl.toNatClampNeg).1 s.2.2.1 = 0 then (rfs s.1.1 (v.O c pl.toNatClampNeg).1 s.2.2.1, s)
    else if (v.O c pl.toNatClampNeg).1 = 34 then jrF v c ln f n (lf - 1) (if lft s.1 = 0 then (v.O c pl.toNatClampNeg).2.2.2.2.2.2 else pl + 1) (ldn s.1, s.2)
    else jrF v c ln f n (lf - 1) (pl + 1) (stF9 v ln f (v.O c pl.toNatClampNeg) s)
theorem sw_st : ∀ i, i < 35 → (swL.getD i 0 = 6 ↔ i = 25) ∧ (swL.getD i 0 = 7 ↔ i = 26) ∧ (swL.getD i 0 = 8 ↔ i = 32) ∧ (swL.getD i 0 = 9 ↔ i = 33) ∧ (swL.getD i 0 = 10 ↔ i = 30) ∧ (swL.getD i 0 = 11 ↔ i = 27) ∧ (swL.getD i 0 = 12 ↔ i = 28) ∧ (swL.getD i 0 = 13 ↔ i = 29) := by decide +kernel
