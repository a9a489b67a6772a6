/-! ===== answers, as functions of what both sides hold ===== -/
def NMf (f : Nat → Int32) (n : Nat) : Int64 → Int32 := fun y => nof (fun j => decide ((rdN f n).2 j = y)) (rdN f n).1
def SVr (N : Nat) (f : Nat → Int32) (n : Nat) (ui : Option Nat) (iv wv : Int32) : Int32 := if N = 0 then -1 else match svO (rdV f n) iv with | none => -1 | some c => svA (rdV f n) (NMf f n) ui c wv
def PAr (N : Nat) (f : Nat → Int32) (n : Nat) (iv jv wv : Int32) : Int32 := if N = 0 then -1 else match svO (rdV f n) iv with | none => -1 | some c => match paO (rdV f n) c jv with | none => -1 | some p => paA (rdV f n) (NMf f n) c p wv
def COr (N : Nat) (f : Nat → Int32) (n : Nat) (iv : Int32) : Int32 := if N = 0 then 0 else match fnE (rdV f n) iv with | none => 0 | some j => NMf f n ((rdV f n).E j).2.2.1
def VAr (N : Nat) (f : Nat → Int32) (n : Nat) (iv : Int32) : Int32 := if N = 0 then -3 else nu1 (lyA (rdV f n) iv)
def VAu (N : Nat) (f : Nat → Int32) (n : Nat) (ui : Option Nat) (iv : Int32) : Option Nat := if N = 0 then ui else lyA (rdV f n) iv
def RGr (lf : Nat → Int32) (lt : Nat) (iv : Int32) : Int32 := match (rdG lf lt).2 with | none => 0 | some b => if 0 ≤ iv ∧ iv < 6 then nu1 (rgF (rdV lf lt) b iv.toNatClampNeg (some b)) else 0
def DCr (N : Nat) (f : Nat → Int32) (n ln : Nat) (fo : Nat → Int32) (P : Nat → PdT) (iv jv wv : Int32) : Int64 := if N = 0 then -1 else match spO (rdV f n) iv jv with | none => -1 | some y => if 0 ≤ wv ∧ wv ≤ 4 then dcA (rdV f n) (NMf f n) (teF (rdV f n) y.1 ln fo (P y.1)) y.1 y.2 wv else -2
def ENr (N : Nat) (f : Nat → Int32) (n : Nat) (iv jv : Int32) (xv : Int64) : Int32 := if N = 0 then -1 else enR (rdV f n) iv jv xv
def JBr (N : Nat) (f : Nat → Int32) (n ln : Nat) (fo : Nat → Int32) (P : Nat → PdT) (pf : Nat → Int64) (sf : Nat → Int32) (iv : Int32) (xs : Int64) : Int32 := if N = 0 then -1 else jbA (rdV f n) ln fo P pf sf iv xs
def RDu (f : Nat → Int32) (n : Nat) : Option Nat := if (rdV f n).nL = 0 then none else some 0
def ocN (n : Nat) : Nat := if n = 64 then 1 else n + 1
def ocF (n : Nat) (f : Nat → Int32) (bv : Int32) : Nat → Int32 := upd f (ocN n - 1) (vp_nar .byte bv.toInt8.toInt32)
theorem ocN_ok {n : Nat} (h : n ≤ 64) : oc_n (nI n) + 1 = nI (ocN n) ∧ (oc_n (nI n)).toNatClampNeg = ocN n - 1 ∧ ocN n ≤ 64 ∧ 1 ≤ ocN n := by
  unfold oc_n ocN
  by_cases z : n = 64
  · rw [z, if_pos (by decide), if_pos rfl]
    exact ⟨by decide, by decide, by omega, by omega⟩
  · rw [if_neg (fun y => z (nI_inj (by omega) (by omega) (y.trans (show (64 : Int32) = nI 64 from rfl)))), if_neg z]
    exact ⟨(nI_succ n).symm, by rw [nI_clamp (by omega)]; rfl, by omega, by omega⟩
section

variable {cy : Nat → ClassId} {e0 : Nat} {tk : Nat → Nat} {G G2 : Nat → Option va_E} {v : EdV} {z : PtV} {LA EA : Nat → Nat} {AD : Nat → Nat → Nat} {PI : Nat → Nat} {ed na : Nat}
/-- an edition by itself: of the text f, n; its object ed, its ring's start rg; its cells are of P -/
def EDy (cy : Nat → ClassId) (e0 : Nat) (tk : Nat → Nat) (P : Nat → Prop) (G : Nat → Option va_E) (f : Nat → Int32) (n ed : Nat) (rg : Option Nat) (ui : Option Nat) : Prop := ∃ (LA EA : Nat → Nat) (AD : Nat → Nat → Nat) (PI : Nat → Nat) (z : PtV) (na cap : Nat) (nv : Nat → Int64), EDP cy e0 tk (fun _ => none) (fun _ => True) G (rdV f n) z LA EA AD PI ∧ OWN P (rdV f n) LA EA AD PI ed na ∧ G ed = some (.inr (3, [.ref (LA 0), .ref (LA 1), .ref (LA 2), .ref (LA 3), .ref (LA 4), .ref (LA 5), .ref na, .int (nI (rdN f n).1), va_rf (ui.map (AD 1)), .int (rdG f n).1, va_rf ((rdG f n).2.map (AD 1))])) ∧ G na = some (.inl (cy 2, cap, .inr (.inl nv))) ∧ (rdN f n).1 ≤ cap ∧ cap ≤ 2048 ∧ (∀ i, i < (rdN f n).1 → nv i = (rdN f n).2 i) ∧ (∀ i, i < (rdV f n).nJ → PI i ≠ na) ∧ (∀ k, ui = some k → k < (rdV f n).nL) ∧ ((rdF f n).2.2 < 0 → ZF (rdV f n) AD z) ∧ JHv (rdV f n) z ∧ rg = (rdG f n).2.map (AD 1)
theorem EDy.mv {P : Nat → Prop} {f : Nat → Int32} {n ed : Nat} {rg ui : Option Nat} (h : EDy cy e0 tk P G f n ed rg ui) (hf : ∀ x e, G x = some e → P x → G2 x = some e) : EDy cy e0 tk P G2 f n ed rg ui := by
  obtain ⟨LA, EA, AD, PI, z, na, cap, nv, a1, a2, a3, a4, a5⟩ := h
  exact ⟨LA, EA, AD, PI, z, na, cap, nv, a1.own a2 hf, a2, hf _ _ a3 a2.2.2.2.2.1, hf _ _ a4 a2.2.2.2.2.2, a5⟩
theorem EDy.pr {P P2 : Nat → Prop} {f : Nat → Int32} {n ed : Nat} {rg ui : Option Nat} (h : EDy cy e0 tk P G f n ed rg ui) (hp : ∀ x e, G x = some e → P x → P2 x) : EDy cy e0 tk P2 G f n ed rg ui := by
  obtain ⟨LA, EA, AD, PI, z, na, cap, nv, a1, ⟨b1, b2, b3, b4, b5, b6⟩, a3, a4, a5⟩ := h
  refine ⟨LA, EA, AD, PI, z, na, cap, nv, a1, ⟨fun k hk => ?_, fun k hk n => ?_, fun k i hk hi => hp _ _ (a1.L.el k i hk hi) (b3 k i hk hi), fun i hi => hp _ _ (a1.2.2.2.1 i hi) (b4 i hi), hp _ _ a3 b5, hp _ _ a4 b6⟩, a3, a4, a5⟩
  · obtain ⟨fs, h3⟩ := (a1.L.ls k hk).some
    exact hp _ _ h3 (b1 k hk)
  · obtain ⟨e, h3⟩ := lis_ea (a1.L.ls k hk) n
    exact hp _ _ h3 (b2 k hk n)
/-- the editions of all reads so far: M reads, N of them went well; the j-th that went well is read gi j -/
def CSf (cy : Nat → ClassId) (e0 : Nat) (tk : Nat → Nat) (tag : Nat → Nat) (G : Nat → Option va_E) (M : Nat) (ge : Nat → Nat → Int32) (gn ea : Nat → Nat) (ra eu : Nat → Option Nat) (gi : Nat → Nat) (N : Nat) (fe : Nat → Nat → Int32) (ne : Nat → Nat) (kf : Nat → Option Nat) : Prop :=
  (∀ g, g < M → gn g ≤ 2000 ∧ EDy cy e0 tk (fun x => tag x = g + 2) G (ge g) (gn g) (ea g) (ra g) (eu g)) ∧ (∀ j, 1 ≤ j → j ≤ N → gi j < M ∧ ge (gi j) = fe j ∧ gn (gi j) = ne j ∧ rdP (fe j) (ne j) < 0) ∧ ∀ j, j < N → j < 4 → kf j = some (ea (gi (j + 1)))
theorem CSf.mv {tag : Nat → Nat} {M : Nat} {ge : Nat → Nat → Int32} {gn ea : Nat → Nat} {ra eu : Nat → Option Nat} {gi : Nat → Nat} {N : Nat} {fe : Nat → Nat → Int32} {ne : Nat → Nat} {kf : Nat → Option Nat} (h : CSf cy e0 tk tag G M ge gn ea ra eu gi N fe ne kf) (hf : ∀ x e, 2 ≤ tag x → G x = some e → G2 x = some e) : CSf cy e0 tk tag G2 M ge gn ea ra eu gi N fe ne kf :=
  ⟨fun g hg => ⟨(h.1 g hg).1, (h.1 g hg).2.mv (fun x e z y => hf x e (by omega) z)⟩, h.2⟩
theorem CSf.up {tag : Nat → Nat} {M : Nat} {ge : Nat → Nat → Int32} {gn ea : Nat → Nat} {ra eu : Nat → Option Nat} {gi : Nat → Nat} {N : Nat} {fe : Nat → Nat → Int32} {ne : Nat → Nat} {kf : Nat → Option Nat} (h : CSf cy e0 tk tag G M ge gn ea ra eu gi N fe ne kf) (g0 : Nat) (hn : EDy cy e0 tk (fun x => tag x = g0 + 2) G2 (ge g0) (gn g0) (ea g0) (ra g0) (eu g0)) (hf : ∀ x e, 2 ≤ tag x → tag x ≠ g0 + 2 → G x = some e → G2 x = some e) : CSf cy e0 tk tag G2 M ge gn ea ra eu gi N fe ne kf := by
  refine ⟨fun g hg => ⟨(h.1 g hg).1, ?_⟩, h.2⟩
  by_cases z : g = g0
  · rw [z]; exact hn
  · exact (h.1 g hg).2.mv (fun x e y1 y2 => hf x e (by omega) (by omega) y1)
theorem CSf.upu {tag : Nat → Nat} {M : Nat} {ge : Nat → Nat → Int32} {gn ea : Nat → Nat} {ra eu : Nat → Option Nat} {gi : Nat → Nat} {N : Nat} {fe : Nat → Nat → Int32} {ne : Nat → Nat} {kf : Nat → Option Nat} (h : CSf cy e0 tk tag G M ge gn ea ra eu gi N fe ne kf) (g0 : Nat) (u : Option Nat) (hn : EDy cy e0 tk (fun x => tag x = g0 + 2) G2 (ge g0) (gn g0) (ea g0) (ra g0) u) (hf : ∀ x e, 2 ≤ tag x → tag x ≠ g0 + 2 → G x = some e → G2 x = some e) : CSf cy e0 tk tag G2 M ge gn ea ra (kup eu g0 u) gi N fe ne kf := by
  refine ⟨fun g hg => ⟨(h.1 g hg).1, ?_⟩, h.2⟩
  by_cases z : g = g0
  · rw [z, kup_eq]; exact hn
  · rw [kup_ne z]; exact (h.1 g hg).2.mv (fun x e y1 y2 => hf x e (by omega) (by omega) y1)
/-- the class between two calls: text ft of tn octets, N editions read; W: cells that aren't its own -/
def CSU (cy : Nat → ClassId) (e0 : Nat) (tk : Nat → Nat) (W : Nat → Prop) (G : Nat → Option va_E) (o tn : Nat) (ft : Nat → Int32) (N : Nat) (fe : Nat → Nat → Int32) (ne : Nat → Nat) (ui : Option Nat) (lf : Nat → Int32) (lt ln : Nat) (fo : Nat → Int32) : Prop :=
  ∃ (tag : Nat → Nat) (M : Nat) (ge : Nat → Nat → Int32) (gn ea : Nat → Nat) (ra eu : Nat → Option Nat) (gi : Nat → Nat) (tx rd to se kp ow k ks ss vs ro rs sl : Nat) (kf : Nat → Option Nat) (sf : Nat → Int32), CSa cy tk tag G o tx rd to se kp ow k ks ss vs ro rs (if N = 0 then none else some (ea (gi N))) (if M = 0 then none else ra (M - 1)) tn (if N < 4 then N else 4) ln sl ft kf fo sf ∧ CSf cy e0 tk tag G M ge gn ea ra eu gi N fe ne kf ∧ (∀ x, W x → tag x = 1 ∧ ∃ e, G x = some e) ∧ (¬ N = 0 → eu (gi N) = ui) ∧ (M = 0 → (rdG lf lt).2 = none) ∧ (¬ M = 0 → ge (M - 1) = lf ∧ gn (M - 1) = lt)
theorem CSU.mv {W : Nat → Prop} {o tn : Nat} {ft : Nat → Int32} {N : Nat} {fe : Nat → Nat → Int32} {ne : Nat → Nat} {ui : Option Nat} {lf : Nat → Int32} {lt ln : Nat} {fo : Nat → Int32} (h : CSU cy e0 tk W G o tn ft N fe ne ui lf lt ln fo) (hf : ∀ x e, ¬ W x → G x = some e → G2 x = some e) (hW : ∀ x, W x → ∃ e, G2 x = some e) : CSU cy e0 tk W G2 o tn ft N fe ne ui lf lt ln fo := by
  obtain ⟨tag, M, ge, gn, ea, ra, eu, gi, tx, rd, to, se, kp, ow, k, ks, ss, vs, ro, rs, sl, kf, sf, h1, h2, h3, h4⟩ := h
  exact ⟨tag, M, ge, gn, ea, ra, eu, gi, tx, rd, to, se, kp, ow, k, ks, ss, vs, ro, rs, sl, kf, sf, h1.mv (fun x e y => hf x e (fun z => by rw [(h3 x z).1] at y; cases y)), h2.mv (fun x e y => hf x e (fun z => by rw [(h3 x z).1] at y; omega)), fun x z => ⟨(h3 x z).1, hW x z⟩, h4⟩
variable {tag : Nat → Nat} {M : Nat} {ge : Nat → Nat → Int32} {gn ea : Nat → Nat} {ra eu : Nat → Option Nat} {gi : Nat → Nat} {N : Nat} {fe : Nat → Nat → Int32} {ne : Nat → Nat} {kf : Nat → Option Nat}
/-- what is in hand -/
theorem CSf.hand (h : CSf cy e0 tk tag G M ge gn ea ra eu gi N fe ne kf) {j : Nat} (hj : 1 ≤ j) (hN : j ≤ N) : EDy cy e0 tk (fun x => tag x = gi j + 2) G (fe j) (ne j) (ea (gi j)) (ra (gi j)) (eu (gi j)) ∧ rdP (fe j) (ne j) < 0 ∧ ne j ≤ 2000 ∧ gi j < M := by
  obtain ⟨h1, h2, h3, h4⟩ := h.2.1 j hj hN
  have h5 := h.1 _ h1
  rw [h2, h3] at h5
  exact ⟨h5.2, h4, h5.1, h1⟩
/-- the hand's own cells, and the octets sent, are others -/
theorem CSU.cl {W : Nat → Prop} {ui2 : Option Nat} {lf : Nat → Int32} {lt : Nat} {o tx rd to se kp ow k ks ss vs ro rs tn ln sl : Nat} {ft : Nat → Int32} {fo sf : Nat → Int32} (h1 : CSa cy tk tag G o tx rd to se kp ow k ks ss vs ro rs (if N = 0 then none else some (ea (gi N))) (if M = 0 then none else ra (M - 1)) tn (if N < 4 then N else 4) ln sl ft kf fo sf) (h2 : CSf cy e0 tk tag G M ge gn ea ra eu gi N fe ne kf) (h3 : ∀ x, W x → tag x = 1 ∧ ∃ e, G x = some e) (h5 : M = 0 → (rdG lf lt).2 = none) (h6 : ¬ M = 0 → ge (M - 1) = lf ∧ gn (M - 1) = lt) (hN : ¬ N = 0) (hE : EDy cy e0 tk (fun x => tag x = gi N + 2) G2 (fe N) (ne N) (ea (gi N)) (ra (gi N)) ui2) {sl2 : Nat} {sf2 : Nat → Int32} (y1 : G2 se = some (.inr (7, [.ref rs, .int (nI sl2)]))) (y2 : G2 rs = some (.inl (cy 0, 64, .inl sf2))) (hl : sl2 ≤ 64) (hf : ∀ x e, tag x ≠ gi N + 2 → x ≠ se → x ≠ rs → G x = some e → G2 x = some e) : CSU cy e0 tk W G2 o tn ft N fe ne ui2 lf lt ln fo ∧ KPW W G G2 := by
  have ts : tag se = 0 := h1.2.2.2.2.2.2.2.2.2.2.2.2.2.2.2.2.2.2.1
  have tr : tag rs = 0 := h1.2.2.2.2.2.2.2.2.2.2.2.2.2.2.2.2.2.2.2.2.2.2.2.2.2.2
  have hw : KPW W G G2 := fun x e w z => hf x e (by rw [(h3 x w).1]; omega) (fun y => by rw [y] at w; have := (h3 _ w).1; omega) (fun y => by rw [y] at w; have := (h3 _ w).1; omega) z
  obtain ⟨-, y3, y4, -⟩ := h2.2.1 N (by omega) (Nat.le_refl _)
  refine ⟨⟨tag, M, ge, gn, ea, ra, kup eu (gi N) ui2, gi, tx, rd, to, se, kp, ow, k, ks, ss, vs, ro, rs, sl2, kf, sf2, h1.se y1 y2 hl (fun x e t0 n1 n2 z => hf x e (by omega) n1 n2 z), h2.upu (gi N) ui2 (by rw [y3, y4]; exact hE) (fun x e t1 t2 z => hf x e t2 (fun y => by rw [y] at t1; omega) (fun y => by rw [y] at t1; omega) z), fun x w => ⟨(h3 x w).1, ?_⟩, fun _ => kup_eq, h5, h6⟩, hw⟩
  obtain ⟨e, he⟩ := (h3 x w).2
  exact ⟨e, hw x e w he⟩
theorem CSU.obj {Wq : Nat → Prop} {o tn : Nat} {ft : Nat → Int32} {N : Nat} {fe : Nat → Nat → Int32} {ne : Nat → Nat} {ui : Option Nat} {lf : Nat → Int32} {lt ln : Nat} {fo : Nat → Int32} (h : CSU cy e0 tk Wq G o tn ft N fe ne ui lf lt ln fo) : (∃ fs, G o = some (.inr (14, fs))) ∧ tn ≤ 2000 := by
  obtain ⟨tag, M, ge, gn, ea, ra, eu, gi, tx, rd, to, se, kp, ow, k, ks, ss, vs, ro, rs, sl, kf, sf, h1, h2, h3, h4⟩ := h
  exact ⟨⟨_, h1.1⟩, h1.2.2.2.2.2.2.2.2.2.2.2.2.1⟩
theorem CSU.mvF {V : Nat → Prop} {wa o tn : Nat} {ft : Nat → Int32} {N : Nat} {fe : Nat → Nat → Int32} {ne : Nat → Nat} {ui : Option Nat} {lf : Nat → Int32} {lt ln : Nat} {fo : Nat → Int32} (h : CSU cy e0 tk (fun x => V x ∨ x = wa) G o tn ft N fe ne ui lf lt ln fo) (hF : FRV V G G2) : CSU cy e0 tk (fun x => V x ∨ x = wa) G2 o tn ft N fe ne ui lf lt ln fo := by
  have h3 : ∀ x, (V x ∨ x = wa) → ∃ e, G x = some e := by
    obtain ⟨tag, M, ge, gn, ea, ra, eu, gi, tx, rd, to, se, kp, ow, k, ks, ss, vs, ro, rs, sl, kf, sf, h1, h2, h3, h4⟩ := h
    exact fun x hx => (h3 x hx).2
  exact h.mv (fun x e n y => hF.1 x e (fun z => n (Or.inl z)) y) (fun x hx => by obtain ⟨e, he⟩ := h3 x hx; exact hF.2 x e he)
end
