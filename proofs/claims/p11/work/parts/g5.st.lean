/-! ===== what stands between two calls of the law ===== -/
theorem cutL_hi {f : Nat → Int32} {en : Nat} : ∀ {n : Nat} {x : CuS}, (∀ j, x.2.1 ≤ j → x.2.2.1 j = 3) → ∀ j, (cutL f en n x).2.1 ≤ j → (cutL f en n x).2.2.1 j = 3 := by
  intro n
  induction n with
  | zero => intro x h; exact h
  | succ n ih =>
    intro x h
    rw [cutL]
    split
    · split
      · exact ih (x := (x.1 + 1, x.2)) h
      · refine ih (fun j hj => ?_)
        have hj2 : x.2.1 + 1 ≤ j := hj
        show kup x.2.2.1 x.2.1 (c1R f x.1 en).1.1 j = 3
        unfold kup
        rw [if_neg (by omega)]
        exact h j (by omega)
    · exact h
theorem tkK_hi {f : Nat → Int32} {en j : Nat} (hj : tkN f en ≤ j) : tkK f en j = 3 := by
  unfold tkN at hj
  unfold tkK kup
  rw [if_neg (by omega)]
  exact cutL_hi (x := CuS.nil) (fun _ _ => rfl) j (by unfold cutT at hj; omega)
theorem ntL_hi {f : Nat → Int32} {en : Nat} : ∀ d, ntL (tkK f en) (tkV f en) (tkN f en + d) = ntL (tkK f en) (tkV f en) (tkN f en) := by
  intro d
  induction d with
  | zero => rfl
  | succ d ih => rw [show tkN f en + (d + 1) = tkN f en + d + 1 from rfl, ntL_ne (by rw [tkK_hi (by omega)]; decide), ih]
theorem nt1000g {f : Nat → Int32} {en : Nat} (n : Nat) (hen : en ≤ 2000) : (ntL (tkK f en) (tkV f en) n).1 ≤ 1000 := by
  by_cases h : n ≤ tkN f en
  · exact nt1000 hen h
  · rw [show n = tkN f en + (n - tkN f en) by omega, ntL_hi]
    exact nt1000 hen (Nat.le_refl _)
section

variable {cy : Nat → ClassId} {e0 : Nat} {tk : Nat → Nat} {G G2 : Nat → Option va_E} {v : EdV} {z : PtV} {LA EA : Nat → Nat} {AD : Nat → Nat → Nat} {PI : Nat → Nat} {ed na : Nat}
/-- all that is an edition's is of P -/
def OWN (P : Nat → Prop) (v : EdV) (LA EA : Nat → Nat) (AD : Nat → Nat → Nat) (PI : Nat → Nat) (ed na : Nat) : Prop := (∀ k, lvV v k → P (LA k)) ∧ (∀ k, lvV v k → 1 ≤ lnV v k → P (EA k)) ∧ (∀ k i, lvV v k → i < lnV v k → P (AD k i)) ∧ (∀ i, i < v.nJ → P (PI i)) ∧ P ed ∧ P na
theorem EDP.own {Bx : Nat → Prop} {P : Nat → Prop} (h : EDP cy e0 tk (fun _ => none) Bx G v z LA EA AD PI) (hO : OWN P v LA EA AD PI ed na) (hf : ∀ x e, G x = some e → P x → G2 x = some e) : EDP cy e0 tk (fun _ => none) Bx G2 v z LA EA AD PI := by
  obtain ⟨hL, h2, h3, h4, h5, h6⟩ := h
  obtain ⟨hl, he, ha, hp, -, -⟩ := hO
  exact ⟨⟨fun k hk => (hL.ls k hk).fr2 P hf (hl k hk) (fun _ n _ => he k hk n), fun k i hk hi => hf _ _ (hL.el k i hk hi) (ha k i hk hi), hL.la, hL.ea, hL.ad, hL.fl, hL.fe, hL.fa, fun x e z => (by cases z), fun x e z => (by cases z)⟩, h2, h3, fun i hi => hf _ _ (h4 i hi) (hp i hi), h5, h6⟩
/-- an edition by itself: of the text f, n; its object ed, its ring's start rg; its cells are of P -/
def EDx (cy : Nat → ClassId) (e0 : Nat) (tk : Nat → Nat) (P : Nat → Prop) (G : Nat → Option va_E) (f : Nat → Int32) (n ed : Nat) (rg : Option Nat) : Prop := ∃ (LA EA : Nat → Nat) (AD : Nat → Nat → Nat) (PI : Nat → Nat) (z : PtV) (na cap : Nat) (nv : Nat → Int64) (ui : Option Nat), EDP cy e0 tk (fun _ => none) (fun _ => True) G (rdV f n) z LA EA AD PI ∧ OWN P (rdV f n) LA EA AD PI ed na ∧ G ed = some (.inr (3, [.ref (LA 0), .ref (LA 1), .ref (LA 2), .ref (LA 3), .ref (LA 4), .ref (LA 5), .ref na, .int (nI (rdN f n).1), va_rf (ui.map (AD 1)), .int (rdG f n).1, va_rf ((rdG f n).2.map (AD 1))])) ∧ G na = some (.inl (cy 2, cap, .inr (.inl nv))) ∧ (rdN f n).1 ≤ cap ∧ cap ≤ 2048 ∧ (∀ i, i < (rdN f n).1 → nv i = (rdN f n).2 i) ∧ (∀ i, i < (rdV f n).nJ → PI i ≠ na) ∧ (∀ k, ui = some k → k < (rdV f n).nL) ∧ ((rdF f n).2.2 < 0 → ZF (rdV f n) AD z) ∧ JHv (rdV f n) z ∧ rg = (rdG f n).2.map (AD 1)
theorem EDx.mv {P : Nat → Prop} {f : Nat → Int32} {n ed : Nat} {rg : Option Nat} (h : EDx cy e0 tk P G f n ed rg) (hf : ∀ x e, G x = some e → P x → G2 x = some e) : EDx cy e0 tk P G2 f n ed rg := by
  obtain ⟨LA, EA, AD, PI, z, na, cap, nv, ui, a1, a2, a3, a4, a5⟩ := h
  exact ⟨LA, EA, AD, PI, z, na, cap, nv, ui, a1.own a2 hf, a2, hf _ _ a3 a2.2.2.2.2.1, hf _ _ a4 a2.2.2.2.2.2, a5⟩
theorem lis_ea {al ea n : Nat} {f : Nat → Nat} (h : LiS cy e0 G al ea n f) (hn : 1 ≤ n) : ∃ e, G ea = some e := by
  obtain ⟨mo, q, ⟨h, -⟩ | ⟨a, b, gv, q2, q3⟩⟩ := h
  · omega
  · exact ⟨_, q2⟩
theorem EDx.pr {P P2 : Nat → Prop} {f : Nat → Int32} {n ed : Nat} {rg : Option Nat} (h : EDx cy e0 tk P G f n ed rg) (hp : ∀ x e, G x = some e → P x → P2 x) : EDx cy e0 tk P2 G f n ed rg := by
  obtain ⟨LA, EA, AD, PI, z, na, cap, nv, ui, a1, ⟨b1, b2, b3, b4, b5, b6⟩, a3, a4, a5⟩ := h
  refine ⟨LA, EA, AD, PI, z, na, cap, nv, ui, a1, ⟨fun k hk => ?_, fun k hk n => ?_, fun k i hk hi => hp _ _ (a1.L.el k i hk hi) (b3 k i hk hi), fun i hi => hp _ _ (a1.2.2.2.1 i hi) (b4 i hi), hp _ _ a3 b5, hp _ _ a4 b6⟩, a3, a4, a5⟩
  · obtain ⟨fs, h3⟩ := (a1.L.ls k hk).some
    exact hp _ _ h3 (b1 k hk)
  · obtain ⟨e, h3⟩ := lis_ea (a1.L.ls k hk) n
    exact hp _ _ h3 (b2 k hk n)
theorem RDS.mv {rd ow k ks ss vs : Nat} (h : RDS cy tk G rd ow k ks ss vs) (hf : ∀ x e, G x = some e → (x = rd ∨ x = ow ∨ x = k ∨ x = ks ∨ x = ss ∨ x = vs) → G2 x = some e) : RDS cy tk G2 rd ow k ks ss vs := by
  obtain ⟨edp, pl, fa, m, K, S, V, wf, r1, ⟨u1, u2, u3, r2, r3, r4, r5, r6⟩, r7⟩ := h
  exact ⟨edp, pl, fa, m, K, S, V, wf, hf _ _ r1 (Or.inl rfl), ⟨u1, u2, u3, hf _ _ r2 (Or.inr (Or.inr (Or.inl rfl))), hf _ _ r3 (Or.inr (Or.inr (Or.inr (Or.inl rfl)))), hf _ _ r4 (Or.inr (Or.inr (Or.inr (Or.inr (Or.inl rfl))))), hf _ _ r5 (Or.inr (Or.inr (Or.inr (Or.inr (Or.inr rfl))))), r6⟩, hf _ _ r7 (Or.inr (Or.inl rfl))⟩
/-- the class's own cells -/
def CSa (cy : Nat → ClassId) (tk : Nat → Nat) (tag : Nat → Nat) (G : Nat → Option va_E) (o tx rd to se kp ow k ks ss vs ro rs : Nat) (hd rg : Option Nat) (tn kn ln sl : Nat) (ft : Nat → Int32) (kf : Nat → Option Nat) (fo sf : Nat → Int32) : Prop :=
  G o = some (.inr (14, [.ref tx, .ref rd, .ref to, .ref se, .ref kp, .int (nI tn), .int (nI kn), va_rf hd, va_rf rg])) ∧ RDS cy tk G rd ow k ks ss vs ∧ G tx = some (.inl (cy 0, 2000, .inl ft)) ∧ G kp = some (.inl (cy 6, 4, .inr (.inr (.inr (.inr kf))))) ∧ G to = some (.inr (7, [.ref ro, .int (nI ln)])) ∧ G ro = some (.inl (cy 0, 64, .inl fo)) ∧ G se = some (.inr (7, [.ref rs, .int (nI sl)])) ∧ G rs = some (.inl (cy 0, 64, .inl sf)) ∧ to ≠ se ∧ ro ≠ rs ∧ ln ≤ 64 ∧ sl ≤ 64 ∧ tn ≤ 2000 ∧ kn ≤ 4 ∧ (tag o = 0 ∧ tag tx = 0 ∧ tag rd = 0 ∧ tag to = 0 ∧ tag se = 0 ∧ tag kp = 0 ∧ tag ow = 0 ∧ tag k = 0 ∧ tag ks = 0 ∧ tag ss = 0 ∧ tag vs = 0 ∧ tag ro = 0 ∧ tag rs = 0)
theorem CSa.mv {tag : Nat → Nat} {o tx rd to se kp ow k ks ss vs ro rs : Nat} {hd rg : Option Nat} {tn kn ln sl : Nat} {ft : Nat → Int32} {kf : Nat → Option Nat} {fo sf : Nat → Int32} (h : CSa cy tk tag G o tx rd to se kp ow k ks ss vs ro rs hd rg tn kn ln sl ft kf fo sf) (hf : ∀ x e, tag x = 0 → G x = some e → G2 x = some e) : CSa cy tk tag G2 o tx rd to se kp ow k ks ss vs ro rs hd rg tn kn ln sl ft kf fo sf := by
  obtain ⟨a1, a2, a3, a4, a5, a6, a7, a8, a9, a10, a11, a12, a13, a14, t1, t2, t3, t4, t5, t6, t7, t8, t9, t10, t11, t12, t13⟩ := h
  exact ⟨hf _ _ t1 a1, a2.mv (fun x e h z => hf x e (by rcases z with z | z | z | z | z | z <;> (rw [z]; assumption)) h), hf _ _ t2 a3, hf _ _ t6 a4, hf _ _ t4 a5, hf _ _ t12 a6, hf _ _ t5 a7, hf _ _ t13 a8, a9, a10, a11, a12, a13, a14, t1, t2, t3, t4, t5, t6, t7, t8, t9, t10, t11, t12, t13⟩
/-- the editions of all reads so far: M reads, N of them went well; the j-th that went well is read gi j -/
def CSe (cy : Nat → ClassId) (e0 : Nat) (tk : Nat → Nat) (tag : Nat → Nat) (G : Nat → Option va_E) (M : Nat) (ge : Nat → Nat → Int32) (gn ea : Nat → Nat) (ra : Nat → Option Nat) (gi : Nat → Nat) (N : Nat) (fe : Nat → Nat → Int32) (ne : Nat → Nat) (kf : Nat → Option Nat) : Prop :=
  (∀ g, g < M → gn g ≤ 2000 ∧ EDx cy e0 tk (fun x => tag x = g + 2) G (ge g) (gn g) (ea g) (ra g)) ∧ (∀ j, 1 ≤ j → j ≤ N → gi j < M ∧ ge (gi j) = fe j ∧ gn (gi j) = ne j ∧ rdP (fe j) (ne j) < 0) ∧ ∀ j, j < N → j < 4 → kf j = some (ea (gi (j + 1)))
theorem CSe.mv {tag : Nat → Nat} {M : Nat} {ge : Nat → Nat → Int32} {gn ea : Nat → Nat} {ra : Nat → Option Nat} {gi : Nat → Nat} {N : Nat} {fe : Nat → Nat → Int32} {ne : Nat → Nat} {kf : Nat → Option Nat} (h : CSe cy e0 tk tag G M ge gn ea ra gi N fe ne kf) (hf : ∀ x e, 2 ≤ tag x → G x = some e → G2 x = some e) : CSe cy e0 tk tag G2 M ge gn ea ra gi N fe ne kf :=
  ⟨fun g hg => ⟨(h.1 g hg).1, (h.1 g hg).2.mv (fun x e z y => hf x e (by omega) z)⟩, h.2⟩
theorem CSe.up {tag : Nat → Nat} {M : Nat} {ge : Nat → Nat → Int32} {gn ea : Nat → Nat} {ra : Nat → Option Nat} {gi : Nat → Nat} {N : Nat} {fe : Nat → Nat → Int32} {ne : Nat → Nat} {kf : Nat → Option Nat} (h : CSe cy e0 tk tag G M ge gn ea ra gi N fe ne kf) (g0 : Nat) (hn : EDx cy e0 tk (fun x => tag x = g0 + 2) G2 (ge g0) (gn g0) (ea g0) (ra g0)) (hf : ∀ x e, 2 ≤ tag x → tag x ≠ g0 + 2 → G x = some e → G2 x = some e) : CSe cy e0 tk tag G2 M ge gn ea ra gi N fe ne kf := by
  refine ⟨fun g hg => ⟨(h.1 g hg).1, ?_⟩, h.2⟩
  by_cases z : g = g0
  · rw [z]; exact hn
  · exact (h.1 g hg).2.mv (fun x e y1 y2 => hf x e (by omega) (by omega) y1)
/-- the class between two calls: text ft of tn octets, N editions read; W: cells that aren't its own -/
def CST (cy : Nat → ClassId) (e0 : Nat) (tk : Nat → Nat) (W : Nat → Prop) (G : Nat → Option va_E) (o tn : Nat) (ft : Nat → Int32) (N : Nat) (fe : Nat → Nat → Int32) (ne : Nat → Nat) : Prop :=
  ∃ (tag : Nat → Nat) (M : Nat) (ge : Nat → Nat → Int32) (gn ea : Nat → Nat) (ra : Nat → Option Nat) (gi : Nat → Nat) (tx rd to se kp ow k ks ss vs ro rs ln sl : Nat) (kf : Nat → Option Nat) (fo sf : Nat → Int32), CSa cy tk tag G o tx rd to se kp ow k ks ss vs ro rs (if N = 0 then none else some (ea (gi N))) (if M = 0 then none else ra (M - 1)) tn (if N < 4 then N else 4) ln sl ft kf fo sf ∧ CSe cy e0 tk tag G M ge gn ea ra gi N fe ne kf ∧ ∀ x, W x → tag x = 1 ∧ ∃ e, G x = some e
/-- what isn't the class's stands -/
def KPW (W : Nat → Prop) (G G2 : Nat → Option va_E) : Prop := ∀ x e, W x → G x = some e → G2 x = some e
theorem KPW.rf {W : Nat → Prop} : KPW W G G := fun _ _ _ h => h
theorem CST.mv {W : Nat → Prop} {o tn : Nat} {ft : Nat → Int32} {N : Nat} {fe : Nat → Nat → Int32} {ne : Nat → Nat} (h : CST cy e0 tk W G o tn ft N fe ne) (hf : ∀ x e, ¬ W x → G x = some e → G2 x = some e) (hW : ∀ x, W x → ∃ e, G2 x = some e) : CST cy e0 tk W G2 o tn ft N fe ne := by
  obtain ⟨tag, M, ge, gn, ea, ra, gi, tx, rd, to, se, kp, ow, k, ks, ss, vs, ro, rs, ln, sl, kf, fo, sf, h1, h2, h3⟩ := h
  exact ⟨tag, M, ge, gn, ea, ra, gi, tx, rd, to, se, kp, ow, k, ks, ss, vs, ro, rs, ln, sl, kf, fo, sf, h1.mv (fun x e y => hf x e (fun z => by rw [(h3 x z).1] at y; cases y)), h2.mv (fun x e y => hf x e (fun z => by rw [(h3 x z).1] at y; omega)), fun x z => ⟨(h3 x z).1, hW x z⟩⟩
end
