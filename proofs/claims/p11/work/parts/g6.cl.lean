/-! ===== the ring's start is a layer ===== -/
def RB (n : Nat) (w : Int32 × Option Nat) : Prop := ∀ b, w.2 = some b → b < n
theorem rb_ex1 {n : Nat} {rt : Bool} {a : Int32} {w : Int32 × Option Nat} (h : RB n w) : RB n (ex1 rt a w) := by
  intro b hb
  unfold ex1 at hb
  by_cases z : b2i rt = 0 ∧ isF w.1 a = true
  · simp only [if_pos z] at hb; cases hb
  · simp only [if_neg z] at hb; exact h b hb
theorem rb_exN {n : Nat} {nC : Nat} {zs za : Nat → Int32} : ∀ {m j : Nat} {w : Int32 × Option Nat}, RB n w → RB n (exN nC zs za m j w) := by
  intro m
  induction m with
  | zero => intro j w h; exact h
  | succ m ih =>
    intro j w h
    rw [exN]
    exact ih (rb_ex1 h)
theorem rb_lS {n : Nat} {v : EdV} {j : Nat} {w : Int32 × Option Nat} (h : RB n w) : RB n (lS v j w) := by
  unfold lS
  split
  · exact rb_ex1 h
  · exact rb_ex1 (rb_ex1 h)
theorem rb_pS {n : Nat} {v : EdV} {c j : Nat} {w : Int32 × Option Nat} (h : RB n w) : RB n (pS v c j w) := by
  unfold pS
  split
  · exact rb_ex1 (rb_ex1 h)
  · exact rb_ex1 (rb_ex1 (rb_ex1 h))
theorem rb_oS {n : Nat} {v : EdV} {c j : Nat} {w : Int32 × Option Nat} (h : RB n w) : RB n (oS v c j w) := by
  unfold oS
  split
  · exact rb_ex1 (rb_ex1 h)
  · exact h
theorem rb_mL1 {n : Nat} {v : EdV} : ∀ {m j : Nat} {w : Int32 × Option Nat}, RB n w → RB n (mL1 v m j w) := by
  intro m
  induction m with
  | zero => intro j w h; exact h
  | succ m ih =>
    intro j w h
    rw [mL1]
    exact ih (rb_lS h)
theorem rb_mL2 {v : EdV} : ∀ {m j : Nat} {w : Int32 × Option Nat}, m + j ≤ v.nL → RB v.nL w → RB v.nL (mL2 v m j w) := by
  intro m
  induction m with
  | zero => intro j w _ h; exact h
  | succ m ih =>
    intro j w hm h
    rw [mL2]
    refine ih (by omega) (fun b hb => ?_)
    unfold rS at hb
    split at hb
    · cases hb; omega
    · exact h b hb
theorem rb_mP {n : Nat} {v : EdV} {c : Nat} : ∀ {m j : Nat} {w : Int32 × Option Nat}, RB n w → RB n (mP v c m j w) := by
  intro m
  induction m with
  | zero => intro j w h; exact h
  | succ m ih =>
    intro j w h
    rw [mP]
    exact ih (rb_pS h)
theorem rb_mO {n : Nat} {v : EdV} {c : Nat} : ∀ {m j : Nat} {w : Int32 × Option Nat}, RB n w → RB n (mO v c m j w) := by
  intro m
  induction m with
  | zero => intro j w h; exact h
  | succ m ih =>
    intro j w h
    rw [mO]
    exact ih (rb_oS h)
theorem rb_mV {n : Nat} {v : EdV} : ∀ {m j : Nat} {w : Int32 × Option Nat}, RB n w → RB n (mV v m j w) := by
  intro m
  induction m with
  | zero => intro j w h; exact h
  | succ m ih =>
    intro j w h
    rw [mV]
    exact ih (rb_ex1 h)
theorem rb_mC {n : Nat} {v : EdV} : ∀ {m j : Nat} {w : Int32 × Option Nat}, RB n w → RB n (mC v m j w) := by
  intro m
  induction m with
  | zero => intro j w h; exact h
  | succ m ih =>
    intro j w h
    rw [mC]
    exact ih (rb_exN (rb_ex1 h))
theorem rb_mS {n : Nat} {v : EdV} : ∀ {m j : Nat} {w : Int32 × Option Nat}, RB n w → RB n (mS v m j w) := by
  intro m
  induction m with
  | zero => intro j w h; exact h
  | succ m ih =>
    intro j w h
    rw [mS]
    exact ih (rb_mP (rb_ex1 h))
theorem rb_mJ {n : Nat} {v : EdV} : ∀ {m j : Nat} {w : Int32 × Option Nat}, RB n w → RB n (mJ v m j w) := by
  intro m
  induction m with
  | zero => intro j w h; exact h
  | succ m ih =>
    intro j w h
    rw [mJ]
    exact ih (rb_mO (rb_ex1 h))
theorem rb_all {v : EdV} {w : Int32 × Option Nat} (h : RB v.nL w) : RB v.nL (mAll v w) := by
  unfold mAll onV onE mLy
  exact rb_mJ (rb_mV (rb_exN (rb_exN (rb_mS (rb_mC (rb_mL2 (by omega) (rb_mL1 h)))))))
theorem rdG_lt {ft : Nat → Int32} {tn b : Nat} (h : (rdG ft tn).2 = some b) : b < (rdV ft tn).nL ∧ (rdF ft tn).2.2 < 0 := by
  unfold rdG at h
  split at h
  · next z => exact ⟨rb_all (w := (-1, none)) (fun b hb => by cases hb) b h, z⟩
  · cases h
/-! ===== the class's calls, whatever was called before ===== -/
section

variable {cy : Nat → ClassId} {e0 : Nat} {tk : Nat → Nat} {G G2 : Nat → Option va_E}
theorem RDS.ne {rd ow k ks ss vs se rs n : Nat} {fs : List Value} {y : ClassId} {sf : (Nat → Int32) ⊕ (Nat → Int64) ⊕ (Nat → UInt32) ⊕ (Nat → UInt64) ⊕ (Nat → Option Nat)} (h : RDS cy tk G rd ow k ks ss vs) (hse : G se = some (.inr (7, fs))) (hrs : G rs = some (.inl (y, 64, sf))) : ∀ x, (x = rd ∨ x = ow ∨ x = k ∨ x = ks ∨ x = ss ∨ x = vs) → x ≠ se ∧ x ≠ rs := by
  obtain ⟨edp, pl, fa, m, K, S, V, wf, r1, ⟨u1, u2, u3, r2, r3, r4, r5, r6⟩, r7⟩ := h
  intro x z
  rcases z with z | z | z | z | z | z
  · rw [z]; exact ⟨mm_ne_oo r1 hse (by decide), mm_ne_oa r1 hrs⟩
  · rw [z]; exact ⟨mm_ne_ao r7 hse, mm_ne_n r7 hrs (by decide)⟩
  · rw [z]; exact ⟨mm_ne_oo r2 hse (by decide), mm_ne_oa r2 hrs⟩
  · rw [z]; exact ⟨mm_ne_ao r3 hse, mm_ne_n r3 hrs (by decide)⟩
  · rw [z]; exact ⟨mm_ne_ao r4 hse, mm_ne_n r4 hrs (by decide)⟩
  · rw [z]; exact ⟨mm_ne_ao r5 hse, mm_ne_n r5 hrs (by decide)⟩
/-- the octets told, or those sent, are others -/
theorem CSa.se {tag : Nat → Nat} {o tx rd to se kp ow k ks ss vs ro rs : Nat} {hd rg : Option Nat} {tn kn ln sl : Nat} {ft : Nat → Int32} {kf : Nat → Option Nat} {fo sf : Nat → Int32} (h : CSa cy tk tag G o tx rd to se kp ow k ks ss vs ro rs hd rg tn kn ln sl ft kf fo sf) {sl2 : Nat} {sf2 : Nat → Int32} (h1 : G2 se = some (.inr (7, [.ref rs, .int (nI sl2)]))) (h2 : G2 rs = some (.inl (cy 0, 64, .inl sf2))) (hl : sl2 ≤ 64) (hf : ∀ x e, tag x = 0 → x ≠ se → x ≠ rs → G x = some e → G2 x = some e) : CSa cy tk tag G2 o tx rd to se kp ow k ks ss vs ro rs hd rg tn kn ln sl2 ft kf fo sf2 := by
  obtain ⟨a1, a2, a3, a4, a5, a6, a7, a8, a9, a10, a11, a12, a13, a14, t1, t2, t3, t4, t5, t6, t7, t8, t9, t10, t11, t12, t13⟩ := h
  have hR := a2.ne (n := 0) a7 a8
  exact ⟨hf _ _ t1 (mm_ne_oo a1 a7 (by decide)) (mm_ne_oa a1 a8) a1, a2.mv (fun x e h z => hf x e (by rcases z with z | z | z | z | z | z <;> (rw [z]; assumption)) (hR x z).1 (hR x z).2 h), hf _ _ t2 (mm_ne_ao a3 a7) (mm_ne_n a3 a8 (by decide)) a3, hf _ _ t6 (mm_ne_ao a4 a7) (mm_ne_n a4 a8 (by decide)) a4, hf _ _ t4 a9 (mm_ne_oa a5 a8) a5, hf _ _ t12 (mm_ne_ao a6 a7) a10 a6, h1, h2, a9, a10, a11, hl, a13, a14, t1, t2, t3, t4, t5, t6, t7, t8, t9, t10, t11, t12, t13⟩
theorem CSa.to {tag : Nat → Nat} {o tx rd to se kp ow k ks ss vs ro rs : Nat} {hd rg : Option Nat} {tn kn ln sl : Nat} {ft : Nat → Int32} {kf : Nat → Option Nat} {fo sf : Nat → Int32} (h : CSa cy tk tag G o tx rd to se kp ow k ks ss vs ro rs hd rg tn kn ln sl ft kf fo sf) {sl2 : Nat} {sf2 : Nat → Int32} (h1 : G2 to = some (.inr (7, [.ref ro, .int (nI sl2)]))) (h2 : G2 ro = some (.inl (cy 0, 64, .inl sf2))) (hl : sl2 ≤ 64) (hf : ∀ x e, tag x = 0 → x ≠ to → x ≠ ro → G x = some e → G2 x = some e) : CSa cy tk tag G2 o tx rd to se kp ow k ks ss vs ro rs hd rg tn kn sl2 sl ft kf sf2 sf := by
  obtain ⟨a1, a2, a3, a4, a5, a6, a7, a8, a9, a10, a11, a12, a13, a14, t1, t2, t3, t4, t5, t6, t7, t8, t9, t10, t11, t12, t13⟩ := h
  have hR := a2.ne (n := 0) a5 a6
  exact ⟨hf _ _ t1 (mm_ne_oo a1 a5 (by decide)) (mm_ne_oa a1 a6) a1, a2.mv (fun x e h z => hf x e (by rcases z with z | z | z | z | z | z <;> (rw [z]; assumption)) (hR x z).1 (hR x z).2 h), hf _ _ t2 (mm_ne_ao a3 a5) (mm_ne_n a3 a6 (by decide)) a3, hf _ _ t6 (mm_ne_ao a4 a5) (mm_ne_n a4 a6 (by decide)) a4, h1, h2, hf _ _ t5 (Ne.symm a9) (mm_ne_oa a7 a6) a7, hf _ _ t13 (mm_ne_ao a8 a5) (Ne.symm a10) a8, a9, a10, hl, a12, a13, a14, t1, t2, t3, t4, t5, t6, t7, t8, t9, t10, t11, t12, t13⟩
/-- the text is another -/
theorem CSa.tx {tag : Nat → Nat} {o tx rd to se kp ow k ks ss vs ro rs : Nat} {hd rg : Option Nat} {tn kn ln sl : Nat} {ft : Nat → Int32} {kf : Nat → Option Nat} {fo sf : Nat → Int32} (h : CSa cy tk tag G o tx rd to se kp ow k ks ss vs ro rs hd rg tn kn ln sl ft kf fo sf) {tn2 : Nat} {ft2 : Nat → Int32} (h1 : G2 o = some (.inr (14, [.ref tx, .ref rd, .ref to, .ref se, .ref kp, .int (nI tn2), .int (nI kn), va_rf hd, va_rf rg]))) (h2 : G2 tx = some (.inl (cy 0, 2000, .inl ft2))) (hl : tn2 ≤ 2000) (hf : ∀ x e, G x = some e → x ≠ o → x ≠ tx → G2 x = some e) : CSa cy tk tag G2 o tx rd to se kp ow k ks ss vs ro rs hd rg tn2 kn ln sl ft2 kf fo sf := by
  obtain ⟨a1, a2, a3, a4, a5, a6, a7, a8, a9, a10, a11, a12, a13, a14, t1, t2, t3, t4, t5, t6, t7, t8, t9, t10, t11, t12, t13⟩ := h
  refine ⟨h1, ?_, h2, hf _ _ a4 (mm_ne_ao a4 a1) (mm_ne_n a4 a3 (by decide)), hf _ _ a5 (mm_ne_oo a5 a1 (by decide)) (mm_ne_oa a5 a3), hf _ _ a6 (mm_ne_ao a6 a1) (mm_ne_n a6 a3 (by decide)), hf _ _ a7 (mm_ne_oo a7 a1 (by decide)) (mm_ne_oa a7 a3), hf _ _ a8 (mm_ne_ao a8 a1) (mm_ne_n a8 a3 (by decide)), a9, a10, a11, a12, hl, a14, t1, t2, t3, t4, t5, t6, t7, t8, t9, t10, t11, t12, t13⟩
  obtain ⟨edp, pl, fa, m, K, S, V, wf, r1, ⟨u1, u2, u3, r2, r3, r4, r5, r6⟩, r7⟩ := a2
  exact ⟨edp, pl, fa, m, K, S, V, wf, hf _ _ r1 (mm_ne_oo r1 a1 (by decide)) (mm_ne_oa r1 a3), ⟨u1, u2, u3, hf _ _ r2 (mm_ne_oo r2 a1 (by decide)) (mm_ne_oa r2 a3), hf _ _ r3 (mm_ne_ao r3 a1) (mm_ne_n r3 a3 (by decide)), hf _ _ r4 (mm_ne_ao r4 a1) (mm_ne_n r4 a3 (by decide)), hf _ _ r5 (mm_ne_ao r5 a1) (mm_ne_n r5 a3 (by decide)), r6⟩, hf _ _ r7 (mm_ne_ao r7 a1) (mm_ne_n r7 a3 (by decide))⟩
variable {tag : Nat → Nat} {M : Nat} {ge : Nat → Nat → Int32} {gn ea : Nat → Nat} {ra : Nat → Option Nat} {gi : Nat → Nat} {N : Nat} {fe : Nat → Nat → Int32} {ne : Nat → Nat} {kf : Nat → Option Nat}
/-- what is in hand -/
theorem CSe.hand (h : CSe cy e0 tk tag G M ge gn ea ra gi N fe ne kf) {j : Nat} (hj : 1 ≤ j) (hN : j ≤ N) : EDx cy e0 tk (fun x => tag x = gi j + 2) G (fe j) (ne j) (ea (gi j)) (ra (gi j)) ∧ rdP (fe j) (ne j) < 0 ∧ ne j ≤ 2000 ∧ gi j < M := by
  obtain ⟨h1, h2, h3, h4⟩ := h.2.1 j hj hN
  have h5 := h.1 _ h1
  rw [h2, h3] at h5
  exact ⟨h5.2, h4, h5.1, h1⟩
/-- the hand's own cells, and the octets sent, are others -/
theorem CST.cl {W : Nat → Prop} {o tx rd to se kp ow k ks ss vs ro rs tn ln sl : Nat} {ft : Nat → Int32} {fo sf : Nat → Int32} (h1 : CSa cy tk tag G o tx rd to se kp ow k ks ss vs ro rs (if N = 0 then none else some (ea (gi N))) (if M = 0 then none else ra (M - 1)) tn (if N < 4 then N else 4) ln sl ft kf fo sf) (h2 : CSe cy e0 tk tag G M ge gn ea ra gi N fe ne kf) (h3 : ∀ x, W x → tag x = 1 ∧ ∃ e, G x = some e) (hN : ¬ N = 0) (hE : EDx cy e0 tk (fun x => tag x = gi N + 2) G2 (fe N) (ne N) (ea (gi N)) (ra (gi N))) {sl2 : Nat} {sf2 : Nat → Int32} (y1 : G2 se = some (.inr (7, [.ref rs, .int (nI sl2)]))) (y2 : G2 rs = some (.inl (cy 0, 64, .inl sf2))) (hl : sl2 ≤ 64) (hf : ∀ x e, tag x ≠ gi N + 2 → x ≠ se → x ≠ rs → G x = some e → G2 x = some e) : CST cy e0 tk W G2 o tn ft N fe ne ∧ KPW W G G2 := by
  have ts : tag se = 0 := h1.2.2.2.2.2.2.2.2.2.2.2.2.2.2.2.2.2.2.1
  have tr : tag rs = 0 := h1.2.2.2.2.2.2.2.2.2.2.2.2.2.2.2.2.2.2.2.2.2.2.2.2.2.2
  have hw : KPW W G G2 := fun x e w z => hf x e (by rw [(h3 x w).1]; omega) (fun y => by rw [y] at w; have := (h3 _ w).1; omega) (fun y => by rw [y] at w; have := (h3 _ w).1; omega) z
  obtain ⟨-, y3, y4, -⟩ := h2.2.1 N (by omega) (Nat.le_refl _)
  refine ⟨⟨tag, M, ge, gn, ea, ra, gi, tx, rd, to, se, kp, ow, k, ks, ss, vs, ro, rs, ln, sl2, kf, fo, sf2, h1.se y1 y2 hl (fun x e t0 n1 n2 z => hf x e (by omega) n1 n2 z), h2.up (gi N) (by rw [y3, y4]; exact hE) (fun x e t1 t2 z => hf x e t2 (fun y => by rw [y] at t1; omega) (fun y => by rw [y] at t1; omega) z), fun x w => ⟨(h3 x w).1, ?_⟩⟩, hw⟩
  obtain ⟨e, he⟩ := (h3 x w).2
  exact ⟨e, hw x e w he⟩
end
