/-! ===== OPS' kinds; apartness; what a read is ===== -/
def KOv (v : EdV) : Prop := ∀ c, c < v.nJ → ∀ i, i < v.nO c → (v.O c i).1 < 35
section

variable {K : Nat → Nat} {S : Nat → Int32} {V : Nat → Int64}
theorem q_op_k (hK : ∀ p, K p < 35) {ta on nC : Nat} {q : Nat × Int32} {wf : Nat → Int32} : (q_op K S V ta on nC q wf).2.2.2.1 < 35 := by
  obtain ⟨q1, e1⟩ : ∃ y, y = q_begin S (nI ta) 40 (if K q.1 = 34 then (if on < 3 then q else (q.1, fl S q.1 q.2)) else q) := ⟨_, rfl⟩
  simp only [q_op, ← e1]
  split
  · exact hK _
  · split
    · exact hK _
    · split
      · exact hK _
      · exact hK _
theorem q_ops_k (hK : ∀ p, K p < 35) {n : Nat} : ∀ {kk ta on : Nat} {wf : Nat → Int32} {d : Nat → OpD} {q : Nat × Int32}, (∀ i, (d i).1 < 35) → ∀ i, ((q_ops K S V n kk ta on wf d q).2.1 i).1 < 35 := by
  induction n with
  | zero => intro kk ta on wf d q h; exact h
  | succ n ih =>
    intro kk ta on wf d q h
    rw [q_ops]
    split
    · refine ih (fun i => ?_)
      unfold q_clw upO
      by_cases h1 : i = kk
      · rw [if_pos h1]; exact (by decide : 5 < 35)
      · rw [if_neg h1]
        by_cases h2 : i = (wf (on - 1)).toNatClampNeg
        · rw [if_pos h2]; exact h _
        · rw [if_neg h2]; exact h i
    · split
      · refine ih (fun i => ?_)
        unfold upO
        by_cases h1 : i = kk
        · rw [if_pos h1]; exact q_op_k hK
        · rw [if_neg h1]; exact h i
      · exact h
theorem q_job_k (hK : ∀ p, K p < 35) {nC : Nat} {q : Nat × Int32} {wf : Nat → Int32} (i : Nat) : ((q_job K S V nC q wf).2.2.2 i).1 < 35 := by
  simp only [q_job]
  exact q_ops_k hK (fun _ => (by decide : (0 : Nat) < 35)) i
theorem q_svs_ko {n : Nat} : ∀ {la : Nat} {v : EdV} {q : Nat × Int32}, (q_svs K S V n la v q).1.nO = v.nO ∧ (q_svs K S V n la v q).1.O = v.O := by
  induction n with
  | zero => intro la v q; exact ⟨rfl, rfl⟩
  | succ n ih =>
    intro la v q
    rw [q_svs]
    split
    · exact ih
    · exact ⟨rfl, rfl⟩
theorem q_lay_ko {v : EdV} {q : Nat × Int32} : (q_lay K S V v q).1.nO = v.nO ∧ (q_lay K S V v q).1.O = v.O := by
  obtain ⟨q1, e1⟩ : ∃ y, y = q_begin S (nI v.nL) 6 q := ⟨_, rfl⟩
  obtain ⟨a, e2⟩ : ∃ y, y = q_name K S V q1 := ⟨_, rfl⟩
  obtain ⟨b, e3⟩ : ∃ y, y = (if se K a.2.1 a.2.2 17 then (S (a.2.1 + 1), q_name K S V (a.2.1 + 1, a.2.2)) else (0, (0, a.2))) := ⟨_, rfl⟩
  have h1 := @q_svs_ko K S V 17 v.nL (v.addL (S q1.1, a.1, b.2.1, b.1)) (q_take K S 4 b.2.2)
  rw [addL_nO, addL_O] at h1
  simp only [q_lay, ← e1, ← e2, ← e3]
  exact h1
theorem q_stm_ko (hK : ∀ p, K p < 35) {v : EdV} {q : Nat × Int32} (h : KOv v) : KOv (q_stm K S V v q).1 := by
  unfold q_stm
  split
  · exact h
  · split
    · obtain ⟨o1, o2⟩ := @q_lay_ko K S V v q
      have o3 := (@q_lay_o K S V v q).2.2.2
      intro c hc i hi
      rw [o3] at hc
      rw [o1] at hi
      rw [o2]
      exact h c hc i hi
    · split
      · exact h
      · split
        · exact h
        · split
          · dsimp only
            intro c hc i hi
            rw [addJ_nJ] at hc
            rw [addJ_nO] at hi
            rw [addJ_O]
            by_cases e : c = v.nJ
            · rw [e, up1_eq]
              exact q_job_k hK i
            · rw [up1_ne e] at hi ⊢
              exact h c (by omega) i hi
          · exact h
theorem q_fill_ko (hK : ∀ p, K p < 35) {n : Nat} : ∀ {v : EdV} {q : Nat × Int32}, KOv v → KOv (q_fill K S V n v q).1 := by
  induction n with
  | zero => intro v q h; exact h
  | succ n ih =>
    intro v q h
    rw [q_fill]
    split
    · exact ih (q_stm_ko hK h)
    · exact h
end
theorem cutL_K {f : Nat → Int32} {en : Nat} : ∀ {n : Nat} {x : CuS}, (∀ j, x.2.2.1 j < 35) → ∀ j, (cutL f en n x).2.2.1 j < 35 := by
  intro n
  induction n with
  | zero => intro x h; exact h
  | succ n ih =>
    intro x h
    rw [cutL]
    split
    · rename_i h1
      split
      · exact ih h
      · refine ih (fun j => ?_)
        show kup x.2.2.1 x.2.1 (c1R f x.1 en).1.1 j < 35
        unfold kup
        split
        · exact (c1R_ok h1).2
        · exact h j
    · exact h
theorem tkK_lt {f : Nat → Int32} {en : Nat} (j : Nat) : tkK f en j < 35 := by
  unfold tkK kup
  split
  · decide
  · exact cutL_K (fun _ => (by decide : (3 : Nat) < 35)) j
/-- a text read: the edition's value with (place, fault); the edition's first wrong place and ring; the fault's place; the answer -/
def rdF (ft : Nat → Int32) (tn : Nat) : EdV × (Nat × Int32) := q_fill (tkK ft tn) (tkS ft tn) (tkV ft tn) (tkN ft tn) EdV.nil (0, -1)
def rdV (ft : Nat → Int32) (tn : Nat) : EdV := (rdF ft tn).1
def rdG (ft : Nat → Int32) (tn : Nat) : Int32 × Option Nat := if (rdF ft tn).2.2 < 0 then mAll (rdV ft tn) (-1, none) else (-1, none)
def rdP (ft : Nat → Int32) (tn : Nat) : Int32 := if (rdF ft tn).2.2 < 0 then (rdG ft tn).1 else (rdF ft tn).2.2
def rdA (ft : Nat → Int32) (tn : Nat) : Int32 := if rdP ft tn < 0 then nI (rdV ft tn).nS else -(lnc ft (min (rdP ft tn).toNatClampNeg tn))
def rdN (ft : Nat → Int32) (tn : Nat) : Nat × (Nat → Int64) := ntL (tkK ft tn) (tkV ft tn) (if (rdF ft tn).2.2 < 0 then tkN ft tn else 0)
theorem rdV_ko {ft : Nat → Int32} {tn : Nat} : KOv (rdV ft tn) := q_fill_ko (fun p => tkK_lt p) (fun c hc => absurd hc (Nat.not_lt_zero c))
/-- the reader as it stands between two texts -/
def RDS (cy : Nat → ClassId) (tk : Nat → Nat) (G : Nat → Option va_E) (rd ow k ks ss vs : Nat) : Prop := ∃ (edp : Option Nat) (pl fa : Int32) (m : Nat) (K : Nat → Nat) (S : Nat → Int32) (V : Nat → Int64) (wf : Nat → Int32), G rd = some (.inr (10, [.ref k, .ref ow, va_rf edp, .int pl, .int fa])) ∧ TKB cy tk G k ks ss vs m K S V ∧ G ow = some (.inl (cy 1, 3, .inl wf))
section

variable {cy : Nat → ClassId} {e0 : Nat} {tk : Nat → Nat} {G0 : Nat → Option va_E} {Bx : Nat → Prop} {G G2 : Nat → Option va_E} {v : EdV} {z : PtV} {LA EA : Nat → Nat} {AD : Nat → Nat → Nat} {PI : Nat → Nat}
/-- an object of a class that the edition has none of -/
theorem EDP.oX (h : EDP cy e0 tk G0 Bx G v z LA EA AD PI) {o : Nat} {fs : List Value} {c : Nat} (hc : c ≠ 1 ∧ ∀ k, cIL k ≠ c) (h0 : G o = some (.inr (c, fs))) : (∀ k, lvV v k → ¬ LA k = o) ∧ (∀ k, lvV v k → 1 ≤ lnV v k → ¬ EA k = o) ∧ (∀ k i, lvV v k → i < lnV v k → ¬ AD k i = o) ∧ (∀ i, i < v.nJ → ¬ PI i = o) :=
  ⟨fun k hk => (h.L.ls k hk).ne h0 hc.1, fun k hk n => Ne.symm (LiS.nea (h.L.ls k hk) n h0), fun k i hk hi => mm_ne_oo (h.L.el k i hk hi) h0 (hc.2 k), fun i hi => mm_ne_ao (h.pi i hi) h0⟩
theorem cIL_14 : (14 : Nat) ≠ 1 ∧ ∀ k, cIL k ≠ 14 := by
  refine ⟨by decide, fun k => ?_⟩
  unfold cIL
  repeat (first | decide | split)
/-- a short row of references is none of the edition's -/
theorem EDP.aX (h : EDP cy e0 tk G0 Bx G v z LA EA AD PI) {a n : Nat} {y : ClassId} {gv : Nat → Option Nat} (hn : n < 10) (h0 : G a = some (.inl (y, n, .inr (.inr (.inr (.inr gv)))))) : (∀ k, lvV v k → ¬ LA k = a) ∧ (∀ k, lvV v k → 1 ≤ lnV v k → ¬ EA k = a) ∧ (∀ k i, lvV v k → i < lnV v k → ¬ AD k i = a) ∧ (∀ i, i < v.nJ → ¬ PI i = a) := by
  refine ⟨fun k hk => LiS.nal (h.L.ls k hk) h0, fun k hk n1 e => ?_, fun k i hk hi => mm_ne_oa (h.L.el k i hk hi) h0, fun i hi => mm_ne_e (h.pi i hi) h0 (fun z => by have z2 := (Prod.mk.inj (Prod.mk.inj (Sum.inl.inj z)).2).2; cases z2)⟩
  obtain ⟨mo, -, h3 | ⟨a1, a2, gv2, a3, -⟩⟩ := h.L.ls k hk
  · omega
  · refine mm_ne_n a3 h0 ?_ e
    have : 10 ≤ cpf (lnV v k) := by
      unfold cpf
      repeat' split
      all_goals decide
    omega
end
