
section

variable {K : Nat → Nat} {S : Nat → Int32} {V : Nat → Int64}
/-- how many services a layer may bring -/
theorem q_svs_b (hS : ∀ p, ¬ S p < 0) {n : Nat} : ∀ {la : Nat} {v : EdV} {q : Nat × Int32}, v.nS ≤ 17 → (q.2 < 0 → v.nS ≤ 16) → (q_svs K S V n la v q).1.nS ≤ 17 ∧ ((q_svs K S V n la v q).2.2 < 0 → (q_svs K S V n la v q).1.nS ≤ 16) := by
  induction n with
  | zero => intro la v q h1 h2; exact ⟨h1, h2⟩
  | succ n ih =>
    intro la v q h1 h2
    rw [q_svs]
    split
    · rename_i hs
      have h3 := h2 (se_t hs).1
      refine ih ?_ (fun hz => ?_)
      · rw [addS_nS]; omega
      · rw [addS_nS]
        rcases Nat.lt_or_ge v.nS 16 with h4 | h4
        · omega
        · exact absurd hz (q_ser_full hS (fun z => by have := nI_lt_of (a := v.nS) (b := 16) (by omega) (by decide) (Int32.not_le.mpr z); omega))
    · exact ⟨h1, h2⟩
theorem q_lay_b (hS : ∀ p, ¬ S p < 0) {v : EdV} {q : Nat × Int32} (h : v.nS ≤ 16) : (q_lay K S V v q).1.nS ≤ 17 ∧ ((q_lay K S V v q).2.2 < 0 → (q_lay K S V v q).1.nS ≤ 16) := by
  obtain ⟨q1, e1⟩ : ∃ y, y = q_begin S (nI v.nL) 6 q := ⟨_, rfl⟩
  obtain ⟨a, e2⟩ : ∃ y, y = q_name K S V q1 := ⟨_, rfl⟩
  obtain ⟨b, e3⟩ : ∃ y, y = (if se K a.2.1 a.2.2 17 then (S (a.2.1 + 1), q_name K S V (a.2.1 + 1, a.2.2)) else (0, (0, a.2))) := ⟨_, rfl⟩
  obtain ⟨r, e4⟩ : ∃ y, y = q_svs K S V 17 v.nL (v.addL (S q1.1, a.1, b.2.1, b.1)) (q_take K S 4 b.2.2) := ⟨_, rfl⟩
  obtain ⟨h1, h2⟩ := @q_svs_b K S V hS 17 v.nL (v.addL (S q1.1, a.1, b.2.1, b.1)) (q_take K S 4 b.2.2) (by rw [addL_nS]; omega) (fun _ => by rw [addL_nS]; exact h)
  rw [← e4] at h1 h2
  simp only [q_lay, ← e1, ← e2, ← e3, ← e4]
  refine ⟨h1, fun hz => h2 ?_⟩
  refine Classical.byContradiction (fun hn => ?_)
  rw [q_take_f hn] at hz
  exact hn hz
theorem q_svs_o {n : Nat} : ∀ {la : Nat} {v : EdV} {q : Nat × Int32}, (q_svs K S V n la v q).1.nC = v.nC ∧ (q_svs K S V n la v q).1.nE = v.nE ∧ (q_svs K S V n la v q).1.nV = v.nV ∧ (q_svs K S V n la v q).1.nJ = v.nJ := by
  induction n with
  | zero => intro la v q; exact ⟨rfl, rfl, rfl, rfl⟩
  | succ n ih =>
    intro la v q
    rw [q_svs]
    split
    · exact ih
    · exact ⟨rfl, rfl, rfl, rfl⟩
theorem q_lay_nL {v : EdV} {q : Nat × Int32} : (q_lay K S V v q).1.nL = v.nL + 1 := by
  obtain ⟨q1, e1⟩ : ∃ y, y = q_begin S (nI v.nL) 6 q := ⟨_, rfl⟩
  obtain ⟨a, e2⟩ : ∃ y, y = q_name K S V q1 := ⟨_, rfl⟩
  obtain ⟨b, e3⟩ : ∃ y, y = (if se K a.2.1 a.2.2 17 then (S (a.2.1 + 1), q_name K S V (a.2.1 + 1, a.2.2)) else (0, (0, a.2))) := ⟨_, rfl⟩
  have h1 := (@q_svs_mono K S V 17 v.nL (v.addL (S q1.1, a.1, b.2.1, b.1)) (q_take K S 4 b.2.2)).2
  rw [addL_nL] at h1
  simp only [q_lay, ← e1, ← e2, ← e3]
  exact h1
theorem q_lay_nS {v : EdV} {q : Nat × Int32} : v.nS ≤ (q_lay K S V v q).1.nS := by
  obtain ⟨q1, e1⟩ : ∃ y, y = q_begin S (nI v.nL) 6 q := ⟨_, rfl⟩
  obtain ⟨a, e2⟩ : ∃ y, y = q_name K S V q1 := ⟨_, rfl⟩
  obtain ⟨b, e3⟩ : ∃ y, y = (if se K a.2.1 a.2.2 17 then (S (a.2.1 + 1), q_name K S V (a.2.1 + 1, a.2.2)) else (0, (0, a.2))) := ⟨_, rfl⟩
  have h1 := (@q_svs_mono K S V 17 v.nL (v.addL (S q1.1, a.1, b.2.1, b.1)) (q_take K S 4 b.2.2)).1
  rw [addL_nS] at h1
  simp only [q_lay, ← e1, ← e2, ← e3]
  exact h1
theorem q_lay_o {v : EdV} {q : Nat × Int32} : (q_lay K S V v q).1.nC = v.nC ∧ (q_lay K S V v q).1.nE = v.nE ∧ (q_lay K S V v q).1.nV = v.nV ∧ (q_lay K S V v q).1.nJ = v.nJ := by
  obtain ⟨q1, e1⟩ : ∃ y, y = q_begin S (nI v.nL) 6 q := ⟨_, rfl⟩
  obtain ⟨a, e2⟩ : ∃ y, y = q_name K S V q1 := ⟨_, rfl⟩
  obtain ⟨b, e3⟩ : ∃ y, y = (if se K a.2.1 a.2.2 17 then (S (a.2.1 + 1), q_name K S V (a.2.1 + 1, a.2.2)) else (0, (0, a.2))) := ⟨_, rfl⟩
  have h1 := @q_svs_o K S V 17 v.nL (v.addL (S q1.1, a.1, b.2.1, b.1)) (q_take K S 4 b.2.2)
  rw [addL_nC, addL_nE, addL_nV, addL_nJ] at h1
  simp only [q_lay, ← e1, ← e2, ← e3]
  exact h1
/-- a statement -/
def q_stm (K : Nat → Nat) (S : Nat → Int32) (V : Nat → Int64) (v : EdV) (q : Nat × Int32) : EdV × (Nat × Int32) :=
  if K q.1 = 11 then (v.addC (q_cod K S V v.nC q).2, (q_cod K S V v.nC q).1)
  else if K q.1 = 16 then q_lay K S V v q
  else if K q.1 = 22 then (v.addE (q_code K S V v.nE q).2, (q_code K S V v.nE q).1)
  else if K q.1 = 23 then (v.addV (q_vari K S V v.nV q).2, (q_vari K S V v.nV q).1)
  else if K q.1 = 24 then (v.addJ (q_job K S V v.nJ q (fun _ => 0)).2, (q_job K S V v.nJ q (fun _ => 0)).1)
  else (v, (q.1, fl S q.1 q.2))
def q_fill (K : Nat → Nat) (S : Nat → Int32) (V : Nat → Int64) : Nat → EdV → Nat × Int32 → EdV × (Nat × Int32)
  | 0, v, q => (v, q)
  | n + 1, v, q => if q.2 < 0 ∧ K q.1 ≠ 2 then q_fill K S V n (q_stm K S V v q).1 (q_stm K S V v q).2 else (v, q)
/-- how many there may be, while no fault is found -/
def BDv (v : EdV) : Prop := v.nC ≤ 12 ∧ v.nL ≤ 6 ∧ v.nS ≤ 16 ∧ v.nE ≤ 12 ∧ v.nV ≤ 6 ∧ v.nJ ≤ 4
def BDw (v : EdV) : Prop := v.nC ≤ 13 ∧ v.nL ≤ 7 ∧ v.nS ≤ 17 ∧ v.nE ≤ 13 ∧ v.nV ≤ 7 ∧ v.nJ ≤ 5
theorem nI_nlt_of {a b : Nat} (ha : a < 2 ^ 31) (hb : b < 2 ^ 31) (h : ¬ a < b) : ¬ nI a < nI b := fun z => h (nI_lt_of ha hb (Int32.not_le.mpr z))
theorem bd_C {v : EdV} (h : BDv v) {x : (Int32 × Int64 × Int32) × (Int32 × Int32 × Int64 × Int64 × Int64) × (Nat × (Nat → RwD))} {q2 : Nat × Int32} (hx : ¬ nI v.nC < 12 → ¬ q2.2 < 0) : BDw (v.addC x) ∧ (q2.2 < 0 → BDv (v.addC x)) := by
  obtain ⟨b1, b2, b3, b4, b5, b6⟩ := h
  unfold BDw BDv
  rw [addC_nC, addC_nL, addC_nS, addC_nE, addC_nV, addC_nJ]
  refine ⟨by omega, fun hz => ?_⟩
  rcases Nat.lt_or_ge v.nC 12 with h4 | h4
  · omega
  · exact absurd hz (hx (nI_nlt_of (b := 12) (by omega) (by decide) (by omega)))
theorem bd_E {v : EdV} (h : BDv v) {x : RwD} {q2 : Nat × Int32} (hx : ¬ nI v.nE < 12 → ¬ q2.2 < 0) : BDw (v.addE x) ∧ (q2.2 < 0 → BDv (v.addE x)) := by
  obtain ⟨b1, b2, b3, b4, b5, b6⟩ := h
  unfold BDw BDv
  rw [addE_nC, addE_nL, addE_nS, addE_nE, addE_nV, addE_nJ]
  refine ⟨by omega, fun hz => ?_⟩
  rcases Nat.lt_or_ge v.nE 12 with h4 | h4
  · omega
  · exact absurd hz (hx (nI_nlt_of (b := 12) (by omega) (by decide) (by omega)))
theorem bd_V {v : EdV} (h : BDv v) {x : RwD} {q2 : Nat × Int32} (hx : ¬ nI v.nV < 6 → ¬ q2.2 < 0) : BDw (v.addV x) ∧ (q2.2 < 0 → BDv (v.addV x)) := by
  obtain ⟨b1, b2, b3, b4, b5, b6⟩ := h
  unfold BDw BDv
  rw [addV_nC, addV_nL, addV_nS, addV_nE, addV_nV, addV_nJ]
  refine ⟨by omega, fun hz => ?_⟩
  rcases Nat.lt_or_ge v.nV 6 with h4 | h4
  · omega
  · exact absurd hz (hx (nI_nlt_of (b := 6) (by omega) (by decide) (by omega)))
theorem bd_J {v : EdV} (h : BDv v) {x : (Int32 × Int64) × (Nat × (Nat → OpD))} {q2 : Nat × Int32} (hx : ¬ nI v.nJ < 4 → ¬ q2.2 < 0) : BDw (v.addJ x) ∧ (q2.2 < 0 → BDv (v.addJ x)) := by
  obtain ⟨b1, b2, b3, b4, b5, b6⟩ := h
  unfold BDw BDv
  rw [addJ_nC, addJ_nL, addJ_nS, addJ_nE, addJ_nV, addJ_nJ]
  refine ⟨by omega, fun hz => ?_⟩
  rcases Nat.lt_or_ge v.nJ 4 with h4 | h4
  · omega
  · exact absurd hz (hx (nI_nlt_of (b := 4) (by omega) (by decide) (by omega)))
theorem bd_L (hS : ∀ p, ¬ S p < 0) {v : EdV} {q : Nat × Int32} (h : BDv v) : BDw (q_lay K S V v q).1 ∧ ((q_lay K S V v q).2.2 < 0 → BDv (q_lay K S V v q).1) := by
  obtain ⟨b1, b2, b3, b4, b5, b6⟩ := h
  have hL := @q_lay_nL K S V v q
  obtain ⟨c1, c2⟩ := @q_lay_b K S V hS v q b3
  obtain ⟨o1, o2, o3, o4⟩ := @q_lay_o K S V v q
  have hf := @q_lay_full K S V hS v q
  generalize q_lay K S V v q = r at *
  unfold BDw BDv
  rw [hL, o1, o2, o3, o4]
  refine ⟨by omega, fun hz => ?_⟩
  have c3 := c2 hz
  rcases Nat.lt_or_ge v.nL 6 with h4 | h4
  · omega
  · exact absurd hz (hf (nI_nlt_of (b := 6) (by omega) (by decide) (by omega)))
theorem q_stm_b (hS : ∀ p, ¬ S p < 0) {v : EdV} {q : Nat × Int32} (h : BDv v) : BDw (q_stm K S V v q).1 ∧ ((q_stm K S V v q).2.2 < 0 → BDv (q_stm K S V v q).1) := by
  unfold q_stm
  split
  · dsimp only
    exact bd_C h (fun z => q_cod_full hS z)
  · split
    · exact bd_L hS h
    · split
      · dsimp only
        exact bd_E h (fun z => q_code_full hS z)
      · split
        · dsimp only
          exact bd_V h (fun z => q_vari_full hS z)
        · split
          · dsimp only
            exact bd_J h (fun z => q_job_full hS z)
          · dsimp only
            obtain ⟨b1, b2, b3, b4, b5, b6⟩ := h
            exact ⟨⟨by omega, by omega, by omega, by omega, by omega, by omega⟩, fun _ => ⟨b1, b2, b3, b4, b5, b6⟩⟩
theorem okq_stm {v : EdV} {q : Nat × Int32} (h : OKQ S q) : OKQ S (q_stm K S V v q).2 := by
  unfold q_stm
  split
  · dsimp only; exact okq_cod h
  · split
    · exact okq_lay h
    · split
      · dsimp only; exact okq_code h
      · split
        · dsimp only; exact okq_vari h
        · split
          · dsimp only; exact okq_job h
          · dsimp only; exact okq_fl h
theorem okq_fill {n : Nat} : ∀ {v : EdV} {q : Nat × Int32}, OKQ S q → OKQ S (q_fill K S V n v q).2 := by
  induction n with
  | zero => intro v q h; exact h
  | succ n ih =>
    intro v q h
    rw [q_fill]
    split
    · exact ih (okq_stm h)
    · exact h
theorem q_stm_le {v : EdV} {q : Nat × Int32} : (q_stm K S V v q).2.1 ≤ q.1 + 1600 := by
  unfold q_stm
  split
  · have := @q_cod_le K S V v.nC q
    simp only []; omega
  · split
    · exact q_lay_le
    · split
      · have := @q_code_le K S V v.nE q
        simp only []; omega
      · split
        · have := @q_vari_le K S V v.nV q
          simp only []; omega
        · split
          · have := @q_job_le K S V v.nJ q (fun _ => 0)
            simp only []; omega
          · simp only []; omega
end
/-- what an edition costs in places -/
def gs : Nat → Nat
  | 0 => 0
  | n + 1 => gs n + gco n
theorem gs_le : ∀ n, n ≤ 13 → gs n ≤ 25 := by decide +kernel
def coC (v : EdV) : Nat := 21 * v.nC + 2 * v.nL + 21 * v.nS + 2 * v.nE + 2 * v.nV + 166 * v.nJ
def coS (v : EdV) : Nat := 68 * v.nC + gs v.nC + 28 * v.nL + 176 * v.nS + 5 * v.nE + gs v.nE + 5 * v.nV + gs v.nV + 1064 * v.nJ + gs v.nJ
theorem coC_le {v : EdV} (h : BDw v) : coC v ≤ 1514 := by
  obtain ⟨b1, b2, b3, b4, b5, b6⟩ := h
  unfold coC
  omega
theorem coS_le {v : EdV} (h : BDw v) : coS v ≤ 9597 := by
  obtain ⟨b1, b2, b3, b4, b5, b6⟩ := h
  have g1 := gs_le v.nC b1
  have g2 := gs_le v.nE b4
  have g3 := gs_le v.nV (by omega)
  have g4 := gs_le v.nJ (by omega)
  unfold coS
  omega
