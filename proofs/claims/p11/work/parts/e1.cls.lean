/-! ===== the claims of a text, statement by statement ===== -/
section

variable {K : Nat → Nat} {S : Nat → Int32} {V : Nat → Int64}
theorem rows_keep {n : Nat} : ∀ {j : Nat} {q : Nat × Int32} {d : Nat → RwD}, j ≤ (q_rows K S V n j q d).1 ∧ ∀ i, i < j → (q_rows K S V n j q d).2.1 i = d i := by
  induction n with
  | zero => intro j q d; exact ⟨Nat.le_refl _, fun _ _ => rfl⟩
  | succ n ih =>
    intro j q d
    rw [q_rows]
    split
    · obtain ⟨h1, h2⟩ := @ih (j + 1) (q_row K S V j q).2 (dup' d j (q_row K S V j q).1)
      refine ⟨by omega, fun i hi => ?_⟩
      rw [h2 i (by omega), dup', if_neg (by omega)]
    · exact ⟨Nat.le_refl _, fun _ _ => rfl⟩
theorem rows_gd {n j : Nat} {q : Nat × Int32} {d : Nat → RwD} (h : (q_rows K S V n j q d).2.2.2 < 0) : q.2 < 0 := by
  refine Classical.byContradiction (fun z => ?_)
  rw [q_rows_f z] at h
  exact z h
theorem row_ad (hS : ∀ p, ¬ S p < 0) {j : Nat} {q : Nat × Int32} (h : (q_row K S V j q).2.2 < 0) : (q_row K S V j q).2.1 = q.1 + 3 := by
  obtain ⟨q0, e0⟩ : ∃ y, y = (if j = 8 then (q.1, fl S q.1 q.2) else q) := ⟨_, rfl⟩
  obtain ⟨a, e1⟩ : ∃ y, y = q_num K S V 0 999999 q0 := ⟨_, rfl⟩
  obtain ⟨b, e2⟩ : ∃ y, y = q_name K S V a.2 := ⟨_, rfl⟩
  obtain ⟨c, e3⟩ : ∃ y, y = q_take K S 6 b.2 := ⟨_, rfl⟩
  simp only [q_row, ← e0, ← e1, ← e2, ← e3] at h ⊢
  have y3 := ad_take hS (K := K) (j := 6) (q := b.2) (by rw [← e3]; exact h)
  have y2 := ad_name hS (K := K) (V := V) (q := a.2) (by rw [← e2]; exact y3.1)
  have y1 := ad_num hS (K := K) (V := V) (lo := 0) (hi := 999999) (q := q0) (by rw [← e1]; exact y2.1)
  rw [← e3] at y3
  rw [← e2] at y2
  rw [← e1] at y1
  have h0 : q0.1 = q.1 := by rw [e0]; split <;> rfl
  omega
theorem row_p {j : Nat} {q : Nat × Int32} : (q_row K S V j q).1.2.1 = S q.1 := by
  show S (if j = 8 then (q.1, fl S q.1 q.2) else q).1 = S q.1
  split <;> rfl
theorem clRs_n (hS : ∀ p, ¬ S p < 0) {c n : Nat} : ∀ {j : Nat} {q : Nat × Int32} {d : Nat → RwD} {RP : Nat × (Nat → RwD) × (Nat × Int32)}, q_rows K S V n j q d = RP → RP.2.2.2 < 0 → CLn S (fun k a b p => k = 6 ∧ a = c ∧ (j ≤ b ∧ b < RP.1) ∧ p = (RP.2.1 b).2.1) q.1 RP.2.2.1 (clRs K S V c n j q) := by
  induction n with
  | zero =>
    intro j q d RP e h
    rw [q_rows] at e
    rw [← e]
    exact CLn.nil (fun k a b p z => by have y := z.2.2.1; dsimp only at y; omega)
  | succ n ih =>
    intro j q d RP e h
    rw [q_rows] at e
    rw [clRs]
    by_cases hs : se K q.1 q.2 1 = true
    · rw [if_pos hs] at e ⊢
      have hp := @row_p K S V j q
      have hk := @rows_keep K S V n (j + 1) (q_row K S V j q).2 (dup' d j (q_row K S V j q).1)
      have hge := @ge_rows K S V n (j + 1) (q_row K S V j q).2 (dup' d j (q_row K S V j q).1)
      rw [e] at hk hge
      have ha := row_ad hS (rows_gd (by rw [e]; exact h) : (q_row K S V j q).2.2 < 0)
      have hI := ih e h
      have hj := hk.2 j (Nat.lt_succ_self j)
      rw [dup', if_pos rfl] at hj
      refine (hI.cons (k0 := 6) (t0 := q.1) (a0 := c) (b0 := j) (by omega) hge).cg (fun k a b p => ⟨?_, ?_⟩)
      · rintro (⟨h1, h2, h3, h4⟩ | ⟨h1, h2, h3, h4⟩)
        · exact ⟨h1, h2, by rw [h3]; exact ⟨Nat.le_refl j, hk.1⟩, by rw [h3, hj, h4, hp]⟩
        · exact ⟨h1, h2, ⟨by omega, h3.2⟩, h4⟩
      · rintro ⟨h1, h2, h3, h4⟩
        by_cases eb : b = j
        · rw [eb, hj, hp] at h4
          exact Or.inl ⟨h1, h2, eb, h4⟩
        · exact Or.inr ⟨h1, h2, ⟨by omega, h3.2⟩, h4⟩
    · rw [if_neg hs] at e ⊢
      rw [← e]
      exact CLn.nil (fun k a b p z => by have y := z.2.2.1; dsimp only at y; omega)
theorem form_gd {q : Nat × Int32} (h : (q_form K S V q).1.2 < 0) : q.2 < 0 := by
  refine Classical.byContradiction (fun z => ?_)
  unfold q_form at h
  rw [se_f z, se_f z, if_neg Bool.false_ne_true, if_neg Bool.false_ne_true] at h
  dsimp only at h
  rw [q_take_f z] at h
  exact z h
theorem clC_n (hS : ∀ p, ¬ S p < 0) {nC : Nat} {q : Nat × Int32} (h : (q_cod K S V nC q).1.2 < 0) : CLn S (NC nC (q_cod K S V nC q).2) q.1 (q_cod K S V nC q).1.1 (clC K S V nC q) := by
  obtain ⟨q1, e1⟩ : ∃ y, y = q_begin S (nI nC) 12 q := ⟨_, rfl⟩
  obtain ⟨a, e2⟩ : ∃ y, y = q_name K S V q1 := ⟨_, rfl⟩
  obtain ⟨b, e3⟩ : ∃ y, y = q_take K S 8 a.2 := ⟨_, rfl⟩
  obtain ⟨w, e4⟩ : ∃ y, y = q_num K S V 1 4 b := ⟨_, rfl⟩
  obtain ⟨q3, e5⟩ : ∃ y, y = q_take K S 12 w.2 := ⟨_, rfl⟩
  have hc : q3.2 < 0 → q1.1 = q.1 + 1 ∧ q3.1 = q.1 + 5 := fun z => by
    have y5 := ad_take hS (K := K) (j := 12) (q := w.2) (by rw [← e5]; exact z)
    have y4 := ad_num hS (K := K) (V := V) (lo := 1) (hi := 4) (q := b) (by rw [← e4]; exact y5.1)
    have y3 := ad_take hS (K := K) (j := 8) (q := a.2) (by rw [← e3]; exact y4.1)
    have y2 := ad_name hS (K := K) (V := V) (q := q1) (by rw [← e2]; exact y3.1)
    have y1 := ad_begin hS (hv := nI nC) (mo := 12) (q := q) (by rw [← e1]; exact y2.1)
    rw [← e5] at y5
    rw [← e4] at y4
    rw [← e3] at y3
    rw [← e2] at y2
    rw [← e1] at y1
    omega
  obtain ⟨RP, eR⟩ : ∃ y, q_rows K S V 9 0 (q3.1 + 1, q3.2) (fun _ => (0, 0, 0, 0)) = y := ⟨_, rfl⟩
  obtain ⟨FR, eF⟩ : ∃ y, q_form K S V q3 = y := ⟨_, rfl⟩
  simp only [q_cod, clC, ← e1, ← e2, ← e3, ← e4, ← e5, eR, eF] at h ⊢
  by_cases hs : se K q3.1 q3.2 4 = true
  · simp only [if_pos hs] at h ⊢
    have y := ad_take hS h
    obtain ⟨g1, g2⟩ := hc (se_t hs).1
    have hge := @ge_rows K S V 9 0 (q3.1 + 1, q3.2) (fun _ => (0, 0, 0, 0))
    rw [eR] at hge
    dsimp only at hge
    have hR := clRs_n hS (c := nC) eR y.1
    dsimp only at hR
    refine ((hR.cons (k0 := 1) (t0 := q.1 + 1) (a0 := nC) (b0 := 0) (by omega) hge).mo (lo2 := q.1) (hi2 := (q_take K S 5 RP.2.2).1) (by omega) (by omega)).cg (fun k a b p => ?_)
    unfold NC
    dsimp only
    rw [g1]
  · simp only [if_neg hs] at h ⊢
    have z3 : q3.2 < 0 := form_gd (by rw [eF]; exact h)
    obtain ⟨g1, g2⟩ := hc z3
    have hge := @ge_form K S V q3
    rw [eF] at hge
    refine ((CLn.one (S := S) (k0 := 1) (t0 := q.1 + 1) (a0 := nC) (b0 := 0)).mo (lo2 := q.1) (hi2 := FR.1.1) (by omega) (by omega)).cg (fun k a b p => ?_)
    unfold NC
    dsimp only
    rw [g1]
    exact ⟨fun z => Or.inl z, fun z => z.elim (fun y => y) (fun y => by omega)⟩
theorem clE_n (hS : ∀ p, ¬ S p < 0) {nC : Nat} {q : Nat × Int32} (h : (q_code K S V nC q).1.2 < 0) : CLn S (NE nC (q_code K S V nC q).2) q.1 (q_code K S V nC q).1.1 [(7, q.1 + 1, nC, 0)] := by
  obtain ⟨q1, e1⟩ : ∃ y, y = q_begin S (nI nC) 12 q := ⟨_, rfl⟩
  obtain ⟨a, e2⟩ : ∃ y, y = q_num K S V 0 999999 q1 := ⟨_, rfl⟩
  obtain ⟨b, e3⟩ : ∃ y, y = q_take K S 8 a.2 := ⟨_, rfl⟩
  obtain ⟨c, e4⟩ : ∃ y, y = q_name K S V b := ⟨_, rfl⟩
  obtain ⟨d, e5⟩ : ∃ y, y = q_take K S 6 c.2 := ⟨_, rfl⟩
  simp only [q_code, ← e1, ← e2, ← e3, ← e4, ← e5] at h ⊢
  have y5 := ad_take hS (K := K) (j := 6) (q := c.2) (by rw [← e5]; exact h)
  have y4 := ad_name hS (K := K) (V := V) (q := b) (by rw [← e4]; exact y5.1)
  have y3 := ad_take hS (K := K) (j := 8) (q := a.2) (by rw [← e3]; exact y4.1)
  have y2 := ad_num hS (K := K) (V := V) (lo := 0) (hi := 999999) (q := q1) (by rw [← e2]; exact y3.1)
  have y1 := ad_begin hS (hv := nI nC) (mo := 12) (q := q) (by rw [← e1]; exact y2.1)
  rw [← e5] at y5
  rw [← e4] at y4
  rw [← e3] at y3
  rw [← e2] at y2
  rw [← e1] at y1
  refine ((CLn.one (S := S) (k0 := 7) (t0 := q.1 + 1) (a0 := nC) (b0 := 0)).mo (lo2 := q.1) (hi2 := d.1) (by omega) (by omega)).cg (fun k a b p => ?_)
  unfold NE
  dsimp only
  rw [y1.2.2]
theorem clV_n (hS : ∀ p, ¬ S p < 0) {nC : Nat} {q : Nat × Int32} (h : (q_vari K S V nC q).1.2 < 0) : CLn S (NV nC (q_vari K S V nC q).2) q.1 (q_vari K S V nC q).1.1 [(12, q.1 + 1, nC, 0), (8, q.1 + 3, nC, 0)] := by
  obtain ⟨q1, e1⟩ : ∃ y, y = q_begin S (nI nC) 6 q := ⟨_, rfl⟩
  obtain ⟨a, e2⟩ : ∃ y, y = q_name K S V q1 := ⟨_, rfl⟩
  obtain ⟨b, e3⟩ : ∃ y, y = q_take K S 8 a.2 := ⟨_, rfl⟩
  obtain ⟨c, e4⟩ : ∃ y, y = q_num K S V 0 999999 b := ⟨_, rfl⟩
  obtain ⟨d, e5⟩ : ∃ y, y = q_take K S 6 c.2 := ⟨_, rfl⟩
  simp only [q_vari, ← e1, ← e2, ← e3, ← e4, ← e5] at h ⊢
  have y5 := ad_take hS (K := K) (j := 6) (q := c.2) (by rw [← e5]; exact h)
  have y4 := ad_num hS (K := K) (V := V) (lo := 0) (hi := 999999) (q := b) (by rw [← e4]; exact y5.1)
  have y3 := ad_take hS (K := K) (j := 8) (q := a.2) (by rw [← e3]; exact y4.1)
  have y2 := ad_name hS (K := K) (V := V) (q := q1) (by rw [← e2]; exact y3.1)
  have y1 := ad_begin hS (hv := nI nC) (mo := 6) (q := q) (by rw [← e1]; exact y2.1)
  rw [← e5] at y5
  rw [← e4] at y4
  rw [← e3] at y3
  rw [← e2] at y2
  rw [← e1] at y1
  have g3 : b.1 = q.1 + 3 := by omega
  refine (((CLn.one (S := S) (k0 := 8) (t0 := q.1 + 3) (a0 := nC) (b0 := 0)).cons (k0 := 12) (t0 := q.1 + 1) (a0 := nC) (b0 := 0) (by omega) (by omega)).mo (lo2 := q.1) (hi2 := d.1) (by omega) (by omega)).cg (fun k a b p => ?_)
  unfold NV
  dsimp only
  rw [y1.2.2, g3]
/-! parameters -/
theorem pars_keep {n : Nat} : ∀ {j : Nat} {q : Nat × Int32} {d : Nat → PrD}, j ≤ (q_pars K S V n j q d).1 ∧ ∀ i, i < j → (q_pars K S V n j q d).2.1 i = d i := by
  induction n with
  | zero => intro j q d; exact ⟨Nat.le_refl _, fun _ _ => rfl⟩
  | succ n ih =>
    intro j q d
    rw [q_pars]
    split
    · obtain ⟨h1, h2⟩ := @ih (j + 1) (q_par K S V j q).1 (dupP d j (q_par K S V j q).2)
      refine ⟨by omega, fun i hi => ?_⟩
      rw [h2 i (by omega), dupP, if_neg (by omega)]
    · exact ⟨Nat.le_refl _, fun _ _ => rfl⟩
theorem pars_gd {n j : Nat} {q : Nat × Int32} {d : Nat → PrD} (h : (q_pars K S V n j q d).2.2.2 < 0) : q.2 < 0 := by
  refine Classical.byContradiction (fun z => ?_)
  rw [q_pars_f z] at h
  exact z h
theorem clP_n (hS : ∀ p, ¬ S p < 0) {sv j : Nat} {q : Nat × Int32} (h : (q_par K S V j q).1.2 < 0) : CLn S (NP1 sv j (q_par K S V j q).2) q.1 (q_par K S V j q).1.1 (clP sv j q.1 (q_par K S V j q).2.2.2.2.2.1) := by
  obtain ⟨q1, e1⟩ : ∃ y, y = q_begin S (nI j) 8 q := ⟨_, rfl⟩
  obtain ⟨a, e2⟩ : ∃ y, y = q_name K S V q1 := ⟨_, rfl⟩
  obtain ⟨b, e3⟩ : ∃ y, y = q_take K S 7 a.2 := ⟨_, rfl⟩
  obtain ⟨c, e4⟩ : ∃ y, y = q_name K S V b := ⟨_, rfl⟩
  obtain ⟨d, e5⟩ : ∃ y, y = q_name K S V (c.2.1 + 1, c.2.2) := ⟨_, rfl⟩
  obtain ⟨e, e6⟩ : ∃ y, y = q_take K S 8 d.2 := ⟨_, rfl⟩
  obtain ⟨f, e7⟩ : ∃ y, y = q_num K S V 0 999999 e := ⟨_, rfl⟩
  have hc : c.2.2 < 0 → q1.1 = q.1 + 1 ∧ b.1 = q.1 + 3 ∧ c.2.1 = q.1 + 4 := fun z => by
    have y4 := ad_name hS (K := K) (V := V) (q := b) (by rw [← e4]; exact z)
    have y3 := ad_take hS (K := K) (j := 7) (q := a.2) (by rw [← e3]; exact y4.1)
    have y2 := ad_name hS (K := K) (V := V) (q := q1) (by rw [← e2]; exact y3.1)
    have y1 := ad_begin hS (hv := nI j) (mo := 8) (q := q) (by rw [← e1]; exact y2.1)
    rw [← e4] at y4
    rw [← e3] at y3
    rw [← e2] at y2
    rw [← e1] at y1
    omega
  have hd := @ge_name K S V (c.2.1 + 1, c.2.2)
  rw [← e5] at hd
  dsimp only at hd
  have he := @ge_take K S 8 d.2
  rw [← e6] at he
  have hf := @ge_num K S V 0 999999 e
  rw [← e7] at hf
  have h3 := (((CLn.one (S := S) (k0 := 11) (t0 := q.1 + 5) (a0 := sv) (b0 := 8 * sv + j)).cons (k0 := 10) (t0 := q.1 + 3) (a0 := 8 * sv + j) (b0 := 0) (by omega) (by omega)).cons (k0 := 5) (t0 := q.1 + 1) (a0 := sv) (b0 := j) (by omega) (by omega))
  simp only [q_par, ← e1, ← e2, ← e3, ← e4, ← e5, ← e6, ← e7] at h ⊢
  by_cases h20 : se K c.2.1 c.2.2 20 = true
  · simp only [if_pos h20] at h ⊢
    obtain ⟨g1, g2, g3⟩ := hc (se_t h20).1
    have y := @ge_take K S 6 f.2
    have yt := ad_take hS h
    have z1 := ad_num hS (K := K) (V := V) (lo := 0) (hi := 999999) (q := e) (by rw [← e7]; exact yt.1)
    rw [← e7] at z1
    rw [show clP sv j q.1 1 = [(5, q.1 + 1, sv, j), (10, q.1 + 3, 8 * sv + j, 0), (11, q.1 + 5, sv, 8 * sv + j)] from if_neg (by decide)]
    refine (h3.mo (lo2 := q.1) (hi2 := (q_take K S 6 f.2).1) (by omega) (by omega)).cg (fun k a b p => ?_)
    unfold NP1
    dsimp only
    rw [g1, g2, g3, show q.1 + 4 + 1 = q.1 + 5 by omega]
    exact ⟨fun z => z.imp (fun y => y) (fun y => y.imp (fun u => u) (fun u => ⟨u.1, u.2.1, u.2.2.1, by decide, u.2.2.2⟩)), fun z => z.imp (fun y => y) (fun y => y.imp (fun u => u) (fun u => ⟨u.1, u.2.1, u.2.2.1, u.2.2.2.2⟩))⟩
  · simp only [if_neg h20] at h ⊢
    by_cases h21 : se K c.2.1 c.2.2 21 = true
    · simp only [if_pos h21] at h ⊢
      obtain ⟨g1, g2, g3⟩ := hc (se_t h21).1
      have y := @ge_take K S 6 d.2
      have yt := ad_take hS h
      rw [show clP sv j q.1 2 = [(5, q.1 + 1, sv, j), (10, q.1 + 3, 8 * sv + j, 0), (11, q.1 + 5, sv, 8 * sv + j)] from if_neg (by decide)]
      refine (h3.mo (lo2 := q.1) (hi2 := (q_take K S 6 d.2).1) (by omega) (by omega)).cg (fun k a b p => ?_)
      unfold NP1
      dsimp only
      rw [g1, g2, g3, show q.1 + 4 + 1 = q.1 + 5 by omega]
      exact ⟨fun z => z.imp (fun y => y) (fun y => y.imp (fun u => u) (fun u => ⟨u.1, u.2.1, u.2.2.1, by decide, u.2.2.2⟩)), fun z => z.imp (fun y => y) (fun y => y.imp (fun u => u) (fun u => ⟨u.1, u.2.1, u.2.2.1, u.2.2.2.2⟩))⟩
    · simp only [if_neg h21] at h ⊢
      have y := @ge_take K S 6 c.2
      have yt := ad_take hS h
      obtain ⟨g1, g2, g3⟩ := hc yt.1
      rw [show clP sv j q.1 0 = [(5, q.1 + 1, sv, j), (10, q.1 + 3, 8 * sv + j, 0)] from if_pos rfl]
      refine (((CLn.one (S := S) (k0 := 10) (t0 := q.1 + 3) (a0 := 8 * sv + j) (b0 := 0)).cons (k0 := 5) (t0 := q.1 + 1) (a0 := sv) (b0 := j) (by omega) (by omega)).mo (lo2 := q.1) (hi2 := (q_take K S 6 c.2).1) (by omega) (by omega)).cg (fun k a b p => ?_)
      unfold NP1
      dsimp only
      rw [g1, g2]
      exact ⟨fun z => z.imp (fun y => y) (fun y => Or.inl y), fun z => z.imp (fun y => y) (fun y => y.elim (fun u => u) (fun u => absurd rfl u.2.2.2.1))⟩
theorem clPs_n (hS : ∀ p, ¬ S p < 0) {c n : Nat} : ∀ {j : Nat} {q : Nat × Int32} {d : Nat → PrD} {RP : Nat × (Nat → PrD) × (Nat × Int32)}, q_pars K S V n j q d = RP → RP.2.2.2 < 0 → CLn S (fun k a b p => ∃ i, (j ≤ i ∧ i < RP.1) ∧ NP1 c i (RP.2.1 i) k a b p) q.1 RP.2.2.1 (clPs K S V c n j q) := by
  induction n with
  | zero =>
    intro j q d RP e h
    rw [q_pars] at e
    rw [← e]
    exact CLn.nil (fun k a b p ⟨i, y, _⟩ => by dsimp only at y; omega)
  | succ n ih =>
    intro j q d RP e h
    rw [q_pars] at e
    rw [clPs]
    by_cases hs : se K q.1 q.2 19 = true
    · rw [if_pos hs] at e ⊢
      have hk := @pars_keep K S V n (j + 1) (q_par K S V j q).1 (dupP d j (q_par K S V j q).2)
      have hge := @ge_pars K S V n (j + 1) (q_par K S V j q).1 (dupP d j (q_par K S V j q).2)
      rw [e] at hk hge
      have hp := clP_n hS (sv := c) (pars_gd (by rw [e]; exact h) : (q_par K S V j q).1.2 < 0)
      have hI := ih e h
      have hj := hk.2 j (Nat.lt_succ_self j)
      rw [dupP, if_pos rfl] at hj
      refine (hp.app hI ge_par hge).cg (fun k a b p => ⟨?_, ?_⟩)
      · rintro (z | ⟨i, h1, h2⟩)
        · exact ⟨j, ⟨Nat.le_refl j, hk.1⟩, by rw [hj]; exact z⟩
        · exact ⟨i, ⟨by omega, h1.2⟩, h2⟩
      · rintro ⟨i, h1, h2⟩
        by_cases eb : i = j
        · rw [eb, hj] at h2
          exact Or.inl h2
        · exact Or.inr ⟨i, ⟨by omega, h1.2⟩, h2⟩
    · rw [if_neg hs] at e ⊢
      rw [← e]
      exact CLn.nil (fun k a b p ⟨i, y, _⟩ => by dsimp only at y; omega)
theorem clS_n (hS : ∀ p, ¬ S p < 0) {sv : Nat} {q : Nat × Int32} (h : (q_ser K S V sv q).1.2 < 0) : CLn S (NS sv (q_ser K S V sv q).2) q.1 (q_ser K S V sv q).1.1 (clS K S V sv q) := by
  obtain ⟨q1, e1⟩ : ∃ y, y = q_begin S (nI sv) 16 q := ⟨_, rfl⟩
  obtain ⟨a, e2⟩ : ∃ y, y = q_name K S V q1 := ⟨_, rfl⟩
  obtain ⟨b, e3⟩ : ∃ y, y = q_take K S 8 a.2 := ⟨_, rfl⟩
  obtain ⟨w, e4⟩ : ∃ y, y = q_num K S V 0 191 b := ⟨_, rfl⟩
  obtain ⟨q3, e5⟩ : ∃ y, y = q_take K S 4 w.2 := ⟨_, rfl⟩
  obtain ⟨RP, eR⟩ : ∃ y, q_pars K S V 9 0 q3 d0P = y := ⟨_, rfl⟩
  simp only [q_ser, clS, ← e1, ← e2, ← e3, ← e4, ← e5, eR] at h ⊢
  have y6 := ad_take hS h
  have y5 := ad_take hS (K := K) (j := 4) (q := w.2) (by rw [← e5]; exact pars_gd (by rw [eR]; exact y6.1))
  have y4 := ad_num hS (K := K) (V := V) (lo := 0) (hi := 191) (q := b) (by rw [← e4]; exact y5.1)
  have y3 := ad_take hS (K := K) (j := 8) (q := a.2) (by rw [← e3]; exact y4.1)
  have y2 := ad_name hS (K := K) (V := V) (q := q1) (by rw [← e2]; exact y3.1)
  have y1 := ad_begin hS (hv := nI sv) (mo := 16) (q := q) (by rw [← e1]; exact y2.1)
  rw [← e5] at y5
  rw [← e4] at y4
  rw [← e3] at y3
  rw [← e2] at y2
  rw [← e1] at y1
  have hge := @ge_pars K S V 9 0 q3 d0P
  rw [eR] at hge
  refine (((clPs_n hS (c := sv) eR y6.1).cons (k0 := 4) (t0 := q.1 + 1) (a0 := sv) (b0 := 0) (by omega) hge).mo (lo2 := q.1) (hi2 := (q_take K S 5 RP.2.2).1) (by omega) (by omega)).cg (fun k a b p => ?_)
  unfold NS
  dsimp only
  rw [y1.2.2]
theorem svs_gd {n la : Nat} {v : EdV} {q : Nat × Int32} (h : (q_svs K S V n la v q).2.2 < 0) : q.2 < 0 := by
  refine Classical.byContradiction (fun z => ?_)
  rw [q_svs_f z] at h
  exact z h
theorem clSs_n (hS : ∀ p, ¬ S p < 0) {la n : Nat} : ∀ {v : EdV} {q : Nat × Int32} {cl : List CLi} {RP : EdV × (Nat × Int32)}, q_svs K S V n la v q = RP → RP.2.2 < 0 → CLn S (PK v) 0 q.1 cl → CLn S (PK RP.1) 0 RP.2.1 (cl ++ clSs K S V la n v q) := by
  induction n with
  | zero =>
    intro v q cl RP e h hc
    rw [q_svs] at e
    rw [clSs, List.append_nil, ← e]
    exact hc
  | succ n ih =>
    intro v q cl RP e h hc
    rw [q_svs] at e
    rw [clSs]
    by_cases hs : se K q.1 q.2 18 = true
    · rw [if_pos hs] at e ⊢
      have hg : (q_ser K S V v.nS q).1.2 < 0 := svs_gd (by rw [e]; exact h)
      rw [← List.append_assoc]
      exact ih e h ((hc.app (clS_n hS hg) (Nat.zero_le _) ge_ser).cg (fun k a b p => PK_S.symm))
    · rw [if_neg hs] at e ⊢
      rw [List.append_nil, ← e]
      exact hc
theorem clL_n (hS : ∀ p, ¬ S p < 0) (hV : ∀ p, K p = 0 → V p ≠ 0) {v : EdV} {q : Nat × Int32} {cl : List CLi} (h : (q_lay K S V v q).2.2 < 0) (hc : CLn S (PK v) 0 q.1 cl) : CLn S (PK (q_lay K S V v q).1) 0 (q_lay K S V v q).2.1 (cl ++ clL K S V v q) := by
  obtain ⟨q1, e1⟩ : ∃ y, y = q_begin S (nI v.nL) 6 q := ⟨_, rfl⟩
  obtain ⟨a, e2⟩ : ∃ y, y = q_name K S V q1 := ⟨_, rfl⟩
  obtain ⟨b, e3⟩ : ∃ y, y = (if se K a.2.1 a.2.2 17 then (S (a.2.1 + 1), q_name K S V (a.2.1 + 1, a.2.2)) else (0, (0, a.2))) := ⟨_, rfl⟩
  obtain ⟨q3, e4⟩ : ∃ y, y = q_take K S 4 b.2.2 := ⟨_, rfl⟩
  obtain ⟨RP, eR⟩ : ∃ y, q_svs K S V 17 v.nL (v.addL (S q1.1, a.1, b.2.1, b.1)) q3 = y := ⟨_, rfl⟩
  simp only [q_lay, clL, ← e1, ← e2, ← e3, ← e4, eR] at h ⊢
  have y6 := ad_take hS h
  have y4 := ad_take hS (K := K) (j := 4) (q := b.2.2) (by rw [← e4]; exact svs_gd (by rw [eR]; exact y6.1))
  rw [← e4] at y4
  have key : q1.1 = q.1 + 1 ∧ q.1 + 2 ≤ b.2.2.1 ∧ CLn S (PK (v.addL (S q1.1, a.1, b.2.1, b.1))) 0 q3.1 (cl ++ (2, q.1 + 1, v.nL, 0) :: (if se K a.2.1 a.2.2 17 = true then [(9, q.1 + 3, v.nL, 0)] else [])) := by
    by_cases hs : se K a.2.1 a.2.2 17 = true
    · rw [if_pos hs] at e3 ⊢
      have y3 := ad_name hS (K := K) (V := V) (q := (a.2.1 + 1, a.2.2)) (by rw [e3] at y4; exact y4.1)
      have y2 := ad_name hS (K := K) (V := V) (q := q1) (by rw [← e2]; exact (se_t hs).1)
      have y1 := ad_begin hS (hv := nI v.nL) (mo := 6) (q := q) (by rw [← e1]; exact y2.1)
      rw [← e2] at y2
      rw [← e1] at y1
      have hb1 : b.1 = S (q.1 + 3) := by rw [e3]; dsimp only; rw [y2.2.2, y1.2.2]
      have hb2 : b.2.1 ≠ 0 := by
        rw [e3]
        dsimp only
        unfold q_name
        have y5 : se K (a.2.1 + 1) a.2.2 0 = true := by unfold se; rw [decide_eq_true y3.1, decide_eq_true y3.2.1]; rfl
        dsimp only
        rw [if_pos y5]
        exact hV _ y3.2.1
      have hb3 : b.2.2.1 = q.1 + 4 := by rw [e3]; dsimp only; rw [y3.2.2]; dsimp only; omega
      refine ⟨y1.2.2, by omega, ?_⟩
      refine ((hc.app (((CLn.one (S := S) (k0 := 9) (t0 := q.1 + 3) (a0 := v.nL) (b0 := 0)).cons (k0 := 2) (t0 := q.1 + 1) (a0 := v.nL) (b0 := 0) (by omega) (by omega)).mo (lo2 := q.1) (hi2 := q3.1) (by omega) (by omega)) (Nat.zero_le _) (by omega)).cg (fun k x y p => ?_))
      rw [PK_L]
      refine or_congr Iff.rfl ?_
      unfold NL
      dsimp only
      rw [y1.2.2, hb1]
      exact ⟨fun z => z.imp (fun u => u) (fun u => ⟨u.1, u.2.1, u.2.2.1, hb2, u.2.2.2⟩), fun z => z.imp (fun u => u) (fun u => ⟨u.1, u.2.1, u.2.2.1, u.2.2.2.2⟩)⟩
    · rw [if_neg hs] at e3 ⊢
      have hb : b.2.2 = a.2 := by rw [e3]
      have y2 := ad_name hS (K := K) (V := V) (q := q1) (by rw [← e2, ← hb]; exact y4.1)
      have y1 := ad_begin hS (hv := nI v.nL) (mo := 6) (q := q) (by rw [← e1]; exact y2.1)
      rw [← e2] at y2
      rw [← e1] at y1
      have hb2 : b.2.1 = 0 := by rw [e3]
      have hb3 : b.2.2.1 = q.1 + 2 := by rw [hb]; omega
      refine ⟨y1.2.2, by omega, ?_⟩
      refine ((hc.app ((CLn.one (S := S) (k0 := 2) (t0 := q.1 + 1) (a0 := v.nL) (b0 := 0)).mo (lo2 := q.1) (hi2 := q3.1) (by omega) (by omega)) (Nat.zero_le _) (by omega)).cg (fun k x y p => ?_))
      rw [PK_L]
      refine or_congr Iff.rfl ?_
      unfold NL
      dsimp only
      rw [y1.2.2, hb2]
      exact ⟨fun z => Or.inl z, fun z => z.elim (fun u => u) (fun u => absurd rfl u.2.2.2.1)⟩
  have hf := clSs_n hS eR y6.1 key.2.2
  rw [List.append_assoc, List.cons_append] at hf
  exact hf.mo (Nat.le_refl _) (by omega)
/-! jobs -/
/-- what of an op a while's end leaves as it was -/
def og (d : OpD) : Nat × Int32 × Int32 := (d.1, d.2.2.2.1, d.2.2.2.2.2.1)
theorem NO_og {c i : Nat} {d d2 : OpD} (h : og d = og d2) {k a b : Nat} {p : Int32} : NO c i d k a b p ↔ NO c i d2 k a b p := by
  have h1 : d.1 = d2.1 := congrArg (fun x => x.1) h
  have h2 : d.2.2.2.1 = d2.2.2.2.1 := congrArg (fun x => x.2.1) h
  have h3 : d.2.2.2.2.2.1 = d2.2.2.2.2.2.1 := congrArg (fun x => x.2.2) h
  unfold NO
  rw [h1, h2, h3]
theorem clw_og {n sx i : Nat} {d : Nat → OpD} (hi : i < n) : og (q_clw n sx d i) = og (d i) := by
  unfold q_clw upO
  rw [if_neg (by omega)]
  split
  · rename_i h
    rw [h]
    rfl
  · rfl
theorem ops_keep {n : Nat} : ∀ {kk ta on : Nat} {wf : Nat → Int32} {d : Nat → OpD} {q : Nat × Int32}, kk ≤ (q_ops K S V n kk ta on wf d q).1 ∧ ∀ i, i < kk → og ((q_ops K S V n kk ta on wf d q).2.1 i) = og (d i) := by
  induction n with
  | zero => intro kk ta on wf d q; exact ⟨Nat.le_refl _, fun _ _ => rfl⟩
  | succ n ih =>
    intro kk ta on wf d q
    rw [q_ops]
    split
    · obtain ⟨h1, h2⟩ := @ih (kk + 1) ta (on - 1) wf (q_clw kk (wf (on - 1)).toNatClampNeg d) (q_take K S 5 q)
      exact ⟨by omega, fun i hi => (h2 i (by omega)).trans (clw_og hi)⟩
    · split
      · obtain ⟨h1, h2⟩ := @ih (kk + 1) (ta + 1) (q_op K S V ta on kk q wf).2.1 (q_op K S V ta on kk q wf).2.2.1 (upO d kk (q_op K S V ta on kk q wf).2.2.2) (q_op K S V ta on kk q wf).1
        refine ⟨by omega, fun i hi => (h2 i (by omega)).trans ?_⟩
        rw [upO, if_neg (by omega)]
      · exact ⟨Nat.le_refl _, fun _ _ => rfl⟩
theorem ops_gd {n kk ta on : Nat} {wf : Nat → Int32} {d : Nat → OpD} {q : Nat × Int32} (h : (q_ops K S V n kk ta on wf d q).2.2.2 < 0) : q.2 < 0 := by
  refine Classical.byContradiction (fun z => ?_)
  rw [q_ops_f z] at h
  exact z h
theorem op_k {ta on nC : Nat} {q : Nat × Int32} {wf : Nat → Int32} : (q_op K S V ta on nC q wf).2.2.2.1 = K q.1 := by
  unfold q_op
  dsimp only
  split
  · rfl
  · split
    · rfl
    · split
      · rfl
      · rfl
theorem clO_n (hS : ∀ p, ¬ S p < 0) {c ta on kk : Nat} {q : Nat × Int32} {wf : Nat → Int32} (h : (q_op K S V ta on kk q wf).1.2 < 0) : CLn S (NO c kk (q_op K S V ta on kk q wf).2.2.2) q.1 (q_op K S V ta on kk q wf).1.1 (clO c kk q.1 (K q.1)) := by
  have hk := @op_k K S V ta on kk q wf
  by_cases h26 : K q.1 = 26
  · obtain ⟨q1, e1⟩ : ∃ y, y = q_begin S (nI ta) 40 q := ⟨_, rfl⟩
    obtain ⟨a, e2⟩ : ∃ y, y = q_name K S V q1 := ⟨_, rfl⟩
    obtain ⟨b, e3⟩ : ∃ y, y = q_name K S V a.2 := ⟨_, rfl⟩
    have hq : q_op K S V ta on kk q wf = (q_take K S 6 b.2, on, wf, (K q.1, 0, a.1, S q1.1, b.1, S a.2.1, 0)) := by
      simp only [q_op, if_neg (show ¬ K q.1 = 34 by omega), if_neg (show ¬ K q.1 = 25 by omega), if_pos h26, ← e1, ← e2, ← e3]
    rw [hq] at h ⊢
    dsimp only at h ⊢
    have y4 := ad_take hS h
    have y3 := ad_name hS (K := K) (V := V) (q := a.2) (by rw [← e3]; exact y4.1)
    have y2 := ad_name hS (K := K) (V := V) (q := q1) (by rw [← e2]; exact y3.1)
    have y1 := ad_begin hS (hv := nI ta) (mo := 40) (q := q) (by rw [← e1]; exact y2.1)
    rw [← e3] at y3
    rw [← e2] at y2
    rw [← e1] at y1
    rw [show clO c kk q.1 (K q.1) = [(13, q.1 + 1, 100 * c + kk, 0), (14, q.1 + 2, 100 * c + kk, 0)] from if_pos h26]
    refine (((CLn.one (S := S) (k0 := 14) (t0 := q.1 + 2) (a0 := 100 * c + kk) (b0 := 0)).cons (k0 := 13) (t0 := q.1 + 1) (a0 := 100 * c + kk) (b0 := 0) (by omega) (by omega)).mo (lo2 := q.1) (hi2 := (q_take K S 6 b.2).1) (by omega) (by omega)).cg (fun k x y p => ?_)
    unfold NO
    dsimp only
    rw [y2.2.2, y1.2.2, show q.1 + 1 + 1 = q.1 + 2 by omega]
    exact ⟨fun z => z.imp (fun u => ⟨u.1, u.2.1, u.2.2.1, h26, u.2.2.2⟩) (fun u => ⟨u.1, u.2.1, u.2.2.1, h26, u.2.2.2⟩), fun z => z.imp (fun u => ⟨u.1, u.2.1, u.2.2.1, u.2.2.2.2⟩) (fun u => ⟨u.1, u.2.1, u.2.2.1, u.2.2.2.2⟩)⟩
  · rw [show clO c kk q.1 (K q.1) = [] from if_neg h26]
    exact CLn.nil (fun k x y p z => by rcases z with z | z <;> exact h26 (hk.symm.trans z.2.2.2.1))
theorem clOs_n (hS : ∀ p, ¬ S p < 0) {c n : Nat} : ∀ {kk ta on : Nat} {wf : Nat → Int32} {d : Nat → OpD} {q : Nat × Int32} {RP : Nat × (Nat → OpD) × (Nat × Int32)}, q_ops K S V n kk ta on wf d q = RP → RP.2.2.2 < 0 → CLn S (fun k a b p => ∃ i, (kk ≤ i ∧ i < RP.1) ∧ NO c i (RP.2.1 i) k a b p) q.1 RP.2.2.1 (clOs K S V c n kk ta on wf q) := by
  induction n with
  | zero =>
    intro kk ta on wf d q RP e h
    rw [q_ops] at e
    rw [← e]
    exact CLn.nil (fun k a b p ⟨i, y, _⟩ => by dsimp only at y; omega)
  | succ n ih =>
    intro kk ta on wf d q RP e h
    rw [q_ops] at e
    rw [clOs]
    by_cases hs : 0 < on ∧ se K q.1 q.2 5 = true
    · rw [if_pos hs] at e ⊢
      have hk := @ops_keep K S V n (kk + 1) ta (on - 1) wf (q_clw kk (wf (on - 1)).toNatClampNeg d) (q_take K S 5 q)
      rw [e] at hk
      have hj := hk.2 kk (Nat.lt_succ_self kk)
      have h5 : (RP.2.1 kk).1 ≠ 26 := by
        have y := congrArg (fun x => x.1) hj
        have y2 : (RP.2.1 kk).1 = (q_clw kk (wf (on - 1)).toNatClampNeg d kk).1 := y
        rw [y2, q_clw, upO, if_pos rfl]
        show (5 : Nat) ≠ 26
        decide
      refine ((ih e h).mo (lo2 := q.1) ge_take (Nat.le_refl _)).cg (fun k a b p => ⟨?_, ?_⟩)
      · rintro ⟨i, h1, h2⟩
        exact ⟨i, ⟨by omega, h1.2⟩, h2⟩
      · rintro ⟨i, h1, h2⟩
        by_cases eb : i = kk
        · rw [eb] at h2
          exfalso
          rcases h2 with z | z <;> exact h5 z.2.2.2.1
        · exact ⟨i, ⟨by omega, h1.2⟩, h2⟩
    · rw [if_neg hs] at e ⊢
      by_cases ho : isO (K q.1) = true ∧ q.2 < 0
      · rw [if_pos ho] at e ⊢
        have hk := @ops_keep K S V n (kk + 1) (ta + 1) (q_op K S V ta on kk q wf).2.1 (q_op K S V ta on kk q wf).2.2.1 (upO d kk (q_op K S V ta on kk q wf).2.2.2) (q_op K S V ta on kk q wf).1
        have hge := @ge_ops K S V n (kk + 1) (ta + 1) (q_op K S V ta on kk q wf).2.1 (q_op K S V ta on kk q wf).2.2.1 (upO d kk (q_op K S V ta on kk q wf).2.2.2) (q_op K S V ta on kk q wf).1
        rw [e] at hk hge
        have hp := clO_n hS (c := c) (ops_gd (by rw [e]; exact h) : (q_op K S V ta on kk q wf).1.2 < 0)
        have hI := ih e h
        have hj := hk.2 kk (Nat.lt_succ_self kk)
        rw [upO, if_pos rfl] at hj
        refine (hp.app hI ge_op hge).cg (fun k a b p => ⟨?_, ?_⟩)
        · rintro (z | ⟨i, h1, h2⟩)
          · exact ⟨kk, ⟨Nat.le_refl kk, hk.1⟩, (NO_og hj).mpr z⟩
          · exact ⟨i, ⟨by omega, h1.2⟩, h2⟩
        · rintro ⟨i, h1, h2⟩
          by_cases eb : i = kk
          · rw [eb] at h2
            exact Or.inl ((NO_og hj).mp h2)
          · exact Or.inr ⟨i, ⟨by omega, h1.2⟩, h2⟩
      · rw [if_neg ho] at e ⊢
        rw [← e]
        exact CLn.nil (fun k a b p ⟨i, y, _⟩ => by dsimp only at y; omega)
theorem clJ_n (hS : ∀ p, ¬ S p < 0) {nC : Nat} {q : Nat × Int32} (h : (q_job K S V nC q (fun _ => 0)).1.2 < 0) : CLn S (NJ nC (q_job K S V nC q (fun _ => 0)).2) q.1 (q_job K S V nC q (fun _ => 0)).1.1 (clJ K S V nC q) := by
  obtain ⟨q1, e1⟩ : ∃ y, y = q_begin S (nI nC) 4 q := ⟨_, rfl⟩
  obtain ⟨a, e2⟩ : ∃ y, y = q_name K S V q1 := ⟨_, rfl⟩
  obtain ⟨q3, e3⟩ : ∃ y, y = q_take K S 4 a.2 := ⟨_, rfl⟩
  obtain ⟨RP, eR⟩ : ∃ y, q_ops K S V 81 0 0 0 (fun _ => 0) d0O q3 = y := ⟨_, rfl⟩
  simp only [q_job, clJ, ← e1, ← e2, ← e3, eR] at h ⊢
  have y6 := ad_take hS h
  have y3 := ad_take hS (K := K) (j := 4) (q := a.2) (by rw [← e3]; exact ops_gd (by rw [eR]; exact y6.1))
  have y2 := ad_name hS (K := K) (V := V) (q := q1) (by rw [← e2]; exact y3.1)
  have y1 := ad_begin hS (hv := nI nC) (mo := 4) (q := q) (by rw [← e1]; exact y2.1)
  rw [← e3] at y3
  rw [← e2] at y2
  rw [← e1] at y1
  have hge := @ge_ops K S V 81 0 0 0 (fun _ => 0) d0O q3
  rw [eR] at hge
  refine (((clOs_n hS (c := nC) eR y6.1).cons (k0 := 3) (t0 := q.1 + 1) (a0 := nC) (b0 := 0) (by omega) hge).mo (lo2 := q.1) (hi2 := (q_take K S 5 RP.2.2).1) (by omega) (by omega)).cg (fun k a b p => ?_)
  unfold NJ
  dsimp only
  rw [y1.2.2]
theorem ge_stm (hS : ∀ p, ¬ S p < 0) {v : EdV} {q : Nat × Int32} (h : (q_stm K S V v q).2.2 < 0) : q.1 ≤ (q_stm K S V v q).2.1 := Nat.le_of_lt (adv_stm hS h)
theorem clT_n (hS : ∀ p, ¬ S p < 0) (hV : ∀ p, K p = 0 → V p ≠ 0) {v : EdV} {q : Nat × Int32} {cl : List CLi} (h : (q_stm K S V v q).2.2 < 0) (hc : CLn S (PK v) 0 q.1 cl) : CLn S (PK (q_stm K S V v q).1) 0 (q_stm K S V v q).2.1 (cl ++ clT K S V v q) := by
  have hg := ge_stm hS h
  unfold q_stm at h hg ⊢
  unfold clT
  by_cases k1 : K q.1 = 11
  · rw [if_pos k1] at h hg ⊢
    rw [if_pos k1]
    dsimp only at h hg ⊢
    exact (hc.app (clC_n hS h) (Nat.zero_le _) hg).cg (fun k a b p => PK_C.symm)
  · rw [if_neg k1] at h hg ⊢
    rw [if_neg k1]
    by_cases k2 : K q.1 = 16
    · rw [if_pos k2] at h hg ⊢
      rw [if_pos k2]
      exact clL_n hS hV h hc
    · rw [if_neg k2] at h hg ⊢
      rw [if_neg k2]
      by_cases k3 : K q.1 = 22
      · rw [if_pos k3] at h hg ⊢
        rw [if_pos k3]
        dsimp only at h hg ⊢
        exact (hc.app (clE_n hS h) (Nat.zero_le _) hg).cg (fun k a b p => PK_E.symm)
      · rw [if_neg k3] at h hg ⊢
        rw [if_neg k3]
        by_cases k4 : K q.1 = 23
        · rw [if_pos k4] at h hg ⊢
          rw [if_pos k4]
          dsimp only at h hg ⊢
          exact (hc.app (clV_n hS h) (Nat.zero_le _) hg).cg (fun k a b p => PK_V.symm)
        · rw [if_neg k4] at h hg ⊢
          rw [if_neg k4]
          by_cases k5 : K q.1 = 24
          · rw [if_pos k5] at h hg ⊢
            rw [if_pos k5]
            dsimp only at h hg ⊢
            exact (hc.app (clJ_n hS h) (Nat.zero_le _) hg).cg (fun k a b p => PK_J.symm)
          · rw [if_neg k5] at h
            exact absurd h (fl_ge hS)
theorem fill_gd {n : Nat} {v : EdV} {q : Nat × Int32} (h : (q_fill K S V n v q).2.2 < 0) : q.2 < 0 := by
  refine Classical.byContradiction (fun z => ?_)
  rw [q_fill_f (fun y => z y.1)] at h
  exact z h
/-- the claims of a text are what is asked of its edition, one after another -/
theorem clFi_n (hS : ∀ p, ¬ S p < 0) (hV : ∀ p, K p = 0 → V p ≠ 0) {n : Nat} : ∀ {v : EdV} {q : Nat × Int32} {cl : List CLi} {RP : EdV × (Nat × Int32)}, q_fill K S V n v q = RP → RP.2.2 < 0 → CLn S (PK v) 0 q.1 cl → CLn S (PK RP.1) 0 RP.2.1 (cl ++ clFi K S V n v q) := by
  induction n with
  | zero =>
    intro v q cl RP e h hc
    rw [q_fill] at e
    rw [clFi, List.append_nil, ← e]
    exact hc
  | succ n ih =>
    intro v q cl RP e h hc
    rw [q_fill] at e
    rw [clFi]
    by_cases hs : q.2 < 0 ∧ K q.1 ≠ 2
    · rw [if_pos hs] at e ⊢
      rw [← List.append_assoc]
      exact ih e h (clT_n hS hV (fill_gd (by rw [e]; exact h)) hc)
    · rw [if_neg hs] at e ⊢
      rw [List.append_nil, ← e]
      exact hc
theorem PK_nil {k a b : Nat} {p : Int32} : ¬ PK EdV.nil k a b p := by
  match k with
  | 0 => exact fun z => z
  | 1 => exact fun z => absurd z.1 (Nat.not_lt_zero _)
  | 2 => exact fun z => absurd z.1 (Nat.not_lt_zero _)
  | 3 => exact fun z => absurd z.1 (Nat.not_lt_zero _)
  | 4 => exact fun z => absurd z.1 (Nat.not_lt_zero _)
  | 5 => exact fun z => absurd z.1 (Nat.not_lt_zero _)
  | 6 => exact fun z => absurd z.1 (Nat.not_lt_zero _)
  | 7 => exact fun z => absurd z.1 (Nat.not_lt_zero _)
  | 8 => exact fun z => absurd z.1 (Nat.not_lt_zero _)
  | 9 => exact fun z => absurd z.1 (Nat.not_lt_zero _)
  | 10 => exact fun ⟨s, z, _⟩ => absurd z (Nat.not_lt_zero _)
  | 11 => exact fun z => absurd z.1 (Nat.not_lt_zero _)
  | 12 => exact fun z => absurd z.1 (Nat.not_lt_zero _)
  | 13 => exact fun ⟨s, z, _⟩ => absurd z (Nat.not_lt_zero _)
  | 14 => exact fun ⟨s, z, _⟩ => absurd z (Nat.not_lt_zero _)
  | _ + 15 => exact fun z => z
end
