
section

variable {K : Nat → Nat} {S : Nat → Int32} {V : Nat → Int64}
theorem fl_ge (hS : ∀ p, ¬ S p < 0) {p : Nat} {fa : Int32} : ¬ fl S p fa < 0 := by
  unfold fl
  split
  · exact hS p
  · assumption
theorem se_f {p j : Nat} {fa : Int32} (h : ¬ fa < 0) : se K p fa j = false := by
  unfold se
  rw [decide_eq_false h]
  rfl
theorem se_t {p j : Nat} {fa : Int32} (h : se K p fa j = true) : fa < 0 ∧ K p = j := by
  unfold se at h
  rw [Bool.and_eq_true] at h
  exact ⟨of_decide_eq_true h.1, of_decide_eq_true h.2⟩
theorem fl_f {p : Nat} {fa : Int32} (h : ¬ fa < 0) : fl S p fa = fa := by
  unfold fl
  rw [if_neg h]
theorem q_take_f {j : Nat} {q : Nat × Int32} (h : ¬ q.2 < 0) : q_take K S j q = q := by
  unfold q_take
  rw [se_f h, fl_f h]
  rfl
theorem q_name_f {q : Nat × Int32} (h : ¬ q.2 < 0) : q_name K S V q = (0, q) := by
  unfold q_name
  rw [se_f h, fl_f h]
  rfl
theorem q_num_f {lo hi : Int32} {q : Nat × Int32} (h : ¬ q.2 < 0) : (q_num K S V lo hi q).2 = q := by
  unfold q_num
  rw [se_f h, if_neg (fun z => absurd z.1 (by decide)), fl_f h]
theorem q_begin_f {hv mo : Int32} {q : Nat × Int32} (h : ¬ q.2 < 0) : q_begin S hv mo q = q := by
  unfold q_begin
  rw [if_neg h, fl_f h]
  split <;> rfl
theorem q_begin_full (hS : ∀ p, ¬ S p < 0) {hv mo : Int32} {q : Nat × Int32} (h : ¬ hv < mo) : ¬ (q_begin S hv mo q).2 < 0 := by
  unfold q_begin
  rw [if_neg h]
  exact fl_ge hS
theorem q_rows_f {n j : Nat} {q : Nat × Int32} {d : Nat → RwD} (h : ¬ q.2 < 0) : q_rows K S V n j q d = (j, d, q) := by
  cases n with
  | zero => rfl
  | succ n => rw [q_rows, se_f h, if_neg (by decide)]
theorem q_pars_f {n j : Nat} {q : Nat × Int32} {d : Nat → PrD} (h : ¬ q.2 < 0) : q_pars K S V n j q d = (j, d, q) := by
  cases n with
  | zero => rfl
  | succ n => rw [q_pars, se_f h, if_neg (by decide)]
theorem q_ops_f {n kk ta on : Nat} {q : Nat × Int32} {wf : Nat → Int32} {d : Nat → OpD} (h : ¬ q.2 < 0) : q_ops K S V n kk ta on wf d q = (kk, d, q) := by
  cases n with
  | zero => rfl
  | succ n => rw [q_ops, se_f h, if_neg (fun z => absurd z.2 (by decide)), if_neg (fun z => h z.2)]
theorem q_cod_full (hS : ∀ p, ¬ S p < 0) {nC : Nat} {q : Nat × Int32} (h : ¬ nI nC < 12) : ¬ (q_cod K S V nC q).1.2 < 0 := by
  have h1 := q_begin_full hS (mo := 12) (q := q) h
  obtain ⟨q1, e1⟩ : ∃ y, y = q_begin S (nI nC) 12 q := ⟨_, rfl⟩
  rw [← e1] at h1
  simp only [q_cod, ← e1, q_name_f h1, q_take_f h1, q_num_f h1, se_f h1, Bool.false_eq_true, if_false, q_form]
  exact h1
theorem q_ser_full (hS : ∀ p, ¬ S p < 0) {nC : Nat} {q : Nat × Int32} (h : ¬ nI nC < 16) : ¬ (q_ser K S V nC q).1.2 < 0 := by
  have h1 := q_begin_full hS (mo := 16) (q := q) h
  obtain ⟨q1, e1⟩ : ∃ y, y = q_begin S (nI nC) 16 q := ⟨_, rfl⟩
  rw [← e1] at h1
  simp only [q_ser, ← e1, q_name_f h1, q_take_f h1, q_num_f h1, q_pars_f h1]
  exact h1
theorem q_code_full (hS : ∀ p, ¬ S p < 0) {nC : Nat} {q : Nat × Int32} (h : ¬ nI nC < 12) : ¬ (q_code K S V nC q).1.2 < 0 := by
  have h1 := q_begin_full hS (mo := 12) (q := q) h
  obtain ⟨q1, e1⟩ : ∃ y, y = q_begin S (nI nC) 12 q := ⟨_, rfl⟩
  rw [← e1] at h1
  simp only [q_code, ← e1, q_name_f h1, q_take_f h1, q_num_f h1]
  exact h1
theorem q_vari_full (hS : ∀ p, ¬ S p < 0) {nC : Nat} {q : Nat × Int32} (h : ¬ nI nC < 6) : ¬ (q_vari K S V nC q).1.2 < 0 := by
  have h1 := q_begin_full hS (mo := 6) (q := q) h
  obtain ⟨q1, e1⟩ : ∃ y, y = q_begin S (nI nC) 6 q := ⟨_, rfl⟩
  rw [← e1] at h1
  simp only [q_vari, ← e1, q_name_f h1, q_take_f h1, q_num_f h1]
  exact h1
theorem q_job_full (hS : ∀ p, ¬ S p < 0) {nC : Nat} {q : Nat × Int32} {wf : Nat → Int32} (h : ¬ nI nC < 4) : ¬ (q_job K S V nC q wf).1.2 < 0 := by
  have h1 := q_begin_full hS (mo := 4) (q := q) h
  obtain ⟨q1, e1⟩ : ∃ y, y = q_begin S (nI nC) 4 q := ⟨_, rfl⟩
  rw [← e1] at h1
  simp only [q_job, ← e1, q_name_f h1, q_take_f h1, q_ops_f h1]
  exact h1
theorem q_pars_le {n : Nat} : ∀ {j : Nat} {q : Nat × Int32} {d : Nat → PrD}, (q_pars K S V n j q d).2.2.1 ≤ q.1 + 9 * n := by
  induction n with
  | zero => intro j q d; exact Nat.le_refl _
  | succ n ih =>
    intro j q d
    rw [q_pars]
    split
    · have h1 := @ih (j + 1) (q_par K S V j q).1 (dupP d j (q_par K S V j q).2)
      have h2 := @q_par_le K S V j q
      omega
    · show q.1 ≤ _
      omega
theorem q_ser_le {nC : Nat} {q : Nat × Int32} : (q_ser K S V nC q).1.1 ≤ q.1 + 90 := by
  obtain ⟨q1, e1⟩ : ∃ y, y = q_begin S (nI nC) 16 q := ⟨_, rfl⟩
  have l1 : q1.1 ≤ q.1 + 1 := by rw [e1]; exact q_begin_le
  obtain ⟨a, e2⟩ : ∃ y, y = q_name K S V q1 := ⟨_, rfl⟩
  have l2 : a.2.1 ≤ q1.1 + 1 := by rw [e2]; exact q_name_le
  obtain ⟨q2, e3⟩ : ∃ y, y = q_take K S 8 a.2 := ⟨_, rfl⟩
  have l3 : q2.1 ≤ a.2.1 + 1 := by rw [e3]; exact q_take_le
  obtain ⟨w, e4⟩ : ∃ y, y = q_num K S V 0 191 q2 := ⟨_, rfl⟩
  have l4 : w.2.1 ≤ q2.1 + 1 := by rw [e4]; exact q_num_le
  obtain ⟨q3, e5⟩ : ∃ y, y = q_take K S 4 w.2 := ⟨_, rfl⟩
  have l5 : q3.1 ≤ w.2.1 + 1 := by rw [e5]; exact q_take_le
  obtain ⟨r, e6⟩ : ∃ y, y = q_pars K S V 9 0 q3 d0P := ⟨_, rfl⟩
  have l6 : r.2.2.1 ≤ q3.1 + 9 * 9 := by rw [e6]; exact q_pars_le
  have l7 := @q_take_le K S 5 r.2.2
  simp only [q_ser, ← e1, ← e2, ← e3, ← e4, ← e5, ← e6]
  omega
/-- a layer's services -/
def q_svs (K : Nat → Nat) (S : Nat → Int32) (V : Nat → Int64) : Nat → Nat → EdV → Nat × Int32 → EdV × (Nat × Int32)
  | 0, _, v, q => (v, q)
  | n + 1, la, v, q => if se K q.1 q.2 18 then q_svs K S V n la (v.addS la (q_ser K S V v.nS q).2) (q_ser K S V v.nS q).1 else (v, q)
def q_lay (K : Nat → Nat) (S : Nat → Int32) (V : Nat → Int64) (v : EdV) (q : Nat × Int32) : EdV × (Nat × Int32) :=
  let q1 := q_begin S (nI v.nL) 6 q
  let a := q_name K S V q1
  let b := if se K a.2.1 a.2.2 17 then (S (a.2.1 + 1), q_name K S V (a.2.1 + 1, a.2.2)) else (0, (0, a.2))
  let r := q_svs K S V 17 v.nL (v.addL (S q1.1, a.1, b.2.1, b.1)) (q_take K S 4 b.2.2)
  (r.1, q_take K S 5 r.2)
theorem q_svs_f {n la : Nat} {v : EdV} {q : Nat × Int32} (h : ¬ q.2 < 0) : q_svs K S V n la v q = (v, q) := by
  cases n with
  | zero => rfl
  | succ n => rw [q_svs, se_f h, if_neg (by decide)]
theorem q_lay_full (hS : ∀ p, ¬ S p < 0) {v : EdV} {q : Nat × Int32} (h : ¬ nI v.nL < 6) : ¬ (q_lay K S V v q).2.2 < 0 := by
  have h1 := q_begin_full hS (mo := 6) (q := q) h
  obtain ⟨q1, e1⟩ : ∃ y, y = q_begin S (nI v.nL) 6 q := ⟨_, rfl⟩
  rw [← e1] at h1
  simp only [q_lay, ← e1, q_name_f h1, se_f h1, Bool.false_eq_true, if_false, q_take_f h1, q_svs_f h1]
  exact h1
theorem q_svs_mono {n : Nat} : ∀ {la : Nat} {v : EdV} {q : Nat × Int32}, v.nS ≤ (q_svs K S V n la v q).1.nS ∧ (q_svs K S V n la v q).1.nL = v.nL := by
  induction n with
  | zero => intro la v q; exact ⟨Nat.le_refl _, rfl⟩
  | succ n ih =>
    intro la v q
    rw [q_svs]
    split
    · have h1 := @ih la (v.addS la (q_ser K S V v.nS q).2) (q_ser K S V v.nS q).1
      refine ⟨Nat.le_trans (Nat.le_succ _) h1.1, h1.2⟩
    · exact ⟨Nat.le_refl _, rfl⟩
theorem q_svs_le {n : Nat} : ∀ {la : Nat} {v : EdV} {q : Nat × Int32}, (q_svs K S V n la v q).2.1 ≤ q.1 + 90 * n := by
  induction n with
  | zero => intro la v q; exact Nat.le_refl _
  | succ n ih =>
    intro la v q
    rw [q_svs]
    split
    · have h1 := @ih la (v.addS la (q_ser K S V v.nS q).2) (q_ser K S V v.nS q).1
      have h2 := @q_ser_le K S V v.nS q
      omega
    · show q.1 ≤ _
      omega
theorem q_lay_le {v : EdV} {q : Nat × Int32} : (q_lay K S V v q).2.1 ≤ q.1 + 1600 := by
  obtain ⟨q1, e1⟩ : ∃ y, y = q_begin S (nI v.nL) 6 q := ⟨_, rfl⟩
  have l1 : q1.1 ≤ q.1 + 1 := by rw [e1]; exact q_begin_le
  obtain ⟨a, e2⟩ : ∃ y, y = q_name K S V q1 := ⟨_, rfl⟩
  have l2 : a.2.1 ≤ q1.1 + 1 := by rw [e2]; exact q_name_le
  obtain ⟨b, e3⟩ : ∃ y, y = (if se K a.2.1 a.2.2 17 then (S (a.2.1 + 1), q_name K S V (a.2.1 + 1, a.2.2)) else (0, (0, a.2))) := ⟨_, rfl⟩
  have l3 : b.2.2.1 ≤ a.2.1 + 2 := by
    rw [e3]
    split
    · have := @q_name_le K S V (a.2.1 + 1, a.2.2)
      exact this
    · show a.2.1 ≤ _
      omega
  obtain ⟨q4, e4⟩ : ∃ y, y = q_take K S 4 b.2.2 := ⟨_, rfl⟩
  have l4 : q4.1 ≤ b.2.2.1 + 1 := by rw [e4]; exact q_take_le
  obtain ⟨r, e5⟩ : ∃ y, y = q_svs K S V 17 v.nL (v.addL (S q1.1, a.1, b.2.1, b.1)) q4 := ⟨_, rfl⟩
  have l5 : r.2.1 ≤ q4.1 + 90 * 17 := by rw [e5]; exact q_svs_le
  have l6 := @q_take_le K S 5 r.2
  simp only [q_lay, ← e1, ← e2, ← e3, ← e4, ← e5]
  omega
end
theorem gco_le22 : ∀ n, n ≤ 21 → gco n ≤ 22 := by decide +kernel
section

variable {cy : Nat → ClassId} {e0 : Nat} {tk : Nat → Nat} {G0 : Nat → Option va_E} {Bx : Nat → Prop} {G G2 : Nat → Option va_E} {v : EdV} {z : PtV} {LA EA : Nat → Nat} {AD : Nat → Nat → Nat} {PI : Nat → Nat}
/-- only o was written -/
theorem EDP.mvo (h : EDP cy e0 tk G0 Bx G v z LA EA AD PI) {o : Nat} {fs fs2 : List Value} (hBo : Bx o) (h0 : G o = some (.inr (10, fs))) (ho2 : G2 o = some (.inr (10, fs2))) (hf : ∀ (x : Nat) (e : va_E), G x = some e → x ≠ o → G2 x = some e) : EDP cy e0 tk G0 Bx G2 v z LA EA AD PI := by
  obtain ⟨w1, w2, w3, w4⟩ := h.oW (Or.inl rfl) h0
  exact ⟨h.L.mv (fun y => y = o) (fun y hy => by rw [hy]; exact hBo) w1 w2 w3 (fun y hy => by rw [hy]; exact ⟨_, ho2⟩) hf, h.b, h.sl, fun i hi => hf _ _ (h.pi i hi) (w4 i hi), h.pn, h.pj⟩
theorem EDP.ls (h : EDP cy e0 tk G0 Bx G v z LA EA AD PI) {k : Nat} (hk : k < 6) : LiS cy e0 G (LA k) (EA k) (lnV v k) (AD k) := h.L.ls k (Or.inl hk)
theorem EDP.lt (h : EDP cy e0 tk G0 Bx G v z LA EA AD PI) {k : Nat} (hk : k < 6) : LT G (cIL k) (lnV v k) (AD k) := fun j hj => ⟨_, h.L.el k j (Or.inl hk) hj⟩
end
