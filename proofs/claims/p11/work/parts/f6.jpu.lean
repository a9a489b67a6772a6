/-! ===== a job's ops: where a while ends, where it begins ===== -/
/-- the first n ops of a job: a CLOSE goes back to its WHILE, a WHILE goes on behind its CLOSE -/
def JOK (n : Nat) (d : Nat → OpD) : Prop := ∀ i, i < n → ((25 ≤ (d i).1 ∧ (d i).1 < 35) ∨ (d i).1 = 5) ∧ ((d i).1 = 5 → ∃ t, t < i ∧ (d i).2.2.2.2.2.2 = nI t ∧ (d t).1 = 34) ∧ ((d i).1 = 34 → ∃ t, i < t ∧ t ≤ n ∧ (d i).2.2.2.2.2.2 = nI t)
def JTv (v : EdV) : Prop := ∀ c, c < v.nJ → v.nO c ≤ 80 ∧ JOK (v.nO c) (v.O c)
/-- the same while some whiles are open -/
def JI (kk on : Nat) (wf : Nat → Int32) (d : Nat → OpD) : Prop := (∀ i, i < kk → ((25 ≤ (d i).1 ∧ (d i).1 < 35) ∨ (d i).1 = 5) ∧ ((d i).1 = 5 → ∃ t, t < i ∧ (d i).2.2.2.2.2.2 = nI t ∧ (d t).1 = 34) ∧ ((d i).1 = 34 → (∃ m, m < on ∧ wf m = nI i) ∨ ∃ t, i < t ∧ t ≤ kk ∧ (d i).2.2.2.2.2.2 = nI t)) ∧ ∀ m, m < on → ∃ t, t < kk ∧ wf m = nI t ∧ (d t).1 = 34
theorem JI.ok {kk : Nat} {wf : Nat → Int32} {d : Nat → OpD} (h : JI kk 0 wf d) : JOK kk d := fun i hi => ⟨(h.1 i hi).1, (h.1 i hi).2.1, fun z => ((h.1 i hi).2.2 z).elim (fun ⟨m, hm, _⟩ => absurd hm (Nat.not_lt_zero m)) (fun y => y)⟩
theorem JI.cl {kk on : Nat} {wf : Nat → Int32} {d : Nat → OpD} (h : JI kk on wf d) (ho : 0 < on) (hk : kk < 2 ^ 30) : JI (kk + 1) (on - 1) wf (q_clw kk (wf (on - 1)).toNatClampNeg d) := by
  obtain ⟨sx, h1, h2, h3⟩ := h.2 (on - 1) (by omega)
  rw [h2, nI_clamp (by omega)]
  have ek : ∀ i, i ≠ kk → i ≠ sx → q_clw kk sx d i = d i := fun i a b => by unfold q_clw upO; rw [if_neg a, if_neg b]
  have es : q_clw kk sx d sx = ((d sx).1, (d sx).2.1, (d sx).2.2.1, (d sx).2.2.2.1, (d sx).2.2.2.2.1, (d sx).2.2.2.2.2.1, nI (kk + 1)) := by unfold q_clw upO; rw [if_neg (by omega), if_pos rfl]
  have e5 : q_clw kk sx d kk = (5, 0, 0, 0, 0, 0, nI sx) := by unfold q_clw upO; rw [if_pos rfl]
  have e1 : ∀ i, i ≠ kk → (q_clw kk sx d i).1 = (d i).1 := fun i a => by
    by_cases b : i = sx
    · rw [b, es]
    · rw [ek i a b]
  refine ⟨fun i hi => ?_, fun m hm => ?_⟩
  · by_cases a : i = kk
    · rw [a, e5]
      exact ⟨Or.inr rfl, fun _ => ⟨sx, h1, rfl, by rw [e1 sx (by omega)]; exact h3⟩, fun z => absurd z (by show ¬ (5 : Nat) = 34; decide)⟩
    · have y := h.1 i (by omega)
      rw [e1 i a]
      refine ⟨y.1, fun z => ?_, fun z => ?_⟩
      · obtain ⟨t, t1, t2, t3⟩ := y.2.1 z
        have b : i ≠ sx := fun u => by rw [u, h3] at z; exact absurd z (by decide)
        exact ⟨t, t1, by rw [ek i a b]; exact t2, by rw [e1 t (by omega)]; exact t3⟩
      · by_cases b : i = sx
        · rw [b, es]
          exact Or.inr ⟨kk + 1, by omega, Nat.le_refl _, rfl⟩
        · rw [ek i a b]
          rcases y.2.2 z with ⟨m, m1, m2⟩ | ⟨t, t1, t2, t3⟩
          · refine Or.inl ⟨m, ?_, m2⟩
            rcases Nat.lt_or_ge m (on - 1) with u | u
            · exact u
            · exfalso
              rw [show m = on - 1 by omega, h2] at m2
              exact b (nI_inj (by omega) (by omega) m2).symm
          · exact Or.inr ⟨t, t1, by omega, t3⟩
  · obtain ⟨t, t1, t2, t3⟩ := h.2 m (by omega)
    exact ⟨t, by omega, t2, by rw [e1 t (by omega)]; exact t3⟩
theorem JI.op {kk on : Nat} {wf : Nat → Int32} {d : Nat → OpD} {x : OpD} (h : JI kk on wf d) (hx : 25 ≤ x.1 ∧ x.1 < 34) : JI (kk + 1) on wf (upO d kk x) := by
  have ek : ∀ i, i ≠ kk → upO d kk x i = d i := fun i a => by unfold upO; rw [if_neg a]
  have e0 : upO d kk x kk = x := by unfold upO; rw [if_pos rfl]
  refine ⟨fun i hi => ?_, fun m hm => ?_⟩
  · by_cases a : i = kk
    · rw [a, e0]
      exact ⟨Or.inl ⟨hx.1, by omega⟩, fun z => by omega, fun z => by omega⟩
    · have y := h.1 i (by omega)
      rw [ek i a]
      refine ⟨y.1, fun z => ?_, fun z => ?_⟩
      · obtain ⟨t, t1, t2, t3⟩ := y.2.1 z
        exact ⟨t, t1, t2, by rw [ek t (by omega)]; exact t3⟩
      · rcases y.2.2 z with u | ⟨t, t1, t2, t3⟩
        · exact Or.inl u
        · exact Or.inr ⟨t, t1, by omega, t3⟩
  · obtain ⟨t, t1, t2, t3⟩ := h.2 m hm
    exact ⟨t, by omega, t2, by rw [ek t (by omega)]; exact t3⟩
theorem JI.wh {kk on : Nat} {wf : Nat → Int32} {d : Nat → OpD} {x : OpD} (h : JI kk on wf d) (hx : x.1 = 34) : JI (kk + 1) (on + 1) (upd wf on (nI kk)) (upO d kk x) := by
  have ek : ∀ i, i ≠ kk → upO d kk x i = d i := fun i a => by unfold upO; rw [if_neg a]
  have e0 : upO d kk x kk = x := by unfold upO; rw [if_pos rfl]
  refine ⟨fun i hi => ?_, fun m hm => ?_⟩
  · by_cases a : i = kk
    · rw [a, e0]
      exact ⟨Or.inl (by omega), fun z => by omega, fun _ => Or.inl ⟨on, Nat.lt_succ_self on, pk_us⟩⟩
    · have y := h.1 i (by omega)
      rw [ek i a]
      refine ⟨y.1, fun z => ?_, fun z => ?_⟩
      · obtain ⟨t, t1, t2, t3⟩ := y.2.1 z
        exact ⟨t, t1, t2, by rw [ek t (by omega)]; exact t3⟩
      · rcases y.2.2 z with ⟨m, m1, m2⟩ | ⟨t, t1, t2, t3⟩
        · exact Or.inl ⟨m, by omega, by rw [pk_un (by omega)]; exact m2⟩
        · exact Or.inr ⟨t, t1, by omega, t3⟩
  · by_cases a : m = on
    · exact ⟨kk, Nat.lt_succ_self kk, by rw [a, pk_us], by rw [e0]; exact hx⟩
    · obtain ⟨t, t1, t2, t3⟩ := h.2 m (by omega)
      exact ⟨t, by omega, by rw [pk_un a]; exact t2, by rw [ek t (by omega)]; exact t3⟩
section

variable {K : Nat → Nat} {S : Nat → Int32} {V : Nat → Int64}
theorem op_ji (hS : ∀ p, ¬ S p < 0) (hK : ∀ p, K p < 35) {ta on kk : Nat} {q : Nat × Int32} {wf : Nat → Int32} {d : Nat → OpD} (hta : ta < 2 ^ 30) (h : (q_op K S V ta on kk q wf).1.2 < 0) (ho : isO (K q.1) = true) (hj : JI kk on wf d) : ta < 40 ∧ JI (kk + 1) (q_op K S V ta on kk q wf).2.1 (q_op K S V ta on kk q wf).2.2.1 (upO d kk (q_op K S V ta on kk q wf).2.2.2) ∧ (q_op K S V ta on kk q wf).2.1 ≤ on + 1 := by
  have hk := @op_k K S V ta on kk q wf
  have h25 : 25 ≤ K q.1 := of_decide_eq_true ho
  have hlt : ∀ q0 : Nat × Int32, (q_begin S (nI ta) 40 q0).2 < 0 → ta < 40 := fun q0 z => nI_lt_of (by omega) (by decide) (Int32.not_le.mpr (ad_begin hS z).2.1)
  by_cases h34 : K q.1 = 34
  · by_cases h3 : on < 3
    · have hq : q_op K S V ta on kk q wf = (q_take K S 4 (q_begin S (nI ta) 40 q), on + 1, upd wf on (nI kk), (K q.1, 0, 0, 0, 0, 0, 0)) := by
        simp only [q_op, q_opw, if_pos h34, if_pos h3, Nat.add_sub_cancel]
      rw [hq] at h ⊢
      dsimp only at h ⊢
      exact ⟨hlt _ (ad_take hS h).1, hj.wh h34, Nat.le_refl _⟩
    · exfalso
      have hq : (q_op K S V ta on kk q wf).1 = q_begin S (nI ta) 40 (q.1, fl S q.1 q.2) := by
        simp only [q_op, q_opw, if_pos h34, if_neg h3]
      rw [hq] at h
      exact fl_ge hS (ad_begin hS h).1
  · have h2 := hK q.1
    by_cases k25 : K q.1 = 25
    · have hq : q_op K S V ta on kk q wf = (q_take K S 6 (q_val K S V (q_begin S (nI ta) 40 q)).2, on, wf, (K q.1, (q_val K S V (q_begin S (nI ta) 40 q)).1.toInt64, 0, 0, 0, 0, 0)) := by
        simp only [q_op, if_neg h34, if_pos k25]
      rw [hq] at h ⊢
      dsimp only at h ⊢
      exact ⟨hlt _ (ad_val hS (ad_take hS h).1).1, hj.op (by show 25 ≤ K q.1 ∧ K q.1 < 34; omega), Nat.le_succ _⟩
    · by_cases k26 : K q.1 = 26
      · have hq : q_op K S V ta on kk q wf = (q_take K S 6 (q_name K S V (q_name K S V (q_begin S (nI ta) 40 q)).2).2, on, wf, (K q.1, 0, (q_name K S V (q_begin S (nI ta) 40 q)).1, S (q_begin S (nI ta) 40 q).1, (q_name K S V (q_name K S V (q_begin S (nI ta) 40 q)).2).1, S (q_name K S V (q_begin S (nI ta) 40 q)).2.1, 0)) := by
          simp only [q_op, if_neg h34, if_neg k25, if_pos k26]
        rw [hq] at h ⊢
        dsimp only at h ⊢
        exact ⟨hlt _ (ad_name hS (ad_name hS (ad_take hS h).1).1).1, hj.op (by show 25 ≤ K q.1 ∧ K q.1 < 34; omega), Nat.le_succ _⟩
      · have hq : q_op K S V ta on kk q wf = (q_take K S 6 (q_begin S (nI ta) 40 q), on, wf, (K q.1, 0, 0, 0, 0, 0, 0)) := by
          simp only [q_op, if_neg h34, if_neg k25, if_neg k26]
        rw [hq] at h ⊢
        dsimp only at h ⊢
        exact ⟨hlt _ (ad_take hS h).1, hj.op (by show 25 ≤ K q.1 ∧ K q.1 < 34; omega), Nat.le_succ _⟩
theorem ops_ji (hS : ∀ p, ¬ S p < 0) (hK : ∀ p, K p < 35) {n : Nat} : ∀ {kk ta on : Nat} {wf : Nat → Int32} {d : Nat → OpD} {q : Nat × Int32} {RP : Nat × (Nat → OpD) × (Nat × Int32)}, q_ops K S V n kk ta on wf d q = RP → RP.2.2.2 < 0 → K RP.2.2.1 = 5 → n + kk = 81 → kk + on ≤ 2 * ta → ta ≤ 40 → JI kk on wf d → RP.1 ≤ 80 ∧ JOK RP.1 RP.2.1 := by
  induction n with
  | zero => intro kk ta on wf d q RP e h h5 h1 h2 h3 hj; omega
  | succ n ih =>
    intro kk ta on wf d q RP e h h5 h1 h2 h3 hj
    rw [q_ops] at e
    by_cases hs : 0 < on ∧ se K q.1 q.2 5 = true
    · rw [if_pos hs] at e
      exact ih e h h5 (by omega) (by omega) h3 (hj.cl hs.1 (by omega))
    · rw [if_neg hs] at e
      by_cases ho : isO (K q.1) = true ∧ q.2 < 0
      · rw [if_pos ho] at e
        have hg : (q_op K S V ta on kk q wf).1.2 < 0 := ops_gd (by rw [e]; exact h)
        obtain ⟨a1, a2, a3⟩ := op_ji hS hK (by omega) hg ho.1 hj
        exact ih e h h5 (by omega) (by omega) (by omega) a2
      · rw [if_neg ho] at e
        rw [← e] at h h5 ⊢
        dsimp only at h h5 ⊢
        have h0 : on = 0 := by
          refine Classical.byContradiction (fun z => hs ⟨by omega, ?_⟩)
          unfold se
          rw [decide_eq_true h, decide_eq_true h5]
          rfl
        rw [h0] at hj
        exact ⟨by omega, hj.ok⟩
theorem job_ji (hS : ∀ p, ¬ S p < 0) (hK : ∀ p, K p < 35) {nC : Nat} {q : Nat × Int32} (h : (q_job K S V nC q (fun _ => 0)).1.2 < 0) : (q_job K S V nC q (fun _ => 0)).2.2.1 ≤ 80 ∧ JOK (q_job K S V nC q (fun _ => 0)).2.2.1 (q_job K S V nC q (fun _ => 0)).2.2.2 := by
  obtain ⟨q3, e3⟩ : ∃ y, y = q_take K S 4 (q_name K S V (q_begin S (nI nC) 4 q)).2 := ⟨_, rfl⟩
  obtain ⟨RP, eR⟩ : ∃ y, q_ops K S V 81 0 0 0 (fun _ => 0) d0O q3 = y := ⟨_, rfl⟩
  simp only [q_job, ← e3, eR] at h ⊢
  have y6 := ad_take hS h
  exact ops_ji hS hK eR y6.1 y6.2.1 rfl (by decide) (by decide) ⟨fun i hi => absurd hi (Nat.not_lt_zero i), fun m hm => absurd hm (Nat.not_lt_zero m)⟩
theorem stm_jt (hS : ∀ p, ¬ S p < 0) (hK : ∀ p, K p < 35) {v : EdV} {q : Nat × Int32} (h : (q_stm K S V v q).2.2 < 0) (hj : JTv v) : JTv (q_stm K S V v q).1 := by
  unfold q_stm at h ⊢
  by_cases k1 : K q.1 = 11
  · rw [if_pos k1]
    exact hj
  · rw [if_neg k1] at h ⊢
    by_cases k2 : K q.1 = 16
    · rw [if_pos k2]
      obtain ⟨o1, o2⟩ := @q_lay_cEVJ K S V v q
      intro c hc
      have e1 : (q_lay K S V v q).1.nJ = v.nJ := by show (q_lay K S V v q).1.2.2.2.2.2.1 = v.2.2.2.2.2.1; rw [o2]
      have e2 : (q_lay K S V v q).1.nO = v.nO := by show (q_lay K S V v q).1.2.2.2.2.2.2.2.1 = v.2.2.2.2.2.2.2.1; rw [o2]
      have e3 : (q_lay K S V v q).1.O = v.O := by show (q_lay K S V v q).1.2.2.2.2.2.2.2.2 = v.2.2.2.2.2.2.2.2; rw [o2]
      rw [e1] at hc
      rw [e2, e3]
      exact hj c hc
    · rw [if_neg k2] at h ⊢
      by_cases k3 : K q.1 = 22
      · rw [if_pos k3]
        exact hj
      · rw [if_neg k3] at h ⊢
        by_cases k4 : K q.1 = 23
        · rw [if_pos k4]
          exact hj
        · rw [if_neg k4] at h ⊢
          by_cases k5 : K q.1 = 24
          · rw [if_pos k5] at h ⊢
            dsimp only at h ⊢
            have y := job_ji hS hK h
            obtain ⟨x, ex⟩ : ∃ y, y = (q_job K S V v.nJ q (fun _ => 0)).2 := ⟨_, rfl⟩
            rw [← ex] at y ⊢
            intro c hc
            rw [addJ_nJ] at hc
            rw [addJ_nO, addJ_O]
            by_cases e : c = v.nJ
            · rw [e, up1_eq, up1_eq]
              exact y
            · rw [up1_ne e, up1_ne e]
              exact hj c (by omega)
          · rw [if_neg k5] at h
            exact absurd h (fl_ge hS)
theorem fill_jt (hS : ∀ p, ¬ S p < 0) (hK : ∀ p, K p < 35) {n : Nat} : ∀ {v : EdV} {q : Nat × Int32}, (q_fill K S V n v q).2.2 < 0 → JTv v → JTv (q_fill K S V n v q).1 := by
  induction n with
  | zero => intro v q _ h; exact h
  | succ n ih =>
    intro v q h hj
    rw [q_fill] at h ⊢
    by_cases hs : q.2 < 0 ∧ K q.1 ≠ 2
    · rw [if_pos hs] at h ⊢
      exact ih h (stm_jt hS hK (fill_gd h) hj)
    · rw [if_neg hs]
      exact hj
end
