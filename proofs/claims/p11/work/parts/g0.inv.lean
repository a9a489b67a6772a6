/-! ===== what stands while the other book is written ===== -/
theorem wB_ne {b d k i : Nat} (hb : b < 2) (hd : d < 2) (hn : b ≠ d) (h : wB b k i) : ¬ wB d k i ∧ ¬ lxA k := by
  constructor
  · intro z
    unfold wB at h z
    rcases h with h | h | h | h | h | h | h | h | h | h <;> (rcases z with z | z | z | z | z | z | z | z | z | z <;> omega)
  · intro z
    unfold wB at h
    unfold lxA at z
    rcases h with h | h | h | h | h | h | h | h | h | h <;> omega
theorem BK.fr {K : Nat → Nat} {V : Nat → Int64} {n : Nat} {F F2 : Nat → Nat → Int32} {b : Nat} {v : EdV} (h : BK K V n F b v) (hF : ∀ k i, wB b k i → F2 k i = F k i) : BK K V n F2 b v := by
  obtain ⟨h1, h2, h3, h4, h5, h6⟩ := h
  have hc := h1.2.1
  have hu := h2.2.1
  have hs := h3.2.1
  have he := h4.2.1
  have hv := h5.2.1
  have hj := h6.2.1
  refine ⟨⟨?_, hc, fun c hcc => ?_⟩, ⟨?_, hu, fun i hi => ?_⟩, ⟨?_, hs, fun s hss => ?_⟩, ⟨?_, he, fun i hi => ?_⟩, ⟨?_, hv, fun i hi => ?_⟩, ⟨?_, hj, fun j hjj => ?_⟩⟩
  · rw [hF 1 b (Or.inl ⟨by decide, by decide, rfl⟩)]; exact h1.1
  · exact (h1.2.2 c hcc).mv (Nat.le_refl _) (fun k x y => hF k _ (Or.inr (Or.inl ⟨by omega, by omega, by omega, by omega⟩))) (fun k p x y => hF k _ (Or.inr (Or.inr (Or.inl ⟨by omega, by omega, by omega, by omega⟩))))
  · rw [hF 2 b (Or.inl ⟨by decide, by decide, rfl⟩)]; exact h2.1
  · rw [hF 18 (6 * b + i) (Or.inr (Or.inr (Or.inr (Or.inl ⟨by decide, by decide, by omega, by omega⟩)))), hF 19 (6 * b + i) (Or.inr (Or.inr (Or.inr (Or.inl ⟨by decide, by decide, by omega, by omega⟩))))]
    exact h2.2.2 i hi
  · rw [hF 3 b (Or.inl ⟨by decide, by decide, rfl⟩)]; exact h3.1
  · exact (h3.2.2 s hss).mv (Nat.le_refl _) (fun k x y => hF k _ (Or.inr (Or.inr (Or.inr (Or.inr (Or.inl ⟨by omega, by omega, by omega, by omega⟩)))))) (fun k p x y z => hF k _ (Or.inr (Or.inr (Or.inr (Or.inr (Or.inr (Or.inl ⟨by omega, by omega, by omega, by omega⟩)))))))
  · rw [hF 4 b (Or.inl ⟨by decide, by decide, rfl⟩)]; exact h4.1
  · rw [hF 29 (12 * b + i) (Or.inr (Or.inr (Or.inr (Or.inr (Or.inr (Or.inr (Or.inl ⟨by decide, by decide, by omega, by omega⟩))))))), hF 30 (12 * b + i) (Or.inr (Or.inr (Or.inr (Or.inr (Or.inr (Or.inr (Or.inl ⟨by decide, by decide, by omega, by omega⟩)))))))]
    exact h4.2.2 i hi
  · rw [hF 5 b (Or.inl ⟨by decide, by decide, rfl⟩)]; exact h5.1
  · rw [hF 32 (6 * b + i) (Or.inr (Or.inr (Or.inr (Or.inr (Or.inr (Or.inr (Or.inr (Or.inl ⟨by decide, by decide, by omega, by omega⟩)))))))), hF 31 (6 * b + i) (Or.inr (Or.inr (Or.inr (Or.inr (Or.inr (Or.inr (Or.inr (Or.inl ⟨by decide, by decide, by omega, by omega⟩))))))))]
    exact h5.2.2 i hi
  · rw [hF 6 b (Or.inl ⟨by decide, by decide, rfl⟩)]; exact h6.1
  · exact (h6.2.2 j hjj).mv (Nat.le_refl _) (fun k x => hF k _ (Or.inr (Or.inr (Or.inr (Or.inr (Or.inr (Or.inr (Or.inr (Or.inr (Or.inl ⟨by omega, by omega, by omega, by omega⟩)))))))))) (fun k i x y z => hF k _ (Or.inr (Or.inr (Or.inr (Or.inr (Or.inr (Or.inr (Or.inr (Or.inr (Or.inr ⟨by omega, by omega, by omega, by omega⟩))))))))))
theorem BK.ot {K : Nat → Nat} {V : Nat → Int64} {n : Nat} {F F2 : Nat → Nat → Int32} {b d : Nat} {v : EdV} (h : BK K V n F b v) (hb : b < 2) (hd : d < 2) (hn : b ≠ d) (hF : ∀ j i, ¬ lxA j → ¬ wB d j i → ¬ j = 64 → F2 j i = F j i) : BK K V n F2 b v :=
  h.fr (fun k i z => hF k i (wB_ne hb hd hn z).2 (wB_ne hb hd hn z).1 (fun y => by rw [y] at z; unfold wB at z; rcases z with z | z | z | z | z | z | z | z | z | z <;> omega))
/-- an edition that was read well -/
theorem rd_vld {ft : Nat → Int32} {en : Nat} (hen : en ≤ 2000) (h : rdP ft en < 0) (hP : ∀ s, s < (rdV ft en).nS → (rdV ft en).nP s ≤ 8) (hO : ∀ j, j < (rdV ft en).nJ → (rdV ft en).nO j ≤ 80) : VLD (rdV ft en) := by
  have hg : (rdF ft en).2.2 < 0 := by
    refine Classical.byContradiction (fun z => ?_)
    unfold rdP at h
    rw [if_neg z] at h
    exact z h
  have hc : CLn (tkS ft en) (PK (rdF ft en).1) 0 (rdF ft en).2.1 ([] ++ clFi (tkK ft en) (tkS ft en) (tkV ft en) (tkN ft en) EdV.nil (0, -1)) := clFi_n (fun p => tkS_ge hen p) (fun p hp => tkV_ne hp) (show q_fill (tkK ft en) (tkS ft en) (tkV ft en) (tkN ft en) EdV.nil (0, -1) = rdF ft en from rfl) hg (CLn.nil (fun k a b p => PK_nil))
  refine VLD.of (fun k a b p z => ?_) hP hO ?_
  · obtain ⟨t, -, e⟩ := hc.2.1 k a b p z
    rw [e]
    exact tkS_ge hen t
  · unfold rdP rdG at h
    rw [if_pos hg, if_pos hg] at h
    exact h
theorem rd_gd {ft : Nat → Int32} {en : Nat} (h : rdP ft en < 0) : (rdF ft en).2.2 < 0 := by
  refine Classical.byContradiction (fun z => ?_)
  unfold rdP at h
  rw [if_neg z] at h
  exact z h
theorem rd_jt {ft : Nat → Int32} {en : Nat} (hen : en ≤ 2000) (h : rdP ft en < 0) : JTv (rdV ft en) := fill_jt (fun p => tkS_ge hen p) (fun p => tkK_lt p) (rd_gd h) (fun c hc => absurd hc (Nat.not_lt_zero c))
