/-- every service's layer is one of the layers -/
def LSv (v : EdV) : Prop := ∀ s, s < v.nS → (v.S s).1 < v.nL
section

variable {K : Nat → Nat} {S : Nat → Int32} {V : Nat → Int64}
theorem q_svs_ls {n : Nat} : ∀ {la : Nat} {v : EdV} {q : Nat × Int32}, LSv v → la < v.nL → LSv (q_svs K S V n la v q).1 := by
  induction n with
  | zero => intro la v q h _; exact h
  | succ n ih =>
    intro la v q h hl
    rw [q_svs]
    split
    · refine ih (fun s hs => ?_) hl
      have hs : s < v.nS + 1 := hs
      show (up1 v.S v.nS (la, (q_ser K S V v.nS q).2.1) s).1 < v.nL
      rcases Nat.lt_or_ge s v.nS with e | e
      · rw [up1_ne (by omega)]; exact h s e
      · rw [show s = v.nS by omega, up1_eq]; exact hl
    · exact h
theorem q_lay_ls {v : EdV} {q : Nat × Int32} (h : LSv v) : LSv (q_lay K S V v q).1 := by
  obtain ⟨q1, e1⟩ : ∃ y, y = q_begin S (nI v.nL) 6 q := ⟨_, rfl⟩
  obtain ⟨a, e2⟩ : ∃ y, y = q_name K S V q1 := ⟨_, rfl⟩
  obtain ⟨b, e3⟩ : ∃ y, y = (if se K a.2.1 a.2.2 17 then (S (a.2.1 + 1), q_name K S V (a.2.1 + 1, a.2.2)) else (0, (0, a.2))) := ⟨_, rfl⟩
  simp only [q_lay, ← e1, ← e2, ← e3]
  exact q_svs_ls (fun s hs => Nat.lt_succ_of_lt (h s hs)) (Nat.lt_succ_self v.nL)
theorem q_stm_ls {v : EdV} {q : Nat × Int32} (h : LSv v) : LSv (q_stm K S V v q).1 := by
  unfold q_stm
  split
  · exact h
  · split
    · exact q_lay_ls h
    · split
      · exact h
      · split
        · exact h
        · split
          · exact h
          · exact h
theorem q_fill_ls {n : Nat} : ∀ {v : EdV} {q : Nat × Int32}, LSv v → LSv (q_fill K S V n v q).1 := by
  induction n with
  | zero => intro v q h; exact h
  | succ n ih =>
    intro v q h
    rw [q_fill]
    split
    · exact ih (q_stm_ls h)
    · exact h
end
theorem rdV_ls {ft : Nat → Int32} {tn : Nat} : LSv (rdV ft tn) := q_fill_ls (fun s hs => absurd hs (Nat.not_lt_zero s))
section

variable {K : Nat → Nat} {V : Nat → Int64} {n : Nat} {F : Nat → Nat → Int32} {bo : Nat} {v : EdV} {r : Int32} {x : Int64}
theorem bkS.atN (h : bkS K V n F bo v) (hn : n < 2 ^ 30) (hr : NMt K V n r x) : fnI (fun j => decide (F 20 (16 * bo + j) = r) && (decide ((-1 : Int32) < 0) || decide (F 22 (16 * bo + j) = -1))) v.nS = (match svN v x with | none => -1 | some k => nI k) := by
  unfold svN
  rw [fnI_cg (p2 := fun j => decide ((v.S j).2.2.1 = x)) (fun i hi => by rw [decide_eq_true (by decide : (-1 : Int32) < 0), Bool.true_or, Bool.and_true, decide_eq_decide]; exact (h.2.2 i hi).1.inj hn hr)]
  rfl
theorem bkS.atI (h : bkS K V n F bo v) (hL : LSv v) (hn6 : v.nL ≤ 6) (hn : n < 2 ^ 30) (hr : NMt K V n r x) {li : Nat} (hli : li < v.nL) : fnI (fun j => decide (F 20 (16 * bo + j) = r) && (decide (nI li < 0) || decide (F 22 (16 * bo + j) = nI li))) v.nS = (match svI v li x with | none => -1 | some k => nI k) := by
  unfold svI
  rw [fnI_cg (p2 := fun j => decide ((v.S j).1 = li) && decide ((v.S j).2.2.1 = x)) (fun i hi => by
    have h1 := (h.2.2 i hi)
    have h2 := hL i hi
    rw [decide_eq_false (nI_pos (by omega)), Bool.false_or, Bool.and_comm, h1.2.2.1]
    congr 1
    · rw [decide_eq_decide]
      exact ⟨fun z => nI_inj (by omega) (by omega) z, fun z => by rw [z]⟩
    · rw [decide_eq_decide]
      exact h1.1.inj hn hr)]
  rfl
theorem bkS.atP (h : bkS K V n F bo v) (hn : n < 2 ^ 30) (hr : NMt K V n r x) {s : Nat} (hs : s < v.nS) : fnI (fun j => decide (F 24 (128 * bo + 8 * s + j) = r)) (v.nP s) = (match paN v s x with | none => -1 | some k => nI k) := by
  unfold paN
  rw [fnI_cg (p2 := fun j => decide ((v.P s j).2.1 = x)) (fun i hi => by
    rw [decide_eq_decide, Nat.add_assoc]
    exact ((h.2.2 s hs).2.2.2.2.2 i hi).1.inj hn hr)]
  rfl
end
