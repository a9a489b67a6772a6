/-! ===== what is remembered stays; what is sent hangs on it alone ===== -/
theorem fgF_rm {n : Nat} {P : PdT} {i : Nat} : (fgF n P i).2.2.2 = (P i).2.2.2 := by
  unfold fgF
  split <;> rfl
theorem tlF_rm {v : EdV} {c ln : Nat} {f : Nat → Int32} : ∀ {n i en : Nat} {P : PdT} {j : Nat}, (tlF v c ln f n i en P j).2.2.2 = (P j).2.2.2 := by
  intro n
  induction n with
  | zero => intro i en P j; rfl
  | succ n ih =>
    intro i en P j
    rw [tlF]
    split
    · rw [ih]
      split
      · by_cases e : j = i
        · rw [e, up1_eq]
        · rw [up1_ne e]
      · rfl
    · rfl
theorem teF_rm {v : EdV} {c ln : Nat} {f : Nat → Int32} {P : PdT} {j : Nat} : (teF v c ln f P j).2.2.2 = (P j).2.2.2 := by
  unfold teF
  split
  · exact fgF_rm
  · rw [tlF_rm]
    exact fgF_rm
theorem mkF_rm {v : EdV} {c : Nat} : ∀ {n i ln : Nat} {P : PdT} {f : Nat → Int32} {j : Nat}, ((mkF v c n i ln P f).1 j).2.2.2 = (P j).2.2.2 := by
  intro n
  induction n with
  | zero => intro i ln P f j; rfl
  | succ n ih =>
    intro i ln P f j
    rw [mkF]
    split
    · rw [ih]
      by_cases e : j = i
      · rw [e, up1_eq]
      · rw [up1_ne e]
    · rfl
theorem maF_rm {v : EdV} {c : Nat} {P : PdT} {f : Nat → Int32} {j : Nat} : ((maF v c P f).1 j).2.2.2 = (P j).2.2.2 := by
  unfold maF
  rw [mkF_rm]
  exact fgF_rm
theorem gtP_rm {v : EdV} {ln : Nat} {f : Nat → Int32} {P : Nat → PdT} {d : OpD} {a j : Nat} : (gtP v ln f P d a j).2.2.2 = (P a j).2.2.2 := by
  unfold gtP
  cases hy : opK v d with
  | none => rfl
  | some y =>
    show (up1 P y.1 (teF v y.1 ln f (P y.1)) a j).2.2.2 = _
    by_cases e : a = y.1
    · rw [e, up1_eq]
      exact teF_rm
    · rw [up1_ne e]
theorem stF9_rm {v : EdV} {ln : Nat} {f : Nat → Int32} {d : OpD} {s : JST} {a j : Nat} : ((stF9 v ln f d s).2.1 a j).2.2.2 = (s.2.1 a j).2.2.2 := by
  unfold stF9
  split
  · rfl
  · split
    · exact gtP_rm
    · split
      · rfl
      · split
        · rfl
        · split <;> rfl
theorem jrF_rm {v : EdV} {c ln : Nat} {f : Nat → Int32} {a j : Nat} : ∀ {n lf : Nat} {pl : Int32} {s : JST}, ((jrF v c ln f n lf pl s).2.2.1 a j).2.2.2 = (s.2.1 a j).2.2.2 := by
  intro n
  induction n with
  | zero => intro lf pl s; rfl
  | succ n ih =>
    intro lf pl s
    rw [jrF]
    split
    · rfl
    · split
      · exact ih
      · split
        · rfl
        · split
          · rfl
          · split
            · exact ih
            · exact ih.trans stF9_rm
theorem peI_lp {v : EdV} {c p e : Nat} (h : peI v c p = some e) : e < p := by
  unfold peI at h
  split at h
  · cases h
  · split at h
    · split at h
      · rename_i y
        cases h
        exact y
      · cases h
    · cases h
theorem grN_cg {v : EdV} {c p : Nat} {P Q : PdT} (h : ∀ i, i < p → P i = Q i) : grN v c p P = grN v c p Q := by
  unfold grN
  split
  · rfl
  · cases he : peI v c p with
    | none => rfl
    | some e =>
      dsimp only
      rw [h e (peI_lp he)]
theorem wsN_cg {v : EdV} {c p : Nat} {P Q : PdT} (h : ∀ i, i < p → P i = Q i) : wsN v c p P = wsN v c p Q := by
  unfold wsN
  rw [grN_cg h]
theorem mkF_cg {v : EdV} {c m : Nat} : ∀ {n i ln : Nat} {P Q : PdT} {f : Nat → Int32}, n + i ≤ m → (∀ j, j < m → P j = Q j) → (mkF v c n i ln P f).2 = (mkF v c n i ln Q f).2 := by
  intro n
  induction n with
  | zero => intro i ln P Q f _ _; rfl
  | succ n ih =>
    intro i ln P Q f hm h
    rw [mkF, mkF, wsN_cg (Q := Q) (fun j hj => h j (by omega)), h i (by omega)]
    split
    · refine ih (by omega) (fun j hj => ?_)
      by_cases e : j = i
      · rw [e, up1_eq, up1_eq]
      · rw [up1_ne e, up1_ne e]
        exact h j hj
    · rfl
theorem maF_cg {v : EdV} {c : Nat} {P Q : PdT} {f : Nat → Int32} (h : ∀ i, i < v.nP c → (P i).2.2.2 = (Q i).2.2.2) : (maF v c P f).2 = (maF v c Q f).2 :=
  mkF_cg (m := v.nP c) (by omega) (fun j hj => by unfold fgF; rw [if_pos hj, if_pos hj, h j hj])
