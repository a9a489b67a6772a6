
section

variable {cy : Nat → ClassId} {e0 : Nat} {tk : Nat → Nat} {G0 : Nat → Option va_E} {Bx : Nat → Prop} {G G2 : Nat → Option va_E} {v : EdV} {z : PtV} {LA EA : Nat → Nat} {AD : Nat → Nat → Nat} {PI : Nat → Nat}
/-- an object more in list k, and its own list k2 -/
theorem LSS.both {lv : Nat → Prop} {LN : Nat → Nat} {FS : Nat → Nat → List Value} (h : LSS cy e0 G0 Bx G lv LA EA LN AD FS) {k k2 ec2 ca rl ra n : Nat} {fx : List Value} {f2 : Nat → Nat} {g : Nat → List Value} (hk : lv k) (hk2 : ¬ lv k2) (hci : cIL k ≠ cIL k2) (Wx : Nat → Prop) (hWB : ∀ x, Wx x → Bx x) (hWl : ∀ k, lv k → ¬ Wx (LA k)) (hWe : ∀ k, lv k → 1 ≤ LN k → ¬ Wx (EA k)) (hWa : ∀ k i, lv k → i < LN k → ¬ Wx (AD k i)) (hWs : ∀ x, Wx x → ∃ e, G2 x = some e)
    (hl : LiS cy e0 G2 (LA k) ec2 (LN k + 1) (fup (AD k) (LN k) ca)) (hec : (1 ≤ LN k ∧ ec2 = EA k) ∨ G ec2 = none) (hca : G ca = none) (hc2 : G2 ca = some (.inr (cIL k, fx)))
    (hl2 : LiS cy e0 G2 rl ra n f2) (hel : ∀ i, i < n → G2 (f2 i) = some (.inr (cIL k2, g i))) (hrl : G rl = none) (hra : 1 ≤ n → G ra = none) (hnw : NW G n f2) (hne : 1 ≤ n → ra ≠ ec2)
    (hf : ∀ x e, G x = some e → ¬ Wx x → x ≠ LA k → (1 ≤ LN k → x ≠ EA k) → G2 x = some e) :
    LSS cy e0 G0 Bx G2 (fun k' => lv k' ∨ k' = k2) (up1 LA k2 rl) (up1 (up1 EA k ec2) k2 ra) (up1 (up1 LN k (LN k + 1)) k2 n) (up1 (up1 AD k (fup (AD k) (LN k) ca)) k2 f2) (up1 (up1 FS k (up1 (FS k) (LN k) fx)) k2 g) := by
  have h1 := h.grow (G2 := G2) hk Wx hWB hWl hWe hWa hWs hl hec hca hc2 hf
  refine h1.addl hk2 hl2 hel (h.nw hrl) (fun m => h.nw (hra m)) ⟨fun i hi => h.nw (hnw.1 i hi), hnw.2⟩ ?_ ?_ ?_
  · intro k' hk' e
    obtain ⟨fs, h3⟩ := (h.ls k' hk').some
    rw [e, hrl] at h3
    cases h3
  · intro m k' hk' m' e
    by_cases e1 : k' = k
    · rw [e1, up1_eq] at e
      exact hne m e.symm
    · rw [up1_ne e1] at e m'
      obtain ⟨w, h3⟩ := (h.ls k' hk').arr m'
      rw [e, hra m] at h3
      cases h3
  · intro k' i j hk' hi hj e
    have h5 := hel j hj
    have h6 := h1.el k' i hk' hi
    rw [e, h5] at h6
    by_cases e1 : k' = k
    · exact hci (by have := congrArg Prod.fst (Sum.inr.inj (Option.some.inj h6)); rw [e1] at this; exact this.symm)
    · rw [up1_ne e1] at e hi
      have h3 := h.el k' i hk' hi
      rw [e, hnw.1 j hj] at h3
      cases h3
/-- a coding more -/
theorem EDP.cod (h : EDP cy e0 tk G0 Bx G v z LA EA AD PI) (hz : z = PtV.nil) {o ca rl ra ec2 : Nat} {f2 : Nat → Nat} {fs fs2 : List Value} (hn : v.nC ≤ 12) (hBo : Bx o) (h0 : G o = some (.inr (10, fs))) (ho2 : G2 o = some (.inr (10, fs2))) {x : (Int32 × Int64 × Int32) × (Int32 × Int32 × Int64 × Int64 × Int64) × (Nat × (Nat → RwD))} (hca : G ca = none) (hrl : G rl = none) (hra : 1 ≤ x.2.2.1 → G ra = none) (hl : LiS cy e0 G2 (LA 0) ec2 (v.nC + 1) (fup (AD 0) v.nC ca)) (hec : (1 ≤ v.nC ∧ ec2 = EA 0) ∨ G ec2 = none) (hc2 : G2 ca = some (.inr (2, coF v.nC (x.1, x.2.1) rl))) (hl2 : LiS cy e0 G2 rl ra x.2.2.1 f2) (hE : EN G2 x.2.2.1 f2 x.2.2.2) (hnw : NW G x.2.2.1 f2) (hne : 1 ≤ x.2.2.1 → ra ≠ ec2) (hf : ∀ (x : Nat) (e : va_E), G x = some e → x ≠ o → x ≠ LA 0 → (1 ≤ v.nC → x ≠ EA 0) → G2 x = some e) :
    EDP cy e0 tk G0 Bx G2 (v.addC x) z (up1 LA (6 + v.nC) rl) (up1 (up1 EA 0 ec2) (6 + v.nC) ra) (up1 (up1 AD 0 (fup (AD 0) v.nC ca)) (6 + v.nC) f2) PI := by
  obtain ⟨w1, w2, w3, w4⟩ := h.oW (Or.inl rfl) h0
  have hb := h.b
  have hk : lvV v 0 := Or.inl (by decide)
  have hk2 : ¬ lvV v (6 + v.nC) := by unfold lvV; omega
  have hc6 : cIL (6 + v.nC) = 4 := by
    unfold cIL
    rw [if_neg (by omega), if_neg (by omega), if_neg (by omega), if_neg (by omega), if_neg (by omega), if_neg (by omega), if_pos (by omega)]
  refine ⟨(h.L.both (G2 := G2) (k := 0) (k2 := 6 + v.nC) (g := fun i => enF (x.2.2.2 i) none) hk hk2 (by rw [hc6]; decide) (fun y => y = o) (fun y hy => by rw [hy]; exact hBo) w1 w2 w3 (fun y hy => by rw [hy]; exact ⟨_, ho2⟩) hl hec hca hc2 hl2 (fun i hi => by rw [hc6]; exact hE i hi) hrl hra hnw hne hf).cg ?_ (fun _ _ => rfl) (fun _ _ => rfl) ?_ (fun _ _ _ _ => rfl) ?_, ?_, h.sl, ?_, h.pn, h.pj⟩
  · intro k
    simp only [lvV, addC_nC, addC_C, addC_nR, addC_R, addC_nL, addC_L, addC_nS, addC_S, addC_nP, addC_P, addC_nE, addC_E, addC_nV, addC_V, addC_nJ, addC_J, addC_nO, addC_O]
    omega
  · intro k _
    by_cases e : k = 6 + v.nC
    · rw [e, up1_eq]
      simp only [lnV, addC_nC, addC_C, addC_nR, addC_R, addC_nL, addC_L, addC_nS, addC_S, addC_nP, addC_P, addC_nE, addC_E, addC_nV, addC_V, addC_nJ, addC_J, addC_nO, addC_O]
      rw [if_neg (by omega), if_neg (by omega), if_neg (by omega), if_neg (by omega), if_neg (by omega), if_neg (by omega), if_pos (by omega), show 6 + v.nC - 6 = v.nC by omega, up1_eq]
    · rw [up1_ne e]
      by_cases e0 : k = 0
      · rw [e0, up1_eq]; rfl
      · rw [up1_ne e0]
        by_cases e1 : k < 6
        · rcases (show k = 1 ∨ k = 2 ∨ k = 3 ∨ k = 4 ∨ k = 5 by omega) with r | r | r | r | r <;> rw [r] <;> rfl
        · have e2 : k - 6 ≠ v.nC := by omega
          simp only [lnV, addC_nC, addC_C, addC_nR, addC_R, addC_nL, addC_L, addC_nS, addC_S, addC_nP, addC_P, addC_nE, addC_E, addC_nV, addC_V, addC_nJ, addC_J, addC_nO, addC_O, up1_ne e2, e0, if_false]
  · intro k i _ hi
    by_cases e : k = 6 + v.nC
    · rw [e, up1_eq]
      simp only [fsV, addC_nC, addC_C, addC_nR, addC_R, addC_nL, addC_L, addC_nS, addC_S, addC_nP, addC_P, addC_nE, addC_E, addC_nV, addC_V, addC_nJ, addC_J, addC_nO, addC_O]
      rw [if_neg (by omega), if_neg (by omega), if_neg (by omega), if_neg (by omega), if_neg (by omega), if_neg (by omega), if_pos (by omega), show 6 + v.nC - 6 = v.nC by omega, up1_eq]
    · rw [up1_ne e] at hi ⊢
      by_cases e0 : k = 0
      · rw [e0] at hi ⊢
        rw [up1_eq] at hi ⊢
        show coF i ((up1 v.C v.nC (x.1, x.2.1)) i) ((up1 LA (6 + v.nC) rl) (6 + i)) = _
        by_cases e2 : i = lnV v 0
        · rw [e2, up1_eq]
          show coF v.nC ((up1 v.C v.nC (x.1, x.2.1)) v.nC) ((up1 LA (6 + v.nC) rl) (6 + v.nC)) = _
          rw [up1_eq, up1_eq]
        · rw [up1_ne e2]
          have e3 : i ≠ v.nC := e2
          rw [up1_ne e3, up1_ne (show 6 + i ≠ 6 + v.nC by omega)]
          rfl
      · rw [up1_ne e0] at hi ⊢
        have a1 : (up1 (up1 AD 0 (fup (AD 0) v.nC ca)) (6 + v.nC) f2) 1 = AD 1 := by rw [up1_ne (by omega), up1_ne (by decide)]
        by_cases e1 : k < 6
        · rcases (show k = 1 ∨ k = 2 ∨ k = 3 ∨ k = 4 ∨ k = 5 by omega) with r | r | r | r | r <;> rw [r] at hi ⊢
          · rfl
          · show seF i (v.S i).2 ((up1 (up1 AD 0 (fup (AD 0) v.nC ca)) (6 + v.nC) f2) 1 (v.S i).1) ((up1 LA (6 + v.nC) rl) (20 + i)) = seF i (v.S i).2 (AD 1 (v.S i).1) (LA (20 + i))
            rw [a1, up1_ne (by omega)]
          · rfl
          · rfl
          · have hj : i < v.nJ := hi
            show joF (v.J i) ((up1 LA (6 + v.nC) rl) (40 + i)) (PI i) (z.jh i) = joF (v.J i) (LA (40 + i)) (PI i) (z.jh i)
            rw [up1_ne (by omega)]
        · have e2 : k - 6 ≠ v.nC := by omega
          have f1 : ¬ k = 1 := by omega
          have f2 : ¬ k = 2 := by omega
          have f3 : ¬ k = 3 := by omega
          have f4 : ¬ k = 4 := by omega
          have f5 : ¬ k = 5 := by omega
          simp only [fsV, addC_nC, addC_C, addC_nR, addC_R, addC_nL, addC_L, addC_nS, addC_S, addC_nP, addC_P, addC_nE, addC_E, addC_nV, addC_V, addC_nJ, addC_J, addC_nO, addC_O, up1_ne e2, e0, if_false, f1, f2, f3, f4, f5]
  · simp only [addC_nC, addC_C, addC_nR, addC_R, addC_nL, addC_L, addC_nS, addC_S, addC_nP, addC_P, addC_nE, addC_E, addC_nV, addC_V, addC_nJ, addC_J, addC_nO, addC_O]
    omega
  · intro i hi
    exact hf _ _ (h.pi i hi) (w4 i hi) (h.pst hk hi).1 (h.pst hk hi).2
/-- a service more -/
theorem EDP.ser (h : EDP cy e0 tk G0 Bx G v z LA EA AD PI) (hz : z = PtV.nil) {o ca rl ra ec2 la : Nat} {f2 : Nat → Nat} {fs fs2 : List Value} (hn : v.nS ≤ 16) (hla : la < v.nL) (hBo : Bx o) (h0 : G o = some (.inr (10, fs))) (ho2 : G2 o = some (.inr (10, fs2))) {x : (Int32 × Int64 × Int32) × (Nat × (Nat → PrD))} (hca : G ca = none) (hrl : G rl = none) (hra : 1 ≤ x.2.1 → G ra = none) (hl : LiS cy e0 G2 (LA 2) ec2 (v.nS + 1) (fup (AD 2) v.nS ca)) (hec : (1 ≤ v.nS ∧ ec2 = EA 2) ∨ G ec2 = none) (hc2 : G2 ca = some (.inr (11, seF v.nS x.1 (AD 1 la) rl))) (hl2 : LiS cy e0 G2 rl ra x.2.1 f2) (hE : PRM G2 x.2.1 f2 x.2.2) (hnw : NW G x.2.1 f2) (hne : 1 ≤ x.2.1 → ra ≠ ec2) (hf : ∀ (x : Nat) (e : va_E), G x = some e → x ≠ o → x ≠ LA 2 → (1 ≤ v.nS → x ≠ EA 2) → G2 x = some e) :
    EDP cy e0 tk G0 Bx G2 (v.addS la x) z (up1 LA (20 + v.nS) rl) (up1 (up1 EA 2 ec2) (20 + v.nS) ra) (up1 (up1 AD 2 (fup (AD 2) v.nS ca)) (20 + v.nS) f2) PI := by
  obtain ⟨w1, w2, w3, w4⟩ := h.oW (Or.inl rfl) h0
  have hb := h.b
  have hk : lvV v 2 := Or.inl (by decide)
  have hk2 : ¬ lvV v (20 + v.nS) := by unfold lvV; omega
  have hc6 : cIL (20 + v.nS) = 9 := by
    unfold cIL
    rw [if_neg (by omega), if_neg (by omega), if_neg (by omega), if_neg (by omega), if_neg (by omega), if_neg (by omega), if_neg (by omega), if_pos (by omega)]
  refine ⟨(h.L.both (G2 := G2) (k := 2) (k2 := 20 + v.nS) (g := fun i => prF i (x.2.2 i) none none (0, 0, 0, 0)) hk hk2 (by rw [hc6]; decide) (fun y => y = o) (fun y hy => by rw [hy]; exact hBo) w1 w2 w3 (fun y hy => by rw [hy]; exact ⟨_, ho2⟩) hl hec hca hc2 hl2 (fun i hi => by rw [hc6]; exact hE i hi) hrl hra hnw hne hf).cg ?_ (fun _ _ => rfl) (fun _ _ => rfl) ?_ (fun _ _ _ _ => rfl) ?_, ?_, ?_, ?_, h.pn, h.pj⟩
  · intro k
    simp only [lvV, addS_nC, addS_C, addS_nR, addS_R, addS_nL, addS_L, addS_nS, addS_S, addS_nP, addS_P, addS_nE, addS_E, addS_nV, addS_V, addS_nJ, addS_J, addS_nO, addS_O]
    omega
  · intro k _
    by_cases e : k = 20 + v.nS
    · rw [e, up1_eq]
      simp only [lnV, addS_nC, addS_C, addS_nR, addS_R, addS_nL, addS_L, addS_nS, addS_S, addS_nP, addS_P, addS_nE, addS_E, addS_nV, addS_V, addS_nJ, addS_J, addS_nO, addS_O]
      rw [if_neg (by omega), if_neg (by omega), if_neg (by omega), if_neg (by omega), if_neg (by omega), if_neg (by omega), if_neg (by omega), if_pos (by omega), show 20 + v.nS - 20 = v.nS by omega, up1_eq]
    · rw [up1_ne e]
      by_cases e0 : k = 2
      · rw [e0, up1_eq]; rfl
      · rw [up1_ne e0]
        by_cases e1 : k < 20
        · simp only [lnV, addS_nC, addS_C, addS_nR, addS_R, addS_nL, addS_L, addS_nS, addS_S, addS_nP, addS_P, addS_nE, addS_E, addS_nV, addS_V, addS_nJ, addS_J, addS_nO, addS_O, e0, e1, if_false, if_true]
        · have e2 : k - 20 ≠ v.nS := by omega
          simp only [lnV, addS_nC, addS_C, addS_nR, addS_R, addS_nL, addS_L, addS_nS, addS_S, addS_nP, addS_P, addS_nE, addS_E, addS_nV, addS_V, addS_nJ, addS_J, addS_nO, addS_O, up1_ne e2, e0, if_false]
  · intro k i _ hi
    by_cases e : k = 20 + v.nS
    · rw [e, up1_eq]
      simp only [fsV, addS_nC, addS_C, addS_nR, addS_R, addS_nL, addS_L, addS_nS, addS_S, addS_nP, addS_P, addS_nE, addS_E, addS_nV, addS_V, addS_nJ, addS_J, addS_nO, addS_O]
      rw [if_neg (by omega), if_neg (by omega), if_neg (by omega), if_neg (by omega), if_neg (by omega), if_neg (by omega), if_neg (by omega), if_pos (by omega), show 20 + v.nS - 20 = v.nS by omega, up1_eq, hz]
      rfl
    · rw [up1_ne e] at hi ⊢
      have a1 : (up1 (up1 AD 2 (fup (AD 2) v.nS ca)) (20 + v.nS) f2) 1 = AD 1 := by rw [up1_ne (by omega), up1_ne (by decide)]
      by_cases e0 : k = 2
      · rw [e0] at hi ⊢
        rw [up1_eq] at hi ⊢
        show seF i ((up1 v.S v.nS (la, x.1)) i).2 ((up1 (up1 AD 2 (fup (AD 2) v.nS ca)) (20 + v.nS) f2) 1 ((up1 v.S v.nS (la, x.1)) i).1) ((up1 LA (20 + v.nS) rl) (20 + i)) = _
        rw [a1]
        by_cases e2 : i = lnV v 2
        · rw [e2, up1_eq]
          show seF v.nS ((up1 v.S v.nS (la, x.1)) v.nS).2 (AD 1 ((up1 v.S v.nS (la, x.1)) v.nS).1) ((up1 LA (20 + v.nS) rl) (20 + v.nS)) = _
          rw [up1_eq, up1_eq]
        · rw [up1_ne e2]
          have e3 : i ≠ v.nS := e2
          rw [up1_ne e3, up1_ne (show 20 + i ≠ 20 + v.nS by omega)]
          rfl
      · rw [up1_ne e0] at hi ⊢
        by_cases e1 : k < 6
        · rcases (show k = 0 ∨ k = 1 ∨ k = 3 ∨ k = 4 ∨ k = 5 by omega) with r | r | r | r | r <;> rw [r] at hi ⊢
          · have hj : i < v.nC := hi
            show coF i (v.C i) ((up1 LA (20 + v.nS) rl) (6 + i)) = coF i (v.C i) (LA (6 + i))
            rw [up1_ne (by omega)]
          · rfl
          · rfl
          · rfl
          · have hj : i < v.nJ := hi
            show joF (v.J i) ((up1 LA (20 + v.nS) rl) (40 + i)) (PI i) (z.jh i) = joF (v.J i) (LA (40 + i)) (PI i) (z.jh i)
            rw [up1_ne (by omega)]
        · by_cases e2 : k < 20
          · have f0 : ¬ k = 0 := by omega
            have f1 : ¬ k = 1 := by omega
            have f2 : ¬ k = 2 := by omega
            have f3 : ¬ k = 3 := by omega
            have f4 : ¬ k = 4 := by omega
            have f5 : ¬ k = 5 := by omega
            simp only [fsV, addS_nC, addS_C, addS_nR, addS_R, addS_nL, addS_L, addS_nS, addS_S, addS_nP, addS_P, addS_nE, addS_E, addS_nV, addS_V, addS_nJ, addS_J, addS_nO, addS_O, e2, if_true, if_false, f0, f1, f2, f3, f4, f5]
          · have e2 : k - 20 ≠ v.nS := by omega
            have f0 : ¬ k = 0 := by omega
            have f1 : ¬ k = 1 := by omega
            have f3 : ¬ k = 3 := by omega
            have f4 : ¬ k = 4 := by omega
            have f5 : ¬ k = 5 := by omega
            simp only [fsV, addS_nC, addS_C, addS_nR, addS_R, addS_nL, addS_L, addS_nS, addS_S, addS_nP, addS_P, addS_nE, addS_E, addS_nV, addS_V, addS_nJ, addS_J, addS_nO, addS_O, up1_ne e2, e0, if_false, f0, f1, f3, f4, f5]
  · simp only [addS_nC, addS_C, addS_nR, addS_R, addS_nL, addS_L, addS_nS, addS_S, addS_nP, addS_P, addS_nE, addS_E, addS_nV, addS_V, addS_nJ, addS_J, addS_nO, addS_O]
    omega
  · intro i hi
    show (up1 v.S v.nS (la, x.1) i).1 < v.nL
    by_cases e : i = v.nS
    · rw [e, up1_eq]; exact hla
    · rw [up1_ne e]
      refine h.sl i ?_
      have : i < v.nS + 1 := hi
      omega
  · intro i hi
    exact hf _ _ (h.pi i hi) (w4 i hi) (h.pst hk hi).1 (h.pst hk hi).2
/-- a job more -/
theorem EDP.job (h : EDP cy e0 tk G0 Bx G v z LA EA AD PI) (hz : z = PtV.nil) {o ow ca rl ra ec2 pi : Nat} {f2 : Nat → Nat} {fs fs2 : List Value} {wf wf2 : Nat → Int32} (hn : v.nJ ≤ 4) (hBo : Bx o) (hBw : Bx ow) (h0 : G o = some (.inr (10, fs))) (ho2 : G2 o = some (.inr (10, fs2))) (hw0 : G ow = some (.inl (cy 1, 3, .inl wf))) (hw2 : G2 ow = some (.inl (cy 1, 3, .inl wf2))) {x : (Int32 × Int64) × (Nat × (Nat → OpD))} (hca : G ca = none) (hrl : G rl = none) (hpi : G pi = none) (hra : 1 ≤ x.2.1 → G ra = none) (hl : LiS cy e0 G2 (LA 5) ec2 (v.nJ + 1) (fup (AD 5) v.nJ ca)) (hec : (1 ≤ v.nJ ∧ ec2 = EA 5) ∨ G ec2 = none) (hc2 : G2 ca = some (.inr (5, joF x.1 rl pi 0))) (hp2 : G2 pi = some (.inl (cy 2, 16, .inr (.inl (fun _ => 0))))) (hl2 : LiS cy e0 G2 rl ra x.2.1 f2) (hE : OPS tk G2 x.2.1 f2 x.2.2) (hnw : NW G x.2.1 f2) (hne : 1 ≤ x.2.1 → ra ≠ ec2) (hf : ∀ (x : Nat) (e : va_E), G x = some e → x ≠ o → x ≠ ow → x ≠ LA 5 → (1 ≤ v.nJ → x ≠ EA 5) → G2 x = some e) :
    EDP cy e0 tk G0 Bx G2 (v.addJ x) z (up1 LA (40 + v.nJ) rl) (up1 (up1 EA 5 ec2) (40 + v.nJ) ra) (up1 (up1 AD 5 (fup (AD 5) v.nJ ca)) (40 + v.nJ) f2) (up1 PI v.nJ pi) := by
  obtain ⟨w1, w2, w3, w4⟩ := h.oW (Or.inl rfl) h0
  obtain ⟨u1, u2, u3, u4⟩ := h.wW hw0
  have hb := h.b
  have hk : lvV v 5 := Or.inl (by decide)
  have hk2 : ¬ lvV v (40 + v.nJ) := by unfold lvV; omega
  have hc6 : cIL (40 + v.nJ) = 8 := by
    unfold cIL
    rw [if_neg (by omega), if_neg (by omega), if_neg (by omega), if_neg (by omega), if_neg (by omega), if_neg (by omega), if_neg (by omega), if_neg (by omega)]
  refine ⟨(h.L.both (G2 := G2) (k := 5) (k2 := 40 + v.nJ) (g := fun i => opF tk (x.2.2 i) none none) hk hk2 (by rw [hc6]; decide) (fun y => y = o ∨ y = ow) (fun y hy => by rcases hy with hy | hy <;> rw [hy]; exact hBo; exact hBw) (fun k hk hy => hy.elim (w1 k hk) (u1 k hk)) (fun k hk n hy => hy.elim (w2 k hk n) (u2 k hk n)) (fun k i hk n hy => hy.elim (w3 k i hk n) (u3 k i hk n)) (fun y hy => by rcases hy with hy | hy <;> rw [hy]; exact ⟨_, ho2⟩; exact ⟨_, hw2⟩) hl hec hca hc2 hl2 (fun i hi => by rw [hc6]; exact hE i hi) hrl hra hnw hne (fun x e h0 hy => hf x e h0 (fun q => hy (Or.inl q)) (fun q => hy (Or.inr q)))).cg ?_ (fun _ _ => rfl) (fun _ _ => rfl) ?_ (fun _ _ _ _ => rfl) ?_, ?_, h.sl, ?_, ?_, ?_⟩
  · intro k
    simp only [lvV, addJ_nC, addJ_C, addJ_nR, addJ_R, addJ_nL, addJ_L, addJ_nS, addJ_S, addJ_nP, addJ_P, addJ_nE, addJ_E, addJ_nV, addJ_V, addJ_nJ, addJ_J, addJ_nO, addJ_O]
    omega
  · intro k _
    by_cases e : k = 40 + v.nJ
    · rw [e, up1_eq]
      simp only [lnV, addJ_nC, addJ_C, addJ_nR, addJ_R, addJ_nL, addJ_L, addJ_nS, addJ_S, addJ_nP, addJ_P, addJ_nE, addJ_E, addJ_nV, addJ_V, addJ_nJ, addJ_J, addJ_nO, addJ_O]
      rw [if_neg (by omega), if_neg (by omega), if_neg (by omega), if_neg (by omega), if_neg (by omega), if_neg (by omega), if_neg (by omega), if_neg (by omega), show 40 + v.nJ - 40 = v.nJ by omega, up1_eq]
    · rw [up1_ne e]
      by_cases e0 : k = 5
      · rw [e0, up1_eq]; rfl
      · rw [up1_ne e0]
        by_cases e1 : k < 40
        · simp only [lnV, addJ_nC, addJ_C, addJ_nR, addJ_R, addJ_nL, addJ_L, addJ_nS, addJ_S, addJ_nP, addJ_P, addJ_nE, addJ_E, addJ_nV, addJ_V, addJ_nJ, addJ_J, addJ_nO, addJ_O, e0, e1, if_false, if_true]
        · have e2 : k - 40 ≠ v.nJ := by omega
          simp only [lnV, addJ_nC, addJ_C, addJ_nR, addJ_R, addJ_nL, addJ_L, addJ_nS, addJ_S, addJ_nP, addJ_P, addJ_nE, addJ_E, addJ_nV, addJ_V, addJ_nJ, addJ_J, addJ_nO, addJ_O, up1_ne e2, e0, if_false]
  · intro k i _ hi
    by_cases e : k = 40 + v.nJ
    · rw [e, up1_eq]
      simp only [fsV, addJ_nC, addJ_C, addJ_nR, addJ_R, addJ_nL, addJ_L, addJ_nS, addJ_S, addJ_nP, addJ_P, addJ_nE, addJ_E, addJ_nV, addJ_V, addJ_nJ, addJ_J, addJ_nO, addJ_O]
      rw [if_neg (by omega), if_neg (by omega), if_neg (by omega), if_neg (by omega), if_neg (by omega), if_neg (by omega), if_neg (by omega), if_neg (by omega), show 40 + v.nJ - 40 = v.nJ by omega, up1_eq, hz]
      rfl
    · rw [up1_ne e] at hi ⊢
      have a1 : (up1 (up1 AD 5 (fup (AD 5) v.nJ ca)) (40 + v.nJ) f2) 1 = AD 1 := by rw [up1_ne (by omega), up1_ne (by decide)]
      by_cases e0 : k = 5
      · rw [e0] at hi ⊢
        rw [up1_eq] at hi ⊢
        show joF ((up1 v.J v.nJ x.1) i) ((up1 LA (40 + v.nJ) rl) (40 + i)) (up1 PI v.nJ pi i) (z.jh i) = _
        by_cases e2 : i = lnV v 5
        · rw [e2, up1_eq]
          show joF ((up1 v.J v.nJ x.1) v.nJ) ((up1 LA (40 + v.nJ) rl) (40 + v.nJ)) (up1 PI v.nJ pi v.nJ) (z.jh v.nJ) = _
          rw [up1_eq, up1_eq, up1_eq, hz]
          rfl
        · rw [up1_ne e2]
          have e3 : i ≠ v.nJ := e2
          rw [up1_ne e3, up1_ne (show 40 + i ≠ 40 + v.nJ by omega), up1_ne e3]
          rfl
      · rw [up1_ne e0] at hi ⊢
        by_cases e1 : k < 6
        · rcases (show k = 0 ∨ k = 1 ∨ k = 2 ∨ k = 3 ∨ k = 4 by omega) with r | r | r | r | r <;> rw [r] at hi ⊢
          · have hj : i < v.nC := hi
            show coF i (v.C i) ((up1 LA (40 + v.nJ) rl) (6 + i)) = coF i (v.C i) (LA (6 + i))
            rw [up1_ne (by omega)]
          · rfl
          · have hj : i < v.nS := hi
            show seF i (v.S i).2 ((up1 (up1 AD 5 (fup (AD 5) v.nJ ca)) (40 + v.nJ) f2) 1 (v.S i).1) ((up1 LA (40 + v.nJ) rl) (20 + i)) = seF i (v.S i).2 (AD 1 (v.S i).1) (LA (20 + i))
            rw [a1, up1_ne (by omega)]
          · rfl
          · rfl
        · by_cases e2 : k < 40
          · have f0 : ¬ k = 0 := by omega
            have f1 : ¬ k = 1 := by omega
            have f2 : ¬ k = 2 := by omega
            have f3 : ¬ k = 3 := by omega
            have f4 : ¬ k = 4 := by omega
            have f5 : ¬ k = 5 := by omega
            simp only [fsV, addJ_nC, addJ_C, addJ_nR, addJ_R, addJ_nL, addJ_L, addJ_nS, addJ_S, addJ_nP, addJ_P, addJ_nE, addJ_E, addJ_nV, addJ_V, addJ_nJ, addJ_J, addJ_nO, addJ_O, e2, if_true, if_false, f0, f1, f2, f3, f4, f5]
          · have e2 : k - 40 ≠ v.nJ := by omega
            have f0 : ¬ k = 0 := by omega
            have f1 : ¬ k = 1 := by omega
            have f2 : ¬ k = 2 := by omega
            have f3 : ¬ k = 3 := by omega
            have f4 : ¬ k = 4 := by omega
            simp only [fsV, addJ_nC, addJ_C, addJ_nR, addJ_R, addJ_nL, addJ_L, addJ_nS, addJ_S, addJ_nP, addJ_P, addJ_nE, addJ_E, addJ_nV, addJ_V, addJ_nJ, addJ_J, addJ_nO, addJ_O, up1_ne e2, e0, if_false, f0, f1, f2, f3, f4]
  · simp only [addJ_nC, addJ_C, addJ_nR, addJ_R, addJ_nL, addJ_L, addJ_nS, addJ_S, addJ_nP, addJ_P, addJ_nE, addJ_E, addJ_nV, addJ_V, addJ_nJ, addJ_J, addJ_nO, addJ_O]
    omega
  · intro i hi
    have hi2 : i < v.nJ + 1 := hi
    by_cases e : i = v.nJ
    · rw [e, up1_eq, hz]; exact hp2
    · rw [up1_ne e]
      have h3 : i < v.nJ := by omega
      exact hf _ _ (h.pi i h3) (w4 i h3) (u4 i h3) (h.pst hk h3).1 (h.pst hk h3).2
  · intro i hi
    have hi2 : i < v.nJ + 1 := hi
    by_cases e : i = v.nJ
    · rw [e, up1_eq]; exact h.L.nw hpi
    · rw [up1_ne e]; exact h.pn i (by omega)
  · intro i j hi hj e
    have hi2 : i < v.nJ + 1 := hi
    have hj2 : j < v.nJ + 1 := hj
    by_cases e1 : i = v.nJ <;> by_cases e2 : j = v.nJ
    · omega
    · rw [e1, up1_eq, up1_ne e2] at e
      have h3 := h.pi j (by omega)
      rw [← e, hpi] at h3
      cases h3
    · rw [e2, up1_eq, up1_ne e1] at e
      have h3 := h.pi i (by omega)
      rw [e, hpi] at h3
      cases h3
    · rw [up1_ne e1, up1_ne e2] at e
      exact h.pj i j (by omega) (by omega) e
end
