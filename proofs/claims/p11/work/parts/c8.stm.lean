/-- a book of the reference against an edition's value: codes, variants, jobs; all of it -/
def bkE (K : Nat → Nat) (V : Nat → Int64) (n : Nat) (F : Nat → Nat → Int32) (bo : Nat) (v : EdV) : Prop := F 4 bo = nI v.nE ∧ v.nE ≤ 12 ∧ ∀ i, i < v.nE → F 29 (12 * bo + i) = (v.E i).1 ∧ NMt K V n (F 30 (12 * bo + i)) (v.E i).2.2.1
def bkV (K : Nat → Nat) (V : Nat → Int64) (n : Nat) (F : Nat → Nat → Int32) (bo : Nat) (v : EdV) : Prop := F 5 bo = nI v.nV ∧ v.nV ≤ 6 ∧ ∀ i, i < v.nV → F 32 (6 * bo + i) = (v.V i).1 ∧ NMt K V n (F 31 (6 * bo + i)) (v.V i).2.2.1
def JRf (K : Nat → Nat) (V : Nat → Int64) (n : Nat) (F : Nat → Nat → Int32) (bo j : Nat) (x : Int32 × Int64) (no : Nat) (O : Nat → OpD) : Prop := NMt K V n (F 33 (4 * bo + j)) x.2 ∧ F 34 (4 * bo + j) = nI no ∧ no ≤ 80 ∧ ∀ i, i < no → OPf K V n F (400 * bo + (100 * j + i)) (O i)
def bkJ (K : Nat → Nat) (V : Nat → Int64) (n : Nat) (F : Nat → Nat → Int32) (bo : Nat) (v : EdV) : Prop := F 6 bo = nI v.nJ ∧ v.nJ ≤ 4 ∧ ∀ j, j < v.nJ → JRf K V n F bo j (v.J j) (v.nO j) (v.O j)
def BK (K : Nat → Nat) (V : Nat → Int64) (n : Nat) (F : Nat → Nat → Int32) (bo : Nat) (v : EdV) : Prop := bkC K V n F bo v ∧ bkL K V n F bo v ∧ bkS K V n F bo v ∧ bkE K V n F bo v ∧ bkV K V n F bo v ∧ bkJ K V n F bo v
/-- all that belongs to a book -/
def wB (bo : Nat) : Nat → Nat → Prop := fun k i => (1 ≤ k ∧ k ≤ 6 ∧ i = bo) ∨ (9 ≤ k ∧ k ≤ 15 ∧ 12 * bo ≤ i ∧ i < 12 * bo + 12) ∨ (16 ≤ k ∧ k ≤ 17 ∧ 96 * bo ≤ i ∧ i < 96 * bo + 96) ∨ (18 ≤ k ∧ k ≤ 19 ∧ 6 * bo ≤ i ∧ i < 6 * bo + 6) ∨ (20 ≤ k ∧ k ≤ 23 ∧ 16 * bo ≤ i ∧ i < 16 * bo + 16) ∨ (24 ≤ k ∧ k ≤ 28 ∧ 128 * bo ≤ i ∧ i < 128 * bo + 128) ∨ (29 ≤ k ∧ k ≤ 30 ∧ 12 * bo ≤ i ∧ i < 12 * bo + 12) ∨ (31 ≤ k ∧ k ≤ 32 ∧ 6 * bo ≤ i ∧ i < 6 * bo + 6) ∨ (33 ≤ k ∧ k ≤ 34 ∧ 4 * bo ≤ i ∧ i < 4 * bo + 4) ∨ (35 ≤ k ∧ k ≤ 37 ∧ 400 * bo ≤ i ∧ i < 400 * bo + 400)
theorem wC_B {bo n k i : Nat} (z : wC bo n k i) : wB bo k i := by
  unfold wC at z
  rcases z with z | z | z
  · exact Or.inl ⟨by omega, by omega, by omega⟩
  · exact Or.inr (Or.inl ⟨by omega, by omega, by omega, by omega⟩)
  · exact Or.inr (Or.inr (Or.inl ⟨by omega, by omega, by omega, by omega⟩))
theorem wE_B {bo n k i : Nat} (z : wE bo n k i) : wB bo k i := by
  unfold wE at z
  rcases z with z | z
  · exact Or.inl ⟨by omega, by omega, by omega⟩
  · exact Or.inr (Or.inr (Or.inr (Or.inr (Or.inr (Or.inr (Or.inl ⟨by omega, by omega, by omega, by omega⟩))))))
theorem wV_B {bo n k i : Nat} (z : wV bo n k i) : wB bo k i := by
  unfold wV at z
  rcases z with z | z
  · exact Or.inl ⟨by omega, by omega, by omega⟩
  · exact Or.inr (Or.inr (Or.inr (Or.inr (Or.inr (Or.inr (Or.inr (Or.inl ⟨by omega, by omega, by omega, by omega⟩)))))))
theorem wL_B {bo nl ns k i : Nat} (z : wL bo nl ns k i) : wB bo k i := by
  unfold wL at z
  rcases z with z | z | z | z | z
  · exact Or.inl ⟨by omega, by omega, by omega⟩
  · exact Or.inr (Or.inr (Or.inr (Or.inl ⟨by omega, by omega, by omega, by omega⟩)))
  · exact Or.inl ⟨by omega, by omega, by omega⟩
  · exact Or.inr (Or.inr (Or.inr (Or.inr (Or.inl ⟨by omega, by omega, by omega, by omega⟩))))
  · exact Or.inr (Or.inr (Or.inr (Or.inr (Or.inr (Or.inl ⟨by omega, by omega, by omega, by omega⟩)))))
theorem wJ_B {bo n k i : Nat} (z : wJ bo n k i) : wB bo k i := by
  unfold wJ at z
  rcases z with z | z | z
  · exact Or.inl ⟨by omega, by omega, by omega⟩
  · exact Or.inr (Or.inr (Or.inr (Or.inr (Or.inr (Or.inr (Or.inr (Or.inr (Or.inl ⟨by omega, by omega, by omega, by omega⟩))))))))
  · exact Or.inr (Or.inr (Or.inr (Or.inr (Or.inr (Or.inr (Or.inr (Or.inr (Or.inr (⟨by omega, by omega, by omega, by omega⟩)))))))))
section

variable {K : Nat → Nat} {V : Nat → Int64} {n m : Nat} {F F2 : Nat → Nat → Int32} {bo : Nat} {v v2 : EdV}
theorem bkC.mv (h : bkC K V n F bo v) (hm : n ≤ m) (hF : ∀ k i, (k = 1 ∨ (9 ≤ k ∧ k ≤ 17)) → F2 k i = F k i) (e1 : v2.nC = v.nC) (e2 : v2.C = v.C) (e3 : v2.nR = v.nR) (e4 : v2.R = v.R) : bkC K V m F2 bo v2 := by
  unfold bkC
  rw [e1, e2, e3, e4]
  exact ⟨(hF 1 _ (by omega)).trans h.1, h.2.1, fun c hc => (h.2.2 c hc).mv hm (fun k a b => hF k _ (by omega)) (fun k p a b => hF k _ (by omega))⟩
theorem bkL.mv (h : bkL K V n F bo v) (hm : n ≤ m) (hF : ∀ k i, (k = 2 ∨ k = 18 ∨ k = 19) → F2 k i = F k i) (e1 : v2.nL = v.nL) (e2 : v2.L = v.L) : bkL K V m F2 bo v2 := by
  unfold bkL
  rw [e1, e2]
  refine ⟨(hF 2 _ (by omega)).trans h.1, h.2.1, fun i hi => ?_⟩
  rw [hF 18 _ (by omega), hF 19 _ (by omega)]
  exact ⟨(h.2.2 i hi).1.mono hm, (h.2.2 i hi).2.mono hm⟩
theorem bkS.mv (h : bkS K V n F bo v) (hm : n ≤ m) (hF : ∀ k i, (k = 3 ∨ (20 ≤ k ∧ k ≤ 28)) → F2 k i = F k i) (e1 : v2.nS = v.nS) (e2 : v2.S = v.S) (e3 : v2.nP = v.nP) (e4 : v2.P = v.P) : bkS K V m F2 bo v2 := by
  unfold bkS
  rw [e1, e2, e3, e4]
  exact ⟨(hF 3 _ (by omega)).trans h.1, h.2.1, fun s hs => (h.2.2 s hs).mv hm (fun k a b => hF k _ (by omega)) (fun k p a b c => hF k _ (by omega))⟩
theorem bkE.mv (h : bkE K V n F bo v) (hm : n ≤ m) (hF : ∀ k i, (k = 4 ∨ k = 29 ∨ k = 30) → F2 k i = F k i) (e1 : v2.nE = v.nE) (e2 : v2.E = v.E) : bkE K V m F2 bo v2 := by
  unfold bkE
  rw [e1, e2]
  refine ⟨(hF 4 _ (by omega)).trans h.1, h.2.1, fun i hi => ?_⟩
  rw [hF 29 _ (by omega), hF 30 _ (by omega)]
  exact ⟨(h.2.2 i hi).1, (h.2.2 i hi).2.mono hm⟩
theorem bkV.mv (h : bkV K V n F bo v) (hm : n ≤ m) (hF : ∀ k i, (k = 5 ∨ k = 31 ∨ k = 32) → F2 k i = F k i) (e1 : v2.nV = v.nV) (e2 : v2.V = v.V) : bkV K V m F2 bo v2 := by
  unfold bkV
  rw [e1, e2]
  refine ⟨(hF 5 _ (by omega)).trans h.1, h.2.1, fun i hi => ?_⟩
  rw [hF 31 _ (by omega), hF 32 _ (by omega)]
  exact ⟨(h.2.2 i hi).1, (h.2.2 i hi).2.mono hm⟩
theorem JRf.mv {j : Nat} {x : Int32 × Int64} {no : Nat} {O : Nat → OpD} (h : JRf K V n F bo j x no O) (hm : n ≤ m) (h3 : ∀ k, (k = 33 ∨ k = 34) → F2 k (4 * bo + j) = F k (4 * bo + j)) (h5 : ∀ k i, 35 ≤ k → k ≤ 37 → i < 80 → F2 k (400 * bo + (100 * j + i)) = F k (400 * bo + (100 * j + i))) : JRf K V m F2 bo j x no O := by
  obtain ⟨a1, a2, a3, a4⟩ := h
  refine ⟨?_, (h3 34 (Or.inr rfl)).trans a2, a3, fun i hi => (a4 i hi).mv hm (h5 35 i (by decide) (by decide) (by omega)) (h5 36 i (by decide) (by decide) (by omega)) (h5 37 i (by decide) (by decide) (by omega))⟩
  rw [h3 33 (Or.inl rfl)]
  exact a1.mono hm
theorem bkJ.mv (h : bkJ K V n F bo v) (hm : n ≤ m) (hF : ∀ k i, (k = 6 ∨ (33 ≤ k ∧ k ≤ 37)) → F2 k i = F k i) (e1 : v2.nJ = v.nJ) (e2 : v2.J = v.J) (e3 : v2.nO = v.nO) (e4 : v2.O = v.O) : bkJ K V m F2 bo v2 := by
  unfold bkJ
  rw [e1, e2, e3, e4]
  exact ⟨(hF 6 _ (by omega)).trans h.1, h.2.1, fun j hj => (h.2.2 j hj).mv hm (fun k a => hF k _ (by omega)) (fun k i a b c => hF k _ (by omega))⟩
theorem bkE.add {x : RwD} (h : bkE K V n F bo v) (hm : n ≤ m) (hl : v.nE < 12) (hW : FrW (wE bo v.nE) F F2) (h4 : F2 4 bo = nI (v.nE + 1)) (hx : F2 29 (12 * bo + v.nE) = x.1) (hy : NMt K V m (F2 30 (12 * bo + v.nE)) x.2.2.1) : bkE K V m F2 bo (v.addE x) := by
  refine ⟨h4, hl, fun i hi => ?_⟩
  have hi : i < v.nE + 1 := hi
  show F2 29 (12 * bo + i) = (up1 v.E v.nE x i).1 ∧ NMt K V m (F2 30 (12 * bo + i)) (up1 v.E v.nE x i).2.2.1
  rcases Nat.lt_or_ge i v.nE with e | e
  · rw [up1_ne (by omega), hW 29 _ (by unfold lxA; omega) (by unfold wE; omega), hW 30 _ (by unfold lxA; omega) (by unfold wE; omega)]
    exact ⟨(h.2.2 i e).1, (h.2.2 i e).2.mono hm⟩
  · rw [show i = v.nE by omega, up1_eq]
    exact ⟨hx, hy⟩
theorem bkV.add {x : RwD} (h : bkV K V n F bo v) (hm : n ≤ m) (hl : v.nV < 6) (hW : FrW (wV bo v.nV) F F2) (h4 : F2 5 bo = nI (v.nV + 1)) (hx : F2 32 (6 * bo + v.nV) = x.1) (hy : NMt K V m (F2 31 (6 * bo + v.nV)) x.2.2.1) : bkV K V m F2 bo (v.addV x) := by
  refine ⟨h4, hl, fun i hi => ?_⟩
  have hi : i < v.nV + 1 := hi
  show F2 32 (6 * bo + i) = (up1 v.V v.nV x i).1 ∧ NMt K V m (F2 31 (6 * bo + i)) (up1 v.V v.nV x i).2.2.1
  rcases Nat.lt_or_ge i v.nV with e | e
  · rw [up1_ne (by omega), hW 32 _ (by unfold lxA; omega) (by unfold wV; omega), hW 31 _ (by unfold lxA; omega) (by unfold wV; omega)]
    exact ⟨(h.2.2 i e).1, (h.2.2 i e).2.mono hm⟩
  · rw [show i = v.nV by omega, up1_eq]
    exact ⟨hx, hy⟩
theorem bkJ.add {x : (Int32 × Int64) × (Nat × (Nat → OpD))} (h : bkJ K V n F bo v) (hm : n ≤ m) (hl : v.nJ < 4) (hW : FrW (wJ bo v.nJ) F F2) (h4 : F2 6 bo = nI (v.nJ + 1)) (hx : JRf K V m F2 bo v.nJ x.1 x.2.1 x.2.2) : bkJ K V m F2 bo (v.addJ x) := by
  refine ⟨h4, hl, fun j hj => ?_⟩
  have hj : j < v.nJ + 1 := hj
  show JRf K V m F2 bo j (up1 v.J v.nJ x.1 j) (up1 v.nO v.nJ x.2.1 j) (up1 v.O v.nJ x.2.2 j)
  rcases Nat.lt_or_ge j v.nJ with e | e
  · rw [up1_ne (by omega), up1_ne (by omega), up1_ne (by omega)]
    exact (h.2.2 j e).mv hm (fun k a => hW k _ (by unfold lxA; omega) (by unfold wJ; omega)) (fun k i a b c => hW k _ (by unfold lxA; omega) (by unfold wJ; omega))
  · rw [show j = v.nJ by omega, up1_eq, up1_eq, up1_eq]
    exact hx
end
theorem q_svs_cEVJ {K : Nat → Nat} {S : Nat → Int32} {V : Nat → Int64} {n : Nat} : ∀ {la : Nat} {v : EdV} {q : Nat × Int32}, (q_svs K S V n la v q).1.1 = v.1 ∧ (q_svs K S V n la v q).1.2.2.2 = v.2.2.2 := by
  induction n with
  | zero => intro la v q; exact ⟨rfl, rfl⟩
  | succ n ih =>
    intro la v q
    rw [q_svs]
    split
    · exact ih
    · exact ⟨rfl, rfl⟩
theorem q_lay_cEVJ {K : Nat → Nat} {S : Nat → Int32} {V : Nat → Int64} {v : EdV} {q : Nat × Int32} : (q_lay K S V v q).1.1 = v.1 ∧ (q_lay K S V v q).1.2.2.2 = v.2.2.2 := by
  obtain ⟨q1, e1⟩ : ∃ y, y = q_begin S (nI v.nL) 6 q := ⟨_, rfl⟩
  obtain ⟨a, e2⟩ : ∃ y, y = q_name K S V q1 := ⟨_, rfl⟩
  obtain ⟨b, e3⟩ : ∃ y, y = (if se K a.2.1 a.2.2 17 then (S (a.2.1 + 1), q_name K S V (a.2.1 + 1, a.2.2)) else (0, (0, a.2))) := ⟨_, rfl⟩
  have h1 := @q_svs_cEVJ K S V 17 v.nL (v.addL (S q1.1, a.1, b.2.1, b.1)) (q_take K S 4 b.2.2)
  simp only [q_lay, ← e1, ← e2, ← e3]
  exact h1
/-- the claims of a statement -/
def clT (K : Nat → Nat) (S : Nat → Int32) (V : Nat → Int64) (v : EdV) (q : Nat × Int32) : List CLi :=
  if K q.1 = 11 then clC K S V v.nC q else if K q.1 = 16 then clL K S V v q else if K q.1 = 22 then [(7, q.1 + 1, v.nE, 0)] else if K q.1 = 23 then [(12, q.1 + 1, v.nV, 0), (8, q.1 + 3, v.nV, 0)] else if K q.1 = 24 then clJ K S V v.nJ q else []

set_option maxHeartbeats 4000000 in
set_option maxRecDepth 100000 in
theorem c_M_stm (l : Launch) (D : va_G) (cy : Nat → ClassId) (A : Nat → Prop) (X : State → Prop) (hst : mk_St A X) (hXT : ∀ U : State, X U → TB U) (G : Nat → Option va_E) (o : Nat) (Ar : Nat → Nat) (Iv : Nat → Int32) (F : Nat → Nat → Int32) (L : Nat → Nat → Int64) (ft : Nat → Int32) (sx fr en bo : Nat) (q : Nat × Int32) (cl : List CLi) (c9 : Nat) (v9 : EdV) (hM : MD cy G o Ar Iv F L) (hQ : LXq Ar Iv F ft sx fr en bo q) (hC : CLq Iv F ft en cl c9) (hc1 : c9 ≤ q.1 + 1) (hq : q.2 < 0) (hB : BK (tkK ft en) (tkV ft en) (q.1 + 1) F bo v9) : Met l yX14_statement [.code yX14_statement cX14_statement 2 none] ({ frames := 9, cells := 0, slots := 0, locals := 270 }) (mk_Pre D vwCl (tyL cy) A X G [.ref o]) (va_Qv (fun (G2 : Nat → Option va_E) => ∃ (I2 : Nat → Int32) (F2 : Nat → Nat → Int32) (cl2 : List CLi), MD cy G2 o Ar I2 F2 L ∧ MF G G2 o Ar ∧ LXq Ar I2 F2 ft sx fr en bo (q_stm (tkK ft en) (tkS ft en) (tkV ft en) v9 q).2 ∧ IZ I2 = IZ Iv ∧ FrW (wB bo) F F2 ∧ CLq I2 F2 ft en cl2 ((q_stm (tkK ft en) (tkS ft en) (tkV ft en) v9 q).2.1 + 1) ∧ q.1 ≤ (q_stm (tkK ft en) (tkS ft en) (tkV ft en) v9 q).2.1 ∧ ((q_stm (tkK ft en) (tkS ft en) (tkV ft en) v9 q).2.2 < 0 → BK (tkK ft en) (tkV ft en) ((q_stm (tkK ft en) (tkS ft en) (tkV ft en) v9 q).2.1 + 1) F2 bo (q_stm (tkK ft en) (tkS ft en) (tkV ft en) v9 q).1 ∧ cl2 = cl ++ clT (tkK ft en) (tkS ft en) (tkV ft en) v9 q)) (mk_B D vwCl A) A) 0 0 A := by
  refine Met.ofW (cc := cX14_statement) (maxL := 2) (ret := none) (by decide) rfl ?_
  intro p e s m args below meth c s₁ B hml hv
  obtain ⟨rfl, hG, hK, hA, hX⟩ := hv
  have hx := B.exec
  have hb := B.bytes
  have hr := B.returns
  have hlocks := B.notSynchronized
  have hT := hXT s hX
  have hown : s.vm.findClass RX14 = some m.cls := findClass_of_methodNamed B.named
  have hf_X14 : ∀ w ∈ u_ws RX14 TX14 76, w.before ([.ref o] : List Value).toArray s = true := tb_list hT fX14
  have hS : va_S A s.heap s.heap [] := va_S.rf
  have hl := lv_entry ([.ref o]) (n := 2) (Nat.le_of_ble_eq_true rfl)
  rw [lg_entry_eq]
  generalize (lg_sl ([.ref o]) ++ List.replicate (2 - (lg_sl ([.ref o])).length) Slot.unset).toArray = ls at hl ⊢
  have hl : lv_has ls 2 [(0, .ref o)] := hl
  have hF : MF G G o Ar := MF.rf
  have hIZ : IZ Iv = IZ Iv := rfl
  have hSn : ∀ p, ¬ tkS ft en p < 0 := fun p => tkS_ge hQ.1.2.2.2.1 p
  have hbo := hQ.1.2.2.2.2.2.1
  have hbl := hQ.1.2.2.2.2.1
  refine lv_aload_n hx hb dX14_statement_0 rfl (lv_at hl 0 rfl) ?_
  refine mm_get (v := .int (Iv 52)) hx hb hf_X14 (fun _ h9 => h9) hown hK hG hM.1 rfl 52 (by decide) (tb_use hT tw_1443) (fun _ h9 => h9) (mfs_g52 _ _) dX14_statement_1 ?_
  refine lv_iconst (v := 1) hx hb dX14_statement_4 (by decide) ?_
  refine lv_icmp_ne (tgt := 15) hx hb dX14_statement_5 (by decide) (fun c_5 => ?_) (fun c_5 => ?_)
  · skip
    refine lv_iconst (v := 0) hx hb dX14_statement_15 (by decide) ?_
    refine lv_istore_n (lv' := [(1, .int 0), (0, .ref o)]) hx hb dX14_statement_16 rfl hl (by decide) rfl (fun ls hl => ?_)
    refine lv_iload_n hx hb dX14_statement_17 rfl (lv_at hl 0 rfl) ?_
    refine lv_iconst (v := 1) hx hb dX14_statement_18 (by decide) ?_
    refine lv_icmp_ne (tgt := 29) hx hb dX14_statement_19 (by decide) (fun c_19 => ?_) (fun c_19 => ?_)
    · skip
      refine lv_iload_n hx hb dX14_statement_29 rfl (lv_at hl 0 rfl) ?_
      refine lv_bipush (v := 6) hx hb dX14_statement_30 (by decide) ?_
      refine lv_icmp_ne (tgt := 42) hx hb dX14_statement_32 (by decide) (fun c_32 => ?_) (fun c_32 => ?_)
      · skip
        refine lv_iload_n hx hb dX14_statement_42 rfl (lv_at hl 0 rfl) ?_
        refine lv_bipush (v := 12) hx hb dX14_statement_43 (by decide) ?_
        refine lv_icmp_ne (tgt := 55) hx hb dX14_statement_45 (by decide) (fun c_45 => ?_) (fun c_45 => ?_)
        · skip
          refine lv_iload_n hx hb dX14_statement_55 rfl (lv_at hl 0 rfl) ?_
          refine lv_bipush (v := 13) hx hb dX14_statement_56 (by decide) ?_
          refine lv_icmp_ne (tgt := 68) hx hb dX14_statement_58 (by decide) (fun c_58 => ?_) (fun c_58 => ?_)
          · skip
            refine lv_iload_n hx hb dX14_statement_68 rfl (lv_at hl 0 rfl) ?_
            refine lv_bipush (v := 14) hx hb dX14_statement_69 (by decide) ?_
            refine lv_icmp_ne (tgt := 81) hx hb dX14_statement_71 (by decide) (fun c_71 => ?_) (fun c_71 => ?_)
            · skip
              refine lv_aload_n hx hb dX14_statement_81 rfl (lv_at hl 1 rfl) ?_
              refine lv_iconst (v := 0) hx hb dX14_statement_82 (by decide) ?_
              refine mm_put (v := .int 0) (ty := .boolean) hx hb hf_X14 (fun _ h9 => h9) tyX14 tyX14_ok nmX14 hown hK hG hS hM.1 rfl 55 (by decide) (tb_use hT tw_1446) (fun _ h9 => h9) rfl (by decide +kernel) rfl rfl (mfs_l55 _ _) dX14_statement_83 (fun H locs hG hS => ?_)
              have hM := MD.puti (k := 55) (v := 0) hM (mfs_s55 _ _ _)
              have hF := hF.wo (e' := .inr (15, (mfs Ar Iv).set 55 (.int 0)))
              obtain ⟨I1, eI1⟩ : ∃ g, g = upd Iv 55 0 := ⟨_, rfl⟩
              rw [← eI1] at hM
              have hgn := gn_MD hG hM hF
              clear hG hM hF
              obtain ⟨G2, hG, hM, hF⟩ := hgn
              have hnk : tkK ft en q.1 < 11 := hQ.kd.nw c_5
              have hqe : (q_stm (tkK ft en) (tkS ft en) (tkV ft en) v9 q) = (v9, (q.1, tkS ft en q.1)) := by unfold q_stm fl; rw [if_neg (show ¬ tkK ft en q.1 = 11 by omega), if_neg (show ¬ tkK ft en q.1 = 16 by omega), if_neg (show ¬ tkK ft en q.1 = 22 by omega), if_neg (show ¬ tkK ft en q.1 = 23 by omega), if_neg (show ¬ tkK ft en q.1 = 24 by omega), if_pos hq]
              exact W.vret hx hb hr (fun t ht hW => ⟨⟨_, rfl, ⟨_, _, _, hM, hF, (by rw [hqe, eI1]; exact hQ.set55 (by rw [if_neg (hSn _)])), (by rw [eI1]; exact IZ_up (by decide)), FrW.rf, (by rw [hqe, eI1]; exact (hC.wI (by decide)).le hc1), (by rw [hqe]; exact Nat.le_refl _), (by rw [hqe]; exact fun z => absurd z (hSn _))⟩, mk_end hG ht⟩, hS.F ht⟩) hS.2.2 dX14_statement_86
            · skip
              exact absurd c_71 (by decide)
          · skip
            exact absurd c_58 (by decide)
        · skip
          exact absurd c_45 (by decide)
      · skip
        exact absurd c_32 (by decide)
    · skip
      exact absurd c_19 (by decide)
  · skip
    refine lv_aload_n hx hb dX14_statement_8 rfl (lv_at hl 0 rfl) ?_
    refine mm_get (v := .int (Iv 53)) hx hb hf_X14 (fun _ h9 => h9) hown hK hG hM.1 rfl 53 (by decide) (tb_use hT tw_1444) (fun _ h9 => h9) (mfs_g53 _ _) dX14_statement_9 ?_
    have hkd := hQ.kd
    rw [c_5] at hkd
    obtain ⟨kw1, kw2, kw3⟩ := hkd.w
    obtain ⟨w9, hw9⟩ : ∃ w9, tkK ft en q.1 = w9 + 10 := ⟨tkK ft en q.1 - 10, by omega⟩
    rw [hw9, Nat.add_sub_cancel] at kw3
    rw [kw3]
    refine lv_goto (tgt := 16) hx hb dX14_statement_12 (by decide) ?_
    refine lv_istore_n (lv' := [(1, .int (nI w9)), (0, .ref o)]) hx hb dX14_statement_16 rfl hl (by decide) rfl (fun ls hl => ?_)
    refine lv_iload_n hx hb dX14_statement_17 rfl (lv_at hl 0 rfl) ?_
    refine lv_iconst (v := 1) hx hb dX14_statement_18 (by decide) ?_
    refine lv_icmp_ne (tgt := 29) hx hb dX14_statement_19 (by decide) (fun c_19 => ?_) (fun c_19 => ?_)
    · skip
      refine lv_iload_n hx hb dX14_statement_29 rfl (lv_at hl 0 rfl) ?_
      refine lv_bipush (v := 6) hx hb dX14_statement_30 (by decide) ?_
      refine lv_icmp_ne (tgt := 42) hx hb dX14_statement_32 (by decide) (fun c_32 => ?_) (fun c_32 => ?_)
      · skip
        refine lv_iload_n hx hb dX14_statement_42 rfl (lv_at hl 0 rfl) ?_
        refine lv_bipush (v := 12) hx hb dX14_statement_43 (by decide) ?_
        refine lv_icmp_ne (tgt := 55) hx hb dX14_statement_45 (by decide) (fun c_45 => ?_) (fun c_45 => ?_)
        · skip
          refine lv_iload_n hx hb dX14_statement_55 rfl (lv_at hl 0 rfl) ?_
          refine lv_bipush (v := 13) hx hb dX14_statement_56 (by decide) ?_
          refine lv_icmp_ne (tgt := 68) hx hb dX14_statement_58 (by decide) (fun c_58 => ?_) (fun c_58 => ?_)
          · skip
            refine lv_iload_n hx hb dX14_statement_68 rfl (lv_at hl 0 rfl) ?_
            refine lv_bipush (v := 14) hx hb dX14_statement_69 (by decide) ?_
            refine lv_icmp_ne (tgt := 81) hx hb dX14_statement_71 (by decide) (fun c_71 => ?_) (fun c_71 => ?_)
            · skip
              refine lv_aload_n hx hb dX14_statement_81 rfl (lv_at hl 1 rfl) ?_
              refine lv_iconst (v := 0) hx hb dX14_statement_82 (by decide) ?_
              refine mm_put (v := .int 0) (ty := .boolean) hx hb hf_X14 (fun _ h9 => h9) tyX14 tyX14_ok nmX14 hown hK hG hS hM.1 rfl 55 (by decide) (tb_use hT tw_1446) (fun _ h9 => h9) rfl (by decide +kernel) rfl rfl (mfs_l55 _ _) dX14_statement_83 (fun H locs hG hS => ?_)
              have hM := MD.puti (k := 55) (v := 0) hM (mfs_s55 _ _ _)
              have hF := hF.wo (e' := .inr (15, (mfs Ar Iv).set 55 (.int 0)))
              obtain ⟨I3, eI3⟩ : ∃ g, g = upd Iv 55 0 := ⟨_, rfl⟩
              rw [← eI3] at hM
              have hgn := gn_MD hG hM hF
              clear hG hM hF
              obtain ⟨G4, hG, hM, hF⟩ := hgn
              have hqe : (q_stm (tkK ft en) (tkS ft en) (tkV ft en) v9 q) = (v9, (q.1, tkS ft en q.1)) := by unfold q_stm fl; rw [if_neg (show ¬ tkK ft en q.1 = 11 by intro z; exact c_19 (by rw [show w9 = 1 by omega]; rfl)), if_neg (show ¬ tkK ft en q.1 = 16 by intro z; exact c_32 (by rw [show w9 = 6 by omega]; rfl)), if_neg (show ¬ tkK ft en q.1 = 22 by intro z; exact c_45 (by rw [show w9 = 12 by omega]; rfl)), if_neg (show ¬ tkK ft en q.1 = 23 by intro z; exact c_58 (by rw [show w9 = 13 by omega]; rfl)), if_neg (show ¬ tkK ft en q.1 = 24 by intro z; exact c_71 (by rw [show w9 = 14 by omega]; rfl)), if_pos hq]
              exact W.vret hx hb hr (fun t ht hW => ⟨⟨_, rfl, ⟨_, _, _, hM, hF, (by rw [hqe, eI3]; exact hQ.set55 (by rw [if_neg (hSn _)])), (by rw [eI3]; exact IZ_up (by decide)), FrW.rf, (by rw [hqe, eI3]; exact (hC.wI (by decide)).le hc1), (by rw [hqe]; exact Nat.le_refl _), (by rw [hqe]; exact fun z => absurd z (hSn _))⟩, mk_end hG ht⟩, hS.F ht⟩) hS.2.2 dX14_statement_86
            · skip
              have hkq : tkK ft en q.1 = 24 := by have z := nI_inj (a := w9) (b := 14) (by omega) (by decide) c_71; omega
              refine lv_aload_n hx hb dX14_statement_74 rfl (lv_at hl 1 rfl) ?_
              refine va_callv (va_runV (As := []) (rest := []) ⟨hx, hb, hml, hown, (fun _ h9 => absurd h9 List.not_mem_nil : ∀ w ∈ ([] : List Cond), w.before _ s = true)⟩ (c_M_jobSt l D cy A X hst hXT G o Ar Iv F L ft sx fr en bo q cl c9 v9 hM hQ hC hc1 (fun _ => ⟨by omega, by omega⟩) hB.2.2.2.2.2.1 hB.2.2.2.2.2.2.1) (tb_cw (C := RX14) 0 hT tw_1762 tw_109 tw_1759 tw_1761 tw_84 rfl rfl hq_X14_jobStatement ⟨Nat.le_of_ble_eq_true rfl, Nat.le_of_ble_eq_true rfl⟩) (mk_preC hst hG hK hA hX hS vc_15 hM.1) rfl rfl hl.1 rfl (lv_room (Nat.le_of_ble_eq_true rfl)) dX14_statement_75 ⟨Nat.le_of_ble_eq_true rfl, Nat.le_of_ble_eq_true rfl⟩) hS (fun q _ h => h) (fun q h => h) (fun  G5 t H locs ht hvm hw hB hz1 hk1 hS => ?_)
              have hG : mm D vwCl A G5 H := by rw [← ht]; exact hB
              clear hB hz1 hk1 hvm ht
              obtain ⟨a9, ea9⟩ : ∃ y, y = q_job (tkK ft en) (tkS ft en) (tkV ft en) v9.nJ q (fun _ => 0) := ⟨_, rfl⟩
              rw [← ea9] at hw
              obtain ⟨I9, F9, cl9, hM2, hF2, hQ2, hI2, hFr2, hC2, hg2, hs2⟩ := hw
              replace hF := hF.tr hF2; replace hM := hM2; clear hM2 hF2
              refine lv_goto (tgt := 86) hx hb dX14_statement_78 (by decide) ?_
              have hqe : (q_stm (tkK ft en) (tkS ft en) (tkV ft en) v9 q) = (v9.addJ a9.2, a9.1) := by unfold q_stm; rw [if_neg (show ¬ tkK ft en q.1 = 11 by omega), if_neg (show ¬ tkK ft en q.1 = 16 by omega), if_neg (show ¬ tkK ft en q.1 = 22 by omega), if_neg (show ¬ tkK ft en q.1 = 23 by omega), if_pos hkq, ← ea9]
              have hct : clT (tkK ft en) (tkS ft en) (tkV ft en) v9 q = clJ (tkK ft en) (tkS ft en) (tkV ft en) v9.nJ q := by unfold clT; rw [if_neg (show ¬ tkK ft en q.1 = 11 by omega), if_neg (show ¬ tkK ft en q.1 = 16 by omega), if_neg (show ¬ tkK ft en q.1 = 22 by omega), if_neg (show ¬ tkK ft en q.1 = 23 by omega), if_pos hkq]
              exact W.vret hx hb hr (fun t ht hW => ⟨⟨_, rfl, ⟨_, _, _, hM, hF, (by rw [hqe]; exact hQ2), hI2, (hFr2.mono (fun k i z => wJ_B z)), (by rw [hqe]; exact hC2), (by rw [hqe]; exact hg2), (by rw [hqe, hct]; intro z; dsimp only at z ⊢; exact ⟨⟨(hB.1.mv (by omega) (fun k i hk => hFr2 k i (by unfold lxA; omega) (by unfold wJ; omega)) rfl rfl rfl rfl), (hB.2.1.mv (by omega) (fun k i hk => hFr2 k i (by unfold lxA; omega) (by unfold wJ; omega)) rfl rfl), (hB.2.2.1.mv (by omega) (fun k i hk => hFr2 k i (by unfold lxA; omega) (by unfold wJ; omega)) rfl rfl rfl rfl), (hB.2.2.2.1.mv (by omega) (fun k i hk => hFr2 k i (by unfold lxA; omega) (by unfold wJ; omega)) rfl rfl), (hB.2.2.2.2.1.mv (by omega) (fun k i hk => hFr2 k i (by unfold lxA; omega) (by unfold wJ; omega)) rfl rfl), (hB.2.2.2.2.2.add (by omega) (hs2 z).1.1 hFr2 (hs2 z).1.2.1 (hs2 z).1.2.2)⟩, (hs2 z).2⟩)⟩, mk_end hG ht⟩, hS.F ht⟩) hS.2.2 dX14_statement_86
          · skip
            have hkq : tkK ft en q.1 = 23 := by have z := nI_inj (a := w9) (b := 13) (by omega) (by decide) c_58; omega
            refine lv_aload_n hx hb dX14_statement_61 rfl (lv_at hl 1 rfl) ?_
            refine va_callv (va_runV (As := []) (rest := []) ⟨hx, hb, hml, hown, (fun _ h9 => absurd h9 List.not_mem_nil : ∀ w ∈ ([] : List Cond), w.before _ s = true)⟩ (c_M_variSt l D cy A X hst hXT G o Ar Iv F L ft sx fr en bo q cl c9 v9 hM hQ hC hc1 (fun _ => ⟨by omega, by omega⟩) hB.2.2.2.2.1.1 hB.2.2.2.2.1.2.1) (tb_cw (C := RX14) 0 hT tw_1758 tw_109 tw_1755 tw_1757 tw_83 rfl rfl hq_X14_variantStatement ⟨Nat.le_of_ble_eq_true rfl, Nat.le_of_ble_eq_true rfl⟩) (mk_preC hst hG hK hA hX hS vc_15 hM.1) rfl rfl hl.1 rfl (lv_room (Nat.le_of_ble_eq_true rfl)) dX14_statement_62 ⟨Nat.le_of_ble_eq_true rfl, Nat.le_of_ble_eq_true rfl⟩) hS (fun q _ h => h) (fun q h => h) (fun  G6 t H locs ht hvm hw hB hz1 hk1 hS => ?_)
            have hG : mm D vwCl A G6 H := by rw [← ht]; exact hB
            clear hB hz1 hk1 hvm ht
            obtain ⟨a9, ea9⟩ : ∃ y, y = q_vari (tkK ft en) (tkS ft en) (tkV ft en) v9.nV q := ⟨_, rfl⟩
            rw [← ea9] at hw
            obtain ⟨I9, F9, cl9, hM2, hF2, hQ2, hI2, hFr2, hC2, hg2, hs2⟩ := hw
            replace hF := hF.tr hF2; replace hM := hM2; clear hM2 hF2
            refine lv_goto (tgt := 86) hx hb dX14_statement_65 (by decide) ?_
            have hqe : (q_stm (tkK ft en) (tkS ft en) (tkV ft en) v9 q) = (v9.addV a9.2, a9.1) := by unfold q_stm; rw [if_neg (show ¬ tkK ft en q.1 = 11 by omega), if_neg (show ¬ tkK ft en q.1 = 16 by omega), if_neg (show ¬ tkK ft en q.1 = 22 by omega), if_pos hkq, ← ea9]
            have hct : clT (tkK ft en) (tkS ft en) (tkV ft en) v9 q = [(12, q.1 + 1, v9.nV, 0), (8, q.1 + 3, v9.nV, 0)] := by unfold clT; rw [if_neg (show ¬ tkK ft en q.1 = 11 by omega), if_neg (show ¬ tkK ft en q.1 = 16 by omega), if_neg (show ¬ tkK ft en q.1 = 22 by omega), if_pos hkq]
            have hlE : a9.1.2 < 0 → v9.nV < 6 := fun z => by rcases Nat.lt_or_ge v9.nV 6 with y | y; exact y; exact absurd (by rw [← ea9]; exact z) (q_vari_full (K := tkK ft en) (V := tkV ft en) hSn (nC := v9.nV) (q := q) (nI_nlt y (by have y2 := hB.2.2.2.2.1.2.1; omega)))
            exact W.vret hx hb hr (fun t ht hW => ⟨⟨_, rfl, ⟨_, _, _, hM, hF, (by rw [hqe]; exact hQ2), hI2, (hFr2.mono (fun k i z => wV_B z)), (by rw [hqe]; exact hC2), (by rw [hqe]; exact hg2), (by rw [hqe, hct]; intro z; dsimp only at z ⊢; exact ⟨⟨(hB.1.mv (by omega) (fun k i hk => hFr2 k i (by unfold lxA; omega) (by unfold wV; omega)) rfl rfl rfl rfl), (hB.2.1.mv (by omega) (fun k i hk => hFr2 k i (by unfold lxA; omega) (by unfold wV; omega)) rfl rfl), (hB.2.2.1.mv (by omega) (fun k i hk => hFr2 k i (by unfold lxA; omega) (by unfold wV; omega)) rfl rfl rfl rfl), (hB.2.2.2.1.mv (by omega) (fun k i hk => hFr2 k i (by unfold lxA; omega) (by unfold wV; omega)) rfl rfl), (hB.2.2.2.2.1.add (by omega) (hlE z) hFr2 (hs2 z).1.1 (hs2 z).1.2.1 (hs2 z).1.2.2), (hB.2.2.2.2.2.mv (by omega) (fun k i hk => hFr2 k i (by unfold lxA; omega) (by unfold wV; omega)) rfl rfl rfl rfl)⟩, (hs2 z).2⟩)⟩, mk_end hG ht⟩, hS.F ht⟩) hS.2.2 dX14_statement_86
        · skip
          have hkq : tkK ft en q.1 = 22 := by have z := nI_inj (a := w9) (b := 12) (by omega) (by decide) c_45; omega
          refine lv_aload_n hx hb dX14_statement_48 rfl (lv_at hl 1 rfl) ?_
          refine va_callv (va_runV (As := []) (rest := []) ⟨hx, hb, hml, hown, (fun _ h9 => absurd h9 List.not_mem_nil : ∀ w ∈ ([] : List Cond), w.before _ s = true)⟩ (c_M_codeSt l D cy A X hst hXT G o Ar Iv F L ft sx fr en bo q cl c9 v9 hM hQ hC hc1 (fun _ => ⟨by omega, by omega⟩) hB.2.2.2.1.1 hB.2.2.2.1.2.1) (tb_cw (C := RX14) 0 hT tw_1754 tw_109 tw_1751 tw_1753 tw_82 rfl rfl hq_X14_codeStatement ⟨Nat.le_of_ble_eq_true rfl, Nat.le_of_ble_eq_true rfl⟩) (mk_preC hst hG hK hA hX hS vc_15 hM.1) rfl rfl hl.1 rfl (lv_room (Nat.le_of_ble_eq_true rfl)) dX14_statement_49 ⟨Nat.le_of_ble_eq_true rfl, Nat.le_of_ble_eq_true rfl⟩) hS (fun q _ h => h) (fun q h => h) (fun  G7 t H locs ht hvm hw hB hz1 hk1 hS => ?_)
          have hG : mm D vwCl A G7 H := by rw [← ht]; exact hB
          clear hB hz1 hk1 hvm ht
          obtain ⟨a9, ea9⟩ : ∃ y, y = q_code (tkK ft en) (tkS ft en) (tkV ft en) v9.nE q := ⟨_, rfl⟩
          rw [← ea9] at hw
          obtain ⟨I9, F9, cl9, hM2, hF2, hQ2, hI2, hFr2, hC2, hg2, hs2⟩ := hw
          replace hF := hF.tr hF2; replace hM := hM2; clear hM2 hF2
          refine lv_goto (tgt := 86) hx hb dX14_statement_52 (by decide) ?_
          have hqe : (q_stm (tkK ft en) (tkS ft en) (tkV ft en) v9 q) = (v9.addE a9.2, a9.1) := by unfold q_stm; rw [if_neg (show ¬ tkK ft en q.1 = 11 by omega), if_neg (show ¬ tkK ft en q.1 = 16 by omega), if_pos hkq, ← ea9]
          have hct : clT (tkK ft en) (tkS ft en) (tkV ft en) v9 q = [(7, q.1 + 1, v9.nE, 0)] := by unfold clT; rw [if_neg (show ¬ tkK ft en q.1 = 11 by omega), if_neg (show ¬ tkK ft en q.1 = 16 by omega), if_pos hkq]
          have hlE : a9.1.2 < 0 → v9.nE < 12 := fun z => by rcases Nat.lt_or_ge v9.nE 12 with y | y; exact y; exact absurd (by rw [← ea9]; exact z) (q_code_full (K := tkK ft en) (V := tkV ft en) hSn (nC := v9.nE) (q := q) (nI_nlt y (by have y2 := hB.2.2.2.1.2.1; omega)))
          exact W.vret hx hb hr (fun t ht hW => ⟨⟨_, rfl, ⟨_, _, _, hM, hF, (by rw [hqe]; exact hQ2), hI2, (hFr2.mono (fun k i z => wE_B z)), (by rw [hqe]; exact hC2), (by rw [hqe]; exact hg2), (by rw [hqe, hct]; intro z; dsimp only at z ⊢; exact ⟨⟨(hB.1.mv (by omega) (fun k i hk => hFr2 k i (by unfold lxA; omega) (by unfold wE; omega)) rfl rfl rfl rfl), (hB.2.1.mv (by omega) (fun k i hk => hFr2 k i (by unfold lxA; omega) (by unfold wE; omega)) rfl rfl), (hB.2.2.1.mv (by omega) (fun k i hk => hFr2 k i (by unfold lxA; omega) (by unfold wE; omega)) rfl rfl rfl rfl), (hB.2.2.2.1.add (by omega) (hlE z) hFr2 (hs2 z).1.1 (hs2 z).1.2.1 (hs2 z).1.2.2), (hB.2.2.2.2.1.mv (by omega) (fun k i hk => hFr2 k i (by unfold lxA; omega) (by unfold wE; omega)) rfl rfl), (hB.2.2.2.2.2.mv (by omega) (fun k i hk => hFr2 k i (by unfold lxA; omega) (by unfold wE; omega)) rfl rfl rfl rfl)⟩, (hs2 z).2⟩)⟩, mk_end hG ht⟩, hS.F ht⟩) hS.2.2 dX14_statement_86
      · skip
        have hkq : tkK ft en q.1 = 16 := by have z := nI_inj (a := w9) (b := 6) (by omega) (by decide) c_32; omega
        refine lv_aload_n hx hb dX14_statement_35 rfl (lv_at hl 1 rfl) ?_
        refine va_callv (va_runV (As := []) (rest := []) ⟨hx, hb, hml, hown, (fun _ h9 => absurd h9 List.not_mem_nil : ∀ w ∈ ([] : List Cond), w.before _ s = true)⟩ (c_M_laySt l D cy A X hst hXT G o Ar Iv F L ft sx fr en bo q cl c9 v9 hM hQ hC hc1 (fun _ => ⟨by omega, by omega⟩) hB.2.1 hB.2.2.1) (tb_cw (C := RX14) 0 hT tw_1742 tw_109 tw_1739 tw_1741 tw_79 rfl rfl hq_X14_layerStatement ⟨Nat.le_of_ble_eq_true rfl, Nat.le_of_ble_eq_true rfl⟩) (mk_preC hst hG hK hA hX hS vc_15 hM.1) rfl rfl hl.1 rfl (lv_room (Nat.le_of_ble_eq_true rfl)) dX14_statement_36 ⟨Nat.le_of_ble_eq_true rfl, Nat.le_of_ble_eq_true rfl⟩) hS (fun q _ h => h) (fun q h => h) (fun  G8 t H locs ht hvm hw hB hz1 hk1 hS => ?_)
        have hG : mm D vwCl A G8 H := by rw [← ht]; exact hB
        clear hB hz1 hk1 hvm ht
        obtain ⟨a9, ea9⟩ : ∃ y, y = q_lay (tkK ft en) (tkS ft en) (tkV ft en) v9 q := ⟨_, rfl⟩
        rw [← ea9] at hw
        obtain ⟨I9, F9, cl9, hM2, hF2, hQ2, hI2, hFr2, hC2, hg2, hs2⟩ := hw
        replace hF := hF.tr hF2; replace hM := hM2; clear hM2 hF2
        refine lv_goto (tgt := 86) hx hb dX14_statement_39 (by decide) ?_
        have hqe : (q_stm (tkK ft en) (tkS ft en) (tkV ft en) v9 q) = (a9.1, a9.2) := by unfold q_stm; rw [if_neg (show ¬ tkK ft en q.1 = 11 by omega), if_pos hkq, ← ea9]
        have hct : clT (tkK ft en) (tkS ft en) (tkV ft en) v9 q = clL (tkK ft en) (tkS ft en) (tkV ft en) v9 q := by unfold clT; rw [if_neg (show ¬ tkK ft en q.1 = 11 by omega), if_pos hkq]
        obtain ⟨o1, o2⟩ := @q_lay_cEVJ (tkK ft en) (tkS ft en) (tkV ft en) v9 q
        rw [← ea9] at o1 o2
        have hbl6 := hB.2.1.2.1
        have hbl16 := hB.2.2.1.2.1
        exact W.vret hx hb hr (fun t ht hW => ⟨⟨_, rfl, ⟨_, _, _, hM, hF, (by rw [hqe]; exact hQ2), hI2, (hFr2.mono (fun k i z => wL_B z)), (by rw [hqe]; exact hC2), (by rw [hqe]; exact hg2), (by rw [hqe, hct]; intro z; dsimp only at z ⊢; exact ⟨⟨(hB.1.mv (by omega) (fun k i hk => hFr2 k i (by unfold lxA; omega) (by unfold wL; omega)) (by show a9.1.1.1 = v9.1.1; rw [o1]) (by show a9.1.1.2.1 = v9.1.2.1; rw [o1]) (by show a9.1.1.2.2.1 = v9.1.2.2.1; rw [o1]) (by show a9.1.1.2.2.2 = v9.1.2.2.2; rw [o1])), (hs2 z).1.1, (hs2 z).1.2, (hB.2.2.2.1.mv (by omega) (fun k i hk => hFr2 k i (by unfold lxA; omega) (by unfold wL; omega)) (by show a9.1.2.2.2.1.1 = v9.2.2.2.1.1; rw [o2]) (by show a9.1.2.2.2.1.2 = v9.2.2.2.1.2; rw [o2])), (hB.2.2.2.2.1.mv (by omega) (fun k i hk => hFr2 k i (by unfold lxA; omega) (by unfold wL; omega)) (by show a9.1.2.2.2.2.1.1 = v9.2.2.2.2.1.1; rw [o2]) (by show a9.1.2.2.2.2.1.2 = v9.2.2.2.2.1.2; rw [o2])), (hB.2.2.2.2.2.mv (by omega) (fun k i hk => hFr2 k i (by unfold lxA; omega) (by unfold wL; omega)) (by show a9.1.2.2.2.2.2.1 = v9.2.2.2.2.2.1; rw [o2]) (by show a9.1.2.2.2.2.2.2.1 = v9.2.2.2.2.2.2.1; rw [o2]) (by show a9.1.2.2.2.2.2.2.2.1 = v9.2.2.2.2.2.2.2.1; rw [o2]) (by show a9.1.2.2.2.2.2.2.2.2 = v9.2.2.2.2.2.2.2.2; rw [o2]))⟩, (hs2 z).2⟩)⟩, mk_end hG ht⟩, hS.F ht⟩) hS.2.2 dX14_statement_86
    · skip
      have hkq : tkK ft en q.1 = 11 := by have z := nI_inj (a := w9) (b := 1) (by omega) (by decide) c_19; omega
      refine lv_aload_n hx hb dX14_statement_22 rfl (lv_at hl 1 rfl) ?_
      refine va_callv (va_runV (As := []) (rest := []) ⟨hx, hb, hml, hown, (fun _ h9 => absurd h9 List.not_mem_nil : ∀ w ∈ ([] : List Cond), w.before _ s = true)⟩ (c_M_codSt l D cy A X hst hXT G o Ar Iv F L ft sx fr en bo q cl c9 v9 hM hQ hC hc1 (fun _ => ⟨by omega, by omega⟩) hB.1.1 hB.1.2.1) (tb_cw (C := RX14) 0 hT tw_1697 tw_109 tw_1694 tw_1696 tw_68 rfl rfl hq_X14_codingStatement ⟨Nat.le_of_ble_eq_true rfl, Nat.le_of_ble_eq_true rfl⟩) (mk_preC hst hG hK hA hX hS vc_15 hM.1) rfl rfl hl.1 rfl (lv_room (Nat.le_of_ble_eq_true rfl)) dX14_statement_23 ⟨Nat.le_of_ble_eq_true rfl, Nat.le_of_ble_eq_true rfl⟩) hS (fun q _ h => h) (fun q h => h) (fun  G9 t H locs ht hvm hw hB hz1 hk1 hS => ?_)
      have hG : mm D vwCl A G9 H := by rw [← ht]; exact hB
      clear hB hz1 hk1 hvm ht
      obtain ⟨a9, ea9⟩ : ∃ y, y = q_cod (tkK ft en) (tkS ft en) (tkV ft en) v9.nC q := ⟨_, rfl⟩
      rw [← ea9] at hw
      obtain ⟨I9, F9, cl9, hM2, hF2, hQ2, hI2, hFr2, hC2, hg2, hs2⟩ := hw
      replace hF := hF.tr hF2; replace hM := hM2; clear hM2 hF2
      refine lv_goto (tgt := 86) hx hb dX14_statement_26 (by decide) ?_
      have hqe : (q_stm (tkK ft en) (tkS ft en) (tkV ft en) v9 q) = (v9.addC a9.2, a9.1) := by unfold q_stm; rw [if_pos hkq, ← ea9]
      have hct : clT (tkK ft en) (tkS ft en) (tkV ft en) v9 q = clC (tkK ft en) (tkS ft en) (tkV ft en) v9.nC q := by unfold clT; rw [if_pos hkq]
      exact W.vret hx hb hr (fun t ht hW => ⟨⟨_, rfl, ⟨_, _, _, hM, hF, (by rw [hqe]; exact hQ2), hI2, (hFr2.mono (fun k i z => wC_B z)), (by rw [hqe]; exact hC2), (by rw [hqe]; exact hg2), (by rw [hqe, hct]; intro z; dsimp only at z ⊢; exact ⟨⟨(hB.1.add (by omega) (hs2 z).1.1 hFr2 (hs2 z).1.2.1 (hs2 z).1.2.2), (hB.2.1.mv (by omega) (fun k i hk => hFr2 k i (by unfold lxA; omega) (by unfold wC; omega)) rfl rfl), (hB.2.2.1.mv (by omega) (fun k i hk => hFr2 k i (by unfold lxA; omega) (by unfold wC; omega)) rfl rfl rfl rfl), (hB.2.2.2.1.mv (by omega) (fun k i hk => hFr2 k i (by unfold lxA; omega) (by unfold wC; omega)) rfl rfl), (hB.2.2.2.2.1.mv (by omega) (fun k i hk => hFr2 k i (by unfold lxA; omega) (by unfold wC; omega)) rfl rfl), (hB.2.2.2.2.2.mv (by omega) (fun k i hk => hFr2 k i (by unfold lxA; omega) (by unfold wC; omega)) rfl rfl rfl rfl)⟩, (hs2 z).2⟩)⟩, mk_end hG ht⟩, hS.F ht⟩) hS.2.2 dX14_statement_86
