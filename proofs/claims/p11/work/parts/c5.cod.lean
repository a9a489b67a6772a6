/-- codings of a book -/
def CDf (K : Nat → Nat) (V : Nat → Int64) (n : Nat) (F : Nat → Nat → Int32) (i : Nat) (x : (Int32 × Int64 × Int32) × (Int32 × Int32 × Int64 × Int64 × Int64)) : Prop := NMt K V n (F 9 i) x.1.2.1 ∧ F 10 i = x.1.2.2 ∧ ((F 11 i = 1 ∧ x.2 = (1, 0, 1, 1, 0)) ∨ (F 11 i = 2 ∧ x.2 = (0, 1, (F 12 i).toInt64, (F 13 i).toInt64, (F 14 i).toInt64)) ∨ ((F 11 i = 0 ∨ F 11 i = 3) ∧ x.2 = (0, 0, 1, 1, 0)))
def RWf (K : Nat → Nat) (V : Nat → Int64) (n : Nat) (F : Nat → Nat → Int32) (i : Nat) (d : RwD) : Prop := F 16 i = d.1 ∧ NMt K V n (F 17 i) d.2.2.1
def CRf (K : Nat → Nat) (V : Nat → Int64) (n : Nat) (F : Nat → Nat → Int32) (bo c : Nat) (x : (Int32 × Int64 × Int32) × (Int32 × Int32 × Int64 × Int64 × Int64)) (nr : Nat) (R : Nat → RwD) : Prop := CDf K V n F (12 * bo + c) x ∧ F 15 (12 * bo + c) = nI nr ∧ nr ≤ 8 ∧ ∀ r, r < nr → RWf K V n F (96 * bo + (8 * c + r)) (R r)
def bkC (K : Nat → Nat) (V : Nat → Int64) (n : Nat) (F : Nat → Nat → Int32) (bo : Nat) (v : EdV) : Prop := F 1 bo = nI v.nC ∧ v.nC ≤ 12 ∧ ∀ c, c < v.nC → CRf K V n F bo c (v.C c) (v.nR c) (v.R c)
def wC (bo n : Nat) : Nat → Nat → Prop := fun k i => (k = 1 ∧ i = bo) ∨ (9 ≤ k ∧ k ≤ 15 ∧ n < 12 ∧ i = 12 * bo + n) ∨ ((k = 16 ∨ k = 17) ∧ n < 12 ∧ 96 * bo + 8 * n ≤ i ∧ i < 96 * bo + 8 * n + 8)
def wR (bo c j : Nat) : Nat → Nat → Prop := fun k i => (k = 15 ∧ i = 12 * bo + c) ∨ ((k = 16 ∨ k = 17) ∧ i = 96 * bo + (8 * c + j))
theorem RWf.mv {K : Nat → Nat} {V : Nat → Int64} {n m : Nat} {F F2 : Nat → Nat → Int32} {i : Nat} {d : RwD} (h : RWf K V n F i d) (hm : n ≤ m) (h6 : F2 16 i = F 16 i) (h7 : F2 17 i = F 17 i) : RWf K V m F2 i d := by
  unfold RWf
  rw [h6, h7]
  exact ⟨h.1, h.2.mono hm⟩
theorem CDf.mv {K : Nat → Nat} {V : Nat → Int64} {n m : Nat} {F F2 : Nat → Nat → Int32} {i : Nat} {x : (Int32 × Int64 × Int32) × (Int32 × Int32 × Int64 × Int64 × Int64)} (h : CDf K V n F i x) (hm : n ≤ m) (hF : ∀ k, 9 ≤ k → k ≤ 14 → F2 k i = F k i) : CDf K V m F2 i x := by
  unfold CDf
  rw [hF 9 (by decide) (by decide), hF 10 (by decide) (by decide), hF 11 (by decide) (by decide), hF 12 (by decide) (by decide), hF 13 (by decide) (by decide), hF 14 (by decide) (by decide)]
  exact ⟨h.1.mono hm, h.2⟩
theorem CRf.mv {K : Nat → Nat} {V : Nat → Int64} {n m : Nat} {F F2 : Nat → Nat → Int32} {bo c : Nat} {x : (Int32 × Int64 × Int32) × (Int32 × Int32 × Int64 × Int64 × Int64)} {nr : Nat} {R : Nat → RwD} (h : CRf K V n F bo c x nr R) (hm : n ≤ m) (hF : ∀ k, 9 ≤ k → k ≤ 15 → F2 k (12 * bo + c) = F k (12 * bo + c)) (hP : ∀ k p, (k = 16 ∨ k = 17) → p < 8 → F2 k (96 * bo + (8 * c + p)) = F k (96 * bo + (8 * c + p))) : CRf K V m F2 bo c x nr R := by
  obtain ⟨h1, h2, h3, h4⟩ := h
  exact ⟨h1.mv hm (fun k a b => hF k a (by omega)), (hF 15 (by decide) (by decide)).trans h2, h3, fun r hr => (h4 r hr).mv hm (hP 16 r (Or.inl rfl) (by omega)) (hP 17 r (Or.inr rfl) (by omega))⟩
theorem bkC.add {K : Nat → Nat} {V : Nat → Int64} {n m : Nat} {F F2 : Nat → Nat → Int32} {bo : Nat} {v : EdV} {x : (Int32 × Int64 × Int32) × (Int32 × Int32 × Int64 × Int64 × Int64) × (Nat × (Nat → RwD))} (h : bkC K V n F bo v) (hm : n ≤ m) (hl : v.nC < 12) (hW : FrW (wC bo v.nC) F F2) (h3 : F2 1 bo = nI (v.nC + 1)) (hx : CRf K V m F2 bo v.nC (x.1, x.2.1) x.2.2.1 x.2.2.2) : bkC K V m F2 bo (v.addC x) := by
  refine ⟨h3, hl, fun s hs => ?_⟩
  have hs : s < v.nC + 1 := hs
  show CRf K V m F2 bo s (up1 v.C v.nC (x.1, x.2.1) s) (up1 v.nR v.nC x.2.2.1 s) (up1 v.R v.nC x.2.2.2 s)
  rcases Nat.lt_or_ge s v.nC with e | e
  · rw [up1_ne (by omega), up1_ne (by omega), up1_ne (by omega)]
    exact (h.2.2 s e).mv hm (fun k a b => hW k _ (by unfold lxA; omega) (by unfold wC; omega)) (fun k p a b => hW k _ (by unfold lxA; omega) (by unfold wC; omega))
  · have es : s = v.nC := by omega
    rw [es, up1_eq, up1_eq, up1_eq]
    exact hx
/-- the claims of a coding's rows, of a coding -/
def clRs (K : Nat → Nat) (S : Nat → Int32) (V : Nat → Int64) (c : Nat) : Nat → Nat → Nat × Int32 → List CLi
  | 0, _, _ => []
  | n + 1, j, q => if se K q.1 q.2 1 then (6, q.1, c, j) :: clRs K S V c n (j + 1) (q_row K S V j q).2 else []
def clC (K : Nat → Nat) (S : Nat → Int32) (V : Nat → Int64) (c : Nat) (q : Nat × Int32) : List CLi :=
  let q1 := q_begin S (nI c) 12 q
  let a := q_name K S V q1
  let w := q_num K S V 1 4 (q_take K S 8 a.2)
  let q3 := q_take K S 12 w.2
  (1, q.1 + 1, c, 0) :: (if se K q3.1 q3.2 4 then clRs K S V c 9 0 (q3.1 + 1, q3.2) else [])
theorem clRs_f {K : Nat → Nat} {S : Nat → Int32} {V : Nat → Int64} {c n j : Nat} {q : Nat × Int32} (h : se K q.1 q.2 1 = false) : clRs K S V c n j q = [] := by
  cases n with
  | zero => rfl
  | succ n => rw [clRs, if_neg (by rw [h]; exact Bool.false_ne_true)]
theorem q_rows_n {K : Nat → Nat} {S : Nat → Int32} {V : Nat → Int64} {n j : Nat} {q : Nat × Int32} {d : Nat → RwD} (h : se K q.1 q.2 1 = false) : q_rows K S V n j q d = (j, d, q) := by
  cases n with
  | zero => rfl
  | succ n => rw [q_rows, if_neg (by rw [h]; exact Bool.false_ne_true)]
theorem q_row_8 {K : Nat → Nat} {S : Nat → Int32} {V : Nat → Int64} (hS : ∀ p, ¬ S p < 0) {q : Nat × Int32} (h : q.2 < 0) : (q_row K S V 8 q).2 = (q.1, S q.1) := by
  simp only [q_row, fl, if_pos h, if_true]
  rw [q_num_f (q := (q.1, S q.1)) (hS q.1), q_name_f (q := (q.1, S q.1)) (hS q.1), q_take_f (q := (q.1, S q.1)) (hS q.1)]

theorem c_M_wordk (l : Launch) (D : va_G) (cy : Nat → ClassId) (A : Nat → Prop) (X : State → Prop) (hst : mk_St A X) (hXT : ∀ U : State, X U → TB U) (G : Nat → Option va_E) (o : Nat) (Ar : Nat → Nat) (Iv : Nat → Int32) (F : Nat → Nat → Int32) (L : Nat → Nat → Int64) (ft : Nat → Int32) (sx fr en bo : Nat) (q : Nat × Int32) (w9 k9 : Nat) (hM : MD cy G o Ar Iv F L) (hQ : LXq Ar Iv F ft sx fr en bo q) (hw1 : 1 ≤ w9) (hw2 : w9 < 25) (hk : k9 = w9 + 10) : Met l yX14_word [.code yX14_word cX14_word 3 none] ({ frames := 5, cells := 0, slots := 0, locals := 150 }) (mk_Pre D vwCl (tyL cy) A X G [.ref o, .int (nI w9)]) (va_Qv (fun (G2 : Nat → Option va_E) => ∃ (I2 : Nat → Int32) (F2 : Nat → Nat → Int32), MD cy G2 o Ar I2 F2 L ∧ MF G G2 o Ar ∧ LXq Ar I2 F2 ft sx fr en bo (q_take (tkK ft en) (tkS ft en) k9 q) ∧ IX I2 = IX Iv ∧ FX F2 = FX F) (mk_B D vwCl A) A) 0 0 A := by
  rw [hk]
  exact c_M_word l D cy A X hst hXT G o Ar Iv F L ft sx fr en bo q w9 hM hQ hw1 hw2

set_option maxHeartbeats 4000000 in
set_option maxRecDepth 100000 in
theorem c_M_codSt (l : Launch) (D : va_G) (cy : Nat → ClassId) (A : Nat → Prop) (X : State → Prop) (hst : mk_St A X) (hXT : ∀ U : State, X U → TB U) (G : Nat → Option va_E) (o : Nat) (Ar : Nat → Nat) (Iv : Nat → Int32) (F : Nat → Nat → Int32) (L : Nat → Nat → Int64) (ft : Nat → Int32) (sx fr en bo : Nat) (q : Nat × Int32) (cl : List CLi) (c9 : Nat) (v9 : EdV) (hM : MD cy G o Ar Iv F L) (hQ : LXq Ar Iv F ft sx fr en bo q) (hC : CLq Iv F ft en cl c9) (hc1 : c9 ≤ q.1 + 1) (hkb : q.2 < 0 → tkK ft en q.1 ≠ 2 ∧ tkK ft en q.1 ≠ 3) (hn : F 1 bo = nI v9.nC) (hn9 : v9.nC ≤ 12) : Met l yX14_codingStatement [.code yX14_codingStatement cX14_codingStatement 4 none] ({ frames := 7, cells := 0, slots := 0, locals := 210 }) (mk_Pre D vwCl (tyL cy) A X G [.ref o]) (va_Qv (fun (G2 : Nat → Option va_E) => ∃ (I2 : Nat → Int32) (F2 : Nat → Nat → Int32) (cl2 : List CLi), MD cy G2 o Ar I2 F2 L ∧ MF G G2 o Ar ∧ LXq Ar I2 F2 ft sx fr en bo (q_cod (tkK ft en) (tkS ft en) (tkV ft en) v9.nC q).1 ∧ IZ I2 = IZ Iv ∧ FrW (wC bo v9.nC) F F2 ∧ CLq I2 F2 ft en cl2 ((q_cod (tkK ft en) (tkS ft en) (tkV ft en) v9.nC q).1.1 + 1) ∧ q.1 ≤ (q_cod (tkK ft en) (tkS ft en) (tkV ft en) v9.nC q).1.1 ∧ ((q_cod (tkK ft en) (tkS ft en) (tkV ft en) v9.nC q).1.2 < 0 → (v9.nC < 12 ∧ F2 1 bo = nI (v9.nC + 1) ∧ CRf (tkK ft en) (tkV ft en) ((q_cod (tkK ft en) (tkS ft en) (tkV ft en) v9.nC q).1.1 + 1) F2 bo v9.nC ((q_cod (tkK ft en) (tkS ft en) (tkV ft en) v9.nC q).2.1, (q_cod (tkK ft en) (tkS ft en) (tkV ft en) v9.nC q).2.2.1) (q_cod (tkK ft en) (tkS ft en) (tkV ft en) v9.nC q).2.2.2.1 (q_cod (tkK ft en) (tkS ft en) (tkV ft en) v9.nC q).2.2.2.2) ∧ cl2 = cl ++ clC (tkK ft en) (tkS ft en) (tkV ft en) v9.nC q)) (mk_B D vwCl A) A) 0 0 A := by
  refine Met.ofW (cc := cX14_codingStatement) (maxL := 4) (ret := none) (by decide) rfl ?_
  intro p e s m args below meth c s₁ B hml hv
  obtain ⟨rfl, hG, hK, hA, hX⟩ := hv
  have hx := B.exec
  have hb := B.bytes
  have hr := B.returns
  have hlocks := B.notSynchronized
  have hT := hXT s hX
  have hown : s.vm.findClass RX14 = some m.cls := findClass_of_methodNamed B.named
  have hf_X14 : ∀ w ∈ u_ws RX14 TX14 76, w.before ([.ref o] : List Value).toArray s = true := tb_list hT fX14
  have hS : va_S A s.heap s.heap [] := va_S.rf
  have hl := lv_entry ([.ref o]) (n := 4) (Nat.le_of_ble_eq_true rfl)
  rw [lg_entry_eq]
  generalize (lg_sl ([.ref o]) ++ List.replicate (4 - (lg_sl ([.ref o])).length) Slot.unset).toArray = ls at hl ⊢
  have hl : lv_has ls 4 [(0, .ref o)] := hl
  have hF : MF G G o Ar := MF.rf
  have hIZ : IZ Iv = IZ Iv := rfl
  have hSn : ∀ p, ¬ tkS ft en p < 0 := fun p => tkS_ge hQ.1.2.2.2.1 p
  have hbo := hQ.1.2.2.2.2.2.1
  have hbl := hQ.1.2.2.2.2.1
  have hFr : FrW (wC bo v9.nC) F F := FrW.rf
  have hlp : ∀ (n : Nat) (j9 : Nat) (qj : Nat × Int32) (dj : Nat → RwD) (Ij : Nat → Int32) (Fj : Nat → Nat → Int32) (clj : List CLi) (cj : Nat) (RP : Nat × (Nat → RwD) × (Nat × Int32)) (CR : List CLi) (st9 w9 : Int32) (a9n : Int64), (q_rows (tkK ft en) (tkS ft en) (tkV ft en) n j9 qj dj = RP) → (n + j9 = 9) → (v9.nC < 12) → (qj.2 < 0 → j9 ≤ 8) → ((q_cod (tkK ft en) (tkS ft en) (tkV ft en) v9.nC q) = (q_take (tkK ft en) (tkS ft en) 5 RP.2.2, (st9, a9n, w9), (0, 0, 1, 1, 0), (RP.1, RP.2.1))) → (qj.2 < 0 → clj ++ clRs (tkK ft en) (tkS ft en) (tkV ft en) v9.nC n j9 qj = CR) → (CR = cl ++ clC (tkK ft en) (tkS ft en) (tkV ft en) v9.nC q) → (LXq Ar Ij Fj ft sx fr en bo qj) → (CLq Ij Fj ft en clj cj) → (cj ≤ qj.1 + 1) → (qj.2 < 0 → cj ≤ qj.1) → (IZ Ij = IZ Iv) → (FrW (wC bo v9.nC) F Fj) → (q.1 ≤ qj.1) → (Fj 1 bo = nI (v9.nC + 1)) → (qj.2 < 0 → NMt (tkK ft en) (tkV ft en) (qj.1 + 1) (Fj 9 (12 * bo + v9.nC)) a9n) → (qj.2 < 0 → Fj 10 (12 * bo + v9.nC) = w9) → (Fj 11 (12 * bo + v9.nC) = 3) → (Fj 15 (12 * bo + v9.nC) = nI j9) → (qj.2 < 0 → ∀ r, r < j9 → RWf (tkK ft en) (tkV ft en) (qj.1 + 1) Fj (96 * bo + (8 * v9.nC + r)) (dj r)) → ∀ (Gv : Nat → Option va_E), (MD cy Gv o Ar Ij Fj L) → (MF G Gv o Ar) → ∀ (H : Heap) (locs : List Loc), mm D vwCl A Gv H → va_S A s.heap H locs → ∀ ls : Array Slot, lv_has ls 4 [(0, .ref o), (1, .int (nI bo)), (2, .int (nI v9.nC))] → W p l e (headSpec [.code yX14_codingStatement cX14_codingStatement 4 none] ({ frames := 7, cells := 0, slots := 0, locals := 210 })).room s m ([.ref o] : List Value).toArray below meth c H locs 0 0 (MQ below (va_Qv (fun (G2 : Nat → Option va_E) => ∃ (I2 : Nat → Int32) (F2 : Nat → Nat → Int32) (cl2 : List CLi), MD cy G2 o Ar I2 F2 L ∧ MF G G2 o Ar ∧ LXq Ar I2 F2 ft sx fr en bo (q_cod (tkK ft en) (tkS ft en) (tkV ft en) v9.nC q).1 ∧ IZ I2 = IZ Iv ∧ FrW (wC bo v9.nC) F F2 ∧ CLq I2 F2 ft en cl2 ((q_cod (tkK ft en) (tkS ft en) (tkV ft en) v9.nC q).1.1 + 1) ∧ q.1 ≤ (q_cod (tkK ft en) (tkS ft en) (tkV ft en) v9.nC q).1.1 ∧ ((q_cod (tkK ft en) (tkS ft en) (tkV ft en) v9.nC q).1.2 < 0 → (v9.nC < 12 ∧ F2 1 bo = nI (v9.nC + 1) ∧ CRf (tkK ft en) (tkV ft en) ((q_cod (tkK ft en) (tkS ft en) (tkV ft en) v9.nC q).1.1 + 1) F2 bo v9.nC ((q_cod (tkK ft en) (tkS ft en) (tkV ft en) v9.nC q).2.1, (q_cod (tkK ft en) (tkS ft en) (tkV ft en) v9.nC q).2.2.1) (q_cod (tkK ft en) (tkS ft en) (tkV ft en) v9.nC q).2.2.2.1 (q_cod (tkK ft en) (tkS ft en) (tkV ft en) v9.nC q).2.2.2.2) ∧ cl2 = cl ++ clC (tkK ft en) (tkS ft en) (tkV ft en) v9.nC q)) (mk_B D vwCl A) A) ([.ref o] : List Value).toArray s 0 0 A) (F0 m 173 ls []) := by
    intro n
    induction n with
    | zero =>
      intro j9 qj dj Ij Fj clj cj RP CR st9 w9 a9n hR hn9 hlim hj8 hqs hcr hCR hQ hC hc1 hcj hIZ hFr hq0 h1 h9 h10 h11 h15 hRw Gv hM hF H locs hG hS ls hl
      have hXX : FX Fj = FX Fj := rfl
      have hFr9 : FrW (wR bo v9.nC j9) Fj Fj := FrW.rf
      have hQ0 := hQ
      refine lv_aload_n hx hb dX14_codingStatement_173 rfl (lv_at hl 0 rfl) ?_
      refine mm_get (v := .int (Ij 55)) hx hb hf_X14 (fun _ h9 => h9) hown hK hG hM.1 rfl 55 (by decide) (tb_use hT tw_1446) (fun _ h9 => h9) (mfs_g55 _ _) dX14_codingStatement_174 ?_
      refine lv_if_eq (tgt := 303) hx hb dX14_codingStatement_177 (by decide) (fun c_177 => ?_) (fun c_177 => ?_)
      · skip
        refine lv_aload_n hx hb dX14_codingStatement_303 rfl (lv_at hl 0 rfl) ?_
        refine lv_bipush (v := 125) hx hb dX14_codingStatement_304 (by decide) ?_
        refine va_callv (va_runV (As := [.int 125]) (rest := []) ⟨hx, hb, hml, hown, (fun _ h9 => absurd h9 List.not_mem_nil : ∀ w ∈ ([] : List Cond), w.before _ s = true)⟩ (c_M_mark l D cy A X hst hXT Gv o Ar Ij Fj L ft sx fr en bo qj 5 hM hQ (by decide) (by decide)) (tb_cw (C := RX14) 1 hT tw_1717 tw_109 tw_1714 tw_1716 tw_73 rfl rfl hq_X14_mark ⟨Nat.le_of_ble_eq_true rfl, Nat.le_of_ble_eq_true rfl⟩) (mk_preC hst hG hK hA hX hS vc_15 hM.1) rfl rfl hl.1 rfl (lv_room (Nat.le_of_ble_eq_true rfl)) dX14_codingStatement_306 ⟨Nat.le_of_ble_eq_true rfl, Nat.le_of_ble_eq_true rfl⟩) hS (fun q _ h => h) (fun q h => h) (fun  G1 t H locs ht hvm hw hB hz1 hk1 hS => ?_)
        have hG : mm D vwCl A G1 H := by rw [← ht]; exact hB
        clear hB hz1 hk1 hvm ht
        obtain ⟨a2, ea2⟩ : ∃ y, y = q_take (tkK ft en) (tkS ft en) 5 qj := ⟨_, rfl⟩
        rw [← ea2] at hw
        obtain ⟨I3, F4, hM2, hF2, hQ2, hI2, hX2⟩ := hw
        replace hF := hF.tr hF2; replace hM := hM2; clear hM2 hF2
        have hQ := hQ2; have hIZ := (IZ_x hI2).trans hIZ; have hFr := hFr.fx hX2; have hC := hC.fx hI2 hX2
        have hXX := hX2.trans hXX
        have hFr9 := hFr9.fx hX2
        have p5 : F4 1 (bo) = nI (v9.nC + 1) := (congrFun (FXe hX2 (by decide)) _).trans h1
        have p6 : F4 11 (12 * bo + v9.nC) = 3 := (congrFun (FXe hX2 (by decide)) _).trans h11
        have p7 : F4 15 (12 * bo + v9.nC) = nI j9 := (congrFun (FXe hX2 (by decide)) _).trans h15
        have p8 : F4 9 (12 * bo + v9.nC) = Fj 9 (12 * bo + v9.nC) := (congrFun (FXe hX2 (by decide)) _).trans rfl
        have p9 : F4 10 (12 * bo + v9.nC) = Fj 10 (12 * bo + v9.nC) := (congrFun (FXe hX2 (by decide)) _).trans rfl
        clear hI2 hX2 hQ2
        have ga2 : qj.1 ≤ a2.1 := by rw [ea2]; exact ge_take
        have da2 : a2.2 < 0 → _ := fun z => ad_take hSn (by rw [← ea2]; exact z)
        rw [← ea2] at da2
        have hc1 : cj ≤ a2.1 + 1 := by omega
        have hc2 : a2.2 < 0 → cj ≤ a2.1 := fun z => by have := da2 z; omega
        have hnse : se (tkK ft en) qj.1 qj.2 1 = false := se_f (fun z => (hQ0.g1.mpr z) c_177)
        have hRe : RP = (j9, dj, qj) := by rw [← hR]; exact q_rows_n hnse
        have hqe : (q_cod (tkK ft en) (tkS ft en) (tkV ft en) v9.nC q) = (a2, (st9, a9n, w9), (0, 0, 1, 1, 0), (j9, dj)) := by rw [hqs, hRe, ea2]
        exact W.vret hx hb hr (fun t ht hW => ⟨⟨_, rfl, ⟨_, _, _, hM, hF, (by rw [hqe]; exact hQ), hIZ, hFr, (by rw [hqe]; exact hC.le (by (try dsimp only); omega)), (by rw [hqe]; (try dsimp only); omega), (by rw [hqe]; intro z; dsimp only at z ⊢; have y := da2 z; exact ⟨⟨hlim, (congrFun (FXe hXX (by decide : ¬ (1 = 0 ∨ 1 = 7 ∨ 1 = 8))) _).trans h1, ⟨((h9 y.1).mono (by omega)).cg (congrFun (FXe hXX (by decide : ¬ (9 = 0 ∨ 9 = 7 ∨ 9 = 8))) _).symm, (congrFun (FXe hXX (by decide : ¬ (10 = 0 ∨ 10 = 7 ∨ 10 = 8))) _).trans (h10 y.1), Or.inr (Or.inr ⟨Or.inr ((congrFun (FXe hXX (by decide : ¬ (11 = 0 ∨ 11 = 7 ∨ 11 = 8))) _).trans h11), rfl⟩)⟩, (congrFun (FXe hXX (by decide : ¬ (15 = 0 ∨ 15 = 7 ∨ 15 = 8))) _).trans h15, hj8 y.1, fun r hr => (hRw y.1 r hr).mv (by omega) (congrFun (FXe hXX (by decide : ¬ (16 = 0 ∨ 16 = 7 ∨ 16 = 8))) _) (congrFun (FXe hXX (by decide : ¬ (17 = 0 ∨ 17 = 7 ∨ 17 = 8))) _)⟩, (by rw [← hCR, ← hcr y.1, clRs_f hnse, List.append_nil])⟩)⟩, mk_end hG ht⟩, hS.F ht⟩) hS.2.2 dX14_codingStatement_309
      · skip
        exact absurd (hj8 (hQ.g1.mp c_177)) (by omega)
    | succ n ih =>
      intro j9 qj dj Ij Fj clj cj RP CR st9 w9 a9n hR hn9 hlim hj8 hqs hcr hCR hQ hC hc1 hcj hIZ hFr hq0 h1 h9 h10 h11 h15 hRw Gv hM hF H locs hG hS ls hl
      have hXX : FX Fj = FX Fj := rfl
      have hFr9 : FrW (wR bo v9.nC j9) Fj Fj := FrW.rf
      have hQ0 := hQ
      refine lv_aload_n hx hb dX14_codingStatement_173 rfl (lv_at hl 0 rfl) ?_
      refine mm_get (v := .int (Ij 55)) hx hb hf_X14 (fun _ h9 => h9) hown hK hG hM.1 rfl 55 (by decide) (tb_use hT tw_1446) (fun _ h9 => h9) (mfs_g55 _ _) dX14_codingStatement_174 ?_
      refine lv_if_eq (tgt := 303) hx hb dX14_codingStatement_177 (by decide) (fun c_177 => ?_) (fun c_177 => ?_)
      · skip
        refine lv_aload_n hx hb dX14_codingStatement_303 rfl (lv_at hl 0 rfl) ?_
        refine lv_bipush (v := 125) hx hb dX14_codingStatement_304 (by decide) ?_
        refine va_callv (va_runV (As := [.int 125]) (rest := []) ⟨hx, hb, hml, hown, (fun _ h9 => absurd h9 List.not_mem_nil : ∀ w ∈ ([] : List Cond), w.before _ s = true)⟩ (c_M_mark l D cy A X hst hXT Gv o Ar Ij Fj L ft sx fr en bo qj 5 hM hQ (by decide) (by decide)) (tb_cw (C := RX14) 1 hT tw_1717 tw_109 tw_1714 tw_1716 tw_73 rfl rfl hq_X14_mark ⟨Nat.le_of_ble_eq_true rfl, Nat.le_of_ble_eq_true rfl⟩) (mk_preC hst hG hK hA hX hS vc_15 hM.1) rfl rfl hl.1 rfl (lv_room (Nat.le_of_ble_eq_true rfl)) dX14_codingStatement_306 ⟨Nat.le_of_ble_eq_true rfl, Nat.le_of_ble_eq_true rfl⟩) hS (fun q _ h => h) (fun q h => h) (fun  G10 t H locs ht hvm hw hB hz1 hk1 hS => ?_)
        have hG : mm D vwCl A G10 H := by rw [← ht]; exact hB
        clear hB hz1 hk1 hvm ht
        obtain ⟨a11, ea11⟩ : ∃ y, y = q_take (tkK ft en) (tkS ft en) 5 qj := ⟨_, rfl⟩
        rw [← ea11] at hw
        obtain ⟨I12, F13, hM2, hF2, hQ2, hI2, hX2⟩ := hw
        replace hF := hF.tr hF2; replace hM := hM2; clear hM2 hF2
        have hQ := hQ2; have hIZ := (IZ_x hI2).trans hIZ; have hFr := hFr.fx hX2; have hC := hC.fx hI2 hX2
        have hXX := hX2.trans hXX
        have hFr9 := hFr9.fx hX2
        have p14 : F13 1 (bo) = nI (v9.nC + 1) := (congrFun (FXe hX2 (by decide)) _).trans h1
        have p15 : F13 11 (12 * bo + v9.nC) = 3 := (congrFun (FXe hX2 (by decide)) _).trans h11
        have p16 : F13 15 (12 * bo + v9.nC) = nI j9 := (congrFun (FXe hX2 (by decide)) _).trans h15
        have p17 : F13 9 (12 * bo + v9.nC) = Fj 9 (12 * bo + v9.nC) := (congrFun (FXe hX2 (by decide)) _).trans rfl
        have p18 : F13 10 (12 * bo + v9.nC) = Fj 10 (12 * bo + v9.nC) := (congrFun (FXe hX2 (by decide)) _).trans rfl
        clear hI2 hX2 hQ2
        have ga11 : qj.1 ≤ a11.1 := by rw [ea11]; exact ge_take
        have da11 : a11.2 < 0 → _ := fun z => ad_take hSn (by rw [← ea11]; exact z)
        rw [← ea11] at da11
        have hc1 : cj ≤ a11.1 + 1 := by omega
        have hc2 : a11.2 < 0 → cj ≤ a11.1 := fun z => by have := da11 z; omega
        have hnse : se (tkK ft en) qj.1 qj.2 1 = false := se_f (fun z => (hQ0.g1.mpr z) c_177)
        have hRe : RP = (j9, dj, qj) := by rw [← hR]; exact q_rows_n hnse
        have hqe : (q_cod (tkK ft en) (tkS ft en) (tkV ft en) v9.nC q) = (a11, (st9, a9n, w9), (0, 0, 1, 1, 0), (j9, dj)) := by rw [hqs, hRe, ea11]
        exact W.vret hx hb hr (fun t ht hW => ⟨⟨_, rfl, ⟨_, _, _, hM, hF, (by rw [hqe]; exact hQ), hIZ, hFr, (by rw [hqe]; exact hC.le (by (try dsimp only); omega)), (by rw [hqe]; (try dsimp only); omega), (by rw [hqe]; intro z; dsimp only at z ⊢; have y := da11 z; exact ⟨⟨hlim, (congrFun (FXe hXX (by decide : ¬ (1 = 0 ∨ 1 = 7 ∨ 1 = 8))) _).trans h1, ⟨((h9 y.1).mono (by omega)).cg (congrFun (FXe hXX (by decide : ¬ (9 = 0 ∨ 9 = 7 ∨ 9 = 8))) _).symm, (congrFun (FXe hXX (by decide : ¬ (10 = 0 ∨ 10 = 7 ∨ 10 = 8))) _).trans (h10 y.1), Or.inr (Or.inr ⟨Or.inr ((congrFun (FXe hXX (by decide : ¬ (11 = 0 ∨ 11 = 7 ∨ 11 = 8))) _).trans h11), rfl⟩)⟩, (congrFun (FXe hXX (by decide : ¬ (15 = 0 ∨ 15 = 7 ∨ 15 = 8))) _).trans h15, hj8 y.1, fun r hr => (hRw y.1 r hr).mv (by omega) (congrFun (FXe hXX (by decide : ¬ (16 = 0 ∨ 16 = 7 ∨ 16 = 8))) _) (congrFun (FXe hXX (by decide : ¬ (17 = 0 ∨ 17 = 7 ∨ 17 = 8))) _)⟩, (by rw [← hCR, ← hcr y.1, clRs_f hnse, List.append_nil])⟩)⟩, mk_end hG ht⟩, hS.F ht⟩) hS.2.2 dX14_codingStatement_309
      · skip
        refine lv_aload_n hx hb dX14_codingStatement_180 rfl (lv_at hl 0 rfl) ?_
        refine mm_get (v := .int (Ij 52)) hx hb hf_X14 (fun _ h9 => h9) hown hK hG hM.1 rfl 52 (by decide) (tb_use hT tw_1443) (fun _ h9 => h9) (mfs_g52 _ _) dX14_codingStatement_181 ?_
        refine lv_iconst (v := 3) hx hb dX14_codingStatement_184 (by decide) ?_
        refine lv_icmp_ne (tgt := 303) hx hb dX14_codingStatement_185 (by decide) (fun c_185 => ?_) (fun c_185 => ?_)
        · skip
          refine lv_aload_n hx hb dX14_codingStatement_303 rfl (lv_at hl 0 rfl) ?_
          refine lv_bipush (v := 125) hx hb dX14_codingStatement_304 (by decide) ?_
          refine va_callv (va_runV (As := [.int 125]) (rest := []) ⟨hx, hb, hml, hown, (fun _ h9 => absurd h9 List.not_mem_nil : ∀ w ∈ ([] : List Cond), w.before _ s = true)⟩ (c_M_mark l D cy A X hst hXT Gv o Ar Ij Fj L ft sx fr en bo qj 5 hM hQ (by decide) (by decide)) (tb_cw (C := RX14) 1 hT tw_1717 tw_109 tw_1714 tw_1716 tw_73 rfl rfl hq_X14_mark ⟨Nat.le_of_ble_eq_true rfl, Nat.le_of_ble_eq_true rfl⟩) (mk_preC hst hG hK hA hX hS vc_15 hM.1) rfl rfl hl.1 rfl (lv_room (Nat.le_of_ble_eq_true rfl)) dX14_codingStatement_306 ⟨Nat.le_of_ble_eq_true rfl, Nat.le_of_ble_eq_true rfl⟩) hS (fun q _ h => h) (fun q h => h) (fun  G19 t H locs ht hvm hw hB hz1 hk1 hS => ?_)
          have hG : mm D vwCl A G19 H := by rw [← ht]; exact hB
          clear hB hz1 hk1 hvm ht
          obtain ⟨a20, ea20⟩ : ∃ y, y = q_take (tkK ft en) (tkS ft en) 5 qj := ⟨_, rfl⟩
          rw [← ea20] at hw
          obtain ⟨I21, F22, hM2, hF2, hQ2, hI2, hX2⟩ := hw
          replace hF := hF.tr hF2; replace hM := hM2; clear hM2 hF2
          have hQ := hQ2; have hIZ := (IZ_x hI2).trans hIZ; have hFr := hFr.fx hX2; have hC := hC.fx hI2 hX2
          have hXX := hX2.trans hXX
          have hFr9 := hFr9.fx hX2
          have p23 : F22 1 (bo) = nI (v9.nC + 1) := (congrFun (FXe hX2 (by decide)) _).trans h1
          have p24 : F22 11 (12 * bo + v9.nC) = 3 := (congrFun (FXe hX2 (by decide)) _).trans h11
          have p25 : F22 15 (12 * bo + v9.nC) = nI j9 := (congrFun (FXe hX2 (by decide)) _).trans h15
          have p26 : F22 9 (12 * bo + v9.nC) = Fj 9 (12 * bo + v9.nC) := (congrFun (FXe hX2 (by decide)) _).trans rfl
          have p27 : F22 10 (12 * bo + v9.nC) = Fj 10 (12 * bo + v9.nC) := (congrFun (FXe hX2 (by decide)) _).trans rfl
          clear hI2 hX2 hQ2
          have ga20 : qj.1 ≤ a20.1 := by rw [ea20]; exact ge_take
          have da20 : a20.2 < 0 → _ := fun z => ad_take hSn (by rw [← ea20]; exact z)
          rw [← ea20] at da20
          have hc1 : cj ≤ a20.1 + 1 := by omega
          have hc2 : a20.2 < 0 → cj ≤ a20.1 := fun z => by have := da20 z; omega
          have hnse : se (tkK ft en) qj.1 qj.2 1 = false := by unfold se; rw [decide_eq_false (fun z => c_185 (hQ0.kd.num.mpr z)), Bool.and_false]
          have hRe : RP = (j9, dj, qj) := by rw [← hR]; exact q_rows_n hnse
          have hqe : (q_cod (tkK ft en) (tkS ft en) (tkV ft en) v9.nC q) = (a20, (st9, a9n, w9), (0, 0, 1, 1, 0), (j9, dj)) := by rw [hqs, hRe, ea20]
          exact W.vret hx hb hr (fun t ht hW => ⟨⟨_, rfl, ⟨_, _, _, hM, hF, (by rw [hqe]; exact hQ), hIZ, hFr, (by rw [hqe]; exact hC.le (by (try dsimp only); omega)), (by rw [hqe]; (try dsimp only); omega), (by rw [hqe]; intro z; dsimp only at z ⊢; have y := da20 z; exact ⟨⟨hlim, (congrFun (FXe hXX (by decide : ¬ (1 = 0 ∨ 1 = 7 ∨ 1 = 8))) _).trans h1, ⟨((h9 y.1).mono (by omega)).cg (congrFun (FXe hXX (by decide : ¬ (9 = 0 ∨ 9 = 7 ∨ 9 = 8))) _).symm, (congrFun (FXe hXX (by decide : ¬ (10 = 0 ∨ 10 = 7 ∨ 10 = 8))) _).trans (h10 y.1), Or.inr (Or.inr ⟨Or.inr ((congrFun (FXe hXX (by decide : ¬ (11 = 0 ∨ 11 = 7 ∨ 11 = 8))) _).trans h11), rfl⟩)⟩, (congrFun (FXe hXX (by decide : ¬ (15 = 0 ∨ 15 = 7 ∨ 15 = 8))) _).trans h15, hj8 y.1, fun r hr => (hRw y.1 r hr).mv (by omega) (congrFun (FXe hXX (by decide : ¬ (16 = 0 ∨ 16 = 7 ∨ 16 = 8))) _) (congrFun (FXe hXX (by decide : ¬ (17 = 0 ∨ 17 = 7 ∨ 17 = 8))) _)⟩, (by rw [← hCR, ← hcr y.1, clRs_f hnse, List.append_nil])⟩)⟩, mk_end hG ht⟩, hS.F ht⟩) hS.2.2 dX14_codingStatement_309
        · skip
          have hnq : qj.2 < 0 ∧ tkK ft en qj.1 = 1 := ⟨hQ.g1.mp c_177, hQ.kd.num.mp c_185⟩
          have hse : se (tkK ft en) qj.1 qj.2 1 = true := by unfold se; rw [decide_eq_true hnq.1, decide_eq_true hnq.2]; rfl
          have hc2 : qj.2 < 0 → cj ≤ qj.1 := hcj
          refine lv_aload_n hx hb dX14_codingStatement_188 rfl (lv_at hl 0 rfl) ?_
          refine mm_get (v := .ref (Ar 15)) hx hb hf_X14 (fun _ h9 => h9) hown hK hG hM.1 rfl 15 (by decide) (tb_use hT tw_1406) (fun _ h9 => h9) (mfs_g15 _ _) dX14_codingStatement_189 ?_
          refine lv_bipush (v := 12) hx hb dX14_codingStatement_192 (by decide) ?_
          refine lv_iload_n hx hb dX14_codingStatement_194 rfl (lv_at hl 1 rfl) ?_
          refine lv_imul hx hb dX14_codingStatement_195 ?_
          refine lv_iload_n hx hb dX14_codingStatement_196 rfl (lv_at hl 2 rfl) ?_
          refine lv_iadd hx hb dX14_codingStatement_197 ?_
          refine mm_iald (n := 24) (f := Fj 15) hx hb hK hG 1 (hM.2.1 15 rfl) rfl (by rw [show (((12 * (nI bo)) + (nI v9.nC)) : Int32) = nI (12 * bo + v9.nC) by show (((nI 12 * (nI bo)) + (nI v9.nC)) : Int32) = _; simp only [nI_mu, nI_add]]; exact nI_in (N := 24) (by omega) (by decide)) dX14_codingStatement_198 ?_
          refine lv_topi (fun x28 ex28 => ?_)
          rw [show x28 = nI j9 by rw [ex28, show (((12 * (nI bo)) + (nI v9.nC)) : Int32) = nI (12 * bo + v9.nC) by show (((nI 12 * (nI bo)) + (nI v9.nC)) : Int32) = _; simp only [nI_mu, nI_add], nI_clamp (by omega)]; exact h15]
          refine lv_bipush (v := 8) hx hb dX14_codingStatement_199 (by decide) ?_
          refine lv_icmp_ne (tgt := 210) hx hb dX14_codingStatement_201 (by decide) (fun c_201 => ?_) (fun c_201 => ?_)
          · skip
            have hj7 : j9 < 8 := by have z1 := hj8 hnq.1; have z2 : j9 ≠ 8 := fun z => c_201 (by rw [z]; rfl); omega
            refine lv_bipush (v := 8) hx hb dX14_codingStatement_210 (by decide) ?_
            refine lv_iload_n hx hb dX14_codingStatement_212 rfl (lv_at hl 2 rfl) ?_
            refine lv_imul hx hb dX14_codingStatement_213 ?_
            refine lv_aload_n hx hb dX14_codingStatement_214 rfl (lv_at hl 0 rfl) ?_
            refine mm_get (v := .ref (Ar 15)) hx hb hf_X14 (fun _ h9 => h9) hown hK hG hM.1 rfl 15 (by decide) (tb_use hT tw_1406) (fun _ h9 => h9) (mfs_g15 _ _) dX14_codingStatement_215 ?_
            refine lv_bipush (v := 12) hx hb dX14_codingStatement_218 (by decide) ?_
            refine lv_iload_n hx hb dX14_codingStatement_220 rfl (lv_at hl 1 rfl) ?_
            refine lv_imul hx hb dX14_codingStatement_221 ?_
            refine lv_iload_n hx hb dX14_codingStatement_222 rfl (lv_at hl 2 rfl) ?_
            refine lv_iadd hx hb dX14_codingStatement_223 ?_
            refine mm_iald (n := 24) (f := Fj 15) hx hb hK hG 1 (hM.2.1 15 rfl) rfl (by rw [show (((12 * (nI bo)) + (nI v9.nC)) : Int32) = nI (12 * bo + v9.nC) by show (((nI 12 * (nI bo)) + (nI v9.nC)) : Int32) = _; simp only [nI_mu, nI_add]]; exact nI_in (N := 24) (by omega) (by decide)) dX14_codingStatement_224 ?_
            refine lv_topi (fun x29 ex29 => ?_)
            rw [show x29 = nI j9 by rw [ex29, show (((12 * (nI bo)) + (nI v9.nC)) : Int32) = nI (12 * bo + v9.nC) by show (((nI 12 * (nI bo)) + (nI v9.nC)) : Int32) = _; simp only [nI_mu, nI_add], nI_clamp (by omega)]; exact h15]
            refine lv_iadd hx hb dX14_codingStatement_225 ?_
            rw [show (((8 * (nI v9.nC)) + (nI j9)) : Int32) = nI (8 * v9.nC + j9) by show (((nI 8 * (nI v9.nC)) + (nI j9)) : Int32) = _; simp only [nI_mu, nI_add]]
            refine lv_istore_n (lv' := [(3, .int (nI (8 * v9.nC + j9))), (0, .ref o), (1, .int (nI bo)), (2, .int (nI v9.nC))]) hx hb dX14_codingStatement_226 rfl hl (by decide) rfl (fun ls hl => ?_)
            refine lv_aload_n hx hb dX14_codingStatement_227 rfl (lv_at hl 1 rfl) ?_
            refine lv_bipush (v := 6) hx hb dX14_codingStatement_228 (by decide) ?_
            refine lv_iload_n hx hb dX14_codingStatement_230 rfl (lv_at hl 3 rfl) ?_
            refine lv_aload_n hx hb dX14_codingStatement_231 rfl (lv_at hl 1 rfl) ?_
            refine mm_get (v := .ref (Ar 15)) hx hb hf_X14 (fun _ h9 => h9) hown hK hG hM.1 rfl 15 (by decide) (tb_use hT tw_1406) (fun _ h9 => h9) (mfs_g15 _ _) dX14_codingStatement_232 ?_
            refine lv_bipush (v := 12) hx hb dX14_codingStatement_235 (by decide) ?_
            refine lv_iload_n hx hb dX14_codingStatement_237 rfl (lv_at hl 2 rfl) ?_
            refine lv_imul hx hb dX14_codingStatement_238 ?_
            refine lv_iload_n hx hb dX14_codingStatement_239 rfl (lv_at hl 3 rfl) ?_
            refine lv_iadd hx hb dX14_codingStatement_240 ?_
            refine mm_iald (n := 24) (f := Fj 15) hx hb hK hG 1 (hM.2.1 15 rfl) rfl (by rw [show (((12 * (nI bo)) + (nI v9.nC)) : Int32) = nI (12 * bo + v9.nC) by show (((nI 12 * (nI bo)) + (nI v9.nC)) : Int32) = _; simp only [nI_mu, nI_add]]; exact nI_in (N := 24) (by omega) (by decide)) dX14_codingStatement_241 ?_
            refine lv_topi (fun x30 ex30 => ?_)
            rw [show x30 = nI j9 by rw [ex30, show (((12 * (nI bo)) + (nI v9.nC)) : Int32) = nI (12 * bo + v9.nC) by show (((nI 12 * (nI bo)) + (nI v9.nC)) : Int32) = _; simp only [nI_mu, nI_add], nI_clamp (by omega)]; exact h15]
            refine va_callv (va_runV (As := [.int 6, .int (nI v9.nC), .int (nI j9)]) (rest := []) ⟨hx, hb, hml, hown, (fun _ h9 => absurd h9 List.not_mem_nil : ∀ w ∈ ([] : List Cond), w.before _ s = true)⟩ (c_M_claimq l D cy A X hst hXT Gv o Ar Ij Fj L ft sx fr en bo qj clj cj 6 v9.nC j9 hM hQ hC hc1 hc2) (tb_cw (C := RX14) 3 hT tw_1709 tw_109 tw_1706 tw_1708 tw_71 rfl rfl hq_X14_claim ⟨Nat.le_of_ble_eq_true rfl, Nat.le_of_ble_eq_true rfl⟩) (mk_preC hst hG hK hA hX hS vc_15 hM.1) rfl rfl hl.1 rfl (lv_room (Nat.le_of_ble_eq_true rfl)) dX14_codingStatement_242 ⟨Nat.le_of_ble_eq_true rfl, Nat.le_of_ble_eq_true rfl⟩) hS (fun q _ h => h) (fun q h => h) (fun  G31 t H locs ht hvm hw hB hz1 hk1 hS => ?_)
            have hG : mm D vwCl A G31 H := by rw [← ht]; exact hB
            clear hB hz1 hk1 hvm ht
            obtain ⟨I32, F33, hM2, hF2, hQ2, hC2, hI2, hX2⟩ := hw
            replace hF := hF.tr hF2; replace hM := hM2; clear hM2 hF2
            have hQ := hQ2; have hC := hC2; have hIZ := hI2.trans hIZ
            have hFr : FrW (wC bo v9.nC) F F33 := fun j i h1 h2 => (congrFun (hX2 j (fun z => h1 (by unfold lxA; omega))) i).trans (hFr j i h1 h2)
            have hFr9 : FrW (wR bo v9.nC j9) Fj F33 := fun j i h1 h2 => (congrFun (hX2 j (fun z => h1 (by unfold lxA; omega))) i).trans (hFr9 j i h1 h2)
            have p34 : F33 1 (bo) = nI (v9.nC + 1) := (congrFun (hX2 1 (by decide)) _).trans h1
            have p35 : F33 11 (12 * bo + v9.nC) = 3 := (congrFun (hX2 11 (by decide)) _).trans h11
            have p36 : F33 15 (12 * bo + v9.nC) = nI j9 := (congrFun (hX2 15 (by decide)) _).trans h15
            have p37 : F33 9 (12 * bo + v9.nC) = Fj 9 (12 * bo + v9.nC) := (congrFun (hX2 9 (by decide)) _).trans rfl
            have p38 : F33 10 (12 * bo + v9.nC) = Fj 10 (12 * bo + v9.nC) := (congrFun (hX2 10 (by decide)) _).trans rfl
            clear hI2 hX2 hQ2 hC2
            have hc1 : qj.1 + 1 ≤ qj.1 + 1 := Nat.le_refl _
            refine lv_aload_n hx hb dX14_codingStatement_245 rfl (lv_at hl 1 rfl) ?_
            refine mm_get (v := .ref (Ar 16)) hx hb hf_X14 (fun _ h9 => h9) hown hK hG hM.1 rfl 16 (by decide) (tb_use hT tw_1407) (fun _ h9 => h9) (mfs_g16 _ _) dX14_codingStatement_246 ?_
            refine lv_bipush (v := 96) hx hb dX14_codingStatement_249 (by decide) ?_
            refine lv_iload_n hx hb dX14_codingStatement_251 rfl (lv_at hl 2 rfl) ?_
            refine lv_imul hx hb dX14_codingStatement_252 ?_
            refine lv_iload_n hx hb dX14_codingStatement_253 rfl (lv_at hl 0 rfl) ?_
            refine lv_iadd hx hb dX14_codingStatement_254 ?_
            refine lv_aload_n hx hb dX14_codingStatement_255 rfl (lv_at hl 1 rfl) ?_
            refine lv_iconst (v := 0) hx hb dX14_codingStatement_256 (by decide) ?_
            refine lv_ldcw hx hb hown (tb_use hT tw_1730) dX14_codingStatement_257 ?_
            refine va_calli (va_runV (As := [.int 0, .int 999999]) (rest := [.int ((96 * (nI bo)) + (nI (8 * v9.nC + j9))), .ref (Ar 16)]) ⟨hx, hb, hml, hown, (fun _ h9 => absurd h9 List.not_mem_nil : ∀ w ∈ ([] : List Cond), w.before _ s = true)⟩ (c_M_number l D cy A X hst hXT G31 o Ar I32 F33 L ft sx fr en bo qj 0 999999 0 999999 hM hQ rfl rfl (by decide) (by decide)) (tb_cw (C := RX14) 2 hT tw_1721 tw_109 tw_1718 tw_1720 tw_74 rfl rfl hq_X14_number ⟨Nat.le_of_ble_eq_true rfl, Nat.le_of_ble_eq_true rfl⟩) (mk_preC hst hG hK hA hX hS vc_15 hM.1) rfl rfl hl.1 rfl (lv_room (Nat.le_of_ble_eq_true rfl)) dX14_codingStatement_260 ⟨Nat.le_of_ble_eq_true rfl, Nat.le_of_ble_eq_true rfl⟩) hS (fun q _ h => h) (fun q h => h) (fun r39 G40 t H locs ht hvm hw hB hz1 hk1 hS => ?_)
            have hG : mm D vwCl A G40 H := by rw [← ht]; exact hB
            clear hB hz1 hk1 hvm ht
            obtain ⟨a41, ea41⟩ : ∃ y, y = q_num (tkK ft en) (tkS ft en) (tkV ft en) 0 999999 qj := ⟨_, rfl⟩
            rw [← ea41] at hw
            obtain ⟨hr39, I42, F43, hM2, hF2, hQ2, hI2, hX2⟩ := hw
            replace hF := hF.tr hF2; replace hM := hM2; clear hM2 hF2
            have hQ := hQ2; have hIZ := (IZ_x hI2).trans hIZ; have hFr := hFr.fx hX2; have hC := hC.fx hI2 hX2
            have hFr9 := hFr9.fx hX2
            have p44 : F43 1 (bo) = nI (v9.nC + 1) := (congrFun (FXe hX2 (by decide)) _).trans p34
            have p45 : F43 11 (12 * bo + v9.nC) = 3 := (congrFun (FXe hX2 (by decide)) _).trans p35
            have p46 : F43 15 (12 * bo + v9.nC) = nI j9 := (congrFun (FXe hX2 (by decide)) _).trans p36
            have p47 : F43 9 (12 * bo + v9.nC) = Fj 9 (12 * bo + v9.nC) := (congrFun (FXe hX2 (by decide)) _).trans p37
            have p48 : F43 10 (12 * bo + v9.nC) = Fj 10 (12 * bo + v9.nC) := (congrFun (FXe hX2 (by decide)) _).trans p38
            clear hI2 hX2 hQ2
            have ga41 : qj.1 ≤ a41.2.1 := by rw [ea41]; exact ge_num
            have da41 : a41.2.2 < 0 → _ := fun z => ad_num hSn (by rw [← ea41]; exact z)
            rw [← ea41] at da41
            have hc1 : qj.1 + 1 ≤ a41.2.1 + 1 := by omega
            have hc2 : a41.2.2 < 0 → qj.1 + 1 ≤ a41.2.1 := fun z => by have := da41 z; omega
            refine mm_iast (n := mdN 16) (f := F43 16) hx hb hK hG hS 1 (hM.2.1 16 rfl) rfl (by rw [show (((96 * (nI bo)) + (nI (8 * v9.nC + j9))) : Int32) = nI (96 * bo + (8 * v9.nC + j9)) by show (((nI 96 * (nI bo)) + (nI (8 * v9.nC + j9))) : Int32) = _; simp only [nI_mu, nI_add]]; exact nI_in (N := mdN 16) (by show _ < 192; omega) (by decide)) dX14_codingStatement_263 (fun H locs hG hS => ?_)
            have hM := MD.seti (k := 16) (upd (F43 16) ((96 * (nI bo)) + (nI (8 * v9.nC + j9))).toNatClampNeg r39) hM rfl
            have hF := hF.wa (k := 16) (e' := .inl (cy 1, mdN 16, .inl (upd (F43 16) ((96 * (nI bo)) + (nI (8 * v9.nC + j9))).toNatClampNeg r39))) rfl
            obtain ⟨F49, eF49⟩ : ∃ g, g = va_up F43 16 (upd (F43 16) ((96 * (nI bo)) + (nI (8 * v9.nC + j9))).toNatClampNeg r39) := ⟨_, rfl⟩
            rw [← eF49] at hM
            have hgn := gn_MD hG hM hF
            clear hG hM hF
            obtain ⟨G50, hG, hM, hF⟩ := hgn
            rw [show (((96 * (nI bo)) + (nI (8 * v9.nC + j9))) : Int32) = nI (96 * bo + (8 * v9.nC + j9)) by show (((nI 96 * (nI bo)) + (nI (8 * v9.nC + j9))) : Int32) = _; simp only [nI_mu, nI_add], nI_clamp (by omega)] at eF49
            have p51 : F49 1 (bo) = nI (v9.nC + 1) := by rw [eF49, va_up_ne _ _ (by decide)]; exact p44
            have p52 : F49 11 (12 * bo + v9.nC) = 3 := by rw [eF49, va_up_ne _ _ (by decide)]; exact p45
            have p53 : F49 15 (12 * bo + v9.nC) = nI j9 := by rw [eF49, va_up_ne _ _ (by decide)]; exact p46
            have p54 : F49 9 (12 * bo + v9.nC) = Fj 9 (12 * bo + v9.nC) := by rw [eF49, va_up_ne _ _ (by decide)]; exact p47
            have p55 : F49 10 (12 * bo + v9.nC) = Fj 10 (12 * bo + v9.nC) := by rw [eF49, va_up_ne _ _ (by decide)]; exact p48
            have p56 : F49 16 (96 * bo + (8 * v9.nC + j9)) = r39 := by rw [eF49, va_up_self, pk_us]
            have hFr : FrW (wC bo v9.nC) F F49 := by rw [eF49]; exact hFr.up (by unfold wC; omega)
            have hFr9 : FrW (wR bo v9.nC j9) Fj F49 := by rw [eF49]; exact hFr9.up (by unfold wR; omega)
            have hQ : LXq Ar I42 F49 ft sx fr en bo a41.2 := by rw [eF49]; exact hQ.wF (by decide)
            have hC : CLq I42 F49 ft en (clA qj clj (6, qj.1, v9.nC, j9)) (qj.1 + 1) := by rw [eF49]; exact hC.wF (by decide)
            refine lv_aload_n hx hb dX14_codingStatement_264 rfl (lv_at hl 1 rfl) ?_
            refine mm_get (v := .ref (Ar 17)) hx hb hf_X14 (fun _ h9 => h9) hown hK hG hM.1 rfl 17 (by decide) (tb_use hT tw_1408) (fun _ h9 => h9) (mfs_g17 _ _) dX14_codingStatement_265 ?_
            refine lv_bipush (v := 96) hx hb dX14_codingStatement_268 (by decide) ?_
            refine lv_iload_n hx hb dX14_codingStatement_270 rfl (lv_at hl 2 rfl) ?_
            refine lv_imul hx hb dX14_codingStatement_271 ?_
            refine lv_iload_n hx hb dX14_codingStatement_272 rfl (lv_at hl 0 rfl) ?_
            refine lv_iadd hx hb dX14_codingStatement_273 ?_
            refine lv_aload_n hx hb dX14_codingStatement_274 rfl (lv_at hl 1 rfl) ?_
            refine va_calli (va_runV (As := []) (rest := [.int ((96 * (nI bo)) + (nI (8 * v9.nC + j9))), .ref (Ar 17)]) ⟨hx, hb, hml, hown, (fun _ h9 => absurd h9 List.not_mem_nil : ∀ w ∈ ([] : List Cond), w.before _ s = true)⟩ (c_M_name l D cy A X hst hXT G50 o Ar I42 F49 L ft sx fr en bo a41.2 hM hQ) (tb_cw (C := RX14) 0 hT tw_1713 tw_109 tw_1710 tw_1712 tw_72 rfl rfl hq_X14_name ⟨Nat.le_of_ble_eq_true rfl, Nat.le_of_ble_eq_true rfl⟩) (mk_preC hst hG hK hA hX hS vc_15 hM.1) rfl rfl hl.1 rfl (lv_room (Nat.le_of_ble_eq_true rfl)) dX14_codingStatement_275 ⟨Nat.le_of_ble_eq_true rfl, Nat.le_of_ble_eq_true rfl⟩) hS (fun q _ h => h) (fun q h => h) (fun r57 G58 t H locs ht hvm hw hB hz1 hk1 hS => ?_)
            have hG : mm D vwCl A G58 H := by rw [← ht]; exact hB
            clear hB hz1 hk1 hvm ht
            obtain ⟨a59, ea59⟩ : ∃ y, y = q_name (tkK ft en) (tkS ft en) (tkV ft en) a41.2 := ⟨_, rfl⟩
            rw [← ea59] at hw
            obtain ⟨hr57, I60, F61, hM2, hF2, hQ2, hI2, hX2⟩ := hw
            replace hF := hF.tr hF2; replace hM := hM2; clear hM2 hF2
            have hQ := hQ2; have hIZ := (IZ_x hI2).trans hIZ; have hFr := hFr.fx hX2; have hC := hC.fx hI2 hX2
            have hFr9 := hFr9.fx hX2
            have p62 : F61 1 (bo) = nI (v9.nC + 1) := (congrFun (FXe hX2 (by decide)) _).trans p51
            have p63 : F61 11 (12 * bo + v9.nC) = 3 := (congrFun (FXe hX2 (by decide)) _).trans p52
            have p64 : F61 15 (12 * bo + v9.nC) = nI j9 := (congrFun (FXe hX2 (by decide)) _).trans p53
            have p65 : F61 9 (12 * bo + v9.nC) = Fj 9 (12 * bo + v9.nC) := (congrFun (FXe hX2 (by decide)) _).trans p54
            have p66 : F61 10 (12 * bo + v9.nC) = Fj 10 (12 * bo + v9.nC) := (congrFun (FXe hX2 (by decide)) _).trans p55
            have p67 : F61 16 (96 * bo + (8 * v9.nC + j9)) = r39 := (congrFun (FXe hX2 (by decide)) _).trans p56
            clear hI2 hX2 hQ2
            have ga59 : a41.2.1 ≤ a59.2.1 := by rw [ea59]; exact ge_name
            have da59 : a59.2.2 < 0 → _ := fun z => ad_name hSn (by rw [← ea59]; exact z)
            rw [← ea59] at da59
            have hc1 : qj.1 + 1 ≤ a59.2.1 + 1 := by omega
            have hc2 : a59.2.2 < 0 → qj.1 + 1 ≤ a59.2.1 := fun z => by have := da59 z; omega
            refine mm_iast (n := mdN 17) (f := F61 17) hx hb hK hG hS 1 (hM.2.1 17 rfl) rfl (by rw [show (((96 * (nI bo)) + (nI (8 * v9.nC + j9))) : Int32) = nI (96 * bo + (8 * v9.nC + j9)) by show (((nI 96 * (nI bo)) + (nI (8 * v9.nC + j9))) : Int32) = _; simp only [nI_mu, nI_add]]; exact nI_in (N := mdN 17) (by show _ < 192; omega) (by decide)) dX14_codingStatement_278 (fun H locs hG hS => ?_)
            have hM := MD.seti (k := 17) (upd (F61 17) ((96 * (nI bo)) + (nI (8 * v9.nC + j9))).toNatClampNeg r57) hM rfl
            have hF := hF.wa (k := 17) (e' := .inl (cy 1, mdN 17, .inl (upd (F61 17) ((96 * (nI bo)) + (nI (8 * v9.nC + j9))).toNatClampNeg r57))) rfl
            obtain ⟨F68, eF68⟩ : ∃ g, g = va_up F61 17 (upd (F61 17) ((96 * (nI bo)) + (nI (8 * v9.nC + j9))).toNatClampNeg r57) := ⟨_, rfl⟩
            rw [← eF68] at hM
            have hgn := gn_MD hG hM hF
            clear hG hM hF
            obtain ⟨G69, hG, hM, hF⟩ := hgn
            rw [show (((96 * (nI bo)) + (nI (8 * v9.nC + j9))) : Int32) = nI (96 * bo + (8 * v9.nC + j9)) by show (((nI 96 * (nI bo)) + (nI (8 * v9.nC + j9))) : Int32) = _; simp only [nI_mu, nI_add], nI_clamp (by omega)] at eF68
            have p70 : F68 1 (bo) = nI (v9.nC + 1) := by rw [eF68, va_up_ne _ _ (by decide)]; exact p62
            have p71 : F68 11 (12 * bo + v9.nC) = 3 := by rw [eF68, va_up_ne _ _ (by decide)]; exact p63
            have p72 : F68 15 (12 * bo + v9.nC) = nI j9 := by rw [eF68, va_up_ne _ _ (by decide)]; exact p64
            have p73 : F68 9 (12 * bo + v9.nC) = Fj 9 (12 * bo + v9.nC) := by rw [eF68, va_up_ne _ _ (by decide)]; exact p65
            have p74 : F68 10 (12 * bo + v9.nC) = Fj 10 (12 * bo + v9.nC) := by rw [eF68, va_up_ne _ _ (by decide)]; exact p66
            have p75 : F68 16 (96 * bo + (8 * v9.nC + j9)) = r39 := by rw [eF68, va_up_ne _ _ (by decide)]; exact p67
            have p76 : F68 17 (96 * bo + (8 * v9.nC + j9)) = r57 := by rw [eF68, va_up_self, pk_us]
            have hFr : FrW (wC bo v9.nC) F F68 := by rw [eF68]; exact hFr.up (by unfold wC; omega)
            have hFr9 : FrW (wR bo v9.nC j9) Fj F68 := by rw [eF68]; exact hFr9.up (by unfold wR; omega)
            have hQ : LXq Ar I60 F68 ft sx fr en bo a59.2 := by rw [eF68]; exact hQ.wF (by decide)
            have hC : CLq I60 F68 ft en (clA qj clj (6, qj.1, v9.nC, j9)) (qj.1 + 1) := by rw [eF68]; exact hC.wF (by decide)
            refine lv_aload_n hx hb dX14_codingStatement_279 rfl (lv_at hl 1 rfl) ?_
            refine mm_get (v := .ref (Ar 15)) hx hb hf_X14 (fun _ h9 => h9) hown hK hG hM.1 rfl 15 (by decide) (tb_use hT tw_1406) (fun _ h9 => h9) (mfs_g15 _ _) dX14_codingStatement_280 ?_
            refine lv_bipush (v := 12) hx hb dX14_codingStatement_283 (by decide) ?_
            refine lv_iload_n hx hb dX14_codingStatement_285 rfl (lv_at hl 2 rfl) ?_
            refine lv_imul hx hb dX14_codingStatement_286 ?_
            refine lv_iload_n hx hb dX14_codingStatement_287 rfl (lv_at hl 3 rfl) ?_
            refine lv_iadd hx hb dX14_codingStatement_288 ?_
            refine lv_dup2_11 hx hb dX14_codingStatement_289 rfl rfl ?_
            refine mm_iald (n := 24) (f := F68 15) hx hb hK hG 1 (hM.2.1 15 rfl) rfl (by rw [show (((12 * (nI bo)) + (nI v9.nC)) : Int32) = nI (12 * bo + v9.nC) by show (((nI 12 * (nI bo)) + (nI v9.nC)) : Int32) = _; simp only [nI_mu, nI_add]]; exact nI_in (N := 24) (by omega) (by decide)) dX14_codingStatement_290 ?_
            refine lv_topi (fun x77 ex77 => ?_)
            rw [show x77 = nI j9 by rw [ex77, show (((12 * (nI bo)) + (nI v9.nC)) : Int32) = nI (12 * bo + v9.nC) by show (((nI 12 * (nI bo)) + (nI v9.nC)) : Int32) = _; simp only [nI_mu, nI_add], nI_clamp (by omega)]; exact p72]
            refine lv_iconst (v := 1) hx hb dX14_codingStatement_291 (by decide) ?_
            refine lv_iadd hx hb dX14_codingStatement_292 ?_
            rw [show nI j9 + 1 = nI (j9 + 1) from nI_1 _]
            refine lv_topi (fun x78 ex78 => ?_)
            refine mm_iast (n := mdN 15) (f := F68 15) hx hb hK hG hS 1 (hM.2.1 15 rfl) rfl (by rw [show (((12 * (nI bo)) + (nI v9.nC)) : Int32) = nI (12 * bo + v9.nC) by show (((nI 12 * (nI bo)) + (nI v9.nC)) : Int32) = _; simp only [nI_mu, nI_add]]; exact nI_in (N := mdN 15) (by show _ < 24; omega) (by decide)) dX14_codingStatement_293 (fun H locs hG hS => ?_)
            have hM := MD.seti (k := 15) (upd (F68 15) ((12 * (nI bo)) + (nI v9.nC)).toNatClampNeg x78) hM rfl
            have hF := hF.wa (k := 15) (e' := .inl (cy 1, mdN 15, .inl (upd (F68 15) ((12 * (nI bo)) + (nI v9.nC)).toNatClampNeg x78))) rfl
            obtain ⟨F79, eF79⟩ : ∃ g, g = va_up F68 15 (upd (F68 15) ((12 * (nI bo)) + (nI v9.nC)).toNatClampNeg x78) := ⟨_, rfl⟩
            rw [← eF79] at hM
            have hgn := gn_MD hG hM hF
            clear hG hM hF
            obtain ⟨G80, hG, hM, hF⟩ := hgn
            rw [show (((12 * (nI bo)) + (nI v9.nC)) : Int32) = nI (12 * bo + v9.nC) by show (((nI 12 * (nI bo)) + (nI v9.nC)) : Int32) = _; simp only [nI_mu, nI_add], nI_clamp (by omega)] at eF79
            have p81 : F79 1 (bo) = nI (v9.nC + 1) := by rw [eF79, va_up_ne _ _ (by decide)]; exact p70
            have p82 : F79 11 (12 * bo + v9.nC) = 3 := by rw [eF79, va_up_ne _ _ (by decide)]; exact p71
            have p83 : F79 9 (12 * bo + v9.nC) = Fj 9 (12 * bo + v9.nC) := by rw [eF79, va_up_ne _ _ (by decide)]; exact p73
            have p84 : F79 10 (12 * bo + v9.nC) = Fj 10 (12 * bo + v9.nC) := by rw [eF79, va_up_ne _ _ (by decide)]; exact p74
            have p85 : F79 16 (96 * bo + (8 * v9.nC + j9)) = r39 := by rw [eF79, va_up_ne _ _ (by decide)]; exact p75
            have p86 : F79 17 (96 * bo + (8 * v9.nC + j9)) = r57 := by rw [eF79, va_up_ne _ _ (by decide)]; exact p76
            have p87 : F79 15 (12 * bo + v9.nC) = nI (j9 + 1) := by rw [eF79, va_up_self, pk_us, ex78]
            have hFr : FrW (wC bo v9.nC) F F79 := by rw [eF79]; exact hFr.up (by unfold wC; omega)
            have hFr9 : FrW (wR bo v9.nC j9) Fj F79 := by rw [eF79]; exact hFr9.up (by unfold wR; omega)
            have hQ : LXq Ar I60 F79 ft sx fr en bo a59.2 := by rw [eF79]; exact hQ.wF (by decide)
            have hC : CLq I60 F79 ft en (clA qj clj (6, qj.1, v9.nC, j9)) (qj.1 + 1) := by rw [eF79]; exact hC.wF (by decide)
            refine lv_aload_n hx hb dX14_codingStatement_294 rfl (lv_at hl 1 rfl) ?_
            refine lv_bipush (v := 59) hx hb dX14_codingStatement_295 (by decide) ?_
            refine va_callv (va_runV (As := [.int 59]) (rest := []) ⟨hx, hb, hml, hown, (fun _ h9 => absurd h9 List.not_mem_nil : ∀ w ∈ ([] : List Cond), w.before _ s = true)⟩ (c_M_mark l D cy A X hst hXT G80 o Ar I60 F79 L ft sx fr en bo a59.2 6 hM hQ (by decide) (by decide)) (tb_cw (C := RX14) 1 hT tw_1717 tw_109 tw_1714 tw_1716 tw_73 rfl rfl hq_X14_mark ⟨Nat.le_of_ble_eq_true rfl, Nat.le_of_ble_eq_true rfl⟩) (mk_preC hst hG hK hA hX hS vc_15 hM.1) rfl rfl hl.1 rfl (lv_room (Nat.le_of_ble_eq_true rfl)) dX14_codingStatement_297 ⟨Nat.le_of_ble_eq_true rfl, Nat.le_of_ble_eq_true rfl⟩) hS (fun q _ h => h) (fun q h => h) (fun  G88 t H locs ht hvm hw hB hz1 hk1 hS => ?_)
            have hG : mm D vwCl A G88 H := by rw [← ht]; exact hB
            clear hB hz1 hk1 hvm ht
            obtain ⟨a89, ea89⟩ : ∃ y, y = q_take (tkK ft en) (tkS ft en) 6 a59.2 := ⟨_, rfl⟩
            rw [← ea89] at hw
            obtain ⟨I90, F91, hM2, hF2, hQ2, hI2, hX2⟩ := hw
            replace hF := hF.tr hF2; replace hM := hM2; clear hM2 hF2
            have hQ := hQ2; have hIZ := (IZ_x hI2).trans hIZ; have hFr := hFr.fx hX2; have hC := hC.fx hI2 hX2
            have hFr9 := hFr9.fx hX2
            have p92 : F91 1 (bo) = nI (v9.nC + 1) := (congrFun (FXe hX2 (by decide)) _).trans p81
            have p93 : F91 11 (12 * bo + v9.nC) = 3 := (congrFun (FXe hX2 (by decide)) _).trans p82
            have p94 : F91 9 (12 * bo + v9.nC) = Fj 9 (12 * bo + v9.nC) := (congrFun (FXe hX2 (by decide)) _).trans p83
            have p95 : F91 10 (12 * bo + v9.nC) = Fj 10 (12 * bo + v9.nC) := (congrFun (FXe hX2 (by decide)) _).trans p84
            have p96 : F91 16 (96 * bo + (8 * v9.nC + j9)) = r39 := (congrFun (FXe hX2 (by decide)) _).trans p85
            have p97 : F91 17 (96 * bo + (8 * v9.nC + j9)) = r57 := (congrFun (FXe hX2 (by decide)) _).trans p86
            have p98 : F91 15 (12 * bo + v9.nC) = nI (j9 + 1) := (congrFun (FXe hX2 (by decide)) _).trans p87
            clear hI2 hX2 hQ2
            have ga89 : a59.2.1 ≤ a89.1 := by rw [ea89]; exact ge_take
            have da89 : a89.2 < 0 → _ := fun z => ad_take hSn (by rw [← ea89]; exact z)
            rw [← ea89] at da89
            have hc1 : qj.1 + 1 ≤ a89.1 + 1 := by omega
            have hc2 : a89.2 < 0 → qj.1 + 1 ≤ a89.1 := fun z => by have := da89 z; omega
            refine lv_goto (tgt := 173) hx hb dX14_codingStatement_300 (by decide) ?_
            have hqr : q_row (tkK ft en) (tkS ft en) (tkV ft en) j9 qj = ((a41.1, tkS ft en qj.1, a59.1, tkS ft en a41.2.1), a89) := by simp only [q_row, if_neg (show ¬ j9 = 8 by omega), ← ea41, ← ea59, ← ea89]
            have hR2 : q_rows (tkK ft en) (tkS ft en) (tkV ft en) n (j9 + 1) a89 (dup' dj j9 (a41.1, tkS ft en qj.1, a59.1, tkS ft en a41.2.1)) = RP := by rw [← hR, q_rows, if_pos hse, hqr]
            have hcr2 : a89.2 < 0 → (clA qj clj (6, qj.1, v9.nC, j9)) ++ clRs (tkK ft en) (tkS ft en) (tkV ft en) v9.nC n (j9 + 1) a89 = CR := fun z => by rw [← hcr hnq.1, clRs, if_pos hse, hqr]; unfold clA; rw [if_pos hnq.1, List.append_assoc]; rfl
            have hRw2 : a89.2 < 0 → ∀ r, r < j9 + 1 → RWf (tkK ft en) (tkV ft en) (a89.1 + 1) F91 (96 * bo + (8 * v9.nC + r)) ((dup' dj j9 (a41.1, tkS ft en qj.1, a59.1, tkS ft en a41.2.1)) r) := by
              intro z r hr
              have y2 := da89 z; have y1 := da59 y2.1; have y0 := da41 y1.1
              rcases Nat.lt_or_ge r j9 with y | y
              · rw [show (dup' dj j9 (a41.1, tkS ft en qj.1, a59.1, tkS ft en a41.2.1)) r = dj r from if_neg (by omega)]
                exact (hRw hnq.1 r y).mv (by omega) (hFr9 16 _ (by unfold lxA; omega) (by unfold wR; omega)) (hFr9 17 _ (by unfold lxA; omega) (by unfold wR; omega))
              · rw [show r = j9 by omega, show (dup' dj j9 (a41.1, tkS ft en qj.1, a59.1, tkS ft en a41.2.1)) j9 = _ from if_pos rfl]
                exact ⟨p96.trans (hr39 y1.1), (hr57.mono (by omega)).cg p97.symm⟩
            exact ih (j9 + 1) a89 (dup' dj j9 (a41.1, tkS ft en qj.1, a59.1, tkS ft en a41.2.1)) I90 F91 (clA qj clj (6, qj.1, v9.nC, j9)) (qj.1 + 1) RP CR st9 w9 a9n hR2 (by omega) hlim (fun _ => hj7) hqs hcr2 hCR hQ hC hc1 hc2 hIZ hFr (by omega) p92 (fun z => by rw [p94]; have y2 := da89 z; have y1 := da59 y2.1; exact (h9 hnq.1).mono (by omega)) (fun z => by rw [p95]; exact h10 hnq.1) p93 p98 hRw2 G88 hM hF _ _ hG hS ls (lv_sub hl [1, 2, 3] rfl)
          · skip
            refine lv_aload_n hx hb dX14_codingStatement_204 rfl (lv_at hl 0 rfl) ?_
            refine lv_iconst (v := 0) hx hb dX14_codingStatement_205 (by decide) ?_
            refine mm_put (v := .int 0) (ty := .boolean) hx hb hf_X14 (fun _ h9 => h9) tyX14 tyX14_ok nmX14 hown hK hG hS hM.1 rfl 55 (by decide) (tb_use hT tw_1446) (fun _ h9 => h9) rfl (by decide +kernel) rfl rfl (mfs_l55 _ _) dX14_codingStatement_206 (fun H locs hG hS => ?_)
            have hM := MD.puti (k := 55) (v := 0) hM (mfs_s55 _ _ _)
            have hF := hF.wo (e' := .inr (15, (mfs Ar Ij).set 55 (.int 0)))
            obtain ⟨I99, eI99⟩ : ∃ g, g = upd Ij 55 0 := ⟨_, rfl⟩
            rw [← eI99] at hM
            have hgn := gn_MD hG hM hF
            clear hG hM hF
            obtain ⟨G100, hG, hM, hF⟩ := hgn
            have hIZ : IZ I99 = IZ Iv := by rw [eI99, IZ_up (by decide)]; exact hIZ
            have hC : CLq I99 Fj ft en clj cj := by rw [eI99]; exact hC.wI (by decide)
            have hQ : LXq Ar I99 Fj ft sx fr en bo (qj.1, tkS ft en qj.1) := by rw [eI99]; exact hQ.set55 (by rw [if_neg (hSn _)])
            have hj9 : j9 = 8 := nI_inj (by omega) (by decide) c_201
            have hqe : (q_cod (tkK ft en) (tkS ft en) (tkV ft en) v9.nC q).1 = (qj.1, tkS ft en qj.1) := by rw [hqs, ← hR, q_rows, if_pos hse, hj9, q_row_8 hSn hnq.1, q_rows_f (q := (qj.1, tkS ft en qj.1)) (hSn _)]; dsimp only; rw [q_take_f (q := (qj.1, tkS ft en qj.1)) (hSn _)]
            exact W.vret hx hb hr (fun t ht hW => ⟨⟨_, rfl, ⟨_, _, _, hM, hF, (by rw [hqe]; exact hQ), hIZ, hFr, (by rw [hqe]; exact hC.le (by (try dsimp only); omega)), (by rw [hqe]; (try dsimp only); omega), (by rw [hqe]; exact fun z => absurd z (hSn _))⟩, mk_end hG ht⟩, hS.F ht⟩) hS.2.2 dX14_codingStatement_209
  refine lv_aload_n hx hb dX14_codingStatement_0 rfl (lv_at hl 0 rfl) ?_
  refine mm_get (v := .int (Iv 41)) hx hb hf_X14 (fun _ h9 => h9) hown hK hG hM.1 rfl 41 (by decide) (tb_use hT tw_1432) (fun _ h9 => h9) (mfs_g41 _ _) dX14_codingStatement_1 ?_
  rw [hbo]
  refine lv_istore_n (lv' := [(1, .int (nI bo)), (0, .ref o)]) hx hb dX14_codingStatement_4 rfl hl (by decide) rfl (fun ls hl => ?_)
  refine lv_aload_n hx hb dX14_codingStatement_5 rfl (lv_at hl 1 rfl) ?_
  refine lv_aload_n hx hb dX14_codingStatement_6 rfl (lv_at hl 1 rfl) ?_
  refine mm_get (v := .ref (Ar 1)) hx hb hf_X14 (fun _ h9 => h9) hown hK hG hM.1 rfl 1 (by decide) (tb_use hT tw_1392) (fun _ h9 => h9) (mfs_g1 _ _) dX14_codingStatement_7 ?_
  refine lv_iload_n hx hb dX14_codingStatement_10 rfl (lv_at hl 0 rfl) ?_
  refine mm_iald (n := 2) (f := F 1) hx hb hK hG 1 (hM.2.1 1 rfl) rfl (by exact nI_in (N := 2) (by omega) (by decide)) dX14_codingStatement_11 ?_
  refine lv_topi (fun x101 ex101 => ?_)
  rw [show x101 = nI v9.nC by rw [ex101, nI_clamp (by omega)]; exact hn]
  refine lv_bipush (v := 12) hx hb dX14_codingStatement_12 (by decide) ?_
  refine va_calli (va_runV (As := [.int (nI v9.nC), .int 12]) (rest := []) ⟨hx, hb, hml, hown, (fun _ h9 => absurd h9 List.not_mem_nil : ∀ w ∈ ([] : List Cond), w.before _ s = true)⟩ (c_M_begins l D cy A X hst hXT G o Ar Iv F L ft sx fr en bo q (nI v9.nC) 12 hM hQ hkb) (tb_cw (C := RX14) 2 hT tw_1701 tw_109 tw_1698 tw_1700 tw_69 rfl rfl hq_X14_begins ⟨Nat.le_of_ble_eq_true rfl, Nat.le_of_ble_eq_true rfl⟩) (mk_preC hst hG hK hA hX hS vc_15 hM.1) rfl rfl hl.1 rfl (lv_room (Nat.le_of_ble_eq_true rfl)) dX14_codingStatement_14 ⟨Nat.le_of_ble_eq_true rfl, Nat.le_of_ble_eq_true rfl⟩) hS (fun q _ h => h) (fun q h => h) (fun r102 G103 t H locs ht hvm hw hB hz1 hk1 hS => ?_)
  have hG : mm D vwCl A G103 H := by rw [← ht]; exact hB
  clear hB hz1 hk1 hvm ht
  obtain ⟨a104, ea104⟩ : ∃ y, y = q_begin (tkS ft en) (nI v9.nC) 12 q := ⟨_, rfl⟩
  rw [← ea104] at hw
  obtain ⟨hr102, I105, F106, hM2, hF2, hQ2, hI2, hX2⟩ := hw
  replace hF := hF.tr hF2; replace hM := hM2; clear hM2 hF2
  have hQ := hQ2; have hIZ := (IZ_x hI2).trans hIZ; have hFr := hFr.fx hX2; have hC := hC.fx hI2 hX2
  have p107 : F106 1 (bo) = nI v9.nC := (congrFun (FXe hX2 (by decide)) _).trans hn
  clear hI2 hX2 hQ2
  have ga104 : q.1 ≤ a104.1 := by rw [ea104]; exact ge_begin
  have da104 : a104.2 < 0 → _ := fun z => ad_begin hSn (by rw [← ea104]; exact z)
  rw [← ea104] at da104
  have hc1 : c9 ≤ a104.1 + 1 := by omega
  have hc2 : a104.2 < 0 → c9 ≤ a104.1 := fun z => by have := da104 z; omega
  refine lv_if_ne (tgt := 21) hx hb dX14_codingStatement_17 (by decide) (fun c_17 => ?_) (fun c_17 => ?_)
  · skip
    have hb0 : a104.2 < 0 := of_decide_eq_true (b2i_t (by rw [← hr102]; exact c_17))
    have hlim : v9.nC < 12 := nI_lt_of (by omega) (by decide) (Int32.not_le.mpr (da104 hb0).2.1)
    refine lv_aload_n hx hb dX14_codingStatement_21 rfl (lv_at hl 1 rfl) ?_
    refine mm_get (v := .ref (Ar 1)) hx hb hf_X14 (fun _ h9 => h9) hown hK hG hM.1 rfl 1 (by decide) (tb_use hT tw_1392) (fun _ h9 => h9) (mfs_g1 _ _) dX14_codingStatement_22 ?_
    refine lv_iload_n hx hb dX14_codingStatement_25 rfl (lv_at hl 0 rfl) ?_
    refine mm_iald (n := 2) (f := F106 1) hx hb hK hG 1 (hM.2.1 1 rfl) rfl (by exact nI_in (N := 2) (by omega) (by decide)) dX14_codingStatement_26 ?_
    refine lv_topi (fun x108 ex108 => ?_)
    rw [show x108 = nI v9.nC by rw [ex108, nI_clamp (by omega)]; exact p107]
    refine lv_istore_n (lv' := [(2, .int (nI v9.nC)), (1, .int (nI bo)), (0, .ref o)]) hx hb dX14_codingStatement_27 rfl hl (by decide) rfl (fun ls hl => ?_)
    refine lv_aload_n hx hb dX14_codingStatement_28 rfl (lv_at hl 2 rfl) ?_
    refine lv_iconst (v := 1) hx hb dX14_codingStatement_29 (by decide) ?_
    refine lv_iload_n hx hb dX14_codingStatement_30 rfl (lv_at hl 0 rfl) ?_
    refine lv_iconst (v := 0) hx hb dX14_codingStatement_31 (by decide) ?_
    refine va_callv (va_runV (As := [.int 1, .int (nI v9.nC), .int 0]) (rest := []) ⟨hx, hb, hml, hown, (fun _ h9 => absurd h9 List.not_mem_nil : ∀ w ∈ ([] : List Cond), w.before _ s = true)⟩ (c_M_claimq l D cy A X hst hXT G103 o Ar I105 F106 L ft sx fr en bo a104 cl c9 1 v9.nC 0 hM hQ hC hc1 hc2) (tb_cw (C := RX14) 3 hT tw_1709 tw_109 tw_1706 tw_1708 tw_71 rfl rfl hq_X14_claim ⟨Nat.le_of_ble_eq_true rfl, Nat.le_of_ble_eq_true rfl⟩) (mk_preC hst hG hK hA hX hS vc_15 hM.1) rfl rfl hl.1 rfl (lv_room (Nat.le_of_ble_eq_true rfl)) dX14_codingStatement_32 ⟨Nat.le_of_ble_eq_true rfl, Nat.le_of_ble_eq_true rfl⟩) hS (fun q _ h => h) (fun q h => h) (fun  G109 t H locs ht hvm hw hB hz1 hk1 hS => ?_)
    have hG : mm D vwCl A G109 H := by rw [← ht]; exact hB
    clear hB hz1 hk1 hvm ht
    obtain ⟨I110, F111, hM2, hF2, hQ2, hC2, hI2, hX2⟩ := hw
    replace hF := hF.tr hF2; replace hM := hM2; clear hM2 hF2
    have hQ := hQ2; have hC := hC2; have hIZ := hI2.trans hIZ
    have hFr : FrW (wC bo v9.nC) F F111 := fun j i h1 h2 => (congrFun (hX2 j (fun z => h1 (by unfold lxA; omega))) i).trans (hFr j i h1 h2)
    have p112 : F111 1 (bo) = nI v9.nC := (congrFun (hX2 1 (by decide)) _).trans p107
    clear hI2 hX2 hQ2 hC2
    have hc1 : a104.1 + 1 ≤ a104.1 + 1 := Nat.le_refl _
    refine lv_aload_n hx hb dX14_codingStatement_35 rfl (lv_at hl 2 rfl) ?_
    refine mm_get (v := .ref (Ar 9)) hx hb hf_X14 (fun _ h9 => h9) hown hK hG hM.1 rfl 9 (by decide) (tb_use hT tw_1400) (fun _ h9 => h9) (mfs_g9 _ _) dX14_codingStatement_36 ?_
    refine lv_bipush (v := 12) hx hb dX14_codingStatement_39 (by decide) ?_
    refine lv_iload_n hx hb dX14_codingStatement_41 rfl (lv_at hl 1 rfl) ?_
    refine lv_imul hx hb dX14_codingStatement_42 ?_
    refine lv_iload_n hx hb dX14_codingStatement_43 rfl (lv_at hl 0 rfl) ?_
    refine lv_iadd hx hb dX14_codingStatement_44 ?_
    refine lv_aload_n hx hb dX14_codingStatement_45 rfl (lv_at hl 2 rfl) ?_
    refine va_calli (va_runV (As := []) (rest := [.int ((12 * (nI bo)) + (nI v9.nC)), .ref (Ar 9)]) ⟨hx, hb, hml, hown, (fun _ h9 => absurd h9 List.not_mem_nil : ∀ w ∈ ([] : List Cond), w.before _ s = true)⟩ (c_M_name l D cy A X hst hXT G109 o Ar I110 F111 L ft sx fr en bo a104 hM hQ) (tb_cw (C := RX14) 0 hT tw_1713 tw_109 tw_1710 tw_1712 tw_72 rfl rfl hq_X14_name ⟨Nat.le_of_ble_eq_true rfl, Nat.le_of_ble_eq_true rfl⟩) (mk_preC hst hG hK hA hX hS vc_15 hM.1) rfl rfl hl.1 rfl (lv_room (Nat.le_of_ble_eq_true rfl)) dX14_codingStatement_46 ⟨Nat.le_of_ble_eq_true rfl, Nat.le_of_ble_eq_true rfl⟩) hS (fun q _ h => h) (fun q h => h) (fun r113 G114 t H locs ht hvm hw hB hz1 hk1 hS => ?_)
    have hG : mm D vwCl A G114 H := by rw [← ht]; exact hB
    clear hB hz1 hk1 hvm ht
    obtain ⟨a115, ea115⟩ : ∃ y, y = q_name (tkK ft en) (tkS ft en) (tkV ft en) a104 := ⟨_, rfl⟩
    rw [← ea115] at hw
    obtain ⟨hr113, I116, F117, hM2, hF2, hQ2, hI2, hX2⟩ := hw
    replace hF := hF.tr hF2; replace hM := hM2; clear hM2 hF2
    have hQ := hQ2; have hIZ := (IZ_x hI2).trans hIZ; have hFr := hFr.fx hX2; have hC := hC.fx hI2 hX2
    have p118 : F117 1 (bo) = nI v9.nC := (congrFun (FXe hX2 (by decide)) _).trans p112
    clear hI2 hX2 hQ2
    have ga115 : a104.1 ≤ a115.2.1 := by rw [ea115]; exact ge_name
    have da115 : a115.2.2 < 0 → _ := fun z => ad_name hSn (by rw [← ea115]; exact z)
    rw [← ea115] at da115
    have hc1 : a104.1 + 1 ≤ a115.2.1 + 1 := by omega
    have hc2 : a115.2.2 < 0 → a104.1 + 1 ≤ a115.2.1 := fun z => by have := da115 z; omega
    refine mm_iast (n := mdN 9) (f := F117 9) hx hb hK hG hS 1 (hM.2.1 9 rfl) rfl (by rw [show (((12 * (nI bo)) + (nI v9.nC)) : Int32) = nI (12 * bo + v9.nC) by show (((nI 12 * (nI bo)) + (nI v9.nC)) : Int32) = _; simp only [nI_mu, nI_add]]; exact nI_in (N := mdN 9) (by show _ < 24; omega) (by decide)) dX14_codingStatement_49 (fun H locs hG hS => ?_)
    have hM := MD.seti (k := 9) (upd (F117 9) ((12 * (nI bo)) + (nI v9.nC)).toNatClampNeg r113) hM rfl
    have hF := hF.wa (k := 9) (e' := .inl (cy 1, mdN 9, .inl (upd (F117 9) ((12 * (nI bo)) + (nI v9.nC)).toNatClampNeg r113))) rfl
    obtain ⟨F119, eF119⟩ : ∃ g, g = va_up F117 9 (upd (F117 9) ((12 * (nI bo)) + (nI v9.nC)).toNatClampNeg r113) := ⟨_, rfl⟩
    rw [← eF119] at hM
    have hgn := gn_MD hG hM hF
    clear hG hM hF
    obtain ⟨G120, hG, hM, hF⟩ := hgn
    rw [show (((12 * (nI bo)) + (nI v9.nC)) : Int32) = nI (12 * bo + v9.nC) by show (((nI 12 * (nI bo)) + (nI v9.nC)) : Int32) = _; simp only [nI_mu, nI_add], nI_clamp (by omega)] at eF119
    have p121 : F119 1 (bo) = nI v9.nC := by rw [eF119, va_up_ne _ _ (by decide)]; exact p118
    have p122 : F119 9 (12 * bo + v9.nC) = r113 := by rw [eF119, va_up_self, pk_us]
    have hFr : FrW (wC bo v9.nC) F F119 := by rw [eF119]; exact hFr.up (by unfold wC; omega)
    have hQ : LXq Ar I116 F119 ft sx fr en bo a115.2 := by rw [eF119]; exact hQ.wF (by decide)
    have hC : CLq I116 F119 ft en (clA a104 cl (1, a104.1, v9.nC, 0)) (a104.1 + 1) := by rw [eF119]; exact hC.wF (by decide)
    refine lv_aload_n hx hb dX14_codingStatement_50 rfl (lv_at hl 2 rfl) ?_
    refine mm_get (v := .ref (Ar 1)) hx hb hf_X14 (fun _ h9 => h9) hown hK hG hM.1 rfl 1 (by decide) (tb_use hT tw_1392) (fun _ h9 => h9) (mfs_g1 _ _) dX14_codingStatement_51 ?_
    refine lv_iload_n hx hb dX14_codingStatement_54 rfl (lv_at hl 1 rfl) ?_
    refine lv_dup2_11 hx hb dX14_codingStatement_55 rfl rfl ?_
    refine mm_iald (n := 2) (f := F119 1) hx hb hK hG 1 (hM.2.1 1 rfl) rfl (by exact nI_in (N := 2) (by omega) (by decide)) dX14_codingStatement_56 ?_
    refine lv_topi (fun x123 ex123 => ?_)
    rw [show x123 = nI v9.nC by rw [ex123, nI_clamp (by omega)]; exact p121]
    refine lv_iconst (v := 1) hx hb dX14_codingStatement_57 (by decide) ?_
    refine lv_iadd hx hb dX14_codingStatement_58 ?_
    rw [show nI v9.nC + 1 = nI (v9.nC + 1) from nI_1 _]
    refine lv_topi (fun x124 ex124 => ?_)
    refine mm_iast (n := mdN 1) (f := F119 1) hx hb hK hG hS 1 (hM.2.1 1 rfl) rfl (by exact nI_in (N := mdN 1) (by show _ < 2; omega) (by decide)) dX14_codingStatement_59 (fun H locs hG hS => ?_)
    have hM := MD.seti (k := 1) (upd (F119 1) (nI bo).toNatClampNeg x124) hM rfl
    have hF := hF.wa (k := 1) (e' := .inl (cy 1, mdN 1, .inl (upd (F119 1) (nI bo).toNatClampNeg x124))) rfl
    obtain ⟨F125, eF125⟩ : ∃ g, g = va_up F119 1 (upd (F119 1) (nI bo).toNatClampNeg x124) := ⟨_, rfl⟩
    rw [← eF125] at hM
    have hgn := gn_MD hG hM hF
    clear hG hM hF
    obtain ⟨G126, hG, hM, hF⟩ := hgn
    rw [nI_clamp (by omega)] at eF125
    have p127 : F125 9 (12 * bo + v9.nC) = r113 := by rw [eF125, va_up_ne _ _ (by decide)]; exact p122
    have p128 : F125 1 (bo) = nI (v9.nC + 1) := by rw [eF125, va_up_self, pk_us, ex124]
    have hFr : FrW (wC bo v9.nC) F F125 := by rw [eF125]; exact hFr.up (by unfold wC; omega)
    have hQ : LXq Ar I116 F125 ft sx fr en bo a115.2 := by rw [eF125]; exact hQ.wF (by decide)
    have hC : CLq I116 F125 ft en (clA a104 cl (1, a104.1, v9.nC, 0)) (a104.1 + 1) := by rw [eF125]; exact hC.wF (by decide)
    refine lv_aload_n hx hb dX14_codingStatement_60 rfl (lv_at hl 2 rfl) ?_
    refine lv_bipush (v := 61) hx hb dX14_codingStatement_61 (by decide) ?_
    refine va_callv (va_runV (As := [.int 61]) (rest := []) ⟨hx, hb, hml, hown, (fun _ h9 => absurd h9 List.not_mem_nil : ∀ w ∈ ([] : List Cond), w.before _ s = true)⟩ (c_M_mark l D cy A X hst hXT G126 o Ar I116 F125 L ft sx fr en bo a115.2 8 hM hQ (by decide) (by decide)) (tb_cw (C := RX14) 1 hT tw_1717 tw_109 tw_1714 tw_1716 tw_73 rfl rfl hq_X14_mark ⟨Nat.le_of_ble_eq_true rfl, Nat.le_of_ble_eq_true rfl⟩) (mk_preC hst hG hK hA hX hS vc_15 hM.1) rfl rfl hl.1 rfl (lv_room (Nat.le_of_ble_eq_true rfl)) dX14_codingStatement_63 ⟨Nat.le_of_ble_eq_true rfl, Nat.le_of_ble_eq_true rfl⟩) hS (fun q _ h => h) (fun q h => h) (fun  G129 t H locs ht hvm hw hB hz1 hk1 hS => ?_)
    have hG : mm D vwCl A G129 H := by rw [← ht]; exact hB
    clear hB hz1 hk1 hvm ht
    obtain ⟨a130, ea130⟩ : ∃ y, y = q_take (tkK ft en) (tkS ft en) 8 a115.2 := ⟨_, rfl⟩
    rw [← ea130] at hw
    obtain ⟨I131, F132, hM2, hF2, hQ2, hI2, hX2⟩ := hw
    replace hF := hF.tr hF2; replace hM := hM2; clear hM2 hF2
    have hQ := hQ2; have hIZ := (IZ_x hI2).trans hIZ; have hFr := hFr.fx hX2; have hC := hC.fx hI2 hX2
    have p133 : F132 9 (12 * bo + v9.nC) = r113 := (congrFun (FXe hX2 (by decide)) _).trans p127
    have p134 : F132 1 (bo) = nI (v9.nC + 1) := (congrFun (FXe hX2 (by decide)) _).trans p128
    clear hI2 hX2 hQ2
    have ga130 : a115.2.1 ≤ a130.1 := by rw [ea130]; exact ge_take
    have da130 : a130.2 < 0 → _ := fun z => ad_take hSn (by rw [← ea130]; exact z)
    rw [← ea130] at da130
    have hc1 : a104.1 + 1 ≤ a130.1 + 1 := by omega
    have hc2 : a130.2 < 0 → a104.1 + 1 ≤ a130.1 := fun z => by have := da130 z; omega
    refine lv_aload_n hx hb dX14_codingStatement_66 rfl (lv_at hl 2 rfl) ?_
    refine mm_get (v := .ref (Ar 10)) hx hb hf_X14 (fun _ h9 => h9) hown hK hG hM.1 rfl 10 (by decide) (tb_use hT tw_1401) (fun _ h9 => h9) (mfs_g10 _ _) dX14_codingStatement_67 ?_
    refine lv_bipush (v := 12) hx hb dX14_codingStatement_70 (by decide) ?_
    refine lv_iload_n hx hb dX14_codingStatement_72 rfl (lv_at hl 1 rfl) ?_
    refine lv_imul hx hb dX14_codingStatement_73 ?_
    refine lv_iload_n hx hb dX14_codingStatement_74 rfl (lv_at hl 0 rfl) ?_
    refine lv_iadd hx hb dX14_codingStatement_75 ?_
    refine lv_aload_n hx hb dX14_codingStatement_76 rfl (lv_at hl 2 rfl) ?_
    refine lv_iconst (v := 1) hx hb dX14_codingStatement_77 (by decide) ?_
    refine lv_iconst (v := 4) hx hb dX14_codingStatement_78 (by decide) ?_
    refine va_calli (va_runV (As := [.int 1, .int 4]) (rest := [.int ((12 * (nI bo)) + (nI v9.nC)), .ref (Ar 10)]) ⟨hx, hb, hml, hown, (fun _ h9 => absurd h9 List.not_mem_nil : ∀ w ∈ ([] : List Cond), w.before _ s = true)⟩ (c_M_number l D cy A X hst hXT G129 o Ar I131 F132 L ft sx fr en bo a130 1 4 1 4 hM hQ rfl rfl (by decide) (by decide)) (tb_cw (C := RX14) 2 hT tw_1721 tw_109 tw_1718 tw_1720 tw_74 rfl rfl hq_X14_number ⟨Nat.le_of_ble_eq_true rfl, Nat.le_of_ble_eq_true rfl⟩) (mk_preC hst hG hK hA hX hS vc_15 hM.1) rfl rfl hl.1 rfl (lv_room (Nat.le_of_ble_eq_true rfl)) dX14_codingStatement_79 ⟨Nat.le_of_ble_eq_true rfl, Nat.le_of_ble_eq_true rfl⟩) hS (fun q _ h => h) (fun q h => h) (fun r135 G136 t H locs ht hvm hw hB hz1 hk1 hS => ?_)
    have hG : mm D vwCl A G136 H := by rw [← ht]; exact hB
    clear hB hz1 hk1 hvm ht
    obtain ⟨a137, ea137⟩ : ∃ y, y = q_num (tkK ft en) (tkS ft en) (tkV ft en) 1 4 a130 := ⟨_, rfl⟩
    rw [← ea137] at hw
    obtain ⟨hr135, I138, F139, hM2, hF2, hQ2, hI2, hX2⟩ := hw
    replace hF := hF.tr hF2; replace hM := hM2; clear hM2 hF2
    have hQ := hQ2; have hIZ := (IZ_x hI2).trans hIZ; have hFr := hFr.fx hX2; have hC := hC.fx hI2 hX2
    have p140 : F139 9 (12 * bo + v9.nC) = r113 := (congrFun (FXe hX2 (by decide)) _).trans p133
    have p141 : F139 1 (bo) = nI (v9.nC + 1) := (congrFun (FXe hX2 (by decide)) _).trans p134
    clear hI2 hX2 hQ2
    have ga137 : a130.1 ≤ a137.2.1 := by rw [ea137]; exact ge_num
    have da137 : a137.2.2 < 0 → _ := fun z => ad_num hSn (by rw [← ea137]; exact z)
    rw [← ea137] at da137
    have hc1 : a104.1 + 1 ≤ a137.2.1 + 1 := by omega
    have hc2 : a137.2.2 < 0 → a104.1 + 1 ≤ a137.2.1 := fun z => by have := da137 z; omega
    refine mm_iast (n := mdN 10) (f := F139 10) hx hb hK hG hS 1 (hM.2.1 10 rfl) rfl (by rw [show (((12 * (nI bo)) + (nI v9.nC)) : Int32) = nI (12 * bo + v9.nC) by show (((nI 12 * (nI bo)) + (nI v9.nC)) : Int32) = _; simp only [nI_mu, nI_add]]; exact nI_in (N := mdN 10) (by show _ < 24; omega) (by decide)) dX14_codingStatement_82 (fun H locs hG hS => ?_)
    have hM := MD.seti (k := 10) (upd (F139 10) ((12 * (nI bo)) + (nI v9.nC)).toNatClampNeg r135) hM rfl
    have hF := hF.wa (k := 10) (e' := .inl (cy 1, mdN 10, .inl (upd (F139 10) ((12 * (nI bo)) + (nI v9.nC)).toNatClampNeg r135))) rfl
    obtain ⟨F142, eF142⟩ : ∃ g, g = va_up F139 10 (upd (F139 10) ((12 * (nI bo)) + (nI v9.nC)).toNatClampNeg r135) := ⟨_, rfl⟩
    rw [← eF142] at hM
    have hgn := gn_MD hG hM hF
    clear hG hM hF
    obtain ⟨G143, hG, hM, hF⟩ := hgn
    rw [show (((12 * (nI bo)) + (nI v9.nC)) : Int32) = nI (12 * bo + v9.nC) by show (((nI 12 * (nI bo)) + (nI v9.nC)) : Int32) = _; simp only [nI_mu, nI_add], nI_clamp (by omega)] at eF142
    have p144 : F142 9 (12 * bo + v9.nC) = r113 := by rw [eF142, va_up_ne _ _ (by decide)]; exact p140
    have p145 : F142 1 (bo) = nI (v9.nC + 1) := by rw [eF142, va_up_ne _ _ (by decide)]; exact p141
    have p146 : F142 10 (12 * bo + v9.nC) = r135 := by rw [eF142, va_up_self, pk_us]
    have hFr : FrW (wC bo v9.nC) F F142 := by rw [eF142]; exact hFr.up (by unfold wC; omega)
    have hQ : LXq Ar I138 F142 ft sx fr en bo a137.2 := by rw [eF142]; exact hQ.wF (by decide)
    have hC : CLq I138 F142 ft en (clA a104 cl (1, a104.1, v9.nC, 0)) (a104.1 + 1) := by rw [eF142]; exact hC.wF (by decide)
    refine lv_aload_n hx hb dX14_codingStatement_83 rfl (lv_at hl 2 rfl) ?_
    refine lv_iconst (v := 2) hx hb dX14_codingStatement_84 (by decide) ?_
    refine va_callv (va_runV (As := [.int 2]) (rest := []) ⟨hx, hb, hml, hown, (fun _ h9 => absurd h9 List.not_mem_nil : ∀ w ∈ ([] : List Cond), w.before _ s = true)⟩ (c_M_wordk l D cy A X hst hXT G143 o Ar I138 F142 L ft sx fr en bo a137.2 2 12 hM hQ (by decide) (by decide) rfl) (tb_cw (C := RX14) 1 hT tw_1725 tw_109 tw_1722 tw_1724 tw_75 rfl rfl hq_X14_word ⟨Nat.le_of_ble_eq_true rfl, Nat.le_of_ble_eq_true rfl⟩) (mk_preC hst hG hK hA hX hS vc_15 hM.1) rfl rfl hl.1 rfl (lv_room (Nat.le_of_ble_eq_true rfl)) dX14_codingStatement_85 ⟨Nat.le_of_ble_eq_true rfl, Nat.le_of_ble_eq_true rfl⟩) hS (fun q _ h => h) (fun q h => h) (fun  G147 t H locs ht hvm hw hB hz1 hk1 hS => ?_)
    have hG : mm D vwCl A G147 H := by rw [← ht]; exact hB
    clear hB hz1 hk1 hvm ht
    obtain ⟨a148, ea148⟩ : ∃ y, y = q_take (tkK ft en) (tkS ft en) 12 a137.2 := ⟨_, rfl⟩
    rw [← ea148] at hw
    obtain ⟨I149, F150, hM2, hF2, hQ2, hI2, hX2⟩ := hw
    replace hF := hF.tr hF2; replace hM := hM2; clear hM2 hF2
    have hQ := hQ2; have hIZ := (IZ_x hI2).trans hIZ; have hFr := hFr.fx hX2; have hC := hC.fx hI2 hX2
    have p151 : F150 9 (12 * bo + v9.nC) = r113 := (congrFun (FXe hX2 (by decide)) _).trans p144
    have p152 : F150 1 (bo) = nI (v9.nC + 1) := (congrFun (FXe hX2 (by decide)) _).trans p145
    have p153 : F150 10 (12 * bo + v9.nC) = r135 := (congrFun (FXe hX2 (by decide)) _).trans p146
    clear hI2 hX2 hQ2
    have ga148 : a137.2.1 ≤ a148.1 := by rw [ea148]; exact ge_take
    have da148 : a148.2 < 0 → _ := fun z => ad_take hSn (by rw [← ea148]; exact z)
    rw [← ea148] at da148
    have hc1 : a104.1 + 1 ≤ a148.1 + 1 := by omega
    have hc2 : a148.2 < 0 → a104.1 + 1 ≤ a148.1 := fun z => by have := da148 z; omega
    refine lv_aload_n hx hb dX14_codingStatement_88 rfl (lv_at hl 2 rfl) ?_
    refine mm_get (v := .ref (Ar 11)) hx hb hf_X14 (fun _ h9 => h9) hown hK hG hM.1 rfl 11 (by decide) (tb_use hT tw_1402) (fun _ h9 => h9) (mfs_g11 _ _) dX14_codingStatement_89 ?_
    refine lv_bipush (v := 12) hx hb dX14_codingStatement_92 (by decide) ?_
    refine lv_iload_n hx hb dX14_codingStatement_94 rfl (lv_at hl 1 rfl) ?_
    refine lv_imul hx hb dX14_codingStatement_95 ?_
    refine lv_iload_n hx hb dX14_codingStatement_96 rfl (lv_at hl 0 rfl) ?_
    refine lv_iadd hx hb dX14_codingStatement_97 ?_
    refine lv_iconst (v := 0) hx hb dX14_codingStatement_98 (by decide) ?_
    refine mm_iast (n := mdN 11) (f := F150 11) hx hb hK hG hS 1 (hM.2.1 11 rfl) rfl (by rw [show (((12 * (nI bo)) + (nI v9.nC)) : Int32) = nI (12 * bo + v9.nC) by show (((nI 12 * (nI bo)) + (nI v9.nC)) : Int32) = _; simp only [nI_mu, nI_add]]; exact nI_in (N := mdN 11) (by show _ < 24; omega) (by decide)) dX14_codingStatement_99 (fun H locs hG hS => ?_)
    have hM := MD.seti (k := 11) (upd (F150 11) ((12 * (nI bo)) + (nI v9.nC)).toNatClampNeg 0) hM rfl
    have hF := hF.wa (k := 11) (e' := .inl (cy 1, mdN 11, .inl (upd (F150 11) ((12 * (nI bo)) + (nI v9.nC)).toNatClampNeg 0))) rfl
    obtain ⟨F154, eF154⟩ : ∃ g, g = va_up F150 11 (upd (F150 11) ((12 * (nI bo)) + (nI v9.nC)).toNatClampNeg 0) := ⟨_, rfl⟩
    rw [← eF154] at hM
    have hgn := gn_MD hG hM hF
    clear hG hM hF
    obtain ⟨G155, hG, hM, hF⟩ := hgn
    rw [show (((12 * (nI bo)) + (nI v9.nC)) : Int32) = nI (12 * bo + v9.nC) by show (((nI 12 * (nI bo)) + (nI v9.nC)) : Int32) = _; simp only [nI_mu, nI_add], nI_clamp (by omega)] at eF154
    have p156 : F154 9 (12 * bo + v9.nC) = r113 := by rw [eF154, va_up_ne _ _ (by decide)]; exact p151
    have p157 : F154 1 (bo) = nI (v9.nC + 1) := by rw [eF154, va_up_ne _ _ (by decide)]; exact p152
    have p158 : F154 10 (12 * bo + v9.nC) = r135 := by rw [eF154, va_up_ne _ _ (by decide)]; exact p153
    have p159 : F154 11 (12 * bo + v9.nC) = 0 := by rw [eF154, va_up_self, pk_us]
    have hFr : FrW (wC bo v9.nC) F F154 := by rw [eF154]; exact hFr.up (by unfold wC; omega)
    have hQ : LXq Ar I149 F154 ft sx fr en bo a148 := by rw [eF154]; exact hQ.wF (by decide)
    have hC : CLq I149 F154 ft en (clA a104 cl (1, a104.1, v9.nC, 0)) (a104.1 + 1) := by rw [eF154]; exact hC.wF (by decide)
    refine lv_aload_n hx hb dX14_codingStatement_100 rfl (lv_at hl 2 rfl) ?_
    refine mm_get (v := .ref (Ar 12)) hx hb hf_X14 (fun _ h9 => h9) hown hK hG hM.1 rfl 12 (by decide) (tb_use hT tw_1403) (fun _ h9 => h9) (mfs_g12 _ _) dX14_codingStatement_101 ?_
    refine lv_bipush (v := 12) hx hb dX14_codingStatement_104 (by decide) ?_
    refine lv_iload_n hx hb dX14_codingStatement_106 rfl (lv_at hl 1 rfl) ?_
    refine lv_imul hx hb dX14_codingStatement_107 ?_
    refine lv_iload_n hx hb dX14_codingStatement_108 rfl (lv_at hl 0 rfl) ?_
    refine lv_iadd hx hb dX14_codingStatement_109 ?_
    refine lv_iconst (v := 0) hx hb dX14_codingStatement_110 (by decide) ?_
    refine mm_iast (n := mdN 12) (f := F154 12) hx hb hK hG hS 1 (hM.2.1 12 rfl) rfl (by rw [show (((12 * (nI bo)) + (nI v9.nC)) : Int32) = nI (12 * bo + v9.nC) by show (((nI 12 * (nI bo)) + (nI v9.nC)) : Int32) = _; simp only [nI_mu, nI_add]]; exact nI_in (N := mdN 12) (by show _ < 24; omega) (by decide)) dX14_codingStatement_111 (fun H locs hG hS => ?_)
    have hM := MD.seti (k := 12) (upd (F154 12) ((12 * (nI bo)) + (nI v9.nC)).toNatClampNeg 0) hM rfl
    have hF := hF.wa (k := 12) (e' := .inl (cy 1, mdN 12, .inl (upd (F154 12) ((12 * (nI bo)) + (nI v9.nC)).toNatClampNeg 0))) rfl
    obtain ⟨F160, eF160⟩ : ∃ g, g = va_up F154 12 (upd (F154 12) ((12 * (nI bo)) + (nI v9.nC)).toNatClampNeg 0) := ⟨_, rfl⟩
    rw [← eF160] at hM
    have hgn := gn_MD hG hM hF
    clear hG hM hF
    obtain ⟨G161, hG, hM, hF⟩ := hgn
    rw [show (((12 * (nI bo)) + (nI v9.nC)) : Int32) = nI (12 * bo + v9.nC) by show (((nI 12 * (nI bo)) + (nI v9.nC)) : Int32) = _; simp only [nI_mu, nI_add], nI_clamp (by omega)] at eF160
    have p162 : F160 9 (12 * bo + v9.nC) = r113 := by rw [eF160, va_up_ne _ _ (by decide)]; exact p156
    have p163 : F160 1 (bo) = nI (v9.nC + 1) := by rw [eF160, va_up_ne _ _ (by decide)]; exact p157
    have p164 : F160 10 (12 * bo + v9.nC) = r135 := by rw [eF160, va_up_ne _ _ (by decide)]; exact p158
    have p165 : F160 11 (12 * bo + v9.nC) = 0 := by rw [eF160, va_up_ne _ _ (by decide)]; exact p159
    have p166 : F160 12 (12 * bo + v9.nC) = 0 := by rw [eF160, va_up_self, pk_us]
    have hFr : FrW (wC bo v9.nC) F F160 := by rw [eF160]; exact hFr.up (by unfold wC; omega)
    have hQ : LXq Ar I149 F160 ft sx fr en bo a148 := by rw [eF160]; exact hQ.wF (by decide)
    have hC : CLq I149 F160 ft en (clA a104 cl (1, a104.1, v9.nC, 0)) (a104.1 + 1) := by rw [eF160]; exact hC.wF (by decide)
    refine lv_aload_n hx hb dX14_codingStatement_112 rfl (lv_at hl 2 rfl) ?_
    refine mm_get (v := .ref (Ar 13)) hx hb hf_X14 (fun _ h9 => h9) hown hK hG hM.1 rfl 13 (by decide) (tb_use hT tw_1404) (fun _ h9 => h9) (mfs_g13 _ _) dX14_codingStatement_113 ?_
    refine lv_bipush (v := 12) hx hb dX14_codingStatement_116 (by decide) ?_
    refine lv_iload_n hx hb dX14_codingStatement_118 rfl (lv_at hl 1 rfl) ?_
    refine lv_imul hx hb dX14_codingStatement_119 ?_
    refine lv_iload_n hx hb dX14_codingStatement_120 rfl (lv_at hl 0 rfl) ?_
    refine lv_iadd hx hb dX14_codingStatement_121 ?_
    refine lv_iconst (v := 0) hx hb dX14_codingStatement_122 (by decide) ?_
    refine mm_iast (n := mdN 13) (f := F160 13) hx hb hK hG hS 1 (hM.2.1 13 rfl) rfl (by rw [show (((12 * (nI bo)) + (nI v9.nC)) : Int32) = nI (12 * bo + v9.nC) by show (((nI 12 * (nI bo)) + (nI v9.nC)) : Int32) = _; simp only [nI_mu, nI_add]]; exact nI_in (N := mdN 13) (by show _ < 24; omega) (by decide)) dX14_codingStatement_123 (fun H locs hG hS => ?_)
    have hM := MD.seti (k := 13) (upd (F160 13) ((12 * (nI bo)) + (nI v9.nC)).toNatClampNeg 0) hM rfl
    have hF := hF.wa (k := 13) (e' := .inl (cy 1, mdN 13, .inl (upd (F160 13) ((12 * (nI bo)) + (nI v9.nC)).toNatClampNeg 0))) rfl
    obtain ⟨F167, eF167⟩ : ∃ g, g = va_up F160 13 (upd (F160 13) ((12 * (nI bo)) + (nI v9.nC)).toNatClampNeg 0) := ⟨_, rfl⟩
    rw [← eF167] at hM
    have hgn := gn_MD hG hM hF
    clear hG hM hF
    obtain ⟨G168, hG, hM, hF⟩ := hgn
    rw [show (((12 * (nI bo)) + (nI v9.nC)) : Int32) = nI (12 * bo + v9.nC) by show (((nI 12 * (nI bo)) + (nI v9.nC)) : Int32) = _; simp only [nI_mu, nI_add], nI_clamp (by omega)] at eF167
    have p169 : F167 9 (12 * bo + v9.nC) = r113 := by rw [eF167, va_up_ne _ _ (by decide)]; exact p162
    have p170 : F167 1 (bo) = nI (v9.nC + 1) := by rw [eF167, va_up_ne _ _ (by decide)]; exact p163
    have p171 : F167 10 (12 * bo + v9.nC) = r135 := by rw [eF167, va_up_ne _ _ (by decide)]; exact p164
    have p172 : F167 11 (12 * bo + v9.nC) = 0 := by rw [eF167, va_up_ne _ _ (by decide)]; exact p165
    have p173 : F167 12 (12 * bo + v9.nC) = 0 := by rw [eF167, va_up_ne _ _ (by decide)]; exact p166
    have p174 : F167 13 (12 * bo + v9.nC) = 0 := by rw [eF167, va_up_self, pk_us]
    have hFr : FrW (wC bo v9.nC) F F167 := by rw [eF167]; exact hFr.up (by unfold wC; omega)
    have hQ : LXq Ar I149 F167 ft sx fr en bo a148 := by rw [eF167]; exact hQ.wF (by decide)
    have hC : CLq I149 F167 ft en (clA a104 cl (1, a104.1, v9.nC, 0)) (a104.1 + 1) := by rw [eF167]; exact hC.wF (by decide)
    refine lv_aload_n hx hb dX14_codingStatement_124 rfl (lv_at hl 2 rfl) ?_
    refine mm_get (v := .ref (Ar 14)) hx hb hf_X14 (fun _ h9 => h9) hown hK hG hM.1 rfl 14 (by decide) (tb_use hT tw_1405) (fun _ h9 => h9) (mfs_g14 _ _) dX14_codingStatement_125 ?_
    refine lv_bipush (v := 12) hx hb dX14_codingStatement_128 (by decide) ?_
    refine lv_iload_n hx hb dX14_codingStatement_130 rfl (lv_at hl 1 rfl) ?_
    refine lv_imul hx hb dX14_codingStatement_131 ?_
    refine lv_iload_n hx hb dX14_codingStatement_132 rfl (lv_at hl 0 rfl) ?_
    refine lv_iadd hx hb dX14_codingStatement_133 ?_
    refine lv_iconst (v := 0) hx hb dX14_codingStatement_134 (by decide) ?_
    refine mm_iast (n := mdN 14) (f := F167 14) hx hb hK hG hS 1 (hM.2.1 14 rfl) rfl (by rw [show (((12 * (nI bo)) + (nI v9.nC)) : Int32) = nI (12 * bo + v9.nC) by show (((nI 12 * (nI bo)) + (nI v9.nC)) : Int32) = _; simp only [nI_mu, nI_add]]; exact nI_in (N := mdN 14) (by show _ < 24; omega) (by decide)) dX14_codingStatement_135 (fun H locs hG hS => ?_)
    have hM := MD.seti (k := 14) (upd (F167 14) ((12 * (nI bo)) + (nI v9.nC)).toNatClampNeg 0) hM rfl
    have hF := hF.wa (k := 14) (e' := .inl (cy 1, mdN 14, .inl (upd (F167 14) ((12 * (nI bo)) + (nI v9.nC)).toNatClampNeg 0))) rfl
    obtain ⟨F175, eF175⟩ : ∃ g, g = va_up F167 14 (upd (F167 14) ((12 * (nI bo)) + (nI v9.nC)).toNatClampNeg 0) := ⟨_, rfl⟩
    rw [← eF175] at hM
    have hgn := gn_MD hG hM hF
    clear hG hM hF
    obtain ⟨G176, hG, hM, hF⟩ := hgn
    rw [show (((12 * (nI bo)) + (nI v9.nC)) : Int32) = nI (12 * bo + v9.nC) by show (((nI 12 * (nI bo)) + (nI v9.nC)) : Int32) = _; simp only [nI_mu, nI_add], nI_clamp (by omega)] at eF175
    have p177 : F175 9 (12 * bo + v9.nC) = r113 := by rw [eF175, va_up_ne _ _ (by decide)]; exact p169
    have p178 : F175 1 (bo) = nI (v9.nC + 1) := by rw [eF175, va_up_ne _ _ (by decide)]; exact p170
    have p179 : F175 10 (12 * bo + v9.nC) = r135 := by rw [eF175, va_up_ne _ _ (by decide)]; exact p171
    have p180 : F175 11 (12 * bo + v9.nC) = 0 := by rw [eF175, va_up_ne _ _ (by decide)]; exact p172
    have p181 : F175 12 (12 * bo + v9.nC) = 0 := by rw [eF175, va_up_ne _ _ (by decide)]; exact p173
    have p182 : F175 13 (12 * bo + v9.nC) = 0 := by rw [eF175, va_up_ne _ _ (by decide)]; exact p174
    have p183 : F175 14 (12 * bo + v9.nC) = 0 := by rw [eF175, va_up_self, pk_us]
    have hFr : FrW (wC bo v9.nC) F F175 := by rw [eF175]; exact hFr.up (by unfold wC; omega)
    have hQ : LXq Ar I149 F175 ft sx fr en bo a148 := by rw [eF175]; exact hQ.wF (by decide)
    have hC : CLq I149 F175 ft en (clA a104 cl (1, a104.1, v9.nC, 0)) (a104.1 + 1) := by rw [eF175]; exact hC.wF (by decide)
    refine lv_aload_n hx hb dX14_codingStatement_136 rfl (lv_at hl 2 rfl) ?_
    refine mm_get (v := .ref (Ar 15)) hx hb hf_X14 (fun _ h9 => h9) hown hK hG hM.1 rfl 15 (by decide) (tb_use hT tw_1406) (fun _ h9 => h9) (mfs_g15 _ _) dX14_codingStatement_137 ?_
    refine lv_bipush (v := 12) hx hb dX14_codingStatement_140 (by decide) ?_
    refine lv_iload_n hx hb dX14_codingStatement_142 rfl (lv_at hl 1 rfl) ?_
    refine lv_imul hx hb dX14_codingStatement_143 ?_
    refine lv_iload_n hx hb dX14_codingStatement_144 rfl (lv_at hl 0 rfl) ?_
    refine lv_iadd hx hb dX14_codingStatement_145 ?_
    refine lv_iconst (v := 0) hx hb dX14_codingStatement_146 (by decide) ?_
    refine mm_iast (n := mdN 15) (f := F175 15) hx hb hK hG hS 1 (hM.2.1 15 rfl) rfl (by rw [show (((12 * (nI bo)) + (nI v9.nC)) : Int32) = nI (12 * bo + v9.nC) by show (((nI 12 * (nI bo)) + (nI v9.nC)) : Int32) = _; simp only [nI_mu, nI_add]]; exact nI_in (N := mdN 15) (by show _ < 24; omega) (by decide)) dX14_codingStatement_147 (fun H locs hG hS => ?_)
    have hM := MD.seti (k := 15) (upd (F175 15) ((12 * (nI bo)) + (nI v9.nC)).toNatClampNeg 0) hM rfl
    have hF := hF.wa (k := 15) (e' := .inl (cy 1, mdN 15, .inl (upd (F175 15) ((12 * (nI bo)) + (nI v9.nC)).toNatClampNeg 0))) rfl
    obtain ⟨F184, eF184⟩ : ∃ g, g = va_up F175 15 (upd (F175 15) ((12 * (nI bo)) + (nI v9.nC)).toNatClampNeg 0) := ⟨_, rfl⟩
    rw [← eF184] at hM
    have hgn := gn_MD hG hM hF
    clear hG hM hF
    obtain ⟨G185, hG, hM, hF⟩ := hgn
    rw [show (((12 * (nI bo)) + (nI v9.nC)) : Int32) = nI (12 * bo + v9.nC) by show (((nI 12 * (nI bo)) + (nI v9.nC)) : Int32) = _; simp only [nI_mu, nI_add], nI_clamp (by omega)] at eF184
    have p186 : F184 9 (12 * bo + v9.nC) = r113 := by rw [eF184, va_up_ne _ _ (by decide)]; exact p177
    have p187 : F184 1 (bo) = nI (v9.nC + 1) := by rw [eF184, va_up_ne _ _ (by decide)]; exact p178
    have p188 : F184 10 (12 * bo + v9.nC) = r135 := by rw [eF184, va_up_ne _ _ (by decide)]; exact p179
    have p189 : F184 11 (12 * bo + v9.nC) = 0 := by rw [eF184, va_up_ne _ _ (by decide)]; exact p180
    have p190 : F184 12 (12 * bo + v9.nC) = 0 := by rw [eF184, va_up_ne _ _ (by decide)]; exact p181
    have p191 : F184 13 (12 * bo + v9.nC) = 0 := by rw [eF184, va_up_ne _ _ (by decide)]; exact p182
    have p192 : F184 14 (12 * bo + v9.nC) = 0 := by rw [eF184, va_up_ne _ _ (by decide)]; exact p183
    have p193 : F184 15 (12 * bo + v9.nC) = 0 := by rw [eF184, va_up_self, pk_us]
    have hFr : FrW (wC bo v9.nC) F F184 := by rw [eF184]; exact hFr.up (by unfold wC; omega)
    have hQ : LXq Ar I149 F184 ft sx fr en bo a148 := by rw [eF184]; exact hQ.wF (by decide)
    have hC : CLq I149 F184 ft en (clA a104 cl (1, a104.1, v9.nC, 0)) (a104.1 + 1) := by rw [eF184]; exact hC.wF (by decide)
    refine lv_aload_n hx hb dX14_codingStatement_148 rfl (lv_at hl 2 rfl) ?_
    refine lv_bipush (v := 123) hx hb dX14_codingStatement_149 (by decide) ?_
    refine va_calli (va_runV (As := [.int 123]) (rest := []) ⟨hx, hb, hml, hown, (fun _ h9 => absurd h9 List.not_mem_nil : ∀ w ∈ ([] : List Cond), w.before _ s = true)⟩ (c_M_isSign l D cy A X hst hXT G185 o Ar I149 F184 L 123 hM) (tb_cw (C := RX14) 1 hT tw_1729 tw_109 tw_1726 tw_1728 tw_76 rfl rfl hq_X14_isSign ⟨Nat.le_of_ble_eq_true rfl, Nat.le_of_ble_eq_true rfl⟩) (mk_preC hst hG hK hA hX hS vc_15 hM.1) rfl rfl hl.1 rfl (lv_room (Nat.le_of_ble_eq_true rfl)) dX14_codingStatement_151 ⟨Nat.le_of_ble_eq_true rfl, Nat.le_of_ble_eq_true rfl⟩) hS (fun q _ h => h) (fun q h => h) (fun r194 G195 t H locs ht hvm hw hB hz1 hk1 hS => ?_)
    have hG : mm D vwCl A G195 H := by rw [← ht]; exact hB
    clear hB hz1 hk1 hvm ht
    obtain ⟨er194, hw⟩ := hw
    rw [hw] at hG
    rw [hQ.isS (w := 4) (y := 123) rfl (by decide) (by decide)] at er194
    refine lv_if_eq (tgt := 310) hx hb dX14_codingStatement_154 (by decide) (fun c_154 => ?_) (fun c_154 => ?_)
    · skip
      refine lv_aload_n hx hb dX14_codingStatement_310 rfl (lv_at hl 2 rfl) ?_
      refine lv_iconst (v := 3) hx hb dX14_codingStatement_311 (by decide) ?_
      refine va_calli (va_runV (As := [.int 3]) (rest := []) ⟨hx, hb, hml, hown, (fun _ h9 => absurd h9 List.not_mem_nil : ∀ w ∈ ([] : List Cond), w.before _ s = true)⟩ (c_M_isWord l D cy A X hst hXT G185 o Ar I149 F184 L 3 hM) (tb_cw (C := RX14) 1 hT tw_1734 tw_109 tw_1731 tw_1733 tw_77 rfl rfl hq_X14_isWord ⟨Nat.le_of_ble_eq_true rfl, Nat.le_of_ble_eq_true rfl⟩) (mk_preC hst hG hK hA hX hS vc_15 hM.1) rfl rfl hl.1 rfl (lv_room (Nat.le_of_ble_eq_true rfl)) dX14_codingStatement_312 ⟨Nat.le_of_ble_eq_true rfl, Nat.le_of_ble_eq_true rfl⟩) hS (fun q _ h => h) (fun q h => h) (fun r196 G197 t H locs ht hvm hw hB hz1 hk1 hS => ?_)
      have hG : mm D vwCl A G197 H := by rw [← ht]; exact hB
      clear hB hz1 hk1 hvm ht
      obtain ⟨er196, hw⟩ := hw
      rw [hw] at hG
      rw [hQ.isW (w := 3) (y := 3) rfl (by decide) (by decide)] at er196
      refine lv_if_eq (tgt := 337) hx hb dX14_codingStatement_315 (by decide) (fun c_315 => ?_) (fun c_315 => ?_)
      · skip
        refine lv_aload_n hx hb dX14_codingStatement_337 rfl (lv_at hl 2 rfl) ?_
        refine lv_iconst (v := 4) hx hb dX14_codingStatement_338 (by decide) ?_
        refine va_calli (va_runV (As := [.int 4]) (rest := []) ⟨hx, hb, hml, hown, (fun _ h9 => absurd h9 List.not_mem_nil : ∀ w ∈ ([] : List Cond), w.before _ s = true)⟩ (c_M_isWord l D cy A X hst hXT G185 o Ar I149 F184 L 4 hM) (tb_cw (C := RX14) 1 hT tw_1734 tw_109 tw_1731 tw_1733 tw_77 rfl rfl hq_X14_isWord ⟨Nat.le_of_ble_eq_true rfl, Nat.le_of_ble_eq_true rfl⟩) (mk_preC hst hG hK hA hX hS vc_15 hM.1) rfl rfl hl.1 rfl (lv_room (Nat.le_of_ble_eq_true rfl)) dX14_codingStatement_339 ⟨Nat.le_of_ble_eq_true rfl, Nat.le_of_ble_eq_true rfl⟩) hS (fun q _ h => h) (fun q h => h) (fun r198 G199 t H locs ht hvm hw hB hz1 hk1 hS => ?_)
        have hG : mm D vwCl A G199 H := by rw [← ht]; exact hB
        clear hB hz1 hk1 hvm ht
        obtain ⟨er198, hw⟩ := hw
        rw [hw] at hG
        rw [hQ.isW (w := 4) (y := 4) rfl (by decide) (by decide)] at er198
        refine lv_if_eq (tgt := 421) hx hb dX14_codingStatement_342 (by decide) (fun c_342 => ?_) (fun c_342 => ?_)
        · skip
          refine lv_aload_n hx hb dX14_codingStatement_421 rfl (lv_at hl 2 rfl) ?_
          refine lv_bipush (v := 59) hx hb dX14_codingStatement_422 (by decide) ?_
          refine va_callv (va_runV (As := [.int 59]) (rest := []) ⟨hx, hb, hml, hown, (fun _ h9 => absurd h9 List.not_mem_nil : ∀ w ∈ ([] : List Cond), w.before _ s = true)⟩ (c_M_mark l D cy A X hst hXT G185 o Ar I149 F184 L ft sx fr en bo a148 6 hM hQ (by decide) (by decide)) (tb_cw (C := RX14) 1 hT tw_1717 tw_109 tw_1714 tw_1716 tw_73 rfl rfl hq_X14_mark ⟨Nat.le_of_ble_eq_true rfl, Nat.le_of_ble_eq_true rfl⟩) (mk_preC hst hG hK hA hX hS vc_15 hM.1) rfl rfl hl.1 rfl (lv_room (Nat.le_of_ble_eq_true rfl)) dX14_codingStatement_424 ⟨Nat.le_of_ble_eq_true rfl, Nat.le_of_ble_eq_true rfl⟩) hS (fun q _ h => h) (fun q h => h) (fun  G200 t H locs ht hvm hw hB hz1 hk1 hS => ?_)
          have hG : mm D vwCl A G200 H := by rw [← ht]; exact hB
          clear hB hz1 hk1 hvm ht
          obtain ⟨a201, ea201⟩ : ∃ y, y = q_take (tkK ft en) (tkS ft en) 6 a148 := ⟨_, rfl⟩
          rw [← ea201] at hw
          obtain ⟨I202, F203, hM2, hF2, hQ2, hI2, hX2⟩ := hw
          replace hF := hF.tr hF2; replace hM := hM2; clear hM2 hF2
          have hQ := hQ2; have hIZ := (IZ_x hI2).trans hIZ; have hFr := hFr.fx hX2; have hC := hC.fx hI2 hX2
          have p204 : F203 9 (12 * bo + v9.nC) = r113 := (congrFun (FXe hX2 (by decide)) _).trans p186
          have p205 : F203 1 (bo) = nI (v9.nC + 1) := (congrFun (FXe hX2 (by decide)) _).trans p187
          have p206 : F203 10 (12 * bo + v9.nC) = r135 := (congrFun (FXe hX2 (by decide)) _).trans p188
          have p207 : F203 11 (12 * bo + v9.nC) = 0 := (congrFun (FXe hX2 (by decide)) _).trans p189
          have p208 : F203 12 (12 * bo + v9.nC) = 0 := (congrFun (FXe hX2 (by decide)) _).trans p190
          have p209 : F203 13 (12 * bo + v9.nC) = 0 := (congrFun (FXe hX2 (by decide)) _).trans p191
          have p210 : F203 14 (12 * bo + v9.nC) = 0 := (congrFun (FXe hX2 (by decide)) _).trans p192
          have p211 : F203 15 (12 * bo + v9.nC) = 0 := (congrFun (FXe hX2 (by decide)) _).trans p193
          clear hI2 hX2 hQ2
          have ga201 : a148.1 ≤ a201.1 := by rw [ea201]; exact ge_take
          have da201 : a201.2 < 0 → _ := fun z => ad_take hSn (by rw [← ea201]; exact z)
          rw [← ea201] at da201
          have hc1 : a104.1 + 1 ≤ a201.1 + 1 := by omega
          have hc2 : a201.2 < 0 → a104.1 + 1 ≤ a201.1 := fun z => by have := da201 z; omega
          have hn4 : se (tkK ft en) a148.1 a148.2 4 = false := b2i_f (by rw [← er194]; exact c_154)
          have hn13 : se (tkK ft en) a148.1 a148.2 13 = false := b2i_f (by rw [← er196]; exact c_315)
          have hn14 : se (tkK ft en) a148.1 a148.2 14 = false := b2i_f (by rw [← er198]; exact c_342)
          have hqf : q_form (tkK ft en) (tkS ft en) (tkV ft en) a148 = (a201, 0, 0, 1, 1, 0) := by simp only [q_form, ← ea201]; rw [hn13, hn14, if_neg Bool.false_ne_true, if_neg Bool.false_ne_true]
          have hqe : (q_cod (tkK ft en) (tkS ft en) (tkV ft en) v9.nC q) = (a201, (tkS ft en a104.1, a115.1, a137.1), (0, 0, 1, 1, 0), (0, fun _ => (0, 0, 0, 0))) := by simp only [q_cod, ← ea104, ← ea115, ← ea130, ← ea137, ← ea148]; rw [hn4, if_neg Bool.false_ne_true, hqf]
          exact W.vret hx hb hr (fun t ht hW => ⟨⟨_, rfl, ⟨_, _, _, hM, hF, (by rw [hqe]; exact hQ), hIZ, hFr, (by rw [hqe]; exact hC.le (by (try dsimp only); omega)), (by rw [hqe]; (try dsimp only); omega), (by rw [hqe]; intro z; dsimp only at z ⊢; have ya201 := da201 z; have ya148 := da148 ya201.1; have ya137 := da137 ya148.1; have ya130 := da130 ya137.1; have ya115 := da115 ya130.1; have ya104 := da104 ya115.1; exact ⟨⟨hlim, p205, ⟨(hr113.mono (by omega)).cg p204.symm, p206.trans (hr135 ya148.1), Or.inr (Or.inr ⟨Or.inl p207, rfl⟩)⟩, p211, (by omega), fun r hr => absurd hr (Nat.not_lt_zero r)⟩, (by simp only [clC, clA, ← ea104, ← ea115, ← ea130, ← ea137, ← ea148]; rw [if_pos hb0, hn4, if_neg Bool.false_ne_true, (da104 hb0).2.2])⟩)⟩, mk_end hG ht⟩, hS.F ht⟩) hS.2.2 dX14_codingStatement_427
        · skip
          have hn4 : se (tkK ft en) a148.1 a148.2 4 = false := b2i_f (by rw [← er194]; exact c_154)
          have hn13 : se (tkK ft en) a148.1 a148.2 13 = false := b2i_f (by rw [← er196]; exact c_315)
          have hnq : a148.2 < 0 ∧ tkK ft en a148.1 = 14 := se_t (b2i_t (by rw [← er198]; exact c_342))
          refine lv_aload_n hx hb dX14_codingStatement_345 rfl (lv_at hl 2 rfl) ?_
          refine va_callv (va_runV (As := []) (rest := []) ⟨hx, hb, hml, hown, (fun _ h9 => absurd h9 List.not_mem_nil : ∀ w ∈ ([] : List Cond), w.before _ s = true)⟩ (c_M_nextq l D cy A X hst hXT G185 o Ar I149 F184 L ft sx fr en bo a148 hM hQ hnq.1 (by rw [hnq.2]; decide) (by rw [hnq.2]; decide)) (tb_cw (C := RX14) 0 hT tw_1640 tw_109 tw_1637 tw_1639 tw_62 rfl rfl hq_X14_next ⟨Nat.le_of_ble_eq_true rfl, Nat.le_of_ble_eq_true rfl⟩) (mk_preC hst hG hK hA hX hS vc_15 hM.1) rfl rfl hl.1 rfl (lv_room (Nat.le_of_ble_eq_true rfl)) dX14_codingStatement_346 ⟨Nat.le_of_ble_eq_true rfl, Nat.le_of_ble_eq_true rfl⟩) hS (fun q _ h => h) (fun q h => h) (fun  G212 t H locs ht hvm hw hB hz1 hk1 hS => ?_)
          have hG : mm D vwCl A G212 H := by rw [← ht]; exact hB
          clear hB hz1 hk1 hvm ht
          obtain ⟨a213, ea213⟩ : ∃ y, y = (a148.1 + 1, a148.2) := ⟨_, rfl⟩
          rw [← ea213] at hw
          obtain ⟨I214, F215, hM2, hF2, hQ2, hI2, hX2⟩ := hw
          replace hF := hF.tr hF2; replace hM := hM2; clear hM2 hF2
          have hQ := hQ2; have hIZ := (IZ_x hI2).trans hIZ; have hFr := hFr.fx hX2; have hC := hC.fx hI2 hX2
          have p216 : F215 9 (12 * bo + v9.nC) = r113 := (congrFun (FXe hX2 (by decide)) _).trans p186
          have p217 : F215 1 (bo) = nI (v9.nC + 1) := (congrFun (FXe hX2 (by decide)) _).trans p187
          have p218 : F215 10 (12 * bo + v9.nC) = r135 := (congrFun (FXe hX2 (by decide)) _).trans p188
          have p219 : F215 11 (12 * bo + v9.nC) = 0 := (congrFun (FXe hX2 (by decide)) _).trans p189
          have p220 : F215 12 (12 * bo + v9.nC) = 0 := (congrFun (FXe hX2 (by decide)) _).trans p190
          have p221 : F215 13 (12 * bo + v9.nC) = 0 := (congrFun (FXe hX2 (by decide)) _).trans p191
          have p222 : F215 14 (12 * bo + v9.nC) = 0 := (congrFun (FXe hX2 (by decide)) _).trans p192
          have p223 : F215 15 (12 * bo + v9.nC) = 0 := (congrFun (FXe hX2 (by decide)) _).trans p193
          clear hI2 hX2 hQ2
          have ga213 : a148.1 ≤ a213.1 := by rw [ea213]; exact ge_next
          have da213 : a213.2 < 0 → _ := fun z => ad_next hSn (by rw [← ea213]; exact z)
          rw [← ea213] at da213
          have hc1 : a104.1 + 1 ≤ a213.1 + 1 := by omega
          have hc2 : a213.2 < 0 → a104.1 + 1 ≤ a213.1 := fun z => by have := da213 z; omega
          refine lv_aload_n hx hb dX14_codingStatement_349 rfl (lv_at hl 2 rfl) ?_
          refine mm_get (v := .ref (Ar 11)) hx hb hf_X14 (fun _ h9 => h9) hown hK hG hM.1 rfl 11 (by decide) (tb_use hT tw_1402) (fun _ h9 => h9) (mfs_g11 _ _) dX14_codingStatement_350 ?_
          refine lv_bipush (v := 12) hx hb dX14_codingStatement_353 (by decide) ?_
          refine lv_iload_n hx hb dX14_codingStatement_355 rfl (lv_at hl 1 rfl) ?_
          refine lv_imul hx hb dX14_codingStatement_356 ?_
          refine lv_iload_n hx hb dX14_codingStatement_357 rfl (lv_at hl 0 rfl) ?_
          refine lv_iadd hx hb dX14_codingStatement_358 ?_
          refine lv_iconst (v := 2) hx hb dX14_codingStatement_359 (by decide) ?_
          refine mm_iast (n := mdN 11) (f := F215 11) hx hb hK hG hS 1 (hM.2.1 11 rfl) rfl (by rw [show (((12 * (nI bo)) + (nI v9.nC)) : Int32) = nI (12 * bo + v9.nC) by show (((nI 12 * (nI bo)) + (nI v9.nC)) : Int32) = _; simp only [nI_mu, nI_add]]; exact nI_in (N := mdN 11) (by show _ < 24; omega) (by decide)) dX14_codingStatement_360 (fun H locs hG hS => ?_)
          have hM := MD.seti (k := 11) (upd (F215 11) ((12 * (nI bo)) + (nI v9.nC)).toNatClampNeg 2) hM rfl
          have hF := hF.wa (k := 11) (e' := .inl (cy 1, mdN 11, .inl (upd (F215 11) ((12 * (nI bo)) + (nI v9.nC)).toNatClampNeg 2))) rfl
          obtain ⟨F224, eF224⟩ : ∃ g, g = va_up F215 11 (upd (F215 11) ((12 * (nI bo)) + (nI v9.nC)).toNatClampNeg 2) := ⟨_, rfl⟩
          rw [← eF224] at hM
          have hgn := gn_MD hG hM hF
          clear hG hM hF
          obtain ⟨G225, hG, hM, hF⟩ := hgn
          rw [show (((12 * (nI bo)) + (nI v9.nC)) : Int32) = nI (12 * bo + v9.nC) by show (((nI 12 * (nI bo)) + (nI v9.nC)) : Int32) = _; simp only [nI_mu, nI_add], nI_clamp (by omega)] at eF224
          have p226 : F224 9 (12 * bo + v9.nC) = r113 := by rw [eF224, va_up_ne _ _ (by decide)]; exact p216
          have p227 : F224 1 (bo) = nI (v9.nC + 1) := by rw [eF224, va_up_ne _ _ (by decide)]; exact p217
          have p228 : F224 10 (12 * bo + v9.nC) = r135 := by rw [eF224, va_up_ne _ _ (by decide)]; exact p218
          have p229 : F224 12 (12 * bo + v9.nC) = 0 := by rw [eF224, va_up_ne _ _ (by decide)]; exact p220
          have p230 : F224 13 (12 * bo + v9.nC) = 0 := by rw [eF224, va_up_ne _ _ (by decide)]; exact p221
          have p231 : F224 14 (12 * bo + v9.nC) = 0 := by rw [eF224, va_up_ne _ _ (by decide)]; exact p222
          have p232 : F224 15 (12 * bo + v9.nC) = 0 := by rw [eF224, va_up_ne _ _ (by decide)]; exact p223
          have p233 : F224 11 (12 * bo + v9.nC) = 2 := by rw [eF224, va_up_self, pk_us]
          have hFr : FrW (wC bo v9.nC) F F224 := by rw [eF224]; exact hFr.up (by unfold wC; omega)
          have hQ : LXq Ar I214 F224 ft sx fr en bo a213 := by rw [eF224]; exact hQ.wF (by decide)
          have hC : CLq I214 F224 ft en (clA a104 cl (1, a104.1, v9.nC, 0)) (a104.1 + 1) := by rw [eF224]; exact hC.wF (by decide)
          refine lv_aload_n hx hb dX14_codingStatement_361 rfl (lv_at hl 2 rfl) ?_
          refine mm_get (v := .ref (Ar 12)) hx hb hf_X14 (fun _ h9 => h9) hown hK hG hM.1 rfl 12 (by decide) (tb_use hT tw_1403) (fun _ h9 => h9) (mfs_g12 _ _) dX14_codingStatement_362 ?_
          refine lv_bipush (v := 12) hx hb dX14_codingStatement_365 (by decide) ?_
          refine lv_iload_n hx hb dX14_codingStatement_367 rfl (lv_at hl 1 rfl) ?_
          refine lv_imul hx hb dX14_codingStatement_368 ?_
          refine lv_iload_n hx hb dX14_codingStatement_369 rfl (lv_at hl 0 rfl) ?_
          refine lv_iadd hx hb dX14_codingStatement_370 ?_
          refine lv_aload_n hx hb dX14_codingStatement_371 rfl (lv_at hl 2 rfl) ?_
          refine va_calli (va_runV (As := []) (rest := [.int ((12 * (nI bo)) + (nI v9.nC)), .ref (Ar 12)]) ⟨hx, hb, hml, hown, (fun _ h9 => absurd h9 List.not_mem_nil : ∀ w ∈ ([] : List Cond), w.before _ s = true)⟩ (c_M_signed l D cy A X hst hXT G225 o Ar I214 F224 L ft sx fr en bo a213 hM hQ) (tb_cw (C := RX14) 0 hT tw_1738 tw_109 tw_1735 tw_1737 tw_78 rfl rfl hq_X14_signed ⟨Nat.le_of_ble_eq_true rfl, Nat.le_of_ble_eq_true rfl⟩) (mk_preC hst hG hK hA hX hS vc_15 hM.1) rfl rfl hl.1 rfl (lv_room (Nat.le_of_ble_eq_true rfl)) dX14_codingStatement_372 ⟨Nat.le_of_ble_eq_true rfl, Nat.le_of_ble_eq_true rfl⟩) hS (fun q _ h => h) (fun q h => h) (fun r234 G235 t H locs ht hvm hw hB hz1 hk1 hS => ?_)
          have hG : mm D vwCl A G235 H := by rw [← ht]; exact hB
          clear hB hz1 hk1 hvm ht
          obtain ⟨a236, ea236⟩ : ∃ y, y = q_val (tkK ft en) (tkS ft en) (tkV ft en) a213 := ⟨_, rfl⟩
          rw [← ea236] at hw
          obtain ⟨hr234, I237, F238, hM2, hF2, hQ2, hI2, hX2⟩ := hw
          replace hF := hF.tr hF2; replace hM := hM2; clear hM2 hF2
          have hQ := hQ2; have hIZ := (IZ_x hI2).trans hIZ; have hFr := hFr.fx hX2; have hC := hC.fx hI2 hX2
          have p239 : F238 9 (12 * bo + v9.nC) = r113 := (congrFun (FXe hX2 (by decide)) _).trans p226
          have p240 : F238 1 (bo) = nI (v9.nC + 1) := (congrFun (FXe hX2 (by decide)) _).trans p227
          have p241 : F238 10 (12 * bo + v9.nC) = r135 := (congrFun (FXe hX2 (by decide)) _).trans p228
          have p242 : F238 12 (12 * bo + v9.nC) = 0 := (congrFun (FXe hX2 (by decide)) _).trans p229
          have p243 : F238 13 (12 * bo + v9.nC) = 0 := (congrFun (FXe hX2 (by decide)) _).trans p230
          have p244 : F238 14 (12 * bo + v9.nC) = 0 := (congrFun (FXe hX2 (by decide)) _).trans p231
          have p245 : F238 15 (12 * bo + v9.nC) = 0 := (congrFun (FXe hX2 (by decide)) _).trans p232
          have p246 : F238 11 (12 * bo + v9.nC) = 2 := (congrFun (FXe hX2 (by decide)) _).trans p233
          clear hI2 hX2 hQ2
          have ga236 : a213.1 ≤ a236.2.1 := by rw [ea236]; exact ge_val
          have da236 : a236.2.2 < 0 → _ := fun z => ad_val hSn (by rw [← ea236]; exact z)
          rw [← ea236] at da236
          have hc1 : a104.1 + 1 ≤ a236.2.1 + 1 := by omega
          have hc2 : a236.2.2 < 0 → a104.1 + 1 ≤ a236.2.1 := fun z => by have := da236 z; omega
          refine mm_iast (n := mdN 12) (f := F238 12) hx hb hK hG hS 1 (hM.2.1 12 rfl) rfl (by rw [show (((12 * (nI bo)) + (nI v9.nC)) : Int32) = nI (12 * bo + v9.nC) by show (((nI 12 * (nI bo)) + (nI v9.nC)) : Int32) = _; simp only [nI_mu, nI_add]]; exact nI_in (N := mdN 12) (by show _ < 24; omega) (by decide)) dX14_codingStatement_375 (fun H locs hG hS => ?_)
          have hM := MD.seti (k := 12) (upd (F238 12) ((12 * (nI bo)) + (nI v9.nC)).toNatClampNeg r234) hM rfl
          have hF := hF.wa (k := 12) (e' := .inl (cy 1, mdN 12, .inl (upd (F238 12) ((12 * (nI bo)) + (nI v9.nC)).toNatClampNeg r234))) rfl
          obtain ⟨F247, eF247⟩ : ∃ g, g = va_up F238 12 (upd (F238 12) ((12 * (nI bo)) + (nI v9.nC)).toNatClampNeg r234) := ⟨_, rfl⟩
          rw [← eF247] at hM
          have hgn := gn_MD hG hM hF
          clear hG hM hF
          obtain ⟨G248, hG, hM, hF⟩ := hgn
          rw [show (((12 * (nI bo)) + (nI v9.nC)) : Int32) = nI (12 * bo + v9.nC) by show (((nI 12 * (nI bo)) + (nI v9.nC)) : Int32) = _; simp only [nI_mu, nI_add], nI_clamp (by omega)] at eF247
          have p249 : F247 9 (12 * bo + v9.nC) = r113 := by rw [eF247, va_up_ne _ _ (by decide)]; exact p239
          have p250 : F247 1 (bo) = nI (v9.nC + 1) := by rw [eF247, va_up_ne _ _ (by decide)]; exact p240
          have p251 : F247 10 (12 * bo + v9.nC) = r135 := by rw [eF247, va_up_ne _ _ (by decide)]; exact p241
          have p252 : F247 13 (12 * bo + v9.nC) = 0 := by rw [eF247, va_up_ne _ _ (by decide)]; exact p243
          have p253 : F247 14 (12 * bo + v9.nC) = 0 := by rw [eF247, va_up_ne _ _ (by decide)]; exact p244
          have p254 : F247 15 (12 * bo + v9.nC) = 0 := by rw [eF247, va_up_ne _ _ (by decide)]; exact p245
          have p255 : F247 11 (12 * bo + v9.nC) = 2 := by rw [eF247, va_up_ne _ _ (by decide)]; exact p246
          have p256 : F247 12 (12 * bo + v9.nC) = r234 := by rw [eF247, va_up_self, pk_us]
          have hFr : FrW (wC bo v9.nC) F F247 := by rw [eF247]; exact hFr.up (by unfold wC; omega)
          have hQ : LXq Ar I237 F247 ft sx fr en bo a236.2 := by rw [eF247]; exact hQ.wF (by decide)
          have hC : CLq I237 F247 ft en (clA a104 cl (1, a104.1, v9.nC, 0)) (a104.1 + 1) := by rw [eF247]; exact hC.wF (by decide)
          refine lv_aload_n hx hb dX14_codingStatement_376 rfl (lv_at hl 2 rfl) ?_
          refine lv_bipush (v := 47) hx hb dX14_codingStatement_377 (by decide) ?_
          refine va_callv (va_runV (As := [.int 47]) (rest := []) ⟨hx, hb, hml, hown, (fun _ h9 => absurd h9 List.not_mem_nil : ∀ w ∈ ([] : List Cond), w.before _ s = true)⟩ (c_M_mark l D cy A X hst hXT G248 o Ar I237 F247 L ft sx fr en bo a236.2 9 hM hQ (by decide) (by decide)) (tb_cw (C := RX14) 1 hT tw_1717 tw_109 tw_1714 tw_1716 tw_73 rfl rfl hq_X14_mark ⟨Nat.le_of_ble_eq_true rfl, Nat.le_of_ble_eq_true rfl⟩) (mk_preC hst hG hK hA hX hS vc_15 hM.1) rfl rfl hl.1 rfl (lv_room (Nat.le_of_ble_eq_true rfl)) dX14_codingStatement_379 ⟨Nat.le_of_ble_eq_true rfl, Nat.le_of_ble_eq_true rfl⟩) hS (fun q _ h => h) (fun q h => h) (fun  G257 t H locs ht hvm hw hB hz1 hk1 hS => ?_)
          have hG : mm D vwCl A G257 H := by rw [← ht]; exact hB
          clear hB hz1 hk1 hvm ht
          obtain ⟨a258, ea258⟩ : ∃ y, y = q_take (tkK ft en) (tkS ft en) 9 a236.2 := ⟨_, rfl⟩
          rw [← ea258] at hw
          obtain ⟨I259, F260, hM2, hF2, hQ2, hI2, hX2⟩ := hw
          replace hF := hF.tr hF2; replace hM := hM2; clear hM2 hF2
          have hQ := hQ2; have hIZ := (IZ_x hI2).trans hIZ; have hFr := hFr.fx hX2; have hC := hC.fx hI2 hX2
          have p261 : F260 9 (12 * bo + v9.nC) = r113 := (congrFun (FXe hX2 (by decide)) _).trans p249
          have p262 : F260 1 (bo) = nI (v9.nC + 1) := (congrFun (FXe hX2 (by decide)) _).trans p250
          have p263 : F260 10 (12 * bo + v9.nC) = r135 := (congrFun (FXe hX2 (by decide)) _).trans p251
          have p264 : F260 13 (12 * bo + v9.nC) = 0 := (congrFun (FXe hX2 (by decide)) _).trans p252
          have p265 : F260 14 (12 * bo + v9.nC) = 0 := (congrFun (FXe hX2 (by decide)) _).trans p253
          have p266 : F260 15 (12 * bo + v9.nC) = 0 := (congrFun (FXe hX2 (by decide)) _).trans p254
          have p267 : F260 11 (12 * bo + v9.nC) = 2 := (congrFun (FXe hX2 (by decide)) _).trans p255
          have p268 : F260 12 (12 * bo + v9.nC) = r234 := (congrFun (FXe hX2 (by decide)) _).trans p256
          clear hI2 hX2 hQ2
          have ga258 : a236.2.1 ≤ a258.1 := by rw [ea258]; exact ge_take
          have da258 : a258.2 < 0 → _ := fun z => ad_take hSn (by rw [← ea258]; exact z)
          rw [← ea258] at da258
          have hc1 : a104.1 + 1 ≤ a258.1 + 1 := by omega
          have hc2 : a258.2 < 0 → a104.1 + 1 ≤ a258.1 := fun z => by have := da258 z; omega
          refine lv_aload_n hx hb dX14_codingStatement_382 rfl (lv_at hl 2 rfl) ?_
          refine mm_get (v := .ref (Ar 13)) hx hb hf_X14 (fun _ h9 => h9) hown hK hG hM.1 rfl 13 (by decide) (tb_use hT tw_1404) (fun _ h9 => h9) (mfs_g13 _ _) dX14_codingStatement_383 ?_
          refine lv_bipush (v := 12) hx hb dX14_codingStatement_386 (by decide) ?_
          refine lv_iload_n hx hb dX14_codingStatement_388 rfl (lv_at hl 1 rfl) ?_
          refine lv_imul hx hb dX14_codingStatement_389 ?_
          refine lv_iload_n hx hb dX14_codingStatement_390 rfl (lv_at hl 0 rfl) ?_
          refine lv_iadd hx hb dX14_codingStatement_391 ?_
          refine lv_aload_n hx hb dX14_codingStatement_392 rfl (lv_at hl 2 rfl) ?_
          refine lv_iconst (v := 1) hx hb dX14_codingStatement_393 (by decide) ?_
          refine lv_ldcw hx hb hown (tb_use hT tw_1730) dX14_codingStatement_394 ?_
          refine va_calli (va_runV (As := [.int 1, .int 999999]) (rest := [.int ((12 * (nI bo)) + (nI v9.nC)), .ref (Ar 13)]) ⟨hx, hb, hml, hown, (fun _ h9 => absurd h9 List.not_mem_nil : ∀ w ∈ ([] : List Cond), w.before _ s = true)⟩ (c_M_number l D cy A X hst hXT G257 o Ar I259 F260 L ft sx fr en bo a258 1 999999 1 999999 hM hQ rfl rfl (by decide) (by decide)) (tb_cw (C := RX14) 2 hT tw_1721 tw_109 tw_1718 tw_1720 tw_74 rfl rfl hq_X14_number ⟨Nat.le_of_ble_eq_true rfl, Nat.le_of_ble_eq_true rfl⟩) (mk_preC hst hG hK hA hX hS vc_15 hM.1) rfl rfl hl.1 rfl (lv_room (Nat.le_of_ble_eq_true rfl)) dX14_codingStatement_397 ⟨Nat.le_of_ble_eq_true rfl, Nat.le_of_ble_eq_true rfl⟩) hS (fun q _ h => h) (fun q h => h) (fun r269 G270 t H locs ht hvm hw hB hz1 hk1 hS => ?_)
          have hG : mm D vwCl A G270 H := by rw [← ht]; exact hB
          clear hB hz1 hk1 hvm ht
          obtain ⟨a271, ea271⟩ : ∃ y, y = q_num (tkK ft en) (tkS ft en) (tkV ft en) 1 999999 a258 := ⟨_, rfl⟩
          rw [← ea271] at hw
          obtain ⟨hr269, I272, F273, hM2, hF2, hQ2, hI2, hX2⟩ := hw
          replace hF := hF.tr hF2; replace hM := hM2; clear hM2 hF2
          have hQ := hQ2; have hIZ := (IZ_x hI2).trans hIZ; have hFr := hFr.fx hX2; have hC := hC.fx hI2 hX2
          have p274 : F273 9 (12 * bo + v9.nC) = r113 := (congrFun (FXe hX2 (by decide)) _).trans p261
          have p275 : F273 1 (bo) = nI (v9.nC + 1) := (congrFun (FXe hX2 (by decide)) _).trans p262
          have p276 : F273 10 (12 * bo + v9.nC) = r135 := (congrFun (FXe hX2 (by decide)) _).trans p263
          have p277 : F273 13 (12 * bo + v9.nC) = 0 := (congrFun (FXe hX2 (by decide)) _).trans p264
          have p278 : F273 14 (12 * bo + v9.nC) = 0 := (congrFun (FXe hX2 (by decide)) _).trans p265
          have p279 : F273 15 (12 * bo + v9.nC) = 0 := (congrFun (FXe hX2 (by decide)) _).trans p266
          have p280 : F273 11 (12 * bo + v9.nC) = 2 := (congrFun (FXe hX2 (by decide)) _).trans p267
          have p281 : F273 12 (12 * bo + v9.nC) = r234 := (congrFun (FXe hX2 (by decide)) _).trans p268
          clear hI2 hX2 hQ2
          have ga271 : a258.1 ≤ a271.2.1 := by rw [ea271]; exact ge_num
          have da271 : a271.2.2 < 0 → _ := fun z => ad_num hSn (by rw [← ea271]; exact z)
          rw [← ea271] at da271
          have hc1 : a104.1 + 1 ≤ a271.2.1 + 1 := by omega
          have hc2 : a271.2.2 < 0 → a104.1 + 1 ≤ a271.2.1 := fun z => by have := da271 z; omega
          refine mm_iast (n := mdN 13) (f := F273 13) hx hb hK hG hS 1 (hM.2.1 13 rfl) rfl (by rw [show (((12 * (nI bo)) + (nI v9.nC)) : Int32) = nI (12 * bo + v9.nC) by show (((nI 12 * (nI bo)) + (nI v9.nC)) : Int32) = _; simp only [nI_mu, nI_add]]; exact nI_in (N := mdN 13) (by show _ < 24; omega) (by decide)) dX14_codingStatement_400 (fun H locs hG hS => ?_)
          have hM := MD.seti (k := 13) (upd (F273 13) ((12 * (nI bo)) + (nI v9.nC)).toNatClampNeg r269) hM rfl
          have hF := hF.wa (k := 13) (e' := .inl (cy 1, mdN 13, .inl (upd (F273 13) ((12 * (nI bo)) + (nI v9.nC)).toNatClampNeg r269))) rfl
          obtain ⟨F282, eF282⟩ : ∃ g, g = va_up F273 13 (upd (F273 13) ((12 * (nI bo)) + (nI v9.nC)).toNatClampNeg r269) := ⟨_, rfl⟩
          rw [← eF282] at hM
          have hgn := gn_MD hG hM hF
          clear hG hM hF
          obtain ⟨G283, hG, hM, hF⟩ := hgn
          rw [show (((12 * (nI bo)) + (nI v9.nC)) : Int32) = nI (12 * bo + v9.nC) by show (((nI 12 * (nI bo)) + (nI v9.nC)) : Int32) = _; simp only [nI_mu, nI_add], nI_clamp (by omega)] at eF282
          have p284 : F282 9 (12 * bo + v9.nC) = r113 := by rw [eF282, va_up_ne _ _ (by decide)]; exact p274
          have p285 : F282 1 (bo) = nI (v9.nC + 1) := by rw [eF282, va_up_ne _ _ (by decide)]; exact p275
          have p286 : F282 10 (12 * bo + v9.nC) = r135 := by rw [eF282, va_up_ne _ _ (by decide)]; exact p276
          have p287 : F282 14 (12 * bo + v9.nC) = 0 := by rw [eF282, va_up_ne _ _ (by decide)]; exact p278
          have p288 : F282 15 (12 * bo + v9.nC) = 0 := by rw [eF282, va_up_ne _ _ (by decide)]; exact p279
          have p289 : F282 11 (12 * bo + v9.nC) = 2 := by rw [eF282, va_up_ne _ _ (by decide)]; exact p280
          have p290 : F282 12 (12 * bo + v9.nC) = r234 := by rw [eF282, va_up_ne _ _ (by decide)]; exact p281
          have p291 : F282 13 (12 * bo + v9.nC) = r269 := by rw [eF282, va_up_self, pk_us]
          have hFr : FrW (wC bo v9.nC) F F282 := by rw [eF282]; exact hFr.up (by unfold wC; omega)
          have hQ : LXq Ar I272 F282 ft sx fr en bo a271.2 := by rw [eF282]; exact hQ.wF (by decide)
          have hC : CLq I272 F282 ft en (clA a104 cl (1, a104.1, v9.nC, 0)) (a104.1 + 1) := by rw [eF282]; exact hC.wF (by decide)
          refine lv_aload_n hx hb dX14_codingStatement_401 rfl (lv_at hl 2 rfl) ?_
          refine lv_iconst (v := 5) hx hb dX14_codingStatement_402 (by decide) ?_
          refine va_callv (va_runV (As := [.int 5]) (rest := []) ⟨hx, hb, hml, hown, (fun _ h9 => absurd h9 List.not_mem_nil : ∀ w ∈ ([] : List Cond), w.before _ s = true)⟩ (c_M_wordk l D cy A X hst hXT G283 o Ar I272 F282 L ft sx fr en bo a271.2 5 15 hM hQ (by decide) (by decide) rfl) (tb_cw (C := RX14) 1 hT tw_1725 tw_109 tw_1722 tw_1724 tw_75 rfl rfl hq_X14_word ⟨Nat.le_of_ble_eq_true rfl, Nat.le_of_ble_eq_true rfl⟩) (mk_preC hst hG hK hA hX hS vc_15 hM.1) rfl rfl hl.1 rfl (lv_room (Nat.le_of_ble_eq_true rfl)) dX14_codingStatement_403 ⟨Nat.le_of_ble_eq_true rfl, Nat.le_of_ble_eq_true rfl⟩) hS (fun q _ h => h) (fun q h => h) (fun  G292 t H locs ht hvm hw hB hz1 hk1 hS => ?_)
          have hG : mm D vwCl A G292 H := by rw [← ht]; exact hB
          clear hB hz1 hk1 hvm ht
          obtain ⟨a293, ea293⟩ : ∃ y, y = q_take (tkK ft en) (tkS ft en) 15 a271.2 := ⟨_, rfl⟩
          rw [← ea293] at hw
          obtain ⟨I294, F295, hM2, hF2, hQ2, hI2, hX2⟩ := hw
          replace hF := hF.tr hF2; replace hM := hM2; clear hM2 hF2
          have hQ := hQ2; have hIZ := (IZ_x hI2).trans hIZ; have hFr := hFr.fx hX2; have hC := hC.fx hI2 hX2
          have p296 : F295 9 (12 * bo + v9.nC) = r113 := (congrFun (FXe hX2 (by decide)) _).trans p284
          have p297 : F295 1 (bo) = nI (v9.nC + 1) := (congrFun (FXe hX2 (by decide)) _).trans p285
          have p298 : F295 10 (12 * bo + v9.nC) = r135 := (congrFun (FXe hX2 (by decide)) _).trans p286
          have p299 : F295 14 (12 * bo + v9.nC) = 0 := (congrFun (FXe hX2 (by decide)) _).trans p287
          have p300 : F295 15 (12 * bo + v9.nC) = 0 := (congrFun (FXe hX2 (by decide)) _).trans p288
          have p301 : F295 11 (12 * bo + v9.nC) = 2 := (congrFun (FXe hX2 (by decide)) _).trans p289
          have p302 : F295 12 (12 * bo + v9.nC) = r234 := (congrFun (FXe hX2 (by decide)) _).trans p290
          have p303 : F295 13 (12 * bo + v9.nC) = r269 := (congrFun (FXe hX2 (by decide)) _).trans p291
          clear hI2 hX2 hQ2
          have ga293 : a271.2.1 ≤ a293.1 := by rw [ea293]; exact ge_take
          have da293 : a293.2 < 0 → _ := fun z => ad_take hSn (by rw [← ea293]; exact z)
          rw [← ea293] at da293
          have hc1 : a104.1 + 1 ≤ a293.1 + 1 := by omega
          have hc2 : a293.2 < 0 → a104.1 + 1 ≤ a293.1 := fun z => by have := da293 z; omega
          refine lv_aload_n hx hb dX14_codingStatement_406 rfl (lv_at hl 2 rfl) ?_
          refine mm_get (v := .ref (Ar 14)) hx hb hf_X14 (fun _ h9 => h9) hown hK hG hM.1 rfl 14 (by decide) (tb_use hT tw_1405) (fun _ h9 => h9) (mfs_g14 _ _) dX14_codingStatement_407 ?_
          refine lv_bipush (v := 12) hx hb dX14_codingStatement_410 (by decide) ?_
          refine lv_iload_n hx hb dX14_codingStatement_412 rfl (lv_at hl 1 rfl) ?_
          refine lv_imul hx hb dX14_codingStatement_413 ?_
          refine lv_iload_n hx hb dX14_codingStatement_414 rfl (lv_at hl 0 rfl) ?_
          refine lv_iadd hx hb dX14_codingStatement_415 ?_
          refine lv_aload_n hx hb dX14_codingStatement_416 rfl (lv_at hl 2 rfl) ?_
          refine va_calli (va_runV (As := []) (rest := [.int ((12 * (nI bo)) + (nI v9.nC)), .ref (Ar 14)]) ⟨hx, hb, hml, hown, (fun _ h9 => absurd h9 List.not_mem_nil : ∀ w ∈ ([] : List Cond), w.before _ s = true)⟩ (c_M_signed l D cy A X hst hXT G292 o Ar I294 F295 L ft sx fr en bo a293 hM hQ) (tb_cw (C := RX14) 0 hT tw_1738 tw_109 tw_1735 tw_1737 tw_78 rfl rfl hq_X14_signed ⟨Nat.le_of_ble_eq_true rfl, Nat.le_of_ble_eq_true rfl⟩) (mk_preC hst hG hK hA hX hS vc_15 hM.1) rfl rfl hl.1 rfl (lv_room (Nat.le_of_ble_eq_true rfl)) dX14_codingStatement_417 ⟨Nat.le_of_ble_eq_true rfl, Nat.le_of_ble_eq_true rfl⟩) hS (fun q _ h => h) (fun q h => h) (fun r304 G305 t H locs ht hvm hw hB hz1 hk1 hS => ?_)
          have hG : mm D vwCl A G305 H := by rw [← ht]; exact hB
          clear hB hz1 hk1 hvm ht
          obtain ⟨a306, ea306⟩ : ∃ y, y = q_val (tkK ft en) (tkS ft en) (tkV ft en) a293 := ⟨_, rfl⟩
          rw [← ea306] at hw
          obtain ⟨hr304, I307, F308, hM2, hF2, hQ2, hI2, hX2⟩ := hw
          replace hF := hF.tr hF2; replace hM := hM2; clear hM2 hF2
          have hQ := hQ2; have hIZ := (IZ_x hI2).trans hIZ; have hFr := hFr.fx hX2; have hC := hC.fx hI2 hX2
          have p309 : F308 9 (12 * bo + v9.nC) = r113 := (congrFun (FXe hX2 (by decide)) _).trans p296
          have p310 : F308 1 (bo) = nI (v9.nC + 1) := (congrFun (FXe hX2 (by decide)) _).trans p297
          have p311 : F308 10 (12 * bo + v9.nC) = r135 := (congrFun (FXe hX2 (by decide)) _).trans p298
          have p312 : F308 14 (12 * bo + v9.nC) = 0 := (congrFun (FXe hX2 (by decide)) _).trans p299
          have p313 : F308 15 (12 * bo + v9.nC) = 0 := (congrFun (FXe hX2 (by decide)) _).trans p300
          have p314 : F308 11 (12 * bo + v9.nC) = 2 := (congrFun (FXe hX2 (by decide)) _).trans p301
          have p315 : F308 12 (12 * bo + v9.nC) = r234 := (congrFun (FXe hX2 (by decide)) _).trans p302
          have p316 : F308 13 (12 * bo + v9.nC) = r269 := (congrFun (FXe hX2 (by decide)) _).trans p303
          clear hI2 hX2 hQ2
          have ga306 : a293.1 ≤ a306.2.1 := by rw [ea306]; exact ge_val
          have da306 : a306.2.2 < 0 → _ := fun z => ad_val hSn (by rw [← ea306]; exact z)
          rw [← ea306] at da306
          have hc1 : a104.1 + 1 ≤ a306.2.1 + 1 := by omega
          have hc2 : a306.2.2 < 0 → a104.1 + 1 ≤ a306.2.1 := fun z => by have := da306 z; omega
          refine mm_iast (n := mdN 14) (f := F308 14) hx hb hK hG hS 1 (hM.2.1 14 rfl) rfl (by rw [show (((12 * (nI bo)) + (nI v9.nC)) : Int32) = nI (12 * bo + v9.nC) by show (((nI 12 * (nI bo)) + (nI v9.nC)) : Int32) = _; simp only [nI_mu, nI_add]]; exact nI_in (N := mdN 14) (by show _ < 24; omega) (by decide)) dX14_codingStatement_420 (fun H locs hG hS => ?_)
          have hM := MD.seti (k := 14) (upd (F308 14) ((12 * (nI bo)) + (nI v9.nC)).toNatClampNeg r304) hM rfl
          have hF := hF.wa (k := 14) (e' := .inl (cy 1, mdN 14, .inl (upd (F308 14) ((12 * (nI bo)) + (nI v9.nC)).toNatClampNeg r304))) rfl
          obtain ⟨F317, eF317⟩ : ∃ g, g = va_up F308 14 (upd (F308 14) ((12 * (nI bo)) + (nI v9.nC)).toNatClampNeg r304) := ⟨_, rfl⟩
          rw [← eF317] at hM
          have hgn := gn_MD hG hM hF
          clear hG hM hF
          obtain ⟨G318, hG, hM, hF⟩ := hgn
          rw [show (((12 * (nI bo)) + (nI v9.nC)) : Int32) = nI (12 * bo + v9.nC) by show (((nI 12 * (nI bo)) + (nI v9.nC)) : Int32) = _; simp only [nI_mu, nI_add], nI_clamp (by omega)] at eF317
          have p319 : F317 9 (12 * bo + v9.nC) = r113 := by rw [eF317, va_up_ne _ _ (by decide)]; exact p309
          have p320 : F317 1 (bo) = nI (v9.nC + 1) := by rw [eF317, va_up_ne _ _ (by decide)]; exact p310
          have p321 : F317 10 (12 * bo + v9.nC) = r135 := by rw [eF317, va_up_ne _ _ (by decide)]; exact p311
          have p322 : F317 15 (12 * bo + v9.nC) = 0 := by rw [eF317, va_up_ne _ _ (by decide)]; exact p313
          have p323 : F317 11 (12 * bo + v9.nC) = 2 := by rw [eF317, va_up_ne _ _ (by decide)]; exact p314
          have p324 : F317 12 (12 * bo + v9.nC) = r234 := by rw [eF317, va_up_ne _ _ (by decide)]; exact p315
          have p325 : F317 13 (12 * bo + v9.nC) = r269 := by rw [eF317, va_up_ne _ _ (by decide)]; exact p316
          have p326 : F317 14 (12 * bo + v9.nC) = r304 := by rw [eF317, va_up_self, pk_us]
          have hFr : FrW (wC bo v9.nC) F F317 := by rw [eF317]; exact hFr.up (by unfold wC; omega)
          have hQ : LXq Ar I307 F317 ft sx fr en bo a306.2 := by rw [eF317]; exact hQ.wF (by decide)
          have hC : CLq I307 F317 ft en (clA a104 cl (1, a104.1, v9.nC, 0)) (a104.1 + 1) := by rw [eF317]; exact hC.wF (by decide)
          refine lv_aload_n hx hb dX14_codingStatement_421 rfl (lv_at hl 2 rfl) ?_
          refine lv_bipush (v := 59) hx hb dX14_codingStatement_422 (by decide) ?_
          refine va_callv (va_runV (As := [.int 59]) (rest := []) ⟨hx, hb, hml, hown, (fun _ h9 => absurd h9 List.not_mem_nil : ∀ w ∈ ([] : List Cond), w.before _ s = true)⟩ (c_M_mark l D cy A X hst hXT G318 o Ar I307 F317 L ft sx fr en bo a306.2 6 hM hQ (by decide) (by decide)) (tb_cw (C := RX14) 1 hT tw_1717 tw_109 tw_1714 tw_1716 tw_73 rfl rfl hq_X14_mark ⟨Nat.le_of_ble_eq_true rfl, Nat.le_of_ble_eq_true rfl⟩) (mk_preC hst hG hK hA hX hS vc_15 hM.1) rfl rfl hl.1 rfl (lv_room (Nat.le_of_ble_eq_true rfl)) dX14_codingStatement_424 ⟨Nat.le_of_ble_eq_true rfl, Nat.le_of_ble_eq_true rfl⟩) hS (fun q _ h => h) (fun q h => h) (fun  G327 t H locs ht hvm hw hB hz1 hk1 hS => ?_)
          have hG : mm D vwCl A G327 H := by rw [← ht]; exact hB
          clear hB hz1 hk1 hvm ht
          obtain ⟨a328, ea328⟩ : ∃ y, y = q_take (tkK ft en) (tkS ft en) 6 a306.2 := ⟨_, rfl⟩
          rw [← ea328] at hw
          obtain ⟨I329, F330, hM2, hF2, hQ2, hI2, hX2⟩ := hw
          replace hF := hF.tr hF2; replace hM := hM2; clear hM2 hF2
          have hQ := hQ2; have hIZ := (IZ_x hI2).trans hIZ; have hFr := hFr.fx hX2; have hC := hC.fx hI2 hX2
          have p331 : F330 9 (12 * bo + v9.nC) = r113 := (congrFun (FXe hX2 (by decide)) _).trans p319
          have p332 : F330 1 (bo) = nI (v9.nC + 1) := (congrFun (FXe hX2 (by decide)) _).trans p320
          have p333 : F330 10 (12 * bo + v9.nC) = r135 := (congrFun (FXe hX2 (by decide)) _).trans p321
          have p334 : F330 15 (12 * bo + v9.nC) = 0 := (congrFun (FXe hX2 (by decide)) _).trans p322
          have p335 : F330 11 (12 * bo + v9.nC) = 2 := (congrFun (FXe hX2 (by decide)) _).trans p323
          have p336 : F330 12 (12 * bo + v9.nC) = r234 := (congrFun (FXe hX2 (by decide)) _).trans p324
          have p337 : F330 13 (12 * bo + v9.nC) = r269 := (congrFun (FXe hX2 (by decide)) _).trans p325
          have p338 : F330 14 (12 * bo + v9.nC) = r304 := (congrFun (FXe hX2 (by decide)) _).trans p326
          clear hI2 hX2 hQ2
          have ga328 : a306.2.1 ≤ a328.1 := by rw [ea328]; exact ge_take
          have da328 : a328.2 < 0 → _ := fun z => ad_take hSn (by rw [← ea328]; exact z)
          rw [← ea328] at da328
          have hc1 : a104.1 + 1 ≤ a328.1 + 1 := by omega
          have hc2 : a328.2 < 0 → a104.1 + 1 ≤ a328.1 := fun z => by have := da328 z; omega
          have hqf : q_form (tkK ft en) (tkS ft en) (tkV ft en) a148 = (a328, 0, 1, a236.1.toInt64, a271.1.toInt64, a306.1.toInt64) := by simp only [q_form, ← ea213, ← ea236, ← ea258, ← ea271, ← ea293, ← ea306, ← ea328]; rw [hn13, if_neg Bool.false_ne_true, if_pos (by unfold se; rw [decide_eq_true hnq.1, decide_eq_true hnq.2]; rfl)]
          have hqe : (q_cod (tkK ft en) (tkS ft en) (tkV ft en) v9.nC q) = (a328, (tkS ft en a104.1, a115.1, a137.1), (0, 1, a236.1.toInt64, a271.1.toInt64, a306.1.toInt64), (0, fun _ => (0, 0, 0, 0))) := by simp only [q_cod, ← ea104, ← ea115, ← ea130, ← ea137, ← ea148]; rw [hn4, if_neg Bool.false_ne_true, hqf]
          exact W.vret hx hb hr (fun t ht hW => ⟨⟨_, rfl, ⟨_, _, _, hM, hF, (by rw [hqe]; exact hQ), hIZ, hFr, (by rw [hqe]; exact hC.le (by (try dsimp only); omega)), (by rw [hqe]; (try dsimp only); omega), (by rw [hqe]; intro z; dsimp only at z ⊢; have ya328 := da328 z; have ya306 := da306 ya328.1; have ya293 := da293 ya306.1; have ya271 := da271 ya293.1; have ya258 := da258 ya271.1; have ya236 := da236 ya258.1; have ya213 := da213 ya236.1; have ya148 := da148 ya213.1; have ya137 := da137 ya148.1; have ya130 := da130 ya137.1; have ya115 := da115 ya130.1; have ya104 := da104 ya115.1; exact ⟨⟨hlim, p332, ⟨(hr113.mono (by omega)).cg p331.symm, p333.trans (hr135 ya148.1), Or.inr (Or.inl ⟨p335, (by rw [p336.trans (hr234 ya258.1), p337.trans (hr269 ya293.1), p338.trans (hr304 ya328.1)])⟩)⟩, p334, (by omega), fun r hr => absurd hr (Nat.not_lt_zero r)⟩, (by simp only [clC, clA, ← ea104, ← ea115, ← ea130, ← ea137, ← ea148]; rw [if_pos hb0, hn4, if_neg Bool.false_ne_true, (da104 hb0).2.2])⟩)⟩, mk_end hG ht⟩, hS.F ht⟩) hS.2.2 dX14_codingStatement_427
      · skip
        have hn4 : se (tkK ft en) a148.1 a148.2 4 = false := b2i_f (by rw [← er194]; exact c_154)
        have hnq : a148.2 < 0 ∧ tkK ft en a148.1 = 13 := se_t (b2i_t (by rw [← er196]; exact c_315))
        refine lv_aload_n hx hb dX14_codingStatement_318 rfl (lv_at hl 2 rfl) ?_
        refine va_callv (va_runV (As := []) (rest := []) ⟨hx, hb, hml, hown, (fun _ h9 => absurd h9 List.not_mem_nil : ∀ w ∈ ([] : List Cond), w.before _ s = true)⟩ (c_M_nextq l D cy A X hst hXT G185 o Ar I149 F184 L ft sx fr en bo a148 hM hQ hnq.1 (by rw [hnq.2]; decide) (by rw [hnq.2]; decide)) (tb_cw (C := RX14) 0 hT tw_1640 tw_109 tw_1637 tw_1639 tw_62 rfl rfl hq_X14_next ⟨Nat.le_of_ble_eq_true rfl, Nat.le_of_ble_eq_true rfl⟩) (mk_preC hst hG hK hA hX hS vc_15 hM.1) rfl rfl hl.1 rfl (lv_room (Nat.le_of_ble_eq_true rfl)) dX14_codingStatement_319 ⟨Nat.le_of_ble_eq_true rfl, Nat.le_of_ble_eq_true rfl⟩) hS (fun q _ h => h) (fun q h => h) (fun  G339 t H locs ht hvm hw hB hz1 hk1 hS => ?_)
        have hG : mm D vwCl A G339 H := by rw [← ht]; exact hB
        clear hB hz1 hk1 hvm ht
        obtain ⟨a340, ea340⟩ : ∃ y, y = (a148.1 + 1, a148.2) := ⟨_, rfl⟩
        rw [← ea340] at hw
        obtain ⟨I341, F342, hM2, hF2, hQ2, hI2, hX2⟩ := hw
        replace hF := hF.tr hF2; replace hM := hM2; clear hM2 hF2
        have hQ := hQ2; have hIZ := (IZ_x hI2).trans hIZ; have hFr := hFr.fx hX2; have hC := hC.fx hI2 hX2
        have p343 : F342 9 (12 * bo + v9.nC) = r113 := (congrFun (FXe hX2 (by decide)) _).trans p186
        have p344 : F342 1 (bo) = nI (v9.nC + 1) := (congrFun (FXe hX2 (by decide)) _).trans p187
        have p345 : F342 10 (12 * bo + v9.nC) = r135 := (congrFun (FXe hX2 (by decide)) _).trans p188
        have p346 : F342 11 (12 * bo + v9.nC) = 0 := (congrFun (FXe hX2 (by decide)) _).trans p189
        have p347 : F342 12 (12 * bo + v9.nC) = 0 := (congrFun (FXe hX2 (by decide)) _).trans p190
        have p348 : F342 13 (12 * bo + v9.nC) = 0 := (congrFun (FXe hX2 (by decide)) _).trans p191
        have p349 : F342 14 (12 * bo + v9.nC) = 0 := (congrFun (FXe hX2 (by decide)) _).trans p192
        have p350 : F342 15 (12 * bo + v9.nC) = 0 := (congrFun (FXe hX2 (by decide)) _).trans p193
        clear hI2 hX2 hQ2
        have ga340 : a148.1 ≤ a340.1 := by rw [ea340]; exact ge_next
        have da340 : a340.2 < 0 → _ := fun z => ad_next hSn (by rw [← ea340]; exact z)
        rw [← ea340] at da340
        have hc1 : a104.1 + 1 ≤ a340.1 + 1 := by omega
        have hc2 : a340.2 < 0 → a104.1 + 1 ≤ a340.1 := fun z => by have := da340 z; omega
        refine lv_aload_n hx hb dX14_codingStatement_322 rfl (lv_at hl 2 rfl) ?_
        refine mm_get (v := .ref (Ar 11)) hx hb hf_X14 (fun _ h9 => h9) hown hK hG hM.1 rfl 11 (by decide) (tb_use hT tw_1402) (fun _ h9 => h9) (mfs_g11 _ _) dX14_codingStatement_323 ?_
        refine lv_bipush (v := 12) hx hb dX14_codingStatement_326 (by decide) ?_
        refine lv_iload_n hx hb dX14_codingStatement_328 rfl (lv_at hl 1 rfl) ?_
        refine lv_imul hx hb dX14_codingStatement_329 ?_
        refine lv_iload_n hx hb dX14_codingStatement_330 rfl (lv_at hl 0 rfl) ?_
        refine lv_iadd hx hb dX14_codingStatement_331 ?_
        refine lv_iconst (v := 1) hx hb dX14_codingStatement_332 (by decide) ?_
        refine mm_iast (n := mdN 11) (f := F342 11) hx hb hK hG hS 1 (hM.2.1 11 rfl) rfl (by rw [show (((12 * (nI bo)) + (nI v9.nC)) : Int32) = nI (12 * bo + v9.nC) by show (((nI 12 * (nI bo)) + (nI v9.nC)) : Int32) = _; simp only [nI_mu, nI_add]]; exact nI_in (N := mdN 11) (by show _ < 24; omega) (by decide)) dX14_codingStatement_333 (fun H locs hG hS => ?_)
        have hM := MD.seti (k := 11) (upd (F342 11) ((12 * (nI bo)) + (nI v9.nC)).toNatClampNeg 1) hM rfl
        have hF := hF.wa (k := 11) (e' := .inl (cy 1, mdN 11, .inl (upd (F342 11) ((12 * (nI bo)) + (nI v9.nC)).toNatClampNeg 1))) rfl
        obtain ⟨F351, eF351⟩ : ∃ g, g = va_up F342 11 (upd (F342 11) ((12 * (nI bo)) + (nI v9.nC)).toNatClampNeg 1) := ⟨_, rfl⟩
        rw [← eF351] at hM
        have hgn := gn_MD hG hM hF
        clear hG hM hF
        obtain ⟨G352, hG, hM, hF⟩ := hgn
        rw [show (((12 * (nI bo)) + (nI v9.nC)) : Int32) = nI (12 * bo + v9.nC) by show (((nI 12 * (nI bo)) + (nI v9.nC)) : Int32) = _; simp only [nI_mu, nI_add], nI_clamp (by omega)] at eF351
        have p353 : F351 9 (12 * bo + v9.nC) = r113 := by rw [eF351, va_up_ne _ _ (by decide)]; exact p343
        have p354 : F351 1 (bo) = nI (v9.nC + 1) := by rw [eF351, va_up_ne _ _ (by decide)]; exact p344
        have p355 : F351 10 (12 * bo + v9.nC) = r135 := by rw [eF351, va_up_ne _ _ (by decide)]; exact p345
        have p356 : F351 12 (12 * bo + v9.nC) = 0 := by rw [eF351, va_up_ne _ _ (by decide)]; exact p347
        have p357 : F351 13 (12 * bo + v9.nC) = 0 := by rw [eF351, va_up_ne _ _ (by decide)]; exact p348
        have p358 : F351 14 (12 * bo + v9.nC) = 0 := by rw [eF351, va_up_ne _ _ (by decide)]; exact p349
        have p359 : F351 15 (12 * bo + v9.nC) = 0 := by rw [eF351, va_up_ne _ _ (by decide)]; exact p350
        have p360 : F351 11 (12 * bo + v9.nC) = 1 := by rw [eF351, va_up_self, pk_us]
        have hFr : FrW (wC bo v9.nC) F F351 := by rw [eF351]; exact hFr.up (by unfold wC; omega)
        have hQ : LXq Ar I341 F351 ft sx fr en bo a340 := by rw [eF351]; exact hQ.wF (by decide)
        have hC : CLq I341 F351 ft en (clA a104 cl (1, a104.1, v9.nC, 0)) (a104.1 + 1) := by rw [eF351]; exact hC.wF (by decide)
        refine lv_goto (tgt := 421) hx hb dX14_codingStatement_334 (by decide) ?_
        refine lv_aload_n hx hb dX14_codingStatement_421 rfl (lv_at hl 2 rfl) ?_
        refine lv_bipush (v := 59) hx hb dX14_codingStatement_422 (by decide) ?_
        refine va_callv (va_runV (As := [.int 59]) (rest := []) ⟨hx, hb, hml, hown, (fun _ h9 => absurd h9 List.not_mem_nil : ∀ w ∈ ([] : List Cond), w.before _ s = true)⟩ (c_M_mark l D cy A X hst hXT G352 o Ar I341 F351 L ft sx fr en bo a340 6 hM hQ (by decide) (by decide)) (tb_cw (C := RX14) 1 hT tw_1717 tw_109 tw_1714 tw_1716 tw_73 rfl rfl hq_X14_mark ⟨Nat.le_of_ble_eq_true rfl, Nat.le_of_ble_eq_true rfl⟩) (mk_preC hst hG hK hA hX hS vc_15 hM.1) rfl rfl hl.1 rfl (lv_room (Nat.le_of_ble_eq_true rfl)) dX14_codingStatement_424 ⟨Nat.le_of_ble_eq_true rfl, Nat.le_of_ble_eq_true rfl⟩) hS (fun q _ h => h) (fun q h => h) (fun  G361 t H locs ht hvm hw hB hz1 hk1 hS => ?_)
        have hG : mm D vwCl A G361 H := by rw [← ht]; exact hB
        clear hB hz1 hk1 hvm ht
        obtain ⟨a362, ea362⟩ : ∃ y, y = q_take (tkK ft en) (tkS ft en) 6 a340 := ⟨_, rfl⟩
        rw [← ea362] at hw
        obtain ⟨I363, F364, hM2, hF2, hQ2, hI2, hX2⟩ := hw
        replace hF := hF.tr hF2; replace hM := hM2; clear hM2 hF2
        have hQ := hQ2; have hIZ := (IZ_x hI2).trans hIZ; have hFr := hFr.fx hX2; have hC := hC.fx hI2 hX2
        have p365 : F364 9 (12 * bo + v9.nC) = r113 := (congrFun (FXe hX2 (by decide)) _).trans p353
        have p366 : F364 1 (bo) = nI (v9.nC + 1) := (congrFun (FXe hX2 (by decide)) _).trans p354
        have p367 : F364 10 (12 * bo + v9.nC) = r135 := (congrFun (FXe hX2 (by decide)) _).trans p355
        have p368 : F364 12 (12 * bo + v9.nC) = 0 := (congrFun (FXe hX2 (by decide)) _).trans p356
        have p369 : F364 13 (12 * bo + v9.nC) = 0 := (congrFun (FXe hX2 (by decide)) _).trans p357
        have p370 : F364 14 (12 * bo + v9.nC) = 0 := (congrFun (FXe hX2 (by decide)) _).trans p358
        have p371 : F364 15 (12 * bo + v9.nC) = 0 := (congrFun (FXe hX2 (by decide)) _).trans p359
        have p372 : F364 11 (12 * bo + v9.nC) = 1 := (congrFun (FXe hX2 (by decide)) _).trans p360
        clear hI2 hX2 hQ2
        have ga362 : a340.1 ≤ a362.1 := by rw [ea362]; exact ge_take
        have da362 : a362.2 < 0 → _ := fun z => ad_take hSn (by rw [← ea362]; exact z)
        rw [← ea362] at da362
        have hc1 : a104.1 + 1 ≤ a362.1 + 1 := by omega
        have hc2 : a362.2 < 0 → a104.1 + 1 ≤ a362.1 := fun z => by have := da362 z; omega
        have hqf : q_form (tkK ft en) (tkS ft en) (tkV ft en) a148 = (a362, 1, 0, 1, 1, 0) := by simp only [q_form, ← ea340, ← ea362]; rw [if_pos (by unfold se; rw [decide_eq_true hnq.1, decide_eq_true hnq.2]; rfl)]
        have hqe : (q_cod (tkK ft en) (tkS ft en) (tkV ft en) v9.nC q) = (a362, (tkS ft en a104.1, a115.1, a137.1), (1, 0, 1, 1, 0), (0, fun _ => (0, 0, 0, 0))) := by simp only [q_cod, ← ea104, ← ea115, ← ea130, ← ea137, ← ea148]; rw [hn4, if_neg Bool.false_ne_true, hqf]
        exact W.vret hx hb hr (fun t ht hW => ⟨⟨_, rfl, ⟨_, _, _, hM, hF, (by rw [hqe]; exact hQ), hIZ, hFr, (by rw [hqe]; exact hC.le (by (try dsimp only); omega)), (by rw [hqe]; (try dsimp only); omega), (by rw [hqe]; intro z; dsimp only at z ⊢; have ya362 := da362 z; have ya340 := da340 ya362.1; have ya148 := da148 ya340.1; have ya137 := da137 ya148.1; have ya130 := da130 ya137.1; have ya115 := da115 ya130.1; have ya104 := da104 ya115.1; exact ⟨⟨hlim, p366, ⟨(hr113.mono (by omega)).cg p365.symm, p367.trans (hr135 ya148.1), Or.inl ⟨p372, rfl⟩⟩, p371, (by omega), fun r hr => absurd hr (Nat.not_lt_zero r)⟩, (by simp only [clC, clA, ← ea104, ← ea115, ← ea130, ← ea137, ← ea148]; rw [if_pos hb0, hn4, if_neg Bool.false_ne_true, (da104 hb0).2.2])⟩)⟩, mk_end hG ht⟩, hS.F ht⟩) hS.2.2 dX14_codingStatement_427
    · skip
      have hnq : a148.2 < 0 ∧ tkK ft en a148.1 = 4 := se_t (b2i_t (by rw [← er194]; exact c_154))
      refine lv_aload_n hx hb dX14_codingStatement_157 rfl (lv_at hl 2 rfl) ?_
      refine va_callv (va_runV (As := []) (rest := []) ⟨hx, hb, hml, hown, (fun _ h9 => absurd h9 List.not_mem_nil : ∀ w ∈ ([] : List Cond), w.before _ s = true)⟩ (c_M_nextq l D cy A X hst hXT G185 o Ar I149 F184 L ft sx fr en bo a148 hM hQ hnq.1 (by rw [hnq.2]; decide) (by rw [hnq.2]; decide)) (tb_cw (C := RX14) 0 hT tw_1640 tw_109 tw_1637 tw_1639 tw_62 rfl rfl hq_X14_next ⟨Nat.le_of_ble_eq_true rfl, Nat.le_of_ble_eq_true rfl⟩) (mk_preC hst hG hK hA hX hS vc_15 hM.1) rfl rfl hl.1 rfl (lv_room (Nat.le_of_ble_eq_true rfl)) dX14_codingStatement_158 ⟨Nat.le_of_ble_eq_true rfl, Nat.le_of_ble_eq_true rfl⟩) hS (fun q _ h => h) (fun q h => h) (fun  G373 t H locs ht hvm hw hB hz1 hk1 hS => ?_)
      have hG : mm D vwCl A G373 H := by rw [← ht]; exact hB
      clear hB hz1 hk1 hvm ht
      obtain ⟨a374, ea374⟩ : ∃ y, y = (a148.1 + 1, a148.2) := ⟨_, rfl⟩
      rw [← ea374] at hw
      obtain ⟨I375, F376, hM2, hF2, hQ2, hI2, hX2⟩ := hw
      replace hF := hF.tr hF2; replace hM := hM2; clear hM2 hF2
      have hQ := hQ2; have hIZ := (IZ_x hI2).trans hIZ; have hFr := hFr.fx hX2; have hC := hC.fx hI2 hX2
      have p377 : F376 9 (12 * bo + v9.nC) = r113 := (congrFun (FXe hX2 (by decide)) _).trans p186
      have p378 : F376 1 (bo) = nI (v9.nC + 1) := (congrFun (FXe hX2 (by decide)) _).trans p187
      have p379 : F376 10 (12 * bo + v9.nC) = r135 := (congrFun (FXe hX2 (by decide)) _).trans p188
      have p380 : F376 11 (12 * bo + v9.nC) = 0 := (congrFun (FXe hX2 (by decide)) _).trans p189
      have p381 : F376 12 (12 * bo + v9.nC) = 0 := (congrFun (FXe hX2 (by decide)) _).trans p190
      have p382 : F376 13 (12 * bo + v9.nC) = 0 := (congrFun (FXe hX2 (by decide)) _).trans p191
      have p383 : F376 14 (12 * bo + v9.nC) = 0 := (congrFun (FXe hX2 (by decide)) _).trans p192
      have p384 : F376 15 (12 * bo + v9.nC) = 0 := (congrFun (FXe hX2 (by decide)) _).trans p193
      clear hI2 hX2 hQ2
      have ga374 : a148.1 ≤ a374.1 := by rw [ea374]; exact ge_next
      have da374 : a374.2 < 0 → _ := fun z => ad_next hSn (by rw [← ea374]; exact z)
      rw [← ea374] at da374
      have hc1 : a104.1 + 1 ≤ a374.1 + 1 := by omega
      have hc2 : a374.2 < 0 → a104.1 + 1 ≤ a374.1 := fun z => by have := da374 z; omega
      refine lv_aload_n hx hb dX14_codingStatement_161 rfl (lv_at hl 2 rfl) ?_
      refine mm_get (v := .ref (Ar 11)) hx hb hf_X14 (fun _ h9 => h9) hown hK hG hM.1 rfl 11 (by decide) (tb_use hT tw_1402) (fun _ h9 => h9) (mfs_g11 _ _) dX14_codingStatement_162 ?_
      refine lv_bipush (v := 12) hx hb dX14_codingStatement_165 (by decide) ?_
      refine lv_iload_n hx hb dX14_codingStatement_167 rfl (lv_at hl 1 rfl) ?_
      refine lv_imul hx hb dX14_codingStatement_168 ?_
      refine lv_iload_n hx hb dX14_codingStatement_169 rfl (lv_at hl 0 rfl) ?_
      refine lv_iadd hx hb dX14_codingStatement_170 ?_
      refine lv_iconst (v := 3) hx hb dX14_codingStatement_171 (by decide) ?_
      refine mm_iast (n := mdN 11) (f := F376 11) hx hb hK hG hS 1 (hM.2.1 11 rfl) rfl (by rw [show (((12 * (nI bo)) + (nI v9.nC)) : Int32) = nI (12 * bo + v9.nC) by show (((nI 12 * (nI bo)) + (nI v9.nC)) : Int32) = _; simp only [nI_mu, nI_add]]; exact nI_in (N := mdN 11) (by show _ < 24; omega) (by decide)) dX14_codingStatement_172 (fun H locs hG hS => ?_)
      have hM := MD.seti (k := 11) (upd (F376 11) ((12 * (nI bo)) + (nI v9.nC)).toNatClampNeg 3) hM rfl
      have hF := hF.wa (k := 11) (e' := .inl (cy 1, mdN 11, .inl (upd (F376 11) ((12 * (nI bo)) + (nI v9.nC)).toNatClampNeg 3))) rfl
      obtain ⟨F385, eF385⟩ : ∃ g, g = va_up F376 11 (upd (F376 11) ((12 * (nI bo)) + (nI v9.nC)).toNatClampNeg 3) := ⟨_, rfl⟩
      rw [← eF385] at hM
      have hgn := gn_MD hG hM hF
      clear hG hM hF
      obtain ⟨G386, hG, hM, hF⟩ := hgn
      rw [show (((12 * (nI bo)) + (nI v9.nC)) : Int32) = nI (12 * bo + v9.nC) by show (((nI 12 * (nI bo)) + (nI v9.nC)) : Int32) = _; simp only [nI_mu, nI_add], nI_clamp (by omega)] at eF385
      have p387 : F385 9 (12 * bo + v9.nC) = r113 := by rw [eF385, va_up_ne _ _ (by decide)]; exact p377
      have p388 : F385 1 (bo) = nI (v9.nC + 1) := by rw [eF385, va_up_ne _ _ (by decide)]; exact p378
      have p389 : F385 10 (12 * bo + v9.nC) = r135 := by rw [eF385, va_up_ne _ _ (by decide)]; exact p379
      have p390 : F385 12 (12 * bo + v9.nC) = 0 := by rw [eF385, va_up_ne _ _ (by decide)]; exact p381
      have p391 : F385 13 (12 * bo + v9.nC) = 0 := by rw [eF385, va_up_ne _ _ (by decide)]; exact p382
      have p392 : F385 14 (12 * bo + v9.nC) = 0 := by rw [eF385, va_up_ne _ _ (by decide)]; exact p383
      have p393 : F385 15 (12 * bo + v9.nC) = 0 := by rw [eF385, va_up_ne _ _ (by decide)]; exact p384
      have p394 : F385 11 (12 * bo + v9.nC) = 3 := by rw [eF385, va_up_self, pk_us]
      have hFr : FrW (wC bo v9.nC) F F385 := by rw [eF385]; exact hFr.up (by unfold wC; omega)
      have hQ : LXq Ar I375 F385 ft sx fr en bo a374 := by rw [eF385]; exact hQ.wF (by decide)
      have hC : CLq I375 F385 ft en (clA a104 cl (1, a104.1, v9.nC, 0)) (a104.1 + 1) := by rw [eF385]; exact hC.wF (by decide)
      have hse4 : se (tkK ft en) a148.1 a148.2 4 = true := by unfold se; rw [decide_eq_true hnq.1, decide_eq_true hnq.2]; rfl
      have hqs : (q_cod (tkK ft en) (tkS ft en) (tkV ft en) v9.nC q) = (q_take (tkK ft en) (tkS ft en) 5 (q_rows (tkK ft en) (tkS ft en) (tkV ft en) 9 0 a374 (fun _ => (0, 0, 0, 0))).2.2, (tkS ft en a104.1, a115.1, a137.1), (0, 0, 1, 1, 0), ((q_rows (tkK ft en) (tkS ft en) (tkV ft en) 9 0 a374 (fun _ => (0, 0, 0, 0))).1, (q_rows (tkK ft en) (tkS ft en) (tkV ft en) 9 0 a374 (fun _ => (0, 0, 0, 0))).2.1)) := by simp only [q_cod, ← ea104, ← ea115, ← ea130, ← ea137, ← ea148, ← ea374]; rw [if_pos hse4]
      have hcr : a374.2 < 0 → (clA a104 cl (1, a104.1, v9.nC, 0)) ++ clRs (tkK ft en) (tkS ft en) (tkV ft en) v9.nC 9 0 a374 = cl ++ clC (tkK ft en) (tkS ft en) (tkV ft en) v9.nC q := fun z => by simp only [clC, clA, ← ea104, ← ea115, ← ea130, ← ea137, ← ea148, ← ea374]; rw [if_pos hse4, if_pos hb0, (da104 hb0).2.2, List.append_assoc]; rfl
      exact hlp 9 0 a374 (fun _ => (0, 0, 0, 0)) I375 F385 (clA a104 cl (1, a104.1, v9.nC, 0)) (a104.1 + 1) (q_rows (tkK ft en) (tkS ft en) (tkV ft en) 9 0 a374 (fun _ => (0, 0, 0, 0))) (cl ++ clC (tkK ft en) (tkS ft en) (tkV ft en) v9.nC q) (tkS ft en a104.1) a137.1 a115.1 rfl rfl hlim (fun _ => Nat.zero_le _) hqs hcr rfl hQ hC hc1 hc2 hIZ hFr (by omega) p388 (fun z => (hr113.mono (by have y5 := da374 z; omega)).cg p387.symm) (fun z => p389.trans (hr135 (da148 (da374 z).1).1)) p394 p393 (fun _ r hr => absurd hr (Nat.not_lt_zero r)) G386 hM hF _ _ hG hS ls (lv_sub hl [2, 1, 0] rfl)
  · skip
    have hb0 : ¬ a104.2 < 0 := of_decide_eq_false (b2i_f (by rw [← hr102]; exact c_17))
    have hqe : (q_cod (tkK ft en) (tkS ft en) (tkV ft en) v9.nC q).1 = a104 := by simp only [q_cod, q_form, ← ea104]; rw [q_name_f hb0]; dsimp only; rw [q_take_f hb0, q_num_f hb0, q_take_f hb0, se_f hb0, if_neg Bool.false_ne_true]; dsimp only; rw [se_f hb0, se_f hb0, if_neg Bool.false_ne_true, if_neg Bool.false_ne_true]; dsimp only; rw [q_take_f hb0]
    exact W.vret hx hb hr (fun t ht hW => ⟨⟨_, rfl, ⟨_, _, _, hM, hF, (by rw [hqe]; exact hQ), hIZ, hFr, (by rw [hqe]; exact hC.le (by (try dsimp only); omega)), (by rw [hqe]; (try dsimp only); omega), (by rw [hqe]; exact fun z => absurd z hb0)⟩, mk_end hG ht⟩, hS.F ht⟩) hS.2.2 dX14_codingStatement_20
