/-- services of a book -/
def SRf (K : Nat → Nat) (V : Nat → Int64) (n : Nat) (F : Nat → Nat → Int32) (bo s : Nat) (x : Nat × (Int32 × Int64 × Int32)) (np : Nat) (P : Nat → PrD) : Prop := NMt K V n (F 20 (16 * bo + s)) x.2.2.1 ∧ F 21 (16 * bo + s) = x.2.2.2 ∧ F 22 (16 * bo + s) = nI x.1 ∧ F 23 (16 * bo + s) = nI np ∧ np ≤ 8 ∧ ∀ p, p < np → PRf K V n F (128 * bo + (8 * s + p)) (P p)
def bkS (K : Nat → Nat) (V : Nat → Int64) (n : Nat) (F : Nat → Nat → Int32) (bo : Nat) (v : EdV) : Prop := F 3 bo = nI v.nS ∧ v.nS ≤ 16 ∧ ∀ s, s < v.nS → SRf K V n F bo s (v.S s) (v.nP s) (v.P s)
def bkL (K : Nat → Nat) (V : Nat → Int64) (n : Nat) (F : Nat → Nat → Int32) (bo : Nat) (v : EdV) : Prop := F 2 bo = nI v.nL ∧ v.nL ≤ 6 ∧ ∀ i, i < v.nL → NMt K V n (F 18 (6 * bo + i)) (v.L i).2.1 ∧ NMt K V n (F 19 (6 * bo + i)) (v.L i).2.2.1
def wL (bo nl ns : Nat) : Nat → Nat → Prop := fun k i => (k = 2 ∧ i = bo) ∨ ((k = 18 ∨ k = 19) ∧ nl < 6 ∧ i = 6 * bo + nl) ∨ (k = 3 ∧ i = bo) ∨ (20 ≤ k ∧ k ≤ 23 ∧ 16 * bo + ns ≤ i ∧ i < 16 * bo + 16) ∨ (24 ≤ k ∧ k ≤ 28 ∧ 128 * bo + 8 * ns ≤ i ∧ i < 128 * bo + 128)
theorem SRf.mv {K : Nat → Nat} {V : Nat → Int64} {n m : Nat} {F F2 : Nat → Nat → Int32} {bo s : Nat} {x : Nat × (Int32 × Int64 × Int32)} {np : Nat} {P : Nat → PrD} (h : SRf K V n F bo s x np P) (hm : n ≤ m) (hF : ∀ k, 20 ≤ k → k ≤ 23 → F2 k (16 * bo + s) = F k (16 * bo + s)) (hP : ∀ k p, 24 ≤ k → k ≤ 28 → p < 8 → F2 k (128 * bo + (8 * s + p)) = F k (128 * bo + (8 * s + p))) : SRf K V m F2 bo s x np P := by
  obtain ⟨h1, h2, h3, h4, h5, h6⟩ := h
  refine ⟨?_, ?_, ?_, ?_, h5, fun p hp => (h6 p hp).mv hm (fun k a b => hP k p a b (by omega))⟩
  · rw [hF 20 (by decide) (by decide)]; exact h1.mono hm
  · rw [hF 21 (by decide) (by decide)]; exact h2
  · rw [hF 22 (by decide) (by decide)]; exact h3
  · rw [hF 23 (by decide) (by decide)]; exact h4
theorem bkS.add {K : Nat → Nat} {V : Nat → Int64} {n m : Nat} {F F2 : Nat → Nat → Int32} {bo : Nat} {v : EdV} {la : Nat} {x : (Int32 × Int64 × Int32) × (Nat × (Nat → PrD))} (h : bkS K V n F bo v) (hm : n ≤ m) (hl : v.nS < 16) (hW : FrW (wS bo v.nS) F F2) (h3 : F2 3 bo = nI (v.nS + 1)) (hx : SRf K V m F2 bo v.nS (la, x.1) x.2.1 x.2.2) : bkS K V m F2 bo (v.addS la x) := by
  refine ⟨h3, hl, fun s hs => ?_⟩
  have hs : s < v.nS + 1 := hs
  show SRf K V m F2 bo s (up1 v.S v.nS (la, x.1) s) (up1 v.nP v.nS x.2.1 s) (up1 v.P v.nS x.2.2 s)
  rcases Nat.lt_or_ge s v.nS with e | e
  · rw [up1_ne (by omega), up1_ne (by omega), up1_ne (by omega)]
    exact (h.2.2 s e).mv hm (fun k a b => hW k _ (by unfold lxA; omega) (by unfold wS; omega)) (fun k p a b c => hW k _ (by unfold lxA; omega) (by unfold wS; omega))
  · have es : s = v.nS := by omega
    rw [es, up1_eq, up1_eq, up1_eq]
    exact hx
theorem bkS.mvL {K : Nat → Nat} {V : Nat → Int64} {n m nl ns : Nat} {F F2 : Nat → Nat → Int32} {bo : Nat} {v v2 : EdV} (h : bkS K V n F bo v) (hm : n ≤ m) (hW : FrW (wL bo nl ns) F F2) (h3 : F2 3 bo = nI v.nS) (hn : v.nS ≤ ns) (e1 : v2.nS = v.nS) (e2 : v2.S = v.S) (e3 : v2.nP = v.nP) (e4 : v2.P = v.P) : bkS K V m F2 bo v2 := by
  unfold bkS
  rw [e1, e2, e3, e4]
  exact ⟨h3, h.2.1, fun s hs => (h.2.2 s hs).mv hm (fun k a b => hW k _ (by unfold lxA; omega) (by unfold wL; omega)) (fun k p a b c => hW k _ (by unfold lxA; omega) (by unfold wL; omega))⟩
/-- the claims of a layer's services, of a layer -/
def clSs (K : Nat → Nat) (S : Nat → Int32) (V : Nat → Int64) (la : Nat) : Nat → EdV → Nat × Int32 → List CLi
  | 0, _, _ => []
  | n + 1, v, q => if se K q.1 q.2 18 then clS K S V v.nS q ++ clSs K S V la n (v.addS la (q_ser K S V v.nS q).2) (q_ser K S V v.nS q).1 else []
def clL (K : Nat → Nat) (S : Nat → Int32) (V : Nat → Int64) (v : EdV) (q : Nat × Int32) : List CLi :=
  let q1 := q_begin S (nI v.nL) 6 q
  let a := q_name K S V q1
  let b := if se K a.2.1 a.2.2 17 then (S (a.2.1 + 1), q_name K S V (a.2.1 + 1, a.2.2)) else (0, (0, a.2))
  (2, q.1 + 1, v.nL, 0) :: ((if se K a.2.1 a.2.2 17 then [(9, q.1 + 3, v.nL, 0)] else []) ++ clSs K S V v.nL 17 (v.addL (S q1.1, a.1, b.2.1, b.1)) (q_take K S 4 b.2.2))
theorem clSs_f {K : Nat → Nat} {S : Nat → Int32} {V : Nat → Int64} {la n : Nat} {v : EdV} {q : Nat × Int32} (h : se K q.1 q.2 18 = false) : clSs K S V la n v q = [] := by
  cases n with
  | zero => rfl
  | succ n => rw [clSs, if_neg (by rw [h]; exact Bool.false_ne_true)]
theorem q_svs_n {K : Nat → Nat} {S : Nat → Int32} {V : Nat → Int64} {la n : Nat} {v : EdV} {q : Nat × Int32} (h : se K q.1 q.2 18 = false) : q_svs K S V n la v q = (v, q) := by
  cases n with
  | zero => rfl
  | succ n => rw [q_svs, if_neg (by rw [h]; exact Bool.false_ne_true)]

set_option maxHeartbeats 4000000 in
set_option maxRecDepth 100000 in
theorem c_M_laySt (l : Launch) (D : va_G) (cy : Nat → ClassId) (A : Nat → Prop) (X : State → Prop) (hst : mk_St A X) (hXT : ∀ U : State, X U → TB U) (G : Nat → Option va_E) (o : Nat) (Ar : Nat → Nat) (Iv : Nat → Int32) (F : Nat → Nat → Int32) (L : Nat → Nat → Int64) (ft : Nat → Int32) (sx fr en bo : Nat) (q : Nat × Int32) (cl : List CLi) (c9 : Nat) (v9 : EdV) (hM : MD cy G o Ar Iv F L) (hQ : LXq Ar Iv F ft sx fr en bo q) (hC : CLq Iv F ft en cl c9) (hc1 : c9 ≤ q.1 + 1) (hkb : q.2 < 0 → tkK ft en q.1 ≠ 2 ∧ tkK ft en q.1 ≠ 3) (hbL : bkL (tkK ft en) (tkV ft en) (q.1 + 1) F bo v9) (hbS : bkS (tkK ft en) (tkV ft en) (q.1 + 1) F bo v9) : Met l yX14_layerStatement [.code yX14_layerStatement cX14_layerStatement 3 none] ({ frames := 8, cells := 0, slots := 0, locals := 240 }) (mk_Pre D vwCl (tyL cy) A X G [.ref o]) (va_Qv (fun (G2 : Nat → Option va_E) => ∃ (I2 : Nat → Int32) (F2 : Nat → Nat → Int32) (cl2 : List CLi), MD cy G2 o Ar I2 F2 L ∧ MF G G2 o Ar ∧ LXq Ar I2 F2 ft sx fr en bo (q_lay (tkK ft en) (tkS ft en) (tkV ft en) v9 q).2 ∧ IZ I2 = IZ Iv ∧ FrW (wL bo v9.nL v9.nS) F F2 ∧ CLq I2 F2 ft en cl2 ((q_lay (tkK ft en) (tkS ft en) (tkV ft en) v9 q).2.1 + 1) ∧ q.1 ≤ (q_lay (tkK ft en) (tkS ft en) (tkV ft en) v9 q).2.1 ∧ ((q_lay (tkK ft en) (tkS ft en) (tkV ft en) v9 q).2.2 < 0 → (bkL (tkK ft en) (tkV ft en) ((q_lay (tkK ft en) (tkS ft en) (tkV ft en) v9 q).2.1 + 1) F2 bo (q_lay (tkK ft en) (tkS ft en) (tkV ft en) v9 q).1 ∧ bkS (tkK ft en) (tkV ft en) ((q_lay (tkK ft en) (tkS ft en) (tkV ft en) v9 q).2.1 + 1) F2 bo (q_lay (tkK ft en) (tkS ft en) (tkV ft en) v9 q).1) ∧ cl2 = cl ++ clL (tkK ft en) (tkS ft en) (tkV ft en) v9 q)) (mk_B D vwCl A) A) 0 0 A := by
  refine Met.ofW (cc := cX14_layerStatement) (maxL := 3) (ret := none) (by decide) rfl ?_
  intro p e s m args below meth c s₁ B hml hv
  obtain ⟨rfl, hG, hK, hA, hX⟩ := hv
  have hx := B.exec
  have hb := B.bytes
  have hr := B.returns
  have hlocks := B.notSynchronized
  have hT := hXT s hX
  have hown : s.vm.findClass RX14 = some m.cls := findClass_of_methodNamed B.named
  have hf_X14 : ∀ w ∈ u_ws RX14 TX14 76, w.before ([.ref o] : List Value).toArray s = true := tb_list hT fX14
  have hS : va_S A s.heap s.heap [] := va_S.rf
  have hl := lv_entry ([.ref o]) (n := 3) (Nat.le_of_ble_eq_true rfl)
  rw [lg_entry_eq]
  generalize (lg_sl ([.ref o]) ++ List.replicate (3 - (lg_sl ([.ref o])).length) Slot.unset).toArray = ls at hl ⊢
  have hl : lv_has ls 3 [(0, .ref o)] := hl
  have hF : MF G G o Ar := MF.rf
  have hIZ : IZ Iv = IZ Iv := rfl
  have hSn : ∀ p, ¬ tkS ft en p < 0 := fun p => tkS_ge hQ.1.2.2.2.1 p
  have hbo := hQ.1.2.2.2.2.2.1
  have hbl := hQ.1.2.2.2.2.1
  have hFr : FrW (wL bo v9.nL v9.nS) F F := FrW.rf
  have hn := hbL.1
  have hn3 := hbS.1
  have hn9 := hbL.2.1
  have hlp : ∀ (n : Nat) (qj : Nat × Int32) (vj : EdV) (Ij : Nat → Int32) (Fj : Nat → Nat → Int32) (clj : List CLi) (cj : Nat) (x9 : Int32 × Int64 × Int64 × Int32) (RP : EdV × (Nat × Int32)) (CR : List CLi), (q_svs (tkK ft en) (tkS ft en) (tkV ft en) n v9.nL vj qj = RP) → (17 ≤ n + vj.nS) → (v9.nL < 6) → (v9.nS ≤ vj.nS) → ((q_lay (tkK ft en) (tkS ft en) (tkV ft en) v9 q) = (RP.1, q_take (tkK ft en) (tkS ft en) 5 RP.2)) → (vj.nL = v9.nL + 1 ∧ vj.L = up1 v9.L v9.nL x9) → (qj.2 < 0 → clj ++ clSs (tkK ft en) (tkS ft en) (tkV ft en) v9.nL n vj qj = CR) → (CR = cl ++ clL (tkK ft en) (tkS ft en) (tkV ft en) v9 q) → (LXq Ar Ij Fj ft sx fr en bo qj) → (CLq Ij Fj ft en clj cj) → (cj ≤ qj.1 + 1) → (IZ Ij = IZ Iv) → (FrW (wL bo v9.nL v9.nS) F Fj) → (q.1 ≤ qj.1) → (Fj 2 bo = nI (v9.nL + 1)) → (qj.2 < 0 → NMt (tkK ft en) (tkV ft en) (qj.1 + 1) (Fj 18 (6 * bo + v9.nL)) x9.2.1) → (qj.2 < 0 → NMt (tkK ft en) (tkV ft en) (qj.1 + 1) (Fj 19 (6 * bo + v9.nL)) x9.2.2.1) → (qj.2 < 0 → bkS (tkK ft en) (tkV ft en) (qj.1 + 1) Fj bo vj) → ∀ (Gv : Nat → Option va_E), (MD cy Gv o Ar Ij Fj L) → (MF G Gv o Ar) → ∀ (H : Heap) (locs : List Loc), mm D vwCl A Gv H → va_S A s.heap H locs → ∀ ls : Array Slot, lv_has ls 3 [(0, .ref o), (2, .int (nI v9.nL))] → W p l e (headSpec [.code yX14_layerStatement cX14_layerStatement 3 none] ({ frames := 8, cells := 0, slots := 0, locals := 240 })).room s m ([.ref o] : List Value).toArray below meth c H locs 0 0 (MQ below (va_Qv (fun (G2 : Nat → Option va_E) => ∃ (I2 : Nat → Int32) (F2 : Nat → Nat → Int32) (cl2 : List CLi), MD cy G2 o Ar I2 F2 L ∧ MF G G2 o Ar ∧ LXq Ar I2 F2 ft sx fr en bo (q_lay (tkK ft en) (tkS ft en) (tkV ft en) v9 q).2 ∧ IZ I2 = IZ Iv ∧ FrW (wL bo v9.nL v9.nS) F F2 ∧ CLq I2 F2 ft en cl2 ((q_lay (tkK ft en) (tkS ft en) (tkV ft en) v9 q).2.1 + 1) ∧ q.1 ≤ (q_lay (tkK ft en) (tkS ft en) (tkV ft en) v9 q).2.1 ∧ ((q_lay (tkK ft en) (tkS ft en) (tkV ft en) v9 q).2.2 < 0 → (bkL (tkK ft en) (tkV ft en) ((q_lay (tkK ft en) (tkS ft en) (tkV ft en) v9 q).2.1 + 1) F2 bo (q_lay (tkK ft en) (tkS ft en) (tkV ft en) v9 q).1 ∧ bkS (tkK ft en) (tkV ft en) ((q_lay (tkK ft en) (tkS ft en) (tkV ft en) v9 q).2.1 + 1) F2 bo (q_lay (tkK ft en) (tkS ft en) (tkV ft en) v9 q).1) ∧ cl2 = cl ++ clL (tkK ft en) (tkS ft en) (tkV ft en) v9 q)) (mk_B D vwCl A) A) ([.ref o] : List Value).toArray s 0 0 A) (F0 m 114 ls []) := by
    intro n
    induction n with
    | zero =>
      intro qj vj Ij Fj clj cj x9 RP CR hR hn9 hlim hns hqs hvL hcr hCR hQ hC hc1 hIZ hFr hq0 h2 h18 h19 hS9 Gv hM hF H locs hG hS ls hl
      have hXX : FX Fj = FX Fj := rfl
      refine lv_aload_n hx hb dX14_layerStatement_114 rfl (lv_at hl 0 rfl) ?_
      refine lv_bipush (v := 8) hx hb dX14_layerStatement_115 (by decide) ?_
      refine va_calli (va_runV (As := [.int 8]) (rest := []) ⟨hx, hb, hml, hown, (fun _ h9 => absurd h9 List.not_mem_nil : ∀ w ∈ ([] : List Cond), w.before _ s = true)⟩ (c_M_isWord l D cy A X hst hXT Gv o Ar Ij Fj L 8 hM) (tb_cw (C := RX14) 1 hT tw_1734 tw_109 tw_1731 tw_1733 tw_77 rfl rfl hq_X14_isWord ⟨Nat.le_of_ble_eq_true rfl, Nat.le_of_ble_eq_true rfl⟩) (mk_preC hst hG hK hA hX hS vc_15 hM.1) rfl rfl hl.1 rfl (lv_room (Nat.le_of_ble_eq_true rfl)) dX14_layerStatement_117 ⟨Nat.le_of_ble_eq_true rfl, Nat.le_of_ble_eq_true rfl⟩) hS (fun q _ h => h) (fun q h => h) (fun r1 G2 t H locs ht hvm hw hB hz1 hk1 hS => ?_)
      have hG : mm D vwCl A G2 H := by rw [← ht]; exact hB
      clear hB hz1 hk1 hvm ht
      obtain ⟨er1, hw⟩ := hw
      rw [hw] at hG
      rw [hQ.isW (w := 8) (y := 8) rfl (by decide) (by decide)] at er1
      refine lv_if_eq (tgt := 131) hx hb dX14_layerStatement_120 (by decide) (fun c_120 => ?_) (fun c_120 => ?_)
      · skip
        refine lv_aload_n hx hb dX14_layerStatement_131 rfl (lv_at hl 0 rfl) ?_
        refine lv_bipush (v := 125) hx hb dX14_layerStatement_132 (by decide) ?_
        refine va_callv (va_runV (As := [.int 125]) (rest := []) ⟨hx, hb, hml, hown, (fun _ h9 => absurd h9 List.not_mem_nil : ∀ w ∈ ([] : List Cond), w.before _ s = true)⟩ (c_M_mark l D cy A X hst hXT Gv o Ar Ij Fj L ft sx fr en bo qj 5 hM hQ (by decide) (by decide)) (tb_cw (C := RX14) 1 hT tw_1717 tw_109 tw_1714 tw_1716 tw_73 rfl rfl hq_X14_mark ⟨Nat.le_of_ble_eq_true rfl, Nat.le_of_ble_eq_true rfl⟩) (mk_preC hst hG hK hA hX hS vc_15 hM.1) rfl rfl hl.1 rfl (lv_room (Nat.le_of_ble_eq_true rfl)) dX14_layerStatement_134 ⟨Nat.le_of_ble_eq_true rfl, Nat.le_of_ble_eq_true rfl⟩) hS (fun q _ h => h) (fun q h => h) (fun  G3 t H locs ht hvm hw hB hz1 hk1 hS => ?_)
        have hG : mm D vwCl A G3 H := by rw [← ht]; exact hB
        clear hB hz1 hk1 hvm ht
        obtain ⟨a4, ea4⟩ : ∃ y, y = q_take (tkK ft en) (tkS ft en) 5 qj := ⟨_, rfl⟩
        rw [← ea4] at hw
        obtain ⟨I5, F6, hM2, hF2, hQ2, hI2, hX2⟩ := hw
        replace hF := hF.tr hF2; replace hM := hM2; clear hM2 hF2
        have hQ := hQ2; have hIZ := (IZ_x hI2).trans hIZ; have hFr := hFr.fx hX2; have hC := hC.fx hI2 hX2
        have hXX := hX2.trans hXX
        clear hI2 hX2 hQ2
        have ga4 : qj.1 ≤ a4.1 := by rw [ea4]; exact ge_take
        have da4 : a4.2 < 0 → _ := fun z => ad_take hSn (by rw [← ea4]; exact z)
        rw [← ea4] at da4
        have hc1 : cj ≤ a4.1 + 1 := by omega
        have hc2 : a4.2 < 0 → cj ≤ a4.1 := fun z => by have := da4 z; omega
        have hnse : se (tkK ft en) qj.1 qj.2 18 = false := b2i_f (by rw [← er1]; exact c_120)
        have hRe : RP = (vj, qj) := by rw [← hR]; exact q_svs_n hnse
        have hqe : (q_lay (tkK ft en) (tkS ft en) (tkV ft en) v9 q) = (vj, a4) := by rw [hqs, hRe, ea4]
        have hLL : a4.2 < 0 → bkL (tkK ft en) (tkV ft en) (a4.1 + 1) F6 bo vj := by
          intro z
          have y := da4 z
          unfold bkL
          rw [hvL.1, hvL.2]
          refine ⟨(congrFun (FXe hXX (by decide : ¬ (2 = 0 ∨ 2 = 7 ∨ 2 = 8))) _).trans h2, hlim, fun i hi => ?_⟩
          have hi : i < v9.nL + 1 := hi
          show NMt _ _ _ _ (up1 v9.L v9.nL x9 i).2.1 ∧ NMt _ _ _ _ (up1 v9.L v9.nL x9 i).2.2.1
          rcases Nat.lt_or_ge i v9.nL with e1 | e1
          · rw [up1_ne (by omega), hFr 18 (6 * bo + i) (by unfold lxA; omega) (by unfold wL; omega), hFr 19 (6 * bo + i) (by unfold lxA; omega) (by unfold wL; omega)]
            exact ⟨(hbL.2.2 i e1).1.mono (by omega), (hbL.2.2 i e1).2.mono (by omega)⟩
          · rw [show i = v9.nL by omega, up1_eq, (congrFun (FXe hXX (by decide : ¬ (18 = 0 ∨ 18 = 7 ∨ 18 = 8))) _), (congrFun (FXe hXX (by decide : ¬ (19 = 0 ∨ 19 = 7 ∨ 19 = 8))) _)]
            exact ⟨(h18 y.1).mono (by omega), (h19 y.1).mono (by omega)⟩
        exact W.vret hx hb hr (fun t ht hW => ⟨⟨_, rfl, ⟨_, _, _, hM, hF, (by rw [hqe]; exact hQ), hIZ, hFr, (by rw [hqe]; exact hC.le (by (try dsimp only); omega)), (by rw [hqe]; (try dsimp only); omega), (by rw [hqe]; intro z; dsimp only at z ⊢; have y := da4 z; exact ⟨⟨hLL z, (by have w1 := hS9 y.1; exact ⟨(congrFun (FXe hXX (by decide : ¬ (3 = 0 ∨ 3 = 7 ∨ 3 = 8))) _).trans w1.1, w1.2.1, fun s hs => (w1.2.2 s hs).mv (by omega) (fun k h1 h2 => congrFun (FXe hXX (by omega)) _) (fun k p h1 h2 h3 => congrFun (FXe hXX (by omega)) _)⟩)⟩, (by rw [← hCR, ← hcr y.1, clSs_f hnse, List.append_nil])⟩)⟩, mk_end hG ht⟩, hS.F ht⟩) hS.2.2 dX14_layerStatement_137
      · skip
        exact absurd (hS9 (se_t (b2i_t (by rw [← er1]; exact c_120) : se (tkK ft en) qj.1 qj.2 18 = true)).1).2.1 (by omega)
    | succ n ih =>
      intro qj vj Ij Fj clj cj x9 RP CR hR hn9 hlim hns hqs hvL hcr hCR hQ hC hc1 hIZ hFr hq0 h2 h18 h19 hS9 Gv hM hF H locs hG hS ls hl
      have hXX : FX Fj = FX Fj := rfl
      refine lv_aload_n hx hb dX14_layerStatement_114 rfl (lv_at hl 0 rfl) ?_
      refine lv_bipush (v := 8) hx hb dX14_layerStatement_115 (by decide) ?_
      refine va_calli (va_runV (As := [.int 8]) (rest := []) ⟨hx, hb, hml, hown, (fun _ h9 => absurd h9 List.not_mem_nil : ∀ w ∈ ([] : List Cond), w.before _ s = true)⟩ (c_M_isWord l D cy A X hst hXT Gv o Ar Ij Fj L 8 hM) (tb_cw (C := RX14) 1 hT tw_1734 tw_109 tw_1731 tw_1733 tw_77 rfl rfl hq_X14_isWord ⟨Nat.le_of_ble_eq_true rfl, Nat.le_of_ble_eq_true rfl⟩) (mk_preC hst hG hK hA hX hS vc_15 hM.1) rfl rfl hl.1 rfl (lv_room (Nat.le_of_ble_eq_true rfl)) dX14_layerStatement_117 ⟨Nat.le_of_ble_eq_true rfl, Nat.le_of_ble_eq_true rfl⟩) hS (fun q _ h => h) (fun q h => h) (fun r7 G8 t H locs ht hvm hw hB hz1 hk1 hS => ?_)
      have hG : mm D vwCl A G8 H := by rw [← ht]; exact hB
      clear hB hz1 hk1 hvm ht
      obtain ⟨er7, hw⟩ := hw
      rw [hw] at hG
      rw [hQ.isW (w := 8) (y := 8) rfl (by decide) (by decide)] at er7
      refine lv_if_eq (tgt := 131) hx hb dX14_layerStatement_120 (by decide) (fun c_120 => ?_) (fun c_120 => ?_)
      · skip
        refine lv_aload_n hx hb dX14_layerStatement_131 rfl (lv_at hl 0 rfl) ?_
        refine lv_bipush (v := 125) hx hb dX14_layerStatement_132 (by decide) ?_
        refine va_callv (va_runV (As := [.int 125]) (rest := []) ⟨hx, hb, hml, hown, (fun _ h9 => absurd h9 List.not_mem_nil : ∀ w ∈ ([] : List Cond), w.before _ s = true)⟩ (c_M_mark l D cy A X hst hXT Gv o Ar Ij Fj L ft sx fr en bo qj 5 hM hQ (by decide) (by decide)) (tb_cw (C := RX14) 1 hT tw_1717 tw_109 tw_1714 tw_1716 tw_73 rfl rfl hq_X14_mark ⟨Nat.le_of_ble_eq_true rfl, Nat.le_of_ble_eq_true rfl⟩) (mk_preC hst hG hK hA hX hS vc_15 hM.1) rfl rfl hl.1 rfl (lv_room (Nat.le_of_ble_eq_true rfl)) dX14_layerStatement_134 ⟨Nat.le_of_ble_eq_true rfl, Nat.le_of_ble_eq_true rfl⟩) hS (fun q _ h => h) (fun q h => h) (fun  G9 t H locs ht hvm hw hB hz1 hk1 hS => ?_)
        have hG : mm D vwCl A G9 H := by rw [← ht]; exact hB
        clear hB hz1 hk1 hvm ht
        obtain ⟨a10, ea10⟩ : ∃ y, y = q_take (tkK ft en) (tkS ft en) 5 qj := ⟨_, rfl⟩
        rw [← ea10] at hw
        obtain ⟨I11, F12, hM2, hF2, hQ2, hI2, hX2⟩ := hw
        replace hF := hF.tr hF2; replace hM := hM2; clear hM2 hF2
        have hQ := hQ2; have hIZ := (IZ_x hI2).trans hIZ; have hFr := hFr.fx hX2; have hC := hC.fx hI2 hX2
        have hXX := hX2.trans hXX
        clear hI2 hX2 hQ2
        have ga10 : qj.1 ≤ a10.1 := by rw [ea10]; exact ge_take
        have da10 : a10.2 < 0 → _ := fun z => ad_take hSn (by rw [← ea10]; exact z)
        rw [← ea10] at da10
        have hc1 : cj ≤ a10.1 + 1 := by omega
        have hc2 : a10.2 < 0 → cj ≤ a10.1 := fun z => by have := da10 z; omega
        have hnse : se (tkK ft en) qj.1 qj.2 18 = false := b2i_f (by rw [← er7]; exact c_120)
        have hRe : RP = (vj, qj) := by rw [← hR]; exact q_svs_n hnse
        have hqe : (q_lay (tkK ft en) (tkS ft en) (tkV ft en) v9 q) = (vj, a10) := by rw [hqs, hRe, ea10]
        have hLL : a10.2 < 0 → bkL (tkK ft en) (tkV ft en) (a10.1 + 1) F12 bo vj := by
          intro z
          have y := da10 z
          unfold bkL
          rw [hvL.1, hvL.2]
          refine ⟨(congrFun (FXe hXX (by decide : ¬ (2 = 0 ∨ 2 = 7 ∨ 2 = 8))) _).trans h2, hlim, fun i hi => ?_⟩
          have hi : i < v9.nL + 1 := hi
          show NMt _ _ _ _ (up1 v9.L v9.nL x9 i).2.1 ∧ NMt _ _ _ _ (up1 v9.L v9.nL x9 i).2.2.1
          rcases Nat.lt_or_ge i v9.nL with e1 | e1
          · rw [up1_ne (by omega), hFr 18 (6 * bo + i) (by unfold lxA; omega) (by unfold wL; omega), hFr 19 (6 * bo + i) (by unfold lxA; omega) (by unfold wL; omega)]
            exact ⟨(hbL.2.2 i e1).1.mono (by omega), (hbL.2.2 i e1).2.mono (by omega)⟩
          · rw [show i = v9.nL by omega, up1_eq, (congrFun (FXe hXX (by decide : ¬ (18 = 0 ∨ 18 = 7 ∨ 18 = 8))) _), (congrFun (FXe hXX (by decide : ¬ (19 = 0 ∨ 19 = 7 ∨ 19 = 8))) _)]
            exact ⟨(h18 y.1).mono (by omega), (h19 y.1).mono (by omega)⟩
        exact W.vret hx hb hr (fun t ht hW => ⟨⟨_, rfl, ⟨_, _, _, hM, hF, (by rw [hqe]; exact hQ), hIZ, hFr, (by rw [hqe]; exact hC.le (by (try dsimp only); omega)), (by rw [hqe]; (try dsimp only); omega), (by rw [hqe]; intro z; dsimp only at z ⊢; have y := da10 z; exact ⟨⟨hLL z, (by have w1 := hS9 y.1; exact ⟨(congrFun (FXe hXX (by decide : ¬ (3 = 0 ∨ 3 = 7 ∨ 3 = 8))) _).trans w1.1, w1.2.1, fun s hs => (w1.2.2 s hs).mv (by omega) (fun k h1 h2 => congrFun (FXe hXX (by omega)) _) (fun k p h1 h2 h3 => congrFun (FXe hXX (by omega)) _)⟩)⟩, (by rw [← hCR, ← hcr y.1, clSs_f hnse, List.append_nil])⟩)⟩, mk_end hG ht⟩, hS.F ht⟩) hS.2.2 dX14_layerStatement_137
      · skip
        have hse : se (tkK ft en) qj.1 qj.2 18 = true := b2i_t (by rw [← er7]; exact c_120)
        have hnq := se_t hse
        refine lv_aload_n hx hb dX14_layerStatement_123 rfl (lv_at hl 0 rfl) ?_
        refine lv_iload_n hx hb dX14_layerStatement_124 rfl (lv_at hl 1 rfl) ?_
        refine va_callv (va_runV (As := [.int (nI v9.nL)]) (rest := []) ⟨hx, hb, hml, hown, (fun _ h9 => absurd h9 List.not_mem_nil : ∀ w ∈ ([] : List Cond), w.before _ s = true)⟩ (c_M_serSt l D cy A X hst hXT Gv o Ar Ij Fj L ft sx fr en bo qj clj cj vj v9.nL hM hQ hC hc1 (fun _ => ⟨(by rw [hnq.2]; decide), (by rw [hnq.2]; decide)⟩) (hS9 hnq.1).1 (hS9 hnq.1).2.1) (tb_cw (C := RX14) 1 hT tw_1746 tw_109 tw_1743 tw_1745 tw_80 rfl rfl hq_X14_serviceStatement ⟨Nat.le_of_ble_eq_true rfl, Nat.le_of_ble_eq_true rfl⟩) (mk_preC hst hG hK hA hX hS vc_15 hM.1) rfl rfl hl.1 rfl (lv_room (Nat.le_of_ble_eq_true rfl)) dX14_layerStatement_125 ⟨Nat.le_of_ble_eq_true rfl, Nat.le_of_ble_eq_true rfl⟩) hS (fun q _ h => h) (fun q h => h) (fun  G13 t H locs ht hvm hw hB hz1 hk1 hS => ?_)
        have hG : mm D vwCl A G13 H := by rw [← ht]; exact hB
        clear hB hz1 hk1 hvm ht
        obtain ⟨a14, ea14⟩ : ∃ y, y = q_ser (tkK ft en) (tkS ft en) (tkV ft en) vj.nS qj := ⟨_, rfl⟩
        rw [← ea14] at hw
        obtain ⟨I15, F16, cl17, hM2, hF2, hQ2, hI2, hFr2, hC2, hg2, hs2⟩ := hw
        replace hF := hF.tr hF2; replace hM := hM2; clear hM2 hF2
        have hQ := hQ2; have hIZ := hI2.trans hIZ; have hC := hC2; clear hI2 hQ2 hC2
        refine lv_goto (tgt := 114) hx hb dX14_layerStatement_128 (by decide) ?_
        have hR2 : q_svs (tkK ft en) (tkS ft en) (tkV ft en) n v9.nL (vj.addS v9.nL a14.2) a14.1 = RP := by rw [← hR, q_svs, if_pos hse, ← ea14]
        have hb16 := (hS9 hnq.1).2.1
        have hFr3 : FrW (wL bo v9.nL v9.nS) F F16 := hFr.tr (hFr2.mono (fun k i z => by unfold wS at z; unfold wL; omega))
        have hS3 : a14.1.2 < 0 → bkS (tkK ft en) (tkV ft en) (a14.1.1 + 1) F16 bo (vj.addS v9.nL a14.2) := fun z => (hS9 hnq.1).add (by omega) (hs2 z).1.1 hFr2 (hs2 z).1.2.1 (hs2 z).1.2.2
        have hcr2 : a14.1.2 < 0 → cl17 ++ clSs (tkK ft en) (tkS ft en) (tkV ft en) v9.nL n (vj.addS v9.nL a14.2) a14.1 = CR := fun z => by rw [(hs2 z).2, List.append_assoc, ← hcr hnq.1, clSs, if_pos hse, ← ea14]
        exact ih a14.1 (vj.addS v9.nL a14.2) I15 F16 cl17 (a14.1.1 + 1) x9 RP CR hR2 (by show 17 ≤ n + (vj.nS + 1); omega) hlim (by show v9.nS ≤ vj.nS + 1; omega) hqs hvL hcr2 hCR hQ hC (Nat.le_refl _) hIZ hFr3 (by omega) ((hFr2 2 (bo) (by unfold lxA; omega) (by unfold wS; omega)).trans h2) (fun z => by rw [(hFr2 18 (6 * bo + v9.nL) (by unfold lxA; omega) (by unfold wS; omega))]; exact (h18 hnq.1).mono (by omega)) (fun z => by rw [(hFr2 19 (6 * bo + v9.nL) (by unfold lxA; omega) (by unfold wS; omega))]; exact (h19 hnq.1).mono (by omega)) hS3 G13 hM hF _ _ hG hS ls (lv_sub hl [0, 1] rfl)
  refine lv_aload_n hx hb dX14_layerStatement_0 rfl (lv_at hl 0 rfl) ?_
  refine mm_get (v := .int (Iv 41)) hx hb hf_X14 (fun _ h9 => h9) hown hK hG hM.1 rfl 41 (by decide) (tb_use hT tw_1432) (fun _ h9 => h9) (mfs_g41 _ _) dX14_layerStatement_1 ?_
  rw [hbo]
  refine lv_istore_n (lv' := [(1, .int (nI bo)), (0, .ref o)]) hx hb dX14_layerStatement_4 rfl hl (by decide) rfl (fun ls hl => ?_)
  refine lv_aload_n hx hb dX14_layerStatement_5 rfl (lv_at hl 1 rfl) ?_
  refine lv_aload_n hx hb dX14_layerStatement_6 rfl (lv_at hl 1 rfl) ?_
  refine mm_get (v := .ref (Ar 2)) hx hb hf_X14 (fun _ h9 => h9) hown hK hG hM.1 rfl 2 (by decide) (tb_use hT tw_1393) (fun _ h9 => h9) (mfs_g2 _ _) dX14_layerStatement_7 ?_
  refine lv_iload_n hx hb dX14_layerStatement_10 rfl (lv_at hl 0 rfl) ?_
  refine mm_iald (n := 2) (f := F 2) hx hb hK hG 1 (hM.2.1 2 rfl) rfl (by exact nI_in (N := 2) (by omega) (by decide)) dX14_layerStatement_11 ?_
  refine lv_topi (fun x18 ex18 => ?_)
  rw [show x18 = nI v9.nL by rw [ex18, nI_clamp (by omega)]; exact hn]
  refine lv_bipush (v := 6) hx hb dX14_layerStatement_12 (by decide) ?_
  refine va_calli (va_runV (As := [.int (nI v9.nL), .int 6]) (rest := []) ⟨hx, hb, hml, hown, (fun _ h9 => absurd h9 List.not_mem_nil : ∀ w ∈ ([] : List Cond), w.before _ s = true)⟩ (c_M_begins l D cy A X hst hXT G o Ar Iv F L ft sx fr en bo q (nI v9.nL) 6 hM hQ hkb) (tb_cw (C := RX14) 2 hT tw_1701 tw_109 tw_1698 tw_1700 tw_69 rfl rfl hq_X14_begins ⟨Nat.le_of_ble_eq_true rfl, Nat.le_of_ble_eq_true rfl⟩) (mk_preC hst hG hK hA hX hS vc_15 hM.1) rfl rfl hl.1 rfl (lv_room (Nat.le_of_ble_eq_true rfl)) dX14_layerStatement_14 ⟨Nat.le_of_ble_eq_true rfl, Nat.le_of_ble_eq_true rfl⟩) hS (fun q _ h => h) (fun q h => h) (fun r19 G20 t H locs ht hvm hw hB hz1 hk1 hS => ?_)
  have hG : mm D vwCl A G20 H := by rw [← ht]; exact hB
  clear hB hz1 hk1 hvm ht
  obtain ⟨a21, ea21⟩ : ∃ y, y = q_begin (tkS ft en) (nI v9.nL) 6 q := ⟨_, rfl⟩
  rw [← ea21] at hw
  obtain ⟨hr19, I22, F23, hM2, hF2, hQ2, hI2, hX2⟩ := hw
  replace hF := hF.tr hF2; replace hM := hM2; clear hM2 hF2
  have hQ := hQ2; have hIZ := (IZ_x hI2).trans hIZ; have hFr := hFr.fx hX2; have hC := hC.fx hI2 hX2
  have p24 : F23 2 (bo) = nI v9.nL := (congrFun (FXe hX2 (by decide)) _).trans hn
  have p25 : F23 3 (bo) = nI v9.nS := (congrFun (FXe hX2 (by decide)) _).trans hn3
  clear hI2 hX2 hQ2
  have ga21 : q.1 ≤ a21.1 := by rw [ea21]; exact ge_begin
  have da21 : a21.2 < 0 → _ := fun z => ad_begin hSn (by rw [← ea21]; exact z)
  rw [← ea21] at da21
  have hc1 : c9 ≤ a21.1 + 1 := by omega
  have hc2 : a21.2 < 0 → c9 ≤ a21.1 := fun z => by have := da21 z; omega
  refine lv_if_ne (tgt := 21) hx hb dX14_layerStatement_17 (by decide) (fun c_17 => ?_) (fun c_17 => ?_)
  · skip
    have hb0 : a21.2 < 0 := of_decide_eq_true (b2i_t (by rw [← hr19]; exact c_17))
    have hlim : v9.nL < 6 := nI_lt_of (by omega) (by decide) (Int32.not_le.mpr (da21 hb0).2.1)
    refine lv_aload_n hx hb dX14_layerStatement_21 rfl (lv_at hl 1 rfl) ?_
    refine mm_get (v := .ref (Ar 2)) hx hb hf_X14 (fun _ h9 => h9) hown hK hG hM.1 rfl 2 (by decide) (tb_use hT tw_1393) (fun _ h9 => h9) (mfs_g2 _ _) dX14_layerStatement_22 ?_
    refine lv_iload_n hx hb dX14_layerStatement_25 rfl (lv_at hl 0 rfl) ?_
    refine mm_iald (n := 2) (f := F23 2) hx hb hK hG 1 (hM.2.1 2 rfl) rfl (by exact nI_in (N := 2) (by omega) (by decide)) dX14_layerStatement_26 ?_
    refine lv_topi (fun x26 ex26 => ?_)
    rw [show x26 = nI v9.nL by rw [ex26, nI_clamp (by omega)]; exact p24]
    refine lv_istore_n (lv' := [(2, .int (nI v9.nL)), (1, .int (nI bo)), (0, .ref o)]) hx hb dX14_layerStatement_27 rfl hl (by decide) rfl (fun ls hl => ?_)
    refine lv_aload_n hx hb dX14_layerStatement_28 rfl (lv_at hl 2 rfl) ?_
    refine lv_iconst (v := 2) hx hb dX14_layerStatement_29 (by decide) ?_
    refine lv_iload_n hx hb dX14_layerStatement_30 rfl (lv_at hl 0 rfl) ?_
    refine lv_iconst (v := 0) hx hb dX14_layerStatement_31 (by decide) ?_
    refine va_callv (va_runV (As := [.int 2, .int (nI v9.nL), .int 0]) (rest := []) ⟨hx, hb, hml, hown, (fun _ h9 => absurd h9 List.not_mem_nil : ∀ w ∈ ([] : List Cond), w.before _ s = true)⟩ (c_M_claimq l D cy A X hst hXT G20 o Ar I22 F23 L ft sx fr en bo a21 cl c9 2 v9.nL 0 hM hQ hC hc1 hc2) (tb_cw (C := RX14) 3 hT tw_1709 tw_109 tw_1706 tw_1708 tw_71 rfl rfl hq_X14_claim ⟨Nat.le_of_ble_eq_true rfl, Nat.le_of_ble_eq_true rfl⟩) (mk_preC hst hG hK hA hX hS vc_15 hM.1) rfl rfl hl.1 rfl (lv_room (Nat.le_of_ble_eq_true rfl)) dX14_layerStatement_32 ⟨Nat.le_of_ble_eq_true rfl, Nat.le_of_ble_eq_true rfl⟩) hS (fun q _ h => h) (fun q h => h) (fun  G27 t H locs ht hvm hw hB hz1 hk1 hS => ?_)
    have hG : mm D vwCl A G27 H := by rw [← ht]; exact hB
    clear hB hz1 hk1 hvm ht
    obtain ⟨I28, F29, hM2, hF2, hQ2, hC2, hI2, hX2⟩ := hw
    replace hF := hF.tr hF2; replace hM := hM2; clear hM2 hF2
    have hQ := hQ2; have hC := hC2; have hIZ := hI2.trans hIZ
    have hFr : FrW (wL bo v9.nL v9.nS) F F29 := fun j i h1 h2 => (congrFun (hX2 j (fun z => h1 (by unfold lxA; omega))) i).trans (hFr j i h1 h2)
    have p30 : F29 2 (bo) = nI v9.nL := (congrFun (hX2 2 (by decide)) _).trans p24
    have p31 : F29 3 (bo) = nI v9.nS := (congrFun (hX2 3 (by decide)) _).trans p25
    clear hI2 hX2 hQ2 hC2
    have hc1 : a21.1 + 1 ≤ a21.1 + 1 := Nat.le_refl _
    refine lv_aload_n hx hb dX14_layerStatement_35 rfl (lv_at hl 2 rfl) ?_
    refine mm_get (v := .ref (Ar 18)) hx hb hf_X14 (fun _ h9 => h9) hown hK hG hM.1 rfl 18 (by decide) (tb_use hT tw_1409) (fun _ h9 => h9) (mfs_g18 _ _) dX14_layerStatement_36 ?_
    refine lv_bipush (v := 6) hx hb dX14_layerStatement_39 (by decide) ?_
    refine lv_iload_n hx hb dX14_layerStatement_41 rfl (lv_at hl 1 rfl) ?_
    refine lv_imul hx hb dX14_layerStatement_42 ?_
    refine lv_iload_n hx hb dX14_layerStatement_43 rfl (lv_at hl 0 rfl) ?_
    refine lv_iadd hx hb dX14_layerStatement_44 ?_
    refine lv_aload_n hx hb dX14_layerStatement_45 rfl (lv_at hl 2 rfl) ?_
    refine va_calli (va_runV (As := []) (rest := [.int ((6 * (nI bo)) + (nI v9.nL)), .ref (Ar 18)]) ⟨hx, hb, hml, hown, (fun _ h9 => absurd h9 List.not_mem_nil : ∀ w ∈ ([] : List Cond), w.before _ s = true)⟩ (c_M_name l D cy A X hst hXT G27 o Ar I28 F29 L ft sx fr en bo a21 hM hQ) (tb_cw (C := RX14) 0 hT tw_1713 tw_109 tw_1710 tw_1712 tw_72 rfl rfl hq_X14_name ⟨Nat.le_of_ble_eq_true rfl, Nat.le_of_ble_eq_true rfl⟩) (mk_preC hst hG hK hA hX hS vc_15 hM.1) rfl rfl hl.1 rfl (lv_room (Nat.le_of_ble_eq_true rfl)) dX14_layerStatement_46 ⟨Nat.le_of_ble_eq_true rfl, Nat.le_of_ble_eq_true rfl⟩) hS (fun q _ h => h) (fun q h => h) (fun r32 G33 t H locs ht hvm hw hB hz1 hk1 hS => ?_)
    have hG : mm D vwCl A G33 H := by rw [← ht]; exact hB
    clear hB hz1 hk1 hvm ht
    obtain ⟨a34, ea34⟩ : ∃ y, y = q_name (tkK ft en) (tkS ft en) (tkV ft en) a21 := ⟨_, rfl⟩
    rw [← ea34] at hw
    obtain ⟨hr32, I35, F36, hM2, hF2, hQ2, hI2, hX2⟩ := hw
    replace hF := hF.tr hF2; replace hM := hM2; clear hM2 hF2
    have hQ := hQ2; have hIZ := (IZ_x hI2).trans hIZ; have hFr := hFr.fx hX2; have hC := hC.fx hI2 hX2
    have p37 : F36 2 (bo) = nI v9.nL := (congrFun (FXe hX2 (by decide)) _).trans p30
    have p38 : F36 3 (bo) = nI v9.nS := (congrFun (FXe hX2 (by decide)) _).trans p31
    clear hI2 hX2 hQ2
    have ga34 : a21.1 ≤ a34.2.1 := by rw [ea34]; exact ge_name
    have da34 : a34.2.2 < 0 → _ := fun z => ad_name hSn (by rw [← ea34]; exact z)
    rw [← ea34] at da34
    have hc1 : a21.1 + 1 ≤ a34.2.1 + 1 := by omega
    have hc2 : a34.2.2 < 0 → a21.1 + 1 ≤ a34.2.1 := fun z => by have := da34 z; omega
    refine mm_iast (n := mdN 18) (f := F36 18) hx hb hK hG hS 1 (hM.2.1 18 rfl) rfl (by rw [show (((6 * (nI bo)) + (nI v9.nL)) : Int32) = nI (6 * bo + v9.nL) by show (((nI 6 * (nI bo)) + (nI v9.nL)) : Int32) = _; simp only [nI_mu, nI_add]]; exact nI_in (N := mdN 18) (by show _ < 12; omega) (by decide)) dX14_layerStatement_49 (fun H locs hG hS => ?_)
    have hM := MD.seti (k := 18) (upd (F36 18) ((6 * (nI bo)) + (nI v9.nL)).toNatClampNeg r32) hM rfl
    have hF := hF.wa (k := 18) (e' := .inl (cy 1, mdN 18, .inl (upd (F36 18) ((6 * (nI bo)) + (nI v9.nL)).toNatClampNeg r32))) rfl
    obtain ⟨F39, eF39⟩ : ∃ g, g = va_up F36 18 (upd (F36 18) ((6 * (nI bo)) + (nI v9.nL)).toNatClampNeg r32) := ⟨_, rfl⟩
    rw [← eF39] at hM
    have hgn := gn_MD hG hM hF
    clear hG hM hF
    obtain ⟨G40, hG, hM, hF⟩ := hgn
    rw [show (((6 * (nI bo)) + (nI v9.nL)) : Int32) = nI (6 * bo + v9.nL) by show (((nI 6 * (nI bo)) + (nI v9.nL)) : Int32) = _; simp only [nI_mu, nI_add], nI_clamp (by omega)] at eF39
    have p41 : F39 2 (bo) = nI v9.nL := by rw [eF39, va_up_ne _ _ (by decide)]; exact p37
    have p42 : F39 3 (bo) = nI v9.nS := by rw [eF39, va_up_ne _ _ (by decide)]; exact p38
    have p43 : F39 18 (6 * bo + v9.nL) = r32 := by rw [eF39, va_up_self, pk_us]
    have hFr : FrW (wL bo v9.nL v9.nS) F F39 := by rw [eF39]; exact hFr.up (by unfold wL; omega)
    have hQ : LXq Ar I35 F39 ft sx fr en bo a34.2 := by rw [eF39]; exact hQ.wF (by decide)
    have hC : CLq I35 F39 ft en (clA a21 cl (2, a21.1, v9.nL, 0)) (a21.1 + 1) := by rw [eF39]; exact hC.wF (by decide)
    refine lv_aload_n hx hb dX14_layerStatement_50 rfl (lv_at hl 2 rfl) ?_
    refine mm_get (v := .ref (Ar 19)) hx hb hf_X14 (fun _ h9 => h9) hown hK hG hM.1 rfl 19 (by decide) (tb_use hT tw_1410) (fun _ h9 => h9) (mfs_g19 _ _) dX14_layerStatement_51 ?_
    refine lv_bipush (v := 6) hx hb dX14_layerStatement_54 (by decide) ?_
    refine lv_iload_n hx hb dX14_layerStatement_56 rfl (lv_at hl 1 rfl) ?_
    refine lv_imul hx hb dX14_layerStatement_57 ?_
    refine lv_iload_n hx hb dX14_layerStatement_58 rfl (lv_at hl 0 rfl) ?_
    refine lv_iadd hx hb dX14_layerStatement_59 ?_
    refine lv_iconst (v := 0) hx hb dX14_layerStatement_60 (by decide) ?_
    refine mm_iast (n := mdN 19) (f := F39 19) hx hb hK hG hS 1 (hM.2.1 19 rfl) rfl (by rw [show (((6 * (nI bo)) + (nI v9.nL)) : Int32) = nI (6 * bo + v9.nL) by show (((nI 6 * (nI bo)) + (nI v9.nL)) : Int32) = _; simp only [nI_mu, nI_add]]; exact nI_in (N := mdN 19) (by show _ < 12; omega) (by decide)) dX14_layerStatement_61 (fun H locs hG hS => ?_)
    have hM := MD.seti (k := 19) (upd (F39 19) ((6 * (nI bo)) + (nI v9.nL)).toNatClampNeg 0) hM rfl
    have hF := hF.wa (k := 19) (e' := .inl (cy 1, mdN 19, .inl (upd (F39 19) ((6 * (nI bo)) + (nI v9.nL)).toNatClampNeg 0))) rfl
    obtain ⟨F44, eF44⟩ : ∃ g, g = va_up F39 19 (upd (F39 19) ((6 * (nI bo)) + (nI v9.nL)).toNatClampNeg 0) := ⟨_, rfl⟩
    rw [← eF44] at hM
    have hgn := gn_MD hG hM hF
    clear hG hM hF
    obtain ⟨G45, hG, hM, hF⟩ := hgn
    rw [show (((6 * (nI bo)) + (nI v9.nL)) : Int32) = nI (6 * bo + v9.nL) by show (((nI 6 * (nI bo)) + (nI v9.nL)) : Int32) = _; simp only [nI_mu, nI_add], nI_clamp (by omega)] at eF44
    have p46 : F44 2 (bo) = nI v9.nL := by rw [eF44, va_up_ne _ _ (by decide)]; exact p41
    have p47 : F44 3 (bo) = nI v9.nS := by rw [eF44, va_up_ne _ _ (by decide)]; exact p42
    have p48 : F44 18 (6 * bo + v9.nL) = r32 := by rw [eF44, va_up_ne _ _ (by decide)]; exact p43
    have p49 : F44 19 (6 * bo + v9.nL) = 0 := by rw [eF44, va_up_self, pk_us]
    have hFr : FrW (wL bo v9.nL v9.nS) F F44 := by rw [eF44]; exact hFr.up (by unfold wL; omega)
    have hQ : LXq Ar I35 F44 ft sx fr en bo a34.2 := by rw [eF44]; exact hQ.wF (by decide)
    have hC : CLq I35 F44 ft en (clA a21 cl (2, a21.1, v9.nL, 0)) (a21.1 + 1) := by rw [eF44]; exact hC.wF (by decide)
    refine lv_aload_n hx hb dX14_layerStatement_62 rfl (lv_at hl 2 rfl) ?_
    refine mm_get (v := .ref (Ar 2)) hx hb hf_X14 (fun _ h9 => h9) hown hK hG hM.1 rfl 2 (by decide) (tb_use hT tw_1393) (fun _ h9 => h9) (mfs_g2 _ _) dX14_layerStatement_63 ?_
    refine lv_iload_n hx hb dX14_layerStatement_66 rfl (lv_at hl 1 rfl) ?_
    refine lv_dup2_11 hx hb dX14_layerStatement_67 rfl rfl ?_
    refine mm_iald (n := 2) (f := F44 2) hx hb hK hG 1 (hM.2.1 2 rfl) rfl (by exact nI_in (N := 2) (by omega) (by decide)) dX14_layerStatement_68 ?_
    refine lv_topi (fun x50 ex50 => ?_)
    rw [show x50 = nI v9.nL by rw [ex50, nI_clamp (by omega)]; exact p46]
    refine lv_iconst (v := 1) hx hb dX14_layerStatement_69 (by decide) ?_
    refine lv_iadd hx hb dX14_layerStatement_70 ?_
    rw [show nI v9.nL + 1 = nI (v9.nL + 1) from nI_1 _]
    refine lv_topi (fun x51 ex51 => ?_)
    refine mm_iast (n := mdN 2) (f := F44 2) hx hb hK hG hS 1 (hM.2.1 2 rfl) rfl (by exact nI_in (N := mdN 2) (by show _ < 2; omega) (by decide)) dX14_layerStatement_71 (fun H locs hG hS => ?_)
    have hM := MD.seti (k := 2) (upd (F44 2) (nI bo).toNatClampNeg x51) hM rfl
    have hF := hF.wa (k := 2) (e' := .inl (cy 1, mdN 2, .inl (upd (F44 2) (nI bo).toNatClampNeg x51))) rfl
    obtain ⟨F52, eF52⟩ : ∃ g, g = va_up F44 2 (upd (F44 2) (nI bo).toNatClampNeg x51) := ⟨_, rfl⟩
    rw [← eF52] at hM
    have hgn := gn_MD hG hM hF
    clear hG hM hF
    obtain ⟨G53, hG, hM, hF⟩ := hgn
    rw [nI_clamp (by omega)] at eF52
    have p54 : F52 3 (bo) = nI v9.nS := by rw [eF52, va_up_ne _ _ (by decide)]; exact p47
    have p55 : F52 18 (6 * bo + v9.nL) = r32 := by rw [eF52, va_up_ne _ _ (by decide)]; exact p48
    have p56 : F52 19 (6 * bo + v9.nL) = 0 := by rw [eF52, va_up_ne _ _ (by decide)]; exact p49
    have p57 : F52 2 (bo) = nI (v9.nL + 1) := by rw [eF52, va_up_self, pk_us, ex51]
    have hFr : FrW (wL bo v9.nL v9.nS) F F52 := by rw [eF52]; exact hFr.up (by unfold wL; omega)
    have hQ : LXq Ar I35 F52 ft sx fr en bo a34.2 := by rw [eF52]; exact hQ.wF (by decide)
    have hC : CLq I35 F52 ft en (clA a21 cl (2, a21.1, v9.nL, 0)) (a21.1 + 1) := by rw [eF52]; exact hC.wF (by decide)
    refine lv_aload_n hx hb dX14_layerStatement_72 rfl (lv_at hl 2 rfl) ?_
    refine lv_bipush (v := 7) hx hb dX14_layerStatement_73 (by decide) ?_
    refine va_calli (va_runV (As := [.int 7]) (rest := []) ⟨hx, hb, hml, hown, (fun _ h9 => absurd h9 List.not_mem_nil : ∀ w ∈ ([] : List Cond), w.before _ s = true)⟩ (c_M_isWord l D cy A X hst hXT G53 o Ar I35 F52 L 7 hM) (tb_cw (C := RX14) 1 hT tw_1734 tw_109 tw_1731 tw_1733 tw_77 rfl rfl hq_X14_isWord ⟨Nat.le_of_ble_eq_true rfl, Nat.le_of_ble_eq_true rfl⟩) (mk_preC hst hG hK hA hX hS vc_15 hM.1) rfl rfl hl.1 rfl (lv_room (Nat.le_of_ble_eq_true rfl)) dX14_layerStatement_75 ⟨Nat.le_of_ble_eq_true rfl, Nat.le_of_ble_eq_true rfl⟩) hS (fun q _ h => h) (fun q h => h) (fun r58 G59 t H locs ht hvm hw hB hz1 hk1 hS => ?_)
    have hG : mm D vwCl A G59 H := by rw [← ht]; exact hB
    clear hB hz1 hk1 hvm ht
    obtain ⟨er58, hw⟩ := hw
    rw [hw] at hG
    rw [hQ.isW (w := 7) (y := 7) rfl (by decide) (by decide)] at er58
    refine lv_if_eq (tgt := 108) hx hb dX14_layerStatement_78 (by decide) (fun c_78 => ?_) (fun c_78 => ?_)
    · skip
      refine lv_aload_n hx hb dX14_layerStatement_108 rfl (lv_at hl 2 rfl) ?_
      refine lv_bipush (v := 123) hx hb dX14_layerStatement_109 (by decide) ?_
      refine va_callv (va_runV (As := [.int 123]) (rest := []) ⟨hx, hb, hml, hown, (fun _ h9 => absurd h9 List.not_mem_nil : ∀ w ∈ ([] : List Cond), w.before _ s = true)⟩ (c_M_mark l D cy A X hst hXT G53 o Ar I35 F52 L ft sx fr en bo a34.2 4 hM hQ (by decide) (by decide)) (tb_cw (C := RX14) 1 hT tw_1717 tw_109 tw_1714 tw_1716 tw_73 rfl rfl hq_X14_mark ⟨Nat.le_of_ble_eq_true rfl, Nat.le_of_ble_eq_true rfl⟩) (mk_preC hst hG hK hA hX hS vc_15 hM.1) rfl rfl hl.1 rfl (lv_room (Nat.le_of_ble_eq_true rfl)) dX14_layerStatement_111 ⟨Nat.le_of_ble_eq_true rfl, Nat.le_of_ble_eq_true rfl⟩) hS (fun q _ h => h) (fun q h => h) (fun  G60 t H locs ht hvm hw hB hz1 hk1 hS => ?_)
      have hG : mm D vwCl A G60 H := by rw [← ht]; exact hB
      clear hB hz1 hk1 hvm ht
      obtain ⟨a61, ea61⟩ : ∃ y, y = q_take (tkK ft en) (tkS ft en) 4 a34.2 := ⟨_, rfl⟩
      rw [← ea61] at hw
      obtain ⟨I62, F63, hM2, hF2, hQ2, hI2, hX2⟩ := hw
      replace hF := hF.tr hF2; replace hM := hM2; clear hM2 hF2
      have hQ := hQ2; have hIZ := (IZ_x hI2).trans hIZ; have hFr := hFr.fx hX2; have hC := hC.fx hI2 hX2
      have p64 : F63 3 (bo) = nI v9.nS := (congrFun (FXe hX2 (by decide)) _).trans p54
      have p65 : F63 18 (6 * bo + v9.nL) = r32 := (congrFun (FXe hX2 (by decide)) _).trans p55
      have p66 : F63 19 (6 * bo + v9.nL) = 0 := (congrFun (FXe hX2 (by decide)) _).trans p56
      have p67 : F63 2 (bo) = nI (v9.nL + 1) := (congrFun (FXe hX2 (by decide)) _).trans p57
      clear hI2 hX2 hQ2
      have ga61 : a34.2.1 ≤ a61.1 := by rw [ea61]; exact ge_take
      have da61 : a61.2 < 0 → _ := fun z => ad_take hSn (by rw [← ea61]; exact z)
      rw [← ea61] at da61
      have hc1 : a21.1 + 1 ≤ a61.1 + 1 := by omega
      have hc2 : a61.2 < 0 → a21.1 + 1 ≤ a61.1 := fun z => by have := da61 z; omega
      have hn17 : se (tkK ft en) a34.2.1 a34.2.2 17 = false := b2i_f (by rw [← er58]; exact c_78)
      have hqs : (q_lay (tkK ft en) (tkS ft en) (tkV ft en) v9 q) = ((q_svs (tkK ft en) (tkS ft en) (tkV ft en) 17 v9.nL (v9.addL (tkS ft en a21.1, a34.1, 0, 0)) a61).1, q_take (tkK ft en) (tkS ft en) 5 (q_svs (tkK ft en) (tkS ft en) (tkV ft en) 17 v9.nL (v9.addL (tkS ft en a21.1, a34.1, 0, 0)) a61).2) := by simp only [q_lay, ← ea21, ← ea34, ← ea61]; rw [hn17, if_neg Bool.false_ne_true]; dsimp only; rw [← ea61]
      have hcr : a61.2 < 0 → (clA a21 cl (2, a21.1, v9.nL, 0)) ++ clSs (tkK ft en) (tkS ft en) (tkV ft en) v9.nL 17 (v9.addL (tkS ft en a21.1, a34.1, 0, 0)) a61 = cl ++ clL (tkK ft en) (tkS ft en) (tkV ft en) v9 q := fun z => by simp only [clL, clA, ← ea21, ← ea34, ← ea61]; rw [hn17, if_neg Bool.false_ne_true, if_neg Bool.false_ne_true]; dsimp only; rw [← ea61, if_pos hb0, (da21 hb0).2.2, List.append_assoc]; rfl
      exact hlp 17 a61 (v9.addL (tkS ft en a21.1, a34.1, 0, 0)) I62 F63 (clA a21 cl (2, a21.1, v9.nL, 0)) (a21.1 + 1) (tkS ft en a21.1, a34.1, 0, 0) (q_svs (tkK ft en) (tkS ft en) (tkV ft en) 17 v9.nL (v9.addL (tkS ft en a21.1, a34.1, 0, 0)) a61) (cl ++ clL (tkK ft en) (tkS ft en) (tkV ft en) v9 q) rfl (by show 17 ≤ 17 + v9.nS; omega) hlim (Nat.le_refl _) hqs ⟨rfl, rfl⟩ hcr rfl hQ hC hc1 hIZ hFr (by omega) p67 (fun z => (hr32.mono (by omega)).cg p65.symm) (fun z => NMt.z.cg p66.symm) (fun z => hbS.mvL (by omega) hFr (p64) (Nat.le_refl _) rfl rfl rfl rfl) G60 hM hF _ _ hG hS ls (lv_sub hl [2, 0] rfl)
    · skip
      have hse17 : se (tkK ft en) a34.2.1 a34.2.2 17 = true := b2i_t (by rw [← er58]; exact c_78)
      have hnq := se_t hse17
      refine lv_aload_n hx hb dX14_layerStatement_81 rfl (lv_at hl 2 rfl) ?_
      refine va_callv (va_runV (As := []) (rest := []) ⟨hx, hb, hml, hown, (fun _ h9 => absurd h9 List.not_mem_nil : ∀ w ∈ ([] : List Cond), w.before _ s = true)⟩ (c_M_nextq l D cy A X hst hXT G53 o Ar I35 F52 L ft sx fr en bo a34.2 hM hQ hnq.1 (by rw [hnq.2]; decide) (by rw [hnq.2]; decide)) (tb_cw (C := RX14) 0 hT tw_1640 tw_109 tw_1637 tw_1639 tw_62 rfl rfl hq_X14_next ⟨Nat.le_of_ble_eq_true rfl, Nat.le_of_ble_eq_true rfl⟩) (mk_preC hst hG hK hA hX hS vc_15 hM.1) rfl rfl hl.1 rfl (lv_room (Nat.le_of_ble_eq_true rfl)) dX14_layerStatement_82 ⟨Nat.le_of_ble_eq_true rfl, Nat.le_of_ble_eq_true rfl⟩) hS (fun q _ h => h) (fun q h => h) (fun  G68 t H locs ht hvm hw hB hz1 hk1 hS => ?_)
      have hG : mm D vwCl A G68 H := by rw [← ht]; exact hB
      clear hB hz1 hk1 hvm ht
      obtain ⟨a69, ea69⟩ : ∃ y, y = (a34.2.1 + 1, a34.2.2) := ⟨_, rfl⟩
      rw [← ea69] at hw
      obtain ⟨I70, F71, hM2, hF2, hQ2, hI2, hX2⟩ := hw
      replace hF := hF.tr hF2; replace hM := hM2; clear hM2 hF2
      have hQ := hQ2; have hIZ := (IZ_x hI2).trans hIZ; have hFr := hFr.fx hX2; have hC := hC.fx hI2 hX2
      have p72 : F71 3 (bo) = nI v9.nS := (congrFun (FXe hX2 (by decide)) _).trans p54
      have p73 : F71 18 (6 * bo + v9.nL) = r32 := (congrFun (FXe hX2 (by decide)) _).trans p55
      have p74 : F71 19 (6 * bo + v9.nL) = 0 := (congrFun (FXe hX2 (by decide)) _).trans p56
      have p75 : F71 2 (bo) = nI (v9.nL + 1) := (congrFun (FXe hX2 (by decide)) _).trans p57
      clear hI2 hX2 hQ2
      have ga69 : a34.2.1 ≤ a69.1 := by rw [ea69]; exact ge_next
      have da69 : a69.2 < 0 → _ := fun z => ad_next hSn (by rw [← ea69]; exact z)
      rw [← ea69] at da69
      have hc1 : a21.1 + 1 ≤ a69.1 + 1 := by omega
      have hc2 : a69.2 < 0 → a21.1 + 1 ≤ a69.1 := fun z => by have := da69 z; omega
      refine lv_aload_n hx hb dX14_layerStatement_85 rfl (lv_at hl 2 rfl) ?_
      refine lv_bipush (v := 9) hx hb dX14_layerStatement_86 (by decide) ?_
      refine lv_iload_n hx hb dX14_layerStatement_88 rfl (lv_at hl 0 rfl) ?_
      refine lv_iconst (v := 0) hx hb dX14_layerStatement_89 (by decide) ?_
      refine va_callv (va_runV (As := [.int 9, .int (nI v9.nL), .int 0]) (rest := []) ⟨hx, hb, hml, hown, (fun _ h9 => absurd h9 List.not_mem_nil : ∀ w ∈ ([] : List Cond), w.before _ s = true)⟩ (c_M_claimq l D cy A X hst hXT G68 o Ar I70 F71 L ft sx fr en bo a69 (clA a21 cl (2, a21.1, v9.nL, 0)) (a21.1 + 1) 9 v9.nL 0 hM hQ hC hc1 hc2) (tb_cw (C := RX14) 3 hT tw_1709 tw_109 tw_1706 tw_1708 tw_71 rfl rfl hq_X14_claim ⟨Nat.le_of_ble_eq_true rfl, Nat.le_of_ble_eq_true rfl⟩) (mk_preC hst hG hK hA hX hS vc_15 hM.1) rfl rfl hl.1 rfl (lv_room (Nat.le_of_ble_eq_true rfl)) dX14_layerStatement_90 ⟨Nat.le_of_ble_eq_true rfl, Nat.le_of_ble_eq_true rfl⟩) hS (fun q _ h => h) (fun q h => h) (fun  G76 t H locs ht hvm hw hB hz1 hk1 hS => ?_)
      have hG : mm D vwCl A G76 H := by rw [← ht]; exact hB
      clear hB hz1 hk1 hvm ht
      obtain ⟨I77, F78, hM2, hF2, hQ2, hC2, hI2, hX2⟩ := hw
      replace hF := hF.tr hF2; replace hM := hM2; clear hM2 hF2
      have hQ := hQ2; have hC := hC2; have hIZ := hI2.trans hIZ
      have hFr : FrW (wL bo v9.nL v9.nS) F F78 := fun j i h1 h2 => (congrFun (hX2 j (fun z => h1 (by unfold lxA; omega))) i).trans (hFr j i h1 h2)
      have p79 : F78 3 (bo) = nI v9.nS := (congrFun (hX2 3 (by decide)) _).trans p72
      have p80 : F78 18 (6 * bo + v9.nL) = r32 := (congrFun (hX2 18 (by decide)) _).trans p73
      have p81 : F78 19 (6 * bo + v9.nL) = 0 := (congrFun (hX2 19 (by decide)) _).trans p74
      have p82 : F78 2 (bo) = nI (v9.nL + 1) := (congrFun (hX2 2 (by decide)) _).trans p75
      clear hI2 hX2 hQ2 hC2
      have hc1 : a69.1 + 1 ≤ a69.1 + 1 := Nat.le_refl _
      refine lv_aload_n hx hb dX14_layerStatement_93 rfl (lv_at hl 2 rfl) ?_
      refine mm_get (v := .ref (Ar 19)) hx hb hf_X14 (fun _ h9 => h9) hown hK hG hM.1 rfl 19 (by decide) (tb_use hT tw_1410) (fun _ h9 => h9) (mfs_g19 _ _) dX14_layerStatement_94 ?_
      refine lv_bipush (v := 6) hx hb dX14_layerStatement_97 (by decide) ?_
      refine lv_iload_n hx hb dX14_layerStatement_99 rfl (lv_at hl 1 rfl) ?_
      refine lv_imul hx hb dX14_layerStatement_100 ?_
      refine lv_iload_n hx hb dX14_layerStatement_101 rfl (lv_at hl 0 rfl) ?_
      refine lv_iadd hx hb dX14_layerStatement_102 ?_
      refine lv_aload_n hx hb dX14_layerStatement_103 rfl (lv_at hl 2 rfl) ?_
      refine va_calli (va_runV (As := []) (rest := [.int ((6 * (nI bo)) + (nI v9.nL)), .ref (Ar 19)]) ⟨hx, hb, hml, hown, (fun _ h9 => absurd h9 List.not_mem_nil : ∀ w ∈ ([] : List Cond), w.before _ s = true)⟩ (c_M_name l D cy A X hst hXT G76 o Ar I77 F78 L ft sx fr en bo a69 hM hQ) (tb_cw (C := RX14) 0 hT tw_1713 tw_109 tw_1710 tw_1712 tw_72 rfl rfl hq_X14_name ⟨Nat.le_of_ble_eq_true rfl, Nat.le_of_ble_eq_true rfl⟩) (mk_preC hst hG hK hA hX hS vc_15 hM.1) rfl rfl hl.1 rfl (lv_room (Nat.le_of_ble_eq_true rfl)) dX14_layerStatement_104 ⟨Nat.le_of_ble_eq_true rfl, Nat.le_of_ble_eq_true rfl⟩) hS (fun q _ h => h) (fun q h => h) (fun r83 G84 t H locs ht hvm hw hB hz1 hk1 hS => ?_)
      have hG : mm D vwCl A G84 H := by rw [← ht]; exact hB
      clear hB hz1 hk1 hvm ht
      obtain ⟨a85, ea85⟩ : ∃ y, y = q_name (tkK ft en) (tkS ft en) (tkV ft en) a69 := ⟨_, rfl⟩
      rw [← ea85] at hw
      obtain ⟨hr83, I86, F87, hM2, hF2, hQ2, hI2, hX2⟩ := hw
      replace hF := hF.tr hF2; replace hM := hM2; clear hM2 hF2
      have hQ := hQ2; have hIZ := (IZ_x hI2).trans hIZ; have hFr := hFr.fx hX2; have hC := hC.fx hI2 hX2
      have p88 : F87 3 (bo) = nI v9.nS := (congrFun (FXe hX2 (by decide)) _).trans p79
      have p89 : F87 18 (6 * bo + v9.nL) = r32 := (congrFun (FXe hX2 (by decide)) _).trans p80
      have p90 : F87 19 (6 * bo + v9.nL) = 0 := (congrFun (FXe hX2 (by decide)) _).trans p81
      have p91 : F87 2 (bo) = nI (v9.nL + 1) := (congrFun (FXe hX2 (by decide)) _).trans p82
      clear hI2 hX2 hQ2
      have ga85 : a69.1 ≤ a85.2.1 := by rw [ea85]; exact ge_name
      have da85 : a85.2.2 < 0 → _ := fun z => ad_name hSn (by rw [← ea85]; exact z)
      rw [← ea85] at da85
      have hc1 : a69.1 + 1 ≤ a85.2.1 + 1 := by omega
      have hc2 : a85.2.2 < 0 → a69.1 + 1 ≤ a85.2.1 := fun z => by have := da85 z; omega
      refine mm_iast (n := mdN 19) (f := F87 19) hx hb hK hG hS 1 (hM.2.1 19 rfl) rfl (by rw [show (((6 * (nI bo)) + (nI v9.nL)) : Int32) = nI (6 * bo + v9.nL) by show (((nI 6 * (nI bo)) + (nI v9.nL)) : Int32) = _; simp only [nI_mu, nI_add]]; exact nI_in (N := mdN 19) (by show _ < 12; omega) (by decide)) dX14_layerStatement_107 (fun H locs hG hS => ?_)
      have hM := MD.seti (k := 19) (upd (F87 19) ((6 * (nI bo)) + (nI v9.nL)).toNatClampNeg r83) hM rfl
      have hF := hF.wa (k := 19) (e' := .inl (cy 1, mdN 19, .inl (upd (F87 19) ((6 * (nI bo)) + (nI v9.nL)).toNatClampNeg r83))) rfl
      obtain ⟨F92, eF92⟩ : ∃ g, g = va_up F87 19 (upd (F87 19) ((6 * (nI bo)) + (nI v9.nL)).toNatClampNeg r83) := ⟨_, rfl⟩
      rw [← eF92] at hM
      have hgn := gn_MD hG hM hF
      clear hG hM hF
      obtain ⟨G93, hG, hM, hF⟩ := hgn
      rw [show (((6 * (nI bo)) + (nI v9.nL)) : Int32) = nI (6 * bo + v9.nL) by show (((nI 6 * (nI bo)) + (nI v9.nL)) : Int32) = _; simp only [nI_mu, nI_add], nI_clamp (by omega)] at eF92
      have p94 : F92 3 (bo) = nI v9.nS := by rw [eF92, va_up_ne _ _ (by decide)]; exact p88
      have p95 : F92 18 (6 * bo + v9.nL) = r32 := by rw [eF92, va_up_ne _ _ (by decide)]; exact p89
      have p96 : F92 2 (bo) = nI (v9.nL + 1) := by rw [eF92, va_up_ne _ _ (by decide)]; exact p91
      have p97 : F92 19 (6 * bo + v9.nL) = r83 := by rw [eF92, va_up_self, pk_us]
      have hFr : FrW (wL bo v9.nL v9.nS) F F92 := by rw [eF92]; exact hFr.up (by unfold wL; omega)
      have hQ : LXq Ar I86 F92 ft sx fr en bo a85.2 := by rw [eF92]; exact hQ.wF (by decide)
      have hC : CLq I86 F92 ft en (clA a69 (clA a21 cl (2, a21.1, v9.nL, 0)) (9, a69.1, v9.nL, 0)) (a69.1 + 1) := by rw [eF92]; exact hC.wF (by decide)
      refine lv_aload_n hx hb dX14_layerStatement_108 rfl (lv_at hl 2 rfl) ?_
      refine lv_bipush (v := 123) hx hb dX14_layerStatement_109 (by decide) ?_
      refine va_callv (va_runV (As := [.int 123]) (rest := []) ⟨hx, hb, hml, hown, (fun _ h9 => absurd h9 List.not_mem_nil : ∀ w ∈ ([] : List Cond), w.before _ s = true)⟩ (c_M_mark l D cy A X hst hXT G93 o Ar I86 F92 L ft sx fr en bo a85.2 4 hM hQ (by decide) (by decide)) (tb_cw (C := RX14) 1 hT tw_1717 tw_109 tw_1714 tw_1716 tw_73 rfl rfl hq_X14_mark ⟨Nat.le_of_ble_eq_true rfl, Nat.le_of_ble_eq_true rfl⟩) (mk_preC hst hG hK hA hX hS vc_15 hM.1) rfl rfl hl.1 rfl (lv_room (Nat.le_of_ble_eq_true rfl)) dX14_layerStatement_111 ⟨Nat.le_of_ble_eq_true rfl, Nat.le_of_ble_eq_true rfl⟩) hS (fun q _ h => h) (fun q h => h) (fun  G98 t H locs ht hvm hw hB hz1 hk1 hS => ?_)
      have hG : mm D vwCl A G98 H := by rw [← ht]; exact hB
      clear hB hz1 hk1 hvm ht
      obtain ⟨a99, ea99⟩ : ∃ y, y = q_take (tkK ft en) (tkS ft en) 4 a85.2 := ⟨_, rfl⟩
      rw [← ea99] at hw
      obtain ⟨I100, F101, hM2, hF2, hQ2, hI2, hX2⟩ := hw
      replace hF := hF.tr hF2; replace hM := hM2; clear hM2 hF2
      have hQ := hQ2; have hIZ := (IZ_x hI2).trans hIZ; have hFr := hFr.fx hX2; have hC := hC.fx hI2 hX2
      have p102 : F101 3 (bo) = nI v9.nS := (congrFun (FXe hX2 (by decide)) _).trans p94
      have p103 : F101 18 (6 * bo + v9.nL) = r32 := (congrFun (FXe hX2 (by decide)) _).trans p95
      have p104 : F101 2 (bo) = nI (v9.nL + 1) := (congrFun (FXe hX2 (by decide)) _).trans p96
      have p105 : F101 19 (6 * bo + v9.nL) = r83 := (congrFun (FXe hX2 (by decide)) _).trans p97
      clear hI2 hX2 hQ2
      have ga99 : a85.2.1 ≤ a99.1 := by rw [ea99]; exact ge_take
      have da99 : a99.2 < 0 → _ := fun z => ad_take hSn (by rw [← ea99]; exact z)
      rw [← ea99] at da99
      have hc1 : a69.1 + 1 ≤ a99.1 + 1 := by omega
      have hc2 : a99.2 < 0 → a69.1 + 1 ≤ a99.1 := fun z => by have := da99 z; omega
      have hqs : (q_lay (tkK ft en) (tkS ft en) (tkV ft en) v9 q) = ((q_svs (tkK ft en) (tkS ft en) (tkV ft en) 17 v9.nL (v9.addL (tkS ft en a21.1, a34.1, a85.1, tkS ft en (a34.2.1 + 1))) a99).1, q_take (tkK ft en) (tkS ft en) 5 (q_svs (tkK ft en) (tkS ft en) (tkV ft en) 17 v9.nL (v9.addL (tkS ft en a21.1, a34.1, a85.1, tkS ft en (a34.2.1 + 1))) a99).2) := by simp only [q_lay, ← ea21, ← ea34, ← ea69, ← ea85, ← ea99]; rw [if_pos hse17]; dsimp only; rw [← ea99]
      have hcr : a99.2 < 0 → (clA a69 (clA a21 cl (2, a21.1, v9.nL, 0)) (9, a69.1, v9.nL, 0)) ++ clSs (tkK ft en) (tkS ft en) (tkV ft en) v9.nL 17 (v9.addL (tkS ft en a21.1, a34.1, a85.1, tkS ft en (a34.2.1 + 1))) a99 = cl ++ clL (tkK ft en) (tkS ft en) (tkV ft en) v9 q := fun z => by simp only [clL, clA, ← ea21, ← ea34, ← ea69, ← ea85, ← ea99]; rw [if_pos hse17, if_pos hse17]; dsimp only; rw [← ea99, if_pos hb0, if_pos (by have y := da99 z; exact (da85 y.1).1), (da21 hb0).2.2, show a69.1 = q.1 + 3 by have y1 := da99 z; have y2 := da85 y1.1; have y3 := da69 y2.1; have y4 := da34 y3.1; have y5 := da21 hb0; omega, List.append_assoc, List.append_assoc]; rfl
      exact hlp 17 a99 (v9.addL (tkS ft en a21.1, a34.1, a85.1, tkS ft en (a34.2.1 + 1))) I100 F101 (clA a69 (clA a21 cl (2, a21.1, v9.nL, 0)) (9, a69.1, v9.nL, 0)) (a69.1 + 1) (tkS ft en a21.1, a34.1, a85.1, tkS ft en (a34.2.1 + 1)) (q_svs (tkK ft en) (tkS ft en) (tkV ft en) 17 v9.nL (v9.addL (tkS ft en a21.1, a34.1, a85.1, tkS ft en (a34.2.1 + 1))) a99) (cl ++ clL (tkK ft en) (tkS ft en) (tkV ft en) v9 q) rfl (by show 17 ≤ 17 + v9.nS; omega) hlim (Nat.le_refl _) hqs ⟨rfl, rfl⟩ hcr rfl hQ hC hc1 hIZ hFr (by omega) p104 (fun z => (hr32.mono (by omega)).cg p103.symm) (fun z => (hr83.mono (by omega)).cg p105.symm) (fun z => hbS.mvL (by omega) hFr (p102) (Nat.le_refl _) rfl rfl rfl rfl) G98 hM hF _ _ hG hS ls (lv_sub hl [2, 0] rfl)
  · skip
    have hb0 : ¬ a21.2 < 0 := of_decide_eq_false (b2i_f (by rw [← hr19]; exact c_17))
    have hqe : (q_lay (tkK ft en) (tkS ft en) (tkV ft en) v9 q).2 = a21 := by simp only [q_lay, ← ea21]; rw [q_name_f hb0]; dsimp only; rw [se_f hb0, if_neg Bool.false_ne_true]; dsimp only; rw [q_take_f hb0, q_svs_f hb0]; dsimp only; rw [q_take_f hb0]
    exact W.vret hx hb hr (fun t ht hW => ⟨⟨_, rfl, ⟨_, _, _, hM, hF, (by rw [hqe]; exact hQ), hIZ, hFr, (by rw [hqe]; exact hC.le (by (try dsimp only); omega)), (by rw [hqe]; (try dsimp only); omega), (by rw [hqe]; exact fun z => absurd z hb0)⟩, mk_end hG ht⟩, hS.F ht⟩) hS.2.2 dX14_layerStatement_20
