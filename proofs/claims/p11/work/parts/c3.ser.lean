def wS (bo n : Nat) : Nat → Nat → Prop := fun k i => (k = 3 ∧ i = bo) ∨ (20 ≤ k ∧ k ≤ 23 ∧ n < 16 ∧ i = 16 * bo + n) ∨ (24 ≤ k ∧ k ≤ 28 ∧ n < 16 ∧ 128 * bo + 8 * n ≤ i ∧ i < 128 * bo + 8 * n + 8)
/-- the claims of a service's parameters -/
def clPs (K : Nat → Nat) (S : Nat → Int32) (V : Nat → Int64) (sv : Nat) : Nat → Nat → Nat × Int32 → List CLi
  | 0, _, _ => []
  | n + 1, j, q => if se K q.1 q.2 19 then clP sv j q.1 (q_par K S V j q).2.2.2.2.2.1 ++ clPs K S V sv n (j + 1) (q_par K S V j q).1 else []
/-- a service's claims -/
def clS (K : Nat → Nat) (S : Nat → Int32) (V : Nat → Int64) (sv : Nat) (q : Nat × Int32) : List CLi := (4, q.1 + 1, sv, 0) :: clPs K S V sv 9 0 (q_take K S 4 (q_num K S V 0 191 (q_take K S 8 (q_name K S V (q_begin S (nI sv) 16 q)).2)).2)
theorem clPs_f {K : Nat → Nat} {S : Nat → Int32} {V : Nat → Int64} {sv n j : Nat} {q : Nat × Int32} (h : se K q.1 q.2 19 = false) : clPs K S V sv n j q = [] := by
  cases n with
  | zero => rfl
  | succ n => rw [clPs, if_neg (by rw [h]; exact Bool.false_ne_true)]
theorem q_pars_n {K : Nat → Nat} {S : Nat → Int32} {V : Nat → Int64} {n j : Nat} {q : Nat × Int32} {d : Nat → PrD} (h : se K q.1 q.2 19 = false) : q_pars K S V n j q d = (j, d, q) := by
  cases n with
  | zero => rfl
  | succ n => rw [q_pars, if_neg (by rw [h]; exact Bool.false_ne_true)]
theorem PRf.mv {K : Nat → Nat} {V : Nat → Int64} {n m : Nat} {F F2 : Nat → Nat → Int32} {i : Nat} {d : PrD} (h : PRf K V n F i d) (hm : n ≤ m) (hF : ∀ k, 24 ≤ k → k ≤ 28 → F2 k i = F k i) : PRf K V m F2 i d := by
  obtain ⟨h1, h2, h3, h4, h5⟩ := h
  refine ⟨?_, ?_, ?_, ?_, ?_⟩
  · rw [hF 24 (by decide) (by decide)]; exact h1.mono hm
  · rw [hF 25 (by decide) (by decide)]; exact h2.mono hm
  · rw [hF 26 (by decide) (by decide)]; exact h3
  · rw [hF 27 (by decide) (by decide)]; exact h4.mono hm
  · rw [hF 28 (by decide) (by decide)]; exact h5

set_option maxHeartbeats 4000000 in
set_option maxRecDepth 100000 in
theorem c_M_serSt (l : Launch) (D : va_G) (cy : Nat → ClassId) (A : Nat → Prop) (X : State → Prop) (hst : mk_St A X) (hXT : ∀ U : State, X U → TB U) (G : Nat → Option va_E) (o : Nat) (Ar : Nat → Nat) (Iv : Nat → Int32) (F : Nat → Nat → Int32) (L : Nat → Nat → Int64) (ft : Nat → Int32) (sx fr en bo : Nat) (q : Nat × Int32) (cl : List CLi) (c9 : Nat) (v9 : EdV) (l9 : Nat) (hM : MD cy G o Ar Iv F L) (hQ : LXq Ar Iv F ft sx fr en bo q) (hC : CLq Iv F ft en cl c9) (hc1 : c9 ≤ q.1 + 1) (hkb : q.2 < 0 → tkK ft en q.1 ≠ 2 ∧ tkK ft en q.1 ≠ 3) (hn : F 3 bo = nI v9.nS) (hn9 : v9.nS ≤ 16) : Met l yX14_serviceStatement [.code yX14_serviceStatement cX14_serviceStatement 4 none] ({ frames := 7, cells := 0, slots := 0, locals := 210 }) (mk_Pre D vwCl (tyL cy) A X G [.ref o, .int (nI l9)]) (va_Qv (fun (G2 : Nat → Option va_E) => ∃ (I2 : Nat → Int32) (F2 : Nat → Nat → Int32) (cl2 : List CLi), MD cy G2 o Ar I2 F2 L ∧ MF G G2 o Ar ∧ LXq Ar I2 F2 ft sx fr en bo (q_ser (tkK ft en) (tkS ft en) (tkV ft en) v9.nS q).1 ∧ IZ I2 = IZ Iv ∧ FrW (wS bo v9.nS) F F2 ∧ CLq I2 F2 ft en cl2 ((q_ser (tkK ft en) (tkS ft en) (tkV ft en) v9.nS q).1.1 + 1) ∧ q.1 ≤ (q_ser (tkK ft en) (tkS ft en) (tkV ft en) v9.nS q).1.1 ∧ ((q_ser (tkK ft en) (tkS ft en) (tkV ft en) v9.nS q).1.2 < 0 → (v9.nS < 16 ∧ F2 3 bo = nI (v9.nS + 1) ∧ NMt (tkK ft en) (tkV ft en) ((q_ser (tkK ft en) (tkS ft en) (tkV ft en) v9.nS q).1.1 + 1) (F2 20 (16 * bo + v9.nS)) (q_ser (tkK ft en) (tkS ft en) (tkV ft en) v9.nS q).2.1.2.1 ∧ F2 21 (16 * bo + v9.nS) = (q_ser (tkK ft en) (tkS ft en) (tkV ft en) v9.nS q).2.1.2.2 ∧ F2 22 (16 * bo + v9.nS) = nI l9 ∧ F2 23 (16 * bo + v9.nS) = nI (q_ser (tkK ft en) (tkS ft en) (tkV ft en) v9.nS q).2.2.1 ∧ (q_ser (tkK ft en) (tkS ft en) (tkV ft en) v9.nS q).2.2.1 ≤ 8 ∧ ∀ p, p < (q_ser (tkK ft en) (tkS ft en) (tkV ft en) v9.nS q).2.2.1 → PRf (tkK ft en) (tkV ft en) ((q_ser (tkK ft en) (tkS ft en) (tkV ft en) v9.nS q).1.1 + 1) F2 (128 * bo + (8 * v9.nS + p)) ((q_ser (tkK ft en) (tkS ft en) (tkV ft en) v9.nS q).2.2.2 p)) ∧ cl2 = cl ++ clS (tkK ft en) (tkS ft en) (tkV ft en) v9.nS q)) (mk_B D vwCl A) A) 0 0 A := by
  refine Met.ofW (cc := cX14_serviceStatement) (maxL := 4) (ret := none) (by decide) rfl ?_
  intro p e s m args below meth c s₁ B hml hv
  obtain ⟨rfl, hG, hK, hA, hX⟩ := hv
  have hx := B.exec
  have hb := B.bytes
  have hr := B.returns
  have hlocks := B.notSynchronized
  have hT := hXT s hX
  have hown : s.vm.findClass RX14 = some m.cls := findClass_of_methodNamed B.named
  have hf_X14 : ∀ w ∈ u_ws RX14 TX14 76, w.before ([.ref o, .int (nI l9)] : List Value).toArray s = true := tb_list hT fX14
  have hS : va_S A s.heap s.heap [] := va_S.rf
  have hl := lv_entry ([.ref o, .int (nI l9)]) (n := 4) (Nat.le_of_ble_eq_true rfl)
  rw [lg_entry_eq]
  generalize (lg_sl ([.ref o, .int (nI l9)]) ++ List.replicate (4 - (lg_sl ([.ref o, .int (nI l9)])).length) Slot.unset).toArray = ls at hl ⊢
  have hl : lv_has ls 4 [(0, .ref o), (1, .int (nI l9))] := hl
  have hF : MF G G o Ar := MF.rf
  have hIZ : IZ Iv = IZ Iv := rfl
  have hSn : ∀ p, ¬ tkS ft en p < 0 := fun p => tkS_ge hQ.1.2.2.2.1 p
  have hbo := hQ.1.2.2.2.2.2.1
  have hbl := hQ.1.2.2.2.2.1
  have hFr : FrW (wS bo v9.nS) F F := FrW.rf
  have hlp : ∀ (n : Nat) (j9 : Nat) (qj : Nat × Int32) (dj : Nat → PrD) (Ij : Nat → Int32) (Fj : Nat → Nat → Int32) (clj : List CLi) (cj : Nat) (st9 z21 : Int32) (a20 : Int64) (RP : Nat × (Nat → PrD) × (Nat × Int32)) (CR : List CLi), (q_pars (tkK ft en) (tkS ft en) (tkV ft en) n j9 qj dj = RP) → (n + j9 = 9) → (v9.nS < 16) → (qj.2 < 0 → j9 ≤ 8) → ((q_ser (tkK ft en) (tkS ft en) (tkV ft en) v9.nS q) = (q_take (tkK ft en) (tkS ft en) 5 RP.2.2, (st9, a20, z21), (RP.1, RP.2.1))) → (qj.2 < 0 → clj ++ clPs (tkK ft en) (tkS ft en) (tkV ft en) v9.nS n j9 qj = CR) → (CR = cl ++ clS (tkK ft en) (tkS ft en) (tkV ft en) v9.nS q) → (LXq Ar Ij Fj ft sx fr en bo qj) → (CLq Ij Fj ft en clj cj) → (cj ≤ qj.1 + 1) → (IZ Ij = IZ Iv) → (FrW (wS bo v9.nS) F Fj) → (q.1 ≤ qj.1) → (Fj 3 bo = nI (v9.nS + 1)) → (Fj 22 (16 * bo + v9.nS) = nI l9) → (qj.2 < 0 → NMt (tkK ft en) (tkV ft en) (qj.1 + 1) (Fj 20 (16 * bo + v9.nS)) a20) → (qj.2 < 0 → Fj 21 (16 * bo + v9.nS) = z21) → (qj.2 < 0 → Fj 23 (16 * bo + v9.nS) = nI j9) → (qj.2 < 0 → ∀ p, p < j9 → PRf (tkK ft en) (tkV ft en) (qj.1 + 1) Fj (128 * bo + (8 * v9.nS + p)) (dj p)) → ∀ (Gv : Nat → Option va_E), (MD cy Gv o Ar Ij Fj L) → (MF G Gv o Ar) → ∀ (H : Heap) (locs : List Loc), mm D vwCl A Gv H → va_S A s.heap H locs → ∀ ls : Array Slot, lv_has ls 4 [(0, .ref o), (3, .int (nI v9.nS))] → W p l e (headSpec [.code yX14_serviceStatement cX14_serviceStatement 4 none] ({ frames := 7, cells := 0, slots := 0, locals := 210 })).room s m ([.ref o, .int (nI l9)] : List Value).toArray below meth c H locs 0 0 (MQ below (va_Qv (fun (G2 : Nat → Option va_E) => ∃ (I2 : Nat → Int32) (F2 : Nat → Nat → Int32) (cl2 : List CLi), MD cy G2 o Ar I2 F2 L ∧ MF G G2 o Ar ∧ LXq Ar I2 F2 ft sx fr en bo (q_ser (tkK ft en) (tkS ft en) (tkV ft en) v9.nS q).1 ∧ IZ I2 = IZ Iv ∧ FrW (wS bo v9.nS) F F2 ∧ CLq I2 F2 ft en cl2 ((q_ser (tkK ft en) (tkS ft en) (tkV ft en) v9.nS q).1.1 + 1) ∧ q.1 ≤ (q_ser (tkK ft en) (tkS ft en) (tkV ft en) v9.nS q).1.1 ∧ ((q_ser (tkK ft en) (tkS ft en) (tkV ft en) v9.nS q).1.2 < 0 → (v9.nS < 16 ∧ F2 3 bo = nI (v9.nS + 1) ∧ NMt (tkK ft en) (tkV ft en) ((q_ser (tkK ft en) (tkS ft en) (tkV ft en) v9.nS q).1.1 + 1) (F2 20 (16 * bo + v9.nS)) (q_ser (tkK ft en) (tkS ft en) (tkV ft en) v9.nS q).2.1.2.1 ∧ F2 21 (16 * bo + v9.nS) = (q_ser (tkK ft en) (tkS ft en) (tkV ft en) v9.nS q).2.1.2.2 ∧ F2 22 (16 * bo + v9.nS) = nI l9 ∧ F2 23 (16 * bo + v9.nS) = nI (q_ser (tkK ft en) (tkS ft en) (tkV ft en) v9.nS q).2.2.1 ∧ (q_ser (tkK ft en) (tkS ft en) (tkV ft en) v9.nS q).2.2.1 ≤ 8 ∧ ∀ p, p < (q_ser (tkK ft en) (tkS ft en) (tkV ft en) v9.nS q).2.2.1 → PRf (tkK ft en) (tkV ft en) ((q_ser (tkK ft en) (tkS ft en) (tkV ft en) v9.nS q).1.1 + 1) F2 (128 * bo + (8 * v9.nS + p)) ((q_ser (tkK ft en) (tkS ft en) (tkV ft en) v9.nS q).2.2.2 p)) ∧ cl2 = cl ++ clS (tkK ft en) (tkS ft en) (tkV ft en) v9.nS q)) (mk_B D vwCl A) A) ([.ref o, .int (nI l9)] : List Value).toArray s 0 0 A) (F0 m 115 ls []) := by
    intro n
    induction n with
    | zero =>
      intro j9 qj dj Ij Fj clj cj st9 z21 a20 RP CR hR hn9 hlim hj8 hqs hcr hCR hQ hC hc1 hIZ hFr hq0 h3 h22 h20 h21 h23 hPr Gv hM hF H locs hG hS ls hl
      have hXX : FX Fj = FX Fj := rfl
      refine lv_aload_n hx hb dX14_serviceStatement_115 rfl (lv_at hl 0 rfl) ?_
      refine lv_bipush (v := 9) hx hb dX14_serviceStatement_116 (by decide) ?_
      refine va_calli (va_runV (As := [.int 9]) (rest := []) ⟨hx, hb, hml, hown, (fun _ h9 => absurd h9 List.not_mem_nil : ∀ w ∈ ([] : List Cond), w.before _ s = true)⟩ (c_M_isWord l D cy A X hst hXT Gv o Ar Ij Fj L 9 hM) (tb_cw (C := RX14) 1 hT tw_1734 tw_109 tw_1731 tw_1733 tw_77 rfl rfl hq_X14_isWord ⟨Nat.le_of_ble_eq_true rfl, Nat.le_of_ble_eq_true rfl⟩) (mk_preC hst hG hK hA hX hS vc_15 hM.1) rfl rfl hl.1 rfl (lv_room (Nat.le_of_ble_eq_true rfl)) dX14_serviceStatement_118 ⟨Nat.le_of_ble_eq_true rfl, Nat.le_of_ble_eq_true rfl⟩) hS (fun q _ h => h) (fun q h => h) (fun r1 G2 t H locs ht hvm hw hB hz1 hk1 hS => ?_)
      have hG : mm D vwCl A G2 H := by rw [← ht]; exact hB
      clear hB hz1 hk1 hvm ht
      obtain ⟨er1, hw⟩ := hw
      rw [hw] at hG
      rw [hQ.isW (w := 9) (y := 9) rfl (by decide) (by decide)] at er1
      refine lv_if_eq (tgt := 132) hx hb dX14_serviceStatement_121 (by decide) (fun c_121 => ?_) (fun c_121 => ?_)
      · skip
        refine lv_aload_n hx hb dX14_serviceStatement_132 rfl (lv_at hl 0 rfl) ?_
        refine lv_bipush (v := 125) hx hb dX14_serviceStatement_133 (by decide) ?_
        refine va_callv (va_runV (As := [.int 125]) (rest := []) ⟨hx, hb, hml, hown, (fun _ h9 => absurd h9 List.not_mem_nil : ∀ w ∈ ([] : List Cond), w.before _ s = true)⟩ (c_M_mark l D cy A X hst hXT Gv o Ar Ij Fj L ft sx fr en bo qj 5 hM hQ (by decide) (by decide)) (tb_cw (C := RX14) 1 hT tw_1717 tw_109 tw_1714 tw_1716 tw_73 rfl rfl hq_X14_mark ⟨Nat.le_of_ble_eq_true rfl, Nat.le_of_ble_eq_true rfl⟩) (mk_preC hst hG hK hA hX hS vc_15 hM.1) rfl rfl hl.1 rfl (lv_room (Nat.le_of_ble_eq_true rfl)) dX14_serviceStatement_135 ⟨Nat.le_of_ble_eq_true rfl, Nat.le_of_ble_eq_true rfl⟩) hS (fun q _ h => h) (fun q h => h) (fun  G3 t H locs ht hvm hw hB hz1 hk1 hS => ?_)
        have hG : mm D vwCl A G3 H := by rw [← ht]; exact hB
        clear hB hz1 hk1 hvm ht
        obtain ⟨a4, ea4⟩ : ∃ y, y = q_take (tkK ft en) (tkS ft en) 5 qj := ⟨_, rfl⟩
        rw [← ea4] at hw
        obtain ⟨I5, F6, hM2, hF2, hQ2, hI2, hX2⟩ := hw
        replace hF := hF.tr hF2; replace hM := hM2; clear hM2 hF2
        have hQ := hQ2; have hIZ := (IZ_x hI2).trans hIZ; have hFr := hFr.fx hX2; have hC := hC.fx hI2 hX2
        have hXX := hX2.trans hXX
        clear hI2 hX2 hQ2
        have ga4 : qj.1 ≤ a4.1 := by rw [ea4]; exact ge_take
        have da4 : a4.2 < 0 → _ := fun z => ad_take hSn (by rw [← ea4]; exact z)
        rw [← ea4] at da4
        have hc1 : cj ≤ a4.1 + 1 := by omega
        have hc2 : a4.2 < 0 → cj ≤ a4.1 := fun z => by have := da4 z; omega
        have hnse : se (tkK ft en) qj.1 qj.2 19 = false := b2i_f (by rw [← er1]; exact c_121)
        have hRe : RP = (j9, dj, qj) := by rw [← hR]; exact q_pars_n hnse
        have hqe : (q_ser (tkK ft en) (tkS ft en) (tkV ft en) v9.nS q) = (a4, (st9, a20, z21), (j9, dj)) := by rw [hqs, hRe, ea4]
        exact W.vret hx hb hr (fun t ht hW => ⟨⟨_, rfl, ⟨_, _, _, hM, hF, (by rw [hqe]; exact hQ), hIZ, hFr, (by rw [hqe]; exact hC.le (by (try dsimp only); omega)), (by rw [hqe]; (try dsimp only); omega), (by rw [hqe]; intro z; dsimp only at z ⊢; have y := da4 z; exact ⟨⟨hlim, (congrFun (FXe hXX (by decide : ¬ (3 = 0 ∨ 3 = 7 ∨ 3 = 8))) _).trans h3, ((h20 y.1).mono (by omega)).cg (congrFun (FXe hXX (by decide : ¬ (20 = 0 ∨ 20 = 7 ∨ 20 = 8))) _).symm, (congrFun (FXe hXX (by decide : ¬ (21 = 0 ∨ 21 = 7 ∨ 21 = 8))) _).trans (h21 y.1), (congrFun (FXe hXX (by decide : ¬ (22 = 0 ∨ 22 = 7 ∨ 22 = 8))) _).trans h22, (congrFun (FXe hXX (by decide : ¬ (23 = 0 ∨ 23 = 7 ∨ 23 = 8))) _).trans (h23 y.1), hj8 y.1, fun p hp => (hPr y.1 p hp).mv (by omega) (fun k h1 h2 => congrFun (FXe hXX (by omega)) _)⟩, (by rw [← hCR, ← hcr y.1, clPs_f hnse, List.append_nil])⟩)⟩, mk_end hG ht⟩, hS.F ht⟩) hS.2.2 dX14_serviceStatement_138
      · skip
        exact absurd (hj8 (se_t (b2i_t (by rw [← er1]; exact c_121) : se (tkK ft en) qj.1 qj.2 19 = true)).1) (by omega)
    | succ n ih =>
      intro j9 qj dj Ij Fj clj cj st9 z21 a20 RP CR hR hn9 hlim hj8 hqs hcr hCR hQ hC hc1 hIZ hFr hq0 h3 h22 h20 h21 h23 hPr Gv hM hF H locs hG hS ls hl
      have hXX : FX Fj = FX Fj := rfl
      refine lv_aload_n hx hb dX14_serviceStatement_115 rfl (lv_at hl 0 rfl) ?_
      refine lv_bipush (v := 9) hx hb dX14_serviceStatement_116 (by decide) ?_
      refine va_calli (va_runV (As := [.int 9]) (rest := []) ⟨hx, hb, hml, hown, (fun _ h9 => absurd h9 List.not_mem_nil : ∀ w ∈ ([] : List Cond), w.before _ s = true)⟩ (c_M_isWord l D cy A X hst hXT Gv o Ar Ij Fj L 9 hM) (tb_cw (C := RX14) 1 hT tw_1734 tw_109 tw_1731 tw_1733 tw_77 rfl rfl hq_X14_isWord ⟨Nat.le_of_ble_eq_true rfl, Nat.le_of_ble_eq_true rfl⟩) (mk_preC hst hG hK hA hX hS vc_15 hM.1) rfl rfl hl.1 rfl (lv_room (Nat.le_of_ble_eq_true rfl)) dX14_serviceStatement_118 ⟨Nat.le_of_ble_eq_true rfl, Nat.le_of_ble_eq_true rfl⟩) hS (fun q _ h => h) (fun q h => h) (fun r7 G8 t H locs ht hvm hw hB hz1 hk1 hS => ?_)
      have hG : mm D vwCl A G8 H := by rw [← ht]; exact hB
      clear hB hz1 hk1 hvm ht
      obtain ⟨er7, hw⟩ := hw
      rw [hw] at hG
      rw [hQ.isW (w := 9) (y := 9) rfl (by decide) (by decide)] at er7
      refine lv_if_eq (tgt := 132) hx hb dX14_serviceStatement_121 (by decide) (fun c_121 => ?_) (fun c_121 => ?_)
      · skip
        refine lv_aload_n hx hb dX14_serviceStatement_132 rfl (lv_at hl 0 rfl) ?_
        refine lv_bipush (v := 125) hx hb dX14_serviceStatement_133 (by decide) ?_
        refine va_callv (va_runV (As := [.int 125]) (rest := []) ⟨hx, hb, hml, hown, (fun _ h9 => absurd h9 List.not_mem_nil : ∀ w ∈ ([] : List Cond), w.before _ s = true)⟩ (c_M_mark l D cy A X hst hXT Gv o Ar Ij Fj L ft sx fr en bo qj 5 hM hQ (by decide) (by decide)) (tb_cw (C := RX14) 1 hT tw_1717 tw_109 tw_1714 tw_1716 tw_73 rfl rfl hq_X14_mark ⟨Nat.le_of_ble_eq_true rfl, Nat.le_of_ble_eq_true rfl⟩) (mk_preC hst hG hK hA hX hS vc_15 hM.1) rfl rfl hl.1 rfl (lv_room (Nat.le_of_ble_eq_true rfl)) dX14_serviceStatement_135 ⟨Nat.le_of_ble_eq_true rfl, Nat.le_of_ble_eq_true rfl⟩) hS (fun q _ h => h) (fun q h => h) (fun  G9 t H locs ht hvm hw hB hz1 hk1 hS => ?_)
        have hG : mm D vwCl A G9 H := by rw [← ht]; exact hB
        clear hB hz1 hk1 hvm ht
        obtain ⟨a10, ea10⟩ : ∃ y, y = q_take (tkK ft en) (tkS ft en) 5 qj := ⟨_, rfl⟩
        rw [← ea10] at hw
        obtain ⟨I11, F12, hM2, hF2, hQ2, hI2, hX2⟩ := hw
        replace hF := hF.tr hF2; replace hM := hM2; clear hM2 hF2
        have hQ := hQ2; have hIZ := (IZ_x hI2).trans hIZ; have hFr := hFr.fx hX2; have hC := hC.fx hI2 hX2
        have hXX := hX2.trans hXX
        clear hI2 hX2 hQ2
        have ga10 : qj.1 ≤ a10.1 := by rw [ea10]; exact ge_take
        have da10 : a10.2 < 0 → _ := fun z => ad_take hSn (by rw [← ea10]; exact z)
        rw [← ea10] at da10
        have hc1 : cj ≤ a10.1 + 1 := by omega
        have hc2 : a10.2 < 0 → cj ≤ a10.1 := fun z => by have := da10 z; omega
        have hnse : se (tkK ft en) qj.1 qj.2 19 = false := b2i_f (by rw [← er7]; exact c_121)
        have hRe : RP = (j9, dj, qj) := by rw [← hR]; exact q_pars_n hnse
        have hqe : (q_ser (tkK ft en) (tkS ft en) (tkV ft en) v9.nS q) = (a10, (st9, a20, z21), (j9, dj)) := by rw [hqs, hRe, ea10]
        exact W.vret hx hb hr (fun t ht hW => ⟨⟨_, rfl, ⟨_, _, _, hM, hF, (by rw [hqe]; exact hQ), hIZ, hFr, (by rw [hqe]; exact hC.le (by (try dsimp only); omega)), (by rw [hqe]; (try dsimp only); omega), (by rw [hqe]; intro z; dsimp only at z ⊢; have y := da10 z; exact ⟨⟨hlim, (congrFun (FXe hXX (by decide : ¬ (3 = 0 ∨ 3 = 7 ∨ 3 = 8))) _).trans h3, ((h20 y.1).mono (by omega)).cg (congrFun (FXe hXX (by decide : ¬ (20 = 0 ∨ 20 = 7 ∨ 20 = 8))) _).symm, (congrFun (FXe hXX (by decide : ¬ (21 = 0 ∨ 21 = 7 ∨ 21 = 8))) _).trans (h21 y.1), (congrFun (FXe hXX (by decide : ¬ (22 = 0 ∨ 22 = 7 ∨ 22 = 8))) _).trans h22, (congrFun (FXe hXX (by decide : ¬ (23 = 0 ∨ 23 = 7 ∨ 23 = 8))) _).trans (h23 y.1), hj8 y.1, fun p hp => (hPr y.1 p hp).mv (by omega) (fun k h1 h2 => congrFun (FXe hXX (by omega)) _)⟩, (by rw [← hCR, ← hcr y.1, clPs_f hnse, List.append_nil])⟩)⟩, mk_end hG ht⟩, hS.F ht⟩) hS.2.2 dX14_serviceStatement_138
      · skip
        have hse : se (tkK ft en) qj.1 qj.2 19 = true := b2i_t (by rw [← er7]; exact c_121)
        have hnq := se_t hse
        refine lv_aload_n hx hb dX14_serviceStatement_124 rfl (lv_at hl 0 rfl) ?_
        refine lv_iload_n hx hb dX14_serviceStatement_125 rfl (lv_at hl 1 rfl) ?_
        refine va_callv (va_runV (As := [.int (nI v9.nS)]) (rest := []) ⟨hx, hb, hml, hown, (fun _ h9 => absurd h9 List.not_mem_nil : ∀ w ∈ ([] : List Cond), w.before _ s = true)⟩ (c_M_parSt l D cy A X hst hXT Gv o Ar Ij Fj L ft sx fr en bo qj clj cj v9.nS j9 hM hQ hC hc1 (fun _ => ⟨(by rw [hnq.2]; decide), (by rw [hnq.2]; decide)⟩) hlim (h23 hnq.1) (hj8 hnq.1)) (tb_cw (C := RX14) 1 hT tw_1750 tw_109 tw_1747 tw_1749 tw_81 rfl rfl hq_X14_paramStatement ⟨Nat.le_of_ble_eq_true rfl, Nat.le_of_ble_eq_true rfl⟩) (mk_preC hst hG hK hA hX hS vc_15 hM.1) rfl rfl hl.1 rfl (lv_room (Nat.le_of_ble_eq_true rfl)) dX14_serviceStatement_126 ⟨Nat.le_of_ble_eq_true rfl, Nat.le_of_ble_eq_true rfl⟩) hS (fun q _ h => h) (fun q h => h) (fun  G13 t H locs ht hvm hw hB hz1 hk1 hS => ?_)
        have hG : mm D vwCl A G13 H := by rw [← ht]; exact hB
        clear hB hz1 hk1 hvm ht
        obtain ⟨a14, ea14⟩ : ∃ y, y = q_par (tkK ft en) (tkS ft en) (tkV ft en) j9 qj := ⟨_, rfl⟩
        rw [← ea14] at hw
        obtain ⟨I15, F16, cl17, hM2, hF2, hQ2, hI2, hFr2, hC2, hg2, hs2⟩ := hw
        replace hF := hF.tr hF2; replace hM := hM2; clear hM2 hF2
        have hQ := hQ2; have hIZ := hI2.trans hIZ; have hC := hC2; clear hI2 hQ2 hC2
        refine lv_goto (tgt := 115) hx hb dX14_serviceStatement_129 (by decide) ?_
        have hR2 : q_pars (tkK ft en) (tkS ft en) (tkV ft en) n (j9 + 1) a14.1 (dupP dj j9 a14.2) = RP := by rw [← hR, q_pars, if_pos hse, ← ea14]
        have hFr3 : FrW (wS bo v9.nS) F F16 := hFr.tr (hFr2.mono (fun k i z => by unfold wP at z; unfold wS; omega))
        have hPr2 : a14.1.2 < 0 → ∀ p, p < j9 + 1 → PRf (tkK ft en) (tkV ft en) (a14.1.1 + 1) F16 (128 * bo + (8 * v9.nS + p)) (dupP dj j9 a14.2 p) := by
          intro z p hp
          rcases Nat.lt_or_ge p j9 with y | y
          · rw [show dupP dj j9 a14.2 p = dj p from if_neg (by omega)]
            exact (hPr hnq.1 p y).mv (by omega) (fun k h1 h2 => hFr2 k _ (by unfold lxA; omega) (by unfold wP; omega))
          · rw [show p = j9 by omega, show dupP dj j9 a14.2 j9 = a14.2 from if_pos rfl]
            exact (hs2 z).1.2.2
        have hcr2 : a14.1.2 < 0 → cl17 ++ clPs (tkK ft en) (tkS ft en) (tkV ft en) v9.nS n (j9 + 1) a14.1 = CR := fun z => by rw [(hs2 z).2, List.append_assoc, ← hcr hnq.1, clPs, if_pos hse, ← ea14]
        exact ih (j9 + 1) a14.1 (dupP dj j9 a14.2) I15 F16 cl17 (a14.1.1 + 1) st9 z21 a20 RP CR hR2 (by omega) hlim (fun z => (hs2 z).1.1) hqs hcr2 hCR hQ hC (Nat.le_refl _) hIZ hFr3 (by omega) ((hFr2 3 (bo) (by unfold lxA; omega) (by unfold wP; omega)).trans h3) ((hFr2 22 (16 * bo + v9.nS) (by unfold lxA; omega) (by unfold wP; omega)).trans h22) (fun z => by rw [(hFr2 20 (16 * bo + v9.nS) (by unfold lxA; omega) (by unfold wP; omega))]; exact (h20 hnq.1).mono (by omega)) (fun z => by rw [(hFr2 21 (16 * bo + v9.nS) (by unfold lxA; omega) (by unfold wP; omega))]; exact h21 hnq.1) (fun z => (hs2 z).1.2.1) hPr2 G13 hM hF _ _ hG hS ls (lv_sub hl [0, 1] rfl)
  refine lv_aload_n hx hb dX14_serviceStatement_0 rfl (lv_at hl 0 rfl) ?_
  refine mm_get (v := .int (Iv 41)) hx hb hf_X14 (fun _ h9 => h9) hown hK hG hM.1 rfl 41 (by decide) (tb_use hT tw_1432) (fun _ h9 => h9) (mfs_g41 _ _) dX14_serviceStatement_1 ?_
  rw [hbo]
  refine lv_istore_n (lv' := [(2, .int (nI bo)), (0, .ref o), (1, .int (nI l9))]) hx hb dX14_serviceStatement_4 rfl hl (by decide) rfl (fun ls hl => ?_)
  refine lv_aload_n hx hb dX14_serviceStatement_5 rfl (lv_at hl 1 rfl) ?_
  refine lv_aload_n hx hb dX14_serviceStatement_6 rfl (lv_at hl 1 rfl) ?_
  refine mm_get (v := .ref (Ar 3)) hx hb hf_X14 (fun _ h9 => h9) hown hK hG hM.1 rfl 3 (by decide) (tb_use hT tw_1394) (fun _ h9 => h9) (mfs_g3 _ _) dX14_serviceStatement_7 ?_
  refine lv_iload_n hx hb dX14_serviceStatement_10 rfl (lv_at hl 0 rfl) ?_
  refine mm_iald (n := 2) (f := F 3) hx hb hK hG 1 (hM.2.1 3 rfl) rfl (by exact nI_in (N := 2) (by omega) (by decide)) dX14_serviceStatement_11 ?_
  refine lv_topi (fun x18 ex18 => ?_)
  rw [show x18 = nI v9.nS by rw [ex18, nI_clamp (by omega)]; exact hn]
  refine lv_bipush (v := 16) hx hb dX14_serviceStatement_12 (by decide) ?_
  refine va_calli (va_runV (As := [.int (nI v9.nS), .int 16]) (rest := []) ⟨hx, hb, hml, hown, (fun _ h9 => absurd h9 List.not_mem_nil : ∀ w ∈ ([] : List Cond), w.before _ s = true)⟩ (c_M_begins l D cy A X hst hXT G o Ar Iv F L ft sx fr en bo q (nI v9.nS) 16 hM hQ hkb) (tb_cw (C := RX14) 2 hT tw_1701 tw_109 tw_1698 tw_1700 tw_69 rfl rfl hq_X14_begins ⟨Nat.le_of_ble_eq_true rfl, Nat.le_of_ble_eq_true rfl⟩) (mk_preC hst hG hK hA hX hS vc_15 hM.1) rfl rfl hl.1 rfl (lv_room (Nat.le_of_ble_eq_true rfl)) dX14_serviceStatement_14 ⟨Nat.le_of_ble_eq_true rfl, Nat.le_of_ble_eq_true rfl⟩) hS (fun q _ h => h) (fun q h => h) (fun r19 G20 t H locs ht hvm hw hB hz1 hk1 hS => ?_)
  have hG : mm D vwCl A G20 H := by rw [← ht]; exact hB
  clear hB hz1 hk1 hvm ht
  obtain ⟨a21, ea21⟩ : ∃ y, y = q_begin (tkS ft en) (nI v9.nS) 16 q := ⟨_, rfl⟩
  rw [← ea21] at hw
  obtain ⟨hr19, I22, F23, hM2, hF2, hQ2, hI2, hX2⟩ := hw
  replace hF := hF.tr hF2; replace hM := hM2; clear hM2 hF2
  have hQ := hQ2; have hIZ := (IZ_x hI2).trans hIZ; have hFr := hFr.fx hX2; have hC := hC.fx hI2 hX2
  have p24 : F23 3 (bo) = nI v9.nS := (congrFun (FXe hX2 (by decide)) _).trans hn
  clear hI2 hX2 hQ2
  have ga21 : q.1 ≤ a21.1 := by rw [ea21]; exact ge_begin
  have da21 : a21.2 < 0 → _ := fun z => ad_begin hSn (by rw [← ea21]; exact z)
  rw [← ea21] at da21
  have hc1 : c9 ≤ a21.1 + 1 := by omega
  have hc2 : a21.2 < 0 → c9 ≤ a21.1 := fun z => by have := da21 z; omega
  refine lv_if_ne (tgt := 21) hx hb dX14_serviceStatement_17 (by decide) (fun c_17 => ?_) (fun c_17 => ?_)
  · skip
    have hb0 : a21.2 < 0 := of_decide_eq_true (b2i_t (by rw [← hr19]; exact c_17))
    have hlim : v9.nS < 16 := nI_lt_of (by omega) (by decide) (Int32.not_le.mpr (da21 hb0).2.1)
    refine lv_aload_n hx hb dX14_serviceStatement_21 rfl (lv_at hl 1 rfl) ?_
    refine mm_get (v := .ref (Ar 3)) hx hb hf_X14 (fun _ h9 => h9) hown hK hG hM.1 rfl 3 (by decide) (tb_use hT tw_1394) (fun _ h9 => h9) (mfs_g3 _ _) dX14_serviceStatement_22 ?_
    refine lv_iload_n hx hb dX14_serviceStatement_25 rfl (lv_at hl 0 rfl) ?_
    refine mm_iald (n := 2) (f := F23 3) hx hb hK hG 1 (hM.2.1 3 rfl) rfl (by exact nI_in (N := 2) (by omega) (by decide)) dX14_serviceStatement_26 ?_
    refine lv_topi (fun x25 ex25 => ?_)
    rw [show x25 = nI v9.nS by rw [ex25, nI_clamp (by omega)]; exact p24]
    refine lv_istore_n (lv' := [(3, .int (nI v9.nS)), (2, .int (nI bo)), (0, .ref o), (1, .int (nI l9))]) hx hb dX14_serviceStatement_27 rfl hl (by decide) rfl (fun ls hl => ?_)
    refine lv_aload_n hx hb dX14_serviceStatement_28 rfl (lv_at hl 2 rfl) ?_
    refine lv_iconst (v := 4) hx hb dX14_serviceStatement_29 (by decide) ?_
    refine lv_iload_n hx hb dX14_serviceStatement_30 rfl (lv_at hl 0 rfl) ?_
    refine lv_iconst (v := 0) hx hb dX14_serviceStatement_31 (by decide) ?_
    refine va_callv (va_runV (As := [.int 4, .int (nI v9.nS), .int 0]) (rest := []) ⟨hx, hb, hml, hown, (fun _ h9 => absurd h9 List.not_mem_nil : ∀ w ∈ ([] : List Cond), w.before _ s = true)⟩ (c_M_claimq l D cy A X hst hXT G20 o Ar I22 F23 L ft sx fr en bo a21 cl c9 4 v9.nS 0 hM hQ hC hc1 hc2) (tb_cw (C := RX14) 3 hT tw_1709 tw_109 tw_1706 tw_1708 tw_71 rfl rfl hq_X14_claim ⟨Nat.le_of_ble_eq_true rfl, Nat.le_of_ble_eq_true rfl⟩) (mk_preC hst hG hK hA hX hS vc_15 hM.1) rfl rfl hl.1 rfl (lv_room (Nat.le_of_ble_eq_true rfl)) dX14_serviceStatement_32 ⟨Nat.le_of_ble_eq_true rfl, Nat.le_of_ble_eq_true rfl⟩) hS (fun q _ h => h) (fun q h => h) (fun  G26 t H locs ht hvm hw hB hz1 hk1 hS => ?_)
    have hG : mm D vwCl A G26 H := by rw [← ht]; exact hB
    clear hB hz1 hk1 hvm ht
    obtain ⟨I27, F28, hM2, hF2, hQ2, hC2, hI2, hX2⟩ := hw
    replace hF := hF.tr hF2; replace hM := hM2; clear hM2 hF2
    have hQ := hQ2; have hC := hC2; have hIZ := hI2.trans hIZ
    have hFr : FrW (wS bo v9.nS) F F28 := fun j i h1 h2 => (congrFun (hX2 j (fun z => h1 (by unfold lxA; omega))) i).trans (hFr j i h1 h2)
    have p29 : F28 3 (bo) = nI v9.nS := (congrFun (hX2 3 (by decide)) _).trans p24
    clear hI2 hX2 hQ2 hC2
    have hc1 : a21.1 + 1 ≤ a21.1 + 1 := Nat.le_refl _
    refine lv_aload_n hx hb dX14_serviceStatement_35 rfl (lv_at hl 2 rfl) ?_
    refine mm_get (v := .ref (Ar 20)) hx hb hf_X14 (fun _ h9 => h9) hown hK hG hM.1 rfl 20 (by decide) (tb_use hT tw_1411) (fun _ h9 => h9) (mfs_g20 _ _) dX14_serviceStatement_36 ?_
    refine lv_bipush (v := 16) hx hb dX14_serviceStatement_39 (by decide) ?_
    refine lv_iload_n hx hb dX14_serviceStatement_41 rfl (lv_at hl 1 rfl) ?_
    refine lv_imul hx hb dX14_serviceStatement_42 ?_
    refine lv_iload_n hx hb dX14_serviceStatement_43 rfl (lv_at hl 0 rfl) ?_
    refine lv_iadd hx hb dX14_serviceStatement_44 ?_
    refine lv_aload_n hx hb dX14_serviceStatement_45 rfl (lv_at hl 2 rfl) ?_
    refine va_calli (va_runV (As := []) (rest := [.int ((16 * (nI bo)) + (nI v9.nS)), .ref (Ar 20)]) ⟨hx, hb, hml, hown, (fun _ h9 => absurd h9 List.not_mem_nil : ∀ w ∈ ([] : List Cond), w.before _ s = true)⟩ (c_M_name l D cy A X hst hXT G26 o Ar I27 F28 L ft sx fr en bo a21 hM hQ) (tb_cw (C := RX14) 0 hT tw_1713 tw_109 tw_1710 tw_1712 tw_72 rfl rfl hq_X14_name ⟨Nat.le_of_ble_eq_true rfl, Nat.le_of_ble_eq_true rfl⟩) (mk_preC hst hG hK hA hX hS vc_15 hM.1) rfl rfl hl.1 rfl (lv_room (Nat.le_of_ble_eq_true rfl)) dX14_serviceStatement_46 ⟨Nat.le_of_ble_eq_true rfl, Nat.le_of_ble_eq_true rfl⟩) hS (fun q _ h => h) (fun q h => h) (fun r30 G31 t H locs ht hvm hw hB hz1 hk1 hS => ?_)
    have hG : mm D vwCl A G31 H := by rw [← ht]; exact hB
    clear hB hz1 hk1 hvm ht
    obtain ⟨a32, ea32⟩ : ∃ y, y = q_name (tkK ft en) (tkS ft en) (tkV ft en) a21 := ⟨_, rfl⟩
    rw [← ea32] at hw
    obtain ⟨hr30, I33, F34, hM2, hF2, hQ2, hI2, hX2⟩ := hw
    replace hF := hF.tr hF2; replace hM := hM2; clear hM2 hF2
    have hQ := hQ2; have hIZ := (IZ_x hI2).trans hIZ; have hFr := hFr.fx hX2; have hC := hC.fx hI2 hX2
    have p35 : F34 3 (bo) = nI v9.nS := (congrFun (FXe hX2 (by decide)) _).trans p29
    clear hI2 hX2 hQ2
    have ga32 : a21.1 ≤ a32.2.1 := by rw [ea32]; exact ge_name
    have da32 : a32.2.2 < 0 → _ := fun z => ad_name hSn (by rw [← ea32]; exact z)
    rw [← ea32] at da32
    have hc1 : a21.1 + 1 ≤ a32.2.1 + 1 := by omega
    have hc2 : a32.2.2 < 0 → a21.1 + 1 ≤ a32.2.1 := fun z => by have := da32 z; omega
    refine mm_iast (n := mdN 20) (f := F34 20) hx hb hK hG hS 1 (hM.2.1 20 rfl) rfl (by rw [show (((16 * (nI bo)) + (nI v9.nS)) : Int32) = nI (16 * bo + v9.nS) by show (((nI 16 * (nI bo)) + (nI v9.nS)) : Int32) = _; simp only [nI_mu, nI_add]]; exact nI_in (N := mdN 20) (by show _ < 32; omega) (by decide)) dX14_serviceStatement_49 (fun H locs hG hS => ?_)
    have hM := MD.seti (k := 20) (upd (F34 20) ((16 * (nI bo)) + (nI v9.nS)).toNatClampNeg r30) hM rfl
    have hF := hF.wa (k := 20) (e' := .inl (cy 1, mdN 20, .inl (upd (F34 20) ((16 * (nI bo)) + (nI v9.nS)).toNatClampNeg r30))) rfl
    obtain ⟨F36, eF36⟩ : ∃ g, g = va_up F34 20 (upd (F34 20) ((16 * (nI bo)) + (nI v9.nS)).toNatClampNeg r30) := ⟨_, rfl⟩
    rw [← eF36] at hM
    have hgn := gn_MD hG hM hF
    clear hG hM hF
    obtain ⟨G37, hG, hM, hF⟩ := hgn
    rw [show (((16 * (nI bo)) + (nI v9.nS)) : Int32) = nI (16 * bo + v9.nS) by show (((nI 16 * (nI bo)) + (nI v9.nS)) : Int32) = _; simp only [nI_mu, nI_add], nI_clamp (by omega)] at eF36
    have p38 : F36 3 (bo) = nI v9.nS := by rw [eF36, va_up_ne _ _ (by decide)]; exact p35
    have p39 : F36 20 (16 * bo + v9.nS) = r30 := by rw [eF36, va_up_self, pk_us]
    have hFr : FrW (wS bo v9.nS) F F36 := by rw [eF36]; exact hFr.up (by unfold wS; omega)
    have hQ : LXq Ar I33 F36 ft sx fr en bo a32.2 := by rw [eF36]; exact hQ.wF (by decide)
    have hC : CLq I33 F36 ft en (clA a21 cl (4, a21.1, v9.nS, 0)) (a21.1 + 1) := by rw [eF36]; exact hC.wF (by decide)
    refine lv_aload_n hx hb dX14_serviceStatement_50 rfl (lv_at hl 2 rfl) ?_
    refine mm_get (v := .ref (Ar 22)) hx hb hf_X14 (fun _ h9 => h9) hown hK hG hM.1 rfl 22 (by decide) (tb_use hT tw_1413) (fun _ h9 => h9) (mfs_g22 _ _) dX14_serviceStatement_51 ?_
    refine lv_bipush (v := 16) hx hb dX14_serviceStatement_54 (by decide) ?_
    refine lv_iload_n hx hb dX14_serviceStatement_56 rfl (lv_at hl 1 rfl) ?_
    refine lv_imul hx hb dX14_serviceStatement_57 ?_
    refine lv_iload_n hx hb dX14_serviceStatement_58 rfl (lv_at hl 0 rfl) ?_
    refine lv_iadd hx hb dX14_serviceStatement_59 ?_
    refine lv_iload_n hx hb dX14_serviceStatement_60 rfl (lv_at hl 3 rfl) ?_
    refine lv_topi (fun x40 ex40 => ?_)
    refine mm_iast (n := mdN 22) (f := F36 22) hx hb hK hG hS 1 (hM.2.1 22 rfl) rfl (by rw [show (((16 * (nI bo)) + (nI v9.nS)) : Int32) = nI (16 * bo + v9.nS) by show (((nI 16 * (nI bo)) + (nI v9.nS)) : Int32) = _; simp only [nI_mu, nI_add]]; exact nI_in (N := mdN 22) (by show _ < 32; omega) (by decide)) dX14_serviceStatement_61 (fun H locs hG hS => ?_)
    have hM := MD.seti (k := 22) (upd (F36 22) ((16 * (nI bo)) + (nI v9.nS)).toNatClampNeg x40) hM rfl
    have hF := hF.wa (k := 22) (e' := .inl (cy 1, mdN 22, .inl (upd (F36 22) ((16 * (nI bo)) + (nI v9.nS)).toNatClampNeg x40))) rfl
    obtain ⟨F41, eF41⟩ : ∃ g, g = va_up F36 22 (upd (F36 22) ((16 * (nI bo)) + (nI v9.nS)).toNatClampNeg x40) := ⟨_, rfl⟩
    rw [← eF41] at hM
    have hgn := gn_MD hG hM hF
    clear hG hM hF
    obtain ⟨G42, hG, hM, hF⟩ := hgn
    rw [show (((16 * (nI bo)) + (nI v9.nS)) : Int32) = nI (16 * bo + v9.nS) by show (((nI 16 * (nI bo)) + (nI v9.nS)) : Int32) = _; simp only [nI_mu, nI_add], nI_clamp (by omega)] at eF41
    have p43 : F41 3 (bo) = nI v9.nS := by rw [eF41, va_up_ne _ _ (by decide)]; exact p38
    have p44 : F41 20 (16 * bo + v9.nS) = r30 := by rw [eF41, va_up_ne _ _ (by decide)]; exact p39
    have p45 : F41 22 (16 * bo + v9.nS) = nI l9 := by rw [eF41, va_up_self, pk_us, ex40]
    have hFr : FrW (wS bo v9.nS) F F41 := by rw [eF41]; exact hFr.up (by unfold wS; omega)
    have hQ : LXq Ar I33 F41 ft sx fr en bo a32.2 := by rw [eF41]; exact hQ.wF (by decide)
    have hC : CLq I33 F41 ft en (clA a21 cl (4, a21.1, v9.nS, 0)) (a21.1 + 1) := by rw [eF41]; exact hC.wF (by decide)
    refine lv_aload_n hx hb dX14_serviceStatement_62 rfl (lv_at hl 2 rfl) ?_
    refine mm_get (v := .ref (Ar 23)) hx hb hf_X14 (fun _ h9 => h9) hown hK hG hM.1 rfl 23 (by decide) (tb_use hT tw_1414) (fun _ h9 => h9) (mfs_g23 _ _) dX14_serviceStatement_63 ?_
    refine lv_bipush (v := 16) hx hb dX14_serviceStatement_66 (by decide) ?_
    refine lv_iload_n hx hb dX14_serviceStatement_68 rfl (lv_at hl 1 rfl) ?_
    refine lv_imul hx hb dX14_serviceStatement_69 ?_
    refine lv_iload_n hx hb dX14_serviceStatement_70 rfl (lv_at hl 0 rfl) ?_
    refine lv_iadd hx hb dX14_serviceStatement_71 ?_
    refine lv_iconst (v := 0) hx hb dX14_serviceStatement_72 (by decide) ?_
    refine mm_iast (n := mdN 23) (f := F41 23) hx hb hK hG hS 1 (hM.2.1 23 rfl) rfl (by rw [show (((16 * (nI bo)) + (nI v9.nS)) : Int32) = nI (16 * bo + v9.nS) by show (((nI 16 * (nI bo)) + (nI v9.nS)) : Int32) = _; simp only [nI_mu, nI_add]]; exact nI_in (N := mdN 23) (by show _ < 32; omega) (by decide)) dX14_serviceStatement_73 (fun H locs hG hS => ?_)
    have hM := MD.seti (k := 23) (upd (F41 23) ((16 * (nI bo)) + (nI v9.nS)).toNatClampNeg 0) hM rfl
    have hF := hF.wa (k := 23) (e' := .inl (cy 1, mdN 23, .inl (upd (F41 23) ((16 * (nI bo)) + (nI v9.nS)).toNatClampNeg 0))) rfl
    obtain ⟨F46, eF46⟩ : ∃ g, g = va_up F41 23 (upd (F41 23) ((16 * (nI bo)) + (nI v9.nS)).toNatClampNeg 0) := ⟨_, rfl⟩
    rw [← eF46] at hM
    have hgn := gn_MD hG hM hF
    clear hG hM hF
    obtain ⟨G47, hG, hM, hF⟩ := hgn
    rw [show (((16 * (nI bo)) + (nI v9.nS)) : Int32) = nI (16 * bo + v9.nS) by show (((nI 16 * (nI bo)) + (nI v9.nS)) : Int32) = _; simp only [nI_mu, nI_add], nI_clamp (by omega)] at eF46
    have p48 : F46 3 (bo) = nI v9.nS := by rw [eF46, va_up_ne _ _ (by decide)]; exact p43
    have p49 : F46 20 (16 * bo + v9.nS) = r30 := by rw [eF46, va_up_ne _ _ (by decide)]; exact p44
    have p50 : F46 22 (16 * bo + v9.nS) = nI l9 := by rw [eF46, va_up_ne _ _ (by decide)]; exact p45
    have p51 : F46 23 (16 * bo + v9.nS) = 0 := by rw [eF46, va_up_self, pk_us]
    have hFr : FrW (wS bo v9.nS) F F46 := by rw [eF46]; exact hFr.up (by unfold wS; omega)
    have hQ : LXq Ar I33 F46 ft sx fr en bo a32.2 := by rw [eF46]; exact hQ.wF (by decide)
    have hC : CLq I33 F46 ft en (clA a21 cl (4, a21.1, v9.nS, 0)) (a21.1 + 1) := by rw [eF46]; exact hC.wF (by decide)
    refine lv_aload_n hx hb dX14_serviceStatement_74 rfl (lv_at hl 2 rfl) ?_
    refine mm_get (v := .ref (Ar 3)) hx hb hf_X14 (fun _ h9 => h9) hown hK hG hM.1 rfl 3 (by decide) (tb_use hT tw_1394) (fun _ h9 => h9) (mfs_g3 _ _) dX14_serviceStatement_75 ?_
    refine lv_iload_n hx hb dX14_serviceStatement_78 rfl (lv_at hl 1 rfl) ?_
    refine lv_dup2_11 hx hb dX14_serviceStatement_79 rfl rfl ?_
    refine mm_iald (n := 2) (f := F46 3) hx hb hK hG 1 (hM.2.1 3 rfl) rfl (by exact nI_in (N := 2) (by omega) (by decide)) dX14_serviceStatement_80 ?_
    refine lv_topi (fun x52 ex52 => ?_)
    rw [show x52 = nI v9.nS by rw [ex52, nI_clamp (by omega)]; exact p48]
    refine lv_iconst (v := 1) hx hb dX14_serviceStatement_81 (by decide) ?_
    refine lv_iadd hx hb dX14_serviceStatement_82 ?_
    rw [show nI v9.nS + 1 = nI (v9.nS + 1) from nI_1 _]
    refine lv_topi (fun x53 ex53 => ?_)
    refine mm_iast (n := mdN 3) (f := F46 3) hx hb hK hG hS 1 (hM.2.1 3 rfl) rfl (by exact nI_in (N := mdN 3) (by show _ < 2; omega) (by decide)) dX14_serviceStatement_83 (fun H locs hG hS => ?_)
    have hM := MD.seti (k := 3) (upd (F46 3) (nI bo).toNatClampNeg x53) hM rfl
    have hF := hF.wa (k := 3) (e' := .inl (cy 1, mdN 3, .inl (upd (F46 3) (nI bo).toNatClampNeg x53))) rfl
    obtain ⟨F54, eF54⟩ : ∃ g, g = va_up F46 3 (upd (F46 3) (nI bo).toNatClampNeg x53) := ⟨_, rfl⟩
    rw [← eF54] at hM
    have hgn := gn_MD hG hM hF
    clear hG hM hF
    obtain ⟨G55, hG, hM, hF⟩ := hgn
    rw [nI_clamp (by omega)] at eF54
    have p56 : F54 20 (16 * bo + v9.nS) = r30 := by rw [eF54, va_up_ne _ _ (by decide)]; exact p49
    have p57 : F54 22 (16 * bo + v9.nS) = nI l9 := by rw [eF54, va_up_ne _ _ (by decide)]; exact p50
    have p58 : F54 23 (16 * bo + v9.nS) = 0 := by rw [eF54, va_up_ne _ _ (by decide)]; exact p51
    have p59 : F54 3 (bo) = nI (v9.nS + 1) := by rw [eF54, va_up_self, pk_us, ex53]
    have hFr : FrW (wS bo v9.nS) F F54 := by rw [eF54]; exact hFr.up (by unfold wS; omega)
    have hQ : LXq Ar I33 F54 ft sx fr en bo a32.2 := by rw [eF54]; exact hQ.wF (by decide)
    have hC : CLq I33 F54 ft en (clA a21 cl (4, a21.1, v9.nS, 0)) (a21.1 + 1) := by rw [eF54]; exact hC.wF (by decide)
    refine lv_aload_n hx hb dX14_serviceStatement_84 rfl (lv_at hl 2 rfl) ?_
    refine lv_bipush (v := 61) hx hb dX14_serviceStatement_85 (by decide) ?_
    refine va_callv (va_runV (As := [.int 61]) (rest := []) ⟨hx, hb, hml, hown, (fun _ h9 => absurd h9 List.not_mem_nil : ∀ w ∈ ([] : List Cond), w.before _ s = true)⟩ (c_M_mark l D cy A X hst hXT G55 o Ar I33 F54 L ft sx fr en bo a32.2 8 hM hQ (by decide) (by decide)) (tb_cw (C := RX14) 1 hT tw_1717 tw_109 tw_1714 tw_1716 tw_73 rfl rfl hq_X14_mark ⟨Nat.le_of_ble_eq_true rfl, Nat.le_of_ble_eq_true rfl⟩) (mk_preC hst hG hK hA hX hS vc_15 hM.1) rfl rfl hl.1 rfl (lv_room (Nat.le_of_ble_eq_true rfl)) dX14_serviceStatement_87 ⟨Nat.le_of_ble_eq_true rfl, Nat.le_of_ble_eq_true rfl⟩) hS (fun q _ h => h) (fun q h => h) (fun  G60 t H locs ht hvm hw hB hz1 hk1 hS => ?_)
    have hG : mm D vwCl A G60 H := by rw [← ht]; exact hB
    clear hB hz1 hk1 hvm ht
    obtain ⟨a61, ea61⟩ : ∃ y, y = q_take (tkK ft en) (tkS ft en) 8 a32.2 := ⟨_, rfl⟩
    rw [← ea61] at hw
    obtain ⟨I62, F63, hM2, hF2, hQ2, hI2, hX2⟩ := hw
    replace hF := hF.tr hF2; replace hM := hM2; clear hM2 hF2
    have hQ := hQ2; have hIZ := (IZ_x hI2).trans hIZ; have hFr := hFr.fx hX2; have hC := hC.fx hI2 hX2
    have p64 : F63 20 (16 * bo + v9.nS) = r30 := (congrFun (FXe hX2 (by decide)) _).trans p56
    have p65 : F63 22 (16 * bo + v9.nS) = nI l9 := (congrFun (FXe hX2 (by decide)) _).trans p57
    have p66 : F63 23 (16 * bo + v9.nS) = 0 := (congrFun (FXe hX2 (by decide)) _).trans p58
    have p67 : F63 3 (bo) = nI (v9.nS + 1) := (congrFun (FXe hX2 (by decide)) _).trans p59
    clear hI2 hX2 hQ2
    have ga61 : a32.2.1 ≤ a61.1 := by rw [ea61]; exact ge_take
    have da61 : a61.2 < 0 → _ := fun z => ad_take hSn (by rw [← ea61]; exact z)
    rw [← ea61] at da61
    have hc1 : a21.1 + 1 ≤ a61.1 + 1 := by omega
    have hc2 : a61.2 < 0 → a21.1 + 1 ≤ a61.1 := fun z => by have := da61 z; omega
    refine lv_aload_n hx hb dX14_serviceStatement_90 rfl (lv_at hl 2 rfl) ?_
    refine mm_get (v := .ref (Ar 21)) hx hb hf_X14 (fun _ h9 => h9) hown hK hG hM.1 rfl 21 (by decide) (tb_use hT tw_1412) (fun _ h9 => h9) (mfs_g21 _ _) dX14_serviceStatement_91 ?_
    refine lv_bipush (v := 16) hx hb dX14_serviceStatement_94 (by decide) ?_
    refine lv_iload_n hx hb dX14_serviceStatement_96 rfl (lv_at hl 1 rfl) ?_
    refine lv_imul hx hb dX14_serviceStatement_97 ?_
    refine lv_iload_n hx hb dX14_serviceStatement_98 rfl (lv_at hl 0 rfl) ?_
    refine lv_iadd hx hb dX14_serviceStatement_99 ?_
    refine lv_aload_n hx hb dX14_serviceStatement_100 rfl (lv_at hl 2 rfl) ?_
    refine lv_iconst (v := 0) hx hb dX14_serviceStatement_101 (by decide) ?_
    refine lv_sipush (v := 191) hx hb dX14_serviceStatement_102 (by decide) ?_
    refine va_calli (va_runV (As := [.int 0, .int 191]) (rest := [.int ((16 * (nI bo)) + (nI v9.nS)), .ref (Ar 21)]) ⟨hx, hb, hml, hown, (fun _ h9 => absurd h9 List.not_mem_nil : ∀ w ∈ ([] : List Cond), w.before _ s = true)⟩ (c_M_number l D cy A X hst hXT G60 o Ar I62 F63 L ft sx fr en bo a61 0 191 0 191 hM hQ rfl rfl (by decide) (by decide)) (tb_cw (C := RX14) 2 hT tw_1721 tw_109 tw_1718 tw_1720 tw_74 rfl rfl hq_X14_number ⟨Nat.le_of_ble_eq_true rfl, Nat.le_of_ble_eq_true rfl⟩) (mk_preC hst hG hK hA hX hS vc_15 hM.1) rfl rfl hl.1 rfl (lv_room (Nat.le_of_ble_eq_true rfl)) dX14_serviceStatement_105 ⟨Nat.le_of_ble_eq_true rfl, Nat.le_of_ble_eq_true rfl⟩) hS (fun q _ h => h) (fun q h => h) (fun r68 G69 t H locs ht hvm hw hB hz1 hk1 hS => ?_)
    have hG : mm D vwCl A G69 H := by rw [← ht]; exact hB
    clear hB hz1 hk1 hvm ht
    obtain ⟨a70, ea70⟩ : ∃ y, y = q_num (tkK ft en) (tkS ft en) (tkV ft en) 0 191 a61 := ⟨_, rfl⟩
    rw [← ea70] at hw
    obtain ⟨hr68, I71, F72, hM2, hF2, hQ2, hI2, hX2⟩ := hw
    replace hF := hF.tr hF2; replace hM := hM2; clear hM2 hF2
    have hQ := hQ2; have hIZ := (IZ_x hI2).trans hIZ; have hFr := hFr.fx hX2; have hC := hC.fx hI2 hX2
    have p73 : F72 20 (16 * bo + v9.nS) = r30 := (congrFun (FXe hX2 (by decide)) _).trans p64
    have p74 : F72 22 (16 * bo + v9.nS) = nI l9 := (congrFun (FXe hX2 (by decide)) _).trans p65
    have p75 : F72 23 (16 * bo + v9.nS) = 0 := (congrFun (FXe hX2 (by decide)) _).trans p66
    have p76 : F72 3 (bo) = nI (v9.nS + 1) := (congrFun (FXe hX2 (by decide)) _).trans p67
    clear hI2 hX2 hQ2
    have ga70 : a61.1 ≤ a70.2.1 := by rw [ea70]; exact ge_num
    have da70 : a70.2.2 < 0 → _ := fun z => ad_num hSn (by rw [← ea70]; exact z)
    rw [← ea70] at da70
    have hc1 : a21.1 + 1 ≤ a70.2.1 + 1 := by omega
    have hc2 : a70.2.2 < 0 → a21.1 + 1 ≤ a70.2.1 := fun z => by have := da70 z; omega
    refine mm_iast (n := mdN 21) (f := F72 21) hx hb hK hG hS 1 (hM.2.1 21 rfl) rfl (by rw [show (((16 * (nI bo)) + (nI v9.nS)) : Int32) = nI (16 * bo + v9.nS) by show (((nI 16 * (nI bo)) + (nI v9.nS)) : Int32) = _; simp only [nI_mu, nI_add]]; exact nI_in (N := mdN 21) (by show _ < 32; omega) (by decide)) dX14_serviceStatement_108 (fun H locs hG hS => ?_)
    have hM := MD.seti (k := 21) (upd (F72 21) ((16 * (nI bo)) + (nI v9.nS)).toNatClampNeg r68) hM rfl
    have hF := hF.wa (k := 21) (e' := .inl (cy 1, mdN 21, .inl (upd (F72 21) ((16 * (nI bo)) + (nI v9.nS)).toNatClampNeg r68))) rfl
    obtain ⟨F77, eF77⟩ : ∃ g, g = va_up F72 21 (upd (F72 21) ((16 * (nI bo)) + (nI v9.nS)).toNatClampNeg r68) := ⟨_, rfl⟩
    rw [← eF77] at hM
    have hgn := gn_MD hG hM hF
    clear hG hM hF
    obtain ⟨G78, hG, hM, hF⟩ := hgn
    rw [show (((16 * (nI bo)) + (nI v9.nS)) : Int32) = nI (16 * bo + v9.nS) by show (((nI 16 * (nI bo)) + (nI v9.nS)) : Int32) = _; simp only [nI_mu, nI_add], nI_clamp (by omega)] at eF77
    have p79 : F77 20 (16 * bo + v9.nS) = r30 := by rw [eF77, va_up_ne _ _ (by decide)]; exact p73
    have p80 : F77 22 (16 * bo + v9.nS) = nI l9 := by rw [eF77, va_up_ne _ _ (by decide)]; exact p74
    have p81 : F77 23 (16 * bo + v9.nS) = 0 := by rw [eF77, va_up_ne _ _ (by decide)]; exact p75
    have p82 : F77 3 (bo) = nI (v9.nS + 1) := by rw [eF77, va_up_ne _ _ (by decide)]; exact p76
    have p83 : F77 21 (16 * bo + v9.nS) = r68 := by rw [eF77, va_up_self, pk_us]
    have hFr : FrW (wS bo v9.nS) F F77 := by rw [eF77]; exact hFr.up (by unfold wS; omega)
    have hQ : LXq Ar I71 F77 ft sx fr en bo a70.2 := by rw [eF77]; exact hQ.wF (by decide)
    have hC : CLq I71 F77 ft en (clA a21 cl (4, a21.1, v9.nS, 0)) (a21.1 + 1) := by rw [eF77]; exact hC.wF (by decide)
    refine lv_aload_n hx hb dX14_serviceStatement_109 rfl (lv_at hl 2 rfl) ?_
    refine lv_bipush (v := 123) hx hb dX14_serviceStatement_110 (by decide) ?_
    refine va_callv (va_runV (As := [.int 123]) (rest := []) ⟨hx, hb, hml, hown, (fun _ h9 => absurd h9 List.not_mem_nil : ∀ w ∈ ([] : List Cond), w.before _ s = true)⟩ (c_M_mark l D cy A X hst hXT G78 o Ar I71 F77 L ft sx fr en bo a70.2 4 hM hQ (by decide) (by decide)) (tb_cw (C := RX14) 1 hT tw_1717 tw_109 tw_1714 tw_1716 tw_73 rfl rfl hq_X14_mark ⟨Nat.le_of_ble_eq_true rfl, Nat.le_of_ble_eq_true rfl⟩) (mk_preC hst hG hK hA hX hS vc_15 hM.1) rfl rfl hl.1 rfl (lv_room (Nat.le_of_ble_eq_true rfl)) dX14_serviceStatement_112 ⟨Nat.le_of_ble_eq_true rfl, Nat.le_of_ble_eq_true rfl⟩) hS (fun q _ h => h) (fun q h => h) (fun  G84 t H locs ht hvm hw hB hz1 hk1 hS => ?_)
    have hG : mm D vwCl A G84 H := by rw [← ht]; exact hB
    clear hB hz1 hk1 hvm ht
    obtain ⟨a85, ea85⟩ : ∃ y, y = q_take (tkK ft en) (tkS ft en) 4 a70.2 := ⟨_, rfl⟩
    rw [← ea85] at hw
    obtain ⟨I86, F87, hM2, hF2, hQ2, hI2, hX2⟩ := hw
    replace hF := hF.tr hF2; replace hM := hM2; clear hM2 hF2
    have hQ := hQ2; have hIZ := (IZ_x hI2).trans hIZ; have hFr := hFr.fx hX2; have hC := hC.fx hI2 hX2
    have p88 : F87 20 (16 * bo + v9.nS) = r30 := (congrFun (FXe hX2 (by decide)) _).trans p79
    have p89 : F87 22 (16 * bo + v9.nS) = nI l9 := (congrFun (FXe hX2 (by decide)) _).trans p80
    have p90 : F87 23 (16 * bo + v9.nS) = 0 := (congrFun (FXe hX2 (by decide)) _).trans p81
    have p91 : F87 3 (bo) = nI (v9.nS + 1) := (congrFun (FXe hX2 (by decide)) _).trans p82
    have p92 : F87 21 (16 * bo + v9.nS) = r68 := (congrFun (FXe hX2 (by decide)) _).trans p83
    clear hI2 hX2 hQ2
    have ga85 : a70.2.1 ≤ a85.1 := by rw [ea85]; exact ge_take
    have da85 : a85.2 < 0 → _ := fun z => ad_take hSn (by rw [← ea85]; exact z)
    rw [← ea85] at da85
    have hc1 : a21.1 + 1 ≤ a85.1 + 1 := by omega
    have hc2 : a85.2 < 0 → a21.1 + 1 ≤ a85.1 := fun z => by have := da85 z; omega
    have hqs : (q_ser (tkK ft en) (tkS ft en) (tkV ft en) v9.nS q) = (q_take (tkK ft en) (tkS ft en) 5 (q_pars (tkK ft en) (tkS ft en) (tkV ft en) 9 0 a85 d0P).2.2, (tkS ft en a21.1, a32.1, a70.1), ((q_pars (tkK ft en) (tkS ft en) (tkV ft en) 9 0 a85 d0P).1, (q_pars (tkK ft en) (tkS ft en) (tkV ft en) 9 0 a85 d0P).2.1)) := by simp only [q_ser, ← ea21, ← ea32, ← ea61, ← ea70, ← ea85]
    have hcr : a85.2 < 0 → (clA a21 cl (4, a21.1, v9.nS, 0)) ++ clPs (tkK ft en) (tkS ft en) (tkV ft en) v9.nS 9 0 a85 = cl ++ clS (tkK ft en) (tkS ft en) (tkV ft en) v9.nS q := fun z => by simp only [clS, clA, ← ea21, ← ea32, ← ea61, ← ea70, ← ea85]; rw [if_pos hb0, (da21 hb0).2.2, List.append_assoc]; rfl
    exact hlp 9 0 a85 d0P I86 F87 (clA a21 cl (4, a21.1, v9.nS, 0)) (a21.1 + 1) (tkS ft en a21.1) a70.1 a32.1 (q_pars (tkK ft en) (tkS ft en) (tkV ft en) 9 0 a85 d0P) (cl ++ clS (tkK ft en) (tkS ft en) (tkV ft en) v9.nS q) rfl rfl hlim (fun _ => Nat.zero_le _) hqs hcr rfl hQ hC hc1 hIZ hFr (by omega) p91 p89 (fun z => (hr30.mono (by omega)).cg p88.symm) (fun z => p92.trans (hr68 (da85 z).1)) (fun _ => p90) (fun _ p hp => absurd hp (Nat.not_lt_zero p)) G84 hM hF _ _ hG hS ls (lv_sub hl [2, 0] rfl)
  · skip
    have hb0 : ¬ a21.2 < 0 := of_decide_eq_false (b2i_f (by rw [← hr19]; exact c_17))
    have hqe : (q_ser (tkK ft en) (tkS ft en) (tkV ft en) v9.nS q).1 = a21 := by simp only [q_ser, ← ea21]; rw [q_name_f hb0]; dsimp only; rw [q_take_f hb0, q_num_f hb0, q_take_f hb0, q_pars_f hb0]; dsimp only; rw [q_take_f hb0]
    exact W.vret hx hb hr (fun t ht hW => ⟨⟨_, rfl, ⟨_, _, _, hM, hF, (by rw [hqe]; exact hQ), hIZ, hFr, (by rw [hqe]; exact hC.le (by (try dsimp only); omega)), (by rw [hqe]; (try dsimp only); omega), (by rw [hqe]; exact fun z => absurd z hb0)⟩, mk_end hG ht⟩, hS.F ht⟩) hS.2.2 dX14_serviceStatement_20
