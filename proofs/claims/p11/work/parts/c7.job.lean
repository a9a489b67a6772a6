def wJ (bo n : Nat) : Nat → Nat → Prop := fun k i => (k = 6 ∧ i = bo) ∨ ((k = 33 ∨ k = 34) ∧ n < 4 ∧ i = 4 * bo + n) ∨ (35 ≤ k ∧ k ≤ 37 ∧ n < 4 ∧ 400 * bo + 100 * n ≤ i ∧ i < 400 * bo + 100 * n + 100)
/-- the claims of a job's OPS, of a job -/
def clOs (K : Nat → Nat) (S : Nat → Int32) (V : Nat → Int64) (j : Nat) : Nat → Nat → Nat → Nat → (Nat → Int32) → Nat × Int32 → List CLi
  | 0, _, _, _, _, _ => []
  | n + 1, kk, ta, on, wf, q => if 0 < on ∧ se K q.1 q.2 5 = true then clOs K S V j n (kk + 1) ta (on - 1) wf (q_take K S 5 q) else if isO (K q.1) = true ∧ q.2 < 0 then clO j kk q.1 (K q.1) ++ clOs K S V j n (kk + 1) (ta + 1) (q_op K S V ta on kk q wf).2.1 (q_op K S V ta on kk q wf).2.2.1 (q_op K S V ta on kk q wf).1 else []
def clJ (K : Nat → Nat) (S : Nat → Int32) (V : Nat → Int64) (j : Nat) (q : Nat × Int32) : List CLi := (3, q.1 + 1, j, 0) :: clOs K S V j 81 0 0 0 (fun _ => 0) (q_take K S 4 (q_name K S V (q_begin S (nI j) 4 q)).2)
section

variable {K : Nat → Nat} {S : Nat → Int32} {V : Nat → Int64} {n kk ta on : Nat} {wf : Nat → Int32} {d : Nat → OpD} {q : Nat × Int32}
theorem q_ops_st (h1 : ¬ (0 < on ∧ se K q.1 q.2 5 = true)) (h2 : ¬ (isO (K q.1) = true ∧ q.2 < 0)) : q_ops K S V n kk ta on wf d q = (kk, d, q) := by
  cases n with
  | zero => rfl
  | succ n => rw [q_ops, if_neg h1, if_neg h2]
theorem clOs_st {j : Nat} (h1 : ¬ (0 < on ∧ se K q.1 q.2 5 = true)) (h2 : ¬ (isO (K q.1) = true ∧ q.2 < 0)) : clOs K S V j n kk ta on wf q = [] := by
  cases n with
  | zero => rfl
  | succ n => rw [clOs, if_neg h1, if_neg h2]
theorem q_op_o (h : ¬ K q.1 = 34) : (q_op K S V ta on kk q wf).2.1 = on ∧ (q_op K S V ta on kk q wf).2.2.1 = wf ∧ (q_op K S V ta on kk q wf).2.2.2.1 = K q.1 := by
  simp only [q_op, if_neg h]
  by_cases h5 : K q.1 = 25
  · rw [if_pos h5]; exact ⟨rfl, rfl, rfl⟩
  · rw [if_neg h5]
    by_cases h6 : K q.1 = 26
    · rw [if_pos h6]; exact ⟨rfl, rfl, rfl⟩
    · rw [if_neg h6]; exact ⟨rfl, rfl, rfl⟩
theorem q_opwF (hS : ∀ p, ¬ S p < 0) (hk : K q.1 = 34) (hq : q.2 < 0) (h : ¬ nI ta < 40 ∨ ¬ on < 3) : (q_op K S V ta on kk q wf).1 = (q.1, S q.1) := by
  have e1 : q_begin S (nI ta) 40 (if on < 3 then q else (q.1, fl S q.1 q.2)) = (q.1, S q.1) := by
    by_cases h3 : on < 3
    · rw [if_pos h3]
      unfold q_begin fl
      rw [if_neg (by rcases h with h | h; exact h; exact absurd h3 h), if_pos hq]
    · rw [if_neg h3, show fl S q.1 q.2 = S q.1 by unfold fl; rw [if_pos hq]]
      exact q_begin_f (q := (q.1, S q.1)) (hS q.1)
  simp only [q_op, if_pos hk, e1, q_opw]
  by_cases h3 : on < 3
  · rw [if_pos h3]
    exact q_take_f (q := (q.1, S q.1)) (hS q.1)
  · rw [if_neg h3]
theorem q_op_w (hk : K q.1 = 34) (hq : q.2 < 0) (h1 : nI ta < 40) (h3 : on < 3) : q_op K S V ta on kk q wf = (q_take K S 4 (q.1 + 1, q.2), on + 1, upd wf on (nI kk), (34, 0, 0, 0, 0, 0, 0)) := by
  have e1 : q_begin S (nI ta) 40 q = (q.1 + 1, q.2) := by unfold q_begin; rw [if_pos h1, if_pos hq]
  simp only [q_op, if_pos hk, if_pos h3, e1, q_opw, Nat.add_sub_cancel]
  rw [hk]
end
theorem OPf.mv {K : Nat → Nat} {V : Nat → Int64} {n m : Nat} {F F2 : Nat → Nat → Int32} {i : Nat} {d : OpD} (h : OPf K V n F i d) (hm : n ≤ m) (h5 : F2 35 i = F 35 i) (h6 : F2 36 i = F 36 i) (h7 : F2 37 i = F 37 i) : OPf K V m F2 i d := by
  unfold OPf
  rw [h5, h6, h7]
  exact ⟨h.1, h.2.1, fun z => ⟨(h.2.2.1 z).1.mono hm, (h.2.2.1 z).2.mono hm⟩, h.2.2.2⟩

def wQ (bo n kk sx : Nat) : Nat → Nat → Prop := fun k i => (k = 34 ∧ i = 4 * bo + n) ∨ (35 ≤ k ∧ k ≤ 37 ∧ i = 400 * bo + (100 * n + kk)) ∨ (k = 36 ∧ i = 400 * bo + (100 * n + sx))

set_option maxHeartbeats 4000000 in
set_option maxRecDepth 100000 in
theorem c_M_jobSt (l : Launch) (D : va_G) (cy : Nat → ClassId) (A : Nat → Prop) (X : State → Prop) (hst : mk_St A X) (hXT : ∀ U : State, X U → TB U) (G : Nat → Option va_E) (o : Nat) (Ar : Nat → Nat) (Iv : Nat → Int32) (F : Nat → Nat → Int32) (L : Nat → Nat → Int64) (ft : Nat → Int32) (sx fr en bo : Nat) (q : Nat × Int32) (cl : List CLi) (c9 : Nat) (v9 : EdV) (hM : MD cy G o Ar Iv F L) (hQ : LXq Ar Iv F ft sx fr en bo q) (hC : CLq Iv F ft en cl c9) (hc1 : c9 ≤ q.1 + 1) (hkb : q.2 < 0 → tkK ft en q.1 ≠ 2 ∧ tkK ft en q.1 ≠ 3) (hn : F 6 bo = nI v9.nJ) (hn9 : v9.nJ ≤ 4) : Met l yX14_jobStatement [.code yX14_jobStatement cX14_jobStatement 7 none] ({ frames := 8, cells := 0, slots := 0, locals := 240 }) (mk_Pre D vwCl (tyL cy) A X G [.ref o]) (va_Qv (fun (G2 : Nat → Option va_E) => ∃ (I2 : Nat → Int32) (F2 : Nat → Nat → Int32) (cl2 : List CLi), MD cy G2 o Ar I2 F2 L ∧ MF G G2 o Ar ∧ LXq Ar I2 F2 ft sx fr en bo (q_job (tkK ft en) (tkS ft en) (tkV ft en) v9.nJ q (fun _ => 0)).1 ∧ IZ I2 = IZ Iv ∧ FrW (wJ bo v9.nJ) F F2 ∧ CLq I2 F2 ft en cl2 ((q_job (tkK ft en) (tkS ft en) (tkV ft en) v9.nJ q (fun _ => 0)).1.1 + 1) ∧ q.1 ≤ (q_job (tkK ft en) (tkS ft en) (tkV ft en) v9.nJ q (fun _ => 0)).1.1 ∧ ((q_job (tkK ft en) (tkS ft en) (tkV ft en) v9.nJ q (fun _ => 0)).1.2 < 0 → (v9.nJ < 4 ∧ F2 6 bo = nI (v9.nJ + 1) ∧ NMt (tkK ft en) (tkV ft en) ((q_job (tkK ft en) (tkS ft en) (tkV ft en) v9.nJ q (fun _ => 0)).1.1 + 1) (F2 33 (4 * bo + v9.nJ)) (q_job (tkK ft en) (tkS ft en) (tkV ft en) v9.nJ q (fun _ => 0)).2.1.2 ∧ F2 34 (4 * bo + v9.nJ) = nI (q_job (tkK ft en) (tkS ft en) (tkV ft en) v9.nJ q (fun _ => 0)).2.2.1 ∧ (q_job (tkK ft en) (tkS ft en) (tkV ft en) v9.nJ q (fun _ => 0)).2.2.1 ≤ 80 ∧ ∀ i, i < (q_job (tkK ft en) (tkS ft en) (tkV ft en) v9.nJ q (fun _ => 0)).2.2.1 → OPf (tkK ft en) (tkV ft en) ((q_job (tkK ft en) (tkS ft en) (tkV ft en) v9.nJ q (fun _ => 0)).1.1 + 1) F2 (400 * bo + (100 * v9.nJ + i)) ((q_job (tkK ft en) (tkS ft en) (tkV ft en) v9.nJ q (fun _ => 0)).2.2.2 i)) ∧ cl2 = cl ++ clJ (tkK ft en) (tkS ft en) (tkV ft en) v9.nJ q)) (mk_B D vwCl A) A) 0 0 A := by
  refine Met.ofW (cc := cX14_jobStatement) (maxL := 7) (ret := none) (by decide) rfl ?_
  intro p e s m args below meth c s₁ B hml hv
  obtain ⟨rfl, hG, hK, hA, hX⟩ := hv
  have hx := B.exec
  have hb := B.bytes
  have hr := B.returns
  have hlocks := B.notSynchronized
  have hT := hXT s hX
  have hown : s.vm.findClass RX14 = some m.cls := findClass_of_methodNamed B.named
  have hf_X14 : ∀ w ∈ u_ws RX14 TX14 76, w.before ([.ref o] : List Value).toArray s = true := tb_list hT fX14
  have hS : va_S A s.heap s.heap [] := va_S.rf
  have hl := lv_entry ([.ref o]) (n := 7) (Nat.le_of_ble_eq_true rfl)
  rw [lg_entry_eq]
  generalize (lg_sl ([.ref o]) ++ List.replicate (7 - (lg_sl ([.ref o])).length) Slot.unset).toArray = ls at hl ⊢
  have hl : lv_has ls 7 [(0, .ref o)] := hl
  have hF : MF G G o Ar := MF.rf
  have hIZ : IZ Iv = IZ Iv := rfl
  have hSn : ∀ p, ¬ tkS ft en p < 0 := fun p => tkS_ge hQ.1.2.2.2.1 p
  have hbo := hQ.1.2.2.2.2.2.1
  have hbl := hQ.1.2.2.2.2.1
  have hFr : FrW (wJ bo v9.nJ) F F := FrW.rf
  have hlp : ∀ (n : Nat) (kk ta on : Nat) (qj : Nat × Int32) (wf : Nat → Int32) (dj : Nat → OpD) (Ij : Nat → Int32) (Fj : Nat → Nat → Int32) (clj : List CLi) (cj : Nat) (x3 x4 x5 : Int32) (CR : List CLi) (RP : Nat × (Nat → OpD) × (Nat × Int32)) (st9 : Int32) (a33 : Int64), (q_ops (tkK ft en) (tkS ft en) (tkV ft en) n kk ta on wf dj qj = RP) → (n + kk = 81 ∨ ¬ qj.2 < 0) → (v9.nJ < 4) → ((q_job (tkK ft en) (tkS ft en) (tkV ft en) v9.nJ q (fun _ => 0)) = (q_take (tkK ft en) (tkS ft en) 5 RP.2.2, (st9, a33), (RP.1, RP.2.1))) → (qj.2 < 0 → clj ++ clOs (tkK ft en) (tkS ft en) (tkV ft en) v9.nJ n kk ta on wf qj = CR) → (CR = cl ++ clJ (tkK ft en) (tkS ft en) (tkV ft en) v9.nJ q) → (LXq Ar Ij Fj ft sx fr en bo qj) → (CLq Ij Fj ft en clj cj) → (cj ≤ qj.1 + 1) → (IZ Ij = IZ Iv) → (FrW (wJ bo v9.nJ) F Fj) → (q.1 ≤ qj.1) → (Fj 6 bo = nI (v9.nJ + 1)) → (qj.2 < 0 → NMt (tkK ft en) (tkV ft en) (qj.1 + 1) (Fj 33 (4 * bo + v9.nJ)) a33) → (qj.2 < 0 → Fj 34 (4 * bo + v9.nJ) = nI kk) → (qj.2 < 0 → Ij 56 = nI ta) → (qj.2 < 0 → Ij 57 = nI on) → (qj.2 < 0 → kk + on ≤ 2 * ta ∧ ta ≤ 40 ∧ on ≤ 3) → (qj.2 < 0 → (0 < on → x3 = wf 0) ∧ (1 < on → x4 = wf 1) ∧ (2 < on → x5 = wf 2)) → (qj.2 < 0 → ∀ i, i < on → ∃ sx, sx < kk ∧ wf i = nI sx ∧ (dj sx).1 = 34) → (qj.2 < 0 → ∀ i, i < kk → OPf (tkK ft en) (tkV ft en) (qj.1 + 1) Fj (400 * bo + (100 * v9.nJ + i)) (dj i)) → ∀ (Gv : Nat → Option va_E), (MD cy Gv o Ar Ij Fj L) → (MF G Gv o Ar) → ∀ (H : Heap) (locs : List Loc), mm D vwCl A Gv H → va_S A s.heap H locs → ∀ ls : Array Slot, lv_has ls 7 [(0, .ref o), (1, .int (nI bo)), (2, .int (nI v9.nJ)), (3, .int x3), (4, .int x4), (5, .int x5)] → W p l e (headSpec [.code yX14_jobStatement cX14_jobStatement 7 none] ({ frames := 8, cells := 0, slots := 0, locals := 240 })).room s m ([.ref o] : List Value).toArray below meth c H locs 0 0 (MQ below (va_Qv (fun (G2 : Nat → Option va_E) => ∃ (I2 : Nat → Int32) (F2 : Nat → Nat → Int32) (cl2 : List CLi), MD cy G2 o Ar I2 F2 L ∧ MF G G2 o Ar ∧ LXq Ar I2 F2 ft sx fr en bo (q_job (tkK ft en) (tkS ft en) (tkV ft en) v9.nJ q (fun _ => 0)).1 ∧ IZ I2 = IZ Iv ∧ FrW (wJ bo v9.nJ) F F2 ∧ CLq I2 F2 ft en cl2 ((q_job (tkK ft en) (tkS ft en) (tkV ft en) v9.nJ q (fun _ => 0)).1.1 + 1) ∧ q.1 ≤ (q_job (tkK ft en) (tkS ft en) (tkV ft en) v9.nJ q (fun _ => 0)).1.1 ∧ ((q_job (tkK ft en) (tkS ft en) (tkV ft en) v9.nJ q (fun _ => 0)).1.2 < 0 → (v9.nJ < 4 ∧ F2 6 bo = nI (v9.nJ + 1) ∧ NMt (tkK ft en) (tkV ft en) ((q_job (tkK ft en) (tkS ft en) (tkV ft en) v9.nJ q (fun _ => 0)).1.1 + 1) (F2 33 (4 * bo + v9.nJ)) (q_job (tkK ft en) (tkS ft en) (tkV ft en) v9.nJ q (fun _ => 0)).2.1.2 ∧ F2 34 (4 * bo + v9.nJ) = nI (q_job (tkK ft en) (tkS ft en) (tkV ft en) v9.nJ q (fun _ => 0)).2.2.1 ∧ (q_job (tkK ft en) (tkS ft en) (tkV ft en) v9.nJ q (fun _ => 0)).2.2.1 ≤ 80 ∧ ∀ i, i < (q_job (tkK ft en) (tkS ft en) (tkV ft en) v9.nJ q (fun _ => 0)).2.2.1 → OPf (tkK ft en) (tkV ft en) ((q_job (tkK ft en) (tkS ft en) (tkV ft en) v9.nJ q (fun _ => 0)).1.1 + 1) F2 (400 * bo + (100 * v9.nJ + i)) ((q_job (tkK ft en) (tkS ft en) (tkV ft en) v9.nJ q (fun _ => 0)).2.2.2 i)) ∧ cl2 = cl ++ clJ (tkK ft en) (tkS ft en) (tkV ft en) v9.nJ q)) (mk_B D vwCl A) A) ([.ref o] : List Value).toArray s 0 0 A) (F0 m 93 ls []) := by
    intro n
    induction n with
    | zero =>
      intro kk ta on qj wf dj Ij Fj clj cj x3 x4 x5 CR RP st9 a33 hR hn9 hlim hqs hcr hCR hQ hC hc1 hIZ hFr hq0 h6 h33 h34 h56 h57 hinv hwf hwf2 hOp Gv hM hF H locs hG hS ls hl
      have hXX : FX Fj = FX Fj := rfl
      have hQ0 := hQ
      refine lv_aload_n hx hb dX14_jobStatement_93 rfl (lv_at hl 0 rfl) ?_
      refine mm_get (v := .int (Ij 55)) hx hb hf_X14 (fun _ h9 => h9) hown hK hG hM.1 rfl 55 (by decide) (tb_use hT tw_1446) (fun _ h9 => h9) (mfs_g55 _ _) dX14_jobStatement_94 ?_
      refine lv_if_eq (tgt := 358) hx hb dX14_jobStatement_97 (by decide) (fun c_97 => ?_) (fun c_97 => ?_)
      · skip
        refine lv_aload_n hx hb dX14_jobStatement_358 rfl (lv_at hl 0 rfl) ?_
        refine lv_bipush (v := 125) hx hb dX14_jobStatement_359 (by decide) ?_
        refine va_callv (va_runV (As := [.int 125]) (rest := []) ⟨hx, hb, hml, hown, (fun _ h9 => absurd h9 List.not_mem_nil : ∀ w ∈ ([] : List Cond), w.before _ s = true)⟩ (c_M_mark l D cy A X hst hXT Gv o Ar Ij Fj L ft sx fr en bo qj 5 hM hQ (by decide) (by decide)) (tb_cw (C := RX14) 1 hT tw_1717 tw_109 tw_1714 tw_1716 tw_73 rfl rfl hq_X14_mark ⟨Nat.le_of_ble_eq_true rfl, Nat.le_of_ble_eq_true rfl⟩) (mk_preC hst hG hK hA hX hS vc_15 hM.1) rfl rfl hl.1 rfl (lv_room (Nat.le_of_ble_eq_true rfl)) dX14_jobStatement_361 ⟨Nat.le_of_ble_eq_true rfl, Nat.le_of_ble_eq_true rfl⟩) hS (fun q _ h => h) (fun q h => h) (fun  G1 t H locs ht hvm hw hB hz1 hk1 hS => ?_)
        have hG : mm D vwCl A G1 H := by rw [← ht]; exact hB
        clear hB hz1 hk1 hvm ht
        obtain ⟨a2, ea2⟩ : ∃ y, y = q_take (tkK ft en) (tkS ft en) 5 qj := ⟨_, rfl⟩
        rw [← ea2] at hw
        obtain ⟨I3, F4, hM2, hF2, hQ2, hI2, hX2⟩ := hw
        replace hF := hF.tr hF2; replace hM := hM2; clear hM2 hF2
        have hQ := hQ2; have hIZ := (IZ_x hI2).trans hIZ; have hFr := hFr.fx hX2; have hC := hC.fx hI2 hX2
        have hXX := hX2.trans hXX
        have p5 : F4 6 (bo) = nI (v9.nJ + 1) := (congrFun (FXe hX2 (by decide)) _).trans h6
        have p6 : F4 33 (4 * bo + v9.nJ) = Fj 33 (4 * bo + v9.nJ) := (congrFun (FXe hX2 (by decide)) _).trans rfl
        clear hI2 hX2 hQ2
        have ga2 : qj.1 ≤ a2.1 := by rw [ea2]; exact ge_take
        have da2 : a2.2 < 0 → _ := fun z => ad_take hSn (by rw [← ea2]; exact z)
        rw [← ea2] at da2
        have hc1 : cj ≤ a2.1 + 1 := by omega
        have hc2 : a2.2 < 0 → cj ≤ a2.1 := fun z => by have := da2 z; omega
        have hnf : ¬ qj.2 < 0 := fun z => (hQ0.g1.mpr z) c_97
        have hRe : RP = (kk, dj, qj) := by rw [← hR]; exact q_ops_f hnf
        have hqe : (q_job (tkK ft en) (tkS ft en) (tkV ft en) v9.nJ q (fun _ => 0)) = (a2, (st9, a33), (kk, dj)) := by rw [hqs, hRe, ea2]
        exact W.vret hx hb hr (fun t ht hW => ⟨⟨_, rfl, ⟨_, _, _, hM, hF, (by rw [hqe]; exact hQ), hIZ, hFr, (by rw [hqe]; exact hC.le (by (try dsimp only); omega)), (by rw [hqe]; (try dsimp only); omega), (by rw [hqe]; intro z; dsimp only at z ⊢; exact absurd (da2 z).1 hnf)⟩, mk_end hG ht⟩, hS.F ht⟩) hS.2.2 dX14_jobStatement_364
      · skip
        exact absurd (hinv (hQ.g1.mp c_97)) (by rcases hn9 with z | z; omega; exact absurd (hQ.g1.mp c_97) z)
    | succ n ih =>
      intro kk ta on qj wf dj Ij Fj clj cj x3 x4 x5 CR RP st9 a33 hR hn9 hlim hqs hcr hCR hQ hC hc1 hIZ hFr hq0 h6 h33 h34 h56 h57 hinv hwf hwf2 hOp Gv hM hF H locs hG hS ls hl
      have hXX : FX Fj = FX Fj := rfl
      have hQ0 := hQ
      refine lv_aload_n hx hb dX14_jobStatement_93 rfl (lv_at hl 0 rfl) ?_
      refine mm_get (v := .int (Ij 55)) hx hb hf_X14 (fun _ h9 => h9) hown hK hG hM.1 rfl 55 (by decide) (tb_use hT tw_1446) (fun _ h9 => h9) (mfs_g55 _ _) dX14_jobStatement_94 ?_
      refine lv_if_eq (tgt := 358) hx hb dX14_jobStatement_97 (by decide) (fun c_97 => ?_) (fun c_97 => ?_)
      · skip
        refine lv_aload_n hx hb dX14_jobStatement_358 rfl (lv_at hl 0 rfl) ?_
        refine lv_bipush (v := 125) hx hb dX14_jobStatement_359 (by decide) ?_
        refine va_callv (va_runV (As := [.int 125]) (rest := []) ⟨hx, hb, hml, hown, (fun _ h9 => absurd h9 List.not_mem_nil : ∀ w ∈ ([] : List Cond), w.before _ s = true)⟩ (c_M_mark l D cy A X hst hXT Gv o Ar Ij Fj L ft sx fr en bo qj 5 hM hQ (by decide) (by decide)) (tb_cw (C := RX14) 1 hT tw_1717 tw_109 tw_1714 tw_1716 tw_73 rfl rfl hq_X14_mark ⟨Nat.le_of_ble_eq_true rfl, Nat.le_of_ble_eq_true rfl⟩) (mk_preC hst hG hK hA hX hS vc_15 hM.1) rfl rfl hl.1 rfl (lv_room (Nat.le_of_ble_eq_true rfl)) dX14_jobStatement_361 ⟨Nat.le_of_ble_eq_true rfl, Nat.le_of_ble_eq_true rfl⟩) hS (fun q _ h => h) (fun q h => h) (fun  G7 t H locs ht hvm hw hB hz1 hk1 hS => ?_)
        have hG : mm D vwCl A G7 H := by rw [← ht]; exact hB
        clear hB hz1 hk1 hvm ht
        obtain ⟨a8, ea8⟩ : ∃ y, y = q_take (tkK ft en) (tkS ft en) 5 qj := ⟨_, rfl⟩
        rw [← ea8] at hw
        obtain ⟨I9, F10, hM2, hF2, hQ2, hI2, hX2⟩ := hw
        replace hF := hF.tr hF2; replace hM := hM2; clear hM2 hF2
        have hQ := hQ2; have hIZ := (IZ_x hI2).trans hIZ; have hFr := hFr.fx hX2; have hC := hC.fx hI2 hX2
        have hXX := hX2.trans hXX
        have p11 : F10 6 (bo) = nI (v9.nJ + 1) := (congrFun (FXe hX2 (by decide)) _).trans h6
        have p12 : F10 33 (4 * bo + v9.nJ) = Fj 33 (4 * bo + v9.nJ) := (congrFun (FXe hX2 (by decide)) _).trans rfl
        clear hI2 hX2 hQ2
        have ga8 : qj.1 ≤ a8.1 := by rw [ea8]; exact ge_take
        have da8 : a8.2 < 0 → _ := fun z => ad_take hSn (by rw [← ea8]; exact z)
        rw [← ea8] at da8
        have hc1 : cj ≤ a8.1 + 1 := by omega
        have hc2 : a8.2 < 0 → cj ≤ a8.1 := fun z => by have := da8 z; omega
        have hnf : ¬ qj.2 < 0 := fun z => (hQ0.g1.mpr z) c_97
        have hRe : RP = (kk, dj, qj) := by rw [← hR]; exact q_ops_f hnf
        have hqe : (q_job (tkK ft en) (tkS ft en) (tkV ft en) v9.nJ q (fun _ => 0)) = (a8, (st9, a33), (kk, dj)) := by rw [hqs, hRe, ea8]
        exact W.vret hx hb hr (fun t ht hW => ⟨⟨_, rfl, ⟨_, _, _, hM, hF, (by rw [hqe]; exact hQ), hIZ, hFr, (by rw [hqe]; exact hC.le (by (try dsimp only); omega)), (by rw [hqe]; (try dsimp only); omega), (by rw [hqe]; intro z; dsimp only at z ⊢; exact absurd (da8 z).1 hnf)⟩, mk_end hG ht⟩, hS.F ht⟩) hS.2.2 dX14_jobStatement_364
      · skip
        have hgd : qj.2 < 0 := hQ.g1.mp c_97
        obtain ⟨hi1, hi2, hi3⟩ := hinv hgd
        have hn81 : n + 1 + kk = 81 := by rcases hn9 with z | z; exact z; exact absurd hgd z
        have i56 := h56 hgd; have i57 := h57 hgd; have i34 := h34 hgd
        refine lv_aload_n hx hb dX14_jobStatement_100 rfl (lv_at hl 0 rfl) ?_
        refine mm_get (v := .int (Ij 57)) hx hb hf_X14 (fun _ h9 => h9) hown hK hG hM.1 rfl 57 (by decide) (tb_use hT tw_1448) (fun _ h9 => h9) (mfs_g57 _ _) dX14_jobStatement_101 ?_
        rw [i57]
        refine lv_if_gt (tgt := 116) hx hb dX14_jobStatement_104 (by decide) (fun c_104 => ?_) (fun c_104 => ?_)
        · skip
          refine lv_aload_n hx hb dX14_jobStatement_116 rfl (lv_at hl 0 rfl) ?_
          refine lv_bipush (v := 125) hx hb dX14_jobStatement_117 (by decide) ?_
          refine va_calli (va_runV (As := [.int 125]) (rest := []) ⟨hx, hb, hml, hown, (fun _ h9 => absurd h9 List.not_mem_nil : ∀ w ∈ ([] : List Cond), w.before _ s = true)⟩ (c_M_isSign l D cy A X hst hXT Gv o Ar Ij Fj L 125 hM) (tb_cw (C := RX14) 1 hT tw_1729 tw_109 tw_1726 tw_1728 tw_76 rfl rfl hq_X14_isSign ⟨Nat.le_of_ble_eq_true rfl, Nat.le_of_ble_eq_true rfl⟩) (mk_preC hst hG hK hA hX hS vc_15 hM.1) rfl rfl hl.1 rfl (lv_room (Nat.le_of_ble_eq_true rfl)) dX14_jobStatement_119 ⟨Nat.le_of_ble_eq_true rfl, Nat.le_of_ble_eq_true rfl⟩) hS (fun q _ h => h) (fun q h => h) (fun r13 G14 t H locs ht hvm hw hB hz1 hk1 hS => ?_)
          have hG : mm D vwCl A G14 H := by rw [← ht]; exact hB
          clear hB hz1 hk1 hvm ht
          obtain ⟨er13, hw⟩ := hw
          rw [hw] at hG
          rw [hQ.isS (w := 5) (y := 125) rfl (by decide) (by decide)] at er13
          refine lv_if_eq (tgt := 209) hx hb dX14_jobStatement_122 (by decide) (fun c_122 => ?_) (fun c_122 => ?_)
          · skip
            refine lv_aload_n hx hb dX14_jobStatement_209 rfl (lv_at hl 0 rfl) ?_
            refine lv_bipush (v := 24) hx hb dX14_jobStatement_210 (by decide) ?_
            refine va_calli (va_runV (As := [.int 24]) (rest := []) ⟨hx, hb, hml, hown, (fun _ h9 => absurd h9 List.not_mem_nil : ∀ w ∈ ([] : List Cond), w.before _ s = true)⟩ (c_M_isWord l D cy A X hst hXT Gv o Ar Ij Fj L 24 hM) (tb_cw (C := RX14) 1 hT tw_1734 tw_109 tw_1731 tw_1733 tw_77 rfl rfl hq_X14_isWord ⟨Nat.le_of_ble_eq_true rfl, Nat.le_of_ble_eq_true rfl⟩) (mk_preC hst hG hK hA hX hS vc_15 hM.1) rfl rfl hl.1 rfl (lv_room (Nat.le_of_ble_eq_true rfl)) dX14_jobStatement_212 ⟨Nat.le_of_ble_eq_true rfl, Nat.le_of_ble_eq_true rfl⟩) hS (fun q _ h => h) (fun q h => h) (fun r15 G16 t H locs ht hvm hw hB hz1 hk1 hS => ?_)
            have hG : mm D vwCl A G16 H := by rw [← ht]; exact hB
            clear hB hz1 hk1 hvm ht
            obtain ⟨er15, hw⟩ := hw
            rw [hw] at hG
            rw [hQ.isW (w := 24) (y := 24) rfl (by decide) (by decide)] at er15
            refine lv_if_eq (tgt := 350) hx hb dX14_jobStatement_215 (by decide) (fun c_215 => ?_) (fun c_215 => ?_)
            · skip
              have hn34 : ¬ tkK ft en qj.1 = 34 := fun z => by have y := b2i_f (by rw [← er15]; exact c_215 : b2i (se (tkK ft en) qj.1 qj.2 34) = 0); unfold se at y; rw [decide_eq_true hgd, decide_eq_true z] at y; cases y
              have hn5 : ¬ (0 < on ∧ se (tkK ft en) qj.1 qj.2 5 = true) := fun z => by rw [b2i_f (by rw [← er13]; exact c_122 : b2i (se (tkK ft en) qj.1 qj.2 5) = 0)] at z; exact Bool.false_ne_true z.2
              refine lv_aload_n hx hb dX14_jobStatement_350 rfl (lv_at hl 0 rfl) ?_
              refine lv_iload_n hx hb dX14_jobStatement_351 rfl (lv_at hl 2 rfl) ?_
              refine va_callv (va_runV (As := [.int (nI v9.nJ)]) (rest := []) ⟨hx, hb, hml, hown, (fun _ h9 => absurd h9 List.not_mem_nil : ∀ w ∈ ([] : List Cond), w.before _ s = true)⟩ (c_M_opSt l D cy A X hst hXT Gv o Ar Ij Fj L ft sx fr en bo qj clj cj v9.nJ kk ta on wf hM hQ hC hc1 hgd hn34 hlim (by omega) i34 i56 i57 hi2) (tb_cw (C := RX14) 1 hT tw_1770 tw_109 tw_1767 tw_1769 tw_86 rfl rfl hq_X14_op ⟨Nat.le_of_ble_eq_true rfl, Nat.le_of_ble_eq_true rfl⟩) (mk_preC hst hG hK hA hX hS vc_15 hM.1) rfl rfl hl.1 rfl (lv_room (Nat.le_of_ble_eq_true rfl)) dX14_jobStatement_352 ⟨Nat.le_of_ble_eq_true rfl, Nat.le_of_ble_eq_true rfl⟩) hS (fun q _ h => h) (fun q h => h) (fun  G17 t H locs ht hvm hw hB hz1 hk1 hS => ?_)
              have hG : mm D vwCl A G17 H := by rw [← ht]; exact hB
              clear hB hz1 hk1 hvm ht
              obtain ⟨a18, ea18⟩ : ∃ y, y = (if isO (tkK ft en qj.1) = true then (q_op (tkK ft en) (tkS ft en) (tkV ft en) ta on kk qj wf).1 else (qj.1, tkS ft en qj.1)) := ⟨_, rfl⟩
              rw [← ea18] at hw
              obtain ⟨I19, F20, cl21, hM2, hF2, hQ2, hI2, hFr2, hC2, hg2, hs2⟩ := hw
              replace hF := hF.tr hF2; replace hM := hM2; clear hM2 hF2
              have hQ := hQ2; have hIZ := hI2.trans hIZ; have hC := hC2; clear hI2 hQ2 hC2
              refine lv_goto (tgt := 93) hx hb dX14_jobStatement_355 (by decide) ?_
              have hFr3 : FrW (wJ bo v9.nJ) F F20 := hFr.tr (hFr2.mono (fun k i z => by unfold wO at z; unfold wJ; omega))
              have g6 : F20 6 bo = nI (v9.nJ + 1) := (hFr2 6 bo (by unfold lxA; omega) (by unfold wO; omega)).trans h6
              have h33b : a18.2 < 0 → NMt (tkK ft en) (tkV ft en) (a18.1 + 1) (F20 33 (4 * bo + v9.nJ)) a33 := fun z => by rw [hFr2 33 _ (by unfold lxA; omega) (by unfold wO; omega)]; exact (h33 hgd).mono (by omega)
              obtain ⟨qo, eqo⟩ : ∃ y, y = q_op (tkK ft en) (tkS ft en) (tkV ft en) ta on kk qj wf := ⟨_, rfl⟩
              rw [← eqo] at ea18 hs2
              obtain ⟨o1, o2, o3⟩ := @q_op_o (tkK ft en) (tkS ft en) (tkV ft en) kk ta on wf qj hn34
              rw [← eqo] at o1 o2 o3
              by_cases hio : isO (tkK ft en qj.1) = true
              · rw [if_pos hio] at ea18
                have hR2 : q_ops (tkK ft en) (tkS ft en) (tkV ft en) n (kk + 1) (ta + 1) on wf (upO dj kk qo.2.2.2) a18 = RP := by rw [← hR, q_ops, if_neg hn5, if_pos ⟨hio, hgd⟩, ← eqo, o1, o2, ea18]
                have hcr2 : a18.2 < 0 → cl21 ++ clOs (tkK ft en) (tkS ft en) (tkV ft en) v9.nJ n (kk + 1) (ta + 1) on wf a18 = CR := fun z => by rw [(hs2 z).2.2.2.2.2.2, List.append_assoc, ← hcr hgd, clOs, if_neg hn5, if_pos ⟨hio, hgd⟩, ← eqo, o1, o2, ea18]
                have hOp2 : a18.2 < 0 → ∀ i, i < kk + 1 → OPf (tkK ft en) (tkV ft en) (a18.1 + 1) F20 (400 * bo + (100 * v9.nJ + i)) (upO dj kk qo.2.2.2 i) := by
                  intro z i hi
                  unfold upO
                  by_cases y1 : i = kk
                  · rw [if_pos y1, y1]; exact (hs2 z).2.2.2.2.2.1
                  · rw [if_neg y1]
                    exact (hOp hgd i (by omega)).mv (by omega) (hFr2 35 _ (by unfold lxA; omega) (by unfold wO; omega)) (hFr2 36 _ (by unfold lxA; omega) (by unfold wO; omega)) (hFr2 37 _ (by unfold lxA; omega) (by unfold wO; omega))
                have hwf3 : a18.2 < 0 → ∀ i, i < on → ∃ sx, sx < kk + 1 ∧ wf i = nI sx ∧ (upO dj kk qo.2.2.2 sx).1 = 34 := fun z i hi => by obtain ⟨sx, y2, y3, y4⟩ := hwf2 hgd i hi; exact ⟨sx, by omega, y3, by unfold upO; rw [if_neg (by omega)]; exact y4⟩
                exact ih (kk + 1) (ta + 1) (on) a18 wf (upO dj kk qo.2.2.2) I19 F20 cl21 (a18.1 + 1) x3 x4 x5 CR RP st9 a33 hR2 (Or.inl (by omega)) hlim hqs hcr2 hCR hQ hC (Nat.le_refl _) hIZ hFr3 (by omega) g6 h33b (fun z => (hs2 z).2.2.2.2.1) (fun z => (hs2 z).2.2.1) (fun z => (hs2 z).2.2.2.1) (fun z => ⟨by omega, (hs2 z).2.1, by omega⟩) (fun _ => hwf hgd) hwf3 hOp2 G17 hM hF _ _ hG hS ls (lv_sub hl [0, 1, 2, 3, 4, 5] rfl)
              rw [if_neg hio] at ea18
              have hRe : RP = (kk, dj, qj) := by rw [← hR]; exact q_ops_st hn5 (fun z => hio z.1)
              have hk5 : ¬ tkK ft en qj.1 = 5 := fun z => by have y := b2i_f (by rw [← er13]; exact c_122 : b2i (se (tkK ft en) qj.1 qj.2 5) = 0); unfold se at y; rw [decide_eq_true hgd, decide_eq_true z] at y; cases y
              have hqt : q_take (tkK ft en) (tkS ft en) 5 qj = a18 := by unfold q_take fl; rw [if_neg (fun z => hk5 (se_t z).2), if_pos hgd, ea18]
              have hnf : ¬ a18.2 < 0 := by rw [ea18]; exact hSn _
              have hqs2 : (q_job (tkK ft en) (tkS ft en) (tkV ft en) v9.nJ q (fun _ => 0)) = (q_take (tkK ft en) (tkS ft en) 5 a18, (st9, a33), (kk, dj)) := by rw [hqs, hRe]; dsimp only; rw [hqt, q_take_f hnf]
              exact ih (kk) (ta) (on) a18 wf dj I19 F20 cl21 (a18.1 + 1) x3 x4 x5 CR (kk, dj, a18) st9 a33 (q_ops_f hnf) (Or.inr hnf) hlim hqs2 (fun z => absurd z hnf) hCR hQ hC (Nat.le_refl _) hIZ hFr3 (by omega) g6 (fun z => absurd z hnf) (fun z => absurd z hnf) (fun z => absurd z hnf) (fun z => absurd z hnf) (fun z => absurd z hnf) (fun z => absurd z hnf) (fun z => absurd z hnf) (fun z => absurd z hnf) G17 hM hF _ _ hG hS ls (lv_sub hl [0, 1, 2, 3, 4, 5] rfl)
            · skip
              have hnq : qj.2 < 0 ∧ tkK ft en qj.1 = 34 := se_t (b2i_t (by rw [← er15]; exact c_215))
              have hn5 : ¬ (0 < on ∧ se (tkK ft en) qj.1 qj.2 5 = true) := fun z => by have y := (se_t z.2).2; omega
              have hio : isO (tkK ft en qj.1) = true := by rw [hnq.2]; rfl
              refine lv_aload_n hx hb dX14_jobStatement_218 rfl (lv_at hl 0 rfl) ?_
              refine lv_aload_n hx hb dX14_jobStatement_219 rfl (lv_at hl 0 rfl) ?_
              refine mm_get (v := .int (Ij 56)) hx hb hf_X14 (fun _ h9 => h9) hown hK hG hM.1 rfl 56 (by decide) (tb_use hT tw_1447) (fun _ h9 => h9) (mfs_g56 _ _) dX14_jobStatement_220 ?_
              rw [i56]
              refine lv_bipush (v := 40) hx hb dX14_jobStatement_223 (by decide) ?_
              refine lv_icmp_ge (tgt := 240) hx hb dX14_jobStatement_225 (by decide) (fun c_225 => ?_) (fun c_225 => ?_)
              · skip
                refine lv_iconst (v := 0) hx hb dX14_jobStatement_240 (by decide) ?_
                refine mm_put (v := .int 0) (ty := .boolean) hx hb hf_X14 (fun _ h9 => h9) tyX14 tyX14_ok nmX14 hown hK hG hS hM.1 rfl 55 (by decide) (tb_use hT tw_1446) (fun _ h9 => h9) rfl (by decide +kernel) rfl rfl (mfs_l55 _ _) dX14_jobStatement_241 (fun H locs hG hS => ?_)
                have hM := MD.puti (k := 55) (v := 0) hM (mfs_s55 _ _ _)
                have hF := hF.wo (e' := .inr (15, (mfs Ar Ij).set 55 (.int 0)))
                obtain ⟨I22, eI22⟩ : ∃ g, g = upd Ij 55 0 := ⟨_, rfl⟩
                rw [← eI22] at hM
                have hgn := gn_MD hG hM hF
                clear hG hM hF
                obtain ⟨G23, hG, hM, hF⟩ := hgn
                have p24 : I22 56 = nI ta := (by rw [eI22]; try exact pk_un (by decide) : I22 56 = Ij 56).trans i56
                have p25 : I22 57 = nI on := (by rw [eI22]; try exact pk_un (by decide) : I22 57 = Ij 57).trans i57
                have hIZ : IZ I22 = IZ Iv := by rw [eI22, IZ_up (by decide)]; exact hIZ
                have hC : CLq I22 Fj ft en clj cj := by rw [eI22]; exact hC.wI (by decide)
                have hQ : LXq Ar I22 Fj ft sx fr en bo (qj.1, tkS ft en qj.1) := by rw [eI22]; exact hQ.set55 (by rw [if_neg (hSn _)])
                refine lv_aload_n hx hb dX14_jobStatement_244 rfl (lv_at hl 0 rfl) ?_
                refine mm_get (v := .int 0) hx hb hf_X14 (fun _ h9 => h9) hown hK hG hM.1 rfl 55 (by decide) (tb_use hT tw_1446) (fun _ h9 => h9) (by rw [mfs_g55, eI22] <;> rfl) dX14_jobStatement_245 ?_
                refine lv_if_eq (tgt := 93) hx hb dX14_jobStatement_248 (by decide) (fun c_248 => ?_) (fun c_248 => ?_)
                · skip
                  have hno : ¬ nI ta < 40 ∨ ¬ on < 3 := Or.inl (Int32.not_lt.mpr c_225)
                  have hqw := q_opwF (V := tkV ft en) (kk := kk) (wf := wf) hSn hnq.2 hgd hno
                  obtain ⟨qo, eqo⟩ : ∃ y, y = q_op (tkK ft en) (tkS ft en) (tkV ft en) ta on kk qj wf := ⟨_, rfl⟩
                  rw [← eqo] at hqw
                  have hR2 : q_ops (tkK ft en) (tkS ft en) (tkV ft en) n (kk + 1) (ta + 1) qo.2.1 qo.2.2.1 (upO dj kk qo.2.2.2) (qj.1, tkS ft en qj.1) = RP := by rw [← hR, q_ops, if_neg hn5, if_pos ⟨hio, hgd⟩, ← eqo, hqw]
                  exact ih (kk + 1) (ta + 1) (qo.2.1) (qj.1, tkS ft en qj.1) qo.2.2.1 (upO dj kk qo.2.2.2) I22 Fj clj (cj) x3 x4 x5 CR RP st9 a33 hR2 (Or.inl (by omega)) hlim hqs (fun z => absurd z (hSn _)) hCR hQ hC hc1 hIZ hFr (by omega) h6 (fun z => absurd z (hSn _)) (fun z => absurd z (hSn _)) (fun z => absurd z (hSn _)) (fun z => absurd z (hSn _)) (fun z => absurd z (hSn _)) (fun z => absurd z (hSn _)) (fun z => absurd z (hSn _)) (fun z => absurd z (hSn _)) G23 hM hF _ _ hG hS ls (lv_sub hl [0, 1, 2, 3, 4, 5] rfl)
                · skip
                  exact absurd (by decide) c_248
              · skip
                refine lv_aload_n hx hb dX14_jobStatement_228 rfl (lv_at hl 0 rfl) ?_
                refine mm_get (v := .int (Ij 57)) hx hb hf_X14 (fun _ h9 => h9) hown hK hG hM.1 rfl 57 (by decide) (tb_use hT tw_1448) (fun _ h9 => h9) (mfs_g57 _ _) dX14_jobStatement_229 ?_
                rw [i57]
                refine lv_iconst (v := 3) hx hb dX14_jobStatement_232 (by decide) ?_
                refine lv_icmp_ge (tgt := 240) hx hb dX14_jobStatement_233 (by decide) (fun c_233 => ?_) (fun c_233 => ?_)
                · skip
                  refine lv_iconst (v := 0) hx hb dX14_jobStatement_240 (by decide) ?_
                  refine mm_put (v := .int 0) (ty := .boolean) hx hb hf_X14 (fun _ h9 => h9) tyX14 tyX14_ok nmX14 hown hK hG hS hM.1 rfl 55 (by decide) (tb_use hT tw_1446) (fun _ h9 => h9) rfl (by decide +kernel) rfl rfl (mfs_l55 _ _) dX14_jobStatement_241 (fun H locs hG hS => ?_)
                  have hM := MD.puti (k := 55) (v := 0) hM (mfs_s55 _ _ _)
                  have hF := hF.wo (e' := .inr (15, (mfs Ar Ij).set 55 (.int 0)))
                  obtain ⟨I26, eI26⟩ : ∃ g, g = upd Ij 55 0 := ⟨_, rfl⟩
                  rw [← eI26] at hM
                  have hgn := gn_MD hG hM hF
                  clear hG hM hF
                  obtain ⟨G27, hG, hM, hF⟩ := hgn
                  have p28 : I26 56 = nI ta := (by rw [eI26]; try exact pk_un (by decide) : I26 56 = Ij 56).trans i56
                  have p29 : I26 57 = nI on := (by rw [eI26]; try exact pk_un (by decide) : I26 57 = Ij 57).trans i57
                  have hIZ : IZ I26 = IZ Iv := by rw [eI26, IZ_up (by decide)]; exact hIZ
                  have hC : CLq I26 Fj ft en clj cj := by rw [eI26]; exact hC.wI (by decide)
                  have hQ : LXq Ar I26 Fj ft sx fr en bo (qj.1, tkS ft en qj.1) := by rw [eI26]; exact hQ.set55 (by rw [if_neg (hSn _)])
                  refine lv_aload_n hx hb dX14_jobStatement_244 rfl (lv_at hl 0 rfl) ?_
                  refine mm_get (v := .int 0) hx hb hf_X14 (fun _ h9 => h9) hown hK hG hM.1 rfl 55 (by decide) (tb_use hT tw_1446) (fun _ h9 => h9) (by rw [mfs_g55, eI26] <;> rfl) dX14_jobStatement_245 ?_
                  refine lv_if_eq (tgt := 93) hx hb dX14_jobStatement_248 (by decide) (fun c_248 => ?_) (fun c_248 => ?_)
                  · skip
                    have hno : ¬ nI ta < 40 ∨ ¬ on < 3 := Or.inr (fun z => nI_ge (b := 3) z (by decide) c_233)
                    have hqw := q_opwF (V := tkV ft en) (kk := kk) (wf := wf) hSn hnq.2 hgd hno
                    obtain ⟨qo, eqo⟩ : ∃ y, y = q_op (tkK ft en) (tkS ft en) (tkV ft en) ta on kk qj wf := ⟨_, rfl⟩
                    rw [← eqo] at hqw
                    have hR2 : q_ops (tkK ft en) (tkS ft en) (tkV ft en) n (kk + 1) (ta + 1) qo.2.1 qo.2.2.1 (upO dj kk qo.2.2.2) (qj.1, tkS ft en qj.1) = RP := by rw [← hR, q_ops, if_neg hn5, if_pos ⟨hio, hgd⟩, ← eqo, hqw]
                    exact ih (kk + 1) (ta + 1) (qo.2.1) (qj.1, tkS ft en qj.1) qo.2.2.1 (upO dj kk qo.2.2.2) I26 Fj clj (cj) x3 x4 x5 CR RP st9 a33 hR2 (Or.inl (by omega)) hlim hqs (fun z => absurd z (hSn _)) hCR hQ hC hc1 hIZ hFr (by omega) h6 (fun z => absurd z (hSn _)) (fun z => absurd z (hSn _)) (fun z => absurd z (hSn _)) (fun z => absurd z (hSn _)) (fun z => absurd z (hSn _)) (fun z => absurd z (hSn _)) (fun z => absurd z (hSn _)) (fun z => absurd z (hSn _)) G27 hM hF _ _ hG hS ls (lv_sub hl [0, 1, 2, 3, 4, 5] rfl)
                  · skip
                    exact absurd (by decide) c_248
                · skip
                  refine lv_iconst (v := 1) hx hb dX14_jobStatement_236 (by decide) ?_
                  refine lv_goto (tgt := 241) hx hb dX14_jobStatement_237 (by decide) ?_
                  refine mm_put (v := .int 1) (ty := .boolean) hx hb hf_X14 (fun _ h9 => h9) tyX14 tyX14_ok nmX14 hown hK hG hS hM.1 rfl 55 (by decide) (tb_use hT tw_1446) (fun _ h9 => h9) rfl (by decide +kernel) rfl rfl (mfs_l55 _ _) dX14_jobStatement_241 (fun H locs hG hS => ?_)
                  have hM := MD.puti (k := 55) (v := 1) hM (mfs_s55 _ _ _)
                  have hF := hF.wo (e' := .inr (15, (mfs Ar Ij).set 55 (.int 1)))
                  obtain ⟨I30, eI30⟩ : ∃ g, g = upd Ij 55 1 := ⟨_, rfl⟩
                  rw [← eI30] at hM
                  have hgn := gn_MD hG hM hF
                  clear hG hM hF
                  obtain ⟨G31, hG, hM, hF⟩ := hgn
                  have p32 : I30 56 = nI ta := (by rw [eI30]; try exact pk_un (by decide) : I30 56 = Ij 56).trans i56
                  have p33 : I30 57 = nI on := (by rw [eI30]; try exact pk_un (by decide) : I30 57 = Ij 57).trans i57
                  have hIZ : IZ I30 = IZ Iv := by rw [eI30, IZ_up (by decide)]; exact hIZ
                  have hC : CLq I30 Fj ft en clj cj := by rw [eI30]; exact hC.wI (by decide)
                  have hQ : LXq Ar I30 Fj ft sx fr en bo qj := by rw [eI30]; exact hQ.set55 (by rw [if_pos hgd])
                  refine lv_aload_n hx hb dX14_jobStatement_244 rfl (lv_at hl 0 rfl) ?_
                  refine mm_get (v := .int 1) hx hb hf_X14 (fun _ h9 => h9) hown hK hG hM.1 rfl 55 (by decide) (tb_use hT tw_1446) (fun _ h9 => h9) (by rw [mfs_g55, eI30] <;> rfl) dX14_jobStatement_245 ?_
                  refine lv_if_eq (tgt := 93) hx hb dX14_jobStatement_248 (by decide) (fun c_248 => ?_) (fun c_248 => ?_)
                  · skip
                    exact absurd c_248 (by decide)
                  · skip
                    have hon3 : on < 3 := nI_lt_of (b := 3) (by omega) (by decide) c_233
                    have hta4 : ta < 40 := nI_lt_of (b := 40) (by omega) (by decide) c_225
                    refine lv_aload_n hx hb dX14_jobStatement_251 rfl (lv_at hl 0 rfl) ?_
                    refine lv_dup hx hb dX14_jobStatement_252 rfl ?_
                    refine mm_get (v := .int (I30 57)) hx hb hf_X14 (fun _ h9 => h9) hown hK hG hM.1 rfl 57 (by decide) (tb_use hT tw_1448) (fun _ h9 => h9) (by rw [mfs_g57, eI30] <;> rfl) dX14_jobStatement_253 ?_
                    rw [p33]
                    refine lv_iconst (v := 1) hx hb dX14_jobStatement_256 (by decide) ?_
                    refine lv_iadd hx hb dX14_jobStatement_257 ?_
                    rw [show nI on + 1 = nI (on + 1) from nI_1 _]
                    refine lv_topi (fun x34 ex34 => ?_)
                    refine mm_put (v := .int x34) (ty := .int) hx hb hf_X14 (fun _ h9 => h9) tyX14 tyX14_ok nmX14 hown hK hG hS hM.1 rfl 57 (by decide) (tb_use hT tw_1448) (fun _ h9 => h9) rfl (by decide +kernel) rfl rfl (mfs_l57 _ _) dX14_jobStatement_258 (fun H locs hG hS => ?_)
                    have hM := MD.puti (k := 57) (v := x34) hM (mfs_s57 _ _ _)
                    have hF := hF.wo (e' := .inr (15, (mfs Ar I30).set 57 (.int x34)))
                    obtain ⟨I35, eI35⟩ : ∃ g, g = upd I30 57 x34 := ⟨_, rfl⟩
                    rw [← eI35] at hM
                    have hgn := gn_MD hG hM hF
                    clear hG hM hF
                    obtain ⟨G36, hG, hM, hF⟩ := hgn
                    have p37 : I35 56 = nI ta := by rw [eI35]; exact (pk_un (by decide)).trans p32
                    have p38 : I35 57 = nI (on + 1) := by rw [eI35, pk_us, ex34]
                    have hIZ : IZ I35 = IZ Iv := by rw [eI35, IZ_up (by decide)]; exact hIZ
                    have hQ : LXq Ar I35 Fj ft sx fr en bo qj := by rw [eI35]; exact hQ.wI (by decide)
                    have hC : CLq I35 Fj ft en clj cj := by rw [eI35]; exact hC.wI (by decide)
                    refine lv_aload_n hx hb dX14_jobStatement_261 rfl (lv_at hl 0 rfl) ?_
                    refine mm_get (v := .int (I35 57)) hx hb hf_X14 (fun _ h9 => h9) hown hK hG hM.1 rfl 57 (by decide) (tb_use hT tw_1448) (fun _ h9 => h9) (by rw [mfs_g57, eI35, eI30] <;> rfl) dX14_jobStatement_262 ?_
                    rw [p38]
                    refine lv_iconst (v := 1) hx hb dX14_jobStatement_265 (by decide) ?_
                    refine lv_icmp_ne (tgt := 283) hx hb dX14_jobStatement_266 (by decide) (fun c_266 => ?_) (fun c_266 => ?_)
                    · skip
                      refine lv_aload_n hx hb dX14_jobStatement_283 rfl (lv_at hl 0 rfl) ?_
                      refine mm_get (v := .int (I35 57)) hx hb hf_X14 (fun _ h9 => h9) hown hK hG hM.1 rfl 57 (by decide) (tb_use hT tw_1448) (fun _ h9 => h9) (by rw [mfs_g57, eI35, eI30] <;> rfl) dX14_jobStatement_284 ?_
                      rw [p38]
                      refine lv_iconst (v := 2) hx hb dX14_jobStatement_287 (by decide) ?_
                      refine lv_icmp_ne (tgt := 306) hx hb dX14_jobStatement_288 (by decide) (fun c_288 => ?_) (fun c_288 => ?_)
                      · skip
                        refine lv_aload_n hx hb dX14_jobStatement_306 rfl (lv_at hl 0 rfl) ?_
                        refine mm_get (v := .ref (Ar 34)) hx hb hf_X14 (fun _ h9 => h9) hown hK hG hM.1 rfl 34 (by decide) (tb_use hT tw_1425) (fun _ h9 => h9) (mfs_g34 _ _) dX14_jobStatement_307 ?_
                        refine lv_iconst (v := 4) hx hb dX14_jobStatement_310 (by decide) ?_
                        refine lv_iload_n hx hb dX14_jobStatement_311 rfl (lv_at hl 1 rfl) ?_
                        refine lv_imul hx hb dX14_jobStatement_312 ?_
                        refine lv_iload_n hx hb dX14_jobStatement_313 rfl (lv_at hl 2 rfl) ?_
                        refine lv_iadd hx hb dX14_jobStatement_314 ?_
                        refine mm_iald (n := 8) (f := Fj 34) hx hb hK hG 1 (hM.2.1 34 rfl) rfl (by rw [show (((4 * (nI bo)) + (nI v9.nJ)) : Int32) = nI (4 * bo + v9.nJ) by show (((nI 4 * (nI bo)) + (nI v9.nJ)) : Int32) = _; simp only [nI_mu, nI_add]]; exact nI_in (N := 8) (by omega) (by decide)) dX14_jobStatement_315 ?_
                        refine lv_topi (fun x39 ex39 => ?_)
                        rw [show x39 = nI kk by rw [ex39, show (((4 * (nI bo)) + (nI v9.nJ)) : Int32) = nI (4 * bo + v9.nJ) by show (((nI 4 * (nI bo)) + (nI v9.nJ)) : Int32) = _; simp only [nI_mu, nI_add], nI_clamp (by omega)]; exact i34]
                        refine lv_istore (lv' := [(5, .int (nI kk)), (0, .ref o), (1, .int (nI bo)), (2, .int (nI v9.nJ)), (3, .int x3), (4, .int x4)]) hx hb dX14_jobStatement_316 hl (by decide) rfl (fun ls hl => ?_)
                        have hon9 : on = 2 := by have z1 : on ≠ 0 := fun z => c_266 (by rw [z]; rfl); have z2 : on ≠ 1 := fun z => c_288 (by rw [z]; rfl); omega
                        have hFr9 : FrW (wQ bo v9.nJ kk kk) Fj Fj := FrW.rf
                        refine lv_aload_n hx hb dX14_jobStatement_318 rfl (lv_at hl 1 rfl) ?_
                        refine lv_dup hx hb dX14_jobStatement_319 rfl ?_
                        refine mm_get (v := .int (I35 56)) hx hb hf_X14 (fun _ h9 => h9) hown hK hG hM.1 rfl 56 (by decide) (tb_use hT tw_1447) (fun _ h9 => h9) (by rw [mfs_g56, eI35, eI30] <;> rfl) dX14_jobStatement_320 ?_
                        rw [p37]
                        refine lv_iconst (v := 1) hx hb dX14_jobStatement_323 (by decide) ?_
                        refine lv_iadd hx hb dX14_jobStatement_324 ?_
                        rw [show nI ta + 1 = nI (ta + 1) from nI_1 _]
                        refine lv_topi (fun x40 ex40 => ?_)
                        refine mm_put (v := .int x40) (ty := .int) hx hb hf_X14 (fun _ h9 => h9) tyX14 tyX14_ok nmX14 hown hK hG hS hM.1 rfl 56 (by decide) (tb_use hT tw_1447) (fun _ h9 => h9) rfl (by decide +kernel) rfl rfl (mfs_l56 _ _) dX14_jobStatement_325 (fun H locs hG hS => ?_)
                        have hM := MD.puti (k := 56) (v := x40) hM (mfs_s56 _ _ _)
                        have hF := hF.wo (e' := .inr (15, (mfs Ar I35).set 56 (.int x40)))
                        obtain ⟨I41, eI41⟩ : ∃ g, g = upd I35 56 x40 := ⟨_, rfl⟩
                        rw [← eI41] at hM
                        have hgn := gn_MD hG hM hF
                        clear hG hM hF
                        obtain ⟨G42, hG, hM, hF⟩ := hgn
                        have p43 : I41 57 = nI (on + 1) := by rw [eI41]; exact (pk_un (by decide)).trans p38
                        have p44 : I41 56 = nI (ta + 1) := by rw [eI41, pk_us, ex40]
                        have hIZ : IZ I41 = IZ Iv := by rw [eI41, IZ_up (by decide)]; exact hIZ
                        have hQ : LXq Ar I41 Fj ft sx fr en bo qj := by rw [eI41]; exact hQ.wI (by decide)
                        have hC : CLq I41 Fj ft en clj cj := by rw [eI41]; exact hC.wI (by decide)
                        refine lv_aload_n hx hb dX14_jobStatement_328 rfl (lv_at hl 1 rfl) ?_
                        refine lv_iload_n hx hb dX14_jobStatement_329 rfl (lv_at hl 3 rfl) ?_
                        refine lv_bipush (v := 24) hx hb dX14_jobStatement_330 (by decide) ?_
                        refine lv_iconst (v := 0) hx hb dX14_jobStatement_332 (by decide) ?_
                        refine lv_iconst (v := 0) hx hb dX14_jobStatement_333 (by decide) ?_
                        refine va_callv (va_runV (As := [.int (nI v9.nJ), .int 24, .int 0, .int 0]) (rest := []) ⟨hx, hb, hml, hown, (fun _ h9 => absurd h9 List.not_mem_nil : ∀ w ∈ ([] : List Cond), w.before _ s = true)⟩ (c_M_addOp l D cy A X hst hXT G42 o Ar I41 Fj L ft sx fr en bo qj clj cj v9.nJ kk 24 0 0 hM hQ hC hlim (by omega) i34) (tb_cw (C := RX14) 4 hT tw_1766 tw_109 tw_1763 tw_1765 tw_85 rfl rfl hq_X14_addOp ⟨Nat.le_of_ble_eq_true rfl, Nat.le_of_ble_eq_true rfl⟩) (mk_preC hst hG hK hA hX hS vc_15 hM.1) rfl rfl hl.1 rfl (lv_room (Nat.le_of_ble_eq_true rfl)) dX14_jobStatement_334 ⟨Nat.le_of_ble_eq_true rfl, Nat.le_of_ble_eq_true rfl⟩) hS (fun q _ h => h) (fun q h => h) (fun  G45 t H locs ht hvm hw hB hz1 hk1 hS => ?_)
                        have hG : mm D vwCl A G45 H := by rw [← ht]; exact hB
                        clear hB hz1 hk1 hvm ht
                        obtain ⟨F46, hM2, hF2, hQ2, hC2, hFr2, g34, g35, g36, g37⟩ := hw
                        replace hF := hF.tr hF2; replace hM := hM2; clear hM2 hF2
                        have hQ := hQ2; have hC := hC2; clear hQ2 hC2
                        have hFr : FrW (wJ bo v9.nJ) F F46 := hFr.tr (hFr2.mono (fun k i z => by unfold wO at z; unfold wJ; omega))
                        have hFr9 : FrW (wQ bo v9.nJ kk kk) Fj F46 := hFr9.tr (hFr2.mono (fun k i z => by unfold wO at z; unfold wQ; omega))
                        have p47 : F46 6 (bo) = nI (v9.nJ + 1) := (hFr2 6 (bo) (by unfold lxA; omega) (by unfold wO; omega)).trans h6
                        have p48 : F46 33 (4 * bo + v9.nJ) = Fj 33 (4 * bo + v9.nJ) := (hFr2 33 (4 * bo + v9.nJ) (by unfold lxA; omega) (by unfold wO; omega)).trans rfl
                        refine lv_aload_n hx hb dX14_jobStatement_337 rfl (lv_at hl 1 rfl) ?_
                        refine va_callv (va_runV (As := []) (rest := []) ⟨hx, hb, hml, hown, (fun _ h9 => absurd h9 List.not_mem_nil : ∀ w ∈ ([] : List Cond), w.before _ s = true)⟩ (c_M_nextq l D cy A X hst hXT G45 o Ar I41 F46 L ft sx fr en bo qj hM hQ hnq.1 (by have z := hnq.2; omega) (by have z := hnq.2; omega)) (tb_cw (C := RX14) 0 hT tw_1640 tw_109 tw_1637 tw_1639 tw_62 rfl rfl hq_X14_next ⟨Nat.le_of_ble_eq_true rfl, Nat.le_of_ble_eq_true rfl⟩) (mk_preC hst hG hK hA hX hS vc_15 hM.1) rfl rfl hl.1 rfl (lv_room (Nat.le_of_ble_eq_true rfl)) dX14_jobStatement_338 ⟨Nat.le_of_ble_eq_true rfl, Nat.le_of_ble_eq_true rfl⟩) hS (fun q _ h => h) (fun q h => h) (fun  G49 t H locs ht hvm hw hB hz1 hk1 hS => ?_)
                        have hG : mm D vwCl A G49 H := by rw [← ht]; exact hB
                        clear hB hz1 hk1 hvm ht
                        obtain ⟨a50, ea50⟩ : ∃ y, y = (qj.1 + 1, qj.2) := ⟨_, rfl⟩
                        rw [← ea50] at hw
                        obtain ⟨I51, F52, hM2, hF2, hQ2, hI2, hX2⟩ := hw
                        replace hF := hF.tr hF2; replace hM := hM2; clear hM2 hF2
                        have hQ := hQ2; have hIZ := (IZ_x hI2).trans hIZ; have hFr := hFr.fx hX2; have hC := hC.fx hI2 hX2
                        have hFr9 := hFr9.fx hX2
                        have p53 : F52 6 (bo) = nI (v9.nJ + 1) := (congrFun (FXe hX2 (by decide)) _).trans p47
                        have p54 : F52 33 (4 * bo + v9.nJ) = Fj 33 (4 * bo + v9.nJ) := (congrFun (FXe hX2 (by decide)) _).trans p48
                        have p55 : F52 34 (4 * bo + v9.nJ) = nI (kk + 1) := (congrFun (FXe hX2 (by decide)) _).trans g34
                        have p56 : F52 35 (400 * bo + (100 * v9.nJ + kk)) = 24 := (congrFun (FXe hX2 (by decide)) _).trans g35
                        have p57 : F52 36 (400 * bo + (100 * v9.nJ + kk)) = 0 := (congrFun (FXe hX2 (by decide)) _).trans g36
                        have p58 : F52 37 (400 * bo + (100 * v9.nJ + kk)) = 0 := (congrFun (FXe hX2 (by decide)) _).trans g37
                        have p59 : I51 57 = nI (on + 1) := (IXe hI2 (by decide)).trans p43
                        have p60 : I51 56 = nI (ta + 1) := (IXe hI2 (by decide)).trans p44
                        clear hI2 hX2 hQ2
                        have ga50 : qj.1 ≤ a50.1 := by rw [ea50]; exact ge_next
                        have da50 : a50.2 < 0 → _ := fun z => ad_next hSn (by rw [← ea50]; exact z)
                        rw [← ea50] at da50
                        have hc1 : cj ≤ a50.1 + 1 := by omega
                        have hc2 : a50.2 < 0 → cj ≤ a50.1 := fun z => by have := da50 z; omega
                        refine lv_aload_n hx hb dX14_jobStatement_341 rfl (lv_at hl 1 rfl) ?_
                        refine lv_bipush (v := 123) hx hb dX14_jobStatement_342 (by decide) ?_
                        refine va_callv (va_runV (As := [.int 123]) (rest := []) ⟨hx, hb, hml, hown, (fun _ h9 => absurd h9 List.not_mem_nil : ∀ w ∈ ([] : List Cond), w.before _ s = true)⟩ (c_M_mark l D cy A X hst hXT G49 o Ar I51 F52 L ft sx fr en bo a50 4 hM hQ (by decide) (by decide)) (tb_cw (C := RX14) 1 hT tw_1717 tw_109 tw_1714 tw_1716 tw_73 rfl rfl hq_X14_mark ⟨Nat.le_of_ble_eq_true rfl, Nat.le_of_ble_eq_true rfl⟩) (mk_preC hst hG hK hA hX hS vc_15 hM.1) rfl rfl hl.1 rfl (lv_room (Nat.le_of_ble_eq_true rfl)) dX14_jobStatement_344 ⟨Nat.le_of_ble_eq_true rfl, Nat.le_of_ble_eq_true rfl⟩) hS (fun q _ h => h) (fun q h => h) (fun  G61 t H locs ht hvm hw hB hz1 hk1 hS => ?_)
                        have hG : mm D vwCl A G61 H := by rw [← ht]; exact hB
                        clear hB hz1 hk1 hvm ht
                        obtain ⟨a62, ea62⟩ : ∃ y, y = q_take (tkK ft en) (tkS ft en) 4 a50 := ⟨_, rfl⟩
                        rw [← ea62] at hw
                        obtain ⟨I63, F64, hM2, hF2, hQ2, hI2, hX2⟩ := hw
                        replace hF := hF.tr hF2; replace hM := hM2; clear hM2 hF2
                        have hQ := hQ2; have hIZ := (IZ_x hI2).trans hIZ; have hFr := hFr.fx hX2; have hC := hC.fx hI2 hX2
                        have hFr9 := hFr9.fx hX2
                        have p65 : F64 6 (bo) = nI (v9.nJ + 1) := (congrFun (FXe hX2 (by decide)) _).trans p53
                        have p66 : F64 33 (4 * bo + v9.nJ) = Fj 33 (4 * bo + v9.nJ) := (congrFun (FXe hX2 (by decide)) _).trans p54
                        have p67 : F64 34 (4 * bo + v9.nJ) = nI (kk + 1) := (congrFun (FXe hX2 (by decide)) _).trans p55
                        have p68 : F64 35 (400 * bo + (100 * v9.nJ + kk)) = 24 := (congrFun (FXe hX2 (by decide)) _).trans p56
                        have p69 : F64 36 (400 * bo + (100 * v9.nJ + kk)) = 0 := (congrFun (FXe hX2 (by decide)) _).trans p57
                        have p70 : F64 37 (400 * bo + (100 * v9.nJ + kk)) = 0 := (congrFun (FXe hX2 (by decide)) _).trans p58
                        have p71 : I63 57 = nI (on + 1) := (IXe hI2 (by decide)).trans p59
                        have p72 : I63 56 = nI (ta + 1) := (IXe hI2 (by decide)).trans p60
                        clear hI2 hX2 hQ2
                        have ga62 : a50.1 ≤ a62.1 := by rw [ea62]; exact ge_take
                        have da62 : a62.2 < 0 → _ := fun z => ad_take hSn (by rw [← ea62]; exact z)
                        rw [← ea62] at da62
                        have hc1 : cj ≤ a62.1 + 1 := by omega
                        have hc2 : a62.2 < 0 → cj ≤ a62.1 := fun z => by have := da62 z; omega
                        refine lv_goto (tgt := 93) hx hb dX14_jobStatement_347 (by decide) ?_
                        have hqw := q_op_w (S := tkS ft en) (V := tkV ft en) (kk := kk) (wf := wf) hnq.2 hgd (Int32.not_le.mp c_225) hon3
                        rw [← ea50, ← ea62] at hqw
                        have hR2 : q_ops (tkK ft en) (tkS ft en) (tkV ft en) n (kk + 1) (ta + 1) (on + 1) (upd wf on (nI kk)) (upO dj kk (34, 0, 0, 0, 0, 0, 0)) a62 = RP := by rw [← hR, q_ops, if_neg hn5, if_pos ⟨hio, hgd⟩, hqw]
                        have hcr2 : a62.2 < 0 → clj ++ clOs (tkK ft en) (tkS ft en) (tkV ft en) v9.nJ n (kk + 1) (ta + 1) (on + 1) (upd wf on (nI kk)) a62 = CR := fun z => by rw [← hcr hgd, clOs, if_neg hn5, if_pos ⟨hio, hgd⟩, hqw]; unfold clO; rw [if_neg (by omega)]; rfl
                        have hOp2 : a62.2 < 0 → ∀ i, i < kk + 1 → OPf (tkK ft en) (tkV ft en) (a62.1 + 1) F64 (400 * bo + (100 * v9.nJ + i)) (upO dj kk (34, 0, 0, 0, 0, 0, 0) i) := by
                          intro z i hi
                          unfold upO
                          by_cases y1 : i = kk
                          · rw [if_pos y1, y1]
                            exact ⟨p68, (fun z => absurd z (by decide)), (fun z => absurd z (by decide)), (fun _ => p69)⟩
                          · rw [if_neg y1]
                            exact (hOp hgd i (by omega)).mv (by omega) (hFr9 35 _ (by unfold lxA; omega) (by unfold wQ; omega)) (hFr9 36 _ (by unfold lxA; omega) (by unfold wQ; omega)) (hFr9 37 _ (by unfold lxA; omega) (by unfold wQ; omega))
                        have hwf3 : a62.2 < 0 → ∀ i, i < on + 1 → ∃ sx, sx < kk + 1 ∧ upd wf on (nI kk) i = nI sx ∧ (upO dj kk (34, 0, 0, 0, 0, 0, 0) sx).1 = 34 := by
                          intro z i hi
                          by_cases y1 : i = on
                          · exact ⟨kk, Nat.lt_succ_self kk, by rw [y1, pk_us], by unfold upO; rw [if_pos rfl]⟩
                          · obtain ⟨sx, y2, y3, y4⟩ := hwf2 hgd i (by omega)
                            exact ⟨sx, by omega, by rw [pk_un y1]; exact y3, by unfold upO; rw [if_neg (by omega)]; exact y4⟩
                        exact ih (kk + 1) (ta + 1) (on + 1) a62 (upd wf on (nI kk)) (upO dj kk (34, 0, 0, 0, 0, 0, 0)) I63 F64 clj (cj) x3 x4 (nI kk) CR RP st9 a33 hR2 (Or.inl (by omega)) hlim hqs hcr2 hCR hQ hC hc1 hIZ hFr (by omega) p65 (fun z => by rw [p66]; exact (h33 hgd).mono (by omega)) (fun _ => p67) (fun _ => p72) (fun _ => p71) (fun _ => ⟨by omega, by omega, by omega⟩) (fun _ => ⟨fun z => by rw [pk_un (by omega)]; exact (hwf hgd).1 (by omega), fun z => by rw [pk_un (by omega)]; exact (hwf hgd).2.1 (by omega), fun _ => by rw [hon9, pk_us]⟩) hwf3 hOp2 G61 hM hF _ _ hG hS ls (lv_sub hl [1, 2, 3, 4, 5, 0] rfl)
                      · skip
                        refine lv_aload_n hx hb dX14_jobStatement_291 rfl (lv_at hl 0 rfl) ?_
                        refine mm_get (v := .ref (Ar 34)) hx hb hf_X14 (fun _ h9 => h9) hown hK hG hM.1 rfl 34 (by decide) (tb_use hT tw_1425) (fun _ h9 => h9) (mfs_g34 _ _) dX14_jobStatement_292 ?_
                        refine lv_iconst (v := 4) hx hb dX14_jobStatement_295 (by decide) ?_
                        refine lv_iload_n hx hb dX14_jobStatement_296 rfl (lv_at hl 1 rfl) ?_
                        refine lv_imul hx hb dX14_jobStatement_297 ?_
                        refine lv_iload_n hx hb dX14_jobStatement_298 rfl (lv_at hl 2 rfl) ?_
                        refine lv_iadd hx hb dX14_jobStatement_299 ?_
                        refine mm_iald (n := 8) (f := Fj 34) hx hb hK hG 1 (hM.2.1 34 rfl) rfl (by rw [show (((4 * (nI bo)) + (nI v9.nJ)) : Int32) = nI (4 * bo + v9.nJ) by show (((nI 4 * (nI bo)) + (nI v9.nJ)) : Int32) = _; simp only [nI_mu, nI_add]]; exact nI_in (N := 8) (by omega) (by decide)) dX14_jobStatement_300 ?_
                        refine lv_topi (fun x73 ex73 => ?_)
                        rw [show x73 = nI kk by rw [ex73, show (((4 * (nI bo)) + (nI v9.nJ)) : Int32) = nI (4 * bo + v9.nJ) by show (((nI 4 * (nI bo)) + (nI v9.nJ)) : Int32) = _; simp only [nI_mu, nI_add], nI_clamp (by omega)]; exact i34]
                        refine lv_istore (lv' := [(4, .int (nI kk)), (0, .ref o), (1, .int (nI bo)), (2, .int (nI v9.nJ)), (3, .int x3), (5, .int x5)]) hx hb dX14_jobStatement_301 hl (by decide) rfl (fun ls hl => ?_)
                        refine lv_goto (tgt := 318) hx hb dX14_jobStatement_303 (by decide) ?_
                        have hon9 : on = 1 := by have z := nI_inj (a := on + 1) (b := 2) (by omega) (by decide) c_288; omega
                        have hFr9 : FrW (wQ bo v9.nJ kk kk) Fj Fj := FrW.rf
                        refine lv_aload_n hx hb dX14_jobStatement_318 rfl (lv_at hl 1 rfl) ?_
                        refine lv_dup hx hb dX14_jobStatement_319 rfl ?_
                        refine mm_get (v := .int (I35 56)) hx hb hf_X14 (fun _ h9 => h9) hown hK hG hM.1 rfl 56 (by decide) (tb_use hT tw_1447) (fun _ h9 => h9) (by rw [mfs_g56, eI35, eI30] <;> rfl) dX14_jobStatement_320 ?_
                        rw [p37]
                        refine lv_iconst (v := 1) hx hb dX14_jobStatement_323 (by decide) ?_
                        refine lv_iadd hx hb dX14_jobStatement_324 ?_
                        rw [show nI ta + 1 = nI (ta + 1) from nI_1 _]
                        refine lv_topi (fun x74 ex74 => ?_)
                        refine mm_put (v := .int x74) (ty := .int) hx hb hf_X14 (fun _ h9 => h9) tyX14 tyX14_ok nmX14 hown hK hG hS hM.1 rfl 56 (by decide) (tb_use hT tw_1447) (fun _ h9 => h9) rfl (by decide +kernel) rfl rfl (mfs_l56 _ _) dX14_jobStatement_325 (fun H locs hG hS => ?_)
                        have hM := MD.puti (k := 56) (v := x74) hM (mfs_s56 _ _ _)
                        have hF := hF.wo (e' := .inr (15, (mfs Ar I35).set 56 (.int x74)))
                        obtain ⟨I75, eI75⟩ : ∃ g, g = upd I35 56 x74 := ⟨_, rfl⟩
                        rw [← eI75] at hM
                        have hgn := gn_MD hG hM hF
                        clear hG hM hF
                        obtain ⟨G76, hG, hM, hF⟩ := hgn
                        have p77 : I75 57 = nI (on + 1) := by rw [eI75]; exact (pk_un (by decide)).trans p38
                        have p78 : I75 56 = nI (ta + 1) := by rw [eI75, pk_us, ex74]
                        have hIZ : IZ I75 = IZ Iv := by rw [eI75, IZ_up (by decide)]; exact hIZ
                        have hQ : LXq Ar I75 Fj ft sx fr en bo qj := by rw [eI75]; exact hQ.wI (by decide)
                        have hC : CLq I75 Fj ft en clj cj := by rw [eI75]; exact hC.wI (by decide)
                        refine lv_aload_n hx hb dX14_jobStatement_328 rfl (lv_at hl 1 rfl) ?_
                        refine lv_iload_n hx hb dX14_jobStatement_329 rfl (lv_at hl 3 rfl) ?_
                        refine lv_bipush (v := 24) hx hb dX14_jobStatement_330 (by decide) ?_
                        refine lv_iconst (v := 0) hx hb dX14_jobStatement_332 (by decide) ?_
                        refine lv_iconst (v := 0) hx hb dX14_jobStatement_333 (by decide) ?_
                        refine va_callv (va_runV (As := [.int (nI v9.nJ), .int 24, .int 0, .int 0]) (rest := []) ⟨hx, hb, hml, hown, (fun _ h9 => absurd h9 List.not_mem_nil : ∀ w ∈ ([] : List Cond), w.before _ s = true)⟩ (c_M_addOp l D cy A X hst hXT G76 o Ar I75 Fj L ft sx fr en bo qj clj cj v9.nJ kk 24 0 0 hM hQ hC hlim (by omega) i34) (tb_cw (C := RX14) 4 hT tw_1766 tw_109 tw_1763 tw_1765 tw_85 rfl rfl hq_X14_addOp ⟨Nat.le_of_ble_eq_true rfl, Nat.le_of_ble_eq_true rfl⟩) (mk_preC hst hG hK hA hX hS vc_15 hM.1) rfl rfl hl.1 rfl (lv_room (Nat.le_of_ble_eq_true rfl)) dX14_jobStatement_334 ⟨Nat.le_of_ble_eq_true rfl, Nat.le_of_ble_eq_true rfl⟩) hS (fun q _ h => h) (fun q h => h) (fun  G79 t H locs ht hvm hw hB hz1 hk1 hS => ?_)
                        have hG : mm D vwCl A G79 H := by rw [← ht]; exact hB
                        clear hB hz1 hk1 hvm ht
                        obtain ⟨F80, hM2, hF2, hQ2, hC2, hFr2, g34, g35, g36, g37⟩ := hw
                        replace hF := hF.tr hF2; replace hM := hM2; clear hM2 hF2
                        have hQ := hQ2; have hC := hC2; clear hQ2 hC2
                        have hFr : FrW (wJ bo v9.nJ) F F80 := hFr.tr (hFr2.mono (fun k i z => by unfold wO at z; unfold wJ; omega))
                        have hFr9 : FrW (wQ bo v9.nJ kk kk) Fj F80 := hFr9.tr (hFr2.mono (fun k i z => by unfold wO at z; unfold wQ; omega))
                        have p81 : F80 6 (bo) = nI (v9.nJ + 1) := (hFr2 6 (bo) (by unfold lxA; omega) (by unfold wO; omega)).trans h6
                        have p82 : F80 33 (4 * bo + v9.nJ) = Fj 33 (4 * bo + v9.nJ) := (hFr2 33 (4 * bo + v9.nJ) (by unfold lxA; omega) (by unfold wO; omega)).trans rfl
                        refine lv_aload_n hx hb dX14_jobStatement_337 rfl (lv_at hl 1 rfl) ?_
                        refine va_callv (va_runV (As := []) (rest := []) ⟨hx, hb, hml, hown, (fun _ h9 => absurd h9 List.not_mem_nil : ∀ w ∈ ([] : List Cond), w.before _ s = true)⟩ (c_M_nextq l D cy A X hst hXT G79 o Ar I75 F80 L ft sx fr en bo qj hM hQ hnq.1 (by have z := hnq.2; omega) (by have z := hnq.2; omega)) (tb_cw (C := RX14) 0 hT tw_1640 tw_109 tw_1637 tw_1639 tw_62 rfl rfl hq_X14_next ⟨Nat.le_of_ble_eq_true rfl, Nat.le_of_ble_eq_true rfl⟩) (mk_preC hst hG hK hA hX hS vc_15 hM.1) rfl rfl hl.1 rfl (lv_room (Nat.le_of_ble_eq_true rfl)) dX14_jobStatement_338 ⟨Nat.le_of_ble_eq_true rfl, Nat.le_of_ble_eq_true rfl⟩) hS (fun q _ h => h) (fun q h => h) (fun  G83 t H locs ht hvm hw hB hz1 hk1 hS => ?_)
                        have hG : mm D vwCl A G83 H := by rw [← ht]; exact hB
                        clear hB hz1 hk1 hvm ht
                        obtain ⟨a84, ea84⟩ : ∃ y, y = (qj.1 + 1, qj.2) := ⟨_, rfl⟩
                        rw [← ea84] at hw
                        obtain ⟨I85, F86, hM2, hF2, hQ2, hI2, hX2⟩ := hw
                        replace hF := hF.tr hF2; replace hM := hM2; clear hM2 hF2
                        have hQ := hQ2; have hIZ := (IZ_x hI2).trans hIZ; have hFr := hFr.fx hX2; have hC := hC.fx hI2 hX2
                        have hFr9 := hFr9.fx hX2
                        have p87 : F86 6 (bo) = nI (v9.nJ + 1) := (congrFun (FXe hX2 (by decide)) _).trans p81
                        have p88 : F86 33 (4 * bo + v9.nJ) = Fj 33 (4 * bo + v9.nJ) := (congrFun (FXe hX2 (by decide)) _).trans p82
                        have p89 : F86 34 (4 * bo + v9.nJ) = nI (kk + 1) := (congrFun (FXe hX2 (by decide)) _).trans g34
                        have p90 : F86 35 (400 * bo + (100 * v9.nJ + kk)) = 24 := (congrFun (FXe hX2 (by decide)) _).trans g35
                        have p91 : F86 36 (400 * bo + (100 * v9.nJ + kk)) = 0 := (congrFun (FXe hX2 (by decide)) _).trans g36
                        have p92 : F86 37 (400 * bo + (100 * v9.nJ + kk)) = 0 := (congrFun (FXe hX2 (by decide)) _).trans g37
                        have p93 : I85 57 = nI (on + 1) := (IXe hI2 (by decide)).trans p77
                        have p94 : I85 56 = nI (ta + 1) := (IXe hI2 (by decide)).trans p78
                        clear hI2 hX2 hQ2
                        have ga84 : qj.1 ≤ a84.1 := by rw [ea84]; exact ge_next
                        have da84 : a84.2 < 0 → _ := fun z => ad_next hSn (by rw [← ea84]; exact z)
                        rw [← ea84] at da84
                        have hc1 : cj ≤ a84.1 + 1 := by omega
                        have hc2 : a84.2 < 0 → cj ≤ a84.1 := fun z => by have := da84 z; omega
                        refine lv_aload_n hx hb dX14_jobStatement_341 rfl (lv_at hl 1 rfl) ?_
                        refine lv_bipush (v := 123) hx hb dX14_jobStatement_342 (by decide) ?_
                        refine va_callv (va_runV (As := [.int 123]) (rest := []) ⟨hx, hb, hml, hown, (fun _ h9 => absurd h9 List.not_mem_nil : ∀ w ∈ ([] : List Cond), w.before _ s = true)⟩ (c_M_mark l D cy A X hst hXT G83 o Ar I85 F86 L ft sx fr en bo a84 4 hM hQ (by decide) (by decide)) (tb_cw (C := RX14) 1 hT tw_1717 tw_109 tw_1714 tw_1716 tw_73 rfl rfl hq_X14_mark ⟨Nat.le_of_ble_eq_true rfl, Nat.le_of_ble_eq_true rfl⟩) (mk_preC hst hG hK hA hX hS vc_15 hM.1) rfl rfl hl.1 rfl (lv_room (Nat.le_of_ble_eq_true rfl)) dX14_jobStatement_344 ⟨Nat.le_of_ble_eq_true rfl, Nat.le_of_ble_eq_true rfl⟩) hS (fun q _ h => h) (fun q h => h) (fun  G95 t H locs ht hvm hw hB hz1 hk1 hS => ?_)
                        have hG : mm D vwCl A G95 H := by rw [← ht]; exact hB
                        clear hB hz1 hk1 hvm ht
                        obtain ⟨a96, ea96⟩ : ∃ y, y = q_take (tkK ft en) (tkS ft en) 4 a84 := ⟨_, rfl⟩
                        rw [← ea96] at hw
                        obtain ⟨I97, F98, hM2, hF2, hQ2, hI2, hX2⟩ := hw
                        replace hF := hF.tr hF2; replace hM := hM2; clear hM2 hF2
                        have hQ := hQ2; have hIZ := (IZ_x hI2).trans hIZ; have hFr := hFr.fx hX2; have hC := hC.fx hI2 hX2
                        have hFr9 := hFr9.fx hX2
                        have p99 : F98 6 (bo) = nI (v9.nJ + 1) := (congrFun (FXe hX2 (by decide)) _).trans p87
                        have p100 : F98 33 (4 * bo + v9.nJ) = Fj 33 (4 * bo + v9.nJ) := (congrFun (FXe hX2 (by decide)) _).trans p88
                        have p101 : F98 34 (4 * bo + v9.nJ) = nI (kk + 1) := (congrFun (FXe hX2 (by decide)) _).trans p89
                        have p102 : F98 35 (400 * bo + (100 * v9.nJ + kk)) = 24 := (congrFun (FXe hX2 (by decide)) _).trans p90
                        have p103 : F98 36 (400 * bo + (100 * v9.nJ + kk)) = 0 := (congrFun (FXe hX2 (by decide)) _).trans p91
                        have p104 : F98 37 (400 * bo + (100 * v9.nJ + kk)) = 0 := (congrFun (FXe hX2 (by decide)) _).trans p92
                        have p105 : I97 57 = nI (on + 1) := (IXe hI2 (by decide)).trans p93
                        have p106 : I97 56 = nI (ta + 1) := (IXe hI2 (by decide)).trans p94
                        clear hI2 hX2 hQ2
                        have ga96 : a84.1 ≤ a96.1 := by rw [ea96]; exact ge_take
                        have da96 : a96.2 < 0 → _ := fun z => ad_take hSn (by rw [← ea96]; exact z)
                        rw [← ea96] at da96
                        have hc1 : cj ≤ a96.1 + 1 := by omega
                        have hc2 : a96.2 < 0 → cj ≤ a96.1 := fun z => by have := da96 z; omega
                        refine lv_goto (tgt := 93) hx hb dX14_jobStatement_347 (by decide) ?_
                        have hqw := q_op_w (S := tkS ft en) (V := tkV ft en) (kk := kk) (wf := wf) hnq.2 hgd (Int32.not_le.mp c_225) hon3
                        rw [← ea84, ← ea96] at hqw
                        have hR2 : q_ops (tkK ft en) (tkS ft en) (tkV ft en) n (kk + 1) (ta + 1) (on + 1) (upd wf on (nI kk)) (upO dj kk (34, 0, 0, 0, 0, 0, 0)) a96 = RP := by rw [← hR, q_ops, if_neg hn5, if_pos ⟨hio, hgd⟩, hqw]
                        have hcr2 : a96.2 < 0 → clj ++ clOs (tkK ft en) (tkS ft en) (tkV ft en) v9.nJ n (kk + 1) (ta + 1) (on + 1) (upd wf on (nI kk)) a96 = CR := fun z => by rw [← hcr hgd, clOs, if_neg hn5, if_pos ⟨hio, hgd⟩, hqw]; unfold clO; rw [if_neg (by omega)]; rfl
                        have hOp2 : a96.2 < 0 → ∀ i, i < kk + 1 → OPf (tkK ft en) (tkV ft en) (a96.1 + 1) F98 (400 * bo + (100 * v9.nJ + i)) (upO dj kk (34, 0, 0, 0, 0, 0, 0) i) := by
                          intro z i hi
                          unfold upO
                          by_cases y1 : i = kk
                          · rw [if_pos y1, y1]
                            exact ⟨p102, (fun z => absurd z (by decide)), (fun z => absurd z (by decide)), (fun _ => p103)⟩
                          · rw [if_neg y1]
                            exact (hOp hgd i (by omega)).mv (by omega) (hFr9 35 _ (by unfold lxA; omega) (by unfold wQ; omega)) (hFr9 36 _ (by unfold lxA; omega) (by unfold wQ; omega)) (hFr9 37 _ (by unfold lxA; omega) (by unfold wQ; omega))
                        have hwf3 : a96.2 < 0 → ∀ i, i < on + 1 → ∃ sx, sx < kk + 1 ∧ upd wf on (nI kk) i = nI sx ∧ (upO dj kk (34, 0, 0, 0, 0, 0, 0) sx).1 = 34 := by
                          intro z i hi
                          by_cases y1 : i = on
                          · exact ⟨kk, Nat.lt_succ_self kk, by rw [y1, pk_us], by unfold upO; rw [if_pos rfl]⟩
                          · obtain ⟨sx, y2, y3, y4⟩ := hwf2 hgd i (by omega)
                            exact ⟨sx, by omega, by rw [pk_un y1]; exact y3, by unfold upO; rw [if_neg (by omega)]; exact y4⟩
                        exact ih (kk + 1) (ta + 1) (on + 1) a96 (upd wf on (nI kk)) (upO dj kk (34, 0, 0, 0, 0, 0, 0)) I97 F98 clj (cj) x3 (nI kk) x5 CR RP st9 a33 hR2 (Or.inl (by omega)) hlim hqs hcr2 hCR hQ hC hc1 hIZ hFr (by omega) p99 (fun z => by rw [p100]; exact (h33 hgd).mono (by omega)) (fun _ => p101) (fun _ => p106) (fun _ => p105) (fun _ => ⟨by omega, by omega, by omega⟩) (fun _ => ⟨fun z => by rw [pk_un (by omega)]; exact (hwf hgd).1 (by omega), fun _ => by rw [hon9, pk_us], fun z => by exfalso; omega⟩) hwf3 hOp2 G95 hM hF _ _ hG hS ls (lv_sub hl [1, 2, 3, 4, 0, 5] rfl)
                    · skip
                      refine lv_aload_n hx hb dX14_jobStatement_269 rfl (lv_at hl 0 rfl) ?_
                      refine mm_get (v := .ref (Ar 34)) hx hb hf_X14 (fun _ h9 => h9) hown hK hG hM.1 rfl 34 (by decide) (tb_use hT tw_1425) (fun _ h9 => h9) (mfs_g34 _ _) dX14_jobStatement_270 ?_
                      refine lv_iconst (v := 4) hx hb dX14_jobStatement_273 (by decide) ?_
                      refine lv_iload_n hx hb dX14_jobStatement_274 rfl (lv_at hl 1 rfl) ?_
                      refine lv_imul hx hb dX14_jobStatement_275 ?_
                      refine lv_iload_n hx hb dX14_jobStatement_276 rfl (lv_at hl 2 rfl) ?_
                      refine lv_iadd hx hb dX14_jobStatement_277 ?_
                      refine mm_iald (n := 8) (f := Fj 34) hx hb hK hG 1 (hM.2.1 34 rfl) rfl (by rw [show (((4 * (nI bo)) + (nI v9.nJ)) : Int32) = nI (4 * bo + v9.nJ) by show (((nI 4 * (nI bo)) + (nI v9.nJ)) : Int32) = _; simp only [nI_mu, nI_add]]; exact nI_in (N := 8) (by omega) (by decide)) dX14_jobStatement_278 ?_
                      refine lv_topi (fun x107 ex107 => ?_)
                      rw [show x107 = nI kk by rw [ex107, show (((4 * (nI bo)) + (nI v9.nJ)) : Int32) = nI (4 * bo + v9.nJ) by show (((nI 4 * (nI bo)) + (nI v9.nJ)) : Int32) = _; simp only [nI_mu, nI_add], nI_clamp (by omega)]; exact i34]
                      refine lv_istore_n (lv' := [(3, .int (nI kk)), (0, .ref o), (1, .int (nI bo)), (2, .int (nI v9.nJ)), (4, .int x4), (5, .int x5)]) hx hb dX14_jobStatement_279 rfl hl (by decide) rfl (fun ls hl => ?_)
                      refine lv_goto (tgt := 318) hx hb dX14_jobStatement_280 (by decide) ?_
                      have hon9 : on = 0 := by have z := nI_inj (a := on + 1) (b := 1) (by omega) (by decide) c_266; omega
                      have hFr9 : FrW (wQ bo v9.nJ kk kk) Fj Fj := FrW.rf
                      refine lv_aload_n hx hb dX14_jobStatement_318 rfl (lv_at hl 1 rfl) ?_
                      refine lv_dup hx hb dX14_jobStatement_319 rfl ?_
                      refine mm_get (v := .int (I35 56)) hx hb hf_X14 (fun _ h9 => h9) hown hK hG hM.1 rfl 56 (by decide) (tb_use hT tw_1447) (fun _ h9 => h9) (by rw [mfs_g56, eI35, eI30] <;> rfl) dX14_jobStatement_320 ?_
                      rw [p37]
                      refine lv_iconst (v := 1) hx hb dX14_jobStatement_323 (by decide) ?_
                      refine lv_iadd hx hb dX14_jobStatement_324 ?_
                      rw [show nI ta + 1 = nI (ta + 1) from nI_1 _]
                      refine lv_topi (fun x108 ex108 => ?_)
                      refine mm_put (v := .int x108) (ty := .int) hx hb hf_X14 (fun _ h9 => h9) tyX14 tyX14_ok nmX14 hown hK hG hS hM.1 rfl 56 (by decide) (tb_use hT tw_1447) (fun _ h9 => h9) rfl (by decide +kernel) rfl rfl (mfs_l56 _ _) dX14_jobStatement_325 (fun H locs hG hS => ?_)
                      have hM := MD.puti (k := 56) (v := x108) hM (mfs_s56 _ _ _)
                      have hF := hF.wo (e' := .inr (15, (mfs Ar I35).set 56 (.int x108)))
                      obtain ⟨I109, eI109⟩ : ∃ g, g = upd I35 56 x108 := ⟨_, rfl⟩
                      rw [← eI109] at hM
                      have hgn := gn_MD hG hM hF
                      clear hG hM hF
                      obtain ⟨G110, hG, hM, hF⟩ := hgn
                      have p111 : I109 57 = nI (on + 1) := by rw [eI109]; exact (pk_un (by decide)).trans p38
                      have p112 : I109 56 = nI (ta + 1) := by rw [eI109, pk_us, ex108]
                      have hIZ : IZ I109 = IZ Iv := by rw [eI109, IZ_up (by decide)]; exact hIZ
                      have hQ : LXq Ar I109 Fj ft sx fr en bo qj := by rw [eI109]; exact hQ.wI (by decide)
                      have hC : CLq I109 Fj ft en clj cj := by rw [eI109]; exact hC.wI (by decide)
                      refine lv_aload_n hx hb dX14_jobStatement_328 rfl (lv_at hl 1 rfl) ?_
                      refine lv_iload_n hx hb dX14_jobStatement_329 rfl (lv_at hl 3 rfl) ?_
                      refine lv_bipush (v := 24) hx hb dX14_jobStatement_330 (by decide) ?_
                      refine lv_iconst (v := 0) hx hb dX14_jobStatement_332 (by decide) ?_
                      refine lv_iconst (v := 0) hx hb dX14_jobStatement_333 (by decide) ?_
                      refine va_callv (va_runV (As := [.int (nI v9.nJ), .int 24, .int 0, .int 0]) (rest := []) ⟨hx, hb, hml, hown, (fun _ h9 => absurd h9 List.not_mem_nil : ∀ w ∈ ([] : List Cond), w.before _ s = true)⟩ (c_M_addOp l D cy A X hst hXT G110 o Ar I109 Fj L ft sx fr en bo qj clj cj v9.nJ kk 24 0 0 hM hQ hC hlim (by omega) i34) (tb_cw (C := RX14) 4 hT tw_1766 tw_109 tw_1763 tw_1765 tw_85 rfl rfl hq_X14_addOp ⟨Nat.le_of_ble_eq_true rfl, Nat.le_of_ble_eq_true rfl⟩) (mk_preC hst hG hK hA hX hS vc_15 hM.1) rfl rfl hl.1 rfl (lv_room (Nat.le_of_ble_eq_true rfl)) dX14_jobStatement_334 ⟨Nat.le_of_ble_eq_true rfl, Nat.le_of_ble_eq_true rfl⟩) hS (fun q _ h => h) (fun q h => h) (fun  G113 t H locs ht hvm hw hB hz1 hk1 hS => ?_)
                      have hG : mm D vwCl A G113 H := by rw [← ht]; exact hB
                      clear hB hz1 hk1 hvm ht
                      obtain ⟨F114, hM2, hF2, hQ2, hC2, hFr2, g34, g35, g36, g37⟩ := hw
                      replace hF := hF.tr hF2; replace hM := hM2; clear hM2 hF2
                      have hQ := hQ2; have hC := hC2; clear hQ2 hC2
                      have hFr : FrW (wJ bo v9.nJ) F F114 := hFr.tr (hFr2.mono (fun k i z => by unfold wO at z; unfold wJ; omega))
                      have hFr9 : FrW (wQ bo v9.nJ kk kk) Fj F114 := hFr9.tr (hFr2.mono (fun k i z => by unfold wO at z; unfold wQ; omega))
                      have p115 : F114 6 (bo) = nI (v9.nJ + 1) := (hFr2 6 (bo) (by unfold lxA; omega) (by unfold wO; omega)).trans h6
                      have p116 : F114 33 (4 * bo + v9.nJ) = Fj 33 (4 * bo + v9.nJ) := (hFr2 33 (4 * bo + v9.nJ) (by unfold lxA; omega) (by unfold wO; omega)).trans rfl
                      refine lv_aload_n hx hb dX14_jobStatement_337 rfl (lv_at hl 1 rfl) ?_
                      refine va_callv (va_runV (As := []) (rest := []) ⟨hx, hb, hml, hown, (fun _ h9 => absurd h9 List.not_mem_nil : ∀ w ∈ ([] : List Cond), w.before _ s = true)⟩ (c_M_nextq l D cy A X hst hXT G113 o Ar I109 F114 L ft sx fr en bo qj hM hQ hnq.1 (by have z := hnq.2; omega) (by have z := hnq.2; omega)) (tb_cw (C := RX14) 0 hT tw_1640 tw_109 tw_1637 tw_1639 tw_62 rfl rfl hq_X14_next ⟨Nat.le_of_ble_eq_true rfl, Nat.le_of_ble_eq_true rfl⟩) (mk_preC hst hG hK hA hX hS vc_15 hM.1) rfl rfl hl.1 rfl (lv_room (Nat.le_of_ble_eq_true rfl)) dX14_jobStatement_338 ⟨Nat.le_of_ble_eq_true rfl, Nat.le_of_ble_eq_true rfl⟩) hS (fun q _ h => h) (fun q h => h) (fun  G117 t H locs ht hvm hw hB hz1 hk1 hS => ?_)
                      have hG : mm D vwCl A G117 H := by rw [← ht]; exact hB
                      clear hB hz1 hk1 hvm ht
                      obtain ⟨a118, ea118⟩ : ∃ y, y = (qj.1 + 1, qj.2) := ⟨_, rfl⟩
                      rw [← ea118] at hw
                      obtain ⟨I119, F120, hM2, hF2, hQ2, hI2, hX2⟩ := hw
                      replace hF := hF.tr hF2; replace hM := hM2; clear hM2 hF2
                      have hQ := hQ2; have hIZ := (IZ_x hI2).trans hIZ; have hFr := hFr.fx hX2; have hC := hC.fx hI2 hX2
                      have hFr9 := hFr9.fx hX2
                      have p121 : F120 6 (bo) = nI (v9.nJ + 1) := (congrFun (FXe hX2 (by decide)) _).trans p115
                      have p122 : F120 33 (4 * bo + v9.nJ) = Fj 33 (4 * bo + v9.nJ) := (congrFun (FXe hX2 (by decide)) _).trans p116
                      have p123 : F120 34 (4 * bo + v9.nJ) = nI (kk + 1) := (congrFun (FXe hX2 (by decide)) _).trans g34
                      have p124 : F120 35 (400 * bo + (100 * v9.nJ + kk)) = 24 := (congrFun (FXe hX2 (by decide)) _).trans g35
                      have p125 : F120 36 (400 * bo + (100 * v9.nJ + kk)) = 0 := (congrFun (FXe hX2 (by decide)) _).trans g36
                      have p126 : F120 37 (400 * bo + (100 * v9.nJ + kk)) = 0 := (congrFun (FXe hX2 (by decide)) _).trans g37
                      have p127 : I119 57 = nI (on + 1) := (IXe hI2 (by decide)).trans p111
                      have p128 : I119 56 = nI (ta + 1) := (IXe hI2 (by decide)).trans p112
                      clear hI2 hX2 hQ2
                      have ga118 : qj.1 ≤ a118.1 := by rw [ea118]; exact ge_next
                      have da118 : a118.2 < 0 → _ := fun z => ad_next hSn (by rw [← ea118]; exact z)
                      rw [← ea118] at da118
                      have hc1 : cj ≤ a118.1 + 1 := by omega
                      have hc2 : a118.2 < 0 → cj ≤ a118.1 := fun z => by have := da118 z; omega
                      refine lv_aload_n hx hb dX14_jobStatement_341 rfl (lv_at hl 1 rfl) ?_
                      refine lv_bipush (v := 123) hx hb dX14_jobStatement_342 (by decide) ?_
                      refine va_callv (va_runV (As := [.int 123]) (rest := []) ⟨hx, hb, hml, hown, (fun _ h9 => absurd h9 List.not_mem_nil : ∀ w ∈ ([] : List Cond), w.before _ s = true)⟩ (c_M_mark l D cy A X hst hXT G117 o Ar I119 F120 L ft sx fr en bo a118 4 hM hQ (by decide) (by decide)) (tb_cw (C := RX14) 1 hT tw_1717 tw_109 tw_1714 tw_1716 tw_73 rfl rfl hq_X14_mark ⟨Nat.le_of_ble_eq_true rfl, Nat.le_of_ble_eq_true rfl⟩) (mk_preC hst hG hK hA hX hS vc_15 hM.1) rfl rfl hl.1 rfl (lv_room (Nat.le_of_ble_eq_true rfl)) dX14_jobStatement_344 ⟨Nat.le_of_ble_eq_true rfl, Nat.le_of_ble_eq_true rfl⟩) hS (fun q _ h => h) (fun q h => h) (fun  G129 t H locs ht hvm hw hB hz1 hk1 hS => ?_)
                      have hG : mm D vwCl A G129 H := by rw [← ht]; exact hB
                      clear hB hz1 hk1 hvm ht
                      obtain ⟨a130, ea130⟩ : ∃ y, y = q_take (tkK ft en) (tkS ft en) 4 a118 := ⟨_, rfl⟩
                      rw [← ea130] at hw
                      obtain ⟨I131, F132, hM2, hF2, hQ2, hI2, hX2⟩ := hw
                      replace hF := hF.tr hF2; replace hM := hM2; clear hM2 hF2
                      have hQ := hQ2; have hIZ := (IZ_x hI2).trans hIZ; have hFr := hFr.fx hX2; have hC := hC.fx hI2 hX2
                      have hFr9 := hFr9.fx hX2
                      have p133 : F132 6 (bo) = nI (v9.nJ + 1) := (congrFun (FXe hX2 (by decide)) _).trans p121
                      have p134 : F132 33 (4 * bo + v9.nJ) = Fj 33 (4 * bo + v9.nJ) := (congrFun (FXe hX2 (by decide)) _).trans p122
                      have p135 : F132 34 (4 * bo + v9.nJ) = nI (kk + 1) := (congrFun (FXe hX2 (by decide)) _).trans p123
                      have p136 : F132 35 (400 * bo + (100 * v9.nJ + kk)) = 24 := (congrFun (FXe hX2 (by decide)) _).trans p124
                      have p137 : F132 36 (400 * bo + (100 * v9.nJ + kk)) = 0 := (congrFun (FXe hX2 (by decide)) _).trans p125
                      have p138 : F132 37 (400 * bo + (100 * v9.nJ + kk)) = 0 := (congrFun (FXe hX2 (by decide)) _).trans p126
                      have p139 : I131 57 = nI (on + 1) := (IXe hI2 (by decide)).trans p127
                      have p140 : I131 56 = nI (ta + 1) := (IXe hI2 (by decide)).trans p128
                      clear hI2 hX2 hQ2
                      have ga130 : a118.1 ≤ a130.1 := by rw [ea130]; exact ge_take
                      have da130 : a130.2 < 0 → _ := fun z => ad_take hSn (by rw [← ea130]; exact z)
                      rw [← ea130] at da130
                      have hc1 : cj ≤ a130.1 + 1 := by omega
                      have hc2 : a130.2 < 0 → cj ≤ a130.1 := fun z => by have := da130 z; omega
                      refine lv_goto (tgt := 93) hx hb dX14_jobStatement_347 (by decide) ?_
                      have hqw := q_op_w (S := tkS ft en) (V := tkV ft en) (kk := kk) (wf := wf) hnq.2 hgd (Int32.not_le.mp c_225) hon3
                      rw [← ea118, ← ea130] at hqw
                      have hR2 : q_ops (tkK ft en) (tkS ft en) (tkV ft en) n (kk + 1) (ta + 1) (on + 1) (upd wf on (nI kk)) (upO dj kk (34, 0, 0, 0, 0, 0, 0)) a130 = RP := by rw [← hR, q_ops, if_neg hn5, if_pos ⟨hio, hgd⟩, hqw]
                      have hcr2 : a130.2 < 0 → clj ++ clOs (tkK ft en) (tkS ft en) (tkV ft en) v9.nJ n (kk + 1) (ta + 1) (on + 1) (upd wf on (nI kk)) a130 = CR := fun z => by rw [← hcr hgd, clOs, if_neg hn5, if_pos ⟨hio, hgd⟩, hqw]; unfold clO; rw [if_neg (by omega)]; rfl
                      have hOp2 : a130.2 < 0 → ∀ i, i < kk + 1 → OPf (tkK ft en) (tkV ft en) (a130.1 + 1) F132 (400 * bo + (100 * v9.nJ + i)) (upO dj kk (34, 0, 0, 0, 0, 0, 0) i) := by
                        intro z i hi
                        unfold upO
                        by_cases y1 : i = kk
                        · rw [if_pos y1, y1]
                          exact ⟨p136, (fun z => absurd z (by decide)), (fun z => absurd z (by decide)), (fun _ => p137)⟩
                        · rw [if_neg y1]
                          exact (hOp hgd i (by omega)).mv (by omega) (hFr9 35 _ (by unfold lxA; omega) (by unfold wQ; omega)) (hFr9 36 _ (by unfold lxA; omega) (by unfold wQ; omega)) (hFr9 37 _ (by unfold lxA; omega) (by unfold wQ; omega))
                      have hwf3 : a130.2 < 0 → ∀ i, i < on + 1 → ∃ sx, sx < kk + 1 ∧ upd wf on (nI kk) i = nI sx ∧ (upO dj kk (34, 0, 0, 0, 0, 0, 0) sx).1 = 34 := by
                        intro z i hi
                        by_cases y1 : i = on
                        · exact ⟨kk, Nat.lt_succ_self kk, by rw [y1, pk_us], by unfold upO; rw [if_pos rfl]⟩
                        · obtain ⟨sx, y2, y3, y4⟩ := hwf2 hgd i (by omega)
                          exact ⟨sx, by omega, by rw [pk_un y1]; exact y3, by unfold upO; rw [if_neg (by omega)]; exact y4⟩
                      exact ih (kk + 1) (ta + 1) (on + 1) a130 (upd wf on (nI kk)) (upO dj kk (34, 0, 0, 0, 0, 0, 0)) I131 F132 clj (cj) (nI kk) x4 x5 CR RP st9 a33 hR2 (Or.inl (by omega)) hlim hqs hcr2 hCR hQ hC hc1 hIZ hFr (by omega) p133 (fun z => by rw [p134]; exact (h33 hgd).mono (by omega)) (fun _ => p135) (fun _ => p140) (fun _ => p139) (fun _ => ⟨by omega, by omega, by omega⟩) (fun _ => ⟨fun _ => by rw [hon9, pk_us], fun z => by exfalso; omega, fun z => by exfalso; omega⟩) hwf3 hOp2 G129 hM hF _ _ hG hS ls (lv_sub hl [1, 2, 3, 0, 4, 5] rfl)
          · skip
            have hse5 : se (tkK ft en) qj.1 qj.2 5 = true := b2i_t (by rw [← er13]; exact c_122)
            have hnq := se_t hse5
            have hon : 0 < on := nI_lt_of (a := 0) (by decide) (by omega) (Int32.not_le.mpr c_104)
            refine lv_aload_n hx hb dX14_jobStatement_125 rfl (lv_at hl 0 rfl) ?_
            refine mm_get (v := .int (Ij 57)) hx hb hf_X14 (fun _ h9 => h9) hown hK hG hM.1 rfl 57 (by decide) (tb_use hT tw_1448) (fun _ h9 => h9) (mfs_g57 _ _) dX14_jobStatement_126 ?_
            rw [i57]
            refine lv_iconst (v := 3) hx hb dX14_jobStatement_129 (by decide) ?_
            refine lv_icmp_ne (tgt := 138) hx hb dX14_jobStatement_130 (by decide) (fun c_130 => ?_) (fun c_130 => ?_)
            · skip
              refine lv_aload_n hx hb dX14_jobStatement_138 rfl (lv_at hl 0 rfl) ?_
              refine mm_get (v := .int (Ij 57)) hx hb hf_X14 (fun _ h9 => h9) hown hK hG hM.1 rfl 57 (by decide) (tb_use hT tw_1448) (fun _ h9 => h9) (mfs_g57 _ _) dX14_jobStatement_139 ?_
              rw [i57]
              refine lv_iconst (v := 2) hx hb dX14_jobStatement_142 (by decide) ?_
              refine lv_icmp_ne (tgt := 151) hx hb dX14_jobStatement_143 (by decide) (fun c_143 => ?_) (fun c_143 => ?_)
              · skip
                refine lv_iload_n hx hb dX14_jobStatement_151 rfl (lv_at hl 3 rfl) ?_
                have hon3 : on = 1 := by have z3 : on ≠ 3 := fun z => c_130 (by rw [z]; rfl); have z2 : on ≠ 2 := fun z => c_143 (by rw [z]; rfl); omega
                obtain ⟨sx9, hs1, hs2, hs3⟩ := hwf2 hgd 0 (by omega)
                have hwx : wf (on - 1) = nI sx9 := by rw [hon3]; exact hs2
                rw [show x3 = nI sx9 from ((hwf hgd).1 (by omega)).trans hs2]
                refine lv_istore (lv' := [(6, .int (nI sx9)), (0, .ref o), (1, .int (nI bo)), (2, .int (nI v9.nJ)), (3, .int x3), (4, .int x4), (5, .int x5)]) hx hb dX14_jobStatement_152 hl (by decide) rfl (fun ls hl => ?_)
                have hFr9 : FrW (wQ bo v9.nJ kk sx9) Fj Fj := FrW.rf
                refine lv_aload_n hx hb dX14_jobStatement_154 rfl (lv_at hl 1 rfl) ?_
                refine lv_iload_n hx hb dX14_jobStatement_155 rfl (lv_at hl 3 rfl) ?_
                refine lv_bipush (v := 25) hx hb dX14_jobStatement_156 (by decide) ?_
                refine lv_iload hx hb dX14_jobStatement_158 (lv_at hl 0 rfl) ?_
                refine lv_iconst (v := 0) hx hb dX14_jobStatement_160 (by decide) ?_
                refine va_callv (va_runV (As := [.int (nI v9.nJ), .int 25, .int (nI sx9), .int 0]) (rest := []) ⟨hx, hb, hml, hown, (fun _ h9 => absurd h9 List.not_mem_nil : ∀ w ∈ ([] : List Cond), w.before _ s = true)⟩ (c_M_addOp l D cy A X hst hXT Gv o Ar Ij Fj L ft sx fr en bo qj clj cj v9.nJ kk 25 (nI sx9) 0 hM hQ hC hlim (by omega) i34) (tb_cw (C := RX14) 4 hT tw_1766 tw_109 tw_1763 tw_1765 tw_85 rfl rfl hq_X14_addOp ⟨Nat.le_of_ble_eq_true rfl, Nat.le_of_ble_eq_true rfl⟩) (mk_preC hst hG hK hA hX hS vc_15 hM.1) rfl rfl hl.1 rfl (lv_room (Nat.le_of_ble_eq_true rfl)) dX14_jobStatement_161 ⟨Nat.le_of_ble_eq_true rfl, Nat.le_of_ble_eq_true rfl⟩) hS (fun q _ h => h) (fun q h => h) (fun  G141 t H locs ht hvm hw hB hz1 hk1 hS => ?_)
                have hG : mm D vwCl A G141 H := by rw [← ht]; exact hB
                clear hB hz1 hk1 hvm ht
                obtain ⟨F142, hM2, hF2, hQ2, hC2, hFr2, g34, g35, g36, g37⟩ := hw
                replace hF := hF.tr hF2; replace hM := hM2; clear hM2 hF2
                have hQ := hQ2; have hC := hC2; clear hQ2 hC2
                have hFr : FrW (wJ bo v9.nJ) F F142 := hFr.tr (hFr2.mono (fun k i z => by unfold wO at z; unfold wJ; omega))
                have hFr9 : FrW (wQ bo v9.nJ kk sx9) Fj F142 := hFr9.tr (hFr2.mono (fun k i z => by unfold wO at z; unfold wQ; omega))
                have p143 : F142 6 (bo) = nI (v9.nJ + 1) := (hFr2 6 (bo) (by unfold lxA; omega) (by unfold wO; omega)).trans h6
                have p144 : F142 33 (4 * bo + v9.nJ) = Fj 33 (4 * bo + v9.nJ) := (hFr2 33 (4 * bo + v9.nJ) (by unfold lxA; omega) (by unfold wO; omega)).trans rfl
                refine lv_aload_n hx hb dX14_jobStatement_164 rfl (lv_at hl 1 rfl) ?_
                refine mm_get (v := .ref (Ar 36)) hx hb hf_X14 (fun _ h9 => h9) hown hK hG hM.1 rfl 36 (by decide) (tb_use hT tw_1427) (fun _ h9 => h9) (mfs_g36 _ _) dX14_jobStatement_165 ?_
                refine lv_sipush (v := 400) hx hb dX14_jobStatement_168 (by decide) ?_
                refine lv_iload_n hx hb dX14_jobStatement_171 rfl (lv_at hl 2 rfl) ?_
                refine lv_imul hx hb dX14_jobStatement_172 ?_
                refine lv_bipush (v := 100) hx hb dX14_jobStatement_173 (by decide) ?_
                refine lv_iload_n hx hb dX14_jobStatement_175 rfl (lv_at hl 3 rfl) ?_
                refine lv_imul hx hb dX14_jobStatement_176 ?_
                refine lv_iadd hx hb dX14_jobStatement_177 ?_
                refine lv_iload hx hb dX14_jobStatement_178 (lv_at hl 0 rfl) ?_
                refine lv_iadd hx hb dX14_jobStatement_180 ?_
                refine lv_aload_n hx hb dX14_jobStatement_181 rfl (lv_at hl 1 rfl) ?_
                refine mm_get (v := .ref (Ar 34)) hx hb hf_X14 (fun _ h9 => h9) hown hK hG hM.1 rfl 34 (by decide) (tb_use hT tw_1425) (fun _ h9 => h9) (mfs_g34 _ _) dX14_jobStatement_182 ?_
                refine lv_iconst (v := 4) hx hb dX14_jobStatement_185 (by decide) ?_
                refine lv_iload_n hx hb dX14_jobStatement_186 rfl (lv_at hl 2 rfl) ?_
                refine lv_imul hx hb dX14_jobStatement_187 ?_
                refine lv_iload_n hx hb dX14_jobStatement_188 rfl (lv_at hl 3 rfl) ?_
                refine lv_iadd hx hb dX14_jobStatement_189 ?_
                refine mm_iald (n := 8) (f := F142 34) hx hb hK hG 1 (hM.2.1 34 rfl) rfl (by rw [show (((4 * (nI bo)) + (nI v9.nJ)) : Int32) = nI (4 * bo + v9.nJ) by show (((nI 4 * (nI bo)) + (nI v9.nJ)) : Int32) = _; simp only [nI_mu, nI_add]]; exact nI_in (N := 8) (by omega) (by decide)) dX14_jobStatement_190 ?_
                refine lv_topi (fun x145 ex145 => ?_)
                rw [show x145 = nI (kk + 1) by rw [ex145, show (((4 * (nI bo)) + (nI v9.nJ)) : Int32) = nI (4 * bo + v9.nJ) by show (((nI 4 * (nI bo)) + (nI v9.nJ)) : Int32) = _; simp only [nI_mu, nI_add], nI_clamp (by omega)]; exact g34]
                refine lv_topi (fun x146 ex146 => ?_)
                refine mm_iast (n := mdN 36) (f := F142 36) hx hb hK hG hS 1 (hM.2.1 36 rfl) rfl (by rw [show ((((400 * (nI bo)) + (100 * (nI v9.nJ))) + (nI sx9)) : Int32) = nI (400 * bo + 100 * v9.nJ + sx9) by show ((((nI 400 * (nI bo)) + (nI 100 * (nI v9.nJ))) + (nI sx9)) : Int32) = _; simp only [nI_mu, nI_add]]; exact nI_in (N := mdN 36) (by show _ < 800; omega) (by decide)) dX14_jobStatement_191 (fun H locs hG hS => ?_)
                have hM := MD.seti (k := 36) (upd (F142 36) (((400 * (nI bo)) + (100 * (nI v9.nJ))) + (nI sx9)).toNatClampNeg x146) hM rfl
                have hF := hF.wa (k := 36) (e' := .inl (cy 1, mdN 36, .inl (upd (F142 36) (((400 * (nI bo)) + (100 * (nI v9.nJ))) + (nI sx9)).toNatClampNeg x146))) rfl
                obtain ⟨F147, eF147⟩ : ∃ g, g = va_up F142 36 (upd (F142 36) (((400 * (nI bo)) + (100 * (nI v9.nJ))) + (nI sx9)).toNatClampNeg x146) := ⟨_, rfl⟩
                rw [← eF147] at hM
                have hgn := gn_MD hG hM hF
                clear hG hM hF
                obtain ⟨G148, hG, hM, hF⟩ := hgn
                rw [show ((((400 * (nI bo)) + (100 * (nI v9.nJ))) + (nI sx9)) : Int32) = nI (400 * bo + 100 * v9.nJ + sx9) by show ((((nI 400 * (nI bo)) + (nI 100 * (nI v9.nJ))) + (nI sx9)) : Int32) = _; simp only [nI_mu, nI_add], nI_clamp (by omega)] at eF147
                have p149 : F147 6 (bo) = nI (v9.nJ + 1) := by rw [eF147, va_up_ne _ _ (by decide)]; exact p143
                have p150 : F147 33 (4 * bo + v9.nJ) = Fj 33 (4 * bo + v9.nJ) := by rw [eF147, va_up_ne _ _ (by decide)]; exact p144
                have p151 : F147 34 (4 * bo + v9.nJ) = nI (kk + 1) := by rw [eF147, va_up_ne _ _ (by decide)]; exact g34
                have p152 : F147 35 (400 * bo + (100 * v9.nJ + kk)) = 25 := by rw [eF147, va_up_ne _ _ (by decide)]; exact g35
                have p153 : F147 36 (400 * bo + (100 * v9.nJ + kk)) = (nI sx9) := by rw [eF147, va_up_self, pk_un (by omega)]; exact g36
                have p154 : F147 37 (400 * bo + (100 * v9.nJ + kk)) = 0 := by rw [eF147, va_up_ne _ _ (by decide)]; exact g37
                have p155 : F147 36 (400 * bo + 100 * v9.nJ + sx9) = nI (kk + 1) := by rw [eF147, va_up_self, pk_us, ex146]
                have hFr : FrW (wJ bo v9.nJ) F F147 := by rw [eF147]; exact hFr.up (by unfold wJ; omega)
                have hFr9 : FrW (wQ bo v9.nJ kk sx9) Fj F147 := by rw [eF147]; exact hFr9.up (by unfold wQ; omega)
                have hQ : LXq Ar Ij F147 ft sx fr en bo qj := by rw [eF147]; exact hQ.wF (by decide)
                have hC : CLq Ij F147 ft en clj cj := by rw [eF147]; exact hC.wF (by decide)
                refine lv_aload_n hx hb dX14_jobStatement_192 rfl (lv_at hl 1 rfl) ?_
                refine lv_dup hx hb dX14_jobStatement_193 rfl ?_
                refine mm_get (v := .int (Ij 57)) hx hb hf_X14 (fun _ h9 => h9) hown hK hG hM.1 rfl 57 (by decide) (tb_use hT tw_1448) (fun _ h9 => h9) (mfs_g57 _ _) dX14_jobStatement_194 ?_
                rw [i57]
                refine lv_iconst (v := 1) hx hb dX14_jobStatement_197 (by decide) ?_
                refine lv_isub hx hb dX14_jobStatement_198 ?_
                rw [show nI on - 1 = nI (on - 1) from g_pred (by omega)]
                refine lv_topi (fun x156 ex156 => ?_)
                refine mm_put (v := .int x156) (ty := .int) hx hb hf_X14 (fun _ h9 => h9) tyX14 tyX14_ok nmX14 hown hK hG hS hM.1 rfl 57 (by decide) (tb_use hT tw_1448) (fun _ h9 => h9) rfl (by decide +kernel) rfl rfl (mfs_l57 _ _) dX14_jobStatement_199 (fun H locs hG hS => ?_)
                have hM := MD.puti (k := 57) (v := x156) hM (mfs_s57 _ _ _)
                have hF := hF.wo (e' := .inr (15, (mfs Ar Ij).set 57 (.int x156)))
                obtain ⟨I157, eI157⟩ : ∃ g, g = upd Ij 57 x156 := ⟨_, rfl⟩
                rw [← eI157] at hM
                have hgn := gn_MD hG hM hF
                clear hG hM hF
                obtain ⟨G158, hG, hM, hF⟩ := hgn
                have p159 : I157 56 = nI ta := by rw [eI157]; exact (pk_un (by decide)).trans i56
                have p160 : I157 57 = nI (on - 1) := by rw [eI157, pk_us, ex156]
                have hIZ : IZ I157 = IZ Iv := by rw [eI157, IZ_up (by decide)]; exact hIZ
                have hQ : LXq Ar I157 F147 ft sx fr en bo qj := by rw [eI157]; exact hQ.wI (by decide)
                have hC : CLq I157 F147 ft en clj cj := by rw [eI157]; exact hC.wI (by decide)
                refine lv_aload_n hx hb dX14_jobStatement_202 rfl (lv_at hl 1 rfl) ?_
                refine va_callv (va_runV (As := []) (rest := []) ⟨hx, hb, hml, hown, (fun _ h9 => absurd h9 List.not_mem_nil : ∀ w ∈ ([] : List Cond), w.before _ s = true)⟩ (c_M_nextq l D cy A X hst hXT G158 o Ar I157 F147 L ft sx fr en bo qj hM hQ hnq.1 (by have z := hnq.2; omega) (by have z := hnq.2; omega)) (tb_cw (C := RX14) 0 hT tw_1640 tw_109 tw_1637 tw_1639 tw_62 rfl rfl hq_X14_next ⟨Nat.le_of_ble_eq_true rfl, Nat.le_of_ble_eq_true rfl⟩) (mk_preC hst hG hK hA hX hS vc_15 hM.1) rfl rfl hl.1 rfl (lv_room (Nat.le_of_ble_eq_true rfl)) dX14_jobStatement_203 ⟨Nat.le_of_ble_eq_true rfl, Nat.le_of_ble_eq_true rfl⟩) hS (fun q _ h => h) (fun q h => h) (fun  G161 t H locs ht hvm hw hB hz1 hk1 hS => ?_)
                have hG : mm D vwCl A G161 H := by rw [← ht]; exact hB
                clear hB hz1 hk1 hvm ht
                obtain ⟨a162, ea162⟩ : ∃ y, y = (qj.1 + 1, qj.2) := ⟨_, rfl⟩
                rw [← ea162] at hw
                obtain ⟨I163, F164, hM2, hF2, hQ2, hI2, hX2⟩ := hw
                replace hF := hF.tr hF2; replace hM := hM2; clear hM2 hF2
                have hQ := hQ2; have hIZ := (IZ_x hI2).trans hIZ; have hFr := hFr.fx hX2; have hC := hC.fx hI2 hX2
                have hFr9 := hFr9.fx hX2
                have p165 : F164 6 (bo) = nI (v9.nJ + 1) := (congrFun (FXe hX2 (by decide)) _).trans p149
                have p166 : F164 33 (4 * bo + v9.nJ) = Fj 33 (4 * bo + v9.nJ) := (congrFun (FXe hX2 (by decide)) _).trans p150
                have p167 : F164 34 (4 * bo + v9.nJ) = nI (kk + 1) := (congrFun (FXe hX2 (by decide)) _).trans p151
                have p168 : F164 35 (400 * bo + (100 * v9.nJ + kk)) = 25 := (congrFun (FXe hX2 (by decide)) _).trans p152
                have p169 : F164 36 (400 * bo + (100 * v9.nJ + kk)) = (nI sx9) := (congrFun (FXe hX2 (by decide)) _).trans p153
                have p170 : F164 37 (400 * bo + (100 * v9.nJ + kk)) = 0 := (congrFun (FXe hX2 (by decide)) _).trans p154
                have p171 : F164 36 (400 * bo + 100 * v9.nJ + sx9) = nI (kk + 1) := (congrFun (FXe hX2 (by decide)) _).trans p155
                have p172 : I163 56 = nI ta := (IXe hI2 (by decide)).trans p159
                have p173 : I163 57 = nI (on - 1) := (IXe hI2 (by decide)).trans p160
                clear hI2 hX2 hQ2
                have ga162 : qj.1 ≤ a162.1 := by rw [ea162]; exact ge_next
                have da162 : a162.2 < 0 → _ := fun z => ad_next hSn (by rw [← ea162]; exact z)
                rw [← ea162] at da162
                have hc1 : cj ≤ a162.1 + 1 := by omega
                have hc2 : a162.2 < 0 → cj ≤ a162.1 := fun z => by have := da162 z; omega
                refine lv_goto (tgt := 93) hx hb dX14_jobStatement_206 (by decide) ?_
                have hqt : q_take (tkK ft en) (tkS ft en) 5 qj = a162 := by unfold q_take; rw [if_pos hse5, ea162]
                have hR2 : q_ops (tkK ft en) (tkS ft en) (tkV ft en) n (kk + 1) ta (on - 1) wf (q_clw kk sx9 dj) a162 = RP := by rw [← hR, q_ops, if_pos ⟨hon, hse5⟩, hwx, nI_clamp (by omega), hqt]
                have hcr2 : a162.2 < 0 → clj ++ clOs (tkK ft en) (tkS ft en) (tkV ft en) v9.nJ n (kk + 1) ta (on - 1) wf a162 = CR := fun z => by rw [← hcr hgd, clOs, if_pos ⟨hon, hse5⟩, hqt]
                have hOp2 : a162.2 < 0 → ∀ i, i < kk + 1 → OPf (tkK ft en) (tkV ft en) (a162.1 + 1) F164 (400 * bo + (100 * v9.nJ + i)) (q_clw kk sx9 dj i) := by
                  intro z i hi
                  unfold q_clw upO
                  by_cases y1 : i = kk
                  · rw [if_pos y1, y1]
                    exact ⟨p168, (fun z => absurd z (show ¬ (5 : Nat) = 25 by decide)), (fun z => absurd z (show ¬ (5 : Nat) = 26 by decide)), (fun _ => p169)⟩
                  · rw [if_neg y1]
                    by_cases y2 : i = sx9
                    · rw [if_pos y2, y2]
                      have w1 := hOp hgd sx9 hs1
                      refine ⟨(hFr9 35 _ (by unfold lxA; omega) (by unfold wQ; omega)).trans w1.1, (fun z => by dsimp only at z; omega), (fun z => by dsimp only at z; omega), (fun _ => ?_)⟩
                      rw [show 400 * bo + (100 * v9.nJ + sx9) = 400 * bo + 100 * v9.nJ + sx9 by omega]
                      exact p171
                    · rw [if_neg y2]
                      exact (hOp hgd i (by omega)).mv (by omega) (hFr9 35 _ (by unfold lxA; omega) (by unfold wQ; omega)) (hFr9 36 _ (by unfold lxA; omega) (by unfold wQ; omega)) (hFr9 37 _ (by unfold lxA; omega) (by unfold wQ; omega))
                have hwf3 : a162.2 < 0 → ∀ i, i < on - 1 → ∃ sx, sx < kk + 1 ∧ wf i = nI sx ∧ (q_clw kk sx9 dj sx).1 = 34 := by
                  intro z i hi
                  obtain ⟨sx, y1, y2, y3⟩ := hwf2 hgd i (by omega)
                  refine ⟨sx, by omega, y2, ?_⟩
                  unfold q_clw upO
                  rw [if_neg (by omega)]
                  by_cases y4 : sx = sx9
                  · rw [if_pos y4]; exact hs3
                  · rw [if_neg y4]; exact y3
                exact ih (kk + 1) (ta) (on - 1) a162 wf (q_clw kk sx9 dj) I163 F164 clj (cj) x3 x4 x5 CR RP st9 a33 hR2 (Or.inl (by omega)) hlim hqs hcr2 hCR hQ hC hc1 hIZ hFr (by omega) p165 (fun z => by rw [p166]; exact (h33 hgd).mono (by omega)) (fun _ => p167) (fun _ => p172) (fun _ => p173) (fun _ => ⟨by omega, by omega, by omega⟩) (fun _ => ⟨fun z => (hwf hgd).1 (by omega), fun z => (hwf hgd).2.1 (by omega), fun z => (hwf hgd).2.2 (by omega)⟩) hwf3 hOp2 G161 hM hF _ _ hG hS ls (lv_sub hl [1, 2, 3, 4, 5, 6] rfl)
              · skip
                refine lv_iload hx hb dX14_jobStatement_146 (lv_at hl 4 rfl) ?_
                refine lv_goto (tgt := 152) hx hb dX14_jobStatement_148 (by decide) ?_
                have hon3 : on = 2 := nI_inj (by omega) (by decide) c_143
                obtain ⟨sx9, hs1, hs2, hs3⟩ := hwf2 hgd 1 (by omega)
                have hwx : wf (on - 1) = nI sx9 := by rw [hon3]; exact hs2
                rw [show x4 = nI sx9 from ((hwf hgd).2.1 (by omega)).trans hs2]
                refine lv_istore (lv' := [(6, .int (nI sx9)), (0, .ref o), (1, .int (nI bo)), (2, .int (nI v9.nJ)), (3, .int x3), (4, .int x4), (5, .int x5)]) hx hb dX14_jobStatement_152 hl (by decide) rfl (fun ls hl => ?_)
                have hFr9 : FrW (wQ bo v9.nJ kk sx9) Fj Fj := FrW.rf
                refine lv_aload_n hx hb dX14_jobStatement_154 rfl (lv_at hl 1 rfl) ?_
                refine lv_iload_n hx hb dX14_jobStatement_155 rfl (lv_at hl 3 rfl) ?_
                refine lv_bipush (v := 25) hx hb dX14_jobStatement_156 (by decide) ?_
                refine lv_iload hx hb dX14_jobStatement_158 (lv_at hl 0 rfl) ?_
                refine lv_iconst (v := 0) hx hb dX14_jobStatement_160 (by decide) ?_
                refine va_callv (va_runV (As := [.int (nI v9.nJ), .int 25, .int (nI sx9), .int 0]) (rest := []) ⟨hx, hb, hml, hown, (fun _ h9 => absurd h9 List.not_mem_nil : ∀ w ∈ ([] : List Cond), w.before _ s = true)⟩ (c_M_addOp l D cy A X hst hXT Gv o Ar Ij Fj L ft sx fr en bo qj clj cj v9.nJ kk 25 (nI sx9) 0 hM hQ hC hlim (by omega) i34) (tb_cw (C := RX14) 4 hT tw_1766 tw_109 tw_1763 tw_1765 tw_85 rfl rfl hq_X14_addOp ⟨Nat.le_of_ble_eq_true rfl, Nat.le_of_ble_eq_true rfl⟩) (mk_preC hst hG hK hA hX hS vc_15 hM.1) rfl rfl hl.1 rfl (lv_room (Nat.le_of_ble_eq_true rfl)) dX14_jobStatement_161 ⟨Nat.le_of_ble_eq_true rfl, Nat.le_of_ble_eq_true rfl⟩) hS (fun q _ h => h) (fun q h => h) (fun  G174 t H locs ht hvm hw hB hz1 hk1 hS => ?_)
                have hG : mm D vwCl A G174 H := by rw [← ht]; exact hB
                clear hB hz1 hk1 hvm ht
                obtain ⟨F175, hM2, hF2, hQ2, hC2, hFr2, g34, g35, g36, g37⟩ := hw
                replace hF := hF.tr hF2; replace hM := hM2; clear hM2 hF2
                have hQ := hQ2; have hC := hC2; clear hQ2 hC2
                have hFr : FrW (wJ bo v9.nJ) F F175 := hFr.tr (hFr2.mono (fun k i z => by unfold wO at z; unfold wJ; omega))
                have hFr9 : FrW (wQ bo v9.nJ kk sx9) Fj F175 := hFr9.tr (hFr2.mono (fun k i z => by unfold wO at z; unfold wQ; omega))
                have p176 : F175 6 (bo) = nI (v9.nJ + 1) := (hFr2 6 (bo) (by unfold lxA; omega) (by unfold wO; omega)).trans h6
                have p177 : F175 33 (4 * bo + v9.nJ) = Fj 33 (4 * bo + v9.nJ) := (hFr2 33 (4 * bo + v9.nJ) (by unfold lxA; omega) (by unfold wO; omega)).trans rfl
                refine lv_aload_n hx hb dX14_jobStatement_164 rfl (lv_at hl 1 rfl) ?_
                refine mm_get (v := .ref (Ar 36)) hx hb hf_X14 (fun _ h9 => h9) hown hK hG hM.1 rfl 36 (by decide) (tb_use hT tw_1427) (fun _ h9 => h9) (mfs_g36 _ _) dX14_jobStatement_165 ?_
                refine lv_sipush (v := 400) hx hb dX14_jobStatement_168 (by decide) ?_
                refine lv_iload_n hx hb dX14_jobStatement_171 rfl (lv_at hl 2 rfl) ?_
                refine lv_imul hx hb dX14_jobStatement_172 ?_
                refine lv_bipush (v := 100) hx hb dX14_jobStatement_173 (by decide) ?_
                refine lv_iload_n hx hb dX14_jobStatement_175 rfl (lv_at hl 3 rfl) ?_
                refine lv_imul hx hb dX14_jobStatement_176 ?_
                refine lv_iadd hx hb dX14_jobStatement_177 ?_
                refine lv_iload hx hb dX14_jobStatement_178 (lv_at hl 0 rfl) ?_
                refine lv_iadd hx hb dX14_jobStatement_180 ?_
                refine lv_aload_n hx hb dX14_jobStatement_181 rfl (lv_at hl 1 rfl) ?_
                refine mm_get (v := .ref (Ar 34)) hx hb hf_X14 (fun _ h9 => h9) hown hK hG hM.1 rfl 34 (by decide) (tb_use hT tw_1425) (fun _ h9 => h9) (mfs_g34 _ _) dX14_jobStatement_182 ?_
                refine lv_iconst (v := 4) hx hb dX14_jobStatement_185 (by decide) ?_
                refine lv_iload_n hx hb dX14_jobStatement_186 rfl (lv_at hl 2 rfl) ?_
                refine lv_imul hx hb dX14_jobStatement_187 ?_
                refine lv_iload_n hx hb dX14_jobStatement_188 rfl (lv_at hl 3 rfl) ?_
                refine lv_iadd hx hb dX14_jobStatement_189 ?_
                refine mm_iald (n := 8) (f := F175 34) hx hb hK hG 1 (hM.2.1 34 rfl) rfl (by rw [show (((4 * (nI bo)) + (nI v9.nJ)) : Int32) = nI (4 * bo + v9.nJ) by show (((nI 4 * (nI bo)) + (nI v9.nJ)) : Int32) = _; simp only [nI_mu, nI_add]]; exact nI_in (N := 8) (by omega) (by decide)) dX14_jobStatement_190 ?_
                refine lv_topi (fun x178 ex178 => ?_)
                rw [show x178 = nI (kk + 1) by rw [ex178, show (((4 * (nI bo)) + (nI v9.nJ)) : Int32) = nI (4 * bo + v9.nJ) by show (((nI 4 * (nI bo)) + (nI v9.nJ)) : Int32) = _; simp only [nI_mu, nI_add], nI_clamp (by omega)]; exact g34]
                refine lv_topi (fun x179 ex179 => ?_)
                refine mm_iast (n := mdN 36) (f := F175 36) hx hb hK hG hS 1 (hM.2.1 36 rfl) rfl (by rw [show ((((400 * (nI bo)) + (100 * (nI v9.nJ))) + (nI sx9)) : Int32) = nI (400 * bo + 100 * v9.nJ + sx9) by show ((((nI 400 * (nI bo)) + (nI 100 * (nI v9.nJ))) + (nI sx9)) : Int32) = _; simp only [nI_mu, nI_add]]; exact nI_in (N := mdN 36) (by show _ < 800; omega) (by decide)) dX14_jobStatement_191 (fun H locs hG hS => ?_)
                have hM := MD.seti (k := 36) (upd (F175 36) (((400 * (nI bo)) + (100 * (nI v9.nJ))) + (nI sx9)).toNatClampNeg x179) hM rfl
                have hF := hF.wa (k := 36) (e' := .inl (cy 1, mdN 36, .inl (upd (F175 36) (((400 * (nI bo)) + (100 * (nI v9.nJ))) + (nI sx9)).toNatClampNeg x179))) rfl
                obtain ⟨F180, eF180⟩ : ∃ g, g = va_up F175 36 (upd (F175 36) (((400 * (nI bo)) + (100 * (nI v9.nJ))) + (nI sx9)).toNatClampNeg x179) := ⟨_, rfl⟩
                rw [← eF180] at hM
                have hgn := gn_MD hG hM hF
                clear hG hM hF
                obtain ⟨G181, hG, hM, hF⟩ := hgn
                rw [show ((((400 * (nI bo)) + (100 * (nI v9.nJ))) + (nI sx9)) : Int32) = nI (400 * bo + 100 * v9.nJ + sx9) by show ((((nI 400 * (nI bo)) + (nI 100 * (nI v9.nJ))) + (nI sx9)) : Int32) = _; simp only [nI_mu, nI_add], nI_clamp (by omega)] at eF180
                have p182 : F180 6 (bo) = nI (v9.nJ + 1) := by rw [eF180, va_up_ne _ _ (by decide)]; exact p176
                have p183 : F180 33 (4 * bo + v9.nJ) = Fj 33 (4 * bo + v9.nJ) := by rw [eF180, va_up_ne _ _ (by decide)]; exact p177
                have p184 : F180 34 (4 * bo + v9.nJ) = nI (kk + 1) := by rw [eF180, va_up_ne _ _ (by decide)]; exact g34
                have p185 : F180 35 (400 * bo + (100 * v9.nJ + kk)) = 25 := by rw [eF180, va_up_ne _ _ (by decide)]; exact g35
                have p186 : F180 36 (400 * bo + (100 * v9.nJ + kk)) = (nI sx9) := by rw [eF180, va_up_self, pk_un (by omega)]; exact g36
                have p187 : F180 37 (400 * bo + (100 * v9.nJ + kk)) = 0 := by rw [eF180, va_up_ne _ _ (by decide)]; exact g37
                have p188 : F180 36 (400 * bo + 100 * v9.nJ + sx9) = nI (kk + 1) := by rw [eF180, va_up_self, pk_us, ex179]
                have hFr : FrW (wJ bo v9.nJ) F F180 := by rw [eF180]; exact hFr.up (by unfold wJ; omega)
                have hFr9 : FrW (wQ bo v9.nJ kk sx9) Fj F180 := by rw [eF180]; exact hFr9.up (by unfold wQ; omega)
                have hQ : LXq Ar Ij F180 ft sx fr en bo qj := by rw [eF180]; exact hQ.wF (by decide)
                have hC : CLq Ij F180 ft en clj cj := by rw [eF180]; exact hC.wF (by decide)
                refine lv_aload_n hx hb dX14_jobStatement_192 rfl (lv_at hl 1 rfl) ?_
                refine lv_dup hx hb dX14_jobStatement_193 rfl ?_
                refine mm_get (v := .int (Ij 57)) hx hb hf_X14 (fun _ h9 => h9) hown hK hG hM.1 rfl 57 (by decide) (tb_use hT tw_1448) (fun _ h9 => h9) (mfs_g57 _ _) dX14_jobStatement_194 ?_
                rw [i57]
                refine lv_iconst (v := 1) hx hb dX14_jobStatement_197 (by decide) ?_
                refine lv_isub hx hb dX14_jobStatement_198 ?_
                rw [show nI on - 1 = nI (on - 1) from g_pred (by omega)]
                refine lv_topi (fun x189 ex189 => ?_)
                refine mm_put (v := .int x189) (ty := .int) hx hb hf_X14 (fun _ h9 => h9) tyX14 tyX14_ok nmX14 hown hK hG hS hM.1 rfl 57 (by decide) (tb_use hT tw_1448) (fun _ h9 => h9) rfl (by decide +kernel) rfl rfl (mfs_l57 _ _) dX14_jobStatement_199 (fun H locs hG hS => ?_)
                have hM := MD.puti (k := 57) (v := x189) hM (mfs_s57 _ _ _)
                have hF := hF.wo (e' := .inr (15, (mfs Ar Ij).set 57 (.int x189)))
                obtain ⟨I190, eI190⟩ : ∃ g, g = upd Ij 57 x189 := ⟨_, rfl⟩
                rw [← eI190] at hM
                have hgn := gn_MD hG hM hF
                clear hG hM hF
                obtain ⟨G191, hG, hM, hF⟩ := hgn
                have p192 : I190 56 = nI ta := by rw [eI190]; exact (pk_un (by decide)).trans i56
                have p193 : I190 57 = nI (on - 1) := by rw [eI190, pk_us, ex189]
                have hIZ : IZ I190 = IZ Iv := by rw [eI190, IZ_up (by decide)]; exact hIZ
                have hQ : LXq Ar I190 F180 ft sx fr en bo qj := by rw [eI190]; exact hQ.wI (by decide)
                have hC : CLq I190 F180 ft en clj cj := by rw [eI190]; exact hC.wI (by decide)
                refine lv_aload_n hx hb dX14_jobStatement_202 rfl (lv_at hl 1 rfl) ?_
                refine va_callv (va_runV (As := []) (rest := []) ⟨hx, hb, hml, hown, (fun _ h9 => absurd h9 List.not_mem_nil : ∀ w ∈ ([] : List Cond), w.before _ s = true)⟩ (c_M_nextq l D cy A X hst hXT G191 o Ar I190 F180 L ft sx fr en bo qj hM hQ hnq.1 (by have z := hnq.2; omega) (by have z := hnq.2; omega)) (tb_cw (C := RX14) 0 hT tw_1640 tw_109 tw_1637 tw_1639 tw_62 rfl rfl hq_X14_next ⟨Nat.le_of_ble_eq_true rfl, Nat.le_of_ble_eq_true rfl⟩) (mk_preC hst hG hK hA hX hS vc_15 hM.1) rfl rfl hl.1 rfl (lv_room (Nat.le_of_ble_eq_true rfl)) dX14_jobStatement_203 ⟨Nat.le_of_ble_eq_true rfl, Nat.le_of_ble_eq_true rfl⟩) hS (fun q _ h => h) (fun q h => h) (fun  G194 t H locs ht hvm hw hB hz1 hk1 hS => ?_)
                have hG : mm D vwCl A G194 H := by rw [← ht]; exact hB
                clear hB hz1 hk1 hvm ht
                obtain ⟨a195, ea195⟩ : ∃ y, y = (qj.1 + 1, qj.2) := ⟨_, rfl⟩
                rw [← ea195] at hw
                obtain ⟨I196, F197, hM2, hF2, hQ2, hI2, hX2⟩ := hw
                replace hF := hF.tr hF2; replace hM := hM2; clear hM2 hF2
                have hQ := hQ2; have hIZ := (IZ_x hI2).trans hIZ; have hFr := hFr.fx hX2; have hC := hC.fx hI2 hX2
                have hFr9 := hFr9.fx hX2
                have p198 : F197 6 (bo) = nI (v9.nJ + 1) := (congrFun (FXe hX2 (by decide)) _).trans p182
                have p199 : F197 33 (4 * bo + v9.nJ) = Fj 33 (4 * bo + v9.nJ) := (congrFun (FXe hX2 (by decide)) _).trans p183
                have p200 : F197 34 (4 * bo + v9.nJ) = nI (kk + 1) := (congrFun (FXe hX2 (by decide)) _).trans p184
                have p201 : F197 35 (400 * bo + (100 * v9.nJ + kk)) = 25 := (congrFun (FXe hX2 (by decide)) _).trans p185
                have p202 : F197 36 (400 * bo + (100 * v9.nJ + kk)) = (nI sx9) := (congrFun (FXe hX2 (by decide)) _).trans p186
                have p203 : F197 37 (400 * bo + (100 * v9.nJ + kk)) = 0 := (congrFun (FXe hX2 (by decide)) _).trans p187
                have p204 : F197 36 (400 * bo + 100 * v9.nJ + sx9) = nI (kk + 1) := (congrFun (FXe hX2 (by decide)) _).trans p188
                have p205 : I196 56 = nI ta := (IXe hI2 (by decide)).trans p192
                have p206 : I196 57 = nI (on - 1) := (IXe hI2 (by decide)).trans p193
                clear hI2 hX2 hQ2
                have ga195 : qj.1 ≤ a195.1 := by rw [ea195]; exact ge_next
                have da195 : a195.2 < 0 → _ := fun z => ad_next hSn (by rw [← ea195]; exact z)
                rw [← ea195] at da195
                have hc1 : cj ≤ a195.1 + 1 := by omega
                have hc2 : a195.2 < 0 → cj ≤ a195.1 := fun z => by have := da195 z; omega
                refine lv_goto (tgt := 93) hx hb dX14_jobStatement_206 (by decide) ?_
                have hqt : q_take (tkK ft en) (tkS ft en) 5 qj = a195 := by unfold q_take; rw [if_pos hse5, ea195]
                have hR2 : q_ops (tkK ft en) (tkS ft en) (tkV ft en) n (kk + 1) ta (on - 1) wf (q_clw kk sx9 dj) a195 = RP := by rw [← hR, q_ops, if_pos ⟨hon, hse5⟩, hwx, nI_clamp (by omega), hqt]
                have hcr2 : a195.2 < 0 → clj ++ clOs (tkK ft en) (tkS ft en) (tkV ft en) v9.nJ n (kk + 1) ta (on - 1) wf a195 = CR := fun z => by rw [← hcr hgd, clOs, if_pos ⟨hon, hse5⟩, hqt]
                have hOp2 : a195.2 < 0 → ∀ i, i < kk + 1 → OPf (tkK ft en) (tkV ft en) (a195.1 + 1) F197 (400 * bo + (100 * v9.nJ + i)) (q_clw kk sx9 dj i) := by
                  intro z i hi
                  unfold q_clw upO
                  by_cases y1 : i = kk
                  · rw [if_pos y1, y1]
                    exact ⟨p201, (fun z => absurd z (show ¬ (5 : Nat) = 25 by decide)), (fun z => absurd z (show ¬ (5 : Nat) = 26 by decide)), (fun _ => p202)⟩
                  · rw [if_neg y1]
                    by_cases y2 : i = sx9
                    · rw [if_pos y2, y2]
                      have w1 := hOp hgd sx9 hs1
                      refine ⟨(hFr9 35 _ (by unfold lxA; omega) (by unfold wQ; omega)).trans w1.1, (fun z => by dsimp only at z; omega), (fun z => by dsimp only at z; omega), (fun _ => ?_)⟩
                      rw [show 400 * bo + (100 * v9.nJ + sx9) = 400 * bo + 100 * v9.nJ + sx9 by omega]
                      exact p204
                    · rw [if_neg y2]
                      exact (hOp hgd i (by omega)).mv (by omega) (hFr9 35 _ (by unfold lxA; omega) (by unfold wQ; omega)) (hFr9 36 _ (by unfold lxA; omega) (by unfold wQ; omega)) (hFr9 37 _ (by unfold lxA; omega) (by unfold wQ; omega))
                have hwf3 : a195.2 < 0 → ∀ i, i < on - 1 → ∃ sx, sx < kk + 1 ∧ wf i = nI sx ∧ (q_clw kk sx9 dj sx).1 = 34 := by
                  intro z i hi
                  obtain ⟨sx, y1, y2, y3⟩ := hwf2 hgd i (by omega)
                  refine ⟨sx, by omega, y2, ?_⟩
                  unfold q_clw upO
                  rw [if_neg (by omega)]
                  by_cases y4 : sx = sx9
                  · rw [if_pos y4]; exact hs3
                  · rw [if_neg y4]; exact y3
                exact ih (kk + 1) (ta) (on - 1) a195 wf (q_clw kk sx9 dj) I196 F197 clj (cj) x3 x4 x5 CR RP st9 a33 hR2 (Or.inl (by omega)) hlim hqs hcr2 hCR hQ hC hc1 hIZ hFr (by omega) p198 (fun z => by rw [p199]; exact (h33 hgd).mono (by omega)) (fun _ => p200) (fun _ => p205) (fun _ => p206) (fun _ => ⟨by omega, by omega, by omega⟩) (fun _ => ⟨fun z => (hwf hgd).1 (by omega), fun z => (hwf hgd).2.1 (by omega), fun z => (hwf hgd).2.2 (by omega)⟩) hwf3 hOp2 G194 hM hF _ _ hG hS ls (lv_sub hl [1, 2, 3, 4, 5, 6] rfl)
            · skip
              refine lv_iload hx hb dX14_jobStatement_133 (lv_at hl 5 rfl) ?_
              refine lv_goto (tgt := 152) hx hb dX14_jobStatement_135 (by decide) ?_
              have hon3 : on = 3 := nI_inj (by omega) (by decide) c_130
              obtain ⟨sx9, hs1, hs2, hs3⟩ := hwf2 hgd 2 (by omega)
              have hwx : wf (on - 1) = nI sx9 := by rw [hon3]; exact hs2
              rw [show x5 = nI sx9 from ((hwf hgd).2.2 (by omega)).trans hs2]
              refine lv_istore (lv' := [(6, .int (nI sx9)), (0, .ref o), (1, .int (nI bo)), (2, .int (nI v9.nJ)), (3, .int x3), (4, .int x4), (5, .int x5)]) hx hb dX14_jobStatement_152 hl (by decide) rfl (fun ls hl => ?_)
              have hFr9 : FrW (wQ bo v9.nJ kk sx9) Fj Fj := FrW.rf
              refine lv_aload_n hx hb dX14_jobStatement_154 rfl (lv_at hl 1 rfl) ?_
              refine lv_iload_n hx hb dX14_jobStatement_155 rfl (lv_at hl 3 rfl) ?_
              refine lv_bipush (v := 25) hx hb dX14_jobStatement_156 (by decide) ?_
              refine lv_iload hx hb dX14_jobStatement_158 (lv_at hl 0 rfl) ?_
              refine lv_iconst (v := 0) hx hb dX14_jobStatement_160 (by decide) ?_
              refine va_callv (va_runV (As := [.int (nI v9.nJ), .int 25, .int (nI sx9), .int 0]) (rest := []) ⟨hx, hb, hml, hown, (fun _ h9 => absurd h9 List.not_mem_nil : ∀ w ∈ ([] : List Cond), w.before _ s = true)⟩ (c_M_addOp l D cy A X hst hXT Gv o Ar Ij Fj L ft sx fr en bo qj clj cj v9.nJ kk 25 (nI sx9) 0 hM hQ hC hlim (by omega) i34) (tb_cw (C := RX14) 4 hT tw_1766 tw_109 tw_1763 tw_1765 tw_85 rfl rfl hq_X14_addOp ⟨Nat.le_of_ble_eq_true rfl, Nat.le_of_ble_eq_true rfl⟩) (mk_preC hst hG hK hA hX hS vc_15 hM.1) rfl rfl hl.1 rfl (lv_room (Nat.le_of_ble_eq_true rfl)) dX14_jobStatement_161 ⟨Nat.le_of_ble_eq_true rfl, Nat.le_of_ble_eq_true rfl⟩) hS (fun q _ h => h) (fun q h => h) (fun  G207 t H locs ht hvm hw hB hz1 hk1 hS => ?_)
              have hG : mm D vwCl A G207 H := by rw [← ht]; exact hB
              clear hB hz1 hk1 hvm ht
              obtain ⟨F208, hM2, hF2, hQ2, hC2, hFr2, g34, g35, g36, g37⟩ := hw
              replace hF := hF.tr hF2; replace hM := hM2; clear hM2 hF2
              have hQ := hQ2; have hC := hC2; clear hQ2 hC2
              have hFr : FrW (wJ bo v9.nJ) F F208 := hFr.tr (hFr2.mono (fun k i z => by unfold wO at z; unfold wJ; omega))
              have hFr9 : FrW (wQ bo v9.nJ kk sx9) Fj F208 := hFr9.tr (hFr2.mono (fun k i z => by unfold wO at z; unfold wQ; omega))
              have p209 : F208 6 (bo) = nI (v9.nJ + 1) := (hFr2 6 (bo) (by unfold lxA; omega) (by unfold wO; omega)).trans h6
              have p210 : F208 33 (4 * bo + v9.nJ) = Fj 33 (4 * bo + v9.nJ) := (hFr2 33 (4 * bo + v9.nJ) (by unfold lxA; omega) (by unfold wO; omega)).trans rfl
              refine lv_aload_n hx hb dX14_jobStatement_164 rfl (lv_at hl 1 rfl) ?_
              refine mm_get (v := .ref (Ar 36)) hx hb hf_X14 (fun _ h9 => h9) hown hK hG hM.1 rfl 36 (by decide) (tb_use hT tw_1427) (fun _ h9 => h9) (mfs_g36 _ _) dX14_jobStatement_165 ?_
              refine lv_sipush (v := 400) hx hb dX14_jobStatement_168 (by decide) ?_
              refine lv_iload_n hx hb dX14_jobStatement_171 rfl (lv_at hl 2 rfl) ?_
              refine lv_imul hx hb dX14_jobStatement_172 ?_
              refine lv_bipush (v := 100) hx hb dX14_jobStatement_173 (by decide) ?_
              refine lv_iload_n hx hb dX14_jobStatement_175 rfl (lv_at hl 3 rfl) ?_
              refine lv_imul hx hb dX14_jobStatement_176 ?_
              refine lv_iadd hx hb dX14_jobStatement_177 ?_
              refine lv_iload hx hb dX14_jobStatement_178 (lv_at hl 0 rfl) ?_
              refine lv_iadd hx hb dX14_jobStatement_180 ?_
              refine lv_aload_n hx hb dX14_jobStatement_181 rfl (lv_at hl 1 rfl) ?_
              refine mm_get (v := .ref (Ar 34)) hx hb hf_X14 (fun _ h9 => h9) hown hK hG hM.1 rfl 34 (by decide) (tb_use hT tw_1425) (fun _ h9 => h9) (mfs_g34 _ _) dX14_jobStatement_182 ?_
              refine lv_iconst (v := 4) hx hb dX14_jobStatement_185 (by decide) ?_
              refine lv_iload_n hx hb dX14_jobStatement_186 rfl (lv_at hl 2 rfl) ?_
              refine lv_imul hx hb dX14_jobStatement_187 ?_
              refine lv_iload_n hx hb dX14_jobStatement_188 rfl (lv_at hl 3 rfl) ?_
              refine lv_iadd hx hb dX14_jobStatement_189 ?_
              refine mm_iald (n := 8) (f := F208 34) hx hb hK hG 1 (hM.2.1 34 rfl) rfl (by rw [show (((4 * (nI bo)) + (nI v9.nJ)) : Int32) = nI (4 * bo + v9.nJ) by show (((nI 4 * (nI bo)) + (nI v9.nJ)) : Int32) = _; simp only [nI_mu, nI_add]]; exact nI_in (N := 8) (by omega) (by decide)) dX14_jobStatement_190 ?_
              refine lv_topi (fun x211 ex211 => ?_)
              rw [show x211 = nI (kk + 1) by rw [ex211, show (((4 * (nI bo)) + (nI v9.nJ)) : Int32) = nI (4 * bo + v9.nJ) by show (((nI 4 * (nI bo)) + (nI v9.nJ)) : Int32) = _; simp only [nI_mu, nI_add], nI_clamp (by omega)]; exact g34]
              refine lv_topi (fun x212 ex212 => ?_)
              refine mm_iast (n := mdN 36) (f := F208 36) hx hb hK hG hS 1 (hM.2.1 36 rfl) rfl (by rw [show ((((400 * (nI bo)) + (100 * (nI v9.nJ))) + (nI sx9)) : Int32) = nI (400 * bo + 100 * v9.nJ + sx9) by show ((((nI 400 * (nI bo)) + (nI 100 * (nI v9.nJ))) + (nI sx9)) : Int32) = _; simp only [nI_mu, nI_add]]; exact nI_in (N := mdN 36) (by show _ < 800; omega) (by decide)) dX14_jobStatement_191 (fun H locs hG hS => ?_)
              have hM := MD.seti (k := 36) (upd (F208 36) (((400 * (nI bo)) + (100 * (nI v9.nJ))) + (nI sx9)).toNatClampNeg x212) hM rfl
              have hF := hF.wa (k := 36) (e' := .inl (cy 1, mdN 36, .inl (upd (F208 36) (((400 * (nI bo)) + (100 * (nI v9.nJ))) + (nI sx9)).toNatClampNeg x212))) rfl
              obtain ⟨F213, eF213⟩ : ∃ g, g = va_up F208 36 (upd (F208 36) (((400 * (nI bo)) + (100 * (nI v9.nJ))) + (nI sx9)).toNatClampNeg x212) := ⟨_, rfl⟩
              rw [← eF213] at hM
              have hgn := gn_MD hG hM hF
              clear hG hM hF
              obtain ⟨G214, hG, hM, hF⟩ := hgn
              rw [show ((((400 * (nI bo)) + (100 * (nI v9.nJ))) + (nI sx9)) : Int32) = nI (400 * bo + 100 * v9.nJ + sx9) by show ((((nI 400 * (nI bo)) + (nI 100 * (nI v9.nJ))) + (nI sx9)) : Int32) = _; simp only [nI_mu, nI_add], nI_clamp (by omega)] at eF213
              have p215 : F213 6 (bo) = nI (v9.nJ + 1) := by rw [eF213, va_up_ne _ _ (by decide)]; exact p209
              have p216 : F213 33 (4 * bo + v9.nJ) = Fj 33 (4 * bo + v9.nJ) := by rw [eF213, va_up_ne _ _ (by decide)]; exact p210
              have p217 : F213 34 (4 * bo + v9.nJ) = nI (kk + 1) := by rw [eF213, va_up_ne _ _ (by decide)]; exact g34
              have p218 : F213 35 (400 * bo + (100 * v9.nJ + kk)) = 25 := by rw [eF213, va_up_ne _ _ (by decide)]; exact g35
              have p219 : F213 36 (400 * bo + (100 * v9.nJ + kk)) = (nI sx9) := by rw [eF213, va_up_self, pk_un (by omega)]; exact g36
              have p220 : F213 37 (400 * bo + (100 * v9.nJ + kk)) = 0 := by rw [eF213, va_up_ne _ _ (by decide)]; exact g37
              have p221 : F213 36 (400 * bo + 100 * v9.nJ + sx9) = nI (kk + 1) := by rw [eF213, va_up_self, pk_us, ex212]
              have hFr : FrW (wJ bo v9.nJ) F F213 := by rw [eF213]; exact hFr.up (by unfold wJ; omega)
              have hFr9 : FrW (wQ bo v9.nJ kk sx9) Fj F213 := by rw [eF213]; exact hFr9.up (by unfold wQ; omega)
              have hQ : LXq Ar Ij F213 ft sx fr en bo qj := by rw [eF213]; exact hQ.wF (by decide)
              have hC : CLq Ij F213 ft en clj cj := by rw [eF213]; exact hC.wF (by decide)
              refine lv_aload_n hx hb dX14_jobStatement_192 rfl (lv_at hl 1 rfl) ?_
              refine lv_dup hx hb dX14_jobStatement_193 rfl ?_
              refine mm_get (v := .int (Ij 57)) hx hb hf_X14 (fun _ h9 => h9) hown hK hG hM.1 rfl 57 (by decide) (tb_use hT tw_1448) (fun _ h9 => h9) (mfs_g57 _ _) dX14_jobStatement_194 ?_
              rw [i57]
              refine lv_iconst (v := 1) hx hb dX14_jobStatement_197 (by decide) ?_
              refine lv_isub hx hb dX14_jobStatement_198 ?_
              rw [show nI on - 1 = nI (on - 1) from g_pred (by omega)]
              refine lv_topi (fun x222 ex222 => ?_)
              refine mm_put (v := .int x222) (ty := .int) hx hb hf_X14 (fun _ h9 => h9) tyX14 tyX14_ok nmX14 hown hK hG hS hM.1 rfl 57 (by decide) (tb_use hT tw_1448) (fun _ h9 => h9) rfl (by decide +kernel) rfl rfl (mfs_l57 _ _) dX14_jobStatement_199 (fun H locs hG hS => ?_)
              have hM := MD.puti (k := 57) (v := x222) hM (mfs_s57 _ _ _)
              have hF := hF.wo (e' := .inr (15, (mfs Ar Ij).set 57 (.int x222)))
              obtain ⟨I223, eI223⟩ : ∃ g, g = upd Ij 57 x222 := ⟨_, rfl⟩
              rw [← eI223] at hM
              have hgn := gn_MD hG hM hF
              clear hG hM hF
              obtain ⟨G224, hG, hM, hF⟩ := hgn
              have p225 : I223 56 = nI ta := by rw [eI223]; exact (pk_un (by decide)).trans i56
              have p226 : I223 57 = nI (on - 1) := by rw [eI223, pk_us, ex222]
              have hIZ : IZ I223 = IZ Iv := by rw [eI223, IZ_up (by decide)]; exact hIZ
              have hQ : LXq Ar I223 F213 ft sx fr en bo qj := by rw [eI223]; exact hQ.wI (by decide)
              have hC : CLq I223 F213 ft en clj cj := by rw [eI223]; exact hC.wI (by decide)
              refine lv_aload_n hx hb dX14_jobStatement_202 rfl (lv_at hl 1 rfl) ?_
              refine va_callv (va_runV (As := []) (rest := []) ⟨hx, hb, hml, hown, (fun _ h9 => absurd h9 List.not_mem_nil : ∀ w ∈ ([] : List Cond), w.before _ s = true)⟩ (c_M_nextq l D cy A X hst hXT G224 o Ar I223 F213 L ft sx fr en bo qj hM hQ hnq.1 (by have z := hnq.2; omega) (by have z := hnq.2; omega)) (tb_cw (C := RX14) 0 hT tw_1640 tw_109 tw_1637 tw_1639 tw_62 rfl rfl hq_X14_next ⟨Nat.le_of_ble_eq_true rfl, Nat.le_of_ble_eq_true rfl⟩) (mk_preC hst hG hK hA hX hS vc_15 hM.1) rfl rfl hl.1 rfl (lv_room (Nat.le_of_ble_eq_true rfl)) dX14_jobStatement_203 ⟨Nat.le_of_ble_eq_true rfl, Nat.le_of_ble_eq_true rfl⟩) hS (fun q _ h => h) (fun q h => h) (fun  G227 t H locs ht hvm hw hB hz1 hk1 hS => ?_)
              have hG : mm D vwCl A G227 H := by rw [← ht]; exact hB
              clear hB hz1 hk1 hvm ht
              obtain ⟨a228, ea228⟩ : ∃ y, y = (qj.1 + 1, qj.2) := ⟨_, rfl⟩
              rw [← ea228] at hw
              obtain ⟨I229, F230, hM2, hF2, hQ2, hI2, hX2⟩ := hw
              replace hF := hF.tr hF2; replace hM := hM2; clear hM2 hF2
              have hQ := hQ2; have hIZ := (IZ_x hI2).trans hIZ; have hFr := hFr.fx hX2; have hC := hC.fx hI2 hX2
              have hFr9 := hFr9.fx hX2
              have p231 : F230 6 (bo) = nI (v9.nJ + 1) := (congrFun (FXe hX2 (by decide)) _).trans p215
              have p232 : F230 33 (4 * bo + v9.nJ) = Fj 33 (4 * bo + v9.nJ) := (congrFun (FXe hX2 (by decide)) _).trans p216
              have p233 : F230 34 (4 * bo + v9.nJ) = nI (kk + 1) := (congrFun (FXe hX2 (by decide)) _).trans p217
              have p234 : F230 35 (400 * bo + (100 * v9.nJ + kk)) = 25 := (congrFun (FXe hX2 (by decide)) _).trans p218
              have p235 : F230 36 (400 * bo + (100 * v9.nJ + kk)) = (nI sx9) := (congrFun (FXe hX2 (by decide)) _).trans p219
              have p236 : F230 37 (400 * bo + (100 * v9.nJ + kk)) = 0 := (congrFun (FXe hX2 (by decide)) _).trans p220
              have p237 : F230 36 (400 * bo + 100 * v9.nJ + sx9) = nI (kk + 1) := (congrFun (FXe hX2 (by decide)) _).trans p221
              have p238 : I229 56 = nI ta := (IXe hI2 (by decide)).trans p225
              have p239 : I229 57 = nI (on - 1) := (IXe hI2 (by decide)).trans p226
              clear hI2 hX2 hQ2
              have ga228 : qj.1 ≤ a228.1 := by rw [ea228]; exact ge_next
              have da228 : a228.2 < 0 → _ := fun z => ad_next hSn (by rw [← ea228]; exact z)
              rw [← ea228] at da228
              have hc1 : cj ≤ a228.1 + 1 := by omega
              have hc2 : a228.2 < 0 → cj ≤ a228.1 := fun z => by have := da228 z; omega
              refine lv_goto (tgt := 93) hx hb dX14_jobStatement_206 (by decide) ?_
              have hqt : q_take (tkK ft en) (tkS ft en) 5 qj = a228 := by unfold q_take; rw [if_pos hse5, ea228]
              have hR2 : q_ops (tkK ft en) (tkS ft en) (tkV ft en) n (kk + 1) ta (on - 1) wf (q_clw kk sx9 dj) a228 = RP := by rw [← hR, q_ops, if_pos ⟨hon, hse5⟩, hwx, nI_clamp (by omega), hqt]
              have hcr2 : a228.2 < 0 → clj ++ clOs (tkK ft en) (tkS ft en) (tkV ft en) v9.nJ n (kk + 1) ta (on - 1) wf a228 = CR := fun z => by rw [← hcr hgd, clOs, if_pos ⟨hon, hse5⟩, hqt]
              have hOp2 : a228.2 < 0 → ∀ i, i < kk + 1 → OPf (tkK ft en) (tkV ft en) (a228.1 + 1) F230 (400 * bo + (100 * v9.nJ + i)) (q_clw kk sx9 dj i) := by
                intro z i hi
                unfold q_clw upO
                by_cases y1 : i = kk
                · rw [if_pos y1, y1]
                  exact ⟨p234, (fun z => absurd z (show ¬ (5 : Nat) = 25 by decide)), (fun z => absurd z (show ¬ (5 : Nat) = 26 by decide)), (fun _ => p235)⟩
                · rw [if_neg y1]
                  by_cases y2 : i = sx9
                  · rw [if_pos y2, y2]
                    have w1 := hOp hgd sx9 hs1
                    refine ⟨(hFr9 35 _ (by unfold lxA; omega) (by unfold wQ; omega)).trans w1.1, (fun z => by dsimp only at z; omega), (fun z => by dsimp only at z; omega), (fun _ => ?_)⟩
                    rw [show 400 * bo + (100 * v9.nJ + sx9) = 400 * bo + 100 * v9.nJ + sx9 by omega]
                    exact p237
                  · rw [if_neg y2]
                    exact (hOp hgd i (by omega)).mv (by omega) (hFr9 35 _ (by unfold lxA; omega) (by unfold wQ; omega)) (hFr9 36 _ (by unfold lxA; omega) (by unfold wQ; omega)) (hFr9 37 _ (by unfold lxA; omega) (by unfold wQ; omega))
              have hwf3 : a228.2 < 0 → ∀ i, i < on - 1 → ∃ sx, sx < kk + 1 ∧ wf i = nI sx ∧ (q_clw kk sx9 dj sx).1 = 34 := by
                intro z i hi
                obtain ⟨sx, y1, y2, y3⟩ := hwf2 hgd i (by omega)
                refine ⟨sx, by omega, y2, ?_⟩
                unfold q_clw upO
                rw [if_neg (by omega)]
                by_cases y4 : sx = sx9
                · rw [if_pos y4]; exact hs3
                · rw [if_neg y4]; exact y3
              exact ih (kk + 1) (ta) (on - 1) a228 wf (q_clw kk sx9 dj) I229 F230 clj (cj) x3 x4 x5 CR RP st9 a33 hR2 (Or.inl (by omega)) hlim hqs hcr2 hCR hQ hC hc1 hIZ hFr (by omega) p231 (fun z => by rw [p232]; exact (h33 hgd).mono (by omega)) (fun _ => p233) (fun _ => p238) (fun _ => p239) (fun _ => ⟨by omega, by omega, by omega⟩) (fun _ => ⟨fun z => (hwf hgd).1 (by omega), fun z => (hwf hgd).2.1 (by omega), fun z => (hwf hgd).2.2 (by omega)⟩) hwf3 hOp2 G227 hM hF _ _ hG hS ls (lv_sub hl [1, 2, 3, 4, 5, 6] rfl)
        · skip
          refine lv_aload_n hx hb dX14_jobStatement_107 rfl (lv_at hl 0 rfl) ?_
          refine lv_bipush (v := 125) hx hb dX14_jobStatement_108 (by decide) ?_
          refine va_calli (va_runV (As := [.int 125]) (rest := []) ⟨hx, hb, hml, hown, (fun _ h9 => absurd h9 List.not_mem_nil : ∀ w ∈ ([] : List Cond), w.before _ s = true)⟩ (c_M_isSign l D cy A X hst hXT Gv o Ar Ij Fj L 125 hM) (tb_cw (C := RX14) 1 hT tw_1729 tw_109 tw_1726 tw_1728 tw_76 rfl rfl hq_X14_isSign ⟨Nat.le_of_ble_eq_true rfl, Nat.le_of_ble_eq_true rfl⟩) (mk_preC hst hG hK hA hX hS vc_15 hM.1) rfl rfl hl.1 rfl (lv_room (Nat.le_of_ble_eq_true rfl)) dX14_jobStatement_110 ⟨Nat.le_of_ble_eq_true rfl, Nat.le_of_ble_eq_true rfl⟩) hS (fun q _ h => h) (fun q h => h) (fun r240 G241 t H locs ht hvm hw hB hz1 hk1 hS => ?_)
          have hG : mm D vwCl A G241 H := by rw [← ht]; exact hB
          clear hB hz1 hk1 hvm ht
          obtain ⟨er240, hw⟩ := hw
          rw [hw] at hG
          rw [hQ.isS (w := 5) (y := 125) rfl (by decide) (by decide)] at er240
          refine lv_if_ne (tgt := 358) hx hb dX14_jobStatement_113 (by decide) (fun c_113 => ?_) (fun c_113 => ?_)
          · skip
            refine lv_aload_n hx hb dX14_jobStatement_358 rfl (lv_at hl 0 rfl) ?_
            refine lv_bipush (v := 125) hx hb dX14_jobStatement_359 (by decide) ?_
            refine va_callv (va_runV (As := [.int 125]) (rest := []) ⟨hx, hb, hml, hown, (fun _ h9 => absurd h9 List.not_mem_nil : ∀ w ∈ ([] : List Cond), w.before _ s = true)⟩ (c_M_mark l D cy A X hst hXT Gv o Ar Ij Fj L ft sx fr en bo qj 5 hM hQ (by decide) (by decide)) (tb_cw (C := RX14) 1 hT tw_1717 tw_109 tw_1714 tw_1716 tw_73 rfl rfl hq_X14_mark ⟨Nat.le_of_ble_eq_true rfl, Nat.le_of_ble_eq_true rfl⟩) (mk_preC hst hG hK hA hX hS vc_15 hM.1) rfl rfl hl.1 rfl (lv_room (Nat.le_of_ble_eq_true rfl)) dX14_jobStatement_361 ⟨Nat.le_of_ble_eq_true rfl, Nat.le_of_ble_eq_true rfl⟩) hS (fun q _ h => h) (fun q h => h) (fun  G242 t H locs ht hvm hw hB hz1 hk1 hS => ?_)
            have hG : mm D vwCl A G242 H := by rw [← ht]; exact hB
            clear hB hz1 hk1 hvm ht
            obtain ⟨a243, ea243⟩ : ∃ y, y = q_take (tkK ft en) (tkS ft en) 5 qj := ⟨_, rfl⟩
            rw [← ea243] at hw
            obtain ⟨I244, F245, hM2, hF2, hQ2, hI2, hX2⟩ := hw
            replace hF := hF.tr hF2; replace hM := hM2; clear hM2 hF2
            have hQ := hQ2; have hIZ := (IZ_x hI2).trans hIZ; have hFr := hFr.fx hX2; have hC := hC.fx hI2 hX2
            have hXX := hX2.trans hXX
            have p246 : F245 6 (bo) = nI (v9.nJ + 1) := (congrFun (FXe hX2 (by decide)) _).trans h6
            have p247 : F245 33 (4 * bo + v9.nJ) = Fj 33 (4 * bo + v9.nJ) := (congrFun (FXe hX2 (by decide)) _).trans rfl
            have p248 : F245 34 (4 * bo + v9.nJ) = nI kk := (congrFun (FXe hX2 (by decide)) _).trans i34
            have p249 : I244 56 = nI ta := (IXe hI2 (by decide)).trans i56
            have p250 : I244 57 = nI on := (IXe hI2 (by decide)).trans i57
            clear hI2 hX2 hQ2
            have ga243 : qj.1 ≤ a243.1 := by rw [ea243]; exact ge_take
            have da243 : a243.2 < 0 → _ := fun z => ad_take hSn (by rw [← ea243]; exact z)
            rw [← ea243] at da243
            have hc1 : cj ≤ a243.1 + 1 := by omega
            have hc2 : a243.2 < 0 → cj ≤ a243.1 := fun z => by have := da243 z; omega
            have hk5 : tkK ft en qj.1 = 5 := (se_t (b2i_t (by rw [← er240]; exact c_113) : se (tkK ft en) qj.1 qj.2 5 = true)).2
            have hon0 : on = 0 := by rcases Nat.eq_zero_or_pos on with z | z; exact z; exact absurd (nI_lt (a := 0) z (by omega)) c_104
            have hn1 : ¬ (0 < on ∧ se (tkK ft en) qj.1 qj.2 5 = true) := fun z => by omega
            have hn2 : ¬ (isO (tkK ft en qj.1) = true ∧ qj.2 < 0) := fun z => by rw [hk5] at z; exact absurd z.1 (by decide)
            have hRe : RP = (kk, dj, qj) := by rw [← hR]; exact q_ops_st hn1 hn2
            have hqe : (q_job (tkK ft en) (tkS ft en) (tkV ft en) v9.nJ q (fun _ => 0)) = (a243, (st9, a33), (kk, dj)) := by rw [hqs, hRe, ea243]
            exact W.vret hx hb hr (fun t ht hW => ⟨⟨_, rfl, ⟨_, _, _, hM, hF, (by rw [hqe]; exact hQ), hIZ, hFr, (by rw [hqe]; exact hC.le (by (try dsimp only); omega)), (by rw [hqe]; (try dsimp only); omega), (by rw [hqe]; intro z; dsimp only at z ⊢; have y := da243 z; exact ⟨⟨hlim, (congrFun (FXe hXX (by decide : ¬ (6 = 0 ∨ 6 = 7 ∨ 6 = 8))) _).trans h6, ((h33 y.1).mono (by omega)).cg (congrFun (FXe hXX (by decide : ¬ (33 = 0 ∨ 33 = 7 ∨ 33 = 8))) _).symm, (congrFun (FXe hXX (by decide : ¬ (34 = 0 ∨ 34 = 7 ∨ 34 = 8))) _).trans (h34 y.1), (by omega), fun i hi => (hOp y.1 i hi).mv (by omega) (congrFun (FXe hXX (by decide : ¬ (35 = 0 ∨ 35 = 7 ∨ 35 = 8))) _) (congrFun (FXe hXX (by decide : ¬ (36 = 0 ∨ 36 = 7 ∨ 36 = 8))) _) (congrFun (FXe hXX (by decide : ¬ (37 = 0 ∨ 37 = 7 ∨ 37 = 8))) _)⟩, (by rw [← hCR, ← hcr y.1, clOs_st hn1 hn2, List.append_nil])⟩)⟩, mk_end hG ht⟩, hS.F ht⟩) hS.2.2 dX14_jobStatement_364
          · skip
            refine lv_aload_n hx hb dX14_jobStatement_116 rfl (lv_at hl 0 rfl) ?_
            refine lv_bipush (v := 125) hx hb dX14_jobStatement_117 (by decide) ?_
            refine va_calli (va_runV (As := [.int 125]) (rest := []) ⟨hx, hb, hml, hown, (fun _ h9 => absurd h9 List.not_mem_nil : ∀ w ∈ ([] : List Cond), w.before _ s = true)⟩ (c_M_isSign l D cy A X hst hXT Gv o Ar Ij Fj L 125 hM) (tb_cw (C := RX14) 1 hT tw_1729 tw_109 tw_1726 tw_1728 tw_76 rfl rfl hq_X14_isSign ⟨Nat.le_of_ble_eq_true rfl, Nat.le_of_ble_eq_true rfl⟩) (mk_preC hst hG hK hA hX hS vc_15 hM.1) rfl rfl hl.1 rfl (lv_room (Nat.le_of_ble_eq_true rfl)) dX14_jobStatement_119 ⟨Nat.le_of_ble_eq_true rfl, Nat.le_of_ble_eq_true rfl⟩) hS (fun q _ h => h) (fun q h => h) (fun r251 G252 t H locs ht hvm hw hB hz1 hk1 hS => ?_)
            have hG : mm D vwCl A G252 H := by rw [← ht]; exact hB
            clear hB hz1 hk1 hvm ht
            obtain ⟨er251, hw⟩ := hw
            rw [hw] at hG
            rw [hQ.isS (w := 5) (y := 125) rfl (by decide) (by decide)] at er251
            refine lv_if_eq (tgt := 209) hx hb dX14_jobStatement_122 (by decide) (fun c_122 => ?_) (fun c_122 => ?_)
            · skip
              refine lv_aload_n hx hb dX14_jobStatement_209 rfl (lv_at hl 0 rfl) ?_
              refine lv_bipush (v := 24) hx hb dX14_jobStatement_210 (by decide) ?_
              refine va_calli (va_runV (As := [.int 24]) (rest := []) ⟨hx, hb, hml, hown, (fun _ h9 => absurd h9 List.not_mem_nil : ∀ w ∈ ([] : List Cond), w.before _ s = true)⟩ (c_M_isWord l D cy A X hst hXT Gv o Ar Ij Fj L 24 hM) (tb_cw (C := RX14) 1 hT tw_1734 tw_109 tw_1731 tw_1733 tw_77 rfl rfl hq_X14_isWord ⟨Nat.le_of_ble_eq_true rfl, Nat.le_of_ble_eq_true rfl⟩) (mk_preC hst hG hK hA hX hS vc_15 hM.1) rfl rfl hl.1 rfl (lv_room (Nat.le_of_ble_eq_true rfl)) dX14_jobStatement_212 ⟨Nat.le_of_ble_eq_true rfl, Nat.le_of_ble_eq_true rfl⟩) hS (fun q _ h => h) (fun q h => h) (fun r253 G254 t H locs ht hvm hw hB hz1 hk1 hS => ?_)
              have hG : mm D vwCl A G254 H := by rw [← ht]; exact hB
              clear hB hz1 hk1 hvm ht
              obtain ⟨er253, hw⟩ := hw
              rw [hw] at hG
              rw [hQ.isW (w := 24) (y := 24) rfl (by decide) (by decide)] at er253
              refine lv_if_eq (tgt := 350) hx hb dX14_jobStatement_215 (by decide) (fun c_215 => ?_) (fun c_215 => ?_)
              · skip
                have hn34 : ¬ tkK ft en qj.1 = 34 := fun z => by have y := b2i_f (by rw [← er253]; exact c_215 : b2i (se (tkK ft en) qj.1 qj.2 34) = 0); unfold se at y; rw [decide_eq_true hgd, decide_eq_true z] at y; cases y
                have hn5 : ¬ (0 < on ∧ se (tkK ft en) qj.1 qj.2 5 = true) := fun z => by rw [b2i_f (by rw [← er251]; exact c_122 : b2i (se (tkK ft en) qj.1 qj.2 5) = 0)] at z; exact Bool.false_ne_true z.2
                refine lv_aload_n hx hb dX14_jobStatement_350 rfl (lv_at hl 0 rfl) ?_
                refine lv_iload_n hx hb dX14_jobStatement_351 rfl (lv_at hl 2 rfl) ?_
                refine va_callv (va_runV (As := [.int (nI v9.nJ)]) (rest := []) ⟨hx, hb, hml, hown, (fun _ h9 => absurd h9 List.not_mem_nil : ∀ w ∈ ([] : List Cond), w.before _ s = true)⟩ (c_M_opSt l D cy A X hst hXT Gv o Ar Ij Fj L ft sx fr en bo qj clj cj v9.nJ kk ta on wf hM hQ hC hc1 hgd hn34 hlim (by omega) i34 i56 i57 hi2) (tb_cw (C := RX14) 1 hT tw_1770 tw_109 tw_1767 tw_1769 tw_86 rfl rfl hq_X14_op ⟨Nat.le_of_ble_eq_true rfl, Nat.le_of_ble_eq_true rfl⟩) (mk_preC hst hG hK hA hX hS vc_15 hM.1) rfl rfl hl.1 rfl (lv_room (Nat.le_of_ble_eq_true rfl)) dX14_jobStatement_352 ⟨Nat.le_of_ble_eq_true rfl, Nat.le_of_ble_eq_true rfl⟩) hS (fun q _ h => h) (fun q h => h) (fun  G255 t H locs ht hvm hw hB hz1 hk1 hS => ?_)
                have hG : mm D vwCl A G255 H := by rw [← ht]; exact hB
                clear hB hz1 hk1 hvm ht
                obtain ⟨a256, ea256⟩ : ∃ y, y = (if isO (tkK ft en qj.1) = true then (q_op (tkK ft en) (tkS ft en) (tkV ft en) ta on kk qj wf).1 else (qj.1, tkS ft en qj.1)) := ⟨_, rfl⟩
                rw [← ea256] at hw
                obtain ⟨I257, F258, cl259, hM2, hF2, hQ2, hI2, hFr2, hC2, hg2, hs2⟩ := hw
                replace hF := hF.tr hF2; replace hM := hM2; clear hM2 hF2
                have hQ := hQ2; have hIZ := hI2.trans hIZ; have hC := hC2; clear hI2 hQ2 hC2
                refine lv_goto (tgt := 93) hx hb dX14_jobStatement_355 (by decide) ?_
                have hFr3 : FrW (wJ bo v9.nJ) F F258 := hFr.tr (hFr2.mono (fun k i z => by unfold wO at z; unfold wJ; omega))
                have g6 : F258 6 bo = nI (v9.nJ + 1) := (hFr2 6 bo (by unfold lxA; omega) (by unfold wO; omega)).trans h6
                have h33b : a256.2 < 0 → NMt (tkK ft en) (tkV ft en) (a256.1 + 1) (F258 33 (4 * bo + v9.nJ)) a33 := fun z => by rw [hFr2 33 _ (by unfold lxA; omega) (by unfold wO; omega)]; exact (h33 hgd).mono (by omega)
                obtain ⟨qo, eqo⟩ : ∃ y, y = q_op (tkK ft en) (tkS ft en) (tkV ft en) ta on kk qj wf := ⟨_, rfl⟩
                rw [← eqo] at ea256 hs2
                obtain ⟨o1, o2, o3⟩ := @q_op_o (tkK ft en) (tkS ft en) (tkV ft en) kk ta on wf qj hn34
                rw [← eqo] at o1 o2 o3
                by_cases hio : isO (tkK ft en qj.1) = true
                · rw [if_pos hio] at ea256
                  have hR2 : q_ops (tkK ft en) (tkS ft en) (tkV ft en) n (kk + 1) (ta + 1) on wf (upO dj kk qo.2.2.2) a256 = RP := by rw [← hR, q_ops, if_neg hn5, if_pos ⟨hio, hgd⟩, ← eqo, o1, o2, ea256]
                  have hcr2 : a256.2 < 0 → cl259 ++ clOs (tkK ft en) (tkS ft en) (tkV ft en) v9.nJ n (kk + 1) (ta + 1) on wf a256 = CR := fun z => by rw [(hs2 z).2.2.2.2.2.2, List.append_assoc, ← hcr hgd, clOs, if_neg hn5, if_pos ⟨hio, hgd⟩, ← eqo, o1, o2, ea256]
                  have hOp2 : a256.2 < 0 → ∀ i, i < kk + 1 → OPf (tkK ft en) (tkV ft en) (a256.1 + 1) F258 (400 * bo + (100 * v9.nJ + i)) (upO dj kk qo.2.2.2 i) := by
                    intro z i hi
                    unfold upO
                    by_cases y1 : i = kk
                    · rw [if_pos y1, y1]; exact (hs2 z).2.2.2.2.2.1
                    · rw [if_neg y1]
                      exact (hOp hgd i (by omega)).mv (by omega) (hFr2 35 _ (by unfold lxA; omega) (by unfold wO; omega)) (hFr2 36 _ (by unfold lxA; omega) (by unfold wO; omega)) (hFr2 37 _ (by unfold lxA; omega) (by unfold wO; omega))
                  have hwf3 : a256.2 < 0 → ∀ i, i < on → ∃ sx, sx < kk + 1 ∧ wf i = nI sx ∧ (upO dj kk qo.2.2.2 sx).1 = 34 := fun z i hi => by obtain ⟨sx, y2, y3, y4⟩ := hwf2 hgd i hi; exact ⟨sx, by omega, y3, by unfold upO; rw [if_neg (by omega)]; exact y4⟩
                  exact ih (kk + 1) (ta + 1) (on) a256 wf (upO dj kk qo.2.2.2) I257 F258 cl259 (a256.1 + 1) x3 x4 x5 CR RP st9 a33 hR2 (Or.inl (by omega)) hlim hqs hcr2 hCR hQ hC (Nat.le_refl _) hIZ hFr3 (by omega) g6 h33b (fun z => (hs2 z).2.2.2.2.1) (fun z => (hs2 z).2.2.1) (fun z => (hs2 z).2.2.2.1) (fun z => ⟨by omega, (hs2 z).2.1, by omega⟩) (fun _ => hwf hgd) hwf3 hOp2 G255 hM hF _ _ hG hS ls (lv_sub hl [0, 1, 2, 3, 4, 5] rfl)
                rw [if_neg hio] at ea256
                have hRe : RP = (kk, dj, qj) := by rw [← hR]; exact q_ops_st hn5 (fun z => hio z.1)
                have hk5 : ¬ tkK ft en qj.1 = 5 := fun z => by have y := b2i_f (by rw [← er251]; exact c_122 : b2i (se (tkK ft en) qj.1 qj.2 5) = 0); unfold se at y; rw [decide_eq_true hgd, decide_eq_true z] at y; cases y
                have hqt : q_take (tkK ft en) (tkS ft en) 5 qj = a256 := by unfold q_take fl; rw [if_neg (fun z => hk5 (se_t z).2), if_pos hgd, ea256]
                have hnf : ¬ a256.2 < 0 := by rw [ea256]; exact hSn _
                have hqs2 : (q_job (tkK ft en) (tkS ft en) (tkV ft en) v9.nJ q (fun _ => 0)) = (q_take (tkK ft en) (tkS ft en) 5 a256, (st9, a33), (kk, dj)) := by rw [hqs, hRe]; dsimp only; rw [hqt, q_take_f hnf]
                exact ih (kk) (ta) (on) a256 wf dj I257 F258 cl259 (a256.1 + 1) x3 x4 x5 CR (kk, dj, a256) st9 a33 (q_ops_f hnf) (Or.inr hnf) hlim hqs2 (fun z => absurd z hnf) hCR hQ hC (Nat.le_refl _) hIZ hFr3 (by omega) g6 (fun z => absurd z hnf) (fun z => absurd z hnf) (fun z => absurd z hnf) (fun z => absurd z hnf) (fun z => absurd z hnf) (fun z => absurd z hnf) (fun z => absurd z hnf) (fun z => absurd z hnf) G255 hM hF _ _ hG hS ls (lv_sub hl [0, 1, 2, 3, 4, 5] rfl)
              · skip
                have hnq : qj.2 < 0 ∧ tkK ft en qj.1 = 34 := se_t (b2i_t (by rw [← er253]; exact c_215))
                have hn5 : ¬ (0 < on ∧ se (tkK ft en) qj.1 qj.2 5 = true) := fun z => by have y := (se_t z.2).2; omega
                have hio : isO (tkK ft en qj.1) = true := by rw [hnq.2]; rfl
                refine lv_aload_n hx hb dX14_jobStatement_218 rfl (lv_at hl 0 rfl) ?_
                refine lv_aload_n hx hb dX14_jobStatement_219 rfl (lv_at hl 0 rfl) ?_
                refine mm_get (v := .int (Ij 56)) hx hb hf_X14 (fun _ h9 => h9) hown hK hG hM.1 rfl 56 (by decide) (tb_use hT tw_1447) (fun _ h9 => h9) (mfs_g56 _ _) dX14_jobStatement_220 ?_
                rw [i56]
                refine lv_bipush (v := 40) hx hb dX14_jobStatement_223 (by decide) ?_
                refine lv_icmp_ge (tgt := 240) hx hb dX14_jobStatement_225 (by decide) (fun c_225 => ?_) (fun c_225 => ?_)
                · skip
                  refine lv_iconst (v := 0) hx hb dX14_jobStatement_240 (by decide) ?_
                  refine mm_put (v := .int 0) (ty := .boolean) hx hb hf_X14 (fun _ h9 => h9) tyX14 tyX14_ok nmX14 hown hK hG hS hM.1 rfl 55 (by decide) (tb_use hT tw_1446) (fun _ h9 => h9) rfl (by decide +kernel) rfl rfl (mfs_l55 _ _) dX14_jobStatement_241 (fun H locs hG hS => ?_)
                  have hM := MD.puti (k := 55) (v := 0) hM (mfs_s55 _ _ _)
                  have hF := hF.wo (e' := .inr (15, (mfs Ar Ij).set 55 (.int 0)))
                  obtain ⟨I260, eI260⟩ : ∃ g, g = upd Ij 55 0 := ⟨_, rfl⟩
                  rw [← eI260] at hM
                  have hgn := gn_MD hG hM hF
                  clear hG hM hF
                  obtain ⟨G261, hG, hM, hF⟩ := hgn
                  have p262 : I260 56 = nI ta := (by rw [eI260]; try exact pk_un (by decide) : I260 56 = Ij 56).trans i56
                  have p263 : I260 57 = nI on := (by rw [eI260]; try exact pk_un (by decide) : I260 57 = Ij 57).trans i57
                  have hIZ : IZ I260 = IZ Iv := by rw [eI260, IZ_up (by decide)]; exact hIZ
                  have hC : CLq I260 Fj ft en clj cj := by rw [eI260]; exact hC.wI (by decide)
                  have hQ : LXq Ar I260 Fj ft sx fr en bo (qj.1, tkS ft en qj.1) := by rw [eI260]; exact hQ.set55 (by rw [if_neg (hSn _)])
                  refine lv_aload_n hx hb dX14_jobStatement_244 rfl (lv_at hl 0 rfl) ?_
                  refine mm_get (v := .int 0) hx hb hf_X14 (fun _ h9 => h9) hown hK hG hM.1 rfl 55 (by decide) (tb_use hT tw_1446) (fun _ h9 => h9) (by rw [mfs_g55, eI260] <;> rfl) dX14_jobStatement_245 ?_
                  refine lv_if_eq (tgt := 93) hx hb dX14_jobStatement_248 (by decide) (fun c_248 => ?_) (fun c_248 => ?_)
                  · skip
                    have hno : ¬ nI ta < 40 ∨ ¬ on < 3 := Or.inl (Int32.not_lt.mpr c_225)
                    have hqw := q_opwF (V := tkV ft en) (kk := kk) (wf := wf) hSn hnq.2 hgd hno
                    obtain ⟨qo, eqo⟩ : ∃ y, y = q_op (tkK ft en) (tkS ft en) (tkV ft en) ta on kk qj wf := ⟨_, rfl⟩
                    rw [← eqo] at hqw
                    have hR2 : q_ops (tkK ft en) (tkS ft en) (tkV ft en) n (kk + 1) (ta + 1) qo.2.1 qo.2.2.1 (upO dj kk qo.2.2.2) (qj.1, tkS ft en qj.1) = RP := by rw [← hR, q_ops, if_neg hn5, if_pos ⟨hio, hgd⟩, ← eqo, hqw]
                    exact ih (kk + 1) (ta + 1) (qo.2.1) (qj.1, tkS ft en qj.1) qo.2.2.1 (upO dj kk qo.2.2.2) I260 Fj clj (cj) x3 x4 x5 CR RP st9 a33 hR2 (Or.inl (by omega)) hlim hqs (fun z => absurd z (hSn _)) hCR hQ hC hc1 hIZ hFr (by omega) h6 (fun z => absurd z (hSn _)) (fun z => absurd z (hSn _)) (fun z => absurd z (hSn _)) (fun z => absurd z (hSn _)) (fun z => absurd z (hSn _)) (fun z => absurd z (hSn _)) (fun z => absurd z (hSn _)) (fun z => absurd z (hSn _)) G261 hM hF _ _ hG hS ls (lv_sub hl [0, 1, 2, 3, 4, 5] rfl)
                  · skip
                    exact absurd (by decide) c_248
                · skip
                  refine lv_aload_n hx hb dX14_jobStatement_228 rfl (lv_at hl 0 rfl) ?_
                  refine mm_get (v := .int (Ij 57)) hx hb hf_X14 (fun _ h9 => h9) hown hK hG hM.1 rfl 57 (by decide) (tb_use hT tw_1448) (fun _ h9 => h9) (mfs_g57 _ _) dX14_jobStatement_229 ?_
                  rw [i57]
                  refine lv_iconst (v := 3) hx hb dX14_jobStatement_232 (by decide) ?_
                  refine lv_icmp_ge (tgt := 240) hx hb dX14_jobStatement_233 (by decide) (fun c_233 => ?_) (fun c_233 => ?_)
                  · skip
                    refine lv_iconst (v := 0) hx hb dX14_jobStatement_240 (by decide) ?_
                    refine mm_put (v := .int 0) (ty := .boolean) hx hb hf_X14 (fun _ h9 => h9) tyX14 tyX14_ok nmX14 hown hK hG hS hM.1 rfl 55 (by decide) (tb_use hT tw_1446) (fun _ h9 => h9) rfl (by decide +kernel) rfl rfl (mfs_l55 _ _) dX14_jobStatement_241 (fun H locs hG hS => ?_)
                    have hM := MD.puti (k := 55) (v := 0) hM (mfs_s55 _ _ _)
                    have hF := hF.wo (e' := .inr (15, (mfs Ar Ij).set 55 (.int 0)))
                    obtain ⟨I264, eI264⟩ : ∃ g, g = upd Ij 55 0 := ⟨_, rfl⟩
                    rw [← eI264] at hM
                    have hgn := gn_MD hG hM hF
                    clear hG hM hF
                    obtain ⟨G265, hG, hM, hF⟩ := hgn
                    have p266 : I264 56 = nI ta := (by rw [eI264]; try exact pk_un (by decide) : I264 56 = Ij 56).trans i56
                    have p267 : I264 57 = nI on := (by rw [eI264]; try exact pk_un (by decide) : I264 57 = Ij 57).trans i57
                    have hIZ : IZ I264 = IZ Iv := by rw [eI264, IZ_up (by decide)]; exact hIZ
                    have hC : CLq I264 Fj ft en clj cj := by rw [eI264]; exact hC.wI (by decide)
                    have hQ : LXq Ar I264 Fj ft sx fr en bo (qj.1, tkS ft en qj.1) := by rw [eI264]; exact hQ.set55 (by rw [if_neg (hSn _)])
                    refine lv_aload_n hx hb dX14_jobStatement_244 rfl (lv_at hl 0 rfl) ?_
                    refine mm_get (v := .int 0) hx hb hf_X14 (fun _ h9 => h9) hown hK hG hM.1 rfl 55 (by decide) (tb_use hT tw_1446) (fun _ h9 => h9) (by rw [mfs_g55, eI264] <;> rfl) dX14_jobStatement_245 ?_
                    refine lv_if_eq (tgt := 93) hx hb dX14_jobStatement_248 (by decide) (fun c_248 => ?_) (fun c_248 => ?_)
                    · skip
                      have hno : ¬ nI ta < 40 ∨ ¬ on < 3 := Or.inr (fun z => nI_ge (b := 3) z (by decide) c_233)
                      have hqw := q_opwF (V := tkV ft en) (kk := kk) (wf := wf) hSn hnq.2 hgd hno
                      obtain ⟨qo, eqo⟩ : ∃ y, y = q_op (tkK ft en) (tkS ft en) (tkV ft en) ta on kk qj wf := ⟨_, rfl⟩
                      rw [← eqo] at hqw
                      have hR2 : q_ops (tkK ft en) (tkS ft en) (tkV ft en) n (kk + 1) (ta + 1) qo.2.1 qo.2.2.1 (upO dj kk qo.2.2.2) (qj.1, tkS ft en qj.1) = RP := by rw [← hR, q_ops, if_neg hn5, if_pos ⟨hio, hgd⟩, ← eqo, hqw]
                      exact ih (kk + 1) (ta + 1) (qo.2.1) (qj.1, tkS ft en qj.1) qo.2.2.1 (upO dj kk qo.2.2.2) I264 Fj clj (cj) x3 x4 x5 CR RP st9 a33 hR2 (Or.inl (by omega)) hlim hqs (fun z => absurd z (hSn _)) hCR hQ hC hc1 hIZ hFr (by omega) h6 (fun z => absurd z (hSn _)) (fun z => absurd z (hSn _)) (fun z => absurd z (hSn _)) (fun z => absurd z (hSn _)) (fun z => absurd z (hSn _)) (fun z => absurd z (hSn _)) (fun z => absurd z (hSn _)) (fun z => absurd z (hSn _)) G265 hM hF _ _ hG hS ls (lv_sub hl [0, 1, 2, 3, 4, 5] rfl)
                    · skip
                      exact absurd (by decide) c_248
                  · skip
                    refine lv_iconst (v := 1) hx hb dX14_jobStatement_236 (by decide) ?_
                    refine lv_goto (tgt := 241) hx hb dX14_jobStatement_237 (by decide) ?_
                    refine mm_put (v := .int 1) (ty := .boolean) hx hb hf_X14 (fun _ h9 => h9) tyX14 tyX14_ok nmX14 hown hK hG hS hM.1 rfl 55 (by decide) (tb_use hT tw_1446) (fun _ h9 => h9) rfl (by decide +kernel) rfl rfl (mfs_l55 _ _) dX14_jobStatement_241 (fun H locs hG hS => ?_)
                    have hM := MD.puti (k := 55) (v := 1) hM (mfs_s55 _ _ _)
                    have hF := hF.wo (e' := .inr (15, (mfs Ar Ij).set 55 (.int 1)))
                    obtain ⟨I268, eI268⟩ : ∃ g, g = upd Ij 55 1 := ⟨_, rfl⟩
                    rw [← eI268] at hM
                    have hgn := gn_MD hG hM hF
                    clear hG hM hF
                    obtain ⟨G269, hG, hM, hF⟩ := hgn
                    have p270 : I268 56 = nI ta := (by rw [eI268]; try exact pk_un (by decide) : I268 56 = Ij 56).trans i56
                    have p271 : I268 57 = nI on := (by rw [eI268]; try exact pk_un (by decide) : I268 57 = Ij 57).trans i57
                    have hIZ : IZ I268 = IZ Iv := by rw [eI268, IZ_up (by decide)]; exact hIZ
                    have hC : CLq I268 Fj ft en clj cj := by rw [eI268]; exact hC.wI (by decide)
                    have hQ : LXq Ar I268 Fj ft sx fr en bo qj := by rw [eI268]; exact hQ.set55 (by rw [if_pos hgd])
                    refine lv_aload_n hx hb dX14_jobStatement_244 rfl (lv_at hl 0 rfl) ?_
                    refine mm_get (v := .int 1) hx hb hf_X14 (fun _ h9 => h9) hown hK hG hM.1 rfl 55 (by decide) (tb_use hT tw_1446) (fun _ h9 => h9) (by rw [mfs_g55, eI268] <;> rfl) dX14_jobStatement_245 ?_
                    refine lv_if_eq (tgt := 93) hx hb dX14_jobStatement_248 (by decide) (fun c_248 => ?_) (fun c_248 => ?_)
                    · skip
                      exact absurd c_248 (by decide)
                    · skip
                      have hon3 : on < 3 := nI_lt_of (b := 3) (by omega) (by decide) c_233
                      have hta4 : ta < 40 := nI_lt_of (b := 40) (by omega) (by decide) c_225
                      refine lv_aload_n hx hb dX14_jobStatement_251 rfl (lv_at hl 0 rfl) ?_
                      refine lv_dup hx hb dX14_jobStatement_252 rfl ?_
                      refine mm_get (v := .int (I268 57)) hx hb hf_X14 (fun _ h9 => h9) hown hK hG hM.1 rfl 57 (by decide) (tb_use hT tw_1448) (fun _ h9 => h9) (by rw [mfs_g57, eI268] <;> rfl) dX14_jobStatement_253 ?_
                      rw [p271]
                      refine lv_iconst (v := 1) hx hb dX14_jobStatement_256 (by decide) ?_
                      refine lv_iadd hx hb dX14_jobStatement_257 ?_
                      rw [show nI on + 1 = nI (on + 1) from nI_1 _]
                      refine lv_topi (fun x272 ex272 => ?_)
                      refine mm_put (v := .int x272) (ty := .int) hx hb hf_X14 (fun _ h9 => h9) tyX14 tyX14_ok nmX14 hown hK hG hS hM.1 rfl 57 (by decide) (tb_use hT tw_1448) (fun _ h9 => h9) rfl (by decide +kernel) rfl rfl (mfs_l57 _ _) dX14_jobStatement_258 (fun H locs hG hS => ?_)
                      have hM := MD.puti (k := 57) (v := x272) hM (mfs_s57 _ _ _)
                      have hF := hF.wo (e' := .inr (15, (mfs Ar I268).set 57 (.int x272)))
                      obtain ⟨I273, eI273⟩ : ∃ g, g = upd I268 57 x272 := ⟨_, rfl⟩
                      rw [← eI273] at hM
                      have hgn := gn_MD hG hM hF
                      clear hG hM hF
                      obtain ⟨G274, hG, hM, hF⟩ := hgn
                      have p275 : I273 56 = nI ta := by rw [eI273]; exact (pk_un (by decide)).trans p270
                      have p276 : I273 57 = nI (on + 1) := by rw [eI273, pk_us, ex272]
                      have hIZ : IZ I273 = IZ Iv := by rw [eI273, IZ_up (by decide)]; exact hIZ
                      have hQ : LXq Ar I273 Fj ft sx fr en bo qj := by rw [eI273]; exact hQ.wI (by decide)
                      have hC : CLq I273 Fj ft en clj cj := by rw [eI273]; exact hC.wI (by decide)
                      refine lv_aload_n hx hb dX14_jobStatement_261 rfl (lv_at hl 0 rfl) ?_
                      refine mm_get (v := .int (I273 57)) hx hb hf_X14 (fun _ h9 => h9) hown hK hG hM.1 rfl 57 (by decide) (tb_use hT tw_1448) (fun _ h9 => h9) (by rw [mfs_g57, eI273, eI268] <;> rfl) dX14_jobStatement_262 ?_
                      rw [p276]
                      refine lv_iconst (v := 1) hx hb dX14_jobStatement_265 (by decide) ?_
                      refine lv_icmp_ne (tgt := 283) hx hb dX14_jobStatement_266 (by decide) (fun c_266 => ?_) (fun c_266 => ?_)
                      · skip
                        refine lv_aload_n hx hb dX14_jobStatement_283 rfl (lv_at hl 0 rfl) ?_
                        refine mm_get (v := .int (I273 57)) hx hb hf_X14 (fun _ h9 => h9) hown hK hG hM.1 rfl 57 (by decide) (tb_use hT tw_1448) (fun _ h9 => h9) (by rw [mfs_g57, eI273, eI268] <;> rfl) dX14_jobStatement_284 ?_
                        rw [p276]
                        refine lv_iconst (v := 2) hx hb dX14_jobStatement_287 (by decide) ?_
                        refine lv_icmp_ne (tgt := 306) hx hb dX14_jobStatement_288 (by decide) (fun c_288 => ?_) (fun c_288 => ?_)
                        · skip
                          refine lv_aload_n hx hb dX14_jobStatement_306 rfl (lv_at hl 0 rfl) ?_
                          refine mm_get (v := .ref (Ar 34)) hx hb hf_X14 (fun _ h9 => h9) hown hK hG hM.1 rfl 34 (by decide) (tb_use hT tw_1425) (fun _ h9 => h9) (mfs_g34 _ _) dX14_jobStatement_307 ?_
                          refine lv_iconst (v := 4) hx hb dX14_jobStatement_310 (by decide) ?_
                          refine lv_iload_n hx hb dX14_jobStatement_311 rfl (lv_at hl 1 rfl) ?_
                          refine lv_imul hx hb dX14_jobStatement_312 ?_
                          refine lv_iload_n hx hb dX14_jobStatement_313 rfl (lv_at hl 2 rfl) ?_
                          refine lv_iadd hx hb dX14_jobStatement_314 ?_
                          refine mm_iald (n := 8) (f := Fj 34) hx hb hK hG 1 (hM.2.1 34 rfl) rfl (by rw [show (((4 * (nI bo)) + (nI v9.nJ)) : Int32) = nI (4 * bo + v9.nJ) by show (((nI 4 * (nI bo)) + (nI v9.nJ)) : Int32) = _; simp only [nI_mu, nI_add]]; exact nI_in (N := 8) (by omega) (by decide)) dX14_jobStatement_315 ?_
                          refine lv_topi (fun x277 ex277 => ?_)
                          rw [show x277 = nI kk by rw [ex277, show (((4 * (nI bo)) + (nI v9.nJ)) : Int32) = nI (4 * bo + v9.nJ) by show (((nI 4 * (nI bo)) + (nI v9.nJ)) : Int32) = _; simp only [nI_mu, nI_add], nI_clamp (by omega)]; exact i34]
                          refine lv_istore (lv' := [(5, .int (nI kk)), (0, .ref o), (1, .int (nI bo)), (2, .int (nI v9.nJ)), (3, .int x3), (4, .int x4)]) hx hb dX14_jobStatement_316 hl (by decide) rfl (fun ls hl => ?_)
                          have hon9 : on = 2 := by have z1 : on ≠ 0 := fun z => c_266 (by rw [z]; rfl); have z2 : on ≠ 1 := fun z => c_288 (by rw [z]; rfl); omega
                          have hFr9 : FrW (wQ bo v9.nJ kk kk) Fj Fj := FrW.rf
                          refine lv_aload_n hx hb dX14_jobStatement_318 rfl (lv_at hl 1 rfl) ?_
                          refine lv_dup hx hb dX14_jobStatement_319 rfl ?_
                          refine mm_get (v := .int (I273 56)) hx hb hf_X14 (fun _ h9 => h9) hown hK hG hM.1 rfl 56 (by decide) (tb_use hT tw_1447) (fun _ h9 => h9) (by rw [mfs_g56, eI273, eI268] <;> rfl) dX14_jobStatement_320 ?_
                          rw [p275]
                          refine lv_iconst (v := 1) hx hb dX14_jobStatement_323 (by decide) ?_
                          refine lv_iadd hx hb dX14_jobStatement_324 ?_
                          rw [show nI ta + 1 = nI (ta + 1) from nI_1 _]
                          refine lv_topi (fun x278 ex278 => ?_)
                          refine mm_put (v := .int x278) (ty := .int) hx hb hf_X14 (fun _ h9 => h9) tyX14 tyX14_ok nmX14 hown hK hG hS hM.1 rfl 56 (by decide) (tb_use hT tw_1447) (fun _ h9 => h9) rfl (by decide +kernel) rfl rfl (mfs_l56 _ _) dX14_jobStatement_325 (fun H locs hG hS => ?_)
                          have hM := MD.puti (k := 56) (v := x278) hM (mfs_s56 _ _ _)
                          have hF := hF.wo (e' := .inr (15, (mfs Ar I273).set 56 (.int x278)))
                          obtain ⟨I279, eI279⟩ : ∃ g, g = upd I273 56 x278 := ⟨_, rfl⟩
                          rw [← eI279] at hM
                          have hgn := gn_MD hG hM hF
                          clear hG hM hF
                          obtain ⟨G280, hG, hM, hF⟩ := hgn
                          have p281 : I279 57 = nI (on + 1) := by rw [eI279]; exact (pk_un (by decide)).trans p276
                          have p282 : I279 56 = nI (ta + 1) := by rw [eI279, pk_us, ex278]
                          have hIZ : IZ I279 = IZ Iv := by rw [eI279, IZ_up (by decide)]; exact hIZ
                          have hQ : LXq Ar I279 Fj ft sx fr en bo qj := by rw [eI279]; exact hQ.wI (by decide)
                          have hC : CLq I279 Fj ft en clj cj := by rw [eI279]; exact hC.wI (by decide)
                          refine lv_aload_n hx hb dX14_jobStatement_328 rfl (lv_at hl 1 rfl) ?_
                          refine lv_iload_n hx hb dX14_jobStatement_329 rfl (lv_at hl 3 rfl) ?_
                          refine lv_bipush (v := 24) hx hb dX14_jobStatement_330 (by decide) ?_
                          refine lv_iconst (v := 0) hx hb dX14_jobStatement_332 (by decide) ?_
                          refine lv_iconst (v := 0) hx hb dX14_jobStatement_333 (by decide) ?_
                          refine va_callv (va_runV (As := [.int (nI v9.nJ), .int 24, .int 0, .int 0]) (rest := []) ⟨hx, hb, hml, hown, (fun _ h9 => absurd h9 List.not_mem_nil : ∀ w ∈ ([] : List Cond), w.before _ s = true)⟩ (c_M_addOp l D cy A X hst hXT G280 o Ar I279 Fj L ft sx fr en bo qj clj cj v9.nJ kk 24 0 0 hM hQ hC hlim (by omega) i34) (tb_cw (C := RX14) 4 hT tw_1766 tw_109 tw_1763 tw_1765 tw_85 rfl rfl hq_X14_addOp ⟨Nat.le_of_ble_eq_true rfl, Nat.le_of_ble_eq_true rfl⟩) (mk_preC hst hG hK hA hX hS vc_15 hM.1) rfl rfl hl.1 rfl (lv_room (Nat.le_of_ble_eq_true rfl)) dX14_jobStatement_334 ⟨Nat.le_of_ble_eq_true rfl, Nat.le_of_ble_eq_true rfl⟩) hS (fun q _ h => h) (fun q h => h) (fun  G283 t H locs ht hvm hw hB hz1 hk1 hS => ?_)
                          have hG : mm D vwCl A G283 H := by rw [← ht]; exact hB
                          clear hB hz1 hk1 hvm ht
                          obtain ⟨F284, hM2, hF2, hQ2, hC2, hFr2, g34, g35, g36, g37⟩ := hw
                          replace hF := hF.tr hF2; replace hM := hM2; clear hM2 hF2
                          have hQ := hQ2; have hC := hC2; clear hQ2 hC2
                          have hFr : FrW (wJ bo v9.nJ) F F284 := hFr.tr (hFr2.mono (fun k i z => by unfold wO at z; unfold wJ; omega))
                          have hFr9 : FrW (wQ bo v9.nJ kk kk) Fj F284 := hFr9.tr (hFr2.mono (fun k i z => by unfold wO at z; unfold wQ; omega))
                          have p285 : F284 6 (bo) = nI (v9.nJ + 1) := (hFr2 6 (bo) (by unfold lxA; omega) (by unfold wO; omega)).trans h6
                          have p286 : F284 33 (4 * bo + v9.nJ) = Fj 33 (4 * bo + v9.nJ) := (hFr2 33 (4 * bo + v9.nJ) (by unfold lxA; omega) (by unfold wO; omega)).trans rfl
                          refine lv_aload_n hx hb dX14_jobStatement_337 rfl (lv_at hl 1 rfl) ?_
                          refine va_callv (va_runV (As := []) (rest := []) ⟨hx, hb, hml, hown, (fun _ h9 => absurd h9 List.not_mem_nil : ∀ w ∈ ([] : List Cond), w.before _ s = true)⟩ (c_M_nextq l D cy A X hst hXT G283 o Ar I279 F284 L ft sx fr en bo qj hM hQ hnq.1 (by have z := hnq.2; omega) (by have z := hnq.2; omega)) (tb_cw (C := RX14) 0 hT tw_1640 tw_109 tw_1637 tw_1639 tw_62 rfl rfl hq_X14_next ⟨Nat.le_of_ble_eq_true rfl, Nat.le_of_ble_eq_true rfl⟩) (mk_preC hst hG hK hA hX hS vc_15 hM.1) rfl rfl hl.1 rfl (lv_room (Nat.le_of_ble_eq_true rfl)) dX14_jobStatement_338 ⟨Nat.le_of_ble_eq_true rfl, Nat.le_of_ble_eq_true rfl⟩) hS (fun q _ h => h) (fun q h => h) (fun  G287 t H locs ht hvm hw hB hz1 hk1 hS => ?_)
                          have hG : mm D vwCl A G287 H := by rw [← ht]; exact hB
                          clear hB hz1 hk1 hvm ht
                          obtain ⟨a288, ea288⟩ : ∃ y, y = (qj.1 + 1, qj.2) := ⟨_, rfl⟩
                          rw [← ea288] at hw
                          obtain ⟨I289, F290, hM2, hF2, hQ2, hI2, hX2⟩ := hw
                          replace hF := hF.tr hF2; replace hM := hM2; clear hM2 hF2
                          have hQ := hQ2; have hIZ := (IZ_x hI2).trans hIZ; have hFr := hFr.fx hX2; have hC := hC.fx hI2 hX2
                          have hFr9 := hFr9.fx hX2
                          have p291 : F290 6 (bo) = nI (v9.nJ + 1) := (congrFun (FXe hX2 (by decide)) _).trans p285
                          have p292 : F290 33 (4 * bo + v9.nJ) = Fj 33 (4 * bo + v9.nJ) := (congrFun (FXe hX2 (by decide)) _).trans p286
                          have p293 : F290 34 (4 * bo + v9.nJ) = nI (kk + 1) := (congrFun (FXe hX2 (by decide)) _).trans g34
                          have p294 : F290 35 (400 * bo + (100 * v9.nJ + kk)) = 24 := (congrFun (FXe hX2 (by decide)) _).trans g35
                          have p295 : F290 36 (400 * bo + (100 * v9.nJ + kk)) = 0 := (congrFun (FXe hX2 (by decide)) _).trans g36
                          have p296 : F290 37 (400 * bo + (100 * v9.nJ + kk)) = 0 := (congrFun (FXe hX2 (by decide)) _).trans g37
                          have p297 : I289 57 = nI (on + 1) := (IXe hI2 (by decide)).trans p281
                          have p298 : I289 56 = nI (ta + 1) := (IXe hI2 (by decide)).trans p282
                          clear hI2 hX2 hQ2
                          have ga288 : qj.1 ≤ a288.1 := by rw [ea288]; exact ge_next
                          have da288 : a288.2 < 0 → _ := fun z => ad_next hSn (by rw [← ea288]; exact z)
                          rw [← ea288] at da288
                          have hc1 : cj ≤ a288.1 + 1 := by omega
                          have hc2 : a288.2 < 0 → cj ≤ a288.1 := fun z => by have := da288 z; omega
                          refine lv_aload_n hx hb dX14_jobStatement_341 rfl (lv_at hl 1 rfl) ?_
                          refine lv_bipush (v := 123) hx hb dX14_jobStatement_342 (by decide) ?_
                          refine va_callv (va_runV (As := [.int 123]) (rest := []) ⟨hx, hb, hml, hown, (fun _ h9 => absurd h9 List.not_mem_nil : ∀ w ∈ ([] : List Cond), w.before _ s = true)⟩ (c_M_mark l D cy A X hst hXT G287 o Ar I289 F290 L ft sx fr en bo a288 4 hM hQ (by decide) (by decide)) (tb_cw (C := RX14) 1 hT tw_1717 tw_109 tw_1714 tw_1716 tw_73 rfl rfl hq_X14_mark ⟨Nat.le_of_ble_eq_true rfl, Nat.le_of_ble_eq_true rfl⟩) (mk_preC hst hG hK hA hX hS vc_15 hM.1) rfl rfl hl.1 rfl (lv_room (Nat.le_of_ble_eq_true rfl)) dX14_jobStatement_344 ⟨Nat.le_of_ble_eq_true rfl, Nat.le_of_ble_eq_true rfl⟩) hS (fun q _ h => h) (fun q h => h) (fun  G299 t H locs ht hvm hw hB hz1 hk1 hS => ?_)
                          have hG : mm D vwCl A G299 H := by rw [← ht]; exact hB
                          clear hB hz1 hk1 hvm ht
                          obtain ⟨a300, ea300⟩ : ∃ y, y = q_take (tkK ft en) (tkS ft en) 4 a288 := ⟨_, rfl⟩
                          rw [← ea300] at hw
                          obtain ⟨I301, F302, hM2, hF2, hQ2, hI2, hX2⟩ := hw
                          replace hF := hF.tr hF2; replace hM := hM2; clear hM2 hF2
                          have hQ := hQ2; have hIZ := (IZ_x hI2).trans hIZ; have hFr := hFr.fx hX2; have hC := hC.fx hI2 hX2
                          have hFr9 := hFr9.fx hX2
                          have p303 : F302 6 (bo) = nI (v9.nJ + 1) := (congrFun (FXe hX2 (by decide)) _).trans p291
                          have p304 : F302 33 (4 * bo + v9.nJ) = Fj 33 (4 * bo + v9.nJ) := (congrFun (FXe hX2 (by decide)) _).trans p292
                          have p305 : F302 34 (4 * bo + v9.nJ) = nI (kk + 1) := (congrFun (FXe hX2 (by decide)) _).trans p293
                          have p306 : F302 35 (400 * bo + (100 * v9.nJ + kk)) = 24 := (congrFun (FXe hX2 (by decide)) _).trans p294
                          have p307 : F302 36 (400 * bo + (100 * v9.nJ + kk)) = 0 := (congrFun (FXe hX2 (by decide)) _).trans p295
                          have p308 : F302 37 (400 * bo + (100 * v9.nJ + kk)) = 0 := (congrFun (FXe hX2 (by decide)) _).trans p296
                          have p309 : I301 57 = nI (on + 1) := (IXe hI2 (by decide)).trans p297
                          have p310 : I301 56 = nI (ta + 1) := (IXe hI2 (by decide)).trans p298
                          clear hI2 hX2 hQ2
                          have ga300 : a288.1 ≤ a300.1 := by rw [ea300]; exact ge_take
                          have da300 : a300.2 < 0 → _ := fun z => ad_take hSn (by rw [← ea300]; exact z)
                          rw [← ea300] at da300
                          have hc1 : cj ≤ a300.1 + 1 := by omega
                          have hc2 : a300.2 < 0 → cj ≤ a300.1 := fun z => by have := da300 z; omega
                          refine lv_goto (tgt := 93) hx hb dX14_jobStatement_347 (by decide) ?_
                          have hqw := q_op_w (S := tkS ft en) (V := tkV ft en) (kk := kk) (wf := wf) hnq.2 hgd (Int32.not_le.mp c_225) hon3
                          rw [← ea288, ← ea300] at hqw
                          have hR2 : q_ops (tkK ft en) (tkS ft en) (tkV ft en) n (kk + 1) (ta + 1) (on + 1) (upd wf on (nI kk)) (upO dj kk (34, 0, 0, 0, 0, 0, 0)) a300 = RP := by rw [← hR, q_ops, if_neg hn5, if_pos ⟨hio, hgd⟩, hqw]
                          have hcr2 : a300.2 < 0 → clj ++ clOs (tkK ft en) (tkS ft en) (tkV ft en) v9.nJ n (kk + 1) (ta + 1) (on + 1) (upd wf on (nI kk)) a300 = CR := fun z => by rw [← hcr hgd, clOs, if_neg hn5, if_pos ⟨hio, hgd⟩, hqw]; unfold clO; rw [if_neg (by omega)]; rfl
                          have hOp2 : a300.2 < 0 → ∀ i, i < kk + 1 → OPf (tkK ft en) (tkV ft en) (a300.1 + 1) F302 (400 * bo + (100 * v9.nJ + i)) (upO dj kk (34, 0, 0, 0, 0, 0, 0) i) := by
                            intro z i hi
                            unfold upO
                            by_cases y1 : i = kk
                            · rw [if_pos y1, y1]
                              exact ⟨p306, (fun z => absurd z (by decide)), (fun z => absurd z (by decide)), (fun _ => p307)⟩
                            · rw [if_neg y1]
                              exact (hOp hgd i (by omega)).mv (by omega) (hFr9 35 _ (by unfold lxA; omega) (by unfold wQ; omega)) (hFr9 36 _ (by unfold lxA; omega) (by unfold wQ; omega)) (hFr9 37 _ (by unfold lxA; omega) (by unfold wQ; omega))
                          have hwf3 : a300.2 < 0 → ∀ i, i < on + 1 → ∃ sx, sx < kk + 1 ∧ upd wf on (nI kk) i = nI sx ∧ (upO dj kk (34, 0, 0, 0, 0, 0, 0) sx).1 = 34 := by
                            intro z i hi
                            by_cases y1 : i = on
                            · exact ⟨kk, Nat.lt_succ_self kk, by rw [y1, pk_us], by unfold upO; rw [if_pos rfl]⟩
                            · obtain ⟨sx, y2, y3, y4⟩ := hwf2 hgd i (by omega)
                              exact ⟨sx, by omega, by rw [pk_un y1]; exact y3, by unfold upO; rw [if_neg (by omega)]; exact y4⟩
                          exact ih (kk + 1) (ta + 1) (on + 1) a300 (upd wf on (nI kk)) (upO dj kk (34, 0, 0, 0, 0, 0, 0)) I301 F302 clj (cj) x3 x4 (nI kk) CR RP st9 a33 hR2 (Or.inl (by omega)) hlim hqs hcr2 hCR hQ hC hc1 hIZ hFr (by omega) p303 (fun z => by rw [p304]; exact (h33 hgd).mono (by omega)) (fun _ => p305) (fun _ => p310) (fun _ => p309) (fun _ => ⟨by omega, by omega, by omega⟩) (fun _ => ⟨fun z => by rw [pk_un (by omega)]; exact (hwf hgd).1 (by omega), fun z => by rw [pk_un (by omega)]; exact (hwf hgd).2.1 (by omega), fun _ => by rw [hon9, pk_us]⟩) hwf3 hOp2 G299 hM hF _ _ hG hS ls (lv_sub hl [1, 2, 3, 4, 5, 0] rfl)
                        · skip
                          refine lv_aload_n hx hb dX14_jobStatement_291 rfl (lv_at hl 0 rfl) ?_
                          refine mm_get (v := .ref (Ar 34)) hx hb hf_X14 (fun _ h9 => h9) hown hK hG hM.1 rfl 34 (by decide) (tb_use hT tw_1425) (fun _ h9 => h9) (mfs_g34 _ _) dX14_jobStatement_292 ?_
                          refine lv_iconst (v := 4) hx hb dX14_jobStatement_295 (by decide) ?_
                          refine lv_iload_n hx hb dX14_jobStatement_296 rfl (lv_at hl 1 rfl) ?_
                          refine lv_imul hx hb dX14_jobStatement_297 ?_
                          refine lv_iload_n hx hb dX14_jobStatement_298 rfl (lv_at hl 2 rfl) ?_
                          refine lv_iadd hx hb dX14_jobStatement_299 ?_
                          refine mm_iald (n := 8) (f := Fj 34) hx hb hK hG 1 (hM.2.1 34 rfl) rfl (by rw [show (((4 * (nI bo)) + (nI v9.nJ)) : Int32) = nI (4 * bo + v9.nJ) by show (((nI 4 * (nI bo)) + (nI v9.nJ)) : Int32) = _; simp only [nI_mu, nI_add]]; exact nI_in (N := 8) (by omega) (by decide)) dX14_jobStatement_300 ?_
                          refine lv_topi (fun x311 ex311 => ?_)
                          rw [show x311 = nI kk by rw [ex311, show (((4 * (nI bo)) + (nI v9.nJ)) : Int32) = nI (4 * bo + v9.nJ) by show (((nI 4 * (nI bo)) + (nI v9.nJ)) : Int32) = _; simp only [nI_mu, nI_add], nI_clamp (by omega)]; exact i34]
                          refine lv_istore (lv' := [(4, .int (nI kk)), (0, .ref o), (1, .int (nI bo)), (2, .int (nI v9.nJ)), (3, .int x3), (5, .int x5)]) hx hb dX14_jobStatement_301 hl (by decide) rfl (fun ls hl => ?_)
                          refine lv_goto (tgt := 318) hx hb dX14_jobStatement_303 (by decide) ?_
                          have hon9 : on = 1 := by have z := nI_inj (a := on + 1) (b := 2) (by omega) (by decide) c_288; omega
                          have hFr9 : FrW (wQ bo v9.nJ kk kk) Fj Fj := FrW.rf
                          refine lv_aload_n hx hb dX14_jobStatement_318 rfl (lv_at hl 1 rfl) ?_
                          refine lv_dup hx hb dX14_jobStatement_319 rfl ?_
                          refine mm_get (v := .int (I273 56)) hx hb hf_X14 (fun _ h9 => h9) hown hK hG hM.1 rfl 56 (by decide) (tb_use hT tw_1447) (fun _ h9 => h9) (by rw [mfs_g56, eI273, eI268] <;> rfl) dX14_jobStatement_320 ?_
                          rw [p275]
                          refine lv_iconst (v := 1) hx hb dX14_jobStatement_323 (by decide) ?_
                          refine lv_iadd hx hb dX14_jobStatement_324 ?_
                          rw [show nI ta + 1 = nI (ta + 1) from nI_1 _]
                          refine lv_topi (fun x312 ex312 => ?_)
                          refine mm_put (v := .int x312) (ty := .int) hx hb hf_X14 (fun _ h9 => h9) tyX14 tyX14_ok nmX14 hown hK hG hS hM.1 rfl 56 (by decide) (tb_use hT tw_1447) (fun _ h9 => h9) rfl (by decide +kernel) rfl rfl (mfs_l56 _ _) dX14_jobStatement_325 (fun H locs hG hS => ?_)
                          have hM := MD.puti (k := 56) (v := x312) hM (mfs_s56 _ _ _)
                          have hF := hF.wo (e' := .inr (15, (mfs Ar I273).set 56 (.int x312)))
                          obtain ⟨I313, eI313⟩ : ∃ g, g = upd I273 56 x312 := ⟨_, rfl⟩
                          rw [← eI313] at hM
                          have hgn := gn_MD hG hM hF
                          clear hG hM hF
                          obtain ⟨G314, hG, hM, hF⟩ := hgn
                          have p315 : I313 57 = nI (on + 1) := by rw [eI313]; exact (pk_un (by decide)).trans p276
                          have p316 : I313 56 = nI (ta + 1) := by rw [eI313, pk_us, ex312]
                          have hIZ : IZ I313 = IZ Iv := by rw [eI313, IZ_up (by decide)]; exact hIZ
                          have hQ : LXq Ar I313 Fj ft sx fr en bo qj := by rw [eI313]; exact hQ.wI (by decide)
                          have hC : CLq I313 Fj ft en clj cj := by rw [eI313]; exact hC.wI (by decide)
                          refine lv_aload_n hx hb dX14_jobStatement_328 rfl (lv_at hl 1 rfl) ?_
                          refine lv_iload_n hx hb dX14_jobStatement_329 rfl (lv_at hl 3 rfl) ?_
                          refine lv_bipush (v := 24) hx hb dX14_jobStatement_330 (by decide) ?_
                          refine lv_iconst (v := 0) hx hb dX14_jobStatement_332 (by decide) ?_
                          refine lv_iconst (v := 0) hx hb dX14_jobStatement_333 (by decide) ?_
                          refine va_callv (va_runV (As := [.int (nI v9.nJ), .int 24, .int 0, .int 0]) (rest := []) ⟨hx, hb, hml, hown, (fun _ h9 => absurd h9 List.not_mem_nil : ∀ w ∈ ([] : List Cond), w.before _ s = true)⟩ (c_M_addOp l D cy A X hst hXT G314 o Ar I313 Fj L ft sx fr en bo qj clj cj v9.nJ kk 24 0 0 hM hQ hC hlim (by omega) i34) (tb_cw (C := RX14) 4 hT tw_1766 tw_109 tw_1763 tw_1765 tw_85 rfl rfl hq_X14_addOp ⟨Nat.le_of_ble_eq_true rfl, Nat.le_of_ble_eq_true rfl⟩) (mk_preC hst hG hK hA hX hS vc_15 hM.1) rfl rfl hl.1 rfl (lv_room (Nat.le_of_ble_eq_true rfl)) dX14_jobStatement_334 ⟨Nat.le_of_ble_eq_true rfl, Nat.le_of_ble_eq_true rfl⟩) hS (fun q _ h => h) (fun q h => h) (fun  G317 t H locs ht hvm hw hB hz1 hk1 hS => ?_)
                          have hG : mm D vwCl A G317 H := by rw [← ht]; exact hB
                          clear hB hz1 hk1 hvm ht
                          obtain ⟨F318, hM2, hF2, hQ2, hC2, hFr2, g34, g35, g36, g37⟩ := hw
                          replace hF := hF.tr hF2; replace hM := hM2; clear hM2 hF2
                          have hQ := hQ2; have hC := hC2; clear hQ2 hC2
                          have hFr : FrW (wJ bo v9.nJ) F F318 := hFr.tr (hFr2.mono (fun k i z => by unfold wO at z; unfold wJ; omega))
                          have hFr9 : FrW (wQ bo v9.nJ kk kk) Fj F318 := hFr9.tr (hFr2.mono (fun k i z => by unfold wO at z; unfold wQ; omega))
                          have p319 : F318 6 (bo) = nI (v9.nJ + 1) := (hFr2 6 (bo) (by unfold lxA; omega) (by unfold wO; omega)).trans h6
                          have p320 : F318 33 (4 * bo + v9.nJ) = Fj 33 (4 * bo + v9.nJ) := (hFr2 33 (4 * bo + v9.nJ) (by unfold lxA; omega) (by unfold wO; omega)).trans rfl
                          refine lv_aload_n hx hb dX14_jobStatement_337 rfl (lv_at hl 1 rfl) ?_
                          refine va_callv (va_runV (As := []) (rest := []) ⟨hx, hb, hml, hown, (fun _ h9 => absurd h9 List.not_mem_nil : ∀ w ∈ ([] : List Cond), w.before _ s = true)⟩ (c_M_nextq l D cy A X hst hXT G317 o Ar I313 F318 L ft sx fr en bo qj hM hQ hnq.1 (by have z := hnq.2; omega) (by have z := hnq.2; omega)) (tb_cw (C := RX14) 0 hT tw_1640 tw_109 tw_1637 tw_1639 tw_62 rfl rfl hq_X14_next ⟨Nat.le_of_ble_eq_true rfl, Nat.le_of_ble_eq_true rfl⟩) (mk_preC hst hG hK hA hX hS vc_15 hM.1) rfl rfl hl.1 rfl (lv_room (Nat.le_of_ble_eq_true rfl)) dX14_jobStatement_338 ⟨Nat.le_of_ble_eq_true rfl, Nat.le_of_ble_eq_true rfl⟩) hS (fun q _ h => h) (fun q h => h) (fun  G321 t H locs ht hvm hw hB hz1 hk1 hS => ?_)
                          have hG : mm D vwCl A G321 H := by rw [← ht]; exact hB
                          clear hB hz1 hk1 hvm ht
                          obtain ⟨a322, ea322⟩ : ∃ y, y = (qj.1 + 1, qj.2) := ⟨_, rfl⟩
                          rw [← ea322] at hw
                          obtain ⟨I323, F324, hM2, hF2, hQ2, hI2, hX2⟩ := hw
                          replace hF := hF.tr hF2; replace hM := hM2; clear hM2 hF2
                          have hQ := hQ2; have hIZ := (IZ_x hI2).trans hIZ; have hFr := hFr.fx hX2; have hC := hC.fx hI2 hX2
                          have hFr9 := hFr9.fx hX2
                          have p325 : F324 6 (bo) = nI (v9.nJ + 1) := (congrFun (FXe hX2 (by decide)) _).trans p319
                          have p326 : F324 33 (4 * bo + v9.nJ) = Fj 33 (4 * bo + v9.nJ) := (congrFun (FXe hX2 (by decide)) _).trans p320
                          have p327 : F324 34 (4 * bo + v9.nJ) = nI (kk + 1) := (congrFun (FXe hX2 (by decide)) _).trans g34
                          have p328 : F324 35 (400 * bo + (100 * v9.nJ + kk)) = 24 := (congrFun (FXe hX2 (by decide)) _).trans g35
                          have p329 : F324 36 (400 * bo + (100 * v9.nJ + kk)) = 0 := (congrFun (FXe hX2 (by decide)) _).trans g36
                          have p330 : F324 37 (400 * bo + (100 * v9.nJ + kk)) = 0 := (congrFun (FXe hX2 (by decide)) _).trans g37
                          have p331 : I323 57 = nI (on + 1) := (IXe hI2 (by decide)).trans p315
                          have p332 : I323 56 = nI (ta + 1) := (IXe hI2 (by decide)).trans p316
                          clear hI2 hX2 hQ2
                          have ga322 : qj.1 ≤ a322.1 := by rw [ea322]; exact ge_next
                          have da322 : a322.2 < 0 → _ := fun z => ad_next hSn (by rw [← ea322]; exact z)
                          rw [← ea322] at da322
                          have hc1 : cj ≤ a322.1 + 1 := by omega
                          have hc2 : a322.2 < 0 → cj ≤ a322.1 := fun z => by have := da322 z; omega
                          refine lv_aload_n hx hb dX14_jobStatement_341 rfl (lv_at hl 1 rfl) ?_
                          refine lv_bipush (v := 123) hx hb dX14_jobStatement_342 (by decide) ?_
                          refine va_callv (va_runV (As := [.int 123]) (rest := []) ⟨hx, hb, hml, hown, (fun _ h9 => absurd h9 List.not_mem_nil : ∀ w ∈ ([] : List Cond), w.before _ s = true)⟩ (c_M_mark l D cy A X hst hXT G321 o Ar I323 F324 L ft sx fr en bo a322 4 hM hQ (by decide) (by decide)) (tb_cw (C := RX14) 1 hT tw_1717 tw_109 tw_1714 tw_1716 tw_73 rfl rfl hq_X14_mark ⟨Nat.le_of_ble_eq_true rfl, Nat.le_of_ble_eq_true rfl⟩) (mk_preC hst hG hK hA hX hS vc_15 hM.1) rfl rfl hl.1 rfl (lv_room (Nat.le_of_ble_eq_true rfl)) dX14_jobStatement_344 ⟨Nat.le_of_ble_eq_true rfl, Nat.le_of_ble_eq_true rfl⟩) hS (fun q _ h => h) (fun q h => h) (fun  G333 t H locs ht hvm hw hB hz1 hk1 hS => ?_)
                          have hG : mm D vwCl A G333 H := by rw [← ht]; exact hB
                          clear hB hz1 hk1 hvm ht
                          obtain ⟨a334, ea334⟩ : ∃ y, y = q_take (tkK ft en) (tkS ft en) 4 a322 := ⟨_, rfl⟩
                          rw [← ea334] at hw
                          obtain ⟨I335, F336, hM2, hF2, hQ2, hI2, hX2⟩ := hw
                          replace hF := hF.tr hF2; replace hM := hM2; clear hM2 hF2
                          have hQ := hQ2; have hIZ := (IZ_x hI2).trans hIZ; have hFr := hFr.fx hX2; have hC := hC.fx hI2 hX2
                          have hFr9 := hFr9.fx hX2
                          have p337 : F336 6 (bo) = nI (v9.nJ + 1) := (congrFun (FXe hX2 (by decide)) _).trans p325
                          have p338 : F336 33 (4 * bo + v9.nJ) = Fj 33 (4 * bo + v9.nJ) := (congrFun (FXe hX2 (by decide)) _).trans p326
                          have p339 : F336 34 (4 * bo + v9.nJ) = nI (kk + 1) := (congrFun (FXe hX2 (by decide)) _).trans p327
                          have p340 : F336 35 (400 * bo + (100 * v9.nJ + kk)) = 24 := (congrFun (FXe hX2 (by decide)) _).trans p328
                          have p341 : F336 36 (400 * bo + (100 * v9.nJ + kk)) = 0 := (congrFun (FXe hX2 (by decide)) _).trans p329
                          have p342 : F336 37 (400 * bo + (100 * v9.nJ + kk)) = 0 := (congrFun (FXe hX2 (by decide)) _).trans p330
                          have p343 : I335 57 = nI (on + 1) := (IXe hI2 (by decide)).trans p331
                          have p344 : I335 56 = nI (ta + 1) := (IXe hI2 (by decide)).trans p332
                          clear hI2 hX2 hQ2
                          have ga334 : a322.1 ≤ a334.1 := by rw [ea334]; exact ge_take
                          have da334 : a334.2 < 0 → _ := fun z => ad_take hSn (by rw [← ea334]; exact z)
                          rw [← ea334] at da334
                          have hc1 : cj ≤ a334.1 + 1 := by omega
                          have hc2 : a334.2 < 0 → cj ≤ a334.1 := fun z => by have := da334 z; omega
                          refine lv_goto (tgt := 93) hx hb dX14_jobStatement_347 (by decide) ?_
                          have hqw := q_op_w (S := tkS ft en) (V := tkV ft en) (kk := kk) (wf := wf) hnq.2 hgd (Int32.not_le.mp c_225) hon3
                          rw [← ea322, ← ea334] at hqw
                          have hR2 : q_ops (tkK ft en) (tkS ft en) (tkV ft en) n (kk + 1) (ta + 1) (on + 1) (upd wf on (nI kk)) (upO dj kk (34, 0, 0, 0, 0, 0, 0)) a334 = RP := by rw [← hR, q_ops, if_neg hn5, if_pos ⟨hio, hgd⟩, hqw]
                          have hcr2 : a334.2 < 0 → clj ++ clOs (tkK ft en) (tkS ft en) (tkV ft en) v9.nJ n (kk + 1) (ta + 1) (on + 1) (upd wf on (nI kk)) a334 = CR := fun z => by rw [← hcr hgd, clOs, if_neg hn5, if_pos ⟨hio, hgd⟩, hqw]; unfold clO; rw [if_neg (by omega)]; rfl
                          have hOp2 : a334.2 < 0 → ∀ i, i < kk + 1 → OPf (tkK ft en) (tkV ft en) (a334.1 + 1) F336 (400 * bo + (100 * v9.nJ + i)) (upO dj kk (34, 0, 0, 0, 0, 0, 0) i) := by
                            intro z i hi
                            unfold upO
                            by_cases y1 : i = kk
                            · rw [if_pos y1, y1]
                              exact ⟨p340, (fun z => absurd z (by decide)), (fun z => absurd z (by decide)), (fun _ => p341)⟩
                            · rw [if_neg y1]
                              exact (hOp hgd i (by omega)).mv (by omega) (hFr9 35 _ (by unfold lxA; omega) (by unfold wQ; omega)) (hFr9 36 _ (by unfold lxA; omega) (by unfold wQ; omega)) (hFr9 37 _ (by unfold lxA; omega) (by unfold wQ; omega))
                          have hwf3 : a334.2 < 0 → ∀ i, i < on + 1 → ∃ sx, sx < kk + 1 ∧ upd wf on (nI kk) i = nI sx ∧ (upO dj kk (34, 0, 0, 0, 0, 0, 0) sx).1 = 34 := by
                            intro z i hi
                            by_cases y1 : i = on
                            · exact ⟨kk, Nat.lt_succ_self kk, by rw [y1, pk_us], by unfold upO; rw [if_pos rfl]⟩
                            · obtain ⟨sx, y2, y3, y4⟩ := hwf2 hgd i (by omega)
                              exact ⟨sx, by omega, by rw [pk_un y1]; exact y3, by unfold upO; rw [if_neg (by omega)]; exact y4⟩
                          exact ih (kk + 1) (ta + 1) (on + 1) a334 (upd wf on (nI kk)) (upO dj kk (34, 0, 0, 0, 0, 0, 0)) I335 F336 clj (cj) x3 (nI kk) x5 CR RP st9 a33 hR2 (Or.inl (by omega)) hlim hqs hcr2 hCR hQ hC hc1 hIZ hFr (by omega) p337 (fun z => by rw [p338]; exact (h33 hgd).mono (by omega)) (fun _ => p339) (fun _ => p344) (fun _ => p343) (fun _ => ⟨by omega, by omega, by omega⟩) (fun _ => ⟨fun z => by rw [pk_un (by omega)]; exact (hwf hgd).1 (by omega), fun _ => by rw [hon9, pk_us], fun z => by exfalso; omega⟩) hwf3 hOp2 G333 hM hF _ _ hG hS ls (lv_sub hl [1, 2, 3, 4, 0, 5] rfl)
                      · skip
                        refine lv_aload_n hx hb dX14_jobStatement_269 rfl (lv_at hl 0 rfl) ?_
                        refine mm_get (v := .ref (Ar 34)) hx hb hf_X14 (fun _ h9 => h9) hown hK hG hM.1 rfl 34 (by decide) (tb_use hT tw_1425) (fun _ h9 => h9) (mfs_g34 _ _) dX14_jobStatement_270 ?_
                        refine lv_iconst (v := 4) hx hb dX14_jobStatement_273 (by decide) ?_
                        refine lv_iload_n hx hb dX14_jobStatement_274 rfl (lv_at hl 1 rfl) ?_
                        refine lv_imul hx hb dX14_jobStatement_275 ?_
                        refine lv_iload_n hx hb dX14_jobStatement_276 rfl (lv_at hl 2 rfl) ?_
                        refine lv_iadd hx hb dX14_jobStatement_277 ?_
                        refine mm_iald (n := 8) (f := Fj 34) hx hb hK hG 1 (hM.2.1 34 rfl) rfl (by rw [show (((4 * (nI bo)) + (nI v9.nJ)) : Int32) = nI (4 * bo + v9.nJ) by show (((nI 4 * (nI bo)) + (nI v9.nJ)) : Int32) = _; simp only [nI_mu, nI_add]]; exact nI_in (N := 8) (by omega) (by decide)) dX14_jobStatement_278 ?_
                        refine lv_topi (fun x345 ex345 => ?_)
                        rw [show x345 = nI kk by rw [ex345, show (((4 * (nI bo)) + (nI v9.nJ)) : Int32) = nI (4 * bo + v9.nJ) by show (((nI 4 * (nI bo)) + (nI v9.nJ)) : Int32) = _; simp only [nI_mu, nI_add], nI_clamp (by omega)]; exact i34]
                        refine lv_istore_n (lv' := [(3, .int (nI kk)), (0, .ref o), (1, .int (nI bo)), (2, .int (nI v9.nJ)), (4, .int x4), (5, .int x5)]) hx hb dX14_jobStatement_279 rfl hl (by decide) rfl (fun ls hl => ?_)
                        refine lv_goto (tgt := 318) hx hb dX14_jobStatement_280 (by decide) ?_
                        have hon9 : on = 0 := by have z := nI_inj (a := on + 1) (b := 1) (by omega) (by decide) c_266; omega
                        have hFr9 : FrW (wQ bo v9.nJ kk kk) Fj Fj := FrW.rf
                        refine lv_aload_n hx hb dX14_jobStatement_318 rfl (lv_at hl 1 rfl) ?_
                        refine lv_dup hx hb dX14_jobStatement_319 rfl ?_
                        refine mm_get (v := .int (I273 56)) hx hb hf_X14 (fun _ h9 => h9) hown hK hG hM.1 rfl 56 (by decide) (tb_use hT tw_1447) (fun _ h9 => h9) (by rw [mfs_g56, eI273, eI268] <;> rfl) dX14_jobStatement_320 ?_
                        rw [p275]
                        refine lv_iconst (v := 1) hx hb dX14_jobStatement_323 (by decide) ?_
                        refine lv_iadd hx hb dX14_jobStatement_324 ?_
                        rw [show nI ta + 1 = nI (ta + 1) from nI_1 _]
                        refine lv_topi (fun x346 ex346 => ?_)
                        refine mm_put (v := .int x346) (ty := .int) hx hb hf_X14 (fun _ h9 => h9) tyX14 tyX14_ok nmX14 hown hK hG hS hM.1 rfl 56 (by decide) (tb_use hT tw_1447) (fun _ h9 => h9) rfl (by decide +kernel) rfl rfl (mfs_l56 _ _) dX14_jobStatement_325 (fun H locs hG hS => ?_)
                        have hM := MD.puti (k := 56) (v := x346) hM (mfs_s56 _ _ _)
                        have hF := hF.wo (e' := .inr (15, (mfs Ar I273).set 56 (.int x346)))
                        obtain ⟨I347, eI347⟩ : ∃ g, g = upd I273 56 x346 := ⟨_, rfl⟩
                        rw [← eI347] at hM
                        have hgn := gn_MD hG hM hF
                        clear hG hM hF
                        obtain ⟨G348, hG, hM, hF⟩ := hgn
                        have p349 : I347 57 = nI (on + 1) := by rw [eI347]; exact (pk_un (by decide)).trans p276
                        have p350 : I347 56 = nI (ta + 1) := by rw [eI347, pk_us, ex346]
                        have hIZ : IZ I347 = IZ Iv := by rw [eI347, IZ_up (by decide)]; exact hIZ
                        have hQ : LXq Ar I347 Fj ft sx fr en bo qj := by rw [eI347]; exact hQ.wI (by decide)
                        have hC : CLq I347 Fj ft en clj cj := by rw [eI347]; exact hC.wI (by decide)
                        refine lv_aload_n hx hb dX14_jobStatement_328 rfl (lv_at hl 1 rfl) ?_
                        refine lv_iload_n hx hb dX14_jobStatement_329 rfl (lv_at hl 3 rfl) ?_
                        refine lv_bipush (v := 24) hx hb dX14_jobStatement_330 (by decide) ?_
                        refine lv_iconst (v := 0) hx hb dX14_jobStatement_332 (by decide) ?_
                        refine lv_iconst (v := 0) hx hb dX14_jobStatement_333 (by decide) ?_
                        refine va_callv (va_runV (As := [.int (nI v9.nJ), .int 24, .int 0, .int 0]) (rest := []) ⟨hx, hb, hml, hown, (fun _ h9 => absurd h9 List.not_mem_nil : ∀ w ∈ ([] : List Cond), w.before _ s = true)⟩ (c_M_addOp l D cy A X hst hXT G348 o Ar I347 Fj L ft sx fr en bo qj clj cj v9.nJ kk 24 0 0 hM hQ hC hlim (by omega) i34) (tb_cw (C := RX14) 4 hT tw_1766 tw_109 tw_1763 tw_1765 tw_85 rfl rfl hq_X14_addOp ⟨Nat.le_of_ble_eq_true rfl, Nat.le_of_ble_eq_true rfl⟩) (mk_preC hst hG hK hA hX hS vc_15 hM.1) rfl rfl hl.1 rfl (lv_room (Nat.le_of_ble_eq_true rfl)) dX14_jobStatement_334 ⟨Nat.le_of_ble_eq_true rfl, Nat.le_of_ble_eq_true rfl⟩) hS (fun q _ h => h) (fun q h => h) (fun  G351 t H locs ht hvm hw hB hz1 hk1 hS => ?_)
                        have hG : mm D vwCl A G351 H := by rw [← ht]; exact hB
                        clear hB hz1 hk1 hvm ht
                        obtain ⟨F352, hM2, hF2, hQ2, hC2, hFr2, g34, g35, g36, g37⟩ := hw
                        replace hF := hF.tr hF2; replace hM := hM2; clear hM2 hF2
                        have hQ := hQ2; have hC := hC2; clear hQ2 hC2
                        have hFr : FrW (wJ bo v9.nJ) F F352 := hFr.tr (hFr2.mono (fun k i z => by unfold wO at z; unfold wJ; omega))
                        have hFr9 : FrW (wQ bo v9.nJ kk kk) Fj F352 := hFr9.tr (hFr2.mono (fun k i z => by unfold wO at z; unfold wQ; omega))
                        have p353 : F352 6 (bo) = nI (v9.nJ + 1) := (hFr2 6 (bo) (by unfold lxA; omega) (by unfold wO; omega)).trans h6
                        have p354 : F352 33 (4 * bo + v9.nJ) = Fj 33 (4 * bo + v9.nJ) := (hFr2 33 (4 * bo + v9.nJ) (by unfold lxA; omega) (by unfold wO; omega)).trans rfl
                        refine lv_aload_n hx hb dX14_jobStatement_337 rfl (lv_at hl 1 rfl) ?_
                        refine va_callv (va_runV (As := []) (rest := []) ⟨hx, hb, hml, hown, (fun _ h9 => absurd h9 List.not_mem_nil : ∀ w ∈ ([] : List Cond), w.before _ s = true)⟩ (c_M_nextq l D cy A X hst hXT G351 o Ar I347 F352 L ft sx fr en bo qj hM hQ hnq.1 (by have z := hnq.2; omega) (by have z := hnq.2; omega)) (tb_cw (C := RX14) 0 hT tw_1640 tw_109 tw_1637 tw_1639 tw_62 rfl rfl hq_X14_next ⟨Nat.le_of_ble_eq_true rfl, Nat.le_of_ble_eq_true rfl⟩) (mk_preC hst hG hK hA hX hS vc_15 hM.1) rfl rfl hl.1 rfl (lv_room (Nat.le_of_ble_eq_true rfl)) dX14_jobStatement_338 ⟨Nat.le_of_ble_eq_true rfl, Nat.le_of_ble_eq_true rfl⟩) hS (fun q _ h => h) (fun q h => h) (fun  G355 t H locs ht hvm hw hB hz1 hk1 hS => ?_)
                        have hG : mm D vwCl A G355 H := by rw [← ht]; exact hB
                        clear hB hz1 hk1 hvm ht
                        obtain ⟨a356, ea356⟩ : ∃ y, y = (qj.1 + 1, qj.2) := ⟨_, rfl⟩
                        rw [← ea356] at hw
                        obtain ⟨I357, F358, hM2, hF2, hQ2, hI2, hX2⟩ := hw
                        replace hF := hF.tr hF2; replace hM := hM2; clear hM2 hF2
                        have hQ := hQ2; have hIZ := (IZ_x hI2).trans hIZ; have hFr := hFr.fx hX2; have hC := hC.fx hI2 hX2
                        have hFr9 := hFr9.fx hX2
                        have p359 : F358 6 (bo) = nI (v9.nJ + 1) := (congrFun (FXe hX2 (by decide)) _).trans p353
                        have p360 : F358 33 (4 * bo + v9.nJ) = Fj 33 (4 * bo + v9.nJ) := (congrFun (FXe hX2 (by decide)) _).trans p354
                        have p361 : F358 34 (4 * bo + v9.nJ) = nI (kk + 1) := (congrFun (FXe hX2 (by decide)) _).trans g34
                        have p362 : F358 35 (400 * bo + (100 * v9.nJ + kk)) = 24 := (congrFun (FXe hX2 (by decide)) _).trans g35
                        have p363 : F358 36 (400 * bo + (100 * v9.nJ + kk)) = 0 := (congrFun (FXe hX2 (by decide)) _).trans g36
                        have p364 : F358 37 (400 * bo + (100 * v9.nJ + kk)) = 0 := (congrFun (FXe hX2 (by decide)) _).trans g37
                        have p365 : I357 57 = nI (on + 1) := (IXe hI2 (by decide)).trans p349
                        have p366 : I357 56 = nI (ta + 1) := (IXe hI2 (by decide)).trans p350
                        clear hI2 hX2 hQ2
                        have ga356 : qj.1 ≤ a356.1 := by rw [ea356]; exact ge_next
                        have da356 : a356.2 < 0 → _ := fun z => ad_next hSn (by rw [← ea356]; exact z)
                        rw [← ea356] at da356
                        have hc1 : cj ≤ a356.1 + 1 := by omega
                        have hc2 : a356.2 < 0 → cj ≤ a356.1 := fun z => by have := da356 z; omega
                        refine lv_aload_n hx hb dX14_jobStatement_341 rfl (lv_at hl 1 rfl) ?_
                        refine lv_bipush (v := 123) hx hb dX14_jobStatement_342 (by decide) ?_
                        refine va_callv (va_runV (As := [.int 123]) (rest := []) ⟨hx, hb, hml, hown, (fun _ h9 => absurd h9 List.not_mem_nil : ∀ w ∈ ([] : List Cond), w.before _ s = true)⟩ (c_M_mark l D cy A X hst hXT G355 o Ar I357 F358 L ft sx fr en bo a356 4 hM hQ (by decide) (by decide)) (tb_cw (C := RX14) 1 hT tw_1717 tw_109 tw_1714 tw_1716 tw_73 rfl rfl hq_X14_mark ⟨Nat.le_of_ble_eq_true rfl, Nat.le_of_ble_eq_true rfl⟩) (mk_preC hst hG hK hA hX hS vc_15 hM.1) rfl rfl hl.1 rfl (lv_room (Nat.le_of_ble_eq_true rfl)) dX14_jobStatement_344 ⟨Nat.le_of_ble_eq_true rfl, Nat.le_of_ble_eq_true rfl⟩) hS (fun q _ h => h) (fun q h => h) (fun  G367 t H locs ht hvm hw hB hz1 hk1 hS => ?_)
                        have hG : mm D vwCl A G367 H := by rw [← ht]; exact hB
                        clear hB hz1 hk1 hvm ht
                        obtain ⟨a368, ea368⟩ : ∃ y, y = q_take (tkK ft en) (tkS ft en) 4 a356 := ⟨_, rfl⟩
                        rw [← ea368] at hw
                        obtain ⟨I369, F370, hM2, hF2, hQ2, hI2, hX2⟩ := hw
                        replace hF := hF.tr hF2; replace hM := hM2; clear hM2 hF2
                        have hQ := hQ2; have hIZ := (IZ_x hI2).trans hIZ; have hFr := hFr.fx hX2; have hC := hC.fx hI2 hX2
                        have hFr9 := hFr9.fx hX2
                        have p371 : F370 6 (bo) = nI (v9.nJ + 1) := (congrFun (FXe hX2 (by decide)) _).trans p359
                        have p372 : F370 33 (4 * bo + v9.nJ) = Fj 33 (4 * bo + v9.nJ) := (congrFun (FXe hX2 (by decide)) _).trans p360
                        have p373 : F370 34 (4 * bo + v9.nJ) = nI (kk + 1) := (congrFun (FXe hX2 (by decide)) _).trans p361
                        have p374 : F370 35 (400 * bo + (100 * v9.nJ + kk)) = 24 := (congrFun (FXe hX2 (by decide)) _).trans p362
                        have p375 : F370 36 (400 * bo + (100 * v9.nJ + kk)) = 0 := (congrFun (FXe hX2 (by decide)) _).trans p363
                        have p376 : F370 37 (400 * bo + (100 * v9.nJ + kk)) = 0 := (congrFun (FXe hX2 (by decide)) _).trans p364
                        have p377 : I369 57 = nI (on + 1) := (IXe hI2 (by decide)).trans p365
                        have p378 : I369 56 = nI (ta + 1) := (IXe hI2 (by decide)).trans p366
                        clear hI2 hX2 hQ2
                        have ga368 : a356.1 ≤ a368.1 := by rw [ea368]; exact ge_take
                        have da368 : a368.2 < 0 → _ := fun z => ad_take hSn (by rw [← ea368]; exact z)
                        rw [← ea368] at da368
                        have hc1 : cj ≤ a368.1 + 1 := by omega
                        have hc2 : a368.2 < 0 → cj ≤ a368.1 := fun z => by have := da368 z; omega
                        refine lv_goto (tgt := 93) hx hb dX14_jobStatement_347 (by decide) ?_
                        have hqw := q_op_w (S := tkS ft en) (V := tkV ft en) (kk := kk) (wf := wf) hnq.2 hgd (Int32.not_le.mp c_225) hon3
                        rw [← ea356, ← ea368] at hqw
                        have hR2 : q_ops (tkK ft en) (tkS ft en) (tkV ft en) n (kk + 1) (ta + 1) (on + 1) (upd wf on (nI kk)) (upO dj kk (34, 0, 0, 0, 0, 0, 0)) a368 = RP := by rw [← hR, q_ops, if_neg hn5, if_pos ⟨hio, hgd⟩, hqw]
                        have hcr2 : a368.2 < 0 → clj ++ clOs (tkK ft en) (tkS ft en) (tkV ft en) v9.nJ n (kk + 1) (ta + 1) (on + 1) (upd wf on (nI kk)) a368 = CR := fun z => by rw [← hcr hgd, clOs, if_neg hn5, if_pos ⟨hio, hgd⟩, hqw]; unfold clO; rw [if_neg (by omega)]; rfl
                        have hOp2 : a368.2 < 0 → ∀ i, i < kk + 1 → OPf (tkK ft en) (tkV ft en) (a368.1 + 1) F370 (400 * bo + (100 * v9.nJ + i)) (upO dj kk (34, 0, 0, 0, 0, 0, 0) i) := by
                          intro z i hi
                          unfold upO
                          by_cases y1 : i = kk
                          · rw [if_pos y1, y1]
                            exact ⟨p374, (fun z => absurd z (by decide)), (fun z => absurd z (by decide)), (fun _ => p375)⟩
                          · rw [if_neg y1]
                            exact (hOp hgd i (by omega)).mv (by omega) (hFr9 35 _ (by unfold lxA; omega) (by unfold wQ; omega)) (hFr9 36 _ (by unfold lxA; omega) (by unfold wQ; omega)) (hFr9 37 _ (by unfold lxA; omega) (by unfold wQ; omega))
                        have hwf3 : a368.2 < 0 → ∀ i, i < on + 1 → ∃ sx, sx < kk + 1 ∧ upd wf on (nI kk) i = nI sx ∧ (upO dj kk (34, 0, 0, 0, 0, 0, 0) sx).1 = 34 := by
                          intro z i hi
                          by_cases y1 : i = on
                          · exact ⟨kk, Nat.lt_succ_self kk, by rw [y1, pk_us], by unfold upO; rw [if_pos rfl]⟩
                          · obtain ⟨sx, y2, y3, y4⟩ := hwf2 hgd i (by omega)
                            exact ⟨sx, by omega, by rw [pk_un y1]; exact y3, by unfold upO; rw [if_neg (by omega)]; exact y4⟩
                        exact ih (kk + 1) (ta + 1) (on + 1) a368 (upd wf on (nI kk)) (upO dj kk (34, 0, 0, 0, 0, 0, 0)) I369 F370 clj (cj) (nI kk) x4 x5 CR RP st9 a33 hR2 (Or.inl (by omega)) hlim hqs hcr2 hCR hQ hC hc1 hIZ hFr (by omega) p371 (fun z => by rw [p372]; exact (h33 hgd).mono (by omega)) (fun _ => p373) (fun _ => p378) (fun _ => p377) (fun _ => ⟨by omega, by omega, by omega⟩) (fun _ => ⟨fun _ => by rw [hon9, pk_us], fun z => by exfalso; omega, fun z => by exfalso; omega⟩) hwf3 hOp2 G367 hM hF _ _ hG hS ls (lv_sub hl [1, 2, 3, 0, 4, 5] rfl)
            · skip
              exact absurd (by rw [er251]; exact (er240.symm.trans c_113)) c_122
  refine lv_aload_n hx hb dX14_jobStatement_0 rfl (lv_at hl 0 rfl) ?_
  refine mm_get (v := .int (Iv 41)) hx hb hf_X14 (fun _ h9 => h9) hown hK hG hM.1 rfl 41 (by decide) (tb_use hT tw_1432) (fun _ h9 => h9) (mfs_g41 _ _) dX14_jobStatement_1 ?_
  rw [hbo]
  refine lv_istore_n (lv' := [(1, .int (nI bo)), (0, .ref o)]) hx hb dX14_jobStatement_4 rfl hl (by decide) rfl (fun ls hl => ?_)
  refine lv_aload_n hx hb dX14_jobStatement_5 rfl (lv_at hl 1 rfl) ?_
  refine lv_aload_n hx hb dX14_jobStatement_6 rfl (lv_at hl 1 rfl) ?_
  refine mm_get (v := .ref (Ar 6)) hx hb hf_X14 (fun _ h9 => h9) hown hK hG hM.1 rfl 6 (by decide) (tb_use hT tw_1397) (fun _ h9 => h9) (mfs_g6 _ _) dX14_jobStatement_7 ?_
  refine lv_iload_n hx hb dX14_jobStatement_10 rfl (lv_at hl 0 rfl) ?_
  refine mm_iald (n := 2) (f := F 6) hx hb hK hG 1 (hM.2.1 6 rfl) rfl (by exact nI_in (N := 2) (by omega) (by decide)) dX14_jobStatement_11 ?_
  refine lv_topi (fun x379 ex379 => ?_)
  rw [show x379 = nI v9.nJ by rw [ex379, nI_clamp (by omega)]; exact hn]
  refine lv_iconst (v := 4) hx hb dX14_jobStatement_12 (by decide) ?_
  refine va_calli (va_runV (As := [.int (nI v9.nJ), .int 4]) (rest := []) ⟨hx, hb, hml, hown, (fun _ h9 => absurd h9 List.not_mem_nil : ∀ w ∈ ([] : List Cond), w.before _ s = true)⟩ (c_M_begins l D cy A X hst hXT G o Ar Iv F L ft sx fr en bo q (nI v9.nJ) 4 hM hQ hkb) (tb_cw (C := RX14) 2 hT tw_1701 tw_109 tw_1698 tw_1700 tw_69 rfl rfl hq_X14_begins ⟨Nat.le_of_ble_eq_true rfl, Nat.le_of_ble_eq_true rfl⟩) (mk_preC hst hG hK hA hX hS vc_15 hM.1) rfl rfl hl.1 rfl (lv_room (Nat.le_of_ble_eq_true rfl)) dX14_jobStatement_13 ⟨Nat.le_of_ble_eq_true rfl, Nat.le_of_ble_eq_true rfl⟩) hS (fun q _ h => h) (fun q h => h) (fun r380 G381 t H locs ht hvm hw hB hz1 hk1 hS => ?_)
  have hG : mm D vwCl A G381 H := by rw [← ht]; exact hB
  clear hB hz1 hk1 hvm ht
  obtain ⟨a382, ea382⟩ : ∃ y, y = q_begin (tkS ft en) (nI v9.nJ) 4 q := ⟨_, rfl⟩
  rw [← ea382] at hw
  obtain ⟨hr380, I383, F384, hM2, hF2, hQ2, hI2, hX2⟩ := hw
  replace hF := hF.tr hF2; replace hM := hM2; clear hM2 hF2
  have hQ := hQ2; have hIZ := (IZ_x hI2).trans hIZ; have hFr := hFr.fx hX2; have hC := hC.fx hI2 hX2
  have p385 : F384 6 (bo) = nI v9.nJ := (congrFun (FXe hX2 (by decide)) _).trans hn
  clear hI2 hX2 hQ2
  have ga382 : q.1 ≤ a382.1 := by rw [ea382]; exact ge_begin
  have da382 : a382.2 < 0 → _ := fun z => ad_begin hSn (by rw [← ea382]; exact z)
  rw [← ea382] at da382
  have hc1 : c9 ≤ a382.1 + 1 := by omega
  have hc2 : a382.2 < 0 → c9 ≤ a382.1 := fun z => by have := da382 z; omega
  refine lv_if_ne (tgt := 20) hx hb dX14_jobStatement_16 (by decide) (fun c_16 => ?_) (fun c_16 => ?_)
  · skip
    have hb0 : a382.2 < 0 := of_decide_eq_true (b2i_t (by rw [← hr380]; exact c_16))
    have hlim : v9.nJ < 4 := nI_lt_of (by omega) (by decide) (Int32.not_le.mpr (da382 hb0).2.1)
    refine lv_aload_n hx hb dX14_jobStatement_20 rfl (lv_at hl 1 rfl) ?_
    refine mm_get (v := .ref (Ar 6)) hx hb hf_X14 (fun _ h9 => h9) hown hK hG hM.1 rfl 6 (by decide) (tb_use hT tw_1397) (fun _ h9 => h9) (mfs_g6 _ _) dX14_jobStatement_21 ?_
    refine lv_iload_n hx hb dX14_jobStatement_24 rfl (lv_at hl 0 rfl) ?_
    refine mm_iald (n := 2) (f := F384 6) hx hb hK hG 1 (hM.2.1 6 rfl) rfl (by exact nI_in (N := 2) (by omega) (by decide)) dX14_jobStatement_25 ?_
    refine lv_topi (fun x386 ex386 => ?_)
    rw [show x386 = nI v9.nJ by rw [ex386, nI_clamp (by omega)]; exact p385]
    refine lv_istore_n (lv' := [(2, .int (nI v9.nJ)), (1, .int (nI bo)), (0, .ref o)]) hx hb dX14_jobStatement_26 rfl hl (by decide) rfl (fun ls hl => ?_)
    refine lv_aload_n hx hb dX14_jobStatement_27 rfl (lv_at hl 2 rfl) ?_
    refine lv_iconst (v := 3) hx hb dX14_jobStatement_28 (by decide) ?_
    refine lv_iload_n hx hb dX14_jobStatement_29 rfl (lv_at hl 0 rfl) ?_
    refine lv_iconst (v := 0) hx hb dX14_jobStatement_30 (by decide) ?_
    refine va_callv (va_runV (As := [.int 3, .int (nI v9.nJ), .int 0]) (rest := []) ⟨hx, hb, hml, hown, (fun _ h9 => absurd h9 List.not_mem_nil : ∀ w ∈ ([] : List Cond), w.before _ s = true)⟩ (c_M_claimr l D cy A X hst hXT G381 o Ar I383 F384 L ft sx fr en bo a382 cl c9 3 v9.nJ 0 hM hQ hC hc1 hc2) (tb_cw (C := RX14) 3 hT tw_1709 tw_109 tw_1706 tw_1708 tw_71 rfl rfl hq_X14_claim ⟨Nat.le_of_ble_eq_true rfl, Nat.le_of_ble_eq_true rfl⟩) (mk_preC hst hG hK hA hX hS vc_15 hM.1) rfl rfl hl.1 rfl (lv_room (Nat.le_of_ble_eq_true rfl)) dX14_jobStatement_31 ⟨Nat.le_of_ble_eq_true rfl, Nat.le_of_ble_eq_true rfl⟩) hS (fun q _ h => h) (fun q h => h) (fun  G387 t H locs ht hvm hw hB hz1 hk1 hS => ?_)
    have hG : mm D vwCl A G387 H := by rw [← ht]; exact hB
    clear hB hz1 hk1 hvm ht
    obtain ⟨I388, F389, hM2, hF2, hQ2, hC2, hI2, hX2⟩ := hw
    replace hF := hF.tr hF2; replace hM := hM2; clear hM2 hF2
    have hQ := hQ2; have hC := hC2; have hIZ := (IZ_58 hI2).trans hIZ
    have hFr : FrW (wJ bo v9.nJ) F F389 := fun j i h1 h2 => (congrFun (hX2 j (fun z => h1 (by unfold lxA; omega))) i).trans (hFr j i h1 h2)
    have p390 : F389 6 (bo) = nI v9.nJ := (congrFun (hX2 6 (by decide)) _).trans p385
    clear hI2 hX2 hQ2 hC2
    have hc1 : a382.1 + 1 ≤ a382.1 + 1 := Nat.le_refl _
    refine lv_aload_n hx hb dX14_jobStatement_34 rfl (lv_at hl 2 rfl) ?_
    refine mm_get (v := .ref (Ar 33)) hx hb hf_X14 (fun _ h9 => h9) hown hK hG hM.1 rfl 33 (by decide) (tb_use hT tw_1424) (fun _ h9 => h9) (mfs_g33 _ _) dX14_jobStatement_35 ?_
    refine lv_iconst (v := 4) hx hb dX14_jobStatement_38 (by decide) ?_
    refine lv_iload_n hx hb dX14_jobStatement_39 rfl (lv_at hl 1 rfl) ?_
    refine lv_imul hx hb dX14_jobStatement_40 ?_
    refine lv_iload_n hx hb dX14_jobStatement_41 rfl (lv_at hl 0 rfl) ?_
    refine lv_iadd hx hb dX14_jobStatement_42 ?_
    refine lv_aload_n hx hb dX14_jobStatement_43 rfl (lv_at hl 2 rfl) ?_
    refine va_calli (va_runV (As := []) (rest := [.int ((4 * (nI bo)) + (nI v9.nJ)), .ref (Ar 33)]) ⟨hx, hb, hml, hown, (fun _ h9 => absurd h9 List.not_mem_nil : ∀ w ∈ ([] : List Cond), w.before _ s = true)⟩ (c_M_name l D cy A X hst hXT G387 o Ar I388 F389 L ft sx fr en bo a382 hM hQ) (tb_cw (C := RX14) 0 hT tw_1713 tw_109 tw_1710 tw_1712 tw_72 rfl rfl hq_X14_name ⟨Nat.le_of_ble_eq_true rfl, Nat.le_of_ble_eq_true rfl⟩) (mk_preC hst hG hK hA hX hS vc_15 hM.1) rfl rfl hl.1 rfl (lv_room (Nat.le_of_ble_eq_true rfl)) dX14_jobStatement_44 ⟨Nat.le_of_ble_eq_true rfl, Nat.le_of_ble_eq_true rfl⟩) hS (fun q _ h => h) (fun q h => h) (fun r391 G392 t H locs ht hvm hw hB hz1 hk1 hS => ?_)
    have hG : mm D vwCl A G392 H := by rw [← ht]; exact hB
    clear hB hz1 hk1 hvm ht
    obtain ⟨a393, ea393⟩ : ∃ y, y = q_name (tkK ft en) (tkS ft en) (tkV ft en) a382 := ⟨_, rfl⟩
    rw [← ea393] at hw
    obtain ⟨hr391, I394, F395, hM2, hF2, hQ2, hI2, hX2⟩ := hw
    replace hF := hF.tr hF2; replace hM := hM2; clear hM2 hF2
    have hQ := hQ2; have hIZ := (IZ_x hI2).trans hIZ; have hFr := hFr.fx hX2; have hC := hC.fx hI2 hX2
    have p396 : F395 6 (bo) = nI v9.nJ := (congrFun (FXe hX2 (by decide)) _).trans p390
    clear hI2 hX2 hQ2
    have ga393 : a382.1 ≤ a393.2.1 := by rw [ea393]; exact ge_name
    have da393 : a393.2.2 < 0 → _ := fun z => ad_name hSn (by rw [← ea393]; exact z)
    rw [← ea393] at da393
    have hc1 : a382.1 + 1 ≤ a393.2.1 + 1 := by omega
    have hc2 : a393.2.2 < 0 → a382.1 + 1 ≤ a393.2.1 := fun z => by have := da393 z; omega
    refine mm_iast (n := mdN 33) (f := F395 33) hx hb hK hG hS 1 (hM.2.1 33 rfl) rfl (by rw [show (((4 * (nI bo)) + (nI v9.nJ)) : Int32) = nI (4 * bo + v9.nJ) by show (((nI 4 * (nI bo)) + (nI v9.nJ)) : Int32) = _; simp only [nI_mu, nI_add]]; exact nI_in (N := mdN 33) (by show _ < 8; omega) (by decide)) dX14_jobStatement_47 (fun H locs hG hS => ?_)
    have hM := MD.seti (k := 33) (upd (F395 33) ((4 * (nI bo)) + (nI v9.nJ)).toNatClampNeg r391) hM rfl
    have hF := hF.wa (k := 33) (e' := .inl (cy 1, mdN 33, .inl (upd (F395 33) ((4 * (nI bo)) + (nI v9.nJ)).toNatClampNeg r391))) rfl
    obtain ⟨F397, eF397⟩ : ∃ g, g = va_up F395 33 (upd (F395 33) ((4 * (nI bo)) + (nI v9.nJ)).toNatClampNeg r391) := ⟨_, rfl⟩
    rw [← eF397] at hM
    have hgn := gn_MD hG hM hF
    clear hG hM hF
    obtain ⟨G398, hG, hM, hF⟩ := hgn
    rw [show (((4 * (nI bo)) + (nI v9.nJ)) : Int32) = nI (4 * bo + v9.nJ) by show (((nI 4 * (nI bo)) + (nI v9.nJ)) : Int32) = _; simp only [nI_mu, nI_add], nI_clamp (by omega)] at eF397
    have p399 : F397 6 (bo) = nI v9.nJ := by rw [eF397, va_up_ne _ _ (by decide)]; exact p396
    have p400 : F397 33 (4 * bo + v9.nJ) = r391 := by rw [eF397, va_up_self, pk_us]
    have hFr : FrW (wJ bo v9.nJ) F F397 := by rw [eF397]; exact hFr.up (by unfold wJ; omega)
    have hQ : LXq Ar I394 F397 ft sx fr en bo a393.2 := by rw [eF397]; exact hQ.wF (by decide)
    have hC : CLq I394 F397 ft en (clA a382 cl (3, a382.1, v9.nJ, 0)) (a382.1 + 1) := by rw [eF397]; exact hC.wF (by decide)
    refine lv_aload_n hx hb dX14_jobStatement_48 rfl (lv_at hl 2 rfl) ?_
    refine mm_get (v := .ref (Ar 34)) hx hb hf_X14 (fun _ h9 => h9) hown hK hG hM.1 rfl 34 (by decide) (tb_use hT tw_1425) (fun _ h9 => h9) (mfs_g34 _ _) dX14_jobStatement_49 ?_
    refine lv_iconst (v := 4) hx hb dX14_jobStatement_52 (by decide) ?_
    refine lv_iload_n hx hb dX14_jobStatement_53 rfl (lv_at hl 1 rfl) ?_
    refine lv_imul hx hb dX14_jobStatement_54 ?_
    refine lv_iload_n hx hb dX14_jobStatement_55 rfl (lv_at hl 0 rfl) ?_
    refine lv_iadd hx hb dX14_jobStatement_56 ?_
    refine lv_iconst (v := 0) hx hb dX14_jobStatement_57 (by decide) ?_
    refine mm_iast (n := mdN 34) (f := F397 34) hx hb hK hG hS 1 (hM.2.1 34 rfl) rfl (by rw [show (((4 * (nI bo)) + (nI v9.nJ)) : Int32) = nI (4 * bo + v9.nJ) by show (((nI 4 * (nI bo)) + (nI v9.nJ)) : Int32) = _; simp only [nI_mu, nI_add]]; exact nI_in (N := mdN 34) (by show _ < 8; omega) (by decide)) dX14_jobStatement_58 (fun H locs hG hS => ?_)
    have hM := MD.seti (k := 34) (upd (F397 34) ((4 * (nI bo)) + (nI v9.nJ)).toNatClampNeg 0) hM rfl
    have hF := hF.wa (k := 34) (e' := .inl (cy 1, mdN 34, .inl (upd (F397 34) ((4 * (nI bo)) + (nI v9.nJ)).toNatClampNeg 0))) rfl
    obtain ⟨F401, eF401⟩ : ∃ g, g = va_up F397 34 (upd (F397 34) ((4 * (nI bo)) + (nI v9.nJ)).toNatClampNeg 0) := ⟨_, rfl⟩
    rw [← eF401] at hM
    have hgn := gn_MD hG hM hF
    clear hG hM hF
    obtain ⟨G402, hG, hM, hF⟩ := hgn
    rw [show (((4 * (nI bo)) + (nI v9.nJ)) : Int32) = nI (4 * bo + v9.nJ) by show (((nI 4 * (nI bo)) + (nI v9.nJ)) : Int32) = _; simp only [nI_mu, nI_add], nI_clamp (by omega)] at eF401
    have p403 : F401 6 (bo) = nI v9.nJ := by rw [eF401, va_up_ne _ _ (by decide)]; exact p399
    have p404 : F401 33 (4 * bo + v9.nJ) = r391 := by rw [eF401, va_up_ne _ _ (by decide)]; exact p400
    have p405 : F401 34 (4 * bo + v9.nJ) = 0 := by rw [eF401, va_up_self, pk_us]
    have hFr : FrW (wJ bo v9.nJ) F F401 := by rw [eF401]; exact hFr.up (by unfold wJ; omega)
    have hQ : LXq Ar I394 F401 ft sx fr en bo a393.2 := by rw [eF401]; exact hQ.wF (by decide)
    have hC : CLq I394 F401 ft en (clA a382 cl (3, a382.1, v9.nJ, 0)) (a382.1 + 1) := by rw [eF401]; exact hC.wF (by decide)
    refine lv_aload_n hx hb dX14_jobStatement_59 rfl (lv_at hl 2 rfl) ?_
    refine mm_get (v := .ref (Ar 6)) hx hb hf_X14 (fun _ h9 => h9) hown hK hG hM.1 rfl 6 (by decide) (tb_use hT tw_1397) (fun _ h9 => h9) (mfs_g6 _ _) dX14_jobStatement_60 ?_
    refine lv_iload_n hx hb dX14_jobStatement_63 rfl (lv_at hl 1 rfl) ?_
    refine lv_dup2_11 hx hb dX14_jobStatement_64 rfl rfl ?_
    refine mm_iald (n := 2) (f := F401 6) hx hb hK hG 1 (hM.2.1 6 rfl) rfl (by exact nI_in (N := 2) (by omega) (by decide)) dX14_jobStatement_65 ?_
    refine lv_topi (fun x406 ex406 => ?_)
    rw [show x406 = nI v9.nJ by rw [ex406, nI_clamp (by omega)]; exact p403]
    refine lv_iconst (v := 1) hx hb dX14_jobStatement_66 (by decide) ?_
    refine lv_iadd hx hb dX14_jobStatement_67 ?_
    rw [show nI v9.nJ + 1 = nI (v9.nJ + 1) from nI_1 _]
    refine lv_topi (fun x407 ex407 => ?_)
    refine mm_iast (n := mdN 6) (f := F401 6) hx hb hK hG hS 1 (hM.2.1 6 rfl) rfl (by exact nI_in (N := mdN 6) (by show _ < 2; omega) (by decide)) dX14_jobStatement_68 (fun H locs hG hS => ?_)
    have hM := MD.seti (k := 6) (upd (F401 6) (nI bo).toNatClampNeg x407) hM rfl
    have hF := hF.wa (k := 6) (e' := .inl (cy 1, mdN 6, .inl (upd (F401 6) (nI bo).toNatClampNeg x407))) rfl
    obtain ⟨F408, eF408⟩ : ∃ g, g = va_up F401 6 (upd (F401 6) (nI bo).toNatClampNeg x407) := ⟨_, rfl⟩
    rw [← eF408] at hM
    have hgn := gn_MD hG hM hF
    clear hG hM hF
    obtain ⟨G409, hG, hM, hF⟩ := hgn
    rw [nI_clamp (by omega)] at eF408
    have p410 : F408 33 (4 * bo + v9.nJ) = r391 := by rw [eF408, va_up_ne _ _ (by decide)]; exact p404
    have p411 : F408 34 (4 * bo + v9.nJ) = 0 := by rw [eF408, va_up_ne _ _ (by decide)]; exact p405
    have p412 : F408 6 (bo) = nI (v9.nJ + 1) := by rw [eF408, va_up_self, pk_us, ex407]
    have hFr : FrW (wJ bo v9.nJ) F F408 := by rw [eF408]; exact hFr.up (by unfold wJ; omega)
    have hQ : LXq Ar I394 F408 ft sx fr en bo a393.2 := by rw [eF408]; exact hQ.wF (by decide)
    have hC : CLq I394 F408 ft en (clA a382 cl (3, a382.1, v9.nJ, 0)) (a382.1 + 1) := by rw [eF408]; exact hC.wF (by decide)
    refine lv_aload_n hx hb dX14_jobStatement_69 rfl (lv_at hl 2 rfl) ?_
    refine lv_iconst (v := 0) hx hb dX14_jobStatement_70 (by decide) ?_
    refine mm_put (v := .int 0) (ty := .int) hx hb hf_X14 (fun _ h9 => h9) tyX14 tyX14_ok nmX14 hown hK hG hS hM.1 rfl 56 (by decide) (tb_use hT tw_1447) (fun _ h9 => h9) rfl (by decide +kernel) rfl rfl (mfs_l56 _ _) dX14_jobStatement_71 (fun H locs hG hS => ?_)
    have hM := MD.puti (k := 56) (v := 0) hM (mfs_s56 _ _ _)
    have hF := hF.wo (e' := .inr (15, (mfs Ar I394).set 56 (.int 0)))
    obtain ⟨I413, eI413⟩ : ∃ g, g = upd I394 56 0 := ⟨_, rfl⟩
    rw [← eI413] at hM
    have hgn := gn_MD hG hM hF
    clear hG hM hF
    obtain ⟨G414, hG, hM, hF⟩ := hgn
    have p415 : I413 56 = 0 := by rw [eI413, pk_us]
    have hIZ : IZ I413 = IZ Iv := by rw [eI413, IZ_up (by decide)]; exact hIZ
    have hQ : LXq Ar I413 F408 ft sx fr en bo a393.2 := by rw [eI413]; exact hQ.wI (by decide)
    have hC : CLq I413 F408 ft en (clA a382 cl (3, a382.1, v9.nJ, 0)) (a382.1 + 1) := by rw [eI413]; exact hC.wI (by decide)
    refine lv_aload_n hx hb dX14_jobStatement_74 rfl (lv_at hl 2 rfl) ?_
    refine lv_bipush (v := 123) hx hb dX14_jobStatement_75 (by decide) ?_
    refine va_callv (va_runV (As := [.int 123]) (rest := []) ⟨hx, hb, hml, hown, (fun _ h9 => absurd h9 List.not_mem_nil : ∀ w ∈ ([] : List Cond), w.before _ s = true)⟩ (c_M_mark l D cy A X hst hXT G414 o Ar I413 F408 L ft sx fr en bo a393.2 4 hM hQ (by decide) (by decide)) (tb_cw (C := RX14) 1 hT tw_1717 tw_109 tw_1714 tw_1716 tw_73 rfl rfl hq_X14_mark ⟨Nat.le_of_ble_eq_true rfl, Nat.le_of_ble_eq_true rfl⟩) (mk_preC hst hG hK hA hX hS vc_15 hM.1) rfl rfl hl.1 rfl (lv_room (Nat.le_of_ble_eq_true rfl)) dX14_jobStatement_77 ⟨Nat.le_of_ble_eq_true rfl, Nat.le_of_ble_eq_true rfl⟩) hS (fun q _ h => h) (fun q h => h) (fun  G416 t H locs ht hvm hw hB hz1 hk1 hS => ?_)
    have hG : mm D vwCl A G416 H := by rw [← ht]; exact hB
    clear hB hz1 hk1 hvm ht
    obtain ⟨a417, ea417⟩ : ∃ y, y = q_take (tkK ft en) (tkS ft en) 4 a393.2 := ⟨_, rfl⟩
    rw [← ea417] at hw
    obtain ⟨I418, F419, hM2, hF2, hQ2, hI2, hX2⟩ := hw
    replace hF := hF.tr hF2; replace hM := hM2; clear hM2 hF2
    have hQ := hQ2; have hIZ := (IZ_x hI2).trans hIZ; have hFr := hFr.fx hX2; have hC := hC.fx hI2 hX2
    have p420 : F419 33 (4 * bo + v9.nJ) = r391 := (congrFun (FXe hX2 (by decide)) _).trans p410
    have p421 : F419 34 (4 * bo + v9.nJ) = 0 := (congrFun (FXe hX2 (by decide)) _).trans p411
    have p422 : F419 6 (bo) = nI (v9.nJ + 1) := (congrFun (FXe hX2 (by decide)) _).trans p412
    have p423 : I418 56 = 0 := (IXe hI2 (by decide)).trans p415
    clear hI2 hX2 hQ2
    have ga417 : a393.2.1 ≤ a417.1 := by rw [ea417]; exact ge_take
    have da417 : a417.2 < 0 → _ := fun z => ad_take hSn (by rw [← ea417]; exact z)
    rw [← ea417] at da417
    have hc1 : a382.1 + 1 ≤ a417.1 + 1 := by omega
    have hc2 : a417.2 < 0 → a382.1 + 1 ≤ a417.1 := fun z => by have := da417 z; omega
    refine lv_iconst (v := (-1)) hx hb dX14_jobStatement_80 (by decide) ?_
    refine lv_istore_n (lv' := [(3, .int (-1)), (2, .int (nI v9.nJ)), (1, .int (nI bo)), (0, .ref o)]) hx hb dX14_jobStatement_81 rfl hl (by decide) rfl (fun ls hl => ?_)
    refine lv_iconst (v := (-1)) hx hb dX14_jobStatement_82 (by decide) ?_
    refine lv_istore (lv' := [(4, .int (-1)), (3, .int (-1)), (2, .int (nI v9.nJ)), (1, .int (nI bo)), (0, .ref o)]) hx hb dX14_jobStatement_83 hl (by decide) rfl (fun ls hl => ?_)
    refine lv_iconst (v := (-1)) hx hb dX14_jobStatement_85 (by decide) ?_
    refine lv_istore (lv' := [(5, .int (-1)), (4, .int (-1)), (3, .int (-1)), (2, .int (nI v9.nJ)), (1, .int (nI bo)), (0, .ref o)]) hx hb dX14_jobStatement_86 hl (by decide) rfl (fun ls hl => ?_)
    refine lv_aload_n hx hb dX14_jobStatement_88 rfl (lv_at hl 5 rfl) ?_
    refine lv_iconst (v := 0) hx hb dX14_jobStatement_89 (by decide) ?_
    refine mm_put (v := .int 0) (ty := .int) hx hb hf_X14 (fun _ h9 => h9) tyX14 tyX14_ok nmX14 hown hK hG hS hM.1 rfl 57 (by decide) (tb_use hT tw_1448) (fun _ h9 => h9) rfl (by decide +kernel) rfl rfl (mfs_l57 _ _) dX14_jobStatement_90 (fun H locs hG hS => ?_)
    have hM := MD.puti (k := 57) (v := 0) hM (mfs_s57 _ _ _)
    have hF := hF.wo (e' := .inr (15, (mfs Ar I418).set 57 (.int 0)))
    obtain ⟨I424, eI424⟩ : ∃ g, g = upd I418 57 0 := ⟨_, rfl⟩
    rw [← eI424] at hM
    have hgn := gn_MD hG hM hF
    clear hG hM hF
    obtain ⟨G425, hG, hM, hF⟩ := hgn
    have p426 : I424 56 = 0 := by rw [eI424]; exact (pk_un (by decide)).trans p423
    have p427 : I424 57 = 0 := by rw [eI424, pk_us]
    have hIZ : IZ I424 = IZ Iv := by rw [eI424, IZ_up (by decide)]; exact hIZ
    have hQ : LXq Ar I424 F419 ft sx fr en bo a417 := by rw [eI424]; exact hQ.wI (by decide)
    have hC : CLq I424 F419 ft en (clA a382 cl (3, a382.1, v9.nJ, 0)) (a382.1 + 1) := by rw [eI424]; exact hC.wI (by decide)
    have hqs : (q_job (tkK ft en) (tkS ft en) (tkV ft en) v9.nJ q (fun _ => 0)) = (q_take (tkK ft en) (tkS ft en) 5 (q_ops (tkK ft en) (tkS ft en) (tkV ft en) 81 0 0 0 (fun _ => 0) d0O a417).2.2, (tkS ft en a382.1, a393.1), ((q_ops (tkK ft en) (tkS ft en) (tkV ft en) 81 0 0 0 (fun _ => 0) d0O a417).1, (q_ops (tkK ft en) (tkS ft en) (tkV ft en) 81 0 0 0 (fun _ => 0) d0O a417).2.1)) := by simp only [q_job, ← ea382, ← ea393, ← ea417]
    have hcr : a417.2 < 0 → (clA a382 cl (3, a382.1, v9.nJ, 0)) ++ clOs (tkK ft en) (tkS ft en) (tkV ft en) v9.nJ 81 0 0 0 (fun _ => 0) a417 = cl ++ clJ (tkK ft en) (tkS ft en) (tkV ft en) v9.nJ q := fun z => by simp only [clJ, clA, ← ea382, ← ea393, ← ea417]; rw [if_pos hb0, (da382 hb0).2.2, List.append_assoc]; rfl
    exact hlp 81 0 0 0 a417 (fun _ => 0) d0O I424 F419 (clA a382 cl (3, a382.1, v9.nJ, 0)) (a382.1 + 1) (-1) (-1) (-1) (cl ++ clJ (tkK ft en) (tkS ft en) (tkV ft en) v9.nJ q) (q_ops (tkK ft en) (tkS ft en) (tkV ft en) 81 0 0 0 (fun _ => 0) d0O a417) (tkS ft en a382.1) a393.1 rfl (Or.inl rfl) hlim hqs hcr rfl hQ hC hc1 hIZ hFr (by omega) p422 (fun z => (hr391.mono (by omega)).cg p420.symm) (fun _ => p421) (fun _ => p426) (fun _ => p427) (fun _ => ⟨by omega, by omega, by omega⟩) (fun _ => ⟨fun z => by omega, fun z => by omega, fun z => by omega⟩) (fun _ i hi => by omega) (fun _ i hi => by omega) G425 hM hF _ _ hG hS ls (lv_sub hl [5, 4, 3, 2, 1, 0] rfl)
  · skip
    have hb0 : ¬ a382.2 < 0 := of_decide_eq_false (b2i_f (by rw [← hr380]; exact c_16))
    have hqe : (q_job (tkK ft en) (tkS ft en) (tkV ft en) v9.nJ q (fun _ => 0)).1 = a382 := by simp only [q_job, ← ea382]; rw [q_name_f hb0]; dsimp only; rw [q_take_f hb0, q_ops_f hb0]; dsimp only; rw [q_take_f hb0]
    exact W.vret hx hb hr (fun t ht hW => ⟨⟨_, rfl, ⟨_, _, _, hM, hF, (by rw [hqe]; exact hQ), hIZ, hFr, (by rw [hqe]; exact hC.le (by (try dsimp only); omega)), (by rw [hqe]; (try dsimp only); omega), (by rw [hqe]; exact fun z => absurd z hb0)⟩, mk_end hG ht⟩, hS.F ht⟩) hS.2.2 dX14_jobStatement_19
