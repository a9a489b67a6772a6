/-- how many turns a job has at most -/
def jbT : Nat := 10003
theorem i32_steps {x : Int64} (h1 : ¬ x < 0) (h2 : x ≤ 5000) : x.toInt32 = nI x.toInt.toNat ∧ x.toInt.toNat ≤ 5000 := by
  have a1 := Int64.le_iff_toInt_le.mp (Int64.not_lt.mp h1)
  have a2 := Int64.le_iff_toInt_le.mp h2
  rw [show (0 : Int64).toInt = 0 by decide] at a1
  rw [show (5000 : Int64).toInt = 5000 by decide] at a2
  refine ⟨Int32.toInt_inj.mp ?_, by omega⟩
  rw [nI_toInt (by omega), Int64.toInt_toInt32]
  have e : x.toInt.bmod (2 ^ 32) = x.toInt := by
    apply Int.bmod_eq_of_le_mul_two <;> omega
  rw [e]
  omega
/-- what a job leaves -/
def jbR (v : EdV) (z : PtV) (c ln : Nat) (f : Nat → Int32) (x : Int64) (sf : Nat → Int32) : Int32 × JST := jrF v c ln f jbT x.toInt.toNat 0 ((0, z.pv c), z.pd, 0, sf)
def JHv (v : EdV) (z : PtV) : Prop := ∀ j, j < v.nJ → ∃ h, h ≤ 16 ∧ z.jh j = nI h
set_option maxHeartbeats 4000000 in
set_option maxRecDepth 100000 in
theorem c_H_job (l : Launch) (D : va_G) (cy : Nat → ClassId) (A : Nat → Prop) (X : State → Prop) (hst : mk_St A X) (hXT : ∀ U : State, X U → TB U) (e0 : Nat) (tk : Nat → Nat) (hXE : ∀ U : State, X U → ES e0 tk A U) (mi : Nat) (hXL : ∀ U : State, X U → EL e0 mi A U) (ax adK adV : Nat → Nat) (hXX : ∀ U : State, X U → TX ax adK adV tk A U) (G : Nat → Option va_E) (G0 : Nat → Option va_E) (Bx : Nat → Prop) (v : EdV) (z : PtV) (LA EA : Nat → Nat) (AD : Nat → Nat → Nat) (PI : Nat → Nat) (ed na : Nat) (mm9 cap : Nat) (nv : Nat → Int64) (ui : Option Nat) (w9 : Int32 × Option Nat) (o tx rd to se kp : Nat) (rg : Option Nat) (tl kc : Int32) (iv : Int32) (xs : Int64) (ro ln : Nat) (fo9 : Nat → Int32) (rs sl : Nat) (sf : Nat → Int32) (h0 : G o = some (.inr (14, [.ref tx, .ref rd, .ref to, .ref se, .ref kp, .int tl, .int kc, .ref ed, va_rf rg]))) (hP : EDP cy e0 tk G0 Bx G v z LA EA AD PI) (hZ : ZF v AD z) (hed : G ed = some (.inr (3, [.ref (LA 0), .ref (LA 1), .ref (LA 2), .ref (LA 3), .ref (LA 4), .ref (LA 5), .ref na, .int (nI mm9), va_rf (ui.map (AD 1)), .int w9.1, va_rf (w9.2.map (AD 1))]))) (hna : G na = some (.inl (cy 2, cap, .inr (.inl nv)))) (hmc : mm9 ≤ cap) (hcap : cap ≤ 2048) (hui : ∀ k, ui = some k → k < v.nL) (hWd : WDv v) (hKO : KOv v) (hJH : JHv v z) (hts : to ≠ se) (hrr : ro ≠ rs) (hto : G to = some (.inr (7, [.ref ro, .int (nI ln)]))) (hro : G ro = some (.inl (cy 0, 64, .inl fo9))) (hln : ln ≤ 64) (hse : G se = some (.inr (7, [.ref rs, .int (nI sl)]))) (hrs : G rs = some (.inl (cy 0, 64, .inl sf))) (hsl : sl ≤ 64) (hBs : Bx se) (hBq : Bx rs) : Met l yX13_job [.code yX13_job cX13_job 4 (some .int)] ({ frames := 8, cells := 0, slots := 0, locals := 320 }) (mk_Pre D vwCl (tyL cy) A X G [.ref o, .int iv, .long xs]) (va_Qi (fun (r : Int32) (G2 : Nat → Option va_E) => (match oIx iv v.nJ with | none => r = -1 ∧ G2 = G | some k9 => if ¬ xs < 0 ∧ xs ≤ 5000 then (r = (jbR v z k9 ln fo9 xs sf).1 ∧ G2 se = some (.inr (7, [.ref rs, .int (nI (jbR v z k9 ln fo9 xs sf).2.2.2.1)])) ∧ G2 rs = some (.inl (cy 0, 64, .inl ((jbR v z k9 ln fo9 xs sf).2.2.2.2))) ∧ EDP cy e0 tk G0 Bx G2 v (zJ z k9 (jbR v z k9 ln fo9 xs sf).2.1.1 (jbR v z k9 ln fo9 xs sf).2.1.2 (jbR v z k9 ln fo9 xs sf).2.2.1) LA EA AD PI ∧ (jbR v z k9 ln fo9 xs sf).2.1.1 ≤ 16 ∧ (jbR v z k9 ln fo9 xs sf).2.2.2.1 ≤ 64 ∧ ∀ (x : Nat) (e : va_E), G x = some e → x ≠ AD 5 k9 → x ≠ PI k9 → x ≠ se → x ≠ rs → (∀ c i, c < v.nS → i < v.nP c → x ≠ AD (20 + c) i) → G2 x = some e) else r = -2 ∧ G2 = G)) (mk_B D vwCl A) A) 0 0 A := by
  refine Met.ofW (cc := cX13_job) (maxL := 4) (ret := (some .int)) (by decide) rfl ?_
  intro p e s m args below meth c s₁ B hml hv
  obtain ⟨rfl, hG, hK, hA, hX⟩ := hv
  have hx := B.exec
  have hb := B.bytes
  have hr := B.returns
  have hlocks := B.notSynchronized
  have hT := hXT s hX
  have hown : s.vm.findClass RX13 = some m.cls := findClass_of_methodNamed B.named
  have hf_X13 : ∀ w ∈ u_ws RX13 TX13 9, w.before ([.ref o, .int iv, .long xs] : List Value).toArray s = true := tb_list hT fX13
  have hf_X2 : ∀ w ∈ u_ws RX2 TX2 11, w.before ([.ref o, .int iv, .long xs] : List Value).toArray s = true := tb_list hT fX2
  have hS : va_S A s.heap s.heap [] := va_S.rf
  have hE := hXE s hX
  have hl := lv_entry ([.ref o, .int iv, .long xs]) (n := 4) (Nat.le_of_ble_eq_true rfl)
  rw [lg_entry_eq]
  generalize (lg_sl ([.ref o, .int iv, .long xs]) ++ List.replicate (4 - (lg_sl ([.ref o, .int iv, .long xs])).length) Slot.unset).toArray = ls at hl ⊢
  have hl : lv_has ls 4 [(0, .ref o), (1, .int iv), (2, .long xs)] := hl
  have hQ := hXX s hX
  have hbb := hP.b
  refine lv_aload_n hx hb dX13_job_0 rfl (lv_at hl 0 rfl) ?_
  refine mm_get (v := .ref ed) hx hb hf_X13 (fun _ h9 => h9) hown hK hG h0 rfl 7 (by decide) (tb_use hT tw_218) (fun _ h9 => h9) rfl dX13_job_1 ?_
  refine lv_ifnull hx hb dX13_job_4 ?_
  refine lv_iload_n hx hb dX13_job_7 rfl (lv_at hl 1 rfl) ?_
  refine lv_iconst (v := 1) hx hb dX13_job_8 (by decide) ?_
  refine lv_icmp_lt (tgt := 26) hx hb dX13_job_9 (by decide) (fun c_9 => ?_) (fun c_9 => ?_)
  · skip
    refine lv_iconst (v := (-1)) hx hb dX13_job_26 (by decide) ?_
    exact W.iret (v := (-1)) hx hb hr (fun t ht hW => ⟨⟨_, _, rfl, (by rw [show oIx iv v.nJ = none from ix_no1 c_9]; exact ⟨(by first | trivial | rfl), (by first | trivial | rfl)⟩), mk_end hG ht⟩, hS.F ht⟩) hS.2.2 dX13_job_27
  · skip
    refine lv_iload_n hx hb dX13_job_12 rfl (lv_at hl 1 rfl) ?_
    refine lv_aload_n hx hb dX13_job_13 rfl (lv_at hl 0 rfl) ?_
    refine mm_get (v := .ref ed) hx hb hf_X13 (fun _ h9 => h9) hown hK hG h0 rfl 7 (by decide) (tb_use hT tw_218) (fun _ h9 => h9) rfl dX13_job_14 ?_
    refine mm_getN (v := .ref (LA 5)) hx hb hf_X2 (fun _ h9 => h9) hown hK hG hed rfl 5 (by decide) (tb_use hT tw_292) (fun _ h9 => h9) rfl dX13_job_17 ?_
    obtain ⟨mo21, h_mo21, -⟩ := id (hP.lsJ)
    refine va_calli (va_runV (As := []) (rest := [.int iv]) ⟨hx, hb, hml, hown, (fun _ h9 => absurd h9 List.not_mem_nil : ∀ w ∈ ([] : List Cond), w.before _ s = true)⟩ (c_LS_size l D cy A X hst hXT e0 tk hXE mi hXL G (LA 5) (EA 5) v.nJ (AD 5) (hP.lsJ)) (tb_cw (C := RJx4a65c) 0 hT tw_457 tw_113 tw_1031 tw_455 tw_456 rfl rfl hq_Jx4a65c_size_8abf5 ⟨Nat.le_of_ble_eq_true rfl, Nat.le_of_ble_eq_true rfl⟩) (mk_preC hst hG hK hA hX hS vc_1 h_mo21) rfl rfl hl.1 rfl (lv_room (Nat.le_of_ble_eq_true rfl)) dX13_job_20 ⟨Nat.le_of_ble_eq_true rfl, Nat.le_of_ble_eq_true rfl⟩) hS (fun q _ h => h) (fun q h => h) (fun r22 G23 t H locs ht hvm hw hB hz1 hk1 hS => ?_)
    have hG : mm D vwCl A G23 H := by rw [← ht]; exact hB
    clear hB hz1 hk1 hvm ht
    obtain ⟨rfl, hw⟩ := hw
    rw [hw] at hG
    refine lv_icmp_le (tgt := 28) hx hb dX13_job_23 (by decide) (fun c_23 => ?_) (fun c_23 => ?_)
    · skip
      refine lv_lload_n hx hb dX13_job_28 rfl (lv_at hl 2 rfl) ?_
      refine lv_lconst (v := 0) hx hb dX13_job_29 (by decide) ?_
      refine W.lcmp hx hb dX13_job_30 ?_
      refine lv_if_lt (tgt := 42) hx hb dX13_job_31 (by decide) (fun c_31 => ?_) (fun c_31 => ?_)
      · skip
        refine lv_bipush (v := (-2)) hx hb dX13_job_42 (by decide) ?_
        obtain ⟨k9, hk9, hi9, ho9⟩ := ix_of (i := iv) (n := v.nJ) (by omega) c_9 c_23
        have hno : ¬ (¬ xs < 0 ∧ xs ≤ 5000) := fun z => z.1 ((lg_cmp_lt _ _).mp c_31)
        exact W.iret (v := (-2)) hx hb hr (fun t ht hW => ⟨⟨_, _, rfl, (by rw [ho9]; simp only []; rw [if_neg hno]; exact ⟨(by first | trivial | rfl), (by first | trivial | rfl)⟩), mk_end hG ht⟩, hS.F ht⟩) hS.2.2 dX13_job_44
      · skip
        refine lv_lload_n hx hb dX13_job_34 rfl (lv_at hl 2 rfl) ?_
        refine lv_ldc2 hx hb hown (tb_use hT tw_1226) dX13_job_35 ?_
        refine W.lcmp hx hb dX13_job_38 ?_
        refine lv_if_le (tgt := 45) hx hb dX13_job_39 (by decide) (fun c_39 => ?_) (fun c_39 => ?_)
        · skip
          refine lv_aload_n hx hb dX13_job_45 rfl (lv_at hl 0 rfl) ?_
          refine mm_get (v := .ref ed) hx hb hf_X13 (fun _ h9 => h9) hown hK hG h0 rfl 7 (by decide) (tb_use hT tw_218) (fun _ h9 => h9) rfl dX13_job_46 ?_
          refine mm_getN (v := .ref (LA 5)) hx hb hf_X2 (fun _ h9 => h9) hown hK hG hed rfl 5 (by decide) (tb_use hT tw_292) (fun _ h9 => h9) rfl dX13_job_49 ?_
          refine lv_iload_n hx hb dX13_job_52 rfl (lv_at hl 1 rfl) ?_
          refine lv_iconst (v := 1) hx hb dX13_job_53 (by decide) ?_
          refine lv_isub hx hb dX13_job_54 ?_
          obtain ⟨k9, hk9, hi9, ho9⟩ := ix_of (i := iv) (n := v.nJ) (by omega) c_9 c_23
          rw [show iv - 1 = nI k9 by rw [hi9]; exact nI_pred k9]
          obtain ⟨mo26, h_mo26, -⟩ := id (hP.lsJ)
          refine va_callq (va_runV (As := [.int (nI k9)]) (rest := []) ⟨hx, hb, hml, hown, (fun _ h9 => absurd h9 List.not_mem_nil : ∀ w ∈ ([] : List Cond), w.before _ s = true)⟩ (c_LS_get l D cy A X hst hXT e0 tk hXE mi hXL G (LA 5) (EA 5) v.nJ (AD 5) k9 (hP.lsJ) hk9) (tb_cw (C := RJx4a65c) 1 hT tw_942 tw_113 tw_1032 tw_940 tw_941 rfl rfl hq_Jx4a65c_get_915e3 ⟨Nat.le_of_ble_eq_true rfl, Nat.le_of_ble_eq_true rfl⟩) (mk_preC hst hG hK hA hX hS vc_1 h_mo26) rfl rfl hl.1 rfl (lv_room (Nat.le_of_ble_eq_true rfl)) dX13_job_55 ⟨Nat.le_of_ble_eq_true rfl, Nat.le_of_ble_eq_true rfl⟩) hS (fun q _ h => h) (fun q h => h) (fun r27 G28 t H locs ht hvm hw hB hz1 hk1 hS => ?_)
          have hG : mm D vwCl A G28 H := by rw [← ht]; exact hB
          clear hB hz1 hk1 hvm ht
          obtain ⟨rfl, hw⟩ := hw
          rw [hw] at hG
          refine W.eq (g2 := F0 m 58 ls [.ref (AD 5 k9)]) rfl ?_
          have k29 : G (AD 5 k9) = some (.inr (5, [.int ((v.J k9).1), .long ((v.J k9).2), .ref (LA (40 + k9)), .ref (PI k9), .int (z.jh k9)])) := hP.elJ hk9
          refine va_castS hx hb hown (tb_use hT tw_1227) (hK.1 5 _ rfl).2 (va_recv hK (hG.one k29) (q := (RX4, TX4, 5)) rfl (q0 := 0) rfl) dX13_job_58 ?_
          refine lv_lload_n hx hb dX13_job_61 rfl (lv_at hl 2 rfl) ?_
          obtain ⟨x30, ex30⟩ : ∃ y, y = (xs : Int64).toInt32 := ⟨_, rfl⟩
          refine lv_l2i (v := x30) hx hb dX13_job_62 ex30.symm ?_
          refine lv_aload_n hx hb dX13_job_63 rfl (lv_at hl 0 rfl) ?_
          refine mm_get (v := .ref to) hx hb hf_X13 (fun _ h9 => h9) hown hK hG h0 rfl 2 (by decide) (tb_use hT tw_213) (fun _ h9 => h9) rfl dX13_job_64 ?_
          refine lv_aload_n hx hb dX13_job_67 rfl (lv_at hl 0 rfl) ?_
          refine mm_get (v := .ref se) hx hb hf_X13 (fun _ h9 => h9) hown hK hG h0 rfl 3 (by decide) (tb_use hT tw_214) (fun _ h9 => h9) rfl dX13_job_68 ?_
          have hxs : ¬ xs < 0 := fun z => c_31 ((lg_cmp_lt _ _).mpr z)
          have hxt : xs ≤ 5000 := (lg_cmp_le _ _).mp c_39
          obtain ⟨hx1, hx2⟩ := i32_steps hxs hxt
          refine W.eq (g2 := F0 m 71 ls [.ref se, .ref to, .int (nI xs.toInt.toNat), .ref (AD 5 k9)]) (by rw [← hx1, ex30]; try rfl) ?_
          obtain ⟨h9, hh9, hj9⟩ := hJH k9 hk9
          refine va_calli (va_runV (As := [.int (nI xs.toInt.toNat), .ref to, .ref se]) (rest := []) ⟨hx, hb, hml, hown, (fun _ h9 => absurd h9 List.not_mem_nil : ∀ w ∈ ([] : List Cond), w.before _ s = true)⟩ (c_J_run l D cy A X hst hXT e0 tk hXE mi hXL ax adK adV hXX G G0 Bx v z LA EA AD PI k9 h9 (z.pv k9) z.pd to ro ln fo9 se rs sl sf xs.toInt.toNat jbT (by rw [zJ_self hj9]; exact hP) hk9 hh9 hKO hx2 rfl hts hrr hZ hWd hto hro hln hse hrs hsl hBs hBq) (tb_cw (C := RX4) 3 hT tw_1231 tw_130 tw_1228 tw_1229 tw_1230 rfl rfl hq_X4_run ⟨Nat.le_of_ble_eq_true rfl, Nat.le_of_ble_eq_true rfl⟩) (mk_preC hst hG hK hA hX hS vc_5 k29) rfl rfl hl.1 rfl (lv_room (Nat.le_of_ble_eq_true rfl)) dX13_job_71 ⟨Nat.le_of_ble_eq_true rfl, Nat.le_of_ble_eq_true rfl⟩) hS (fun q _ h => h) (fun q h => h) (fun r31 G32 t H locs ht hvm hw hB hz1 hk1 hS => ?_)
          have hG : mm D vwCl A G32 H := by rw [← ht]; exact hB
          clear hB hz1 hk1 hvm ht
          have hrun := hw
          exact W.iret (v := r31) hx hb hr (fun t ht hW => ⟨⟨_, _, rfl, (by rw [ho9]; simp only []; rw [if_pos ⟨hxs, hxt⟩]; exact hrun), mk_end hG ht⟩, hS.F ht⟩) hS.2.2 dX13_job_74
        · skip
          refine lv_bipush (v := (-2)) hx hb dX13_job_42 (by decide) ?_
          obtain ⟨k9, hk9, hi9, ho9⟩ := ix_of (i := iv) (n := v.nJ) (by omega) c_9 c_23
          have hno : ¬ (¬ xs < 0 ∧ xs ≤ 5000) := fun z => c_39 ((lg_cmp_le _ _).mpr z.2)
          exact W.iret (v := (-2)) hx hb hr (fun t ht hW => ⟨⟨_, _, rfl, (by rw [ho9]; simp only []; rw [if_neg hno]; exact ⟨(by first | trivial | rfl), (by first | trivial | rfl)⟩), mk_end hG ht⟩, hS.F ht⟩) hS.2.2 dX13_job_44
    · skip
      refine lv_iconst (v := (-1)) hx hb dX13_job_26 (by decide) ?_
      exact W.iret (v := (-1)) hx hb hr (fun t ht hW => ⟨⟨_, _, rfl, (by rw [show oIx iv v.nJ = none from ix_no2 (by omega) c_23]; exact ⟨(by first | trivial | rfl), (by first | trivial | rfl)⟩), mk_end hG ht⟩, hS.F ht⟩) hS.2.2 dX13_job_27
