set_option maxHeartbeats 4000000 in
set_option maxRecDepth 100000 in
theorem c_X9_takeLayer (l : Launch) (D : va_G) (cy : Nat → ClassId) (A : Nat → Prop) (X : State → Prop) (hst : mk_St A X) (hXT : ∀ U : State, X U → TB U) (e0 : Nat) (tk : Nat → Nat) (hXE : ∀ U : State, X U → ES e0 tk A U) (mi : Nat) (hXL : ∀ U : State, X U → EL e0 mi A U) (G : Nat → Option va_E) (o ow ed : Nat) (q : Nat × Int32) (k ks ss vs tn : Nat) (K : Nat → Nat) (S : Nat → Int32) (V : Nat → Int64) (f1 : Nat → Option Nat) (f2 : Nat → Int32) (f3 : Nat → Int64) (lc ly lsv lco lva ljo na : Nat) (nc wa : Int32) (iu rs : Option Nat) (G0 : Nat → Option va_E) (Bx : Nat → Prop) (v : EdV) (LA EA : Nat → Nat) (AD : Nat → Nat → Nat) (PI : Nat → Nat) (h0 : G o = some (.inr (10, [.ref k, .ref ow, .ref ed, .int (nI q.1), .int q.2]))) (q1 : G k = some (.inr (13, [.ref ks, .ref ss, .ref vs, .int (nI tn)]))) (q2 : G ks = some (.inl (cy 5, 2001, .inr (.inr (.inr (.inr f1)))))) (q3 : G ss = some (.inl (cy 1, 2001, .inl f2))) (q4 : G vs = some (.inl (cy 2, 2001, .inr (.inl f3)))) (hTP : TKP tk tn K S V f1 f2 f3) (hp : q.1 < 2 ^ 24) (hed : G ed = some (.inr (3, [.ref lc, .ref ly, .ref lsv, .ref lco, .ref lva, .ref ljo, .ref na, .int nc, va_rf iu, .int wa, va_rf rs]))) (hP : EDP cy e0 tk G0 Bx G v PtV.nil LA EA AD PI) (hLA : LA 0 = lc ∧ LA 1 = ly ∧ LA 2 = lsv ∧ LA 3 = lco ∧ LA 4 = lva ∧ LA 5 = ljo) (hBo : Bx o) (hSn : ∀ p, ¬ S p < 0) (hnLS : v.nL ≤ 6 ∧ v.nS ≤ 16) : Met l yX9_takeLayer [.code yX9_takeLayer cX9_takeLayer 3 none] ({ frames := 10, cells := (2 + 21 * ((q_lay K S V v q).1.nS - v.nS)), slots := (28 + 176 * ((q_lay K S V v q).1.nS - v.nS)), locals := 300 }) (mk_Pre D vwCl (tyL cy) A X G [.ref o]) (va_Qv (fun (G2 : Nat → Option va_E) => ∃ (LB EB : Nat → Nat) (AB : Nat → Nat → Nat), G2 o = some (.inr (10, [.ref k, .ref ow, .ref ed, .int (nI ((q_lay K S V v q).2).1), .int (((q_lay K S V v q).2).2)])) ∧ EDP cy e0 tk G0 Bx G2 (q_lay K S V v q).1 PtV.nil LB EB AB PI ∧ (∀ k, k < 6 → LB k = LA k) ∧ ∀ (x : Nat) (e : va_E), G x = some e → ¬ (x = o ∨ x = ly ∨ (1 ≤ v.nL ∧ x = EA 1) ∨ x = lsv ∨ (1 ≤ v.nS ∧ x = EA 2)) → G2 x = some e) (mk_B D vwCl A) A) (2 + 21 * ((q_lay K S V v q).1.nS - v.nS)) (28 + 176 * ((q_lay K S V v q).1.nS - v.nS)) A := by
  refine Met.ofW (cc := cX9_takeLayer) (maxL := 3) (ret := none) (by decide) rfl ?_
  intro p e s m args below meth c s₁ B hml hv
  obtain ⟨rfl, hG, hK, hA, hX⟩ := hv
  have hx := B.exec
  have hb := B.bytes
  have hr := B.returns
  have hlocks := B.notSynchronized
  have hT := hXT s hX
  have hown : s.vm.findClass RX9 = some m.cls := findClass_of_methodNamed B.named
  have hf_X9 : ∀ w ∈ u_ws RX9 TX9 5, w.before ([.ref o] : List Value).toArray s = true := tb_list hT fX9
  have hf_X2 : ∀ w ∈ u_ws RX2 TX2 11, w.before ([.ref o] : List Value).toArray s = true := tb_list hT fX2
  have hf_X5 : ∀ w ∈ u_ws RX5 TX5 6, w.before ([.ref o] : List Value).toArray s = true := tb_list hT fX5
  have hS : va_S A s.heap s.heap [] := va_S.rf
  have hE := hXE s hX
  have hl := lv_entry ([.ref o]) (n := 3) (Nat.le_of_ble_eq_true rfl)
  rw [lg_entry_eq]
  generalize (lg_sl ([.ref o]) ++ List.replicate (3 - (lg_sl ([.ref o])).length) Slot.unset).toArray = ls at hl ⊢
  have hl : lv_has ls 3 [(0, .ref o)] := hl
  have hlc : LiS cy e0 G ly (EA 1) v.nL (AD 1) := by have z := hP.ls (k := 1) (by decide); rw [hLA.2.1] at z; exact z
  have hLT : LT G 6 v.nL (AD 1) := hP.lt (k := 1) (by decide)
  have hg1 := gco_le22 v.nL (by omega)
  have hloop : ∀ (n : Nat) (j : Nat) (qv qF : Nat × Int32) (la : Nat) (vv vF : EdV) (LB EB : Nat → Nat) (AB : Nat → Nat → Nat), (n + j = 17) → (q_svs K S V n v.nL vv qv = (vF, qF)) → (q_lay K S V v q = (vF, q_take K S 5 qF)) → (qv.1 ≤ q.1 + 6 + 90 * j) → (vv.nS = v.nS + j) → (vv.nL = v.nL + 1) → (qv.2 < 0 → vv.nS ≤ 16) → (∀ k, k < 6 → LB k = LA k) → (AB 1 v.nL = la) → ∀ (Gv : Nat → Option va_E), (Gv o = some (.inr (10, [.ref k, .ref ow, .ref ed, .int (nI qv.1), .int qv.2]))) → (Gv k = some (.inr (13, [.ref ks, .ref ss, .ref vs, .int (nI tn)]))) → (Gv ks = some (.inl (cy 5, 2001, .inr (.inr (.inr (.inr f1)))))) → (Gv ss = some (.inl (cy 1, 2001, .inl f2))) → (Gv vs = some (.inl (cy 2, 2001, .inr (.inl f3)))) → (Gv ed = some (.inr (3, [.ref lc, .ref ly, .ref lsv, .ref lco, .ref lva, .ref ljo, .ref na, .int nc, va_rf iu, .int wa, va_rf rs]))) → (EDP cy e0 tk G0 Bx Gv vv PtV.nil LB EB AB PI) → (∀ (x : Nat) (e : va_E), G x = some e → ¬ (x = o ∨ x = ly ∨ (1 ≤ v.nL ∧ x = EA 1) ∨ x = lsv ∨ (1 ≤ v.nS ∧ x = EA 2)) → Gv x = some e) → (1 ≤ vv.nS → ∀ e, G (EB 2) = some e → (EB 2 = o ∨ EB 2 = ly ∨ (1 ≤ v.nL ∧ EB 2 = EA 1) ∨ EB 2 = lsv ∨ (1 ≤ v.nS ∧ EB 2 = EA 2))) → ∀ (H : Heap) (locs : List Loc), mm D vwCl A Gv H → va_S A s.heap H locs → ∀ ls : Array Slot, lv_has ls 3 [(0, .ref o), (1, .ref la), (2, .int (nI j))] → W p l e (headSpec [.code yX9_takeLayer cX9_takeLayer 3 none] ({ frames := 10, cells := (2 + 21 * ((q_lay K S V v q).1.nS - v.nS)), slots := (28 + 176 * ((q_lay K S V v q).1.nS - v.nS)), locals := 300 })).room s m ([.ref o] : List Value).toArray below meth c H locs (2 + 21 * j) (28 + 176 * j) (MQ below (va_Qv (fun (G2 : Nat → Option va_E) => ∃ (LB EB : Nat → Nat) (AB : Nat → Nat → Nat), G2 o = some (.inr (10, [.ref k, .ref ow, .ref ed, .int (nI ((q_lay K S V v q).2).1), .int (((q_lay K S V v q).2).2)])) ∧ EDP cy e0 tk G0 Bx G2 (q_lay K S V v q).1 PtV.nil LB EB AB PI ∧ (∀ k, k < 6 → LB k = LA k) ∧ ∀ (x : Nat) (e : va_E), G x = some e → ¬ (x = o ∨ x = ly ∨ (1 ≤ v.nL ∧ x = EA 1) ∨ x = lsv ∨ (1 ≤ v.nS ∧ x = EA 2)) → G2 x = some e) (mk_B D vwCl A) A) ([.ref o] : List Value).toArray s (2 + 21 * ((q_lay K S V v q).1.nS - v.nS)) (28 + 176 * ((q_lay K S V v q).1.nS - v.nS)) A) (F0 m 101 ls []) := by
    intro n
    induction n with
    | zero =>
      intro j qv qF la vv vF LB EB AB hjn hq hZ hpv hnj hnl hbS hLB hla Gv v_o v_k v_ks v_ss v_vs v_ed hP hfr hEB H locs hG hS ls hl
      have hm0 : vv.nS ≤ (q_lay K S V v q).1.nS := by rw [hZ]; have z := (q_svs_mono (K := K) (S := S) (V := V) (n := 0) (la := v.nL) (v := vv) (q := qv)).1; rw [hq] at z; exact z
      refine lv_iload_n hx hb dX9_takeLayer_101 rfl (lv_at hl 2 rfl) ?_
      refine lv_bipush (v := 16) hx hb dX9_takeLayer_102 (by decide) ?_
      refine lv_icmp_gt (tgt := 128) hx hb dX9_takeLayer_104 (by decide) (fun c_104 => ?_) (fun c_104 => ?_)
      · skip
        have hqq : (vv, qv) = (vF, qF) := by rw [← hq]; rfl
        have e1 : vF = vv := (congrArg (fun z => z.1) hqq).symm
        have e2 : qF = qv := (congrArg (fun z => z.2) hqq).symm
        have hm2 : (q_lay K S V v q).1.nS = vv.nS := by rw [hZ, e1]
        refine lv_aload_n hx hb dX9_takeLayer_128 rfl (lv_at hl 0 rfl) ?_
        refine va_gets (v := .ref (tk 5)) hx hb (show va_Z "DescribeText$Token" "CLOSE" "LDescribeText$Token;" (.ref (tk 5)) A s s.heap from (hE.2.1 5 (by decide)).1) hS hown (tb_use hT tw_655) (fun _ h9 => h9) dX9_takeLayer_129 ?_
        refine va_callv (va_runV (As := [.ref (tk 5)]) (rest := []) ⟨hx, hb, hml, hown, (fun _ h9 => absurd h9 List.not_mem_nil : ∀ w ∈ ([] : List Cond), w.before _ s = true)⟩ (c_X9_take l D cy A X hst hXT e0 tk hXE Gv o ow ed qv k ks ss vs tn K S V f1 f2 f3 5 v_o v_k v_ks v_ss v_vs hTP (by first | omega | (simp only []; omega)) (by decide)) (tb_cw (C := RX9) 1 hT tw_539 tw_106 tw_536 tw_538 tw_12 rfl rfl hq_X9_take ⟨Nat.le_of_ble_eq_true rfl, Nat.le_of_ble_eq_true rfl⟩) (mk_preC hst hG hK hA hX hS vc_10 v_o) rfl rfl hl.1 rfl (lv_room (Nat.le_of_ble_eq_true rfl)) dX9_takeLayer_132 ⟨(by show _ ≤ (2 + 21 * ((q_lay K S V v q).1.nS - v.nS)); omega), (by show _ ≤ (28 + 176 * ((q_lay K S V v q).1.nS - v.nS)); omega)⟩) hS (fun q _ h => h) (fun q h => h) (fun  G1 t H locs ht hvm hw hB hz1 hk1 hS => ?_)
        have hG : mm D vwCl A G1 H := by rw [← ht]; exact hB
        clear hB hz1 hk1 hvm ht
        obtain ⟨y2, ey2⟩ : ∃ y, y = q_take K S 5 qv := ⟨_, rfl⟩
        rw [← ey2] at hw
        have ly2 : y2.1 ≤ qv.1 + 1 := by rw [ey2]; exact q_take_le
        have eG1 := hw
        clear hw
        have k3 : G1 o = some (.inr (10, [.ref k, .ref ow, .ref ed, .int (nI y2.1), .int y2.2])) := by rw [eG1]; exact mm_set_self
        have k4 : G1 k = some (.inr (13, [.ref ks, .ref ss, .ref vs, .int (nI tn)])) := by rw [eG1]; exact mm_set_of v_k (mm_ne_oo v_k v_o (by decide))
        have k5 : G1 ks = some (.inl (cy 5, 2001, .inr (.inr (.inr (.inr f1))))) := by rw [eG1]; exact mm_set_of v_ks (mm_ne_ao v_ks v_o)
        have k6 : G1 ss = some (.inl (cy 1, 2001, .inl f2)) := by rw [eG1]; exact mm_set_of v_ss (mm_ne_ao v_ss v_o)
        have k7 : G1 vs = some (.inl (cy 2, 2001, .inr (.inl f3))) := by rw [eG1]; exact mm_set_of v_vs (mm_ne_ao v_vs v_o)
        have k8 : G1 ed = some (.inr (3, [.ref lc, .ref ly, .ref lsv, .ref lco, .ref lva, .ref ljo, .ref na, .int nc, va_rf iu, .int wa, va_rf rs])) := by rw [eG1]; exact mm_set_of v_ed (mm_ne_oo v_ed v_o (by decide))
        have hfV : ∀ (x : Nat) (e : va_E), Gv x = some e → x ≠ o → G1 x = some e := by
          intro x e z0 n_o
          have z1 : G1 x = some e := by rw [eG1]; exact mm_set_of z0 n_o
          exact z1
        have hP2 : EDP cy e0 tk G0 Bx G1 vv PtV.nil LB EB AB PI := EDP.mvo hP hBo v_o k3 hfV
        refine W.widen (k := (2 + 21 * ((q_lay K S V v q).1.nS - v.nS))) (n := (28 + 176 * ((q_lay K S V v q).1.nS - v.nS))) (by omega) (by omega) ?_
        exact W.vret hx hb hr (fun t ht hW => ⟨⟨_, rfl, (by rw [hZ, e1, e2, ← ey2]; exact ⟨LB, EB, AB, k3, hP2, hLB, fun x e h0 nb => hfV x e (hfr x e h0 nb) (fun z => nb (Or.inl z))⟩), mk_end hG ht⟩, hS.F ht⟩) hS.2.2 dX9_takeLayer_135
      · skip
        exact absurd (show (16 : Int32) < nI j by rw [show (16 : Int32) = nI 16 from rfl]; exact nI_lt (by omega) (by omega)) c_104
    | succ n ih =>
      intro j qv qF la vv vF LB EB AB hjn hq hZ hpv hnj hnl hbS hLB hla Gv v_o v_k v_ks v_ss v_vs v_ed hP hfr hEB H locs hG hS ls hl
      have hm0 : vv.nS ≤ (q_lay K S V v q).1.nS := by rw [hZ]; have z := (q_svs_mono (K := K) (S := S) (V := V) (n := n + 1) (la := v.nL) (v := vv) (q := qv)).1; rw [hq] at z; exact z
      refine lv_iload_n hx hb dX9_takeLayer_101 rfl (lv_at hl 2 rfl) ?_
      refine lv_bipush (v := 16) hx hb dX9_takeLayer_102 (by decide) ?_
      refine lv_icmp_gt (tgt := 128) hx hb dX9_takeLayer_104 (by decide) (fun c_104 => ?_) (fun c_104 => ?_)
      · skip
        exact absurd c_104 (by rw [show (16 : Int32) = nI 16 from rfl]; exact Int32.not_lt.mpr (nI_le (by omega) (by decide)))
      · skip
        refine lv_aload_n hx hb dX9_takeLayer_107 rfl (lv_at hl 0 rfl) ?_
        refine va_gets (v := .ref (tk 18)) hx hb (show va_Z "DescribeText$Token" "SERVICE" "LDescribeText$Token;" (.ref (tk 18)) A s s.heap from (hE.2.1 18 (by decide)).1) hS hown (tb_use hT tw_714) (fun _ h9 => h9) dX9_takeLayer_108 ?_
        refine va_calli (va_runV (As := [.ref (tk 18)]) (rest := []) ⟨hx, hb, hml, hown, (fun _ h9 => absurd h9 List.not_mem_nil : ∀ w ∈ ([] : List Cond), w.before _ s = true)⟩ (c_X9_sees l D cy A X hst hXT e0 tk hXE Gv o ow ed qv k ks ss vs tn K S V f1 f2 f3 18 v_o v_k v_ks v_ss v_vs hTP (by first | omega | (simp only []; omega)) (by decide)) (tb_cw (C := RX9) 1 hT tw_437 tw_106 tw_434 tw_436 tw_6 rfl rfl hq_X9_sees ⟨Nat.le_of_ble_eq_true rfl, Nat.le_of_ble_eq_true rfl⟩) (mk_preC hst hG hK hA hX hS vc_10 v_o) rfl rfl hl.1 rfl (lv_room (Nat.le_of_ble_eq_true rfl)) dX9_takeLayer_111 ⟨(by show _ ≤ (2 + 21 * ((q_lay K S V v q).1.nS - v.nS)); omega), (by show _ ≤ (28 + 176 * ((q_lay K S V v q).1.nS - v.nS)); omega)⟩) hS (fun q _ h => h) (fun q h => h) (fun r9 G10 t H locs ht hvm hw hB hz1 hk1 hS => ?_)
        have hG : mm D vwCl A G10 H := by rw [← ht]; exact hB
        clear hB hz1 hk1 hvm ht
        obtain ⟨er9, hw⟩ := hw
        rw [hw] at hG
        refine lv_if_eq (tgt := 128) hx hb dX9_takeLayer_114 (by decide) (fun c_114 => ?_) (fun c_114 => ?_)
        · skip
          have hse : se K qv.1 qv.2 18 = false := by rw [er9] at c_114; revert c_114; cases se K qv.1 qv.2 18 <;> simp [b2i]
          have hqq : (vv, qv) = (vF, qF) := by rw [← hq, q_svs, if_neg (by rw [hse]; decide)]
          have e1 : vF = vv := (congrArg (fun z => z.1) hqq).symm
          have e2 : qF = qv := (congrArg (fun z => z.2) hqq).symm
          have hm2 : (q_lay K S V v q).1.nS = vv.nS := by rw [hZ, e1]
          refine lv_aload_n hx hb dX9_takeLayer_128 rfl (lv_at hl 0 rfl) ?_
          refine va_gets (v := .ref (tk 5)) hx hb (show va_Z "DescribeText$Token" "CLOSE" "LDescribeText$Token;" (.ref (tk 5)) A s s.heap from (hE.2.1 5 (by decide)).1) hS hown (tb_use hT tw_655) (fun _ h9 => h9) dX9_takeLayer_129 ?_
          refine va_callv (va_runV (As := [.ref (tk 5)]) (rest := []) ⟨hx, hb, hml, hown, (fun _ h9 => absurd h9 List.not_mem_nil : ∀ w ∈ ([] : List Cond), w.before _ s = true)⟩ (c_X9_take l D cy A X hst hXT e0 tk hXE Gv o ow ed qv k ks ss vs tn K S V f1 f2 f3 5 v_o v_k v_ks v_ss v_vs hTP (by first | omega | (simp only []; omega)) (by decide)) (tb_cw (C := RX9) 1 hT tw_539 tw_106 tw_536 tw_538 tw_12 rfl rfl hq_X9_take ⟨Nat.le_of_ble_eq_true rfl, Nat.le_of_ble_eq_true rfl⟩) (mk_preC hst hG hK hA hX hS vc_10 v_o) rfl rfl hl.1 rfl (lv_room (Nat.le_of_ble_eq_true rfl)) dX9_takeLayer_132 ⟨(by show _ ≤ (2 + 21 * ((q_lay K S V v q).1.nS - v.nS)); omega), (by show _ ≤ (28 + 176 * ((q_lay K S V v q).1.nS - v.nS)); omega)⟩) hS (fun q _ h => h) (fun q h => h) (fun  G11 t H locs ht hvm hw hB hz1 hk1 hS => ?_)
          have hG : mm D vwCl A G11 H := by rw [← ht]; exact hB
          clear hB hz1 hk1 hvm ht
          obtain ⟨y12, ey12⟩ : ∃ y, y = q_take K S 5 qv := ⟨_, rfl⟩
          rw [← ey12] at hw
          have ly12 : y12.1 ≤ qv.1 + 1 := by rw [ey12]; exact q_take_le
          have eG11 := hw
          clear hw
          have k13 : G11 o = some (.inr (10, [.ref k, .ref ow, .ref ed, .int (nI y12.1), .int y12.2])) := by rw [eG11]; exact mm_set_self
          have k14 : G11 k = some (.inr (13, [.ref ks, .ref ss, .ref vs, .int (nI tn)])) := by rw [eG11]; exact mm_set_of v_k (mm_ne_oo v_k v_o (by decide))
          have k15 : G11 ks = some (.inl (cy 5, 2001, .inr (.inr (.inr (.inr f1))))) := by rw [eG11]; exact mm_set_of v_ks (mm_ne_ao v_ks v_o)
          have k16 : G11 ss = some (.inl (cy 1, 2001, .inl f2)) := by rw [eG11]; exact mm_set_of v_ss (mm_ne_ao v_ss v_o)
          have k17 : G11 vs = some (.inl (cy 2, 2001, .inr (.inl f3))) := by rw [eG11]; exact mm_set_of v_vs (mm_ne_ao v_vs v_o)
          have k18 : G11 ed = some (.inr (3, [.ref lc, .ref ly, .ref lsv, .ref lco, .ref lva, .ref ljo, .ref na, .int nc, va_rf iu, .int wa, va_rf rs])) := by rw [eG11]; exact mm_set_of v_ed (mm_ne_oo v_ed v_o (by decide))
          have hfV : ∀ (x : Nat) (e : va_E), Gv x = some e → x ≠ o → G11 x = some e := by
            intro x e z0 n_o
            have z1 : G11 x = some e := by rw [eG11]; exact mm_set_of z0 n_o
            exact z1
          have hP2 : EDP cy e0 tk G0 Bx G11 vv PtV.nil LB EB AB PI := EDP.mvo hP hBo v_o k13 hfV
          refine W.widen (k := (2 + 21 * ((q_lay K S V v q).1.nS - v.nS))) (n := (28 + 176 * ((q_lay K S V v q).1.nS - v.nS))) (by omega) (by omega) ?_
          exact W.vret hx hb hr (fun t ht hW => ⟨⟨_, rfl, (by rw [hZ, e1, e2, ← ey12]; exact ⟨LB, EB, AB, k13, hP2, hLB, fun x e h0 nb => hfV x e (hfr x e h0 nb) (fun z => nb (Or.inl z))⟩), mk_end hG ht⟩, hS.F ht⟩) hS.2.2 dX9_takeLayer_135
        · skip
          refine lv_aload_n hx hb dX9_takeLayer_117 rfl (lv_at hl 0 rfl) ?_
          refine lv_aload_n hx hb dX9_takeLayer_118 rfl (lv_at hl 1 rfl) ?_
          have hse : se K qv.1 qv.2 18 = true := by rw [er9] at c_114; revert c_114; cases se K qv.1 qv.2 18 <;> simp [b2i]
          have hq1 : q_svs K S V n v.nL (vv.addS v.nL (q_ser K S V vv.nS qv).2) (q_ser K S V vv.nS qv).1 = (vF, qF) := by
            rw [← hq]
            show _ = q_svs K S V (n + 1) v.nL vv qv
            rw [q_svs, if_pos hse]
          have hm1 : vv.nS + 1 ≤ vF.nS := by
            have z := (q_svs_mono (K := K) (S := S) (V := V) (n := n) (la := v.nL) (v := vv.addS v.nL (q_ser K S V vv.nS qv).2) (q := (q_ser K S V vv.nS qv).1)).1
            rw [hq1] at z
            exact z
          have hm2 : (q_lay K S V v q).1.nS = vF.nS := by rw [hZ]
          have hg2 := gco_le22 vv.nS (by have := hbS (se_t hse).1; omega)
          have hb16 := hbS (se_t hse).1
          have hls : LiS cy e0 Gv lsv (EB 2) vv.nS (AB 2) := by have z := hP.ls (k := 2) (by decide); rw [hLB 2 (by decide), hLA.2.2.1] at z; exact z
          refine va_callv (va_runV (As := [.ref la]) (rest := []) ⟨hx, hb, hml, hown, (fun _ h9 => absurd h9 List.not_mem_nil : ∀ w ∈ ([] : List Cond), w.before _ s = true)⟩ (c_X9_takeService l D cy A X hst hXT e0 tk hXE mi hXL Gv o ow ed qv k ks ss vs tn K S V f1 f2 f3 lc ly lsv lco lva ljo na nc wa iu rs la (EB 2) vv.nS (AB 2) v_o v_k v_ks v_ss v_vs hTP (by first | omega | (simp only []; omega)) v_ed hls (hP.lt (k := 2) (by decide)) (by omega)) (tb_cw (C := RX9) 1 hT tw_719 tw_106 tw_716 tw_718 tw_23 rfl rfl hq_X9_takeService ⟨Nat.le_of_ble_eq_true rfl, Nat.le_of_ble_eq_true rfl⟩) (mk_preC hst hG hK hA hX hS vc_10 v_o) rfl rfl hl.1 rfl (lv_room (Nat.le_of_ble_eq_true rfl)) dX9_takeLayer_119 ⟨(by show _ ≤ (2 + 21 * ((q_lay K S V v q).1.nS - v.nS)); omega), (by show _ ≤ (28 + 176 * ((q_lay K S V v q).1.nS - v.nS)); omega)⟩) hS (fun q _ h => h) (fun q h => h) (fun  G19 t H locs ht hvm hw hB hz1 hk1 hS => ?_)
          have hG : mm D vwCl A G19 H := by rw [← ht]; exact hB
          clear hB hz1 hk1 hvm ht
          obtain ⟨y21, ey21⟩ : ∃ y, y = q_ser K S V vv.nS qv := ⟨_, rfl⟩
          rw [← ey21] at hw
          obtain ⟨sa, pl, pe, fP, ec2, hsaN, hplN, hpeN, h20_1, hl2, hec2, hsa2, hLp, hPp, hNw, hne, hf9⟩ := hw
          have ly21 : y21.1.1 ≤ qv.1 + 90 := by rw [ey21]; exact q_ser_le
          have hP2 := EDP.ser hP rfl (by omega) (la := v.nL) (by omega) hBo v_o h20_1 (x := y21.2) hsaN hplN hpeN (by rw [hLB 2 (by decide), hLA.2.2.1]; exact hl2) hec2 (by rw [hla]; exact hsa2) hLp hPp hNw hne (fun x e h0 n1 n2 n3 => hf9 x e h0 n1 (by rw [← hLA.2.2.1, ← hLB 2 (by decide)]; exact n2) n3)
          have k22 : G19 k = some (.inr (13, [.ref ks, .ref ss, .ref vs, .int (nI tn)])) := hf9 _ _ v_k (mm_ne_oo v_k v_o (by decide)) (Ne.symm (hls.ne v_k (by decide))) (fun h1 => LiS.nea hls h1 v_k)
          have k23 : G19 ks = some (.inl (cy 5, 2001, .inr (.inr (.inr (.inr f1))))) := hf9 _ _ v_ks (mm_ne_ao v_ks v_o) (Ne.symm (LiS.nal hls v_ks)) (fun h1 => LiS.nar hls h1 v_ks (by intro gv9 z; have z2 := (Prod.mk.inj (Prod.mk.inj (Sum.inl.inj z)).2); first | (exact absurd z2.1 (cpf_ne _)) | (cases z2.2)))
          have k24 : G19 ss = some (.inl (cy 1, 2001, .inl f2)) := hf9 _ _ v_ss (mm_ne_ao v_ss v_o) (Ne.symm (LiS.nal hls v_ss)) (fun h1 => LiS.nar hls h1 v_ss (by intro gv9 z; have z2 := (Prod.mk.inj (Prod.mk.inj (Sum.inl.inj z)).2); first | (exact absurd z2.1 (cpf_ne _)) | (cases z2.2)))
          have k25 : G19 vs = some (.inl (cy 2, 2001, .inr (.inl f3))) := hf9 _ _ v_vs (mm_ne_ao v_vs v_o) (Ne.symm (LiS.nal hls v_vs)) (fun h1 => LiS.nar hls h1 v_vs (by intro gv9 z; have z2 := (Prod.mk.inj (Prod.mk.inj (Sum.inl.inj z)).2); first | (exact absurd z2.1 (cpf_ne _)) | (cases z2.2)))
          have k26 : G19 ed = some (.inr (3, [.ref lc, .ref ly, .ref lsv, .ref lco, .ref lva, .ref ljo, .ref na, .int nc, va_rf iu, .int wa, va_rf rs])) := hf9 _ _ v_ed (mm_ne_oo v_ed v_o (by decide)) (Ne.symm (hls.ne v_ed (by decide))) (fun h1 => LiS.nea hls h1 v_ed)
          obtain ⟨x27, ex27⟩ : ∃ y : Int32, y = (nI j) + 1 := ⟨_, rfl⟩
          refine lv_iinc (v := x27) (lv' := [(2, .int x27), (0, .ref o), (1, .ref la)]) hx hb dX9_takeLayer_122 hl (k := 2) rfl (by rw [ex27]; rfl) (by decide) rfl (fun ls hl => ?_)
          refine lv_goto (tgt := 101) hx hb dX9_takeLayer_125 (by decide) ?_
          rw [show x27 = nI (j + 1) by rw [ex27]; exact (nI_succ j).symm] at hl
          rw [← ey21] at hq1
          have hfr2 : ∀ (x : Nat) (e : va_E), G x = some e → ¬ (x = o ∨ x = ly ∨ (1 ≤ v.nL ∧ x = EA 1) ∨ x = lsv ∨ (1 ≤ v.nS ∧ x = EA 2)) → G19 x = some e := fun x e h0 nb => hf9 x e (hfr x e h0 nb) (fun z => nb (Or.inl z)) (fun z => nb (Or.inr (Or.inr (Or.inr (Or.inl z))))) (fun h1 z => by rw [z] at h0 nb; exact nb (hEB h1 e h0))
          have hEB2 : 1 ≤ vv.nS + 1 → ∀ e, G (up1 (up1 EB 2 ec2) (20 + vv.nS) pe 2) = some e → (up1 (up1 EB 2 ec2) (20 + vv.nS) pe 2 = o ∨ up1 (up1 EB 2 ec2) (20 + vv.nS) pe 2 = ly ∨ (1 ≤ v.nL ∧ up1 (up1 EB 2 ec2) (20 + vv.nS) pe 2 = EA 1) ∨ up1 (up1 EB 2 ec2) (20 + vv.nS) pe 2 = lsv ∨ (1 ≤ v.nS ∧ up1 (up1 EB 2 ec2) (20 + vv.nS) pe 2 = EA 2)) := by
            rw [up1_ne (by omega), up1_eq]
            intro _ e h0
            rcases hec2 with ⟨h1, h2⟩ | h2
            · rw [h2] at h0 ⊢; exact hEB h1 e h0
            · refine Classical.byContradiction (fun nb => ?_)
              have z := hfr _ e h0 nb
              rw [h2] at z; cases z
          have hbS2 : y21.1.2 < 0 → vv.nS + 1 ≤ 16 := by
            intro h1
            refine Classical.byContradiction (fun h2 => ?_)
            have h3 : vv.nS = 16 := by omega
            rw [ey21] at h1
            exact q_ser_full (K := K) (V := V) hSn (by rw [h3]; decide) h1
          refine W.widen (k := 2 + 21 * (j + 1)) (n := 28 + 176 * (j + 1)) (by omega) (by omega) ?_
          exact ih (j + 1) y21.1 qF la (vv.addS v.nL y21.2) vF (up1 LB (20 + vv.nS) pl) (up1 (up1 EB 2 ec2) (20 + vv.nS) pe) (up1 (up1 AB 2 (fup (AB 2) vv.nS sa)) (20 + vv.nS) fP) (by omega) hq1 hZ (by omega) (by show vv.nS + 1 = _; omega) hnl hbS2 (fun k hk => by rw [up1_ne (by omega)]; exact hLB k hk) (by rw [up1_ne (by omega), up1_ne (by decide)]; exact hla) G19 h20_1 k22 k23 k24 k25 k26 hP2 hfr2 hEB2 _ _ hG hS ls (lv_sub hl [1, 2, 0] rfl)
  refine lv_aload_n hx hb dX9_takeLayer_0 rfl (lv_at hl 0 rfl) ?_
  refine lv_aload_n hx hb dX9_takeLayer_1 rfl (lv_at hl 0 rfl) ?_
  refine mm_get (v := .ref ed) hx hb hf_X9 (fun _ h9 => h9) hown hK hG h0 rfl 2 (by decide) (tb_use hT tw_179) (fun _ h9 => h9) rfl dX9_takeLayer_2 ?_
  refine mm_getN (v := .ref ly) hx hb hf_X2 (fun _ h9 => h9) hown hK hG hed rfl 1 (by decide) (tb_use hT tw_281) (fun _ h9 => h9) rfl dX9_takeLayer_5 ?_
  have hB28 : ∀ (x : Nat) (e : va_E), G x = some e → x ≠ o → G x = some e := by
    intro x e z0 n_o
    exact z0
  have hL29 : LiS cy e0 G ly (EA 1) v.nL (AD 1) := LiS.fr2 (fun x => x ≠ o) hlc (fun x e h0 hp => hB28 x e h0 hp) (hlc.ne h0 (by decide)) (fun v _ hv => mm_ne_ao hv h0)
  obtain ⟨mo30, h_mo30, -⟩ := id hL29
  refine va_calli (va_runV (As := []) (rest := [.ref o]) ⟨hx, hb, hml, hown, (fun _ h9 => absurd h9 List.not_mem_nil : ∀ w ∈ ([] : List Cond), w.before _ s = true)⟩ (c_LS_size l D cy A X hst hXT e0 tk hXE mi hXL G ly (EA 1) v.nL (AD 1) hL29) (tb_cw (C := RJx4a65c) 0 hT tw_457 tw_113 tw_454 tw_455 tw_456 rfl rfl hq_Jx4a65c_size_8abf5 ⟨Nat.le_of_ble_eq_true rfl, Nat.le_of_ble_eq_true rfl⟩) (mk_preC hst hG hK hA hX hS vc_1 h_mo30) rfl rfl hl.1 rfl (lv_room (Nat.le_of_ble_eq_true rfl)) dX9_takeLayer_8 ⟨(by show _ ≤ (2 + 21 * ((q_lay K S V v q).1.nS - v.nS)); omega), (by show _ ≤ (28 + 176 * ((q_lay K S V v q).1.nS - v.nS)); omega)⟩) hS (fun q _ h => h) (fun q h => h) (fun r31 G32 t H locs ht hvm hw hB hz1 hk1 hS => ?_)
  have hG : mm D vwCl A G32 H := by rw [← ht]; exact hB
  clear hB hz1 hk1 hvm ht
  obtain ⟨rfl, hw⟩ := hw
  rw [hw] at hG
  refine lv_bipush (v := 6) hx hb dX9_takeLayer_11 (by decide) ?_
  refine va_callv (va_runV (As := [.int (nI v.nL), .int 6]) (rest := []) ⟨hx, hb, hml, hown, (fun _ h9 => absurd h9 List.not_mem_nil : ∀ w ∈ ([] : List Cond), w.before _ s = true)⟩ (c_X9_begin l D cy A X hst hXT e0 tk hXE G o ow ed q k ks ss vs tn K S V f1 f2 f3 (nI v.nL) 6 h0 q1 q2 q3 q4 hTP (by first | omega | (simp only []; omega)) ) (tb_cw (C := RX9) 2 hT tw_461 tw_106 tw_458 tw_460 tw_8 rfl rfl hq_X9_begin ⟨Nat.le_of_ble_eq_true rfl, Nat.le_of_ble_eq_true rfl⟩) (mk_preC hst hG hK hA hX hS vc_10 h0) rfl rfl hl.1 rfl (lv_room (Nat.le_of_ble_eq_true rfl)) dX9_takeLayer_13 ⟨(by show _ ≤ (2 + 21 * ((q_lay K S V v q).1.nS - v.nS)); omega), (by show _ ≤ (28 + 176 * ((q_lay K S V v q).1.nS - v.nS)); omega)⟩) hS (fun q _ h => h) (fun q h => h) (fun  G33 t H locs ht hvm hw hB hz1 hk1 hS => ?_)
  have hG : mm D vwCl A G33 H := by rw [← ht]; exact hB
  clear hB hz1 hk1 hvm ht
  obtain ⟨y34, ey34⟩ : ∃ y, y = q_begin S (nI v.nL) 6 q := ⟨_, rfl⟩
  rw [← ey34] at hw
  have ly34 : y34.1 ≤ q.1 + 1 := by rw [ey34]; exact q_begin_le
  have eG33 := hw
  clear hw
  have k35 : G33 o = some (.inr (10, [.ref k, .ref ow, .ref ed, .int (nI y34.1), .int y34.2])) := by rw [eG33]; exact mm_set_self
  have k36 : G33 k = some (.inr (13, [.ref ks, .ref ss, .ref vs, .int (nI tn)])) := by rw [eG33]; exact mm_set_of q1 (mm_ne_oo q1 h0 (by decide))
  have k37 : G33 ks = some (.inl (cy 5, 2001, .inr (.inr (.inr (.inr f1))))) := by rw [eG33]; exact mm_set_of q2 (mm_ne_ao q2 h0)
  have k38 : G33 ss = some (.inl (cy 1, 2001, .inl f2)) := by rw [eG33]; exact mm_set_of q3 (mm_ne_ao q3 h0)
  have k39 : G33 vs = some (.inl (cy 2, 2001, .inr (.inl f3))) := by rw [eG33]; exact mm_set_of q4 (mm_ne_ao q4 h0)
  have k40 : G33 ed = some (.inr (3, [.ref lc, .ref ly, .ref lsv, .ref lco, .ref lva, .ref ljo, .ref na, .int nc, va_rf iu, .int wa, va_rf rs])) := by rw [eG33]; exact mm_set_of hed (mm_ne_oo hed h0 (by decide))
  refine mm_new (ci := 6) (fs := [.int 0, .int 0, .long 0, .long 0, .int 0, .null]) hx hb hf_X5 (fun _ h9 => h9) tyX5 tyX5_ok hown (tb_use hT tw_679) (tb_use hT tw_680) (tb_use hT tw_127) hK hG hS hA rfl (fun j hj => by rcases (show j = 0 ∨ j = 1 ∨ j = 2 ∨ j = 3 ∨ j = 4 ∨ j = 5 by omega) with rfl | rfl | rfl | rfl | rfl | rfl <;> rfl) (by show _ ≤ (2 + 21 * ((q_lay K S V v q).1.nS - v.nS)); omega) (by show _ ≤ (28 + 176 * ((q_lay K S V v q).1.nS - v.nS)); omega) dX9_takeLayer_16 (fun q41 H hn_q41 hG hS => ?_)
  obtain ⟨G42, eG42⟩ : ∃ g, g = mm_set G33 q41 (.inr (6, [.int 0, .int 0, .long 0, .long 0, .int 0, .null])) := ⟨_, rfl⟩
  have hG : mm D vwCl A G42 H := by rw [eG42]; exact hG
  have k43 : G42 o = some (.inr (10, [.ref k, .ref ow, .ref ed, .int (nI y34.1), .int y34.2])) := by rw [eG42]; exact mm_set_new k35 hn_q41
  have k44 : G42 k = some (.inr (13, [.ref ks, .ref ss, .ref vs, .int (nI tn)])) := by rw [eG42]; exact mm_set_new k36 hn_q41
  have k45 : G42 ks = some (.inl (cy 5, 2001, .inr (.inr (.inr (.inr f1))))) := by rw [eG42]; exact mm_set_new k37 hn_q41
  have k46 : G42 ss = some (.inl (cy 1, 2001, .inl f2)) := by rw [eG42]; exact mm_set_new k38 hn_q41
  have k47 : G42 vs = some (.inl (cy 2, 2001, .inr (.inl f3))) := by rw [eG42]; exact mm_set_new k39 hn_q41
  have k48 : G42 ed = some (.inr (3, [.ref lc, .ref ly, .ref lsv, .ref lco, .ref lva, .ref ljo, .ref na, .int nc, va_rf iu, .int wa, va_rf rs])) := by rw [eG42]; exact mm_set_new k40 hn_q41
  have k49 : G42 q41 = some (.inr (6, [.int 0, .int 0, .long 0, .long 0, .int 0, .null])) := by rw [eG42]; exact mm_set_self
  refine lv_dup hx hb dX9_takeLayer_19 rfl ?_
  refine lv_aload_n hx hb dX9_takeLayer_20 rfl (lv_at hl 0 rfl) ?_
  refine mm_get (v := .ref ed) hx hb hf_X9 (fun _ h9 => h9) hown hK hG k43 rfl 2 (by decide) (tb_use hT tw_179) (fun _ h9 => h9) rfl dX9_takeLayer_21 ?_
  refine mm_getN (v := .ref ly) hx hb hf_X2 (fun _ h9 => h9) hown hK hG k48 rfl 1 (by decide) (tb_use hT tw_281) (fun _ h9 => h9) rfl dX9_takeLayer_24 ?_
  have hB50 : ∀ (x : Nat) (e : va_E), G x = some e → x ≠ o → G42 x = some e := by
    intro x e z0 n_o
    have z1 : G33 x = some e := by rw [eG33]; exact mm_set_of z0 n_o
    have n_q41 : x ≠ q41 := fun z => by rw [z, hn_q41] at z1; cases z1
    have z2 : G42 x = some e := by rw [eG42]; exact mm_set_of z1 n_q41
    exact z2
  have hL51 : LiS cy e0 G42 ly (EA 1) v.nL (AD 1) := LiS.fr2 (fun x => x ≠ o) hlc (fun x e h0 hp => hB50 x e h0 hp) (hlc.ne h0 (by decide)) (fun v _ hv => mm_ne_ao hv h0)
  obtain ⟨mo52, h_mo52, -⟩ := id hL51
  refine va_calli (va_runV (As := []) (rest := [.ref q41, .ref q41]) ⟨hx, hb, hml, hown, (fun _ h9 => absurd h9 List.not_mem_nil : ∀ w ∈ ([] : List Cond), w.before _ s = true)⟩ (c_LS_size l D cy A X hst hXT e0 tk hXE mi hXL G42 ly (EA 1) v.nL (AD 1) hL51) (tb_cw (C := RJx4a65c) 0 hT tw_457 tw_113 tw_454 tw_455 tw_456 rfl rfl hq_Jx4a65c_size_8abf5 ⟨Nat.le_of_ble_eq_true rfl, Nat.le_of_ble_eq_true rfl⟩) (mk_preC hst hG hK hA hX hS vc_1 h_mo52) rfl rfl hl.1 rfl (lv_room (Nat.le_of_ble_eq_true rfl)) dX9_takeLayer_27 ⟨(by show _ ≤ (2 + 21 * ((q_lay K S V v q).1.nS - v.nS)); omega), (by show _ ≤ (28 + 176 * ((q_lay K S V v q).1.nS - v.nS)); omega)⟩) hS (fun q _ h => h) (fun q h => h) (fun r53 G54 t H locs ht hvm hw hB hz1 hk1 hS => ?_)
  have hG : mm D vwCl A G54 H := by rw [← ht]; exact hB
  clear hB hz1 hk1 hvm ht
  obtain ⟨rfl, hw⟩ := hw
  rw [hw] at hG
  refine lv_iconst (v := 1) hx hb dX9_takeLayer_30 (by decide) ?_
  refine lv_iadd hx hb dX9_takeLayer_31 ?_
  rw [← nI_succ v.nL]
  refine lv_aload_n hx hb dX9_takeLayer_32 rfl (lv_at hl 0 rfl) ?_
  refine va_calli (va_runV (As := []) (rest := [.int (nI (v.nL + 1)), .ref q41, .ref q41]) ⟨hx, hb, hml, hown, (fun _ h9 => absurd h9 List.not_mem_nil : ∀ w ∈ ([] : List Cond), w.before _ s = true)⟩ (c_X9_start l D cy A X hst hXT e0 tk hXE G42 o ow ed y34 k ks ss vs tn K S V f1 f2 f3  k43 k44 k45 k46 k47 hTP (by first | omega | (simp only []; omega)) ) (tb_cw (C := RX9) 0 hT tw_475 tw_106 tw_472 tw_474 tw_10 rfl rfl hq_X9_start ⟨Nat.le_of_ble_eq_true rfl, Nat.le_of_ble_eq_true rfl⟩) (mk_preC hst hG hK hA hX hS vc_10 k43) rfl rfl hl.1 rfl (lv_room (Nat.le_of_ble_eq_true rfl)) dX9_takeLayer_33 ⟨(by show _ ≤ (2 + 21 * ((q_lay K S V v q).1.nS - v.nS)); omega), (by show _ ≤ (28 + 176 * ((q_lay K S V v q).1.nS - v.nS)); omega)⟩) hS (fun q _ h => h) (fun q h => h) (fun r55 G56 t H locs ht hvm hw hB hz1 hk1 hS => ?_)
  have hG : mm D vwCl A G56 H := by rw [← ht]; exact hB
  clear hB hz1 hk1 hvm ht
  obtain ⟨er55, hw⟩ := hw
  rw [hw] at hG
  refine lv_aload_n hx hb dX9_takeLayer_36 rfl (lv_at hl 0 rfl) ?_
  refine va_calll (va_runV (As := []) (rest := [.int r55, .int (nI (v.nL + 1)), .ref q41, .ref q41]) ⟨hx, hb, hml, hown, (fun _ h9 => absurd h9 List.not_mem_nil : ∀ w ∈ ([] : List Cond), w.before _ s = true)⟩ (c_X9_takeName l D cy A X hst hXT e0 tk hXE G42 o ow ed y34 k ks ss vs tn K S V f1 f2 f3  k43 k44 k45 k46 k47 hTP (by first | omega | (simp only []; omega)) ) (tb_cw (C := RX9) 0 hT tw_479 tw_106 tw_476 tw_478 tw_11 rfl rfl hq_X9_takeName ⟨Nat.le_of_ble_eq_true rfl, Nat.le_of_ble_eq_true rfl⟩) (mk_preC hst hG hK hA hX hS vc_10 k43) rfl rfl hl.1 rfl (lv_room (Nat.le_of_ble_eq_true rfl)) dX9_takeLayer_37 ⟨(by show _ ≤ (2 + 21 * ((q_lay K S V v q).1.nS - v.nS)); omega), (by show _ ≤ (28 + 176 * ((q_lay K S V v q).1.nS - v.nS)); omega)⟩) hS (fun q _ h => h) (fun q h => h) (fun r57 G58 t H locs ht hvm hw hB hz1 hk1 hS => ?_)
  have hG : mm D vwCl A G58 H := by rw [← ht]; exact hB
  clear hB hz1 hk1 hvm ht
  obtain ⟨y59, ey59⟩ : ∃ y, y = q_name K S V y34 := ⟨_, rfl⟩
  rw [← ey59] at hw
  obtain ⟨er57, hw⟩ := hw
  have ly59 : y59.2.1 ≤ y34.1 + 1 := by rw [ey59]; exact q_name_le
  have eG58 := hw
  clear hw
  have k60 : G58 o = some (.inr (10, [.ref k, .ref ow, .ref ed, .int (nI y59.2.1), .int y59.2.2])) := by rw [eG58]; exact mm_set_self
  have k61 : G58 k = some (.inr (13, [.ref ks, .ref ss, .ref vs, .int (nI tn)])) := by rw [eG58]; exact mm_set_of k44 (mm_ne_oo k44 k43 (by decide))
  have k62 : G58 ks = some (.inl (cy 5, 2001, .inr (.inr (.inr (.inr f1))))) := by rw [eG58]; exact mm_set_of k45 (mm_ne_ao k45 k43)
  have k63 : G58 ss = some (.inl (cy 1, 2001, .inl f2)) := by rw [eG58]; exact mm_set_of k46 (mm_ne_ao k46 k43)
  have k64 : G58 vs = some (.inl (cy 2, 2001, .inr (.inl f3))) := by rw [eG58]; exact mm_set_of k47 (mm_ne_ao k47 k43)
  have k65 : G58 ed = some (.inr (3, [.ref lc, .ref ly, .ref lsv, .ref lco, .ref lva, .ref ljo, .ref na, .int nc, va_rf iu, .int wa, va_rf rs])) := by rw [eG58]; exact mm_set_of k48 (mm_ne_oo k48 k43 (by decide))
  have k66 : G58 q41 = some (.inr (6, [.int 0, .int 0, .long 0, .long 0, .int 0, .null])) := by rw [eG58]; exact mm_set_of k49 (mm_ne_oo k49 k43 (by decide))
  refine va_callv (va_runI (As := [.int (nI (v.nL + 1)), .int r55, .long r57]) (rest := [.ref q41]) ⟨hx, hb, hml, hown, (fun _ h9 => absurd h9 List.not_mem_nil : ∀ w ∈ ([] : List Cond), w.before _ s = true)⟩ (c_X5_init l D cy A X hst hXT e0 tk hXE G58 q41 (nI (v.nL + 1)) r55 r57 k66) (tb_ci 3 hT tw_683 tw_127 tw_681 tw_682 rfl rfl rfl hq_X5_init ⟨Nat.le_of_ble_eq_true rfl, Nat.le_of_ble_eq_true rfl⟩) (mk_preS hst hG hK hA hX hS) rfl rfl hl.1 rfl (lv_room (Nat.le_of_ble_eq_true rfl)) dX9_takeLayer_40 ⟨(by show _ ≤ (2 + 21 * ((q_lay K S V v q).1.nS - v.nS)); omega), (by show _ ≤ (28 + 176 * ((q_lay K S V v q).1.nS - v.nS)); omega)⟩) hS (fun q _ h => h) (fun q h => h) (fun  G67 t H locs ht hvm hw hB hz1 hk1 hS => ?_)
  have hG : mm D vwCl A G67 H := by rw [← ht]; exact hB
  clear hB hz1 hk1 hvm ht
  obtain ⟨h68_1, h68_f⟩ := hw
  have k69 : G67 o = some (.inr (10, [.ref k, .ref ow, .ref ed, .int (nI y59.2.1), .int y59.2.2])) := h68_f _ _ k60 (mm_ne_oo k60 k66 (by decide))
  have k70 : G67 k = some (.inr (13, [.ref ks, .ref ss, .ref vs, .int (nI tn)])) := h68_f _ _ k61 (mm_ne_oo k61 k66 (by decide))
  have k71 : G67 ks = some (.inl (cy 5, 2001, .inr (.inr (.inr (.inr f1))))) := h68_f _ _ k62 (mm_ne_ao k62 k66)
  have k72 : G67 ss = some (.inl (cy 1, 2001, .inl f2)) := h68_f _ _ k63 (mm_ne_ao k63 k66)
  have k73 : G67 vs = some (.inl (cy 2, 2001, .inr (.inl f3))) := h68_f _ _ k64 (mm_ne_ao k64 k66)
  have k74 : G67 ed = some (.inr (3, [.ref lc, .ref ly, .ref lsv, .ref lco, .ref lva, .ref ljo, .ref na, .int nc, va_rf iu, .int wa, va_rf rs])) := h68_f _ _ k65 (mm_ne_oo k65 k66 (by decide))
  refine lv_astore_n (lv' := [(1, .ref q41), (0, .ref o)]) hx hb dX9_takeLayer_43 rfl hl (by decide) rfl (fun ls hl => ?_)
  refine lv_aload_n hx hb dX9_takeLayer_44 rfl (lv_at hl 1 rfl) ?_
  refine va_gets (v := .ref (tk 17)) hx hb (show va_Z "DescribeText$Token" "OF" "LDescribeText$Token;" (.ref (tk 17)) A s s.heap from (hE.2.1 17 (by decide)).1) hS hown (tb_use hT tw_712) (fun _ h9 => h9) dX9_takeLayer_45 ?_
  refine va_calli (va_runV (As := [.ref (tk 17)]) (rest := []) ⟨hx, hb, hml, hown, (fun _ h9 => absurd h9 List.not_mem_nil : ∀ w ∈ ([] : List Cond), w.before _ s = true)⟩ (c_X9_sees l D cy A X hst hXT e0 tk hXE G67 o ow ed y59.2 k ks ss vs tn K S V f1 f2 f3 17 k69 k70 k71 k72 k73 hTP (by first | omega | (simp only []; omega)) (by decide)) (tb_cw (C := RX9) 1 hT tw_437 tw_106 tw_434 tw_436 tw_6 rfl rfl hq_X9_sees ⟨Nat.le_of_ble_eq_true rfl, Nat.le_of_ble_eq_true rfl⟩) (mk_preC hst hG hK hA hX hS vc_10 k69) rfl rfl hl.1 rfl (lv_room (Nat.le_of_ble_eq_true rfl)) dX9_takeLayer_48 ⟨(by show _ ≤ (2 + 21 * ((q_lay K S V v q).1.nS - v.nS)); omega), (by show _ ≤ (28 + 176 * ((q_lay K S V v q).1.nS - v.nS)); omega)⟩) hS (fun q _ h => h) (fun q h => h) (fun r75 G76 t H locs ht hvm hw hB hz1 hk1 hS => ?_)
  have hG : mm D vwCl A G76 H := by rw [← ht]; exact hB
  clear hB hz1 hk1 hvm ht
  obtain ⟨er75, hw⟩ := hw
  rw [hw] at hG
  refine lv_if_eq (tgt := 80) hx hb dX9_takeLayer_51 (by decide) (fun c_51 => ?_) (fun c_51 => ?_)
  · skip
    refine lv_aload_n hx hb dX9_takeLayer_80 rfl (lv_at hl 1 rfl) ?_
    refine mm_get (v := .ref ed) hx hb hf_X9 (fun _ h9 => h9) hown hK hG k69 rfl 2 (by decide) (tb_use hT tw_179) (fun _ h9 => h9) rfl dX9_takeLayer_81 ?_
    refine mm_getN (v := .ref ly) hx hb hf_X2 (fun _ h9 => h9) hown hK hG k74 rfl 1 (by decide) (tb_use hT tw_281) (fun _ h9 => h9) rfl dX9_takeLayer_84 ?_
    refine lv_aload_n hx hb dX9_takeLayer_87 rfl (lv_at hl 0 rfl) ?_
    have fn77 : G q41 = none := by
      have z := hn_q41
      rw [eG33] at z; replace z := mm_none z
      exact z
    have hB78 : ∀ (x : Nat) (e : va_E), G x = some e → x ≠ o → G67 x = some e := by
      intro x e z0 n_o
      have z1 : G33 x = some e := by rw [eG33]; exact mm_set_of z0 n_o
      have n_q41 : x ≠ q41 := fun z => by rw [z, hn_q41] at z1; cases z1
      have z2 : G42 x = some e := by rw [eG42]; exact mm_set_of z1 n_q41
      have z3 : G58 x = some e := by rw [eG58]; exact mm_set_of z2 n_o
      have z4 : G67 x = some e := h68_f x e z3 n_q41
      exact z4
    have hL79 : LiS cy e0 G67 ly (EA 1) v.nL (AD 1) := LiS.fr2 (fun x => x ≠ o) hlc (fun x e h0 hp => hB78 x e h0 hp) (hlc.ne h0 (by decide)) (fun v _ hv => mm_ne_ao hv h0)
    have hLO2 : LO G67 v.nL (AD 1) := fun j hj => by obtain ⟨fs, z⟩ := hLT j hj; exact ⟨6, fs, _, hB78 _ _ z (mm_ne_oo z h0 (by decide)), rfl, tw_1915, by decide⟩
    obtain ⟨mo82, h_mo82, -⟩ := id hL79
    refine va_calli (va_runV (As := [.ref q41]) (rest := []) ⟨hx, hb, hml, hown, (fun _ h9 => absurd h9 List.not_mem_nil : ∀ w ∈ ([] : List Cond), w.before _ s = true)⟩ (c_LS_add l D cy A X hst hXT e0 tk hXE mi hXL G67 ly (EA 1) v.nL (AD 1) q41 6 _ _ hL79 hLO2 (by omega) h68_1 rfl (by decide) tw_1915) (tb_cw (C := RJx4a65c) 1 hT tw_597 tw_113 tw_594 tw_595 tw_596 rfl rfl hq_Jx4a65c_add_9ea2d ⟨Nat.le_of_ble_eq_true rfl, Nat.le_of_ble_eq_true rfl⟩) (mk_preC hst hG hK hA hX hS vc_1 h_mo82) rfl rfl hl.1 rfl (lv_room (Nat.le_of_ble_eq_true rfl)) dX9_takeLayer_88 ⟨(by show _ ≤ (2 + 21 * ((q_lay K S V v q).1.nS - v.nS)); omega), (by show _ ≤ (28 + 176 * ((q_lay K S V v q).1.nS - v.nS)); omega)⟩) hS (fun q _ h => h) (fun q h => h) (fun r81 G80 t H locs ht hvm hw hB hz1 hk1 hS => ?_)
    have hG : mm D vwCl A G80 H := by rw [← ht]; exact hB
    clear hB hz1 hk1 hvm ht
    obtain ⟨ec2, hlc2, hec2, hf2⟩ := hw
    have hf3 : ∀ (x ci : Nat) (fs : List Value), G67 x = some (.inr (ci, fs)) → ci ≠ 1 → G80 x = some (.inr (ci, fs)) := fun x ci fs h0 hc => hf2 x _ h0 (Ne.symm (hL79.ne h0 hc)) (fun h1 => LiS.nea hL79 h1 h0)
    have k83 : G80 o = some (.inr (10, [.ref k, .ref ow, .ref ed, .int (nI y59.2.1), .int y59.2.2])) := hf3 _ _ _ k69 (by decide)
    have k84 : G80 k = some (.inr (13, [.ref ks, .ref ss, .ref vs, .int (nI tn)])) := hf3 _ _ _ k70 (by decide)
    have k85 : G80 ks = some (.inl (cy 5, 2001, .inr (.inr (.inr (.inr f1))))) := hf2 _ _ k71 (Ne.symm (LiS.nal hL79 k71)) (fun h1 => LiS.nar hL79 h1 k71 (by intro gv9 z; have z2 := (Prod.mk.inj (Prod.mk.inj (Sum.inl.inj z)).2); first | (exact absurd z2.1 (cpf_ne _)) | (cases z2.2)))
    have k86 : G80 ss = some (.inl (cy 1, 2001, .inl f2)) := hf2 _ _ k72 (Ne.symm (LiS.nal hL79 k72)) (fun h1 => LiS.nar hL79 h1 k72 (by intro gv9 z; have z2 := (Prod.mk.inj (Prod.mk.inj (Sum.inl.inj z)).2); first | (exact absurd z2.1 (cpf_ne _)) | (cases z2.2)))
    have k87 : G80 vs = some (.inl (cy 2, 2001, .inr (.inl f3))) := hf2 _ _ k73 (Ne.symm (LiS.nal hL79 k73)) (fun h1 => LiS.nar hL79 h1 k73 (by intro gv9 z; have z2 := (Prod.mk.inj (Prod.mk.inj (Sum.inl.inj z)).2); first | (exact absurd z2.1 (cpf_ne _)) | (cases z2.2)))
    have k88 : G80 ed = some (.inr (3, [.ref lc, .ref ly, .ref lsv, .ref lco, .ref lva, .ref ljo, .ref na, .int nc, va_rf iu, .int wa, va_rf rs])) := hf3 _ _ _ k74 (by decide)
    have k89 : G80 q41 = some (.inr (6, [.int (nI (v.nL + 1)), .int r55, .long r57, .long 0, .int 0, .null])) := hf3 _ _ _ h68_1 (by decide)
    have hec3 : (1 ≤ v.nL ∧ ec2 = EA 1) ∨ G ec2 = none := by
      rcases hec2 with h1 | h1
      · exact Or.inl h1
      · refine Or.inr (none_back hB78 h1 ?_)
        intro z; rw [z, k69] at h1; cases h1
    have hfr9 : ∀ (x : Nat) (e : va_E), G x = some e → x ≠ o → x ≠ ly → (1 ≤ v.nL → x ≠ EA 1) → G80 x = some e := fun x e h0 n1 n2 n3 => hf2 x e (hB78 x e h0 n1) n2 n3
    have hP1 : EDP cy e0 tk G0 Bx G80 (v.addL (r55, r57, 0, 0)) PtV.nil LA (up1 EA 1 ec2) (up1 AD 1 (fup (AD 1) v.nL q41)) PI := EDP.layer hP rfl (by omega) hBo h0 k83 fn77 (by rw [hLA.2.1]; exact hlc2) hec3 k89 (fun x e h0 n1 n2 n3 => hfr9 x e h0 n1 (by rw [← hLA.2.1]; exact n2) n3)
    refine lv_pop hx hb dX9_takeLayer_91 rfl ?_
    refine lv_aload_n hx hb dX9_takeLayer_92 rfl (lv_at hl 1 rfl) ?_
    refine va_gets (v := .ref (tk 4)) hx hb (show va_Z "DescribeText$Token" "OPEN" "LDescribeText$Token;" (.ref (tk 4)) A s s.heap from (hE.2.1 4 (by decide)).1) hS hown (tb_use hT tw_547) (fun _ h9 => h9) dX9_takeLayer_93 ?_
    refine va_callv (va_runV (As := [.ref (tk 4)]) (rest := []) ⟨hx, hb, hml, hown, (fun _ h9 => absurd h9 List.not_mem_nil : ∀ w ∈ ([] : List Cond), w.before _ s = true)⟩ (c_X9_take l D cy A X hst hXT e0 tk hXE G80 o ow ed y59.2 k ks ss vs tn K S V f1 f2 f3 4 k83 k84 k85 k86 k87 hTP (by first | omega | (simp only []; omega)) (by decide)) (tb_cw (C := RX9) 1 hT tw_539 tw_106 tw_536 tw_538 tw_12 rfl rfl hq_X9_take ⟨Nat.le_of_ble_eq_true rfl, Nat.le_of_ble_eq_true rfl⟩) (mk_preC hst hG hK hA hX hS vc_10 k83) rfl rfl hl.1 rfl (lv_room (Nat.le_of_ble_eq_true rfl)) dX9_takeLayer_96 ⟨(by show _ ≤ (2 + 21 * ((q_lay K S V v q).1.nS - v.nS)); omega), (by show _ ≤ (28 + 176 * ((q_lay K S V v q).1.nS - v.nS)); omega)⟩) hS (fun q _ h => h) (fun q h => h) (fun  G90 t H locs ht hvm hw hB hz1 hk1 hS => ?_)
    have hG : mm D vwCl A G90 H := by rw [← ht]; exact hB
    clear hB hz1 hk1 hvm ht
    obtain ⟨y91, ey91⟩ : ∃ y, y = q_take K S 4 y59.2 := ⟨_, rfl⟩
    rw [← ey91] at hw
    have ly91 : y91.1 ≤ y59.2.1 + 1 := by rw [ey91]; exact q_take_le
    have eG90 := hw
    clear hw
    have k92 : G90 o = some (.inr (10, [.ref k, .ref ow, .ref ed, .int (nI y91.1), .int y91.2])) := by rw [eG90]; exact mm_set_self
    have k93 : G90 k = some (.inr (13, [.ref ks, .ref ss, .ref vs, .int (nI tn)])) := by rw [eG90]; exact mm_set_of k84 (mm_ne_oo k84 k83 (by decide))
    have k94 : G90 ks = some (.inl (cy 5, 2001, .inr (.inr (.inr (.inr f1))))) := by rw [eG90]; exact mm_set_of k85 (mm_ne_ao k85 k83)
    have k95 : G90 ss = some (.inl (cy 1, 2001, .inl f2)) := by rw [eG90]; exact mm_set_of k86 (mm_ne_ao k86 k83)
    have k96 : G90 vs = some (.inl (cy 2, 2001, .inr (.inl f3))) := by rw [eG90]; exact mm_set_of k87 (mm_ne_ao k87 k83)
    have k97 : G90 ed = some (.inr (3, [.ref lc, .ref ly, .ref lsv, .ref lco, .ref lva, .ref ljo, .ref na, .int nc, va_rf iu, .int wa, va_rf rs])) := by rw [eG90]; exact mm_set_of k88 (mm_ne_oo k88 k83 (by decide))
    have k98 : G90 q41 = some (.inr (6, [.int (nI (v.nL + 1)), .int r55, .long r57, .long 0, .int 0, .null])) := by rw [eG90]; exact mm_set_of k89 (mm_ne_oo k89 k83 (by decide))
    refine lv_iconst (v := 0) hx hb dX9_takeLayer_99 (by decide) ?_
    refine lv_istore_n (lv' := [(2, .int 0), (1, .ref q41), (0, .ref o)]) hx hb dX9_takeLayer_100 rfl hl (by decide) rfl (fun ls hl => ?_)
    have hfA : ∀ (x : Nat) (e : va_E), G80 x = some e → x ≠ o → G90 x = some e := by
      intro x e z0 n_o
      have z1 : G90 x = some e := by rw [eG90]; exact mm_set_of z0 n_o
      exact z1
    have hP2 : EDP cy e0 tk G0 Bx G90 (v.addL (r55, r57, 0, 0)) PtV.nil LA (up1 EA 1 ec2) (up1 AD 1 (fup (AD 1) v.nL q41)) PI := EDP.mvo hP1 hBo k83 k92 hfA
    obtain ⟨vF, qF, hR⟩ : ∃ a b, q_svs K S V 17 v.nL (v.addL (r55, r57, 0, 0)) y91 = (a, b) := ⟨_, _, rfl⟩
    have hs_w : se K y59.2.1 y59.2.2 17 = false := by rw [er75] at c_51; revert c_51; cases se K y59.2.1 y59.2.2 17 <;> simp [b2i]
    have hZ : q_lay K S V v q = (vF, q_take K S 5 qF) := by
      simp only [q_lay]
      simp only [← ey34, ← ey59, ← ey91]
      simp only [hs_w, Bool.false_eq_true, if_false, if_true, reduceIte]
      try simp only [← ey34, ← ey59, ← ey91]
      try simp only [er55, er57] at hR
      try simp only [er55, er57]
      rw [hR]
    have hfrB : ∀ (x : Nat) (e : va_E), G x = some e → ¬ (x = o ∨ x = ly ∨ (1 ≤ v.nL ∧ x = EA 1) ∨ x = lsv ∨ (1 ≤ v.nS ∧ x = EA 2)) → G90 x = some e := fun x e h0 nb => hfA x e (hfr9 x e h0 (fun z => nb (Or.inl z)) (fun z => nb (Or.inr (Or.inl z))) (fun h1 z => nb (Or.inr (Or.inr (Or.inl ⟨h1, z⟩))))) (fun z => nb (Or.inl z))
    refine W.widen (k := 2 + 21 * 0) (n := 28 + 176 * 0) (by omega) (by omega) ?_
    exact hloop 17 0 y91 qF q41 (v.addL (r55, r57, 0, 0)) vF LA (up1 EA 1 ec2) (up1 AD 1 (fup (AD 1) v.nL q41)) (by omega) hR hZ (by first | omega | (simp only []; omega)) rfl rfl (fun _ => hnLS.2) (fun k _ => rfl) (by rw [up1_eq, fup_eq]) G90 k92 k93 k94 k95 k96 k97 hP2 hfrB (fun h1 e h2 => Or.inr (Or.inr (Or.inr (Or.inr ⟨h1, by rw [up1_ne (by decide)]⟩)))) _ _ hG hS ls (lv_sub hl [2, 1, 0] rfl)
  · skip
    refine lv_aload_n hx hb dX9_takeLayer_54 rfl (lv_at hl 1 rfl) ?_
    refine lv_dup hx hb dX9_takeLayer_55 rfl ?_
    refine mm_get (v := .int (nI y59.2.1)) hx hb hf_X9 (fun _ h9 => h9) hown hK hG k69 rfl 3 (by decide) (tb_use hT tw_180) (fun _ h9 => h9) rfl dX9_takeLayer_56 ?_
    refine lv_iconst (v := 1) hx hb dX9_takeLayer_59 (by decide) ?_
    refine lv_iadd hx hb dX9_takeLayer_60 ?_
    rw [← nI_succ y59.2.1]
    refine mm_put (v := .int (nI (y59.2.1 + 1))) (ty := .int) hx hb hf_X9 (fun _ h9 => h9) tyX9 tyX9_ok nmX9 hown hK hG hS k69 rfl 3 (by decide) (tb_use hT tw_180) (fun _ h9 => h9) rfl (by decide +kernel) rfl rfl (Nat.le_of_ble_eq_true rfl) dX9_takeLayer_61 (fun H locs hG hS => ?_)
    obtain ⟨G99, eG99⟩ : ∃ g, g = mm_set G67 o (.inr (10, [.ref k, .ref ow, .ref ed, .int (nI (y59.2.1 + 1)), .int y59.2.2])) := ⟨_, rfl⟩
    have hG : mm D vwCl A G99 H := by rw [eG99]; exact hG
    have k100 : G99 o = some (.inr (10, [.ref k, .ref ow, .ref ed, .int (nI (y59.2.1 + 1)), .int y59.2.2])) := by rw [eG99]; exact mm_set_self
    have k101 : G99 k = some (.inr (13, [.ref ks, .ref ss, .ref vs, .int (nI tn)])) := by rw [eG99]; exact mm_set_of k70 (mm_ne_oo k70 k69 (by decide))
    have k102 : G99 ks = some (.inl (cy 5, 2001, .inr (.inr (.inr (.inr f1))))) := by rw [eG99]; exact mm_set_of k71 (mm_ne_ao k71 k69)
    have k103 : G99 ss = some (.inl (cy 1, 2001, .inl f2)) := by rw [eG99]; exact mm_set_of k72 (mm_ne_ao k72 k69)
    have k104 : G99 vs = some (.inl (cy 2, 2001, .inr (.inl f3))) := by rw [eG99]; exact mm_set_of k73 (mm_ne_ao k73 k69)
    have k105 : G99 ed = some (.inr (3, [.ref lc, .ref ly, .ref lsv, .ref lco, .ref lva, .ref ljo, .ref na, .int nc, va_rf iu, .int wa, va_rf rs])) := by rw [eG99]; exact mm_set_of k74 (mm_ne_oo k74 k69 (by decide))
    have k106 : G99 q41 = some (.inr (6, [.int (nI (v.nL + 1)), .int r55, .long r57, .long 0, .int 0, .null])) := by rw [eG99]; exact mm_set_of h68_1 (mm_ne_oo h68_1 k69 (by decide))
    refine lv_aload_n hx hb dX9_takeLayer_64 rfl (lv_at hl 0 rfl) ?_
    refine lv_aload_n hx hb dX9_takeLayer_65 rfl (lv_at hl 1 rfl) ?_
    refine va_calli (va_runV (As := []) (rest := [.ref q41]) ⟨hx, hb, hml, hown, (fun _ h9 => absurd h9 List.not_mem_nil : ∀ w ∈ ([] : List Cond), w.before _ s = true)⟩ (c_X9_start l D cy A X hst hXT e0 tk hXE G99 o ow ed (y59.2.1 + 1, y59.2.2) k ks ss vs tn K S V f1 f2 f3  k100 k101 k102 k103 k104 hTP (by first | omega | (simp only []; omega)) ) (tb_cw (C := RX9) 0 hT tw_475 tw_106 tw_472 tw_474 tw_10 rfl rfl hq_X9_start ⟨Nat.le_of_ble_eq_true rfl, Nat.le_of_ble_eq_true rfl⟩) (mk_preC hst hG hK hA hX hS vc_10 k100) rfl rfl hl.1 rfl (lv_room (Nat.le_of_ble_eq_true rfl)) dX9_takeLayer_66 ⟨(by show _ ≤ (2 + 21 * ((q_lay K S V v q).1.nS - v.nS)); omega), (by show _ ≤ (28 + 176 * ((q_lay K S V v q).1.nS - v.nS)); omega)⟩) hS (fun q _ h => h) (fun q h => h) (fun r107 G108 t H locs ht hvm hw hB hz1 hk1 hS => ?_)
    have hG : mm D vwCl A G108 H := by rw [← ht]; exact hB
    clear hB hz1 hk1 hvm ht
    obtain ⟨er107, hw⟩ := hw
    rw [hw] at hG
    refine mm_putN (v := .int r107) (ty := .int) hx hb hf_X5 (fun _ h9 => h9) tyX5 tyX5_ok nmX5 hown hK hG hS k106 rfl 4 (by decide) (tb_use hT tw_695) (fun _ h9 => h9) rfl (by decide +kernel) rfl rfl (Nat.le_of_ble_eq_true rfl) dX9_takeLayer_69 (fun H locs hG hS => ?_)
    obtain ⟨G109, eG109⟩ : ∃ g, g = mm_set G99 q41 (.inr (6, [.int (nI (v.nL + 1)), .int r55, .long r57, .long 0, .int r107, .null])) := ⟨_, rfl⟩
    have hG : mm D vwCl A G109 H := by rw [eG109]; exact hG
    have k110 : G109 o = some (.inr (10, [.ref k, .ref ow, .ref ed, .int (nI (y59.2.1 + 1)), .int y59.2.2])) := by rw [eG109]; exact mm_set_of k100 (mm_ne_oo k100 k106 (by decide))
    have k111 : G109 k = some (.inr (13, [.ref ks, .ref ss, .ref vs, .int (nI tn)])) := by rw [eG109]; exact mm_set_of k101 (mm_ne_oo k101 k106 (by decide))
    have k112 : G109 ks = some (.inl (cy 5, 2001, .inr (.inr (.inr (.inr f1))))) := by rw [eG109]; exact mm_set_of k102 (mm_ne_ao k102 k106)
    have k113 : G109 ss = some (.inl (cy 1, 2001, .inl f2)) := by rw [eG109]; exact mm_set_of k103 (mm_ne_ao k103 k106)
    have k114 : G109 vs = some (.inl (cy 2, 2001, .inr (.inl f3))) := by rw [eG109]; exact mm_set_of k104 (mm_ne_ao k104 k106)
    have k115 : G109 ed = some (.inr (3, [.ref lc, .ref ly, .ref lsv, .ref lco, .ref lva, .ref ljo, .ref na, .int nc, va_rf iu, .int wa, va_rf rs])) := by rw [eG109]; exact mm_set_of k105 (mm_ne_oo k105 k106 (by decide))
    have k116 : G109 q41 = some (.inr (6, [.int (nI (v.nL + 1)), .int r55, .long r57, .long 0, .int r107, .null])) := by rw [eG109]; exact mm_set_self
    refine lv_aload_n hx hb dX9_takeLayer_72 rfl (lv_at hl 0 rfl) ?_
    refine lv_aload_n hx hb dX9_takeLayer_73 rfl (lv_at hl 1 rfl) ?_
    refine va_calll (va_runV (As := []) (rest := [.ref q41]) ⟨hx, hb, hml, hown, (fun _ h9 => absurd h9 List.not_mem_nil : ∀ w ∈ ([] : List Cond), w.before _ s = true)⟩ (c_X9_takeName l D cy A X hst hXT e0 tk hXE G109 o ow ed (y59.2.1 + 1, y59.2.2) k ks ss vs tn K S V f1 f2 f3  k110 k111 k112 k113 k114 hTP (by first | omega | (simp only []; omega)) ) (tb_cw (C := RX9) 0 hT tw_479 tw_106 tw_476 tw_478 tw_11 rfl rfl hq_X9_takeName ⟨Nat.le_of_ble_eq_true rfl, Nat.le_of_ble_eq_true rfl⟩) (mk_preC hst hG hK hA hX hS vc_10 k110) rfl rfl hl.1 rfl (lv_room (Nat.le_of_ble_eq_true rfl)) dX9_takeLayer_74 ⟨(by show _ ≤ (2 + 21 * ((q_lay K S V v q).1.nS - v.nS)); omega), (by show _ ≤ (28 + 176 * ((q_lay K S V v q).1.nS - v.nS)); omega)⟩) hS (fun q _ h => h) (fun q h => h) (fun r117 G118 t H locs ht hvm hw hB hz1 hk1 hS => ?_)
    have hG : mm D vwCl A G118 H := by rw [← ht]; exact hB
    clear hB hz1 hk1 hvm ht
    obtain ⟨y119, ey119⟩ : ∃ y, y = q_name K S V (y59.2.1 + 1, y59.2.2) := ⟨_, rfl⟩
    rw [← ey119] at hw
    obtain ⟨er117, hw⟩ := hw
    have ly119 : y119.2.1 ≤ (y59.2.1 + 1, y59.2.2).1 + 1 := by rw [ey119]; exact q_name_le
    have eG118 := hw
    clear hw
    have k120 : G118 o = some (.inr (10, [.ref k, .ref ow, .ref ed, .int (nI y119.2.1), .int y119.2.2])) := by rw [eG118]; exact mm_set_self
    have k121 : G118 k = some (.inr (13, [.ref ks, .ref ss, .ref vs, .int (nI tn)])) := by rw [eG118]; exact mm_set_of k111 (mm_ne_oo k111 k110 (by decide))
    have k122 : G118 ks = some (.inl (cy 5, 2001, .inr (.inr (.inr (.inr f1))))) := by rw [eG118]; exact mm_set_of k112 (mm_ne_ao k112 k110)
    have k123 : G118 ss = some (.inl (cy 1, 2001, .inl f2)) := by rw [eG118]; exact mm_set_of k113 (mm_ne_ao k113 k110)
    have k124 : G118 vs = some (.inl (cy 2, 2001, .inr (.inl f3))) := by rw [eG118]; exact mm_set_of k114 (mm_ne_ao k114 k110)
    have k125 : G118 ed = some (.inr (3, [.ref lc, .ref ly, .ref lsv, .ref lco, .ref lva, .ref ljo, .ref na, .int nc, va_rf iu, .int wa, va_rf rs])) := by rw [eG118]; exact mm_set_of k115 (mm_ne_oo k115 k110 (by decide))
    have k126 : G118 q41 = some (.inr (6, [.int (nI (v.nL + 1)), .int r55, .long r57, .long 0, .int r107, .null])) := by rw [eG118]; exact mm_set_of k116 (mm_ne_oo k116 k110 (by decide))
    refine mm_putN (v := .long r117) (ty := .long) hx hb hf_X5 (fun _ h9 => h9) tyX5 tyX5_ok nmX5 hown hK hG hS k126 rfl 3 (by decide) (tb_use hT tw_693) (fun _ h9 => h9) rfl (by decide +kernel) rfl rfl (Nat.le_of_ble_eq_true rfl) dX9_takeLayer_77 (fun H locs hG hS => ?_)
    obtain ⟨G127, eG127⟩ : ∃ g, g = mm_set G118 q41 (.inr (6, [.int (nI (v.nL + 1)), .int r55, .long r57, .long r117, .int r107, .null])) := ⟨_, rfl⟩
    have hG : mm D vwCl A G127 H := by rw [eG127]; exact hG
    have k128 : G127 o = some (.inr (10, [.ref k, .ref ow, .ref ed, .int (nI y119.2.1), .int y119.2.2])) := by rw [eG127]; exact mm_set_of k120 (mm_ne_oo k120 k126 (by decide))
    have k129 : G127 k = some (.inr (13, [.ref ks, .ref ss, .ref vs, .int (nI tn)])) := by rw [eG127]; exact mm_set_of k121 (mm_ne_oo k121 k126 (by decide))
    have k130 : G127 ks = some (.inl (cy 5, 2001, .inr (.inr (.inr (.inr f1))))) := by rw [eG127]; exact mm_set_of k122 (mm_ne_ao k122 k126)
    have k131 : G127 ss = some (.inl (cy 1, 2001, .inl f2)) := by rw [eG127]; exact mm_set_of k123 (mm_ne_ao k123 k126)
    have k132 : G127 vs = some (.inl (cy 2, 2001, .inr (.inl f3))) := by rw [eG127]; exact mm_set_of k124 (mm_ne_ao k124 k126)
    have k133 : G127 ed = some (.inr (3, [.ref lc, .ref ly, .ref lsv, .ref lco, .ref lva, .ref ljo, .ref na, .int nc, va_rf iu, .int wa, va_rf rs])) := by rw [eG127]; exact mm_set_of k125 (mm_ne_oo k125 k126 (by decide))
    have k134 : G127 q41 = some (.inr (6, [.int (nI (v.nL + 1)), .int r55, .long r57, .long r117, .int r107, .null])) := by rw [eG127]; exact mm_set_self
    refine lv_aload_n hx hb dX9_takeLayer_80 rfl (lv_at hl 1 rfl) ?_
    refine mm_get (v := .ref ed) hx hb hf_X9 (fun _ h9 => h9) hown hK hG k128 rfl 2 (by decide) (tb_use hT tw_179) (fun _ h9 => h9) rfl dX9_takeLayer_81 ?_
    refine mm_getN (v := .ref ly) hx hb hf_X2 (fun _ h9 => h9) hown hK hG k133 rfl 1 (by decide) (tb_use hT tw_281) (fun _ h9 => h9) rfl dX9_takeLayer_84 ?_
    refine lv_aload_n hx hb dX9_takeLayer_87 rfl (lv_at hl 0 rfl) ?_
    have fn135 : G q41 = none := by
      have z := hn_q41
      rw [eG33] at z; replace z := mm_none z
      exact z
    have hB136 : ∀ (x : Nat) (e : va_E), G x = some e → x ≠ o → G127 x = some e := by
      intro x e z0 n_o
      have z1 : G33 x = some e := by rw [eG33]; exact mm_set_of z0 n_o
      have n_q41 : x ≠ q41 := fun z => by rw [z, hn_q41] at z1; cases z1
      have z2 : G42 x = some e := by rw [eG42]; exact mm_set_of z1 n_q41
      have z3 : G58 x = some e := by rw [eG58]; exact mm_set_of z2 n_o
      have z4 : G67 x = some e := h68_f x e z3 n_q41
      have z5 : G99 x = some e := by rw [eG99]; exact mm_set_of z4 n_o
      have z6 : G109 x = some e := by rw [eG109]; exact mm_set_of z5 n_q41
      have z7 : G118 x = some e := by rw [eG118]; exact mm_set_of z6 n_o
      have z8 : G127 x = some e := by rw [eG127]; exact mm_set_of z7 n_q41
      exact z8
    have hL137 : LiS cy e0 G127 ly (EA 1) v.nL (AD 1) := LiS.fr2 (fun x => x ≠ o) hlc (fun x e h0 hp => hB136 x e h0 hp) (hlc.ne h0 (by decide)) (fun v _ hv => mm_ne_ao hv h0)
    have hLO2 : LO G127 v.nL (AD 1) := fun j hj => by obtain ⟨fs, z⟩ := hLT j hj; exact ⟨6, fs, _, hB136 _ _ z (mm_ne_oo z h0 (by decide)), rfl, tw_1915, by decide⟩
    obtain ⟨mo140, h_mo140, -⟩ := id hL137
    refine va_calli (va_runV (As := [.ref q41]) (rest := []) ⟨hx, hb, hml, hown, (fun _ h9 => absurd h9 List.not_mem_nil : ∀ w ∈ ([] : List Cond), w.before _ s = true)⟩ (c_LS_add l D cy A X hst hXT e0 tk hXE mi hXL G127 ly (EA 1) v.nL (AD 1) q41 6 _ _ hL137 hLO2 (by omega) k134 rfl (by decide) tw_1915) (tb_cw (C := RJx4a65c) 1 hT tw_597 tw_113 tw_594 tw_595 tw_596 rfl rfl hq_Jx4a65c_add_9ea2d ⟨Nat.le_of_ble_eq_true rfl, Nat.le_of_ble_eq_true rfl⟩) (mk_preC hst hG hK hA hX hS vc_1 h_mo140) rfl rfl hl.1 rfl (lv_room (Nat.le_of_ble_eq_true rfl)) dX9_takeLayer_88 ⟨(by show _ ≤ (2 + 21 * ((q_lay K S V v q).1.nS - v.nS)); omega), (by show _ ≤ (28 + 176 * ((q_lay K S V v q).1.nS - v.nS)); omega)⟩) hS (fun q _ h => h) (fun q h => h) (fun r139 G138 t H locs ht hvm hw hB hz1 hk1 hS => ?_)
    have hG : mm D vwCl A G138 H := by rw [← ht]; exact hB
    clear hB hz1 hk1 hvm ht
    obtain ⟨ec2, hlc2, hec2, hf2⟩ := hw
    have hf3 : ∀ (x ci : Nat) (fs : List Value), G127 x = some (.inr (ci, fs)) → ci ≠ 1 → G138 x = some (.inr (ci, fs)) := fun x ci fs h0 hc => hf2 x _ h0 (Ne.symm (hL137.ne h0 hc)) (fun h1 => LiS.nea hL137 h1 h0)
    have k141 : G138 o = some (.inr (10, [.ref k, .ref ow, .ref ed, .int (nI y119.2.1), .int y119.2.2])) := hf3 _ _ _ k128 (by decide)
    have k142 : G138 k = some (.inr (13, [.ref ks, .ref ss, .ref vs, .int (nI tn)])) := hf3 _ _ _ k129 (by decide)
    have k143 : G138 ks = some (.inl (cy 5, 2001, .inr (.inr (.inr (.inr f1))))) := hf2 _ _ k130 (Ne.symm (LiS.nal hL137 k130)) (fun h1 => LiS.nar hL137 h1 k130 (by intro gv9 z; have z2 := (Prod.mk.inj (Prod.mk.inj (Sum.inl.inj z)).2); first | (exact absurd z2.1 (cpf_ne _)) | (cases z2.2)))
    have k144 : G138 ss = some (.inl (cy 1, 2001, .inl f2)) := hf2 _ _ k131 (Ne.symm (LiS.nal hL137 k131)) (fun h1 => LiS.nar hL137 h1 k131 (by intro gv9 z; have z2 := (Prod.mk.inj (Prod.mk.inj (Sum.inl.inj z)).2); first | (exact absurd z2.1 (cpf_ne _)) | (cases z2.2)))
    have k145 : G138 vs = some (.inl (cy 2, 2001, .inr (.inl f3))) := hf2 _ _ k132 (Ne.symm (LiS.nal hL137 k132)) (fun h1 => LiS.nar hL137 h1 k132 (by intro gv9 z; have z2 := (Prod.mk.inj (Prod.mk.inj (Sum.inl.inj z)).2); first | (exact absurd z2.1 (cpf_ne _)) | (cases z2.2)))
    have k146 : G138 ed = some (.inr (3, [.ref lc, .ref ly, .ref lsv, .ref lco, .ref lva, .ref ljo, .ref na, .int nc, va_rf iu, .int wa, va_rf rs])) := hf3 _ _ _ k133 (by decide)
    have k147 : G138 q41 = some (.inr (6, [.int (nI (v.nL + 1)), .int r55, .long r57, .long r117, .int r107, .null])) := hf3 _ _ _ k134 (by decide)
    have hec3 : (1 ≤ v.nL ∧ ec2 = EA 1) ∨ G ec2 = none := by
      rcases hec2 with h1 | h1
      · exact Or.inl h1
      · refine Or.inr (none_back hB136 h1 ?_)
        intro z; rw [z, k128] at h1; cases h1
    have hfr9 : ∀ (x : Nat) (e : va_E), G x = some e → x ≠ o → x ≠ ly → (1 ≤ v.nL → x ≠ EA 1) → G138 x = some e := fun x e h0 n1 n2 n3 => hf2 x e (hB136 x e h0 n1) n2 n3
    have hP1 : EDP cy e0 tk G0 Bx G138 (v.addL (r55, r57, r117, r107)) PtV.nil LA (up1 EA 1 ec2) (up1 AD 1 (fup (AD 1) v.nL q41)) PI := EDP.layer hP rfl (by omega) hBo h0 k141 fn135 (by rw [hLA.2.1]; exact hlc2) hec3 k147 (fun x e h0 n1 n2 n3 => hfr9 x e h0 n1 (by rw [← hLA.2.1]; exact n2) n3)
    refine lv_pop hx hb dX9_takeLayer_91 rfl ?_
    refine lv_aload_n hx hb dX9_takeLayer_92 rfl (lv_at hl 1 rfl) ?_
    refine va_gets (v := .ref (tk 4)) hx hb (show va_Z "DescribeText$Token" "OPEN" "LDescribeText$Token;" (.ref (tk 4)) A s s.heap from (hE.2.1 4 (by decide)).1) hS hown (tb_use hT tw_547) (fun _ h9 => h9) dX9_takeLayer_93 ?_
    refine va_callv (va_runV (As := [.ref (tk 4)]) (rest := []) ⟨hx, hb, hml, hown, (fun _ h9 => absurd h9 List.not_mem_nil : ∀ w ∈ ([] : List Cond), w.before _ s = true)⟩ (c_X9_take l D cy A X hst hXT e0 tk hXE G138 o ow ed y119.2 k ks ss vs tn K S V f1 f2 f3 4 k141 k142 k143 k144 k145 hTP (by first | omega | (simp only []; omega)) (by decide)) (tb_cw (C := RX9) 1 hT tw_539 tw_106 tw_536 tw_538 tw_12 rfl rfl hq_X9_take ⟨Nat.le_of_ble_eq_true rfl, Nat.le_of_ble_eq_true rfl⟩) (mk_preC hst hG hK hA hX hS vc_10 k141) rfl rfl hl.1 rfl (lv_room (Nat.le_of_ble_eq_true rfl)) dX9_takeLayer_96 ⟨(by show _ ≤ (2 + 21 * ((q_lay K S V v q).1.nS - v.nS)); omega), (by show _ ≤ (28 + 176 * ((q_lay K S V v q).1.nS - v.nS)); omega)⟩) hS (fun q _ h => h) (fun q h => h) (fun  G148 t H locs ht hvm hw hB hz1 hk1 hS => ?_)
    have hG : mm D vwCl A G148 H := by rw [← ht]; exact hB
    clear hB hz1 hk1 hvm ht
    obtain ⟨y149, ey149⟩ : ∃ y, y = q_take K S 4 y119.2 := ⟨_, rfl⟩
    rw [← ey149] at hw
    have ly149 : y149.1 ≤ y119.2.1 + 1 := by rw [ey149]; exact q_take_le
    have eG148 := hw
    clear hw
    have k150 : G148 o = some (.inr (10, [.ref k, .ref ow, .ref ed, .int (nI y149.1), .int y149.2])) := by rw [eG148]; exact mm_set_self
    have k151 : G148 k = some (.inr (13, [.ref ks, .ref ss, .ref vs, .int (nI tn)])) := by rw [eG148]; exact mm_set_of k142 (mm_ne_oo k142 k141 (by decide))
    have k152 : G148 ks = some (.inl (cy 5, 2001, .inr (.inr (.inr (.inr f1))))) := by rw [eG148]; exact mm_set_of k143 (mm_ne_ao k143 k141)
    have k153 : G148 ss = some (.inl (cy 1, 2001, .inl f2)) := by rw [eG148]; exact mm_set_of k144 (mm_ne_ao k144 k141)
    have k154 : G148 vs = some (.inl (cy 2, 2001, .inr (.inl f3))) := by rw [eG148]; exact mm_set_of k145 (mm_ne_ao k145 k141)
    have k155 : G148 ed = some (.inr (3, [.ref lc, .ref ly, .ref lsv, .ref lco, .ref lva, .ref ljo, .ref na, .int nc, va_rf iu, .int wa, va_rf rs])) := by rw [eG148]; exact mm_set_of k146 (mm_ne_oo k146 k141 (by decide))
    have k156 : G148 q41 = some (.inr (6, [.int (nI (v.nL + 1)), .int r55, .long r57, .long r117, .int r107, .null])) := by rw [eG148]; exact mm_set_of k147 (mm_ne_oo k147 k141 (by decide))
    refine lv_iconst (v := 0) hx hb dX9_takeLayer_99 (by decide) ?_
    refine lv_istore_n (lv' := [(2, .int 0), (1, .ref q41), (0, .ref o)]) hx hb dX9_takeLayer_100 rfl hl (by decide) rfl (fun ls hl => ?_)
    have hfA : ∀ (x : Nat) (e : va_E), G138 x = some e → x ≠ o → G148 x = some e := by
      intro x e z0 n_o
      have z1 : G148 x = some e := by rw [eG148]; exact mm_set_of z0 n_o
      exact z1
    have hP2 : EDP cy e0 tk G0 Bx G148 (v.addL (r55, r57, r117, r107)) PtV.nil LA (up1 EA 1 ec2) (up1 AD 1 (fup (AD 1) v.nL q41)) PI := EDP.mvo hP1 hBo k141 k150 hfA
    obtain ⟨vF, qF, hR⟩ : ∃ a b, q_svs K S V 17 v.nL (v.addL (r55, r57, r117, r107)) y149 = (a, b) := ⟨_, _, rfl⟩
    have hs_w : se K y59.2.1 y59.2.2 17 = true := by rw [er75] at c_51; revert c_51; cases se K y59.2.1 y59.2.2 17 <;> simp [b2i]
    have hZ : q_lay K S V v q = (vF, q_take K S 5 qF) := by
      simp only [q_lay]
      simp only [← ey34, ← ey59, ← ey119, ← ey149]
      simp only [hs_w, Bool.false_eq_true, if_false, if_true, reduceIte]
      try simp only [← ey34, ← ey59, ← ey119, ← ey149]
      try simp only [er55, er57, er107, er117] at hR
      try simp only [er55, er57, er107, er117]
      rw [hR]
    have hfrB : ∀ (x : Nat) (e : va_E), G x = some e → ¬ (x = o ∨ x = ly ∨ (1 ≤ v.nL ∧ x = EA 1) ∨ x = lsv ∨ (1 ≤ v.nS ∧ x = EA 2)) → G148 x = some e := fun x e h0 nb => hfA x e (hfr9 x e h0 (fun z => nb (Or.inl z)) (fun z => nb (Or.inr (Or.inl z))) (fun h1 z => nb (Or.inr (Or.inr (Or.inl ⟨h1, z⟩))))) (fun z => nb (Or.inl z))
    refine W.widen (k := 2 + 21 * 0) (n := 28 + 176 * 0) (by omega) (by omega) ?_
    exact hloop 17 0 y149 qF q41 (v.addL (r55, r57, r117, r107)) vF LA (up1 EA 1 ec2) (up1 AD 1 (fup (AD 1) v.nL q41)) (by omega) hR hZ (by first | omega | (simp only []; omega)) rfl rfl (fun _ => hnLS.2) (fun k _ => rfl) (by rw [up1_eq, fup_eq]) G148 k150 k151 k152 k153 k154 k155 hP2 hfrB (fun h1 e h2 => Or.inr (Or.inr (Or.inr (Or.inr ⟨h1, by rw [up1_ne (by decide)]⟩)))) _ _ hG hS ls (lv_sub hl [2, 1, 0] rfl)
