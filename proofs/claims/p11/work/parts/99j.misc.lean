set_option maxHeartbeats 4000000 in
set_option maxRecDepth 100000 in
theorem c_H_code (l : Launch) (D : va_G) (cy : Nat → ClassId) (A : Nat → Prop) (X : State → Prop) (hst : mk_St A X) (hXT : ∀ U : State, X U → TB U) (e0 : Nat) (tk : Nat → Nat) (hXE : ∀ U : State, X U → ES e0 tk A U) (mi : Nat) (hXL : ∀ U : State, X U → EL e0 mi A U) (ax adK adV : Nat → Nat) (hXX : ∀ U : State, X U → TX ax adK adV tk A U) (G : Nat → Option va_E) (G0 : Nat → Option va_E) (Bx : Nat → Prop) (v : EdV) (z : PtV) (LA EA : Nat → Nat) (AD : Nat → Nat → Nat) (PI : Nat → Nat) (ed na : Nat) (mm9 cap : Nat) (nv : Nat → Int64) (ui : Option Nat) (w9 : Int32 × Option Nat) (o tx rd to se kp : Nat) (rg : Option Nat) (tl kc : Int32) (iv : Int32) (h0 : G o = some (.inr (14, [.ref tx, .ref rd, .ref to, .ref se, .ref kp, .int tl, .int kc, .ref ed, va_rf rg]))) (hP : EDP cy e0 tk G0 Bx G v z LA EA AD PI) (hZ : ZF v AD z) (hed : G ed = some (.inr (3, [.ref (LA 0), .ref (LA 1), .ref (LA 2), .ref (LA 3), .ref (LA 4), .ref (LA 5), .ref na, .int (nI mm9), va_rf (ui.map (AD 1)), .int w9.1, va_rf (w9.2.map (AD 1))]))) (hna : G na = some (.inl (cy 2, cap, .inr (.inl nv)))) (hmc : mm9 ≤ cap) (hcap : cap ≤ 2048) (hui : ∀ k, ui = some k → k < v.nL) : Met l yX13_code [.code yX13_code cX13_code 3 (some .int)] ({ frames := 4, cells := 0, slots := 0, locals := 120 }) (mk_Pre D vwCl (tyL cy) A X G [.ref o, .int iv]) (va_Qi (fun (r : Int32) (G2 : Nat → Option va_E) => r = (match fnE v iv with | none => 0 | some j => nof (fun i => decide (nv i = (v.E j).2.2.1)) mm9) ∧ G2 = G) (mk_B D vwCl A) A) 0 0 A := by
  refine Met.ofW (cc := cX13_code) (maxL := 3) (ret := (some .int)) (by decide) rfl ?_
  intro p e s m args below meth c s₁ B hml hv
  obtain ⟨rfl, hG, hK, hA, hX⟩ := hv
  have hx := B.exec
  have hb := B.bytes
  have hr := B.returns
  have hlocks := B.notSynchronized
  have hT := hXT s hX
  have hown : s.vm.findClass RX13 = some m.cls := findClass_of_methodNamed B.named
  have hf_X13 : ∀ w ∈ u_ws RX13 TX13 9, w.before ([.ref o, .int iv] : List Value).toArray s = true := tb_list hT fX13
  have hf_X2 : ∀ w ∈ u_ws RX2 TX2 11, w.before ([.ref o, .int iv] : List Value).toArray s = true := tb_list hT fX2
  have hf_X3 : ∀ w ∈ u_ws RX3 TX3 5, w.before ([.ref o, .int iv] : List Value).toArray s = true := tb_list hT fX3
  have hS : va_S A s.heap s.heap [] := va_S.rf
  have hE := hXE s hX
  have hl := lv_entry ([.ref o, .int iv]) (n := 3) (Nat.le_of_ble_eq_true rfl)
  rw [lg_entry_eq]
  generalize (lg_sl ([.ref o, .int iv]) ++ List.replicate (3 - (lg_sl ([.ref o, .int iv])).length) Slot.unset).toArray = ls at hl ⊢
  have hl : lv_has ls 3 [(0, .ref o), (1, .int iv)] := hl
  have hQ := hXX s hX
  refine lv_aload_n hx hb dX13_code_0 rfl (lv_at hl 0 rfl) ?_
  refine mm_get (v := .ref ed) hx hb hf_X13 (fun _ h9 => h9) hown hK hG h0 rfl 7 (by decide) (tb_use hT tw_218) (fun _ h9 => h9) rfl dX13_code_1 ?_
  refine lv_ifnonnull (tgt := 9) hx hb dX13_code_4 (by decide) ?_
  refine lv_aload_n hx hb dX13_code_9 rfl (lv_at hl 0 rfl) ?_
  refine mm_get (v := .ref ed) hx hb hf_X13 (fun _ h9 => h9) hown hK hG h0 rfl 7 (by decide) (tb_use hT tw_218) (fun _ h9 => h9) rfl dX13_code_10 ?_
  refine mm_getN (v := .ref (LA 3)) hx hb hf_X2 (fun _ h9 => h9) hown hK hG hed rfl 3 (by decide) (tb_use hT tw_288) (fun _ h9 => h9) rfl dX13_code_13 ?_
  refine lv_iload_n hx hb dX13_code_16 rfl (lv_at hl 1 rfl) ?_
  obtain ⟨x21, ex21⟩ : ∃ y, y = (iv : Int32).toInt64 := ⟨_, rfl⟩
  refine lv_i2l (v := x21) hx hb dX13_code_17 ex21.symm ?_
  refine va_callq (va_runS (As := [.ref (LA 3), .long x21]) (rest := []) ⟨hx, hb, hml, hown, (fun _ h9 => absurd h9 List.not_mem_nil : ∀ w ∈ ([] : List Cond), w.before _ s = true)⟩ (c_X13_firstWithNumber l D cy A X hst hXT e0 tk hXE mi hXL G (LA 3) (EA 3) v.nE (AD 3) (fun j => enF (v.E j) none) (fun j => (v.E j).1) x21 (hP.lsE) (by have := (hP.lsE).le; omega) (fun j hj => ⟨(hP.nmE j hj).1, (hP.nmE j hj).2.1⟩)) (tb_cs 2 hT tw_1030 tw_105 tw_1309 tw_1029 rfl rfl hq_X13_firstWithNumber ⟨Nat.le_of_ble_eq_true rfl, Nat.le_of_ble_eq_true rfl⟩) (mk_preS hst hG hK hA hX hS) rfl rfl hl.1 rfl (lv_room (Nat.le_of_ble_eq_true rfl)) dX13_code_18 ⟨Nat.le_of_ble_eq_true rfl, Nat.le_of_ble_eq_true rfl⟩) hS (fun q _ h => h) (fun q h => h) (fun r22 G23 t H locs ht hvm hw hB hz1 hk1 hS => ?_)
  have hG : mm D vwCl A G23 H := by rw [← ht]; exact hB
  clear hB hz1 hk1 hvm ht
  obtain ⟨er22, hw⟩ := hw
  rw [hw] at hG
  rw [ex21] at er22
  have fr22 : r22 = (fnE v iv).map (AD 3) := er22
  rw [fr22]
  obtain ⟨y_hf24, hf24⟩ : ∃ y, fnE v iv = y := ⟨_, rfl⟩
  cases y_hf24 with
  | none =>
    refine W.eq (g2 := F0 m 21 ls [.null]) (by first | rfl | (rw [hf24]; rfl)) ?_
    refine lv_astore_nN (lv' := [(2, .null), (0, .ref o), (1, .int iv)]) hx hb dX13_code_21 rfl hl (by decide) rfl (fun ls hl => ?_)
    refine lv_aload_nN hx hb dX13_code_22 rfl (lv_at hl 0 rfl) ?_
    refine lv_ifnonnullN hx hb dX13_code_23 ?_
    refine lv_iconst (v := 0) hx hb dX13_code_26 (by decide) ?_
    refine lv_goto (tgt := 41) hx hb dX13_code_27 (by decide) ?_
    exact W.iret (v := 0) hx hb hr (fun t ht hW => ⟨⟨_, _, rfl, ⟨(by rw [hf24]), rfl⟩, mk_end hG ht⟩, hS.F ht⟩) hS.2.2 dX13_code_41
  | some j25 =>
    have hj26 := fnE_lt hf24
    refine W.eq (g2 := F0 m 21 ls [.ref (AD 3 j25)]) (by first | rfl | (rw [hf24]; rfl)) ?_
    refine lv_astore_n (lv' := [(2, .ref (AD 3 j25)), (0, .ref o), (1, .int iv)]) hx hb dX13_code_21 rfl hl (by decide) rfl (fun ls hl => ?_)
    refine lv_aload_n hx hb dX13_code_22 rfl (lv_at hl 0 rfl) ?_
    refine lv_ifnonnull (tgt := 30) hx hb dX13_code_23 (by decide) ?_
    refine lv_aload_n hx hb dX13_code_30 rfl (lv_at hl 1 rfl) ?_
    refine mm_get (v := .ref ed) hx hb hf_X13 (fun _ h9 => h9) hown hK hG h0 rfl 7 (by decide) (tb_use hT tw_218) (fun _ h9 => h9) rfl dX13_code_31 ?_
    refine lv_aload_n hx hb dX13_code_34 rfl (lv_at hl 0 rfl) ?_
    have k27 : G (AD 3 j25) = some (.inr (4, [.int ((v.E j25).1), .int ((v.E j25).2.1), .long ((v.E j25).2.2.1), .int ((v.E j25).2.2.2), .null])) := hP.elE hj26
    refine mm_getN (v := .long ((v.E j25).2.2.1)) hx hb hf_X3 (fun _ h9 => h9) hown hK hG k27 rfl 2 (by decide) (tb_use hT tw_567) (fun _ h9 => h9) rfl dX13_code_35 ?_
    refine va_calli (va_runV (As := [.long ((v.E j25).2.2.1)]) (rest := []) ⟨hx, hb, hml, hown, (fun _ h9 => absurd h9 List.not_mem_nil : ∀ w ∈ ([] : List Cond), w.before _ s = true)⟩ (c_X2_numberOf l D cy A X hst hXT e0 tk hXE mi hXL G ed (LA 0) (LA 1) (LA 2) (LA 3) (LA 4) (LA 5) na w9.1 (ui.map (AD 1)) (w9.2.map (AD 1)) mm9 cap nv ((v.E j25).2.2.1) hed hna hmc (by omega)) (tb_cw (C := RX2) 1 hT tw_980 tw_110 tw_1092 tw_978 tw_979 rfl rfl hq_X2_numberOf ⟨Nat.le_of_ble_eq_true rfl, Nat.le_of_ble_eq_true rfl⟩) (mk_preC hst hG hK hA hX hS vc_3 hed) rfl rfl hl.1 rfl (lv_room (Nat.le_of_ble_eq_true rfl)) dX13_code_38 ⟨Nat.le_of_ble_eq_true rfl, Nat.le_of_ble_eq_true rfl⟩) hS (fun q _ h => h) (fun q h => h) (fun r28 G29 t H locs ht hvm hw hB hz1 hk1 hS => ?_)
    have hG : mm D vwCl A G29 H := by rw [← ht]; exact hB
    clear hB hz1 hk1 hvm ht
    obtain ⟨er28, hw⟩ := hw
    rw [hw] at hG
    exact W.iret (v := r28) hx hb hr (fun t ht hW => ⟨⟨_, _, rfl, ⟨(by rw [hf24, er28]), rfl⟩, mk_end hG ht⟩, hS.F ht⟩) hS.2.2 dX13_code_41

set_option maxHeartbeats 4000000 in
set_option maxRecDepth 100000 in
theorem c_H_isVariant (l : Launch) (D : va_G) (cy : Nat → ClassId) (A : Nat → Prop) (X : State → Prop) (hst : mk_St A X) (hXT : ∀ U : State, X U → TB U) (e0 : Nat) (tk : Nat → Nat) (hXE : ∀ U : State, X U → ES e0 tk A U) (mi : Nat) (hXL : ∀ U : State, X U → EL e0 mi A U) (ax adK adV : Nat → Nat) (hXX : ∀ U : State, X U → TX ax adK adV tk A U) (G : Nat → Option va_E) (G0 : Nat → Option va_E) (Bx : Nat → Prop) (v : EdV) (z : PtV) (LA EA : Nat → Nat) (AD : Nat → Nat → Nat) (PI : Nat → Nat) (ed na : Nat) (mm9 cap : Nat) (nv : Nat → Int64) (ui : Option Nat) (w9 : Int32 × Option Nat) (k9 : Nat) (hP : EDP cy e0 tk G0 Bx G v z LA EA AD PI) (hZ : ZF v AD z) (hed : G ed = some (.inr (3, [.ref (LA 0), .ref (LA 1), .ref (LA 2), .ref (LA 3), .ref (LA 4), .ref (LA 5), .ref na, .int (nI mm9), va_rf (ui.map (AD 1)), .int w9.1, va_rf (w9.2.map (AD 1))]))) (hna : G na = some (.inl (cy 2, cap, .inr (.inl nv)))) (hmc : mm9 ≤ cap) (hcap : cap ≤ 2048) (hui : ∀ k, ui = some k → k < v.nL) (hk9 : k9 < v.nL) : Met l yX2_isVariant [.code yX2_isVariant cX2_isVariant 3 (some .boolean)] ({ frames := 3, cells := 0, slots := 0, locals := 90 }) (mk_Pre D vwCl (tyL cy) A X G [.ref ed, .ref (AD 1 k9)]) (va_Qi (fun (r : Int32) (G2 : Nat → Option va_E) => r = b2i (isV v k9 v.nV 0) ∧ G2 = G) (mk_B D vwCl A) A) 0 0 A := by
  refine Met.ofW (cc := cX2_isVariant) (maxL := 3) (ret := (some .boolean)) (by decide) rfl ?_
  intro p e s m args below meth c s₁ B hml hv
  obtain ⟨rfl, hG, hK, hA, hX⟩ := hv
  have hx := B.exec
  have hb := B.bytes
  have hr := B.returns
  have hlocks := B.notSynchronized
  have hT := hXT s hX
  have hown : s.vm.findClass RX2 = some m.cls := findClass_of_methodNamed B.named
  have hf_X2 : ∀ w ∈ u_ws RX2 TX2 11, w.before ([.ref ed, .ref (AD 1 k9)] : List Value).toArray s = true := tb_list hT fX2
  have hf_X3 : ∀ w ∈ u_ws RX3 TX3 5, w.before ([.ref ed, .ref (AD 1 k9)] : List Value).toArray s = true := tb_list hT fX3
  have hS : va_S A s.heap s.heap [] := va_S.rf
  have hE := hXE s hX
  have hl := lv_entry ([.ref ed, .ref (AD 1 k9)]) (n := 3) (Nat.le_of_ble_eq_true rfl)
  rw [lg_entry_eq]
  generalize (lg_sl ([.ref ed, .ref (AD 1 k9)]) ++ List.replicate (3 - (lg_sl ([.ref ed, .ref (AD 1 k9)])).length) Slot.unset).toArray = ls at hl ⊢
  have hl : lv_has ls 3 [(0, .ref ed), (1, .ref (AD 1 k9))] := hl
  have hQ := hXX s hX
  obtain ⟨RF, hR⟩ : ∃ y, isV v k9 v.nV 0 = y := ⟨_, rfl⟩
  have hloop : ∀ (n : Nat) (j9 : Nat), (n + j9 = v.nV) → (isV v k9 n j9 = RF) → ∀ (Gv : Nat → Option va_E), (Gv ed = some (.inr (3, [.ref (LA 0), .ref (LA 1), .ref (LA 2), .ref (LA 3), .ref (LA 4), .ref (LA 5), .ref na, .int (nI mm9), va_rf (ui.map (AD 1)), .int w9.1, va_rf (w9.2.map (AD 1))]))) → (Gv na = some (.inl (cy 2, cap, .inr (.inl nv)))) → (Gv = G) → ∀ (H : Heap) (locs : List Loc), mm D vwCl A Gv H → va_S A s.heap H locs → ∀ ls : Array Slot, lv_has ls 3 [(0, .ref ed), (1, .ref (AD 1 k9)), (2, .int (nI j9))] → W p l e (headSpec [.code yX2_isVariant cX2_isVariant 3 (some .boolean)] ({ frames := 3, cells := 0, slots := 0, locals := 90 })).room s m ([.ref ed, .ref (AD 1 k9)] : List Value).toArray below meth c H locs 0 0 (MQ below (va_Qi (fun (r : Int32) (G2 : Nat → Option va_E) => r = b2i (isV v k9 v.nV 0) ∧ G2 = G) (mk_B D vwCl A) A) ([.ref ed, .ref (AD 1 k9)] : List Value).toArray s 0 0 A) (F0 m 2 ls []) := by
    intro n
    induction n with
    | zero =>
      intro j9 hjn hq Gv v_ed v_na hGv H locs hG hS ls hl
      have hG9 := hG
      have hS9 := hS
      have hl9 := hl
      subst hGv
      have hG := hG9
      have hS := hS9
      have hl := hl9
      have hbb := hP.b
      refine lv_iload_n hx hb dX2_isVariant_2 rfl (lv_at hl 2 rfl) ?_
      refine lv_aload_n hx hb dX2_isVariant_3 rfl (lv_at hl 0 rfl) ?_
      refine mm_get (v := .ref (LA 4)) hx hb hf_X2 (fun _ h9 => h9) hown hK hG v_ed rfl 4 (by decide) (tb_use hT tw_289) (fun _ h9 => h9) rfl dX2_isVariant_4 ?_
      obtain ⟨mo21, h_mo21, -⟩ := id (hP.lsV)
      refine va_calli (va_runV (As := []) (rest := [.int (nI j9)]) ⟨hx, hb, hml, hown, (fun _ h9 => absurd h9 List.not_mem_nil : ∀ w ∈ ([] : List Cond), w.before _ s = true)⟩ (c_LS_size l D cy A X hst hXT e0 tk hXE mi hXL Gv (LA 4) (EA 4) v.nV (AD 4) (hP.lsV)) (tb_cw (C := RJx4a65c) 0 hT tw_457 tw_113 tw_999 tw_455 tw_456 rfl rfl hq_Jx4a65c_size_8abf5 ⟨Nat.le_of_ble_eq_true rfl, Nat.le_of_ble_eq_true rfl⟩) (mk_preC hst hG hK hA hX hS vc_1 h_mo21) rfl rfl hl.1 rfl (lv_room (Nat.le_of_ble_eq_true rfl)) dX2_isVariant_7 ⟨Nat.le_of_ble_eq_true rfl, Nat.le_of_ble_eq_true rfl⟩) hS (fun q _ h => h) (fun q h => h) (fun r22 G23 t H locs ht hvm hw hB hz1 hk1 hS => ?_)
      have hG : mm D vwCl A G23 H := by rw [← ht]; exact hB
      clear hB hz1 hk1 hvm ht
      obtain ⟨rfl, hw⟩ := hw
      rw [hw] at hG
      refine lv_icmp_ge (tgt := 39) hx hb dX2_isVariant_10 (by decide) (fun c_10 => ?_) (fun c_10 => ?_)
      · skip
        refine lv_iconst (v := 0) hx hb dX2_isVariant_39 (by decide) ?_
        exact W.zret (v := 0) hx hb hr rfl (fun t ht hW => ⟨⟨_, _, rfl, ⟨(by rw [hR, ← hq]; rfl), rfl⟩, mk_end hG ht⟩, hS.F ht⟩) hS.2.2 dX2_isVariant_40
      · skip
        exact absurd (by rw [show j9 = v.nV by omega]; exact Int32.le_refl _) c_10
    | succ n ih =>
      intro j9 hjn hq Gv v_ed v_na hGv H locs hG hS ls hl
      have hG9 := hG
      have hS9 := hS
      have hl9 := hl
      subst hGv
      have hG := hG9
      have hS := hS9
      have hl := hl9
      have hbb := hP.b
      refine lv_iload_n hx hb dX2_isVariant_2 rfl (lv_at hl 2 rfl) ?_
      refine lv_aload_n hx hb dX2_isVariant_3 rfl (lv_at hl 0 rfl) ?_
      refine mm_get (v := .ref (LA 4)) hx hb hf_X2 (fun _ h9 => h9) hown hK hG v_ed rfl 4 (by decide) (tb_use hT tw_289) (fun _ h9 => h9) rfl dX2_isVariant_4 ?_
      obtain ⟨mo24, h_mo24, -⟩ := id (hP.lsV)
      refine va_calli (va_runV (As := []) (rest := [.int (nI j9)]) ⟨hx, hb, hml, hown, (fun _ h9 => absurd h9 List.not_mem_nil : ∀ w ∈ ([] : List Cond), w.before _ s = true)⟩ (c_LS_size l D cy A X hst hXT e0 tk hXE mi hXL Gv (LA 4) (EA 4) v.nV (AD 4) (hP.lsV)) (tb_cw (C := RJx4a65c) 0 hT tw_457 tw_113 tw_999 tw_455 tw_456 rfl rfl hq_Jx4a65c_size_8abf5 ⟨Nat.le_of_ble_eq_true rfl, Nat.le_of_ble_eq_true rfl⟩) (mk_preC hst hG hK hA hX hS vc_1 h_mo24) rfl rfl hl.1 rfl (lv_room (Nat.le_of_ble_eq_true rfl)) dX2_isVariant_7 ⟨Nat.le_of_ble_eq_true rfl, Nat.le_of_ble_eq_true rfl⟩) hS (fun q _ h => h) (fun q h => h) (fun r25 G26 t H locs ht hvm hw hB hz1 hk1 hS => ?_)
      have hG : mm D vwCl A G26 H := by rw [← ht]; exact hB
      clear hB hz1 hk1 hvm ht
      obtain ⟨rfl, hw⟩ := hw
      rw [hw] at hG
      refine lv_icmp_ge (tgt := 39) hx hb dX2_isVariant_10 (by decide) (fun c_10 => ?_) (fun c_10 => ?_)
      · skip
        exact absurd c_10 (nI_ge (by omega) (by omega))
      · skip
        refine lv_aload_n hx hb dX2_isVariant_13 rfl (lv_at hl 0 rfl) ?_
        refine mm_get (v := .ref (LA 4)) hx hb hf_X2 (fun _ h9 => h9) hown hK hG v_ed rfl 4 (by decide) (tb_use hT tw_289) (fun _ h9 => h9) rfl dX2_isVariant_14 ?_
        refine lv_iload_n hx hb dX2_isVariant_17 rfl (lv_at hl 2 rfl) ?_
        have hj27 : j9 < v.nV := by omega
        obtain ⟨mo28, h_mo28, -⟩ := id (hP.lsV)
        refine va_callq (va_runV (As := [.int (nI j9)]) (rest := []) ⟨hx, hb, hml, hown, (fun _ h9 => absurd h9 List.not_mem_nil : ∀ w ∈ ([] : List Cond), w.before _ s = true)⟩ (c_LS_get l D cy A X hst hXT e0 tk hXE mi hXL Gv (LA 4) (EA 4) v.nV (AD 4) j9 (hP.lsV) hj27) (tb_cw (C := RJx4a65c) 1 hT tw_942 tw_113 tw_1000 tw_940 tw_941 rfl rfl hq_Jx4a65c_get_915e3 ⟨Nat.le_of_ble_eq_true rfl, Nat.le_of_ble_eq_true rfl⟩) (mk_preC hst hG hK hA hX hS vc_1 h_mo28) rfl rfl hl.1 rfl (lv_room (Nat.le_of_ble_eq_true rfl)) dX2_isVariant_18 ⟨Nat.le_of_ble_eq_true rfl, Nat.le_of_ble_eq_true rfl⟩) hS (fun q _ h => h) (fun q h => h) (fun r29 G30 t H locs ht hvm hw hB hz1 hk1 hS => ?_)
        have hG : mm D vwCl A G30 H := by rw [← ht]; exact hB
        clear hB hz1 hk1 hvm ht
        obtain ⟨rfl, hw⟩ := hw
        rw [hw] at hG
        refine W.eq (g2 := F0 m 21 ls [.ref (AD 4 j9)]) rfl ?_
        have k31 : Gv (AD 4 j9) = some (.inr (4, [.int ((v.V j9).1), .int ((v.V j9).2.1), .long ((v.V j9).2.2.1), .int ((v.V j9).2.2.2), va_rf ((lyN v (v.V j9).2.2.1).map (AD 1))])) := by rw [← hZ.2.1 j9 hj27]; exact hP.elV hj27
        refine va_castS hx hb hown (tb_use hT tw_1027) (hK.1 4 _ rfl).2 (va_recv hK (hG.one k31) (q := (RX3, TX3, 5)) rfl (q0 := 0) rfl) dX2_isVariant_21 ?_
        refine mm_getN (v := va_rf ((lyN v (v.V j9).2.2.1).map (AD 1))) hx hb hf_X3 (fun _ h9 => h9) hown hK hG k31 rfl 4 (by decide) (tb_use hT tw_571) (fun _ h9 => h9) rfl dX2_isVariant_24 ?_
        refine lv_aload_n hx hb dX2_isVariant_27 rfl (lv_at hl 1 rfl) ?_
        refine lv_acmp_ne (rx := ((lyN v (v.V j9).2.2.1).map (AD 1))) (ry := some (AD 1 k9)) (tgt := 33) hx hb dX2_isVariant_28 (by decide) (fun c_28 => ?_) (fun c_28 => ?_)
        · skip
          obtain ⟨x32, ex32⟩ : ∃ y : Int32, y = (nI j9) + 1 := ⟨_, rfl⟩
          refine lv_iinc (v := x32) (lv' := [(2, .int x32), (0, .ref ed), (1, .ref (AD 1 k9))]) hx hb dX2_isVariant_33 hl (k := 2) rfl (by rw [ex32]; rfl) (by decide) rfl (fun ls hl => ?_)
          refine lv_goto (tgt := 2) hx hb dX2_isVariant_36 (by decide) ?_
          rw [show x32 = nI (j9 + 1) by rw [ex32]; exact (nI_succ j9).symm] at hl
          have hz9 : ¬ lyN v (v.V j9).2.2.1 = some k9 := fun z => c_28 ((map_eq (fun _ => lyN_lt) hk9 hP.inL).mpr z)
          have hq2 : isV v k9 n (j9 + 1) = RF := by rw [← hq, isV, if_neg hz9]
          exact ih (j9 + 1) (by omega) hq2 Gv v_ed v_na rfl _ _ hG hS ls (lv_sub hl [1, 2, 0] rfl)
        · skip
          refine lv_iconst (v := 1) hx hb dX2_isVariant_31 (by decide) ?_
          have hz9 : lyN v (v.V j9).2.2.1 = some k9 := (map_eq (fun _ => lyN_lt) hk9 hP.inL).mp c_28
          exact W.zret (v := 1) hx hb hr rfl (fun t ht hW => ⟨⟨_, _, rfl, ⟨(by rw [hR, ← hq, isV, if_pos hz9]; rfl), rfl⟩, mk_end hG ht⟩, hS.F ht⟩) hS.2.2 dX2_isVariant_32
  refine lv_iconst (v := 0) hx hb dX2_isVariant_0 (by decide) ?_
  refine lv_istore_n (lv' := [(2, .int 0), (0, .ref ed), (1, .ref (AD 1 k9))]) hx hb dX2_isVariant_1 rfl hl (by decide) rfl (fun ls hl => ?_)
  exact hloop v.nV 0 (by omega) hR G hed hna rfl _ _ hG hS ls (lv_sub hl [1, 2, 0] rfl)

set_option maxHeartbeats 4000000 in
set_option maxRecDepth 100000 in
theorem c_H_layerFor (l : Launch) (D : va_G) (cy : Nat → ClassId) (A : Nat → Prop) (X : State → Prop) (hst : mk_St A X) (hXT : ∀ U : State, X U → TB U) (e0 : Nat) (tk : Nat → Nat) (hXE : ∀ U : State, X U → ES e0 tk A U) (mi : Nat) (hXL : ∀ U : State, X U → EL e0 mi A U) (ax adK adV : Nat → Nat) (hXX : ∀ U : State, X U → TX ax adK adV tk A U) (G : Nat → Option va_E) (G0 : Nat → Option va_E) (Bx : Nat → Prop) (v : EdV) (z : PtV) (LA EA : Nat → Nat) (AD : Nat → Nat → Nat) (PI : Nat → Nat) (ed na : Nat) (mm9 cap : Nat) (nv : Nat → Int64) (ui : Option Nat) (w9 : Int32 × Option Nat) (iv : Int32) (hP : EDP cy e0 tk G0 Bx G v z LA EA AD PI) (hZ : ZF v AD z) (hed : G ed = some (.inr (3, [.ref (LA 0), .ref (LA 1), .ref (LA 2), .ref (LA 3), .ref (LA 4), .ref (LA 5), .ref na, .int (nI mm9), va_rf (ui.map (AD 1)), .int w9.1, va_rf (w9.2.map (AD 1))]))) (hna : G na = some (.inl (cy 2, cap, .inr (.inl nv)))) (hmc : mm9 ≤ cap) (hcap : cap ≤ 2048) (hui : ∀ k, ui = some k → k < v.nL) : Met l yX2_layerFor [.code yX2_layerFor cX2_layerFor 5 (some (.object "DescribeText$Layer"))] ({ frames := 4, cells := 0, slots := 0, locals := 120 }) (mk_Pre D vwCl (tyL cy) A X G [.ref ed, .int iv]) (va_Qq (fun (r : Option Nat) (G2 : Nat → Option va_E) => r = (lyA v iv).map (AD 1) ∧ G2 = G) (mk_B D vwCl A) A) 0 0 A := by
  refine Met.ofW (cc := cX2_layerFor) (maxL := 5) (ret := (some (.object "DescribeText$Layer"))) (by decide) rfl ?_
  intro p e s m args below meth c s₁ B hml hv
  obtain ⟨rfl, hG, hK, hA, hX⟩ := hv
  have hx := B.exec
  have hb := B.bytes
  have hr := B.returns
  have hlocks := B.notSynchronized
  have hT := hXT s hX
  have hown : s.vm.findClass RX2 = some m.cls := findClass_of_methodNamed B.named
  have hf_X2 : ∀ w ∈ u_ws RX2 TX2 11, w.before ([.ref ed, .int iv] : List Value).toArray s = true := tb_list hT fX2
  have hf_X3 : ∀ w ∈ u_ws RX3 TX3 5, w.before ([.ref ed, .int iv] : List Value).toArray s = true := tb_list hT fX3
  have hS : va_S A s.heap s.heap [] := va_S.rf
  have hE := hXE s hX
  have hl := lv_entry ([.ref ed, .int iv]) (n := 5) (Nat.le_of_ble_eq_true rfl)
  rw [lg_entry_eq]
  generalize (lg_sl ([.ref ed, .int iv]) ++ List.replicate (5 - (lg_sl ([.ref ed, .int iv])).length) Slot.unset).toArray = ls at hl ⊢
  have hl : lv_has ls 5 [(0, .ref ed), (1, .int iv)] := hl
  have hQ := hXX s hX
  obtain ⟨RF, hR⟩ : ∃ y, lyF v v.nL 0 = y := ⟨_, rfl⟩
  have hloop : ∀ (n : Nat) (j9 : Nat), (n + j9 = v.nL) → (lyF v n j9 = RF) → (fnV v iv = none) → ∀ (Gv : Nat → Option va_E), (Gv ed = some (.inr (3, [.ref (LA 0), .ref (LA 1), .ref (LA 2), .ref (LA 3), .ref (LA 4), .ref (LA 5), .ref na, .int (nI mm9), va_rf (ui.map (AD 1)), .int w9.1, va_rf (w9.2.map (AD 1))]))) → (Gv na = some (.inl (cy 2, cap, .inr (.inl nv)))) → (Gv = G) → ∀ (H : Heap) (locs : List Loc), mm D vwCl A Gv H → va_S A s.heap H locs → ∀ ls : Array Slot, lv_has ls 5 [(0, .ref ed), (1, .int iv), (3, .int (nI j9))] → W p l e (headSpec [.code yX2_layerFor cX2_layerFor 5 (some (.object "DescribeText$Layer"))] ({ frames := 4, cells := 0, slots := 0, locals := 120 })).room s m ([.ref ed, .int iv] : List Value).toArray below meth c H locs 0 0 (MQ below (va_Qq (fun (r : Option Nat) (G2 : Nat → Option va_E) => r = (lyA v iv).map (AD 1) ∧ G2 = G) (mk_B D vwCl A) A) ([.ref ed, .int iv] : List Value).toArray s 0 0 A) (F0 m 21 ls []) := by
    intro n
    induction n with
    | zero =>
      intro j9 hjn hq hfv9 Gv v_ed v_na hGv H locs hG hS ls hl
      have hG9 := hG
      have hS9 := hS
      have hl9 := hl
      subst hGv
      have hG := hG9
      have hS := hS9
      have hl := hl9
      have hbb := hP.b
      refine lv_iload_n hx hb dX2_layerFor_21 rfl (lv_at hl 2 rfl) ?_
      refine lv_aload_n hx hb dX2_layerFor_22 rfl (lv_at hl 0 rfl) ?_
      refine mm_get (v := .ref (LA 1)) hx hb hf_X2 (fun _ h9 => h9) hown hK hG v_ed rfl 1 (by decide) (tb_use hT tw_280) (fun _ h9 => h9) rfl dX2_layerFor_23 ?_
      obtain ⟨mo21, h_mo21, -⟩ := id (hP.lsL)
      refine va_calli (va_runV (As := []) (rest := [.int (nI j9)]) ⟨hx, hb, hml, hown, (fun _ h9 => absurd h9 List.not_mem_nil : ∀ w ∈ ([] : List Cond), w.before _ s = true)⟩ (c_LS_size l D cy A X hst hXT e0 tk hXE mi hXL Gv (LA 1) (EA 1) v.nL (AD 1) (hP.lsL)) (tb_cw (C := RJx4a65c) 0 hT tw_457 tw_113 tw_999 tw_455 tw_456 rfl rfl hq_Jx4a65c_size_8abf5 ⟨Nat.le_of_ble_eq_true rfl, Nat.le_of_ble_eq_true rfl⟩) (mk_preC hst hG hK hA hX hS vc_1 h_mo21) rfl rfl hl.1 rfl (lv_room (Nat.le_of_ble_eq_true rfl)) dX2_layerFor_26 ⟨Nat.le_of_ble_eq_true rfl, Nat.le_of_ble_eq_true rfl⟩) hS (fun q _ h => h) (fun q h => h) (fun r22 G23 t H locs ht hvm hw hB hz1 hk1 hS => ?_)
      have hG : mm D vwCl A G23 H := by rw [← ht]; exact hB
      clear hB hz1 hk1 hvm ht
      obtain ⟨rfl, hw⟩ := hw
      rw [hw] at hG
      refine lv_icmp_ge (tgt := 63) hx hb dX2_layerFor_29 (by decide) (fun c_29 => ?_) (fun c_29 => ?_)
      · skip
        refine lv_null hx hb dX2_layerFor_63 ?_
        exact W.aret (v := .null) hx hb hr (Or.inl ⟨_, rfl⟩) (Or.inl rfl) (fun t ht hW => ⟨⟨(none : Option Nat), _, rfl, ⟨(by rw [lyA, hfv9]; simp only []; rw [hR, ← hq]; rfl), rfl⟩, mk_end hG ht⟩, hS.F ht⟩) hS.2.2 dX2_layerFor_64
      · skip
        exact absurd (by rw [show j9 = v.nL by omega]; exact Int32.le_refl _) c_29
    | succ n ih =>
      intro j9 hjn hq hfv9 Gv v_ed v_na hGv H locs hG hS ls hl
      have hG9 := hG
      have hS9 := hS
      have hl9 := hl
      subst hGv
      have hG := hG9
      have hS := hS9
      have hl := hl9
      have hbb := hP.b
      refine lv_iload_n hx hb dX2_layerFor_21 rfl (lv_at hl 2 rfl) ?_
      refine lv_aload_n hx hb dX2_layerFor_22 rfl (lv_at hl 0 rfl) ?_
      refine mm_get (v := .ref (LA 1)) hx hb hf_X2 (fun _ h9 => h9) hown hK hG v_ed rfl 1 (by decide) (tb_use hT tw_280) (fun _ h9 => h9) rfl dX2_layerFor_23 ?_
      obtain ⟨mo24, h_mo24, -⟩ := id (hP.lsL)
      refine va_calli (va_runV (As := []) (rest := [.int (nI j9)]) ⟨hx, hb, hml, hown, (fun _ h9 => absurd h9 List.not_mem_nil : ∀ w ∈ ([] : List Cond), w.before _ s = true)⟩ (c_LS_size l D cy A X hst hXT e0 tk hXE mi hXL Gv (LA 1) (EA 1) v.nL (AD 1) (hP.lsL)) (tb_cw (C := RJx4a65c) 0 hT tw_457 tw_113 tw_999 tw_455 tw_456 rfl rfl hq_Jx4a65c_size_8abf5 ⟨Nat.le_of_ble_eq_true rfl, Nat.le_of_ble_eq_true rfl⟩) (mk_preC hst hG hK hA hX hS vc_1 h_mo24) rfl rfl hl.1 rfl (lv_room (Nat.le_of_ble_eq_true rfl)) dX2_layerFor_26 ⟨Nat.le_of_ble_eq_true rfl, Nat.le_of_ble_eq_true rfl⟩) hS (fun q _ h => h) (fun q h => h) (fun r25 G26 t H locs ht hvm hw hB hz1 hk1 hS => ?_)
      have hG : mm D vwCl A G26 H := by rw [← ht]; exact hB
      clear hB hz1 hk1 hvm ht
      obtain ⟨rfl, hw⟩ := hw
      rw [hw] at hG
      refine lv_icmp_ge (tgt := 63) hx hb dX2_layerFor_29 (by decide) (fun c_29 => ?_) (fun c_29 => ?_)
      · skip
        exact absurd c_29 (nI_ge (by omega) (by omega))
      · skip
        refine lv_aload_n hx hb dX2_layerFor_32 rfl (lv_at hl 0 rfl) ?_
        refine mm_get (v := .ref (LA 1)) hx hb hf_X2 (fun _ h9 => h9) hown hK hG v_ed rfl 1 (by decide) (tb_use hT tw_280) (fun _ h9 => h9) rfl dX2_layerFor_33 ?_
        refine lv_iload_n hx hb dX2_layerFor_36 rfl (lv_at hl 2 rfl) ?_
        have hj27 : j9 < v.nL := by omega
        obtain ⟨mo28, h_mo28, -⟩ := id (hP.lsL)
        refine va_callq (va_runV (As := [.int (nI j9)]) (rest := []) ⟨hx, hb, hml, hown, (fun _ h9 => absurd h9 List.not_mem_nil : ∀ w ∈ ([] : List Cond), w.before _ s = true)⟩ (c_LS_get l D cy A X hst hXT e0 tk hXE mi hXL Gv (LA 1) (EA 1) v.nL (AD 1) j9 (hP.lsL) hj27) (tb_cw (C := RJx4a65c) 1 hT tw_942 tw_113 tw_1000 tw_940 tw_941 rfl rfl hq_Jx4a65c_get_915e3 ⟨Nat.le_of_ble_eq_true rfl, Nat.le_of_ble_eq_true rfl⟩) (mk_preC hst hG hK hA hX hS vc_1 h_mo28) rfl rfl hl.1 rfl (lv_room (Nat.le_of_ble_eq_true rfl)) dX2_layerFor_37 ⟨Nat.le_of_ble_eq_true rfl, Nat.le_of_ble_eq_true rfl⟩) hS (fun q _ h => h) (fun q h => h) (fun r29 G30 t H locs ht hvm hw hB hz1 hk1 hS => ?_)
        have hG : mm D vwCl A G30 H := by rw [← ht]; exact hB
        clear hB hz1 hk1 hvm ht
        obtain ⟨rfl, hw⟩ := hw
        rw [hw] at hG
        refine W.eq (g2 := F0 m 40 ls [.ref (AD 1 j9)]) rfl ?_
        have k31 : Gv (AD 1 j9) = some (.inr (6, [.int (nI (j9 + 1)), .int ((v.L j9).1), .long ((v.L j9).2.1), .long ((v.L j9).2.2.1), .int ((v.L j9).2.2.2), va_rf ((nx v j9).map (AD 1))])) := by rw [← hZ.1 j9 hj27]; exact hP.elL hj27
        refine va_castS hx hb hown (tb_use hT tw_1001) (hK.1 6 _ rfl).2 (va_recv hK (hG.one k31) (q := (RX5, TX5, 6)) rfl (q0 := 0) rfl) dX2_layerFor_40 ?_
        refine lv_astore (lv' := [(4, .ref (AD 1 j9)), (0, .ref ed), (1, .int iv), (3, .int (nI j9))]) hx hb dX2_layerFor_43 hl (by decide) rfl (fun ls hl => ?_)
        refine lv_aload_n hx hb dX2_layerFor_45 rfl (lv_at hl 1 rfl) ?_
        refine lv_aload hx hb dX2_layerFor_46 (lv_at hl 0 rfl) ?_
        refine va_calli (va_runV (As := [.ref (AD 1 j9)]) (rest := []) ⟨hx, hb, hml, hown, (fun _ h9 => absurd h9 List.not_mem_nil : ∀ w ∈ ([] : List Cond), w.before _ s = true)⟩ (c_H_isVariant l D cy A X hst hXT e0 tk hXE mi hXL ax adK adV hXX Gv G0 Bx v z LA EA AD PI ed na mm9 cap nv ui w9 j9 hP hZ v_ed v_na hmc hcap hui (by omega)) (tb_cw (C := RX2) 1 hT tw_1221 tw_110 tw_1218 tw_1220 tw_52 rfl rfl hq_X2_isVariant ⟨Nat.le_of_ble_eq_true rfl, Nat.le_of_ble_eq_true rfl⟩) (mk_preC hst hG hK hA hX hS vc_3 v_ed) rfl rfl hl.1 rfl (lv_room (Nat.le_of_ble_eq_true rfl)) dX2_layerFor_48 ⟨Nat.le_of_ble_eq_true rfl, Nat.le_of_ble_eq_true rfl⟩) hS (fun q _ h => h) (fun q h => h) (fun r32 G33 t H locs ht hvm hw hB hz1 hk1 hS => ?_)
        have hG : mm D vwCl A G33 H := by rw [← ht]; exact hB
        clear hB hz1 hk1 hvm ht
        obtain ⟨er32, hw⟩ := hw
        rw [hw] at hG
        refine lv_if_ne (tgt := 57) hx hb dX2_layerFor_51 (by decide) (fun c_51 => ?_) (fun c_51 => ?_)
        · skip
          obtain ⟨x34, ex34⟩ : ∃ y : Int32, y = (nI j9) + 1 := ⟨_, rfl⟩
          refine lv_iinc (v := x34) (lv' := [(3, .int x34), (4, .ref (AD 1 j9)), (0, .ref ed), (1, .int iv)]) hx hb dX2_layerFor_57 hl (k := 3) rfl (by rw [ex34]; rfl) (by decide) rfl (fun ls hl => ?_)
          refine lv_goto (tgt := 21) hx hb dX2_layerFor_60 (by decide) ?_
          rw [show x34 = nI (j9 + 1) by rw [ex34]; exact (nI_succ j9).symm] at hl
          have hb9 : isV v j9 v.nV 0 = true := by have z := c_51; rw [er32] at z; revert z; cases isV v j9 v.nV 0 <;> simp [b2i]
          have hq2 : lyF v n (j9 + 1) = RF := by rw [← hq, lyF, hb9]; rfl
          exact ih (j9 + 1) (by omega) hq2 hfv9 Gv v_ed v_na rfl _ _ hG hS ls (lv_sub hl [2, 3, 0] rfl)
        · skip
          refine lv_aload hx hb dX2_layerFor_54 (lv_at hl 0 rfl) ?_
          have hb9 : isV v j9 v.nV 0 = false := by have z := c_51; rw [er32] at z; revert z; cases isV v j9 v.nV 0 <;> simp [b2i]
          exact W.aret (v := .ref (AD 1 j9)) hx hb hr (Or.inl ⟨_, rfl⟩) (Or.inr ⟨_, rfl⟩) (fun t ht hW => ⟨⟨(some (AD 1 j9)), _, rfl, ⟨(by rw [lyA, hfv9]; simp only []; rw [hR, ← hq, lyF, hb9]; rfl), rfl⟩, mk_end hG ht⟩, hS.F ht⟩) hS.2.2 dX2_layerFor_56
  refine lv_aload_n hx hb dX2_layerFor_0 rfl (lv_at hl 0 rfl) ?_
  refine mm_get (v := .ref (LA 4)) hx hb hf_X2 (fun _ h9 => h9) hown hK hG hed rfl 4 (by decide) (tb_use hT tw_289) (fun _ h9 => h9) rfl dX2_layerFor_1 ?_
  refine lv_iload_n hx hb dX2_layerFor_4 rfl (lv_at hl 1 rfl) ?_
  obtain ⟨x35, ex35⟩ : ∃ y, y = (iv : Int32).toInt64 := ⟨_, rfl⟩
  refine lv_i2l (v := x35) hx hb dX2_layerFor_5 ex35.symm ?_
  refine va_callq (va_runSN (As := [.ref (LA 4), .long x35]) (rest := []) ⟨hx, hb, hml, hown, (fun _ h9 => absurd h9 List.not_mem_nil : ∀ w ∈ ([] : List Cond), w.before _ s = true)⟩ (c_X13_firstWithNumber l D cy A X hst hXT e0 tk hXE mi hXL G (LA 4) (EA 4) v.nV (AD 4) (fun j => enF (v.V j) (z.vl j)) (fun j => (v.V j).1) x35 (hP.lsV) (by have := (hP.lsV).le; omega) (fun j hj => ⟨(hP.nmV j hj).1, (hP.nmV j hj).2.1⟩)) ⟨tb_cn (host := "DescribeText") 2 hT tw_1030 tw_105 tw_1028 rfl rfl hq_X13_firstWithNumber ⟨Nat.le_of_ble_eq_true rfl, Nat.le_of_ble_eq_true rfl⟩, (tb_use hT tw_1029), trivial⟩ (mk_preS hst hG hK hA hX hS) rfl rfl hl.1 rfl (lv_room (Nat.le_of_ble_eq_true rfl)) dX2_layerFor_6 ⟨Nat.le_of_ble_eq_true rfl, Nat.le_of_ble_eq_true rfl⟩) hS (fun q _ h => h) (fun q h => h) (fun r36 G37 t H locs ht hvm hw hB hz1 hk1 hS => ?_)
  have hG : mm D vwCl A G37 H := by rw [← ht]; exact hB
  clear hB hz1 hk1 hvm ht
  obtain ⟨er36, hw⟩ := hw
  rw [hw] at hG
  rw [ex35] at er36
  have fr36 : r36 = (fnV v iv).map (AD 4) := er36
  rw [fr36]
  obtain ⟨y_hf38, hf38⟩ : ∃ y, fnV v iv = y := ⟨_, rfl⟩
  cases y_hf38 with
  | none =>
    refine W.eq (g2 := F0 m 9 ls [.null]) (by first | rfl | (rw [hf38]; rfl)) ?_
    refine lv_astore_nN (lv' := [(2, .null), (0, .ref ed), (1, .int iv)]) hx hb dX2_layerFor_9 rfl hl (by decide) rfl (fun ls hl => ?_)
    refine lv_aload_nN hx hb dX2_layerFor_10 rfl (lv_at hl 0 rfl) ?_
    refine lv_ifnullN (tgt := 19) hx hb dX2_layerFor_11 (by decide) ?_
    refine lv_iconst (v := 0) hx hb dX2_layerFor_19 (by decide) ?_
    refine lv_istore_n (lv' := [(3, .int 0), (2, .null), (0, .ref ed), (1, .int iv)]) hx hb dX2_layerFor_20 rfl hl (by decide) rfl (fun ls hl => ?_)
    exact hloop v.nL 0 (by omega) hR hf38 G hed hna rfl _ _ hG hS ls (lv_sub hl [2, 3, 0] rfl)
  | some j39 =>
    have hj40 := fnV_lt hf38
    refine W.eq (g2 := F0 m 9 ls [.ref (AD 4 j39)]) (by first | rfl | (rw [hf38]; rfl)) ?_
    refine lv_astore_n (lv' := [(2, .ref (AD 4 j39)), (0, .ref ed), (1, .int iv)]) hx hb dX2_layerFor_9 rfl hl (by decide) rfl (fun ls hl => ?_)
    refine lv_aload_n hx hb dX2_layerFor_10 rfl (lv_at hl 0 rfl) ?_
    refine lv_ifnull hx hb dX2_layerFor_11 ?_
    refine lv_aload_n hx hb dX2_layerFor_14 rfl (lv_at hl 0 rfl) ?_
    have k41 : G (AD 4 j39) = some (.inr (4, [.int ((v.V j39).1), .int ((v.V j39).2.1), .long ((v.V j39).2.2.1), .int ((v.V j39).2.2.2), va_rf ((lyN v (v.V j39).2.2.1).map (AD 1))])) := by rw [← hZ.2.1 j39 hj40]; exact hP.elV hj40
    refine mm_getN (v := va_rf ((lyN v (v.V j39).2.2.1).map (AD 1))) hx hb hf_X3 (fun _ h9 => h9) hown hK hG k41 rfl 4 (by decide) (tb_use hT tw_571) (fun _ h9 => h9) rfl dX2_layerFor_15 ?_
    exact W.aret (v := va_rf ((lyN v (v.V j39).2.2.1).map (AD 1))) hx hb hr (Or.inl ⟨_, rfl⟩) (va_rf_or _) (fun t ht hW => ⟨⟨((lyN v (v.V j39).2.2.1).map (AD 1)), _, rfl, ⟨(by rw [lyA, hf38]), rfl⟩, mk_end hG ht⟩, hS.F ht⟩) hS.2.2 dX2_layerFor_18

theorem EDP.mono {cy : Nat → ClassId} {e0 : Nat} {tk : Nat → Nat} {G0 : Nat → Option va_E} {Bx Bx1 : Nat → Prop} {G : Nat → Option va_E} {v : EdV} {z : PtV} {LA EA : Nat → Nat} {AD : Nat → Nat → Nat} {PI : Nat → Nat} (h : EDP cy e0 tk G0 Bx G v z LA EA AD PI) (hB : ∀ x, Bx x → Bx1 x) : EDP cy e0 tk G0 Bx1 G v z LA EA AD PI :=
  h.base (fun _ h => h) (fun k hk => (h.L.fl k hk).elim Or.inl (fun z => Or.inr (hB _ z))) h.L.al (fun x e h1 nb => h.L.fr x e h1 (fun z => nb (hB x z)))
set_option maxHeartbeats 4000000 in
set_option maxRecDepth 100000 in
theorem c_H_variant (l : Launch) (D : va_G) (cy : Nat → ClassId) (A : Nat → Prop) (X : State → Prop) (hst : mk_St A X) (hXT : ∀ U : State, X U → TB U) (e0 : Nat) (tk : Nat → Nat) (hXE : ∀ U : State, X U → ES e0 tk A U) (mi : Nat) (hXL : ∀ U : State, X U → EL e0 mi A U) (ax adK adV : Nat → Nat) (hXX : ∀ U : State, X U → TX ax adK adV tk A U) (G : Nat → Option va_E) (G0 : Nat → Option va_E) (Bx : Nat → Prop) (v : EdV) (z : PtV) (LA EA : Nat → Nat) (AD : Nat → Nat → Nat) (PI : Nat → Nat) (ed na : Nat) (mm9 cap : Nat) (nv : Nat → Int64) (ui : Option Nat) (w9 : Int32 × Option Nat) (o tx rd to se kp : Nat) (rg : Option Nat) (tl kc : Int32) (iv : Int32) (h0 : G o = some (.inr (14, [.ref tx, .ref rd, .ref to, .ref se, .ref kp, .int tl, .int kc, .ref ed, va_rf rg]))) (hP : EDP cy e0 tk G0 Bx G v z LA EA AD PI) (hZ : ZF v AD z) (hed : G ed = some (.inr (3, [.ref (LA 0), .ref (LA 1), .ref (LA 2), .ref (LA 3), .ref (LA 4), .ref (LA 5), .ref na, .int (nI mm9), va_rf (ui.map (AD 1)), .int w9.1, va_rf (w9.2.map (AD 1))]))) (hna : G na = some (.inl (cy 2, cap, .inr (.inl nv)))) (hmc : mm9 ≤ cap) (hcap : cap ≤ 2048) (hui : ∀ k, ui = some k → k < v.nL) : Met l yX13_variant [.code yX13_variant cX13_variant 2 (some .int)] ({ frames := 5, cells := 0, slots := 0, locals := 150 }) (mk_Pre D vwCl (tyL cy) A X G [.ref o, .int iv]) (va_Qi (fun (r : Int32) (G2 : Nat → Option va_E) => r = nu1 (lyA v iv) ∧ G2 = mm_set G ed (.inr (3, [.ref (LA 0), .ref (LA 1), .ref (LA 2), .ref (LA 3), .ref (LA 4), .ref (LA 5), .ref na, .int (nI mm9), va_rf ((lyA v iv).map (AD 1)), .int w9.1, va_rf (w9.2.map (AD 1))]))) (mk_B D vwCl A) A) 0 0 A := by
  refine Met.ofW (cc := cX13_variant) (maxL := 2) (ret := (some .int)) (by decide) rfl ?_
  intro p e s m args below meth c s₁ B hml hv
  obtain ⟨rfl, hG, hK, hA, hX⟩ := hv
  have hx := B.exec
  have hb := B.bytes
  have hr := B.returns
  have hlocks := B.notSynchronized
  have hT := hXT s hX
  have hown : s.vm.findClass RX13 = some m.cls := findClass_of_methodNamed B.named
  have hf_X13 : ∀ w ∈ u_ws RX13 TX13 9, w.before ([.ref o, .int iv] : List Value).toArray s = true := tb_list hT fX13
  have hf_X2 : ∀ w ∈ u_ws RX2 TX2 11, w.before ([.ref o, .int iv] : List Value).toArray s = true := tb_list hT fX2
  have hf_X5 : ∀ w ∈ u_ws RX5 TX5 6, w.before ([.ref o, .int iv] : List Value).toArray s = true := tb_list hT fX5
  have hS : va_S A s.heap s.heap [] := va_S.rf
  have hE := hXE s hX
  have hl := lv_entry ([.ref o, .int iv]) (n := 2) (Nat.le_of_ble_eq_true rfl)
  rw [lg_entry_eq]
  generalize (lg_sl ([.ref o, .int iv]) ++ List.replicate (2 - (lg_sl ([.ref o, .int iv])).length) Slot.unset).toArray = ls at hl ⊢
  have hl : lv_has ls 2 [(0, .ref o), (1, .int iv)] := hl
  have hQ := hXX s hX
  refine lv_aload_n hx hb dX13_variant_0 rfl (lv_at hl 0 rfl) ?_
  refine mm_get (v := .ref ed) hx hb hf_X13 (fun _ h9 => h9) hown hK hG h0 rfl 7 (by decide) (tb_use hT tw_218) (fun _ h9 => h9) rfl dX13_variant_1 ?_
  refine lv_ifnonnull (tgt := 10) hx hb dX13_variant_4 (by decide) ?_
  refine lv_aload_n hx hb dX13_variant_10 rfl (lv_at hl 0 rfl) ?_
  refine mm_get (v := .ref ed) hx hb hf_X13 (fun _ h9 => h9) hown hK hG h0 rfl 7 (by decide) (tb_use hT tw_218) (fun _ h9 => h9) rfl dX13_variant_11 ?_
  refine lv_aload_n hx hb dX13_variant_14 rfl (lv_at hl 0 rfl) ?_
  refine mm_get (v := .ref ed) hx hb hf_X13 (fun _ h9 => h9) hown hK hG h0 rfl 7 (by decide) (tb_use hT tw_218) (fun _ h9 => h9) rfl dX13_variant_15 ?_
  refine lv_iload_n hx hb dX13_variant_18 rfl (lv_at hl 1 rfl) ?_
  refine va_callq (va_runV (As := [.int iv]) (rest := [.ref ed]) ⟨hx, hb, hml, hown, (fun _ h9 => absurd h9 List.not_mem_nil : ∀ w ∈ ([] : List Cond), w.before _ s = true)⟩ (c_H_layerFor l D cy A X hst hXT e0 tk hXE mi hXL ax adK adV hXX G G0 Bx v z LA EA AD PI ed na mm9 cap nv ui w9 iv hP hZ hed hna hmc hcap hui) (tb_cw (C := RX2) 1 hT tw_1217 tw_110 tw_1214 tw_1215 tw_1216 rfl rfl hq_X2_layerFor ⟨Nat.le_of_ble_eq_true rfl, Nat.le_of_ble_eq_true rfl⟩) (mk_preC hst hG hK hA hX hS vc_3 hed) rfl rfl hl.1 rfl (lv_room (Nat.le_of_ble_eq_true rfl)) dX13_variant_19 ⟨Nat.le_of_ble_eq_true rfl, Nat.le_of_ble_eq_true rfl⟩) hS (fun q _ h => h) (fun q h => h) (fun r21 G22 t H locs ht hvm hw hB hz1 hk1 hS => ?_)
  have hG : mm D vwCl A G22 H := by rw [← ht]; exact hB
  clear hB hz1 hk1 hvm ht
  obtain ⟨er21, hw⟩ := hw
  rw [hw] at hG
  rw [er21]
  refine mm_putN (v := va_rf ((lyA v iv).map (AD 1))) (ty := .object "DescribeText$Layer") hx hb hf_X2 (fun _ h9 => h9) tyX2 tyX2_ok nmX2 hown hK hG hS hed rfl 8 (by decide) (tb_use hT tw_296) (fun _ h9 => h9) rfl (by decide +kernel) (nar_rf _) (fits_rf _) (Nat.le_of_ble_eq_true rfl) dX13_variant_22 (fun H locs hG hS => ?_)
  obtain ⟨G23, eG23⟩ : ∃ g, g = mm_set G ed (.inr (3, [.ref (LA 0), .ref (LA 1), .ref (LA 2), .ref (LA 3), .ref (LA 4), .ref (LA 5), .ref na, .int (nI mm9), va_rf ((lyA v iv).map (AD 1)), .int w9.1, va_rf (w9.2.map (AD 1))])) := ⟨_, rfl⟩
  have hG : mm D vwCl A G23 H := by rw [eG23]; exact hG
  have k24 : G23 o = some (.inr (14, [.ref tx, .ref rd, .ref to, .ref se, .ref kp, .int tl, .int kc, .ref ed, va_rf rg])) := by rw [eG23]; exact mm_set_of h0 (mm_ne_oo h0 hed (by decide))
  have k25 : G23 ed = some (.inr (3, [.ref (LA 0), .ref (LA 1), .ref (LA 2), .ref (LA 3), .ref (LA 4), .ref (LA 5), .ref na, .int (nI mm9), va_rf ((lyA v iv).map (AD 1)), .int w9.1, va_rf (w9.2.map (AD 1))])) := by rw [eG23]; exact mm_set_self
  have k26 : G23 na = some (.inl (cy 2, cap, .inr (.inl nv))) := by rw [eG23]; exact mm_set_of hna (mm_ne_ao hna hed)
  have hP27 : EDP cy e0 tk G0 (fun x => Bx x ∨ x = ed) G23 v z LA EA AD PI := (EDP.mono hP (fun x h => Or.inl h)).mve (Or.inr rfl) hed k25 (fun x e h1 n1 => by rw [eG23]; exact mm_set_of h1 n1)
  refine lv_aload_n hx hb dX13_variant_25 rfl (lv_at hl 0 rfl) ?_
  refine mm_get (v := .ref ed) hx hb hf_X13 (fun _ h9 => h9) hown hK hG k24 rfl 7 (by decide) (tb_use hT tw_218) (fun _ h9 => h9) rfl dX13_variant_26 ?_
  refine mm_getN (v := va_rf ((lyA v iv).map (AD 1))) hx hb hf_X2 (fun _ h9 => h9) hown hK hG k25 rfl 8 (by decide) (tb_use hT tw_296) (fun _ h9 => h9) rfl dX13_variant_29 ?_
  obtain ⟨y_hf28, hf28⟩ : ∃ y, lyA v iv = y := ⟨_, rfl⟩
  cases y_hf28 with
  | none =>
    refine W.eq (g2 := F0 m 32 ls [.null]) (by first | rfl | (rw [hf28]; rfl)) ?_
    refine lv_ifnonnullN hx hb dX13_variant_32 ?_
    refine lv_iconst (v := 0) hx hb dX13_variant_35 (by decide) ?_
    refine lv_goto (tgt := 49) hx hb dX13_variant_36 (by decide) ?_
    exact W.iret (v := 0) hx hb hr (fun t ht hW => ⟨⟨_, _, rfl, ⟨(by rw [hf28]; rfl), eG23⟩, mk_end hG ht⟩, hS.F ht⟩) hS.2.2 dX13_variant_49
  | some j29 =>
    have hj30 := lyA_lt hf28
    refine W.eq (g2 := F0 m 32 ls [.ref (AD 1 j29)]) (by first | rfl | (rw [hf28]; rfl)) ?_
    refine lv_ifnonnull (tgt := 39) hx hb dX13_variant_32 (by decide) ?_
    refine lv_aload_n hx hb dX13_variant_39 rfl (lv_at hl 0 rfl) ?_
    refine mm_get (v := .ref ed) hx hb hf_X13 (fun _ h9 => h9) hown hK hG k24 rfl 7 (by decide) (tb_use hT tw_218) (fun _ h9 => h9) rfl dX13_variant_40 ?_
    refine mm_getN (v := va_rf ((lyA v iv).map (AD 1))) hx hb hf_X2 (fun _ h9 => h9) hown hK hG k25 rfl 8 (by decide) (tb_use hT tw_296) (fun _ h9 => h9) rfl dX13_variant_43 ?_
    refine W.eq (g2 := F0 m 46 ls [.ref (AD 1 j29)]) (by first | rfl | (rw [hf28]; rfl)) ?_
    have k31 : G23 (AD 1 j29) = some (.inr (6, [.int (nI (j29 + 1)), .int ((v.L j29).1), .long ((v.L j29).2.1), .long ((v.L j29).2.2.1), .int ((v.L j29).2.2.2), va_rf ((nx v j29).map (AD 1))])) := by rw [← hZ.1 j29 hj30]; exact hP27.elL hj30
    refine mm_getN (v := .int (nI (j29 + 1))) hx hb hf_X5 (fun _ h9 => h9) hown hK hG k31 rfl 0 (by decide) (tb_use hT tw_686) (fun _ h9 => h9) rfl dX13_variant_46 ?_
    exact W.iret (v := (nI (j29 + 1))) hx hb hr (fun t ht hW => ⟨⟨_, _, rfl, ⟨(by rw [hf28]; rfl), eG23⟩, mk_end hG ht⟩, hS.F ht⟩) hS.2.2 dX13_variant_49

set_option maxHeartbeats 4000000 in
set_option maxRecDepth 100000 in
theorem c_H_ring (l : Launch) (D : va_G) (cy : Nat → ClassId) (A : Nat → Prop) (X : State → Prop) (hst : mk_St A X) (hXT : ∀ U : State, X U → TB U) (e0 : Nat) (tk : Nat → Nat) (hXE : ∀ U : State, X U → ES e0 tk A U) (mi : Nat) (hXL : ∀ U : State, X U → EL e0 mi A U) (ax adK adV : Nat → Nat) (hXX : ∀ U : State, X U → TX ax adK adV tk A U) (G : Nat → Option va_E) (G0 : Nat → Option va_E) (Bx : Nat → Prop) (v : EdV) (z : PtV) (LA EA : Nat → Nat) (AD : Nat → Nat → Nat) (PI : Nat → Nat) (o tx rd to se kp : Nat) (hd : Option Nat) (tl kc : Int32) (b9 : Nat) (iv : Int32) (h0 : G o = some (.inr (14, [.ref tx, .ref rd, .ref to, .ref se, .ref kp, .int tl, .int kc, va_rf hd, .ref (AD 1 b9)]))) (hP : EDP cy e0 tk G0 Bx G v z LA EA AD PI) (hzL : zLo v AD z) (hbL : b9 < v.nL) : Met l yX13_ring [.code yX13_ring cX13_ring 4 (some .int)] ({ frames := 0, cells := 0, slots := 0, locals := 0 }) (mk_Pre D vwCl (tyL cy) A X G [.ref o, .int iv]) (va_Qi (fun (r : Int32) (G2 : Nat → Option va_E) => r = (if 0 ≤ iv ∧ iv < 6 then nu1 (rgF v b9 iv.toNatClampNeg (some b9)) else 0) ∧ G2 = G) (mk_B D vwCl A) A) 0 0 A := by
  refine Met.ofW (cc := cX13_ring) (maxL := 4) (ret := (some .int)) (by decide) rfl ?_
  intro p e s m args below meth c s₁ B hml hv
  obtain ⟨rfl, hG, hK, hA, hX⟩ := hv
  have hx := B.exec
  have hb := B.bytes
  have hr := B.returns
  have hlocks := B.notSynchronized
  have hT := hXT s hX
  have hown : s.vm.findClass RX13 = some m.cls := findClass_of_methodNamed B.named
  have hf_X5 : ∀ w ∈ u_ws RX5 TX5 6, w.before ([.ref o, .int iv] : List Value).toArray s = true := tb_list hT fX5
  have hf_X13 : ∀ w ∈ u_ws RX13 TX13 9, w.before ([.ref o, .int iv] : List Value).toArray s = true := tb_list hT fX13
  have hS : va_S A s.heap s.heap [] := va_S.rf
  have hE := hXE s hX
  have hl := lv_entry ([.ref o, .int iv]) (n := 4) (Nat.le_of_ble_eq_true rfl)
  rw [lg_entry_eq]
  generalize (lg_sl ([.ref o, .int iv]) ++ List.replicate (4 - (lg_sl ([.ref o, .int iv])).length) Slot.unset).toArray = ls at hl ⊢
  have hl : lv_has ls 4 [(0, .ref o), (1, .int iv)] := hl
  have hQ := hXX s hX
  have hloop : ∀ (n : Nat) (j9 i9 k9 : Nat) (RF : Option Nat), (0 ≤ iv ∧ iv < 6) → (iv = nI i9) → (i9 < 6) → (rgF v b9 i9 (some b9) = RF) → (n + j9 = i9) → (k9 < v.nL) → (rgF v b9 n (some k9) = RF) → ∀ (Gv : Nat → Option va_E), (Gv o = some (.inr (14, [.ref tx, .ref rd, .ref to, .ref se, .ref kp, .int tl, .int kc, va_rf hd, .ref (AD 1 b9)]))) → (Gv = G) → ∀ (H : Heap) (locs : List Loc), mm D vwCl A Gv H → va_S A s.heap H locs → ∀ ls : Array Slot, lv_has ls 4 [(0, .ref o), (1, .int iv), (2, .ref (AD 1 k9)), (3, .int (nI j9))] → W p l e (headSpec [.code yX13_ring cX13_ring 4 (some .int)] ({ frames := 0, cells := 0, slots := 0, locals := 0 })).room s m ([.ref o, .int iv] : List Value).toArray below meth c H locs 0 0 (MQ below (va_Qi (fun (r : Int32) (G2 : Nat → Option va_E) => r = (if 0 ≤ iv ∧ iv < 6 then nu1 (rgF v b9 iv.toNatClampNeg (some b9)) else 0) ∧ G2 = G) (mk_B D vwCl A) A) ([.ref o, .int iv] : List Value).toArray s 0 0 A) (F0 m 19 ls []) := by
    intro n
    induction n with
    | zero =>
      intro j9 i9 k9 RF hcd hki hi6 hR hjn hk9 hq Gv v_o hGv H locs hG hS ls hl
      have hG9 := hG
      have hS9 := hS
      have hl9 := hl
      subst hGv
      have hG := hG9
      have hS := hS9
      have hl := hl9
      refine lv_iload_n hx hb dX13_ring_19 rfl (lv_at hl 3 rfl) ?_
      refine lv_iload_n hx hb dX13_ring_20 rfl (lv_at hl 1 rfl) ?_
      refine lv_icmp_ge (tgt := 54) hx hb dX13_ring_21 (by decide) (fun c_21 => ?_) (fun c_21 => ?_)
      · skip
        refine lv_aload_n hx hb dX13_ring_54 rfl (lv_at hl 2 rfl) ?_
        refine lv_ifnonnull (tgt := 62) hx hb dX13_ring_55 (by decide) ?_
        refine lv_aload_n hx hb dX13_ring_62 rfl (lv_at hl 2 rfl) ?_
        have k21 : Gv (AD 1 k9) = some (.inr (6, [.int (nI (k9 + 1)), .int ((v.L k9).1), .long ((v.L k9).2.1), .long ((v.L k9).2.2.1), .int ((v.L k9).2.2.2), va_rf ((nx v k9).map (AD 1))])) := by rw [← hzL k9 hk9]; exact hP.elL hk9
        refine mm_getN (v := .int (nI (k9 + 1))) hx hb hf_X5 (fun _ h9 => h9) hown hK hG k21 rfl 0 (by decide) (tb_use hT tw_686) (fun _ h9 => h9) rfl dX13_ring_63 ?_
        exact W.iret (v := (nI (k9 + 1))) hx hb hr (fun t ht hW => ⟨⟨_, _, rfl, ⟨(by rw [if_pos hcd, hki, nI_clamp (n := i9) (by omega), hR, ← hq]; rfl), rfl⟩, mk_end hG ht⟩, hS.F ht⟩) hS.2.2 dX13_ring_66
      · skip
        exact absurd (by rw [hki, show j9 = i9 by omega]; exact Int32.le_refl _) c_21
    | succ n ih =>
      intro j9 i9 k9 RF hcd hki hi6 hR hjn hk9 hq Gv v_o hGv H locs hG hS ls hl
      have hG9 := hG
      have hS9 := hS
      have hl9 := hl
      subst hGv
      have hG := hG9
      have hS := hS9
      have hl := hl9
      refine lv_iload_n hx hb dX13_ring_19 rfl (lv_at hl 3 rfl) ?_
      refine lv_iload_n hx hb dX13_ring_20 rfl (lv_at hl 1 rfl) ?_
      refine lv_icmp_ge (tgt := 54) hx hb dX13_ring_21 (by decide) (fun c_21 => ?_) (fun c_21 => ?_)
      · skip
        exact absurd c_21 (by rw [hki]; exact nI_ge (by omega) (by omega))
      · skip
        refine lv_aload_n hx hb dX13_ring_24 rfl (lv_at hl 2 rfl) ?_
        refine lv_ifnull hx hb dX13_ring_25 ?_
        refine lv_aload_n hx hb dX13_ring_28 rfl (lv_at hl 2 rfl) ?_
        have k22 : Gv (AD 1 k9) = some (.inr (6, [.int (nI (k9 + 1)), .int ((v.L k9).1), .long ((v.L k9).2.1), .long ((v.L k9).2.2.1), .int ((v.L k9).2.2.2), va_rf ((nx v k9).map (AD 1))])) := by rw [← hzL k9 hk9]; exact hP.elL hk9
        refine mm_getN (v := va_rf ((nx v k9).map (AD 1))) hx hb hf_X5 (fun _ h9 => h9) hown hK hG k22 rfl 5 (by decide) (tb_use hT tw_698) (fun _ h9 => h9) rfl dX13_ring_29 ?_
        refine lv_aload_n hx hb dX13_ring_32 rfl (lv_at hl 0 rfl) ?_
        refine mm_get (v := .ref (AD 1 b9)) hx hb hf_X13 (fun _ h9 => h9) hown hK hG v_o rfl 8 (by decide) (tb_use hT tw_219) (fun _ h9 => h9) rfl dX13_ring_33 ?_
        refine lv_acmp_ne (rx := ((nx v k9).map (AD 1))) (ry := some (AD 1 b9)) (tgt := 43) hx hb dX13_ring_36 (by decide) (fun c_36 => ?_) (fun c_36 => ?_)
        · skip
          have hb9 : ¬ nx v k9 = some b9 := fun z => c_36 ((map_eq (fun _ => nx_lt) hbL hP.inL).mpr z)
          refine lv_aload_n hx hb dX13_ring_43 rfl (lv_at hl 2 rfl) ?_
          refine mm_getN (v := va_rf ((nx v k9).map (AD 1))) hx hb hf_X5 (fun _ h9 => h9) hown hK hG k22 rfl 5 (by decide) (tb_use hT tw_698) (fun _ h9 => h9) rfl dX13_ring_44 ?_
          obtain ⟨y_hf23, hf23⟩ : ∃ y, nx v k9 = y := ⟨_, rfl⟩
          cases y_hf23 with
          | none =>
            refine W.eq (g2 := F0 m 47 ls [.null]) (by first | rfl | (rw [hf23]; rfl)) ?_
            refine lv_astore_nN (lv' := [(2, .null), (0, .ref o), (1, .int iv), (3, .int (nI j9))]) hx hb dX13_ring_47 rfl hl (by decide) rfl (fun ls hl => ?_)
            obtain ⟨x25, ex25⟩ : ∃ y : Int32, y = (nI j9) + 1 := ⟨_, rfl⟩
            refine lv_iinc (v := x25) (lv' := [(3, .int x25), (2, .null), (0, .ref o), (1, .int iv)]) hx hb dX13_ring_48 hl (k := 3) rfl (by rw [ex25]; rfl) (by decide) rfl (fun ls hl => ?_)
            refine lv_goto (tgt := 19) hx hb dX13_ring_51 (by decide) ?_
            refine lv_iload_n hx hb dX13_ring_19 rfl (lv_at hl 0 rfl) ?_
            refine lv_iload_n hx hb dX13_ring_20 rfl (lv_at hl 3 rfl) ?_
            refine lv_icmp_ge (tgt := 54) hx hb dX13_ring_21 (by decide) (fun c_21 => ?_) (fun c_21 => ?_)
            · skip
              refine lv_aload_nN hx hb dX13_ring_54 rfl (lv_at hl 1 rfl) ?_
              refine lv_ifnonnullN hx hb dX13_ring_55 ?_
              refine lv_iconst (v := 0) hx hb dX13_ring_58 (by decide) ?_
              refine lv_goto (tgt := 66) hx hb dX13_ring_59 (by decide) ?_
              exact W.iret (v := 0) hx hb hr (fun t ht hW => ⟨⟨_, _, rfl, ⟨(by rw [if_pos hcd, hki, nI_clamp (n := i9) (by omega), hR, ← hq, rgF, if_neg hb9, hf23, rgF_none]; rfl), rfl⟩, mk_end hG ht⟩, hS.F ht⟩) hS.2.2 dX13_ring_66
            · skip
              refine lv_aload_nN hx hb dX13_ring_24 rfl (lv_at hl 1 rfl) ?_
              refine lv_ifnullN (tgt := 54) hx hb dX13_ring_25 (by decide) ?_
              refine lv_aload_nN hx hb dX13_ring_54 rfl (lv_at hl 1 rfl) ?_
              refine lv_ifnonnullN hx hb dX13_ring_55 ?_
              refine lv_iconst (v := 0) hx hb dX13_ring_58 (by decide) ?_
              refine lv_goto (tgt := 66) hx hb dX13_ring_59 (by decide) ?_
              exact W.iret (v := 0) hx hb hr (fun t ht hW => ⟨⟨_, _, rfl, ⟨(by rw [if_pos hcd, hki, nI_clamp (n := i9) (by omega), hR, ← hq, rgF, if_neg hb9, hf23, rgF_none]; rfl), rfl⟩, mk_end hG ht⟩, hS.F ht⟩) hS.2.2 dX13_ring_66
          | some j24 =>
            have hj26 := nx_lt hf23
            refine W.eq (g2 := F0 m 47 ls [.ref (AD 1 j24)]) (by first | rfl | (rw [hf23]; rfl)) ?_
            refine lv_astore_n (lv' := [(2, .ref (AD 1 j24)), (0, .ref o), (1, .int iv), (3, .int (nI j9))]) hx hb dX13_ring_47 rfl hl (by decide) rfl (fun ls hl => ?_)
            obtain ⟨x27, ex27⟩ : ∃ y : Int32, y = (nI j9) + 1 := ⟨_, rfl⟩
            refine lv_iinc (v := x27) (lv' := [(3, .int x27), (2, .ref (AD 1 j24)), (0, .ref o), (1, .int iv)]) hx hb dX13_ring_48 hl (k := 3) rfl (by rw [ex27]; rfl) (by decide) rfl (fun ls hl => ?_)
            refine lv_goto (tgt := 19) hx hb dX13_ring_51 (by decide) ?_
            rw [show x27 = nI (j9 + 1) by rw [ex27]; exact (nI_succ j9).symm] at hl
            have hq2 : rgF v b9 n (some j24) = RF := by rw [← hq, rgF, if_neg hb9, hf23]
            exact ih (j9 + 1) i9 j24 RF hcd hki hi6 hR (by omega) hj26 hq2 Gv v_o rfl _ _ hG hS ls (lv_sub hl [2, 3, 1, 0] rfl)
        · skip
          have hb9 : nx v k9 = some b9 := (map_eq (fun _ => nx_lt) hbL hP.inL).mp c_36
          refine lv_null hx hb dX13_ring_39 ?_
          refine lv_goto (tgt := 47) hx hb dX13_ring_40 (by decide) ?_
          refine lv_astore_nN (lv' := [(2, .null), (0, .ref o), (1, .int iv), (3, .int (nI j9))]) hx hb dX13_ring_47 rfl hl (by decide) rfl (fun ls hl => ?_)
          obtain ⟨x28, ex28⟩ : ∃ y : Int32, y = (nI j9) + 1 := ⟨_, rfl⟩
          refine lv_iinc (v := x28) (lv' := [(3, .int x28), (2, .null), (0, .ref o), (1, .int iv)]) hx hb dX13_ring_48 hl (k := 3) rfl (by rw [ex28]; rfl) (by decide) rfl (fun ls hl => ?_)
          refine lv_goto (tgt := 19) hx hb dX13_ring_51 (by decide) ?_
          refine lv_iload_n hx hb dX13_ring_19 rfl (lv_at hl 0 rfl) ?_
          refine lv_iload_n hx hb dX13_ring_20 rfl (lv_at hl 3 rfl) ?_
          refine lv_icmp_ge (tgt := 54) hx hb dX13_ring_21 (by decide) (fun c_21 => ?_) (fun c_21 => ?_)
          · skip
            refine lv_aload_nN hx hb dX13_ring_54 rfl (lv_at hl 1 rfl) ?_
            refine lv_ifnonnullN hx hb dX13_ring_55 ?_
            refine lv_iconst (v := 0) hx hb dX13_ring_58 (by decide) ?_
            refine lv_goto (tgt := 66) hx hb dX13_ring_59 (by decide) ?_
            exact W.iret (v := 0) hx hb hr (fun t ht hW => ⟨⟨_, _, rfl, ⟨(by rw [if_pos hcd, hki, nI_clamp (n := i9) (by omega), hR, ← hq, rgF, if_pos hb9, rgF_none]; rfl), rfl⟩, mk_end hG ht⟩, hS.F ht⟩) hS.2.2 dX13_ring_66
          · skip
            refine lv_aload_nN hx hb dX13_ring_24 rfl (lv_at hl 1 rfl) ?_
            refine lv_ifnullN (tgt := 54) hx hb dX13_ring_25 (by decide) ?_
            refine lv_aload_nN hx hb dX13_ring_54 rfl (lv_at hl 1 rfl) ?_
            refine lv_ifnonnullN hx hb dX13_ring_55 ?_
            refine lv_iconst (v := 0) hx hb dX13_ring_58 (by decide) ?_
            refine lv_goto (tgt := 66) hx hb dX13_ring_59 (by decide) ?_
            exact W.iret (v := 0) hx hb hr (fun t ht hW => ⟨⟨_, _, rfl, ⟨(by rw [if_pos hcd, hki, nI_clamp (n := i9) (by omega), hR, ← hq, rgF, if_pos hb9, rgF_none]; rfl), rfl⟩, mk_end hG ht⟩, hS.F ht⟩) hS.2.2 dX13_ring_66
  refine lv_iload_n hx hb dX13_ring_0 rfl (lv_at hl 1 rfl) ?_
  refine lv_if_lt (tgt := 10) hx hb dX13_ring_1 (by decide) (fun c_1 => ?_) (fun c_1 => ?_)
  · skip
    refine lv_iconst (v := 0) hx hb dX13_ring_10 (by decide) ?_
    exact W.iret (v := 0) hx hb hr (fun t ht hW => ⟨⟨_, _, rfl, ⟨(by rw [if_neg (fun z => absurd c_1 (Int32.not_lt.mpr z.1))]), rfl⟩, mk_end hG ht⟩, hS.F ht⟩) hS.2.2 dX13_ring_11
  · skip
    refine lv_iload_n hx hb dX13_ring_4 rfl (lv_at hl 1 rfl) ?_
    refine lv_bipush (v := 6) hx hb dX13_ring_5 (by decide) ?_
    refine lv_icmp_lt (tgt := 12) hx hb dX13_ring_7 (by decide) (fun c_7 => ?_) (fun c_7 => ?_)
    · skip
      refine lv_aload_n hx hb dX13_ring_12 rfl (lv_at hl 0 rfl) ?_
      refine mm_get (v := .ref (AD 1 b9)) hx hb hf_X13 (fun _ h9 => h9) hown hK hG h0 rfl 8 (by decide) (tb_use hT tw_219) (fun _ h9 => h9) rfl dX13_ring_13 ?_
      refine lv_astore_n (lv' := [(2, .ref (AD 1 b9)), (0, .ref o), (1, .int iv)]) hx hb dX13_ring_16 rfl hl (by decide) rfl (fun ls hl => ?_)
      refine lv_iconst (v := 0) hx hb dX13_ring_17 (by decide) ?_
      refine lv_istore_n (lv' := [(3, .int 0), (2, .ref (AD 1 b9)), (0, .ref o), (1, .int iv)]) hx hb dX13_ring_18 rfl hl (by decide) rfl (fun ls hl => ?_)
      have hcd : 0 ≤ iv ∧ iv < 6 := ⟨Int32.not_lt.mp c_1, c_7⟩
      obtain ⟨i9, hi31, hki⟩ := nI_of c_1
      have hi6 : i9 < 6 := by have z := hcd.2; rw [hki] at z; exact nI_lt_of (b := 6) (by omega) (by decide) (Int32.not_le.mpr z)
      obtain ⟨RF, hR⟩ : ∃ y, rgF v b9 i9 (some b9) = y := ⟨_, rfl⟩
      exact hloop i9 0 i9 b9 RF hcd hki hi6 hR (by omega) hbL hR G h0 rfl _ _ hG hS ls (lv_sub hl [2, 3, 1, 0] rfl)
    · skip
      refine lv_iconst (v := 0) hx hb dX13_ring_10 (by decide) ?_
      exact W.iret (v := 0) hx hb hr (fun t ht hW => ⟨⟨_, _, rfl, ⟨(by rw [if_neg (fun z => absurd z.2 c_7)]), rfl⟩, mk_end hG ht⟩, hS.F ht⟩) hS.2.2 dX13_ring_11

set_option maxHeartbeats 4000000 in
set_option maxRecDepth 100000 in
theorem c_H_ring0 (l : Launch) (D : va_G) (cy : Nat → ClassId) (A : Nat → Prop) (X : State → Prop) (hst : mk_St A X) (hXT : ∀ U : State, X U → TB U) (e0 : Nat) (tk : Nat → Nat) (hXE : ∀ U : State, X U → ES e0 tk A U) (mi : Nat) (hXL : ∀ U : State, X U → EL e0 mi A U) (ax adK adV : Nat → Nat) (hXX : ∀ U : State, X U → TX ax adK adV tk A U) (G : Nat → Option va_E) (G0 : Nat → Option va_E) (Bx : Nat → Prop) (v : EdV) (z : PtV) (LA EA : Nat → Nat) (AD : Nat → Nat → Nat) (PI : Nat → Nat) (o tx rd to se kp : Nat) (hd : Option Nat) (tl kc : Int32) (iv : Int32) (h0 : G o = some (.inr (14, [.ref tx, .ref rd, .ref to, .ref se, .ref kp, .int tl, .int kc, va_rf hd, .null]))) : Met l yX13_ring [.code yX13_ring cX13_ring 4 (some .int)] ({ frames := 0, cells := 0, slots := 0, locals := 0 }) (mk_Pre D vwCl (tyL cy) A X G [.ref o, .int iv]) (va_Qi (fun (r : Int32) (G2 : Nat → Option va_E) => r = 0 ∧ G2 = G) (mk_B D vwCl A) A) 0 0 A := by
  refine Met.ofW (cc := cX13_ring) (maxL := 4) (ret := (some .int)) (by decide) rfl ?_
  intro p e s m args below meth c s₁ B hml hv
  obtain ⟨rfl, hG, hK, hA, hX⟩ := hv
  have hx := B.exec
  have hb := B.bytes
  have hr := B.returns
  have hlocks := B.notSynchronized
  have hT := hXT s hX
  have hown : s.vm.findClass RX13 = some m.cls := findClass_of_methodNamed B.named
  have hf_X13 : ∀ w ∈ u_ws RX13 TX13 9, w.before ([.ref o, .int iv] : List Value).toArray s = true := tb_list hT fX13
  have hS : va_S A s.heap s.heap [] := va_S.rf
  have hE := hXE s hX
  have hl := lv_entry ([.ref o, .int iv]) (n := 4) (Nat.le_of_ble_eq_true rfl)
  rw [lg_entry_eq]
  generalize (lg_sl ([.ref o, .int iv]) ++ List.replicate (4 - (lg_sl ([.ref o, .int iv])).length) Slot.unset).toArray = ls at hl ⊢
  have hl : lv_has ls 4 [(0, .ref o), (1, .int iv)] := hl
  have hQ := hXX s hX
  refine lv_iload_n hx hb dX13_ring_0 rfl (lv_at hl 1 rfl) ?_
  refine lv_if_lt (tgt := 10) hx hb dX13_ring_1 (by decide) (fun c_1 => ?_) (fun c_1 => ?_)
  · skip
    refine lv_iconst (v := 0) hx hb dX13_ring_10 (by decide) ?_
    exact W.iret (v := 0) hx hb hr (fun t ht hW => ⟨⟨_, _, rfl, ⟨rfl, rfl⟩, mk_end hG ht⟩, hS.F ht⟩) hS.2.2 dX13_ring_11
  · skip
    refine lv_iload_n hx hb dX13_ring_4 rfl (lv_at hl 1 rfl) ?_
    refine lv_bipush (v := 6) hx hb dX13_ring_5 (by decide) ?_
    refine lv_icmp_lt (tgt := 12) hx hb dX13_ring_7 (by decide) (fun c_7 => ?_) (fun c_7 => ?_)
    · skip
      refine lv_aload_n hx hb dX13_ring_12 rfl (lv_at hl 0 rfl) ?_
      refine mm_get (v := .null) hx hb hf_X13 (fun _ h9 => h9) hown hK hG h0 rfl 8 (by decide) (tb_use hT tw_219) (fun _ h9 => h9) rfl dX13_ring_13 ?_
      refine lv_astore_nN (lv' := [(2, .null), (0, .ref o), (1, .int iv)]) hx hb dX13_ring_16 rfl hl (by decide) rfl (fun ls hl => ?_)
      refine lv_iconst (v := 0) hx hb dX13_ring_17 (by decide) ?_
      refine lv_istore_n (lv' := [(3, .int 0), (2, .null), (0, .ref o), (1, .int iv)]) hx hb dX13_ring_18 rfl hl (by decide) rfl (fun ls hl => ?_)
      refine lv_iload_n hx hb dX13_ring_19 rfl (lv_at hl 0 rfl) ?_
      refine lv_iload_n hx hb dX13_ring_20 rfl (lv_at hl 3 rfl) ?_
      refine lv_icmp_ge (tgt := 54) hx hb dX13_ring_21 (by decide) (fun c_21 => ?_) (fun c_21 => ?_)
      · skip
        refine lv_aload_nN hx hb dX13_ring_54 rfl (lv_at hl 1 rfl) ?_
        refine lv_ifnonnullN hx hb dX13_ring_55 ?_
        refine lv_iconst (v := 0) hx hb dX13_ring_58 (by decide) ?_
        refine lv_goto (tgt := 66) hx hb dX13_ring_59 (by decide) ?_
        exact W.iret (v := 0) hx hb hr (fun t ht hW => ⟨⟨_, _, rfl, ⟨rfl, rfl⟩, mk_end hG ht⟩, hS.F ht⟩) hS.2.2 dX13_ring_66
      · skip
        refine lv_aload_nN hx hb dX13_ring_24 rfl (lv_at hl 1 rfl) ?_
        refine lv_ifnullN (tgt := 54) hx hb dX13_ring_25 (by decide) ?_
        refine lv_aload_nN hx hb dX13_ring_54 rfl (lv_at hl 1 rfl) ?_
        refine lv_ifnonnullN hx hb dX13_ring_55 ?_
        refine lv_iconst (v := 0) hx hb dX13_ring_58 (by decide) ?_
        refine lv_goto (tgt := 66) hx hb dX13_ring_59 (by decide) ?_
        exact W.iret (v := 0) hx hb hr (fun t ht hW => ⟨⟨_, _, rfl, ⟨rfl, rfl⟩, mk_end hG ht⟩, hS.F ht⟩) hS.2.2 dX13_ring_66
    · skip
      refine lv_iconst (v := 0) hx hb dX13_ring_10 (by decide) ?_
      exact W.iret (v := 0) hx hb hr (fun t ht hW => ⟨⟨_, _, rfl, ⟨rfl, rfl⟩, mk_end hG ht⟩, hS.F ht⟩) hS.2.2 dX13_ring_11
