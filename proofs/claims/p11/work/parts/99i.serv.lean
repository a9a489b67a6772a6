set_option maxHeartbeats 4000000 in
set_option maxRecDepth 100000 in
theorem c_H_serviceNumbered (l : Launch) (D : va_G) (cy : Nat → ClassId) (A : Nat → Prop) (X : State → Prop) (hst : mk_St A X) (hXT : ∀ U : State, X U → TB U) (e0 : Nat) (tk : Nat → Nat) (hXE : ∀ U : State, X U → ES e0 tk A U) (mi : Nat) (hXL : ∀ U : State, X U → EL e0 mi A U) (ax adK adV : Nat → Nat) (hXX : ∀ U : State, X U → TX ax adK adV tk A U) (G : Nat → Option va_E) (G0 : Nat → Option va_E) (Bx : Nat → Prop) (v : EdV) (z : PtV) (LA EA : Nat → Nat) (AD : Nat → Nat → Nat) (PI : Nat → Nat) (ed na : Nat) (mm9 cap : Nat) (nv : Nat → Int64) (ui : Option Nat) (w9 : Int32 × Option Nat) (o tx rd to se kp : Nat) (rg : Option Nat) (tl kc : Int32) (iv : Int32) (h0 : G o = some (.inr (14, [.ref tx, .ref rd, .ref to, .ref se, .ref kp, .int tl, .int kc, .ref ed, va_rf rg]))) (hP : EDP cy e0 tk G0 Bx G v z LA EA AD PI) (hZ : ZF v AD z) (hed : G ed = some (.inr (3, [.ref (LA 0), .ref (LA 1), .ref (LA 2), .ref (LA 3), .ref (LA 4), .ref (LA 5), .ref na, .int (nI mm9), va_rf (ui.map (AD 1)), .int w9.1, va_rf (w9.2.map (AD 1))]))) (hna : G na = some (.inl (cy 2, cap, .inr (.inl nv)))) (hmc : mm9 ≤ cap) (hcap : cap ≤ 2048) (hui : ∀ k, ui = some k → k < v.nL) : Met l yX13_serviceNumbered [.code yX13_serviceNumbered cX13_serviceNumbered 2 (some (.object "DescribeText$Service"))] ({ frames := 3, cells := 0, slots := 0, locals := 90 }) (mk_Pre D vwCl (tyL cy) A X G [.ref o, .int iv]) (va_Qq (fun (r : Option Nat) (G2 : Nat → Option va_E) => r = (svO v iv).map (AD 2) ∧ G2 = G) (mk_B D vwCl A) A) 0 0 A := by
  refine Met.ofW (cc := cX13_serviceNumbered) (maxL := 2) (ret := (some (.object "DescribeText$Service"))) (by decide) rfl ?_
  intro p e s m args below meth c s₁ B hml hv
  obtain ⟨rfl, hG, hK, hA, hX⟩ := hv
  have hx := B.exec
  have hb := B.bytes
  have hr := B.returns
  have hlocks := B.notSynchronized
  have hT := hXT s hX
  have hown : s.vm.findClass RX13 = some m.cls := findClass_of_methodNamed B.named
  have hf_X13 : ∀ w ∈ u_ws RX13 TX13 9, w.before ([.ref o, .int iv] : List Value).toArray s = true := tb_list hT fX13
  have hf_X2 : ∀ w ∈ u_ws RX2 TX2 11, w.before ([.ref o, .int iv] : List Value).toArray s = true := tb_list hT fX2
  have hS : va_S A s.heap s.heap [] := va_S.rf
  have hE := hXE s hX
  have hl := lv_entry ([.ref o, .int iv]) (n := 2) (Nat.le_of_ble_eq_true rfl)
  rw [lg_entry_eq]
  generalize (lg_sl ([.ref o, .int iv]) ++ List.replicate (2 - (lg_sl ([.ref o, .int iv])).length) Slot.unset).toArray = ls at hl ⊢
  have hl : lv_has ls 2 [(0, .ref o), (1, .int iv)] := hl
  have hQ := hXX s hX
  have hbb := hP.b
  refine lv_aload_n hx hb dX13_serviceNumbered_0 rfl (lv_at hl 0 rfl) ?_
  refine mm_get (v := .ref ed) hx hb hf_X13 (fun _ h9 => h9) hown hK hG h0 rfl 7 (by decide) (tb_use hT tw_218) (fun _ h9 => h9) rfl dX13_serviceNumbered_1 ?_
  refine lv_ifnull hx hb dX13_serviceNumbered_4 ?_
  refine lv_iload_n hx hb dX13_serviceNumbered_7 rfl (lv_at hl 1 rfl) ?_
  refine lv_iconst (v := 1) hx hb dX13_serviceNumbered_8 (by decide) ?_
  refine lv_icmp_lt (tgt := 26) hx hb dX13_serviceNumbered_9 (by decide) (fun c_9 => ?_) (fun c_9 => ?_)
  · skip
    refine lv_null hx hb dX13_serviceNumbered_26 ?_
    exact W.aret (v := .null) hx hb hr (Or.inl ⟨_, rfl⟩) (Or.inl rfl) (fun t ht hW => ⟨⟨(none : Option Nat), _, rfl, ⟨(by rw [show svO v iv = none from ix_no1 c_9]; rfl), rfl⟩, mk_end hG ht⟩, hS.F ht⟩) hS.2.2 dX13_serviceNumbered_27
  · skip
    refine lv_iload_n hx hb dX13_serviceNumbered_12 rfl (lv_at hl 1 rfl) ?_
    refine lv_aload_n hx hb dX13_serviceNumbered_13 rfl (lv_at hl 0 rfl) ?_
    refine mm_get (v := .ref ed) hx hb hf_X13 (fun _ h9 => h9) hown hK hG h0 rfl 7 (by decide) (tb_use hT tw_218) (fun _ h9 => h9) rfl dX13_serviceNumbered_14 ?_
    refine mm_getN (v := .ref (LA 2)) hx hb hf_X2 (fun _ h9 => h9) hown hK hG hed rfl 2 (by decide) (tb_use hT tw_284) (fun _ h9 => h9) rfl dX13_serviceNumbered_17 ?_
    obtain ⟨mo21, h_mo21, -⟩ := id (hP.lsS)
    refine va_calli (va_runV (As := []) (rest := [.int iv]) ⟨hx, hb, hml, hown, (fun _ h9 => absurd h9 List.not_mem_nil : ∀ w ∈ ([] : List Cond), w.before _ s = true)⟩ (c_LS_size l D cy A X hst hXT e0 tk hXE mi hXL G (LA 2) (EA 2) v.nS (AD 2) (hP.lsS)) (tb_cw (C := RJx4a65c) 0 hT tw_457 tw_113 tw_1031 tw_455 tw_456 rfl rfl hq_Jx4a65c_size_8abf5 ⟨Nat.le_of_ble_eq_true rfl, Nat.le_of_ble_eq_true rfl⟩) (mk_preC hst hG hK hA hX hS vc_1 h_mo21) rfl rfl hl.1 rfl (lv_room (Nat.le_of_ble_eq_true rfl)) dX13_serviceNumbered_20 ⟨Nat.le_of_ble_eq_true rfl, Nat.le_of_ble_eq_true rfl⟩) hS (fun q _ h => h) (fun q h => h) (fun r22 G23 t H locs ht hvm hw hB hz1 hk1 hS => ?_)
    have hG : mm D vwCl A G23 H := by rw [← ht]; exact hB
    clear hB hz1 hk1 hvm ht
    obtain ⟨rfl, hw⟩ := hw
    rw [hw] at hG
    refine lv_icmp_le (tgt := 28) hx hb dX13_serviceNumbered_23 (by decide) (fun c_23 => ?_) (fun c_23 => ?_)
    · skip
      obtain ⟨k9, hk9, hi9, ho9⟩ := ix_of (i := iv) (n := v.nS) (by omega) c_9 c_23
      refine lv_aload_n hx hb dX13_serviceNumbered_28 rfl (lv_at hl 0 rfl) ?_
      refine mm_get (v := .ref ed) hx hb hf_X13 (fun _ h9 => h9) hown hK hG h0 rfl 7 (by decide) (tb_use hT tw_218) (fun _ h9 => h9) rfl dX13_serviceNumbered_29 ?_
      refine mm_getN (v := .ref (LA 2)) hx hb hf_X2 (fun _ h9 => h9) hown hK hG hed rfl 2 (by decide) (tb_use hT tw_284) (fun _ h9 => h9) rfl dX13_serviceNumbered_32 ?_
      refine lv_iload_n hx hb dX13_serviceNumbered_35 rfl (lv_at hl 1 rfl) ?_
      refine lv_iconst (v := 1) hx hb dX13_serviceNumbered_36 (by decide) ?_
      refine lv_isub hx hb dX13_serviceNumbered_37 ?_
      rw [show iv - 1 = nI k9 by rw [hi9]; exact nI_pred k9]
      obtain ⟨mo24, h_mo24, -⟩ := id (hP.lsS)
      refine va_callq (va_runV (As := [.int (nI k9)]) (rest := []) ⟨hx, hb, hml, hown, (fun _ h9 => absurd h9 List.not_mem_nil : ∀ w ∈ ([] : List Cond), w.before _ s = true)⟩ (c_LS_get l D cy A X hst hXT e0 tk hXE mi hXL G (LA 2) (EA 2) v.nS (AD 2) k9 (hP.lsS) hk9) (tb_cw (C := RJx4a65c) 1 hT tw_942 tw_113 tw_1032 tw_940 tw_941 rfl rfl hq_Jx4a65c_get_915e3 ⟨Nat.le_of_ble_eq_true rfl, Nat.le_of_ble_eq_true rfl⟩) (mk_preC hst hG hK hA hX hS vc_1 h_mo24) rfl rfl hl.1 rfl (lv_room (Nat.le_of_ble_eq_true rfl)) dX13_serviceNumbered_38 ⟨Nat.le_of_ble_eq_true rfl, Nat.le_of_ble_eq_true rfl⟩) hS (fun q _ h => h) (fun q h => h) (fun r25 G26 t H locs ht hvm hw hB hz1 hk1 hS => ?_)
      have hG : mm D vwCl A G26 H := by rw [← ht]; exact hB
      clear hB hz1 hk1 hvm ht
      obtain ⟨rfl, hw⟩ := hw
      rw [hw] at hG
      refine W.eq (g2 := F0 m 41 ls [.ref (AD 2 k9)]) rfl ?_
      have k27 : G (AD 2 k9) = some (.inr (11, [.int (nI (k9 + 1)), .ref (AD 1 (v.S k9).1), .int ((v.S k9).2.1), .long ((v.S k9).2.2.1), .ref (LA (20 + k9)), .int ((v.S k9).2.2.2)])) := hP.elS hk9
      refine va_castS hx hb hown (tb_use hT tw_1091) (hK.1 11 _ rfl).2 (va_recv hK (hG.one k27) (q := (RX10, TX10, 6)) rfl (q0 := 0) rfl) dX13_serviceNumbered_41 ?_
      exact W.aret (v := .ref (AD 2 k9)) hx hb hr (Or.inl ⟨_, rfl⟩) (Or.inr ⟨_, rfl⟩) (fun t ht hW => ⟨⟨(some (AD 2 k9)), _, rfl, ⟨(by rw [show svO v iv = some k9 from ho9]; rfl), rfl⟩, mk_end hG ht⟩, hS.F ht⟩) hS.2.2 dX13_serviceNumbered_44
    · skip
      refine lv_null hx hb dX13_serviceNumbered_26 ?_
      exact W.aret (v := .null) hx hb hr (Or.inl ⟨_, rfl⟩) (Or.inl rfl) (fun t ht hW => ⟨⟨(none : Option Nat), _, rfl, ⟨(by rw [show svO v iv = none from ix_no2 (by omega) c_23]; rfl), rfl⟩, mk_end hG ht⟩, hS.F ht⟩) hS.2.2 dX13_serviceNumbered_27

set_option maxHeartbeats 4000000 in
set_option maxRecDepth 100000 in
theorem c_H_parameterNumbered (l : Launch) (D : va_G) (cy : Nat → ClassId) (A : Nat → Prop) (X : State → Prop) (hst : mk_St A X) (hXT : ∀ U : State, X U → TB U) (e0 : Nat) (tk : Nat → Nat) (hXE : ∀ U : State, X U → ES e0 tk A U) (mi : Nat) (hXL : ∀ U : State, X U → EL e0 mi A U) (ax adK adV : Nat → Nat) (hXX : ∀ U : State, X U → TX ax adK adV tk A U) (G : Nat → Option va_E) (G0 : Nat → Option va_E) (Bx : Nat → Prop) (v : EdV) (z : PtV) (LA EA : Nat → Nat) (AD : Nat → Nat → Nat) (PI : Nat → Nat) (c9 : Nat) (iv : Int32) (hP : EDP cy e0 tk G0 Bx G v z LA EA AD PI) (hZ : ZF v AD z) (hc9 : c9 < v.nS) : Met l yX13_parameterNumbered [.code yX13_parameterNumbered cX13_parameterNumbered 2 (some (.object "DescribeText$Parameter"))] ({ frames := 3, cells := 0, slots := 0, locals := 90 }) (mk_Pre D vwCl (tyL cy) A X G [.ref (AD 2 c9), .int iv]) (va_Qq (fun (r : Option Nat) (G2 : Nat → Option va_E) => r = (paO v c9 iv).map (AD (20 + c9)) ∧ G2 = G) (mk_B D vwCl A) A) 0 0 A := by
  refine Met.ofW (cc := cX13_parameterNumbered) (maxL := 2) (ret := (some (.object "DescribeText$Parameter"))) (by decide) rfl ?_
  intro p e s m args below meth c s₁ B hml hv
  obtain ⟨rfl, hG, hK, hA, hX⟩ := hv
  have hx := B.exec
  have hb := B.bytes
  have hr := B.returns
  have hlocks := B.notSynchronized
  have hT := hXT s hX
  have hown : s.vm.findClass RX13 = some m.cls := findClass_of_methodNamed B.named
  have hf_X10 : ∀ w ∈ u_ws RX10 TX10 6, w.before ([.ref (AD 2 c9), .int iv] : List Value).toArray s = true := tb_list hT fX10
  have hS : va_S A s.heap s.heap [] := va_S.rf
  have hE := hXE s hX
  have hl := lv_entry ([.ref (AD 2 c9), .int iv]) (n := 2) (Nat.le_of_ble_eq_true rfl)
  rw [lg_entry_eq]
  generalize (lg_sl ([.ref (AD 2 c9), .int iv]) ++ List.replicate (2 - (lg_sl ([.ref (AD 2 c9), .int iv])).length) Slot.unset).toArray = ls at hl ⊢
  have hl : lv_has ls 2 [(0, .ref (AD 2 c9)), (1, .int iv)] := hl
  have hQ := hXX s hX
  have hbb := hP.b
  have hb2 := (hP.lsP hc9).le
  refine lv_aload_n hx hb dX13_parameterNumbered_0 rfl (lv_at hl 0 rfl) ?_
  refine lv_ifnull hx hb dX13_parameterNumbered_1 ?_
  refine lv_iload_n hx hb dX13_parameterNumbered_4 rfl (lv_at hl 1 rfl) ?_
  refine lv_iconst (v := 1) hx hb dX13_parameterNumbered_5 (by decide) ?_
  refine lv_icmp_lt (tgt := 20) hx hb dX13_parameterNumbered_6 (by decide) (fun c_6 => ?_) (fun c_6 => ?_)
  · skip
    refine lv_null hx hb dX13_parameterNumbered_20 ?_
    exact W.aret (v := .null) hx hb hr (Or.inl ⟨_, rfl⟩) (Or.inl rfl) (fun t ht hW => ⟨⟨(none : Option Nat), _, rfl, ⟨(by rw [show paO v c9 iv = none from ix_no1 c_6]; rfl), rfl⟩, mk_end hG ht⟩, hS.F ht⟩) hS.2.2 dX13_parameterNumbered_21
  · skip
    refine lv_iload_n hx hb dX13_parameterNumbered_9 rfl (lv_at hl 1 rfl) ?_
    refine lv_aload_n hx hb dX13_parameterNumbered_10 rfl (lv_at hl 0 rfl) ?_
    have k21 : G (AD 2 c9) = some (.inr (11, [.int (nI (c9 + 1)), .ref (AD 1 (v.S c9).1), .int ((v.S c9).2.1), .long ((v.S c9).2.2.1), .ref (LA (20 + c9)), .int ((v.S c9).2.2.2)])) := hP.elS hc9
    refine mm_getN (v := .ref (LA (20 + c9))) hx hb hf_X10 (fun _ h9 => h9) hown hK hG k21 rfl 4 (by decide) (tb_use hT tw_739) (fun _ h9 => h9) rfl dX13_parameterNumbered_11 ?_
    obtain ⟨mo22, h_mo22, -⟩ := id (hP.lsP hc9)
    refine va_calli (va_runV (As := []) (rest := [.int iv]) ⟨hx, hb, hml, hown, (fun _ h9 => absurd h9 List.not_mem_nil : ∀ w ∈ ([] : List Cond), w.before _ s = true)⟩ (c_LS_size l D cy A X hst hXT e0 tk hXE mi hXL G (LA (20 + c9)) (EA (20 + c9)) (v.nP c9) (AD (20 + c9)) (hP.lsP hc9)) (tb_cw (C := RJx4a65c) 0 hT tw_457 tw_113 tw_1031 tw_455 tw_456 rfl rfl hq_Jx4a65c_size_8abf5 ⟨Nat.le_of_ble_eq_true rfl, Nat.le_of_ble_eq_true rfl⟩) (mk_preC hst hG hK hA hX hS vc_1 h_mo22) rfl rfl hl.1 rfl (lv_room (Nat.le_of_ble_eq_true rfl)) dX13_parameterNumbered_14 ⟨Nat.le_of_ble_eq_true rfl, Nat.le_of_ble_eq_true rfl⟩) hS (fun q _ h => h) (fun q h => h) (fun r23 G24 t H locs ht hvm hw hB hz1 hk1 hS => ?_)
    have hG : mm D vwCl A G24 H := by rw [← ht]; exact hB
    clear hB hz1 hk1 hvm ht
    obtain ⟨rfl, hw⟩ := hw
    rw [hw] at hG
    refine lv_icmp_le (tgt := 22) hx hb dX13_parameterNumbered_17 (by decide) (fun c_17 => ?_) (fun c_17 => ?_)
    · skip
      obtain ⟨k9, hk9, hi9, ho9⟩ := ix_of (i := iv) (n := (v.nP c9)) (by omega) c_6 c_17
      refine lv_aload_n hx hb dX13_parameterNumbered_22 rfl (lv_at hl 0 rfl) ?_
      refine mm_getN (v := .ref (LA (20 + c9))) hx hb hf_X10 (fun _ h9 => h9) hown hK hG k21 rfl 4 (by decide) (tb_use hT tw_739) (fun _ h9 => h9) rfl dX13_parameterNumbered_23 ?_
      refine lv_iload_n hx hb dX13_parameterNumbered_26 rfl (lv_at hl 1 rfl) ?_
      refine lv_iconst (v := 1) hx hb dX13_parameterNumbered_27 (by decide) ?_
      refine lv_isub hx hb dX13_parameterNumbered_28 ?_
      rw [show iv - 1 = nI k9 by rw [hi9]; exact nI_pred k9]
      obtain ⟨mo25, h_mo25, -⟩ := id (hP.lsP hc9)
      refine va_callq (va_runV (As := [.int (nI k9)]) (rest := []) ⟨hx, hb, hml, hown, (fun _ h9 => absurd h9 List.not_mem_nil : ∀ w ∈ ([] : List Cond), w.before _ s = true)⟩ (c_LS_get l D cy A X hst hXT e0 tk hXE mi hXL G (LA (20 + c9)) (EA (20 + c9)) (v.nP c9) (AD (20 + c9)) k9 (hP.lsP hc9) hk9) (tb_cw (C := RJx4a65c) 1 hT tw_942 tw_113 tw_1032 tw_940 tw_941 rfl rfl hq_Jx4a65c_get_915e3 ⟨Nat.le_of_ble_eq_true rfl, Nat.le_of_ble_eq_true rfl⟩) (mk_preC hst hG hK hA hX hS vc_1 h_mo25) rfl rfl hl.1 rfl (lv_room (Nat.le_of_ble_eq_true rfl)) dX13_parameterNumbered_29 ⟨Nat.le_of_ble_eq_true rfl, Nat.le_of_ble_eq_true rfl⟩) hS (fun q _ h => h) (fun q h => h) (fun r26 G27 t H locs ht hvm hw hB hz1 hk1 hS => ?_)
      have hG : mm D vwCl A G27 H := by rw [← ht]; exact hB
      clear hB hz1 hk1 hvm ht
      obtain ⟨rfl, hw⟩ := hw
      rw [hw] at hG
      refine W.eq (g2 := F0 m 32 ls [.ref (AD (20 + c9) k9)]) rfl ?_
      have k28 : G (AD (20 + c9) k9) = some (.inr (9, [.int (nI (k9 + 1)), .int ((v.P c9 k9).1), .long ((v.P c9 k9).2.1), .long ((v.P c9 k9).2.2.1), .int ((v.P c9 k9).2.2.2.1), va_rf ((cdN v ((v.P c9 k9).2.2.1)).map (AD 0)), .int ((v.P c9 k9).2.2.2.2.1), .long ((v.P c9 k9).2.2.2.2.2.1), .int ((v.P c9 k9).2.2.2.2.2.2.1), va_rf ((peI v c9 k9).map (AD (20 + c9))), .int ((v.P c9 k9).2.2.2.2.2.2.2), .int ((z.pd c9 k9).1), .int ((z.pd c9 k9).2.1), .long ((z.pd c9 k9).2.2.1), .long ((z.pd c9 k9).2.2.2)])) := by rw [← (hZ.2.2.1 c9 hc9 k9 hk9).1, ← (hZ.2.2.1 c9 hc9 k9 hk9).2]; exact hP.elP hc9 hk9
      refine va_castS hx hb hown (tb_use hT tw_1104) (hK.1 9 _ rfl).2 (va_recv hK (hG.one k28) (q := (RX8, TX8, 15)) rfl (q0 := 0) rfl) dX13_parameterNumbered_32 ?_
      exact W.aret (v := .ref (AD (20 + c9) k9)) hx hb hr (Or.inl ⟨_, rfl⟩) (Or.inr ⟨_, rfl⟩) (fun t ht hW => ⟨⟨(some (AD (20 + c9) k9)), _, rfl, ⟨(by rw [show paO v c9 iv = some k9 from ho9]; rfl), rfl⟩, mk_end hG ht⟩, hS.F ht⟩) hS.2.2 dX13_parameterNumbered_35
    · skip
      refine lv_null hx hb dX13_parameterNumbered_20 ?_
      exact W.aret (v := .null) hx hb hr (Or.inl ⟨_, rfl⟩) (Or.inl rfl) (fun t ht hW => ⟨⟨(none : Option Nat), _, rfl, ⟨(by rw [show paO v c9 iv = none from ix_no2 (by omega) c_17]; rfl), rfl⟩, mk_end hG ht⟩, hS.F ht⟩) hS.2.2 dX13_parameterNumbered_21

set_option maxHeartbeats 4000000 in
set_option maxRecDepth 100000 in
theorem c_H_parameterNumbered0 (l : Launch) (D : va_G) (cy : Nat → ClassId) (A : Nat → Prop) (X : State → Prop) (hst : mk_St A X) (hXT : ∀ U : State, X U → TB U) (e0 : Nat) (tk : Nat → Nat) (hXE : ∀ U : State, X U → ES e0 tk A U) (mi : Nat) (hXL : ∀ U : State, X U → EL e0 mi A U) (ax adK adV : Nat → Nat) (hXX : ∀ U : State, X U → TX ax adK adV tk A U) (G : Nat → Option va_E) (G0 : Nat → Option va_E) (Bx : Nat → Prop) (v : EdV) (z : PtV) (LA EA : Nat → Nat) (AD : Nat → Nat → Nat) (PI : Nat → Nat) (iv : Int32) (hP : EDP cy e0 tk G0 Bx G v z LA EA AD PI) : Met l yX13_parameterNumbered [.code yX13_parameterNumbered cX13_parameterNumbered 2 (some (.object "DescribeText$Parameter"))] ({ frames := 0, cells := 0, slots := 0, locals := 0 }) (mk_Pre D vwCl (tyL cy) A X G [.null, .int iv]) (va_Qq (fun (r : Option Nat) (G2 : Nat → Option va_E) => r = none ∧ G2 = G) (mk_B D vwCl A) A) 0 0 A := by
  refine Met.ofW (cc := cX13_parameterNumbered) (maxL := 2) (ret := (some (.object "DescribeText$Parameter"))) (by decide) rfl ?_
  intro p e s m args below meth c s₁ B hml hv
  obtain ⟨rfl, hG, hK, hA, hX⟩ := hv
  have hx := B.exec
  have hb := B.bytes
  have hr := B.returns
  have hlocks := B.notSynchronized
  have hT := hXT s hX
  have hown : s.vm.findClass RX13 = some m.cls := findClass_of_methodNamed B.named
  have hS : va_S A s.heap s.heap [] := va_S.rf
  have hE := hXE s hX
  have hl := lv_entry ([.null, .int iv]) (n := 2) (Nat.le_of_ble_eq_true rfl)
  rw [lg_entry_eq]
  generalize (lg_sl ([.null, .int iv]) ++ List.replicate (2 - (lg_sl ([.null, .int iv])).length) Slot.unset).toArray = ls at hl ⊢
  have hl : lv_has ls 2 [(0, .null), (1, .int iv)] := hl
  have hQ := hXX s hX
  refine lv_aload_nN hx hb dX13_parameterNumbered_0 rfl (lv_at hl 0 rfl) ?_
  refine lv_ifnullN (tgt := 20) hx hb dX13_parameterNumbered_1 (by decide) ?_
  refine lv_null hx hb dX13_parameterNumbered_20 ?_
  exact W.aret (v := .null) hx hb hr (Or.inl ⟨_, rfl⟩) (Or.inl rfl) (fun t ht hW => ⟨⟨(none : Option Nat), _, rfl, ⟨rfl, rfl⟩, mk_end hG ht⟩, hS.F ht⟩) hS.2.2 dX13_parameterNumbered_21

set_option maxHeartbeats 4000000 in
set_option maxRecDepth 100000 in
theorem c_H_numberInUse (l : Launch) (D : va_G) (cy : Nat → ClassId) (A : Nat → Prop) (X : State → Prop) (hst : mk_St A X) (hXT : ∀ U : State, X U → TB U) (e0 : Nat) (tk : Nat → Nat) (hXE : ∀ U : State, X U → ES e0 tk A U) (mi : Nat) (hXL : ∀ U : State, X U → EL e0 mi A U) (ax adK adV : Nat → Nat) (hXX : ∀ U : State, X U → TX ax adK adV tk A U) (G : Nat → Option va_E) (G0 : Nat → Option va_E) (Bx : Nat → Prop) (v : EdV) (z : PtV) (LA EA : Nat → Nat) (AD : Nat → Nat → Nat) (PI : Nat → Nat) (ed na : Nat) (mm9 cap : Nat) (nv : Nat → Int64) (ui : Option Nat) (w9 : Int32 × Option Nat) (xw : Int64) (hP : EDP cy e0 tk G0 Bx G v z LA EA AD PI) (hZ : ZF v AD z) (hed : G ed = some (.inr (3, [.ref (LA 0), .ref (LA 1), .ref (LA 2), .ref (LA 3), .ref (LA 4), .ref (LA 5), .ref na, .int (nI mm9), va_rf (ui.map (AD 1)), .int w9.1, va_rf (w9.2.map (AD 1))]))) (hna : G na = some (.inl (cy 2, cap, .inr (.inl nv)))) (hmc : mm9 ≤ cap) (hcap : cap ≤ 2048) (hui : ∀ k, ui = some k → k < v.nL) : Met l yX2_numberInUse [.code yX2_numberInUse cX2_numberInUse 6 (some .int)] ({ frames := 4, cells := 0, slots := 0, locals := 120 }) (mk_Pre D vwCl (tyL cy) A X G [.ref ed, .long xw]) (va_Qi (fun (r : Int32) (G2 : Nat → Option va_E) => r = nIU v xw 6 ui ∧ G2 = G) (mk_B D vwCl A) A) 0 0 A := by
  refine Met.ofW (cc := cX2_numberInUse) (maxL := 6) (ret := (some .int)) (by decide) rfl ?_
  intro p e s m args below meth c s₁ B hml hv
  obtain ⟨rfl, hG, hK, hA, hX⟩ := hv
  have hx := B.exec
  have hb := B.bytes
  have hr := B.returns
  have hlocks := B.notSynchronized
  have hT := hXT s hX
  have hown : s.vm.findClass RX2 = some m.cls := findClass_of_methodNamed B.named
  have hf_X5 : ∀ w ∈ u_ws RX5 TX5 6, w.before ([.ref ed, .long xw] : List Value).toArray s = true := tb_list hT fX5
  have hf_X10 : ∀ w ∈ u_ws RX10 TX10 6, w.before ([.ref ed, .long xw] : List Value).toArray s = true := tb_list hT fX10
  have hf_X2 : ∀ w ∈ u_ws RX2 TX2 11, w.before ([.ref ed, .long xw] : List Value).toArray s = true := tb_list hT fX2
  have hS : va_S A s.heap s.heap [] := va_S.rf
  have hE := hXE s hX
  have hl := lv_entry ([.ref ed, .long xw]) (n := 6) (Nat.le_of_ble_eq_true rfl)
  rw [lg_entry_eq]
  generalize (lg_sl ([.ref ed, .long xw]) ++ List.replicate (6 - (lg_sl ([.ref ed, .long xw])).length) Slot.unset).toArray = ls at hl ⊢
  have hl : lv_has ls 6 [(0, .ref ed), (1, .long xw)] := hl
  have hQ := hXX s hX
  obtain ⟨RF, hR⟩ : ∃ y, nIU v xw 6 ui = y := ⟨_, rfl⟩
  have hloop : ∀ (n : Nat) (j9 k9 : Nat), (n + j9 = 6) → (k9 < v.nL) → (nIU v xw n (some k9) = RF) → ∀ (Gv : Nat → Option va_E), (Gv ed = some (.inr (3, [.ref (LA 0), .ref (LA 1), .ref (LA 2), .ref (LA 3), .ref (LA 4), .ref (LA 5), .ref na, .int (nI mm9), va_rf (ui.map (AD 1)), .int w9.1, va_rf (w9.2.map (AD 1))]))) → (Gv na = some (.inl (cy 2, cap, .inr (.inl nv)))) → (Gv = G) → ∀ (H : Heap) (locs : List Loc), mm D vwCl A Gv H → va_S A s.heap H locs → ∀ ls : Array Slot, lv_has ls 6 [(0, .ref ed), (1, .long xw), (3, .ref (AD 1 k9)), (4, .int (nI j9))] → W p l e (headSpec [.code yX2_numberInUse cX2_numberInUse 6 (some .int)] ({ frames := 4, cells := 0, slots := 0, locals := 120 })).room s m ([.ref ed, .long xw] : List Value).toArray below meth c H locs 0 0 (MQ below (va_Qi (fun (r : Int32) (G2 : Nat → Option va_E) => r = nIU v xw 6 ui ∧ G2 = G) (mk_B D vwCl A) A) ([.ref ed, .long xw] : List Value).toArray s 0 0 A) (F0 m 8 ls []) := by
    intro n
    induction n with
    | zero =>
      intro j9 k9 hjn hk9 hq Gv v_ed v_na hGv H locs hG hS ls hl
      have hG9 := hG
      have hS9 := hS
      have hl9 := hl
      subst hGv
      have hG := hG9
      have hS := hS9
      have hl := hl9
      refine lv_iload hx hb dX2_numberInUse_8 (lv_at hl 3 rfl) ?_
      refine lv_bipush (v := 6) hx hb dX2_numberInUse_10 (by decide) ?_
      refine lv_icmp_ge (tgt := 49) hx hb dX2_numberInUse_12 (by decide) (fun c_12 => ?_) (fun c_12 => ?_)
      · skip
        refine lv_iconst (v := 0) hx hb dX2_numberInUse_49 (by decide) ?_
        exact W.iret (v := 0) hx hb hr (fun t ht hW => ⟨⟨_, _, rfl, ⟨(by rw [hR, ← hq]; rfl), rfl⟩, mk_end hG ht⟩, hS.F ht⟩) hS.2.2 dX2_numberInUse_50
      · skip
        exact absurd (by rw [show j9 = 6 by omega]; exact Int32.le_refl _) c_12
    | succ n ih =>
      intro j9 k9 hjn hk9 hq Gv v_ed v_na hGv H locs hG hS ls hl
      have hG9 := hG
      have hS9 := hS
      have hl9 := hl
      subst hGv
      have hG := hG9
      have hS := hS9
      have hl := hl9
      refine lv_iload hx hb dX2_numberInUse_8 (lv_at hl 3 rfl) ?_
      refine lv_bipush (v := 6) hx hb dX2_numberInUse_10 (by decide) ?_
      refine lv_icmp_ge (tgt := 49) hx hb dX2_numberInUse_12 (by decide) (fun c_12 => ?_) (fun c_12 => ?_)
      · skip
        exact absurd c_12 (nI_ge (b := 6) (by omega) (by decide))
      · skip
        refine lv_aload_n hx hb dX2_numberInUse_15 rfl (lv_at hl 2 rfl) ?_
        refine lv_ifnull hx hb dX2_numberInUse_16 ?_
        refine lv_aload_n hx hb dX2_numberInUse_19 rfl (lv_at hl 0 rfl) ?_
        refine lv_aload_n hx hb dX2_numberInUse_20 rfl (lv_at hl 2 rfl) ?_
        refine lv_lload_n hx hb dX2_numberInUse_21 rfl (lv_at hl 1 rfl) ?_
        refine va_callq (va_runV (As := [.ref (AD 1 k9), .long xw]) (rest := []) ⟨hx, hb, hml, hown, (fun _ h9 => absurd h9 List.not_mem_nil : ∀ w ∈ ([] : List Cond), w.before _ s = true)⟩ (c_X2_serviceIn l D cy A X hst hXT e0 tk hXE mi hXL Gv ed (LA 0) (LA 1) (LA 2) (LA 3) (LA 4) (LA 5) na (nI mm9) w9.1 (ui.map (AD 1)) (w9.2.map (AD 1)) (EA 2) v.nS (AD 2) (fun j => seF j (v.S j).2 (AD 1 (v.S j).1) (LA (20 + j))) (fun j => AD 1 (v.S j).1) (fun j => (v.S j).2.2.1) (AD 1 k9) xw v_ed hP.lsS (by have := hP.b; omega) hP.nmI) (tb_cw (C := RX2) 2 hT tw_1038 tw_110 tw_1035 tw_1037 tw_38 rfl rfl hq_X2_serviceIn ⟨Nat.le_of_ble_eq_true rfl, Nat.le_of_ble_eq_true rfl⟩) (mk_preC hst hG hK hA hX hS vc_3 v_ed) rfl rfl hl.1 rfl (lv_room (Nat.le_of_ble_eq_true rfl)) dX2_numberInUse_22 ⟨Nat.le_of_ble_eq_true rfl, Nat.le_of_ble_eq_true rfl⟩) hS (fun q _ h => h) (fun q h => h) (fun r21 G22 t H locs ht hvm hw hB hz1 hk1 hS => ?_)
        have hG : mm D vwCl A G22 H := by rw [← ht]; exact hB
        clear hB hz1 hk1 hvm ht
        obtain ⟨er21, hw⟩ := hw
        rw [hw] at hG
        have fr21 : r21 = (svI v k9 xw).map (AD 2) := by rw [← hP.svI (li := k9) (nm := xw) hk9]; exact er21
        rw [fr21]
        obtain ⟨y_hf23, hf23⟩ : ∃ y, svI v k9 xw = y := ⟨_, rfl⟩
        cases y_hf23 with
        | none =>
          refine W.eq (g2 := F0 m 25 ls [.null]) (by first | rfl | (rw [hf23]; rfl)) ?_
          refine lv_astoreN (lv' := [(5, .null), (0, .ref ed), (1, .long xw), (3, .ref (AD 1 k9)), (4, .int (nI j9))]) hx hb dX2_numberInUse_25 hl (by decide) rfl (fun ls hl => ?_)
          refine lv_aloadN hx hb dX2_numberInUse_27 (lv_at hl 0 rfl) ?_
          refine lv_ifnullN (tgt := 38) hx hb dX2_numberInUse_29 (by decide) ?_
          refine lv_aload_n hx hb dX2_numberInUse_38 rfl (lv_at hl 3 rfl) ?_
          have k25 : Gv (AD 1 k9) = some (.inr (6, [.int (nI (k9 + 1)), .int ((v.L k9).1), .long ((v.L k9).2.1), .long ((v.L k9).2.2.1), .int ((v.L k9).2.2.2), va_rf ((nx v k9).map (AD 1))])) := by rw [← hZ.1 k9 hk9]; exact hP.elL hk9
          refine mm_getN (v := va_rf ((nx v k9).map (AD 1))) hx hb hf_X5 (fun _ h9 => h9) hown hK hG k25 rfl 5 (by decide) (tb_use hT tw_697) (fun _ h9 => h9) rfl dX2_numberInUse_39 ?_
          obtain ⟨y_hf26, hf26⟩ : ∃ y, nx v k9 = y := ⟨_, rfl⟩
          cases y_hf26 with
          | none =>
            refine W.eq (g2 := F0 m 42 ls [.null]) (by first | rfl | (rw [hf26]; rfl)) ?_
            refine lv_astore_nN (lv' := [(3, .null), (5, .null), (0, .ref ed), (1, .long xw), (4, .int (nI j9))]) hx hb dX2_numberInUse_42 rfl hl (by decide) rfl (fun ls hl => ?_)
            obtain ⟨x28, ex28⟩ : ∃ y : Int32, y = (nI j9) + 1 := ⟨_, rfl⟩
            refine lv_iinc (v := x28) (lv' := [(4, .int x28), (3, .null), (5, .null), (0, .ref ed), (1, .long xw)]) hx hb dX2_numberInUse_43 hl (k := 4) rfl (by rw [ex28]; rfl) (by decide) rfl (fun ls hl => ?_)
            refine lv_goto (tgt := 8) hx hb dX2_numberInUse_46 (by decide) ?_
            refine lv_iload hx hb dX2_numberInUse_8 (lv_at hl 0 rfl) ?_
            refine lv_bipush (v := 6) hx hb dX2_numberInUse_10 (by decide) ?_
            refine lv_icmp_ge (tgt := 49) hx hb dX2_numberInUse_12 (by decide) (fun c_12 => ?_) (fun c_12 => ?_)
            · skip
              refine lv_iconst (v := 0) hx hb dX2_numberInUse_49 (by decide) ?_
              exact W.iret (v := 0) hx hb hr (fun t ht hW => ⟨⟨_, _, rfl, ⟨(by rw [hR, ← hq, nIU, hf23]; simp only []; rw [hf26]; cases n <;> rfl), rfl⟩, mk_end hG ht⟩, hS.F ht⟩) hS.2.2 dX2_numberInUse_50
            · skip
              refine lv_aload_nN hx hb dX2_numberInUse_15 rfl (lv_at hl 1 rfl) ?_
              refine lv_ifnullN (tgt := 49) hx hb dX2_numberInUse_16 (by decide) ?_
              refine lv_iconst (v := 0) hx hb dX2_numberInUse_49 (by decide) ?_
              exact W.iret (v := 0) hx hb hr (fun t ht hW => ⟨⟨_, _, rfl, ⟨(by rw [hR, ← hq, nIU, hf23]; simp only []; rw [hf26]; cases n <;> rfl), rfl⟩, mk_end hG ht⟩, hS.F ht⟩) hS.2.2 dX2_numberInUse_50
          | some j27 =>
            have hj29 := nx_lt hf26
            refine W.eq (g2 := F0 m 42 ls [.ref (AD 1 j27)]) (by first | rfl | (rw [hf26]; rfl)) ?_
            refine lv_astore_n (lv' := [(3, .ref (AD 1 j27)), (5, .null), (0, .ref ed), (1, .long xw), (4, .int (nI j9))]) hx hb dX2_numberInUse_42 rfl hl (by decide) rfl (fun ls hl => ?_)
            obtain ⟨x30, ex30⟩ : ∃ y : Int32, y = (nI j9) + 1 := ⟨_, rfl⟩
            refine lv_iinc (v := x30) (lv' := [(4, .int x30), (3, .ref (AD 1 j27)), (5, .null), (0, .ref ed), (1, .long xw)]) hx hb dX2_numberInUse_43 hl (k := 4) rfl (by rw [ex30]; rfl) (by decide) rfl (fun ls hl => ?_)
            refine lv_goto (tgt := 8) hx hb dX2_numberInUse_46 (by decide) ?_
            rw [show x30 = nI (j9 + 1) by rw [ex30]; exact (nI_succ j9).symm] at hl
            have hq2 : nIU v xw n (some j27) = RF := by rw [← hq, nIU, hf23]; simp only []; rw [hf26]
            exact ih (j9 + 1) j27 (by omega) hj29 hq2 Gv v_ed v_na rfl _ _ hG hS ls (lv_sub hl [3, 4, 1, 0] rfl)
        | some j24 =>
          have hj31 := svI_lt hf23
          refine W.eq (g2 := F0 m 25 ls [.ref (AD 2 j24)]) (by first | rfl | (rw [hf23]; rfl)) ?_
          refine lv_astore (lv' := [(5, .ref (AD 2 j24)), (0, .ref ed), (1, .long xw), (3, .ref (AD 1 k9)), (4, .int (nI j9))]) hx hb dX2_numberInUse_25 hl (by decide) rfl (fun ls hl => ?_)
          refine lv_aload hx hb dX2_numberInUse_27 (lv_at hl 0 rfl) ?_
          refine lv_ifnull hx hb dX2_numberInUse_29 ?_
          refine lv_aload hx hb dX2_numberInUse_32 (lv_at hl 0 rfl) ?_
          have k32 : Gv (AD 2 j24) = some (.inr (11, [.int (nI (j24 + 1)), .ref (AD 1 (v.S j24).1), .int ((v.S j24).2.1), .long ((v.S j24).2.2.1), .ref (LA (20 + j24)), .int ((v.S j24).2.2.2)])) := hP.elS hj31
          refine mm_getN (v := .int (nI (j24 + 1))) hx hb hf_X10 (fun _ h9 => h9) hown hK hG k32 rfl 0 (by decide) (tb_use hT tw_729) (fun _ h9 => h9) rfl dX2_numberInUse_34 ?_
          exact W.iret (v := (nI (j24 + 1))) hx hb hr (fun t ht hW => ⟨⟨_, _, rfl, ⟨(by rw [hR, ← hq, nIU, hf23]), rfl⟩, mk_end hG ht⟩, hS.F ht⟩) hS.2.2 dX2_numberInUse_37
  refine lv_aload_n hx hb dX2_numberInUse_0 rfl (lv_at hl 0 rfl) ?_
  refine mm_get (v := va_rf (ui.map (AD 1))) hx hb hf_X2 (fun _ h9 => h9) hown hK hG hed rfl 8 (by decide) (tb_use hT tw_297) (fun _ h9 => h9) rfl dX2_numberInUse_1 ?_
  obtain ⟨y_hf33, hf33⟩ : ∃ y, ui = y := ⟨_, rfl⟩
  cases y_hf33 with
  | none =>
    refine W.eq (g2 := F0 m 4 ls [.null]) (by first | rfl | (rw [hf33]; rfl)) ?_
    refine lv_astore_nN (lv' := [(3, .null), (0, .ref ed), (1, .long xw)]) hx hb dX2_numberInUse_4 rfl hl (by decide) rfl (fun ls hl => ?_)
    refine lv_iconst (v := 0) hx hb dX2_numberInUse_5 (by decide) ?_
    refine lv_istore (lv' := [(4, .int 0), (3, .null), (0, .ref ed), (1, .long xw)]) hx hb dX2_numberInUse_6 hl (by decide) rfl (fun ls hl => ?_)
    refine lv_iload hx hb dX2_numberInUse_8 (lv_at hl 0 rfl) ?_
    refine lv_bipush (v := 6) hx hb dX2_numberInUse_10 (by decide) ?_
    refine lv_icmp_ge (tgt := 49) hx hb dX2_numberInUse_12 (by decide) (fun c_12 => ?_) (fun c_12 => ?_)
    · skip
      refine lv_iconst (v := 0) hx hb dX2_numberInUse_49 (by decide) ?_
      exact W.iret (v := 0) hx hb hr (fun t ht hW => ⟨⟨_, _, rfl, ⟨(by rw [hf33]; rfl), rfl⟩, mk_end hG ht⟩, hS.F ht⟩) hS.2.2 dX2_numberInUse_50
    · skip
      refine lv_aload_nN hx hb dX2_numberInUse_15 rfl (lv_at hl 1 rfl) ?_
      refine lv_ifnullN (tgt := 49) hx hb dX2_numberInUse_16 (by decide) ?_
      refine lv_iconst (v := 0) hx hb dX2_numberInUse_49 (by decide) ?_
      exact W.iret (v := 0) hx hb hr (fun t ht hW => ⟨⟨_, _, rfl, ⟨(by rw [hf33]; rfl), rfl⟩, mk_end hG ht⟩, hS.F ht⟩) hS.2.2 dX2_numberInUse_50
  | some j34 =>
    have hj35 := hui _ hf33
    refine W.eq (g2 := F0 m 4 ls [.ref (AD 1 j34)]) (by first | rfl | (rw [hf33]; rfl)) ?_
    refine lv_astore_n (lv' := [(3, .ref (AD 1 j34)), (0, .ref ed), (1, .long xw)]) hx hb dX2_numberInUse_4 rfl hl (by decide) rfl (fun ls hl => ?_)
    refine lv_iconst (v := 0) hx hb dX2_numberInUse_5 (by decide) ?_
    refine lv_istore (lv' := [(4, .int 0), (3, .ref (AD 1 j34)), (0, .ref ed), (1, .long xw)]) hx hb dX2_numberInUse_6 hl (by decide) rfl (fun ls hl => ?_)
    exact hloop 6 0 j34 (by omega) hj35 (by rw [← hR, hf33]) G hed hna rfl _ _ hG hS ls (lv_sub hl [2, 3, 1, 0] rfl)

set_option maxHeartbeats 4000000 in
set_option maxRecDepth 100000 in
theorem c_H_service (l : Launch) (D : va_G) (cy : Nat → ClassId) (A : Nat → Prop) (X : State → Prop) (hst : mk_St A X) (hXT : ∀ U : State, X U → TB U) (e0 : Nat) (tk : Nat → Nat) (hXE : ∀ U : State, X U → ES e0 tk A U) (mi : Nat) (hXL : ∀ U : State, X U → EL e0 mi A U) (ax adK adV : Nat → Nat) (hXX : ∀ U : State, X U → TX ax adK adV tk A U) (G : Nat → Option va_E) (G0 : Nat → Option va_E) (Bx : Nat → Prop) (v : EdV) (z : PtV) (LA EA : Nat → Nat) (AD : Nat → Nat → Nat) (PI : Nat → Nat) (ed na : Nat) (mm9 cap : Nat) (nv : Nat → Int64) (ui : Option Nat) (w9 : Int32 × Option Nat) (o tx rd to se kp : Nat) (rg : Option Nat) (tl kc : Int32) (iv wv : Int32) (h0 : G o = some (.inr (14, [.ref tx, .ref rd, .ref to, .ref se, .ref kp, .int tl, .int kc, .ref ed, va_rf rg]))) (hP : EDP cy e0 tk G0 Bx G v z LA EA AD PI) (hZ : ZF v AD z) (hed : G ed = some (.inr (3, [.ref (LA 0), .ref (LA 1), .ref (LA 2), .ref (LA 3), .ref (LA 4), .ref (LA 5), .ref na, .int (nI mm9), va_rf (ui.map (AD 1)), .int w9.1, va_rf (w9.2.map (AD 1))]))) (hna : G na = some (.inl (cy 2, cap, .inr (.inl nv)))) (hmc : mm9 ≤ cap) (hcap : cap ≤ 2048) (hui : ∀ k, ui = some k → k < v.nL) : Met l yX13_service [.code yX13_service cX13_service 4 (some .int)] ({ frames := 5, cells := 0, slots := 0, locals := 150 }) (mk_Pre D vwCl (tyL cy) A X G [.ref o, .int iv, .int wv]) (va_Qi (fun (r : Int32) (G2 : Nat → Option va_E) => r = (match svO v iv with | none => -1 | some c => svA v (fun y => nof (fun j => decide (nv j = y)) mm9) ui c wv) ∧ G2 = G) (mk_B D vwCl A) A) 0 0 A := by
  refine Met.ofW (cc := cX13_service) (maxL := 4) (ret := (some .int)) (by decide) rfl ?_
  intro p e s m args below meth c s₁ B hml hv
  obtain ⟨rfl, hG, hK, hA, hX⟩ := hv
  have hx := B.exec
  have hb := B.bytes
  have hr := B.returns
  have hlocks := B.notSynchronized
  have hT := hXT s hX
  have hown : s.vm.findClass RX13 = some m.cls := findClass_of_methodNamed B.named
  have hf_X13 : ∀ w ∈ u_ws RX13 TX13 9, w.before ([.ref o, .int iv, .int wv] : List Value).toArray s = true := tb_list hT fX13
  have hf_X10 : ∀ w ∈ u_ws RX10 TX10 6, w.before ([.ref o, .int iv, .int wv] : List Value).toArray s = true := tb_list hT fX10
  have hf_X5 : ∀ w ∈ u_ws RX5 TX5 6, w.before ([.ref o, .int iv, .int wv] : List Value).toArray s = true := tb_list hT fX5
  have hS : va_S A s.heap s.heap [] := va_S.rf
  have hE := hXE s hX
  have hl := lv_entry ([.ref o, .int iv, .int wv]) (n := 4) (Nat.le_of_ble_eq_true rfl)
  rw [lg_entry_eq]
  generalize (lg_sl ([.ref o, .int iv, .int wv]) ++ List.replicate (4 - (lg_sl ([.ref o, .int iv, .int wv])).length) Slot.unset).toArray = ls at hl ⊢
  have hl : lv_has ls 4 [(0, .ref o), (1, .int iv), (2, .int wv)] := hl
  have hQ := hXX s hX
  refine lv_aload_n hx hb dX13_service_0 rfl (lv_at hl 0 rfl) ?_
  refine lv_iload_n hx hb dX13_service_1 rfl (lv_at hl 1 rfl) ?_
  refine va_callq (va_runV (As := [.int iv]) (rest := []) ⟨hx, hb, hml, hown, (fun _ h9 => absurd h9 List.not_mem_nil : ∀ w ∈ ([] : List Cond), w.before _ s = true)⟩ (c_H_serviceNumbered l D cy A X hst hXT e0 tk hXE mi hXL ax adK adV hXX G G0 Bx v z LA EA AD PI ed na mm9 cap nv ui w9 o tx rd to se kp rg tl kc iv h0 hP hZ hed hna hmc hcap hui) (tb_cw (C := RX13) 1 hT tw_1090 tw_105 tw_1087 tw_1089 tw_46 rfl rfl hq_X13_serviceNumbered ⟨Nat.le_of_ble_eq_true rfl, Nat.le_of_ble_eq_true rfl⟩) (mk_preC hst hG hK hA hX hS vc_14 h0) rfl rfl hl.1 rfl (lv_room (Nat.le_of_ble_eq_true rfl)) dX13_service_2 ⟨Nat.le_of_ble_eq_true rfl, Nat.le_of_ble_eq_true rfl⟩) hS (fun q _ h => h) (fun q h => h) (fun r21 G22 t H locs ht hvm hw hB hz1 hk1 hS => ?_)
  have hG : mm D vwCl A G22 H := by rw [← ht]; exact hB
  clear hB hz1 hk1 hvm ht
  obtain ⟨er21, hw⟩ := hw
  rw [hw] at hG
  rw [er21]
  obtain ⟨y_hf23, hf23⟩ : ∃ y, svO v iv = y := ⟨_, rfl⟩
  cases y_hf23 with
  | none =>
    refine W.eq (g2 := F0 m 5 ls [.null]) (by first | rfl | (rw [hf23]; rfl)) ?_
    refine lv_astore_nN (lv' := [(3, .null), (0, .ref o), (1, .int iv), (2, .int wv)]) hx hb dX13_service_5 rfl hl (by decide) rfl (fun ls hl => ?_)
    refine lv_aload_nN hx hb dX13_service_6 rfl (lv_at hl 0 rfl) ?_
    refine lv_ifnullN (tgt := 17) hx hb dX13_service_7 (by decide) ?_
    refine lv_iconst (v := (-1)) hx hb dX13_service_17 (by decide) ?_
    exact W.iret (v := (-1)) hx hb hr (fun t ht hW => ⟨⟨_, _, rfl, ⟨(by rw [hf23]), rfl⟩, mk_end hG ht⟩, hS.F ht⟩) hS.2.2 dX13_service_18
  | some j24 =>
    have hj25 := svO_lt hf23
    refine W.eq (g2 := F0 m 5 ls [.ref (AD 2 j24)]) (by first | rfl | (rw [hf23]; rfl)) ?_
    refine lv_astore_n (lv' := [(3, .ref (AD 2 j24)), (0, .ref o), (1, .int iv), (2, .int wv)]) hx hb dX13_service_5 rfl hl (by decide) rfl (fun ls hl => ?_)
    refine lv_aload_n hx hb dX13_service_6 rfl (lv_at hl 0 rfl) ?_
    refine lv_ifnull hx hb dX13_service_7 ?_
    refine lv_aload_n hx hb dX13_service_10 rfl (lv_at hl 1 rfl) ?_
    refine mm_get (v := .ref ed) hx hb hf_X13 (fun _ h9 => h9) hown hK hG h0 rfl 7 (by decide) (tb_use hT tw_218) (fun _ h9 => h9) rfl dX13_service_11 ?_
    refine lv_ifnonnull (tgt := 19) hx hb dX13_service_14 (by decide) ?_
    refine lv_iload_n hx hb dX13_service_19 rfl (lv_at hl 3 rfl) ?_
    by_cases sw_20 : wv.toInt < 0 ∨ 4 < wv.toInt
    · skip
      refine lv_tableOut (tgt := 101) hx hb dX13_service_20 sw_20 (by decide) ?_
      refine lv_bipush (v := (-2)) hx hb dX13_service_101 (by decide) ?_
      obtain ⟨n0, n1, n2, n3, n4⟩ := sw5n sw_20
      exact W.iret (v := (-2)) hx hb hr (fun t ht hW => ⟨⟨_, _, rfl, ⟨(by rw [hf23]; simp only [svA, if_neg n0, if_neg n1, if_neg n2, if_neg n3, if_neg n4]), rfl⟩, mk_end hG ht⟩, hS.F ht⟩) hS.2.2 dX13_service_103
    · skip
      have hlo : ¬ wv.toInt < 0 := fun z => sw_20 (Or.inl z)
      have hhi : ¬ 4 < wv.toInt := fun z => sw_20 (Or.inr z)
      have hcs : wv.toInt = 0 ∨ wv.toInt = 1 ∨ wv.toInt = 2 ∨ wv.toInt = 3 ∨ wv.toInt = 4 := by omega
      rcases hcs with sw_20 | sw_20 | sw_20 | sw_20 | sw_20
      · skip
        refine lv_tableIn (tgt := 56) hx hb dX13_service_20 hlo hhi (off := 36) (by rw [sw_20]; rfl) (by decide) ?_
        refine lv_aload_n hx hb dX13_service_56 rfl (lv_at hl 1 rfl) ?_
        refine mm_get (v := .ref ed) hx hb hf_X13 (fun _ h9 => h9) hown hK hG h0 rfl 7 (by decide) (tb_use hT tw_218) (fun _ h9 => h9) rfl dX13_service_57 ?_
        refine lv_aload_n hx hb dX13_service_60 rfl (lv_at hl 0 rfl) ?_
        have k26 : G (AD 2 j24) = some (.inr (11, [.int (nI (j24 + 1)), .ref (AD 1 (v.S j24).1), .int ((v.S j24).2.1), .long ((v.S j24).2.2.1), .ref (LA (20 + j24)), .int ((v.S j24).2.2.2)])) := hP.elS hj25
        refine mm_getN (v := .long ((v.S j24).2.2.1)) hx hb hf_X10 (fun _ h9 => h9) hown hK hG k26 rfl 3 (by decide) (tb_use hT tw_736) (fun _ h9 => h9) rfl dX13_service_61 ?_
        refine va_calli (va_runV (As := [.long ((v.S j24).2.2.1)]) (rest := []) ⟨hx, hb, hml, hown, (fun _ h9 => absurd h9 List.not_mem_nil : ∀ w ∈ ([] : List Cond), w.before _ s = true)⟩ (c_X2_numberOf l D cy A X hst hXT e0 tk hXE mi hXL G ed (LA 0) (LA 1) (LA 2) (LA 3) (LA 4) (LA 5) na w9.1 (ui.map (AD 1)) (w9.2.map (AD 1)) mm9 cap nv ((v.S j24).2.2.1) hed hna hmc (by omega)) (tb_cw (C := RX2) 1 hT tw_980 tw_110 tw_1092 tw_978 tw_979 rfl rfl hq_X2_numberOf ⟨Nat.le_of_ble_eq_true rfl, Nat.le_of_ble_eq_true rfl⟩) (mk_preC hst hG hK hA hX hS vc_3 hed) rfl rfl hl.1 rfl (lv_room (Nat.le_of_ble_eq_true rfl)) dX13_service_64 ⟨Nat.le_of_ble_eq_true rfl, Nat.le_of_ble_eq_true rfl⟩) hS (fun q _ h => h) (fun q h => h) (fun r27 G28 t H locs ht hvm hw hB hz1 hk1 hS => ?_)
        have hG : mm D vwCl A G28 H := by rw [← ht]; exact hB
        clear hB hz1 hk1 hvm ht
        obtain ⟨er27, hw⟩ := hw
        rw [hw] at hG
        have hxw : wv = nI 0 := sw5 (by decide) sw_20
        exact W.iret (v := r27) hx hb hr (fun t ht hW => ⟨⟨_, _, rfl, ⟨(by rw [hf23, hxw, er27]; rfl), rfl⟩, mk_end hG ht⟩, hS.F ht⟩) hS.2.2 dX13_service_67
      · skip
        refine lv_tableIn (tgt := 68) hx hb dX13_service_20 hlo hhi (off := 48) (by rw [sw_20]; rfl) (by decide) ?_
        refine lv_aload_n hx hb dX13_service_68 rfl (lv_at hl 0 rfl) ?_
        have k29 : G (AD 2 j24) = some (.inr (11, [.int (nI (j24 + 1)), .ref (AD 1 (v.S j24).1), .int ((v.S j24).2.1), .long ((v.S j24).2.2.1), .ref (LA (20 + j24)), .int ((v.S j24).2.2.2)])) := hP.elS hj25
        refine mm_getN (v := .int ((v.S j24).2.2.2)) hx hb hf_X10 (fun _ h9 => h9) hown hK hG k29 rfl 5 (by decide) (tb_use hT tw_743) (fun _ h9 => h9) rfl dX13_service_69 ?_
        have hxw : wv = nI 1 := sw5 (by decide) sw_20
        exact W.iret (v := (v.S j24).2.2.2) hx hb hr (fun t ht hW => ⟨⟨_, _, rfl, ⟨(by rw [hf23, hxw]; rfl), rfl⟩, mk_end hG ht⟩, hS.F ht⟩) hS.2.2 dX13_service_72
      · skip
        refine lv_tableIn (tgt := 73) hx hb dX13_service_20 hlo hhi (off := 53) (by rw [sw_20]; rfl) (by decide) ?_
        refine lv_aload_n hx hb dX13_service_73 rfl (lv_at hl 0 rfl) ?_
        have k30 : G (AD 2 j24) = some (.inr (11, [.int (nI (j24 + 1)), .ref (AD 1 (v.S j24).1), .int ((v.S j24).2.1), .long ((v.S j24).2.2.1), .ref (LA (20 + j24)), .int ((v.S j24).2.2.2)])) := hP.elS hj25
        refine mm_getN (v := .ref (LA (20 + j24))) hx hb hf_X10 (fun _ h9 => h9) hown hK hG k30 rfl 4 (by decide) (tb_use hT tw_739) (fun _ h9 => h9) rfl dX13_service_74 ?_
        obtain ⟨mo31, h_mo31, -⟩ := id (hP.lsP hj25)
        refine va_calli (va_runV (As := []) (rest := []) ⟨hx, hb, hml, hown, (fun _ h9 => absurd h9 List.not_mem_nil : ∀ w ∈ ([] : List Cond), w.before _ s = true)⟩ (c_LS_size l D cy A X hst hXT e0 tk hXE mi hXL G (LA (20 + j24)) (EA (20 + j24)) (v.nP j24) (AD (20 + j24)) (hP.lsP hj25)) (tb_cw (C := RJx4a65c) 0 hT tw_457 tw_113 tw_1031 tw_455 tw_456 rfl rfl hq_Jx4a65c_size_8abf5 ⟨Nat.le_of_ble_eq_true rfl, Nat.le_of_ble_eq_true rfl⟩) (mk_preC hst hG hK hA hX hS vc_1 h_mo31) rfl rfl hl.1 rfl (lv_room (Nat.le_of_ble_eq_true rfl)) dX13_service_77 ⟨Nat.le_of_ble_eq_true rfl, Nat.le_of_ble_eq_true rfl⟩) hS (fun q _ h => h) (fun q h => h) (fun r32 G33 t H locs ht hvm hw hB hz1 hk1 hS => ?_)
        have hG : mm D vwCl A G33 H := by rw [← ht]; exact hB
        clear hB hz1 hk1 hvm ht
        obtain ⟨rfl, hw⟩ := hw
        rw [hw] at hG
        have hxw : wv = nI 2 := sw5 (by decide) sw_20
        exact W.iret (v := (nI (v.nP j24))) hx hb hr (fun t ht hW => ⟨⟨_, _, rfl, ⟨(by rw [hf23, hxw]; rfl), rfl⟩, mk_end hG ht⟩, hS.F ht⟩) hS.2.2 dX13_service_80
      · skip
        refine lv_tableIn (tgt := 81) hx hb dX13_service_20 hlo hhi (off := 61) (by rw [sw_20]; rfl) (by decide) ?_
        refine lv_aload_n hx hb dX13_service_81 rfl (lv_at hl 0 rfl) ?_
        have k34 : G (AD 2 j24) = some (.inr (11, [.int (nI (j24 + 1)), .ref (AD 1 (v.S j24).1), .int ((v.S j24).2.1), .long ((v.S j24).2.2.1), .ref (LA (20 + j24)), .int ((v.S j24).2.2.2)])) := hP.elS hj25
        refine mm_getN (v := .ref (AD 1 (v.S j24).1)) hx hb hf_X10 (fun _ h9 => h9) hown hK hG k34 rfl 1 (by decide) (tb_use hT tw_731) (fun _ h9 => h9) rfl dX13_service_82 ?_
        have k35 : G (AD 1 (v.S j24).1) = some (.inr (6, [.int (nI ((v.S j24).1 + 1)), .int ((v.L ((v.S j24).1)).1), .long ((v.L ((v.S j24).1)).2.1), .long ((v.L ((v.S j24).1)).2.2.1), .int ((v.L ((v.S j24).1)).2.2.2), va_rf ((nx v ((v.S j24).1)).map (AD 1))])) := by rw [← hZ.1 ((v.S j24).1) (hP.sl j24 hj25)]; exact hP.elL (hP.sl j24 hj25)
        refine mm_getN (v := .int (nI ((v.S j24).1 + 1))) hx hb hf_X5 (fun _ h9 => h9) hown hK hG k35 rfl 0 (by decide) (tb_use hT tw_686) (fun _ h9 => h9) rfl dX13_service_85 ?_
        have hxw : wv = nI 3 := sw5 (by decide) sw_20
        exact W.iret (v := (nI ((v.S j24).1 + 1))) hx hb hr (fun t ht hW => ⟨⟨_, _, rfl, ⟨(by rw [hf23, hxw]; rfl), rfl⟩, mk_end hG ht⟩, hS.F ht⟩) hS.2.2 dX13_service_88
      · skip
        refine lv_tableIn (tgt := 89) hx hb dX13_service_20 hlo hhi (off := 69) (by rw [sw_20]; rfl) (by decide) ?_
        refine lv_aload_n hx hb dX13_service_89 rfl (lv_at hl 1 rfl) ?_
        refine mm_get (v := .ref ed) hx hb hf_X13 (fun _ h9 => h9) hown hK hG h0 rfl 7 (by decide) (tb_use hT tw_218) (fun _ h9 => h9) rfl dX13_service_90 ?_
        refine lv_aload_n hx hb dX13_service_93 rfl (lv_at hl 0 rfl) ?_
        have k36 : G (AD 2 j24) = some (.inr (11, [.int (nI (j24 + 1)), .ref (AD 1 (v.S j24).1), .int ((v.S j24).2.1), .long ((v.S j24).2.2.1), .ref (LA (20 + j24)), .int ((v.S j24).2.2.2)])) := hP.elS hj25
        refine mm_getN (v := .long ((v.S j24).2.2.1)) hx hb hf_X10 (fun _ h9 => h9) hown hK hG k36 rfl 3 (by decide) (tb_use hT tw_736) (fun _ h9 => h9) rfl dX13_service_94 ?_
        refine va_calli (va_runV (As := [.long ((v.S j24).2.2.1)]) (rest := []) ⟨hx, hb, hml, hown, (fun _ h9 => absurd h9 List.not_mem_nil : ∀ w ∈ ([] : List Cond), w.before _ s = true)⟩ (c_H_numberInUse l D cy A X hst hXT e0 tk hXE mi hXL ax adK adV hXX G G0 Bx v z LA EA AD PI ed na mm9 cap nv ui w9 ((v.S j24).2.2.1) hP hZ hed hna hmc hcap hui) (tb_cw (C := RX2) 1 hT tw_1096 tw_110 tw_1093 tw_1094 tw_1095 rfl rfl hq_X2_numberInUse ⟨Nat.le_of_ble_eq_true rfl, Nat.le_of_ble_eq_true rfl⟩) (mk_preC hst hG hK hA hX hS vc_3 hed) rfl rfl hl.1 rfl (lv_room (Nat.le_of_ble_eq_true rfl)) dX13_service_97 ⟨Nat.le_of_ble_eq_true rfl, Nat.le_of_ble_eq_true rfl⟩) hS (fun q _ h => h) (fun q h => h) (fun r37 G38 t H locs ht hvm hw hB hz1 hk1 hS => ?_)
        have hG : mm D vwCl A G38 H := by rw [← ht]; exact hB
        clear hB hz1 hk1 hvm ht
        obtain ⟨er37, hw⟩ := hw
        rw [hw] at hG
        have hxw : wv = nI 4 := sw5 (by decide) sw_20
        exact W.iret (v := r37) hx hb hr (fun t ht hW => ⟨⟨_, _, rfl, ⟨(by rw [hf23, hxw, er37]; rfl), rfl⟩, mk_end hG ht⟩, hS.F ht⟩) hS.2.2 dX13_service_100

set_option maxHeartbeats 4000000 in
set_option maxRecDepth 100000 in
theorem c_H_parameter (l : Launch) (D : va_G) (cy : Nat → ClassId) (A : Nat → Prop) (X : State → Prop) (hst : mk_St A X) (hXT : ∀ U : State, X U → TB U) (e0 : Nat) (tk : Nat → Nat) (hXE : ∀ U : State, X U → ES e0 tk A U) (mi : Nat) (hXL : ∀ U : State, X U → EL e0 mi A U) (ax adK adV : Nat → Nat) (hXX : ∀ U : State, X U → TX ax adK adV tk A U) (G : Nat → Option va_E) (G0 : Nat → Option va_E) (Bx : Nat → Prop) (v : EdV) (z : PtV) (LA EA : Nat → Nat) (AD : Nat → Nat → Nat) (PI : Nat → Nat) (ed na : Nat) (mm9 cap : Nat) (nv : Nat → Int64) (ui : Option Nat) (w9 : Int32 × Option Nat) (o tx rd to se kp : Nat) (rg : Option Nat) (tl kc : Int32) (iv jv wv : Int32) (h0 : G o = some (.inr (14, [.ref tx, .ref rd, .ref to, .ref se, .ref kp, .int tl, .int kc, .ref ed, va_rf rg]))) (hP : EDP cy e0 tk G0 Bx G v z LA EA AD PI) (hZ : ZF v AD z) (hed : G ed = some (.inr (3, [.ref (LA 0), .ref (LA 1), .ref (LA 2), .ref (LA 3), .ref (LA 4), .ref (LA 5), .ref na, .int (nI mm9), va_rf (ui.map (AD 1)), .int w9.1, va_rf (w9.2.map (AD 1))]))) (hna : G na = some (.inl (cy 2, cap, .inr (.inl nv)))) (hmc : mm9 ≤ cap) (hcap : cap ≤ 2048) (hui : ∀ k, ui = some k → k < v.nL) : Met l yX13_parameter [.code yX13_parameter cX13_parameter 5 (some .int)] ({ frames := 5, cells := 0, slots := 0, locals := 150 }) (mk_Pre D vwCl (tyL cy) A X G [.ref o, .int iv, .int jv, .int wv]) (va_Qi (fun (r : Int32) (G2 : Nat → Option va_E) => r = (match svO v iv with | none => -1 | some c => match paO v c jv with | none => -1 | some p => paA v (fun y => nof (fun j => decide (nv j = y)) mm9) c p wv) ∧ G2 = G) (mk_B D vwCl A) A) 0 0 A := by
  refine Met.ofW (cc := cX13_parameter) (maxL := 5) (ret := (some .int)) (by decide) rfl ?_
  intro p e s m args below meth c s₁ B hml hv
  obtain ⟨rfl, hG, hK, hA, hX⟩ := hv
  have hx := B.exec
  have hb := B.bytes
  have hr := B.returns
  have hlocks := B.notSynchronized
  have hT := hXT s hX
  have hown : s.vm.findClass RX13 = some m.cls := findClass_of_methodNamed B.named
  have hf_X13 : ∀ w ∈ u_ws RX13 TX13 9, w.before ([.ref o, .int iv, .int jv, .int wv] : List Value).toArray s = true := tb_list hT fX13
  have hf_X8 : ∀ w ∈ u_ws RX8 TX8 15, w.before ([.ref o, .int iv, .int jv, .int wv] : List Value).toArray s = true := tb_list hT fX8
  have hf_X1 : ∀ w ∈ u_ws RX1 TX1 10, w.before ([.ref o, .int iv, .int jv, .int wv] : List Value).toArray s = true := tb_list hT fX1
  have hS : va_S A s.heap s.heap [] := va_S.rf
  have hE := hXE s hX
  have hl := lv_entry ([.ref o, .int iv, .int jv, .int wv]) (n := 5) (Nat.le_of_ble_eq_true rfl)
  rw [lg_entry_eq]
  generalize (lg_sl ([.ref o, .int iv, .int jv, .int wv]) ++ List.replicate (5 - (lg_sl ([.ref o, .int iv, .int jv, .int wv])).length) Slot.unset).toArray = ls at hl ⊢
  have hl : lv_has ls 5 [(0, .ref o), (1, .int iv), (2, .int jv), (3, .int wv)] := hl
  have hQ := hXX s hX
  refine lv_aload_n hx hb dX13_parameter_0 rfl (lv_at hl 0 rfl) ?_
  refine lv_iload_n hx hb dX13_parameter_1 rfl (lv_at hl 1 rfl) ?_
  refine va_callq (va_runV (As := [.int iv]) (rest := []) ⟨hx, hb, hml, hown, (fun _ h9 => absurd h9 List.not_mem_nil : ∀ w ∈ ([] : List Cond), w.before _ s = true)⟩ (c_H_serviceNumbered l D cy A X hst hXT e0 tk hXE mi hXL ax adK adV hXX G G0 Bx v z LA EA AD PI ed na mm9 cap nv ui w9 o tx rd to se kp rg tl kc iv h0 hP hZ hed hna hmc hcap hui) (tb_cw (C := RX13) 1 hT tw_1090 tw_105 tw_1087 tw_1089 tw_46 rfl rfl hq_X13_serviceNumbered ⟨Nat.le_of_ble_eq_true rfl, Nat.le_of_ble_eq_true rfl⟩) (mk_preC hst hG hK hA hX hS vc_14 h0) rfl rfl hl.1 rfl (lv_room (Nat.le_of_ble_eq_true rfl)) dX13_parameter_2 ⟨Nat.le_of_ble_eq_true rfl, Nat.le_of_ble_eq_true rfl⟩) hS (fun q _ h => h) (fun q h => h) (fun r21 G22 t H locs ht hvm hw hB hz1 hk1 hS => ?_)
  have hG : mm D vwCl A G22 H := by rw [← ht]; exact hB
  clear hB hz1 hk1 hvm ht
  obtain ⟨er21, hw⟩ := hw
  rw [hw] at hG
  rw [er21]
  refine lv_iload_n hx hb dX13_parameter_5 rfl (lv_at hl 2 rfl) ?_
  obtain ⟨y_hf23, hf23⟩ : ∃ y, svO v iv = y := ⟨_, rfl⟩
  cases y_hf23 with
  | none =>
    refine W.eq (g2 := F0 m 6 ls [.int jv, .null]) (by first | rfl | (rw [hf23]; rfl)) ?_
    refine va_callq (va_runS (As := [.null, .int jv]) (rest := []) ⟨hx, hb, hml, hown, (fun _ h9 => absurd h9 List.not_mem_nil : ∀ w ∈ ([] : List Cond), w.before _ s = true)⟩ (c_H_parameterNumbered0 l D cy A X hst hXT e0 tk hXE mi hXL ax adK adV hXX G G0 Bx v z LA EA AD PI jv hP) (tb_cs 2 hT tw_1103 tw_105 tw_1101 tw_1102 rfl rfl hq_X13_parameterNumbered ⟨Nat.le_of_ble_eq_true rfl, Nat.le_of_ble_eq_true rfl⟩) (mk_preS hst hG hK hA hX hS) rfl rfl hl.1 rfl (lv_room (Nat.le_of_ble_eq_true rfl)) dX13_parameter_6 ⟨Nat.le_of_ble_eq_true rfl, Nat.le_of_ble_eq_true rfl⟩) hS (fun q _ h => h) (fun q h => h) (fun r25 G26 t H locs ht hvm hw hB hz1 hk1 hS => ?_)
    have hG : mm D vwCl A G26 H := by rw [← ht]; exact hB
    clear hB hz1 hk1 hvm ht
    obtain ⟨rfl, hw⟩ := hw
    rw [hw] at hG
    refine W.eq (g2 := F0 m 9 ls [.null]) rfl ?_
    refine lv_astoreN (lv' := [(4, .null), (0, .ref o), (1, .int iv), (2, .int jv), (3, .int wv)]) hx hb dX13_parameter_9 hl (by decide) rfl (fun ls hl => ?_)
    refine lv_aloadN hx hb dX13_parameter_11 (lv_at hl 0 rfl) ?_
    refine lv_ifnullN (tgt := 23) hx hb dX13_parameter_13 (by decide) ?_
    refine lv_iconst (v := (-1)) hx hb dX13_parameter_23 (by decide) ?_
    exact W.iret (v := (-1)) hx hb hr (fun t ht hW => ⟨⟨_, _, rfl, ⟨(by rw [hf23]), rfl⟩, mk_end hG ht⟩, hS.F ht⟩) hS.2.2 dX13_parameter_24
  | some j24 =>
    have hj27 := svO_lt hf23
    refine W.eq (g2 := F0 m 6 ls [.int jv, .ref (AD 2 j24)]) (by first | rfl | (rw [hf23]; rfl)) ?_
    refine va_callq (va_runS (As := [.ref (AD 2 j24), .int jv]) (rest := []) ⟨hx, hb, hml, hown, (fun _ h9 => absurd h9 List.not_mem_nil : ∀ w ∈ ([] : List Cond), w.before _ s = true)⟩ (c_H_parameterNumbered l D cy A X hst hXT e0 tk hXE mi hXL ax adK adV hXX G G0 Bx v z LA EA AD PI j24 jv hP hZ hj27) (tb_cs 2 hT tw_1103 tw_105 tw_1101 tw_1102 rfl rfl hq_X13_parameterNumbered ⟨Nat.le_of_ble_eq_true rfl, Nat.le_of_ble_eq_true rfl⟩) (mk_preS hst hG hK hA hX hS) rfl rfl hl.1 rfl (lv_room (Nat.le_of_ble_eq_true rfl)) dX13_parameter_6 ⟨Nat.le_of_ble_eq_true rfl, Nat.le_of_ble_eq_true rfl⟩) hS (fun q _ h => h) (fun q h => h) (fun r28 G29 t H locs ht hvm hw hB hz1 hk1 hS => ?_)
    have hG : mm D vwCl A G29 H := by rw [← ht]; exact hB
    clear hB hz1 hk1 hvm ht
    obtain ⟨er28, hw⟩ := hw
    rw [hw] at hG
    rw [er28]
    obtain ⟨y_hf30, hf30⟩ : ∃ y, paO v j24 jv = y := ⟨_, rfl⟩
    cases y_hf30 with
    | none =>
      refine W.eq (g2 := F0 m 9 ls [.null]) (by first | rfl | (rw [hf30]; rfl)) ?_
      refine lv_astoreN (lv' := [(4, .null), (0, .ref o), (1, .int iv), (2, .int jv), (3, .int wv)]) hx hb dX13_parameter_9 hl (by decide) rfl (fun ls hl => ?_)
      refine lv_aloadN hx hb dX13_parameter_11 (lv_at hl 0 rfl) ?_
      refine lv_ifnullN (tgt := 23) hx hb dX13_parameter_13 (by decide) ?_
      refine lv_iconst (v := (-1)) hx hb dX13_parameter_23 (by decide) ?_
      exact W.iret (v := (-1)) hx hb hr (fun t ht hW => ⟨⟨_, _, rfl, ⟨(by rw [hf23]; simp only []; rw [hf30]), rfl⟩, mk_end hG ht⟩, hS.F ht⟩) hS.2.2 dX13_parameter_24
    | some j31 =>
      have hj32 := paO_lt hf30
      refine W.eq (g2 := F0 m 9 ls [.ref (AD (20 + j24) j31)]) (by first | rfl | (rw [hf30]; rfl)) ?_
      refine lv_astore (lv' := [(4, .ref (AD (20 + j24) j31)), (0, .ref o), (1, .int iv), (2, .int jv), (3, .int wv)]) hx hb dX13_parameter_9 hl (by decide) rfl (fun ls hl => ?_)
      refine lv_aload hx hb dX13_parameter_11 (lv_at hl 0 rfl) ?_
      refine lv_ifnull hx hb dX13_parameter_13 ?_
      refine lv_aload_n hx hb dX13_parameter_16 rfl (lv_at hl 1 rfl) ?_
      refine mm_get (v := .ref ed) hx hb hf_X13 (fun _ h9 => h9) hown hK hG h0 rfl 7 (by decide) (tb_use hT tw_218) (fun _ h9 => h9) rfl dX13_parameter_17 ?_
      refine lv_ifnonnull (tgt := 25) hx hb dX13_parameter_20 (by decide) ?_
      refine lv_iload_n hx hb dX13_parameter_25 rfl (lv_at hl 4 rfl) ?_
      by_cases sw_26 : wv.toInt < 0 ∨ 4 < wv.toInt
      · skip
        refine lv_tableOut (tgt := 127) hx hb dX13_parameter_26 sw_26 (by decide) ?_
        refine lv_bipush (v := (-2)) hx hb dX13_parameter_127 (by decide) ?_
        obtain ⟨n0, n1, n2, n3, n4⟩ := sw5n sw_26
        exact W.iret (v := (-2)) hx hb hr (fun t ht hW => ⟨⟨_, _, rfl, ⟨(by rw [hf23]; simp only []; rw [hf30]; simp only [paA, if_neg n0, if_neg n1, if_neg n2, if_neg n3, if_neg n4]), rfl⟩, mk_end hG ht⟩, hS.F ht⟩) hS.2.2 dX13_parameter_129
      · skip
        have hlo : ¬ wv.toInt < 0 := fun z => sw_26 (Or.inl z)
        have hhi : ¬ 4 < wv.toInt := fun z => sw_26 (Or.inr z)
        have hcs : wv.toInt = 0 ∨ wv.toInt = 1 ∨ wv.toInt = 2 ∨ wv.toInt = 3 ∨ wv.toInt = 4 := by omega
        rcases hcs with sw_26 | sw_26 | sw_26 | sw_26 | sw_26
        · skip
          refine lv_tableIn (tgt := 60) hx hb dX13_parameter_26 hlo hhi (off := 34) (by rw [sw_26]; rfl) (by decide) ?_
          refine lv_aload_n hx hb dX13_parameter_60 rfl (lv_at hl 1 rfl) ?_
          refine mm_get (v := .ref ed) hx hb hf_X13 (fun _ h9 => h9) hown hK hG h0 rfl 7 (by decide) (tb_use hT tw_218) (fun _ h9 => h9) rfl dX13_parameter_61 ?_
          refine lv_aload hx hb dX13_parameter_64 (lv_at hl 0 rfl) ?_
          have k33 : G (AD (20 + j24) j31) = some (.inr (9, [.int (nI (j31 + 1)), .int ((v.P j24 j31).1), .long ((v.P j24 j31).2.1), .long ((v.P j24 j31).2.2.1), .int ((v.P j24 j31).2.2.2.1), va_rf ((cdN v ((v.P j24 j31).2.2.1)).map (AD 0)), .int ((v.P j24 j31).2.2.2.2.1), .long ((v.P j24 j31).2.2.2.2.2.1), .int ((v.P j24 j31).2.2.2.2.2.2.1), va_rf ((peI v j24 j31).map (AD (20 + j24))), .int ((v.P j24 j31).2.2.2.2.2.2.2), .int ((z.pd j24 j31).1), .int ((z.pd j24 j31).2.1), .long ((z.pd j24 j31).2.2.1), .long ((z.pd j24 j31).2.2.2)])) := by rw [← (hZ.2.2.1 j24 hj27 j31 hj32).1, ← (hZ.2.2.1 j24 hj27 j31 hj32).2]; exact hP.elP hj27 hj32
          refine mm_getN (v := .long ((v.P j24 j31).2.1)) hx hb hf_X8 (fun _ h9 => h9) hown hK hG k33 rfl 2 (by decide) (tb_use hT tw_777) (fun _ h9 => h9) rfl dX13_parameter_66 ?_
          refine va_calli (va_runV (As := [.long ((v.P j24 j31).2.1)]) (rest := []) ⟨hx, hb, hml, hown, (fun _ h9 => absurd h9 List.not_mem_nil : ∀ w ∈ ([] : List Cond), w.before _ s = true)⟩ (c_X2_numberOf l D cy A X hst hXT e0 tk hXE mi hXL G ed (LA 0) (LA 1) (LA 2) (LA 3) (LA 4) (LA 5) na w9.1 (ui.map (AD 1)) (w9.2.map (AD 1)) mm9 cap nv ((v.P j24 j31).2.1) hed hna hmc (by omega)) (tb_cw (C := RX2) 1 hT tw_980 tw_110 tw_1092 tw_978 tw_979 rfl rfl hq_X2_numberOf ⟨Nat.le_of_ble_eq_true rfl, Nat.le_of_ble_eq_true rfl⟩) (mk_preC hst hG hK hA hX hS vc_3 hed) rfl rfl hl.1 rfl (lv_room (Nat.le_of_ble_eq_true rfl)) dX13_parameter_69 ⟨Nat.le_of_ble_eq_true rfl, Nat.le_of_ble_eq_true rfl⟩) hS (fun q _ h => h) (fun q h => h) (fun r34 G35 t H locs ht hvm hw hB hz1 hk1 hS => ?_)
          have hG : mm D vwCl A G35 H := by rw [← ht]; exact hB
          clear hB hz1 hk1 hvm ht
          obtain ⟨er34, hw⟩ := hw
          rw [hw] at hG
          have hxw : wv = nI 0 := sw5 (by decide) sw_26
          exact W.iret (v := r34) hx hb hr (fun t ht hW => ⟨⟨_, _, rfl, ⟨(by rw [hf23]; simp only []; rw [hf30]; simp only []; rw [hxw, er34]; rfl), rfl⟩, mk_end hG ht⟩, hS.F ht⟩) hS.2.2 dX13_parameter_72
        · skip
          refine lv_tableIn (tgt := 73) hx hb dX13_parameter_26 hlo hhi (off := 47) (by rw [sw_26]; rfl) (by decide) ?_
          refine lv_aload hx hb dX13_parameter_73 (lv_at hl 0 rfl) ?_
          have k36 : G (AD (20 + j24) j31) = some (.inr (9, [.int (nI (j31 + 1)), .int ((v.P j24 j31).1), .long ((v.P j24 j31).2.1), .long ((v.P j24 j31).2.2.1), .int ((v.P j24 j31).2.2.2.1), va_rf ((cdN v ((v.P j24 j31).2.2.1)).map (AD 0)), .int ((v.P j24 j31).2.2.2.2.1), .long ((v.P j24 j31).2.2.2.2.2.1), .int ((v.P j24 j31).2.2.2.2.2.2.1), va_rf ((peI v j24 j31).map (AD (20 + j24))), .int ((v.P j24 j31).2.2.2.2.2.2.2), .int ((z.pd j24 j31).1), .int ((z.pd j24 j31).2.1), .long ((z.pd j24 j31).2.2.1), .long ((z.pd j24 j31).2.2.2)])) := by rw [← (hZ.2.2.1 j24 hj27 j31 hj32).1, ← (hZ.2.2.1 j24 hj27 j31 hj32).2]; exact hP.elP hj27 hj32
          refine mm_getN (v := va_rf ((cdN v ((v.P j24 j31).2.2.1)).map (AD 0))) hx hb hf_X8 (fun _ h9 => h9) hown hK hG k36 rfl 5 (by decide) (tb_use hT tw_786) (fun _ h9 => h9) rfl dX13_parameter_75 ?_
          obtain ⟨y_hf37, hf37⟩ : ∃ y, cdN v ((v.P j24 j31).2.2.1) = y := ⟨_, rfl⟩
          cases y_hf37 with
          | none =>
            refine W.eq (g2 := F0 m 78 ls [.null]) (by first | rfl | (rw [hf37]; rfl)) ?_
            refine lv_ifnonnullN hx hb dX13_parameter_78 ?_
            refine lv_iconst (v := 0) hx hb dX13_parameter_81 (by decide) ?_
            refine lv_goto (tgt := 93) hx hb dX13_parameter_82 (by decide) ?_
            have hxw : wv = nI 1 := sw5 (by decide) sw_26
            exact W.iret (v := 0) hx hb hr (fun t ht hW => ⟨⟨_, _, rfl, ⟨(by rw [hf23]; simp only []; rw [hf30]; simp only []; rw [hxw, show paA v (fun y => nof (fun j => decide (nv j = y)) mm9) j24 j31 (nI 1) = nu1 (cdN v ((v.P j24 j31).2.2.1)) from rfl, hf37]; rfl), rfl⟩, mk_end hG ht⟩, hS.F ht⟩) hS.2.2 dX13_parameter_93
          | some j38 =>
            have hj39 := cdN_lt hf37
            refine W.eq (g2 := F0 m 78 ls [.ref (AD 0 j38)]) (by first | rfl | (rw [hf37]; rfl)) ?_
            refine lv_ifnonnull (tgt := 85) hx hb dX13_parameter_78 (by decide) ?_
            refine lv_aload hx hb dX13_parameter_85 (lv_at hl 0 rfl) ?_
            refine mm_getN (v := va_rf ((cdN v ((v.P j24 j31).2.2.1)).map (AD 0))) hx hb hf_X8 (fun _ h9 => h9) hown hK hG k36 rfl 5 (by decide) (tb_use hT tw_786) (fun _ h9 => h9) rfl dX13_parameter_87 ?_
            refine W.eq (g2 := F0 m 90 ls [.ref (AD 0 j38)]) (by first | rfl | (rw [hf37]; rfl)) ?_
            have k40 : G (AD 0 j38) = some (.inr (2, [.int (nI (j38 + 1)), .int ((v.C j38).1.1), .long ((v.C j38).1.2.1), .ref (LA (6 + j38)), .int ((v.C j38).1.2.2), .int ((v.C j38).2.1), .int ((v.C j38).2.2.1), .long ((v.C j38).2.2.2.1), .long ((v.C j38).2.2.2.2.1), .long ((v.C j38).2.2.2.2.2)])) := hP.elC hj39
            refine mm_getN (v := .int (nI (j38 + 1))) hx hb hf_X1 (fun _ h9 => h9) hown hK hG k40 rfl 0 (by decide) (tb_use hT tw_492) (fun _ h9 => h9) rfl dX13_parameter_90 ?_
            have hxw : wv = nI 1 := sw5 (by decide) sw_26
            exact W.iret (v := (nI (j38 + 1))) hx hb hr (fun t ht hW => ⟨⟨_, _, rfl, ⟨(by rw [hf23]; simp only []; rw [hf30]; simp only []; rw [hxw, show paA v (fun y => nof (fun j => decide (nv j = y)) mm9) j24 j31 (nI 1) = nu1 (cdN v ((v.P j24 j31).2.2.1)) from rfl, hf37]; rfl), rfl⟩, mk_end hG ht⟩, hS.F ht⟩) hS.2.2 dX13_parameter_93
        · skip
          refine lv_tableIn (tgt := 94) hx hb dX13_parameter_26 hlo hhi (off := 68) (by rw [sw_26]; rfl) (by decide) ?_
          refine lv_aload hx hb dX13_parameter_94 (lv_at hl 0 rfl) ?_
          have k41 : G (AD (20 + j24) j31) = some (.inr (9, [.int (nI (j31 + 1)), .int ((v.P j24 j31).1), .long ((v.P j24 j31).2.1), .long ((v.P j24 j31).2.2.1), .int ((v.P j24 j31).2.2.2.1), va_rf ((cdN v ((v.P j24 j31).2.2.1)).map (AD 0)), .int ((v.P j24 j31).2.2.2.2.1), .long ((v.P j24 j31).2.2.2.2.2.1), .int ((v.P j24 j31).2.2.2.2.2.2.1), va_rf ((peI v j24 j31).map (AD (20 + j24))), .int ((v.P j24 j31).2.2.2.2.2.2.2), .int ((z.pd j24 j31).1), .int ((z.pd j24 j31).2.1), .long ((z.pd j24 j31).2.2.1), .long ((z.pd j24 j31).2.2.2)])) := by rw [← (hZ.2.2.1 j24 hj27 j31 hj32).1, ← (hZ.2.2.1 j24 hj27 j31 hj32).2]; exact hP.elP hj27 hj32
          refine mm_getN (v := .int ((v.P j24 j31).2.2.2.2.1)) hx hb hf_X8 (fun _ h9 => h9) hown hK hG k41 rfl 6 (by decide) (tb_use hT tw_789) (fun _ h9 => h9) rfl dX13_parameter_96 ?_
          have hxw : wv = nI 2 := sw5 (by decide) sw_26
          exact W.iret (v := (v.P j24 j31).2.2.2.2.1) hx hb hr (fun t ht hW => ⟨⟨_, _, rfl, ⟨(by rw [hf23]; simp only []; rw [hf30]; simp only []; rw [hxw]; rfl), rfl⟩, mk_end hG ht⟩, hS.F ht⟩) hS.2.2 dX13_parameter_99
        · skip
          refine lv_tableIn (tgt := 100) hx hb dX13_parameter_26 hlo hhi (off := 74) (by rw [sw_26]; rfl) (by decide) ?_
          refine lv_aload hx hb dX13_parameter_100 (lv_at hl 0 rfl) ?_
          have k42 : G (AD (20 + j24) j31) = some (.inr (9, [.int (nI (j31 + 1)), .int ((v.P j24 j31).1), .long ((v.P j24 j31).2.1), .long ((v.P j24 j31).2.2.1), .int ((v.P j24 j31).2.2.2.1), va_rf ((cdN v ((v.P j24 j31).2.2.1)).map (AD 0)), .int ((v.P j24 j31).2.2.2.2.1), .long ((v.P j24 j31).2.2.2.2.2.1), .int ((v.P j24 j31).2.2.2.2.2.2.1), va_rf ((peI v j24 j31).map (AD (20 + j24))), .int ((v.P j24 j31).2.2.2.2.2.2.2), .int ((z.pd j24 j31).1), .int ((z.pd j24 j31).2.1), .long ((z.pd j24 j31).2.2.1), .long ((z.pd j24 j31).2.2.2)])) := by rw [← (hZ.2.2.1 j24 hj27 j31 hj32).1, ← (hZ.2.2.1 j24 hj27 j31 hj32).2]; exact hP.elP hj27 hj32
          refine mm_getN (v := va_rf ((peI v j24 j31).map (AD (20 + j24)))) hx hb hf_X8 (fun _ h9 => h9) hown hK hG k42 rfl 9 (by decide) (tb_use hT tw_798) (fun _ h9 => h9) rfl dX13_parameter_102 ?_
          obtain ⟨y_hf43, hf43⟩ : ∃ y, peI v j24 j31 = y := ⟨_, rfl⟩
          cases y_hf43 with
          | none =>
            refine W.eq (g2 := F0 m 105 ls [.null]) (by first | rfl | (rw [hf43]; rfl)) ?_
            refine lv_ifnonnullN hx hb dX13_parameter_105 ?_
            refine lv_iconst (v := 0) hx hb dX13_parameter_108 (by decide) ?_
            refine lv_goto (tgt := 120) hx hb dX13_parameter_109 (by decide) ?_
            have hxw : wv = nI 3 := sw5 (by decide) sw_26
            exact W.iret (v := 0) hx hb hr (fun t ht hW => ⟨⟨_, _, rfl, ⟨(by rw [hf23]; simp only []; rw [hf30]; simp only []; rw [hxw, show paA v (fun y => nof (fun j => decide (nv j = y)) mm9) j24 j31 (nI 3) = nu1 (peI v j24 j31) from rfl, hf43]; rfl), rfl⟩, mk_end hG ht⟩, hS.F ht⟩) hS.2.2 dX13_parameter_120
          | some j44 =>
            have hj45 := peI_lt hf43
            refine W.eq (g2 := F0 m 105 ls [.ref (AD (20 + j24) j44)]) (by first | rfl | (rw [hf43]; rfl)) ?_
            refine lv_ifnonnull (tgt := 112) hx hb dX13_parameter_105 (by decide) ?_
            refine lv_aload hx hb dX13_parameter_112 (lv_at hl 0 rfl) ?_
            refine mm_getN (v := va_rf ((peI v j24 j31).map (AD (20 + j24)))) hx hb hf_X8 (fun _ h9 => h9) hown hK hG k42 rfl 9 (by decide) (tb_use hT tw_798) (fun _ h9 => h9) rfl dX13_parameter_114 ?_
            refine W.eq (g2 := F0 m 117 ls [.ref (AD (20 + j24) j44)]) (by first | rfl | (rw [hf43]; rfl)) ?_
            have k46 : G (AD (20 + j24) j44) = some (.inr (9, [.int (nI (j44 + 1)), .int ((v.P j24 j44).1), .long ((v.P j24 j44).2.1), .long ((v.P j24 j44).2.2.1), .int ((v.P j24 j44).2.2.2.1), va_rf ((cdN v ((v.P j24 j44).2.2.1)).map (AD 0)), .int ((v.P j24 j44).2.2.2.2.1), .long ((v.P j24 j44).2.2.2.2.2.1), .int ((v.P j24 j44).2.2.2.2.2.2.1), va_rf ((peI v j24 j44).map (AD (20 + j24))), .int ((v.P j24 j44).2.2.2.2.2.2.2), .int ((z.pd j24 j44).1), .int ((z.pd j24 j44).2.1), .long ((z.pd j24 j44).2.2.1), .long ((z.pd j24 j44).2.2.2)])) := by rw [← (hZ.2.2.1 j24 hj27 j44 hj45).1, ← (hZ.2.2.1 j24 hj27 j44 hj45).2]; exact hP.elP hj27 hj45
            refine mm_getN (v := .int (nI (j44 + 1))) hx hb hf_X8 (fun _ h9 => h9) hown hK hG k46 rfl 0 (by decide) (tb_use hT tw_771) (fun _ h9 => h9) rfl dX13_parameter_117 ?_
            have hxw : wv = nI 3 := sw5 (by decide) sw_26
            exact W.iret (v := (nI (j44 + 1))) hx hb hr (fun t ht hW => ⟨⟨_, _, rfl, ⟨(by rw [hf23]; simp only []; rw [hf30]; simp only []; rw [hxw, show paA v (fun y => nof (fun j => decide (nv j = y)) mm9) j24 j31 (nI 3) = nu1 (peI v j24 j31) from rfl, hf43]; rfl), rfl⟩, mk_end hG ht⟩, hS.F ht⟩) hS.2.2 dX13_parameter_120
        · skip
          refine lv_tableIn (tgt := 121) hx hb dX13_parameter_26 hlo hhi (off := 95) (by rw [sw_26]; rfl) (by decide) ?_
          refine lv_aload hx hb dX13_parameter_121 (lv_at hl 0 rfl) ?_
          have k47 : G (AD (20 + j24) j31) = some (.inr (9, [.int (nI (j31 + 1)), .int ((v.P j24 j31).1), .long ((v.P j24 j31).2.1), .long ((v.P j24 j31).2.2.1), .int ((v.P j24 j31).2.2.2.1), va_rf ((cdN v ((v.P j24 j31).2.2.1)).map (AD 0)), .int ((v.P j24 j31).2.2.2.2.1), .long ((v.P j24 j31).2.2.2.2.2.1), .int ((v.P j24 j31).2.2.2.2.2.2.1), va_rf ((peI v j24 j31).map (AD (20 + j24))), .int ((v.P j24 j31).2.2.2.2.2.2.2), .int ((z.pd j24 j31).1), .int ((z.pd j24 j31).2.1), .long ((z.pd j24 j31).2.2.1), .long ((z.pd j24 j31).2.2.2)])) := by rw [← (hZ.2.2.1 j24 hj27 j31 hj32).1, ← (hZ.2.2.1 j24 hj27 j31 hj32).2]; exact hP.elP hj27 hj32
          refine mm_getN (v := .int ((v.P j24 j31).2.2.2.2.2.2.2)) hx hb hf_X8 (fun _ h9 => h9) hown hK hG k47 rfl 10 (by decide) (tb_use hT tw_801) (fun _ h9 => h9) rfl dX13_parameter_123 ?_
          have hxw : wv = nI 4 := sw5 (by decide) sw_26
          exact W.iret (v := (v.P j24 j31).2.2.2.2.2.2.2) hx hb hr (fun t ht hW => ⟨⟨_, _, rfl, ⟨(by rw [hf23]; simp only []; rw [hf30]; simp only []; rw [hxw]; rfl), rfl⟩, mk_end hG ht⟩, hS.F ht⟩) hS.2.2 dX13_parameter_126
