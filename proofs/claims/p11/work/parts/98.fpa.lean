set_option maxHeartbeats 4000000 in
set_option maxRecDepth 100000 in
theorem c_X2_findParameters (l : Launch) (D : va_G) (cy : Nat → ClassId) (A : Nat → Prop) (X : State → Prop) (hst : mk_St A X) (hXT : ∀ U : State, X U → TB U) (e0 : Nat) (tk : Nat → Nat) (hXE : ∀ U : State, X U → ES e0 tk A U) (mi : Nat) (hXL : ∀ U : State, X U → EL e0 mi A U) (ax adK adV : Nat → Nat) (hXX : ∀ U : State, X U → TX ax adK adV tk A U) (G : Nat → Option va_E) (G0 : Nat → Option va_E) (Bx : Nat → Prop) (v : EdV) (z : PtV) (LA EA : Nat → Nat) (AD : Nat → Nat → Nat) (PI : Nat → Nat) (ed na : Nat) (nc : Int32) (iu : Option Nat) (w9 : Int32 × Option Nat) (c9 : Nat) (hP : EDP cy e0 tk G0 Bx G v z LA EA AD PI) (hBe : Bx ed) (hed : G ed = some (.inr (3, [.ref (LA 0), .ref (LA 1), .ref (LA 2), .ref (LA 3), .ref (LA 4), .ref (LA 5), .ref na, .int nc, va_rf iu, .int w9.1, va_rf (w9.2.map (AD 1))]))) (hc9 : c9 < v.nS) (hz0 : z0P z c9) : Met l yX2_findParameters [.code yX2_findParameters cX2_findParameters 5 none] ({ frames := 4, cells := 0, slots := 0, locals := 120 }) (mk_Pre D vwCl (tyL cy) A X G [.ref ed, .ref (AD 2 c9)]) (va_Qv (fun (G2 : Nat → Option va_E) => ∃ z2 : PtV, EDP cy e0 tk G0 Bx G2 v z2 LA EA AD PI ∧ G2 ed = some (.inr (3, [.ref (LA 0), .ref (LA 1), .ref (LA 2), .ref (LA 3), .ref (LA 4), .ref (LA 5), .ref na, .int nc, va_rf iu, .int ((mP v c9 (v.nP c9) 0 w9).1), va_rf ((mP v c9 (v.nP c9) 0 w9).2.map (AD 1))])) ∧ zPr v AD z2 c9 ∧ (∀ c, c ≠ c9 → z2.pc c = z.pc c ∧ z2.pe c = z.pe c) ∧ (z2.lo = z.lo ∧ z2.vl = z.vl ∧ z2.fo = z.fo ∧ z2.wo = z.wo ∧ zOth z z2) ∧ ∀ (x : Nat) (e : va_E), G x = some e → x ≠ ed → (∀ k i, lvV v k → i < lnV v k → x ≠ AD k i) → G2 x = some e) (mk_B D vwCl A) A) 0 0 A := by
  refine Met.ofW (cc := cX2_findParameters) (maxL := 5) (ret := none) (by decide) rfl ?_
  intro p e s m args below meth c s₁ B hml hv
  obtain ⟨rfl, hG, hK, hA, hX⟩ := hv
  have hx := B.exec
  have hb := B.bytes
  have hr := B.returns
  have hlocks := B.notSynchronized
  have hT := hXT s hX
  have hown : s.vm.findClass RX2 = some m.cls := findClass_of_methodNamed B.named
  have hf_X10 : ∀ w ∈ u_ws RX10 TX10 6, w.before ([.ref ed, .ref (AD 2 c9)] : List Value).toArray s = true := tb_list hT fX10
  have hf_X8 : ∀ w ∈ u_ws RX8 TX8 15, w.before ([.ref ed, .ref (AD 2 c9)] : List Value).toArray s = true := tb_list hT fX8
  have hS : va_S A s.heap s.heap [] := va_S.rf
  have hE := hXE s hX
  have hl := lv_entry ([.ref ed, .ref (AD 2 c9)]) (n := 5) (Nat.le_of_ble_eq_true rfl)
  rw [lg_entry_eq]
  generalize (lg_sl ([.ref ed, .ref (AD 2 c9)]) ++ List.replicate (5 - (lg_sl ([.ref ed, .ref (AD 2 c9)])).length) Slot.unset).toArray = ls at hl ⊢
  have hl : lv_has ls 5 [(0, .ref ed), (1, .ref (AD 2 c9))] := hl
  have hQ := hXX s hX
  have hfr : ∀ (x : Nat) (e : va_E), G x = some e → x ≠ ed → (∀ k i, lvV v k → i < lnV v k → x ≠ AD k i) → G x = some e := fun x e z _ _ => z
  have hloop : ∀ (n : Nat) (j9 : Nat) (zz : PtV) (ww : Int32 × Option Nat), (n + j9 = v.nP c9) → (∀ p, p < j9 → zz.pc c9 p = (cdN v (v.P c9 p).2.2.1).map (AD 0) ∧ zz.pe c9 p = (peI v c9 p).map (AD (20 + c9))) → (∀ p, j9 ≤ p → zz.pe c9 p = none) → (∀ c, c ≠ c9 → zz.pc c = z.pc c ∧ zz.pe c = z.pe c) → (zz.lo = z.lo ∧ zz.vl = z.vl ∧ zz.fo = z.fo ∧ zz.wo = z.wo ∧ zOth z zz) → (mP v c9 n j9 ww = mP v c9 (v.nP c9) 0 w9) → ∀ (Gv : Nat → Option va_E), (Gv ed = some (.inr (3, [.ref (LA 0), .ref (LA 1), .ref (LA 2), .ref (LA 3), .ref (LA 4), .ref (LA 5), .ref na, .int nc, va_rf iu, .int ww.1, va_rf (ww.2.map (AD 1))]))) → (EDP cy e0 tk G0 Bx Gv v zz LA EA AD PI) → (∀ (x : Nat) (e : va_E), G x = some e → x ≠ ed → (∀ k i, lvV v k → i < lnV v k → x ≠ AD k i) → Gv x = some e) → ∀ (H : Heap) (locs : List Loc), mm D vwCl A Gv H → va_S A s.heap H locs → ∀ ls : Array Slot, lv_has ls 5 [(0, .ref ed), (1, .ref (AD 2 c9)), (2, .int (nI j9))] → W p l e (headSpec [.code yX2_findParameters cX2_findParameters 5 none] ({ frames := 4, cells := 0, slots := 0, locals := 120 })).room s m ([.ref ed, .ref (AD 2 c9)] : List Value).toArray below meth c H locs 0 0 (MQ below (va_Qv (fun (G2 : Nat → Option va_E) => ∃ z2 : PtV, EDP cy e0 tk G0 Bx G2 v z2 LA EA AD PI ∧ G2 ed = some (.inr (3, [.ref (LA 0), .ref (LA 1), .ref (LA 2), .ref (LA 3), .ref (LA 4), .ref (LA 5), .ref na, .int nc, va_rf iu, .int ((mP v c9 (v.nP c9) 0 w9).1), va_rf ((mP v c9 (v.nP c9) 0 w9).2.map (AD 1))])) ∧ zPr v AD z2 c9 ∧ (∀ c, c ≠ c9 → z2.pc c = z.pc c ∧ z2.pe c = z.pe c) ∧ (z2.lo = z.lo ∧ z2.vl = z.vl ∧ z2.fo = z.fo ∧ z2.wo = z.wo ∧ zOth z z2) ∧ ∀ (x : Nat) (e : va_E), G x = some e → x ≠ ed → (∀ k i, lvV v k → i < lnV v k → x ≠ AD k i) → G2 x = some e) (mk_B D vwCl A) A) ([.ref ed, .ref (AD 2 c9)] : List Value).toArray s 0 0 A) (F0 m 2 ls []) := by
    intro n
    induction n with
    | zero =>
      intro j9 zz ww hjn hz1 hz2 hz5 hz7 hq Gv v_ed hP hfr H locs hG hS ls hl
      have hbb := hP.b
      have hb2 := (hP.lsP hc9).le
      refine lv_iload_n hx hb dX2_findParameters_2 rfl (lv_at hl 2 rfl) ?_
      refine lv_aload_n hx hb dX2_findParameters_3 rfl (lv_at hl 1 rfl) ?_
      have k21 : Gv (AD 2 c9) = some (.inr (11, [.int (nI (c9 + 1)), .ref (AD 1 (v.S c9).1), .int ((v.S c9).2.1), .long ((v.S c9).2.2.1), .ref (LA (20 + c9)), .int ((v.S c9).2.2.2)])) := hP.elS hc9
      refine mm_getN (v := .ref (LA (20 + c9))) hx hb hf_X10 (fun _ h9 => h9) hown hK hG k21 rfl 4 (by decide) (tb_use hT tw_740) (fun _ h9 => h9) rfl dX2_findParameters_4 ?_
      obtain ⟨mo22, h_mo22, -⟩ := id (hP.lsP hc9)
      refine va_calli (va_runV (As := []) (rest := [.int (nI j9)]) ⟨hx, hb, hml, hown, (fun _ h9 => absurd h9 List.not_mem_nil : ∀ w ∈ ([] : List Cond), w.before _ s = true)⟩ (c_LS_size l D cy A X hst hXT e0 tk hXE mi hXL Gv (LA (20 + c9)) (EA (20 + c9)) (v.nP c9) (AD (20 + c9)) (hP.lsP hc9)) (tb_cw (C := RJx4a65c) 0 hT tw_457 tw_113 tw_999 tw_455 tw_456 rfl rfl hq_Jx4a65c_size_8abf5 ⟨Nat.le_of_ble_eq_true rfl, Nat.le_of_ble_eq_true rfl⟩) (mk_preC hst hG hK hA hX hS vc_1 h_mo22) rfl rfl hl.1 rfl (lv_room (Nat.le_of_ble_eq_true rfl)) dX2_findParameters_7 ⟨Nat.le_of_ble_eq_true rfl, Nat.le_of_ble_eq_true rfl⟩) hS (fun q _ h => h) (fun q h => h) (fun r23 G24 t H locs ht hvm hw hB hz1 hk1 hS => ?_)
      have hG : mm D vwCl A G24 H := by rw [← ht]; exact hB
      clear hB hz1 hk1 hvm ht
      obtain ⟨rfl, hw⟩ := hw
      rw [hw] at hG
      refine lv_icmp_ge (tgt := 152) hx hb dX2_findParameters_10 (by decide) (fun c_10 => ?_) (fun c_10 => ?_)
      · skip
        have hw9 : ww = mP v c9 (v.nP c9) 0 w9 := by rw [← hq]; first | rfl | (rw [show n = 0 by omega]; rfl)
        exact W.vret hx hb hr (fun t ht hW => ⟨⟨_, rfl, ⟨zz, hP, (by rw [← hw9]; exact v_ed), (fun p hp => hz1 p (by omega)), hz5, hz7, hfr⟩, mk_end hG ht⟩, hS.F ht⟩) hS.2.2 dX2_findParameters_152
      · skip
        exact absurd (by rw [show j9 = v.nP c9 by omega]; exact Int32.le_refl _) c_10
    | succ n ih =>
      intro j9 zz ww hjn hz1 hz2 hz5 hz7 hq Gv v_ed hP hfr H locs hG hS ls hl
      have hbb := hP.b
      have hb2 := (hP.lsP hc9).le
      refine lv_iload_n hx hb dX2_findParameters_2 rfl (lv_at hl 2 rfl) ?_
      refine lv_aload_n hx hb dX2_findParameters_3 rfl (lv_at hl 1 rfl) ?_
      have k25 : Gv (AD 2 c9) = some (.inr (11, [.int (nI (c9 + 1)), .ref (AD 1 (v.S c9).1), .int ((v.S c9).2.1), .long ((v.S c9).2.2.1), .ref (LA (20 + c9)), .int ((v.S c9).2.2.2)])) := hP.elS hc9
      refine mm_getN (v := .ref (LA (20 + c9))) hx hb hf_X10 (fun _ h9 => h9) hown hK hG k25 rfl 4 (by decide) (tb_use hT tw_740) (fun _ h9 => h9) rfl dX2_findParameters_4 ?_
      obtain ⟨mo26, h_mo26, -⟩ := id (hP.lsP hc9)
      refine va_calli (va_runV (As := []) (rest := [.int (nI j9)]) ⟨hx, hb, hml, hown, (fun _ h9 => absurd h9 List.not_mem_nil : ∀ w ∈ ([] : List Cond), w.before _ s = true)⟩ (c_LS_size l D cy A X hst hXT e0 tk hXE mi hXL Gv (LA (20 + c9)) (EA (20 + c9)) (v.nP c9) (AD (20 + c9)) (hP.lsP hc9)) (tb_cw (C := RJx4a65c) 0 hT tw_457 tw_113 tw_999 tw_455 tw_456 rfl rfl hq_Jx4a65c_size_8abf5 ⟨Nat.le_of_ble_eq_true rfl, Nat.le_of_ble_eq_true rfl⟩) (mk_preC hst hG hK hA hX hS vc_1 h_mo26) rfl rfl hl.1 rfl (lv_room (Nat.le_of_ble_eq_true rfl)) dX2_findParameters_7 ⟨Nat.le_of_ble_eq_true rfl, Nat.le_of_ble_eq_true rfl⟩) hS (fun q _ h => h) (fun q h => h) (fun r27 G28 t H locs ht hvm hw hB hz1 hk1 hS => ?_)
      have hG : mm D vwCl A G28 H := by rw [← ht]; exact hB
      clear hB hz1 hk1 hvm ht
      obtain ⟨rfl, hw⟩ := hw
      rw [hw] at hG
      refine lv_icmp_ge (tgt := 152) hx hb dX2_findParameters_10 (by decide) (fun c_10 => ?_) (fun c_10 => ?_)
      · skip
        exact absurd c_10 (nI_ge (by omega) (by omega))
      · skip
        refine lv_aload_n hx hb dX2_findParameters_13 rfl (lv_at hl 1 rfl) ?_
        refine mm_getN (v := .ref (LA (20 + c9))) hx hb hf_X10 (fun _ h9 => h9) hown hK hG k25 rfl 4 (by decide) (tb_use hT tw_740) (fun _ h9 => h9) rfl dX2_findParameters_14 ?_
        refine lv_iload_n hx hb dX2_findParameters_17 rfl (lv_at hl 2 rfl) ?_
        have hj29 : j9 < (v.nP c9) := by omega
        obtain ⟨mo30, h_mo30, -⟩ := id (hP.lsP hc9)
        refine va_callq (va_runV (As := [.int (nI j9)]) (rest := []) ⟨hx, hb, hml, hown, (fun _ h9 => absurd h9 List.not_mem_nil : ∀ w ∈ ([] : List Cond), w.before _ s = true)⟩ (c_LS_get l D cy A X hst hXT e0 tk hXE mi hXL Gv (LA (20 + c9)) (EA (20 + c9)) (v.nP c9) (AD (20 + c9)) j9 (hP.lsP hc9) hj29) (tb_cw (C := RJx4a65c) 1 hT tw_942 tw_113 tw_1000 tw_940 tw_941 rfl rfl hq_Jx4a65c_get_915e3 ⟨Nat.le_of_ble_eq_true rfl, Nat.le_of_ble_eq_true rfl⟩) (mk_preC hst hG hK hA hX hS vc_1 h_mo30) rfl rfl hl.1 rfl (lv_room (Nat.le_of_ble_eq_true rfl)) dX2_findParameters_18 ⟨Nat.le_of_ble_eq_true rfl, Nat.le_of_ble_eq_true rfl⟩) hS (fun q _ h => h) (fun q h => h) (fun r31 G32 t H locs ht hvm hw hB hz1 hk1 hS => ?_)
        have hG : mm D vwCl A G32 H := by rw [← ht]; exact hB
        clear hB hz1 hk1 hvm ht
        obtain ⟨rfl, hw⟩ := hw
        rw [hw] at hG
        refine W.eq (g2 := F0 m 21 ls [.ref (AD (20 + c9) j9)]) rfl ?_
        have k33 : Gv (AD (20 + c9) j9) = some (.inr (9, [.int (nI (j9 + 1)), .int ((v.P c9 j9).1), .long ((v.P c9 j9).2.1), .long ((v.P c9 j9).2.2.1), .int ((v.P c9 j9).2.2.2.1), va_rf (zz.pc c9 j9), .int ((v.P c9 j9).2.2.2.2.1), .long ((v.P c9 j9).2.2.2.2.2.1), .int ((v.P c9 j9).2.2.2.2.2.2.1), va_rf (zz.pe c9 j9), .int ((v.P c9 j9).2.2.2.2.2.2.2), .int ((zz.pd c9 j9).1), .int ((zz.pd c9 j9).2.1), .long ((zz.pd c9 j9).2.2.1), .long ((zz.pd c9 j9).2.2.2)])) := hP.elP hc9 hj29
        refine va_castS hx hb hown (tb_use hT tw_1043) (hK.1 9 _ rfl).2 (va_recv hK (hG.one k33) (q := (RX8, TX8, 15)) rfl (q0 := 0) rfl) dX2_findParameters_21 ?_
        refine lv_astore_n (lv' := [(3, .ref (AD (20 + c9) j9)), (0, .ref ed), (1, .ref (AD 2 c9)), (2, .int (nI j9))]) hx hb dX2_findParameters_24 rfl hl (by decide) rfl (fun ls hl => ?_)
        refine lv_aload_n hx hb dX2_findParameters_25 rfl (lv_at hl 1 rfl) ?_
        refine lv_aload_n hx hb dX2_findParameters_26 rfl (lv_at hl 2 rfl) ?_
        refine lv_aload_n hx hb dX2_findParameters_27 rfl (lv_at hl 0 rfl) ?_
        refine mm_getN (v := .long ((v.P c9 j9).2.1)) hx hb hf_X8 (fun _ h9 => h9) hown hK hG k33 rfl 2 (by decide) (tb_use hT tw_778) (fun _ h9 => h9) rfl dX2_findParameters_28 ?_
        refine va_callq (va_runV (As := [.long ((v.P c9 j9).2.1)]) (rest := [.ref ed]) ⟨hx, hb, hml, hown, (fun _ h9 => absurd h9 List.not_mem_nil : ∀ w ∈ ([] : List Cond), w.before _ s = true)⟩ (c_X10_named l D cy A X hst hXT e0 tk hXE mi hXL Gv (AD 2 c9) (AD 1 (v.S c9).1) (LA (20 + c9)) (nI (c9 + 1)) ((v.S c9).2.1) ((v.S c9).2.2.2) ((v.S c9).2.2.1) (EA (20 + c9)) (v.nP c9) (AD (20 + c9)) (fun j => prF j (v.P c9 j) (zz.pc c9 j) (zz.pe c9 j) (zz.pd c9 j)) (fun j => (v.P c9 j).2.1) ((v.P c9 j9).2.1) k25 (hP.lsP hc9) (by have := (hP.lsP hc9).le; omega) (hP.nmP hc9)) (tb_cw (C := RX10) 1 hT tw_1047 tw_128 tw_1044 tw_1045 tw_1046 rfl rfl hq_X10_named ⟨Nat.le_of_ble_eq_true rfl, Nat.le_of_ble_eq_true rfl⟩) (mk_preC hst hG hK hA hX hS vc_11 k25) rfl rfl hl.1 rfl (lv_room (Nat.le_of_ble_eq_true rfl)) dX2_findParameters_31 ⟨Nat.le_of_ble_eq_true rfl, Nat.le_of_ble_eq_true rfl⟩) hS (fun q _ h => h) (fun q h => h) (fun r34 G35 t H locs ht hvm hw hB hz1 hk1 hS => ?_)
        have hG : mm D vwCl A G35 H := by rw [← ht]; exact hB
        clear hB hz1 hk1 hvm ht
        obtain ⟨er34, hw⟩ := hw
        rw [hw] at hG
        have fr34 : r34 = (paN v c9 ((v.P c9 j9).2.1)).map (AD (20 + c9)) := er34
        rw [fr34]
        refine lv_aload_n hx hb dX2_findParameters_34 rfl (lv_at hl 0 rfl) ?_
        refine lv_acmp_ne (rx := ((paN v c9 ((v.P c9 j9).2.1)).map (AD (20 + c9)))) (ry := some (AD (20 + c9) j9)) (tgt := 42) hx hb dX2_findParameters_35 (by decide) (fun c_35 => ?_) (fun c_35 => ?_)
        · skip
          have hB_35 : decide (paN v c9 (v.P c9 j9).2.1 = some j9) = false := decide_eq_false (fun z => c_35 ((map_eq (fun _ => paN_lt) (show j9 < v.nP c9 by omega) (hP.inP hc9)).mpr z))
          refine lv_iconst (v := 0) hx hb dX2_findParameters_42 (by decide) ?_
          refine lv_aload_n hx hb dX2_findParameters_43 rfl (lv_at hl 0 rfl) ?_
          refine mm_getN (v := .int ((v.P c9 j9).1)) hx hb hf_X8 (fun _ h9 => h9) hown hK hG k33 rfl 1 (by decide) (tb_use hT tw_774) (fun _ h9 => h9) rfl dX2_findParameters_44 ?_
          refine va_callv (va_runV (As := [.int 0, .int ((v.P c9 j9).1)]) (rest := []) ⟨hx, hb, hml, hown, (fun _ h9 => absurd h9 List.not_mem_nil : ∀ w ∈ ([] : List Cond), w.before _ s = true)⟩ (c_ED_expect l D cy A X hst hXT e0 tk hXE Gv LA AD ed na nc iu ww false ((v.P c9 j9).1) v_ed) (tb_cw (C := RX2) 2 hT tw_1009 tw_110 tw_1006 tw_1008 tw_34 rfl rfl hq_X2_expect ⟨Nat.le_of_ble_eq_true rfl, Nat.le_of_ble_eq_true rfl⟩) (mk_preC hst hG hK hA hX hS vc_3 v_ed) rfl rfl hl.1 rfl (lv_room (Nat.le_of_ble_eq_true rfl)) dX2_findParameters_47 ⟨Nat.le_of_ble_eq_true rfl, Nat.le_of_ble_eq_true rfl⟩) hS (fun q _ h => h) (fun q h => h) (fun  G36 t H locs ht hvm hw hB hz1 hk1 hS => ?_)
          have hG : mm D vwCl A G36 H := by rw [← ht]; exact hB
          clear hB hz1 hk1 hvm ht
          have k37 : G36 ed = some (.inr (3, [.ref (LA 0), .ref (LA 1), .ref (LA 2), .ref (LA 3), .ref (LA 4), .ref (LA 5), .ref na, .int nc, va_rf iu, .int ((ex1 false ((v.P c9 j9).1) ww).1), va_rf ((ex1 false ((v.P c9 j9).1) ww).2.map (AD 1))])) := by rw [hw]; exact mm_set_self
          have hP38 : EDP cy e0 tk G0 Bx G36 v zz LA EA AD PI := hP.mve hBe v_ed k37 (fun x e h1 n1 => by rw [hw]; exact mm_set_of h1 n1)
          have k39 : G36 (AD 2 c9) = some (.inr (11, [.int (nI (c9 + 1)), .ref (AD 1 (v.S c9).1), .int ((v.S c9).2.1), .long ((v.S c9).2.2.1), .ref (LA (20 + c9)), .int ((v.S c9).2.2.2)])) := by rw [hw]; exact mm_set_of k25 (mm_ne_oo k25 v_ed (by decide))
          have k40 : G36 (AD (20 + c9) j9) = some (.inr (9, [.int (nI (j9 + 1)), .int ((v.P c9 j9).1), .long ((v.P c9 j9).2.1), .long ((v.P c9 j9).2.2.1), .int ((v.P c9 j9).2.2.2.1), va_rf (zz.pc c9 j9), .int ((v.P c9 j9).2.2.2.2.1), .long ((v.P c9 j9).2.2.2.2.2.1), .int ((v.P c9 j9).2.2.2.2.2.2.1), va_rf (zz.pe c9 j9), .int ((v.P c9 j9).2.2.2.2.2.2.2), .int ((zz.pd c9 j9).1), .int ((zz.pd c9 j9).2.1), .long ((zz.pd c9 j9).2.2.1), .long ((zz.pd c9 j9).2.2.2)])) := by rw [hw]; exact mm_set_of k33 (mm_ne_oo k33 v_ed (by decide))
          have hfr41 : ∀ (x : Nat) (e : va_E), G x = some e → x ≠ ed → (∀ k i, lvV v k → i < lnV v k → x ≠ AD k i) → G36 x = some e := fun x e z9 n1 n2 => by
            have z0 := hfr x e z9 n1 n2
            rw [hw]; exact mm_set_of z0 n1
          clear hw
          refine lv_aload_n hx hb dX2_findParameters_50 rfl (lv_at hl 0 rfl) ?_
          refine lv_aload_n hx hb dX2_findParameters_51 rfl (lv_at hl 1 rfl) ?_
          refine lv_aload_n hx hb dX2_findParameters_52 rfl (lv_at hl 0 rfl) ?_
          refine mm_getN (v := .long ((v.P c9 j9).2.2.1)) hx hb hf_X8 (fun _ h9 => h9) hown hK hG k40 rfl 3 (by decide) (tb_use hT tw_779) (fun _ h9 => h9) rfl dX2_findParameters_53 ?_
          refine va_callq (va_runV (As := [.long ((v.P c9 j9).2.2.1)]) (rest := [.ref (AD (20 + c9) j9)]) ⟨hx, hb, hml, hown, (fun _ h9 => absurd h9 List.not_mem_nil : ∀ w ∈ ([] : List Cond), w.before _ s = true)⟩ (c_X2_codingNamed l D cy A X hst hXT e0 tk hXE mi hXL G36 ed (LA 0) (LA 1) (LA 2) (LA 3) (LA 4) (LA 5) na nc ((ex1 false ((v.P c9 j9).1) ww).1) iu ((ex1 false ((v.P c9 j9).1) ww).2.map (AD 1)) (EA 0) v.nC (AD 0) (fun j => coF j (v.C j) (LA (6 + j))) (fun j => (v.C j).1.2.1) ((v.P c9 j9).2.2.1) k37 hP38.lsC (by have := hP38.b; omega) hP38.nmC) (tb_cw (C := RX2) 1 hT tw_1022 tw_110 tw_1019 tw_1021 tw_36 rfl rfl hq_X2_codingNamed ⟨Nat.le_of_ble_eq_true rfl, Nat.le_of_ble_eq_true rfl⟩) (mk_preC hst hG hK hA hX hS vc_3 k37) rfl rfl hl.1 rfl (lv_room (Nat.le_of_ble_eq_true rfl)) dX2_findParameters_56 ⟨Nat.le_of_ble_eq_true rfl, Nat.le_of_ble_eq_true rfl⟩) hS (fun q _ h => h) (fun q h => h) (fun r42 G43 t H locs ht hvm hw hB hz1 hk1 hS => ?_)
          have hG : mm D vwCl A G43 H := by rw [← ht]; exact hB
          clear hB hz1 hk1 hvm ht
          obtain ⟨er42, hw⟩ := hw
          rw [hw] at hG
          have fr42 : r42 = (cdN v ((v.P c9 j9).2.2.1)).map (AD 0) := er42
          rw [fr42]
          refine mm_putN (v := va_rf ((cdN v ((v.P c9 j9).2.2.1)).map (AD 0))) (ty := .object "DescribeText$Coding") hx hb hf_X8 (fun _ h9 => h9) tyX8 tyX8_ok nmX8 hown hK hG hS k40 rfl 5 (by decide) (tb_use hT tw_787) (fun _ h9 => h9) rfl (by decide +kernel) (nar_rf _) (fits_rf _) (Nat.le_of_ble_eq_true rfl) dX2_findParameters_59 (fun H locs hG hS => ?_)
          obtain ⟨G44, eG44⟩ : ∃ g, g = mm_set G36 (AD (20 + c9) j9) (.inr (9, [.int (nI (j9 + 1)), .int ((v.P c9 j9).1), .long ((v.P c9 j9).2.1), .long ((v.P c9 j9).2.2.1), .int ((v.P c9 j9).2.2.2.1), va_rf ((cdN v ((v.P c9 j9).2.2.1)).map (AD 0)), .int ((v.P c9 j9).2.2.2.2.1), .long ((v.P c9 j9).2.2.2.2.2.1), .int ((v.P c9 j9).2.2.2.2.2.2.1), va_rf (zz.pe c9 j9), .int ((v.P c9 j9).2.2.2.2.2.2.2), .int ((zz.pd c9 j9).1), .int ((zz.pd c9 j9).2.1), .long ((zz.pd c9 j9).2.2.1), .long ((zz.pd c9 j9).2.2.2)])) := ⟨_, rfl⟩
          have hG : mm D vwCl A G44 H := by rw [eG44]; exact hG
          have hP45 : EDP cy e0 tk G0 Bx G44 v (zz.s_pc c9 j9 ((cdN v ((v.P c9 j9).2.2.1)).map (AD 0))) LA EA AD PI := by rw [eG44]; exact hP38.put_pc hc9 hj29
          have hz46 : (zz.s_pc c9 j9 ((cdN v ((v.P c9 j9).2.2.1)).map (AD 0))).pc c9 j9 = ((cdN v ((v.P c9 j9).2.2.1)).map (AD 0)) := by show up1 zz.pc c9 (up1 (zz.pc c9) j9 ((cdN v ((v.P c9 j9).2.2.1)).map (AD 0))) c9 j9 = _; rw [up1_eq, up1_eq]
          have k47 : G44 ed = some (.inr (3, [.ref (LA 0), .ref (LA 1), .ref (LA 2), .ref (LA 3), .ref (LA 4), .ref (LA 5), .ref na, .int nc, va_rf iu, .int ((ex1 false ((v.P c9 j9).1) ww).1), va_rf ((ex1 false ((v.P c9 j9).1) ww).2.map (AD 1))])) := by rw [eG44]; exact mm_set_of k37 (mm_ne_oo k37 k40 (by decide))
          have k48 : G44 (AD 2 c9) = some (.inr (11, [.int (nI (c9 + 1)), .ref (AD 1 (v.S c9).1), .int ((v.S c9).2.1), .long ((v.S c9).2.2.1), .ref (LA (20 + c9)), .int ((v.S c9).2.2.2)])) := by rw [eG44]; exact mm_set_of k39 (mm_ne_oo k39 k40 (by decide))
          have k49 : G44 (AD (20 + c9) j9) = some (.inr (9, [.int (nI (j9 + 1)), .int ((v.P c9 j9).1), .long ((v.P c9 j9).2.1), .long ((v.P c9 j9).2.2.1), .int ((v.P c9 j9).2.2.2.1), va_rf ((cdN v ((v.P c9 j9).2.2.1)).map (AD 0)), .int ((v.P c9 j9).2.2.2.2.1), .long ((v.P c9 j9).2.2.2.2.2.1), .int ((v.P c9 j9).2.2.2.2.2.2.1), va_rf (zz.pe c9 j9), .int ((v.P c9 j9).2.2.2.2.2.2.2), .int ((zz.pd c9 j9).1), .int ((zz.pd c9 j9).2.1), .long ((zz.pd c9 j9).2.2.1), .long ((zz.pd c9 j9).2.2.2)])) := by rw [eG44]; exact mm_set_self
          have hfr50 : ∀ (x : Nat) (e : va_E), G x = some e → x ≠ ed → (∀ k i, lvV v k → i < lnV v k → x ≠ AD k i) → G44 x = some e := fun x e z9 n1 n2 => by
            have z0 := hfr41 x e z9 n1 n2
            rw [eG44]; exact mm_set_of z0 (n2 (20 + c9) j9 (lv_P hc9) (by rw [ln_P (by have := hP38.b; omega)]; exact hj29))
          refine lv_aload_n hx hb dX2_findParameters_62 rfl (lv_at hl 1 rfl) ?_
          refine lv_aload_n hx hb dX2_findParameters_63 rfl (lv_at hl 0 rfl) ?_
          refine mm_getN (v := va_rf ((cdN v ((v.P c9 j9).2.2.1)).map (AD 0))) hx hb hf_X8 (fun _ h9 => h9) hown hK hG k49 rfl 5 (by decide) (tb_use hT tw_787) (fun _ h9 => h9) rfl dX2_findParameters_64 ?_
          obtain ⟨y_hf51, hf51⟩ : ∃ y, cdN v ((v.P c9 j9).2.2.1) = y := ⟨_, rfl⟩
          cases y_hf51 with
          | none =>
            refine W.eq (g2 := F0 m 67 ls [.null, .ref ed]) (by first | rfl | (rw [hf51]; rfl)) ?_
            refine lv_ifnullN (tgt := 74) hx hb dX2_findParameters_67 (by decide) ?_
            refine lv_iconst (v := 0) hx hb dX2_findParameters_74 (by decide) ?_
            refine lv_aload_n hx hb dX2_findParameters_75 rfl (lv_at hl 0 rfl) ?_
            refine mm_getN (v := .int ((v.P c9 j9).2.2.2.1)) hx hb hf_X8 (fun _ h9 => h9) hown hK hG k49 rfl 4 (by decide) (tb_use hT tw_781) (fun _ h9 => h9) rfl dX2_findParameters_76 ?_
            refine va_callv (va_runV (As := [.int 0, .int ((v.P c9 j9).2.2.2.1)]) (rest := []) ⟨hx, hb, hml, hown, (fun _ h9 => absurd h9 List.not_mem_nil : ∀ w ∈ ([] : List Cond), w.before _ s = true)⟩ (c_ED_expect l D cy A X hst hXT e0 tk hXE G44 LA AD ed na nc iu (ex1 false ((v.P c9 j9).1) ww) false ((v.P c9 j9).2.2.2.1) k47) (tb_cw (C := RX2) 2 hT tw_1009 tw_110 tw_1006 tw_1008 tw_34 rfl rfl hq_X2_expect ⟨Nat.le_of_ble_eq_true rfl, Nat.le_of_ble_eq_true rfl⟩) (mk_preC hst hG hK hA hX hS vc_3 k47) rfl rfl hl.1 rfl (lv_room (Nat.le_of_ble_eq_true rfl)) dX2_findParameters_79 ⟨Nat.le_of_ble_eq_true rfl, Nat.le_of_ble_eq_true rfl⟩) hS (fun q _ h => h) (fun q h => h) (fun  G53 t H locs ht hvm hw hB hz1 hk1 hS => ?_)
            have hG : mm D vwCl A G53 H := by rw [← ht]; exact hB
            clear hB hz1 hk1 hvm ht
            have k54 : G53 ed = some (.inr (3, [.ref (LA 0), .ref (LA 1), .ref (LA 2), .ref (LA 3), .ref (LA 4), .ref (LA 5), .ref na, .int nc, va_rf iu, .int ((ex1 false ((v.P c9 j9).2.2.2.1) (ex1 false ((v.P c9 j9).1) ww)).1), va_rf ((ex1 false ((v.P c9 j9).2.2.2.1) (ex1 false ((v.P c9 j9).1) ww)).2.map (AD 1))])) := by rw [hw]; exact mm_set_self
            have hP55 : EDP cy e0 tk G0 Bx G53 v (zz.s_pc c9 j9 ((cdN v ((v.P c9 j9).2.2.1)).map (AD 0))) LA EA AD PI := hP45.mve hBe k47 k54 (fun x e h1 n1 => by rw [hw]; exact mm_set_of h1 n1)
            have k56 : G53 (AD 2 c9) = some (.inr (11, [.int (nI (c9 + 1)), .ref (AD 1 (v.S c9).1), .int ((v.S c9).2.1), .long ((v.S c9).2.2.1), .ref (LA (20 + c9)), .int ((v.S c9).2.2.2)])) := by rw [hw]; exact mm_set_of k48 (mm_ne_oo k48 k47 (by decide))
            have k57 : G53 (AD (20 + c9) j9) = some (.inr (9, [.int (nI (j9 + 1)), .int ((v.P c9 j9).1), .long ((v.P c9 j9).2.1), .long ((v.P c9 j9).2.2.1), .int ((v.P c9 j9).2.2.2.1), va_rf ((cdN v ((v.P c9 j9).2.2.1)).map (AD 0)), .int ((v.P c9 j9).2.2.2.2.1), .long ((v.P c9 j9).2.2.2.2.2.1), .int ((v.P c9 j9).2.2.2.2.2.2.1), va_rf (zz.pe c9 j9), .int ((v.P c9 j9).2.2.2.2.2.2.2), .int ((zz.pd c9 j9).1), .int ((zz.pd c9 j9).2.1), .long ((zz.pd c9 j9).2.2.1), .long ((zz.pd c9 j9).2.2.2)])) := by rw [hw]; exact mm_set_of k49 (mm_ne_oo k49 k47 (by decide))
            have hfr58 : ∀ (x : Nat) (e : va_E), G x = some e → x ≠ ed → (∀ k i, lvV v k → i < lnV v k → x ≠ AD k i) → G53 x = some e := fun x e z9 n1 n2 => by
              have z0 := hfr50 x e z9 n1 n2
              rw [hw]; exact mm_set_of z0 n1
            clear hw
            refine lv_aload_n hx hb dX2_findParameters_82 rfl (lv_at hl 0 rfl) ?_
            refine mm_getN (v := .int ((v.P c9 j9).2.2.2.2.1)) hx hb hf_X8 (fun _ h9 => h9) hown hK hG k57 rfl 6 (by decide) (tb_use hT tw_790) (fun _ h9 => h9) rfl dX2_findParameters_83 ?_
            refine lv_if_eq (tgt := 146) hx hb dX2_findParameters_86 (by decide) (fun c_86 => ?_) (fun c_86 => ?_)
            · skip
              obtain ⟨x59, ex59⟩ : ∃ y : Int32, y = (nI j9) + 1 := ⟨_, rfl⟩
              refine lv_iinc (v := x59) (lv' := [(2, .int x59), (3, .ref (AD (20 + c9) j9)), (0, .ref ed), (1, .ref (AD 2 c9))]) hx hb dX2_findParameters_146 hl (k := 3) rfl (by rw [ex59]; rfl) (by decide) rfl (fun ls hl => ?_)
              refine lv_goto (tgt := 2) hx hb dX2_findParameters_149 (by decide) ?_
              rw [show x59 = nI (j9 + 1) by rw [ex59]; exact (nI_succ j9).symm] at hl
              have hs9 : pS v c9 j9 ww = (ex1 false ((v.P c9 j9).2.2.2.1) (ex1 false ((v.P c9 j9).1) ww)) := by rw [pS, if_pos c_86, hB_35, hf51]; rfl
              have hpe9 : peI v c9 j9 = none := by rw [peI, if_pos c_86]
              have hz3 : ∀ p, p < j9 + 1 → (zz.s_pc c9 j9 ((cdN v ((v.P c9 j9).2.2.1)).map (AD 0))).pc c9 p = (cdN v (v.P c9 p).2.2.1).map (AD 0) ∧ (zz.s_pc c9 j9 ((cdN v ((v.P c9 j9).2.2.1)).map (AD 0))).pe c9 p = (peI v c9 p).map (AD (20 + c9)) := by
                intro p hp
                by_cases e9 : p = j9
                · rw [e9, hpe9]; refine ⟨?_, hz2 j9 (Nat.le_refl _)⟩; show up1 zz.pc c9 _ c9 j9 = _; rw [up1_eq, up1_eq]
                · rw [← (hz1 p (by omega)).1, ← (hz1 p (by omega)).2]; refine ⟨?_, rfl⟩; show up1 zz.pc c9 _ c9 p = _; rw [up1_eq, up1_ne e9]; try rfl
              have hz4 : ∀ p, j9 + 1 ≤ p → (zz.s_pc c9 j9 ((cdN v ((v.P c9 j9).2.2.1)).map (AD 0))).pe c9 p = none := fun p hp => by exact hz2 p (by omega)
              have hz6 : ∀ c, c ≠ c9 → (zz.s_pc c9 j9 ((cdN v ((v.P c9 j9).2.2.1)).map (AD 0))).pc c = z.pc c ∧ (zz.s_pc c9 j9 ((cdN v ((v.P c9 j9).2.2.1)).map (AD 0))).pe c = z.pe c := fun c hc => by rw [← (hz5 c hc).1, ← (hz5 c hc).2]; exact ⟨up1_ne hc, rfl⟩
              have hq2 : mP v c9 n (j9 + 1) (ex1 false ((v.P c9 j9).2.2.2.1) (ex1 false ((v.P c9 j9).1) ww)) = mP v c9 (v.nP c9) 0 w9 := by rw [← hs9]; exact hq
              exact ih (j9 + 1) (zz.s_pc c9 j9 ((cdN v ((v.P c9 j9).2.2.1)).map (AD 0))) (ex1 false ((v.P c9 j9).2.2.2.1) (ex1 false ((v.P c9 j9).1) ww)) (by omega) hz3 hz4 hz6 hz7 hq2 G53 k54 hP55 hfr58 _ _ hG hS ls (lv_sub hl [2, 3, 0] rfl)
            · skip
              refine lv_aload_n hx hb dX2_findParameters_89 rfl (lv_at hl 2 rfl) ?_
              refine lv_aload_n hx hb dX2_findParameters_90 rfl (lv_at hl 0 rfl) ?_
              refine mm_getN (v := .long ((v.P c9 j9).2.2.2.2.2.1)) hx hb hf_X8 (fun _ h9 => h9) hown hK hG k57 rfl 7 (by decide) (tb_use hT tw_793) (fun _ h9 => h9) rfl dX2_findParameters_91 ?_
              refine va_callq (va_runV (As := [.long ((v.P c9 j9).2.2.2.2.2.1)]) (rest := []) ⟨hx, hb, hml, hown, (fun _ h9 => absurd h9 List.not_mem_nil : ∀ w ∈ ([] : List Cond), w.before _ s = true)⟩ (c_X10_named l D cy A X hst hXT e0 tk hXE mi hXL G53 (AD 2 c9) (AD 1 (v.S c9).1) (LA (20 + c9)) (nI (c9 + 1)) ((v.S c9).2.1) ((v.S c9).2.2.2) ((v.S c9).2.2.1) (EA (20 + c9)) (v.nP c9) (AD (20 + c9)) (fun j => prF j (v.P c9 j) ((zz.s_pc c9 j9 ((cdN v ((v.P c9 j9).2.2.1)).map (AD 0))).pc c9 j) ((zz.s_pc c9 j9 ((cdN v ((v.P c9 j9).2.2.1)).map (AD 0))).pe c9 j) ((zz.s_pc c9 j9 ((cdN v ((v.P c9 j9).2.2.1)).map (AD 0))).pd c9 j)) (fun j => (v.P c9 j).2.1) ((v.P c9 j9).2.2.2.2.2.1) k56 (hP55.lsP hc9) (by have := (hP55.lsP hc9).le; omega) (hP55.nmP hc9)) (tb_cw (C := RX10) 1 hT tw_1047 tw_128 tw_1044 tw_1045 tw_1046 rfl rfl hq_X10_named ⟨Nat.le_of_ble_eq_true rfl, Nat.le_of_ble_eq_true rfl⟩) (mk_preC hst hG hK hA hX hS vc_11 k56) rfl rfl hl.1 rfl (lv_room (Nat.le_of_ble_eq_true rfl)) dX2_findParameters_94 ⟨Nat.le_of_ble_eq_true rfl, Nat.le_of_ble_eq_true rfl⟩) hS (fun q _ h => h) (fun q h => h) (fun r60 G61 t H locs ht hvm hw hB hz1 hk1 hS => ?_)
              have hG : mm D vwCl A G61 H := by rw [← ht]; exact hB
              clear hB hz1 hk1 hvm ht
              obtain ⟨er60, hw⟩ := hw
              rw [hw] at hG
              have fr60 : r60 = (paN v c9 ((v.P c9 j9).2.2.2.2.2.1)).map (AD (20 + c9)) := er60
              rw [fr60]
              obtain ⟨y_hf62, hf62⟩ : ∃ y, paN v c9 ((v.P c9 j9).2.2.2.2.2.1) = y := ⟨_, rfl⟩
              cases y_hf62 with
              | none =>
                refine W.eq (g2 := F0 m 97 ls [.null]) (by first | rfl | (rw [hf62]; rfl)) ?_
                refine lv_astoreN (lv' := [(4, .null), (3, .ref (AD (20 + c9) j9)), (0, .ref ed), (1, .ref (AD 2 c9)), (2, .int (nI j9))]) hx hb dX2_findParameters_97 hl (by decide) rfl (fun ls hl => ?_)
                refine lv_aload_n hx hb dX2_findParameters_99 rfl (lv_at hl 1 rfl) ?_
                refine lv_aloadN hx hb dX2_findParameters_100 (lv_at hl 0 rfl) ?_
                refine lv_ifnullN (tgt := 122) hx hb dX2_findParameters_102 (by decide) ?_
                refine lv_null hx hb dX2_findParameters_122 ?_
                refine mm_putN (v := .null) (ty := .object "DescribeText$Parameter") hx hb hf_X8 (fun _ h9 => h9) tyX8 tyX8_ok nmX8 hown hK hG hS k57 rfl 9 (by decide) (tb_use hT tw_799) (fun _ h9 => h9) rfl (by decide +kernel) rfl rfl (Nat.le_of_ble_eq_true rfl) dX2_findParameters_123 (fun H locs hG hS => ?_)
                obtain ⟨G64, eG64⟩ : ∃ g, g = mm_set G53 (AD (20 + c9) j9) (.inr (9, [.int (nI (j9 + 1)), .int ((v.P c9 j9).1), .long ((v.P c9 j9).2.1), .long ((v.P c9 j9).2.2.1), .int ((v.P c9 j9).2.2.2.1), va_rf ((cdN v ((v.P c9 j9).2.2.1)).map (AD 0)), .int ((v.P c9 j9).2.2.2.2.1), .long ((v.P c9 j9).2.2.2.2.2.1), .int ((v.P c9 j9).2.2.2.2.2.2.1), .null, .int ((v.P c9 j9).2.2.2.2.2.2.2), .int ((zz.pd c9 j9).1), .int ((zz.pd c9 j9).2.1), .long ((zz.pd c9 j9).2.2.1), .long ((zz.pd c9 j9).2.2.2)])) := ⟨_, rfl⟩
                have hG : mm D vwCl A G64 H := by rw [eG64]; exact hG
                have hP65 : EDP cy e0 tk G0 Bx G64 v ((zz.s_pc c9 j9 ((cdN v ((v.P c9 j9).2.2.1)).map (AD 0))).s_pe c9 j9 none) LA EA AD PI := by rw [eG64]; first | exact hP55.put_pe hc9 hj29 | (have z9 := hP55.put_pe hc9 hj29 (x := none); rw [hz46] at z9; exact z9)
                have hz66 : ((zz.s_pc c9 j9 ((cdN v ((v.P c9 j9).2.2.1)).map (AD 0))).s_pe c9 j9 none).pe c9 j9 = none := by show up1 (zz.s_pc c9 j9 ((cdN v ((v.P c9 j9).2.2.1)).map (AD 0))).pe c9 (up1 ((zz.s_pc c9 j9 ((cdN v ((v.P c9 j9).2.2.1)).map (AD 0))).pe c9) j9 none) c9 j9 = _; rw [up1_eq, up1_eq]
                have k67 : G64 ed = some (.inr (3, [.ref (LA 0), .ref (LA 1), .ref (LA 2), .ref (LA 3), .ref (LA 4), .ref (LA 5), .ref na, .int nc, va_rf iu, .int ((ex1 false ((v.P c9 j9).2.2.2.1) (ex1 false ((v.P c9 j9).1) ww)).1), va_rf ((ex1 false ((v.P c9 j9).2.2.2.1) (ex1 false ((v.P c9 j9).1) ww)).2.map (AD 1))])) := by rw [eG64]; exact mm_set_of k54 (mm_ne_oo k54 k57 (by decide))
                have k68 : G64 (AD 2 c9) = some (.inr (11, [.int (nI (c9 + 1)), .ref (AD 1 (v.S c9).1), .int ((v.S c9).2.1), .long ((v.S c9).2.2.1), .ref (LA (20 + c9)), .int ((v.S c9).2.2.2)])) := by rw [eG64]; exact mm_set_of k56 (mm_ne_oo k56 k57 (by decide))
                have k69 : G64 (AD (20 + c9) j9) = some (.inr (9, [.int (nI (j9 + 1)), .int ((v.P c9 j9).1), .long ((v.P c9 j9).2.1), .long ((v.P c9 j9).2.2.1), .int ((v.P c9 j9).2.2.2.1), va_rf ((cdN v ((v.P c9 j9).2.2.1)).map (AD 0)), .int ((v.P c9 j9).2.2.2.2.1), .long ((v.P c9 j9).2.2.2.2.2.1), .int ((v.P c9 j9).2.2.2.2.2.2.1), .null, .int ((v.P c9 j9).2.2.2.2.2.2.2), .int ((zz.pd c9 j9).1), .int ((zz.pd c9 j9).2.1), .long ((zz.pd c9 j9).2.2.1), .long ((zz.pd c9 j9).2.2.2)])) := by rw [eG64]; exact mm_set_self
                have hfr70 : ∀ (x : Nat) (e : va_E), G x = some e → x ≠ ed → (∀ k i, lvV v k → i < lnV v k → x ≠ AD k i) → G64 x = some e := fun x e z9 n1 n2 => by
                  have z0 := hfr58 x e z9 n1 n2
                  rw [eG64]; exact mm_set_of z0 (n2 (20 + c9) j9 (lv_P hc9) (by rw [ln_P (by have := hP55.b; omega)]; exact hj29))
                refine lv_aload_n hx hb dX2_findParameters_126 rfl (lv_at hl 2 rfl) ?_
                refine lv_aload_n hx hb dX2_findParameters_127 rfl (lv_at hl 1 rfl) ?_
                refine mm_getN (v := .null) hx hb hf_X8 (fun _ h9 => h9) hown hK hG k69 rfl 9 (by decide) (tb_use hT tw_799) (fun _ h9 => h9) rfl dX2_findParameters_128 ?_
                refine lv_ifnullN (tgt := 138) hx hb dX2_findParameters_131 (by decide) ?_
                refine lv_iconst (v := 0) hx hb dX2_findParameters_138 (by decide) ?_
                refine lv_aload_n hx hb dX2_findParameters_139 rfl (lv_at hl 1 rfl) ?_
                refine mm_getN (v := .int ((v.P c9 j9).2.2.2.2.2.2.1)) hx hb hf_X8 (fun _ h9 => h9) hown hK hG k69 rfl 8 (by decide) (tb_use hT tw_795) (fun _ h9 => h9) rfl dX2_findParameters_140 ?_
                refine va_callv (va_runV (As := [.int 0, .int ((v.P c9 j9).2.2.2.2.2.2.1)]) (rest := []) ⟨hx, hb, hml, hown, (fun _ h9 => absurd h9 List.not_mem_nil : ∀ w ∈ ([] : List Cond), w.before _ s = true)⟩ (c_ED_expect l D cy A X hst hXT e0 tk hXE G64 LA AD ed na nc iu (ex1 false ((v.P c9 j9).2.2.2.1) (ex1 false ((v.P c9 j9).1) ww)) false ((v.P c9 j9).2.2.2.2.2.2.1) k67) (tb_cw (C := RX2) 2 hT tw_1009 tw_110 tw_1006 tw_1008 tw_34 rfl rfl hq_X2_expect ⟨Nat.le_of_ble_eq_true rfl, Nat.le_of_ble_eq_true rfl⟩) (mk_preC hst hG hK hA hX hS vc_3 k67) rfl rfl hl.1 rfl (lv_room (Nat.le_of_ble_eq_true rfl)) dX2_findParameters_143 ⟨Nat.le_of_ble_eq_true rfl, Nat.le_of_ble_eq_true rfl⟩) hS (fun q _ h => h) (fun q h => h) (fun  G71 t H locs ht hvm hw hB hz1 hk1 hS => ?_)
                have hG : mm D vwCl A G71 H := by rw [← ht]; exact hB
                clear hB hz1 hk1 hvm ht
                have k72 : G71 ed = some (.inr (3, [.ref (LA 0), .ref (LA 1), .ref (LA 2), .ref (LA 3), .ref (LA 4), .ref (LA 5), .ref na, .int nc, va_rf iu, .int ((ex1 false ((v.P c9 j9).2.2.2.2.2.2.1) (ex1 false ((v.P c9 j9).2.2.2.1) (ex1 false ((v.P c9 j9).1) ww))).1), va_rf ((ex1 false ((v.P c9 j9).2.2.2.2.2.2.1) (ex1 false ((v.P c9 j9).2.2.2.1) (ex1 false ((v.P c9 j9).1) ww))).2.map (AD 1))])) := by rw [hw]; exact mm_set_self
                have hP73 : EDP cy e0 tk G0 Bx G71 v ((zz.s_pc c9 j9 ((cdN v ((v.P c9 j9).2.2.1)).map (AD 0))).s_pe c9 j9 none) LA EA AD PI := hP65.mve hBe k67 k72 (fun x e h1 n1 => by rw [hw]; exact mm_set_of h1 n1)
                have k74 : G71 (AD 2 c9) = some (.inr (11, [.int (nI (c9 + 1)), .ref (AD 1 (v.S c9).1), .int ((v.S c9).2.1), .long ((v.S c9).2.2.1), .ref (LA (20 + c9)), .int ((v.S c9).2.2.2)])) := by rw [hw]; exact mm_set_of k68 (mm_ne_oo k68 k67 (by decide))
                have k75 : G71 (AD (20 + c9) j9) = some (.inr (9, [.int (nI (j9 + 1)), .int ((v.P c9 j9).1), .long ((v.P c9 j9).2.1), .long ((v.P c9 j9).2.2.1), .int ((v.P c9 j9).2.2.2.1), va_rf ((cdN v ((v.P c9 j9).2.2.1)).map (AD 0)), .int ((v.P c9 j9).2.2.2.2.1), .long ((v.P c9 j9).2.2.2.2.2.1), .int ((v.P c9 j9).2.2.2.2.2.2.1), .null, .int ((v.P c9 j9).2.2.2.2.2.2.2), .int ((zz.pd c9 j9).1), .int ((zz.pd c9 j9).2.1), .long ((zz.pd c9 j9).2.2.1), .long ((zz.pd c9 j9).2.2.2)])) := by rw [hw]; exact mm_set_of k69 (mm_ne_oo k69 k67 (by decide))
                have hfr76 : ∀ (x : Nat) (e : va_E), G x = some e → x ≠ ed → (∀ k i, lvV v k → i < lnV v k → x ≠ AD k i) → G71 x = some e := fun x e z9 n1 n2 => by
                  have z0 := hfr70 x e z9 n1 n2
                  rw [hw]; exact mm_set_of z0 n1
                clear hw
                obtain ⟨x77, ex77⟩ : ∃ y : Int32, y = (nI j9) + 1 := ⟨_, rfl⟩
                refine lv_iinc (v := x77) (lv' := [(2, .int x77), (4, .null), (3, .ref (AD (20 + c9) j9)), (0, .ref ed), (1, .ref (AD 2 c9))]) hx hb dX2_findParameters_146 hl (k := 4) rfl (by rw [ex77]; rfl) (by decide) rfl (fun ls hl => ?_)
                refine lv_goto (tgt := 2) hx hb dX2_findParameters_149 (by decide) ?_
                rw [show x77 = nI (j9 + 1) by rw [ex77]; exact (nI_succ j9).symm] at hl
                have heB : eB v c9 j9 = false := by rw [eB, hf62]
                have hpe9 : peI v c9 j9 = none := by rw [peI, if_neg c_86, hf62]
                have hs9 : pS v c9 j9 ww = (ex1 false ((v.P c9 j9).2.2.2.2.2.2.1) (ex1 false ((v.P c9 j9).2.2.2.1) (ex1 false ((v.P c9 j9).1) ww))) := by rw [pS, if_neg c_86, hB_35, hf51, heB]; rfl
                have hz3 : ∀ p, p < j9 + 1 → ((zz.s_pc c9 j9 ((cdN v ((v.P c9 j9).2.2.1)).map (AD 0))).s_pe c9 j9 none).pc c9 p = (cdN v (v.P c9 p).2.2.1).map (AD 0) ∧ ((zz.s_pc c9 j9 ((cdN v ((v.P c9 j9).2.2.1)).map (AD 0))).s_pe c9 j9 none).pe c9 p = (peI v c9 p).map (AD (20 + c9)) := by
                  intro p hp
                  by_cases e9 : p = j9
                  · rw [e9, hpe9]; refine ⟨?_, ?_⟩; show up1 zz.pc c9 _ c9 j9 = _; rw [up1_eq, up1_eq]; show up1 zz.pe c9 _ c9 j9 = _; rw [up1_eq, up1_eq]; rfl
                  · rw [← (hz1 p (by omega)).1, ← (hz1 p (by omega)).2]; refine ⟨?_, ?_⟩; show up1 zz.pc c9 _ c9 p = _; rw [up1_eq, up1_ne e9]; show up1 zz.pe c9 _ c9 p = _; rw [up1_eq, up1_ne e9]; try rfl
                have hz4 : ∀ p, j9 + 1 ≤ p → ((zz.s_pc c9 j9 ((cdN v ((v.P c9 j9).2.2.1)).map (AD 0))).s_pe c9 j9 none).pe c9 p = none := fun p hp => by rw [← hz2 p (by omega)]; show up1 zz.pe c9 _ c9 p = _; rw [up1_eq, up1_ne (by omega)]; try rfl
                have hz6 : ∀ c, c ≠ c9 → ((zz.s_pc c9 j9 ((cdN v ((v.P c9 j9).2.2.1)).map (AD 0))).s_pe c9 j9 none).pc c = z.pc c ∧ ((zz.s_pc c9 j9 ((cdN v ((v.P c9 j9).2.2.1)).map (AD 0))).s_pe c9 j9 none).pe c = z.pe c := fun c hc => by rw [← (hz5 c hc).1, ← (hz5 c hc).2]; exact ⟨up1_ne hc, up1_ne hc⟩
                have hq2 : mP v c9 n (j9 + 1) (ex1 false ((v.P c9 j9).2.2.2.2.2.2.1) (ex1 false ((v.P c9 j9).2.2.2.1) (ex1 false ((v.P c9 j9).1) ww))) = mP v c9 (v.nP c9) 0 w9 := by rw [← hs9]; exact hq
                exact ih (j9 + 1) ((zz.s_pc c9 j9 ((cdN v ((v.P c9 j9).2.2.1)).map (AD 0))).s_pe c9 j9 none) (ex1 false ((v.P c9 j9).2.2.2.2.2.2.1) (ex1 false ((v.P c9 j9).2.2.2.1) (ex1 false ((v.P c9 j9).1) ww))) (by omega) hz3 hz4 hz6 hz7 hq2 G71 k72 hP73 hfr76 _ _ hG hS ls (lv_sub hl [3, 4, 0] rfl)
              | some j63 =>
                have hj78 := paN_lt hf62
                refine W.eq (g2 := F0 m 97 ls [.ref (AD (20 + c9) j63)]) (by first | rfl | (rw [hf62]; rfl)) ?_
                refine lv_astore (lv' := [(4, .ref (AD (20 + c9) j63)), (3, .ref (AD (20 + c9) j9)), (0, .ref ed), (1, .ref (AD 2 c9)), (2, .int (nI j9))]) hx hb dX2_findParameters_97 hl (by decide) rfl (fun ls hl => ?_)
                refine lv_aload_n hx hb dX2_findParameters_99 rfl (lv_at hl 1 rfl) ?_
                refine lv_aload hx hb dX2_findParameters_100 (lv_at hl 0 rfl) ?_
                refine lv_ifnull hx hb dX2_findParameters_102 ?_
                refine lv_aload hx hb dX2_findParameters_105 (lv_at hl 0 rfl) ?_
                have k79 : G53 (AD (20 + c9) j63) = some (.inr (9, [.int (nI (j63 + 1)), .int ((v.P c9 j63).1), .long ((v.P c9 j63).2.1), .long ((v.P c9 j63).2.2.1), .int ((v.P c9 j63).2.2.2.1), va_rf ((zz.s_pc c9 j9 ((cdN v ((v.P c9 j9).2.2.1)).map (AD 0))).pc c9 j63), .int ((v.P c9 j63).2.2.2.2.1), .long ((v.P c9 j63).2.2.2.2.2.1), .int ((v.P c9 j63).2.2.2.2.2.2.1), va_rf ((zz.s_pc c9 j9 ((cdN v ((v.P c9 j9).2.2.1)).map (AD 0))).pe c9 j63), .int ((v.P c9 j63).2.2.2.2.2.2.2), .int (((zz.s_pc c9 j9 ((cdN v ((v.P c9 j9).2.2.1)).map (AD 0))).pd c9 j63).1), .int (((zz.s_pc c9 j9 ((cdN v ((v.P c9 j9).2.2.1)).map (AD 0))).pd c9 j63).2.1), .long (((zz.s_pc c9 j9 ((cdN v ((v.P c9 j9).2.2.1)).map (AD 0))).pd c9 j63).2.2.1), .long (((zz.s_pc c9 j9 ((cdN v ((v.P c9 j9).2.2.1)).map (AD 0))).pd c9 j63).2.2.2)])) := hP55.elP hc9 hj78
                refine mm_getN (v := .int (nI (j63 + 1))) hx hb hf_X8 (fun _ h9 => h9) hown hK hG k79 rfl 0 (by decide) (tb_use hT tw_772) (fun _ h9 => h9) rfl dX2_findParameters_107 ?_
                refine lv_aload_n hx hb dX2_findParameters_110 rfl (lv_at hl 1 rfl) ?_
                refine mm_getN (v := .int (nI (j9 + 1))) hx hb hf_X8 (fun _ h9 => h9) hown hK hG k57 rfl 0 (by decide) (tb_use hT tw_772) (fun _ h9 => h9) rfl dX2_findParameters_111 ?_
                refine lv_icmp_ge (tgt := 122) hx hb dX2_findParameters_114 (by decide) (fun c_114 => ?_) (fun c_114 => ?_)
                · skip
                  refine lv_null hx hb dX2_findParameters_122 ?_
                  refine mm_putN (v := .null) (ty := .object "DescribeText$Parameter") hx hb hf_X8 (fun _ h9 => h9) tyX8 tyX8_ok nmX8 hown hK hG hS k57 rfl 9 (by decide) (tb_use hT tw_799) (fun _ h9 => h9) rfl (by decide +kernel) rfl rfl (Nat.le_of_ble_eq_true rfl) dX2_findParameters_123 (fun H locs hG hS => ?_)
                  obtain ⟨G80, eG80⟩ : ∃ g, g = mm_set G53 (AD (20 + c9) j9) (.inr (9, [.int (nI (j9 + 1)), .int ((v.P c9 j9).1), .long ((v.P c9 j9).2.1), .long ((v.P c9 j9).2.2.1), .int ((v.P c9 j9).2.2.2.1), va_rf ((cdN v ((v.P c9 j9).2.2.1)).map (AD 0)), .int ((v.P c9 j9).2.2.2.2.1), .long ((v.P c9 j9).2.2.2.2.2.1), .int ((v.P c9 j9).2.2.2.2.2.2.1), .null, .int ((v.P c9 j9).2.2.2.2.2.2.2), .int ((zz.pd c9 j9).1), .int ((zz.pd c9 j9).2.1), .long ((zz.pd c9 j9).2.2.1), .long ((zz.pd c9 j9).2.2.2)])) := ⟨_, rfl⟩
                  have hG : mm D vwCl A G80 H := by rw [eG80]; exact hG
                  have hP81 : EDP cy e0 tk G0 Bx G80 v ((zz.s_pc c9 j9 ((cdN v ((v.P c9 j9).2.2.1)).map (AD 0))).s_pe c9 j9 none) LA EA AD PI := by rw [eG80]; first | exact hP55.put_pe hc9 hj29 | (have z9 := hP55.put_pe hc9 hj29 (x := none); rw [hz46] at z9; exact z9)
                  have hz82 : ((zz.s_pc c9 j9 ((cdN v ((v.P c9 j9).2.2.1)).map (AD 0))).s_pe c9 j9 none).pe c9 j9 = none := by show up1 (zz.s_pc c9 j9 ((cdN v ((v.P c9 j9).2.2.1)).map (AD 0))).pe c9 (up1 ((zz.s_pc c9 j9 ((cdN v ((v.P c9 j9).2.2.1)).map (AD 0))).pe c9) j9 none) c9 j9 = _; rw [up1_eq, up1_eq]
                  have k83 : G80 ed = some (.inr (3, [.ref (LA 0), .ref (LA 1), .ref (LA 2), .ref (LA 3), .ref (LA 4), .ref (LA 5), .ref na, .int nc, va_rf iu, .int ((ex1 false ((v.P c9 j9).2.2.2.1) (ex1 false ((v.P c9 j9).1) ww)).1), va_rf ((ex1 false ((v.P c9 j9).2.2.2.1) (ex1 false ((v.P c9 j9).1) ww)).2.map (AD 1))])) := by rw [eG80]; exact mm_set_of k54 (mm_ne_oo k54 k57 (by decide))
                  have k84 : G80 (AD 2 c9) = some (.inr (11, [.int (nI (c9 + 1)), .ref (AD 1 (v.S c9).1), .int ((v.S c9).2.1), .long ((v.S c9).2.2.1), .ref (LA (20 + c9)), .int ((v.S c9).2.2.2)])) := by rw [eG80]; exact mm_set_of k56 (mm_ne_oo k56 k57 (by decide))
                  have k85 : G80 (AD (20 + c9) j9) = some (.inr (9, [.int (nI (j9 + 1)), .int ((v.P c9 j9).1), .long ((v.P c9 j9).2.1), .long ((v.P c9 j9).2.2.1), .int ((v.P c9 j9).2.2.2.1), va_rf ((cdN v ((v.P c9 j9).2.2.1)).map (AD 0)), .int ((v.P c9 j9).2.2.2.2.1), .long ((v.P c9 j9).2.2.2.2.2.1), .int ((v.P c9 j9).2.2.2.2.2.2.1), .null, .int ((v.P c9 j9).2.2.2.2.2.2.2), .int ((zz.pd c9 j9).1), .int ((zz.pd c9 j9).2.1), .long ((zz.pd c9 j9).2.2.1), .long ((zz.pd c9 j9).2.2.2)])) := by rw [eG80]; exact mm_set_self
                  have hfr86 : ∀ (x : Nat) (e : va_E), G x = some e → x ≠ ed → (∀ k i, lvV v k → i < lnV v k → x ≠ AD k i) → G80 x = some e := fun x e z9 n1 n2 => by
                    have z0 := hfr58 x e z9 n1 n2
                    rw [eG80]; exact mm_set_of z0 (n2 (20 + c9) j9 (lv_P hc9) (by rw [ln_P (by have := hP55.b; omega)]; exact hj29))
                  refine lv_aload_n hx hb dX2_findParameters_126 rfl (lv_at hl 2 rfl) ?_
                  refine lv_aload_n hx hb dX2_findParameters_127 rfl (lv_at hl 1 rfl) ?_
                  refine mm_getN (v := .null) hx hb hf_X8 (fun _ h9 => h9) hown hK hG k85 rfl 9 (by decide) (tb_use hT tw_799) (fun _ h9 => h9) rfl dX2_findParameters_128 ?_
                  refine lv_ifnullN (tgt := 138) hx hb dX2_findParameters_131 (by decide) ?_
                  refine lv_iconst (v := 0) hx hb dX2_findParameters_138 (by decide) ?_
                  refine lv_aload_n hx hb dX2_findParameters_139 rfl (lv_at hl 1 rfl) ?_
                  refine mm_getN (v := .int ((v.P c9 j9).2.2.2.2.2.2.1)) hx hb hf_X8 (fun _ h9 => h9) hown hK hG k85 rfl 8 (by decide) (tb_use hT tw_795) (fun _ h9 => h9) rfl dX2_findParameters_140 ?_
                  refine va_callv (va_runV (As := [.int 0, .int ((v.P c9 j9).2.2.2.2.2.2.1)]) (rest := []) ⟨hx, hb, hml, hown, (fun _ h9 => absurd h9 List.not_mem_nil : ∀ w ∈ ([] : List Cond), w.before _ s = true)⟩ (c_ED_expect l D cy A X hst hXT e0 tk hXE G80 LA AD ed na nc iu (ex1 false ((v.P c9 j9).2.2.2.1) (ex1 false ((v.P c9 j9).1) ww)) false ((v.P c9 j9).2.2.2.2.2.2.1) k83) (tb_cw (C := RX2) 2 hT tw_1009 tw_110 tw_1006 tw_1008 tw_34 rfl rfl hq_X2_expect ⟨Nat.le_of_ble_eq_true rfl, Nat.le_of_ble_eq_true rfl⟩) (mk_preC hst hG hK hA hX hS vc_3 k83) rfl rfl hl.1 rfl (lv_room (Nat.le_of_ble_eq_true rfl)) dX2_findParameters_143 ⟨Nat.le_of_ble_eq_true rfl, Nat.le_of_ble_eq_true rfl⟩) hS (fun q _ h => h) (fun q h => h) (fun  G87 t H locs ht hvm hw hB hz1 hk1 hS => ?_)
                  have hG : mm D vwCl A G87 H := by rw [← ht]; exact hB
                  clear hB hz1 hk1 hvm ht
                  have k88 : G87 ed = some (.inr (3, [.ref (LA 0), .ref (LA 1), .ref (LA 2), .ref (LA 3), .ref (LA 4), .ref (LA 5), .ref na, .int nc, va_rf iu, .int ((ex1 false ((v.P c9 j9).2.2.2.2.2.2.1) (ex1 false ((v.P c9 j9).2.2.2.1) (ex1 false ((v.P c9 j9).1) ww))).1), va_rf ((ex1 false ((v.P c9 j9).2.2.2.2.2.2.1) (ex1 false ((v.P c9 j9).2.2.2.1) (ex1 false ((v.P c9 j9).1) ww))).2.map (AD 1))])) := by rw [hw]; exact mm_set_self
                  have hP89 : EDP cy e0 tk G0 Bx G87 v ((zz.s_pc c9 j9 ((cdN v ((v.P c9 j9).2.2.1)).map (AD 0))).s_pe c9 j9 none) LA EA AD PI := hP81.mve hBe k83 k88 (fun x e h1 n1 => by rw [hw]; exact mm_set_of h1 n1)
                  have k90 : G87 (AD 2 c9) = some (.inr (11, [.int (nI (c9 + 1)), .ref (AD 1 (v.S c9).1), .int ((v.S c9).2.1), .long ((v.S c9).2.2.1), .ref (LA (20 + c9)), .int ((v.S c9).2.2.2)])) := by rw [hw]; exact mm_set_of k84 (mm_ne_oo k84 k83 (by decide))
                  have k91 : G87 (AD (20 + c9) j9) = some (.inr (9, [.int (nI (j9 + 1)), .int ((v.P c9 j9).1), .long ((v.P c9 j9).2.1), .long ((v.P c9 j9).2.2.1), .int ((v.P c9 j9).2.2.2.1), va_rf ((cdN v ((v.P c9 j9).2.2.1)).map (AD 0)), .int ((v.P c9 j9).2.2.2.2.1), .long ((v.P c9 j9).2.2.2.2.2.1), .int ((v.P c9 j9).2.2.2.2.2.2.1), .null, .int ((v.P c9 j9).2.2.2.2.2.2.2), .int ((zz.pd c9 j9).1), .int ((zz.pd c9 j9).2.1), .long ((zz.pd c9 j9).2.2.1), .long ((zz.pd c9 j9).2.2.2)])) := by rw [hw]; exact mm_set_of k85 (mm_ne_oo k85 k83 (by decide))
                  have hfr92 : ∀ (x : Nat) (e : va_E), G x = some e → x ≠ ed → (∀ k i, lvV v k → i < lnV v k → x ≠ AD k i) → G87 x = some e := fun x e z9 n1 n2 => by
                    have z0 := hfr86 x e z9 n1 n2
                    rw [hw]; exact mm_set_of z0 n1
                  clear hw
                  obtain ⟨x93, ex93⟩ : ∃ y : Int32, y = (nI j9) + 1 := ⟨_, rfl⟩
                  refine lv_iinc (v := x93) (lv' := [(2, .int x93), (4, .ref (AD (20 + c9) j63)), (3, .ref (AD (20 + c9) j9)), (0, .ref ed), (1, .ref (AD 2 c9))]) hx hb dX2_findParameters_146 hl (k := 4) rfl (by rw [ex93]; rfl) (by decide) rfl (fun ls hl => ?_)
                  refine lv_goto (tgt := 2) hx hb dX2_findParameters_149 (by decide) ?_
                  rw [show x93 = nI (j9 + 1) by rw [ex93]; exact (nI_succ j9).symm] at hl
                  have hlt9 : ¬ j63 < j9 := fun z => absurd c_114 (nI_ge (by omega) (by omega))
                  have heB : eB v c9 j9 = false := by rw [eB, hf62]; exact decide_eq_false hlt9
                  have hpe9 : peI v c9 j9 = none := by rw [peI, if_neg c_86, hf62]; exact if_neg hlt9
                  have hs9 : pS v c9 j9 ww = (ex1 false ((v.P c9 j9).2.2.2.2.2.2.1) (ex1 false ((v.P c9 j9).2.2.2.1) (ex1 false ((v.P c9 j9).1) ww))) := by rw [pS, if_neg c_86, hB_35, hf51, heB]; rfl
                  have hz3 : ∀ p, p < j9 + 1 → ((zz.s_pc c9 j9 ((cdN v ((v.P c9 j9).2.2.1)).map (AD 0))).s_pe c9 j9 none).pc c9 p = (cdN v (v.P c9 p).2.2.1).map (AD 0) ∧ ((zz.s_pc c9 j9 ((cdN v ((v.P c9 j9).2.2.1)).map (AD 0))).s_pe c9 j9 none).pe c9 p = (peI v c9 p).map (AD (20 + c9)) := by
                    intro p hp
                    by_cases e9 : p = j9
                    · rw [e9, hpe9]; refine ⟨?_, ?_⟩; show up1 zz.pc c9 _ c9 j9 = _; rw [up1_eq, up1_eq]; show up1 zz.pe c9 _ c9 j9 = _; rw [up1_eq, up1_eq]; rfl
                    · rw [← (hz1 p (by omega)).1, ← (hz1 p (by omega)).2]; refine ⟨?_, ?_⟩; show up1 zz.pc c9 _ c9 p = _; rw [up1_eq, up1_ne e9]; show up1 zz.pe c9 _ c9 p = _; rw [up1_eq, up1_ne e9]; try rfl
                  have hz4 : ∀ p, j9 + 1 ≤ p → ((zz.s_pc c9 j9 ((cdN v ((v.P c9 j9).2.2.1)).map (AD 0))).s_pe c9 j9 none).pe c9 p = none := fun p hp => by rw [← hz2 p (by omega)]; show up1 zz.pe c9 _ c9 p = _; rw [up1_eq, up1_ne (by omega)]; try rfl
                  have hz6 : ∀ c, c ≠ c9 → ((zz.s_pc c9 j9 ((cdN v ((v.P c9 j9).2.2.1)).map (AD 0))).s_pe c9 j9 none).pc c = z.pc c ∧ ((zz.s_pc c9 j9 ((cdN v ((v.P c9 j9).2.2.1)).map (AD 0))).s_pe c9 j9 none).pe c = z.pe c := fun c hc => by rw [← (hz5 c hc).1, ← (hz5 c hc).2]; exact ⟨up1_ne hc, up1_ne hc⟩
                  have hq2 : mP v c9 n (j9 + 1) (ex1 false ((v.P c9 j9).2.2.2.2.2.2.1) (ex1 false ((v.P c9 j9).2.2.2.1) (ex1 false ((v.P c9 j9).1) ww))) = mP v c9 (v.nP c9) 0 w9 := by rw [← hs9]; exact hq
                  exact ih (j9 + 1) ((zz.s_pc c9 j9 ((cdN v ((v.P c9 j9).2.2.1)).map (AD 0))).s_pe c9 j9 none) (ex1 false ((v.P c9 j9).2.2.2.2.2.2.1) (ex1 false ((v.P c9 j9).2.2.2.1) (ex1 false ((v.P c9 j9).1) ww))) (by omega) hz3 hz4 hz6 hz7 hq2 G87 k88 hP89 hfr92 _ _ hG hS ls (lv_sub hl [3, 4, 0] rfl)
                · skip
                  refine lv_aload hx hb dX2_findParameters_117 (lv_at hl 0 rfl) ?_
                  refine lv_goto (tgt := 123) hx hb dX2_findParameters_119 (by decide) ?_
                  refine mm_putN (v := .ref (AD (20 + c9) j63)) (ty := .object "DescribeText$Parameter") hx hb hf_X8 (fun _ h9 => h9) tyX8 tyX8_ok nmX8 hown hK hG hS k57 rfl 9 (by decide) (tb_use hT tw_799) (fun _ h9 => h9) rfl (by decide +kernel) rfl rfl (Nat.le_of_ble_eq_true rfl) dX2_findParameters_123 (fun H locs hG hS => ?_)
                  obtain ⟨G94, eG94⟩ : ∃ g, g = mm_set G53 (AD (20 + c9) j9) (.inr (9, [.int (nI (j9 + 1)), .int ((v.P c9 j9).1), .long ((v.P c9 j9).2.1), .long ((v.P c9 j9).2.2.1), .int ((v.P c9 j9).2.2.2.1), va_rf ((cdN v ((v.P c9 j9).2.2.1)).map (AD 0)), .int ((v.P c9 j9).2.2.2.2.1), .long ((v.P c9 j9).2.2.2.2.2.1), .int ((v.P c9 j9).2.2.2.2.2.2.1), .ref (AD (20 + c9) j63), .int ((v.P c9 j9).2.2.2.2.2.2.2), .int ((zz.pd c9 j9).1), .int ((zz.pd c9 j9).2.1), .long ((zz.pd c9 j9).2.2.1), .long ((zz.pd c9 j9).2.2.2)])) := ⟨_, rfl⟩
                  have hG : mm D vwCl A G94 H := by rw [eG94]; exact hG
                  have hP95 : EDP cy e0 tk G0 Bx G94 v ((zz.s_pc c9 j9 ((cdN v ((v.P c9 j9).2.2.1)).map (AD 0))).s_pe c9 j9 (some (AD (20 + c9) j63))) LA EA AD PI := by rw [eG94]; first | exact hP55.put_pe hc9 hj29 | (have z9 := hP55.put_pe hc9 hj29 (x := (some (AD (20 + c9) j63))); rw [hz46] at z9; exact z9)
                  have hz96 : ((zz.s_pc c9 j9 ((cdN v ((v.P c9 j9).2.2.1)).map (AD 0))).s_pe c9 j9 (some (AD (20 + c9) j63))).pe c9 j9 = (some (AD (20 + c9) j63)) := by show up1 (zz.s_pc c9 j9 ((cdN v ((v.P c9 j9).2.2.1)).map (AD 0))).pe c9 (up1 ((zz.s_pc c9 j9 ((cdN v ((v.P c9 j9).2.2.1)).map (AD 0))).pe c9) j9 (some (AD (20 + c9) j63))) c9 j9 = _; rw [up1_eq, up1_eq]
                  have k97 : G94 ed = some (.inr (3, [.ref (LA 0), .ref (LA 1), .ref (LA 2), .ref (LA 3), .ref (LA 4), .ref (LA 5), .ref na, .int nc, va_rf iu, .int ((ex1 false ((v.P c9 j9).2.2.2.1) (ex1 false ((v.P c9 j9).1) ww)).1), va_rf ((ex1 false ((v.P c9 j9).2.2.2.1) (ex1 false ((v.P c9 j9).1) ww)).2.map (AD 1))])) := by rw [eG94]; exact mm_set_of k54 (mm_ne_oo k54 k57 (by decide))
                  have k98 : G94 (AD 2 c9) = some (.inr (11, [.int (nI (c9 + 1)), .ref (AD 1 (v.S c9).1), .int ((v.S c9).2.1), .long ((v.S c9).2.2.1), .ref (LA (20 + c9)), .int ((v.S c9).2.2.2)])) := by rw [eG94]; exact mm_set_of k56 (mm_ne_oo k56 k57 (by decide))
                  have k99 : G94 (AD (20 + c9) j9) = some (.inr (9, [.int (nI (j9 + 1)), .int ((v.P c9 j9).1), .long ((v.P c9 j9).2.1), .long ((v.P c9 j9).2.2.1), .int ((v.P c9 j9).2.2.2.1), va_rf ((cdN v ((v.P c9 j9).2.2.1)).map (AD 0)), .int ((v.P c9 j9).2.2.2.2.1), .long ((v.P c9 j9).2.2.2.2.2.1), .int ((v.P c9 j9).2.2.2.2.2.2.1), .ref (AD (20 + c9) j63), .int ((v.P c9 j9).2.2.2.2.2.2.2), .int ((zz.pd c9 j9).1), .int ((zz.pd c9 j9).2.1), .long ((zz.pd c9 j9).2.2.1), .long ((zz.pd c9 j9).2.2.2)])) := by rw [eG94]; exact mm_set_self
                  have hfr100 : ∀ (x : Nat) (e : va_E), G x = some e → x ≠ ed → (∀ k i, lvV v k → i < lnV v k → x ≠ AD k i) → G94 x = some e := fun x e z9 n1 n2 => by
                    have z0 := hfr58 x e z9 n1 n2
                    rw [eG94]; exact mm_set_of z0 (n2 (20 + c9) j9 (lv_P hc9) (by rw [ln_P (by have := hP55.b; omega)]; exact hj29))
                  refine lv_aload_n hx hb dX2_findParameters_126 rfl (lv_at hl 2 rfl) ?_
                  refine lv_aload_n hx hb dX2_findParameters_127 rfl (lv_at hl 1 rfl) ?_
                  refine mm_getN (v := .ref (AD (20 + c9) j63)) hx hb hf_X8 (fun _ h9 => h9) hown hK hG k99 rfl 9 (by decide) (tb_use hT tw_799) (fun _ h9 => h9) rfl dX2_findParameters_128 ?_
                  refine lv_ifnull hx hb dX2_findParameters_131 ?_
                  refine lv_iconst (v := 1) hx hb dX2_findParameters_134 (by decide) ?_
                  refine lv_goto (tgt := 139) hx hb dX2_findParameters_135 (by decide) ?_
                  refine lv_aload_n hx hb dX2_findParameters_139 rfl (lv_at hl 1 rfl) ?_
                  refine mm_getN (v := .int ((v.P c9 j9).2.2.2.2.2.2.1)) hx hb hf_X8 (fun _ h9 => h9) hown hK hG k99 rfl 8 (by decide) (tb_use hT tw_795) (fun _ h9 => h9) rfl dX2_findParameters_140 ?_
                  refine va_callv (va_runV (As := [.int 1, .int ((v.P c9 j9).2.2.2.2.2.2.1)]) (rest := []) ⟨hx, hb, hml, hown, (fun _ h9 => absurd h9 List.not_mem_nil : ∀ w ∈ ([] : List Cond), w.before _ s = true)⟩ (c_ED_expect l D cy A X hst hXT e0 tk hXE G94 LA AD ed na nc iu (ex1 false ((v.P c9 j9).2.2.2.1) (ex1 false ((v.P c9 j9).1) ww)) true ((v.P c9 j9).2.2.2.2.2.2.1) k97) (tb_cw (C := RX2) 2 hT tw_1009 tw_110 tw_1006 tw_1008 tw_34 rfl rfl hq_X2_expect ⟨Nat.le_of_ble_eq_true rfl, Nat.le_of_ble_eq_true rfl⟩) (mk_preC hst hG hK hA hX hS vc_3 k97) rfl rfl hl.1 rfl (lv_room (Nat.le_of_ble_eq_true rfl)) dX2_findParameters_143 ⟨Nat.le_of_ble_eq_true rfl, Nat.le_of_ble_eq_true rfl⟩) hS (fun q _ h => h) (fun q h => h) (fun  G101 t H locs ht hvm hw hB hz1 hk1 hS => ?_)
                  have hG : mm D vwCl A G101 H := by rw [← ht]; exact hB
                  clear hB hz1 hk1 hvm ht
                  have k102 : G101 ed = some (.inr (3, [.ref (LA 0), .ref (LA 1), .ref (LA 2), .ref (LA 3), .ref (LA 4), .ref (LA 5), .ref na, .int nc, va_rf iu, .int ((ex1 true ((v.P c9 j9).2.2.2.2.2.2.1) (ex1 false ((v.P c9 j9).2.2.2.1) (ex1 false ((v.P c9 j9).1) ww))).1), va_rf ((ex1 true ((v.P c9 j9).2.2.2.2.2.2.1) (ex1 false ((v.P c9 j9).2.2.2.1) (ex1 false ((v.P c9 j9).1) ww))).2.map (AD 1))])) := by rw [hw]; exact mm_set_self
                  have hP103 : EDP cy e0 tk G0 Bx G101 v ((zz.s_pc c9 j9 ((cdN v ((v.P c9 j9).2.2.1)).map (AD 0))).s_pe c9 j9 (some (AD (20 + c9) j63))) LA EA AD PI := hP95.mve hBe k97 k102 (fun x e h1 n1 => by rw [hw]; exact mm_set_of h1 n1)
                  have k104 : G101 (AD 2 c9) = some (.inr (11, [.int (nI (c9 + 1)), .ref (AD 1 (v.S c9).1), .int ((v.S c9).2.1), .long ((v.S c9).2.2.1), .ref (LA (20 + c9)), .int ((v.S c9).2.2.2)])) := by rw [hw]; exact mm_set_of k98 (mm_ne_oo k98 k97 (by decide))
                  have k105 : G101 (AD (20 + c9) j9) = some (.inr (9, [.int (nI (j9 + 1)), .int ((v.P c9 j9).1), .long ((v.P c9 j9).2.1), .long ((v.P c9 j9).2.2.1), .int ((v.P c9 j9).2.2.2.1), va_rf ((cdN v ((v.P c9 j9).2.2.1)).map (AD 0)), .int ((v.P c9 j9).2.2.2.2.1), .long ((v.P c9 j9).2.2.2.2.2.1), .int ((v.P c9 j9).2.2.2.2.2.2.1), .ref (AD (20 + c9) j63), .int ((v.P c9 j9).2.2.2.2.2.2.2), .int ((zz.pd c9 j9).1), .int ((zz.pd c9 j9).2.1), .long ((zz.pd c9 j9).2.2.1), .long ((zz.pd c9 j9).2.2.2)])) := by rw [hw]; exact mm_set_of k99 (mm_ne_oo k99 k97 (by decide))
                  have hfr106 : ∀ (x : Nat) (e : va_E), G x = some e → x ≠ ed → (∀ k i, lvV v k → i < lnV v k → x ≠ AD k i) → G101 x = some e := fun x e z9 n1 n2 => by
                    have z0 := hfr100 x e z9 n1 n2
                    rw [hw]; exact mm_set_of z0 n1
                  clear hw
                  obtain ⟨x107, ex107⟩ : ∃ y : Int32, y = (nI j9) + 1 := ⟨_, rfl⟩
                  refine lv_iinc (v := x107) (lv' := [(2, .int x107), (4, .ref (AD (20 + c9) j63)), (3, .ref (AD (20 + c9) j9)), (0, .ref ed), (1, .ref (AD 2 c9))]) hx hb dX2_findParameters_146 hl (k := 4) rfl (by rw [ex107]; rfl) (by decide) rfl (fun ls hl => ?_)
                  refine lv_goto (tgt := 2) hx hb dX2_findParameters_149 (by decide) ?_
                  rw [show x107 = nI (j9 + 1) by rw [ex107]; exact (nI_succ j9).symm] at hl
                  have hlt9 : j63 < j9 := by have z := nI_lt_of (a := j63 + 1) (b := j9 + 1) (by omega) (by omega) c_114; omega
                  have heB : eB v c9 j9 = true := by rw [eB, hf62]; exact decide_eq_true hlt9
                  have hpe9 : peI v c9 j9 = some j63 := by rw [peI, if_neg c_86, hf62]; exact if_pos hlt9
                  have hs9 : pS v c9 j9 ww = (ex1 true ((v.P c9 j9).2.2.2.2.2.2.1) (ex1 false ((v.P c9 j9).2.2.2.1) (ex1 false ((v.P c9 j9).1) ww))) := by rw [pS, if_neg c_86, hB_35, hf51, heB]; rfl
                  have hz3 : ∀ p, p < j9 + 1 → ((zz.s_pc c9 j9 ((cdN v ((v.P c9 j9).2.2.1)).map (AD 0))).s_pe c9 j9 (some (AD (20 + c9) j63))).pc c9 p = (cdN v (v.P c9 p).2.2.1).map (AD 0) ∧ ((zz.s_pc c9 j9 ((cdN v ((v.P c9 j9).2.2.1)).map (AD 0))).s_pe c9 j9 (some (AD (20 + c9) j63))).pe c9 p = (peI v c9 p).map (AD (20 + c9)) := by
                    intro p hp
                    by_cases e9 : p = j9
                    · rw [e9, hpe9]; refine ⟨?_, ?_⟩; show up1 zz.pc c9 _ c9 j9 = _; rw [up1_eq, up1_eq]; show up1 zz.pe c9 _ c9 j9 = _; rw [up1_eq, up1_eq]; rfl
                    · rw [← (hz1 p (by omega)).1, ← (hz1 p (by omega)).2]; refine ⟨?_, ?_⟩; show up1 zz.pc c9 _ c9 p = _; rw [up1_eq, up1_ne e9]; show up1 zz.pe c9 _ c9 p = _; rw [up1_eq, up1_ne e9]; try rfl
                  have hz4 : ∀ p, j9 + 1 ≤ p → ((zz.s_pc c9 j9 ((cdN v ((v.P c9 j9).2.2.1)).map (AD 0))).s_pe c9 j9 (some (AD (20 + c9) j63))).pe c9 p = none := fun p hp => by rw [← hz2 p (by omega)]; show up1 zz.pe c9 _ c9 p = _; rw [up1_eq, up1_ne (by omega)]; try rfl
                  have hz6 : ∀ c, c ≠ c9 → ((zz.s_pc c9 j9 ((cdN v ((v.P c9 j9).2.2.1)).map (AD 0))).s_pe c9 j9 (some (AD (20 + c9) j63))).pc c = z.pc c ∧ ((zz.s_pc c9 j9 ((cdN v ((v.P c9 j9).2.2.1)).map (AD 0))).s_pe c9 j9 (some (AD (20 + c9) j63))).pe c = z.pe c := fun c hc => by rw [← (hz5 c hc).1, ← (hz5 c hc).2]; exact ⟨up1_ne hc, up1_ne hc⟩
                  have hq2 : mP v c9 n (j9 + 1) (ex1 true ((v.P c9 j9).2.2.2.2.2.2.1) (ex1 false ((v.P c9 j9).2.2.2.1) (ex1 false ((v.P c9 j9).1) ww))) = mP v c9 (v.nP c9) 0 w9 := by rw [← hs9]; exact hq
                  exact ih (j9 + 1) ((zz.s_pc c9 j9 ((cdN v ((v.P c9 j9).2.2.1)).map (AD 0))).s_pe c9 j9 (some (AD (20 + c9) j63))) (ex1 true ((v.P c9 j9).2.2.2.2.2.2.1) (ex1 false ((v.P c9 j9).2.2.2.1) (ex1 false ((v.P c9 j9).1) ww))) (by omega) hz3 hz4 hz6 hz7 hq2 G101 k102 hP103 hfr106 _ _ hG hS ls (lv_sub hl [3, 4, 0] rfl)
          | some j52 =>
            have hj108 := cdN_lt hf51
            refine W.eq (g2 := F0 m 67 ls [.ref (AD 0 j52), .ref ed]) (by first | rfl | (rw [hf51]; rfl)) ?_
            refine lv_ifnull hx hb dX2_findParameters_67 ?_
            refine lv_iconst (v := 1) hx hb dX2_findParameters_70 (by decide) ?_
            refine lv_goto (tgt := 75) hx hb dX2_findParameters_71 (by decide) ?_
            refine lv_aload_n hx hb dX2_findParameters_75 rfl (lv_at hl 0 rfl) ?_
            refine mm_getN (v := .int ((v.P c9 j9).2.2.2.1)) hx hb hf_X8 (fun _ h9 => h9) hown hK hG k49 rfl 4 (by decide) (tb_use hT tw_781) (fun _ h9 => h9) rfl dX2_findParameters_76 ?_
            refine va_callv (va_runV (As := [.int 1, .int ((v.P c9 j9).2.2.2.1)]) (rest := []) ⟨hx, hb, hml, hown, (fun _ h9 => absurd h9 List.not_mem_nil : ∀ w ∈ ([] : List Cond), w.before _ s = true)⟩ (c_ED_expect l D cy A X hst hXT e0 tk hXE G44 LA AD ed na nc iu (ex1 false ((v.P c9 j9).1) ww) true ((v.P c9 j9).2.2.2.1) k47) (tb_cw (C := RX2) 2 hT tw_1009 tw_110 tw_1006 tw_1008 tw_34 rfl rfl hq_X2_expect ⟨Nat.le_of_ble_eq_true rfl, Nat.le_of_ble_eq_true rfl⟩) (mk_preC hst hG hK hA hX hS vc_3 k47) rfl rfl hl.1 rfl (lv_room (Nat.le_of_ble_eq_true rfl)) dX2_findParameters_79 ⟨Nat.le_of_ble_eq_true rfl, Nat.le_of_ble_eq_true rfl⟩) hS (fun q _ h => h) (fun q h => h) (fun  G109 t H locs ht hvm hw hB hz1 hk1 hS => ?_)
            have hG : mm D vwCl A G109 H := by rw [← ht]; exact hB
            clear hB hz1 hk1 hvm ht
            have k110 : G109 ed = some (.inr (3, [.ref (LA 0), .ref (LA 1), .ref (LA 2), .ref (LA 3), .ref (LA 4), .ref (LA 5), .ref na, .int nc, va_rf iu, .int ((ex1 true ((v.P c9 j9).2.2.2.1) (ex1 false ((v.P c9 j9).1) ww)).1), va_rf ((ex1 true ((v.P c9 j9).2.2.2.1) (ex1 false ((v.P c9 j9).1) ww)).2.map (AD 1))])) := by rw [hw]; exact mm_set_self
            have hP111 : EDP cy e0 tk G0 Bx G109 v (zz.s_pc c9 j9 ((cdN v ((v.P c9 j9).2.2.1)).map (AD 0))) LA EA AD PI := hP45.mve hBe k47 k110 (fun x e h1 n1 => by rw [hw]; exact mm_set_of h1 n1)
            have k112 : G109 (AD 2 c9) = some (.inr (11, [.int (nI (c9 + 1)), .ref (AD 1 (v.S c9).1), .int ((v.S c9).2.1), .long ((v.S c9).2.2.1), .ref (LA (20 + c9)), .int ((v.S c9).2.2.2)])) := by rw [hw]; exact mm_set_of k48 (mm_ne_oo k48 k47 (by decide))
            have k113 : G109 (AD (20 + c9) j9) = some (.inr (9, [.int (nI (j9 + 1)), .int ((v.P c9 j9).1), .long ((v.P c9 j9).2.1), .long ((v.P c9 j9).2.2.1), .int ((v.P c9 j9).2.2.2.1), va_rf ((cdN v ((v.P c9 j9).2.2.1)).map (AD 0)), .int ((v.P c9 j9).2.2.2.2.1), .long ((v.P c9 j9).2.2.2.2.2.1), .int ((v.P c9 j9).2.2.2.2.2.2.1), va_rf (zz.pe c9 j9), .int ((v.P c9 j9).2.2.2.2.2.2.2), .int ((zz.pd c9 j9).1), .int ((zz.pd c9 j9).2.1), .long ((zz.pd c9 j9).2.2.1), .long ((zz.pd c9 j9).2.2.2)])) := by rw [hw]; exact mm_set_of k49 (mm_ne_oo k49 k47 (by decide))
            have hfr114 : ∀ (x : Nat) (e : va_E), G x = some e → x ≠ ed → (∀ k i, lvV v k → i < lnV v k → x ≠ AD k i) → G109 x = some e := fun x e z9 n1 n2 => by
              have z0 := hfr50 x e z9 n1 n2
              rw [hw]; exact mm_set_of z0 n1
            clear hw
            refine lv_aload_n hx hb dX2_findParameters_82 rfl (lv_at hl 0 rfl) ?_
            refine mm_getN (v := .int ((v.P c9 j9).2.2.2.2.1)) hx hb hf_X8 (fun _ h9 => h9) hown hK hG k113 rfl 6 (by decide) (tb_use hT tw_790) (fun _ h9 => h9) rfl dX2_findParameters_83 ?_
            refine lv_if_eq (tgt := 146) hx hb dX2_findParameters_86 (by decide) (fun c_86 => ?_) (fun c_86 => ?_)
            · skip
              obtain ⟨x115, ex115⟩ : ∃ y : Int32, y = (nI j9) + 1 := ⟨_, rfl⟩
              refine lv_iinc (v := x115) (lv' := [(2, .int x115), (3, .ref (AD (20 + c9) j9)), (0, .ref ed), (1, .ref (AD 2 c9))]) hx hb dX2_findParameters_146 hl (k := 3) rfl (by rw [ex115]; rfl) (by decide) rfl (fun ls hl => ?_)
              refine lv_goto (tgt := 2) hx hb dX2_findParameters_149 (by decide) ?_
              rw [show x115 = nI (j9 + 1) by rw [ex115]; exact (nI_succ j9).symm] at hl
              have hs9 : pS v c9 j9 ww = (ex1 true ((v.P c9 j9).2.2.2.1) (ex1 false ((v.P c9 j9).1) ww)) := by rw [pS, if_pos c_86, hB_35, hf51]; rfl
              have hpe9 : peI v c9 j9 = none := by rw [peI, if_pos c_86]
              have hz3 : ∀ p, p < j9 + 1 → (zz.s_pc c9 j9 ((cdN v ((v.P c9 j9).2.2.1)).map (AD 0))).pc c9 p = (cdN v (v.P c9 p).2.2.1).map (AD 0) ∧ (zz.s_pc c9 j9 ((cdN v ((v.P c9 j9).2.2.1)).map (AD 0))).pe c9 p = (peI v c9 p).map (AD (20 + c9)) := by
                intro p hp
                by_cases e9 : p = j9
                · rw [e9, hpe9]; refine ⟨?_, hz2 j9 (Nat.le_refl _)⟩; show up1 zz.pc c9 _ c9 j9 = _; rw [up1_eq, up1_eq]
                · rw [← (hz1 p (by omega)).1, ← (hz1 p (by omega)).2]; refine ⟨?_, rfl⟩; show up1 zz.pc c9 _ c9 p = _; rw [up1_eq, up1_ne e9]; try rfl
              have hz4 : ∀ p, j9 + 1 ≤ p → (zz.s_pc c9 j9 ((cdN v ((v.P c9 j9).2.2.1)).map (AD 0))).pe c9 p = none := fun p hp => by exact hz2 p (by omega)
              have hz6 : ∀ c, c ≠ c9 → (zz.s_pc c9 j9 ((cdN v ((v.P c9 j9).2.2.1)).map (AD 0))).pc c = z.pc c ∧ (zz.s_pc c9 j9 ((cdN v ((v.P c9 j9).2.2.1)).map (AD 0))).pe c = z.pe c := fun c hc => by rw [← (hz5 c hc).1, ← (hz5 c hc).2]; exact ⟨up1_ne hc, rfl⟩
              have hq2 : mP v c9 n (j9 + 1) (ex1 true ((v.P c9 j9).2.2.2.1) (ex1 false ((v.P c9 j9).1) ww)) = mP v c9 (v.nP c9) 0 w9 := by rw [← hs9]; exact hq
              exact ih (j9 + 1) (zz.s_pc c9 j9 ((cdN v ((v.P c9 j9).2.2.1)).map (AD 0))) (ex1 true ((v.P c9 j9).2.2.2.1) (ex1 false ((v.P c9 j9).1) ww)) (by omega) hz3 hz4 hz6 hz7 hq2 G109 k110 hP111 hfr114 _ _ hG hS ls (lv_sub hl [2, 3, 0] rfl)
            · skip
              refine lv_aload_n hx hb dX2_findParameters_89 rfl (lv_at hl 2 rfl) ?_
              refine lv_aload_n hx hb dX2_findParameters_90 rfl (lv_at hl 0 rfl) ?_
              refine mm_getN (v := .long ((v.P c9 j9).2.2.2.2.2.1)) hx hb hf_X8 (fun _ h9 => h9) hown hK hG k113 rfl 7 (by decide) (tb_use hT tw_793) (fun _ h9 => h9) rfl dX2_findParameters_91 ?_
              refine va_callq (va_runV (As := [.long ((v.P c9 j9).2.2.2.2.2.1)]) (rest := []) ⟨hx, hb, hml, hown, (fun _ h9 => absurd h9 List.not_mem_nil : ∀ w ∈ ([] : List Cond), w.before _ s = true)⟩ (c_X10_named l D cy A X hst hXT e0 tk hXE mi hXL G109 (AD 2 c9) (AD 1 (v.S c9).1) (LA (20 + c9)) (nI (c9 + 1)) ((v.S c9).2.1) ((v.S c9).2.2.2) ((v.S c9).2.2.1) (EA (20 + c9)) (v.nP c9) (AD (20 + c9)) (fun j => prF j (v.P c9 j) ((zz.s_pc c9 j9 ((cdN v ((v.P c9 j9).2.2.1)).map (AD 0))).pc c9 j) ((zz.s_pc c9 j9 ((cdN v ((v.P c9 j9).2.2.1)).map (AD 0))).pe c9 j) ((zz.s_pc c9 j9 ((cdN v ((v.P c9 j9).2.2.1)).map (AD 0))).pd c9 j)) (fun j => (v.P c9 j).2.1) ((v.P c9 j9).2.2.2.2.2.1) k112 (hP111.lsP hc9) (by have := (hP111.lsP hc9).le; omega) (hP111.nmP hc9)) (tb_cw (C := RX10) 1 hT tw_1047 tw_128 tw_1044 tw_1045 tw_1046 rfl rfl hq_X10_named ⟨Nat.le_of_ble_eq_true rfl, Nat.le_of_ble_eq_true rfl⟩) (mk_preC hst hG hK hA hX hS vc_11 k112) rfl rfl hl.1 rfl (lv_room (Nat.le_of_ble_eq_true rfl)) dX2_findParameters_94 ⟨Nat.le_of_ble_eq_true rfl, Nat.le_of_ble_eq_true rfl⟩) hS (fun q _ h => h) (fun q h => h) (fun r116 G117 t H locs ht hvm hw hB hz1 hk1 hS => ?_)
              have hG : mm D vwCl A G117 H := by rw [← ht]; exact hB
              clear hB hz1 hk1 hvm ht
              obtain ⟨er116, hw⟩ := hw
              rw [hw] at hG
              have fr116 : r116 = (paN v c9 ((v.P c9 j9).2.2.2.2.2.1)).map (AD (20 + c9)) := er116
              rw [fr116]
              obtain ⟨y_hf118, hf118⟩ : ∃ y, paN v c9 ((v.P c9 j9).2.2.2.2.2.1) = y := ⟨_, rfl⟩
              cases y_hf118 with
              | none =>
                refine W.eq (g2 := F0 m 97 ls [.null]) (by first | rfl | (rw [hf118]; rfl)) ?_
                refine lv_astoreN (lv' := [(4, .null), (3, .ref (AD (20 + c9) j9)), (0, .ref ed), (1, .ref (AD 2 c9)), (2, .int (nI j9))]) hx hb dX2_findParameters_97 hl (by decide) rfl (fun ls hl => ?_)
                refine lv_aload_n hx hb dX2_findParameters_99 rfl (lv_at hl 1 rfl) ?_
                refine lv_aloadN hx hb dX2_findParameters_100 (lv_at hl 0 rfl) ?_
                refine lv_ifnullN (tgt := 122) hx hb dX2_findParameters_102 (by decide) ?_
                refine lv_null hx hb dX2_findParameters_122 ?_
                refine mm_putN (v := .null) (ty := .object "DescribeText$Parameter") hx hb hf_X8 (fun _ h9 => h9) tyX8 tyX8_ok nmX8 hown hK hG hS k113 rfl 9 (by decide) (tb_use hT tw_799) (fun _ h9 => h9) rfl (by decide +kernel) rfl rfl (Nat.le_of_ble_eq_true rfl) dX2_findParameters_123 (fun H locs hG hS => ?_)
                obtain ⟨G120, eG120⟩ : ∃ g, g = mm_set G109 (AD (20 + c9) j9) (.inr (9, [.int (nI (j9 + 1)), .int ((v.P c9 j9).1), .long ((v.P c9 j9).2.1), .long ((v.P c9 j9).2.2.1), .int ((v.P c9 j9).2.2.2.1), va_rf ((cdN v ((v.P c9 j9).2.2.1)).map (AD 0)), .int ((v.P c9 j9).2.2.2.2.1), .long ((v.P c9 j9).2.2.2.2.2.1), .int ((v.P c9 j9).2.2.2.2.2.2.1), .null, .int ((v.P c9 j9).2.2.2.2.2.2.2), .int ((zz.pd c9 j9).1), .int ((zz.pd c9 j9).2.1), .long ((zz.pd c9 j9).2.2.1), .long ((zz.pd c9 j9).2.2.2)])) := ⟨_, rfl⟩
                have hG : mm D vwCl A G120 H := by rw [eG120]; exact hG
                have hP121 : EDP cy e0 tk G0 Bx G120 v ((zz.s_pc c9 j9 ((cdN v ((v.P c9 j9).2.2.1)).map (AD 0))).s_pe c9 j9 none) LA EA AD PI := by rw [eG120]; first | exact hP111.put_pe hc9 hj29 | (have z9 := hP111.put_pe hc9 hj29 (x := none); rw [hz46] at z9; exact z9)
                have hz122 : ((zz.s_pc c9 j9 ((cdN v ((v.P c9 j9).2.2.1)).map (AD 0))).s_pe c9 j9 none).pe c9 j9 = none := by show up1 (zz.s_pc c9 j9 ((cdN v ((v.P c9 j9).2.2.1)).map (AD 0))).pe c9 (up1 ((zz.s_pc c9 j9 ((cdN v ((v.P c9 j9).2.2.1)).map (AD 0))).pe c9) j9 none) c9 j9 = _; rw [up1_eq, up1_eq]
                have k123 : G120 ed = some (.inr (3, [.ref (LA 0), .ref (LA 1), .ref (LA 2), .ref (LA 3), .ref (LA 4), .ref (LA 5), .ref na, .int nc, va_rf iu, .int ((ex1 true ((v.P c9 j9).2.2.2.1) (ex1 false ((v.P c9 j9).1) ww)).1), va_rf ((ex1 true ((v.P c9 j9).2.2.2.1) (ex1 false ((v.P c9 j9).1) ww)).2.map (AD 1))])) := by rw [eG120]; exact mm_set_of k110 (mm_ne_oo k110 k113 (by decide))
                have k124 : G120 (AD 2 c9) = some (.inr (11, [.int (nI (c9 + 1)), .ref (AD 1 (v.S c9).1), .int ((v.S c9).2.1), .long ((v.S c9).2.2.1), .ref (LA (20 + c9)), .int ((v.S c9).2.2.2)])) := by rw [eG120]; exact mm_set_of k112 (mm_ne_oo k112 k113 (by decide))
                have k125 : G120 (AD (20 + c9) j9) = some (.inr (9, [.int (nI (j9 + 1)), .int ((v.P c9 j9).1), .long ((v.P c9 j9).2.1), .long ((v.P c9 j9).2.2.1), .int ((v.P c9 j9).2.2.2.1), va_rf ((cdN v ((v.P c9 j9).2.2.1)).map (AD 0)), .int ((v.P c9 j9).2.2.2.2.1), .long ((v.P c9 j9).2.2.2.2.2.1), .int ((v.P c9 j9).2.2.2.2.2.2.1), .null, .int ((v.P c9 j9).2.2.2.2.2.2.2), .int ((zz.pd c9 j9).1), .int ((zz.pd c9 j9).2.1), .long ((zz.pd c9 j9).2.2.1), .long ((zz.pd c9 j9).2.2.2)])) := by rw [eG120]; exact mm_set_self
                have hfr126 : ∀ (x : Nat) (e : va_E), G x = some e → x ≠ ed → (∀ k i, lvV v k → i < lnV v k → x ≠ AD k i) → G120 x = some e := fun x e z9 n1 n2 => by
                  have z0 := hfr114 x e z9 n1 n2
                  rw [eG120]; exact mm_set_of z0 (n2 (20 + c9) j9 (lv_P hc9) (by rw [ln_P (by have := hP111.b; omega)]; exact hj29))
                refine lv_aload_n hx hb dX2_findParameters_126 rfl (lv_at hl 2 rfl) ?_
                refine lv_aload_n hx hb dX2_findParameters_127 rfl (lv_at hl 1 rfl) ?_
                refine mm_getN (v := .null) hx hb hf_X8 (fun _ h9 => h9) hown hK hG k125 rfl 9 (by decide) (tb_use hT tw_799) (fun _ h9 => h9) rfl dX2_findParameters_128 ?_
                refine lv_ifnullN (tgt := 138) hx hb dX2_findParameters_131 (by decide) ?_
                refine lv_iconst (v := 0) hx hb dX2_findParameters_138 (by decide) ?_
                refine lv_aload_n hx hb dX2_findParameters_139 rfl (lv_at hl 1 rfl) ?_
                refine mm_getN (v := .int ((v.P c9 j9).2.2.2.2.2.2.1)) hx hb hf_X8 (fun _ h9 => h9) hown hK hG k125 rfl 8 (by decide) (tb_use hT tw_795) (fun _ h9 => h9) rfl dX2_findParameters_140 ?_
                refine va_callv (va_runV (As := [.int 0, .int ((v.P c9 j9).2.2.2.2.2.2.1)]) (rest := []) ⟨hx, hb, hml, hown, (fun _ h9 => absurd h9 List.not_mem_nil : ∀ w ∈ ([] : List Cond), w.before _ s = true)⟩ (c_ED_expect l D cy A X hst hXT e0 tk hXE G120 LA AD ed na nc iu (ex1 true ((v.P c9 j9).2.2.2.1) (ex1 false ((v.P c9 j9).1) ww)) false ((v.P c9 j9).2.2.2.2.2.2.1) k123) (tb_cw (C := RX2) 2 hT tw_1009 tw_110 tw_1006 tw_1008 tw_34 rfl rfl hq_X2_expect ⟨Nat.le_of_ble_eq_true rfl, Nat.le_of_ble_eq_true rfl⟩) (mk_preC hst hG hK hA hX hS vc_3 k123) rfl rfl hl.1 rfl (lv_room (Nat.le_of_ble_eq_true rfl)) dX2_findParameters_143 ⟨Nat.le_of_ble_eq_true rfl, Nat.le_of_ble_eq_true rfl⟩) hS (fun q _ h => h) (fun q h => h) (fun  G127 t H locs ht hvm hw hB hz1 hk1 hS => ?_)
                have hG : mm D vwCl A G127 H := by rw [← ht]; exact hB
                clear hB hz1 hk1 hvm ht
                have k128 : G127 ed = some (.inr (3, [.ref (LA 0), .ref (LA 1), .ref (LA 2), .ref (LA 3), .ref (LA 4), .ref (LA 5), .ref na, .int nc, va_rf iu, .int ((ex1 false ((v.P c9 j9).2.2.2.2.2.2.1) (ex1 true ((v.P c9 j9).2.2.2.1) (ex1 false ((v.P c9 j9).1) ww))).1), va_rf ((ex1 false ((v.P c9 j9).2.2.2.2.2.2.1) (ex1 true ((v.P c9 j9).2.2.2.1) (ex1 false ((v.P c9 j9).1) ww))).2.map (AD 1))])) := by rw [hw]; exact mm_set_self
                have hP129 : EDP cy e0 tk G0 Bx G127 v ((zz.s_pc c9 j9 ((cdN v ((v.P c9 j9).2.2.1)).map (AD 0))).s_pe c9 j9 none) LA EA AD PI := hP121.mve hBe k123 k128 (fun x e h1 n1 => by rw [hw]; exact mm_set_of h1 n1)
                have k130 : G127 (AD 2 c9) = some (.inr (11, [.int (nI (c9 + 1)), .ref (AD 1 (v.S c9).1), .int ((v.S c9).2.1), .long ((v.S c9).2.2.1), .ref (LA (20 + c9)), .int ((v.S c9).2.2.2)])) := by rw [hw]; exact mm_set_of k124 (mm_ne_oo k124 k123 (by decide))
                have k131 : G127 (AD (20 + c9) j9) = some (.inr (9, [.int (nI (j9 + 1)), .int ((v.P c9 j9).1), .long ((v.P c9 j9).2.1), .long ((v.P c9 j9).2.2.1), .int ((v.P c9 j9).2.2.2.1), va_rf ((cdN v ((v.P c9 j9).2.2.1)).map (AD 0)), .int ((v.P c9 j9).2.2.2.2.1), .long ((v.P c9 j9).2.2.2.2.2.1), .int ((v.P c9 j9).2.2.2.2.2.2.1), .null, .int ((v.P c9 j9).2.2.2.2.2.2.2), .int ((zz.pd c9 j9).1), .int ((zz.pd c9 j9).2.1), .long ((zz.pd c9 j9).2.2.1), .long ((zz.pd c9 j9).2.2.2)])) := by rw [hw]; exact mm_set_of k125 (mm_ne_oo k125 k123 (by decide))
                have hfr132 : ∀ (x : Nat) (e : va_E), G x = some e → x ≠ ed → (∀ k i, lvV v k → i < lnV v k → x ≠ AD k i) → G127 x = some e := fun x e z9 n1 n2 => by
                  have z0 := hfr126 x e z9 n1 n2
                  rw [hw]; exact mm_set_of z0 n1
                clear hw
                obtain ⟨x133, ex133⟩ : ∃ y : Int32, y = (nI j9) + 1 := ⟨_, rfl⟩
                refine lv_iinc (v := x133) (lv' := [(2, .int x133), (4, .null), (3, .ref (AD (20 + c9) j9)), (0, .ref ed), (1, .ref (AD 2 c9))]) hx hb dX2_findParameters_146 hl (k := 4) rfl (by rw [ex133]; rfl) (by decide) rfl (fun ls hl => ?_)
                refine lv_goto (tgt := 2) hx hb dX2_findParameters_149 (by decide) ?_
                rw [show x133 = nI (j9 + 1) by rw [ex133]; exact (nI_succ j9).symm] at hl
                have heB : eB v c9 j9 = false := by rw [eB, hf118]
                have hpe9 : peI v c9 j9 = none := by rw [peI, if_neg c_86, hf118]
                have hs9 : pS v c9 j9 ww = (ex1 false ((v.P c9 j9).2.2.2.2.2.2.1) (ex1 true ((v.P c9 j9).2.2.2.1) (ex1 false ((v.P c9 j9).1) ww))) := by rw [pS, if_neg c_86, hB_35, hf51, heB]; rfl
                have hz3 : ∀ p, p < j9 + 1 → ((zz.s_pc c9 j9 ((cdN v ((v.P c9 j9).2.2.1)).map (AD 0))).s_pe c9 j9 none).pc c9 p = (cdN v (v.P c9 p).2.2.1).map (AD 0) ∧ ((zz.s_pc c9 j9 ((cdN v ((v.P c9 j9).2.2.1)).map (AD 0))).s_pe c9 j9 none).pe c9 p = (peI v c9 p).map (AD (20 + c9)) := by
                  intro p hp
                  by_cases e9 : p = j9
                  · rw [e9, hpe9]; refine ⟨?_, ?_⟩; show up1 zz.pc c9 _ c9 j9 = _; rw [up1_eq, up1_eq]; show up1 zz.pe c9 _ c9 j9 = _; rw [up1_eq, up1_eq]; rfl
                  · rw [← (hz1 p (by omega)).1, ← (hz1 p (by omega)).2]; refine ⟨?_, ?_⟩; show up1 zz.pc c9 _ c9 p = _; rw [up1_eq, up1_ne e9]; show up1 zz.pe c9 _ c9 p = _; rw [up1_eq, up1_ne e9]; try rfl
                have hz4 : ∀ p, j9 + 1 ≤ p → ((zz.s_pc c9 j9 ((cdN v ((v.P c9 j9).2.2.1)).map (AD 0))).s_pe c9 j9 none).pe c9 p = none := fun p hp => by rw [← hz2 p (by omega)]; show up1 zz.pe c9 _ c9 p = _; rw [up1_eq, up1_ne (by omega)]; try rfl
                have hz6 : ∀ c, c ≠ c9 → ((zz.s_pc c9 j9 ((cdN v ((v.P c9 j9).2.2.1)).map (AD 0))).s_pe c9 j9 none).pc c = z.pc c ∧ ((zz.s_pc c9 j9 ((cdN v ((v.P c9 j9).2.2.1)).map (AD 0))).s_pe c9 j9 none).pe c = z.pe c := fun c hc => by rw [← (hz5 c hc).1, ← (hz5 c hc).2]; exact ⟨up1_ne hc, up1_ne hc⟩
                have hq2 : mP v c9 n (j9 + 1) (ex1 false ((v.P c9 j9).2.2.2.2.2.2.1) (ex1 true ((v.P c9 j9).2.2.2.1) (ex1 false ((v.P c9 j9).1) ww))) = mP v c9 (v.nP c9) 0 w9 := by rw [← hs9]; exact hq
                exact ih (j9 + 1) ((zz.s_pc c9 j9 ((cdN v ((v.P c9 j9).2.2.1)).map (AD 0))).s_pe c9 j9 none) (ex1 false ((v.P c9 j9).2.2.2.2.2.2.1) (ex1 true ((v.P c9 j9).2.2.2.1) (ex1 false ((v.P c9 j9).1) ww))) (by omega) hz3 hz4 hz6 hz7 hq2 G127 k128 hP129 hfr132 _ _ hG hS ls (lv_sub hl [3, 4, 0] rfl)
              | some j119 =>
                have hj134 := paN_lt hf118
                refine W.eq (g2 := F0 m 97 ls [.ref (AD (20 + c9) j119)]) (by first | rfl | (rw [hf118]; rfl)) ?_
                refine lv_astore (lv' := [(4, .ref (AD (20 + c9) j119)), (3, .ref (AD (20 + c9) j9)), (0, .ref ed), (1, .ref (AD 2 c9)), (2, .int (nI j9))]) hx hb dX2_findParameters_97 hl (by decide) rfl (fun ls hl => ?_)
                refine lv_aload_n hx hb dX2_findParameters_99 rfl (lv_at hl 1 rfl) ?_
                refine lv_aload hx hb dX2_findParameters_100 (lv_at hl 0 rfl) ?_
                refine lv_ifnull hx hb dX2_findParameters_102 ?_
                refine lv_aload hx hb dX2_findParameters_105 (lv_at hl 0 rfl) ?_
                have k135 : G109 (AD (20 + c9) j119) = some (.inr (9, [.int (nI (j119 + 1)), .int ((v.P c9 j119).1), .long ((v.P c9 j119).2.1), .long ((v.P c9 j119).2.2.1), .int ((v.P c9 j119).2.2.2.1), va_rf ((zz.s_pc c9 j9 ((cdN v ((v.P c9 j9).2.2.1)).map (AD 0))).pc c9 j119), .int ((v.P c9 j119).2.2.2.2.1), .long ((v.P c9 j119).2.2.2.2.2.1), .int ((v.P c9 j119).2.2.2.2.2.2.1), va_rf ((zz.s_pc c9 j9 ((cdN v ((v.P c9 j9).2.2.1)).map (AD 0))).pe c9 j119), .int ((v.P c9 j119).2.2.2.2.2.2.2), .int (((zz.s_pc c9 j9 ((cdN v ((v.P c9 j9).2.2.1)).map (AD 0))).pd c9 j119).1), .int (((zz.s_pc c9 j9 ((cdN v ((v.P c9 j9).2.2.1)).map (AD 0))).pd c9 j119).2.1), .long (((zz.s_pc c9 j9 ((cdN v ((v.P c9 j9).2.2.1)).map (AD 0))).pd c9 j119).2.2.1), .long (((zz.s_pc c9 j9 ((cdN v ((v.P c9 j9).2.2.1)).map (AD 0))).pd c9 j119).2.2.2)])) := hP111.elP hc9 hj134
                refine mm_getN (v := .int (nI (j119 + 1))) hx hb hf_X8 (fun _ h9 => h9) hown hK hG k135 rfl 0 (by decide) (tb_use hT tw_772) (fun _ h9 => h9) rfl dX2_findParameters_107 ?_
                refine lv_aload_n hx hb dX2_findParameters_110 rfl (lv_at hl 1 rfl) ?_
                refine mm_getN (v := .int (nI (j9 + 1))) hx hb hf_X8 (fun _ h9 => h9) hown hK hG k113 rfl 0 (by decide) (tb_use hT tw_772) (fun _ h9 => h9) rfl dX2_findParameters_111 ?_
                refine lv_icmp_ge (tgt := 122) hx hb dX2_findParameters_114 (by decide) (fun c_114 => ?_) (fun c_114 => ?_)
                · skip
                  refine lv_null hx hb dX2_findParameters_122 ?_
                  refine mm_putN (v := .null) (ty := .object "DescribeText$Parameter") hx hb hf_X8 (fun _ h9 => h9) tyX8 tyX8_ok nmX8 hown hK hG hS k113 rfl 9 (by decide) (tb_use hT tw_799) (fun _ h9 => h9) rfl (by decide +kernel) rfl rfl (Nat.le_of_ble_eq_true rfl) dX2_findParameters_123 (fun H locs hG hS => ?_)
                  obtain ⟨G136, eG136⟩ : ∃ g, g = mm_set G109 (AD (20 + c9) j9) (.inr (9, [.int (nI (j9 + 1)), .int ((v.P c9 j9).1), .long ((v.P c9 j9).2.1), .long ((v.P c9 j9).2.2.1), .int ((v.P c9 j9).2.2.2.1), va_rf ((cdN v ((v.P c9 j9).2.2.1)).map (AD 0)), .int ((v.P c9 j9).2.2.2.2.1), .long ((v.P c9 j9).2.2.2.2.2.1), .int ((v.P c9 j9).2.2.2.2.2.2.1), .null, .int ((v.P c9 j9).2.2.2.2.2.2.2), .int ((zz.pd c9 j9).1), .int ((zz.pd c9 j9).2.1), .long ((zz.pd c9 j9).2.2.1), .long ((zz.pd c9 j9).2.2.2)])) := ⟨_, rfl⟩
                  have hG : mm D vwCl A G136 H := by rw [eG136]; exact hG
                  have hP137 : EDP cy e0 tk G0 Bx G136 v ((zz.s_pc c9 j9 ((cdN v ((v.P c9 j9).2.2.1)).map (AD 0))).s_pe c9 j9 none) LA EA AD PI := by rw [eG136]; first | exact hP111.put_pe hc9 hj29 | (have z9 := hP111.put_pe hc9 hj29 (x := none); rw [hz46] at z9; exact z9)
                  have hz138 : ((zz.s_pc c9 j9 ((cdN v ((v.P c9 j9).2.2.1)).map (AD 0))).s_pe c9 j9 none).pe c9 j9 = none := by show up1 (zz.s_pc c9 j9 ((cdN v ((v.P c9 j9).2.2.1)).map (AD 0))).pe c9 (up1 ((zz.s_pc c9 j9 ((cdN v ((v.P c9 j9).2.2.1)).map (AD 0))).pe c9) j9 none) c9 j9 = _; rw [up1_eq, up1_eq]
                  have k139 : G136 ed = some (.inr (3, [.ref (LA 0), .ref (LA 1), .ref (LA 2), .ref (LA 3), .ref (LA 4), .ref (LA 5), .ref na, .int nc, va_rf iu, .int ((ex1 true ((v.P c9 j9).2.2.2.1) (ex1 false ((v.P c9 j9).1) ww)).1), va_rf ((ex1 true ((v.P c9 j9).2.2.2.1) (ex1 false ((v.P c9 j9).1) ww)).2.map (AD 1))])) := by rw [eG136]; exact mm_set_of k110 (mm_ne_oo k110 k113 (by decide))
                  have k140 : G136 (AD 2 c9) = some (.inr (11, [.int (nI (c9 + 1)), .ref (AD 1 (v.S c9).1), .int ((v.S c9).2.1), .long ((v.S c9).2.2.1), .ref (LA (20 + c9)), .int ((v.S c9).2.2.2)])) := by rw [eG136]; exact mm_set_of k112 (mm_ne_oo k112 k113 (by decide))
                  have k141 : G136 (AD (20 + c9) j9) = some (.inr (9, [.int (nI (j9 + 1)), .int ((v.P c9 j9).1), .long ((v.P c9 j9).2.1), .long ((v.P c9 j9).2.2.1), .int ((v.P c9 j9).2.2.2.1), va_rf ((cdN v ((v.P c9 j9).2.2.1)).map (AD 0)), .int ((v.P c9 j9).2.2.2.2.1), .long ((v.P c9 j9).2.2.2.2.2.1), .int ((v.P c9 j9).2.2.2.2.2.2.1), .null, .int ((v.P c9 j9).2.2.2.2.2.2.2), .int ((zz.pd c9 j9).1), .int ((zz.pd c9 j9).2.1), .long ((zz.pd c9 j9).2.2.1), .long ((zz.pd c9 j9).2.2.2)])) := by rw [eG136]; exact mm_set_self
                  have hfr142 : ∀ (x : Nat) (e : va_E), G x = some e → x ≠ ed → (∀ k i, lvV v k → i < lnV v k → x ≠ AD k i) → G136 x = some e := fun x e z9 n1 n2 => by
                    have z0 := hfr114 x e z9 n1 n2
                    rw [eG136]; exact mm_set_of z0 (n2 (20 + c9) j9 (lv_P hc9) (by rw [ln_P (by have := hP111.b; omega)]; exact hj29))
                  refine lv_aload_n hx hb dX2_findParameters_126 rfl (lv_at hl 2 rfl) ?_
                  refine lv_aload_n hx hb dX2_findParameters_127 rfl (lv_at hl 1 rfl) ?_
                  refine mm_getN (v := .null) hx hb hf_X8 (fun _ h9 => h9) hown hK hG k141 rfl 9 (by decide) (tb_use hT tw_799) (fun _ h9 => h9) rfl dX2_findParameters_128 ?_
                  refine lv_ifnullN (tgt := 138) hx hb dX2_findParameters_131 (by decide) ?_
                  refine lv_iconst (v := 0) hx hb dX2_findParameters_138 (by decide) ?_
                  refine lv_aload_n hx hb dX2_findParameters_139 rfl (lv_at hl 1 rfl) ?_
                  refine mm_getN (v := .int ((v.P c9 j9).2.2.2.2.2.2.1)) hx hb hf_X8 (fun _ h9 => h9) hown hK hG k141 rfl 8 (by decide) (tb_use hT tw_795) (fun _ h9 => h9) rfl dX2_findParameters_140 ?_
                  refine va_callv (va_runV (As := [.int 0, .int ((v.P c9 j9).2.2.2.2.2.2.1)]) (rest := []) ⟨hx, hb, hml, hown, (fun _ h9 => absurd h9 List.not_mem_nil : ∀ w ∈ ([] : List Cond), w.before _ s = true)⟩ (c_ED_expect l D cy A X hst hXT e0 tk hXE G136 LA AD ed na nc iu (ex1 true ((v.P c9 j9).2.2.2.1) (ex1 false ((v.P c9 j9).1) ww)) false ((v.P c9 j9).2.2.2.2.2.2.1) k139) (tb_cw (C := RX2) 2 hT tw_1009 tw_110 tw_1006 tw_1008 tw_34 rfl rfl hq_X2_expect ⟨Nat.le_of_ble_eq_true rfl, Nat.le_of_ble_eq_true rfl⟩) (mk_preC hst hG hK hA hX hS vc_3 k139) rfl rfl hl.1 rfl (lv_room (Nat.le_of_ble_eq_true rfl)) dX2_findParameters_143 ⟨Nat.le_of_ble_eq_true rfl, Nat.le_of_ble_eq_true rfl⟩) hS (fun q _ h => h) (fun q h => h) (fun  G143 t H locs ht hvm hw hB hz1 hk1 hS => ?_)
                  have hG : mm D vwCl A G143 H := by rw [← ht]; exact hB
                  clear hB hz1 hk1 hvm ht
                  have k144 : G143 ed = some (.inr (3, [.ref (LA 0), .ref (LA 1), .ref (LA 2), .ref (LA 3), .ref (LA 4), .ref (LA 5), .ref na, .int nc, va_rf iu, .int ((ex1 false ((v.P c9 j9).2.2.2.2.2.2.1) (ex1 true ((v.P c9 j9).2.2.2.1) (ex1 false ((v.P c9 j9).1) ww))).1), va_rf ((ex1 false ((v.P c9 j9).2.2.2.2.2.2.1) (ex1 true ((v.P c9 j9).2.2.2.1) (ex1 false ((v.P c9 j9).1) ww))).2.map (AD 1))])) := by rw [hw]; exact mm_set_self
                  have hP145 : EDP cy e0 tk G0 Bx G143 v ((zz.s_pc c9 j9 ((cdN v ((v.P c9 j9).2.2.1)).map (AD 0))).s_pe c9 j9 none) LA EA AD PI := hP137.mve hBe k139 k144 (fun x e h1 n1 => by rw [hw]; exact mm_set_of h1 n1)
                  have k146 : G143 (AD 2 c9) = some (.inr (11, [.int (nI (c9 + 1)), .ref (AD 1 (v.S c9).1), .int ((v.S c9).2.1), .long ((v.S c9).2.2.1), .ref (LA (20 + c9)), .int ((v.S c9).2.2.2)])) := by rw [hw]; exact mm_set_of k140 (mm_ne_oo k140 k139 (by decide))
                  have k147 : G143 (AD (20 + c9) j9) = some (.inr (9, [.int (nI (j9 + 1)), .int ((v.P c9 j9).1), .long ((v.P c9 j9).2.1), .long ((v.P c9 j9).2.2.1), .int ((v.P c9 j9).2.2.2.1), va_rf ((cdN v ((v.P c9 j9).2.2.1)).map (AD 0)), .int ((v.P c9 j9).2.2.2.2.1), .long ((v.P c9 j9).2.2.2.2.2.1), .int ((v.P c9 j9).2.2.2.2.2.2.1), .null, .int ((v.P c9 j9).2.2.2.2.2.2.2), .int ((zz.pd c9 j9).1), .int ((zz.pd c9 j9).2.1), .long ((zz.pd c9 j9).2.2.1), .long ((zz.pd c9 j9).2.2.2)])) := by rw [hw]; exact mm_set_of k141 (mm_ne_oo k141 k139 (by decide))
                  have hfr148 : ∀ (x : Nat) (e : va_E), G x = some e → x ≠ ed → (∀ k i, lvV v k → i < lnV v k → x ≠ AD k i) → G143 x = some e := fun x e z9 n1 n2 => by
                    have z0 := hfr142 x e z9 n1 n2
                    rw [hw]; exact mm_set_of z0 n1
                  clear hw
                  obtain ⟨x149, ex149⟩ : ∃ y : Int32, y = (nI j9) + 1 := ⟨_, rfl⟩
                  refine lv_iinc (v := x149) (lv' := [(2, .int x149), (4, .ref (AD (20 + c9) j119)), (3, .ref (AD (20 + c9) j9)), (0, .ref ed), (1, .ref (AD 2 c9))]) hx hb dX2_findParameters_146 hl (k := 4) rfl (by rw [ex149]; rfl) (by decide) rfl (fun ls hl => ?_)
                  refine lv_goto (tgt := 2) hx hb dX2_findParameters_149 (by decide) ?_
                  rw [show x149 = nI (j9 + 1) by rw [ex149]; exact (nI_succ j9).symm] at hl
                  have hlt9 : ¬ j119 < j9 := fun z => absurd c_114 (nI_ge (by omega) (by omega))
                  have heB : eB v c9 j9 = false := by rw [eB, hf118]; exact decide_eq_false hlt9
                  have hpe9 : peI v c9 j9 = none := by rw [peI, if_neg c_86, hf118]; exact if_neg hlt9
                  have hs9 : pS v c9 j9 ww = (ex1 false ((v.P c9 j9).2.2.2.2.2.2.1) (ex1 true ((v.P c9 j9).2.2.2.1) (ex1 false ((v.P c9 j9).1) ww))) := by rw [pS, if_neg c_86, hB_35, hf51, heB]; rfl
                  have hz3 : ∀ p, p < j9 + 1 → ((zz.s_pc c9 j9 ((cdN v ((v.P c9 j9).2.2.1)).map (AD 0))).s_pe c9 j9 none).pc c9 p = (cdN v (v.P c9 p).2.2.1).map (AD 0) ∧ ((zz.s_pc c9 j9 ((cdN v ((v.P c9 j9).2.2.1)).map (AD 0))).s_pe c9 j9 none).pe c9 p = (peI v c9 p).map (AD (20 + c9)) := by
                    intro p hp
                    by_cases e9 : p = j9
                    · rw [e9, hpe9]; refine ⟨?_, ?_⟩; show up1 zz.pc c9 _ c9 j9 = _; rw [up1_eq, up1_eq]; show up1 zz.pe c9 _ c9 j9 = _; rw [up1_eq, up1_eq]; rfl
                    · rw [← (hz1 p (by omega)).1, ← (hz1 p (by omega)).2]; refine ⟨?_, ?_⟩; show up1 zz.pc c9 _ c9 p = _; rw [up1_eq, up1_ne e9]; show up1 zz.pe c9 _ c9 p = _; rw [up1_eq, up1_ne e9]; try rfl
                  have hz4 : ∀ p, j9 + 1 ≤ p → ((zz.s_pc c9 j9 ((cdN v ((v.P c9 j9).2.2.1)).map (AD 0))).s_pe c9 j9 none).pe c9 p = none := fun p hp => by rw [← hz2 p (by omega)]; show up1 zz.pe c9 _ c9 p = _; rw [up1_eq, up1_ne (by omega)]; try rfl
                  have hz6 : ∀ c, c ≠ c9 → ((zz.s_pc c9 j9 ((cdN v ((v.P c9 j9).2.2.1)).map (AD 0))).s_pe c9 j9 none).pc c = z.pc c ∧ ((zz.s_pc c9 j9 ((cdN v ((v.P c9 j9).2.2.1)).map (AD 0))).s_pe c9 j9 none).pe c = z.pe c := fun c hc => by rw [← (hz5 c hc).1, ← (hz5 c hc).2]; exact ⟨up1_ne hc, up1_ne hc⟩
                  have hq2 : mP v c9 n (j9 + 1) (ex1 false ((v.P c9 j9).2.2.2.2.2.2.1) (ex1 true ((v.P c9 j9).2.2.2.1) (ex1 false ((v.P c9 j9).1) ww))) = mP v c9 (v.nP c9) 0 w9 := by rw [← hs9]; exact hq
                  exact ih (j9 + 1) ((zz.s_pc c9 j9 ((cdN v ((v.P c9 j9).2.2.1)).map (AD 0))).s_pe c9 j9 none) (ex1 false ((v.P c9 j9).2.2.2.2.2.2.1) (ex1 true ((v.P c9 j9).2.2.2.1) (ex1 false ((v.P c9 j9).1) ww))) (by omega) hz3 hz4 hz6 hz7 hq2 G143 k144 hP145 hfr148 _ _ hG hS ls (lv_sub hl [3, 4, 0] rfl)
                · skip
                  refine lv_aload hx hb dX2_findParameters_117 (lv_at hl 0 rfl) ?_
                  refine lv_goto (tgt := 123) hx hb dX2_findParameters_119 (by decide) ?_
                  refine mm_putN (v := .ref (AD (20 + c9) j119)) (ty := .object "DescribeText$Parameter") hx hb hf_X8 (fun _ h9 => h9) tyX8 tyX8_ok nmX8 hown hK hG hS k113 rfl 9 (by decide) (tb_use hT tw_799) (fun _ h9 => h9) rfl (by decide +kernel) rfl rfl (Nat.le_of_ble_eq_true rfl) dX2_findParameters_123 (fun H locs hG hS => ?_)
                  obtain ⟨G150, eG150⟩ : ∃ g, g = mm_set G109 (AD (20 + c9) j9) (.inr (9, [.int (nI (j9 + 1)), .int ((v.P c9 j9).1), .long ((v.P c9 j9).2.1), .long ((v.P c9 j9).2.2.1), .int ((v.P c9 j9).2.2.2.1), va_rf ((cdN v ((v.P c9 j9).2.2.1)).map (AD 0)), .int ((v.P c9 j9).2.2.2.2.1), .long ((v.P c9 j9).2.2.2.2.2.1), .int ((v.P c9 j9).2.2.2.2.2.2.1), .ref (AD (20 + c9) j119), .int ((v.P c9 j9).2.2.2.2.2.2.2), .int ((zz.pd c9 j9).1), .int ((zz.pd c9 j9).2.1), .long ((zz.pd c9 j9).2.2.1), .long ((zz.pd c9 j9).2.2.2)])) := ⟨_, rfl⟩
                  have hG : mm D vwCl A G150 H := by rw [eG150]; exact hG
                  have hP151 : EDP cy e0 tk G0 Bx G150 v ((zz.s_pc c9 j9 ((cdN v ((v.P c9 j9).2.2.1)).map (AD 0))).s_pe c9 j9 (some (AD (20 + c9) j119))) LA EA AD PI := by rw [eG150]; first | exact hP111.put_pe hc9 hj29 | (have z9 := hP111.put_pe hc9 hj29 (x := (some (AD (20 + c9) j119))); rw [hz46] at z9; exact z9)
                  have hz152 : ((zz.s_pc c9 j9 ((cdN v ((v.P c9 j9).2.2.1)).map (AD 0))).s_pe c9 j9 (some (AD (20 + c9) j119))).pe c9 j9 = (some (AD (20 + c9) j119)) := by show up1 (zz.s_pc c9 j9 ((cdN v ((v.P c9 j9).2.2.1)).map (AD 0))).pe c9 (up1 ((zz.s_pc c9 j9 ((cdN v ((v.P c9 j9).2.2.1)).map (AD 0))).pe c9) j9 (some (AD (20 + c9) j119))) c9 j9 = _; rw [up1_eq, up1_eq]
                  have k153 : G150 ed = some (.inr (3, [.ref (LA 0), .ref (LA 1), .ref (LA 2), .ref (LA 3), .ref (LA 4), .ref (LA 5), .ref na, .int nc, va_rf iu, .int ((ex1 true ((v.P c9 j9).2.2.2.1) (ex1 false ((v.P c9 j9).1) ww)).1), va_rf ((ex1 true ((v.P c9 j9).2.2.2.1) (ex1 false ((v.P c9 j9).1) ww)).2.map (AD 1))])) := by rw [eG150]; exact mm_set_of k110 (mm_ne_oo k110 k113 (by decide))
                  have k154 : G150 (AD 2 c9) = some (.inr (11, [.int (nI (c9 + 1)), .ref (AD 1 (v.S c9).1), .int ((v.S c9).2.1), .long ((v.S c9).2.2.1), .ref (LA (20 + c9)), .int ((v.S c9).2.2.2)])) := by rw [eG150]; exact mm_set_of k112 (mm_ne_oo k112 k113 (by decide))
                  have k155 : G150 (AD (20 + c9) j9) = some (.inr (9, [.int (nI (j9 + 1)), .int ((v.P c9 j9).1), .long ((v.P c9 j9).2.1), .long ((v.P c9 j9).2.2.1), .int ((v.P c9 j9).2.2.2.1), va_rf ((cdN v ((v.P c9 j9).2.2.1)).map (AD 0)), .int ((v.P c9 j9).2.2.2.2.1), .long ((v.P c9 j9).2.2.2.2.2.1), .int ((v.P c9 j9).2.2.2.2.2.2.1), .ref (AD (20 + c9) j119), .int ((v.P c9 j9).2.2.2.2.2.2.2), .int ((zz.pd c9 j9).1), .int ((zz.pd c9 j9).2.1), .long ((zz.pd c9 j9).2.2.1), .long ((zz.pd c9 j9).2.2.2)])) := by rw [eG150]; exact mm_set_self
                  have hfr156 : ∀ (x : Nat) (e : va_E), G x = some e → x ≠ ed → (∀ k i, lvV v k → i < lnV v k → x ≠ AD k i) → G150 x = some e := fun x e z9 n1 n2 => by
                    have z0 := hfr114 x e z9 n1 n2
                    rw [eG150]; exact mm_set_of z0 (n2 (20 + c9) j9 (lv_P hc9) (by rw [ln_P (by have := hP111.b; omega)]; exact hj29))
                  refine lv_aload_n hx hb dX2_findParameters_126 rfl (lv_at hl 2 rfl) ?_
                  refine lv_aload_n hx hb dX2_findParameters_127 rfl (lv_at hl 1 rfl) ?_
                  refine mm_getN (v := .ref (AD (20 + c9) j119)) hx hb hf_X8 (fun _ h9 => h9) hown hK hG k155 rfl 9 (by decide) (tb_use hT tw_799) (fun _ h9 => h9) rfl dX2_findParameters_128 ?_
                  refine lv_ifnull hx hb dX2_findParameters_131 ?_
                  refine lv_iconst (v := 1) hx hb dX2_findParameters_134 (by decide) ?_
                  refine lv_goto (tgt := 139) hx hb dX2_findParameters_135 (by decide) ?_
                  refine lv_aload_n hx hb dX2_findParameters_139 rfl (lv_at hl 1 rfl) ?_
                  refine mm_getN (v := .int ((v.P c9 j9).2.2.2.2.2.2.1)) hx hb hf_X8 (fun _ h9 => h9) hown hK hG k155 rfl 8 (by decide) (tb_use hT tw_795) (fun _ h9 => h9) rfl dX2_findParameters_140 ?_
                  refine va_callv (va_runV (As := [.int 1, .int ((v.P c9 j9).2.2.2.2.2.2.1)]) (rest := []) ⟨hx, hb, hml, hown, (fun _ h9 => absurd h9 List.not_mem_nil : ∀ w ∈ ([] : List Cond), w.before _ s = true)⟩ (c_ED_expect l D cy A X hst hXT e0 tk hXE G150 LA AD ed na nc iu (ex1 true ((v.P c9 j9).2.2.2.1) (ex1 false ((v.P c9 j9).1) ww)) true ((v.P c9 j9).2.2.2.2.2.2.1) k153) (tb_cw (C := RX2) 2 hT tw_1009 tw_110 tw_1006 tw_1008 tw_34 rfl rfl hq_X2_expect ⟨Nat.le_of_ble_eq_true rfl, Nat.le_of_ble_eq_true rfl⟩) (mk_preC hst hG hK hA hX hS vc_3 k153) rfl rfl hl.1 rfl (lv_room (Nat.le_of_ble_eq_true rfl)) dX2_findParameters_143 ⟨Nat.le_of_ble_eq_true rfl, Nat.le_of_ble_eq_true rfl⟩) hS (fun q _ h => h) (fun q h => h) (fun  G157 t H locs ht hvm hw hB hz1 hk1 hS => ?_)
                  have hG : mm D vwCl A G157 H := by rw [← ht]; exact hB
                  clear hB hz1 hk1 hvm ht
                  have k158 : G157 ed = some (.inr (3, [.ref (LA 0), .ref (LA 1), .ref (LA 2), .ref (LA 3), .ref (LA 4), .ref (LA 5), .ref na, .int nc, va_rf iu, .int ((ex1 true ((v.P c9 j9).2.2.2.2.2.2.1) (ex1 true ((v.P c9 j9).2.2.2.1) (ex1 false ((v.P c9 j9).1) ww))).1), va_rf ((ex1 true ((v.P c9 j9).2.2.2.2.2.2.1) (ex1 true ((v.P c9 j9).2.2.2.1) (ex1 false ((v.P c9 j9).1) ww))).2.map (AD 1))])) := by rw [hw]; exact mm_set_self
                  have hP159 : EDP cy e0 tk G0 Bx G157 v ((zz.s_pc c9 j9 ((cdN v ((v.P c9 j9).2.2.1)).map (AD 0))).s_pe c9 j9 (some (AD (20 + c9) j119))) LA EA AD PI := hP151.mve hBe k153 k158 (fun x e h1 n1 => by rw [hw]; exact mm_set_of h1 n1)
                  have k160 : G157 (AD 2 c9) = some (.inr (11, [.int (nI (c9 + 1)), .ref (AD 1 (v.S c9).1), .int ((v.S c9).2.1), .long ((v.S c9).2.2.1), .ref (LA (20 + c9)), .int ((v.S c9).2.2.2)])) := by rw [hw]; exact mm_set_of k154 (mm_ne_oo k154 k153 (by decide))
                  have k161 : G157 (AD (20 + c9) j9) = some (.inr (9, [.int (nI (j9 + 1)), .int ((v.P c9 j9).1), .long ((v.P c9 j9).2.1), .long ((v.P c9 j9).2.2.1), .int ((v.P c9 j9).2.2.2.1), va_rf ((cdN v ((v.P c9 j9).2.2.1)).map (AD 0)), .int ((v.P c9 j9).2.2.2.2.1), .long ((v.P c9 j9).2.2.2.2.2.1), .int ((v.P c9 j9).2.2.2.2.2.2.1), .ref (AD (20 + c9) j119), .int ((v.P c9 j9).2.2.2.2.2.2.2), .int ((zz.pd c9 j9).1), .int ((zz.pd c9 j9).2.1), .long ((zz.pd c9 j9).2.2.1), .long ((zz.pd c9 j9).2.2.2)])) := by rw [hw]; exact mm_set_of k155 (mm_ne_oo k155 k153 (by decide))
                  have hfr162 : ∀ (x : Nat) (e : va_E), G x = some e → x ≠ ed → (∀ k i, lvV v k → i < lnV v k → x ≠ AD k i) → G157 x = some e := fun x e z9 n1 n2 => by
                    have z0 := hfr156 x e z9 n1 n2
                    rw [hw]; exact mm_set_of z0 n1
                  clear hw
                  obtain ⟨x163, ex163⟩ : ∃ y : Int32, y = (nI j9) + 1 := ⟨_, rfl⟩
                  refine lv_iinc (v := x163) (lv' := [(2, .int x163), (4, .ref (AD (20 + c9) j119)), (3, .ref (AD (20 + c9) j9)), (0, .ref ed), (1, .ref (AD 2 c9))]) hx hb dX2_findParameters_146 hl (k := 4) rfl (by rw [ex163]; rfl) (by decide) rfl (fun ls hl => ?_)
                  refine lv_goto (tgt := 2) hx hb dX2_findParameters_149 (by decide) ?_
                  rw [show x163 = nI (j9 + 1) by rw [ex163]; exact (nI_succ j9).symm] at hl
                  have hlt9 : j119 < j9 := by have z := nI_lt_of (a := j119 + 1) (b := j9 + 1) (by omega) (by omega) c_114; omega
                  have heB : eB v c9 j9 = true := by rw [eB, hf118]; exact decide_eq_true hlt9
                  have hpe9 : peI v c9 j9 = some j119 := by rw [peI, if_neg c_86, hf118]; exact if_pos hlt9
                  have hs9 : pS v c9 j9 ww = (ex1 true ((v.P c9 j9).2.2.2.2.2.2.1) (ex1 true ((v.P c9 j9).2.2.2.1) (ex1 false ((v.P c9 j9).1) ww))) := by rw [pS, if_neg c_86, hB_35, hf51, heB]; rfl
                  have hz3 : ∀ p, p < j9 + 1 → ((zz.s_pc c9 j9 ((cdN v ((v.P c9 j9).2.2.1)).map (AD 0))).s_pe c9 j9 (some (AD (20 + c9) j119))).pc c9 p = (cdN v (v.P c9 p).2.2.1).map (AD 0) ∧ ((zz.s_pc c9 j9 ((cdN v ((v.P c9 j9).2.2.1)).map (AD 0))).s_pe c9 j9 (some (AD (20 + c9) j119))).pe c9 p = (peI v c9 p).map (AD (20 + c9)) := by
                    intro p hp
                    by_cases e9 : p = j9
                    · rw [e9, hpe9]; refine ⟨?_, ?_⟩; show up1 zz.pc c9 _ c9 j9 = _; rw [up1_eq, up1_eq]; show up1 zz.pe c9 _ c9 j9 = _; rw [up1_eq, up1_eq]; rfl
                    · rw [← (hz1 p (by omega)).1, ← (hz1 p (by omega)).2]; refine ⟨?_, ?_⟩; show up1 zz.pc c9 _ c9 p = _; rw [up1_eq, up1_ne e9]; show up1 zz.pe c9 _ c9 p = _; rw [up1_eq, up1_ne e9]; try rfl
                  have hz4 : ∀ p, j9 + 1 ≤ p → ((zz.s_pc c9 j9 ((cdN v ((v.P c9 j9).2.2.1)).map (AD 0))).s_pe c9 j9 (some (AD (20 + c9) j119))).pe c9 p = none := fun p hp => by rw [← hz2 p (by omega)]; show up1 zz.pe c9 _ c9 p = _; rw [up1_eq, up1_ne (by omega)]; try rfl
                  have hz6 : ∀ c, c ≠ c9 → ((zz.s_pc c9 j9 ((cdN v ((v.P c9 j9).2.2.1)).map (AD 0))).s_pe c9 j9 (some (AD (20 + c9) j119))).pc c = z.pc c ∧ ((zz.s_pc c9 j9 ((cdN v ((v.P c9 j9).2.2.1)).map (AD 0))).s_pe c9 j9 (some (AD (20 + c9) j119))).pe c = z.pe c := fun c hc => by rw [← (hz5 c hc).1, ← (hz5 c hc).2]; exact ⟨up1_ne hc, up1_ne hc⟩
                  have hq2 : mP v c9 n (j9 + 1) (ex1 true ((v.P c9 j9).2.2.2.2.2.2.1) (ex1 true ((v.P c9 j9).2.2.2.1) (ex1 false ((v.P c9 j9).1) ww))) = mP v c9 (v.nP c9) 0 w9 := by rw [← hs9]; exact hq
                  exact ih (j9 + 1) ((zz.s_pc c9 j9 ((cdN v ((v.P c9 j9).2.2.1)).map (AD 0))).s_pe c9 j9 (some (AD (20 + c9) j119))) (ex1 true ((v.P c9 j9).2.2.2.2.2.2.1) (ex1 true ((v.P c9 j9).2.2.2.1) (ex1 false ((v.P c9 j9).1) ww))) (by omega) hz3 hz4 hz6 hz7 hq2 G157 k158 hP159 hfr162 _ _ hG hS ls (lv_sub hl [3, 4, 0] rfl)
        · skip
          have hB_35 : decide (paN v c9 (v.P c9 j9).2.1 = some j9) = true := decide_eq_true ((map_eq (fun _ => paN_lt) (show j9 < v.nP c9 by omega) (hP.inP hc9)).mp c_35)
          refine lv_iconst (v := 1) hx hb dX2_findParameters_38 (by decide) ?_
          refine lv_goto (tgt := 43) hx hb dX2_findParameters_39 (by decide) ?_
          refine lv_aload_n hx hb dX2_findParameters_43 rfl (lv_at hl 0 rfl) ?_
          refine mm_getN (v := .int ((v.P c9 j9).1)) hx hb hf_X8 (fun _ h9 => h9) hown hK hG k33 rfl 1 (by decide) (tb_use hT tw_774) (fun _ h9 => h9) rfl dX2_findParameters_44 ?_
          refine va_callv (va_runV (As := [.int 1, .int ((v.P c9 j9).1)]) (rest := []) ⟨hx, hb, hml, hown, (fun _ h9 => absurd h9 List.not_mem_nil : ∀ w ∈ ([] : List Cond), w.before _ s = true)⟩ (c_ED_expect l D cy A X hst hXT e0 tk hXE Gv LA AD ed na nc iu ww true ((v.P c9 j9).1) v_ed) (tb_cw (C := RX2) 2 hT tw_1009 tw_110 tw_1006 tw_1008 tw_34 rfl rfl hq_X2_expect ⟨Nat.le_of_ble_eq_true rfl, Nat.le_of_ble_eq_true rfl⟩) (mk_preC hst hG hK hA hX hS vc_3 v_ed) rfl rfl hl.1 rfl (lv_room (Nat.le_of_ble_eq_true rfl)) dX2_findParameters_47 ⟨Nat.le_of_ble_eq_true rfl, Nat.le_of_ble_eq_true rfl⟩) hS (fun q _ h => h) (fun q h => h) (fun  G164 t H locs ht hvm hw hB hz1 hk1 hS => ?_)
          have hG : mm D vwCl A G164 H := by rw [← ht]; exact hB
          clear hB hz1 hk1 hvm ht
          have k165 : G164 ed = some (.inr (3, [.ref (LA 0), .ref (LA 1), .ref (LA 2), .ref (LA 3), .ref (LA 4), .ref (LA 5), .ref na, .int nc, va_rf iu, .int ((ex1 true ((v.P c9 j9).1) ww).1), va_rf ((ex1 true ((v.P c9 j9).1) ww).2.map (AD 1))])) := by rw [hw]; exact mm_set_self
          have hP166 : EDP cy e0 tk G0 Bx G164 v zz LA EA AD PI := hP.mve hBe v_ed k165 (fun x e h1 n1 => by rw [hw]; exact mm_set_of h1 n1)
          have k167 : G164 (AD 2 c9) = some (.inr (11, [.int (nI (c9 + 1)), .ref (AD 1 (v.S c9).1), .int ((v.S c9).2.1), .long ((v.S c9).2.2.1), .ref (LA (20 + c9)), .int ((v.S c9).2.2.2)])) := by rw [hw]; exact mm_set_of k25 (mm_ne_oo k25 v_ed (by decide))
          have k168 : G164 (AD (20 + c9) j9) = some (.inr (9, [.int (nI (j9 + 1)), .int ((v.P c9 j9).1), .long ((v.P c9 j9).2.1), .long ((v.P c9 j9).2.2.1), .int ((v.P c9 j9).2.2.2.1), va_rf (zz.pc c9 j9), .int ((v.P c9 j9).2.2.2.2.1), .long ((v.P c9 j9).2.2.2.2.2.1), .int ((v.P c9 j9).2.2.2.2.2.2.1), va_rf (zz.pe c9 j9), .int ((v.P c9 j9).2.2.2.2.2.2.2), .int ((zz.pd c9 j9).1), .int ((zz.pd c9 j9).2.1), .long ((zz.pd c9 j9).2.2.1), .long ((zz.pd c9 j9).2.2.2)])) := by rw [hw]; exact mm_set_of k33 (mm_ne_oo k33 v_ed (by decide))
          have hfr169 : ∀ (x : Nat) (e : va_E), G x = some e → x ≠ ed → (∀ k i, lvV v k → i < lnV v k → x ≠ AD k i) → G164 x = some e := fun x e z9 n1 n2 => by
            have z0 := hfr x e z9 n1 n2
            rw [hw]; exact mm_set_of z0 n1
          clear hw
          refine lv_aload_n hx hb dX2_findParameters_50 rfl (lv_at hl 0 rfl) ?_
          refine lv_aload_n hx hb dX2_findParameters_51 rfl (lv_at hl 1 rfl) ?_
          refine lv_aload_n hx hb dX2_findParameters_52 rfl (lv_at hl 0 rfl) ?_
          refine mm_getN (v := .long ((v.P c9 j9).2.2.1)) hx hb hf_X8 (fun _ h9 => h9) hown hK hG k168 rfl 3 (by decide) (tb_use hT tw_779) (fun _ h9 => h9) rfl dX2_findParameters_53 ?_
          refine va_callq (va_runV (As := [.long ((v.P c9 j9).2.2.1)]) (rest := [.ref (AD (20 + c9) j9)]) ⟨hx, hb, hml, hown, (fun _ h9 => absurd h9 List.not_mem_nil : ∀ w ∈ ([] : List Cond), w.before _ s = true)⟩ (c_X2_codingNamed l D cy A X hst hXT e0 tk hXE mi hXL G164 ed (LA 0) (LA 1) (LA 2) (LA 3) (LA 4) (LA 5) na nc ((ex1 true ((v.P c9 j9).1) ww).1) iu ((ex1 true ((v.P c9 j9).1) ww).2.map (AD 1)) (EA 0) v.nC (AD 0) (fun j => coF j (v.C j) (LA (6 + j))) (fun j => (v.C j).1.2.1) ((v.P c9 j9).2.2.1) k165 hP166.lsC (by have := hP166.b; omega) hP166.nmC) (tb_cw (C := RX2) 1 hT tw_1022 tw_110 tw_1019 tw_1021 tw_36 rfl rfl hq_X2_codingNamed ⟨Nat.le_of_ble_eq_true rfl, Nat.le_of_ble_eq_true rfl⟩) (mk_preC hst hG hK hA hX hS vc_3 k165) rfl rfl hl.1 rfl (lv_room (Nat.le_of_ble_eq_true rfl)) dX2_findParameters_56 ⟨Nat.le_of_ble_eq_true rfl, Nat.le_of_ble_eq_true rfl⟩) hS (fun q _ h => h) (fun q h => h) (fun r170 G171 t H locs ht hvm hw hB hz1 hk1 hS => ?_)
          have hG : mm D vwCl A G171 H := by rw [← ht]; exact hB
          clear hB hz1 hk1 hvm ht
          obtain ⟨er170, hw⟩ := hw
          rw [hw] at hG
          have fr170 : r170 = (cdN v ((v.P c9 j9).2.2.1)).map (AD 0) := er170
          rw [fr170]
          refine mm_putN (v := va_rf ((cdN v ((v.P c9 j9).2.2.1)).map (AD 0))) (ty := .object "DescribeText$Coding") hx hb hf_X8 (fun _ h9 => h9) tyX8 tyX8_ok nmX8 hown hK hG hS k168 rfl 5 (by decide) (tb_use hT tw_787) (fun _ h9 => h9) rfl (by decide +kernel) (nar_rf _) (fits_rf _) (Nat.le_of_ble_eq_true rfl) dX2_findParameters_59 (fun H locs hG hS => ?_)
          obtain ⟨G172, eG172⟩ : ∃ g, g = mm_set G164 (AD (20 + c9) j9) (.inr (9, [.int (nI (j9 + 1)), .int ((v.P c9 j9).1), .long ((v.P c9 j9).2.1), .long ((v.P c9 j9).2.2.1), .int ((v.P c9 j9).2.2.2.1), va_rf ((cdN v ((v.P c9 j9).2.2.1)).map (AD 0)), .int ((v.P c9 j9).2.2.2.2.1), .long ((v.P c9 j9).2.2.2.2.2.1), .int ((v.P c9 j9).2.2.2.2.2.2.1), va_rf (zz.pe c9 j9), .int ((v.P c9 j9).2.2.2.2.2.2.2), .int ((zz.pd c9 j9).1), .int ((zz.pd c9 j9).2.1), .long ((zz.pd c9 j9).2.2.1), .long ((zz.pd c9 j9).2.2.2)])) := ⟨_, rfl⟩
          have hG : mm D vwCl A G172 H := by rw [eG172]; exact hG
          have hP173 : EDP cy e0 tk G0 Bx G172 v (zz.s_pc c9 j9 ((cdN v ((v.P c9 j9).2.2.1)).map (AD 0))) LA EA AD PI := by rw [eG172]; exact hP166.put_pc hc9 hj29
          have hz174 : (zz.s_pc c9 j9 ((cdN v ((v.P c9 j9).2.2.1)).map (AD 0))).pc c9 j9 = ((cdN v ((v.P c9 j9).2.2.1)).map (AD 0)) := by show up1 zz.pc c9 (up1 (zz.pc c9) j9 ((cdN v ((v.P c9 j9).2.2.1)).map (AD 0))) c9 j9 = _; rw [up1_eq, up1_eq]
          have k175 : G172 ed = some (.inr (3, [.ref (LA 0), .ref (LA 1), .ref (LA 2), .ref (LA 3), .ref (LA 4), .ref (LA 5), .ref na, .int nc, va_rf iu, .int ((ex1 true ((v.P c9 j9).1) ww).1), va_rf ((ex1 true ((v.P c9 j9).1) ww).2.map (AD 1))])) := by rw [eG172]; exact mm_set_of k165 (mm_ne_oo k165 k168 (by decide))
          have k176 : G172 (AD 2 c9) = some (.inr (11, [.int (nI (c9 + 1)), .ref (AD 1 (v.S c9).1), .int ((v.S c9).2.1), .long ((v.S c9).2.2.1), .ref (LA (20 + c9)), .int ((v.S c9).2.2.2)])) := by rw [eG172]; exact mm_set_of k167 (mm_ne_oo k167 k168 (by decide))
          have k177 : G172 (AD (20 + c9) j9) = some (.inr (9, [.int (nI (j9 + 1)), .int ((v.P c9 j9).1), .long ((v.P c9 j9).2.1), .long ((v.P c9 j9).2.2.1), .int ((v.P c9 j9).2.2.2.1), va_rf ((cdN v ((v.P c9 j9).2.2.1)).map (AD 0)), .int ((v.P c9 j9).2.2.2.2.1), .long ((v.P c9 j9).2.2.2.2.2.1), .int ((v.P c9 j9).2.2.2.2.2.2.1), va_rf (zz.pe c9 j9), .int ((v.P c9 j9).2.2.2.2.2.2.2), .int ((zz.pd c9 j9).1), .int ((zz.pd c9 j9).2.1), .long ((zz.pd c9 j9).2.2.1), .long ((zz.pd c9 j9).2.2.2)])) := by rw [eG172]; exact mm_set_self
          have hfr178 : ∀ (x : Nat) (e : va_E), G x = some e → x ≠ ed → (∀ k i, lvV v k → i < lnV v k → x ≠ AD k i) → G172 x = some e := fun x e z9 n1 n2 => by
            have z0 := hfr169 x e z9 n1 n2
            rw [eG172]; exact mm_set_of z0 (n2 (20 + c9) j9 (lv_P hc9) (by rw [ln_P (by have := hP166.b; omega)]; exact hj29))
          refine lv_aload_n hx hb dX2_findParameters_62 rfl (lv_at hl 1 rfl) ?_
          refine lv_aload_n hx hb dX2_findParameters_63 rfl (lv_at hl 0 rfl) ?_
          refine mm_getN (v := va_rf ((cdN v ((v.P c9 j9).2.2.1)).map (AD 0))) hx hb hf_X8 (fun _ h9 => h9) hown hK hG k177 rfl 5 (by decide) (tb_use hT tw_787) (fun _ h9 => h9) rfl dX2_findParameters_64 ?_
          obtain ⟨y_hf179, hf179⟩ : ∃ y, cdN v ((v.P c9 j9).2.2.1) = y := ⟨_, rfl⟩
          cases y_hf179 with
          | none =>
            refine W.eq (g2 := F0 m 67 ls [.null, .ref ed]) (by first | rfl | (rw [hf179]; rfl)) ?_
            refine lv_ifnullN (tgt := 74) hx hb dX2_findParameters_67 (by decide) ?_
            refine lv_iconst (v := 0) hx hb dX2_findParameters_74 (by decide) ?_
            refine lv_aload_n hx hb dX2_findParameters_75 rfl (lv_at hl 0 rfl) ?_
            refine mm_getN (v := .int ((v.P c9 j9).2.2.2.1)) hx hb hf_X8 (fun _ h9 => h9) hown hK hG k177 rfl 4 (by decide) (tb_use hT tw_781) (fun _ h9 => h9) rfl dX2_findParameters_76 ?_
            refine va_callv (va_runV (As := [.int 0, .int ((v.P c9 j9).2.2.2.1)]) (rest := []) ⟨hx, hb, hml, hown, (fun _ h9 => absurd h9 List.not_mem_nil : ∀ w ∈ ([] : List Cond), w.before _ s = true)⟩ (c_ED_expect l D cy A X hst hXT e0 tk hXE G172 LA AD ed na nc iu (ex1 true ((v.P c9 j9).1) ww) false ((v.P c9 j9).2.2.2.1) k175) (tb_cw (C := RX2) 2 hT tw_1009 tw_110 tw_1006 tw_1008 tw_34 rfl rfl hq_X2_expect ⟨Nat.le_of_ble_eq_true rfl, Nat.le_of_ble_eq_true rfl⟩) (mk_preC hst hG hK hA hX hS vc_3 k175) rfl rfl hl.1 rfl (lv_room (Nat.le_of_ble_eq_true rfl)) dX2_findParameters_79 ⟨Nat.le_of_ble_eq_true rfl, Nat.le_of_ble_eq_true rfl⟩) hS (fun q _ h => h) (fun q h => h) (fun  G181 t H locs ht hvm hw hB hz1 hk1 hS => ?_)
            have hG : mm D vwCl A G181 H := by rw [← ht]; exact hB
            clear hB hz1 hk1 hvm ht
            have k182 : G181 ed = some (.inr (3, [.ref (LA 0), .ref (LA 1), .ref (LA 2), .ref (LA 3), .ref (LA 4), .ref (LA 5), .ref na, .int nc, va_rf iu, .int ((ex1 false ((v.P c9 j9).2.2.2.1) (ex1 true ((v.P c9 j9).1) ww)).1), va_rf ((ex1 false ((v.P c9 j9).2.2.2.1) (ex1 true ((v.P c9 j9).1) ww)).2.map (AD 1))])) := by rw [hw]; exact mm_set_self
            have hP183 : EDP cy e0 tk G0 Bx G181 v (zz.s_pc c9 j9 ((cdN v ((v.P c9 j9).2.2.1)).map (AD 0))) LA EA AD PI := hP173.mve hBe k175 k182 (fun x e h1 n1 => by rw [hw]; exact mm_set_of h1 n1)
            have k184 : G181 (AD 2 c9) = some (.inr (11, [.int (nI (c9 + 1)), .ref (AD 1 (v.S c9).1), .int ((v.S c9).2.1), .long ((v.S c9).2.2.1), .ref (LA (20 + c9)), .int ((v.S c9).2.2.2)])) := by rw [hw]; exact mm_set_of k176 (mm_ne_oo k176 k175 (by decide))
            have k185 : G181 (AD (20 + c9) j9) = some (.inr (9, [.int (nI (j9 + 1)), .int ((v.P c9 j9).1), .long ((v.P c9 j9).2.1), .long ((v.P c9 j9).2.2.1), .int ((v.P c9 j9).2.2.2.1), va_rf ((cdN v ((v.P c9 j9).2.2.1)).map (AD 0)), .int ((v.P c9 j9).2.2.2.2.1), .long ((v.P c9 j9).2.2.2.2.2.1), .int ((v.P c9 j9).2.2.2.2.2.2.1), va_rf (zz.pe c9 j9), .int ((v.P c9 j9).2.2.2.2.2.2.2), .int ((zz.pd c9 j9).1), .int ((zz.pd c9 j9).2.1), .long ((zz.pd c9 j9).2.2.1), .long ((zz.pd c9 j9).2.2.2)])) := by rw [hw]; exact mm_set_of k177 (mm_ne_oo k177 k175 (by decide))
            have hfr186 : ∀ (x : Nat) (e : va_E), G x = some e → x ≠ ed → (∀ k i, lvV v k → i < lnV v k → x ≠ AD k i) → G181 x = some e := fun x e z9 n1 n2 => by
              have z0 := hfr178 x e z9 n1 n2
              rw [hw]; exact mm_set_of z0 n1
            clear hw
            refine lv_aload_n hx hb dX2_findParameters_82 rfl (lv_at hl 0 rfl) ?_
            refine mm_getN (v := .int ((v.P c9 j9).2.2.2.2.1)) hx hb hf_X8 (fun _ h9 => h9) hown hK hG k185 rfl 6 (by decide) (tb_use hT tw_790) (fun _ h9 => h9) rfl dX2_findParameters_83 ?_
            refine lv_if_eq (tgt := 146) hx hb dX2_findParameters_86 (by decide) (fun c_86 => ?_) (fun c_86 => ?_)
            · skip
              obtain ⟨x187, ex187⟩ : ∃ y : Int32, y = (nI j9) + 1 := ⟨_, rfl⟩
              refine lv_iinc (v := x187) (lv' := [(2, .int x187), (3, .ref (AD (20 + c9) j9)), (0, .ref ed), (1, .ref (AD 2 c9))]) hx hb dX2_findParameters_146 hl (k := 3) rfl (by rw [ex187]; rfl) (by decide) rfl (fun ls hl => ?_)
              refine lv_goto (tgt := 2) hx hb dX2_findParameters_149 (by decide) ?_
              rw [show x187 = nI (j9 + 1) by rw [ex187]; exact (nI_succ j9).symm] at hl
              have hs9 : pS v c9 j9 ww = (ex1 false ((v.P c9 j9).2.2.2.1) (ex1 true ((v.P c9 j9).1) ww)) := by rw [pS, if_pos c_86, hB_35, hf179]; rfl
              have hpe9 : peI v c9 j9 = none := by rw [peI, if_pos c_86]
              have hz3 : ∀ p, p < j9 + 1 → (zz.s_pc c9 j9 ((cdN v ((v.P c9 j9).2.2.1)).map (AD 0))).pc c9 p = (cdN v (v.P c9 p).2.2.1).map (AD 0) ∧ (zz.s_pc c9 j9 ((cdN v ((v.P c9 j9).2.2.1)).map (AD 0))).pe c9 p = (peI v c9 p).map (AD (20 + c9)) := by
                intro p hp
                by_cases e9 : p = j9
                · rw [e9, hpe9]; refine ⟨?_, hz2 j9 (Nat.le_refl _)⟩; show up1 zz.pc c9 _ c9 j9 = _; rw [up1_eq, up1_eq]
                · rw [← (hz1 p (by omega)).1, ← (hz1 p (by omega)).2]; refine ⟨?_, rfl⟩; show up1 zz.pc c9 _ c9 p = _; rw [up1_eq, up1_ne e9]; try rfl
              have hz4 : ∀ p, j9 + 1 ≤ p → (zz.s_pc c9 j9 ((cdN v ((v.P c9 j9).2.2.1)).map (AD 0))).pe c9 p = none := fun p hp => by exact hz2 p (by omega)
              have hz6 : ∀ c, c ≠ c9 → (zz.s_pc c9 j9 ((cdN v ((v.P c9 j9).2.2.1)).map (AD 0))).pc c = z.pc c ∧ (zz.s_pc c9 j9 ((cdN v ((v.P c9 j9).2.2.1)).map (AD 0))).pe c = z.pe c := fun c hc => by rw [← (hz5 c hc).1, ← (hz5 c hc).2]; exact ⟨up1_ne hc, rfl⟩
              have hq2 : mP v c9 n (j9 + 1) (ex1 false ((v.P c9 j9).2.2.2.1) (ex1 true ((v.P c9 j9).1) ww)) = mP v c9 (v.nP c9) 0 w9 := by rw [← hs9]; exact hq
              exact ih (j9 + 1) (zz.s_pc c9 j9 ((cdN v ((v.P c9 j9).2.2.1)).map (AD 0))) (ex1 false ((v.P c9 j9).2.2.2.1) (ex1 true ((v.P c9 j9).1) ww)) (by omega) hz3 hz4 hz6 hz7 hq2 G181 k182 hP183 hfr186 _ _ hG hS ls (lv_sub hl [2, 3, 0] rfl)
            · skip
              refine lv_aload_n hx hb dX2_findParameters_89 rfl (lv_at hl 2 rfl) ?_
              refine lv_aload_n hx hb dX2_findParameters_90 rfl (lv_at hl 0 rfl) ?_
              refine mm_getN (v := .long ((v.P c9 j9).2.2.2.2.2.1)) hx hb hf_X8 (fun _ h9 => h9) hown hK hG k185 rfl 7 (by decide) (tb_use hT tw_793) (fun _ h9 => h9) rfl dX2_findParameters_91 ?_
              refine va_callq (va_runV (As := [.long ((v.P c9 j9).2.2.2.2.2.1)]) (rest := []) ⟨hx, hb, hml, hown, (fun _ h9 => absurd h9 List.not_mem_nil : ∀ w ∈ ([] : List Cond), w.before _ s = true)⟩ (c_X10_named l D cy A X hst hXT e0 tk hXE mi hXL G181 (AD 2 c9) (AD 1 (v.S c9).1) (LA (20 + c9)) (nI (c9 + 1)) ((v.S c9).2.1) ((v.S c9).2.2.2) ((v.S c9).2.2.1) (EA (20 + c9)) (v.nP c9) (AD (20 + c9)) (fun j => prF j (v.P c9 j) ((zz.s_pc c9 j9 ((cdN v ((v.P c9 j9).2.2.1)).map (AD 0))).pc c9 j) ((zz.s_pc c9 j9 ((cdN v ((v.P c9 j9).2.2.1)).map (AD 0))).pe c9 j) ((zz.s_pc c9 j9 ((cdN v ((v.P c9 j9).2.2.1)).map (AD 0))).pd c9 j)) (fun j => (v.P c9 j).2.1) ((v.P c9 j9).2.2.2.2.2.1) k184 (hP183.lsP hc9) (by have := (hP183.lsP hc9).le; omega) (hP183.nmP hc9)) (tb_cw (C := RX10) 1 hT tw_1047 tw_128 tw_1044 tw_1045 tw_1046 rfl rfl hq_X10_named ⟨Nat.le_of_ble_eq_true rfl, Nat.le_of_ble_eq_true rfl⟩) (mk_preC hst hG hK hA hX hS vc_11 k184) rfl rfl hl.1 rfl (lv_room (Nat.le_of_ble_eq_true rfl)) dX2_findParameters_94 ⟨Nat.le_of_ble_eq_true rfl, Nat.le_of_ble_eq_true rfl⟩) hS (fun q _ h => h) (fun q h => h) (fun r188 G189 t H locs ht hvm hw hB hz1 hk1 hS => ?_)
              have hG : mm D vwCl A G189 H := by rw [← ht]; exact hB
              clear hB hz1 hk1 hvm ht
              obtain ⟨er188, hw⟩ := hw
              rw [hw] at hG
              have fr188 : r188 = (paN v c9 ((v.P c9 j9).2.2.2.2.2.1)).map (AD (20 + c9)) := er188
              rw [fr188]
              obtain ⟨y_hf190, hf190⟩ : ∃ y, paN v c9 ((v.P c9 j9).2.2.2.2.2.1) = y := ⟨_, rfl⟩
              cases y_hf190 with
              | none =>
                refine W.eq (g2 := F0 m 97 ls [.null]) (by first | rfl | (rw [hf190]; rfl)) ?_
                refine lv_astoreN (lv' := [(4, .null), (3, .ref (AD (20 + c9) j9)), (0, .ref ed), (1, .ref (AD 2 c9)), (2, .int (nI j9))]) hx hb dX2_findParameters_97 hl (by decide) rfl (fun ls hl => ?_)
                refine lv_aload_n hx hb dX2_findParameters_99 rfl (lv_at hl 1 rfl) ?_
                refine lv_aloadN hx hb dX2_findParameters_100 (lv_at hl 0 rfl) ?_
                refine lv_ifnullN (tgt := 122) hx hb dX2_findParameters_102 (by decide) ?_
                refine lv_null hx hb dX2_findParameters_122 ?_
                refine mm_putN (v := .null) (ty := .object "DescribeText$Parameter") hx hb hf_X8 (fun _ h9 => h9) tyX8 tyX8_ok nmX8 hown hK hG hS k185 rfl 9 (by decide) (tb_use hT tw_799) (fun _ h9 => h9) rfl (by decide +kernel) rfl rfl (Nat.le_of_ble_eq_true rfl) dX2_findParameters_123 (fun H locs hG hS => ?_)
                obtain ⟨G192, eG192⟩ : ∃ g, g = mm_set G181 (AD (20 + c9) j9) (.inr (9, [.int (nI (j9 + 1)), .int ((v.P c9 j9).1), .long ((v.P c9 j9).2.1), .long ((v.P c9 j9).2.2.1), .int ((v.P c9 j9).2.2.2.1), va_rf ((cdN v ((v.P c9 j9).2.2.1)).map (AD 0)), .int ((v.P c9 j9).2.2.2.2.1), .long ((v.P c9 j9).2.2.2.2.2.1), .int ((v.P c9 j9).2.2.2.2.2.2.1), .null, .int ((v.P c9 j9).2.2.2.2.2.2.2), .int ((zz.pd c9 j9).1), .int ((zz.pd c9 j9).2.1), .long ((zz.pd c9 j9).2.2.1), .long ((zz.pd c9 j9).2.2.2)])) := ⟨_, rfl⟩
                have hG : mm D vwCl A G192 H := by rw [eG192]; exact hG
                have hP193 : EDP cy e0 tk G0 Bx G192 v ((zz.s_pc c9 j9 ((cdN v ((v.P c9 j9).2.2.1)).map (AD 0))).s_pe c9 j9 none) LA EA AD PI := by rw [eG192]; first | exact hP183.put_pe hc9 hj29 | (have z9 := hP183.put_pe hc9 hj29 (x := none); rw [hz174] at z9; exact z9)
                have hz194 : ((zz.s_pc c9 j9 ((cdN v ((v.P c9 j9).2.2.1)).map (AD 0))).s_pe c9 j9 none).pe c9 j9 = none := by show up1 (zz.s_pc c9 j9 ((cdN v ((v.P c9 j9).2.2.1)).map (AD 0))).pe c9 (up1 ((zz.s_pc c9 j9 ((cdN v ((v.P c9 j9).2.2.1)).map (AD 0))).pe c9) j9 none) c9 j9 = _; rw [up1_eq, up1_eq]
                have k195 : G192 ed = some (.inr (3, [.ref (LA 0), .ref (LA 1), .ref (LA 2), .ref (LA 3), .ref (LA 4), .ref (LA 5), .ref na, .int nc, va_rf iu, .int ((ex1 false ((v.P c9 j9).2.2.2.1) (ex1 true ((v.P c9 j9).1) ww)).1), va_rf ((ex1 false ((v.P c9 j9).2.2.2.1) (ex1 true ((v.P c9 j9).1) ww)).2.map (AD 1))])) := by rw [eG192]; exact mm_set_of k182 (mm_ne_oo k182 k185 (by decide))
                have k196 : G192 (AD 2 c9) = some (.inr (11, [.int (nI (c9 + 1)), .ref (AD 1 (v.S c9).1), .int ((v.S c9).2.1), .long ((v.S c9).2.2.1), .ref (LA (20 + c9)), .int ((v.S c9).2.2.2)])) := by rw [eG192]; exact mm_set_of k184 (mm_ne_oo k184 k185 (by decide))
                have k197 : G192 (AD (20 + c9) j9) = some (.inr (9, [.int (nI (j9 + 1)), .int ((v.P c9 j9).1), .long ((v.P c9 j9).2.1), .long ((v.P c9 j9).2.2.1), .int ((v.P c9 j9).2.2.2.1), va_rf ((cdN v ((v.P c9 j9).2.2.1)).map (AD 0)), .int ((v.P c9 j9).2.2.2.2.1), .long ((v.P c9 j9).2.2.2.2.2.1), .int ((v.P c9 j9).2.2.2.2.2.2.1), .null, .int ((v.P c9 j9).2.2.2.2.2.2.2), .int ((zz.pd c9 j9).1), .int ((zz.pd c9 j9).2.1), .long ((zz.pd c9 j9).2.2.1), .long ((zz.pd c9 j9).2.2.2)])) := by rw [eG192]; exact mm_set_self
                have hfr198 : ∀ (x : Nat) (e : va_E), G x = some e → x ≠ ed → (∀ k i, lvV v k → i < lnV v k → x ≠ AD k i) → G192 x = some e := fun x e z9 n1 n2 => by
                  have z0 := hfr186 x e z9 n1 n2
                  rw [eG192]; exact mm_set_of z0 (n2 (20 + c9) j9 (lv_P hc9) (by rw [ln_P (by have := hP183.b; omega)]; exact hj29))
                refine lv_aload_n hx hb dX2_findParameters_126 rfl (lv_at hl 2 rfl) ?_
                refine lv_aload_n hx hb dX2_findParameters_127 rfl (lv_at hl 1 rfl) ?_
                refine mm_getN (v := .null) hx hb hf_X8 (fun _ h9 => h9) hown hK hG k197 rfl 9 (by decide) (tb_use hT tw_799) (fun _ h9 => h9) rfl dX2_findParameters_128 ?_
                refine lv_ifnullN (tgt := 138) hx hb dX2_findParameters_131 (by decide) ?_
                refine lv_iconst (v := 0) hx hb dX2_findParameters_138 (by decide) ?_
                refine lv_aload_n hx hb dX2_findParameters_139 rfl (lv_at hl 1 rfl) ?_
                refine mm_getN (v := .int ((v.P c9 j9).2.2.2.2.2.2.1)) hx hb hf_X8 (fun _ h9 => h9) hown hK hG k197 rfl 8 (by decide) (tb_use hT tw_795) (fun _ h9 => h9) rfl dX2_findParameters_140 ?_
                refine va_callv (va_runV (As := [.int 0, .int ((v.P c9 j9).2.2.2.2.2.2.1)]) (rest := []) ⟨hx, hb, hml, hown, (fun _ h9 => absurd h9 List.not_mem_nil : ∀ w ∈ ([] : List Cond), w.before _ s = true)⟩ (c_ED_expect l D cy A X hst hXT e0 tk hXE G192 LA AD ed na nc iu (ex1 false ((v.P c9 j9).2.2.2.1) (ex1 true ((v.P c9 j9).1) ww)) false ((v.P c9 j9).2.2.2.2.2.2.1) k195) (tb_cw (C := RX2) 2 hT tw_1009 tw_110 tw_1006 tw_1008 tw_34 rfl rfl hq_X2_expect ⟨Nat.le_of_ble_eq_true rfl, Nat.le_of_ble_eq_true rfl⟩) (mk_preC hst hG hK hA hX hS vc_3 k195) rfl rfl hl.1 rfl (lv_room (Nat.le_of_ble_eq_true rfl)) dX2_findParameters_143 ⟨Nat.le_of_ble_eq_true rfl, Nat.le_of_ble_eq_true rfl⟩) hS (fun q _ h => h) (fun q h => h) (fun  G199 t H locs ht hvm hw hB hz1 hk1 hS => ?_)
                have hG : mm D vwCl A G199 H := by rw [← ht]; exact hB
                clear hB hz1 hk1 hvm ht
                have k200 : G199 ed = some (.inr (3, [.ref (LA 0), .ref (LA 1), .ref (LA 2), .ref (LA 3), .ref (LA 4), .ref (LA 5), .ref na, .int nc, va_rf iu, .int ((ex1 false ((v.P c9 j9).2.2.2.2.2.2.1) (ex1 false ((v.P c9 j9).2.2.2.1) (ex1 true ((v.P c9 j9).1) ww))).1), va_rf ((ex1 false ((v.P c9 j9).2.2.2.2.2.2.1) (ex1 false ((v.P c9 j9).2.2.2.1) (ex1 true ((v.P c9 j9).1) ww))).2.map (AD 1))])) := by rw [hw]; exact mm_set_self
                have hP201 : EDP cy e0 tk G0 Bx G199 v ((zz.s_pc c9 j9 ((cdN v ((v.P c9 j9).2.2.1)).map (AD 0))).s_pe c9 j9 none) LA EA AD PI := hP193.mve hBe k195 k200 (fun x e h1 n1 => by rw [hw]; exact mm_set_of h1 n1)
                have k202 : G199 (AD 2 c9) = some (.inr (11, [.int (nI (c9 + 1)), .ref (AD 1 (v.S c9).1), .int ((v.S c9).2.1), .long ((v.S c9).2.2.1), .ref (LA (20 + c9)), .int ((v.S c9).2.2.2)])) := by rw [hw]; exact mm_set_of k196 (mm_ne_oo k196 k195 (by decide))
                have k203 : G199 (AD (20 + c9) j9) = some (.inr (9, [.int (nI (j9 + 1)), .int ((v.P c9 j9).1), .long ((v.P c9 j9).2.1), .long ((v.P c9 j9).2.2.1), .int ((v.P c9 j9).2.2.2.1), va_rf ((cdN v ((v.P c9 j9).2.2.1)).map (AD 0)), .int ((v.P c9 j9).2.2.2.2.1), .long ((v.P c9 j9).2.2.2.2.2.1), .int ((v.P c9 j9).2.2.2.2.2.2.1), .null, .int ((v.P c9 j9).2.2.2.2.2.2.2), .int ((zz.pd c9 j9).1), .int ((zz.pd c9 j9).2.1), .long ((zz.pd c9 j9).2.2.1), .long ((zz.pd c9 j9).2.2.2)])) := by rw [hw]; exact mm_set_of k197 (mm_ne_oo k197 k195 (by decide))
                have hfr204 : ∀ (x : Nat) (e : va_E), G x = some e → x ≠ ed → (∀ k i, lvV v k → i < lnV v k → x ≠ AD k i) → G199 x = some e := fun x e z9 n1 n2 => by
                  have z0 := hfr198 x e z9 n1 n2
                  rw [hw]; exact mm_set_of z0 n1
                clear hw
                obtain ⟨x205, ex205⟩ : ∃ y : Int32, y = (nI j9) + 1 := ⟨_, rfl⟩
                refine lv_iinc (v := x205) (lv' := [(2, .int x205), (4, .null), (3, .ref (AD (20 + c9) j9)), (0, .ref ed), (1, .ref (AD 2 c9))]) hx hb dX2_findParameters_146 hl (k := 4) rfl (by rw [ex205]; rfl) (by decide) rfl (fun ls hl => ?_)
                refine lv_goto (tgt := 2) hx hb dX2_findParameters_149 (by decide) ?_
                rw [show x205 = nI (j9 + 1) by rw [ex205]; exact (nI_succ j9).symm] at hl
                have heB : eB v c9 j9 = false := by rw [eB, hf190]
                have hpe9 : peI v c9 j9 = none := by rw [peI, if_neg c_86, hf190]
                have hs9 : pS v c9 j9 ww = (ex1 false ((v.P c9 j9).2.2.2.2.2.2.1) (ex1 false ((v.P c9 j9).2.2.2.1) (ex1 true ((v.P c9 j9).1) ww))) := by rw [pS, if_neg c_86, hB_35, hf179, heB]; rfl
                have hz3 : ∀ p, p < j9 + 1 → ((zz.s_pc c9 j9 ((cdN v ((v.P c9 j9).2.2.1)).map (AD 0))).s_pe c9 j9 none).pc c9 p = (cdN v (v.P c9 p).2.2.1).map (AD 0) ∧ ((zz.s_pc c9 j9 ((cdN v ((v.P c9 j9).2.2.1)).map (AD 0))).s_pe c9 j9 none).pe c9 p = (peI v c9 p).map (AD (20 + c9)) := by
                  intro p hp
                  by_cases e9 : p = j9
                  · rw [e9, hpe9]; refine ⟨?_, ?_⟩; show up1 zz.pc c9 _ c9 j9 = _; rw [up1_eq, up1_eq]; show up1 zz.pe c9 _ c9 j9 = _; rw [up1_eq, up1_eq]; rfl
                  · rw [← (hz1 p (by omega)).1, ← (hz1 p (by omega)).2]; refine ⟨?_, ?_⟩; show up1 zz.pc c9 _ c9 p = _; rw [up1_eq, up1_ne e9]; show up1 zz.pe c9 _ c9 p = _; rw [up1_eq, up1_ne e9]; try rfl
                have hz4 : ∀ p, j9 + 1 ≤ p → ((zz.s_pc c9 j9 ((cdN v ((v.P c9 j9).2.2.1)).map (AD 0))).s_pe c9 j9 none).pe c9 p = none := fun p hp => by rw [← hz2 p (by omega)]; show up1 zz.pe c9 _ c9 p = _; rw [up1_eq, up1_ne (by omega)]; try rfl
                have hz6 : ∀ c, c ≠ c9 → ((zz.s_pc c9 j9 ((cdN v ((v.P c9 j9).2.2.1)).map (AD 0))).s_pe c9 j9 none).pc c = z.pc c ∧ ((zz.s_pc c9 j9 ((cdN v ((v.P c9 j9).2.2.1)).map (AD 0))).s_pe c9 j9 none).pe c = z.pe c := fun c hc => by rw [← (hz5 c hc).1, ← (hz5 c hc).2]; exact ⟨up1_ne hc, up1_ne hc⟩
                have hq2 : mP v c9 n (j9 + 1) (ex1 false ((v.P c9 j9).2.2.2.2.2.2.1) (ex1 false ((v.P c9 j9).2.2.2.1) (ex1 true ((v.P c9 j9).1) ww))) = mP v c9 (v.nP c9) 0 w9 := by rw [← hs9]; exact hq
                exact ih (j9 + 1) ((zz.s_pc c9 j9 ((cdN v ((v.P c9 j9).2.2.1)).map (AD 0))).s_pe c9 j9 none) (ex1 false ((v.P c9 j9).2.2.2.2.2.2.1) (ex1 false ((v.P c9 j9).2.2.2.1) (ex1 true ((v.P c9 j9).1) ww))) (by omega) hz3 hz4 hz6 hz7 hq2 G199 k200 hP201 hfr204 _ _ hG hS ls (lv_sub hl [3, 4, 0] rfl)
              | some j191 =>
                have hj206 := paN_lt hf190
                refine W.eq (g2 := F0 m 97 ls [.ref (AD (20 + c9) j191)]) (by first | rfl | (rw [hf190]; rfl)) ?_
                refine lv_astore (lv' := [(4, .ref (AD (20 + c9) j191)), (3, .ref (AD (20 + c9) j9)), (0, .ref ed), (1, .ref (AD 2 c9)), (2, .int (nI j9))]) hx hb dX2_findParameters_97 hl (by decide) rfl (fun ls hl => ?_)
                refine lv_aload_n hx hb dX2_findParameters_99 rfl (lv_at hl 1 rfl) ?_
                refine lv_aload hx hb dX2_findParameters_100 (lv_at hl 0 rfl) ?_
                refine lv_ifnull hx hb dX2_findParameters_102 ?_
                refine lv_aload hx hb dX2_findParameters_105 (lv_at hl 0 rfl) ?_
                have k207 : G181 (AD (20 + c9) j191) = some (.inr (9, [.int (nI (j191 + 1)), .int ((v.P c9 j191).1), .long ((v.P c9 j191).2.1), .long ((v.P c9 j191).2.2.1), .int ((v.P c9 j191).2.2.2.1), va_rf ((zz.s_pc c9 j9 ((cdN v ((v.P c9 j9).2.2.1)).map (AD 0))).pc c9 j191), .int ((v.P c9 j191).2.2.2.2.1), .long ((v.P c9 j191).2.2.2.2.2.1), .int ((v.P c9 j191).2.2.2.2.2.2.1), va_rf ((zz.s_pc c9 j9 ((cdN v ((v.P c9 j9).2.2.1)).map (AD 0))).pe c9 j191), .int ((v.P c9 j191).2.2.2.2.2.2.2), .int (((zz.s_pc c9 j9 ((cdN v ((v.P c9 j9).2.2.1)).map (AD 0))).pd c9 j191).1), .int (((zz.s_pc c9 j9 ((cdN v ((v.P c9 j9).2.2.1)).map (AD 0))).pd c9 j191).2.1), .long (((zz.s_pc c9 j9 ((cdN v ((v.P c9 j9).2.2.1)).map (AD 0))).pd c9 j191).2.2.1), .long (((zz.s_pc c9 j9 ((cdN v ((v.P c9 j9).2.2.1)).map (AD 0))).pd c9 j191).2.2.2)])) := hP183.elP hc9 hj206
                refine mm_getN (v := .int (nI (j191 + 1))) hx hb hf_X8 (fun _ h9 => h9) hown hK hG k207 rfl 0 (by decide) (tb_use hT tw_772) (fun _ h9 => h9) rfl dX2_findParameters_107 ?_
                refine lv_aload_n hx hb dX2_findParameters_110 rfl (lv_at hl 1 rfl) ?_
                refine mm_getN (v := .int (nI (j9 + 1))) hx hb hf_X8 (fun _ h9 => h9) hown hK hG k185 rfl 0 (by decide) (tb_use hT tw_772) (fun _ h9 => h9) rfl dX2_findParameters_111 ?_
                refine lv_icmp_ge (tgt := 122) hx hb dX2_findParameters_114 (by decide) (fun c_114 => ?_) (fun c_114 => ?_)
                · skip
                  refine lv_null hx hb dX2_findParameters_122 ?_
                  refine mm_putN (v := .null) (ty := .object "DescribeText$Parameter") hx hb hf_X8 (fun _ h9 => h9) tyX8 tyX8_ok nmX8 hown hK hG hS k185 rfl 9 (by decide) (tb_use hT tw_799) (fun _ h9 => h9) rfl (by decide +kernel) rfl rfl (Nat.le_of_ble_eq_true rfl) dX2_findParameters_123 (fun H locs hG hS => ?_)
                  obtain ⟨G208, eG208⟩ : ∃ g, g = mm_set G181 (AD (20 + c9) j9) (.inr (9, [.int (nI (j9 + 1)), .int ((v.P c9 j9).1), .long ((v.P c9 j9).2.1), .long ((v.P c9 j9).2.2.1), .int ((v.P c9 j9).2.2.2.1), va_rf ((cdN v ((v.P c9 j9).2.2.1)).map (AD 0)), .int ((v.P c9 j9).2.2.2.2.1), .long ((v.P c9 j9).2.2.2.2.2.1), .int ((v.P c9 j9).2.2.2.2.2.2.1), .null, .int ((v.P c9 j9).2.2.2.2.2.2.2), .int ((zz.pd c9 j9).1), .int ((zz.pd c9 j9).2.1), .long ((zz.pd c9 j9).2.2.1), .long ((zz.pd c9 j9).2.2.2)])) := ⟨_, rfl⟩
                  have hG : mm D vwCl A G208 H := by rw [eG208]; exact hG
                  have hP209 : EDP cy e0 tk G0 Bx G208 v ((zz.s_pc c9 j9 ((cdN v ((v.P c9 j9).2.2.1)).map (AD 0))).s_pe c9 j9 none) LA EA AD PI := by rw [eG208]; first | exact hP183.put_pe hc9 hj29 | (have z9 := hP183.put_pe hc9 hj29 (x := none); rw [hz174] at z9; exact z9)
                  have hz210 : ((zz.s_pc c9 j9 ((cdN v ((v.P c9 j9).2.2.1)).map (AD 0))).s_pe c9 j9 none).pe c9 j9 = none := by show up1 (zz.s_pc c9 j9 ((cdN v ((v.P c9 j9).2.2.1)).map (AD 0))).pe c9 (up1 ((zz.s_pc c9 j9 ((cdN v ((v.P c9 j9).2.2.1)).map (AD 0))).pe c9) j9 none) c9 j9 = _; rw [up1_eq, up1_eq]
                  have k211 : G208 ed = some (.inr (3, [.ref (LA 0), .ref (LA 1), .ref (LA 2), .ref (LA 3), .ref (LA 4), .ref (LA 5), .ref na, .int nc, va_rf iu, .int ((ex1 false ((v.P c9 j9).2.2.2.1) (ex1 true ((v.P c9 j9).1) ww)).1), va_rf ((ex1 false ((v.P c9 j9).2.2.2.1) (ex1 true ((v.P c9 j9).1) ww)).2.map (AD 1))])) := by rw [eG208]; exact mm_set_of k182 (mm_ne_oo k182 k185 (by decide))
                  have k212 : G208 (AD 2 c9) = some (.inr (11, [.int (nI (c9 + 1)), .ref (AD 1 (v.S c9).1), .int ((v.S c9).2.1), .long ((v.S c9).2.2.1), .ref (LA (20 + c9)), .int ((v.S c9).2.2.2)])) := by rw [eG208]; exact mm_set_of k184 (mm_ne_oo k184 k185 (by decide))
                  have k213 : G208 (AD (20 + c9) j9) = some (.inr (9, [.int (nI (j9 + 1)), .int ((v.P c9 j9).1), .long ((v.P c9 j9).2.1), .long ((v.P c9 j9).2.2.1), .int ((v.P c9 j9).2.2.2.1), va_rf ((cdN v ((v.P c9 j9).2.2.1)).map (AD 0)), .int ((v.P c9 j9).2.2.2.2.1), .long ((v.P c9 j9).2.2.2.2.2.1), .int ((v.P c9 j9).2.2.2.2.2.2.1), .null, .int ((v.P c9 j9).2.2.2.2.2.2.2), .int ((zz.pd c9 j9).1), .int ((zz.pd c9 j9).2.1), .long ((zz.pd c9 j9).2.2.1), .long ((zz.pd c9 j9).2.2.2)])) := by rw [eG208]; exact mm_set_self
                  have hfr214 : ∀ (x : Nat) (e : va_E), G x = some e → x ≠ ed → (∀ k i, lvV v k → i < lnV v k → x ≠ AD k i) → G208 x = some e := fun x e z9 n1 n2 => by
                    have z0 := hfr186 x e z9 n1 n2
                    rw [eG208]; exact mm_set_of z0 (n2 (20 + c9) j9 (lv_P hc9) (by rw [ln_P (by have := hP183.b; omega)]; exact hj29))
                  refine lv_aload_n hx hb dX2_findParameters_126 rfl (lv_at hl 2 rfl) ?_
                  refine lv_aload_n hx hb dX2_findParameters_127 rfl (lv_at hl 1 rfl) ?_
                  refine mm_getN (v := .null) hx hb hf_X8 (fun _ h9 => h9) hown hK hG k213 rfl 9 (by decide) (tb_use hT tw_799) (fun _ h9 => h9) rfl dX2_findParameters_128 ?_
                  refine lv_ifnullN (tgt := 138) hx hb dX2_findParameters_131 (by decide) ?_
                  refine lv_iconst (v := 0) hx hb dX2_findParameters_138 (by decide) ?_
                  refine lv_aload_n hx hb dX2_findParameters_139 rfl (lv_at hl 1 rfl) ?_
                  refine mm_getN (v := .int ((v.P c9 j9).2.2.2.2.2.2.1)) hx hb hf_X8 (fun _ h9 => h9) hown hK hG k213 rfl 8 (by decide) (tb_use hT tw_795) (fun _ h9 => h9) rfl dX2_findParameters_140 ?_
                  refine va_callv (va_runV (As := [.int 0, .int ((v.P c9 j9).2.2.2.2.2.2.1)]) (rest := []) ⟨hx, hb, hml, hown, (fun _ h9 => absurd h9 List.not_mem_nil : ∀ w ∈ ([] : List Cond), w.before _ s = true)⟩ (c_ED_expect l D cy A X hst hXT e0 tk hXE G208 LA AD ed na nc iu (ex1 false ((v.P c9 j9).2.2.2.1) (ex1 true ((v.P c9 j9).1) ww)) false ((v.P c9 j9).2.2.2.2.2.2.1) k211) (tb_cw (C := RX2) 2 hT tw_1009 tw_110 tw_1006 tw_1008 tw_34 rfl rfl hq_X2_expect ⟨Nat.le_of_ble_eq_true rfl, Nat.le_of_ble_eq_true rfl⟩) (mk_preC hst hG hK hA hX hS vc_3 k211) rfl rfl hl.1 rfl (lv_room (Nat.le_of_ble_eq_true rfl)) dX2_findParameters_143 ⟨Nat.le_of_ble_eq_true rfl, Nat.le_of_ble_eq_true rfl⟩) hS (fun q _ h => h) (fun q h => h) (fun  G215 t H locs ht hvm hw hB hz1 hk1 hS => ?_)
                  have hG : mm D vwCl A G215 H := by rw [← ht]; exact hB
                  clear hB hz1 hk1 hvm ht
                  have k216 : G215 ed = some (.inr (3, [.ref (LA 0), .ref (LA 1), .ref (LA 2), .ref (LA 3), .ref (LA 4), .ref (LA 5), .ref na, .int nc, va_rf iu, .int ((ex1 false ((v.P c9 j9).2.2.2.2.2.2.1) (ex1 false ((v.P c9 j9).2.2.2.1) (ex1 true ((v.P c9 j9).1) ww))).1), va_rf ((ex1 false ((v.P c9 j9).2.2.2.2.2.2.1) (ex1 false ((v.P c9 j9).2.2.2.1) (ex1 true ((v.P c9 j9).1) ww))).2.map (AD 1))])) := by rw [hw]; exact mm_set_self
                  have hP217 : EDP cy e0 tk G0 Bx G215 v ((zz.s_pc c9 j9 ((cdN v ((v.P c9 j9).2.2.1)).map (AD 0))).s_pe c9 j9 none) LA EA AD PI := hP209.mve hBe k211 k216 (fun x e h1 n1 => by rw [hw]; exact mm_set_of h1 n1)
                  have k218 : G215 (AD 2 c9) = some (.inr (11, [.int (nI (c9 + 1)), .ref (AD 1 (v.S c9).1), .int ((v.S c9).2.1), .long ((v.S c9).2.2.1), .ref (LA (20 + c9)), .int ((v.S c9).2.2.2)])) := by rw [hw]; exact mm_set_of k212 (mm_ne_oo k212 k211 (by decide))
                  have k219 : G215 (AD (20 + c9) j9) = some (.inr (9, [.int (nI (j9 + 1)), .int ((v.P c9 j9).1), .long ((v.P c9 j9).2.1), .long ((v.P c9 j9).2.2.1), .int ((v.P c9 j9).2.2.2.1), va_rf ((cdN v ((v.P c9 j9).2.2.1)).map (AD 0)), .int ((v.P c9 j9).2.2.2.2.1), .long ((v.P c9 j9).2.2.2.2.2.1), .int ((v.P c9 j9).2.2.2.2.2.2.1), .null, .int ((v.P c9 j9).2.2.2.2.2.2.2), .int ((zz.pd c9 j9).1), .int ((zz.pd c9 j9).2.1), .long ((zz.pd c9 j9).2.2.1), .long ((zz.pd c9 j9).2.2.2)])) := by rw [hw]; exact mm_set_of k213 (mm_ne_oo k213 k211 (by decide))
                  have hfr220 : ∀ (x : Nat) (e : va_E), G x = some e → x ≠ ed → (∀ k i, lvV v k → i < lnV v k → x ≠ AD k i) → G215 x = some e := fun x e z9 n1 n2 => by
                    have z0 := hfr214 x e z9 n1 n2
                    rw [hw]; exact mm_set_of z0 n1
                  clear hw
                  obtain ⟨x221, ex221⟩ : ∃ y : Int32, y = (nI j9) + 1 := ⟨_, rfl⟩
                  refine lv_iinc (v := x221) (lv' := [(2, .int x221), (4, .ref (AD (20 + c9) j191)), (3, .ref (AD (20 + c9) j9)), (0, .ref ed), (1, .ref (AD 2 c9))]) hx hb dX2_findParameters_146 hl (k := 4) rfl (by rw [ex221]; rfl) (by decide) rfl (fun ls hl => ?_)
                  refine lv_goto (tgt := 2) hx hb dX2_findParameters_149 (by decide) ?_
                  rw [show x221 = nI (j9 + 1) by rw [ex221]; exact (nI_succ j9).symm] at hl
                  have hlt9 : ¬ j191 < j9 := fun z => absurd c_114 (nI_ge (by omega) (by omega))
                  have heB : eB v c9 j9 = false := by rw [eB, hf190]; exact decide_eq_false hlt9
                  have hpe9 : peI v c9 j9 = none := by rw [peI, if_neg c_86, hf190]; exact if_neg hlt9
                  have hs9 : pS v c9 j9 ww = (ex1 false ((v.P c9 j9).2.2.2.2.2.2.1) (ex1 false ((v.P c9 j9).2.2.2.1) (ex1 true ((v.P c9 j9).1) ww))) := by rw [pS, if_neg c_86, hB_35, hf179, heB]; rfl
                  have hz3 : ∀ p, p < j9 + 1 → ((zz.s_pc c9 j9 ((cdN v ((v.P c9 j9).2.2.1)).map (AD 0))).s_pe c9 j9 none).pc c9 p = (cdN v (v.P c9 p).2.2.1).map (AD 0) ∧ ((zz.s_pc c9 j9 ((cdN v ((v.P c9 j9).2.2.1)).map (AD 0))).s_pe c9 j9 none).pe c9 p = (peI v c9 p).map (AD (20 + c9)) := by
                    intro p hp
                    by_cases e9 : p = j9
                    · rw [e9, hpe9]; refine ⟨?_, ?_⟩; show up1 zz.pc c9 _ c9 j9 = _; rw [up1_eq, up1_eq]; show up1 zz.pe c9 _ c9 j9 = _; rw [up1_eq, up1_eq]; rfl
                    · rw [← (hz1 p (by omega)).1, ← (hz1 p (by omega)).2]; refine ⟨?_, ?_⟩; show up1 zz.pc c9 _ c9 p = _; rw [up1_eq, up1_ne e9]; show up1 zz.pe c9 _ c9 p = _; rw [up1_eq, up1_ne e9]; try rfl
                  have hz4 : ∀ p, j9 + 1 ≤ p → ((zz.s_pc c9 j9 ((cdN v ((v.P c9 j9).2.2.1)).map (AD 0))).s_pe c9 j9 none).pe c9 p = none := fun p hp => by rw [← hz2 p (by omega)]; show up1 zz.pe c9 _ c9 p = _; rw [up1_eq, up1_ne (by omega)]; try rfl
                  have hz6 : ∀ c, c ≠ c9 → ((zz.s_pc c9 j9 ((cdN v ((v.P c9 j9).2.2.1)).map (AD 0))).s_pe c9 j9 none).pc c = z.pc c ∧ ((zz.s_pc c9 j9 ((cdN v ((v.P c9 j9).2.2.1)).map (AD 0))).s_pe c9 j9 none).pe c = z.pe c := fun c hc => by rw [← (hz5 c hc).1, ← (hz5 c hc).2]; exact ⟨up1_ne hc, up1_ne hc⟩
                  have hq2 : mP v c9 n (j9 + 1) (ex1 false ((v.P c9 j9).2.2.2.2.2.2.1) (ex1 false ((v.P c9 j9).2.2.2.1) (ex1 true ((v.P c9 j9).1) ww))) = mP v c9 (v.nP c9) 0 w9 := by rw [← hs9]; exact hq
                  exact ih (j9 + 1) ((zz.s_pc c9 j9 ((cdN v ((v.P c9 j9).2.2.1)).map (AD 0))).s_pe c9 j9 none) (ex1 false ((v.P c9 j9).2.2.2.2.2.2.1) (ex1 false ((v.P c9 j9).2.2.2.1) (ex1 true ((v.P c9 j9).1) ww))) (by omega) hz3 hz4 hz6 hz7 hq2 G215 k216 hP217 hfr220 _ _ hG hS ls (lv_sub hl [3, 4, 0] rfl)
                · skip
                  refine lv_aload hx hb dX2_findParameters_117 (lv_at hl 0 rfl) ?_
                  refine lv_goto (tgt := 123) hx hb dX2_findParameters_119 (by decide) ?_
                  refine mm_putN (v := .ref (AD (20 + c9) j191)) (ty := .object "DescribeText$Parameter") hx hb hf_X8 (fun _ h9 => h9) tyX8 tyX8_ok nmX8 hown hK hG hS k185 rfl 9 (by decide) (tb_use hT tw_799) (fun _ h9 => h9) rfl (by decide +kernel) rfl rfl (Nat.le_of_ble_eq_true rfl) dX2_findParameters_123 (fun H locs hG hS => ?_)
                  obtain ⟨G222, eG222⟩ : ∃ g, g = mm_set G181 (AD (20 + c9) j9) (.inr (9, [.int (nI (j9 + 1)), .int ((v.P c9 j9).1), .long ((v.P c9 j9).2.1), .long ((v.P c9 j9).2.2.1), .int ((v.P c9 j9).2.2.2.1), va_rf ((cdN v ((v.P c9 j9).2.2.1)).map (AD 0)), .int ((v.P c9 j9).2.2.2.2.1), .long ((v.P c9 j9).2.2.2.2.2.1), .int ((v.P c9 j9).2.2.2.2.2.2.1), .ref (AD (20 + c9) j191), .int ((v.P c9 j9).2.2.2.2.2.2.2), .int ((zz.pd c9 j9).1), .int ((zz.pd c9 j9).2.1), .long ((zz.pd c9 j9).2.2.1), .long ((zz.pd c9 j9).2.2.2)])) := ⟨_, rfl⟩
                  have hG : mm D vwCl A G222 H := by rw [eG222]; exact hG
                  have hP223 : EDP cy e0 tk G0 Bx G222 v ((zz.s_pc c9 j9 ((cdN v ((v.P c9 j9).2.2.1)).map (AD 0))).s_pe c9 j9 (some (AD (20 + c9) j191))) LA EA AD PI := by rw [eG222]; first | exact hP183.put_pe hc9 hj29 | (have z9 := hP183.put_pe hc9 hj29 (x := (some (AD (20 + c9) j191))); rw [hz174] at z9; exact z9)
                  have hz224 : ((zz.s_pc c9 j9 ((cdN v ((v.P c9 j9).2.2.1)).map (AD 0))).s_pe c9 j9 (some (AD (20 + c9) j191))).pe c9 j9 = (some (AD (20 + c9) j191)) := by show up1 (zz.s_pc c9 j9 ((cdN v ((v.P c9 j9).2.2.1)).map (AD 0))).pe c9 (up1 ((zz.s_pc c9 j9 ((cdN v ((v.P c9 j9).2.2.1)).map (AD 0))).pe c9) j9 (some (AD (20 + c9) j191))) c9 j9 = _; rw [up1_eq, up1_eq]
                  have k225 : G222 ed = some (.inr (3, [.ref (LA 0), .ref (LA 1), .ref (LA 2), .ref (LA 3), .ref (LA 4), .ref (LA 5), .ref na, .int nc, va_rf iu, .int ((ex1 false ((v.P c9 j9).2.2.2.1) (ex1 true ((v.P c9 j9).1) ww)).1), va_rf ((ex1 false ((v.P c9 j9).2.2.2.1) (ex1 true ((v.P c9 j9).1) ww)).2.map (AD 1))])) := by rw [eG222]; exact mm_set_of k182 (mm_ne_oo k182 k185 (by decide))
                  have k226 : G222 (AD 2 c9) = some (.inr (11, [.int (nI (c9 + 1)), .ref (AD 1 (v.S c9).1), .int ((v.S c9).2.1), .long ((v.S c9).2.2.1), .ref (LA (20 + c9)), .int ((v.S c9).2.2.2)])) := by rw [eG222]; exact mm_set_of k184 (mm_ne_oo k184 k185 (by decide))
                  have k227 : G222 (AD (20 + c9) j9) = some (.inr (9, [.int (nI (j9 + 1)), .int ((v.P c9 j9).1), .long ((v.P c9 j9).2.1), .long ((v.P c9 j9).2.2.1), .int ((v.P c9 j9).2.2.2.1), va_rf ((cdN v ((v.P c9 j9).2.2.1)).map (AD 0)), .int ((v.P c9 j9).2.2.2.2.1), .long ((v.P c9 j9).2.2.2.2.2.1), .int ((v.P c9 j9).2.2.2.2.2.2.1), .ref (AD (20 + c9) j191), .int ((v.P c9 j9).2.2.2.2.2.2.2), .int ((zz.pd c9 j9).1), .int ((zz.pd c9 j9).2.1), .long ((zz.pd c9 j9).2.2.1), .long ((zz.pd c9 j9).2.2.2)])) := by rw [eG222]; exact mm_set_self
                  have hfr228 : ∀ (x : Nat) (e : va_E), G x = some e → x ≠ ed → (∀ k i, lvV v k → i < lnV v k → x ≠ AD k i) → G222 x = some e := fun x e z9 n1 n2 => by
                    have z0 := hfr186 x e z9 n1 n2
                    rw [eG222]; exact mm_set_of z0 (n2 (20 + c9) j9 (lv_P hc9) (by rw [ln_P (by have := hP183.b; omega)]; exact hj29))
                  refine lv_aload_n hx hb dX2_findParameters_126 rfl (lv_at hl 2 rfl) ?_
                  refine lv_aload_n hx hb dX2_findParameters_127 rfl (lv_at hl 1 rfl) ?_
                  refine mm_getN (v := .ref (AD (20 + c9) j191)) hx hb hf_X8 (fun _ h9 => h9) hown hK hG k227 rfl 9 (by decide) (tb_use hT tw_799) (fun _ h9 => h9) rfl dX2_findParameters_128 ?_
                  refine lv_ifnull hx hb dX2_findParameters_131 ?_
                  refine lv_iconst (v := 1) hx hb dX2_findParameters_134 (by decide) ?_
                  refine lv_goto (tgt := 139) hx hb dX2_findParameters_135 (by decide) ?_
                  refine lv_aload_n hx hb dX2_findParameters_139 rfl (lv_at hl 1 rfl) ?_
                  refine mm_getN (v := .int ((v.P c9 j9).2.2.2.2.2.2.1)) hx hb hf_X8 (fun _ h9 => h9) hown hK hG k227 rfl 8 (by decide) (tb_use hT tw_795) (fun _ h9 => h9) rfl dX2_findParameters_140 ?_
                  refine va_callv (va_runV (As := [.int 1, .int ((v.P c9 j9).2.2.2.2.2.2.1)]) (rest := []) ⟨hx, hb, hml, hown, (fun _ h9 => absurd h9 List.not_mem_nil : ∀ w ∈ ([] : List Cond), w.before _ s = true)⟩ (c_ED_expect l D cy A X hst hXT e0 tk hXE G222 LA AD ed na nc iu (ex1 false ((v.P c9 j9).2.2.2.1) (ex1 true ((v.P c9 j9).1) ww)) true ((v.P c9 j9).2.2.2.2.2.2.1) k225) (tb_cw (C := RX2) 2 hT tw_1009 tw_110 tw_1006 tw_1008 tw_34 rfl rfl hq_X2_expect ⟨Nat.le_of_ble_eq_true rfl, Nat.le_of_ble_eq_true rfl⟩) (mk_preC hst hG hK hA hX hS vc_3 k225) rfl rfl hl.1 rfl (lv_room (Nat.le_of_ble_eq_true rfl)) dX2_findParameters_143 ⟨Nat.le_of_ble_eq_true rfl, Nat.le_of_ble_eq_true rfl⟩) hS (fun q _ h => h) (fun q h => h) (fun  G229 t H locs ht hvm hw hB hz1 hk1 hS => ?_)
                  have hG : mm D vwCl A G229 H := by rw [← ht]; exact hB
                  clear hB hz1 hk1 hvm ht
                  have k230 : G229 ed = some (.inr (3, [.ref (LA 0), .ref (LA 1), .ref (LA 2), .ref (LA 3), .ref (LA 4), .ref (LA 5), .ref na, .int nc, va_rf iu, .int ((ex1 true ((v.P c9 j9).2.2.2.2.2.2.1) (ex1 false ((v.P c9 j9).2.2.2.1) (ex1 true ((v.P c9 j9).1) ww))).1), va_rf ((ex1 true ((v.P c9 j9).2.2.2.2.2.2.1) (ex1 false ((v.P c9 j9).2.2.2.1) (ex1 true ((v.P c9 j9).1) ww))).2.map (AD 1))])) := by rw [hw]; exact mm_set_self
                  have hP231 : EDP cy e0 tk G0 Bx G229 v ((zz.s_pc c9 j9 ((cdN v ((v.P c9 j9).2.2.1)).map (AD 0))).s_pe c9 j9 (some (AD (20 + c9) j191))) LA EA AD PI := hP223.mve hBe k225 k230 (fun x e h1 n1 => by rw [hw]; exact mm_set_of h1 n1)
                  have k232 : G229 (AD 2 c9) = some (.inr (11, [.int (nI (c9 + 1)), .ref (AD 1 (v.S c9).1), .int ((v.S c9).2.1), .long ((v.S c9).2.2.1), .ref (LA (20 + c9)), .int ((v.S c9).2.2.2)])) := by rw [hw]; exact mm_set_of k226 (mm_ne_oo k226 k225 (by decide))
                  have k233 : G229 (AD (20 + c9) j9) = some (.inr (9, [.int (nI (j9 + 1)), .int ((v.P c9 j9).1), .long ((v.P c9 j9).2.1), .long ((v.P c9 j9).2.2.1), .int ((v.P c9 j9).2.2.2.1), va_rf ((cdN v ((v.P c9 j9).2.2.1)).map (AD 0)), .int ((v.P c9 j9).2.2.2.2.1), .long ((v.P c9 j9).2.2.2.2.2.1), .int ((v.P c9 j9).2.2.2.2.2.2.1), .ref (AD (20 + c9) j191), .int ((v.P c9 j9).2.2.2.2.2.2.2), .int ((zz.pd c9 j9).1), .int ((zz.pd c9 j9).2.1), .long ((zz.pd c9 j9).2.2.1), .long ((zz.pd c9 j9).2.2.2)])) := by rw [hw]; exact mm_set_of k227 (mm_ne_oo k227 k225 (by decide))
                  have hfr234 : ∀ (x : Nat) (e : va_E), G x = some e → x ≠ ed → (∀ k i, lvV v k → i < lnV v k → x ≠ AD k i) → G229 x = some e := fun x e z9 n1 n2 => by
                    have z0 := hfr228 x e z9 n1 n2
                    rw [hw]; exact mm_set_of z0 n1
                  clear hw
                  obtain ⟨x235, ex235⟩ : ∃ y : Int32, y = (nI j9) + 1 := ⟨_, rfl⟩
                  refine lv_iinc (v := x235) (lv' := [(2, .int x235), (4, .ref (AD (20 + c9) j191)), (3, .ref (AD (20 + c9) j9)), (0, .ref ed), (1, .ref (AD 2 c9))]) hx hb dX2_findParameters_146 hl (k := 4) rfl (by rw [ex235]; rfl) (by decide) rfl (fun ls hl => ?_)
                  refine lv_goto (tgt := 2) hx hb dX2_findParameters_149 (by decide) ?_
                  rw [show x235 = nI (j9 + 1) by rw [ex235]; exact (nI_succ j9).symm] at hl
                  have hlt9 : j191 < j9 := by have z := nI_lt_of (a := j191 + 1) (b := j9 + 1) (by omega) (by omega) c_114; omega
                  have heB : eB v c9 j9 = true := by rw [eB, hf190]; exact decide_eq_true hlt9
                  have hpe9 : peI v c9 j9 = some j191 := by rw [peI, if_neg c_86, hf190]; exact if_pos hlt9
                  have hs9 : pS v c9 j9 ww = (ex1 true ((v.P c9 j9).2.2.2.2.2.2.1) (ex1 false ((v.P c9 j9).2.2.2.1) (ex1 true ((v.P c9 j9).1) ww))) := by rw [pS, if_neg c_86, hB_35, hf179, heB]; rfl
                  have hz3 : ∀ p, p < j9 + 1 → ((zz.s_pc c9 j9 ((cdN v ((v.P c9 j9).2.2.1)).map (AD 0))).s_pe c9 j9 (some (AD (20 + c9) j191))).pc c9 p = (cdN v (v.P c9 p).2.2.1).map (AD 0) ∧ ((zz.s_pc c9 j9 ((cdN v ((v.P c9 j9).2.2.1)).map (AD 0))).s_pe c9 j9 (some (AD (20 + c9) j191))).pe c9 p = (peI v c9 p).map (AD (20 + c9)) := by
                    intro p hp
                    by_cases e9 : p = j9
                    · rw [e9, hpe9]; refine ⟨?_, ?_⟩; show up1 zz.pc c9 _ c9 j9 = _; rw [up1_eq, up1_eq]; show up1 zz.pe c9 _ c9 j9 = _; rw [up1_eq, up1_eq]; rfl
                    · rw [← (hz1 p (by omega)).1, ← (hz1 p (by omega)).2]; refine ⟨?_, ?_⟩; show up1 zz.pc c9 _ c9 p = _; rw [up1_eq, up1_ne e9]; show up1 zz.pe c9 _ c9 p = _; rw [up1_eq, up1_ne e9]; try rfl
                  have hz4 : ∀ p, j9 + 1 ≤ p → ((zz.s_pc c9 j9 ((cdN v ((v.P c9 j9).2.2.1)).map (AD 0))).s_pe c9 j9 (some (AD (20 + c9) j191))).pe c9 p = none := fun p hp => by rw [← hz2 p (by omega)]; show up1 zz.pe c9 _ c9 p = _; rw [up1_eq, up1_ne (by omega)]; try rfl
                  have hz6 : ∀ c, c ≠ c9 → ((zz.s_pc c9 j9 ((cdN v ((v.P c9 j9).2.2.1)).map (AD 0))).s_pe c9 j9 (some (AD (20 + c9) j191))).pc c = z.pc c ∧ ((zz.s_pc c9 j9 ((cdN v ((v.P c9 j9).2.2.1)).map (AD 0))).s_pe c9 j9 (some (AD (20 + c9) j191))).pe c = z.pe c := fun c hc => by rw [← (hz5 c hc).1, ← (hz5 c hc).2]; exact ⟨up1_ne hc, up1_ne hc⟩
                  have hq2 : mP v c9 n (j9 + 1) (ex1 true ((v.P c9 j9).2.2.2.2.2.2.1) (ex1 false ((v.P c9 j9).2.2.2.1) (ex1 true ((v.P c9 j9).1) ww))) = mP v c9 (v.nP c9) 0 w9 := by rw [← hs9]; exact hq
                  exact ih (j9 + 1) ((zz.s_pc c9 j9 ((cdN v ((v.P c9 j9).2.2.1)).map (AD 0))).s_pe c9 j9 (some (AD (20 + c9) j191))) (ex1 true ((v.P c9 j9).2.2.2.2.2.2.1) (ex1 false ((v.P c9 j9).2.2.2.1) (ex1 true ((v.P c9 j9).1) ww))) (by omega) hz3 hz4 hz6 hz7 hq2 G229 k230 hP231 hfr234 _ _ hG hS ls (lv_sub hl [3, 4, 0] rfl)
          | some j180 =>
            have hj236 := cdN_lt hf179
            refine W.eq (g2 := F0 m 67 ls [.ref (AD 0 j180), .ref ed]) (by first | rfl | (rw [hf179]; rfl)) ?_
            refine lv_ifnull hx hb dX2_findParameters_67 ?_
            refine lv_iconst (v := 1) hx hb dX2_findParameters_70 (by decide) ?_
            refine lv_goto (tgt := 75) hx hb dX2_findParameters_71 (by decide) ?_
            refine lv_aload_n hx hb dX2_findParameters_75 rfl (lv_at hl 0 rfl) ?_
            refine mm_getN (v := .int ((v.P c9 j9).2.2.2.1)) hx hb hf_X8 (fun _ h9 => h9) hown hK hG k177 rfl 4 (by decide) (tb_use hT tw_781) (fun _ h9 => h9) rfl dX2_findParameters_76 ?_
            refine va_callv (va_runV (As := [.int 1, .int ((v.P c9 j9).2.2.2.1)]) (rest := []) ⟨hx, hb, hml, hown, (fun _ h9 => absurd h9 List.not_mem_nil : ∀ w ∈ ([] : List Cond), w.before _ s = true)⟩ (c_ED_expect l D cy A X hst hXT e0 tk hXE G172 LA AD ed na nc iu (ex1 true ((v.P c9 j9).1) ww) true ((v.P c9 j9).2.2.2.1) k175) (tb_cw (C := RX2) 2 hT tw_1009 tw_110 tw_1006 tw_1008 tw_34 rfl rfl hq_X2_expect ⟨Nat.le_of_ble_eq_true rfl, Nat.le_of_ble_eq_true rfl⟩) (mk_preC hst hG hK hA hX hS vc_3 k175) rfl rfl hl.1 rfl (lv_room (Nat.le_of_ble_eq_true rfl)) dX2_findParameters_79 ⟨Nat.le_of_ble_eq_true rfl, Nat.le_of_ble_eq_true rfl⟩) hS (fun q _ h => h) (fun q h => h) (fun  G237 t H locs ht hvm hw hB hz1 hk1 hS => ?_)
            have hG : mm D vwCl A G237 H := by rw [← ht]; exact hB
            clear hB hz1 hk1 hvm ht
            have k238 : G237 ed = some (.inr (3, [.ref (LA 0), .ref (LA 1), .ref (LA 2), .ref (LA 3), .ref (LA 4), .ref (LA 5), .ref na, .int nc, va_rf iu, .int ((ex1 true ((v.P c9 j9).2.2.2.1) (ex1 true ((v.P c9 j9).1) ww)).1), va_rf ((ex1 true ((v.P c9 j9).2.2.2.1) (ex1 true ((v.P c9 j9).1) ww)).2.map (AD 1))])) := by rw [hw]; exact mm_set_self
            have hP239 : EDP cy e0 tk G0 Bx G237 v (zz.s_pc c9 j9 ((cdN v ((v.P c9 j9).2.2.1)).map (AD 0))) LA EA AD PI := hP173.mve hBe k175 k238 (fun x e h1 n1 => by rw [hw]; exact mm_set_of h1 n1)
            have k240 : G237 (AD 2 c9) = some (.inr (11, [.int (nI (c9 + 1)), .ref (AD 1 (v.S c9).1), .int ((v.S c9).2.1), .long ((v.S c9).2.2.1), .ref (LA (20 + c9)), .int ((v.S c9).2.2.2)])) := by rw [hw]; exact mm_set_of k176 (mm_ne_oo k176 k175 (by decide))
            have k241 : G237 (AD (20 + c9) j9) = some (.inr (9, [.int (nI (j9 + 1)), .int ((v.P c9 j9).1), .long ((v.P c9 j9).2.1), .long ((v.P c9 j9).2.2.1), .int ((v.P c9 j9).2.2.2.1), va_rf ((cdN v ((v.P c9 j9).2.2.1)).map (AD 0)), .int ((v.P c9 j9).2.2.2.2.1), .long ((v.P c9 j9).2.2.2.2.2.1), .int ((v.P c9 j9).2.2.2.2.2.2.1), va_rf (zz.pe c9 j9), .int ((v.P c9 j9).2.2.2.2.2.2.2), .int ((zz.pd c9 j9).1), .int ((zz.pd c9 j9).2.1), .long ((zz.pd c9 j9).2.2.1), .long ((zz.pd c9 j9).2.2.2)])) := by rw [hw]; exact mm_set_of k177 (mm_ne_oo k177 k175 (by decide))
            have hfr242 : ∀ (x : Nat) (e : va_E), G x = some e → x ≠ ed → (∀ k i, lvV v k → i < lnV v k → x ≠ AD k i) → G237 x = some e := fun x e z9 n1 n2 => by
              have z0 := hfr178 x e z9 n1 n2
              rw [hw]; exact mm_set_of z0 n1
            clear hw
            refine lv_aload_n hx hb dX2_findParameters_82 rfl (lv_at hl 0 rfl) ?_
            refine mm_getN (v := .int ((v.P c9 j9).2.2.2.2.1)) hx hb hf_X8 (fun _ h9 => h9) hown hK hG k241 rfl 6 (by decide) (tb_use hT tw_790) (fun _ h9 => h9) rfl dX2_findParameters_83 ?_
            refine lv_if_eq (tgt := 146) hx hb dX2_findParameters_86 (by decide) (fun c_86 => ?_) (fun c_86 => ?_)
            · skip
              obtain ⟨x243, ex243⟩ : ∃ y : Int32, y = (nI j9) + 1 := ⟨_, rfl⟩
              refine lv_iinc (v := x243) (lv' := [(2, .int x243), (3, .ref (AD (20 + c9) j9)), (0, .ref ed), (1, .ref (AD 2 c9))]) hx hb dX2_findParameters_146 hl (k := 3) rfl (by rw [ex243]; rfl) (by decide) rfl (fun ls hl => ?_)
              refine lv_goto (tgt := 2) hx hb dX2_findParameters_149 (by decide) ?_
              rw [show x243 = nI (j9 + 1) by rw [ex243]; exact (nI_succ j9).symm] at hl
              have hs9 : pS v c9 j9 ww = (ex1 true ((v.P c9 j9).2.2.2.1) (ex1 true ((v.P c9 j9).1) ww)) := by rw [pS, if_pos c_86, hB_35, hf179]; rfl
              have hpe9 : peI v c9 j9 = none := by rw [peI, if_pos c_86]
              have hz3 : ∀ p, p < j9 + 1 → (zz.s_pc c9 j9 ((cdN v ((v.P c9 j9).2.2.1)).map (AD 0))).pc c9 p = (cdN v (v.P c9 p).2.2.1).map (AD 0) ∧ (zz.s_pc c9 j9 ((cdN v ((v.P c9 j9).2.2.1)).map (AD 0))).pe c9 p = (peI v c9 p).map (AD (20 + c9)) := by
                intro p hp
                by_cases e9 : p = j9
                · rw [e9, hpe9]; refine ⟨?_, hz2 j9 (Nat.le_refl _)⟩; show up1 zz.pc c9 _ c9 j9 = _; rw [up1_eq, up1_eq]
                · rw [← (hz1 p (by omega)).1, ← (hz1 p (by omega)).2]; refine ⟨?_, rfl⟩; show up1 zz.pc c9 _ c9 p = _; rw [up1_eq, up1_ne e9]; try rfl
              have hz4 : ∀ p, j9 + 1 ≤ p → (zz.s_pc c9 j9 ((cdN v ((v.P c9 j9).2.2.1)).map (AD 0))).pe c9 p = none := fun p hp => by exact hz2 p (by omega)
              have hz6 : ∀ c, c ≠ c9 → (zz.s_pc c9 j9 ((cdN v ((v.P c9 j9).2.2.1)).map (AD 0))).pc c = z.pc c ∧ (zz.s_pc c9 j9 ((cdN v ((v.P c9 j9).2.2.1)).map (AD 0))).pe c = z.pe c := fun c hc => by rw [← (hz5 c hc).1, ← (hz5 c hc).2]; exact ⟨up1_ne hc, rfl⟩
              have hq2 : mP v c9 n (j9 + 1) (ex1 true ((v.P c9 j9).2.2.2.1) (ex1 true ((v.P c9 j9).1) ww)) = mP v c9 (v.nP c9) 0 w9 := by rw [← hs9]; exact hq
              exact ih (j9 + 1) (zz.s_pc c9 j9 ((cdN v ((v.P c9 j9).2.2.1)).map (AD 0))) (ex1 true ((v.P c9 j9).2.2.2.1) (ex1 true ((v.P c9 j9).1) ww)) (by omega) hz3 hz4 hz6 hz7 hq2 G237 k238 hP239 hfr242 _ _ hG hS ls (lv_sub hl [2, 3, 0] rfl)
            · skip
              refine lv_aload_n hx hb dX2_findParameters_89 rfl (lv_at hl 2 rfl) ?_
              refine lv_aload_n hx hb dX2_findParameters_90 rfl (lv_at hl 0 rfl) ?_
              refine mm_getN (v := .long ((v.P c9 j9).2.2.2.2.2.1)) hx hb hf_X8 (fun _ h9 => h9) hown hK hG k241 rfl 7 (by decide) (tb_use hT tw_793) (fun _ h9 => h9) rfl dX2_findParameters_91 ?_
              refine va_callq (va_runV (As := [.long ((v.P c9 j9).2.2.2.2.2.1)]) (rest := []) ⟨hx, hb, hml, hown, (fun _ h9 => absurd h9 List.not_mem_nil : ∀ w ∈ ([] : List Cond), w.before _ s = true)⟩ (c_X10_named l D cy A X hst hXT e0 tk hXE mi hXL G237 (AD 2 c9) (AD 1 (v.S c9).1) (LA (20 + c9)) (nI (c9 + 1)) ((v.S c9).2.1) ((v.S c9).2.2.2) ((v.S c9).2.2.1) (EA (20 + c9)) (v.nP c9) (AD (20 + c9)) (fun j => prF j (v.P c9 j) ((zz.s_pc c9 j9 ((cdN v ((v.P c9 j9).2.2.1)).map (AD 0))).pc c9 j) ((zz.s_pc c9 j9 ((cdN v ((v.P c9 j9).2.2.1)).map (AD 0))).pe c9 j) ((zz.s_pc c9 j9 ((cdN v ((v.P c9 j9).2.2.1)).map (AD 0))).pd c9 j)) (fun j => (v.P c9 j).2.1) ((v.P c9 j9).2.2.2.2.2.1) k240 (hP239.lsP hc9) (by have := (hP239.lsP hc9).le; omega) (hP239.nmP hc9)) (tb_cw (C := RX10) 1 hT tw_1047 tw_128 tw_1044 tw_1045 tw_1046 rfl rfl hq_X10_named ⟨Nat.le_of_ble_eq_true rfl, Nat.le_of_ble_eq_true rfl⟩) (mk_preC hst hG hK hA hX hS vc_11 k240) rfl rfl hl.1 rfl (lv_room (Nat.le_of_ble_eq_true rfl)) dX2_findParameters_94 ⟨Nat.le_of_ble_eq_true rfl, Nat.le_of_ble_eq_true rfl⟩) hS (fun q _ h => h) (fun q h => h) (fun r244 G245 t H locs ht hvm hw hB hz1 hk1 hS => ?_)
              have hG : mm D vwCl A G245 H := by rw [← ht]; exact hB
              clear hB hz1 hk1 hvm ht
              obtain ⟨er244, hw⟩ := hw
              rw [hw] at hG
              have fr244 : r244 = (paN v c9 ((v.P c9 j9).2.2.2.2.2.1)).map (AD (20 + c9)) := er244
              rw [fr244]
              obtain ⟨y_hf246, hf246⟩ : ∃ y, paN v c9 ((v.P c9 j9).2.2.2.2.2.1) = y := ⟨_, rfl⟩
              cases y_hf246 with
              | none =>
                refine W.eq (g2 := F0 m 97 ls [.null]) (by first | rfl | (rw [hf246]; rfl)) ?_
                refine lv_astoreN (lv' := [(4, .null), (3, .ref (AD (20 + c9) j9)), (0, .ref ed), (1, .ref (AD 2 c9)), (2, .int (nI j9))]) hx hb dX2_findParameters_97 hl (by decide) rfl (fun ls hl => ?_)
                refine lv_aload_n hx hb dX2_findParameters_99 rfl (lv_at hl 1 rfl) ?_
                refine lv_aloadN hx hb dX2_findParameters_100 (lv_at hl 0 rfl) ?_
                refine lv_ifnullN (tgt := 122) hx hb dX2_findParameters_102 (by decide) ?_
                refine lv_null hx hb dX2_findParameters_122 ?_
                refine mm_putN (v := .null) (ty := .object "DescribeText$Parameter") hx hb hf_X8 (fun _ h9 => h9) tyX8 tyX8_ok nmX8 hown hK hG hS k241 rfl 9 (by decide) (tb_use hT tw_799) (fun _ h9 => h9) rfl (by decide +kernel) rfl rfl (Nat.le_of_ble_eq_true rfl) dX2_findParameters_123 (fun H locs hG hS => ?_)
                obtain ⟨G248, eG248⟩ : ∃ g, g = mm_set G237 (AD (20 + c9) j9) (.inr (9, [.int (nI (j9 + 1)), .int ((v.P c9 j9).1), .long ((v.P c9 j9).2.1), .long ((v.P c9 j9).2.2.1), .int ((v.P c9 j9).2.2.2.1), va_rf ((cdN v ((v.P c9 j9).2.2.1)).map (AD 0)), .int ((v.P c9 j9).2.2.2.2.1), .long ((v.P c9 j9).2.2.2.2.2.1), .int ((v.P c9 j9).2.2.2.2.2.2.1), .null, .int ((v.P c9 j9).2.2.2.2.2.2.2), .int ((zz.pd c9 j9).1), .int ((zz.pd c9 j9).2.1), .long ((zz.pd c9 j9).2.2.1), .long ((zz.pd c9 j9).2.2.2)])) := ⟨_, rfl⟩
                have hG : mm D vwCl A G248 H := by rw [eG248]; exact hG
                have hP249 : EDP cy e0 tk G0 Bx G248 v ((zz.s_pc c9 j9 ((cdN v ((v.P c9 j9).2.2.1)).map (AD 0))).s_pe c9 j9 none) LA EA AD PI := by rw [eG248]; first | exact hP239.put_pe hc9 hj29 | (have z9 := hP239.put_pe hc9 hj29 (x := none); rw [hz174] at z9; exact z9)
                have hz250 : ((zz.s_pc c9 j9 ((cdN v ((v.P c9 j9).2.2.1)).map (AD 0))).s_pe c9 j9 none).pe c9 j9 = none := by show up1 (zz.s_pc c9 j9 ((cdN v ((v.P c9 j9).2.2.1)).map (AD 0))).pe c9 (up1 ((zz.s_pc c9 j9 ((cdN v ((v.P c9 j9).2.2.1)).map (AD 0))).pe c9) j9 none) c9 j9 = _; rw [up1_eq, up1_eq]
                have k251 : G248 ed = some (.inr (3, [.ref (LA 0), .ref (LA 1), .ref (LA 2), .ref (LA 3), .ref (LA 4), .ref (LA 5), .ref na, .int nc, va_rf iu, .int ((ex1 true ((v.P c9 j9).2.2.2.1) (ex1 true ((v.P c9 j9).1) ww)).1), va_rf ((ex1 true ((v.P c9 j9).2.2.2.1) (ex1 true ((v.P c9 j9).1) ww)).2.map (AD 1))])) := by rw [eG248]; exact mm_set_of k238 (mm_ne_oo k238 k241 (by decide))
                have k252 : G248 (AD 2 c9) = some (.inr (11, [.int (nI (c9 + 1)), .ref (AD 1 (v.S c9).1), .int ((v.S c9).2.1), .long ((v.S c9).2.2.1), .ref (LA (20 + c9)), .int ((v.S c9).2.2.2)])) := by rw [eG248]; exact mm_set_of k240 (mm_ne_oo k240 k241 (by decide))
                have k253 : G248 (AD (20 + c9) j9) = some (.inr (9, [.int (nI (j9 + 1)), .int ((v.P c9 j9).1), .long ((v.P c9 j9).2.1), .long ((v.P c9 j9).2.2.1), .int ((v.P c9 j9).2.2.2.1), va_rf ((cdN v ((v.P c9 j9).2.2.1)).map (AD 0)), .int ((v.P c9 j9).2.2.2.2.1), .long ((v.P c9 j9).2.2.2.2.2.1), .int ((v.P c9 j9).2.2.2.2.2.2.1), .null, .int ((v.P c9 j9).2.2.2.2.2.2.2), .int ((zz.pd c9 j9).1), .int ((zz.pd c9 j9).2.1), .long ((zz.pd c9 j9).2.2.1), .long ((zz.pd c9 j9).2.2.2)])) := by rw [eG248]; exact mm_set_self
                have hfr254 : ∀ (x : Nat) (e : va_E), G x = some e → x ≠ ed → (∀ k i, lvV v k → i < lnV v k → x ≠ AD k i) → G248 x = some e := fun x e z9 n1 n2 => by
                  have z0 := hfr242 x e z9 n1 n2
                  rw [eG248]; exact mm_set_of z0 (n2 (20 + c9) j9 (lv_P hc9) (by rw [ln_P (by have := hP239.b; omega)]; exact hj29))
                refine lv_aload_n hx hb dX2_findParameters_126 rfl (lv_at hl 2 rfl) ?_
                refine lv_aload_n hx hb dX2_findParameters_127 rfl (lv_at hl 1 rfl) ?_
                refine mm_getN (v := .null) hx hb hf_X8 (fun _ h9 => h9) hown hK hG k253 rfl 9 (by decide) (tb_use hT tw_799) (fun _ h9 => h9) rfl dX2_findParameters_128 ?_
                refine lv_ifnullN (tgt := 138) hx hb dX2_findParameters_131 (by decide) ?_
                refine lv_iconst (v := 0) hx hb dX2_findParameters_138 (by decide) ?_
                refine lv_aload_n hx hb dX2_findParameters_139 rfl (lv_at hl 1 rfl) ?_
                refine mm_getN (v := .int ((v.P c9 j9).2.2.2.2.2.2.1)) hx hb hf_X8 (fun _ h9 => h9) hown hK hG k253 rfl 8 (by decide) (tb_use hT tw_795) (fun _ h9 => h9) rfl dX2_findParameters_140 ?_
                refine va_callv (va_runV (As := [.int 0, .int ((v.P c9 j9).2.2.2.2.2.2.1)]) (rest := []) ⟨hx, hb, hml, hown, (fun _ h9 => absurd h9 List.not_mem_nil : ∀ w ∈ ([] : List Cond), w.before _ s = true)⟩ (c_ED_expect l D cy A X hst hXT e0 tk hXE G248 LA AD ed na nc iu (ex1 true ((v.P c9 j9).2.2.2.1) (ex1 true ((v.P c9 j9).1) ww)) false ((v.P c9 j9).2.2.2.2.2.2.1) k251) (tb_cw (C := RX2) 2 hT tw_1009 tw_110 tw_1006 tw_1008 tw_34 rfl rfl hq_X2_expect ⟨Nat.le_of_ble_eq_true rfl, Nat.le_of_ble_eq_true rfl⟩) (mk_preC hst hG hK hA hX hS vc_3 k251) rfl rfl hl.1 rfl (lv_room (Nat.le_of_ble_eq_true rfl)) dX2_findParameters_143 ⟨Nat.le_of_ble_eq_true rfl, Nat.le_of_ble_eq_true rfl⟩) hS (fun q _ h => h) (fun q h => h) (fun  G255 t H locs ht hvm hw hB hz1 hk1 hS => ?_)
                have hG : mm D vwCl A G255 H := by rw [← ht]; exact hB
                clear hB hz1 hk1 hvm ht
                have k256 : G255 ed = some (.inr (3, [.ref (LA 0), .ref (LA 1), .ref (LA 2), .ref (LA 3), .ref (LA 4), .ref (LA 5), .ref na, .int nc, va_rf iu, .int ((ex1 false ((v.P c9 j9).2.2.2.2.2.2.1) (ex1 true ((v.P c9 j9).2.2.2.1) (ex1 true ((v.P c9 j9).1) ww))).1), va_rf ((ex1 false ((v.P c9 j9).2.2.2.2.2.2.1) (ex1 true ((v.P c9 j9).2.2.2.1) (ex1 true ((v.P c9 j9).1) ww))).2.map (AD 1))])) := by rw [hw]; exact mm_set_self
                have hP257 : EDP cy e0 tk G0 Bx G255 v ((zz.s_pc c9 j9 ((cdN v ((v.P c9 j9).2.2.1)).map (AD 0))).s_pe c9 j9 none) LA EA AD PI := hP249.mve hBe k251 k256 (fun x e h1 n1 => by rw [hw]; exact mm_set_of h1 n1)
                have k258 : G255 (AD 2 c9) = some (.inr (11, [.int (nI (c9 + 1)), .ref (AD 1 (v.S c9).1), .int ((v.S c9).2.1), .long ((v.S c9).2.2.1), .ref (LA (20 + c9)), .int ((v.S c9).2.2.2)])) := by rw [hw]; exact mm_set_of k252 (mm_ne_oo k252 k251 (by decide))
                have k259 : G255 (AD (20 + c9) j9) = some (.inr (9, [.int (nI (j9 + 1)), .int ((v.P c9 j9).1), .long ((v.P c9 j9).2.1), .long ((v.P c9 j9).2.2.1), .int ((v.P c9 j9).2.2.2.1), va_rf ((cdN v ((v.P c9 j9).2.2.1)).map (AD 0)), .int ((v.P c9 j9).2.2.2.2.1), .long ((v.P c9 j9).2.2.2.2.2.1), .int ((v.P c9 j9).2.2.2.2.2.2.1), .null, .int ((v.P c9 j9).2.2.2.2.2.2.2), .int ((zz.pd c9 j9).1), .int ((zz.pd c9 j9).2.1), .long ((zz.pd c9 j9).2.2.1), .long ((zz.pd c9 j9).2.2.2)])) := by rw [hw]; exact mm_set_of k253 (mm_ne_oo k253 k251 (by decide))
                have hfr260 : ∀ (x : Nat) (e : va_E), G x = some e → x ≠ ed → (∀ k i, lvV v k → i < lnV v k → x ≠ AD k i) → G255 x = some e := fun x e z9 n1 n2 => by
                  have z0 := hfr254 x e z9 n1 n2
                  rw [hw]; exact mm_set_of z0 n1
                clear hw
                obtain ⟨x261, ex261⟩ : ∃ y : Int32, y = (nI j9) + 1 := ⟨_, rfl⟩
                refine lv_iinc (v := x261) (lv' := [(2, .int x261), (4, .null), (3, .ref (AD (20 + c9) j9)), (0, .ref ed), (1, .ref (AD 2 c9))]) hx hb dX2_findParameters_146 hl (k := 4) rfl (by rw [ex261]; rfl) (by decide) rfl (fun ls hl => ?_)
                refine lv_goto (tgt := 2) hx hb dX2_findParameters_149 (by decide) ?_
                rw [show x261 = nI (j9 + 1) by rw [ex261]; exact (nI_succ j9).symm] at hl
                have heB : eB v c9 j9 = false := by rw [eB, hf246]
                have hpe9 : peI v c9 j9 = none := by rw [peI, if_neg c_86, hf246]
                have hs9 : pS v c9 j9 ww = (ex1 false ((v.P c9 j9).2.2.2.2.2.2.1) (ex1 true ((v.P c9 j9).2.2.2.1) (ex1 true ((v.P c9 j9).1) ww))) := by rw [pS, if_neg c_86, hB_35, hf179, heB]; rfl
                have hz3 : ∀ p, p < j9 + 1 → ((zz.s_pc c9 j9 ((cdN v ((v.P c9 j9).2.2.1)).map (AD 0))).s_pe c9 j9 none).pc c9 p = (cdN v (v.P c9 p).2.2.1).map (AD 0) ∧ ((zz.s_pc c9 j9 ((cdN v ((v.P c9 j9).2.2.1)).map (AD 0))).s_pe c9 j9 none).pe c9 p = (peI v c9 p).map (AD (20 + c9)) := by
                  intro p hp
                  by_cases e9 : p = j9
                  · rw [e9, hpe9]; refine ⟨?_, ?_⟩; show up1 zz.pc c9 _ c9 j9 = _; rw [up1_eq, up1_eq]; show up1 zz.pe c9 _ c9 j9 = _; rw [up1_eq, up1_eq]; rfl
                  · rw [← (hz1 p (by omega)).1, ← (hz1 p (by omega)).2]; refine ⟨?_, ?_⟩; show up1 zz.pc c9 _ c9 p = _; rw [up1_eq, up1_ne e9]; show up1 zz.pe c9 _ c9 p = _; rw [up1_eq, up1_ne e9]; try rfl
                have hz4 : ∀ p, j9 + 1 ≤ p → ((zz.s_pc c9 j9 ((cdN v ((v.P c9 j9).2.2.1)).map (AD 0))).s_pe c9 j9 none).pe c9 p = none := fun p hp => by rw [← hz2 p (by omega)]; show up1 zz.pe c9 _ c9 p = _; rw [up1_eq, up1_ne (by omega)]; try rfl
                have hz6 : ∀ c, c ≠ c9 → ((zz.s_pc c9 j9 ((cdN v ((v.P c9 j9).2.2.1)).map (AD 0))).s_pe c9 j9 none).pc c = z.pc c ∧ ((zz.s_pc c9 j9 ((cdN v ((v.P c9 j9).2.2.1)).map (AD 0))).s_pe c9 j9 none).pe c = z.pe c := fun c hc => by rw [← (hz5 c hc).1, ← (hz5 c hc).2]; exact ⟨up1_ne hc, up1_ne hc⟩
                have hq2 : mP v c9 n (j9 + 1) (ex1 false ((v.P c9 j9).2.2.2.2.2.2.1) (ex1 true ((v.P c9 j9).2.2.2.1) (ex1 true ((v.P c9 j9).1) ww))) = mP v c9 (v.nP c9) 0 w9 := by rw [← hs9]; exact hq
                exact ih (j9 + 1) ((zz.s_pc c9 j9 ((cdN v ((v.P c9 j9).2.2.1)).map (AD 0))).s_pe c9 j9 none) (ex1 false ((v.P c9 j9).2.2.2.2.2.2.1) (ex1 true ((v.P c9 j9).2.2.2.1) (ex1 true ((v.P c9 j9).1) ww))) (by omega) hz3 hz4 hz6 hz7 hq2 G255 k256 hP257 hfr260 _ _ hG hS ls (lv_sub hl [3, 4, 0] rfl)
              | some j247 =>
                have hj262 := paN_lt hf246
                refine W.eq (g2 := F0 m 97 ls [.ref (AD (20 + c9) j247)]) (by first | rfl | (rw [hf246]; rfl)) ?_
                refine lv_astore (lv' := [(4, .ref (AD (20 + c9) j247)), (3, .ref (AD (20 + c9) j9)), (0, .ref ed), (1, .ref (AD 2 c9)), (2, .int (nI j9))]) hx hb dX2_findParameters_97 hl (by decide) rfl (fun ls hl => ?_)
                refine lv_aload_n hx hb dX2_findParameters_99 rfl (lv_at hl 1 rfl) ?_
                refine lv_aload hx hb dX2_findParameters_100 (lv_at hl 0 rfl) ?_
                refine lv_ifnull hx hb dX2_findParameters_102 ?_
                refine lv_aload hx hb dX2_findParameters_105 (lv_at hl 0 rfl) ?_
                have k263 : G237 (AD (20 + c9) j247) = some (.inr (9, [.int (nI (j247 + 1)), .int ((v.P c9 j247).1), .long ((v.P c9 j247).2.1), .long ((v.P c9 j247).2.2.1), .int ((v.P c9 j247).2.2.2.1), va_rf ((zz.s_pc c9 j9 ((cdN v ((v.P c9 j9).2.2.1)).map (AD 0))).pc c9 j247), .int ((v.P c9 j247).2.2.2.2.1), .long ((v.P c9 j247).2.2.2.2.2.1), .int ((v.P c9 j247).2.2.2.2.2.2.1), va_rf ((zz.s_pc c9 j9 ((cdN v ((v.P c9 j9).2.2.1)).map (AD 0))).pe c9 j247), .int ((v.P c9 j247).2.2.2.2.2.2.2), .int (((zz.s_pc c9 j9 ((cdN v ((v.P c9 j9).2.2.1)).map (AD 0))).pd c9 j247).1), .int (((zz.s_pc c9 j9 ((cdN v ((v.P c9 j9).2.2.1)).map (AD 0))).pd c9 j247).2.1), .long (((zz.s_pc c9 j9 ((cdN v ((v.P c9 j9).2.2.1)).map (AD 0))).pd c9 j247).2.2.1), .long (((zz.s_pc c9 j9 ((cdN v ((v.P c9 j9).2.2.1)).map (AD 0))).pd c9 j247).2.2.2)])) := hP239.elP hc9 hj262
                refine mm_getN (v := .int (nI (j247 + 1))) hx hb hf_X8 (fun _ h9 => h9) hown hK hG k263 rfl 0 (by decide) (tb_use hT tw_772) (fun _ h9 => h9) rfl dX2_findParameters_107 ?_
                refine lv_aload_n hx hb dX2_findParameters_110 rfl (lv_at hl 1 rfl) ?_
                refine mm_getN (v := .int (nI (j9 + 1))) hx hb hf_X8 (fun _ h9 => h9) hown hK hG k241 rfl 0 (by decide) (tb_use hT tw_772) (fun _ h9 => h9) rfl dX2_findParameters_111 ?_
                refine lv_icmp_ge (tgt := 122) hx hb dX2_findParameters_114 (by decide) (fun c_114 => ?_) (fun c_114 => ?_)
                · skip
                  refine lv_null hx hb dX2_findParameters_122 ?_
                  refine mm_putN (v := .null) (ty := .object "DescribeText$Parameter") hx hb hf_X8 (fun _ h9 => h9) tyX8 tyX8_ok nmX8 hown hK hG hS k241 rfl 9 (by decide) (tb_use hT tw_799) (fun _ h9 => h9) rfl (by decide +kernel) rfl rfl (Nat.le_of_ble_eq_true rfl) dX2_findParameters_123 (fun H locs hG hS => ?_)
                  obtain ⟨G264, eG264⟩ : ∃ g, g = mm_set G237 (AD (20 + c9) j9) (.inr (9, [.int (nI (j9 + 1)), .int ((v.P c9 j9).1), .long ((v.P c9 j9).2.1), .long ((v.P c9 j9).2.2.1), .int ((v.P c9 j9).2.2.2.1), va_rf ((cdN v ((v.P c9 j9).2.2.1)).map (AD 0)), .int ((v.P c9 j9).2.2.2.2.1), .long ((v.P c9 j9).2.2.2.2.2.1), .int ((v.P c9 j9).2.2.2.2.2.2.1), .null, .int ((v.P c9 j9).2.2.2.2.2.2.2), .int ((zz.pd c9 j9).1), .int ((zz.pd c9 j9).2.1), .long ((zz.pd c9 j9).2.2.1), .long ((zz.pd c9 j9).2.2.2)])) := ⟨_, rfl⟩
                  have hG : mm D vwCl A G264 H := by rw [eG264]; exact hG
                  have hP265 : EDP cy e0 tk G0 Bx G264 v ((zz.s_pc c9 j9 ((cdN v ((v.P c9 j9).2.2.1)).map (AD 0))).s_pe c9 j9 none) LA EA AD PI := by rw [eG264]; first | exact hP239.put_pe hc9 hj29 | (have z9 := hP239.put_pe hc9 hj29 (x := none); rw [hz174] at z9; exact z9)
                  have hz266 : ((zz.s_pc c9 j9 ((cdN v ((v.P c9 j9).2.2.1)).map (AD 0))).s_pe c9 j9 none).pe c9 j9 = none := by show up1 (zz.s_pc c9 j9 ((cdN v ((v.P c9 j9).2.2.1)).map (AD 0))).pe c9 (up1 ((zz.s_pc c9 j9 ((cdN v ((v.P c9 j9).2.2.1)).map (AD 0))).pe c9) j9 none) c9 j9 = _; rw [up1_eq, up1_eq]
                  have k267 : G264 ed = some (.inr (3, [.ref (LA 0), .ref (LA 1), .ref (LA 2), .ref (LA 3), .ref (LA 4), .ref (LA 5), .ref na, .int nc, va_rf iu, .int ((ex1 true ((v.P c9 j9).2.2.2.1) (ex1 true ((v.P c9 j9).1) ww)).1), va_rf ((ex1 true ((v.P c9 j9).2.2.2.1) (ex1 true ((v.P c9 j9).1) ww)).2.map (AD 1))])) := by rw [eG264]; exact mm_set_of k238 (mm_ne_oo k238 k241 (by decide))
                  have k268 : G264 (AD 2 c9) = some (.inr (11, [.int (nI (c9 + 1)), .ref (AD 1 (v.S c9).1), .int ((v.S c9).2.1), .long ((v.S c9).2.2.1), .ref (LA (20 + c9)), .int ((v.S c9).2.2.2)])) := by rw [eG264]; exact mm_set_of k240 (mm_ne_oo k240 k241 (by decide))
                  have k269 : G264 (AD (20 + c9) j9) = some (.inr (9, [.int (nI (j9 + 1)), .int ((v.P c9 j9).1), .long ((v.P c9 j9).2.1), .long ((v.P c9 j9).2.2.1), .int ((v.P c9 j9).2.2.2.1), va_rf ((cdN v ((v.P c9 j9).2.2.1)).map (AD 0)), .int ((v.P c9 j9).2.2.2.2.1), .long ((v.P c9 j9).2.2.2.2.2.1), .int ((v.P c9 j9).2.2.2.2.2.2.1), .null, .int ((v.P c9 j9).2.2.2.2.2.2.2), .int ((zz.pd c9 j9).1), .int ((zz.pd c9 j9).2.1), .long ((zz.pd c9 j9).2.2.1), .long ((zz.pd c9 j9).2.2.2)])) := by rw [eG264]; exact mm_set_self
                  have hfr270 : ∀ (x : Nat) (e : va_E), G x = some e → x ≠ ed → (∀ k i, lvV v k → i < lnV v k → x ≠ AD k i) → G264 x = some e := fun x e z9 n1 n2 => by
                    have z0 := hfr242 x e z9 n1 n2
                    rw [eG264]; exact mm_set_of z0 (n2 (20 + c9) j9 (lv_P hc9) (by rw [ln_P (by have := hP239.b; omega)]; exact hj29))
                  refine lv_aload_n hx hb dX2_findParameters_126 rfl (lv_at hl 2 rfl) ?_
                  refine lv_aload_n hx hb dX2_findParameters_127 rfl (lv_at hl 1 rfl) ?_
                  refine mm_getN (v := .null) hx hb hf_X8 (fun _ h9 => h9) hown hK hG k269 rfl 9 (by decide) (tb_use hT tw_799) (fun _ h9 => h9) rfl dX2_findParameters_128 ?_
                  refine lv_ifnullN (tgt := 138) hx hb dX2_findParameters_131 (by decide) ?_
                  refine lv_iconst (v := 0) hx hb dX2_findParameters_138 (by decide) ?_
                  refine lv_aload_n hx hb dX2_findParameters_139 rfl (lv_at hl 1 rfl) ?_
                  refine mm_getN (v := .int ((v.P c9 j9).2.2.2.2.2.2.1)) hx hb hf_X8 (fun _ h9 => h9) hown hK hG k269 rfl 8 (by decide) (tb_use hT tw_795) (fun _ h9 => h9) rfl dX2_findParameters_140 ?_
                  refine va_callv (va_runV (As := [.int 0, .int ((v.P c9 j9).2.2.2.2.2.2.1)]) (rest := []) ⟨hx, hb, hml, hown, (fun _ h9 => absurd h9 List.not_mem_nil : ∀ w ∈ ([] : List Cond), w.before _ s = true)⟩ (c_ED_expect l D cy A X hst hXT e0 tk hXE G264 LA AD ed na nc iu (ex1 true ((v.P c9 j9).2.2.2.1) (ex1 true ((v.P c9 j9).1) ww)) false ((v.P c9 j9).2.2.2.2.2.2.1) k267) (tb_cw (C := RX2) 2 hT tw_1009 tw_110 tw_1006 tw_1008 tw_34 rfl rfl hq_X2_expect ⟨Nat.le_of_ble_eq_true rfl, Nat.le_of_ble_eq_true rfl⟩) (mk_preC hst hG hK hA hX hS vc_3 k267) rfl rfl hl.1 rfl (lv_room (Nat.le_of_ble_eq_true rfl)) dX2_findParameters_143 ⟨Nat.le_of_ble_eq_true rfl, Nat.le_of_ble_eq_true rfl⟩) hS (fun q _ h => h) (fun q h => h) (fun  G271 t H locs ht hvm hw hB hz1 hk1 hS => ?_)
                  have hG : mm D vwCl A G271 H := by rw [← ht]; exact hB
                  clear hB hz1 hk1 hvm ht
                  have k272 : G271 ed = some (.inr (3, [.ref (LA 0), .ref (LA 1), .ref (LA 2), .ref (LA 3), .ref (LA 4), .ref (LA 5), .ref na, .int nc, va_rf iu, .int ((ex1 false ((v.P c9 j9).2.2.2.2.2.2.1) (ex1 true ((v.P c9 j9).2.2.2.1) (ex1 true ((v.P c9 j9).1) ww))).1), va_rf ((ex1 false ((v.P c9 j9).2.2.2.2.2.2.1) (ex1 true ((v.P c9 j9).2.2.2.1) (ex1 true ((v.P c9 j9).1) ww))).2.map (AD 1))])) := by rw [hw]; exact mm_set_self
                  have hP273 : EDP cy e0 tk G0 Bx G271 v ((zz.s_pc c9 j9 ((cdN v ((v.P c9 j9).2.2.1)).map (AD 0))).s_pe c9 j9 none) LA EA AD PI := hP265.mve hBe k267 k272 (fun x e h1 n1 => by rw [hw]; exact mm_set_of h1 n1)
                  have k274 : G271 (AD 2 c9) = some (.inr (11, [.int (nI (c9 + 1)), .ref (AD 1 (v.S c9).1), .int ((v.S c9).2.1), .long ((v.S c9).2.2.1), .ref (LA (20 + c9)), .int ((v.S c9).2.2.2)])) := by rw [hw]; exact mm_set_of k268 (mm_ne_oo k268 k267 (by decide))
                  have k275 : G271 (AD (20 + c9) j9) = some (.inr (9, [.int (nI (j9 + 1)), .int ((v.P c9 j9).1), .long ((v.P c9 j9).2.1), .long ((v.P c9 j9).2.2.1), .int ((v.P c9 j9).2.2.2.1), va_rf ((cdN v ((v.P c9 j9).2.2.1)).map (AD 0)), .int ((v.P c9 j9).2.2.2.2.1), .long ((v.P c9 j9).2.2.2.2.2.1), .int ((v.P c9 j9).2.2.2.2.2.2.1), .null, .int ((v.P c9 j9).2.2.2.2.2.2.2), .int ((zz.pd c9 j9).1), .int ((zz.pd c9 j9).2.1), .long ((zz.pd c9 j9).2.2.1), .long ((zz.pd c9 j9).2.2.2)])) := by rw [hw]; exact mm_set_of k269 (mm_ne_oo k269 k267 (by decide))
                  have hfr276 : ∀ (x : Nat) (e : va_E), G x = some e → x ≠ ed → (∀ k i, lvV v k → i < lnV v k → x ≠ AD k i) → G271 x = some e := fun x e z9 n1 n2 => by
                    have z0 := hfr270 x e z9 n1 n2
                    rw [hw]; exact mm_set_of z0 n1
                  clear hw
                  obtain ⟨x277, ex277⟩ : ∃ y : Int32, y = (nI j9) + 1 := ⟨_, rfl⟩
                  refine lv_iinc (v := x277) (lv' := [(2, .int x277), (4, .ref (AD (20 + c9) j247)), (3, .ref (AD (20 + c9) j9)), (0, .ref ed), (1, .ref (AD 2 c9))]) hx hb dX2_findParameters_146 hl (k := 4) rfl (by rw [ex277]; rfl) (by decide) rfl (fun ls hl => ?_)
                  refine lv_goto (tgt := 2) hx hb dX2_findParameters_149 (by decide) ?_
                  rw [show x277 = nI (j9 + 1) by rw [ex277]; exact (nI_succ j9).symm] at hl
                  have hlt9 : ¬ j247 < j9 := fun z => absurd c_114 (nI_ge (by omega) (by omega))
                  have heB : eB v c9 j9 = false := by rw [eB, hf246]; exact decide_eq_false hlt9
                  have hpe9 : peI v c9 j9 = none := by rw [peI, if_neg c_86, hf246]; exact if_neg hlt9
                  have hs9 : pS v c9 j9 ww = (ex1 false ((v.P c9 j9).2.2.2.2.2.2.1) (ex1 true ((v.P c9 j9).2.2.2.1) (ex1 true ((v.P c9 j9).1) ww))) := by rw [pS, if_neg c_86, hB_35, hf179, heB]; rfl
                  have hz3 : ∀ p, p < j9 + 1 → ((zz.s_pc c9 j9 ((cdN v ((v.P c9 j9).2.2.1)).map (AD 0))).s_pe c9 j9 none).pc c9 p = (cdN v (v.P c9 p).2.2.1).map (AD 0) ∧ ((zz.s_pc c9 j9 ((cdN v ((v.P c9 j9).2.2.1)).map (AD 0))).s_pe c9 j9 none).pe c9 p = (peI v c9 p).map (AD (20 + c9)) := by
                    intro p hp
                    by_cases e9 : p = j9
                    · rw [e9, hpe9]; refine ⟨?_, ?_⟩; show up1 zz.pc c9 _ c9 j9 = _; rw [up1_eq, up1_eq]; show up1 zz.pe c9 _ c9 j9 = _; rw [up1_eq, up1_eq]; rfl
                    · rw [← (hz1 p (by omega)).1, ← (hz1 p (by omega)).2]; refine ⟨?_, ?_⟩; show up1 zz.pc c9 _ c9 p = _; rw [up1_eq, up1_ne e9]; show up1 zz.pe c9 _ c9 p = _; rw [up1_eq, up1_ne e9]; try rfl
                  have hz4 : ∀ p, j9 + 1 ≤ p → ((zz.s_pc c9 j9 ((cdN v ((v.P c9 j9).2.2.1)).map (AD 0))).s_pe c9 j9 none).pe c9 p = none := fun p hp => by rw [← hz2 p (by omega)]; show up1 zz.pe c9 _ c9 p = _; rw [up1_eq, up1_ne (by omega)]; try rfl
                  have hz6 : ∀ c, c ≠ c9 → ((zz.s_pc c9 j9 ((cdN v ((v.P c9 j9).2.2.1)).map (AD 0))).s_pe c9 j9 none).pc c = z.pc c ∧ ((zz.s_pc c9 j9 ((cdN v ((v.P c9 j9).2.2.1)).map (AD 0))).s_pe c9 j9 none).pe c = z.pe c := fun c hc => by rw [← (hz5 c hc).1, ← (hz5 c hc).2]; exact ⟨up1_ne hc, up1_ne hc⟩
                  have hq2 : mP v c9 n (j9 + 1) (ex1 false ((v.P c9 j9).2.2.2.2.2.2.1) (ex1 true ((v.P c9 j9).2.2.2.1) (ex1 true ((v.P c9 j9).1) ww))) = mP v c9 (v.nP c9) 0 w9 := by rw [← hs9]; exact hq
                  exact ih (j9 + 1) ((zz.s_pc c9 j9 ((cdN v ((v.P c9 j9).2.2.1)).map (AD 0))).s_pe c9 j9 none) (ex1 false ((v.P c9 j9).2.2.2.2.2.2.1) (ex1 true ((v.P c9 j9).2.2.2.1) (ex1 true ((v.P c9 j9).1) ww))) (by omega) hz3 hz4 hz6 hz7 hq2 G271 k272 hP273 hfr276 _ _ hG hS ls (lv_sub hl [3, 4, 0] rfl)
                · skip
                  refine lv_aload hx hb dX2_findParameters_117 (lv_at hl 0 rfl) ?_
                  refine lv_goto (tgt := 123) hx hb dX2_findParameters_119 (by decide) ?_
                  refine mm_putN (v := .ref (AD (20 + c9) j247)) (ty := .object "DescribeText$Parameter") hx hb hf_X8 (fun _ h9 => h9) tyX8 tyX8_ok nmX8 hown hK hG hS k241 rfl 9 (by decide) (tb_use hT tw_799) (fun _ h9 => h9) rfl (by decide +kernel) rfl rfl (Nat.le_of_ble_eq_true rfl) dX2_findParameters_123 (fun H locs hG hS => ?_)
                  obtain ⟨G278, eG278⟩ : ∃ g, g = mm_set G237 (AD (20 + c9) j9) (.inr (9, [.int (nI (j9 + 1)), .int ((v.P c9 j9).1), .long ((v.P c9 j9).2.1), .long ((v.P c9 j9).2.2.1), .int ((v.P c9 j9).2.2.2.1), va_rf ((cdN v ((v.P c9 j9).2.2.1)).map (AD 0)), .int ((v.P c9 j9).2.2.2.2.1), .long ((v.P c9 j9).2.2.2.2.2.1), .int ((v.P c9 j9).2.2.2.2.2.2.1), .ref (AD (20 + c9) j247), .int ((v.P c9 j9).2.2.2.2.2.2.2), .int ((zz.pd c9 j9).1), .int ((zz.pd c9 j9).2.1), .long ((zz.pd c9 j9).2.2.1), .long ((zz.pd c9 j9).2.2.2)])) := ⟨_, rfl⟩
                  have hG : mm D vwCl A G278 H := by rw [eG278]; exact hG
                  have hP279 : EDP cy e0 tk G0 Bx G278 v ((zz.s_pc c9 j9 ((cdN v ((v.P c9 j9).2.2.1)).map (AD 0))).s_pe c9 j9 (some (AD (20 + c9) j247))) LA EA AD PI := by rw [eG278]; first | exact hP239.put_pe hc9 hj29 | (have z9 := hP239.put_pe hc9 hj29 (x := (some (AD (20 + c9) j247))); rw [hz174] at z9; exact z9)
                  have hz280 : ((zz.s_pc c9 j9 ((cdN v ((v.P c9 j9).2.2.1)).map (AD 0))).s_pe c9 j9 (some (AD (20 + c9) j247))).pe c9 j9 = (some (AD (20 + c9) j247)) := by show up1 (zz.s_pc c9 j9 ((cdN v ((v.P c9 j9).2.2.1)).map (AD 0))).pe c9 (up1 ((zz.s_pc c9 j9 ((cdN v ((v.P c9 j9).2.2.1)).map (AD 0))).pe c9) j9 (some (AD (20 + c9) j247))) c9 j9 = _; rw [up1_eq, up1_eq]
                  have k281 : G278 ed = some (.inr (3, [.ref (LA 0), .ref (LA 1), .ref (LA 2), .ref (LA 3), .ref (LA 4), .ref (LA 5), .ref na, .int nc, va_rf iu, .int ((ex1 true ((v.P c9 j9).2.2.2.1) (ex1 true ((v.P c9 j9).1) ww)).1), va_rf ((ex1 true ((v.P c9 j9).2.2.2.1) (ex1 true ((v.P c9 j9).1) ww)).2.map (AD 1))])) := by rw [eG278]; exact mm_set_of k238 (mm_ne_oo k238 k241 (by decide))
                  have k282 : G278 (AD 2 c9) = some (.inr (11, [.int (nI (c9 + 1)), .ref (AD 1 (v.S c9).1), .int ((v.S c9).2.1), .long ((v.S c9).2.2.1), .ref (LA (20 + c9)), .int ((v.S c9).2.2.2)])) := by rw [eG278]; exact mm_set_of k240 (mm_ne_oo k240 k241 (by decide))
                  have k283 : G278 (AD (20 + c9) j9) = some (.inr (9, [.int (nI (j9 + 1)), .int ((v.P c9 j9).1), .long ((v.P c9 j9).2.1), .long ((v.P c9 j9).2.2.1), .int ((v.P c9 j9).2.2.2.1), va_rf ((cdN v ((v.P c9 j9).2.2.1)).map (AD 0)), .int ((v.P c9 j9).2.2.2.2.1), .long ((v.P c9 j9).2.2.2.2.2.1), .int ((v.P c9 j9).2.2.2.2.2.2.1), .ref (AD (20 + c9) j247), .int ((v.P c9 j9).2.2.2.2.2.2.2), .int ((zz.pd c9 j9).1), .int ((zz.pd c9 j9).2.1), .long ((zz.pd c9 j9).2.2.1), .long ((zz.pd c9 j9).2.2.2)])) := by rw [eG278]; exact mm_set_self
                  have hfr284 : ∀ (x : Nat) (e : va_E), G x = some e → x ≠ ed → (∀ k i, lvV v k → i < lnV v k → x ≠ AD k i) → G278 x = some e := fun x e z9 n1 n2 => by
                    have z0 := hfr242 x e z9 n1 n2
                    rw [eG278]; exact mm_set_of z0 (n2 (20 + c9) j9 (lv_P hc9) (by rw [ln_P (by have := hP239.b; omega)]; exact hj29))
                  refine lv_aload_n hx hb dX2_findParameters_126 rfl (lv_at hl 2 rfl) ?_
                  refine lv_aload_n hx hb dX2_findParameters_127 rfl (lv_at hl 1 rfl) ?_
                  refine mm_getN (v := .ref (AD (20 + c9) j247)) hx hb hf_X8 (fun _ h9 => h9) hown hK hG k283 rfl 9 (by decide) (tb_use hT tw_799) (fun _ h9 => h9) rfl dX2_findParameters_128 ?_
                  refine lv_ifnull hx hb dX2_findParameters_131 ?_
                  refine lv_iconst (v := 1) hx hb dX2_findParameters_134 (by decide) ?_
                  refine lv_goto (tgt := 139) hx hb dX2_findParameters_135 (by decide) ?_
                  refine lv_aload_n hx hb dX2_findParameters_139 rfl (lv_at hl 1 rfl) ?_
                  refine mm_getN (v := .int ((v.P c9 j9).2.2.2.2.2.2.1)) hx hb hf_X8 (fun _ h9 => h9) hown hK hG k283 rfl 8 (by decide) (tb_use hT tw_795) (fun _ h9 => h9) rfl dX2_findParameters_140 ?_
                  refine va_callv (va_runV (As := [.int 1, .int ((v.P c9 j9).2.2.2.2.2.2.1)]) (rest := []) ⟨hx, hb, hml, hown, (fun _ h9 => absurd h9 List.not_mem_nil : ∀ w ∈ ([] : List Cond), w.before _ s = true)⟩ (c_ED_expect l D cy A X hst hXT e0 tk hXE G278 LA AD ed na nc iu (ex1 true ((v.P c9 j9).2.2.2.1) (ex1 true ((v.P c9 j9).1) ww)) true ((v.P c9 j9).2.2.2.2.2.2.1) k281) (tb_cw (C := RX2) 2 hT tw_1009 tw_110 tw_1006 tw_1008 tw_34 rfl rfl hq_X2_expect ⟨Nat.le_of_ble_eq_true rfl, Nat.le_of_ble_eq_true rfl⟩) (mk_preC hst hG hK hA hX hS vc_3 k281) rfl rfl hl.1 rfl (lv_room (Nat.le_of_ble_eq_true rfl)) dX2_findParameters_143 ⟨Nat.le_of_ble_eq_true rfl, Nat.le_of_ble_eq_true rfl⟩) hS (fun q _ h => h) (fun q h => h) (fun  G285 t H locs ht hvm hw hB hz1 hk1 hS => ?_)
                  have hG : mm D vwCl A G285 H := by rw [← ht]; exact hB
                  clear hB hz1 hk1 hvm ht
                  have k286 : G285 ed = some (.inr (3, [.ref (LA 0), .ref (LA 1), .ref (LA 2), .ref (LA 3), .ref (LA 4), .ref (LA 5), .ref na, .int nc, va_rf iu, .int ((ex1 true ((v.P c9 j9).2.2.2.2.2.2.1) (ex1 true ((v.P c9 j9).2.2.2.1) (ex1 true ((v.P c9 j9).1) ww))).1), va_rf ((ex1 true ((v.P c9 j9).2.2.2.2.2.2.1) (ex1 true ((v.P c9 j9).2.2.2.1) (ex1 true ((v.P c9 j9).1) ww))).2.map (AD 1))])) := by rw [hw]; exact mm_set_self
                  have hP287 : EDP cy e0 tk G0 Bx G285 v ((zz.s_pc c9 j9 ((cdN v ((v.P c9 j9).2.2.1)).map (AD 0))).s_pe c9 j9 (some (AD (20 + c9) j247))) LA EA AD PI := hP279.mve hBe k281 k286 (fun x e h1 n1 => by rw [hw]; exact mm_set_of h1 n1)
                  have k288 : G285 (AD 2 c9) = some (.inr (11, [.int (nI (c9 + 1)), .ref (AD 1 (v.S c9).1), .int ((v.S c9).2.1), .long ((v.S c9).2.2.1), .ref (LA (20 + c9)), .int ((v.S c9).2.2.2)])) := by rw [hw]; exact mm_set_of k282 (mm_ne_oo k282 k281 (by decide))
                  have k289 : G285 (AD (20 + c9) j9) = some (.inr (9, [.int (nI (j9 + 1)), .int ((v.P c9 j9).1), .long ((v.P c9 j9).2.1), .long ((v.P c9 j9).2.2.1), .int ((v.P c9 j9).2.2.2.1), va_rf ((cdN v ((v.P c9 j9).2.2.1)).map (AD 0)), .int ((v.P c9 j9).2.2.2.2.1), .long ((v.P c9 j9).2.2.2.2.2.1), .int ((v.P c9 j9).2.2.2.2.2.2.1), .ref (AD (20 + c9) j247), .int ((v.P c9 j9).2.2.2.2.2.2.2), .int ((zz.pd c9 j9).1), .int ((zz.pd c9 j9).2.1), .long ((zz.pd c9 j9).2.2.1), .long ((zz.pd c9 j9).2.2.2)])) := by rw [hw]; exact mm_set_of k283 (mm_ne_oo k283 k281 (by decide))
                  have hfr290 : ∀ (x : Nat) (e : va_E), G x = some e → x ≠ ed → (∀ k i, lvV v k → i < lnV v k → x ≠ AD k i) → G285 x = some e := fun x e z9 n1 n2 => by
                    have z0 := hfr284 x e z9 n1 n2
                    rw [hw]; exact mm_set_of z0 n1
                  clear hw
                  obtain ⟨x291, ex291⟩ : ∃ y : Int32, y = (nI j9) + 1 := ⟨_, rfl⟩
                  refine lv_iinc (v := x291) (lv' := [(2, .int x291), (4, .ref (AD (20 + c9) j247)), (3, .ref (AD (20 + c9) j9)), (0, .ref ed), (1, .ref (AD 2 c9))]) hx hb dX2_findParameters_146 hl (k := 4) rfl (by rw [ex291]; rfl) (by decide) rfl (fun ls hl => ?_)
                  refine lv_goto (tgt := 2) hx hb dX2_findParameters_149 (by decide) ?_
                  rw [show x291 = nI (j9 + 1) by rw [ex291]; exact (nI_succ j9).symm] at hl
                  have hlt9 : j247 < j9 := by have z := nI_lt_of (a := j247 + 1) (b := j9 + 1) (by omega) (by omega) c_114; omega
                  have heB : eB v c9 j9 = true := by rw [eB, hf246]; exact decide_eq_true hlt9
                  have hpe9 : peI v c9 j9 = some j247 := by rw [peI, if_neg c_86, hf246]; exact if_pos hlt9
                  have hs9 : pS v c9 j9 ww = (ex1 true ((v.P c9 j9).2.2.2.2.2.2.1) (ex1 true ((v.P c9 j9).2.2.2.1) (ex1 true ((v.P c9 j9).1) ww))) := by rw [pS, if_neg c_86, hB_35, hf179, heB]; rfl
                  have hz3 : ∀ p, p < j9 + 1 → ((zz.s_pc c9 j9 ((cdN v ((v.P c9 j9).2.2.1)).map (AD 0))).s_pe c9 j9 (some (AD (20 + c9) j247))).pc c9 p = (cdN v (v.P c9 p).2.2.1).map (AD 0) ∧ ((zz.s_pc c9 j9 ((cdN v ((v.P c9 j9).2.2.1)).map (AD 0))).s_pe c9 j9 (some (AD (20 + c9) j247))).pe c9 p = (peI v c9 p).map (AD (20 + c9)) := by
                    intro p hp
                    by_cases e9 : p = j9
                    · rw [e9, hpe9]; refine ⟨?_, ?_⟩; show up1 zz.pc c9 _ c9 j9 = _; rw [up1_eq, up1_eq]; show up1 zz.pe c9 _ c9 j9 = _; rw [up1_eq, up1_eq]; rfl
                    · rw [← (hz1 p (by omega)).1, ← (hz1 p (by omega)).2]; refine ⟨?_, ?_⟩; show up1 zz.pc c9 _ c9 p = _; rw [up1_eq, up1_ne e9]; show up1 zz.pe c9 _ c9 p = _; rw [up1_eq, up1_ne e9]; try rfl
                  have hz4 : ∀ p, j9 + 1 ≤ p → ((zz.s_pc c9 j9 ((cdN v ((v.P c9 j9).2.2.1)).map (AD 0))).s_pe c9 j9 (some (AD (20 + c9) j247))).pe c9 p = none := fun p hp => by rw [← hz2 p (by omega)]; show up1 zz.pe c9 _ c9 p = _; rw [up1_eq, up1_ne (by omega)]; try rfl
                  have hz6 : ∀ c, c ≠ c9 → ((zz.s_pc c9 j9 ((cdN v ((v.P c9 j9).2.2.1)).map (AD 0))).s_pe c9 j9 (some (AD (20 + c9) j247))).pc c = z.pc c ∧ ((zz.s_pc c9 j9 ((cdN v ((v.P c9 j9).2.2.1)).map (AD 0))).s_pe c9 j9 (some (AD (20 + c9) j247))).pe c = z.pe c := fun c hc => by rw [← (hz5 c hc).1, ← (hz5 c hc).2]; exact ⟨up1_ne hc, up1_ne hc⟩
                  have hq2 : mP v c9 n (j9 + 1) (ex1 true ((v.P c9 j9).2.2.2.2.2.2.1) (ex1 true ((v.P c9 j9).2.2.2.1) (ex1 true ((v.P c9 j9).1) ww))) = mP v c9 (v.nP c9) 0 w9 := by rw [← hs9]; exact hq
                  exact ih (j9 + 1) ((zz.s_pc c9 j9 ((cdN v ((v.P c9 j9).2.2.1)).map (AD 0))).s_pe c9 j9 (some (AD (20 + c9) j247))) (ex1 true ((v.P c9 j9).2.2.2.2.2.2.1) (ex1 true ((v.P c9 j9).2.2.2.1) (ex1 true ((v.P c9 j9).1) ww))) (by omega) hz3 hz4 hz6 hz7 hq2 G285 k286 hP287 hfr290 _ _ hG hS ls (lv_sub hl [3, 4, 0] rfl)
  refine lv_iconst (v := 0) hx hb dX2_findParameters_0 (by decide) ?_
  refine lv_istore_n (lv' := [(2, .int 0), (0, .ref ed), (1, .ref (AD 2 c9))]) hx hb dX2_findParameters_1 rfl hl (by decide) rfl (fun ls hl => ?_)
  exact hloop (v.nP c9) 0 z w9 (by omega) (fun p hp => absurd hp (by omega)) (fun p _ => (hz0 p).2) (fun _ _ => ⟨rfl, rfl⟩) ⟨rfl, rfl, rfl, rfl, rfl, rfl, rfl⟩ rfl G hed hP hfr _ _ hG hS ls (lv_sub hl [1, 2, 0] rfl)
