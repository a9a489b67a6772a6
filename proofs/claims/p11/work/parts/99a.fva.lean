set_option maxHeartbeats 4000000 in
set_option maxRecDepth 100000 in
theorem c_X2_findVariants (l : Launch) (D : va_G) (cy : Nat → ClassId) (A : Nat → Prop) (X : State → Prop) (hst : mk_St A X) (hXT : ∀ U : State, X U → TB U) (e0 : Nat) (tk : Nat → Nat) (hXE : ∀ U : State, X U → ES e0 tk A U) (mi : Nat) (hXL : ∀ U : State, X U → EL e0 mi A U) (ax adK adV : Nat → Nat) (hXX : ∀ U : State, X U → TX ax adK adV tk A U) (G : Nat → Option va_E) (G0 : Nat → Option va_E) (Bx : Nat → Prop) (v : EdV) (z : PtV) (LA EA : Nat → Nat) (AD : Nat → Nat → Nat) (PI : Nat → Nat) (ed na : Nat) (nc : Int32) (iu : Option Nat) (w9 : Int32 × Option Nat) (hP : EDP cy e0 tk G0 Bx G v z LA EA AD PI) (hBe : Bx ed) (hed : G ed = some (.inr (3, [.ref (LA 0), .ref (LA 1), .ref (LA 2), .ref (LA 3), .ref (LA 4), .ref (LA 5), .ref na, .int nc, va_rf iu, .int w9.1, va_rf (w9.2.map (AD 1))]))) : Met l yX2_findVariants [.code yX2_findVariants cX2_findVariants 3 none] ({ frames := 6, cells := 0, slots := 0, locals := 180 }) (mk_Pre D vwCl (tyL cy) A X G [.ref ed]) (va_Qv (fun (G2 : Nat → Option va_E) => ∃ z2 : PtV, EDP cy e0 tk G0 Bx G2 v z2 LA EA AD PI ∧ G2 ed = some (.inr (3, [.ref (LA 0), .ref (LA 1), .ref (LA 2), .ref (LA 3), .ref (LA 4), .ref (LA 5), .ref na, .int nc, va_rf iu, .int ((mV v v.nV 0 (onV v w9)).1), va_rf ((mV v v.nV 0 (onV v w9)).2.map (AD 1))])) ∧ zVl v AD z2 ∧ (z2.lo = z.lo ∧ z2.pc = z.pc ∧ z2.pe = z.pe ∧ z2.fo = z.fo ∧ z2.wo = z.wo ∧ zOth z z2) ∧ ∀ (x : Nat) (e : va_E), G x = some e → x ≠ ed → (∀ k i, lvV v k → i < lnV v k → x ≠ AD k i) → G2 x = some e) (mk_B D vwCl A) A) 0 0 A := by
  refine Met.ofW (cc := cX2_findVariants) (maxL := 3) (ret := none) (by decide) rfl ?_
  intro p e s m args below meth c s₁ B hml hv
  obtain ⟨rfl, hG, hK, hA, hX⟩ := hv
  have hx := B.exec
  have hb := B.bytes
  have hr := B.returns
  have hlocks := B.notSynchronized
  have hT := hXT s hX
  have hown : s.vm.findClass RX2 = some m.cls := findClass_of_methodNamed B.named
  have hf_X2 : ∀ w ∈ u_ws RX2 TX2 11, w.before ([.ref ed] : List Value).toArray s = true := tb_list hT fX2
  have hf_X3 : ∀ w ∈ u_ws RX3 TX3 5, w.before ([.ref ed] : List Value).toArray s = true := tb_list hT fX3
  have hS : va_S A s.heap s.heap [] := va_S.rf
  have hE := hXE s hX
  have hl := lv_entry ([.ref ed]) (n := 3) (Nat.le_of_ble_eq_true rfl)
  rw [lg_entry_eq]
  generalize (lg_sl ([.ref ed]) ++ List.replicate (3 - (lg_sl ([.ref ed])).length) Slot.unset).toArray = ls at hl ⊢
  have hl : lv_has ls 3 [(0, .ref ed)] := hl
  have hQ := hXX s hX
  have hfr : ∀ (x : Nat) (e : va_E), G x = some e → x ≠ ed → (∀ k i, lvV v k → i < lnV v k → x ≠ AD k i) → G x = some e := fun x e z _ _ => z
  have hloop : ∀ (n : Nat) (j9 : Nat) (zz : PtV) (ww : Int32 × Option Nat), (n + j9 = v.nV) → (∀ i, i < j9 → zz.vl i = (lyN v (v.V i).2.2.1).map (AD 1)) → (zz.lo = z.lo ∧ zz.pc = z.pc ∧ zz.pe = z.pe ∧ zz.fo = z.fo ∧ zz.wo = z.wo ∧ zOth z zz) → (mV v n j9 ww = mV v v.nV 0 (onV v w9)) → ∀ (Gv : Nat → Option va_E), (Gv ed = some (.inr (3, [.ref (LA 0), .ref (LA 1), .ref (LA 2), .ref (LA 3), .ref (LA 4), .ref (LA 5), .ref na, .int nc, va_rf iu, .int ww.1, va_rf (ww.2.map (AD 1))]))) → (EDP cy e0 tk G0 Bx Gv v zz LA EA AD PI) → (∀ (x : Nat) (e : va_E), G x = some e → x ≠ ed → (∀ k i, lvV v k → i < lnV v k → x ≠ AD k i) → Gv x = some e) → ∀ (H : Heap) (locs : List Loc), mm D vwCl A Gv H → va_S A s.heap H locs → ∀ ls : Array Slot, lv_has ls 3 [(0, .ref ed), (1, .int (nI j9))] → W p l e (headSpec [.code yX2_findVariants cX2_findVariants 3 none] ({ frames := 6, cells := 0, slots := 0, locals := 180 })).room s m ([.ref ed] : List Value).toArray below meth c H locs 0 0 (MQ below (va_Qv (fun (G2 : Nat → Option va_E) => ∃ z2 : PtV, EDP cy e0 tk G0 Bx G2 v z2 LA EA AD PI ∧ G2 ed = some (.inr (3, [.ref (LA 0), .ref (LA 1), .ref (LA 2), .ref (LA 3), .ref (LA 4), .ref (LA 5), .ref na, .int nc, va_rf iu, .int ((mV v v.nV 0 (onV v w9)).1), va_rf ((mV v v.nV 0 (onV v w9)).2.map (AD 1))])) ∧ zVl v AD z2 ∧ (z2.lo = z.lo ∧ z2.pc = z.pc ∧ z2.pe = z.pe ∧ z2.fo = z.fo ∧ z2.wo = z.wo ∧ zOth z z2) ∧ ∀ (x : Nat) (e : va_E), G x = some e → x ≠ ed → (∀ k i, lvV v k → i < lnV v k → x ≠ AD k i) → G2 x = some e) (mk_B D vwCl A) A) ([.ref ed] : List Value).toArray s 0 0 A) (F0 m 10 ls []) := by
    intro n
    induction n with
    | zero =>
      intro j9 zz ww hjn hz1 hzz hq Gv v_ed hP hfr H locs hG hS ls hl
      have hbb := hP.b
      refine lv_iload_n hx hb dX2_findVariants_10 rfl (lv_at hl 1 rfl) ?_
      refine lv_aload_n hx hb dX2_findVariants_11 rfl (lv_at hl 0 rfl) ?_
      refine mm_get (v := .ref (LA 4)) hx hb hf_X2 (fun _ h9 => h9) hown hK hG v_ed rfl 4 (by decide) (tb_use hT tw_289) (fun _ h9 => h9) rfl dX2_findVariants_12 ?_
      obtain ⟨mo21, h_mo21, -⟩ := id (hP.lsV)
      refine va_calli (va_runV (As := []) (rest := [.int (nI j9)]) ⟨hx, hb, hml, hown, (fun _ h9 => absurd h9 List.not_mem_nil : ∀ w ∈ ([] : List Cond), w.before _ s = true)⟩ (c_LS_size l D cy A X hst hXT e0 tk hXE mi hXL Gv (LA 4) (EA 4) v.nV (AD 4) (hP.lsV)) (tb_cw (C := RJx4a65c) 0 hT tw_457 tw_113 tw_999 tw_455 tw_456 rfl rfl hq_Jx4a65c_size_8abf5 ⟨Nat.le_of_ble_eq_true rfl, Nat.le_of_ble_eq_true rfl⟩) (mk_preC hst hG hK hA hX hS vc_1 h_mo21) rfl rfl hl.1 rfl (lv_room (Nat.le_of_ble_eq_true rfl)) dX2_findVariants_15 ⟨Nat.le_of_ble_eq_true rfl, Nat.le_of_ble_eq_true rfl⟩) hS (fun q _ h => h) (fun q h => h) (fun r22 G23 t H locs ht hvm hw hB hz1 hk1 hS => ?_)
      have hG : mm D vwCl A G23 H := by rw [← ht]; exact hB
      clear hB hz1 hk1 hvm ht
      obtain ⟨rfl, hw⟩ := hw
      rw [hw] at hG
      refine lv_icmp_ge (tgt := 71) hx hb dX2_findVariants_18 (by decide) (fun c_18 => ?_) (fun c_18 => ?_)
      · skip
        have hw9 : ww = mV v v.nV 0 (onV v w9) := by rw [← hq]; first | rfl | (rw [show n = 0 by omega]; rfl)
        exact W.vret hx hb hr (fun t ht hW => ⟨⟨_, rfl, ⟨zz, hP, (by rw [← hw9]; exact v_ed), (fun i hi => hz1 i (by omega)), hzz, hfr⟩, mk_end hG ht⟩, hS.F ht⟩) hS.2.2 dX2_findVariants_71
      · skip
        exact absurd (by rw [show j9 = v.nV by omega]; exact Int32.le_refl _) c_18
    | succ n ih =>
      intro j9 zz ww hjn hz1 hzz hq Gv v_ed hP hfr H locs hG hS ls hl
      have hbb := hP.b
      refine lv_iload_n hx hb dX2_findVariants_10 rfl (lv_at hl 1 rfl) ?_
      refine lv_aload_n hx hb dX2_findVariants_11 rfl (lv_at hl 0 rfl) ?_
      refine mm_get (v := .ref (LA 4)) hx hb hf_X2 (fun _ h9 => h9) hown hK hG v_ed rfl 4 (by decide) (tb_use hT tw_289) (fun _ h9 => h9) rfl dX2_findVariants_12 ?_
      obtain ⟨mo24, h_mo24, -⟩ := id (hP.lsV)
      refine va_calli (va_runV (As := []) (rest := [.int (nI j9)]) ⟨hx, hb, hml, hown, (fun _ h9 => absurd h9 List.not_mem_nil : ∀ w ∈ ([] : List Cond), w.before _ s = true)⟩ (c_LS_size l D cy A X hst hXT e0 tk hXE mi hXL Gv (LA 4) (EA 4) v.nV (AD 4) (hP.lsV)) (tb_cw (C := RJx4a65c) 0 hT tw_457 tw_113 tw_999 tw_455 tw_456 rfl rfl hq_Jx4a65c_size_8abf5 ⟨Nat.le_of_ble_eq_true rfl, Nat.le_of_ble_eq_true rfl⟩) (mk_preC hst hG hK hA hX hS vc_1 h_mo24) rfl rfl hl.1 rfl (lv_room (Nat.le_of_ble_eq_true rfl)) dX2_findVariants_15 ⟨Nat.le_of_ble_eq_true rfl, Nat.le_of_ble_eq_true rfl⟩) hS (fun q _ h => h) (fun q h => h) (fun r25 G26 t H locs ht hvm hw hB hz1 hk1 hS => ?_)
      have hG : mm D vwCl A G26 H := by rw [← ht]; exact hB
      clear hB hz1 hk1 hvm ht
      obtain ⟨rfl, hw⟩ := hw
      rw [hw] at hG
      refine lv_icmp_ge (tgt := 71) hx hb dX2_findVariants_18 (by decide) (fun c_18 => ?_) (fun c_18 => ?_)
      · skip
        exact absurd c_18 (nI_ge (by omega) (by omega))
      · skip
        refine lv_aload_n hx hb dX2_findVariants_21 rfl (lv_at hl 0 rfl) ?_
        refine mm_get (v := .ref (LA 4)) hx hb hf_X2 (fun _ h9 => h9) hown hK hG v_ed rfl 4 (by decide) (tb_use hT tw_289) (fun _ h9 => h9) rfl dX2_findVariants_22 ?_
        refine lv_iload_n hx hb dX2_findVariants_25 rfl (lv_at hl 1 rfl) ?_
        have hj27 : j9 < v.nV := by omega
        obtain ⟨mo28, h_mo28, -⟩ := id (hP.lsV)
        refine va_callq (va_runV (As := [.int (nI j9)]) (rest := []) ⟨hx, hb, hml, hown, (fun _ h9 => absurd h9 List.not_mem_nil : ∀ w ∈ ([] : List Cond), w.before _ s = true)⟩ (c_LS_get l D cy A X hst hXT e0 tk hXE mi hXL Gv (LA 4) (EA 4) v.nV (AD 4) j9 (hP.lsV) hj27) (tb_cw (C := RJx4a65c) 1 hT tw_942 tw_113 tw_1000 tw_940 tw_941 rfl rfl hq_Jx4a65c_get_915e3 ⟨Nat.le_of_ble_eq_true rfl, Nat.le_of_ble_eq_true rfl⟩) (mk_preC hst hG hK hA hX hS vc_1 h_mo28) rfl rfl hl.1 rfl (lv_room (Nat.le_of_ble_eq_true rfl)) dX2_findVariants_26 ⟨Nat.le_of_ble_eq_true rfl, Nat.le_of_ble_eq_true rfl⟩) hS (fun q _ h => h) (fun q h => h) (fun r29 G30 t H locs ht hvm hw hB hz1 hk1 hS => ?_)
        have hG : mm D vwCl A G30 H := by rw [← ht]; exact hB
        clear hB hz1 hk1 hvm ht
        obtain ⟨rfl, hw⟩ := hw
        rw [hw] at hG
        refine W.eq (g2 := F0 m 29 ls [.ref (AD 4 j9)]) rfl ?_
        have k31 : Gv (AD 4 j9) = some (.inr (4, [.int ((v.V j9).1), .int ((v.V j9).2.1), .long ((v.V j9).2.2.1), .int ((v.V j9).2.2.2), va_rf (zz.vl j9)])) := hP.elV hj27
        refine va_castS hx hb hown (tb_use hT tw_1027) (hK.1 4 _ rfl).2 (va_recv hK (hG.one k31) (q := (RX3, TX3, 5)) rfl (q0 := 0) rfl) dX2_findVariants_29 ?_
        refine lv_astore_n (lv' := [(2, .ref (AD 4 j9)), (0, .ref ed), (1, .int (nI j9))]) hx hb dX2_findVariants_32 rfl hl (by decide) rfl (fun ls hl => ?_)
        refine lv_aload_n hx hb dX2_findVariants_33 rfl (lv_at hl 0 rfl) ?_
        refine lv_aload_n hx hb dX2_findVariants_34 rfl (lv_at hl 1 rfl) ?_
        refine lv_aload_n hx hb dX2_findVariants_35 rfl (lv_at hl 0 rfl) ?_
        refine mm_getN (v := .long ((v.V j9).2.2.1)) hx hb hf_X3 (fun _ h9 => h9) hown hK hG k31 rfl 2 (by decide) (tb_use hT tw_565) (fun _ h9 => h9) rfl dX2_findVariants_36 ?_
        refine va_callq (va_runV (As := [.long ((v.V j9).2.2.1)]) (rest := [.ref (AD 4 j9)]) ⟨hx, hb, hml, hown, (fun _ h9 => absurd h9 List.not_mem_nil : ∀ w ∈ ([] : List Cond), w.before _ s = true)⟩ (c_X2_layerNamed l D cy A X hst hXT e0 tk hXE mi hXL Gv ed (LA 0) (LA 1) (LA 2) (LA 3) (LA 4) (LA 5) na nc ww.1 iu (ww.2.map (AD 1)) (EA 1) v.nL (AD 1) (fun j => laF j (v.L j) (zz.lo j)) (fun j => (v.L j).2.1) ((v.V j9).2.2.1) v_ed hP.lsL (by have := hP.b; omega) hP.nmL) (tb_cw (C := RX2) 1 hT tw_1005 tw_110 tw_1002 tw_1004 tw_33 rfl rfl hq_X2_layerNamed ⟨Nat.le_of_ble_eq_true rfl, Nat.le_of_ble_eq_true rfl⟩) (mk_preC hst hG hK hA hX hS vc_3 v_ed) rfl rfl hl.1 rfl (lv_room (Nat.le_of_ble_eq_true rfl)) dX2_findVariants_39 ⟨Nat.le_of_ble_eq_true rfl, Nat.le_of_ble_eq_true rfl⟩) hS (fun q _ h => h) (fun q h => h) (fun r32 G33 t H locs ht hvm hw hB hz1 hk1 hS => ?_)
        have hG : mm D vwCl A G33 H := by rw [← ht]; exact hB
        clear hB hz1 hk1 hvm ht
        obtain ⟨er32, hw⟩ := hw
        rw [hw] at hG
        have fr32 : r32 = (lyN v ((v.V j9).2.2.1)).map (AD 1) := er32
        rw [fr32]
        refine mm_putN (v := va_rf ((lyN v ((v.V j9).2.2.1)).map (AD 1))) (ty := .object "DescribeText$Layer") hx hb hf_X3 (fun _ h9 => h9) tyX3 tyX3_ok nmX3 hown hK hG hS k31 rfl 4 (by decide) (tb_use hT tw_571) (fun _ h9 => h9) rfl (by decide +kernel) (nar_rf _) (fits_rf _) (Nat.le_of_ble_eq_true rfl) dX2_findVariants_42 (fun H locs hG hS => ?_)
        obtain ⟨G34, eG34⟩ : ∃ g, g = mm_set Gv (AD 4 j9) (.inr (4, [.int ((v.V j9).1), .int ((v.V j9).2.1), .long ((v.V j9).2.2.1), .int ((v.V j9).2.2.2), va_rf ((lyN v ((v.V j9).2.2.1)).map (AD 1))])) := ⟨_, rfl⟩
        have hG : mm D vwCl A G34 H := by rw [eG34]; exact hG
        have hP35 : EDP cy e0 tk G0 Bx G34 v (zz.s_vl j9 ((lyN v ((v.V j9).2.2.1)).map (AD 1))) LA EA AD PI := by rw [eG34]; exact hP.put_vl hj27
        have hz36 : (zz.s_vl j9 ((lyN v ((v.V j9).2.2.1)).map (AD 1))).vl j9 = ((lyN v ((v.V j9).2.2.1)).map (AD 1)) := by show up1 zz.vl j9 ((lyN v ((v.V j9).2.2.1)).map (AD 1)) j9 = _; rw [up1_eq]
        have k37 : G34 ed = some (.inr (3, [.ref (LA 0), .ref (LA 1), .ref (LA 2), .ref (LA 3), .ref (LA 4), .ref (LA 5), .ref na, .int nc, va_rf iu, .int ww.1, va_rf (ww.2.map (AD 1))])) := by rw [eG34]; exact mm_set_of v_ed (mm_ne_oo v_ed k31 (by decide))
        have k38 : G34 (AD 4 j9) = some (.inr (4, [.int ((v.V j9).1), .int ((v.V j9).2.1), .long ((v.V j9).2.2.1), .int ((v.V j9).2.2.2), va_rf ((lyN v ((v.V j9).2.2.1)).map (AD 1))])) := by rw [eG34]; exact mm_set_self
        have hfr39 : ∀ (x : Nat) (e : va_E), G x = some e → x ≠ ed → (∀ k i, lvV v k → i < lnV v k → x ≠ AD k i) → G34 x = some e := fun x e z9 n1 n2 => by
          have z0 := hfr x e z9 n1 n2
          rw [eG34]; exact mm_set_of z0 (n2 4 j9 (Or.inl (by decide)) hj27)
        refine lv_aload_n hx hb dX2_findVariants_45 rfl (lv_at hl 1 rfl) ?_
        refine lv_aload_n hx hb dX2_findVariants_46 rfl (lv_at hl 0 rfl) ?_
        refine mm_getN (v := va_rf ((lyN v ((v.V j9).2.2.1)).map (AD 1))) hx hb hf_X3 (fun _ h9 => h9) hown hK hG k38 rfl 4 (by decide) (tb_use hT tw_571) (fun _ h9 => h9) rfl dX2_findVariants_47 ?_
        obtain ⟨y_hf40, hf40⟩ : ∃ y, lyN v ((v.V j9).2.2.1) = y := ⟨_, rfl⟩
        cases y_hf40 with
        | none =>
          refine W.eq (g2 := F0 m 50 ls [.null, .ref ed]) (by first | rfl | (rw [hf40]; rfl)) ?_
          refine lv_ifnullN (tgt := 57) hx hb dX2_findVariants_50 (by decide) ?_
          refine lv_iconst (v := 0) hx hb dX2_findVariants_57 (by decide) ?_
          refine lv_aload_n hx hb dX2_findVariants_58 rfl (lv_at hl 0 rfl) ?_
          refine mm_getN (v := .int ((v.V j9).2.2.2)) hx hb hf_X3 (fun _ h9 => h9) hown hK hG k38 rfl 3 (by decide) (tb_use hT tw_569) (fun _ h9 => h9) rfl dX2_findVariants_59 ?_
          refine va_callv (va_runV (As := [.int 0, .int ((v.V j9).2.2.2)]) (rest := []) ⟨hx, hb, hml, hown, (fun _ h9 => absurd h9 List.not_mem_nil : ∀ w ∈ ([] : List Cond), w.before _ s = true)⟩ (c_ED_expect l D cy A X hst hXT e0 tk hXE G34 LA AD ed na nc iu ww false ((v.V j9).2.2.2) k37) (tb_cw (C := RX2) 2 hT tw_1009 tw_110 tw_1006 tw_1008 tw_34 rfl rfl hq_X2_expect ⟨Nat.le_of_ble_eq_true rfl, Nat.le_of_ble_eq_true rfl⟩) (mk_preC hst hG hK hA hX hS vc_3 k37) rfl rfl hl.1 rfl (lv_room (Nat.le_of_ble_eq_true rfl)) dX2_findVariants_62 ⟨Nat.le_of_ble_eq_true rfl, Nat.le_of_ble_eq_true rfl⟩) hS (fun q _ h => h) (fun q h => h) (fun  G42 t H locs ht hvm hw hB hz1 hk1 hS => ?_)
          have hG : mm D vwCl A G42 H := by rw [← ht]; exact hB
          clear hB hz1 hk1 hvm ht
          have k43 : G42 ed = some (.inr (3, [.ref (LA 0), .ref (LA 1), .ref (LA 2), .ref (LA 3), .ref (LA 4), .ref (LA 5), .ref na, .int nc, va_rf iu, .int ((ex1 false ((v.V j9).2.2.2) ww).1), va_rf ((ex1 false ((v.V j9).2.2.2) ww).2.map (AD 1))])) := by rw [hw]; exact mm_set_self
          have hP44 : EDP cy e0 tk G0 Bx G42 v (zz.s_vl j9 ((lyN v ((v.V j9).2.2.1)).map (AD 1))) LA EA AD PI := hP35.mve hBe k37 k43 (fun x e h1 n1 => by rw [hw]; exact mm_set_of h1 n1)
          have k45 : G42 (AD 4 j9) = some (.inr (4, [.int ((v.V j9).1), .int ((v.V j9).2.1), .long ((v.V j9).2.2.1), .int ((v.V j9).2.2.2), va_rf ((lyN v ((v.V j9).2.2.1)).map (AD 1))])) := by rw [hw]; exact mm_set_of k38 (mm_ne_oo k38 k37 (by decide))
          have hfr46 : ∀ (x : Nat) (e : va_E), G x = some e → x ≠ ed → (∀ k i, lvV v k → i < lnV v k → x ≠ AD k i) → G42 x = some e := fun x e z9 n1 n2 => by
            have z0 := hfr39 x e z9 n1 n2
            rw [hw]; exact mm_set_of z0 n1
          clear hw
          obtain ⟨x47, ex47⟩ : ∃ y : Int32, y = (nI j9) + 1 := ⟨_, rfl⟩
          refine lv_iinc (v := x47) (lv' := [(1, .int x47), (2, .ref (AD 4 j9)), (0, .ref ed)]) hx hb dX2_findVariants_65 hl (k := 2) rfl (by rw [ex47]; rfl) (by decide) rfl (fun ls hl => ?_)
          refine lv_goto (tgt := 10) hx hb dX2_findVariants_68 (by decide) ?_
          rw [show x47 = nI (j9 + 1) by rw [ex47]; exact (nI_succ j9).symm] at hl
          have hz3 : ∀ i, i < j9 + 1 → (zz.s_vl j9 ((lyN v ((v.V j9).2.2.1)).map (AD 1))).vl i = (lyN v (v.V i).2.2.1).map (AD 1) := fun i hi => by by_cases e9 : i = j9; rw [e9]; exact up1_eq; rw [← hz1 i (by omega)]; exact up1_ne e9
          have hq2 : mV v n (j9 + 1) (ex1 false ((v.V j9).2.2.2) ww) = mV v v.nV 0 (onV v w9) := by rw [← hq, mV, hf40]; rfl
          exact ih (j9 + 1) (zz.s_vl j9 ((lyN v ((v.V j9).2.2.1)).map (AD 1))) (ex1 false ((v.V j9).2.2.2) ww) (by omega) hz3 hzz hq2 G42 k43 hP44 hfr46 _ _ hG hS ls (lv_sub hl [2, 0] rfl)
        | some j41 =>
          have hj48 := lyN_lt hf40
          refine W.eq (g2 := F0 m 50 ls [.ref (AD 1 j41), .ref ed]) (by first | rfl | (rw [hf40]; rfl)) ?_
          refine lv_ifnull hx hb dX2_findVariants_50 ?_
          refine lv_iconst (v := 1) hx hb dX2_findVariants_53 (by decide) ?_
          refine lv_goto (tgt := 58) hx hb dX2_findVariants_54 (by decide) ?_
          refine lv_aload_n hx hb dX2_findVariants_58 rfl (lv_at hl 0 rfl) ?_
          refine mm_getN (v := .int ((v.V j9).2.2.2)) hx hb hf_X3 (fun _ h9 => h9) hown hK hG k38 rfl 3 (by decide) (tb_use hT tw_569) (fun _ h9 => h9) rfl dX2_findVariants_59 ?_
          refine va_callv (va_runV (As := [.int 1, .int ((v.V j9).2.2.2)]) (rest := []) ⟨hx, hb, hml, hown, (fun _ h9 => absurd h9 List.not_mem_nil : ∀ w ∈ ([] : List Cond), w.before _ s = true)⟩ (c_ED_expect l D cy A X hst hXT e0 tk hXE G34 LA AD ed na nc iu ww true ((v.V j9).2.2.2) k37) (tb_cw (C := RX2) 2 hT tw_1009 tw_110 tw_1006 tw_1008 tw_34 rfl rfl hq_X2_expect ⟨Nat.le_of_ble_eq_true rfl, Nat.le_of_ble_eq_true rfl⟩) (mk_preC hst hG hK hA hX hS vc_3 k37) rfl rfl hl.1 rfl (lv_room (Nat.le_of_ble_eq_true rfl)) dX2_findVariants_62 ⟨Nat.le_of_ble_eq_true rfl, Nat.le_of_ble_eq_true rfl⟩) hS (fun q _ h => h) (fun q h => h) (fun  G49 t H locs ht hvm hw hB hz1 hk1 hS => ?_)
          have hG : mm D vwCl A G49 H := by rw [← ht]; exact hB
          clear hB hz1 hk1 hvm ht
          have k50 : G49 ed = some (.inr (3, [.ref (LA 0), .ref (LA 1), .ref (LA 2), .ref (LA 3), .ref (LA 4), .ref (LA 5), .ref na, .int nc, va_rf iu, .int ((ex1 true ((v.V j9).2.2.2) ww).1), va_rf ((ex1 true ((v.V j9).2.2.2) ww).2.map (AD 1))])) := by rw [hw]; exact mm_set_self
          have hP51 : EDP cy e0 tk G0 Bx G49 v (zz.s_vl j9 ((lyN v ((v.V j9).2.2.1)).map (AD 1))) LA EA AD PI := hP35.mve hBe k37 k50 (fun x e h1 n1 => by rw [hw]; exact mm_set_of h1 n1)
          have k52 : G49 (AD 4 j9) = some (.inr (4, [.int ((v.V j9).1), .int ((v.V j9).2.1), .long ((v.V j9).2.2.1), .int ((v.V j9).2.2.2), va_rf ((lyN v ((v.V j9).2.2.1)).map (AD 1))])) := by rw [hw]; exact mm_set_of k38 (mm_ne_oo k38 k37 (by decide))
          have hfr53 : ∀ (x : Nat) (e : va_E), G x = some e → x ≠ ed → (∀ k i, lvV v k → i < lnV v k → x ≠ AD k i) → G49 x = some e := fun x e z9 n1 n2 => by
            have z0 := hfr39 x e z9 n1 n2
            rw [hw]; exact mm_set_of z0 n1
          clear hw
          obtain ⟨x54, ex54⟩ : ∃ y : Int32, y = (nI j9) + 1 := ⟨_, rfl⟩
          refine lv_iinc (v := x54) (lv' := [(1, .int x54), (2, .ref (AD 4 j9)), (0, .ref ed)]) hx hb dX2_findVariants_65 hl (k := 2) rfl (by rw [ex54]; rfl) (by decide) rfl (fun ls hl => ?_)
          refine lv_goto (tgt := 10) hx hb dX2_findVariants_68 (by decide) ?_
          rw [show x54 = nI (j9 + 1) by rw [ex54]; exact (nI_succ j9).symm] at hl
          have hz3 : ∀ i, i < j9 + 1 → (zz.s_vl j9 ((lyN v ((v.V j9).2.2.1)).map (AD 1))).vl i = (lyN v (v.V i).2.2.1).map (AD 1) := fun i hi => by by_cases e9 : i = j9; rw [e9]; exact up1_eq; rw [← hz1 i (by omega)]; exact up1_ne e9
          have hq2 : mV v n (j9 + 1) (ex1 true ((v.V j9).2.2.2) ww) = mV v v.nV 0 (onV v w9) := by rw [← hq, mV, hf40]; rfl
          exact ih (j9 + 1) (zz.s_vl j9 ((lyN v ((v.V j9).2.2.1)).map (AD 1))) (ex1 true ((v.V j9).2.2.2) ww) (by omega) hz3 hzz hq2 G49 k50 hP51 hfr53 _ _ hG hS ls (lv_sub hl [2, 0] rfl)
  refine lv_aload_n hx hb dX2_findVariants_0 rfl (lv_at hl 0 rfl) ?_
  refine lv_aload_n hx hb dX2_findVariants_1 rfl (lv_at hl 0 rfl) ?_
  refine mm_get (v := .ref (LA 4)) hx hb hf_X2 (fun _ h9 => h9) hown hK hG hed rfl 4 (by decide) (tb_use hT tw_289) (fun _ h9 => h9) rfl dX2_findVariants_2 ?_
  refine va_callv (va_runV (As := [.ref (LA 4)]) (rest := []) ⟨hx, hb, hml, hown, (fun _ h9 => absurd h9 List.not_mem_nil : ∀ w ∈ ([] : List Cond), w.before _ s = true)⟩ (c_X2_expectNumbersOnce l D cy A X hst hXT e0 tk hXE mi hXL G ed (LA 0) (LA 1) (LA 2) (LA 3) (LA 4) (LA 5) na nc w9.1 iu (w9.2.map (AD 1)) (LA 4) (EA 4) v.nV (AD 4) (fun j => enF (v.V j) (z.vl j)) (fun i => (v.V i).1) (fun i => (v.V i).2.1) hed (hP.lsV) (by have := (hP.lsV).le; omega) (hP.nmV) (hP.inV)) (tb_cw (C := RX2) 1 hT tw_1026 tw_110 tw_1023 tw_1025 tw_37 rfl rfl hq_X2_expectNumbersOnce ⟨Nat.le_of_ble_eq_true rfl, Nat.le_of_ble_eq_true rfl⟩) (mk_preC hst hG hK hA hX hS vc_3 hed) rfl rfl hl.1 rfl (lv_room (Nat.le_of_ble_eq_true rfl)) dX2_findVariants_5 ⟨Nat.le_of_ble_eq_true rfl, Nat.le_of_ble_eq_true rfl⟩) hS (fun q _ h => h) (fun q h => h) (fun  G55 t H locs ht hvm hw hB hz1 hk1 hS => ?_)
  have hG : mm D vwCl A G55 H := by rw [← ht]; exact hB
  clear hB hz1 hk1 hvm ht
  obtain ⟨hw1, hw2⟩ := hw
  have k56 : G55 ed = some (.inr (3, [.ref (LA 0), .ref (LA 1), .ref (LA 2), .ref (LA 3), .ref (LA 4), .ref (LA 5), .ref na, .int nc, va_rf iu, .int ((onV v w9).1), va_rf ((onV v w9).2.map (AD 1))])) := by have z := hw1; rw [exN_map] at z; exact z
  have hP57 : EDP cy e0 tk G0 Bx G55 v z LA EA AD PI := hP.mve hBe hed k56 hw2
  have hfr58 : ∀ (x : Nat) (e : va_E), G x = some e → x ≠ ed → (∀ k i, lvV v k → i < lnV v k → x ≠ AD k i) → G55 x = some e := fun x e z9 n1 n2 => by
    have z0 := hfr x e z9 n1 n2
    exact hw2 x e z0 n1
  clear hw1
  have hw59 := hw2
  clear hw2
  refine lv_iconst (v := 0) hx hb dX2_findVariants_8 (by decide) ?_
  refine lv_istore_n (lv' := [(1, .int 0), (0, .ref ed)]) hx hb dX2_findVariants_9 rfl hl (by decide) rfl (fun ls hl => ?_)
  exact hloop v.nV 0 z (onV v w9) (by omega) (fun p hp => absurd hp (by omega)) ⟨rfl, rfl, rfl, rfl, rfl, rfl, rfl, rfl⟩ rfl G55 k56 hP57 hfr58 _ _ hG hS ls (lv_sub hl [1, 0] rfl)
