set_option maxHeartbeats 4000000 in
set_option maxRecDepth 100000 in
theorem c_X2_findGets (l : Launch) (D : va_G) (cy : Nat → ClassId) (A : Nat → Prop) (X : State → Prop) (hst : mk_St A X) (hXT : ∀ U : State, X U → TB U) (e0 : Nat) (tk : Nat → Nat) (hXE : ∀ U : State, X U → ES e0 tk A U) (mi : Nat) (hXL : ∀ U : State, X U → EL e0 mi A U) (ax adK adV : Nat → Nat) (hXX : ∀ U : State, X U → TX ax adK adV tk A U) (G : Nat → Option va_E) (G0 : Nat → Option va_E) (Bx : Nat → Prop) (v : EdV) (z : PtV) (LA EA : Nat → Nat) (AD : Nat → Nat → Nat) (PI : Nat → Nat) (ed na : Nat) (nc : Int32) (iu : Option Nat) (w9 : Int32 × Option Nat) (c9 : Nat) (hP : EDP cy e0 tk G0 Bx G v z LA EA AD PI) (hBe : Bx ed) (hed : G ed = some (.inr (3, [.ref (LA 0), .ref (LA 1), .ref (LA 2), .ref (LA 3), .ref (LA 4), .ref (LA 5), .ref na, .int nc, va_rf iu, .int w9.1, va_rf (w9.2.map (AD 1))]))) (hc9 : c9 < v.nJ) (hz0 : z0O z c9) (hKO : ∀ i, i < v.nO c9 → (v.O c9 i).1 < 35) : Met l yX2_findGets [.code yX2_findGets cX2_findGets 4 none] ({ frames := 4, cells := 0, slots := 0, locals := 120 }) (mk_Pre D vwCl (tyL cy) A X G [.ref ed, .ref (AD 5 c9)]) (va_Qv (fun (G2 : Nat → Option va_E) => ∃ z2 : PtV, EDP cy e0 tk G0 Bx G2 v z2 LA EA AD PI ∧ G2 ed = some (.inr (3, [.ref (LA 0), .ref (LA 1), .ref (LA 2), .ref (LA 3), .ref (LA 4), .ref (LA 5), .ref na, .int nc, va_rf iu, .int ((mO v c9 (v.nO c9) 0 w9).1), va_rf ((mO v c9 (v.nO c9) 0 w9).2.map (AD 1))])) ∧ zOp v AD z2 c9 ∧ (∀ c, c ≠ c9 → z2.fo c = z.fo c ∧ z2.wo c = z.wo c) ∧ (z2.lo = z.lo ∧ z2.vl = z.vl ∧ z2.pc = z.pc ∧ z2.pe = z.pe ∧ zOth z z2) ∧ ∀ (x : Nat) (e : va_E), G x = some e → x ≠ ed → (∀ k i, lvV v k → i < lnV v k → x ≠ AD k i) → G2 x = some e) (mk_B D vwCl A) A) 0 0 A := by
  refine Met.ofW (cc := cX2_findGets) (maxL := 4) (ret := none) (by decide) rfl ?_
  intro p e s m args below meth c s₁ B hml hv
  obtain ⟨rfl, hG, hK, hA, hX⟩ := hv
  have hx := B.exec
  have hb := B.bytes
  have hr := B.returns
  have hlocks := B.notSynchronized
  have hT := hXT s hX
  have hown : s.vm.findClass RX2 = some m.cls := findClass_of_methodNamed B.named
  have hf_X4 : ∀ w ∈ u_ws RX4 TX4 5, w.before ([.ref ed, .ref (AD 5 c9)] : List Value).toArray s = true := tb_list hT fX4
  have hf_X7 : ∀ w ∈ u_ws RX7 TX7 9, w.before ([.ref ed, .ref (AD 5 c9)] : List Value).toArray s = true := tb_list hT fX7
  have hS : va_S A s.heap s.heap [] := va_S.rf
  have hE := hXE s hX
  have hl := lv_entry ([.ref ed, .ref (AD 5 c9)]) (n := 4) (Nat.le_of_ble_eq_true rfl)
  rw [lg_entry_eq]
  generalize (lg_sl ([.ref ed, .ref (AD 5 c9)]) ++ List.replicate (4 - (lg_sl ([.ref ed, .ref (AD 5 c9)])).length) Slot.unset).toArray = ls at hl ⊢
  have hl : lv_has ls 4 [(0, .ref ed), (1, .ref (AD 5 c9))] := hl
  have hQ := hXX s hX
  have hfr : ∀ (x : Nat) (e : va_E), G x = some e → x ≠ ed → (∀ k i, lvV v k → i < lnV v k → x ≠ AD k i) → G x = some e := fun x e z _ _ => z
  have hloop : ∀ (n : Nat) (j9 : Nat) (zz : PtV) (ww : Int32 × Option Nat), (n + j9 = v.nO c9) → (∀ i, i < j9 → zz.fo c9 i = (opS v (v.O c9 i)).map (AD 2) ∧ zz.wo c9 i = (opP v (v.O c9 i)).map (fun y => AD (20 + y.1) y.2)) → (∀ i, j9 ≤ i → zz.fo c9 i = none ∧ zz.wo c9 i = none) → (∀ c, c ≠ c9 → zz.fo c = z.fo c ∧ zz.wo c = z.wo c) → (zz.lo = z.lo ∧ zz.vl = z.vl ∧ zz.pc = z.pc ∧ zz.pe = z.pe ∧ zOth z zz) → (mO v c9 n j9 ww = mO v c9 (v.nO c9) 0 w9) → ∀ (Gv : Nat → Option va_E), (Gv ed = some (.inr (3, [.ref (LA 0), .ref (LA 1), .ref (LA 2), .ref (LA 3), .ref (LA 4), .ref (LA 5), .ref na, .int nc, va_rf iu, .int ww.1, va_rf (ww.2.map (AD 1))]))) → (EDP cy e0 tk G0 Bx Gv v zz LA EA AD PI) → (∀ (x : Nat) (e : va_E), G x = some e → x ≠ ed → (∀ k i, lvV v k → i < lnV v k → x ≠ AD k i) → Gv x = some e) → ∀ (H : Heap) (locs : List Loc), mm D vwCl A Gv H → va_S A s.heap H locs → ∀ ls : Array Slot, lv_has ls 4 [(0, .ref ed), (1, .ref (AD 5 c9)), (2, .int (nI j9))] → W p l e (headSpec [.code yX2_findGets cX2_findGets 4 none] ({ frames := 4, cells := 0, slots := 0, locals := 120 })).room s m ([.ref ed, .ref (AD 5 c9)] : List Value).toArray below meth c H locs 0 0 (MQ below (va_Qv (fun (G2 : Nat → Option va_E) => ∃ z2 : PtV, EDP cy e0 tk G0 Bx G2 v z2 LA EA AD PI ∧ G2 ed = some (.inr (3, [.ref (LA 0), .ref (LA 1), .ref (LA 2), .ref (LA 3), .ref (LA 4), .ref (LA 5), .ref na, .int nc, va_rf iu, .int ((mO v c9 (v.nO c9) 0 w9).1), va_rf ((mO v c9 (v.nO c9) 0 w9).2.map (AD 1))])) ∧ zOp v AD z2 c9 ∧ (∀ c, c ≠ c9 → z2.fo c = z.fo c ∧ z2.wo c = z.wo c) ∧ (z2.lo = z.lo ∧ z2.vl = z.vl ∧ z2.pc = z.pc ∧ z2.pe = z.pe ∧ zOth z z2) ∧ ∀ (x : Nat) (e : va_E), G x = some e → x ≠ ed → (∀ k i, lvV v k → i < lnV v k → x ≠ AD k i) → G2 x = some e) (mk_B D vwCl A) A) ([.ref ed, .ref (AD 5 c9)] : List Value).toArray s 0 0 A) (F0 m 2 ls []) := by
    intro n
    induction n with
    | zero =>
      intro j9 zz ww hjn hz1 hz2 hz5 hz7 hq Gv v_ed hP hfr H locs hG hS ls hl
      have hbb := hP.b
      have hb2 := (hP.lsO hc9).le
      refine lv_iload_n hx hb dX2_findGets_2 rfl (lv_at hl 2 rfl) ?_
      refine lv_aload_n hx hb dX2_findGets_3 rfl (lv_at hl 1 rfl) ?_
      have k21 : Gv (AD 5 c9) = some (.inr (5, [.int ((v.J c9).1), .long ((v.J c9).2), .ref (LA (40 + c9)), .ref (PI c9), .int (zz.jh c9)])) := hP.elJ hc9
      refine mm_getN (v := .ref (LA (40 + c9))) hx hb hf_X4 (fun _ h9 => h9) hown hK hG k21 rfl 2 (by decide) (tb_use hT tw_875) (fun _ h9 => h9) rfl dX2_findGets_4 ?_
      obtain ⟨mo22, h_mo22, -⟩ := id (hP.lsO hc9)
      refine va_calli (va_runV (As := []) (rest := [.int (nI j9)]) ⟨hx, hb, hml, hown, (fun _ h9 => absurd h9 List.not_mem_nil : ∀ w ∈ ([] : List Cond), w.before _ s = true)⟩ (c_LS_size l D cy A X hst hXT e0 tk hXE mi hXL Gv (LA (40 + c9)) (EA (40 + c9)) (v.nO c9) (AD (40 + c9)) (hP.lsO hc9)) (tb_cw (C := RJx4a65c) 0 hT tw_457 tw_113 tw_999 tw_455 tw_456 rfl rfl hq_Jx4a65c_size_8abf5 ⟨Nat.le_of_ble_eq_true rfl, Nat.le_of_ble_eq_true rfl⟩) (mk_preC hst hG hK hA hX hS vc_1 h_mo22) rfl rfl hl.1 rfl (lv_room (Nat.le_of_ble_eq_true rfl)) dX2_findGets_7 ⟨Nat.le_of_ble_eq_true rfl, Nat.le_of_ble_eq_true rfl⟩) hS (fun q _ h => h) (fun q h => h) (fun r23 G24 t H locs ht hvm hw hB hz1 hk1 hS => ?_)
      have hG : mm D vwCl A G24 H := by rw [← ht]; exact hB
      clear hB hz1 hk1 hvm ht
      obtain ⟨rfl, hw⟩ := hw
      rw [hw] at hG
      refine lv_icmp_ge (tgt := 119) hx hb dX2_findGets_10 (by decide) (fun c_10 => ?_) (fun c_10 => ?_)
      · skip
        have hw9 : ww = mO v c9 (v.nO c9) 0 w9 := by rw [← hq]; first | rfl | (rw [show n = 0 by omega]; rfl)
        exact W.vret hx hb hr (fun t ht hW => ⟨⟨_, rfl, ⟨zz, hP, (by rw [← hw9]; exact v_ed), (fun p hp => hz1 p (by omega)), hz5, hz7, hfr⟩, mk_end hG ht⟩, hS.F ht⟩) hS.2.2 dX2_findGets_119
      · skip
        exact absurd (by rw [show j9 = v.nO c9 by omega]; exact Int32.le_refl _) c_10
    | succ n ih =>
      intro j9 zz ww hjn hz1 hz2 hz5 hz7 hq Gv v_ed hP hfr H locs hG hS ls hl
      have hbb := hP.b
      have hb2 := (hP.lsO hc9).le
      refine lv_iload_n hx hb dX2_findGets_2 rfl (lv_at hl 2 rfl) ?_
      refine lv_aload_n hx hb dX2_findGets_3 rfl (lv_at hl 1 rfl) ?_
      have k25 : Gv (AD 5 c9) = some (.inr (5, [.int ((v.J c9).1), .long ((v.J c9).2), .ref (LA (40 + c9)), .ref (PI c9), .int (zz.jh c9)])) := hP.elJ hc9
      refine mm_getN (v := .ref (LA (40 + c9))) hx hb hf_X4 (fun _ h9 => h9) hown hK hG k25 rfl 2 (by decide) (tb_use hT tw_875) (fun _ h9 => h9) rfl dX2_findGets_4 ?_
      obtain ⟨mo26, h_mo26, -⟩ := id (hP.lsO hc9)
      refine va_calli (va_runV (As := []) (rest := [.int (nI j9)]) ⟨hx, hb, hml, hown, (fun _ h9 => absurd h9 List.not_mem_nil : ∀ w ∈ ([] : List Cond), w.before _ s = true)⟩ (c_LS_size l D cy A X hst hXT e0 tk hXE mi hXL Gv (LA (40 + c9)) (EA (40 + c9)) (v.nO c9) (AD (40 + c9)) (hP.lsO hc9)) (tb_cw (C := RJx4a65c) 0 hT tw_457 tw_113 tw_999 tw_455 tw_456 rfl rfl hq_Jx4a65c_size_8abf5 ⟨Nat.le_of_ble_eq_true rfl, Nat.le_of_ble_eq_true rfl⟩) (mk_preC hst hG hK hA hX hS vc_1 h_mo26) rfl rfl hl.1 rfl (lv_room (Nat.le_of_ble_eq_true rfl)) dX2_findGets_7 ⟨Nat.le_of_ble_eq_true rfl, Nat.le_of_ble_eq_true rfl⟩) hS (fun q _ h => h) (fun q h => h) (fun r27 G28 t H locs ht hvm hw hB hz1 hk1 hS => ?_)
      have hG : mm D vwCl A G28 H := by rw [← ht]; exact hB
      clear hB hz1 hk1 hvm ht
      obtain ⟨rfl, hw⟩ := hw
      rw [hw] at hG
      refine lv_icmp_ge (tgt := 119) hx hb dX2_findGets_10 (by decide) (fun c_10 => ?_) (fun c_10 => ?_)
      · skip
        exact absurd c_10 (nI_ge (by omega) (by omega))
      · skip
        refine lv_aload_n hx hb dX2_findGets_13 rfl (lv_at hl 1 rfl) ?_
        refine mm_getN (v := .ref (LA (40 + c9))) hx hb hf_X4 (fun _ h9 => h9) hown hK hG k25 rfl 2 (by decide) (tb_use hT tw_875) (fun _ h9 => h9) rfl dX2_findGets_14 ?_
        refine lv_iload_n hx hb dX2_findGets_17 rfl (lv_at hl 2 rfl) ?_
        have hj29 : j9 < (v.nO c9) := by omega
        obtain ⟨mo30, h_mo30, -⟩ := id (hP.lsO hc9)
        refine va_callq (va_runV (As := [.int (nI j9)]) (rest := []) ⟨hx, hb, hml, hown, (fun _ h9 => absurd h9 List.not_mem_nil : ∀ w ∈ ([] : List Cond), w.before _ s = true)⟩ (c_LS_get l D cy A X hst hXT e0 tk hXE mi hXL Gv (LA (40 + c9)) (EA (40 + c9)) (v.nO c9) (AD (40 + c9)) j9 (hP.lsO hc9) hj29) (tb_cw (C := RJx4a65c) 1 hT tw_942 tw_113 tw_1000 tw_940 tw_941 rfl rfl hq_Jx4a65c_get_915e3 ⟨Nat.le_of_ble_eq_true rfl, Nat.le_of_ble_eq_true rfl⟩) (mk_preC hst hG hK hA hX hS vc_1 h_mo30) rfl rfl hl.1 rfl (lv_room (Nat.le_of_ble_eq_true rfl)) dX2_findGets_18 ⟨Nat.le_of_ble_eq_true rfl, Nat.le_of_ble_eq_true rfl⟩) hS (fun q _ h => h) (fun q h => h) (fun r31 G32 t H locs ht hvm hw hB hz1 hk1 hS => ?_)
        have hG : mm D vwCl A G32 H := by rw [← ht]; exact hB
        clear hB hz1 hk1 hvm ht
        obtain ⟨rfl, hw⟩ := hw
        rw [hw] at hG
        refine W.eq (g2 := F0 m 21 ls [.ref (AD (40 + c9) j9)]) rfl ?_
        have k33 : Gv (AD (40 + c9) j9) = some (.inr (8, [.ref (tk (v.O c9 j9).1), .long ((v.O c9 j9).2.1), .long ((v.O c9 j9).2.2.1), .int ((v.O c9 j9).2.2.2.1), va_rf (zz.fo c9 j9), .long ((v.O c9 j9).2.2.2.2.1), .int ((v.O c9 j9).2.2.2.2.2.1), va_rf (zz.wo c9 j9), .int ((v.O c9 j9).2.2.2.2.2.2)])) := hP.elO hc9 hj29
        refine va_castS hx hb hown (tb_use hT tw_1064) (hK.1 8 _ rfl).2 (va_recv hK (hG.one k33) (q := (RX7, TX7, 9)) rfl (q0 := 0) rfl) dX2_findGets_21 ?_
        refine lv_astore_n (lv' := [(3, .ref (AD (40 + c9) j9)), (0, .ref ed), (1, .ref (AD 5 c9)), (2, .int (nI j9))]) hx hb dX2_findGets_24 rfl hl (by decide) rfl (fun ls hl => ?_)
        refine lv_aload_n hx hb dX2_findGets_25 rfl (lv_at hl 0 rfl) ?_
        refine mm_getN (v := .ref (tk (v.O c9 j9).1)) hx hb hf_X7 (fun _ h9 => h9) hown hK hG k33 rfl 0 (by decide) (tb_use hT tw_902) (fun _ h9 => h9) rfl dX2_findGets_26 ?_
        refine va_gets (v := .ref (tk 26)) hx hb (show va_Z "DescribeText$Token" "GET" "LDescribeText$Token;" (.ref (tk 26)) A s s.heap from (hE.2.1 26 (by decide)).1) hS hown (tb_use hT tw_1065) (fun _ h9 => h9) dX2_findGets_29 ?_
        refine lv_acmp_ne (rx := some (tk (v.O c9 j9).1)) (ry := some (tk 26)) (tgt := 113) hx hb dX2_findGets_32 (by decide) (fun c_32 => ?_) (fun c_32 => ?_)
        · skip
          obtain ⟨x34, ex34⟩ : ∃ y : Int32, y = (nI j9) + 1 := ⟨_, rfl⟩
          refine lv_iinc (v := x34) (lv' := [(2, .int x34), (3, .ref (AD (40 + c9) j9)), (0, .ref ed), (1, .ref (AD 5 c9))]) hx hb dX2_findGets_113 hl (k := 3) rfl (by rw [ex34]; rfl) (by decide) rfl (fun ls hl => ?_)
          refine lv_goto (tgt := 2) hx hb dX2_findGets_116 (by decide) ?_
          rw [show x34 = nI (j9 + 1) by rw [ex34]; exact (nI_succ j9).symm] at hl
          have hk9 : ¬ (v.O c9 j9).1 = 26 := fun z => c_32 (by rw [z])
          have hs9 : oS v c9 j9 ww = ww := by rw [oS, if_neg hk9]
          have ho1 : opS v (v.O c9 j9) = none := by rw [opS, if_neg hk9]
          have ho2 : opP v (v.O c9 j9) = none := by rw [opP, ho1]
          have hz3 : ∀ i, i < j9 + 1 → zz.fo c9 i = (opS v (v.O c9 i)).map (AD 2) ∧ zz.wo c9 i = (opP v (v.O c9 i)).map (fun y => AD (20 + y.1) y.2) := fun i hi => by by_cases e9 : i = j9; rw [e9, ho1, ho2]; exact hz2 j9 (Nat.le_refl _); exact hz1 i (by omega)
          have hz4 : ∀ i, j9 + 1 ≤ i → zz.fo c9 i = none ∧ zz.wo c9 i = none := fun i hi => hz2 i (by omega)
          have hz6 := hz5
          have hq2 : mO v c9 n (j9 + 1) ww = mO v c9 (v.nO c9) 0 w9 := by rw [← hs9]; exact hq
          exact ih (j9 + 1) zz ww (by omega) hz3 hz4 hz6 hz7 hq2 Gv v_ed hP hfr _ _ hG hS ls (lv_sub hl [2, 3, 0] rfl)
        · skip
          refine lv_aload_n hx hb dX2_findGets_35 rfl (lv_at hl 0 rfl) ?_
          refine lv_aload_n hx hb dX2_findGets_36 rfl (lv_at hl 1 rfl) ?_
          refine lv_aload_n hx hb dX2_findGets_37 rfl (lv_at hl 0 rfl) ?_
          refine mm_getN (v := .long ((v.O c9 j9).2.2.1)) hx hb hf_X7 (fun _ h9 => h9) hown hK hG k33 rfl 2 (by decide) (tb_use hT tw_906) (fun _ h9 => h9) rfl dX2_findGets_38 ?_
          refine va_callq (va_runV (As := [.long ((v.O c9 j9).2.2.1)]) (rest := [.ref (AD (40 + c9) j9)]) ⟨hx, hb, hml, hown, (fun _ h9 => absurd h9 List.not_mem_nil : ∀ w ∈ ([] : List Cond), w.before _ s = true)⟩ (c_X2_serviceNamed l D cy A X hst hXT e0 tk hXE mi hXL Gv ed (LA 0) (LA 1) (LA 2) (LA 3) (LA 4) (LA 5) na nc ww.1 iu (ww.2.map (AD 1)) (EA 2) v.nS (AD 2) (fun j => seF j (v.S j).2 (AD 1 (v.S j).1) (LA (20 + j))) (fun j => (v.S j).2.2.1) ((v.O c9 j9).2.2.1) v_ed hP.lsS (by have := hP.b; omega) hP.nmS) (tb_cw (C := RX2) 1 hT tw_1069 tw_110 tw_1066 tw_1068 tw_43 rfl rfl hq_X2_serviceNamed ⟨Nat.le_of_ble_eq_true rfl, Nat.le_of_ble_eq_true rfl⟩) (mk_preC hst hG hK hA hX hS vc_3 v_ed) rfl rfl hl.1 rfl (lv_room (Nat.le_of_ble_eq_true rfl)) dX2_findGets_41 ⟨Nat.le_of_ble_eq_true rfl, Nat.le_of_ble_eq_true rfl⟩) hS (fun q _ h => h) (fun q h => h) (fun r35 G36 t H locs ht hvm hw hB hz1 hk1 hS => ?_)
          have hG : mm D vwCl A G36 H := by rw [← ht]; exact hB
          clear hB hz1 hk1 hvm ht
          obtain ⟨er35, hw⟩ := hw
          rw [hw] at hG
          have fr35 : r35 = (svN v ((v.O c9 j9).2.2.1)).map (AD 2) := er35
          rw [fr35]
          refine mm_putN (v := va_rf ((svN v ((v.O c9 j9).2.2.1)).map (AD 2))) (ty := .object "DescribeText$Service") hx hb hf_X7 (fun _ h9 => h9) tyX7 tyX7_ok nmX7 hown hK hG hS k33 rfl 4 (by decide) (tb_use hT tw_911) (fun _ h9 => h9) rfl (by decide +kernel) (nar_rf _) (fits_rf _) (Nat.le_of_ble_eq_true rfl) dX2_findGets_44 (fun H locs hG hS => ?_)
          obtain ⟨G37, eG37⟩ : ∃ g, g = mm_set Gv (AD (40 + c9) j9) (.inr (8, [.ref (tk (v.O c9 j9).1), .long ((v.O c9 j9).2.1), .long ((v.O c9 j9).2.2.1), .int ((v.O c9 j9).2.2.2.1), va_rf ((svN v ((v.O c9 j9).2.2.1)).map (AD 2)), .long ((v.O c9 j9).2.2.2.2.1), .int ((v.O c9 j9).2.2.2.2.2.1), va_rf (zz.wo c9 j9), .int ((v.O c9 j9).2.2.2.2.2.2)])) := ⟨_, rfl⟩
          have hG : mm D vwCl A G37 H := by rw [eG37]; exact hG
          have hP38 : EDP cy e0 tk G0 Bx G37 v (zz.s_fo c9 j9 ((svN v ((v.O c9 j9).2.2.1)).map (AD 2))) LA EA AD PI := by rw [eG37]; exact hP.put_fo hc9 hj29
          have hz39 : (zz.s_fo c9 j9 ((svN v ((v.O c9 j9).2.2.1)).map (AD 2))).fo c9 j9 = ((svN v ((v.O c9 j9).2.2.1)).map (AD 2)) := by show up1 zz.fo c9 (up1 (zz.fo c9) j9 ((svN v ((v.O c9 j9).2.2.1)).map (AD 2))) c9 j9 = _; rw [up1_eq, up1_eq]
          have k40 : G37 ed = some (.inr (3, [.ref (LA 0), .ref (LA 1), .ref (LA 2), .ref (LA 3), .ref (LA 4), .ref (LA 5), .ref na, .int nc, va_rf iu, .int ww.1, va_rf (ww.2.map (AD 1))])) := by rw [eG37]; exact mm_set_of v_ed (mm_ne_oo v_ed k33 (by decide))
          have k41 : G37 (AD 5 c9) = some (.inr (5, [.int ((v.J c9).1), .long ((v.J c9).2), .ref (LA (40 + c9)), .ref (PI c9), .int (zz.jh c9)])) := by rw [eG37]; exact mm_set_of k25 (mm_ne_oo k25 k33 (by decide))
          have k42 : G37 (AD (40 + c9) j9) = some (.inr (8, [.ref (tk (v.O c9 j9).1), .long ((v.O c9 j9).2.1), .long ((v.O c9 j9).2.2.1), .int ((v.O c9 j9).2.2.2.1), va_rf ((svN v ((v.O c9 j9).2.2.1)).map (AD 2)), .long ((v.O c9 j9).2.2.2.2.1), .int ((v.O c9 j9).2.2.2.2.2.1), va_rf (zz.wo c9 j9), .int ((v.O c9 j9).2.2.2.2.2.2)])) := by rw [eG37]; exact mm_set_self
          have hfr43 : ∀ (x : Nat) (e : va_E), G x = some e → x ≠ ed → (∀ k i, lvV v k → i < lnV v k → x ≠ AD k i) → G37 x = some e := fun x e z9 n1 n2 => by
            have z0 := hfr x e z9 n1 n2
            rw [eG37]; exact mm_set_of z0 (n2 (40 + c9) j9 (lv_O hc9) (by rw [ln_O]; exact hj29))
          refine lv_aload_n hx hb dX2_findGets_47 rfl (lv_at hl 1 rfl) ?_
          refine lv_aload_n hx hb dX2_findGets_48 rfl (lv_at hl 0 rfl) ?_
          refine mm_getN (v := va_rf ((svN v ((v.O c9 j9).2.2.1)).map (AD 2))) hx hb hf_X7 (fun _ h9 => h9) hown hK hG k42 rfl 4 (by decide) (tb_use hT tw_911) (fun _ h9 => h9) rfl dX2_findGets_49 ?_
          obtain ⟨y_hf44, hf44⟩ : ∃ y, svN v ((v.O c9 j9).2.2.1) = y := ⟨_, rfl⟩
          cases y_hf44 with
          | none =>
            refine W.eq (g2 := F0 m 52 ls [.null, .ref ed]) (by first | rfl | (rw [hf44]; rfl)) ?_
            refine lv_ifnullN (tgt := 59) hx hb dX2_findGets_52 (by decide) ?_
            refine lv_iconst (v := 0) hx hb dX2_findGets_59 (by decide) ?_
            refine lv_aload_n hx hb dX2_findGets_60 rfl (lv_at hl 0 rfl) ?_
            refine mm_getN (v := .int ((v.O c9 j9).2.2.2.1)) hx hb hf_X7 (fun _ h9 => h9) hown hK hG k42 rfl 3 (by decide) (tb_use hT tw_908) (fun _ h9 => h9) rfl dX2_findGets_61 ?_
            refine va_callv (va_runV (As := [.int 0, .int ((v.O c9 j9).2.2.2.1)]) (rest := []) ⟨hx, hb, hml, hown, (fun _ h9 => absurd h9 List.not_mem_nil : ∀ w ∈ ([] : List Cond), w.before _ s = true)⟩ (c_ED_expect l D cy A X hst hXT e0 tk hXE G37 LA AD ed na nc iu ww false ((v.O c9 j9).2.2.2.1) k40) (tb_cw (C := RX2) 2 hT tw_1009 tw_110 tw_1006 tw_1008 tw_34 rfl rfl hq_X2_expect ⟨Nat.le_of_ble_eq_true rfl, Nat.le_of_ble_eq_true rfl⟩) (mk_preC hst hG hK hA hX hS vc_3 k40) rfl rfl hl.1 rfl (lv_room (Nat.le_of_ble_eq_true rfl)) dX2_findGets_64 ⟨Nat.le_of_ble_eq_true rfl, Nat.le_of_ble_eq_true rfl⟩) hS (fun q _ h => h) (fun q h => h) (fun  G46 t H locs ht hvm hw hB hz1 hk1 hS => ?_)
            have hG : mm D vwCl A G46 H := by rw [← ht]; exact hB
            clear hB hz1 hk1 hvm ht
            have k47 : G46 ed = some (.inr (3, [.ref (LA 0), .ref (LA 1), .ref (LA 2), .ref (LA 3), .ref (LA 4), .ref (LA 5), .ref na, .int nc, va_rf iu, .int ((ex1 false ((v.O c9 j9).2.2.2.1) ww).1), va_rf ((ex1 false ((v.O c9 j9).2.2.2.1) ww).2.map (AD 1))])) := by rw [hw]; exact mm_set_self
            have hP48 : EDP cy e0 tk G0 Bx G46 v (zz.s_fo c9 j9 ((svN v ((v.O c9 j9).2.2.1)).map (AD 2))) LA EA AD PI := hP38.mve hBe k40 k47 (fun x e h1 n1 => by rw [hw]; exact mm_set_of h1 n1)
            have k49 : G46 (AD 5 c9) = some (.inr (5, [.int ((v.J c9).1), .long ((v.J c9).2), .ref (LA (40 + c9)), .ref (PI c9), .int (zz.jh c9)])) := by rw [hw]; exact mm_set_of k41 (mm_ne_oo k41 k40 (by decide))
            have k50 : G46 (AD (40 + c9) j9) = some (.inr (8, [.ref (tk (v.O c9 j9).1), .long ((v.O c9 j9).2.1), .long ((v.O c9 j9).2.2.1), .int ((v.O c9 j9).2.2.2.1), va_rf ((svN v ((v.O c9 j9).2.2.1)).map (AD 2)), .long ((v.O c9 j9).2.2.2.2.1), .int ((v.O c9 j9).2.2.2.2.2.1), va_rf (zz.wo c9 j9), .int ((v.O c9 j9).2.2.2.2.2.2)])) := by rw [hw]; exact mm_set_of k42 (mm_ne_oo k42 k40 (by decide))
            have hfr51 : ∀ (x : Nat) (e : va_E), G x = some e → x ≠ ed → (∀ k i, lvV v k → i < lnV v k → x ≠ AD k i) → G46 x = some e := fun x e z9 n1 n2 => by
              have z0 := hfr43 x e z9 n1 n2
              rw [hw]; exact mm_set_of z0 n1
            clear hw
            refine lv_aload_n hx hb dX2_findGets_67 rfl (lv_at hl 0 rfl) ?_
            refine lv_aload_n hx hb dX2_findGets_68 rfl (lv_at hl 0 rfl) ?_
            refine mm_getN (v := va_rf ((svN v ((v.O c9 j9).2.2.1)).map (AD 2))) hx hb hf_X7 (fun _ h9 => h9) hown hK hG k50 rfl 4 (by decide) (tb_use hT tw_911) (fun _ h9 => h9) rfl dX2_findGets_69 ?_
            refine W.eq (g2 := F0 m 72 ls [.null, .ref (AD (40 + c9) j9)]) (by first | rfl | (rw [hf44]; rfl)) ?_
            refine lv_ifnonnullN hx hb dX2_findGets_72 ?_
            refine lv_null hx hb dX2_findGets_75 ?_
            refine lv_goto (tgt := 90) hx hb dX2_findGets_76 (by decide) ?_
            refine mm_putN (v := .null) (ty := .object "DescribeText$Parameter") hx hb hf_X7 (fun _ h9 => h9) tyX7 tyX7_ok nmX7 hown hK hG hS k50 rfl 7 (by decide) (tb_use hT tw_917) (fun _ h9 => h9) rfl (by decide +kernel) rfl rfl (Nat.le_of_ble_eq_true rfl) dX2_findGets_90 (fun H locs hG hS => ?_)
            obtain ⟨G52, eG52⟩ : ∃ g, g = mm_set G46 (AD (40 + c9) j9) (.inr (8, [.ref (tk (v.O c9 j9).1), .long ((v.O c9 j9).2.1), .long ((v.O c9 j9).2.2.1), .int ((v.O c9 j9).2.2.2.1), va_rf ((svN v ((v.O c9 j9).2.2.1)).map (AD 2)), .long ((v.O c9 j9).2.2.2.2.1), .int ((v.O c9 j9).2.2.2.2.2.1), .null, .int ((v.O c9 j9).2.2.2.2.2.2)])) := ⟨_, rfl⟩
            have hG : mm D vwCl A G52 H := by rw [eG52]; exact hG
            have hP53 : EDP cy e0 tk G0 Bx G52 v ((zz.s_fo c9 j9 ((svN v ((v.O c9 j9).2.2.1)).map (AD 2))).s_wo c9 j9 none) LA EA AD PI := by rw [eG52]; first | exact hP48.put_wo hc9 hj29 | (have z9 := hP48.put_wo hc9 hj29 (x := none); rw [hz39] at z9; exact z9)
            have hz54 : ((zz.s_fo c9 j9 ((svN v ((v.O c9 j9).2.2.1)).map (AD 2))).s_wo c9 j9 none).wo c9 j9 = none := by show up1 (zz.s_fo c9 j9 ((svN v ((v.O c9 j9).2.2.1)).map (AD 2))).wo c9 (up1 ((zz.s_fo c9 j9 ((svN v ((v.O c9 j9).2.2.1)).map (AD 2))).wo c9) j9 none) c9 j9 = _; rw [up1_eq, up1_eq]
            have k55 : G52 ed = some (.inr (3, [.ref (LA 0), .ref (LA 1), .ref (LA 2), .ref (LA 3), .ref (LA 4), .ref (LA 5), .ref na, .int nc, va_rf iu, .int ((ex1 false ((v.O c9 j9).2.2.2.1) ww).1), va_rf ((ex1 false ((v.O c9 j9).2.2.2.1) ww).2.map (AD 1))])) := by rw [eG52]; exact mm_set_of k47 (mm_ne_oo k47 k50 (by decide))
            have k56 : G52 (AD 5 c9) = some (.inr (5, [.int ((v.J c9).1), .long ((v.J c9).2), .ref (LA (40 + c9)), .ref (PI c9), .int (zz.jh c9)])) := by rw [eG52]; exact mm_set_of k49 (mm_ne_oo k49 k50 (by decide))
            have k57 : G52 (AD (40 + c9) j9) = some (.inr (8, [.ref (tk (v.O c9 j9).1), .long ((v.O c9 j9).2.1), .long ((v.O c9 j9).2.2.1), .int ((v.O c9 j9).2.2.2.1), va_rf ((svN v ((v.O c9 j9).2.2.1)).map (AD 2)), .long ((v.O c9 j9).2.2.2.2.1), .int ((v.O c9 j9).2.2.2.2.2.1), .null, .int ((v.O c9 j9).2.2.2.2.2.2)])) := by rw [eG52]; exact mm_set_self
            have hfr58 : ∀ (x : Nat) (e : va_E), G x = some e → x ≠ ed → (∀ k i, lvV v k → i < lnV v k → x ≠ AD k i) → G52 x = some e := fun x e z9 n1 n2 => by
              have z0 := hfr51 x e z9 n1 n2
              rw [eG52]; exact mm_set_of z0 (n2 (40 + c9) j9 (lv_O hc9) (by rw [ln_O]; exact hj29))
            refine lv_aload_n hx hb dX2_findGets_93 rfl (lv_at hl 1 rfl) ?_
            refine lv_aload_n hx hb dX2_findGets_94 rfl (lv_at hl 0 rfl) ?_
            refine mm_getN (v := .null) hx hb hf_X7 (fun _ h9 => h9) hown hK hG k57 rfl 7 (by decide) (tb_use hT tw_917) (fun _ h9 => h9) rfl dX2_findGets_95 ?_
            refine lv_ifnullN (tgt := 105) hx hb dX2_findGets_98 (by decide) ?_
            refine lv_iconst (v := 0) hx hb dX2_findGets_105 (by decide) ?_
            refine lv_aload_n hx hb dX2_findGets_106 rfl (lv_at hl 0 rfl) ?_
            refine mm_getN (v := .int ((v.O c9 j9).2.2.2.2.2.1)) hx hb hf_X7 (fun _ h9 => h9) hown hK hG k57 rfl 6 (by decide) (tb_use hT tw_914) (fun _ h9 => h9) rfl dX2_findGets_107 ?_
            refine va_callv (va_runV (As := [.int 0, .int ((v.O c9 j9).2.2.2.2.2.1)]) (rest := []) ⟨hx, hb, hml, hown, (fun _ h9 => absurd h9 List.not_mem_nil : ∀ w ∈ ([] : List Cond), w.before _ s = true)⟩ (c_ED_expect l D cy A X hst hXT e0 tk hXE G52 LA AD ed na nc iu (ex1 false ((v.O c9 j9).2.2.2.1) ww) false ((v.O c9 j9).2.2.2.2.2.1) k55) (tb_cw (C := RX2) 2 hT tw_1009 tw_110 tw_1006 tw_1008 tw_34 rfl rfl hq_X2_expect ⟨Nat.le_of_ble_eq_true rfl, Nat.le_of_ble_eq_true rfl⟩) (mk_preC hst hG hK hA hX hS vc_3 k55) rfl rfl hl.1 rfl (lv_room (Nat.le_of_ble_eq_true rfl)) dX2_findGets_110 ⟨Nat.le_of_ble_eq_true rfl, Nat.le_of_ble_eq_true rfl⟩) hS (fun q _ h => h) (fun q h => h) (fun  G59 t H locs ht hvm hw hB hz1 hk1 hS => ?_)
            have hG : mm D vwCl A G59 H := by rw [← ht]; exact hB
            clear hB hz1 hk1 hvm ht
            have k60 : G59 ed = some (.inr (3, [.ref (LA 0), .ref (LA 1), .ref (LA 2), .ref (LA 3), .ref (LA 4), .ref (LA 5), .ref na, .int nc, va_rf iu, .int ((ex1 false ((v.O c9 j9).2.2.2.2.2.1) (ex1 false ((v.O c9 j9).2.2.2.1) ww)).1), va_rf ((ex1 false ((v.O c9 j9).2.2.2.2.2.1) (ex1 false ((v.O c9 j9).2.2.2.1) ww)).2.map (AD 1))])) := by rw [hw]; exact mm_set_self
            have hP61 : EDP cy e0 tk G0 Bx G59 v ((zz.s_fo c9 j9 ((svN v ((v.O c9 j9).2.2.1)).map (AD 2))).s_wo c9 j9 none) LA EA AD PI := hP53.mve hBe k55 k60 (fun x e h1 n1 => by rw [hw]; exact mm_set_of h1 n1)
            have k62 : G59 (AD 5 c9) = some (.inr (5, [.int ((v.J c9).1), .long ((v.J c9).2), .ref (LA (40 + c9)), .ref (PI c9), .int (zz.jh c9)])) := by rw [hw]; exact mm_set_of k56 (mm_ne_oo k56 k55 (by decide))
            have k63 : G59 (AD (40 + c9) j9) = some (.inr (8, [.ref (tk (v.O c9 j9).1), .long ((v.O c9 j9).2.1), .long ((v.O c9 j9).2.2.1), .int ((v.O c9 j9).2.2.2.1), va_rf ((svN v ((v.O c9 j9).2.2.1)).map (AD 2)), .long ((v.O c9 j9).2.2.2.2.1), .int ((v.O c9 j9).2.2.2.2.2.1), .null, .int ((v.O c9 j9).2.2.2.2.2.2)])) := by rw [hw]; exact mm_set_of k57 (mm_ne_oo k57 k55 (by decide))
            have hfr64 : ∀ (x : Nat) (e : va_E), G x = some e → x ≠ ed → (∀ k i, lvV v k → i < lnV v k → x ≠ AD k i) → G59 x = some e := fun x e z9 n1 n2 => by
              have z0 := hfr58 x e z9 n1 n2
              rw [hw]; exact mm_set_of z0 n1
            clear hw
            obtain ⟨x65, ex65⟩ : ∃ y : Int32, y = (nI j9) + 1 := ⟨_, rfl⟩
            refine lv_iinc (v := x65) (lv' := [(2, .int x65), (3, .ref (AD (40 + c9) j9)), (0, .ref ed), (1, .ref (AD 5 c9))]) hx hb dX2_findGets_113 hl (k := 3) rfl (by rw [ex65]; rfl) (by decide) rfl (fun ls hl => ?_)
            refine lv_goto (tgt := 2) hx hb dX2_findGets_116 (by decide) ?_
            rw [show x65 = nI (j9 + 1) by rw [ex65]; exact (nI_succ j9).symm] at hl
            have hk9 : (v.O c9 j9).1 = 26 := tk_ne hE (hKO j9 (by omega)) (by decide) c_32
            have ho1 : opS v (v.O c9 j9) = none := by rw [opS, if_pos hk9, hf44]
            have ho2 : opP v (v.O c9 j9) = none := by rw [opP, ho1]
            have hs9 : oS v c9 j9 ww = (ex1 false ((v.O c9 j9).2.2.2.2.2.1) (ex1 false ((v.O c9 j9).2.2.2.1) ww)) := by rw [oS, if_pos hk9, ho1, ho2]; rfl
            have hz3 : ∀ i, i < j9 + 1 → ((zz.s_fo c9 j9 ((svN v ((v.O c9 j9).2.2.1)).map (AD 2))).s_wo c9 j9 none).fo c9 i = (opS v (v.O c9 i)).map (AD 2) ∧ ((zz.s_fo c9 j9 ((svN v ((v.O c9 j9).2.2.1)).map (AD 2))).s_wo c9 j9 none).wo c9 i = (opP v (v.O c9 i)).map (fun y => AD (20 + y.1) y.2) := by
              intro i hi
              by_cases e9 : i = j9
              · rw [e9, ho1, ho2]; refine ⟨?_, ?_⟩; show up1 zz.fo c9 _ c9 j9 = _; rw [up1_eq, up1_eq, hf44]; show up1 zz.wo c9 _ c9 j9 = _; rw [up1_eq, up1_eq]; try rfl
              · rw [← (hz1 i (by omega)).1, ← (hz1 i (by omega)).2]; refine ⟨?_, ?_⟩; show up1 zz.fo c9 _ c9 i = _; rw [up1_eq, up1_ne e9]; show up1 zz.wo c9 _ c9 i = _; rw [up1_eq, up1_ne e9]; try rfl
            have hz4 : ∀ i, j9 + 1 ≤ i → ((zz.s_fo c9 j9 ((svN v ((v.O c9 j9).2.2.1)).map (AD 2))).s_wo c9 j9 none).fo c9 i = none ∧ ((zz.s_fo c9 j9 ((svN v ((v.O c9 j9).2.2.1)).map (AD 2))).s_wo c9 j9 none).wo c9 i = none := fun i hi => ⟨by show up1 zz.fo c9 _ c9 i = _; rw [up1_eq, up1_ne (by omega)]; exact (hz2 i (by omega)).1, by show up1 zz.wo c9 _ c9 i = _; rw [up1_eq, up1_ne (by omega)]; exact (hz2 i (by omega)).2⟩
            have hz6 : ∀ c, c ≠ c9 → ((zz.s_fo c9 j9 ((svN v ((v.O c9 j9).2.2.1)).map (AD 2))).s_wo c9 j9 none).fo c = z.fo c ∧ ((zz.s_fo c9 j9 ((svN v ((v.O c9 j9).2.2.1)).map (AD 2))).s_wo c9 j9 none).wo c = z.wo c := fun c hc => by rw [← (hz5 c hc).1, ← (hz5 c hc).2]; exact ⟨up1_ne hc, up1_ne hc⟩
            have hq2 : mO v c9 n (j9 + 1) (ex1 false ((v.O c9 j9).2.2.2.2.2.1) (ex1 false ((v.O c9 j9).2.2.2.1) ww)) = mO v c9 (v.nO c9) 0 w9 := by rw [← hs9]; exact hq
            exact ih (j9 + 1) ((zz.s_fo c9 j9 ((svN v ((v.O c9 j9).2.2.1)).map (AD 2))).s_wo c9 j9 none) (ex1 false ((v.O c9 j9).2.2.2.2.2.1) (ex1 false ((v.O c9 j9).2.2.2.1) ww)) (by omega) hz3 hz4 hz6 hz7 hq2 G59 k60 hP61 hfr64 _ _ hG hS ls (lv_sub hl [2, 3, 0] rfl)
          | some j45 =>
            have hj66 := svN_lt hf44
            refine W.eq (g2 := F0 m 52 ls [.ref (AD 2 j45), .ref ed]) (by first | rfl | (rw [hf44]; rfl)) ?_
            refine lv_ifnull hx hb dX2_findGets_52 ?_
            refine lv_iconst (v := 1) hx hb dX2_findGets_55 (by decide) ?_
            refine lv_goto (tgt := 60) hx hb dX2_findGets_56 (by decide) ?_
            refine lv_aload_n hx hb dX2_findGets_60 rfl (lv_at hl 0 rfl) ?_
            refine mm_getN (v := .int ((v.O c9 j9).2.2.2.1)) hx hb hf_X7 (fun _ h9 => h9) hown hK hG k42 rfl 3 (by decide) (tb_use hT tw_908) (fun _ h9 => h9) rfl dX2_findGets_61 ?_
            refine va_callv (va_runV (As := [.int 1, .int ((v.O c9 j9).2.2.2.1)]) (rest := []) ⟨hx, hb, hml, hown, (fun _ h9 => absurd h9 List.not_mem_nil : ∀ w ∈ ([] : List Cond), w.before _ s = true)⟩ (c_ED_expect l D cy A X hst hXT e0 tk hXE G37 LA AD ed na nc iu ww true ((v.O c9 j9).2.2.2.1) k40) (tb_cw (C := RX2) 2 hT tw_1009 tw_110 tw_1006 tw_1008 tw_34 rfl rfl hq_X2_expect ⟨Nat.le_of_ble_eq_true rfl, Nat.le_of_ble_eq_true rfl⟩) (mk_preC hst hG hK hA hX hS vc_3 k40) rfl rfl hl.1 rfl (lv_room (Nat.le_of_ble_eq_true rfl)) dX2_findGets_64 ⟨Nat.le_of_ble_eq_true rfl, Nat.le_of_ble_eq_true rfl⟩) hS (fun q _ h => h) (fun q h => h) (fun  G67 t H locs ht hvm hw hB hz1 hk1 hS => ?_)
            have hG : mm D vwCl A G67 H := by rw [← ht]; exact hB
            clear hB hz1 hk1 hvm ht
            have k68 : G67 ed = some (.inr (3, [.ref (LA 0), .ref (LA 1), .ref (LA 2), .ref (LA 3), .ref (LA 4), .ref (LA 5), .ref na, .int nc, va_rf iu, .int ((ex1 true ((v.O c9 j9).2.2.2.1) ww).1), va_rf ((ex1 true ((v.O c9 j9).2.2.2.1) ww).2.map (AD 1))])) := by rw [hw]; exact mm_set_self
            have hP69 : EDP cy e0 tk G0 Bx G67 v (zz.s_fo c9 j9 ((svN v ((v.O c9 j9).2.2.1)).map (AD 2))) LA EA AD PI := hP38.mve hBe k40 k68 (fun x e h1 n1 => by rw [hw]; exact mm_set_of h1 n1)
            have k70 : G67 (AD 5 c9) = some (.inr (5, [.int ((v.J c9).1), .long ((v.J c9).2), .ref (LA (40 + c9)), .ref (PI c9), .int (zz.jh c9)])) := by rw [hw]; exact mm_set_of k41 (mm_ne_oo k41 k40 (by decide))
            have k71 : G67 (AD (40 + c9) j9) = some (.inr (8, [.ref (tk (v.O c9 j9).1), .long ((v.O c9 j9).2.1), .long ((v.O c9 j9).2.2.1), .int ((v.O c9 j9).2.2.2.1), va_rf ((svN v ((v.O c9 j9).2.2.1)).map (AD 2)), .long ((v.O c9 j9).2.2.2.2.1), .int ((v.O c9 j9).2.2.2.2.2.1), va_rf (zz.wo c9 j9), .int ((v.O c9 j9).2.2.2.2.2.2)])) := by rw [hw]; exact mm_set_of k42 (mm_ne_oo k42 k40 (by decide))
            have hfr72 : ∀ (x : Nat) (e : va_E), G x = some e → x ≠ ed → (∀ k i, lvV v k → i < lnV v k → x ≠ AD k i) → G67 x = some e := fun x e z9 n1 n2 => by
              have z0 := hfr43 x e z9 n1 n2
              rw [hw]; exact mm_set_of z0 n1
            clear hw
            refine lv_aload_n hx hb dX2_findGets_67 rfl (lv_at hl 0 rfl) ?_
            refine lv_aload_n hx hb dX2_findGets_68 rfl (lv_at hl 0 rfl) ?_
            refine mm_getN (v := va_rf ((svN v ((v.O c9 j9).2.2.1)).map (AD 2))) hx hb hf_X7 (fun _ h9 => h9) hown hK hG k71 rfl 4 (by decide) (tb_use hT tw_911) (fun _ h9 => h9) rfl dX2_findGets_69 ?_
            refine W.eq (g2 := F0 m 72 ls [.ref (AD 2 j45), .ref (AD (40 + c9) j9)]) (by first | rfl | (rw [hf44]; rfl)) ?_
            refine lv_ifnonnull (tgt := 79) hx hb dX2_findGets_72 (by decide) ?_
            refine lv_aload_n hx hb dX2_findGets_79 rfl (lv_at hl 0 rfl) ?_
            refine mm_getN (v := va_rf ((svN v ((v.O c9 j9).2.2.1)).map (AD 2))) hx hb hf_X7 (fun _ h9 => h9) hown hK hG k71 rfl 4 (by decide) (tb_use hT tw_911) (fun _ h9 => h9) rfl dX2_findGets_80 ?_
            refine lv_aload_n hx hb dX2_findGets_83 rfl (lv_at hl 0 rfl) ?_
            refine mm_getN (v := .long ((v.O c9 j9).2.2.2.2.1)) hx hb hf_X7 (fun _ h9 => h9) hown hK hG k71 rfl 5 (by decide) (tb_use hT tw_912) (fun _ h9 => h9) rfl dX2_findGets_84 ?_
            refine W.eq (g2 := F0 m 87 ls [.long ((v.O c9 j9).2.2.2.2.1), .ref (AD 2 j45), .ref (AD (40 + c9) j9)]) (by first | rfl | (rw [hf44]; rfl)) ?_
            have k73 : G67 (AD 2 j45) = some (.inr (11, [.int (nI (j45 + 1)), .ref (AD 1 (v.S j45).1), .int ((v.S j45).2.1), .long ((v.S j45).2.2.1), .ref (LA (20 + j45)), .int ((v.S j45).2.2.2)])) := hP69.elS hj66
            refine va_callq (va_runV (As := [.long ((v.O c9 j9).2.2.2.2.1)]) (rest := [.ref (AD (40 + c9) j9)]) ⟨hx, hb, hml, hown, (fun _ h9 => absurd h9 List.not_mem_nil : ∀ w ∈ ([] : List Cond), w.before _ s = true)⟩ (c_X10_named l D cy A X hst hXT e0 tk hXE mi hXL G67 (AD 2 j45) (AD 1 (v.S j45).1) (LA (20 + j45)) (nI (j45 + 1)) ((v.S j45).2.1) ((v.S j45).2.2.2) ((v.S j45).2.2.1) (EA (20 + j45)) (v.nP j45) (AD (20 + j45)) (fun j => prF j (v.P j45 j) ((zz.s_fo c9 j9 ((svN v ((v.O c9 j9).2.2.1)).map (AD 2))).pc j45 j) ((zz.s_fo c9 j9 ((svN v ((v.O c9 j9).2.2.1)).map (AD 2))).pe j45 j) ((zz.s_fo c9 j9 ((svN v ((v.O c9 j9).2.2.1)).map (AD 2))).pd j45 j)) (fun j => (v.P j45 j).2.1) ((v.O c9 j9).2.2.2.2.1) k73 (hP69.lsP hj66) (by have := (hP69.lsP hj66).le; omega) (hP69.nmP hj66)) (tb_cw (C := RX10) 1 hT tw_1047 tw_128 tw_1044 tw_1045 tw_1046 rfl rfl hq_X10_named ⟨Nat.le_of_ble_eq_true rfl, Nat.le_of_ble_eq_true rfl⟩) (mk_preC hst hG hK hA hX hS vc_11 k73) rfl rfl hl.1 rfl (lv_room (Nat.le_of_ble_eq_true rfl)) dX2_findGets_87 ⟨Nat.le_of_ble_eq_true rfl, Nat.le_of_ble_eq_true rfl⟩) hS (fun q _ h => h) (fun q h => h) (fun r74 G75 t H locs ht hvm hw hB hz1 hk1 hS => ?_)
            have hG : mm D vwCl A G75 H := by rw [← ht]; exact hB
            clear hB hz1 hk1 hvm ht
            obtain ⟨er74, hw⟩ := hw
            rw [hw] at hG
            have fr74 : r74 = (paN v j45 ((v.O c9 j9).2.2.2.2.1)).map (AD (20 + j45)) := er74
            rw [fr74]
            refine mm_putN (v := va_rf ((paN v j45 ((v.O c9 j9).2.2.2.2.1)).map (AD (20 + j45)))) (ty := .object "DescribeText$Parameter") hx hb hf_X7 (fun _ h9 => h9) tyX7 tyX7_ok nmX7 hown hK hG hS k71 rfl 7 (by decide) (tb_use hT tw_917) (fun _ h9 => h9) rfl (by decide +kernel) (nar_rf _) (fits_rf _) (Nat.le_of_ble_eq_true rfl) dX2_findGets_90 (fun H locs hG hS => ?_)
            obtain ⟨G76, eG76⟩ : ∃ g, g = mm_set G67 (AD (40 + c9) j9) (.inr (8, [.ref (tk (v.O c9 j9).1), .long ((v.O c9 j9).2.1), .long ((v.O c9 j9).2.2.1), .int ((v.O c9 j9).2.2.2.1), va_rf ((svN v ((v.O c9 j9).2.2.1)).map (AD 2)), .long ((v.O c9 j9).2.2.2.2.1), .int ((v.O c9 j9).2.2.2.2.2.1), va_rf ((paN v j45 ((v.O c9 j9).2.2.2.2.1)).map (AD (20 + j45))), .int ((v.O c9 j9).2.2.2.2.2.2)])) := ⟨_, rfl⟩
            have hG : mm D vwCl A G76 H := by rw [eG76]; exact hG
            have hP77 : EDP cy e0 tk G0 Bx G76 v ((zz.s_fo c9 j9 ((svN v ((v.O c9 j9).2.2.1)).map (AD 2))).s_wo c9 j9 ((paN v j45 ((v.O c9 j9).2.2.2.2.1)).map (AD (20 + j45)))) LA EA AD PI := by rw [eG76]; first | exact hP69.put_wo hc9 hj29 | (have z9 := hP69.put_wo hc9 hj29 (x := ((paN v j45 ((v.O c9 j9).2.2.2.2.1)).map (AD (20 + j45)))); rw [hz39] at z9; exact z9)
            have hz78 : ((zz.s_fo c9 j9 ((svN v ((v.O c9 j9).2.2.1)).map (AD 2))).s_wo c9 j9 ((paN v j45 ((v.O c9 j9).2.2.2.2.1)).map (AD (20 + j45)))).wo c9 j9 = ((paN v j45 ((v.O c9 j9).2.2.2.2.1)).map (AD (20 + j45))) := by show up1 (zz.s_fo c9 j9 ((svN v ((v.O c9 j9).2.2.1)).map (AD 2))).wo c9 (up1 ((zz.s_fo c9 j9 ((svN v ((v.O c9 j9).2.2.1)).map (AD 2))).wo c9) j9 ((paN v j45 ((v.O c9 j9).2.2.2.2.1)).map (AD (20 + j45)))) c9 j9 = _; rw [up1_eq, up1_eq]
            have k79 : G76 ed = some (.inr (3, [.ref (LA 0), .ref (LA 1), .ref (LA 2), .ref (LA 3), .ref (LA 4), .ref (LA 5), .ref na, .int nc, va_rf iu, .int ((ex1 true ((v.O c9 j9).2.2.2.1) ww).1), va_rf ((ex1 true ((v.O c9 j9).2.2.2.1) ww).2.map (AD 1))])) := by rw [eG76]; exact mm_set_of k68 (mm_ne_oo k68 k71 (by decide))
            have k80 : G76 (AD 5 c9) = some (.inr (5, [.int ((v.J c9).1), .long ((v.J c9).2), .ref (LA (40 + c9)), .ref (PI c9), .int (zz.jh c9)])) := by rw [eG76]; exact mm_set_of k70 (mm_ne_oo k70 k71 (by decide))
            have k81 : G76 (AD (40 + c9) j9) = some (.inr (8, [.ref (tk (v.O c9 j9).1), .long ((v.O c9 j9).2.1), .long ((v.O c9 j9).2.2.1), .int ((v.O c9 j9).2.2.2.1), va_rf ((svN v ((v.O c9 j9).2.2.1)).map (AD 2)), .long ((v.O c9 j9).2.2.2.2.1), .int ((v.O c9 j9).2.2.2.2.2.1), va_rf ((paN v j45 ((v.O c9 j9).2.2.2.2.1)).map (AD (20 + j45))), .int ((v.O c9 j9).2.2.2.2.2.2)])) := by rw [eG76]; exact mm_set_self
            have k82 : G76 (AD 2 j45) = some (.inr (11, [.int (nI (j45 + 1)), .ref (AD 1 (v.S j45).1), .int ((v.S j45).2.1), .long ((v.S j45).2.2.1), .ref (LA (20 + j45)), .int ((v.S j45).2.2.2)])) := by rw [eG76]; exact mm_set_of k73 (mm_ne_oo k73 k71 (by decide))
            have hfr83 : ∀ (x : Nat) (e : va_E), G x = some e → x ≠ ed → (∀ k i, lvV v k → i < lnV v k → x ≠ AD k i) → G76 x = some e := fun x e z9 n1 n2 => by
              have z0 := hfr72 x e z9 n1 n2
              rw [eG76]; exact mm_set_of z0 (n2 (40 + c9) j9 (lv_O hc9) (by rw [ln_O]; exact hj29))
            refine lv_aload_n hx hb dX2_findGets_93 rfl (lv_at hl 1 rfl) ?_
            refine lv_aload_n hx hb dX2_findGets_94 rfl (lv_at hl 0 rfl) ?_
            refine mm_getN (v := va_rf ((paN v j45 ((v.O c9 j9).2.2.2.2.1)).map (AD (20 + j45)))) hx hb hf_X7 (fun _ h9 => h9) hown hK hG k81 rfl 7 (by decide) (tb_use hT tw_917) (fun _ h9 => h9) rfl dX2_findGets_95 ?_
            obtain ⟨y_hf84, hf84⟩ : ∃ y, paN v j45 ((v.O c9 j9).2.2.2.2.1) = y := ⟨_, rfl⟩
            cases y_hf84 with
            | none =>
              refine W.eq (g2 := F0 m 98 ls [.null, .ref ed]) (by first | rfl | (rw [hf84]; rfl)) ?_
              refine lv_ifnullN (tgt := 105) hx hb dX2_findGets_98 (by decide) ?_
              refine lv_iconst (v := 0) hx hb dX2_findGets_105 (by decide) ?_
              refine lv_aload_n hx hb dX2_findGets_106 rfl (lv_at hl 0 rfl) ?_
              refine mm_getN (v := .int ((v.O c9 j9).2.2.2.2.2.1)) hx hb hf_X7 (fun _ h9 => h9) hown hK hG k81 rfl 6 (by decide) (tb_use hT tw_914) (fun _ h9 => h9) rfl dX2_findGets_107 ?_
              refine va_callv (va_runV (As := [.int 0, .int ((v.O c9 j9).2.2.2.2.2.1)]) (rest := []) ⟨hx, hb, hml, hown, (fun _ h9 => absurd h9 List.not_mem_nil : ∀ w ∈ ([] : List Cond), w.before _ s = true)⟩ (c_ED_expect l D cy A X hst hXT e0 tk hXE G76 LA AD ed na nc iu (ex1 true ((v.O c9 j9).2.2.2.1) ww) false ((v.O c9 j9).2.2.2.2.2.1) k79) (tb_cw (C := RX2) 2 hT tw_1009 tw_110 tw_1006 tw_1008 tw_34 rfl rfl hq_X2_expect ⟨Nat.le_of_ble_eq_true rfl, Nat.le_of_ble_eq_true rfl⟩) (mk_preC hst hG hK hA hX hS vc_3 k79) rfl rfl hl.1 rfl (lv_room (Nat.le_of_ble_eq_true rfl)) dX2_findGets_110 ⟨Nat.le_of_ble_eq_true rfl, Nat.le_of_ble_eq_true rfl⟩) hS (fun q _ h => h) (fun q h => h) (fun  G86 t H locs ht hvm hw hB hz1 hk1 hS => ?_)
              have hG : mm D vwCl A G86 H := by rw [← ht]; exact hB
              clear hB hz1 hk1 hvm ht
              have k87 : G86 ed = some (.inr (3, [.ref (LA 0), .ref (LA 1), .ref (LA 2), .ref (LA 3), .ref (LA 4), .ref (LA 5), .ref na, .int nc, va_rf iu, .int ((ex1 false ((v.O c9 j9).2.2.2.2.2.1) (ex1 true ((v.O c9 j9).2.2.2.1) ww)).1), va_rf ((ex1 false ((v.O c9 j9).2.2.2.2.2.1) (ex1 true ((v.O c9 j9).2.2.2.1) ww)).2.map (AD 1))])) := by rw [hw]; exact mm_set_self
              have hP88 : EDP cy e0 tk G0 Bx G86 v ((zz.s_fo c9 j9 ((svN v ((v.O c9 j9).2.2.1)).map (AD 2))).s_wo c9 j9 ((paN v j45 ((v.O c9 j9).2.2.2.2.1)).map (AD (20 + j45)))) LA EA AD PI := hP77.mve hBe k79 k87 (fun x e h1 n1 => by rw [hw]; exact mm_set_of h1 n1)
              have k89 : G86 (AD 5 c9) = some (.inr (5, [.int ((v.J c9).1), .long ((v.J c9).2), .ref (LA (40 + c9)), .ref (PI c9), .int (zz.jh c9)])) := by rw [hw]; exact mm_set_of k80 (mm_ne_oo k80 k79 (by decide))
              have k90 : G86 (AD (40 + c9) j9) = some (.inr (8, [.ref (tk (v.O c9 j9).1), .long ((v.O c9 j9).2.1), .long ((v.O c9 j9).2.2.1), .int ((v.O c9 j9).2.2.2.1), va_rf ((svN v ((v.O c9 j9).2.2.1)).map (AD 2)), .long ((v.O c9 j9).2.2.2.2.1), .int ((v.O c9 j9).2.2.2.2.2.1), va_rf ((paN v j45 ((v.O c9 j9).2.2.2.2.1)).map (AD (20 + j45))), .int ((v.O c9 j9).2.2.2.2.2.2)])) := by rw [hw]; exact mm_set_of k81 (mm_ne_oo k81 k79 (by decide))
              have k91 : G86 (AD 2 j45) = some (.inr (11, [.int (nI (j45 + 1)), .ref (AD 1 (v.S j45).1), .int ((v.S j45).2.1), .long ((v.S j45).2.2.1), .ref (LA (20 + j45)), .int ((v.S j45).2.2.2)])) := by rw [hw]; exact mm_set_of k82 (mm_ne_oo k82 k79 (by decide))
              have hfr92 : ∀ (x : Nat) (e : va_E), G x = some e → x ≠ ed → (∀ k i, lvV v k → i < lnV v k → x ≠ AD k i) → G86 x = some e := fun x e z9 n1 n2 => by
                have z0 := hfr83 x e z9 n1 n2
                rw [hw]; exact mm_set_of z0 n1
              clear hw
              obtain ⟨x93, ex93⟩ : ∃ y : Int32, y = (nI j9) + 1 := ⟨_, rfl⟩
              refine lv_iinc (v := x93) (lv' := [(2, .int x93), (3, .ref (AD (40 + c9) j9)), (0, .ref ed), (1, .ref (AD 5 c9))]) hx hb dX2_findGets_113 hl (k := 3) rfl (by rw [ex93]; rfl) (by decide) rfl (fun ls hl => ?_)
              refine lv_goto (tgt := 2) hx hb dX2_findGets_116 (by decide) ?_
              rw [show x93 = nI (j9 + 1) by rw [ex93]; exact (nI_succ j9).symm] at hl
              have hk9 : (v.O c9 j9).1 = 26 := tk_ne hE (hKO j9 (by omega)) (by decide) c_32
              have ho1 : opS v (v.O c9 j9) = some j45 := by rw [opS, if_pos hk9, hf44]
              have ho2 : opP v (v.O c9 j9) = none := by rw [opP, ho1]; show (paN v j45 (v.O c9 j9).2.2.2.2.1).map _ = _; rw [hf84]; rfl
              have hs9 : oS v c9 j9 ww = (ex1 false ((v.O c9 j9).2.2.2.2.2.1) (ex1 true ((v.O c9 j9).2.2.2.1) ww)) := by rw [oS, if_pos hk9, ho1, ho2]; rfl
              have hz3 : ∀ i, i < j9 + 1 → ((zz.s_fo c9 j9 ((svN v ((v.O c9 j9).2.2.1)).map (AD 2))).s_wo c9 j9 ((paN v j45 ((v.O c9 j9).2.2.2.2.1)).map (AD (20 + j45)))).fo c9 i = (opS v (v.O c9 i)).map (AD 2) ∧ ((zz.s_fo c9 j9 ((svN v ((v.O c9 j9).2.2.1)).map (AD 2))).s_wo c9 j9 ((paN v j45 ((v.O c9 j9).2.2.2.2.1)).map (AD (20 + j45)))).wo c9 i = (opP v (v.O c9 i)).map (fun y => AD (20 + y.1) y.2) := by
                intro i hi
                by_cases e9 : i = j9
                · rw [e9, ho1, ho2]; refine ⟨?_, ?_⟩; show up1 zz.fo c9 _ c9 j9 = _; rw [up1_eq, up1_eq, hf44]; show up1 zz.wo c9 _ c9 j9 = _; rw [up1_eq, up1_eq, hf84]; try rfl
                · rw [← (hz1 i (by omega)).1, ← (hz1 i (by omega)).2]; refine ⟨?_, ?_⟩; show up1 zz.fo c9 _ c9 i = _; rw [up1_eq, up1_ne e9]; show up1 zz.wo c9 _ c9 i = _; rw [up1_eq, up1_ne e9]; try rfl
              have hz4 : ∀ i, j9 + 1 ≤ i → ((zz.s_fo c9 j9 ((svN v ((v.O c9 j9).2.2.1)).map (AD 2))).s_wo c9 j9 ((paN v j45 ((v.O c9 j9).2.2.2.2.1)).map (AD (20 + j45)))).fo c9 i = none ∧ ((zz.s_fo c9 j9 ((svN v ((v.O c9 j9).2.2.1)).map (AD 2))).s_wo c9 j9 ((paN v j45 ((v.O c9 j9).2.2.2.2.1)).map (AD (20 + j45)))).wo c9 i = none := fun i hi => ⟨by show up1 zz.fo c9 _ c9 i = _; rw [up1_eq, up1_ne (by omega)]; exact (hz2 i (by omega)).1, by show up1 zz.wo c9 _ c9 i = _; rw [up1_eq, up1_ne (by omega)]; exact (hz2 i (by omega)).2⟩
              have hz6 : ∀ c, c ≠ c9 → ((zz.s_fo c9 j9 ((svN v ((v.O c9 j9).2.2.1)).map (AD 2))).s_wo c9 j9 ((paN v j45 ((v.O c9 j9).2.2.2.2.1)).map (AD (20 + j45)))).fo c = z.fo c ∧ ((zz.s_fo c9 j9 ((svN v ((v.O c9 j9).2.2.1)).map (AD 2))).s_wo c9 j9 ((paN v j45 ((v.O c9 j9).2.2.2.2.1)).map (AD (20 + j45)))).wo c = z.wo c := fun c hc => by rw [← (hz5 c hc).1, ← (hz5 c hc).2]; exact ⟨up1_ne hc, up1_ne hc⟩
              have hq2 : mO v c9 n (j9 + 1) (ex1 false ((v.O c9 j9).2.2.2.2.2.1) (ex1 true ((v.O c9 j9).2.2.2.1) ww)) = mO v c9 (v.nO c9) 0 w9 := by rw [← hs9]; exact hq
              exact ih (j9 + 1) ((zz.s_fo c9 j9 ((svN v ((v.O c9 j9).2.2.1)).map (AD 2))).s_wo c9 j9 ((paN v j45 ((v.O c9 j9).2.2.2.2.1)).map (AD (20 + j45)))) (ex1 false ((v.O c9 j9).2.2.2.2.2.1) (ex1 true ((v.O c9 j9).2.2.2.1) ww)) (by omega) hz3 hz4 hz6 hz7 hq2 G86 k87 hP88 hfr92 _ _ hG hS ls (lv_sub hl [2, 3, 0] rfl)
            | some j85 =>
              have hj94 := paN_lt hf84
              refine W.eq (g2 := F0 m 98 ls [.ref (AD (20 + j45) j85), .ref ed]) (by first | rfl | (rw [hf84]; rfl)) ?_
              refine lv_ifnull hx hb dX2_findGets_98 ?_
              refine lv_iconst (v := 1) hx hb dX2_findGets_101 (by decide) ?_
              refine lv_goto (tgt := 106) hx hb dX2_findGets_102 (by decide) ?_
              refine lv_aload_n hx hb dX2_findGets_106 rfl (lv_at hl 0 rfl) ?_
              refine mm_getN (v := .int ((v.O c9 j9).2.2.2.2.2.1)) hx hb hf_X7 (fun _ h9 => h9) hown hK hG k81 rfl 6 (by decide) (tb_use hT tw_914) (fun _ h9 => h9) rfl dX2_findGets_107 ?_
              refine va_callv (va_runV (As := [.int 1, .int ((v.O c9 j9).2.2.2.2.2.1)]) (rest := []) ⟨hx, hb, hml, hown, (fun _ h9 => absurd h9 List.not_mem_nil : ∀ w ∈ ([] : List Cond), w.before _ s = true)⟩ (c_ED_expect l D cy A X hst hXT e0 tk hXE G76 LA AD ed na nc iu (ex1 true ((v.O c9 j9).2.2.2.1) ww) true ((v.O c9 j9).2.2.2.2.2.1) k79) (tb_cw (C := RX2) 2 hT tw_1009 tw_110 tw_1006 tw_1008 tw_34 rfl rfl hq_X2_expect ⟨Nat.le_of_ble_eq_true rfl, Nat.le_of_ble_eq_true rfl⟩) (mk_preC hst hG hK hA hX hS vc_3 k79) rfl rfl hl.1 rfl (lv_room (Nat.le_of_ble_eq_true rfl)) dX2_findGets_110 ⟨Nat.le_of_ble_eq_true rfl, Nat.le_of_ble_eq_true rfl⟩) hS (fun q _ h => h) (fun q h => h) (fun  G95 t H locs ht hvm hw hB hz1 hk1 hS => ?_)
              have hG : mm D vwCl A G95 H := by rw [← ht]; exact hB
              clear hB hz1 hk1 hvm ht
              have k96 : G95 ed = some (.inr (3, [.ref (LA 0), .ref (LA 1), .ref (LA 2), .ref (LA 3), .ref (LA 4), .ref (LA 5), .ref na, .int nc, va_rf iu, .int ((ex1 true ((v.O c9 j9).2.2.2.2.2.1) (ex1 true ((v.O c9 j9).2.2.2.1) ww)).1), va_rf ((ex1 true ((v.O c9 j9).2.2.2.2.2.1) (ex1 true ((v.O c9 j9).2.2.2.1) ww)).2.map (AD 1))])) := by rw [hw]; exact mm_set_self
              have hP97 : EDP cy e0 tk G0 Bx G95 v ((zz.s_fo c9 j9 ((svN v ((v.O c9 j9).2.2.1)).map (AD 2))).s_wo c9 j9 ((paN v j45 ((v.O c9 j9).2.2.2.2.1)).map (AD (20 + j45)))) LA EA AD PI := hP77.mve hBe k79 k96 (fun x e h1 n1 => by rw [hw]; exact mm_set_of h1 n1)
              have k98 : G95 (AD 5 c9) = some (.inr (5, [.int ((v.J c9).1), .long ((v.J c9).2), .ref (LA (40 + c9)), .ref (PI c9), .int (zz.jh c9)])) := by rw [hw]; exact mm_set_of k80 (mm_ne_oo k80 k79 (by decide))
              have k99 : G95 (AD (40 + c9) j9) = some (.inr (8, [.ref (tk (v.O c9 j9).1), .long ((v.O c9 j9).2.1), .long ((v.O c9 j9).2.2.1), .int ((v.O c9 j9).2.2.2.1), va_rf ((svN v ((v.O c9 j9).2.2.1)).map (AD 2)), .long ((v.O c9 j9).2.2.2.2.1), .int ((v.O c9 j9).2.2.2.2.2.1), va_rf ((paN v j45 ((v.O c9 j9).2.2.2.2.1)).map (AD (20 + j45))), .int ((v.O c9 j9).2.2.2.2.2.2)])) := by rw [hw]; exact mm_set_of k81 (mm_ne_oo k81 k79 (by decide))
              have k100 : G95 (AD 2 j45) = some (.inr (11, [.int (nI (j45 + 1)), .ref (AD 1 (v.S j45).1), .int ((v.S j45).2.1), .long ((v.S j45).2.2.1), .ref (LA (20 + j45)), .int ((v.S j45).2.2.2)])) := by rw [hw]; exact mm_set_of k82 (mm_ne_oo k82 k79 (by decide))
              have hfr101 : ∀ (x : Nat) (e : va_E), G x = some e → x ≠ ed → (∀ k i, lvV v k → i < lnV v k → x ≠ AD k i) → G95 x = some e := fun x e z9 n1 n2 => by
                have z0 := hfr83 x e z9 n1 n2
                rw [hw]; exact mm_set_of z0 n1
              clear hw
              obtain ⟨x102, ex102⟩ : ∃ y : Int32, y = (nI j9) + 1 := ⟨_, rfl⟩
              refine lv_iinc (v := x102) (lv' := [(2, .int x102), (3, .ref (AD (40 + c9) j9)), (0, .ref ed), (1, .ref (AD 5 c9))]) hx hb dX2_findGets_113 hl (k := 3) rfl (by rw [ex102]; rfl) (by decide) rfl (fun ls hl => ?_)
              refine lv_goto (tgt := 2) hx hb dX2_findGets_116 (by decide) ?_
              rw [show x102 = nI (j9 + 1) by rw [ex102]; exact (nI_succ j9).symm] at hl
              have hk9 : (v.O c9 j9).1 = 26 := tk_ne hE (hKO j9 (by omega)) (by decide) c_32
              have ho1 : opS v (v.O c9 j9) = some j45 := by rw [opS, if_pos hk9, hf44]
              have ho2 : opP v (v.O c9 j9) = some (j45, j85) := by rw [opP, ho1]; show (paN v j45 (v.O c9 j9).2.2.2.2.1).map _ = _; rw [hf84]; rfl
              have hs9 : oS v c9 j9 ww = (ex1 true ((v.O c9 j9).2.2.2.2.2.1) (ex1 true ((v.O c9 j9).2.2.2.1) ww)) := by rw [oS, if_pos hk9, ho1, ho2]; rfl
              have hz3 : ∀ i, i < j9 + 1 → ((zz.s_fo c9 j9 ((svN v ((v.O c9 j9).2.2.1)).map (AD 2))).s_wo c9 j9 ((paN v j45 ((v.O c9 j9).2.2.2.2.1)).map (AD (20 + j45)))).fo c9 i = (opS v (v.O c9 i)).map (AD 2) ∧ ((zz.s_fo c9 j9 ((svN v ((v.O c9 j9).2.2.1)).map (AD 2))).s_wo c9 j9 ((paN v j45 ((v.O c9 j9).2.2.2.2.1)).map (AD (20 + j45)))).wo c9 i = (opP v (v.O c9 i)).map (fun y => AD (20 + y.1) y.2) := by
                intro i hi
                by_cases e9 : i = j9
                · rw [e9, ho1, ho2]; refine ⟨?_, ?_⟩; show up1 zz.fo c9 _ c9 j9 = _; rw [up1_eq, up1_eq, hf44]; show up1 zz.wo c9 _ c9 j9 = _; rw [up1_eq, up1_eq, hf84]; try rfl
                · rw [← (hz1 i (by omega)).1, ← (hz1 i (by omega)).2]; refine ⟨?_, ?_⟩; show up1 zz.fo c9 _ c9 i = _; rw [up1_eq, up1_ne e9]; show up1 zz.wo c9 _ c9 i = _; rw [up1_eq, up1_ne e9]; try rfl
              have hz4 : ∀ i, j9 + 1 ≤ i → ((zz.s_fo c9 j9 ((svN v ((v.O c9 j9).2.2.1)).map (AD 2))).s_wo c9 j9 ((paN v j45 ((v.O c9 j9).2.2.2.2.1)).map (AD (20 + j45)))).fo c9 i = none ∧ ((zz.s_fo c9 j9 ((svN v ((v.O c9 j9).2.2.1)).map (AD 2))).s_wo c9 j9 ((paN v j45 ((v.O c9 j9).2.2.2.2.1)).map (AD (20 + j45)))).wo c9 i = none := fun i hi => ⟨by show up1 zz.fo c9 _ c9 i = _; rw [up1_eq, up1_ne (by omega)]; exact (hz2 i (by omega)).1, by show up1 zz.wo c9 _ c9 i = _; rw [up1_eq, up1_ne (by omega)]; exact (hz2 i (by omega)).2⟩
              have hz6 : ∀ c, c ≠ c9 → ((zz.s_fo c9 j9 ((svN v ((v.O c9 j9).2.2.1)).map (AD 2))).s_wo c9 j9 ((paN v j45 ((v.O c9 j9).2.2.2.2.1)).map (AD (20 + j45)))).fo c = z.fo c ∧ ((zz.s_fo c9 j9 ((svN v ((v.O c9 j9).2.2.1)).map (AD 2))).s_wo c9 j9 ((paN v j45 ((v.O c9 j9).2.2.2.2.1)).map (AD (20 + j45)))).wo c = z.wo c := fun c hc => by rw [← (hz5 c hc).1, ← (hz5 c hc).2]; exact ⟨up1_ne hc, up1_ne hc⟩
              have hq2 : mO v c9 n (j9 + 1) (ex1 true ((v.O c9 j9).2.2.2.2.2.1) (ex1 true ((v.O c9 j9).2.2.2.1) ww)) = mO v c9 (v.nO c9) 0 w9 := by rw [← hs9]; exact hq
              exact ih (j9 + 1) ((zz.s_fo c9 j9 ((svN v ((v.O c9 j9).2.2.1)).map (AD 2))).s_wo c9 j9 ((paN v j45 ((v.O c9 j9).2.2.2.2.1)).map (AD (20 + j45)))) (ex1 true ((v.O c9 j9).2.2.2.2.2.1) (ex1 true ((v.O c9 j9).2.2.2.1) ww)) (by omega) hz3 hz4 hz6 hz7 hq2 G95 k96 hP97 hfr101 _ _ hG hS ls (lv_sub hl [2, 3, 0] rfl)
  refine lv_iconst (v := 0) hx hb dX2_findGets_0 (by decide) ?_
  refine lv_istore_n (lv' := [(2, .int 0), (0, .ref ed), (1, .ref (AD 5 c9))]) hx hb dX2_findGets_1 rfl hl (by decide) rfl (fun ls hl => ?_)
  exact hloop (v.nO c9) 0 z w9 (by omega) (fun p hp => absurd hp (by omega)) (fun p _ => hz0 p) (fun _ _ => ⟨rfl, rfl⟩) ⟨rfl, rfl, rfl, rfl, rfl, rfl, rfl⟩ rfl G hed hP hfr _ _ hG hS ls (lv_sub hl [1, 2, 0] rfl)
