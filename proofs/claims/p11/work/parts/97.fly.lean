set_option maxHeartbeats 4000000 in
set_option maxRecDepth 100000 in
theorem c_X2_findLayers (l : Launch) (D : va_G) (cy : Nat → ClassId) (A : Nat → Prop) (X : State → Prop) (hst : mk_St A X) (hXT : ∀ U : State, X U → TB U) (e0 : Nat) (tk : Nat → Nat) (hXE : ∀ U : State, X U → ES e0 tk A U) (mi : Nat) (hXL : ∀ U : State, X U → EL e0 mi A U) (ax adK adV : Nat → Nat) (hXX : ∀ U : State, X U → TX ax adK adV tk A U) (G : Nat → Option va_E) (G0 : Nat → Option va_E) (Bx : Nat → Prop) (v : EdV) (z : PtV) (LA EA : Nat → Nat) (AD : Nat → Nat → Nat) (PI : Nat → Nat) (ed na : Nat) (nc : Int32) (iu : Option Nat) (w9 : Int32 × Option Nat) (hP : EDP cy e0 tk G0 Bx G v z LA EA AD PI) (hBe : Bx ed) (hed : G ed = some (.inr (3, [.ref (LA 0), .ref (LA 1), .ref (LA 2), .ref (LA 3), .ref (LA 4), .ref (LA 5), .ref na, .int nc, va_rf iu, .int w9.1, va_rf (w9.2.map (AD 1))]))) (hz0 : ∀ i, z.lo i = none) : Met l yX2_findLayers [.code yX2_findLayers cX2_findLayers 3 none] ({ frames := 4, cells := 0, slots := 0, locals := 120 }) (mk_Pre D vwCl (tyL cy) A X G [.ref ed]) (va_Qv (fun (G2 : Nat → Option va_E) => ∃ z2 : PtV, EDP cy e0 tk G0 Bx G2 v z2 LA EA AD PI ∧ G2 ed = some (.inr (3, [.ref (LA 0), .ref (LA 1), .ref (LA 2), .ref (LA 3), .ref (LA 4), .ref (LA 5), .ref na, .int nc, va_rf iu, .int ((mLy v w9).1), va_rf ((mLy v w9).2.map (AD 1))])) ∧ zLo v AD z2 ∧ z2.2 = z.2 ∧ ∀ (x : Nat) (e : va_E), G x = some e → x ≠ ed → (∀ k i, lvV v k → i < lnV v k → x ≠ AD k i) → G2 x = some e) (mk_B D vwCl A) A) 0 0 A := by
  refine Met.ofW (cc := cX2_findLayers) (maxL := 3) (ret := none) (by decide) rfl ?_
  intro p e s m args below meth c s₁ B hml hv
  obtain ⟨rfl, hG, hK, hA, hX⟩ := hv
  have hx := B.exec
  have hb := B.bytes
  have hr := B.returns
  have hlocks := B.notSynchronized
  have hT := hXT s hX
  have hown : s.vm.findClass RX2 = some m.cls := findClass_of_methodNamed B.named
  have hf_X2 : ∀ w ∈ u_ws RX2 TX2 11, w.before ([.ref ed] : List Value).toArray s = true := tb_list hT fX2
  have hf_X5 : ∀ w ∈ u_ws RX5 TX5 6, w.before ([.ref ed] : List Value).toArray s = true := tb_list hT fX5
  have hS : va_S A s.heap s.heap [] := va_S.rf
  have hE := hXE s hX
  have hl := lv_entry ([.ref ed]) (n := 3) (Nat.le_of_ble_eq_true rfl)
  rw [lg_entry_eq]
  generalize (lg_sl ([.ref ed]) ++ List.replicate (3 - (lg_sl ([.ref ed])).length) Slot.unset).toArray = ls at hl ⊢
  have hl : lv_has ls 3 [(0, .ref ed)] := hl
  have hQ := hXX s hX
  have hfr : ∀ (x : Nat) (e : va_E), G x = some e → x ≠ ed → (∀ k i, lvV v k → i < lnV v k → x ≠ AD k i) → G x = some e := fun x e z _ _ => z
  have hloop2 : ∀ (n : Nat) (j9 : Nat) (zz : PtV) (ww : Int32 × Option Nat), (n + j9 = v.nL) → (zLo v AD zz) → (zz.2 = z.2) → (mL2 v n j9 ww = mLy v w9) → ∀ (Gv : Nat → Option va_E), (Gv ed = some (.inr (3, [.ref (LA 0), .ref (LA 1), .ref (LA 2), .ref (LA 3), .ref (LA 4), .ref (LA 5), .ref na, .int nc, va_rf iu, .int ww.1, va_rf (ww.2.map (AD 1))]))) → (EDP cy e0 tk G0 Bx Gv v zz LA EA AD PI) → (∀ (x : Nat) (e : va_E), G x = some e → x ≠ ed → (∀ k i, lvV v k → i < lnV v k → x ≠ AD k i) → Gv x = some e) → ∀ (H : Heap) (locs : List Loc), mm D vwCl A Gv H → va_S A s.heap H locs → ∀ ls : Array Slot, lv_has ls 3 [(0, .ref ed), (1, .int (nI j9))] → W p l e (headSpec [.code yX2_findLayers cX2_findLayers 3 none] ({ frames := 4, cells := 0, slots := 0, locals := 120 })).room s m ([.ref ed] : List Value).toArray below meth c H locs 0 0 (MQ below (va_Qv (fun (G2 : Nat → Option va_E) => ∃ z2 : PtV, EDP cy e0 tk G0 Bx G2 v z2 LA EA AD PI ∧ G2 ed = some (.inr (3, [.ref (LA 0), .ref (LA 1), .ref (LA 2), .ref (LA 3), .ref (LA 4), .ref (LA 5), .ref na, .int nc, va_rf iu, .int ((mLy v w9).1), va_rf ((mLy v w9).2.map (AD 1))])) ∧ zLo v AD z2 ∧ z2.2 = z.2 ∧ ∀ (x : Nat) (e : va_E), G x = some e → x ≠ ed → (∀ k i, lvV v k → i < lnV v k → x ≠ AD k i) → G2 x = some e) (mk_B D vwCl A) A) ([.ref ed] : List Value).toArray s 0 0 A) (F0 m 99 ls []) := by
    intro n
    induction n with
    | zero =>
      intro j9 zz ww hjn hzL hzz hq Gv v_ed hP hfr H locs hG hS ls hl
      have hbb := hP.b
      refine lv_iload_n hx hb dX2_findLayers_99 rfl (lv_at hl 1 rfl) ?_
      refine lv_aload_n hx hb dX2_findLayers_100 rfl (lv_at hl 0 rfl) ?_
      refine mm_get (v := .ref (LA 1)) hx hb hf_X2 (fun _ h9 => h9) hown hK hG v_ed rfl 1 (by decide) (tb_use hT tw_280) (fun _ h9 => h9) rfl dX2_findLayers_101 ?_
      obtain ⟨mo21, h_mo21, -⟩ := id (hP.lsL)
      refine va_calli (va_runV (As := []) (rest := [.int (nI j9)]) ⟨hx, hb, hml, hown, (fun _ h9 => absurd h9 List.not_mem_nil : ∀ w ∈ ([] : List Cond), w.before _ s = true)⟩ (c_LS_size l D cy A X hst hXT e0 tk hXE mi hXL Gv (LA 1) (EA 1) v.nL (AD 1) (hP.lsL)) (tb_cw (C := RJx4a65c) 0 hT tw_457 tw_113 tw_999 tw_455 tw_456 rfl rfl hq_Jx4a65c_size_8abf5 ⟨Nat.le_of_ble_eq_true rfl, Nat.le_of_ble_eq_true rfl⟩) (mk_preC hst hG hK hA hX hS vc_1 h_mo21) rfl rfl hl.1 rfl (lv_room (Nat.le_of_ble_eq_true rfl)) dX2_findLayers_104 ⟨Nat.le_of_ble_eq_true rfl, Nat.le_of_ble_eq_true rfl⟩) hS (fun q _ h => h) (fun q h => h) (fun r22 G23 t H locs ht hvm hw hB hz1 hk1 hS => ?_)
      have hG : mm D vwCl A G23 H := by rw [← ht]; exact hB
      clear hB hz1 hk1 hvm ht
      obtain ⟨rfl, hw⟩ := hw
      rw [hw] at hG
      refine lv_icmp_ge (tgt := 160) hx hb dX2_findLayers_107 (by decide) (fun c_107 => ?_) (fun c_107 => ?_)
      · skip
        have hw9 : ww = mLy v w9 := by rw [← hq]; first | rfl | (rw [show n = 0 by omega]; rfl)
        exact W.vret hx hb hr (fun t ht hW => ⟨⟨_, rfl, ⟨zz, hP, (by rw [← hw9]; exact v_ed), hzL, hzz, hfr⟩, mk_end hG ht⟩, hS.F ht⟩) hS.2.2 dX2_findLayers_160
      · skip
        exact absurd (by rw [show j9 = v.nL by omega]; exact Int32.le_refl _) c_107
    | succ n ih =>
      intro j9 zz ww hjn hzL hzz hq Gv v_ed hP hfr H locs hG hS ls hl
      have hbb := hP.b
      refine lv_iload_n hx hb dX2_findLayers_99 rfl (lv_at hl 1 rfl) ?_
      refine lv_aload_n hx hb dX2_findLayers_100 rfl (lv_at hl 0 rfl) ?_
      refine mm_get (v := .ref (LA 1)) hx hb hf_X2 (fun _ h9 => h9) hown hK hG v_ed rfl 1 (by decide) (tb_use hT tw_280) (fun _ h9 => h9) rfl dX2_findLayers_101 ?_
      obtain ⟨mo24, h_mo24, -⟩ := id (hP.lsL)
      refine va_calli (va_runV (As := []) (rest := [.int (nI j9)]) ⟨hx, hb, hml, hown, (fun _ h9 => absurd h9 List.not_mem_nil : ∀ w ∈ ([] : List Cond), w.before _ s = true)⟩ (c_LS_size l D cy A X hst hXT e0 tk hXE mi hXL Gv (LA 1) (EA 1) v.nL (AD 1) (hP.lsL)) (tb_cw (C := RJx4a65c) 0 hT tw_457 tw_113 tw_999 tw_455 tw_456 rfl rfl hq_Jx4a65c_size_8abf5 ⟨Nat.le_of_ble_eq_true rfl, Nat.le_of_ble_eq_true rfl⟩) (mk_preC hst hG hK hA hX hS vc_1 h_mo24) rfl rfl hl.1 rfl (lv_room (Nat.le_of_ble_eq_true rfl)) dX2_findLayers_104 ⟨Nat.le_of_ble_eq_true rfl, Nat.le_of_ble_eq_true rfl⟩) hS (fun q _ h => h) (fun q h => h) (fun r25 G26 t H locs ht hvm hw hB hz1 hk1 hS => ?_)
      have hG : mm D vwCl A G26 H := by rw [← ht]; exact hB
      clear hB hz1 hk1 hvm ht
      obtain ⟨rfl, hw⟩ := hw
      rw [hw] at hG
      refine lv_icmp_ge (tgt := 160) hx hb dX2_findLayers_107 (by decide) (fun c_107 => ?_) (fun c_107 => ?_)
      · skip
        exact absurd c_107 (nI_ge (by omega) (by omega))
      · skip
        refine lv_aload_n hx hb dX2_findLayers_110 rfl (lv_at hl 0 rfl) ?_
        refine mm_get (v := .ref (LA 1)) hx hb hf_X2 (fun _ h9 => h9) hown hK hG v_ed rfl 1 (by decide) (tb_use hT tw_280) (fun _ h9 => h9) rfl dX2_findLayers_111 ?_
        refine lv_iload_n hx hb dX2_findLayers_114 rfl (lv_at hl 1 rfl) ?_
        have hj27 : j9 < v.nL := by omega
        obtain ⟨mo28, h_mo28, -⟩ := id (hP.lsL)
        refine va_callq (va_runV (As := [.int (nI j9)]) (rest := []) ⟨hx, hb, hml, hown, (fun _ h9 => absurd h9 List.not_mem_nil : ∀ w ∈ ([] : List Cond), w.before _ s = true)⟩ (c_LS_get l D cy A X hst hXT e0 tk hXE mi hXL Gv (LA 1) (EA 1) v.nL (AD 1) j9 (hP.lsL) hj27) (tb_cw (C := RJx4a65c) 1 hT tw_942 tw_113 tw_1000 tw_940 tw_941 rfl rfl hq_Jx4a65c_get_915e3 ⟨Nat.le_of_ble_eq_true rfl, Nat.le_of_ble_eq_true rfl⟩) (mk_preC hst hG hK hA hX hS vc_1 h_mo28) rfl rfl hl.1 rfl (lv_room (Nat.le_of_ble_eq_true rfl)) dX2_findLayers_115 ⟨Nat.le_of_ble_eq_true rfl, Nat.le_of_ble_eq_true rfl⟩) hS (fun q _ h => h) (fun q h => h) (fun r29 G30 t H locs ht hvm hw hB hz1 hk1 hS => ?_)
        have hG : mm D vwCl A G30 H := by rw [← ht]; exact hB
        clear hB hz1 hk1 hvm ht
        obtain ⟨rfl, hw⟩ := hw
        rw [hw] at hG
        refine W.eq (g2 := F0 m 118 ls [.ref (AD 1 j9)]) rfl ?_
        have k31 : Gv (AD 1 j9) = some (.inr (6, [.int (nI (j9 + 1)), .int ((v.L j9).1), .long ((v.L j9).2.1), .long ((v.L j9).2.2.1), .int ((v.L j9).2.2.2), va_rf (zz.lo j9)])) := hP.elL hj27
        refine va_castS hx hb hown (tb_use hT tw_1001) (hK.1 6 _ rfl).2 (va_recv hK (hG.one k31) (q := (RX5, TX5, 6)) rfl (q0 := 0) rfl) dX2_findLayers_118 ?_
        refine lv_astore_n (lv' := [(2, .ref (AD 1 j9)), (0, .ref ed), (1, .int (nI j9))]) hx hb dX2_findLayers_121 rfl hl (by decide) rfl (fun ls hl => ?_)
        refine lv_aload_n hx hb dX2_findLayers_122 rfl (lv_at hl 0 rfl) ?_
        refine va_calli (va_runV (As := []) (rest := []) ⟨hx, hb, hml, hown, (fun _ h9 => absurd h9 List.not_mem_nil : ∀ w ∈ ([] : List Cond), w.before _ s = true)⟩ (c_X5_isInRing l D cy A X hst hXT e0 tk hXE mi hXL ax adK adV hXX Gv G0 Bx v zz LA EA AD PI j9 hP hzL (by omega)) (tb_cw (C := RX5) 0 hT tw_1017 tw_127 tw_1014 tw_1015 tw_1016 rfl rfl hq_X5_isInRing ⟨Nat.le_of_ble_eq_true rfl, Nat.le_of_ble_eq_true rfl⟩) (mk_preC hst hG hK hA hX hS vc_6 k31) rfl rfl hl.1 rfl (lv_room (Nat.le_of_ble_eq_true rfl)) dX2_findLayers_123 ⟨Nat.le_of_ble_eq_true rfl, Nat.le_of_ble_eq_true rfl⟩) hS (fun q _ h => h) (fun q h => h) (fun r32 G33 t H locs ht hvm hw hB hz1 hk1 hS => ?_)
        have hG : mm D vwCl A G33 H := by rw [← ht]; exact hB
        clear hB hz1 hk1 hvm ht
        obtain ⟨er32, hw⟩ := hw
        rw [hw] at hG
        refine lv_if_eq (tgt := 154) hx hb dX2_findLayers_126 (by decide) (fun c_126 => ?_) (fun c_126 => ?_)
        · skip
          obtain ⟨x34, ex34⟩ : ∃ y : Int32, y = (nI j9) + 1 := ⟨_, rfl⟩
          refine lv_iinc (v := x34) (lv' := [(1, .int x34), (2, .ref (AD 1 j9)), (0, .ref ed)]) hx hb dX2_findLayers_154 hl (k := 2) rfl (by rw [ex34]; rfl) (by decide) rfl (fun ls hl => ?_)
          refine lv_goto (tgt := 99) hx hb dX2_findLayers_157 (by decide) ?_
          rw [show x34 = nI (j9 + 1) by rw [ex34]; exact (nI_succ j9).symm] at hl
          have hb1 : inR v j9 6 (nx v j9) = false := by have z := c_126; rw [er32] at z; revert z; cases inR v j9 6 (nx v j9) <;> simp [b2i]
          have hs9 : rS v j9 ww = ww := by rw [rS, hb1]; rfl
          have hq2 : mL2 v n (j9 + 1) ww = mLy v w9 := by rw [← hq, mL2, hs9]
          exact ih (j9 + 1) zz ww (by omega) hzL hzz hq2 Gv v_ed hP hfr _ _ hG hS ls (lv_sub hl [2, 0] rfl)
        · skip
          refine lv_aload_n hx hb dX2_findLayers_129 rfl (lv_at hl 1 rfl) ?_
          refine lv_aload_n hx hb dX2_findLayers_130 rfl (lv_at hl 0 rfl) ?_
          refine mm_getN (v := .int ((v.L j9).2.2.2)) hx hb hf_X5 (fun _ h9 => h9) hown hK hG k31 rfl 4 (by decide) (tb_use hT tw_694) (fun _ h9 => h9) rfl dX2_findLayers_131 ?_
          refine va_calli (va_runV (As := [.int ((v.L j9).2.2.2)]) (rest := []) ⟨hx, hb, hml, hown, (fun _ h9 => absurd h9 List.not_mem_nil : ∀ w ∈ ([] : List Cond), w.before _ s = true)⟩ (c_X2_isFirst l D cy A X hst hXT e0 tk hXE Gv ed (LA 0) (LA 1) (LA 2) (LA 3) (LA 4) (LA 5) na nc ww.1 iu (ww.2.map (AD 1)) ((v.L j9).2.2.2) v_ed) (tb_cw (C := RX2) 1 hT tw_1013 tw_110 tw_1010 tw_1012 tw_35 rfl rfl hq_X2_isFirst ⟨Nat.le_of_ble_eq_true rfl, Nat.le_of_ble_eq_true rfl⟩) (mk_preC hst hG hK hA hX hS vc_3 v_ed) rfl rfl hl.1 rfl (lv_room (Nat.le_of_ble_eq_true rfl)) dX2_findLayers_134 ⟨Nat.le_of_ble_eq_true rfl, Nat.le_of_ble_eq_true rfl⟩) hS (fun q _ h => h) (fun q h => h) (fun r35 G36 t H locs ht hvm hw hB hz1 hk1 hS => ?_)
          have hG : mm D vwCl A G36 H := by rw [← ht]; exact hB
          clear hB hz1 hk1 hvm ht
          obtain ⟨er35, hw⟩ := hw
          rw [hw] at hG
          refine lv_if_eq (tgt := 154) hx hb dX2_findLayers_137 (by decide) (fun c_137 => ?_) (fun c_137 => ?_)
          · skip
            obtain ⟨x37, ex37⟩ : ∃ y : Int32, y = (nI j9) + 1 := ⟨_, rfl⟩
            refine lv_iinc (v := x37) (lv' := [(1, .int x37), (2, .ref (AD 1 j9)), (0, .ref ed)]) hx hb dX2_findLayers_154 hl (k := 2) rfl (by rw [ex37]; rfl) (by decide) rfl (fun ls hl => ?_)
            refine lv_goto (tgt := 99) hx hb dX2_findLayers_157 (by decide) ?_
            rw [show x37 = nI (j9 + 1) by rw [ex37]; exact (nI_succ j9).symm] at hl
            have hb1 : inR v j9 6 (nx v j9) = true := by have z := c_126; rw [er32] at z; revert z; cases inR v j9 6 (nx v j9) <;> simp [b2i]
            have hb2 : isF ww.1 (v.L j9).2.2.2 = false := by have z := c_137; rw [er35] at z; revert z; cases isF ww.1 (v.L j9).2.2.2 <;> simp [b2i]
            have hs9 : rS v j9 ww = ww := by rw [rS, hb1, hb2]; rfl
            have hq2 : mL2 v n (j9 + 1) ww = mLy v w9 := by rw [← hq, mL2, hs9]
            exact ih (j9 + 1) zz ww (by omega) hzL hzz hq2 Gv v_ed hP hfr _ _ hG hS ls (lv_sub hl [2, 0] rfl)
          · skip
            refine lv_aload_n hx hb dX2_findLayers_140 rfl (lv_at hl 1 rfl) ?_
            refine lv_iconst (v := 0) hx hb dX2_findLayers_141 (by decide) ?_
            refine lv_aload_n hx hb dX2_findLayers_142 rfl (lv_at hl 0 rfl) ?_
            refine mm_getN (v := .int ((v.L j9).2.2.2)) hx hb hf_X5 (fun _ h9 => h9) hown hK hG k31 rfl 4 (by decide) (tb_use hT tw_694) (fun _ h9 => h9) rfl dX2_findLayers_143 ?_
            refine va_callv (va_runV (As := [.int 0, .int ((v.L j9).2.2.2)]) (rest := []) ⟨hx, hb, hml, hown, (fun _ h9 => absurd h9 List.not_mem_nil : ∀ w ∈ ([] : List Cond), w.before _ s = true)⟩ (c_ED_expect l D cy A X hst hXT e0 tk hXE Gv LA AD ed na nc iu ww false ((v.L j9).2.2.2) v_ed) (tb_cw (C := RX2) 2 hT tw_1009 tw_110 tw_1006 tw_1008 tw_34 rfl rfl hq_X2_expect ⟨Nat.le_of_ble_eq_true rfl, Nat.le_of_ble_eq_true rfl⟩) (mk_preC hst hG hK hA hX hS vc_3 v_ed) rfl rfl hl.1 rfl (lv_room (Nat.le_of_ble_eq_true rfl)) dX2_findLayers_146 ⟨Nat.le_of_ble_eq_true rfl, Nat.le_of_ble_eq_true rfl⟩) hS (fun q _ h => h) (fun q h => h) (fun  G38 t H locs ht hvm hw hB hz1 hk1 hS => ?_)
            have hG : mm D vwCl A G38 H := by rw [← ht]; exact hB
            clear hB hz1 hk1 hvm ht
            have k39 : G38 ed = some (.inr (3, [.ref (LA 0), .ref (LA 1), .ref (LA 2), .ref (LA 3), .ref (LA 4), .ref (LA 5), .ref na, .int nc, va_rf iu, .int ((ex1 false ((v.L j9).2.2.2) ww).1), va_rf ((ex1 false ((v.L j9).2.2.2) ww).2.map (AD 1))])) := by rw [hw]; exact mm_set_self
            have hP40 : EDP cy e0 tk G0 Bx G38 v zz LA EA AD PI := hP.mve hBe v_ed k39 (fun x e h1 n1 => by rw [hw]; exact mm_set_of h1 n1)
            have k41 : G38 (AD 1 j9) = some (.inr (6, [.int (nI (j9 + 1)), .int ((v.L j9).1), .long ((v.L j9).2.1), .long ((v.L j9).2.2.1), .int ((v.L j9).2.2.2), va_rf (zz.lo j9)])) := by rw [hw]; exact mm_set_of k31 (mm_ne_oo k31 v_ed (by decide))
            have hfr42 : ∀ (x : Nat) (e : va_E), G x = some e → x ≠ ed → (∀ k i, lvV v k → i < lnV v k → x ≠ AD k i) → G38 x = some e := fun x e z9 n1 n2 => by
              have z0 := hfr x e z9 n1 n2
              rw [hw]; exact mm_set_of z0 n1
            clear hw
            refine lv_aload_n hx hb dX2_findLayers_149 rfl (lv_at hl 1 rfl) ?_
            refine lv_aload_n hx hb dX2_findLayers_150 rfl (lv_at hl 0 rfl) ?_
            refine mm_put (v := .ref (AD 1 j9)) (ty := .object "DescribeText$Layer") hx hb hf_X2 (fun _ h9 => h9) tyX2 tyX2_ok nmX2 hown hK hG hS k39 rfl 10 (by decide) (tb_use hT tw_301) (fun _ h9 => h9) rfl (by decide +kernel) rfl rfl (Nat.le_of_ble_eq_true rfl) dX2_findLayers_151 (fun H locs hG hS => ?_)
            obtain ⟨G43, eG43⟩ : ∃ g, g = mm_set G38 ed (.inr (3, [.ref (LA 0), .ref (LA 1), .ref (LA 2), .ref (LA 3), .ref (LA 4), .ref (LA 5), .ref na, .int nc, va_rf iu, .int ((ex1 false ((v.L j9).2.2.2) ww).1), .ref (AD 1 j9)])) := ⟨_, rfl⟩
            have hG : mm D vwCl A G43 H := by rw [eG43]; exact hG
            have k44 : G43 ed = some (.inr (3, [.ref (LA 0), .ref (LA 1), .ref (LA 2), .ref (LA 3), .ref (LA 4), .ref (LA 5), .ref na, .int nc, va_rf iu, .int ((ex1 false ((v.L j9).2.2.2) ww).1), .ref (AD 1 j9)])) := by rw [eG43]; exact mm_set_self
            have k45 : G43 (AD 1 j9) = some (.inr (6, [.int (nI (j9 + 1)), .int ((v.L j9).1), .long ((v.L j9).2.1), .long ((v.L j9).2.2.1), .int ((v.L j9).2.2.2), va_rf (zz.lo j9)])) := by rw [eG43]; exact mm_set_of k41 (mm_ne_oo k41 k39 (by decide))
            have hP46 : EDP cy e0 tk G0 Bx G43 v zz LA EA AD PI := hP40.mve hBe k39 k44 (fun x e h1 n1 => by rw [eG43]; exact mm_set_of h1 n1)
            have hfr47 : ∀ (x : Nat) (e : va_E), G x = some e → x ≠ ed → (∀ k i, lvV v k → i < lnV v k → x ≠ AD k i) → G43 x = some e := fun x e z9 n1 n2 => by
              have z0 := hfr42 x e z9 n1 n2
              rw [eG43]; exact mm_set_of z0 n1
            obtain ⟨x48, ex48⟩ : ∃ y : Int32, y = (nI j9) + 1 := ⟨_, rfl⟩
            refine lv_iinc (v := x48) (lv' := [(1, .int x48), (2, .ref (AD 1 j9)), (0, .ref ed)]) hx hb dX2_findLayers_154 hl (k := 2) rfl (by rw [ex48]; rfl) (by decide) rfl (fun ls hl => ?_)
            refine lv_goto (tgt := 99) hx hb dX2_findLayers_157 (by decide) ?_
            rw [show x48 = nI (j9 + 1) by rw [ex48]; exact (nI_succ j9).symm] at hl
            have hb1 : inR v j9 6 (nx v j9) = true := by have z := c_126; rw [er32] at z; revert z; cases inR v j9 6 (nx v j9) <;> simp [b2i]
            have hb2 : isF ww.1 (v.L j9).2.2.2 = true := by have z := c_137; rw [er35] at z; revert z; cases isF ww.1 (v.L j9).2.2.2 <;> simp [b2i]
            have hs9 : rS v j9 ww = ((v.L j9).2.2.2, some j9) := by rw [rS, hb1, hb2]; rfl
            have ked : G43 ed = some (.inr (3, [.ref (LA 0), .ref (LA 1), .ref (LA 2), .ref (LA 3), .ref (LA 4), .ref (LA 5), .ref na, .int nc, va_rf iu, .int (((v.L j9).2.2.2, some j9).1), va_rf (((v.L j9).2.2.2, some j9).2.map (AD 1))])) := by have z := k44; rw [ex1_f hb2] at z; exact z
            have hq2 : mL2 v n (j9 + 1) ((v.L j9).2.2.2, some j9) = mLy v w9 := by rw [← hq, mL2, hs9]
            exact ih (j9 + 1) zz ((v.L j9).2.2.2, some j9) (by omega) hzL hzz hq2 G43 ked hP46 hfr47 _ _ hG hS ls (lv_sub hl [2, 0] rfl)
  have hloop1 : ∀ (n : Nat) (j9 : Nat) (zz : PtV) (ww : Int32 × Option Nat), (n + j9 = v.nL) → (∀ i, i < j9 → zz.lo i = (nx v i).map (AD 1)) → (∀ i, j9 ≤ i → zz.lo i = none) → (zz.2 = z.2) → (mL1 v n j9 ww = mL1 v v.nL 0 w9) → ∀ (Gv : Nat → Option va_E), (Gv ed = some (.inr (3, [.ref (LA 0), .ref (LA 1), .ref (LA 2), .ref (LA 3), .ref (LA 4), .ref (LA 5), .ref na, .int nc, va_rf iu, .int ww.1, va_rf (ww.2.map (AD 1))]))) → (EDP cy e0 tk G0 Bx Gv v zz LA EA AD PI) → (∀ (x : Nat) (e : va_E), G x = some e → x ≠ ed → (∀ k i, lvV v k → i < lnV v k → x ≠ AD k i) → Gv x = some e) → ∀ (H : Heap) (locs : List Loc), mm D vwCl A Gv H → va_S A s.heap H locs → ∀ ls : Array Slot, lv_has ls 3 [(0, .ref ed), (1, .int (nI j9))] → W p l e (headSpec [.code yX2_findLayers cX2_findLayers 3 none] ({ frames := 4, cells := 0, slots := 0, locals := 120 })).room s m ([.ref ed] : List Value).toArray below meth c H locs 0 0 (MQ below (va_Qv (fun (G2 : Nat → Option va_E) => ∃ z2 : PtV, EDP cy e0 tk G0 Bx G2 v z2 LA EA AD PI ∧ G2 ed = some (.inr (3, [.ref (LA 0), .ref (LA 1), .ref (LA 2), .ref (LA 3), .ref (LA 4), .ref (LA 5), .ref na, .int nc, va_rf iu, .int ((mLy v w9).1), va_rf ((mLy v w9).2.map (AD 1))])) ∧ zLo v AD z2 ∧ z2.2 = z.2 ∧ ∀ (x : Nat) (e : va_E), G x = some e → x ≠ ed → (∀ k i, lvV v k → i < lnV v k → x ≠ AD k i) → G2 x = some e) (mk_B D vwCl A) A) ([.ref ed] : List Value).toArray s 0 0 A) (F0 m 2 ls []) := by
    intro n
    induction n with
    | zero =>
      intro j9 zz ww hjn hz1 hz2 hzz hq1 Gv v_ed hP hfr H locs hG hS ls hl
      have hbb := hP.b
      refine lv_iload_n hx hb dX2_findLayers_2 rfl (lv_at hl 1 rfl) ?_
      refine lv_aload_n hx hb dX2_findLayers_3 rfl (lv_at hl 0 rfl) ?_
      refine mm_get (v := .ref (LA 1)) hx hb hf_X2 (fun _ h9 => h9) hown hK hG v_ed rfl 1 (by decide) (tb_use hT tw_280) (fun _ h9 => h9) rfl dX2_findLayers_4 ?_
      obtain ⟨mo49, h_mo49, -⟩ := id (hP.lsL)
      refine va_calli (va_runV (As := []) (rest := [.int (nI j9)]) ⟨hx, hb, hml, hown, (fun _ h9 => absurd h9 List.not_mem_nil : ∀ w ∈ ([] : List Cond), w.before _ s = true)⟩ (c_LS_size l D cy A X hst hXT e0 tk hXE mi hXL Gv (LA 1) (EA 1) v.nL (AD 1) (hP.lsL)) (tb_cw (C := RJx4a65c) 0 hT tw_457 tw_113 tw_999 tw_455 tw_456 rfl rfl hq_Jx4a65c_size_8abf5 ⟨Nat.le_of_ble_eq_true rfl, Nat.le_of_ble_eq_true rfl⟩) (mk_preC hst hG hK hA hX hS vc_1 h_mo49) rfl rfl hl.1 rfl (lv_room (Nat.le_of_ble_eq_true rfl)) dX2_findLayers_7 ⟨Nat.le_of_ble_eq_true rfl, Nat.le_of_ble_eq_true rfl⟩) hS (fun q _ h => h) (fun q h => h) (fun r50 G51 t H locs ht hvm hw hB hz1 hk1 hS => ?_)
      have hG : mm D vwCl A G51 H := by rw [← ht]; exact hB
      clear hB hz1 hk1 hvm ht
      obtain ⟨rfl, hw⟩ := hw
      rw [hw] at hG
      refine lv_icmp_ge (tgt := 97) hx hb dX2_findLayers_10 (by decide) (fun c_10 => ?_) (fun c_10 => ?_)
      · skip
        refine lv_iconst (v := 0) hx hb dX2_findLayers_97 (by decide) ?_
        refine lv_istore_n (lv' := [(1, .int 0), (0, .ref ed)]) hx hb dX2_findLayers_98 rfl hl (by decide) rfl (fun ls hl => ?_)
        have hj9 : j9 = v.nL := by omega
        have hzL : zLo v AD zz := fun i hi => hz1 i (by omega)
        have hw9 : mL1 v v.nL 0 w9 = ww := by rw [← hq1]; first | rfl | (rw [show n = 0 by omega]; rfl)
        exact hloop2 v.nL 0 zz ww (by omega) hzL hzz (by rw [mLy, hw9]) Gv v_ed hP hfr _ _ hG hS ls (lv_sub hl [1, 0] rfl)
      · skip
        exact absurd (by rw [show j9 = v.nL by omega]; exact Int32.le_refl _) c_10
    | succ n ih =>
      intro j9 zz ww hjn hz1 hz2 hzz hq1 Gv v_ed hP hfr H locs hG hS ls hl
      have hbb := hP.b
      refine lv_iload_n hx hb dX2_findLayers_2 rfl (lv_at hl 1 rfl) ?_
      refine lv_aload_n hx hb dX2_findLayers_3 rfl (lv_at hl 0 rfl) ?_
      refine mm_get (v := .ref (LA 1)) hx hb hf_X2 (fun _ h9 => h9) hown hK hG v_ed rfl 1 (by decide) (tb_use hT tw_280) (fun _ h9 => h9) rfl dX2_findLayers_4 ?_
      obtain ⟨mo52, h_mo52, -⟩ := id (hP.lsL)
      refine va_calli (va_runV (As := []) (rest := [.int (nI j9)]) ⟨hx, hb, hml, hown, (fun _ h9 => absurd h9 List.not_mem_nil : ∀ w ∈ ([] : List Cond), w.before _ s = true)⟩ (c_LS_size l D cy A X hst hXT e0 tk hXE mi hXL Gv (LA 1) (EA 1) v.nL (AD 1) (hP.lsL)) (tb_cw (C := RJx4a65c) 0 hT tw_457 tw_113 tw_999 tw_455 tw_456 rfl rfl hq_Jx4a65c_size_8abf5 ⟨Nat.le_of_ble_eq_true rfl, Nat.le_of_ble_eq_true rfl⟩) (mk_preC hst hG hK hA hX hS vc_1 h_mo52) rfl rfl hl.1 rfl (lv_room (Nat.le_of_ble_eq_true rfl)) dX2_findLayers_7 ⟨Nat.le_of_ble_eq_true rfl, Nat.le_of_ble_eq_true rfl⟩) hS (fun q _ h => h) (fun q h => h) (fun r53 G54 t H locs ht hvm hw hB hz1 hk1 hS => ?_)
      have hG : mm D vwCl A G54 H := by rw [← ht]; exact hB
      clear hB hz1 hk1 hvm ht
      obtain ⟨rfl, hw⟩ := hw
      rw [hw] at hG
      refine lv_icmp_ge (tgt := 97) hx hb dX2_findLayers_10 (by decide) (fun c_10 => ?_) (fun c_10 => ?_)
      · skip
        exact absurd c_10 (nI_ge (by omega) (by omega))
      · skip
        refine lv_aload_n hx hb dX2_findLayers_13 rfl (lv_at hl 0 rfl) ?_
        refine mm_get (v := .ref (LA 1)) hx hb hf_X2 (fun _ h9 => h9) hown hK hG v_ed rfl 1 (by decide) (tb_use hT tw_280) (fun _ h9 => h9) rfl dX2_findLayers_14 ?_
        refine lv_iload_n hx hb dX2_findLayers_17 rfl (lv_at hl 1 rfl) ?_
        have hj55 : j9 < v.nL := by omega
        obtain ⟨mo56, h_mo56, -⟩ := id (hP.lsL)
        refine va_callq (va_runV (As := [.int (nI j9)]) (rest := []) ⟨hx, hb, hml, hown, (fun _ h9 => absurd h9 List.not_mem_nil : ∀ w ∈ ([] : List Cond), w.before _ s = true)⟩ (c_LS_get l D cy A X hst hXT e0 tk hXE mi hXL Gv (LA 1) (EA 1) v.nL (AD 1) j9 (hP.lsL) hj55) (tb_cw (C := RJx4a65c) 1 hT tw_942 tw_113 tw_1000 tw_940 tw_941 rfl rfl hq_Jx4a65c_get_915e3 ⟨Nat.le_of_ble_eq_true rfl, Nat.le_of_ble_eq_true rfl⟩) (mk_preC hst hG hK hA hX hS vc_1 h_mo56) rfl rfl hl.1 rfl (lv_room (Nat.le_of_ble_eq_true rfl)) dX2_findLayers_18 ⟨Nat.le_of_ble_eq_true rfl, Nat.le_of_ble_eq_true rfl⟩) hS (fun q _ h => h) (fun q h => h) (fun r57 G58 t H locs ht hvm hw hB hz1 hk1 hS => ?_)
        have hG : mm D vwCl A G58 H := by rw [← ht]; exact hB
        clear hB hz1 hk1 hvm ht
        obtain ⟨rfl, hw⟩ := hw
        rw [hw] at hG
        refine W.eq (g2 := F0 m 21 ls [.ref (AD 1 j9)]) rfl ?_
        have k59 : Gv (AD 1 j9) = some (.inr (6, [.int (nI (j9 + 1)), .int ((v.L j9).1), .long ((v.L j9).2.1), .long ((v.L j9).2.2.1), .int ((v.L j9).2.2.2), va_rf (zz.lo j9)])) := hP.elL hj55
        refine va_castS hx hb hown (tb_use hT tw_1001) (hK.1 6 _ rfl).2 (va_recv hK (hG.one k59) (q := (RX5, TX5, 6)) rfl (q0 := 0) rfl) dX2_findLayers_21 ?_
        refine lv_astore_n (lv' := [(2, .ref (AD 1 j9)), (0, .ref ed), (1, .int (nI j9))]) hx hb dX2_findLayers_24 rfl hl (by decide) rfl (fun ls hl => ?_)
        refine lv_aload_n hx hb dX2_findLayers_25 rfl (lv_at hl 1 rfl) ?_
        refine lv_aload_n hx hb dX2_findLayers_26 rfl (lv_at hl 1 rfl) ?_
        refine lv_aload_n hx hb dX2_findLayers_27 rfl (lv_at hl 0 rfl) ?_
        refine mm_getN (v := .long ((v.L j9).2.1)) hx hb hf_X5 (fun _ h9 => h9) hown hK hG k59 rfl 2 (by decide) (tb_use hT tw_690) (fun _ h9 => h9) rfl dX2_findLayers_28 ?_
        refine va_callq (va_runV (As := [.long ((v.L j9).2.1)]) (rest := [.ref ed]) ⟨hx, hb, hml, hown, (fun _ h9 => absurd h9 List.not_mem_nil : ∀ w ∈ ([] : List Cond), w.before _ s = true)⟩ (c_X2_layerNamed l D cy A X hst hXT e0 tk hXE mi hXL Gv ed (LA 0) (LA 1) (LA 2) (LA 3) (LA 4) (LA 5) na nc ww.1 iu (ww.2.map (AD 1)) (EA 1) v.nL (AD 1) (fun j => laF j (v.L j) (zz.lo j)) (fun j => (v.L j).2.1) ((v.L j9).2.1) v_ed hP.lsL (by have := hP.b; omega) hP.nmL) (tb_cw (C := RX2) 1 hT tw_1005 tw_110 tw_1002 tw_1004 tw_33 rfl rfl hq_X2_layerNamed ⟨Nat.le_of_ble_eq_true rfl, Nat.le_of_ble_eq_true rfl⟩) (mk_preC hst hG hK hA hX hS vc_3 v_ed) rfl rfl hl.1 rfl (lv_room (Nat.le_of_ble_eq_true rfl)) dX2_findLayers_31 ⟨Nat.le_of_ble_eq_true rfl, Nat.le_of_ble_eq_true rfl⟩) hS (fun q _ h => h) (fun q h => h) (fun r60 G61 t H locs ht hvm hw hB hz1 hk1 hS => ?_)
        have hG : mm D vwCl A G61 H := by rw [← ht]; exact hB
        clear hB hz1 hk1 hvm ht
        obtain ⟨er60, hw⟩ := hw
        rw [hw] at hG
        have fr60 : r60 = (lyN v ((v.L j9).2.1)).map (AD 1) := er60
        rw [fr60]
        refine lv_aload_n hx hb dX2_findLayers_34 rfl (lv_at hl 0 rfl) ?_
        refine lv_acmp_ne (rx := ((lyN v ((v.L j9).2.1)).map (AD 1))) (ry := some (AD 1 j9)) (tgt := 42) hx hb dX2_findLayers_35 (by decide) (fun c_35 => ?_) (fun c_35 => ?_)
        · skip
          have hB_35 : decide (lyN v (v.L j9).2.1 = some j9) = false := decide_eq_false (fun z => c_35 ((map_eq (fun _ => lyN_lt) (show j9 < v.nL by omega) hP.inL).mpr z))
          refine lv_iconst (v := 0) hx hb dX2_findLayers_42 (by decide) ?_
          refine lv_aload_n hx hb dX2_findLayers_43 rfl (lv_at hl 0 rfl) ?_
          refine mm_getN (v := .int ((v.L j9).1)) hx hb hf_X5 (fun _ h9 => h9) hown hK hG k59 rfl 1 (by decide) (tb_use hT tw_688) (fun _ h9 => h9) rfl dX2_findLayers_44 ?_
          refine va_callv (va_runV (As := [.int 0, .int ((v.L j9).1)]) (rest := []) ⟨hx, hb, hml, hown, (fun _ h9 => absurd h9 List.not_mem_nil : ∀ w ∈ ([] : List Cond), w.before _ s = true)⟩ (c_ED_expect l D cy A X hst hXT e0 tk hXE Gv LA AD ed na nc iu ww false ((v.L j9).1) v_ed) (tb_cw (C := RX2) 2 hT tw_1009 tw_110 tw_1006 tw_1008 tw_34 rfl rfl hq_X2_expect ⟨Nat.le_of_ble_eq_true rfl, Nat.le_of_ble_eq_true rfl⟩) (mk_preC hst hG hK hA hX hS vc_3 v_ed) rfl rfl hl.1 rfl (lv_room (Nat.le_of_ble_eq_true rfl)) dX2_findLayers_47 ⟨Nat.le_of_ble_eq_true rfl, Nat.le_of_ble_eq_true rfl⟩) hS (fun q _ h => h) (fun q h => h) (fun  G62 t H locs ht hvm hw hB hz1 hk1 hS => ?_)
          have hG : mm D vwCl A G62 H := by rw [← ht]; exact hB
          clear hB hz1 hk1 hvm ht
          have k63 : G62 ed = some (.inr (3, [.ref (LA 0), .ref (LA 1), .ref (LA 2), .ref (LA 3), .ref (LA 4), .ref (LA 5), .ref na, .int nc, va_rf iu, .int ((ex1 false ((v.L j9).1) ww).1), va_rf ((ex1 false ((v.L j9).1) ww).2.map (AD 1))])) := by rw [hw]; exact mm_set_self
          have hP64 : EDP cy e0 tk G0 Bx G62 v zz LA EA AD PI := hP.mve hBe v_ed k63 (fun x e h1 n1 => by rw [hw]; exact mm_set_of h1 n1)
          have k65 : G62 (AD 1 j9) = some (.inr (6, [.int (nI (j9 + 1)), .int ((v.L j9).1), .long ((v.L j9).2.1), .long ((v.L j9).2.2.1), .int ((v.L j9).2.2.2), va_rf (zz.lo j9)])) := by rw [hw]; exact mm_set_of k59 (mm_ne_oo k59 v_ed (by decide))
          have hfr66 : ∀ (x : Nat) (e : va_E), G x = some e → x ≠ ed → (∀ k i, lvV v k → i < lnV v k → x ≠ AD k i) → G62 x = some e := fun x e z9 n1 n2 => by
            have z0 := hfr x e z9 n1 n2
            rw [hw]; exact mm_set_of z0 n1
          clear hw
          refine lv_aload_n hx hb dX2_findLayers_50 rfl (lv_at hl 0 rfl) ?_
          refine mm_getN (v := .long ((v.L j9).2.2.1)) hx hb hf_X5 (fun _ h9 => h9) hown hK hG k65 rfl 3 (by decide) (tb_use hT tw_692) (fun _ h9 => h9) rfl dX2_findLayers_51 ?_
          refine lv_lconst (v := 0) hx hb dX2_findLayers_54 (by decide) ?_
          refine W.lcmp hx hb dX2_findLayers_55 ?_
          refine lv_if_eq (tgt := 91) hx hb dX2_findLayers_56 (by decide) (fun c_56 => ?_) (fun c_56 => ?_)
          · skip
            obtain ⟨x68, ex68⟩ : ∃ y : Int32, y = (nI j9) + 1 := ⟨_, rfl⟩
            refine lv_iinc (v := x68) (lv' := [(1, .int x68), (2, .ref (AD 1 j9)), (0, .ref ed)]) hx hb dX2_findLayers_91 hl (k := 2) rfl (by rw [ex68]; rfl) (by decide) rfl (fun ls hl => ?_)
            refine lv_goto (tgt := 2) hx hb dX2_findLayers_94 (by decide) ?_
            rw [show x68 = nI (j9 + 1) by rw [ex68]; exact (nI_succ j9).symm] at hl
            have h00 : (v.L j9).2.2.1 = 0 := (lg_cmp_eq _ _).mp c_56
            have hs9 : lS v j9 ww = (ex1 false ((v.L j9).1) ww) := by rw [lS, if_pos h00, hB_35]
            have hn0 : nx v j9 = none := by rw [nx, if_pos h00]
            have hz3 : ∀ i, i < j9 + 1 → zz.lo i = (nx v i).map (AD 1) := fun i hi => by by_cases e9 : i = j9; rw [e9, hn0, hz2 j9 (Nat.le_refl _)]; rfl; exact hz1 i (by omega)
            have hz4 : ∀ i, j9 + 1 ≤ i → zz.lo i = none := fun i hi => hz2 i (by omega)
            have hq2 : mL1 v n (j9 + 1) (ex1 false ((v.L j9).1) ww) = mL1 v v.nL 0 w9 := by rw [← hs9]; exact hq1
            exact ih (j9 + 1) zz (ex1 false ((v.L j9).1) ww) (by omega) hz3 hz4 hzz hq2 G62 k63 hP64 hfr66 _ _ hG hS ls (lv_sub hl [2, 0] rfl)
          · skip
            refine lv_aload_n hx hb dX2_findLayers_59 rfl (lv_at hl 0 rfl) ?_
            refine lv_aload_n hx hb dX2_findLayers_60 rfl (lv_at hl 1 rfl) ?_
            refine lv_aload_n hx hb dX2_findLayers_61 rfl (lv_at hl 0 rfl) ?_
            refine mm_getN (v := .long ((v.L j9).2.2.1)) hx hb hf_X5 (fun _ h9 => h9) hown hK hG k65 rfl 3 (by decide) (tb_use hT tw_692) (fun _ h9 => h9) rfl dX2_findLayers_62 ?_
            refine va_callq (va_runV (As := [.long ((v.L j9).2.2.1)]) (rest := [.ref (AD 1 j9)]) ⟨hx, hb, hml, hown, (fun _ h9 => absurd h9 List.not_mem_nil : ∀ w ∈ ([] : List Cond), w.before _ s = true)⟩ (c_X2_layerNamed l D cy A X hst hXT e0 tk hXE mi hXL G62 ed (LA 0) (LA 1) (LA 2) (LA 3) (LA 4) (LA 5) na nc ((ex1 false ((v.L j9).1) ww).1) iu ((ex1 false ((v.L j9).1) ww).2.map (AD 1)) (EA 1) v.nL (AD 1) (fun j => laF j (v.L j) (zz.lo j)) (fun j => (v.L j).2.1) ((v.L j9).2.2.1) k63 hP64.lsL (by have := hP64.b; omega) hP64.nmL) (tb_cw (C := RX2) 1 hT tw_1005 tw_110 tw_1002 tw_1004 tw_33 rfl rfl hq_X2_layerNamed ⟨Nat.le_of_ble_eq_true rfl, Nat.le_of_ble_eq_true rfl⟩) (mk_preC hst hG hK hA hX hS vc_3 k63) rfl rfl hl.1 rfl (lv_room (Nat.le_of_ble_eq_true rfl)) dX2_findLayers_65 ⟨Nat.le_of_ble_eq_true rfl, Nat.le_of_ble_eq_true rfl⟩) hS (fun q _ h => h) (fun q h => h) (fun r69 G70 t H locs ht hvm hw hB hz1 hk1 hS => ?_)
            have hG : mm D vwCl A G70 H := by rw [← ht]; exact hB
            clear hB hz1 hk1 hvm ht
            obtain ⟨er69, hw⟩ := hw
            rw [hw] at hG
            have fr69 : r69 = (lyN v ((v.L j9).2.2.1)).map (AD 1) := er69
            rw [fr69]
            refine mm_putN (v := va_rf ((lyN v ((v.L j9).2.2.1)).map (AD 1))) (ty := .object "DescribeText$Layer") hx hb hf_X5 (fun _ h9 => h9) tyX5 tyX5_ok nmX5 hown hK hG hS k65 rfl 5 (by decide) (tb_use hT tw_697) (fun _ h9 => h9) rfl (by decide +kernel) (nar_rf _) (fits_rf _) (Nat.le_of_ble_eq_true rfl) dX2_findLayers_68 (fun H locs hG hS => ?_)
            obtain ⟨G71, eG71⟩ : ∃ g, g = mm_set G62 (AD 1 j9) (.inr (6, [.int (nI (j9 + 1)), .int ((v.L j9).1), .long ((v.L j9).2.1), .long ((v.L j9).2.2.1), .int ((v.L j9).2.2.2), va_rf ((lyN v ((v.L j9).2.2.1)).map (AD 1))])) := ⟨_, rfl⟩
            have hG : mm D vwCl A G71 H := by rw [eG71]; exact hG
            have hP72 : EDP cy e0 tk G0 Bx G71 v (zz.s_lo j9 ((lyN v ((v.L j9).2.2.1)).map (AD 1))) LA EA AD PI := by rw [eG71]; exact hP64.put_lo hj55
            have hz73 : (zz.s_lo j9 ((lyN v ((v.L j9).2.2.1)).map (AD 1))).lo j9 = ((lyN v ((v.L j9).2.2.1)).map (AD 1)) := by show up1 zz.lo j9 ((lyN v ((v.L j9).2.2.1)).map (AD 1)) j9 = _; rw [up1_eq]
            have k74 : G71 ed = some (.inr (3, [.ref (LA 0), .ref (LA 1), .ref (LA 2), .ref (LA 3), .ref (LA 4), .ref (LA 5), .ref na, .int nc, va_rf iu, .int ((ex1 false ((v.L j9).1) ww).1), va_rf ((ex1 false ((v.L j9).1) ww).2.map (AD 1))])) := by rw [eG71]; exact mm_set_of k63 (mm_ne_oo k63 k65 (by decide))
            have k75 : G71 (AD 1 j9) = some (.inr (6, [.int (nI (j9 + 1)), .int ((v.L j9).1), .long ((v.L j9).2.1), .long ((v.L j9).2.2.1), .int ((v.L j9).2.2.2), va_rf ((lyN v ((v.L j9).2.2.1)).map (AD 1))])) := by rw [eG71]; exact mm_set_self
            have hfr76 : ∀ (x : Nat) (e : va_E), G x = some e → x ≠ ed → (∀ k i, lvV v k → i < lnV v k → x ≠ AD k i) → G71 x = some e := fun x e z9 n1 n2 => by
              have z0 := hfr66 x e z9 n1 n2
              rw [eG71]; exact mm_set_of z0 (n2 1 j9 (Or.inl (by decide)) hj55)
            refine lv_aload_n hx hb dX2_findLayers_71 rfl (lv_at hl 1 rfl) ?_
            refine lv_aload_n hx hb dX2_findLayers_72 rfl (lv_at hl 0 rfl) ?_
            refine mm_getN (v := va_rf ((lyN v ((v.L j9).2.2.1)).map (AD 1))) hx hb hf_X5 (fun _ h9 => h9) hown hK hG k75 rfl 5 (by decide) (tb_use hT tw_697) (fun _ h9 => h9) rfl dX2_findLayers_73 ?_
            obtain ⟨y_hf77, hf77⟩ : ∃ y, lyN v ((v.L j9).2.2.1) = y := ⟨_, rfl⟩
            cases y_hf77 with
            | none =>
              refine W.eq (g2 := F0 m 76 ls [.null, .ref ed]) (by first | rfl | (rw [hf77]; rfl)) ?_
              refine lv_ifnullN (tgt := 83) hx hb dX2_findLayers_76 (by decide) ?_
              refine lv_iconst (v := 0) hx hb dX2_findLayers_83 (by decide) ?_
              refine lv_aload_n hx hb dX2_findLayers_84 rfl (lv_at hl 0 rfl) ?_
              refine mm_getN (v := .int ((v.L j9).2.2.2)) hx hb hf_X5 (fun _ h9 => h9) hown hK hG k75 rfl 4 (by decide) (tb_use hT tw_694) (fun _ h9 => h9) rfl dX2_findLayers_85 ?_
              refine va_callv (va_runV (As := [.int 0, .int ((v.L j9).2.2.2)]) (rest := []) ⟨hx, hb, hml, hown, (fun _ h9 => absurd h9 List.not_mem_nil : ∀ w ∈ ([] : List Cond), w.before _ s = true)⟩ (c_ED_expect l D cy A X hst hXT e0 tk hXE G71 LA AD ed na nc iu (ex1 false ((v.L j9).1) ww) false ((v.L j9).2.2.2) k74) (tb_cw (C := RX2) 2 hT tw_1009 tw_110 tw_1006 tw_1008 tw_34 rfl rfl hq_X2_expect ⟨Nat.le_of_ble_eq_true rfl, Nat.le_of_ble_eq_true rfl⟩) (mk_preC hst hG hK hA hX hS vc_3 k74) rfl rfl hl.1 rfl (lv_room (Nat.le_of_ble_eq_true rfl)) dX2_findLayers_88 ⟨Nat.le_of_ble_eq_true rfl, Nat.le_of_ble_eq_true rfl⟩) hS (fun q _ h => h) (fun q h => h) (fun  G79 t H locs ht hvm hw hB hz1 hk1 hS => ?_)
              have hG : mm D vwCl A G79 H := by rw [← ht]; exact hB
              clear hB hz1 hk1 hvm ht
              have k80 : G79 ed = some (.inr (3, [.ref (LA 0), .ref (LA 1), .ref (LA 2), .ref (LA 3), .ref (LA 4), .ref (LA 5), .ref na, .int nc, va_rf iu, .int ((ex1 false ((v.L j9).2.2.2) (ex1 false ((v.L j9).1) ww)).1), va_rf ((ex1 false ((v.L j9).2.2.2) (ex1 false ((v.L j9).1) ww)).2.map (AD 1))])) := by rw [hw]; exact mm_set_self
              have hP81 : EDP cy e0 tk G0 Bx G79 v (zz.s_lo j9 ((lyN v ((v.L j9).2.2.1)).map (AD 1))) LA EA AD PI := hP72.mve hBe k74 k80 (fun x e h1 n1 => by rw [hw]; exact mm_set_of h1 n1)
              have k82 : G79 (AD 1 j9) = some (.inr (6, [.int (nI (j9 + 1)), .int ((v.L j9).1), .long ((v.L j9).2.1), .long ((v.L j9).2.2.1), .int ((v.L j9).2.2.2), va_rf ((lyN v ((v.L j9).2.2.1)).map (AD 1))])) := by rw [hw]; exact mm_set_of k75 (mm_ne_oo k75 k74 (by decide))
              have hfr83 : ∀ (x : Nat) (e : va_E), G x = some e → x ≠ ed → (∀ k i, lvV v k → i < lnV v k → x ≠ AD k i) → G79 x = some e := fun x e z9 n1 n2 => by
                have z0 := hfr76 x e z9 n1 n2
                rw [hw]; exact mm_set_of z0 n1
              clear hw
              obtain ⟨x84, ex84⟩ : ∃ y : Int32, y = (nI j9) + 1 := ⟨_, rfl⟩
              refine lv_iinc (v := x84) (lv' := [(1, .int x84), (2, .ref (AD 1 j9)), (0, .ref ed)]) hx hb dX2_findLayers_91 hl (k := 2) rfl (by rw [ex84]; rfl) (by decide) rfl (fun ls hl => ?_)
              refine lv_goto (tgt := 2) hx hb dX2_findLayers_94 (by decide) ?_
              rw [show x84 = nI (j9 + 1) by rw [ex84]; exact (nI_succ j9).symm] at hl
              have h00 : ¬ (v.L j9).2.2.1 = 0 := fun z => c_56 ((lg_cmp_eq _ _).mpr z)
              have hs9 : lS v j9 ww = (ex1 false ((v.L j9).2.2.2) (ex1 false ((v.L j9).1) ww)) := by rw [lS, if_neg h00, hB_35, hf77]; rfl
              have hn0 : nx v j9 = lyN v ((v.L j9).2.2.1) := by rw [nx, if_neg h00]
              have hz3 : ∀ i, i < j9 + 1 → (zz.s_lo j9 ((lyN v ((v.L j9).2.2.1)).map (AD 1))).lo i = (nx v i).map (AD 1) := fun i hi => by by_cases e9 : i = j9; rw [e9, hn0]; exact up1_eq; rw [← hz1 i (by omega)]; exact up1_ne e9
              have hz4 : ∀ i, j9 + 1 ≤ i → (zz.s_lo j9 ((lyN v ((v.L j9).2.2.1)).map (AD 1))).lo i = none := fun i hi => by rw [← hz2 i (by omega)]; exact up1_ne (by omega)
              have hq2 : mL1 v n (j9 + 1) (ex1 false ((v.L j9).2.2.2) (ex1 false ((v.L j9).1) ww)) = mL1 v v.nL 0 w9 := by rw [← hs9]; exact hq1
              exact ih (j9 + 1) (zz.s_lo j9 ((lyN v ((v.L j9).2.2.1)).map (AD 1))) (ex1 false ((v.L j9).2.2.2) (ex1 false ((v.L j9).1) ww)) (by omega) hz3 hz4 hzz hq2 G79 k80 hP81 hfr83 _ _ hG hS ls (lv_sub hl [2, 0] rfl)
            | some j78 =>
              have hj85 := lyN_lt hf77
              refine W.eq (g2 := F0 m 76 ls [.ref (AD 1 j78), .ref ed]) (by first | rfl | (rw [hf77]; rfl)) ?_
              refine lv_ifnull hx hb dX2_findLayers_76 ?_
              refine lv_iconst (v := 1) hx hb dX2_findLayers_79 (by decide) ?_
              refine lv_goto (tgt := 84) hx hb dX2_findLayers_80 (by decide) ?_
              refine lv_aload_n hx hb dX2_findLayers_84 rfl (lv_at hl 0 rfl) ?_
              refine mm_getN (v := .int ((v.L j9).2.2.2)) hx hb hf_X5 (fun _ h9 => h9) hown hK hG k75 rfl 4 (by decide) (tb_use hT tw_694) (fun _ h9 => h9) rfl dX2_findLayers_85 ?_
              refine va_callv (va_runV (As := [.int 1, .int ((v.L j9).2.2.2)]) (rest := []) ⟨hx, hb, hml, hown, (fun _ h9 => absurd h9 List.not_mem_nil : ∀ w ∈ ([] : List Cond), w.before _ s = true)⟩ (c_ED_expect l D cy A X hst hXT e0 tk hXE G71 LA AD ed na nc iu (ex1 false ((v.L j9).1) ww) true ((v.L j9).2.2.2) k74) (tb_cw (C := RX2) 2 hT tw_1009 tw_110 tw_1006 tw_1008 tw_34 rfl rfl hq_X2_expect ⟨Nat.le_of_ble_eq_true rfl, Nat.le_of_ble_eq_true rfl⟩) (mk_preC hst hG hK hA hX hS vc_3 k74) rfl rfl hl.1 rfl (lv_room (Nat.le_of_ble_eq_true rfl)) dX2_findLayers_88 ⟨Nat.le_of_ble_eq_true rfl, Nat.le_of_ble_eq_true rfl⟩) hS (fun q _ h => h) (fun q h => h) (fun  G86 t H locs ht hvm hw hB hz1 hk1 hS => ?_)
              have hG : mm D vwCl A G86 H := by rw [← ht]; exact hB
              clear hB hz1 hk1 hvm ht
              have k87 : G86 ed = some (.inr (3, [.ref (LA 0), .ref (LA 1), .ref (LA 2), .ref (LA 3), .ref (LA 4), .ref (LA 5), .ref na, .int nc, va_rf iu, .int ((ex1 true ((v.L j9).2.2.2) (ex1 false ((v.L j9).1) ww)).1), va_rf ((ex1 true ((v.L j9).2.2.2) (ex1 false ((v.L j9).1) ww)).2.map (AD 1))])) := by rw [hw]; exact mm_set_self
              have hP88 : EDP cy e0 tk G0 Bx G86 v (zz.s_lo j9 ((lyN v ((v.L j9).2.2.1)).map (AD 1))) LA EA AD PI := hP72.mve hBe k74 k87 (fun x e h1 n1 => by rw [hw]; exact mm_set_of h1 n1)
              have k89 : G86 (AD 1 j9) = some (.inr (6, [.int (nI (j9 + 1)), .int ((v.L j9).1), .long ((v.L j9).2.1), .long ((v.L j9).2.2.1), .int ((v.L j9).2.2.2), va_rf ((lyN v ((v.L j9).2.2.1)).map (AD 1))])) := by rw [hw]; exact mm_set_of k75 (mm_ne_oo k75 k74 (by decide))
              have hfr90 : ∀ (x : Nat) (e : va_E), G x = some e → x ≠ ed → (∀ k i, lvV v k → i < lnV v k → x ≠ AD k i) → G86 x = some e := fun x e z9 n1 n2 => by
                have z0 := hfr76 x e z9 n1 n2
                rw [hw]; exact mm_set_of z0 n1
              clear hw
              obtain ⟨x91, ex91⟩ : ∃ y : Int32, y = (nI j9) + 1 := ⟨_, rfl⟩
              refine lv_iinc (v := x91) (lv' := [(1, .int x91), (2, .ref (AD 1 j9)), (0, .ref ed)]) hx hb dX2_findLayers_91 hl (k := 2) rfl (by rw [ex91]; rfl) (by decide) rfl (fun ls hl => ?_)
              refine lv_goto (tgt := 2) hx hb dX2_findLayers_94 (by decide) ?_
              rw [show x91 = nI (j9 + 1) by rw [ex91]; exact (nI_succ j9).symm] at hl
              have h00 : ¬ (v.L j9).2.2.1 = 0 := fun z => c_56 ((lg_cmp_eq _ _).mpr z)
              have hs9 : lS v j9 ww = (ex1 true ((v.L j9).2.2.2) (ex1 false ((v.L j9).1) ww)) := by rw [lS, if_neg h00, hB_35, hf77]; rfl
              have hn0 : nx v j9 = lyN v ((v.L j9).2.2.1) := by rw [nx, if_neg h00]
              have hz3 : ∀ i, i < j9 + 1 → (zz.s_lo j9 ((lyN v ((v.L j9).2.2.1)).map (AD 1))).lo i = (nx v i).map (AD 1) := fun i hi => by by_cases e9 : i = j9; rw [e9, hn0]; exact up1_eq; rw [← hz1 i (by omega)]; exact up1_ne e9
              have hz4 : ∀ i, j9 + 1 ≤ i → (zz.s_lo j9 ((lyN v ((v.L j9).2.2.1)).map (AD 1))).lo i = none := fun i hi => by rw [← hz2 i (by omega)]; exact up1_ne (by omega)
              have hq2 : mL1 v n (j9 + 1) (ex1 true ((v.L j9).2.2.2) (ex1 false ((v.L j9).1) ww)) = mL1 v v.nL 0 w9 := by rw [← hs9]; exact hq1
              exact ih (j9 + 1) (zz.s_lo j9 ((lyN v ((v.L j9).2.2.1)).map (AD 1))) (ex1 true ((v.L j9).2.2.2) (ex1 false ((v.L j9).1) ww)) (by omega) hz3 hz4 hzz hq2 G86 k87 hP88 hfr90 _ _ hG hS ls (lv_sub hl [2, 0] rfl)
        · skip
          have hB_35 : decide (lyN v (v.L j9).2.1 = some j9) = true := decide_eq_true ((map_eq (fun _ => lyN_lt) (show j9 < v.nL by omega) hP.inL).mp c_35)
          refine lv_iconst (v := 1) hx hb dX2_findLayers_38 (by decide) ?_
          refine lv_goto (tgt := 43) hx hb dX2_findLayers_39 (by decide) ?_
          refine lv_aload_n hx hb dX2_findLayers_43 rfl (lv_at hl 0 rfl) ?_
          refine mm_getN (v := .int ((v.L j9).1)) hx hb hf_X5 (fun _ h9 => h9) hown hK hG k59 rfl 1 (by decide) (tb_use hT tw_688) (fun _ h9 => h9) rfl dX2_findLayers_44 ?_
          refine va_callv (va_runV (As := [.int 1, .int ((v.L j9).1)]) (rest := []) ⟨hx, hb, hml, hown, (fun _ h9 => absurd h9 List.not_mem_nil : ∀ w ∈ ([] : List Cond), w.before _ s = true)⟩ (c_ED_expect l D cy A X hst hXT e0 tk hXE Gv LA AD ed na nc iu ww true ((v.L j9).1) v_ed) (tb_cw (C := RX2) 2 hT tw_1009 tw_110 tw_1006 tw_1008 tw_34 rfl rfl hq_X2_expect ⟨Nat.le_of_ble_eq_true rfl, Nat.le_of_ble_eq_true rfl⟩) (mk_preC hst hG hK hA hX hS vc_3 v_ed) rfl rfl hl.1 rfl (lv_room (Nat.le_of_ble_eq_true rfl)) dX2_findLayers_47 ⟨Nat.le_of_ble_eq_true rfl, Nat.le_of_ble_eq_true rfl⟩) hS (fun q _ h => h) (fun q h => h) (fun  G92 t H locs ht hvm hw hB hz1 hk1 hS => ?_)
          have hG : mm D vwCl A G92 H := by rw [← ht]; exact hB
          clear hB hz1 hk1 hvm ht
          have k93 : G92 ed = some (.inr (3, [.ref (LA 0), .ref (LA 1), .ref (LA 2), .ref (LA 3), .ref (LA 4), .ref (LA 5), .ref na, .int nc, va_rf iu, .int ((ex1 true ((v.L j9).1) ww).1), va_rf ((ex1 true ((v.L j9).1) ww).2.map (AD 1))])) := by rw [hw]; exact mm_set_self
          have hP94 : EDP cy e0 tk G0 Bx G92 v zz LA EA AD PI := hP.mve hBe v_ed k93 (fun x e h1 n1 => by rw [hw]; exact mm_set_of h1 n1)
          have k95 : G92 (AD 1 j9) = some (.inr (6, [.int (nI (j9 + 1)), .int ((v.L j9).1), .long ((v.L j9).2.1), .long ((v.L j9).2.2.1), .int ((v.L j9).2.2.2), va_rf (zz.lo j9)])) := by rw [hw]; exact mm_set_of k59 (mm_ne_oo k59 v_ed (by decide))
          have hfr96 : ∀ (x : Nat) (e : va_E), G x = some e → x ≠ ed → (∀ k i, lvV v k → i < lnV v k → x ≠ AD k i) → G92 x = some e := fun x e z9 n1 n2 => by
            have z0 := hfr x e z9 n1 n2
            rw [hw]; exact mm_set_of z0 n1
          clear hw
          refine lv_aload_n hx hb dX2_findLayers_50 rfl (lv_at hl 0 rfl) ?_
          refine mm_getN (v := .long ((v.L j9).2.2.1)) hx hb hf_X5 (fun _ h9 => h9) hown hK hG k95 rfl 3 (by decide) (tb_use hT tw_692) (fun _ h9 => h9) rfl dX2_findLayers_51 ?_
          refine lv_lconst (v := 0) hx hb dX2_findLayers_54 (by decide) ?_
          refine W.lcmp hx hb dX2_findLayers_55 ?_
          refine lv_if_eq (tgt := 91) hx hb dX2_findLayers_56 (by decide) (fun c_56 => ?_) (fun c_56 => ?_)
          · skip
            obtain ⟨x98, ex98⟩ : ∃ y : Int32, y = (nI j9) + 1 := ⟨_, rfl⟩
            refine lv_iinc (v := x98) (lv' := [(1, .int x98), (2, .ref (AD 1 j9)), (0, .ref ed)]) hx hb dX2_findLayers_91 hl (k := 2) rfl (by rw [ex98]; rfl) (by decide) rfl (fun ls hl => ?_)
            refine lv_goto (tgt := 2) hx hb dX2_findLayers_94 (by decide) ?_
            rw [show x98 = nI (j9 + 1) by rw [ex98]; exact (nI_succ j9).symm] at hl
            have h00 : (v.L j9).2.2.1 = 0 := (lg_cmp_eq _ _).mp c_56
            have hs9 : lS v j9 ww = (ex1 true ((v.L j9).1) ww) := by rw [lS, if_pos h00, hB_35]
            have hn0 : nx v j9 = none := by rw [nx, if_pos h00]
            have hz3 : ∀ i, i < j9 + 1 → zz.lo i = (nx v i).map (AD 1) := fun i hi => by by_cases e9 : i = j9; rw [e9, hn0, hz2 j9 (Nat.le_refl _)]; rfl; exact hz1 i (by omega)
            have hz4 : ∀ i, j9 + 1 ≤ i → zz.lo i = none := fun i hi => hz2 i (by omega)
            have hq2 : mL1 v n (j9 + 1) (ex1 true ((v.L j9).1) ww) = mL1 v v.nL 0 w9 := by rw [← hs9]; exact hq1
            exact ih (j9 + 1) zz (ex1 true ((v.L j9).1) ww) (by omega) hz3 hz4 hzz hq2 G92 k93 hP94 hfr96 _ _ hG hS ls (lv_sub hl [2, 0] rfl)
          · skip
            refine lv_aload_n hx hb dX2_findLayers_59 rfl (lv_at hl 0 rfl) ?_
            refine lv_aload_n hx hb dX2_findLayers_60 rfl (lv_at hl 1 rfl) ?_
            refine lv_aload_n hx hb dX2_findLayers_61 rfl (lv_at hl 0 rfl) ?_
            refine mm_getN (v := .long ((v.L j9).2.2.1)) hx hb hf_X5 (fun _ h9 => h9) hown hK hG k95 rfl 3 (by decide) (tb_use hT tw_692) (fun _ h9 => h9) rfl dX2_findLayers_62 ?_
            refine va_callq (va_runV (As := [.long ((v.L j9).2.2.1)]) (rest := [.ref (AD 1 j9)]) ⟨hx, hb, hml, hown, (fun _ h9 => absurd h9 List.not_mem_nil : ∀ w ∈ ([] : List Cond), w.before _ s = true)⟩ (c_X2_layerNamed l D cy A X hst hXT e0 tk hXE mi hXL G92 ed (LA 0) (LA 1) (LA 2) (LA 3) (LA 4) (LA 5) na nc ((ex1 true ((v.L j9).1) ww).1) iu ((ex1 true ((v.L j9).1) ww).2.map (AD 1)) (EA 1) v.nL (AD 1) (fun j => laF j (v.L j) (zz.lo j)) (fun j => (v.L j).2.1) ((v.L j9).2.2.1) k93 hP94.lsL (by have := hP94.b; omega) hP94.nmL) (tb_cw (C := RX2) 1 hT tw_1005 tw_110 tw_1002 tw_1004 tw_33 rfl rfl hq_X2_layerNamed ⟨Nat.le_of_ble_eq_true rfl, Nat.le_of_ble_eq_true rfl⟩) (mk_preC hst hG hK hA hX hS vc_3 k93) rfl rfl hl.1 rfl (lv_room (Nat.le_of_ble_eq_true rfl)) dX2_findLayers_65 ⟨Nat.le_of_ble_eq_true rfl, Nat.le_of_ble_eq_true rfl⟩) hS (fun q _ h => h) (fun q h => h) (fun r99 G100 t H locs ht hvm hw hB hz1 hk1 hS => ?_)
            have hG : mm D vwCl A G100 H := by rw [← ht]; exact hB
            clear hB hz1 hk1 hvm ht
            obtain ⟨er99, hw⟩ := hw
            rw [hw] at hG
            have fr99 : r99 = (lyN v ((v.L j9).2.2.1)).map (AD 1) := er99
            rw [fr99]
            refine mm_putN (v := va_rf ((lyN v ((v.L j9).2.2.1)).map (AD 1))) (ty := .object "DescribeText$Layer") hx hb hf_X5 (fun _ h9 => h9) tyX5 tyX5_ok nmX5 hown hK hG hS k95 rfl 5 (by decide) (tb_use hT tw_697) (fun _ h9 => h9) rfl (by decide +kernel) (nar_rf _) (fits_rf _) (Nat.le_of_ble_eq_true rfl) dX2_findLayers_68 (fun H locs hG hS => ?_)
            obtain ⟨G101, eG101⟩ : ∃ g, g = mm_set G92 (AD 1 j9) (.inr (6, [.int (nI (j9 + 1)), .int ((v.L j9).1), .long ((v.L j9).2.1), .long ((v.L j9).2.2.1), .int ((v.L j9).2.2.2), va_rf ((lyN v ((v.L j9).2.2.1)).map (AD 1))])) := ⟨_, rfl⟩
            have hG : mm D vwCl A G101 H := by rw [eG101]; exact hG
            have hP102 : EDP cy e0 tk G0 Bx G101 v (zz.s_lo j9 ((lyN v ((v.L j9).2.2.1)).map (AD 1))) LA EA AD PI := by rw [eG101]; exact hP94.put_lo hj55
            have hz103 : (zz.s_lo j9 ((lyN v ((v.L j9).2.2.1)).map (AD 1))).lo j9 = ((lyN v ((v.L j9).2.2.1)).map (AD 1)) := by show up1 zz.lo j9 ((lyN v ((v.L j9).2.2.1)).map (AD 1)) j9 = _; rw [up1_eq]
            have k104 : G101 ed = some (.inr (3, [.ref (LA 0), .ref (LA 1), .ref (LA 2), .ref (LA 3), .ref (LA 4), .ref (LA 5), .ref na, .int nc, va_rf iu, .int ((ex1 true ((v.L j9).1) ww).1), va_rf ((ex1 true ((v.L j9).1) ww).2.map (AD 1))])) := by rw [eG101]; exact mm_set_of k93 (mm_ne_oo k93 k95 (by decide))
            have k105 : G101 (AD 1 j9) = some (.inr (6, [.int (nI (j9 + 1)), .int ((v.L j9).1), .long ((v.L j9).2.1), .long ((v.L j9).2.2.1), .int ((v.L j9).2.2.2), va_rf ((lyN v ((v.L j9).2.2.1)).map (AD 1))])) := by rw [eG101]; exact mm_set_self
            have hfr106 : ∀ (x : Nat) (e : va_E), G x = some e → x ≠ ed → (∀ k i, lvV v k → i < lnV v k → x ≠ AD k i) → G101 x = some e := fun x e z9 n1 n2 => by
              have z0 := hfr96 x e z9 n1 n2
              rw [eG101]; exact mm_set_of z0 (n2 1 j9 (Or.inl (by decide)) hj55)
            refine lv_aload_n hx hb dX2_findLayers_71 rfl (lv_at hl 1 rfl) ?_
            refine lv_aload_n hx hb dX2_findLayers_72 rfl (lv_at hl 0 rfl) ?_
            refine mm_getN (v := va_rf ((lyN v ((v.L j9).2.2.1)).map (AD 1))) hx hb hf_X5 (fun _ h9 => h9) hown hK hG k105 rfl 5 (by decide) (tb_use hT tw_697) (fun _ h9 => h9) rfl dX2_findLayers_73 ?_
            obtain ⟨y_hf107, hf107⟩ : ∃ y, lyN v ((v.L j9).2.2.1) = y := ⟨_, rfl⟩
            cases y_hf107 with
            | none =>
              refine W.eq (g2 := F0 m 76 ls [.null, .ref ed]) (by first | rfl | (rw [hf107]; rfl)) ?_
              refine lv_ifnullN (tgt := 83) hx hb dX2_findLayers_76 (by decide) ?_
              refine lv_iconst (v := 0) hx hb dX2_findLayers_83 (by decide) ?_
              refine lv_aload_n hx hb dX2_findLayers_84 rfl (lv_at hl 0 rfl) ?_
              refine mm_getN (v := .int ((v.L j9).2.2.2)) hx hb hf_X5 (fun _ h9 => h9) hown hK hG k105 rfl 4 (by decide) (tb_use hT tw_694) (fun _ h9 => h9) rfl dX2_findLayers_85 ?_
              refine va_callv (va_runV (As := [.int 0, .int ((v.L j9).2.2.2)]) (rest := []) ⟨hx, hb, hml, hown, (fun _ h9 => absurd h9 List.not_mem_nil : ∀ w ∈ ([] : List Cond), w.before _ s = true)⟩ (c_ED_expect l D cy A X hst hXT e0 tk hXE G101 LA AD ed na nc iu (ex1 true ((v.L j9).1) ww) false ((v.L j9).2.2.2) k104) (tb_cw (C := RX2) 2 hT tw_1009 tw_110 tw_1006 tw_1008 tw_34 rfl rfl hq_X2_expect ⟨Nat.le_of_ble_eq_true rfl, Nat.le_of_ble_eq_true rfl⟩) (mk_preC hst hG hK hA hX hS vc_3 k104) rfl rfl hl.1 rfl (lv_room (Nat.le_of_ble_eq_true rfl)) dX2_findLayers_88 ⟨Nat.le_of_ble_eq_true rfl, Nat.le_of_ble_eq_true rfl⟩) hS (fun q _ h => h) (fun q h => h) (fun  G109 t H locs ht hvm hw hB hz1 hk1 hS => ?_)
              have hG : mm D vwCl A G109 H := by rw [← ht]; exact hB
              clear hB hz1 hk1 hvm ht
              have k110 : G109 ed = some (.inr (3, [.ref (LA 0), .ref (LA 1), .ref (LA 2), .ref (LA 3), .ref (LA 4), .ref (LA 5), .ref na, .int nc, va_rf iu, .int ((ex1 false ((v.L j9).2.2.2) (ex1 true ((v.L j9).1) ww)).1), va_rf ((ex1 false ((v.L j9).2.2.2) (ex1 true ((v.L j9).1) ww)).2.map (AD 1))])) := by rw [hw]; exact mm_set_self
              have hP111 : EDP cy e0 tk G0 Bx G109 v (zz.s_lo j9 ((lyN v ((v.L j9).2.2.1)).map (AD 1))) LA EA AD PI := hP102.mve hBe k104 k110 (fun x e h1 n1 => by rw [hw]; exact mm_set_of h1 n1)
              have k112 : G109 (AD 1 j9) = some (.inr (6, [.int (nI (j9 + 1)), .int ((v.L j9).1), .long ((v.L j9).2.1), .long ((v.L j9).2.2.1), .int ((v.L j9).2.2.2), va_rf ((lyN v ((v.L j9).2.2.1)).map (AD 1))])) := by rw [hw]; exact mm_set_of k105 (mm_ne_oo k105 k104 (by decide))
              have hfr113 : ∀ (x : Nat) (e : va_E), G x = some e → x ≠ ed → (∀ k i, lvV v k → i < lnV v k → x ≠ AD k i) → G109 x = some e := fun x e z9 n1 n2 => by
                have z0 := hfr106 x e z9 n1 n2
                rw [hw]; exact mm_set_of z0 n1
              clear hw
              obtain ⟨x114, ex114⟩ : ∃ y : Int32, y = (nI j9) + 1 := ⟨_, rfl⟩
              refine lv_iinc (v := x114) (lv' := [(1, .int x114), (2, .ref (AD 1 j9)), (0, .ref ed)]) hx hb dX2_findLayers_91 hl (k := 2) rfl (by rw [ex114]; rfl) (by decide) rfl (fun ls hl => ?_)
              refine lv_goto (tgt := 2) hx hb dX2_findLayers_94 (by decide) ?_
              rw [show x114 = nI (j9 + 1) by rw [ex114]; exact (nI_succ j9).symm] at hl
              have h00 : ¬ (v.L j9).2.2.1 = 0 := fun z => c_56 ((lg_cmp_eq _ _).mpr z)
              have hs9 : lS v j9 ww = (ex1 false ((v.L j9).2.2.2) (ex1 true ((v.L j9).1) ww)) := by rw [lS, if_neg h00, hB_35, hf107]; rfl
              have hn0 : nx v j9 = lyN v ((v.L j9).2.2.1) := by rw [nx, if_neg h00]
              have hz3 : ∀ i, i < j9 + 1 → (zz.s_lo j9 ((lyN v ((v.L j9).2.2.1)).map (AD 1))).lo i = (nx v i).map (AD 1) := fun i hi => by by_cases e9 : i = j9; rw [e9, hn0]; exact up1_eq; rw [← hz1 i (by omega)]; exact up1_ne e9
              have hz4 : ∀ i, j9 + 1 ≤ i → (zz.s_lo j9 ((lyN v ((v.L j9).2.2.1)).map (AD 1))).lo i = none := fun i hi => by rw [← hz2 i (by omega)]; exact up1_ne (by omega)
              have hq2 : mL1 v n (j9 + 1) (ex1 false ((v.L j9).2.2.2) (ex1 true ((v.L j9).1) ww)) = mL1 v v.nL 0 w9 := by rw [← hs9]; exact hq1
              exact ih (j9 + 1) (zz.s_lo j9 ((lyN v ((v.L j9).2.2.1)).map (AD 1))) (ex1 false ((v.L j9).2.2.2) (ex1 true ((v.L j9).1) ww)) (by omega) hz3 hz4 hzz hq2 G109 k110 hP111 hfr113 _ _ hG hS ls (lv_sub hl [2, 0] rfl)
            | some j108 =>
              have hj115 := lyN_lt hf107
              refine W.eq (g2 := F0 m 76 ls [.ref (AD 1 j108), .ref ed]) (by first | rfl | (rw [hf107]; rfl)) ?_
              refine lv_ifnull hx hb dX2_findLayers_76 ?_
              refine lv_iconst (v := 1) hx hb dX2_findLayers_79 (by decide) ?_
              refine lv_goto (tgt := 84) hx hb dX2_findLayers_80 (by decide) ?_
              refine lv_aload_n hx hb dX2_findLayers_84 rfl (lv_at hl 0 rfl) ?_
              refine mm_getN (v := .int ((v.L j9).2.2.2)) hx hb hf_X5 (fun _ h9 => h9) hown hK hG k105 rfl 4 (by decide) (tb_use hT tw_694) (fun _ h9 => h9) rfl dX2_findLayers_85 ?_
              refine va_callv (va_runV (As := [.int 1, .int ((v.L j9).2.2.2)]) (rest := []) ⟨hx, hb, hml, hown, (fun _ h9 => absurd h9 List.not_mem_nil : ∀ w ∈ ([] : List Cond), w.before _ s = true)⟩ (c_ED_expect l D cy A X hst hXT e0 tk hXE G101 LA AD ed na nc iu (ex1 true ((v.L j9).1) ww) true ((v.L j9).2.2.2) k104) (tb_cw (C := RX2) 2 hT tw_1009 tw_110 tw_1006 tw_1008 tw_34 rfl rfl hq_X2_expect ⟨Nat.le_of_ble_eq_true rfl, Nat.le_of_ble_eq_true rfl⟩) (mk_preC hst hG hK hA hX hS vc_3 k104) rfl rfl hl.1 rfl (lv_room (Nat.le_of_ble_eq_true rfl)) dX2_findLayers_88 ⟨Nat.le_of_ble_eq_true rfl, Nat.le_of_ble_eq_true rfl⟩) hS (fun q _ h => h) (fun q h => h) (fun  G116 t H locs ht hvm hw hB hz1 hk1 hS => ?_)
              have hG : mm D vwCl A G116 H := by rw [← ht]; exact hB
              clear hB hz1 hk1 hvm ht
              have k117 : G116 ed = some (.inr (3, [.ref (LA 0), .ref (LA 1), .ref (LA 2), .ref (LA 3), .ref (LA 4), .ref (LA 5), .ref na, .int nc, va_rf iu, .int ((ex1 true ((v.L j9).2.2.2) (ex1 true ((v.L j9).1) ww)).1), va_rf ((ex1 true ((v.L j9).2.2.2) (ex1 true ((v.L j9).1) ww)).2.map (AD 1))])) := by rw [hw]; exact mm_set_self
              have hP118 : EDP cy e0 tk G0 Bx G116 v (zz.s_lo j9 ((lyN v ((v.L j9).2.2.1)).map (AD 1))) LA EA AD PI := hP102.mve hBe k104 k117 (fun x e h1 n1 => by rw [hw]; exact mm_set_of h1 n1)
              have k119 : G116 (AD 1 j9) = some (.inr (6, [.int (nI (j9 + 1)), .int ((v.L j9).1), .long ((v.L j9).2.1), .long ((v.L j9).2.2.1), .int ((v.L j9).2.2.2), va_rf ((lyN v ((v.L j9).2.2.1)).map (AD 1))])) := by rw [hw]; exact mm_set_of k105 (mm_ne_oo k105 k104 (by decide))
              have hfr120 : ∀ (x : Nat) (e : va_E), G x = some e → x ≠ ed → (∀ k i, lvV v k → i < lnV v k → x ≠ AD k i) → G116 x = some e := fun x e z9 n1 n2 => by
                have z0 := hfr106 x e z9 n1 n2
                rw [hw]; exact mm_set_of z0 n1
              clear hw
              obtain ⟨x121, ex121⟩ : ∃ y : Int32, y = (nI j9) + 1 := ⟨_, rfl⟩
              refine lv_iinc (v := x121) (lv' := [(1, .int x121), (2, .ref (AD 1 j9)), (0, .ref ed)]) hx hb dX2_findLayers_91 hl (k := 2) rfl (by rw [ex121]; rfl) (by decide) rfl (fun ls hl => ?_)
              refine lv_goto (tgt := 2) hx hb dX2_findLayers_94 (by decide) ?_
              rw [show x121 = nI (j9 + 1) by rw [ex121]; exact (nI_succ j9).symm] at hl
              have h00 : ¬ (v.L j9).2.2.1 = 0 := fun z => c_56 ((lg_cmp_eq _ _).mpr z)
              have hs9 : lS v j9 ww = (ex1 true ((v.L j9).2.2.2) (ex1 true ((v.L j9).1) ww)) := by rw [lS, if_neg h00, hB_35, hf107]; rfl
              have hn0 : nx v j9 = lyN v ((v.L j9).2.2.1) := by rw [nx, if_neg h00]
              have hz3 : ∀ i, i < j9 + 1 → (zz.s_lo j9 ((lyN v ((v.L j9).2.2.1)).map (AD 1))).lo i = (nx v i).map (AD 1) := fun i hi => by by_cases e9 : i = j9; rw [e9, hn0]; exact up1_eq; rw [← hz1 i (by omega)]; exact up1_ne e9
              have hz4 : ∀ i, j9 + 1 ≤ i → (zz.s_lo j9 ((lyN v ((v.L j9).2.2.1)).map (AD 1))).lo i = none := fun i hi => by rw [← hz2 i (by omega)]; exact up1_ne (by omega)
              have hq2 : mL1 v n (j9 + 1) (ex1 true ((v.L j9).2.2.2) (ex1 true ((v.L j9).1) ww)) = mL1 v v.nL 0 w9 := by rw [← hs9]; exact hq1
              exact ih (j9 + 1) (zz.s_lo j9 ((lyN v ((v.L j9).2.2.1)).map (AD 1))) (ex1 true ((v.L j9).2.2.2) (ex1 true ((v.L j9).1) ww)) (by omega) hz3 hz4 hzz hq2 G116 k117 hP118 hfr120 _ _ hG hS ls (lv_sub hl [2, 0] rfl)
  refine lv_iconst (v := 0) hx hb dX2_findLayers_0 (by decide) ?_
  refine lv_istore_n (lv' := [(1, .int 0), (0, .ref ed)]) hx hb dX2_findLayers_1 rfl hl (by decide) rfl (fun ls hl => ?_)
  exact hloop1 v.nL 0 z w9 (by omega) (fun i hi => absurd hi (by omega)) (fun i _ => hz0 i) rfl rfl G hed hP hfr _ _ hG hS ls (lv_sub hl [1, 0] rfl)
