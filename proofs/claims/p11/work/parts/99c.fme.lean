set_option maxHeartbeats 4000000 in
set_option maxRecDepth 100000 in
theorem c_X2_findMeanings (l : Launch) (D : va_G) (cy : Nat → ClassId) (A : Nat → Prop) (X : State → Prop) (hst : mk_St A X) (hXT : ∀ U : State, X U → TB U) (e0 : Nat) (tk : Nat → Nat) (hXE : ∀ U : State, X U → ES e0 tk A U) (mi : Nat) (hXL : ∀ U : State, X U → EL e0 mi A U) (ax adK adV : Nat → Nat) (hXX : ∀ U : State, X U → TX ax adK adV tk A U) (G : Nat → Option va_E) (G0 : Nat → Option va_E) (Bx : Nat → Prop) (v : EdV) (z : PtV) (LA EA : Nat → Nat) (AD : Nat → Nat → Nat) (PI : Nat → Nat) (ed na : Nat) (nc : Int32) (iu : Option Nat) (w9 : Int32 × Option Nat) (hP : EDP cy e0 tk G0 Bx G v z LA EA AD PI) (hBe : Bx ed) (hed : G ed = some (.inr (3, [.ref (LA 0), .ref (LA 1), .ref (LA 2), .ref (LA 3), .ref (LA 4), .ref (LA 5), .ref na, .int nc, va_rf iu, .int w9.1, va_rf (w9.2.map (AD 1))]))) (hz0 : (∀ i, z.lo i = none) ∧ (∀ c, z0P z c) ∧ (∀ c, z0O z c)) (hKO : ∀ c, c < v.nJ → ∀ i, i < v.nO c → (v.O c i).1 < 35) : Met l yX2_findMeanings [.code yX2_findMeanings cX2_findMeanings 3 none] ({ frames := 7, cells := 0, slots := 0, locals := 210 }) (mk_Pre D vwCl (tyL cy) A X G [.ref ed]) (va_Qv (fun (G2 : Nat → Option va_E) => ∃ z2 : PtV, EDP cy e0 tk G0 Bx G2 v z2 LA EA AD PI ∧ G2 ed = some (.inr (3, [.ref (LA 0), .ref (LA 1), .ref (LA 2), .ref (LA 3), .ref (LA 4), .ref (LA 5), .ref na, .int nc, va_rf iu, .int ((mAll v w9).1), va_rf ((mAll v w9).2.map (AD 1))])) ∧ (zLo v AD z2 ∧ zVl v AD z2 ∧ (∀ c, c < v.nS → zPr v AD z2 c) ∧ (∀ c, c < v.nJ → zOp v AD z2 c) ∧ zOth z z2) ∧ ∀ (x : Nat) (e : va_E), G x = some e → x ≠ ed → (∀ k i, lvV v k → i < lnV v k → x ≠ AD k i) → G2 x = some e) (mk_B D vwCl A) A) 0 0 A := by
  refine Met.ofW (cc := cX2_findMeanings) (maxL := 3) (ret := none) (by decide) rfl ?_
  intro p e s m args below meth c s₁ B hml hv
  obtain ⟨rfl, hG, hK, hA, hX⟩ := hv
  have hx := B.exec
  have hb := B.bytes
  have hr := B.returns
  have hlocks := B.notSynchronized
  have hT := hXT s hX
  have hown : s.vm.findClass RX2 = some m.cls := findClass_of_methodNamed B.named
  have hf_X2 : ∀ w ∈ u_ws RX2 TX2 11, w.before ([.ref ed] : List Value).toArray s = true := tb_list hT fX2
  have hf_X4 : ∀ w ∈ u_ws RX4 TX4 5, w.before ([.ref ed] : List Value).toArray s = true := tb_list hT fX4
  have hf_X10 : ∀ w ∈ u_ws RX10 TX10 6, w.before ([.ref ed] : List Value).toArray s = true := tb_list hT fX10
  have hf_X1 : ∀ w ∈ u_ws RX1 TX1 10, w.before ([.ref ed] : List Value).toArray s = true := tb_list hT fX1
  have hS : va_S A s.heap s.heap [] := va_S.rf
  have hE := hXE s hX
  have hl := lv_entry ([.ref ed]) (n := 3) (Nat.le_of_ble_eq_true rfl)
  rw [lg_entry_eq]
  generalize (lg_sl ([.ref ed]) ++ List.replicate (3 - (lg_sl ([.ref ed])).length) Slot.unset).toArray = ls at hl ⊢
  have hl : lv_has ls 3 [(0, .ref ed)] := hl
  have hQ := hXX s hX
  have hfr : ∀ (x : Nat) (e : va_E), G x = some e → x ≠ ed → (∀ k i, lvV v k → i < lnV v k → x ≠ AD k i) → G x = some e := fun x e z _ _ => z
  have hloopJ : ∀ (n : Nat) (j9 : Nat) (zz : PtV) (ww : Int32 × Option Nat), (n + j9 = v.nJ) → (zLo v AD zz) → (zOth z zz) → (zVl v AD zz) → (∀ c, c < v.nS → zPr v AD zz c) → (∀ c, c < j9 → zOp v AD zz c) → (∀ c, j9 ≤ c → z0O zz c) → (mJ v n j9 ww = mAll v w9) → ∀ (Gv : Nat → Option va_E), (Gv ed = some (.inr (3, [.ref (LA 0), .ref (LA 1), .ref (LA 2), .ref (LA 3), .ref (LA 4), .ref (LA 5), .ref na, .int nc, va_rf iu, .int ww.1, va_rf (ww.2.map (AD 1))]))) → (EDP cy e0 tk G0 Bx Gv v zz LA EA AD PI) → (∀ (x : Nat) (e : va_E), G x = some e → x ≠ ed → (∀ k i, lvV v k → i < lnV v k → x ≠ AD k i) → Gv x = some e) → ∀ (H : Heap) (locs : List Loc), mm D vwCl A Gv H → va_S A s.heap H locs → ∀ ls : Array Slot, lv_has ls 3 [(0, .ref ed), (1, .int (nI j9))] → W p l e (headSpec [.code yX2_findMeanings cX2_findMeanings 3 none] ({ frames := 7, cells := 0, slots := 0, locals := 210 })).room s m ([.ref ed] : List Value).toArray below meth c H locs 0 0 (MQ below (va_Qv (fun (G2 : Nat → Option va_E) => ∃ z2 : PtV, EDP cy e0 tk G0 Bx G2 v z2 LA EA AD PI ∧ G2 ed = some (.inr (3, [.ref (LA 0), .ref (LA 1), .ref (LA 2), .ref (LA 3), .ref (LA 4), .ref (LA 5), .ref na, .int nc, va_rf iu, .int ((mAll v w9).1), va_rf ((mAll v w9).2.map (AD 1))])) ∧ (zLo v AD z2 ∧ zVl v AD z2 ∧ (∀ c, c < v.nS → zPr v AD z2 c) ∧ (∀ c, c < v.nJ → zOp v AD z2 c) ∧ zOth z z2) ∧ ∀ (x : Nat) (e : va_E), G x = some e → x ≠ ed → (∀ k i, lvV v k → i < lnV v k → x ≠ AD k i) → G2 x = some e) (mk_B D vwCl A) A) ([.ref ed] : List Value).toArray s 0 0 A) (F0 m 147 ls []) := by
    intro n
    induction n with
    | zero =>
      intro j9 zz ww hjn hzL hA3 hzV hzP hz1 hz2 hq Gv v_ed hP hfr H locs hG hS ls hl
      have hbb := hP.b
      refine lv_iload_n hx hb dX2_findMeanings_147 rfl (lv_at hl 1 rfl) ?_
      refine lv_aload_n hx hb dX2_findMeanings_148 rfl (lv_at hl 0 rfl) ?_
      refine mm_get (v := .ref (LA 5)) hx hb hf_X2 (fun _ h9 => h9) hown hK hG v_ed rfl 5 (by decide) (tb_use hT tw_291) (fun _ h9 => h9) rfl dX2_findMeanings_149 ?_
      obtain ⟨mo21, h_mo21, -⟩ := id (hP.lsJ)
      refine va_calli (va_runV (As := []) (rest := [.int (nI j9)]) ⟨hx, hb, hml, hown, (fun _ h9 => absurd h9 List.not_mem_nil : ∀ w ∈ ([] : List Cond), w.before _ s = true)⟩ (c_LS_size l D cy A X hst hXT e0 tk hXE mi hXL Gv (LA 5) (EA 5) v.nJ (AD 5) (hP.lsJ)) (tb_cw (C := RJx4a65c) 0 hT tw_457 tw_113 tw_999 tw_455 tw_456 rfl rfl hq_Jx4a65c_size_8abf5 ⟨Nat.le_of_ble_eq_true rfl, Nat.le_of_ble_eq_true rfl⟩) (mk_preC hst hG hK hA hX hS vc_1 h_mo21) rfl rfl hl.1 rfl (lv_room (Nat.le_of_ble_eq_true rfl)) dX2_findMeanings_152 ⟨Nat.le_of_ble_eq_true rfl, Nat.le_of_ble_eq_true rfl⟩) hS (fun q _ h => h) (fun q h => h) (fun r22 G23 t H locs ht hvm hw hB hz1 hk1 hS => ?_)
      have hG : mm D vwCl A G23 H := by rw [← ht]; exact hB
      clear hB hz1 hk1 hvm ht
      obtain ⟨rfl, hw⟩ := hw
      rw [hw] at hG
      refine lv_icmp_ge (tgt := 206) hx hb dX2_findMeanings_155 (by decide) (fun c_155 => ?_) (fun c_155 => ?_)
      · skip
        have hw9 : ww = mAll v w9 := by rw [← hq]; first | rfl | (rw [show n = 0 by omega]; rfl)
        exact W.vret hx hb hr (fun t ht hW => ⟨⟨_, rfl, ⟨zz, hP, (by rw [← hw9]; exact v_ed), ⟨hzL, hzV, hzP, (fun c hc => hz1 c (by omega)), hA3⟩, hfr⟩, mk_end hG ht⟩, hS.F ht⟩) hS.2.2 dX2_findMeanings_206
      · skip
        exact absurd (by rw [show j9 = v.nJ by omega]; exact Int32.le_refl _) c_155
    | succ n ih =>
      intro j9 zz ww hjn hzL hA3 hzV hzP hz1 hz2 hq Gv v_ed hP hfr H locs hG hS ls hl
      have hbb := hP.b
      refine lv_iload_n hx hb dX2_findMeanings_147 rfl (lv_at hl 1 rfl) ?_
      refine lv_aload_n hx hb dX2_findMeanings_148 rfl (lv_at hl 0 rfl) ?_
      refine mm_get (v := .ref (LA 5)) hx hb hf_X2 (fun _ h9 => h9) hown hK hG v_ed rfl 5 (by decide) (tb_use hT tw_291) (fun _ h9 => h9) rfl dX2_findMeanings_149 ?_
      obtain ⟨mo24, h_mo24, -⟩ := id (hP.lsJ)
      refine va_calli (va_runV (As := []) (rest := [.int (nI j9)]) ⟨hx, hb, hml, hown, (fun _ h9 => absurd h9 List.not_mem_nil : ∀ w ∈ ([] : List Cond), w.before _ s = true)⟩ (c_LS_size l D cy A X hst hXT e0 tk hXE mi hXL Gv (LA 5) (EA 5) v.nJ (AD 5) (hP.lsJ)) (tb_cw (C := RJx4a65c) 0 hT tw_457 tw_113 tw_999 tw_455 tw_456 rfl rfl hq_Jx4a65c_size_8abf5 ⟨Nat.le_of_ble_eq_true rfl, Nat.le_of_ble_eq_true rfl⟩) (mk_preC hst hG hK hA hX hS vc_1 h_mo24) rfl rfl hl.1 rfl (lv_room (Nat.le_of_ble_eq_true rfl)) dX2_findMeanings_152 ⟨Nat.le_of_ble_eq_true rfl, Nat.le_of_ble_eq_true rfl⟩) hS (fun q _ h => h) (fun q h => h) (fun r25 G26 t H locs ht hvm hw hB hz1 hk1 hS => ?_)
      have hG : mm D vwCl A G26 H := by rw [← ht]; exact hB
      clear hB hz1 hk1 hvm ht
      obtain ⟨rfl, hw⟩ := hw
      rw [hw] at hG
      refine lv_icmp_ge (tgt := 206) hx hb dX2_findMeanings_155 (by decide) (fun c_155 => ?_) (fun c_155 => ?_)
      · skip
        exact absurd c_155 (nI_ge (by omega) (by omega))
      · skip
        refine lv_aload_n hx hb dX2_findMeanings_158 rfl (lv_at hl 0 rfl) ?_
        refine mm_get (v := .ref (LA 5)) hx hb hf_X2 (fun _ h9 => h9) hown hK hG v_ed rfl 5 (by decide) (tb_use hT tw_291) (fun _ h9 => h9) rfl dX2_findMeanings_159 ?_
        refine lv_iload_n hx hb dX2_findMeanings_162 rfl (lv_at hl 1 rfl) ?_
        have hj27 : j9 < v.nJ := by omega
        obtain ⟨mo28, h_mo28, -⟩ := id (hP.lsJ)
        refine va_callq (va_runV (As := [.int (nI j9)]) (rest := []) ⟨hx, hb, hml, hown, (fun _ h9 => absurd h9 List.not_mem_nil : ∀ w ∈ ([] : List Cond), w.before _ s = true)⟩ (c_LS_get l D cy A X hst hXT e0 tk hXE mi hXL Gv (LA 5) (EA 5) v.nJ (AD 5) j9 (hP.lsJ) hj27) (tb_cw (C := RJx4a65c) 1 hT tw_942 tw_113 tw_1000 tw_940 tw_941 rfl rfl hq_Jx4a65c_get_915e3 ⟨Nat.le_of_ble_eq_true rfl, Nat.le_of_ble_eq_true rfl⟩) (mk_preC hst hG hK hA hX hS vc_1 h_mo28) rfl rfl hl.1 rfl (lv_room (Nat.le_of_ble_eq_true rfl)) dX2_findMeanings_163 ⟨Nat.le_of_ble_eq_true rfl, Nat.le_of_ble_eq_true rfl⟩) hS (fun q _ h => h) (fun q h => h) (fun r29 G30 t H locs ht hvm hw hB hz1 hk1 hS => ?_)
        have hG : mm D vwCl A G30 H := by rw [← ht]; exact hB
        clear hB hz1 hk1 hvm ht
        obtain ⟨rfl, hw⟩ := hw
        rw [hw] at hG
        refine W.eq (g2 := F0 m 166 ls [.ref (AD 5 j9)]) rfl ?_
        have k31 : Gv (AD 5 j9) = some (.inr (5, [.int ((v.J j9).1), .long ((v.J j9).2), .ref (LA (40 + j9)), .ref (PI j9), .int (zz.jh j9)])) := hP.elJ hj27
        refine va_castS hx hb hown (tb_use hT tw_1055) (hK.1 5 _ rfl).2 (va_recv hK (hG.one k31) (q := (RX4, TX4, 5)) rfl (q0 := 0) rfl) dX2_findMeanings_166 ?_
        refine lv_astore_n (lv' := [(2, .ref (AD 5 j9)), (0, .ref ed), (1, .int (nI j9))]) hx hb dX2_findMeanings_169 rfl hl (by decide) rfl (fun ls hl => ?_)
        refine lv_aload_n hx hb dX2_findMeanings_170 rfl (lv_at hl 1 rfl) ?_
        refine lv_aload_n hx hb dX2_findMeanings_171 rfl (lv_at hl 1 rfl) ?_
        refine lv_aload_n hx hb dX2_findMeanings_172 rfl (lv_at hl 0 rfl) ?_
        refine mm_getN (v := .long ((v.J j9).2)) hx hb hf_X4 (fun _ h9 => h9) hown hK hG k31 rfl 1 (by decide) (tb_use hT tw_873) (fun _ h9 => h9) rfl dX2_findMeanings_173 ?_
        refine va_callq (va_runV (As := [.long ((v.J j9).2)]) (rest := [.ref ed]) ⟨hx, hb, hml, hown, (fun _ h9 => absurd h9 List.not_mem_nil : ∀ w ∈ ([] : List Cond), w.before _ s = true)⟩ (c_X2_jobNamed l D cy A X hst hXT e0 tk hXE mi hXL Gv ed (LA 0) (LA 1) (LA 2) (LA 3) (LA 4) (LA 5) na nc ww.1 iu (ww.2.map (AD 1)) (EA 5) v.nJ (AD 5) (fun j => joF (v.J j) (LA (40 + j)) (PI j) (zz.jh j)) (fun j => (v.J j).2) ((v.J j9).2) v_ed hP.lsJ (by have := hP.b; omega) hP.nmJ) (tb_cw (C := RX2) 1 hT tw_1059 tw_110 tw_1056 tw_1058 tw_41 rfl rfl hq_X2_jobNamed ⟨Nat.le_of_ble_eq_true rfl, Nat.le_of_ble_eq_true rfl⟩) (mk_preC hst hG hK hA hX hS vc_3 v_ed) rfl rfl hl.1 rfl (lv_room (Nat.le_of_ble_eq_true rfl)) dX2_findMeanings_176 ⟨Nat.le_of_ble_eq_true rfl, Nat.le_of_ble_eq_true rfl⟩) hS (fun q _ h => h) (fun q h => h) (fun r32 G33 t H locs ht hvm hw hB hz1 hk1 hS => ?_)
        have hG : mm D vwCl A G33 H := by rw [← ht]; exact hB
        clear hB hz1 hk1 hvm ht
        obtain ⟨er32, hw⟩ := hw
        rw [hw] at hG
        have fr32 : r32 = (jbN v ((v.J j9).2)).map (AD 5) := er32
        rw [fr32]
        refine lv_aload_n hx hb dX2_findMeanings_179 rfl (lv_at hl 0 rfl) ?_
        refine lv_acmp_ne (rx := ((jbN v ((v.J j9).2)).map (AD 5))) (ry := some (AD 5 j9)) (tgt := 187) hx hb dX2_findMeanings_180 (by decide) (fun c_180 => ?_) (fun c_180 => ?_)
        · skip
          have hB_180 : decide (jbN v (v.J j9).2 = some j9) = false := decide_eq_false (fun z => c_180 ((map_eq (fun _ => jbN_lt) (show j9 < v.nJ by omega) hP.inJ).mpr z))
          refine lv_iconst (v := 0) hx hb dX2_findMeanings_187 (by decide) ?_
          refine lv_aload_n hx hb dX2_findMeanings_188 rfl (lv_at hl 0 rfl) ?_
          refine mm_getN (v := .int ((v.J j9).1)) hx hb hf_X4 (fun _ h9 => h9) hown hK hG k31 rfl 0 (by decide) (tb_use hT tw_871) (fun _ h9 => h9) rfl dX2_findMeanings_189 ?_
          refine va_callv (va_runV (As := [.int 0, .int ((v.J j9).1)]) (rest := []) ⟨hx, hb, hml, hown, (fun _ h9 => absurd h9 List.not_mem_nil : ∀ w ∈ ([] : List Cond), w.before _ s = true)⟩ (c_ED_expect l D cy A X hst hXT e0 tk hXE Gv LA AD ed na nc iu ww false ((v.J j9).1) v_ed) (tb_cw (C := RX2) 2 hT tw_1009 tw_110 tw_1006 tw_1008 tw_34 rfl rfl hq_X2_expect ⟨Nat.le_of_ble_eq_true rfl, Nat.le_of_ble_eq_true rfl⟩) (mk_preC hst hG hK hA hX hS vc_3 v_ed) rfl rfl hl.1 rfl (lv_room (Nat.le_of_ble_eq_true rfl)) dX2_findMeanings_192 ⟨Nat.le_of_ble_eq_true rfl, Nat.le_of_ble_eq_true rfl⟩) hS (fun q _ h => h) (fun q h => h) (fun  G34 t H locs ht hvm hw hB hz1 hk1 hS => ?_)
          have hG : mm D vwCl A G34 H := by rw [← ht]; exact hB
          clear hB hz1 hk1 hvm ht
          have k35 : G34 ed = some (.inr (3, [.ref (LA 0), .ref (LA 1), .ref (LA 2), .ref (LA 3), .ref (LA 4), .ref (LA 5), .ref na, .int nc, va_rf iu, .int ((ex1 false ((v.J j9).1) ww).1), va_rf ((ex1 false ((v.J j9).1) ww).2.map (AD 1))])) := by rw [hw]; exact mm_set_self
          have hP36 : EDP cy e0 tk G0 Bx G34 v zz LA EA AD PI := hP.mve hBe v_ed k35 (fun x e h1 n1 => by rw [hw]; exact mm_set_of h1 n1)
          have k37 : G34 (AD 5 j9) = some (.inr (5, [.int ((v.J j9).1), .long ((v.J j9).2), .ref (LA (40 + j9)), .ref (PI j9), .int (zz.jh j9)])) := by rw [hw]; exact mm_set_of k31 (mm_ne_oo k31 v_ed (by decide))
          have hfr38 : ∀ (x : Nat) (e : va_E), G x = some e → x ≠ ed → (∀ k i, lvV v k → i < lnV v k → x ≠ AD k i) → G34 x = some e := fun x e z9 n1 n2 => by
            have z0 := hfr x e z9 n1 n2
            rw [hw]; exact mm_set_of z0 n1
          clear hw
          refine lv_aload_n hx hb dX2_findMeanings_195 rfl (lv_at hl 1 rfl) ?_
          refine lv_aload_n hx hb dX2_findMeanings_196 rfl (lv_at hl 0 rfl) ?_
          refine va_callv (va_runV (As := [.ref (AD 5 j9)]) (rest := []) ⟨hx, hb, hml, hown, (fun _ h9 => absurd h9 List.not_mem_nil : ∀ w ∈ ([] : List Cond), w.before _ s = true)⟩ (c_X2_findGets l D cy A X hst hXT e0 tk hXE mi hXL ax adK adV hXX G34 G0 Bx v zz LA EA AD PI ed na nc iu (ex1 false ((v.J j9).1) ww) j9 hP36 hBe k35 (by omega) (hz2 j9 (Nat.le_refl _)) (hKO j9 (by omega))) (tb_cw (C := RX2) 1 hT tw_1063 tw_110 tw_1060 tw_1062 tw_42 rfl rfl hq_X2_findGets ⟨Nat.le_of_ble_eq_true rfl, Nat.le_of_ble_eq_true rfl⟩) (mk_preC hst hG hK hA hX hS vc_3 k35) rfl rfl hl.1 rfl (lv_room (Nat.le_of_ble_eq_true rfl)) dX2_findMeanings_197 ⟨Nat.le_of_ble_eq_true rfl, Nat.le_of_ble_eq_true rfl⟩) hS (fun q _ h => h) (fun q h => h) (fun  G39 t H locs ht hvm hw hB hz1 hk1 hS => ?_)
          have hG : mm D vwCl A G39 H := by rw [← ht]; exact hB
          clear hB hz1 hk1 hvm ht
          obtain ⟨z40, hP41, k42, hE1, hE2, hE3, hw43⟩ := hw
          have hfr44 : ∀ (x : Nat) (e : va_E), G x = some e → x ≠ ed → (∀ k i, lvV v k → i < lnV v k → x ≠ AD k i) → G39 x = some e := fun x e z9 n1 n2 => by
            have z0 := hfr38 x e z9 n1 n2
            exact hw43 x e z0 n1 n2
          obtain ⟨x45, ex45⟩ : ∃ y : Int32, y = (nI j9) + 1 := ⟨_, rfl⟩
          refine lv_iinc (v := x45) (lv' := [(1, .int x45), (2, .ref (AD 5 j9)), (0, .ref ed)]) hx hb dX2_findMeanings_200 hl (k := 2) rfl (by rw [ex45]; rfl) (by decide) rfl (fun ls hl => ?_)
          refine lv_goto (tgt := 147) hx hb dX2_findMeanings_203 (by decide) ?_
          rw [show x45 = nI (j9 + 1) by rw [ex45]; exact (nI_succ j9).symm] at hl
          have hz3 : ∀ c, c < j9 + 1 → zOp v AD z40 c := fun c hc => by by_cases e9 : c = j9; rw [e9]; exact hE1; intro i hi; rw [(hE2 c e9).1, (hE2 c e9).2]; exact hz1 c (by omega) i hi
          have hz4 : ∀ c, j9 + 1 ≤ c → z0O z40 c := fun c hc i => by rw [(hE2 c (by omega)).1, (hE2 c (by omega)).2]; exact hz2 c (by omega) i
          have hzL2 : zLo v AD z40 := fun i hi => by rw [hE3.1]; exact hzL i hi
          have hzV2 : zVl v AD z40 := fun i hi => by rw [hE3.2.1]; exact hzV i hi
          have hzP2 : ∀ c, c < v.nS → zPr v AD z40 c := fun c hc p hp => by rw [hE3.2.2.1, hE3.2.2.2.1]; exact hzP c hc p hp
          have hA4 : zOth z z40 := ⟨hE3.2.2.2.2.1.trans hA3.1, hE3.2.2.2.2.2.1.trans hA3.2.1, hE3.2.2.2.2.2.2.trans hA3.2.2⟩
          have hq2 : mJ v n (j9 + 1) (mO v j9 (v.nO j9) 0 (ex1 false ((v.J j9).1) ww)) = mAll v w9 := by rw [← hq, mJ, hB_180]
          exact ih (j9 + 1) z40 (mO v j9 (v.nO j9) 0 (ex1 false ((v.J j9).1) ww)) (by omega) hzL2 hA4 hzV2 hzP2 hz3 hz4 hq2 G39 k42 hP41 hfr44 _ _ hG hS ls (lv_sub hl [2, 0] rfl)
        · skip
          have hB_180 : decide (jbN v (v.J j9).2 = some j9) = true := decide_eq_true ((map_eq (fun _ => jbN_lt) (show j9 < v.nJ by omega) hP.inJ).mp c_180)
          refine lv_iconst (v := 1) hx hb dX2_findMeanings_183 (by decide) ?_
          refine lv_goto (tgt := 188) hx hb dX2_findMeanings_184 (by decide) ?_
          refine lv_aload_n hx hb dX2_findMeanings_188 rfl (lv_at hl 0 rfl) ?_
          refine mm_getN (v := .int ((v.J j9).1)) hx hb hf_X4 (fun _ h9 => h9) hown hK hG k31 rfl 0 (by decide) (tb_use hT tw_871) (fun _ h9 => h9) rfl dX2_findMeanings_189 ?_
          refine va_callv (va_runV (As := [.int 1, .int ((v.J j9).1)]) (rest := []) ⟨hx, hb, hml, hown, (fun _ h9 => absurd h9 List.not_mem_nil : ∀ w ∈ ([] : List Cond), w.before _ s = true)⟩ (c_ED_expect l D cy A X hst hXT e0 tk hXE Gv LA AD ed na nc iu ww true ((v.J j9).1) v_ed) (tb_cw (C := RX2) 2 hT tw_1009 tw_110 tw_1006 tw_1008 tw_34 rfl rfl hq_X2_expect ⟨Nat.le_of_ble_eq_true rfl, Nat.le_of_ble_eq_true rfl⟩) (mk_preC hst hG hK hA hX hS vc_3 v_ed) rfl rfl hl.1 rfl (lv_room (Nat.le_of_ble_eq_true rfl)) dX2_findMeanings_192 ⟨Nat.le_of_ble_eq_true rfl, Nat.le_of_ble_eq_true rfl⟩) hS (fun q _ h => h) (fun q h => h) (fun  G46 t H locs ht hvm hw hB hz1 hk1 hS => ?_)
          have hG : mm D vwCl A G46 H := by rw [← ht]; exact hB
          clear hB hz1 hk1 hvm ht
          have k47 : G46 ed = some (.inr (3, [.ref (LA 0), .ref (LA 1), .ref (LA 2), .ref (LA 3), .ref (LA 4), .ref (LA 5), .ref na, .int nc, va_rf iu, .int ((ex1 true ((v.J j9).1) ww).1), va_rf ((ex1 true ((v.J j9).1) ww).2.map (AD 1))])) := by rw [hw]; exact mm_set_self
          have hP48 : EDP cy e0 tk G0 Bx G46 v zz LA EA AD PI := hP.mve hBe v_ed k47 (fun x e h1 n1 => by rw [hw]; exact mm_set_of h1 n1)
          have k49 : G46 (AD 5 j9) = some (.inr (5, [.int ((v.J j9).1), .long ((v.J j9).2), .ref (LA (40 + j9)), .ref (PI j9), .int (zz.jh j9)])) := by rw [hw]; exact mm_set_of k31 (mm_ne_oo k31 v_ed (by decide))
          have hfr50 : ∀ (x : Nat) (e : va_E), G x = some e → x ≠ ed → (∀ k i, lvV v k → i < lnV v k → x ≠ AD k i) → G46 x = some e := fun x e z9 n1 n2 => by
            have z0 := hfr x e z9 n1 n2
            rw [hw]; exact mm_set_of z0 n1
          clear hw
          refine lv_aload_n hx hb dX2_findMeanings_195 rfl (lv_at hl 1 rfl) ?_
          refine lv_aload_n hx hb dX2_findMeanings_196 rfl (lv_at hl 0 rfl) ?_
          refine va_callv (va_runV (As := [.ref (AD 5 j9)]) (rest := []) ⟨hx, hb, hml, hown, (fun _ h9 => absurd h9 List.not_mem_nil : ∀ w ∈ ([] : List Cond), w.before _ s = true)⟩ (c_X2_findGets l D cy A X hst hXT e0 tk hXE mi hXL ax adK adV hXX G46 G0 Bx v zz LA EA AD PI ed na nc iu (ex1 true ((v.J j9).1) ww) j9 hP48 hBe k47 (by omega) (hz2 j9 (Nat.le_refl _)) (hKO j9 (by omega))) (tb_cw (C := RX2) 1 hT tw_1063 tw_110 tw_1060 tw_1062 tw_42 rfl rfl hq_X2_findGets ⟨Nat.le_of_ble_eq_true rfl, Nat.le_of_ble_eq_true rfl⟩) (mk_preC hst hG hK hA hX hS vc_3 k47) rfl rfl hl.1 rfl (lv_room (Nat.le_of_ble_eq_true rfl)) dX2_findMeanings_197 ⟨Nat.le_of_ble_eq_true rfl, Nat.le_of_ble_eq_true rfl⟩) hS (fun q _ h => h) (fun q h => h) (fun  G51 t H locs ht hvm hw hB hz1 hk1 hS => ?_)
          have hG : mm D vwCl A G51 H := by rw [← ht]; exact hB
          clear hB hz1 hk1 hvm ht
          obtain ⟨z52, hP53, k54, hE1, hE2, hE3, hw55⟩ := hw
          have hfr56 : ∀ (x : Nat) (e : va_E), G x = some e → x ≠ ed → (∀ k i, lvV v k → i < lnV v k → x ≠ AD k i) → G51 x = some e := fun x e z9 n1 n2 => by
            have z0 := hfr50 x e z9 n1 n2
            exact hw55 x e z0 n1 n2
          obtain ⟨x57, ex57⟩ : ∃ y : Int32, y = (nI j9) + 1 := ⟨_, rfl⟩
          refine lv_iinc (v := x57) (lv' := [(1, .int x57), (2, .ref (AD 5 j9)), (0, .ref ed)]) hx hb dX2_findMeanings_200 hl (k := 2) rfl (by rw [ex57]; rfl) (by decide) rfl (fun ls hl => ?_)
          refine lv_goto (tgt := 147) hx hb dX2_findMeanings_203 (by decide) ?_
          rw [show x57 = nI (j9 + 1) by rw [ex57]; exact (nI_succ j9).symm] at hl
          have hz3 : ∀ c, c < j9 + 1 → zOp v AD z52 c := fun c hc => by by_cases e9 : c = j9; rw [e9]; exact hE1; intro i hi; rw [(hE2 c e9).1, (hE2 c e9).2]; exact hz1 c (by omega) i hi
          have hz4 : ∀ c, j9 + 1 ≤ c → z0O z52 c := fun c hc i => by rw [(hE2 c (by omega)).1, (hE2 c (by omega)).2]; exact hz2 c (by omega) i
          have hzL2 : zLo v AD z52 := fun i hi => by rw [hE3.1]; exact hzL i hi
          have hzV2 : zVl v AD z52 := fun i hi => by rw [hE3.2.1]; exact hzV i hi
          have hzP2 : ∀ c, c < v.nS → zPr v AD z52 c := fun c hc p hp => by rw [hE3.2.2.1, hE3.2.2.2.1]; exact hzP c hc p hp
          have hA4 : zOth z z52 := ⟨hE3.2.2.2.2.1.trans hA3.1, hE3.2.2.2.2.2.1.trans hA3.2.1, hE3.2.2.2.2.2.2.trans hA3.2.2⟩
          have hq2 : mJ v n (j9 + 1) (mO v j9 (v.nO j9) 0 (ex1 true ((v.J j9).1) ww)) = mAll v w9 := by rw [← hq, mJ, hB_180]
          exact ih (j9 + 1) z52 (mO v j9 (v.nO j9) 0 (ex1 true ((v.J j9).1) ww)) (by omega) hzL2 hA4 hzV2 hzP2 hz3 hz4 hq2 G51 k54 hP53 hfr56 _ _ hG hS ls (lv_sub hl [2, 0] rfl)
  have hloopS : ∀ (n : Nat) (j9 : Nat) (zz : PtV) (ww : Int32 × Option Nat), (n + j9 = v.nS) → (zLo v AD zz) → (zOth z zz) → (∀ c, z0O zz c) → (∀ c, c < j9 → zPr v AD zz c) → (∀ c, j9 ≤ c → z0P zz c) → (mS v n j9 ww = mS v v.nS 0 (mC v v.nC 0 (mLy v w9))) → ∀ (Gv : Nat → Option va_E), (Gv ed = some (.inr (3, [.ref (LA 0), .ref (LA 1), .ref (LA 2), .ref (LA 3), .ref (LA 4), .ref (LA 5), .ref na, .int nc, va_rf iu, .int ww.1, va_rf (ww.2.map (AD 1))]))) → (EDP cy e0 tk G0 Bx Gv v zz LA EA AD PI) → (∀ (x : Nat) (e : va_E), G x = some e → x ≠ ed → (∀ k i, lvV v k → i < lnV v k → x ≠ AD k i) → Gv x = some e) → ∀ (H : Heap) (locs : List Loc), mm D vwCl A Gv H → va_S A s.heap H locs → ∀ ls : Array Slot, lv_has ls 3 [(0, .ref ed), (1, .int (nI j9))] → W p l e (headSpec [.code yX2_findMeanings cX2_findMeanings 3 none] ({ frames := 7, cells := 0, slots := 0, locals := 210 })).room s m ([.ref ed] : List Value).toArray below meth c H locs 0 0 (MQ below (va_Qv (fun (G2 : Nat → Option va_E) => ∃ z2 : PtV, EDP cy e0 tk G0 Bx G2 v z2 LA EA AD PI ∧ G2 ed = some (.inr (3, [.ref (LA 0), .ref (LA 1), .ref (LA 2), .ref (LA 3), .ref (LA 4), .ref (LA 5), .ref na, .int nc, va_rf iu, .int ((mAll v w9).1), va_rf ((mAll v w9).2.map (AD 1))])) ∧ (zLo v AD z2 ∧ zVl v AD z2 ∧ (∀ c, c < v.nS → zPr v AD z2 c) ∧ (∀ c, c < v.nJ → zOp v AD z2 c) ∧ zOth z z2) ∧ ∀ (x : Nat) (e : va_E), G x = some e → x ≠ ed → (∀ k i, lvV v k → i < lnV v k → x ≠ AD k i) → G2 x = some e) (mk_B D vwCl A) A) ([.ref ed] : List Value).toArray s 0 0 A) (F0 m 70 ls []) := by
    intro n
    induction n with
    | zero =>
      intro j9 zz ww hjn hzL hA3 hA2 hz1 hz2 hq Gv v_ed hP hfr H locs hG hS ls hl
      have hbb := hP.b
      refine lv_iload_n hx hb dX2_findMeanings_70 rfl (lv_at hl 1 rfl) ?_
      refine lv_aload_n hx hb dX2_findMeanings_71 rfl (lv_at hl 0 rfl) ?_
      refine mm_get (v := .ref (LA 2)) hx hb hf_X2 (fun _ h9 => h9) hown hK hG v_ed rfl 2 (by decide) (tb_use hT tw_283) (fun _ h9 => h9) rfl dX2_findMeanings_72 ?_
      obtain ⟨mo58, h_mo58, -⟩ := id (hP.lsS)
      refine va_calli (va_runV (As := []) (rest := [.int (nI j9)]) ⟨hx, hb, hml, hown, (fun _ h9 => absurd h9 List.not_mem_nil : ∀ w ∈ ([] : List Cond), w.before _ s = true)⟩ (c_LS_size l D cy A X hst hXT e0 tk hXE mi hXL Gv (LA 2) (EA 2) v.nS (AD 2) (hP.lsS)) (tb_cw (C := RJx4a65c) 0 hT tw_457 tw_113 tw_999 tw_455 tw_456 rfl rfl hq_Jx4a65c_size_8abf5 ⟨Nat.le_of_ble_eq_true rfl, Nat.le_of_ble_eq_true rfl⟩) (mk_preC hst hG hK hA hX hS vc_1 h_mo58) rfl rfl hl.1 rfl (lv_room (Nat.le_of_ble_eq_true rfl)) dX2_findMeanings_75 ⟨Nat.le_of_ble_eq_true rfl, Nat.le_of_ble_eq_true rfl⟩) hS (fun q _ h => h) (fun q h => h) (fun r59 G60 t H locs ht hvm hw hB hz1 hk1 hS => ?_)
      have hG : mm D vwCl A G60 H := by rw [← ht]; exact hB
      clear hB hz1 hk1 hvm ht
      obtain ⟨rfl, hw⟩ := hw
      rw [hw] at hG
      refine lv_icmp_ge (tgt := 133) hx hb dX2_findMeanings_78 (by decide) (fun c_78 => ?_) (fun c_78 => ?_)
      · skip
        refine lv_aload_n hx hb dX2_findMeanings_133 rfl (lv_at hl 0 rfl) ?_
        refine lv_aload_n hx hb dX2_findMeanings_134 rfl (lv_at hl 0 rfl) ?_
        refine mm_get (v := .ref (LA 3)) hx hb hf_X2 (fun _ h9 => h9) hown hK hG v_ed rfl 3 (by decide) (tb_use hT tw_286) (fun _ h9 => h9) rfl dX2_findMeanings_135 ?_
        refine va_callv (va_runV (As := [.ref (LA 3)]) (rest := []) ⟨hx, hb, hml, hown, (fun _ h9 => absurd h9 List.not_mem_nil : ∀ w ∈ ([] : List Cond), w.before _ s = true)⟩ (c_X2_expectNumbersOnce l D cy A X hst hXT e0 tk hXE mi hXL Gv ed (LA 0) (LA 1) (LA 2) (LA 3) (LA 4) (LA 5) na nc ww.1 iu (ww.2.map (AD 1)) (LA 3) (EA 3) v.nE (AD 3) (fun j => enF (v.E j) none) (fun i => (v.E i).1) (fun i => (v.E i).2.1) v_ed (hP.lsE) (by have := (hP.lsE).le; omega) (hP.nmE) (hP.inE)) (tb_cw (C := RX2) 1 hT tw_1026 tw_110 tw_1023 tw_1025 tw_37 rfl rfl hq_X2_expectNumbersOnce ⟨Nat.le_of_ble_eq_true rfl, Nat.le_of_ble_eq_true rfl⟩) (mk_preC hst hG hK hA hX hS vc_3 v_ed) rfl rfl hl.1 rfl (lv_room (Nat.le_of_ble_eq_true rfl)) dX2_findMeanings_138 ⟨Nat.le_of_ble_eq_true rfl, Nat.le_of_ble_eq_true rfl⟩) hS (fun q _ h => h) (fun q h => h) (fun  G61 t H locs ht hvm hw hB hz1 hk1 hS => ?_)
        have hG : mm D vwCl A G61 H := by rw [← ht]; exact hB
        clear hB hz1 hk1 hvm ht
        obtain ⟨hw1, hw2⟩ := hw
        have k62 : G61 ed = some (.inr (3, [.ref (LA 0), .ref (LA 1), .ref (LA 2), .ref (LA 3), .ref (LA 4), .ref (LA 5), .ref na, .int nc, va_rf iu, .int ((onE v ww).1), va_rf ((onE v ww).2.map (AD 1))])) := by have z := hw1; rw [exN_map] at z; exact z
        have hP63 : EDP cy e0 tk G0 Bx G61 v zz LA EA AD PI := hP.mve hBe v_ed k62 hw2
        have hfr64 : ∀ (x : Nat) (e : va_E), G x = some e → x ≠ ed → (∀ k i, lvV v k → i < lnV v k → x ≠ AD k i) → G61 x = some e := fun x e z9 n1 n2 => by
          have z0 := hfr x e z9 n1 n2
          exact hw2 x e z0 n1
        clear hw1
        have hw65 := hw2
        clear hw2
        refine lv_aload_n hx hb dX2_findMeanings_141 rfl (lv_at hl 0 rfl) ?_
        refine va_callv (va_runV (As := []) (rest := []) ⟨hx, hb, hml, hown, (fun _ h9 => absurd h9 List.not_mem_nil : ∀ w ∈ ([] : List Cond), w.before _ s = true)⟩ (c_X2_findVariants l D cy A X hst hXT e0 tk hXE mi hXL ax adK adV hXX G61 G0 Bx v zz LA EA AD PI ed na nc iu (onE v ww)  hP63 hBe k62 ) (tb_cw (C := RX2) 0 hT tw_1054 tw_110 tw_1051 tw_1053 tw_40 rfl rfl hq_X2_findVariants ⟨Nat.le_of_ble_eq_true rfl, Nat.le_of_ble_eq_true rfl⟩) (mk_preC hst hG hK hA hX hS vc_3 k62) rfl rfl hl.1 rfl (lv_room (Nat.le_of_ble_eq_true rfl)) dX2_findMeanings_142 ⟨Nat.le_of_ble_eq_true rfl, Nat.le_of_ble_eq_true rfl⟩) hS (fun q _ h => h) (fun q h => h) (fun  G66 t H locs ht hvm hw hB hz1 hk1 hS => ?_)
        have hG : mm D vwCl A G66 H := by rw [← ht]; exact hB
        clear hB hz1 hk1 hvm ht
        obtain ⟨z67, hP68, k69, hD1, hD2, hw70⟩ := hw
        have hfr71 : ∀ (x : Nat) (e : va_E), G x = some e → x ≠ ed → (∀ k i, lvV v k → i < lnV v k → x ≠ AD k i) → G66 x = some e := fun x e z9 n1 n2 => by
          have z0 := hfr64 x e z9 n1 n2
          exact hw70 x e z0 n1 n2
        refine lv_iconst (v := 0) hx hb dX2_findMeanings_145 (by decide) ?_
        refine lv_istore_n (lv' := [(1, .int 0), (0, .ref ed)]) hx hb dX2_findMeanings_146 rfl hl (by decide) rfl (fun ls hl => ?_)
        have hj9 : j9 = v.nS := by omega
        have hw9 : mS v v.nS 0 (mC v v.nC 0 (mLy v w9)) = ww := by rw [← hq]; first | rfl | (rw [show n = 0 by omega]; rfl)
        have hzL2 : zLo v AD z67 := fun i hi => by rw [hD2.1]; exact hzL i hi
        have hzP2 : ∀ c, c < v.nS → zPr v AD z67 c := fun c hc p hp => by rw [hD2.2.1, hD2.2.2.1]; exact hz1 c (by omega) p hp
        have hA5 : ∀ c, z0O z67 c := fun c p => by rw [hD2.2.2.2.1, hD2.2.2.2.2.1]; exact hA2 c p
        have hA4 : zOth z z67 := ⟨hD2.2.2.2.2.2.1.trans hA3.1, hD2.2.2.2.2.2.2.1.trans hA3.2.1, hD2.2.2.2.2.2.2.2.trans hA3.2.2⟩
        exact hloopJ v.nJ 0 z67 (mV v v.nV 0 (onV v (onE v ww))) (by omega) hzL2 hA4 hD1 hzP2 (fun c hc => absurd hc (by omega)) (fun c _ => hA5 c) (by rw [mAll, hw9]) G66 k69 hP68 hfr71 _ _ hG hS ls (lv_sub hl [1, 0] rfl)
      · skip
        exact absurd (by rw [show j9 = v.nS by omega]; exact Int32.le_refl _) c_78
    | succ n ih =>
      intro j9 zz ww hjn hzL hA3 hA2 hz1 hz2 hq Gv v_ed hP hfr H locs hG hS ls hl
      have hbb := hP.b
      refine lv_iload_n hx hb dX2_findMeanings_70 rfl (lv_at hl 1 rfl) ?_
      refine lv_aload_n hx hb dX2_findMeanings_71 rfl (lv_at hl 0 rfl) ?_
      refine mm_get (v := .ref (LA 2)) hx hb hf_X2 (fun _ h9 => h9) hown hK hG v_ed rfl 2 (by decide) (tb_use hT tw_283) (fun _ h9 => h9) rfl dX2_findMeanings_72 ?_
      obtain ⟨mo72, h_mo72, -⟩ := id (hP.lsS)
      refine va_calli (va_runV (As := []) (rest := [.int (nI j9)]) ⟨hx, hb, hml, hown, (fun _ h9 => absurd h9 List.not_mem_nil : ∀ w ∈ ([] : List Cond), w.before _ s = true)⟩ (c_LS_size l D cy A X hst hXT e0 tk hXE mi hXL Gv (LA 2) (EA 2) v.nS (AD 2) (hP.lsS)) (tb_cw (C := RJx4a65c) 0 hT tw_457 tw_113 tw_999 tw_455 tw_456 rfl rfl hq_Jx4a65c_size_8abf5 ⟨Nat.le_of_ble_eq_true rfl, Nat.le_of_ble_eq_true rfl⟩) (mk_preC hst hG hK hA hX hS vc_1 h_mo72) rfl rfl hl.1 rfl (lv_room (Nat.le_of_ble_eq_true rfl)) dX2_findMeanings_75 ⟨Nat.le_of_ble_eq_true rfl, Nat.le_of_ble_eq_true rfl⟩) hS (fun q _ h => h) (fun q h => h) (fun r73 G74 t H locs ht hvm hw hB hz1 hk1 hS => ?_)
      have hG : mm D vwCl A G74 H := by rw [← ht]; exact hB
      clear hB hz1 hk1 hvm ht
      obtain ⟨rfl, hw⟩ := hw
      rw [hw] at hG
      refine lv_icmp_ge (tgt := 133) hx hb dX2_findMeanings_78 (by decide) (fun c_78 => ?_) (fun c_78 => ?_)
      · skip
        exact absurd c_78 (nI_ge (by omega) (by omega))
      · skip
        refine lv_aload_n hx hb dX2_findMeanings_81 rfl (lv_at hl 0 rfl) ?_
        refine mm_get (v := .ref (LA 2)) hx hb hf_X2 (fun _ h9 => h9) hown hK hG v_ed rfl 2 (by decide) (tb_use hT tw_283) (fun _ h9 => h9) rfl dX2_findMeanings_82 ?_
        refine lv_iload_n hx hb dX2_findMeanings_85 rfl (lv_at hl 1 rfl) ?_
        have hj75 : j9 < v.nS := by omega
        obtain ⟨mo76, h_mo76, -⟩ := id (hP.lsS)
        refine va_callq (va_runV (As := [.int (nI j9)]) (rest := []) ⟨hx, hb, hml, hown, (fun _ h9 => absurd h9 List.not_mem_nil : ∀ w ∈ ([] : List Cond), w.before _ s = true)⟩ (c_LS_get l D cy A X hst hXT e0 tk hXE mi hXL Gv (LA 2) (EA 2) v.nS (AD 2) j9 (hP.lsS) hj75) (tb_cw (C := RJx4a65c) 1 hT tw_942 tw_113 tw_1000 tw_940 tw_941 rfl rfl hq_Jx4a65c_get_915e3 ⟨Nat.le_of_ble_eq_true rfl, Nat.le_of_ble_eq_true rfl⟩) (mk_preC hst hG hK hA hX hS vc_1 h_mo76) rfl rfl hl.1 rfl (lv_room (Nat.le_of_ble_eq_true rfl)) dX2_findMeanings_86 ⟨Nat.le_of_ble_eq_true rfl, Nat.le_of_ble_eq_true rfl⟩) hS (fun q _ h => h) (fun q h => h) (fun r77 G78 t H locs ht hvm hw hB hz1 hk1 hS => ?_)
        have hG : mm D vwCl A G78 H := by rw [← ht]; exact hB
        clear hB hz1 hk1 hvm ht
        obtain ⟨rfl, hw⟩ := hw
        rw [hw] at hG
        refine W.eq (g2 := F0 m 89 ls [.ref (AD 2 j9)]) rfl ?_
        have k79 : Gv (AD 2 j9) = some (.inr (11, [.int (nI (j9 + 1)), .ref (AD 1 (v.S j9).1), .int ((v.S j9).2.1), .long ((v.S j9).2.2.1), .ref (LA (20 + j9)), .int ((v.S j9).2.2.2)])) := hP.elS hj75
        refine va_castS hx hb hown (tb_use hT tw_1034) (hK.1 11 _ rfl).2 (va_recv hK (hG.one k79) (q := (RX10, TX10, 6)) rfl (q0 := 0) rfl) dX2_findMeanings_89 ?_
        refine lv_astore_n (lv' := [(2, .ref (AD 2 j9)), (0, .ref ed), (1, .int (nI j9))]) hx hb dX2_findMeanings_92 rfl hl (by decide) rfl (fun ls hl => ?_)
        refine lv_aload_n hx hb dX2_findMeanings_93 rfl (lv_at hl 1 rfl) ?_
        refine lv_aload_n hx hb dX2_findMeanings_94 rfl (lv_at hl 1 rfl) ?_
        refine lv_aload_n hx hb dX2_findMeanings_95 rfl (lv_at hl 0 rfl) ?_
        refine mm_getN (v := .ref (AD 1 (v.S j9).1)) hx hb hf_X10 (fun _ h9 => h9) hown hK hG k79 rfl 1 (by decide) (tb_use hT tw_732) (fun _ h9 => h9) rfl dX2_findMeanings_96 ?_
        refine lv_aload_n hx hb dX2_findMeanings_99 rfl (lv_at hl 0 rfl) ?_
        refine mm_getN (v := .long ((v.S j9).2.2.1)) hx hb hf_X10 (fun _ h9 => h9) hown hK hG k79 rfl 3 (by decide) (tb_use hT tw_737) (fun _ h9 => h9) rfl dX2_findMeanings_100 ?_
        refine va_callq (va_runV (As := [.ref (AD 1 (v.S j9).1), .long ((v.S j9).2.2.1)]) (rest := [.ref ed]) ⟨hx, hb, hml, hown, (fun _ h9 => absurd h9 List.not_mem_nil : ∀ w ∈ ([] : List Cond), w.before _ s = true)⟩ (c_X2_serviceIn l D cy A X hst hXT e0 tk hXE mi hXL Gv ed (LA 0) (LA 1) (LA 2) (LA 3) (LA 4) (LA 5) na nc ww.1 iu (ww.2.map (AD 1)) (EA 2) v.nS (AD 2) (fun j => seF j (v.S j).2 (AD 1 (v.S j).1) (LA (20 + j))) (fun j => AD 1 (v.S j).1) (fun j => (v.S j).2.2.1) (AD 1 (v.S j9).1) ((v.S j9).2.2.1) v_ed hP.lsS (by have := hP.b; omega) hP.nmI) (tb_cw (C := RX2) 2 hT tw_1038 tw_110 tw_1035 tw_1037 tw_38 rfl rfl hq_X2_serviceIn ⟨Nat.le_of_ble_eq_true rfl, Nat.le_of_ble_eq_true rfl⟩) (mk_preC hst hG hK hA hX hS vc_3 v_ed) rfl rfl hl.1 rfl (lv_room (Nat.le_of_ble_eq_true rfl)) dX2_findMeanings_103 ⟨Nat.le_of_ble_eq_true rfl, Nat.le_of_ble_eq_true rfl⟩) hS (fun q _ h => h) (fun q h => h) (fun r80 G81 t H locs ht hvm hw hB hz1 hk1 hS => ?_)
        have hG : mm D vwCl A G81 H := by rw [← ht]; exact hB
        clear hB hz1 hk1 hvm ht
        obtain ⟨er80, hw⟩ := hw
        rw [hw] at hG
        have fr80 : r80 = (svI v ((v.S j9).1) ((v.S j9).2.2.1)).map (AD 2) := by rw [← hP.svI (li := (v.S j9).1) (nm := (v.S j9).2.2.1) (hP.sl j9 (by omega))]; exact er80
        rw [fr80]
        refine lv_aload_n hx hb dX2_findMeanings_106 rfl (lv_at hl 0 rfl) ?_
        refine lv_acmp_ne (rx := ((svI v ((v.S j9).1) ((v.S j9).2.2.1)).map (AD 2))) (ry := some (AD 2 j9)) (tgt := 114) hx hb dX2_findMeanings_107 (by decide) (fun c_107 => ?_) (fun c_107 => ?_)
        · skip
          have hB_107 : decide (svI v (v.S j9).1 (v.S j9).2.2.1 = some j9) = false := decide_eq_false (fun z => c_107 ((map_eq (fun _ => svI_lt) (show j9 < v.nS by omega) hP.inS).mpr z))
          refine lv_iconst (v := 0) hx hb dX2_findMeanings_114 (by decide) ?_
          refine lv_aload_n hx hb dX2_findMeanings_115 rfl (lv_at hl 0 rfl) ?_
          refine mm_getN (v := .int ((v.S j9).2.1)) hx hb hf_X10 (fun _ h9 => h9) hown hK hG k79 rfl 2 (by decide) (tb_use hT tw_734) (fun _ h9 => h9) rfl dX2_findMeanings_116 ?_
          refine va_callv (va_runV (As := [.int 0, .int ((v.S j9).2.1)]) (rest := []) ⟨hx, hb, hml, hown, (fun _ h9 => absurd h9 List.not_mem_nil : ∀ w ∈ ([] : List Cond), w.before _ s = true)⟩ (c_ED_expect l D cy A X hst hXT e0 tk hXE Gv LA AD ed na nc iu ww false ((v.S j9).2.1) v_ed) (tb_cw (C := RX2) 2 hT tw_1009 tw_110 tw_1006 tw_1008 tw_34 rfl rfl hq_X2_expect ⟨Nat.le_of_ble_eq_true rfl, Nat.le_of_ble_eq_true rfl⟩) (mk_preC hst hG hK hA hX hS vc_3 v_ed) rfl rfl hl.1 rfl (lv_room (Nat.le_of_ble_eq_true rfl)) dX2_findMeanings_119 ⟨Nat.le_of_ble_eq_true rfl, Nat.le_of_ble_eq_true rfl⟩) hS (fun q _ h => h) (fun q h => h) (fun  G82 t H locs ht hvm hw hB hz1 hk1 hS => ?_)
          have hG : mm D vwCl A G82 H := by rw [← ht]; exact hB
          clear hB hz1 hk1 hvm ht
          have k83 : G82 ed = some (.inr (3, [.ref (LA 0), .ref (LA 1), .ref (LA 2), .ref (LA 3), .ref (LA 4), .ref (LA 5), .ref na, .int nc, va_rf iu, .int ((ex1 false ((v.S j9).2.1) ww).1), va_rf ((ex1 false ((v.S j9).2.1) ww).2.map (AD 1))])) := by rw [hw]; exact mm_set_self
          have hP84 : EDP cy e0 tk G0 Bx G82 v zz LA EA AD PI := hP.mve hBe v_ed k83 (fun x e h1 n1 => by rw [hw]; exact mm_set_of h1 n1)
          have k85 : G82 (AD 2 j9) = some (.inr (11, [.int (nI (j9 + 1)), .ref (AD 1 (v.S j9).1), .int ((v.S j9).2.1), .long ((v.S j9).2.2.1), .ref (LA (20 + j9)), .int ((v.S j9).2.2.2)])) := by rw [hw]; exact mm_set_of k79 (mm_ne_oo k79 v_ed (by decide))
          have hfr86 : ∀ (x : Nat) (e : va_E), G x = some e → x ≠ ed → (∀ k i, lvV v k → i < lnV v k → x ≠ AD k i) → G82 x = some e := fun x e z9 n1 n2 => by
            have z0 := hfr x e z9 n1 n2
            rw [hw]; exact mm_set_of z0 n1
          clear hw
          refine lv_aload_n hx hb dX2_findMeanings_122 rfl (lv_at hl 1 rfl) ?_
          refine lv_aload_n hx hb dX2_findMeanings_123 rfl (lv_at hl 0 rfl) ?_
          refine va_callv (va_runV (As := [.ref (AD 2 j9)]) (rest := []) ⟨hx, hb, hml, hown, (fun _ h9 => absurd h9 List.not_mem_nil : ∀ w ∈ ([] : List Cond), w.before _ s = true)⟩ (c_X2_findParameters l D cy A X hst hXT e0 tk hXE mi hXL ax adK adV hXX G82 G0 Bx v zz LA EA AD PI ed na nc iu (ex1 false ((v.S j9).2.1) ww) j9 hP84 hBe k83 (by omega) (hz2 j9 (Nat.le_refl _))) (tb_cw (C := RX2) 1 hT tw_1042 tw_110 tw_1039 tw_1041 tw_39 rfl rfl hq_X2_findParameters ⟨Nat.le_of_ble_eq_true rfl, Nat.le_of_ble_eq_true rfl⟩) (mk_preC hst hG hK hA hX hS vc_3 k83) rfl rfl hl.1 rfl (lv_room (Nat.le_of_ble_eq_true rfl)) dX2_findMeanings_124 ⟨Nat.le_of_ble_eq_true rfl, Nat.le_of_ble_eq_true rfl⟩) hS (fun q _ h => h) (fun q h => h) (fun  G87 t H locs ht hvm hw hB hz1 hk1 hS => ?_)
          have hG : mm D vwCl A G87 H := by rw [← ht]; exact hB
          clear hB hz1 hk1 hvm ht
          obtain ⟨z88, hP89, k90, hC1, hC2, hC3, hw91⟩ := hw
          have hfr92 : ∀ (x : Nat) (e : va_E), G x = some e → x ≠ ed → (∀ k i, lvV v k → i < lnV v k → x ≠ AD k i) → G87 x = some e := fun x e z9 n1 n2 => by
            have z0 := hfr86 x e z9 n1 n2
            exact hw91 x e z0 n1 n2
          obtain ⟨x93, ex93⟩ : ∃ y : Int32, y = (nI j9) + 1 := ⟨_, rfl⟩
          refine lv_iinc (v := x93) (lv' := [(1, .int x93), (2, .ref (AD 2 j9)), (0, .ref ed)]) hx hb dX2_findMeanings_127 hl (k := 2) rfl (by rw [ex93]; rfl) (by decide) rfl (fun ls hl => ?_)
          refine lv_goto (tgt := 70) hx hb dX2_findMeanings_130 (by decide) ?_
          rw [show x93 = nI (j9 + 1) by rw [ex93]; exact (nI_succ j9).symm] at hl
          have hz3 : ∀ c, c < j9 + 1 → zPr v AD z88 c := fun c hc => by by_cases e9 : c = j9; rw [e9]; exact hC1; intro p hp; rw [(hC2 c e9).1, (hC2 c e9).2]; exact hz1 c (by omega) p hp
          have hz4 : ∀ c, j9 + 1 ≤ c → z0P z88 c := fun c hc p => by rw [(hC2 c (by omega)).1, (hC2 c (by omega)).2]; exact hz2 c (by omega) p
          have hzL2 : zLo v AD z88 := fun i hi => by rw [hC3.1]; exact hzL i hi
          have hA5 : ∀ c, z0O z88 c := fun c p => by rw [hC3.2.2.1, hC3.2.2.2.1]; exact hA2 c p
          have hA4 : zOth z z88 := ⟨hC3.2.2.2.2.1.trans hA3.1, hC3.2.2.2.2.2.1.trans hA3.2.1, hC3.2.2.2.2.2.2.trans hA3.2.2⟩
          have hq2 : mS v n (j9 + 1) (mP v j9 (v.nP j9) 0 (ex1 false ((v.S j9).2.1) ww)) = mS v v.nS 0 (mC v v.nC 0 (mLy v w9)) := by rw [← hq, mS, hB_107]
          exact ih (j9 + 1) z88 (mP v j9 (v.nP j9) 0 (ex1 false ((v.S j9).2.1) ww)) (by omega) hzL2 hA4 hA5 hz3 hz4 hq2 G87 k90 hP89 hfr92 _ _ hG hS ls (lv_sub hl [2, 0] rfl)
        · skip
          have hB_107 : decide (svI v (v.S j9).1 (v.S j9).2.2.1 = some j9) = true := decide_eq_true ((map_eq (fun _ => svI_lt) (show j9 < v.nS by omega) hP.inS).mp c_107)
          refine lv_iconst (v := 1) hx hb dX2_findMeanings_110 (by decide) ?_
          refine lv_goto (tgt := 115) hx hb dX2_findMeanings_111 (by decide) ?_
          refine lv_aload_n hx hb dX2_findMeanings_115 rfl (lv_at hl 0 rfl) ?_
          refine mm_getN (v := .int ((v.S j9).2.1)) hx hb hf_X10 (fun _ h9 => h9) hown hK hG k79 rfl 2 (by decide) (tb_use hT tw_734) (fun _ h9 => h9) rfl dX2_findMeanings_116 ?_
          refine va_callv (va_runV (As := [.int 1, .int ((v.S j9).2.1)]) (rest := []) ⟨hx, hb, hml, hown, (fun _ h9 => absurd h9 List.not_mem_nil : ∀ w ∈ ([] : List Cond), w.before _ s = true)⟩ (c_ED_expect l D cy A X hst hXT e0 tk hXE Gv LA AD ed na nc iu ww true ((v.S j9).2.1) v_ed) (tb_cw (C := RX2) 2 hT tw_1009 tw_110 tw_1006 tw_1008 tw_34 rfl rfl hq_X2_expect ⟨Nat.le_of_ble_eq_true rfl, Nat.le_of_ble_eq_true rfl⟩) (mk_preC hst hG hK hA hX hS vc_3 v_ed) rfl rfl hl.1 rfl (lv_room (Nat.le_of_ble_eq_true rfl)) dX2_findMeanings_119 ⟨Nat.le_of_ble_eq_true rfl, Nat.le_of_ble_eq_true rfl⟩) hS (fun q _ h => h) (fun q h => h) (fun  G94 t H locs ht hvm hw hB hz1 hk1 hS => ?_)
          have hG : mm D vwCl A G94 H := by rw [← ht]; exact hB
          clear hB hz1 hk1 hvm ht
          have k95 : G94 ed = some (.inr (3, [.ref (LA 0), .ref (LA 1), .ref (LA 2), .ref (LA 3), .ref (LA 4), .ref (LA 5), .ref na, .int nc, va_rf iu, .int ((ex1 true ((v.S j9).2.1) ww).1), va_rf ((ex1 true ((v.S j9).2.1) ww).2.map (AD 1))])) := by rw [hw]; exact mm_set_self
          have hP96 : EDP cy e0 tk G0 Bx G94 v zz LA EA AD PI := hP.mve hBe v_ed k95 (fun x e h1 n1 => by rw [hw]; exact mm_set_of h1 n1)
          have k97 : G94 (AD 2 j9) = some (.inr (11, [.int (nI (j9 + 1)), .ref (AD 1 (v.S j9).1), .int ((v.S j9).2.1), .long ((v.S j9).2.2.1), .ref (LA (20 + j9)), .int ((v.S j9).2.2.2)])) := by rw [hw]; exact mm_set_of k79 (mm_ne_oo k79 v_ed (by decide))
          have hfr98 : ∀ (x : Nat) (e : va_E), G x = some e → x ≠ ed → (∀ k i, lvV v k → i < lnV v k → x ≠ AD k i) → G94 x = some e := fun x e z9 n1 n2 => by
            have z0 := hfr x e z9 n1 n2
            rw [hw]; exact mm_set_of z0 n1
          clear hw
          refine lv_aload_n hx hb dX2_findMeanings_122 rfl (lv_at hl 1 rfl) ?_
          refine lv_aload_n hx hb dX2_findMeanings_123 rfl (lv_at hl 0 rfl) ?_
          refine va_callv (va_runV (As := [.ref (AD 2 j9)]) (rest := []) ⟨hx, hb, hml, hown, (fun _ h9 => absurd h9 List.not_mem_nil : ∀ w ∈ ([] : List Cond), w.before _ s = true)⟩ (c_X2_findParameters l D cy A X hst hXT e0 tk hXE mi hXL ax adK adV hXX G94 G0 Bx v zz LA EA AD PI ed na nc iu (ex1 true ((v.S j9).2.1) ww) j9 hP96 hBe k95 (by omega) (hz2 j9 (Nat.le_refl _))) (tb_cw (C := RX2) 1 hT tw_1042 tw_110 tw_1039 tw_1041 tw_39 rfl rfl hq_X2_findParameters ⟨Nat.le_of_ble_eq_true rfl, Nat.le_of_ble_eq_true rfl⟩) (mk_preC hst hG hK hA hX hS vc_3 k95) rfl rfl hl.1 rfl (lv_room (Nat.le_of_ble_eq_true rfl)) dX2_findMeanings_124 ⟨Nat.le_of_ble_eq_true rfl, Nat.le_of_ble_eq_true rfl⟩) hS (fun q _ h => h) (fun q h => h) (fun  G99 t H locs ht hvm hw hB hz1 hk1 hS => ?_)
          have hG : mm D vwCl A G99 H := by rw [← ht]; exact hB
          clear hB hz1 hk1 hvm ht
          obtain ⟨z100, hP101, k102, hC1, hC2, hC3, hw103⟩ := hw
          have hfr104 : ∀ (x : Nat) (e : va_E), G x = some e → x ≠ ed → (∀ k i, lvV v k → i < lnV v k → x ≠ AD k i) → G99 x = some e := fun x e z9 n1 n2 => by
            have z0 := hfr98 x e z9 n1 n2
            exact hw103 x e z0 n1 n2
          obtain ⟨x105, ex105⟩ : ∃ y : Int32, y = (nI j9) + 1 := ⟨_, rfl⟩
          refine lv_iinc (v := x105) (lv' := [(1, .int x105), (2, .ref (AD 2 j9)), (0, .ref ed)]) hx hb dX2_findMeanings_127 hl (k := 2) rfl (by rw [ex105]; rfl) (by decide) rfl (fun ls hl => ?_)
          refine lv_goto (tgt := 70) hx hb dX2_findMeanings_130 (by decide) ?_
          rw [show x105 = nI (j9 + 1) by rw [ex105]; exact (nI_succ j9).symm] at hl
          have hz3 : ∀ c, c < j9 + 1 → zPr v AD z100 c := fun c hc => by by_cases e9 : c = j9; rw [e9]; exact hC1; intro p hp; rw [(hC2 c e9).1, (hC2 c e9).2]; exact hz1 c (by omega) p hp
          have hz4 : ∀ c, j9 + 1 ≤ c → z0P z100 c := fun c hc p => by rw [(hC2 c (by omega)).1, (hC2 c (by omega)).2]; exact hz2 c (by omega) p
          have hzL2 : zLo v AD z100 := fun i hi => by rw [hC3.1]; exact hzL i hi
          have hA5 : ∀ c, z0O z100 c := fun c p => by rw [hC3.2.2.1, hC3.2.2.2.1]; exact hA2 c p
          have hA4 : zOth z z100 := ⟨hC3.2.2.2.2.1.trans hA3.1, hC3.2.2.2.2.2.1.trans hA3.2.1, hC3.2.2.2.2.2.2.trans hA3.2.2⟩
          have hq2 : mS v n (j9 + 1) (mP v j9 (v.nP j9) 0 (ex1 true ((v.S j9).2.1) ww)) = mS v v.nS 0 (mC v v.nC 0 (mLy v w9)) := by rw [← hq, mS, hB_107]
          exact ih (j9 + 1) z100 (mP v j9 (v.nP j9) 0 (ex1 true ((v.S j9).2.1) ww)) (by omega) hzL2 hA4 hA5 hz3 hz4 hq2 G99 k102 hP101 hfr104 _ _ hG hS ls (lv_sub hl [2, 0] rfl)
  have hloopC : ∀ (n : Nat) (j9 : Nat) (zz : PtV) (ww : Int32 × Option Nat), (n + j9 = v.nC) → (zLo v AD zz) → (zOth z zz) → (∀ c, z0P zz c) → (∀ c, z0O zz c) → (mC v n j9 ww = mC v v.nC 0 (mLy v w9)) → ∀ (Gv : Nat → Option va_E), (Gv ed = some (.inr (3, [.ref (LA 0), .ref (LA 1), .ref (LA 2), .ref (LA 3), .ref (LA 4), .ref (LA 5), .ref na, .int nc, va_rf iu, .int ww.1, va_rf (ww.2.map (AD 1))]))) → (EDP cy e0 tk G0 Bx Gv v zz LA EA AD PI) → (∀ (x : Nat) (e : va_E), G x = some e → x ≠ ed → (∀ k i, lvV v k → i < lnV v k → x ≠ AD k i) → Gv x = some e) → ∀ (H : Heap) (locs : List Loc), mm D vwCl A Gv H → va_S A s.heap H locs → ∀ ls : Array Slot, lv_has ls 3 [(0, .ref ed), (1, .int (nI j9))] → W p l e (headSpec [.code yX2_findMeanings cX2_findMeanings 3 none] ({ frames := 7, cells := 0, slots := 0, locals := 210 })).room s m ([.ref ed] : List Value).toArray below meth c H locs 0 0 (MQ below (va_Qv (fun (G2 : Nat → Option va_E) => ∃ z2 : PtV, EDP cy e0 tk G0 Bx G2 v z2 LA EA AD PI ∧ G2 ed = some (.inr (3, [.ref (LA 0), .ref (LA 1), .ref (LA 2), .ref (LA 3), .ref (LA 4), .ref (LA 5), .ref na, .int nc, va_rf iu, .int ((mAll v w9).1), va_rf ((mAll v w9).2.map (AD 1))])) ∧ (zLo v AD z2 ∧ zVl v AD z2 ∧ (∀ c, c < v.nS → zPr v AD z2 c) ∧ (∀ c, c < v.nJ → zOp v AD z2 c) ∧ zOth z z2) ∧ ∀ (x : Nat) (e : va_E), G x = some e → x ≠ ed → (∀ k i, lvV v k → i < lnV v k → x ≠ AD k i) → G2 x = some e) (mk_B D vwCl A) A) ([.ref ed] : List Value).toArray s 0 0 A) (F0 m 6 ls []) := by
    intro n
    induction n with
    | zero =>
      intro j9 zz ww hjn hzL hA3 hA1 hA2 hq Gv v_ed hP hfr H locs hG hS ls hl
      have hbb := hP.b
      refine lv_iload_n hx hb dX2_findMeanings_6 rfl (lv_at hl 1 rfl) ?_
      refine lv_aload_n hx hb dX2_findMeanings_7 rfl (lv_at hl 0 rfl) ?_
      refine mm_get (v := .ref (LA 0)) hx hb hf_X2 (fun _ h9 => h9) hown hK hG v_ed rfl 0 (by decide) (tb_use hT tw_278) (fun _ h9 => h9) rfl dX2_findMeanings_8 ?_
      obtain ⟨mo106, h_mo106, -⟩ := id (hP.lsC)
      refine va_calli (va_runV (As := []) (rest := [.int (nI j9)]) ⟨hx, hb, hml, hown, (fun _ h9 => absurd h9 List.not_mem_nil : ∀ w ∈ ([] : List Cond), w.before _ s = true)⟩ (c_LS_size l D cy A X hst hXT e0 tk hXE mi hXL Gv (LA 0) (EA 0) v.nC (AD 0) (hP.lsC)) (tb_cw (C := RJx4a65c) 0 hT tw_457 tw_113 tw_999 tw_455 tw_456 rfl rfl hq_Jx4a65c_size_8abf5 ⟨Nat.le_of_ble_eq_true rfl, Nat.le_of_ble_eq_true rfl⟩) (mk_preC hst hG hK hA hX hS vc_1 h_mo106) rfl rfl hl.1 rfl (lv_room (Nat.le_of_ble_eq_true rfl)) dX2_findMeanings_11 ⟨Nat.le_of_ble_eq_true rfl, Nat.le_of_ble_eq_true rfl⟩) hS (fun q _ h => h) (fun q h => h) (fun r107 G108 t H locs ht hvm hw hB hz1 hk1 hS => ?_)
      have hG : mm D vwCl A G108 H := by rw [← ht]; exact hB
      clear hB hz1 hk1 hvm ht
      obtain ⟨rfl, hw⟩ := hw
      rw [hw] at hG
      refine lv_icmp_ge (tgt := 68) hx hb dX2_findMeanings_14 (by decide) (fun c_14 => ?_) (fun c_14 => ?_)
      · skip
        refine lv_iconst (v := 0) hx hb dX2_findMeanings_68 (by decide) ?_
        refine lv_istore_n (lv' := [(1, .int 0), (0, .ref ed)]) hx hb dX2_findMeanings_69 rfl hl (by decide) rfl (fun ls hl => ?_)
        have hj9 : j9 = v.nC := by omega
        have hw9 : mC v v.nC 0 (mLy v w9) = ww := by rw [← hq]; first | rfl | (rw [show n = 0 by omega]; rfl)
        exact hloopS v.nS 0 zz ww (by omega) hzL hA3 hA2 (fun c hc => absurd hc (by omega)) (fun c _ => hA1 c) (by rw [hw9]) Gv v_ed hP hfr _ _ hG hS ls (lv_sub hl [1, 0] rfl)
      · skip
        exact absurd (by rw [show j9 = v.nC by omega]; exact Int32.le_refl _) c_14
    | succ n ih =>
      intro j9 zz ww hjn hzL hA3 hA1 hA2 hq Gv v_ed hP hfr H locs hG hS ls hl
      have hbb := hP.b
      refine lv_iload_n hx hb dX2_findMeanings_6 rfl (lv_at hl 1 rfl) ?_
      refine lv_aload_n hx hb dX2_findMeanings_7 rfl (lv_at hl 0 rfl) ?_
      refine mm_get (v := .ref (LA 0)) hx hb hf_X2 (fun _ h9 => h9) hown hK hG v_ed rfl 0 (by decide) (tb_use hT tw_278) (fun _ h9 => h9) rfl dX2_findMeanings_8 ?_
      obtain ⟨mo109, h_mo109, -⟩ := id (hP.lsC)
      refine va_calli (va_runV (As := []) (rest := [.int (nI j9)]) ⟨hx, hb, hml, hown, (fun _ h9 => absurd h9 List.not_mem_nil : ∀ w ∈ ([] : List Cond), w.before _ s = true)⟩ (c_LS_size l D cy A X hst hXT e0 tk hXE mi hXL Gv (LA 0) (EA 0) v.nC (AD 0) (hP.lsC)) (tb_cw (C := RJx4a65c) 0 hT tw_457 tw_113 tw_999 tw_455 tw_456 rfl rfl hq_Jx4a65c_size_8abf5 ⟨Nat.le_of_ble_eq_true rfl, Nat.le_of_ble_eq_true rfl⟩) (mk_preC hst hG hK hA hX hS vc_1 h_mo109) rfl rfl hl.1 rfl (lv_room (Nat.le_of_ble_eq_true rfl)) dX2_findMeanings_11 ⟨Nat.le_of_ble_eq_true rfl, Nat.le_of_ble_eq_true rfl⟩) hS (fun q _ h => h) (fun q h => h) (fun r110 G111 t H locs ht hvm hw hB hz1 hk1 hS => ?_)
      have hG : mm D vwCl A G111 H := by rw [← ht]; exact hB
      clear hB hz1 hk1 hvm ht
      obtain ⟨rfl, hw⟩ := hw
      rw [hw] at hG
      refine lv_icmp_ge (tgt := 68) hx hb dX2_findMeanings_14 (by decide) (fun c_14 => ?_) (fun c_14 => ?_)
      · skip
        exact absurd c_14 (nI_ge (by omega) (by omega))
      · skip
        refine lv_aload_n hx hb dX2_findMeanings_17 rfl (lv_at hl 0 rfl) ?_
        refine mm_get (v := .ref (LA 0)) hx hb hf_X2 (fun _ h9 => h9) hown hK hG v_ed rfl 0 (by decide) (tb_use hT tw_278) (fun _ h9 => h9) rfl dX2_findMeanings_18 ?_
        refine lv_iload_n hx hb dX2_findMeanings_21 rfl (lv_at hl 1 rfl) ?_
        have hj112 : j9 < v.nC := by omega
        obtain ⟨mo113, h_mo113, -⟩ := id (hP.lsC)
        refine va_callq (va_runV (As := [.int (nI j9)]) (rest := []) ⟨hx, hb, hml, hown, (fun _ h9 => absurd h9 List.not_mem_nil : ∀ w ∈ ([] : List Cond), w.before _ s = true)⟩ (c_LS_get l D cy A X hst hXT e0 tk hXE mi hXL Gv (LA 0) (EA 0) v.nC (AD 0) j9 (hP.lsC) hj112) (tb_cw (C := RJx4a65c) 1 hT tw_942 tw_113 tw_1000 tw_940 tw_941 rfl rfl hq_Jx4a65c_get_915e3 ⟨Nat.le_of_ble_eq_true rfl, Nat.le_of_ble_eq_true rfl⟩) (mk_preC hst hG hK hA hX hS vc_1 h_mo113) rfl rfl hl.1 rfl (lv_room (Nat.le_of_ble_eq_true rfl)) dX2_findMeanings_22 ⟨Nat.le_of_ble_eq_true rfl, Nat.le_of_ble_eq_true rfl⟩) hS (fun q _ h => h) (fun q h => h) (fun r114 G115 t H locs ht hvm hw hB hz1 hk1 hS => ?_)
        have hG : mm D vwCl A G115 H := by rw [← ht]; exact hB
        clear hB hz1 hk1 hvm ht
        obtain ⟨rfl, hw⟩ := hw
        rw [hw] at hG
        refine W.eq (g2 := F0 m 25 ls [.ref (AD 0 j9)]) rfl ?_
        have k116 : Gv (AD 0 j9) = some (.inr (2, [.int (nI (j9 + 1)), .int ((v.C j9).1.1), .long ((v.C j9).1.2.1), .ref (LA (6 + j9)), .int ((v.C j9).1.2.2), .int ((v.C j9).2.1), .int ((v.C j9).2.2.1), .long ((v.C j9).2.2.2.1), .long ((v.C j9).2.2.2.2.1), .long ((v.C j9).2.2.2.2.2)])) := hP.elC hj112
        refine va_castS hx hb hown (tb_use hT tw_1018) (hK.1 2 _ rfl).2 (va_recv hK (hG.one k116) (q := (RX1, TX1, 10)) rfl (q0 := 0) rfl) dX2_findMeanings_25 ?_
        refine lv_astore_n (lv' := [(2, .ref (AD 0 j9)), (0, .ref ed), (1, .int (nI j9))]) hx hb dX2_findMeanings_28 rfl hl (by decide) rfl (fun ls hl => ?_)
        refine lv_aload_n hx hb dX2_findMeanings_29 rfl (lv_at hl 1 rfl) ?_
        refine lv_aload_n hx hb dX2_findMeanings_30 rfl (lv_at hl 1 rfl) ?_
        refine lv_aload_n hx hb dX2_findMeanings_31 rfl (lv_at hl 0 rfl) ?_
        refine mm_getN (v := .long ((v.C j9).1.2.1)) hx hb hf_X1 (fun _ h9 => h9) hown hK hG k116 rfl 2 (by decide) (tb_use hT tw_496) (fun _ h9 => h9) rfl dX2_findMeanings_32 ?_
        refine va_callq (va_runV (As := [.long ((v.C j9).1.2.1)]) (rest := [.ref ed]) ⟨hx, hb, hml, hown, (fun _ h9 => absurd h9 List.not_mem_nil : ∀ w ∈ ([] : List Cond), w.before _ s = true)⟩ (c_X2_codingNamed l D cy A X hst hXT e0 tk hXE mi hXL Gv ed (LA 0) (LA 1) (LA 2) (LA 3) (LA 4) (LA 5) na nc ww.1 iu (ww.2.map (AD 1)) (EA 0) v.nC (AD 0) (fun j => coF j (v.C j) (LA (6 + j))) (fun j => (v.C j).1.2.1) ((v.C j9).1.2.1) v_ed hP.lsC (by have := hP.b; omega) hP.nmC) (tb_cw (C := RX2) 1 hT tw_1022 tw_110 tw_1019 tw_1021 tw_36 rfl rfl hq_X2_codingNamed ⟨Nat.le_of_ble_eq_true rfl, Nat.le_of_ble_eq_true rfl⟩) (mk_preC hst hG hK hA hX hS vc_3 v_ed) rfl rfl hl.1 rfl (lv_room (Nat.le_of_ble_eq_true rfl)) dX2_findMeanings_35 ⟨Nat.le_of_ble_eq_true rfl, Nat.le_of_ble_eq_true rfl⟩) hS (fun q _ h => h) (fun q h => h) (fun r117 G118 t H locs ht hvm hw hB hz1 hk1 hS => ?_)
        have hG : mm D vwCl A G118 H := by rw [← ht]; exact hB
        clear hB hz1 hk1 hvm ht
        obtain ⟨er117, hw⟩ := hw
        rw [hw] at hG
        have fr117 : r117 = (cdN v ((v.C j9).1.2.1)).map (AD 0) := er117
        rw [fr117]
        refine lv_aload_n hx hb dX2_findMeanings_38 rfl (lv_at hl 0 rfl) ?_
        refine lv_acmp_ne (rx := ((cdN v ((v.C j9).1.2.1)).map (AD 0))) (ry := some (AD 0 j9)) (tgt := 46) hx hb dX2_findMeanings_39 (by decide) (fun c_39 => ?_) (fun c_39 => ?_)
        · skip
          have hB_39 : decide (cdN v (v.C j9).1.2.1 = some j9) = false := decide_eq_false (fun z => c_39 ((map_eq (fun _ => cdN_lt) (show j9 < v.nC by omega) hP.inC).mpr z))
          refine lv_iconst (v := 0) hx hb dX2_findMeanings_46 (by decide) ?_
          refine lv_aload_n hx hb dX2_findMeanings_47 rfl (lv_at hl 0 rfl) ?_
          refine mm_getN (v := .int ((v.C j9).1.1)) hx hb hf_X1 (fun _ h9 => h9) hown hK hG k116 rfl 1 (by decide) (tb_use hT tw_494) (fun _ h9 => h9) rfl dX2_findMeanings_48 ?_
          refine va_callv (va_runV (As := [.int 0, .int ((v.C j9).1.1)]) (rest := []) ⟨hx, hb, hml, hown, (fun _ h9 => absurd h9 List.not_mem_nil : ∀ w ∈ ([] : List Cond), w.before _ s = true)⟩ (c_ED_expect l D cy A X hst hXT e0 tk hXE Gv LA AD ed na nc iu ww false ((v.C j9).1.1) v_ed) (tb_cw (C := RX2) 2 hT tw_1009 tw_110 tw_1006 tw_1008 tw_34 rfl rfl hq_X2_expect ⟨Nat.le_of_ble_eq_true rfl, Nat.le_of_ble_eq_true rfl⟩) (mk_preC hst hG hK hA hX hS vc_3 v_ed) rfl rfl hl.1 rfl (lv_room (Nat.le_of_ble_eq_true rfl)) dX2_findMeanings_51 ⟨Nat.le_of_ble_eq_true rfl, Nat.le_of_ble_eq_true rfl⟩) hS (fun q _ h => h) (fun q h => h) (fun  G119 t H locs ht hvm hw hB hz1 hk1 hS => ?_)
          have hG : mm D vwCl A G119 H := by rw [← ht]; exact hB
          clear hB hz1 hk1 hvm ht
          have k120 : G119 ed = some (.inr (3, [.ref (LA 0), .ref (LA 1), .ref (LA 2), .ref (LA 3), .ref (LA 4), .ref (LA 5), .ref na, .int nc, va_rf iu, .int ((ex1 false ((v.C j9).1.1) ww).1), va_rf ((ex1 false ((v.C j9).1.1) ww).2.map (AD 1))])) := by rw [hw]; exact mm_set_self
          have hP121 : EDP cy e0 tk G0 Bx G119 v zz LA EA AD PI := hP.mve hBe v_ed k120 (fun x e h1 n1 => by rw [hw]; exact mm_set_of h1 n1)
          have k122 : G119 (AD 0 j9) = some (.inr (2, [.int (nI (j9 + 1)), .int ((v.C j9).1.1), .long ((v.C j9).1.2.1), .ref (LA (6 + j9)), .int ((v.C j9).1.2.2), .int ((v.C j9).2.1), .int ((v.C j9).2.2.1), .long ((v.C j9).2.2.2.1), .long ((v.C j9).2.2.2.2.1), .long ((v.C j9).2.2.2.2.2)])) := by rw [hw]; exact mm_set_of k116 (mm_ne_oo k116 v_ed (by decide))
          have hfr123 : ∀ (x : Nat) (e : va_E), G x = some e → x ≠ ed → (∀ k i, lvV v k → i < lnV v k → x ≠ AD k i) → G119 x = some e := fun x e z9 n1 n2 => by
            have z0 := hfr x e z9 n1 n2
            rw [hw]; exact mm_set_of z0 n1
          clear hw
          refine lv_aload_n hx hb dX2_findMeanings_54 rfl (lv_at hl 1 rfl) ?_
          refine lv_aload_n hx hb dX2_findMeanings_55 rfl (lv_at hl 0 rfl) ?_
          refine mm_getN (v := .ref (LA (6 + j9))) hx hb hf_X1 (fun _ h9 => h9) hown hK hG k122 rfl 3 (by decide) (tb_use hT tw_498) (fun _ h9 => h9) rfl dX2_findMeanings_56 ?_
          refine va_callv (va_runV (As := [.ref (LA (6 + j9))]) (rest := []) ⟨hx, hb, hml, hown, (fun _ h9 => absurd h9 List.not_mem_nil : ∀ w ∈ ([] : List Cond), w.before _ s = true)⟩ (c_X2_expectNumbersOnce l D cy A X hst hXT e0 tk hXE mi hXL G119 ed (LA 0) (LA 1) (LA 2) (LA 3) (LA 4) (LA 5) na nc ((ex1 false ((v.C j9).1.1) ww).1) iu ((ex1 false ((v.C j9).1.1) ww).2.map (AD 1)) (LA (6 + j9)) (EA (6 + j9)) (v.nR j9) (AD (6 + j9)) (fun j => enF (v.R j9 j) none) (fun i => (v.R j9 i).1) (fun i => (v.R j9 i).2.1) k120 (hP121.lsR hj112) (by have := (hP121.lsR hj112).le; omega) (hP121.nmR hj112) (hP121.inR hj112)) (tb_cw (C := RX2) 1 hT tw_1026 tw_110 tw_1023 tw_1025 tw_37 rfl rfl hq_X2_expectNumbersOnce ⟨Nat.le_of_ble_eq_true rfl, Nat.le_of_ble_eq_true rfl⟩) (mk_preC hst hG hK hA hX hS vc_3 k120) rfl rfl hl.1 rfl (lv_room (Nat.le_of_ble_eq_true rfl)) dX2_findMeanings_59 ⟨Nat.le_of_ble_eq_true rfl, Nat.le_of_ble_eq_true rfl⟩) hS (fun q _ h => h) (fun q h => h) (fun  G124 t H locs ht hvm hw hB hz1 hk1 hS => ?_)
          have hG : mm D vwCl A G124 H := by rw [← ht]; exact hB
          clear hB hz1 hk1 hvm ht
          obtain ⟨hw1, hw2⟩ := hw
          have k125 : G124 ed = some (.inr (3, [.ref (LA 0), .ref (LA 1), .ref (LA 2), .ref (LA 3), .ref (LA 4), .ref (LA 5), .ref na, .int nc, va_rf iu, .int ((onR v j9 (ex1 false ((v.C j9).1.1) ww)).1), va_rf ((onR v j9 (ex1 false ((v.C j9).1.1) ww)).2.map (AD 1))])) := by have z := hw1; rw [exN_map] at z; exact z
          have hP126 : EDP cy e0 tk G0 Bx G124 v zz LA EA AD PI := hP121.mve hBe k120 k125 hw2
          have k127 : G124 (AD 0 j9) = some (.inr (2, [.int (nI (j9 + 1)), .int ((v.C j9).1.1), .long ((v.C j9).1.2.1), .ref (LA (6 + j9)), .int ((v.C j9).1.2.2), .int ((v.C j9).2.1), .int ((v.C j9).2.2.1), .long ((v.C j9).2.2.2.1), .long ((v.C j9).2.2.2.2.1), .long ((v.C j9).2.2.2.2.2)])) := hw2 _ _ k122 (mm_ne_oo k122 k120 (by decide))
          have hfr128 : ∀ (x : Nat) (e : va_E), G x = some e → x ≠ ed → (∀ k i, lvV v k → i < lnV v k → x ≠ AD k i) → G124 x = some e := fun x e z9 n1 n2 => by
            have z0 := hfr123 x e z9 n1 n2
            exact hw2 x e z0 n1
          clear hw1
          have hw129 := hw2
          clear hw2
          obtain ⟨x130, ex130⟩ : ∃ y : Int32, y = (nI j9) + 1 := ⟨_, rfl⟩
          refine lv_iinc (v := x130) (lv' := [(1, .int x130), (2, .ref (AD 0 j9)), (0, .ref ed)]) hx hb dX2_findMeanings_62 hl (k := 2) rfl (by rw [ex130]; rfl) (by decide) rfl (fun ls hl => ?_)
          refine lv_goto (tgt := 6) hx hb dX2_findMeanings_65 (by decide) ?_
          rw [show x130 = nI (j9 + 1) by rw [ex130]; exact (nI_succ j9).symm] at hl
          have hq2 : mC v n (j9 + 1) (onR v j9 (ex1 false ((v.C j9).1.1) ww)) = mC v v.nC 0 (mLy v w9) := by rw [← hq, mC, hB_39]
          exact ih (j9 + 1) zz (onR v j9 (ex1 false ((v.C j9).1.1) ww)) (by omega) hzL hA3 hA1 hA2 hq2 G124 k125 hP126 hfr128 _ _ hG hS ls (lv_sub hl [2, 0] rfl)
        · skip
          have hB_39 : decide (cdN v (v.C j9).1.2.1 = some j9) = true := decide_eq_true ((map_eq (fun _ => cdN_lt) (show j9 < v.nC by omega) hP.inC).mp c_39)
          refine lv_iconst (v := 1) hx hb dX2_findMeanings_42 (by decide) ?_
          refine lv_goto (tgt := 47) hx hb dX2_findMeanings_43 (by decide) ?_
          refine lv_aload_n hx hb dX2_findMeanings_47 rfl (lv_at hl 0 rfl) ?_
          refine mm_getN (v := .int ((v.C j9).1.1)) hx hb hf_X1 (fun _ h9 => h9) hown hK hG k116 rfl 1 (by decide) (tb_use hT tw_494) (fun _ h9 => h9) rfl dX2_findMeanings_48 ?_
          refine va_callv (va_runV (As := [.int 1, .int ((v.C j9).1.1)]) (rest := []) ⟨hx, hb, hml, hown, (fun _ h9 => absurd h9 List.not_mem_nil : ∀ w ∈ ([] : List Cond), w.before _ s = true)⟩ (c_ED_expect l D cy A X hst hXT e0 tk hXE Gv LA AD ed na nc iu ww true ((v.C j9).1.1) v_ed) (tb_cw (C := RX2) 2 hT tw_1009 tw_110 tw_1006 tw_1008 tw_34 rfl rfl hq_X2_expect ⟨Nat.le_of_ble_eq_true rfl, Nat.le_of_ble_eq_true rfl⟩) (mk_preC hst hG hK hA hX hS vc_3 v_ed) rfl rfl hl.1 rfl (lv_room (Nat.le_of_ble_eq_true rfl)) dX2_findMeanings_51 ⟨Nat.le_of_ble_eq_true rfl, Nat.le_of_ble_eq_true rfl⟩) hS (fun q _ h => h) (fun q h => h) (fun  G131 t H locs ht hvm hw hB hz1 hk1 hS => ?_)
          have hG : mm D vwCl A G131 H := by rw [← ht]; exact hB
          clear hB hz1 hk1 hvm ht
          have k132 : G131 ed = some (.inr (3, [.ref (LA 0), .ref (LA 1), .ref (LA 2), .ref (LA 3), .ref (LA 4), .ref (LA 5), .ref na, .int nc, va_rf iu, .int ((ex1 true ((v.C j9).1.1) ww).1), va_rf ((ex1 true ((v.C j9).1.1) ww).2.map (AD 1))])) := by rw [hw]; exact mm_set_self
          have hP133 : EDP cy e0 tk G0 Bx G131 v zz LA EA AD PI := hP.mve hBe v_ed k132 (fun x e h1 n1 => by rw [hw]; exact mm_set_of h1 n1)
          have k134 : G131 (AD 0 j9) = some (.inr (2, [.int (nI (j9 + 1)), .int ((v.C j9).1.1), .long ((v.C j9).1.2.1), .ref (LA (6 + j9)), .int ((v.C j9).1.2.2), .int ((v.C j9).2.1), .int ((v.C j9).2.2.1), .long ((v.C j9).2.2.2.1), .long ((v.C j9).2.2.2.2.1), .long ((v.C j9).2.2.2.2.2)])) := by rw [hw]; exact mm_set_of k116 (mm_ne_oo k116 v_ed (by decide))
          have hfr135 : ∀ (x : Nat) (e : va_E), G x = some e → x ≠ ed → (∀ k i, lvV v k → i < lnV v k → x ≠ AD k i) → G131 x = some e := fun x e z9 n1 n2 => by
            have z0 := hfr x e z9 n1 n2
            rw [hw]; exact mm_set_of z0 n1
          clear hw
          refine lv_aload_n hx hb dX2_findMeanings_54 rfl (lv_at hl 1 rfl) ?_
          refine lv_aload_n hx hb dX2_findMeanings_55 rfl (lv_at hl 0 rfl) ?_
          refine mm_getN (v := .ref (LA (6 + j9))) hx hb hf_X1 (fun _ h9 => h9) hown hK hG k134 rfl 3 (by decide) (tb_use hT tw_498) (fun _ h9 => h9) rfl dX2_findMeanings_56 ?_
          refine va_callv (va_runV (As := [.ref (LA (6 + j9))]) (rest := []) ⟨hx, hb, hml, hown, (fun _ h9 => absurd h9 List.not_mem_nil : ∀ w ∈ ([] : List Cond), w.before _ s = true)⟩ (c_X2_expectNumbersOnce l D cy A X hst hXT e0 tk hXE mi hXL G131 ed (LA 0) (LA 1) (LA 2) (LA 3) (LA 4) (LA 5) na nc ((ex1 true ((v.C j9).1.1) ww).1) iu ((ex1 true ((v.C j9).1.1) ww).2.map (AD 1)) (LA (6 + j9)) (EA (6 + j9)) (v.nR j9) (AD (6 + j9)) (fun j => enF (v.R j9 j) none) (fun i => (v.R j9 i).1) (fun i => (v.R j9 i).2.1) k132 (hP133.lsR hj112) (by have := (hP133.lsR hj112).le; omega) (hP133.nmR hj112) (hP133.inR hj112)) (tb_cw (C := RX2) 1 hT tw_1026 tw_110 tw_1023 tw_1025 tw_37 rfl rfl hq_X2_expectNumbersOnce ⟨Nat.le_of_ble_eq_true rfl, Nat.le_of_ble_eq_true rfl⟩) (mk_preC hst hG hK hA hX hS vc_3 k132) rfl rfl hl.1 rfl (lv_room (Nat.le_of_ble_eq_true rfl)) dX2_findMeanings_59 ⟨Nat.le_of_ble_eq_true rfl, Nat.le_of_ble_eq_true rfl⟩) hS (fun q _ h => h) (fun q h => h) (fun  G136 t H locs ht hvm hw hB hz1 hk1 hS => ?_)
          have hG : mm D vwCl A G136 H := by rw [← ht]; exact hB
          clear hB hz1 hk1 hvm ht
          obtain ⟨hw1, hw2⟩ := hw
          have k137 : G136 ed = some (.inr (3, [.ref (LA 0), .ref (LA 1), .ref (LA 2), .ref (LA 3), .ref (LA 4), .ref (LA 5), .ref na, .int nc, va_rf iu, .int ((onR v j9 (ex1 true ((v.C j9).1.1) ww)).1), va_rf ((onR v j9 (ex1 true ((v.C j9).1.1) ww)).2.map (AD 1))])) := by have z := hw1; rw [exN_map] at z; exact z
          have hP138 : EDP cy e0 tk G0 Bx G136 v zz LA EA AD PI := hP133.mve hBe k132 k137 hw2
          have k139 : G136 (AD 0 j9) = some (.inr (2, [.int (nI (j9 + 1)), .int ((v.C j9).1.1), .long ((v.C j9).1.2.1), .ref (LA (6 + j9)), .int ((v.C j9).1.2.2), .int ((v.C j9).2.1), .int ((v.C j9).2.2.1), .long ((v.C j9).2.2.2.1), .long ((v.C j9).2.2.2.2.1), .long ((v.C j9).2.2.2.2.2)])) := hw2 _ _ k134 (mm_ne_oo k134 k132 (by decide))
          have hfr140 : ∀ (x : Nat) (e : va_E), G x = some e → x ≠ ed → (∀ k i, lvV v k → i < lnV v k → x ≠ AD k i) → G136 x = some e := fun x e z9 n1 n2 => by
            have z0 := hfr135 x e z9 n1 n2
            exact hw2 x e z0 n1
          clear hw1
          have hw141 := hw2
          clear hw2
          obtain ⟨x142, ex142⟩ : ∃ y : Int32, y = (nI j9) + 1 := ⟨_, rfl⟩
          refine lv_iinc (v := x142) (lv' := [(1, .int x142), (2, .ref (AD 0 j9)), (0, .ref ed)]) hx hb dX2_findMeanings_62 hl (k := 2) rfl (by rw [ex142]; rfl) (by decide) rfl (fun ls hl => ?_)
          refine lv_goto (tgt := 6) hx hb dX2_findMeanings_65 (by decide) ?_
          rw [show x142 = nI (j9 + 1) by rw [ex142]; exact (nI_succ j9).symm] at hl
          have hq2 : mC v n (j9 + 1) (onR v j9 (ex1 true ((v.C j9).1.1) ww)) = mC v v.nC 0 (mLy v w9) := by rw [← hq, mC, hB_39]
          exact ih (j9 + 1) zz (onR v j9 (ex1 true ((v.C j9).1.1) ww)) (by omega) hzL hA3 hA1 hA2 hq2 G136 k137 hP138 hfr140 _ _ hG hS ls (lv_sub hl [2, 0] rfl)
  refine lv_aload_n hx hb dX2_findMeanings_0 rfl (lv_at hl 0 rfl) ?_
  refine va_callv (va_runV (As := []) (rest := []) ⟨hx, hb, hml, hown, (fun _ h9 => absurd h9 List.not_mem_nil : ∀ w ∈ ([] : List Cond), w.before _ s = true)⟩ (c_X2_findLayers l D cy A X hst hXT e0 tk hXE mi hXL ax adK adV hXX G G0 Bx v z LA EA AD PI ed na nc iu w9  hP hBe hed hz0.1) (tb_cw (C := RX2) 0 hT tw_998 tw_110 tw_995 tw_997 tw_32 rfl rfl hq_X2_findLayers ⟨Nat.le_of_ble_eq_true rfl, Nat.le_of_ble_eq_true rfl⟩) (mk_preC hst hG hK hA hX hS vc_3 hed) rfl rfl hl.1 rfl (lv_room (Nat.le_of_ble_eq_true rfl)) dX2_findMeanings_1 ⟨Nat.le_of_ble_eq_true rfl, Nat.le_of_ble_eq_true rfl⟩) hS (fun q _ h => h) (fun q h => h) (fun  G143 t H locs ht hvm hw hB hz1 hk1 hS => ?_)
  have hG : mm D vwCl A G143 H := by rw [← ht]; exact hB
  clear hB hz1 hk1 hvm ht
  obtain ⟨z144, hP145, k146, hzL, hB1, hw147⟩ := hw
  have hA1 : ∀ c, z0P z144 c := fun c p => ⟨(by rw [← (hz0.2.1 c p).1]; exact congrArg (fun y => y.2.1 c p) hB1), (by rw [← (hz0.2.1 c p).2]; exact congrArg (fun y => y.2.2.1 c p) hB1)⟩
  have hA2 : ∀ c, z0O z144 c := fun c p => ⟨(by rw [← (hz0.2.2 c p).1]; exact congrArg (fun y => y.2.2.2.2.1 c p) hB1), (by rw [← (hz0.2.2 c p).2]; exact congrArg (fun y => y.2.2.2.2.2.1 c p) hB1)⟩
  have hA3 : zOth z z144 := ⟨congrArg (fun y => y.2.2.2.1) hB1, congrArg (fun y => y.2.2.2.2.2.2.1) hB1, congrArg (fun y => y.2.2.2.2.2.2.2) hB1⟩
  have hfr148 : ∀ (x : Nat) (e : va_E), G x = some e → x ≠ ed → (∀ k i, lvV v k → i < lnV v k → x ≠ AD k i) → G143 x = some e := fun x e z9 n1 n2 => by
    have z0 := hfr x e z9 n1 n2
    exact hw147 x e z0 n1 n2
  refine lv_iconst (v := 0) hx hb dX2_findMeanings_4 (by decide) ?_
  refine lv_istore_n (lv' := [(1, .int 0), (0, .ref ed)]) hx hb dX2_findMeanings_5 rfl hl (by decide) rfl (fun ls hl => ?_)
  exact hloopC v.nC 0 z144 (mLy v w9) (by omega) hzL hA3 hA1 hA2 rfl G143 k146 hP145 hfr148 _ _ hG hS ls (lv_sub hl [1, 0] rfl)
