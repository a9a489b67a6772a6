set_option maxHeartbeats 4000000 in
set_option maxRecDepth 100000 in
theorem c_X2_serviceIn (l : Launch) (D : va_G) (cy : Nat → ClassId) (A : Nat → Prop) (X : State → Prop) (hst : mk_St A X) (hXT : ∀ U : State, X U → TB U) (e0 : Nat) (tk : Nat → Nat) (hXE : ∀ U : State, X U → ES e0 tk A U) (mi : Nat) (hXL : ∀ U : State, X U → EL e0 mi A U) (G : Nat → Option va_E) (ed : Nat) (lc ly lsv lco lva ljo na : Nat) (nc wa : Int32) (iu rs : Option Nat) (ec nC : Nat) (fC : Nat → Nat) (fs : Nat → List Value) (lf : Nat → Nat) (nm : Nat → Int64) (lw : Nat) (xw : Int64) (hed : G ed = some (.inr (3, [.ref lc, .ref ly, .ref lsv, .ref lco, .ref lva, .ref ljo, .ref na, .int nc, va_rf iu, .int wa, va_rf rs]))) (hls : LiS cy e0 G lsv ec nC fC) (hnC : nC < 200) (hnm : ∀ j, j < nC → G (fC j) = some (.inr (11, fs j)) ∧ (fs j)[1]? = some (.ref (lf j)) ∧ (fs j)[3]? = some (.long (nm j))) : Met l yX2_serviceIn [.code yX2_serviceIn cX2_serviceIn 6 (some (.object "DescribeText$Service"))] ({ frames := 3, cells := 0, slots := 0, locals := 90 }) (mk_Pre D vwCl (tyL cy) A X G [.ref ed, .ref lw, .long xw]) (va_Qq (fun (r : Option Nat) (G2 : Nat → Option va_E) => r = (fndF (fun j => decide (lf j = lw) && decide (nm j = xw)) nC 0).map fC ∧ G2 = G) (mk_B D vwCl A) A) 0 0 A := by
  refine Met.ofW (cc := cX2_serviceIn) (maxL := 6) (ret := (some (.object "DescribeText$Service"))) (by decide) rfl ?_
  intro p e s m args below meth c s₁ B hml hv
  obtain ⟨rfl, hG, hK, hA, hX⟩ := hv
  have hx := B.exec
  have hb := B.bytes
  have hr := B.returns
  have hlocks := B.notSynchronized
  have hT := hXT s hX
  have hown : s.vm.findClass RX2 = some m.cls := findClass_of_methodNamed B.named
  have hf_X2 : ∀ w ∈ u_ws RX2 TX2 11, w.before ([.ref ed, .ref lw, .long xw] : List Value).toArray s = true := tb_list hT fX2
  have hf_X10 : ∀ w ∈ u_ws RX10 TX10 6, w.before ([.ref ed, .ref lw, .long xw] : List Value).toArray s = true := tb_list hT fX10
  have hS : va_S A s.heap s.heap [] := va_S.rf
  have hE := hXE s hX
  have hl := lv_entry ([.ref ed, .ref lw, .long xw]) (n := 6) (Nat.le_of_ble_eq_true rfl)
  rw [lg_entry_eq]
  generalize (lg_sl ([.ref ed, .ref lw, .long xw]) ++ List.replicate (6 - (lg_sl ([.ref ed, .ref lw, .long xw])).length) Slot.unset).toArray = ls at hl ⊢
  have hl : lv_has ls 6 [(0, .ref ed), (1, .ref lw), (2, .long xw)] := hl
  obtain ⟨RF, hR⟩ : ∃ y, fndF (fun j => decide (lf j = lw) && decide (nm j = xw)) nC 0 = y := ⟨_, rfl⟩
  have hloop : ∀ (n : Nat) (j : Nat), (n + j = nC) → (fndF (fun j => decide (lf j = lw) && decide (nm j = xw)) n j = RF) → ∀ (Gv : Nat → Option va_E), (Gv ed = some (.inr (3, [.ref lc, .ref ly, .ref lsv, .ref lco, .ref lva, .ref ljo, .ref na, .int nc, va_rf iu, .int wa, va_rf rs]))) → (Gv = G) → ∀ (H : Heap) (locs : List Loc), mm D vwCl A Gv H → va_S A s.heap H locs → ∀ ls : Array Slot, lv_has ls 6 [(0, .ref ed), (1, .ref lw), (2, .long xw), (4, .int (nI j))] → W p l e (headSpec [.code yX2_serviceIn cX2_serviceIn 6 (some (.object "DescribeText$Service"))] ({ frames := 3, cells := 0, slots := 0, locals := 90 })).room s m ([.ref ed, .ref lw, .long xw] : List Value).toArray below meth c H locs 0 0 (MQ below (va_Qq (fun (r : Option Nat) (G2 : Nat → Option va_E) => r = (fndF (fun j => decide (lf j = lw) && decide (nm j = xw)) nC 0).map fC ∧ G2 = G) (mk_B D vwCl A) A) ([.ref ed, .ref lw, .long xw] : List Value).toArray s 0 0 A) (F0 m 3 ls []) := by
    intro n
    induction n with
    | zero =>
      intro j hjn hq Gv v_ed hGv H locs hG hS ls hl
      have hG9 := hG
      have hS9 := hS
      have hl9 := hl
      subst hGv
      have hG := hG9
      have hS := hS9
      have hl := hl9
      refine lv_iload hx hb dX2_serviceIn_3 (lv_at hl 3 rfl) ?_
      refine lv_aload_n hx hb dX2_serviceIn_5 rfl (lv_at hl 0 rfl) ?_
      refine mm_get (v := .ref lsv) hx hb hf_X2 (fun _ h9 => h9) hown hK hG v_ed rfl 2 (by decide) (tb_use hT tw_283) (fun _ h9 => h9) rfl dX2_serviceIn_6 ?_
      obtain ⟨mo21, h_mo21, -⟩ := id hls
      refine va_calli (va_runV (As := []) (rest := [.int (nI j)]) ⟨hx, hb, hml, hown, (fun _ h9 => absurd h9 List.not_mem_nil : ∀ w ∈ ([] : List Cond), w.before _ s = true)⟩ (c_LS_size l D cy A X hst hXT e0 tk hXE mi hXL Gv lsv ec nC fC hls) (tb_cw (C := RJx4a65c) 0 hT tw_457 tw_113 tw_999 tw_455 tw_456 rfl rfl hq_Jx4a65c_size_8abf5 ⟨Nat.le_of_ble_eq_true rfl, Nat.le_of_ble_eq_true rfl⟩) (mk_preC hst hG hK hA hX hS vc_1 h_mo21) rfl rfl hl.1 rfl (lv_room (Nat.le_of_ble_eq_true rfl)) dX2_serviceIn_9 ⟨Nat.le_of_ble_eq_true rfl, Nat.le_of_ble_eq_true rfl⟩) hS (fun q _ h => h) (fun q h => h) (fun r22 G23 t H locs ht hvm hw hB hz1 hk1 hS => ?_)
      have hG : mm D vwCl A G23 H := by rw [← ht]; exact hB
      clear hB hz1 hk1 hvm ht
      obtain ⟨rfl, hw⟩ := hw
      rw [hw] at hG
      refine lv_icmp_ge (tgt := 57) hx hb dX2_serviceIn_12 (by decide) (fun c_12 => ?_) (fun c_12 => ?_)
      · skip
        refine lv_null hx hb dX2_serviceIn_57 ?_
        exact W.aret (v := .null) hx hb hr (Or.inl ⟨_, rfl⟩) (Or.inl rfl) (fun t ht hW => ⟨⟨(none : Option Nat), _, rfl, ⟨(by rw [hR, ← hq]; rfl), rfl⟩, mk_end hG ht⟩, hS.F ht⟩) hS.2.2 dX2_serviceIn_58
      · skip
        exact absurd (by rw [show j = nC by omega]; exact Int32.le_refl _) c_12
    | succ n ih =>
      intro j hjn hq Gv v_ed hGv H locs hG hS ls hl
      have hG9 := hG
      have hS9 := hS
      have hl9 := hl
      subst hGv
      have hG := hG9
      have hS := hS9
      have hl := hl9
      refine lv_iload hx hb dX2_serviceIn_3 (lv_at hl 3 rfl) ?_
      refine lv_aload_n hx hb dX2_serviceIn_5 rfl (lv_at hl 0 rfl) ?_
      refine mm_get (v := .ref lsv) hx hb hf_X2 (fun _ h9 => h9) hown hK hG v_ed rfl 2 (by decide) (tb_use hT tw_283) (fun _ h9 => h9) rfl dX2_serviceIn_6 ?_
      obtain ⟨mo24, h_mo24, -⟩ := id hls
      refine va_calli (va_runV (As := []) (rest := [.int (nI j)]) ⟨hx, hb, hml, hown, (fun _ h9 => absurd h9 List.not_mem_nil : ∀ w ∈ ([] : List Cond), w.before _ s = true)⟩ (c_LS_size l D cy A X hst hXT e0 tk hXE mi hXL Gv lsv ec nC fC hls) (tb_cw (C := RJx4a65c) 0 hT tw_457 tw_113 tw_999 tw_455 tw_456 rfl rfl hq_Jx4a65c_size_8abf5 ⟨Nat.le_of_ble_eq_true rfl, Nat.le_of_ble_eq_true rfl⟩) (mk_preC hst hG hK hA hX hS vc_1 h_mo24) rfl rfl hl.1 rfl (lv_room (Nat.le_of_ble_eq_true rfl)) dX2_serviceIn_9 ⟨Nat.le_of_ble_eq_true rfl, Nat.le_of_ble_eq_true rfl⟩) hS (fun q _ h => h) (fun q h => h) (fun r25 G26 t H locs ht hvm hw hB hz1 hk1 hS => ?_)
      have hG : mm D vwCl A G26 H := by rw [← ht]; exact hB
      clear hB hz1 hk1 hvm ht
      obtain ⟨rfl, hw⟩ := hw
      rw [hw] at hG
      refine lv_icmp_ge (tgt := 57) hx hb dX2_serviceIn_12 (by decide) (fun c_12 => ?_) (fun c_12 => ?_)
      · skip
        exact absurd c_12 (nI_ge (by omega) (by omega))
      · skip
        refine lv_aload_n hx hb dX2_serviceIn_15 rfl (lv_at hl 0 rfl) ?_
        refine mm_get (v := .ref lsv) hx hb hf_X2 (fun _ h9 => h9) hown hK hG v_ed rfl 2 (by decide) (tb_use hT tw_283) (fun _ h9 => h9) rfl dX2_serviceIn_16 ?_
        refine lv_iload hx hb dX2_serviceIn_19 (lv_at hl 3 rfl) ?_
        obtain ⟨mo27, h_mo27, -⟩ := id hls
        refine va_callq (va_runV (As := [.int (nI j)]) (rest := []) ⟨hx, hb, hml, hown, (fun _ h9 => absurd h9 List.not_mem_nil : ∀ w ∈ ([] : List Cond), w.before _ s = true)⟩ (c_LS_get l D cy A X hst hXT e0 tk hXE mi hXL Gv lsv ec nC fC j hls (by omega)) (tb_cw (C := RJx4a65c) 1 hT tw_942 tw_113 tw_1000 tw_940 tw_941 rfl rfl hq_Jx4a65c_get_915e3 ⟨Nat.le_of_ble_eq_true rfl, Nat.le_of_ble_eq_true rfl⟩) (mk_preC hst hG hK hA hX hS vc_1 h_mo27) rfl rfl hl.1 rfl (lv_room (Nat.le_of_ble_eq_true rfl)) dX2_serviceIn_21 ⟨Nat.le_of_ble_eq_true rfl, Nat.le_of_ble_eq_true rfl⟩) hS (fun q _ h => h) (fun q h => h) (fun r28 G29 t H locs ht hvm hw hB hz1 hk1 hS => ?_)
        have hG : mm D vwCl A G29 H := by rw [← ht]; exact hB
        clear hB hz1 hk1 hvm ht
        obtain ⟨rfl, hw⟩ := hw
        rw [hw] at hG
        obtain ⟨ob, eob⟩ : ∃ y, y = fC j := ⟨_, rfl⟩
        rw [← eob]
        have k_ob := (hnm j (by omega)).1
        rw [← eob] at k_ob
        refine W.eq (g2 := F0 m 24 ls [.ref ob]) rfl ?_
        refine va_castS hx hb hown (tb_use hT tw_1034) (hK.1 11 _ rfl).2 (va_recv hK (hG.one k_ob) (q := (RX10, TX10, 6)) rfl (q0 := 0) rfl) dX2_serviceIn_24 ?_
        refine lv_astore (lv' := [(5, .ref ob), (0, .ref ed), (1, .ref lw), (2, .long xw), (4, .int (nI j))]) hx hb dX2_serviceIn_27 hl (by decide) rfl (fun ls hl => ?_)
        refine lv_aload hx hb dX2_serviceIn_29 (lv_at hl 0 rfl) ?_
        refine mm_getN (v := .ref (lf j)) hx hb hf_X10 (fun _ h9 => h9) hown hK hG k_ob rfl 1 (by decide) (tb_use hT tw_732) (fun _ h9 => h9) (hnm j (by omega)).2.1 dX2_serviceIn_31 ?_
        refine lv_aload_n hx hb dX2_serviceIn_34 rfl (lv_at hl 2 rfl) ?_
        refine lv_acmp_ne (rx := some (lf j)) (ry := some lw) (tgt := 51) hx hb dX2_serviceIn_35 (by decide) (fun c_35 => ?_) (fun c_35 => ?_)
        · skip
          obtain ⟨x30, ex30⟩ : ∃ y : Int32, y = (nI j) + 1 := ⟨_, rfl⟩
          refine lv_iinc (v := x30) (lv' := [(4, .int x30), (5, .ref ob), (0, .ref ed), (1, .ref lw), (2, .long xw)]) hx hb dX2_serviceIn_51 hl (k := 4) rfl (by rw [ex30]; rfl) (by decide) rfl (fun ls hl => ?_)
          refine lv_goto (tgt := 3) hx hb dX2_serviceIn_54 (by decide) ?_
          rw [show x30 = nI (j + 1) by rw [ex30]; exact (nI_succ j).symm] at hl
          have hp9 : ¬ ((fun j => decide (lf j = lw) && decide (nm j = xw)) j = true) := fun z => by simp only [Bool.and_eq_true, decide_eq_true_eq] at z; exact c_35 (by rw [z.1])
          have hq2 : fndF (fun j => decide (lf j = lw) && decide (nm j = xw)) n (j + 1) = RF := by rw [← hq, fndF, if_neg hp9]
          exact ih (j + 1) (by omega) hq2 Gv v_ed rfl _ _ hG hS ls (lv_sub hl [2, 3, 4, 0] rfl)
        · skip
          refine lv_aload hx hb dX2_serviceIn_38 (lv_at hl 0 rfl) ?_
          refine mm_getN (v := .long (nm j)) hx hb hf_X10 (fun _ h9 => h9) hown hK hG k_ob rfl 3 (by decide) (tb_use hT tw_737) (fun _ h9 => h9) (hnm j (by omega)).2.2 dX2_serviceIn_40 ?_
          refine lv_lload_n hx hb dX2_serviceIn_43 rfl (lv_at hl 3 rfl) ?_
          refine W.lcmp hx hb dX2_serviceIn_44 ?_
          refine lv_if_ne (tgt := 51) hx hb dX2_serviceIn_45 (by decide) (fun c_45 => ?_) (fun c_45 => ?_)
          · skip
            obtain ⟨x32, ex32⟩ : ∃ y : Int32, y = (nI j) + 1 := ⟨_, rfl⟩
            refine lv_iinc (v := x32) (lv' := [(4, .int x32), (5, .ref ob), (0, .ref ed), (1, .ref lw), (2, .long xw)]) hx hb dX2_serviceIn_51 hl (k := 4) rfl (by rw [ex32]; rfl) (by decide) rfl (fun ls hl => ?_)
            refine lv_goto (tgt := 3) hx hb dX2_serviceIn_54 (by decide) ?_
            rw [show x32 = nI (j + 1) by rw [ex32]; exact (nI_succ j).symm] at hl
            have hp9 : ¬ ((fun j => decide (lf j = lw) && decide (nm j = xw)) j = true) := fun z => by simp only [Bool.and_eq_true, decide_eq_true_eq] at z; exact c_45 ((lg_cmp_eq _ _).mpr z.2)
            have hq2 : fndF (fun j => decide (lf j = lw) && decide (nm j = xw)) n (j + 1) = RF := by rw [← hq, fndF, if_neg hp9]
            exact ih (j + 1) (by omega) hq2 Gv v_ed rfl _ _ hG hS ls (lv_sub hl [2, 3, 4, 0] rfl)
          · skip
            refine lv_aload hx hb dX2_serviceIn_48 (lv_at hl 0 rfl) ?_
            have hp9 : (fun j => decide (lf j = lw) && decide (nm j = xw)) j = true := by simp only [Bool.and_eq_true, decide_eq_true_eq]; exact ⟨Option.some.inj c_35, (lg_cmp_eq _ _).mp c_45⟩
            exact W.aret (v := .ref ob) hx hb hr (Or.inl ⟨_, rfl⟩) (Or.inr ⟨_, rfl⟩) (fun t ht hW => ⟨⟨(some ob), _, rfl, ⟨(by rw [hR, ← hq, fndF, if_pos hp9, eob]; rfl), rfl⟩, mk_end hG ht⟩, hS.F ht⟩) hS.2.2 dX2_serviceIn_50
  refine lv_iconst (v := 0) hx hb dX2_serviceIn_0 (by decide) ?_
  refine lv_istore (lv' := [(4, .int 0), (0, .ref ed), (1, .ref lw), (2, .long xw)]) hx hb dX2_serviceIn_1 hl (by decide) rfl (fun ls hl => ?_)
  exact hloop nC 0 (by omega) hR G hed rfl _ _ hG hS ls (lv_sub hl [1, 2, 3, 0] rfl)
