/-- the first of n places, from j on, that p holds of -/
def fndF (p : Nat → Bool) : Nat → Nat → Option Nat
  | 0, _ => none
  | n + 1, j => if p j then some j else fndF p n (j + 1)
set_option maxHeartbeats 4000000 in
set_option maxRecDepth 100000 in
theorem c_X2_codingNamed (l : Launch) (D : va_G) (cy : Nat → ClassId) (A : Nat → Prop) (X : State → Prop) (hst : mk_St A X) (hXT : ∀ U : State, X U → TB U) (e0 : Nat) (tk : Nat → Nat) (hXE : ∀ U : State, X U → ES e0 tk A U) (mi : Nat) (hXL : ∀ U : State, X U → EL e0 mi A U) (G : Nat → Option va_E) (ed : Nat) (lc ly lsv lco lva ljo na : Nat) (nc wa : Int32) (iu rs : Option Nat) (ec nC : Nat) (fC : Nat → Nat) (fs : Nat → List Value) (nm : Nat → Int64) (xw : Int64) (hed : G ed = some (.inr (3, [.ref lc, .ref ly, .ref lsv, .ref lco, .ref lva, .ref ljo, .ref na, .int nc, va_rf iu, .int wa, va_rf rs]))) (hls : LiS cy e0 G lc ec nC fC) (hnC : nC < 200) (hnm : ∀ j, j < nC → G (fC j) = some (.inr (2, fs j)) ∧ (fs j)[2]? = some (.long (nm j))) : Met l yX2_codingNamed [.code yX2_codingNamed cX2_codingNamed 5 (some (.object "DescribeText$Coding"))] ({ frames := 3, cells := 0, slots := 0, locals := 90 }) (mk_Pre D vwCl (tyL cy) A X G [.ref ed, .long xw]) (va_Qq (fun (r : Option Nat) (G2 : Nat → Option va_E) => r = (fndF (fun j => decide (nm j = xw)) nC 0).map fC ∧ G2 = G) (mk_B D vwCl A) A) 0 0 A := by
  refine Met.ofW (cc := cX2_codingNamed) (maxL := 5) (ret := (some (.object "DescribeText$Coding"))) (by decide) rfl ?_
  intro p e s m args below meth c s₁ B hml hv
  obtain ⟨rfl, hG, hK, hA, hX⟩ := hv
  have hx := B.exec
  have hb := B.bytes
  have hr := B.returns
  have hlocks := B.notSynchronized
  have hT := hXT s hX
  have hown : s.vm.findClass RX2 = some m.cls := findClass_of_methodNamed B.named
  have hf_X2 : ∀ w ∈ u_ws RX2 TX2 11, w.before ([.ref ed, .long xw] : List Value).toArray s = true := tb_list hT fX2
  have hf_X1 : ∀ w ∈ u_ws RX1 TX1 10, w.before ([.ref ed, .long xw] : List Value).toArray s = true := tb_list hT fX1
  have hS : va_S A s.heap s.heap [] := va_S.rf
  have hE := hXE s hX
  have hl := lv_entry ([.ref ed, .long xw]) (n := 5) (Nat.le_of_ble_eq_true rfl)
  rw [lg_entry_eq]
  generalize (lg_sl ([.ref ed, .long xw]) ++ List.replicate (5 - (lg_sl ([.ref ed, .long xw])).length) Slot.unset).toArray = ls at hl ⊢
  have hl : lv_has ls 5 [(0, .ref ed), (1, .long xw)] := hl
  obtain ⟨RF, hR⟩ : ∃ y, fndF (fun j => decide (nm j = xw)) nC 0 = y := ⟨_, rfl⟩
  have hloop : ∀ (n : Nat) (j : Nat), (n + j = nC) → (fndF (fun j => decide (nm j = xw)) n j = RF) → ∀ (Gv : Nat → Option va_E), (Gv ed = some (.inr (3, [.ref lc, .ref ly, .ref lsv, .ref lco, .ref lva, .ref ljo, .ref na, .int nc, va_rf iu, .int wa, va_rf rs]))) → (Gv = G) → ∀ (H : Heap) (locs : List Loc), mm D vwCl A Gv H → va_S A s.heap H locs → ∀ ls : Array Slot, lv_has ls 5 [(0, .ref ed), (1, .long xw), (3, .int (nI j))] → W p l e (headSpec [.code yX2_codingNamed cX2_codingNamed 5 (some (.object "DescribeText$Coding"))] ({ frames := 3, cells := 0, slots := 0, locals := 90 })).room s m ([.ref ed, .long xw] : List Value).toArray below meth c H locs 0 0 (MQ below (va_Qq (fun (r : Option Nat) (G2 : Nat → Option va_E) => r = (fndF (fun j => decide (nm j = xw)) nC 0).map fC ∧ G2 = G) (mk_B D vwCl A) A) ([.ref ed, .long xw] : List Value).toArray s 0 0 A) (F0 m 2 ls []) := by
    intro n
    induction n with
    | zero =>
      intro j hjn hq Gv v_ed hGv H locs hG hS ls hl
      have hG9 := hG
      have hS9 := hS
      have hl9 := hl
      subst hGv
      have hG := hG9
      have hS := hS9
      have hl := hl9
      refine lv_iload_n hx hb dX2_codingNamed_2 rfl (lv_at hl 2 rfl) ?_
      refine lv_aload_n hx hb dX2_codingNamed_3 rfl (lv_at hl 0 rfl) ?_
      refine mm_get (v := .ref lc) hx hb hf_X2 (fun _ h9 => h9) hown hK hG v_ed rfl 0 (by decide) (tb_use hT tw_278) (fun _ h9 => h9) rfl dX2_codingNamed_4 ?_
      obtain ⟨mo21, h_mo21, -⟩ := id hls
      refine va_calli (va_runV (As := []) (rest := [.int (nI j)]) ⟨hx, hb, hml, hown, (fun _ h9 => absurd h9 List.not_mem_nil : ∀ w ∈ ([] : List Cond), w.before _ s = true)⟩ (c_LS_size l D cy A X hst hXT e0 tk hXE mi hXL Gv lc ec nC fC hls) (tb_cw (C := RJx4a65c) 0 hT tw_457 tw_113 tw_999 tw_455 tw_456 rfl rfl hq_Jx4a65c_size_8abf5 ⟨Nat.le_of_ble_eq_true rfl, Nat.le_of_ble_eq_true rfl⟩) (mk_preC hst hG hK hA hX hS vc_1 h_mo21) rfl rfl hl.1 rfl (lv_room (Nat.le_of_ble_eq_true rfl)) dX2_codingNamed_7 ⟨Nat.le_of_ble_eq_true rfl, Nat.le_of_ble_eq_true rfl⟩) hS (fun q _ h => h) (fun q h => h) (fun r22 G23 t H locs ht hvm hw hB hz1 hk1 hS => ?_)
      have hG : mm D vwCl A G23 H := by rw [← ht]; exact hB
      clear hB hz1 hk1 hvm ht
      obtain ⟨rfl, hw⟩ := hw
      rw [hw] at hG
      refine lv_icmp_ge (tgt := 45) hx hb dX2_codingNamed_10 (by decide) (fun c_10 => ?_) (fun c_10 => ?_)
      · skip
        refine lv_null hx hb dX2_codingNamed_45 ?_
        exact W.aret (v := .null) hx hb hr (Or.inl ⟨_, rfl⟩) (Or.inl rfl) (fun t ht hW => ⟨⟨(none : Option Nat), _, rfl, ⟨(by rw [hR, ← hq]; rfl), rfl⟩, mk_end hG ht⟩, hS.F ht⟩) hS.2.2 dX2_codingNamed_46
      · skip
        exact absurd (by rw [show j = nC by omega]; exact Int32.le_refl _) c_10
    | succ n ih =>
      intro j hjn hq Gv v_ed hGv H locs hG hS ls hl
      have hG9 := hG
      have hS9 := hS
      have hl9 := hl
      subst hGv
      have hG := hG9
      have hS := hS9
      have hl := hl9
      refine lv_iload_n hx hb dX2_codingNamed_2 rfl (lv_at hl 2 rfl) ?_
      refine lv_aload_n hx hb dX2_codingNamed_3 rfl (lv_at hl 0 rfl) ?_
      refine mm_get (v := .ref lc) hx hb hf_X2 (fun _ h9 => h9) hown hK hG v_ed rfl 0 (by decide) (tb_use hT tw_278) (fun _ h9 => h9) rfl dX2_codingNamed_4 ?_
      obtain ⟨mo24, h_mo24, -⟩ := id hls
      refine va_calli (va_runV (As := []) (rest := [.int (nI j)]) ⟨hx, hb, hml, hown, (fun _ h9 => absurd h9 List.not_mem_nil : ∀ w ∈ ([] : List Cond), w.before _ s = true)⟩ (c_LS_size l D cy A X hst hXT e0 tk hXE mi hXL Gv lc ec nC fC hls) (tb_cw (C := RJx4a65c) 0 hT tw_457 tw_113 tw_999 tw_455 tw_456 rfl rfl hq_Jx4a65c_size_8abf5 ⟨Nat.le_of_ble_eq_true rfl, Nat.le_of_ble_eq_true rfl⟩) (mk_preC hst hG hK hA hX hS vc_1 h_mo24) rfl rfl hl.1 rfl (lv_room (Nat.le_of_ble_eq_true rfl)) dX2_codingNamed_7 ⟨Nat.le_of_ble_eq_true rfl, Nat.le_of_ble_eq_true rfl⟩) hS (fun q _ h => h) (fun q h => h) (fun r25 G26 t H locs ht hvm hw hB hz1 hk1 hS => ?_)
      have hG : mm D vwCl A G26 H := by rw [← ht]; exact hB
      clear hB hz1 hk1 hvm ht
      obtain ⟨rfl, hw⟩ := hw
      rw [hw] at hG
      refine lv_icmp_ge (tgt := 45) hx hb dX2_codingNamed_10 (by decide) (fun c_10 => ?_) (fun c_10 => ?_)
      · skip
        exact absurd c_10 (nI_ge (by omega) (by omega))
      · skip
        refine lv_aload_n hx hb dX2_codingNamed_13 rfl (lv_at hl 0 rfl) ?_
        refine mm_get (v := .ref lc) hx hb hf_X2 (fun _ h9 => h9) hown hK hG v_ed rfl 0 (by decide) (tb_use hT tw_278) (fun _ h9 => h9) rfl dX2_codingNamed_14 ?_
        refine lv_iload_n hx hb dX2_codingNamed_17 rfl (lv_at hl 2 rfl) ?_
        obtain ⟨mo27, h_mo27, -⟩ := id hls
        refine va_callq (va_runV (As := [.int (nI j)]) (rest := []) ⟨hx, hb, hml, hown, (fun _ h9 => absurd h9 List.not_mem_nil : ∀ w ∈ ([] : List Cond), w.before _ s = true)⟩ (c_LS_get l D cy A X hst hXT e0 tk hXE mi hXL Gv lc ec nC fC j hls (by omega)) (tb_cw (C := RJx4a65c) 1 hT tw_942 tw_113 tw_1000 tw_940 tw_941 rfl rfl hq_Jx4a65c_get_915e3 ⟨Nat.le_of_ble_eq_true rfl, Nat.le_of_ble_eq_true rfl⟩) (mk_preC hst hG hK hA hX hS vc_1 h_mo27) rfl rfl hl.1 rfl (lv_room (Nat.le_of_ble_eq_true rfl)) dX2_codingNamed_18 ⟨Nat.le_of_ble_eq_true rfl, Nat.le_of_ble_eq_true rfl⟩) hS (fun q _ h => h) (fun q h => h) (fun r28 G29 t H locs ht hvm hw hB hz1 hk1 hS => ?_)
        have hG : mm D vwCl A G29 H := by rw [← ht]; exact hB
        clear hB hz1 hk1 hvm ht
        obtain ⟨rfl, hw⟩ := hw
        rw [hw] at hG
        obtain ⟨ob, eob⟩ : ∃ y, y = fC j := ⟨_, rfl⟩
        rw [← eob]
        have k_ob := (hnm j (by omega)).1
        rw [← eob] at k_ob
        refine W.eq (g2 := F0 m 21 ls [.ref ob]) rfl ?_
        refine va_castS hx hb hown (tb_use hT tw_1018) (hK.1 2 _ rfl).2 (va_recv hK (hG.one k_ob) (q := (RX1, TX1, 10)) rfl (q0 := 0) rfl) dX2_codingNamed_21 ?_
        refine lv_astore (lv' := [(4, .ref ob), (0, .ref ed), (1, .long xw), (3, .int (nI j))]) hx hb dX2_codingNamed_24 hl (by decide) rfl (fun ls hl => ?_)
        refine lv_aload hx hb dX2_codingNamed_26 (lv_at hl 0 rfl) ?_
        refine mm_getN (v := .long (nm j)) hx hb hf_X1 (fun _ h9 => h9) hown hK hG k_ob rfl 2 (by decide) (tb_use hT tw_496) (fun _ h9 => h9) (hnm j (by omega)).2 dX2_codingNamed_28 ?_
        refine lv_lload_n hx hb dX2_codingNamed_31 rfl (lv_at hl 2 rfl) ?_
        refine W.lcmp hx hb dX2_codingNamed_32 ?_
        refine lv_if_ne (tgt := 39) hx hb dX2_codingNamed_33 (by decide) (fun c_33 => ?_) (fun c_33 => ?_)
        · skip
          obtain ⟨x31, ex31⟩ : ∃ y : Int32, y = (nI j) + 1 := ⟨_, rfl⟩
          refine lv_iinc (v := x31) (lv' := [(3, .int x31), (4, .ref ob), (0, .ref ed), (1, .long xw)]) hx hb dX2_codingNamed_39 hl (k := 3) rfl (by rw [ex31]; rfl) (by decide) rfl (fun ls hl => ?_)
          refine lv_goto (tgt := 2) hx hb dX2_codingNamed_42 (by decide) ?_
          rw [show x31 = nI (j + 1) by rw [ex31]; exact (nI_succ j).symm] at hl
          have hp9 : ¬ ((fun j => decide (nm j = xw)) j = true) := fun z => by
            have z2 := of_decide_eq_true z
            exact c_33 ((lg_cmp_eq _ _).mpr (by exact z2))
          have hq2 : fndF (fun j => decide (nm j = xw)) n (j + 1) = RF := by rw [← hq, fndF, if_neg hp9]
          exact ih (j + 1) (by omega) hq2 Gv v_ed rfl _ _ hG hS ls (lv_sub hl [2, 3, 0] rfl)
        · skip
          refine lv_aload hx hb dX2_codingNamed_36 (lv_at hl 0 rfl) ?_
          have hp9 : (fun j => decide (nm j = xw)) j = true := decide_eq_true (by exact (lg_cmp_eq _ _).mp c_33)
          exact W.aret (v := .ref ob) hx hb hr (Or.inl ⟨_, rfl⟩) (Or.inr ⟨_, rfl⟩) (fun t ht hW => ⟨⟨(some ob), _, rfl, ⟨(by rw [hR, ← hq, fndF, if_pos hp9, eob]; rfl), rfl⟩, mk_end hG ht⟩, hS.F ht⟩) hS.2.2 dX2_codingNamed_38
  refine lv_iconst (v := 0) hx hb dX2_codingNamed_0 (by decide) ?_
  refine lv_istore_n (lv' := [(3, .int 0), (0, .ref ed), (1, .long xw)]) hx hb dX2_codingNamed_1 rfl hl (by decide) rfl (fun ls hl => ?_)
  exact hloop nC 0 (by omega) hR G hed rfl _ _ hG hS ls (lv_sub hl [1, 2, 0] rfl)

set_option maxHeartbeats 4000000 in
set_option maxRecDepth 100000 in
theorem c_X2_layerNamed (l : Launch) (D : va_G) (cy : Nat → ClassId) (A : Nat → Prop) (X : State → Prop) (hst : mk_St A X) (hXT : ∀ U : State, X U → TB U) (e0 : Nat) (tk : Nat → Nat) (hXE : ∀ U : State, X U → ES e0 tk A U) (mi : Nat) (hXL : ∀ U : State, X U → EL e0 mi A U) (G : Nat → Option va_E) (ed : Nat) (lc ly lsv lco lva ljo na : Nat) (nc wa : Int32) (iu rs : Option Nat) (ec nC : Nat) (fC : Nat → Nat) (fs : Nat → List Value) (nm : Nat → Int64) (xw : Int64) (hed : G ed = some (.inr (3, [.ref lc, .ref ly, .ref lsv, .ref lco, .ref lva, .ref ljo, .ref na, .int nc, va_rf iu, .int wa, va_rf rs]))) (hls : LiS cy e0 G ly ec nC fC) (hnC : nC < 200) (hnm : ∀ j, j < nC → G (fC j) = some (.inr (6, fs j)) ∧ (fs j)[2]? = some (.long (nm j))) : Met l yX2_layerNamed [.code yX2_layerNamed cX2_layerNamed 5 (some (.object "DescribeText$Layer"))] ({ frames := 3, cells := 0, slots := 0, locals := 90 }) (mk_Pre D vwCl (tyL cy) A X G [.ref ed, .long xw]) (va_Qq (fun (r : Option Nat) (G2 : Nat → Option va_E) => r = (fndF (fun j => decide (nm j = xw)) nC 0).map fC ∧ G2 = G) (mk_B D vwCl A) A) 0 0 A := by
  refine Met.ofW (cc := cX2_layerNamed) (maxL := 5) (ret := (some (.object "DescribeText$Layer"))) (by decide) rfl ?_
  intro p e s m args below meth c s₁ B hml hv
  obtain ⟨rfl, hG, hK, hA, hX⟩ := hv
  have hx := B.exec
  have hb := B.bytes
  have hr := B.returns
  have hlocks := B.notSynchronized
  have hT := hXT s hX
  have hown : s.vm.findClass RX2 = some m.cls := findClass_of_methodNamed B.named
  have hf_X2 : ∀ w ∈ u_ws RX2 TX2 11, w.before ([.ref ed, .long xw] : List Value).toArray s = true := tb_list hT fX2
  have hf_X5 : ∀ w ∈ u_ws RX5 TX5 6, w.before ([.ref ed, .long xw] : List Value).toArray s = true := tb_list hT fX5
  have hS : va_S A s.heap s.heap [] := va_S.rf
  have hE := hXE s hX
  have hl := lv_entry ([.ref ed, .long xw]) (n := 5) (Nat.le_of_ble_eq_true rfl)
  rw [lg_entry_eq]
  generalize (lg_sl ([.ref ed, .long xw]) ++ List.replicate (5 - (lg_sl ([.ref ed, .long xw])).length) Slot.unset).toArray = ls at hl ⊢
  have hl : lv_has ls 5 [(0, .ref ed), (1, .long xw)] := hl
  obtain ⟨RF, hR⟩ : ∃ y, fndF (fun j => decide (nm j = xw)) nC 0 = y := ⟨_, rfl⟩
  have hloop : ∀ (n : Nat) (j : Nat), (n + j = nC) → (fndF (fun j => decide (nm j = xw)) n j = RF) → ∀ (Gv : Nat → Option va_E), (Gv ed = some (.inr (3, [.ref lc, .ref ly, .ref lsv, .ref lco, .ref lva, .ref ljo, .ref na, .int nc, va_rf iu, .int wa, va_rf rs]))) → (Gv = G) → ∀ (H : Heap) (locs : List Loc), mm D vwCl A Gv H → va_S A s.heap H locs → ∀ ls : Array Slot, lv_has ls 5 [(0, .ref ed), (1, .long xw), (3, .int (nI j))] → W p l e (headSpec [.code yX2_layerNamed cX2_layerNamed 5 (some (.object "DescribeText$Layer"))] ({ frames := 3, cells := 0, slots := 0, locals := 90 })).room s m ([.ref ed, .long xw] : List Value).toArray below meth c H locs 0 0 (MQ below (va_Qq (fun (r : Option Nat) (G2 : Nat → Option va_E) => r = (fndF (fun j => decide (nm j = xw)) nC 0).map fC ∧ G2 = G) (mk_B D vwCl A) A) ([.ref ed, .long xw] : List Value).toArray s 0 0 A) (F0 m 2 ls []) := by
    intro n
    induction n with
    | zero =>
      intro j hjn hq Gv v_ed hGv H locs hG hS ls hl
      have hG9 := hG
      have hS9 := hS
      have hl9 := hl
      subst hGv
      have hG := hG9
      have hS := hS9
      have hl := hl9
      refine lv_iload_n hx hb dX2_layerNamed_2 rfl (lv_at hl 2 rfl) ?_
      refine lv_aload_n hx hb dX2_layerNamed_3 rfl (lv_at hl 0 rfl) ?_
      refine mm_get (v := .ref ly) hx hb hf_X2 (fun _ h9 => h9) hown hK hG v_ed rfl 1 (by decide) (tb_use hT tw_280) (fun _ h9 => h9) rfl dX2_layerNamed_4 ?_
      obtain ⟨mo21, h_mo21, -⟩ := id hls
      refine va_calli (va_runV (As := []) (rest := [.int (nI j)]) ⟨hx, hb, hml, hown, (fun _ h9 => absurd h9 List.not_mem_nil : ∀ w ∈ ([] : List Cond), w.before _ s = true)⟩ (c_LS_size l D cy A X hst hXT e0 tk hXE mi hXL Gv ly ec nC fC hls) (tb_cw (C := RJx4a65c) 0 hT tw_457 tw_113 tw_999 tw_455 tw_456 rfl rfl hq_Jx4a65c_size_8abf5 ⟨Nat.le_of_ble_eq_true rfl, Nat.le_of_ble_eq_true rfl⟩) (mk_preC hst hG hK hA hX hS vc_1 h_mo21) rfl rfl hl.1 rfl (lv_room (Nat.le_of_ble_eq_true rfl)) dX2_layerNamed_7 ⟨Nat.le_of_ble_eq_true rfl, Nat.le_of_ble_eq_true rfl⟩) hS (fun q _ h => h) (fun q h => h) (fun r22 G23 t H locs ht hvm hw hB hz1 hk1 hS => ?_)
      have hG : mm D vwCl A G23 H := by rw [← ht]; exact hB
      clear hB hz1 hk1 hvm ht
      obtain ⟨rfl, hw⟩ := hw
      rw [hw] at hG
      refine lv_icmp_ge (tgt := 45) hx hb dX2_layerNamed_10 (by decide) (fun c_10 => ?_) (fun c_10 => ?_)
      · skip
        refine lv_null hx hb dX2_layerNamed_45 ?_
        exact W.aret (v := .null) hx hb hr (Or.inl ⟨_, rfl⟩) (Or.inl rfl) (fun t ht hW => ⟨⟨(none : Option Nat), _, rfl, ⟨(by rw [hR, ← hq]; rfl), rfl⟩, mk_end hG ht⟩, hS.F ht⟩) hS.2.2 dX2_layerNamed_46
      · skip
        exact absurd (by rw [show j = nC by omega]; exact Int32.le_refl _) c_10
    | succ n ih =>
      intro j hjn hq Gv v_ed hGv H locs hG hS ls hl
      have hG9 := hG
      have hS9 := hS
      have hl9 := hl
      subst hGv
      have hG := hG9
      have hS := hS9
      have hl := hl9
      refine lv_iload_n hx hb dX2_layerNamed_2 rfl (lv_at hl 2 rfl) ?_
      refine lv_aload_n hx hb dX2_layerNamed_3 rfl (lv_at hl 0 rfl) ?_
      refine mm_get (v := .ref ly) hx hb hf_X2 (fun _ h9 => h9) hown hK hG v_ed rfl 1 (by decide) (tb_use hT tw_280) (fun _ h9 => h9) rfl dX2_layerNamed_4 ?_
      obtain ⟨mo24, h_mo24, -⟩ := id hls
      refine va_calli (va_runV (As := []) (rest := [.int (nI j)]) ⟨hx, hb, hml, hown, (fun _ h9 => absurd h9 List.not_mem_nil : ∀ w ∈ ([] : List Cond), w.before _ s = true)⟩ (c_LS_size l D cy A X hst hXT e0 tk hXE mi hXL Gv ly ec nC fC hls) (tb_cw (C := RJx4a65c) 0 hT tw_457 tw_113 tw_999 tw_455 tw_456 rfl rfl hq_Jx4a65c_size_8abf5 ⟨Nat.le_of_ble_eq_true rfl, Nat.le_of_ble_eq_true rfl⟩) (mk_preC hst hG hK hA hX hS vc_1 h_mo24) rfl rfl hl.1 rfl (lv_room (Nat.le_of_ble_eq_true rfl)) dX2_layerNamed_7 ⟨Nat.le_of_ble_eq_true rfl, Nat.le_of_ble_eq_true rfl⟩) hS (fun q _ h => h) (fun q h => h) (fun r25 G26 t H locs ht hvm hw hB hz1 hk1 hS => ?_)
      have hG : mm D vwCl A G26 H := by rw [← ht]; exact hB
      clear hB hz1 hk1 hvm ht
      obtain ⟨rfl, hw⟩ := hw
      rw [hw] at hG
      refine lv_icmp_ge (tgt := 45) hx hb dX2_layerNamed_10 (by decide) (fun c_10 => ?_) (fun c_10 => ?_)
      · skip
        exact absurd c_10 (nI_ge (by omega) (by omega))
      · skip
        refine lv_aload_n hx hb dX2_layerNamed_13 rfl (lv_at hl 0 rfl) ?_
        refine mm_get (v := .ref ly) hx hb hf_X2 (fun _ h9 => h9) hown hK hG v_ed rfl 1 (by decide) (tb_use hT tw_280) (fun _ h9 => h9) rfl dX2_layerNamed_14 ?_
        refine lv_iload_n hx hb dX2_layerNamed_17 rfl (lv_at hl 2 rfl) ?_
        obtain ⟨mo27, h_mo27, -⟩ := id hls
        refine va_callq (va_runV (As := [.int (nI j)]) (rest := []) ⟨hx, hb, hml, hown, (fun _ h9 => absurd h9 List.not_mem_nil : ∀ w ∈ ([] : List Cond), w.before _ s = true)⟩ (c_LS_get l D cy A X hst hXT e0 tk hXE mi hXL Gv ly ec nC fC j hls (by omega)) (tb_cw (C := RJx4a65c) 1 hT tw_942 tw_113 tw_1000 tw_940 tw_941 rfl rfl hq_Jx4a65c_get_915e3 ⟨Nat.le_of_ble_eq_true rfl, Nat.le_of_ble_eq_true rfl⟩) (mk_preC hst hG hK hA hX hS vc_1 h_mo27) rfl rfl hl.1 rfl (lv_room (Nat.le_of_ble_eq_true rfl)) dX2_layerNamed_18 ⟨Nat.le_of_ble_eq_true rfl, Nat.le_of_ble_eq_true rfl⟩) hS (fun q _ h => h) (fun q h => h) (fun r28 G29 t H locs ht hvm hw hB hz1 hk1 hS => ?_)
        have hG : mm D vwCl A G29 H := by rw [← ht]; exact hB
        clear hB hz1 hk1 hvm ht
        obtain ⟨rfl, hw⟩ := hw
        rw [hw] at hG
        obtain ⟨ob, eob⟩ : ∃ y, y = fC j := ⟨_, rfl⟩
        rw [← eob]
        have k_ob := (hnm j (by omega)).1
        rw [← eob] at k_ob
        refine W.eq (g2 := F0 m 21 ls [.ref ob]) rfl ?_
        refine va_castS hx hb hown (tb_use hT tw_1001) (hK.1 6 _ rfl).2 (va_recv hK (hG.one k_ob) (q := (RX5, TX5, 6)) rfl (q0 := 0) rfl) dX2_layerNamed_21 ?_
        refine lv_astore (lv' := [(4, .ref ob), (0, .ref ed), (1, .long xw), (3, .int (nI j))]) hx hb dX2_layerNamed_24 hl (by decide) rfl (fun ls hl => ?_)
        refine lv_aload hx hb dX2_layerNamed_26 (lv_at hl 0 rfl) ?_
        refine mm_getN (v := .long (nm j)) hx hb hf_X5 (fun _ h9 => h9) hown hK hG k_ob rfl 2 (by decide) (tb_use hT tw_690) (fun _ h9 => h9) (hnm j (by omega)).2 dX2_layerNamed_28 ?_
        refine lv_lload_n hx hb dX2_layerNamed_31 rfl (lv_at hl 2 rfl) ?_
        refine W.lcmp hx hb dX2_layerNamed_32 ?_
        refine lv_if_ne (tgt := 39) hx hb dX2_layerNamed_33 (by decide) (fun c_33 => ?_) (fun c_33 => ?_)
        · skip
          obtain ⟨x31, ex31⟩ : ∃ y : Int32, y = (nI j) + 1 := ⟨_, rfl⟩
          refine lv_iinc (v := x31) (lv' := [(3, .int x31), (4, .ref ob), (0, .ref ed), (1, .long xw)]) hx hb dX2_layerNamed_39 hl (k := 3) rfl (by rw [ex31]; rfl) (by decide) rfl (fun ls hl => ?_)
          refine lv_goto (tgt := 2) hx hb dX2_layerNamed_42 (by decide) ?_
          rw [show x31 = nI (j + 1) by rw [ex31]; exact (nI_succ j).symm] at hl
          have hp9 : ¬ ((fun j => decide (nm j = xw)) j = true) := fun z => by
            have z2 := of_decide_eq_true z
            exact c_33 ((lg_cmp_eq _ _).mpr (by exact z2))
          have hq2 : fndF (fun j => decide (nm j = xw)) n (j + 1) = RF := by rw [← hq, fndF, if_neg hp9]
          exact ih (j + 1) (by omega) hq2 Gv v_ed rfl _ _ hG hS ls (lv_sub hl [2, 3, 0] rfl)
        · skip
          refine lv_aload hx hb dX2_layerNamed_36 (lv_at hl 0 rfl) ?_
          have hp9 : (fun j => decide (nm j = xw)) j = true := decide_eq_true (by exact (lg_cmp_eq _ _).mp c_33)
          exact W.aret (v := .ref ob) hx hb hr (Or.inl ⟨_, rfl⟩) (Or.inr ⟨_, rfl⟩) (fun t ht hW => ⟨⟨(some ob), _, rfl, ⟨(by rw [hR, ← hq, fndF, if_pos hp9, eob]; rfl), rfl⟩, mk_end hG ht⟩, hS.F ht⟩) hS.2.2 dX2_layerNamed_38
  refine lv_iconst (v := 0) hx hb dX2_layerNamed_0 (by decide) ?_
  refine lv_istore_n (lv' := [(3, .int 0), (0, .ref ed), (1, .long xw)]) hx hb dX2_layerNamed_1 rfl hl (by decide) rfl (fun ls hl => ?_)
  exact hloop nC 0 (by omega) hR G hed rfl _ _ hG hS ls (lv_sub hl [1, 2, 0] rfl)

set_option maxHeartbeats 4000000 in
set_option maxRecDepth 100000 in
theorem c_X2_serviceNamed (l : Launch) (D : va_G) (cy : Nat → ClassId) (A : Nat → Prop) (X : State → Prop) (hst : mk_St A X) (hXT : ∀ U : State, X U → TB U) (e0 : Nat) (tk : Nat → Nat) (hXE : ∀ U : State, X U → ES e0 tk A U) (mi : Nat) (hXL : ∀ U : State, X U → EL e0 mi A U) (G : Nat → Option va_E) (ed : Nat) (lc ly lsv lco lva ljo na : Nat) (nc wa : Int32) (iu rs : Option Nat) (ec nC : Nat) (fC : Nat → Nat) (fs : Nat → List Value) (nm : Nat → Int64) (xw : Int64) (hed : G ed = some (.inr (3, [.ref lc, .ref ly, .ref lsv, .ref lco, .ref lva, .ref ljo, .ref na, .int nc, va_rf iu, .int wa, va_rf rs]))) (hls : LiS cy e0 G lsv ec nC fC) (hnC : nC < 200) (hnm : ∀ j, j < nC → G (fC j) = some (.inr (11, fs j)) ∧ (fs j)[3]? = some (.long (nm j))) : Met l yX2_serviceNamed [.code yX2_serviceNamed cX2_serviceNamed 5 (some (.object "DescribeText$Service"))] ({ frames := 3, cells := 0, slots := 0, locals := 90 }) (mk_Pre D vwCl (tyL cy) A X G [.ref ed, .long xw]) (va_Qq (fun (r : Option Nat) (G2 : Nat → Option va_E) => r = (fndF (fun j => decide (nm j = xw)) nC 0).map fC ∧ G2 = G) (mk_B D vwCl A) A) 0 0 A := by
  refine Met.ofW (cc := cX2_serviceNamed) (maxL := 5) (ret := (some (.object "DescribeText$Service"))) (by decide) rfl ?_
  intro p e s m args below meth c s₁ B hml hv
  obtain ⟨rfl, hG, hK, hA, hX⟩ := hv
  have hx := B.exec
  have hb := B.bytes
  have hr := B.returns
  have hlocks := B.notSynchronized
  have hT := hXT s hX
  have hown : s.vm.findClass RX2 = some m.cls := findClass_of_methodNamed B.named
  have hf_X2 : ∀ w ∈ u_ws RX2 TX2 11, w.before ([.ref ed, .long xw] : List Value).toArray s = true := tb_list hT fX2
  have hf_X10 : ∀ w ∈ u_ws RX10 TX10 6, w.before ([.ref ed, .long xw] : List Value).toArray s = true := tb_list hT fX10
  have hS : va_S A s.heap s.heap [] := va_S.rf
  have hE := hXE s hX
  have hl := lv_entry ([.ref ed, .long xw]) (n := 5) (Nat.le_of_ble_eq_true rfl)
  rw [lg_entry_eq]
  generalize (lg_sl ([.ref ed, .long xw]) ++ List.replicate (5 - (lg_sl ([.ref ed, .long xw])).length) Slot.unset).toArray = ls at hl ⊢
  have hl : lv_has ls 5 [(0, .ref ed), (1, .long xw)] := hl
  obtain ⟨RF, hR⟩ : ∃ y, fndF (fun j => decide (nm j = xw)) nC 0 = y := ⟨_, rfl⟩
  have hloop : ∀ (n : Nat) (j : Nat), (n + j = nC) → (fndF (fun j => decide (nm j = xw)) n j = RF) → ∀ (Gv : Nat → Option va_E), (Gv ed = some (.inr (3, [.ref lc, .ref ly, .ref lsv, .ref lco, .ref lva, .ref ljo, .ref na, .int nc, va_rf iu, .int wa, va_rf rs]))) → (Gv = G) → ∀ (H : Heap) (locs : List Loc), mm D vwCl A Gv H → va_S A s.heap H locs → ∀ ls : Array Slot, lv_has ls 5 [(0, .ref ed), (1, .long xw), (3, .int (nI j))] → W p l e (headSpec [.code yX2_serviceNamed cX2_serviceNamed 5 (some (.object "DescribeText$Service"))] ({ frames := 3, cells := 0, slots := 0, locals := 90 })).room s m ([.ref ed, .long xw] : List Value).toArray below meth c H locs 0 0 (MQ below (va_Qq (fun (r : Option Nat) (G2 : Nat → Option va_E) => r = (fndF (fun j => decide (nm j = xw)) nC 0).map fC ∧ G2 = G) (mk_B D vwCl A) A) ([.ref ed, .long xw] : List Value).toArray s 0 0 A) (F0 m 2 ls []) := by
    intro n
    induction n with
    | zero =>
      intro j hjn hq Gv v_ed hGv H locs hG hS ls hl
      have hG9 := hG
      have hS9 := hS
      have hl9 := hl
      subst hGv
      have hG := hG9
      have hS := hS9
      have hl := hl9
      refine lv_iload_n hx hb dX2_serviceNamed_2 rfl (lv_at hl 2 rfl) ?_
      refine lv_aload_n hx hb dX2_serviceNamed_3 rfl (lv_at hl 0 rfl) ?_
      refine mm_get (v := .ref lsv) hx hb hf_X2 (fun _ h9 => h9) hown hK hG v_ed rfl 2 (by decide) (tb_use hT tw_283) (fun _ h9 => h9) rfl dX2_serviceNamed_4 ?_
      obtain ⟨mo21, h_mo21, -⟩ := id hls
      refine va_calli (va_runV (As := []) (rest := [.int (nI j)]) ⟨hx, hb, hml, hown, (fun _ h9 => absurd h9 List.not_mem_nil : ∀ w ∈ ([] : List Cond), w.before _ s = true)⟩ (c_LS_size l D cy A X hst hXT e0 tk hXE mi hXL Gv lsv ec nC fC hls) (tb_cw (C := RJx4a65c) 0 hT tw_457 tw_113 tw_999 tw_455 tw_456 rfl rfl hq_Jx4a65c_size_8abf5 ⟨Nat.le_of_ble_eq_true rfl, Nat.le_of_ble_eq_true rfl⟩) (mk_preC hst hG hK hA hX hS vc_1 h_mo21) rfl rfl hl.1 rfl (lv_room (Nat.le_of_ble_eq_true rfl)) dX2_serviceNamed_7 ⟨Nat.le_of_ble_eq_true rfl, Nat.le_of_ble_eq_true rfl⟩) hS (fun q _ h => h) (fun q h => h) (fun r22 G23 t H locs ht hvm hw hB hz1 hk1 hS => ?_)
      have hG : mm D vwCl A G23 H := by rw [← ht]; exact hB
      clear hB hz1 hk1 hvm ht
      obtain ⟨rfl, hw⟩ := hw
      rw [hw] at hG
      refine lv_icmp_ge (tgt := 45) hx hb dX2_serviceNamed_10 (by decide) (fun c_10 => ?_) (fun c_10 => ?_)
      · skip
        refine lv_null hx hb dX2_serviceNamed_45 ?_
        exact W.aret (v := .null) hx hb hr (Or.inl ⟨_, rfl⟩) (Or.inl rfl) (fun t ht hW => ⟨⟨(none : Option Nat), _, rfl, ⟨(by rw [hR, ← hq]; rfl), rfl⟩, mk_end hG ht⟩, hS.F ht⟩) hS.2.2 dX2_serviceNamed_46
      · skip
        exact absurd (by rw [show j = nC by omega]; exact Int32.le_refl _) c_10
    | succ n ih =>
      intro j hjn hq Gv v_ed hGv H locs hG hS ls hl
      have hG9 := hG
      have hS9 := hS
      have hl9 := hl
      subst hGv
      have hG := hG9
      have hS := hS9
      have hl := hl9
      refine lv_iload_n hx hb dX2_serviceNamed_2 rfl (lv_at hl 2 rfl) ?_
      refine lv_aload_n hx hb dX2_serviceNamed_3 rfl (lv_at hl 0 rfl) ?_
      refine mm_get (v := .ref lsv) hx hb hf_X2 (fun _ h9 => h9) hown hK hG v_ed rfl 2 (by decide) (tb_use hT tw_283) (fun _ h9 => h9) rfl dX2_serviceNamed_4 ?_
      obtain ⟨mo24, h_mo24, -⟩ := id hls
      refine va_calli (va_runV (As := []) (rest := [.int (nI j)]) ⟨hx, hb, hml, hown, (fun _ h9 => absurd h9 List.not_mem_nil : ∀ w ∈ ([] : List Cond), w.before _ s = true)⟩ (c_LS_size l D cy A X hst hXT e0 tk hXE mi hXL Gv lsv ec nC fC hls) (tb_cw (C := RJx4a65c) 0 hT tw_457 tw_113 tw_999 tw_455 tw_456 rfl rfl hq_Jx4a65c_size_8abf5 ⟨Nat.le_of_ble_eq_true rfl, Nat.le_of_ble_eq_true rfl⟩) (mk_preC hst hG hK hA hX hS vc_1 h_mo24) rfl rfl hl.1 rfl (lv_room (Nat.le_of_ble_eq_true rfl)) dX2_serviceNamed_7 ⟨Nat.le_of_ble_eq_true rfl, Nat.le_of_ble_eq_true rfl⟩) hS (fun q _ h => h) (fun q h => h) (fun r25 G26 t H locs ht hvm hw hB hz1 hk1 hS => ?_)
      have hG : mm D vwCl A G26 H := by rw [← ht]; exact hB
      clear hB hz1 hk1 hvm ht
      obtain ⟨rfl, hw⟩ := hw
      rw [hw] at hG
      refine lv_icmp_ge (tgt := 45) hx hb dX2_serviceNamed_10 (by decide) (fun c_10 => ?_) (fun c_10 => ?_)
      · skip
        exact absurd c_10 (nI_ge (by omega) (by omega))
      · skip
        refine lv_aload_n hx hb dX2_serviceNamed_13 rfl (lv_at hl 0 rfl) ?_
        refine mm_get (v := .ref lsv) hx hb hf_X2 (fun _ h9 => h9) hown hK hG v_ed rfl 2 (by decide) (tb_use hT tw_283) (fun _ h9 => h9) rfl dX2_serviceNamed_14 ?_
        refine lv_iload_n hx hb dX2_serviceNamed_17 rfl (lv_at hl 2 rfl) ?_
        obtain ⟨mo27, h_mo27, -⟩ := id hls
        refine va_callq (va_runV (As := [.int (nI j)]) (rest := []) ⟨hx, hb, hml, hown, (fun _ h9 => absurd h9 List.not_mem_nil : ∀ w ∈ ([] : List Cond), w.before _ s = true)⟩ (c_LS_get l D cy A X hst hXT e0 tk hXE mi hXL Gv lsv ec nC fC j hls (by omega)) (tb_cw (C := RJx4a65c) 1 hT tw_942 tw_113 tw_1000 tw_940 tw_941 rfl rfl hq_Jx4a65c_get_915e3 ⟨Nat.le_of_ble_eq_true rfl, Nat.le_of_ble_eq_true rfl⟩) (mk_preC hst hG hK hA hX hS vc_1 h_mo27) rfl rfl hl.1 rfl (lv_room (Nat.le_of_ble_eq_true rfl)) dX2_serviceNamed_18 ⟨Nat.le_of_ble_eq_true rfl, Nat.le_of_ble_eq_true rfl⟩) hS (fun q _ h => h) (fun q h => h) (fun r28 G29 t H locs ht hvm hw hB hz1 hk1 hS => ?_)
        have hG : mm D vwCl A G29 H := by rw [← ht]; exact hB
        clear hB hz1 hk1 hvm ht
        obtain ⟨rfl, hw⟩ := hw
        rw [hw] at hG
        obtain ⟨ob, eob⟩ : ∃ y, y = fC j := ⟨_, rfl⟩
        rw [← eob]
        have k_ob := (hnm j (by omega)).1
        rw [← eob] at k_ob
        refine W.eq (g2 := F0 m 21 ls [.ref ob]) rfl ?_
        refine va_castS hx hb hown (tb_use hT tw_1034) (hK.1 11 _ rfl).2 (va_recv hK (hG.one k_ob) (q := (RX10, TX10, 6)) rfl (q0 := 0) rfl) dX2_serviceNamed_21 ?_
        refine lv_astore (lv' := [(4, .ref ob), (0, .ref ed), (1, .long xw), (3, .int (nI j))]) hx hb dX2_serviceNamed_24 hl (by decide) rfl (fun ls hl => ?_)
        refine lv_aload hx hb dX2_serviceNamed_26 (lv_at hl 0 rfl) ?_
        refine mm_getN (v := .long (nm j)) hx hb hf_X10 (fun _ h9 => h9) hown hK hG k_ob rfl 3 (by decide) (tb_use hT tw_737) (fun _ h9 => h9) (hnm j (by omega)).2 dX2_serviceNamed_28 ?_
        refine lv_lload_n hx hb dX2_serviceNamed_31 rfl (lv_at hl 2 rfl) ?_
        refine W.lcmp hx hb dX2_serviceNamed_32 ?_
        refine lv_if_ne (tgt := 39) hx hb dX2_serviceNamed_33 (by decide) (fun c_33 => ?_) (fun c_33 => ?_)
        · skip
          obtain ⟨x31, ex31⟩ : ∃ y : Int32, y = (nI j) + 1 := ⟨_, rfl⟩
          refine lv_iinc (v := x31) (lv' := [(3, .int x31), (4, .ref ob), (0, .ref ed), (1, .long xw)]) hx hb dX2_serviceNamed_39 hl (k := 3) rfl (by rw [ex31]; rfl) (by decide) rfl (fun ls hl => ?_)
          refine lv_goto (tgt := 2) hx hb dX2_serviceNamed_42 (by decide) ?_
          rw [show x31 = nI (j + 1) by rw [ex31]; exact (nI_succ j).symm] at hl
          have hp9 : ¬ ((fun j => decide (nm j = xw)) j = true) := fun z => by
            have z2 := of_decide_eq_true z
            exact c_33 ((lg_cmp_eq _ _).mpr (by exact z2))
          have hq2 : fndF (fun j => decide (nm j = xw)) n (j + 1) = RF := by rw [← hq, fndF, if_neg hp9]
          exact ih (j + 1) (by omega) hq2 Gv v_ed rfl _ _ hG hS ls (lv_sub hl [2, 3, 0] rfl)
        · skip
          refine lv_aload hx hb dX2_serviceNamed_36 (lv_at hl 0 rfl) ?_
          have hp9 : (fun j => decide (nm j = xw)) j = true := decide_eq_true (by exact (lg_cmp_eq _ _).mp c_33)
          exact W.aret (v := .ref ob) hx hb hr (Or.inl ⟨_, rfl⟩) (Or.inr ⟨_, rfl⟩) (fun t ht hW => ⟨⟨(some ob), _, rfl, ⟨(by rw [hR, ← hq, fndF, if_pos hp9, eob]; rfl), rfl⟩, mk_end hG ht⟩, hS.F ht⟩) hS.2.2 dX2_serviceNamed_38
  refine lv_iconst (v := 0) hx hb dX2_serviceNamed_0 (by decide) ?_
  refine lv_istore_n (lv' := [(3, .int 0), (0, .ref ed), (1, .long xw)]) hx hb dX2_serviceNamed_1 rfl hl (by decide) rfl (fun ls hl => ?_)
  exact hloop nC 0 (by omega) hR G hed rfl _ _ hG hS ls (lv_sub hl [1, 2, 0] rfl)

set_option maxHeartbeats 4000000 in
set_option maxRecDepth 100000 in
theorem c_X2_jobNamed (l : Launch) (D : va_G) (cy : Nat → ClassId) (A : Nat → Prop) (X : State → Prop) (hst : mk_St A X) (hXT : ∀ U : State, X U → TB U) (e0 : Nat) (tk : Nat → Nat) (hXE : ∀ U : State, X U → ES e0 tk A U) (mi : Nat) (hXL : ∀ U : State, X U → EL e0 mi A U) (G : Nat → Option va_E) (ed : Nat) (lc ly lsv lco lva ljo na : Nat) (nc wa : Int32) (iu rs : Option Nat) (ec nC : Nat) (fC : Nat → Nat) (fs : Nat → List Value) (nm : Nat → Int64) (xw : Int64) (hed : G ed = some (.inr (3, [.ref lc, .ref ly, .ref lsv, .ref lco, .ref lva, .ref ljo, .ref na, .int nc, va_rf iu, .int wa, va_rf rs]))) (hls : LiS cy e0 G ljo ec nC fC) (hnC : nC < 200) (hnm : ∀ j, j < nC → G (fC j) = some (.inr (5, fs j)) ∧ (fs j)[1]? = some (.long (nm j))) : Met l yX2_jobNamed [.code yX2_jobNamed cX2_jobNamed 5 (some (.object "DescribeText$Job"))] ({ frames := 3, cells := 0, slots := 0, locals := 90 }) (mk_Pre D vwCl (tyL cy) A X G [.ref ed, .long xw]) (va_Qq (fun (r : Option Nat) (G2 : Nat → Option va_E) => r = (fndF (fun j => decide (nm j = xw)) nC 0).map fC ∧ G2 = G) (mk_B D vwCl A) A) 0 0 A := by
  refine Met.ofW (cc := cX2_jobNamed) (maxL := 5) (ret := (some (.object "DescribeText$Job"))) (by decide) rfl ?_
  intro p e s m args below meth c s₁ B hml hv
  obtain ⟨rfl, hG, hK, hA, hX⟩ := hv
  have hx := B.exec
  have hb := B.bytes
  have hr := B.returns
  have hlocks := B.notSynchronized
  have hT := hXT s hX
  have hown : s.vm.findClass RX2 = some m.cls := findClass_of_methodNamed B.named
  have hf_X2 : ∀ w ∈ u_ws RX2 TX2 11, w.before ([.ref ed, .long xw] : List Value).toArray s = true := tb_list hT fX2
  have hf_X4 : ∀ w ∈ u_ws RX4 TX4 5, w.before ([.ref ed, .long xw] : List Value).toArray s = true := tb_list hT fX4
  have hS : va_S A s.heap s.heap [] := va_S.rf
  have hE := hXE s hX
  have hl := lv_entry ([.ref ed, .long xw]) (n := 5) (Nat.le_of_ble_eq_true rfl)
  rw [lg_entry_eq]
  generalize (lg_sl ([.ref ed, .long xw]) ++ List.replicate (5 - (lg_sl ([.ref ed, .long xw])).length) Slot.unset).toArray = ls at hl ⊢
  have hl : lv_has ls 5 [(0, .ref ed), (1, .long xw)] := hl
  obtain ⟨RF, hR⟩ : ∃ y, fndF (fun j => decide (nm j = xw)) nC 0 = y := ⟨_, rfl⟩
  have hloop : ∀ (n : Nat) (j : Nat), (n + j = nC) → (fndF (fun j => decide (nm j = xw)) n j = RF) → ∀ (Gv : Nat → Option va_E), (Gv ed = some (.inr (3, [.ref lc, .ref ly, .ref lsv, .ref lco, .ref lva, .ref ljo, .ref na, .int nc, va_rf iu, .int wa, va_rf rs]))) → (Gv = G) → ∀ (H : Heap) (locs : List Loc), mm D vwCl A Gv H → va_S A s.heap H locs → ∀ ls : Array Slot, lv_has ls 5 [(0, .ref ed), (1, .long xw), (3, .int (nI j))] → W p l e (headSpec [.code yX2_jobNamed cX2_jobNamed 5 (some (.object "DescribeText$Job"))] ({ frames := 3, cells := 0, slots := 0, locals := 90 })).room s m ([.ref ed, .long xw] : List Value).toArray below meth c H locs 0 0 (MQ below (va_Qq (fun (r : Option Nat) (G2 : Nat → Option va_E) => r = (fndF (fun j => decide (nm j = xw)) nC 0).map fC ∧ G2 = G) (mk_B D vwCl A) A) ([.ref ed, .long xw] : List Value).toArray s 0 0 A) (F0 m 2 ls []) := by
    intro n
    induction n with
    | zero =>
      intro j hjn hq Gv v_ed hGv H locs hG hS ls hl
      have hG9 := hG
      have hS9 := hS
      have hl9 := hl
      subst hGv
      have hG := hG9
      have hS := hS9
      have hl := hl9
      refine lv_iload_n hx hb dX2_jobNamed_2 rfl (lv_at hl 2 rfl) ?_
      refine lv_aload_n hx hb dX2_jobNamed_3 rfl (lv_at hl 0 rfl) ?_
      refine mm_get (v := .ref ljo) hx hb hf_X2 (fun _ h9 => h9) hown hK hG v_ed rfl 5 (by decide) (tb_use hT tw_291) (fun _ h9 => h9) rfl dX2_jobNamed_4 ?_
      obtain ⟨mo21, h_mo21, -⟩ := id hls
      refine va_calli (va_runV (As := []) (rest := [.int (nI j)]) ⟨hx, hb, hml, hown, (fun _ h9 => absurd h9 List.not_mem_nil : ∀ w ∈ ([] : List Cond), w.before _ s = true)⟩ (c_LS_size l D cy A X hst hXT e0 tk hXE mi hXL Gv ljo ec nC fC hls) (tb_cw (C := RJx4a65c) 0 hT tw_457 tw_113 tw_999 tw_455 tw_456 rfl rfl hq_Jx4a65c_size_8abf5 ⟨Nat.le_of_ble_eq_true rfl, Nat.le_of_ble_eq_true rfl⟩) (mk_preC hst hG hK hA hX hS vc_1 h_mo21) rfl rfl hl.1 rfl (lv_room (Nat.le_of_ble_eq_true rfl)) dX2_jobNamed_7 ⟨Nat.le_of_ble_eq_true rfl, Nat.le_of_ble_eq_true rfl⟩) hS (fun q _ h => h) (fun q h => h) (fun r22 G23 t H locs ht hvm hw hB hz1 hk1 hS => ?_)
      have hG : mm D vwCl A G23 H := by rw [← ht]; exact hB
      clear hB hz1 hk1 hvm ht
      obtain ⟨rfl, hw⟩ := hw
      rw [hw] at hG
      refine lv_icmp_ge (tgt := 45) hx hb dX2_jobNamed_10 (by decide) (fun c_10 => ?_) (fun c_10 => ?_)
      · skip
        refine lv_null hx hb dX2_jobNamed_45 ?_
        exact W.aret (v := .null) hx hb hr (Or.inl ⟨_, rfl⟩) (Or.inl rfl) (fun t ht hW => ⟨⟨(none : Option Nat), _, rfl, ⟨(by rw [hR, ← hq]; rfl), rfl⟩, mk_end hG ht⟩, hS.F ht⟩) hS.2.2 dX2_jobNamed_46
      · skip
        exact absurd (by rw [show j = nC by omega]; exact Int32.le_refl _) c_10
    | succ n ih =>
      intro j hjn hq Gv v_ed hGv H locs hG hS ls hl
      have hG9 := hG
      have hS9 := hS
      have hl9 := hl
      subst hGv
      have hG := hG9
      have hS := hS9
      have hl := hl9
      refine lv_iload_n hx hb dX2_jobNamed_2 rfl (lv_at hl 2 rfl) ?_
      refine lv_aload_n hx hb dX2_jobNamed_3 rfl (lv_at hl 0 rfl) ?_
      refine mm_get (v := .ref ljo) hx hb hf_X2 (fun _ h9 => h9) hown hK hG v_ed rfl 5 (by decide) (tb_use hT tw_291) (fun _ h9 => h9) rfl dX2_jobNamed_4 ?_
      obtain ⟨mo24, h_mo24, -⟩ := id hls
      refine va_calli (va_runV (As := []) (rest := [.int (nI j)]) ⟨hx, hb, hml, hown, (fun _ h9 => absurd h9 List.not_mem_nil : ∀ w ∈ ([] : List Cond), w.before _ s = true)⟩ (c_LS_size l D cy A X hst hXT e0 tk hXE mi hXL Gv ljo ec nC fC hls) (tb_cw (C := RJx4a65c) 0 hT tw_457 tw_113 tw_999 tw_455 tw_456 rfl rfl hq_Jx4a65c_size_8abf5 ⟨Nat.le_of_ble_eq_true rfl, Nat.le_of_ble_eq_true rfl⟩) (mk_preC hst hG hK hA hX hS vc_1 h_mo24) rfl rfl hl.1 rfl (lv_room (Nat.le_of_ble_eq_true rfl)) dX2_jobNamed_7 ⟨Nat.le_of_ble_eq_true rfl, Nat.le_of_ble_eq_true rfl⟩) hS (fun q _ h => h) (fun q h => h) (fun r25 G26 t H locs ht hvm hw hB hz1 hk1 hS => ?_)
      have hG : mm D vwCl A G26 H := by rw [← ht]; exact hB
      clear hB hz1 hk1 hvm ht
      obtain ⟨rfl, hw⟩ := hw
      rw [hw] at hG
      refine lv_icmp_ge (tgt := 45) hx hb dX2_jobNamed_10 (by decide) (fun c_10 => ?_) (fun c_10 => ?_)
      · skip
        exact absurd c_10 (nI_ge (by omega) (by omega))
      · skip
        refine lv_aload_n hx hb dX2_jobNamed_13 rfl (lv_at hl 0 rfl) ?_
        refine mm_get (v := .ref ljo) hx hb hf_X2 (fun _ h9 => h9) hown hK hG v_ed rfl 5 (by decide) (tb_use hT tw_291) (fun _ h9 => h9) rfl dX2_jobNamed_14 ?_
        refine lv_iload_n hx hb dX2_jobNamed_17 rfl (lv_at hl 2 rfl) ?_
        obtain ⟨mo27, h_mo27, -⟩ := id hls
        refine va_callq (va_runV (As := [.int (nI j)]) (rest := []) ⟨hx, hb, hml, hown, (fun _ h9 => absurd h9 List.not_mem_nil : ∀ w ∈ ([] : List Cond), w.before _ s = true)⟩ (c_LS_get l D cy A X hst hXT e0 tk hXE mi hXL Gv ljo ec nC fC j hls (by omega)) (tb_cw (C := RJx4a65c) 1 hT tw_942 tw_113 tw_1000 tw_940 tw_941 rfl rfl hq_Jx4a65c_get_915e3 ⟨Nat.le_of_ble_eq_true rfl, Nat.le_of_ble_eq_true rfl⟩) (mk_preC hst hG hK hA hX hS vc_1 h_mo27) rfl rfl hl.1 rfl (lv_room (Nat.le_of_ble_eq_true rfl)) dX2_jobNamed_18 ⟨Nat.le_of_ble_eq_true rfl, Nat.le_of_ble_eq_true rfl⟩) hS (fun q _ h => h) (fun q h => h) (fun r28 G29 t H locs ht hvm hw hB hz1 hk1 hS => ?_)
        have hG : mm D vwCl A G29 H := by rw [← ht]; exact hB
        clear hB hz1 hk1 hvm ht
        obtain ⟨rfl, hw⟩ := hw
        rw [hw] at hG
        obtain ⟨ob, eob⟩ : ∃ y, y = fC j := ⟨_, rfl⟩
        rw [← eob]
        have k_ob := (hnm j (by omega)).1
        rw [← eob] at k_ob
        refine W.eq (g2 := F0 m 21 ls [.ref ob]) rfl ?_
        refine va_castS hx hb hown (tb_use hT tw_1055) (hK.1 5 _ rfl).2 (va_recv hK (hG.one k_ob) (q := (RX4, TX4, 5)) rfl (q0 := 0) rfl) dX2_jobNamed_21 ?_
        refine lv_astore (lv' := [(4, .ref ob), (0, .ref ed), (1, .long xw), (3, .int (nI j))]) hx hb dX2_jobNamed_24 hl (by decide) rfl (fun ls hl => ?_)
        refine lv_aload hx hb dX2_jobNamed_26 (lv_at hl 0 rfl) ?_
        refine mm_getN (v := .long (nm j)) hx hb hf_X4 (fun _ h9 => h9) hown hK hG k_ob rfl 1 (by decide) (tb_use hT tw_873) (fun _ h9 => h9) (hnm j (by omega)).2 dX2_jobNamed_28 ?_
        refine lv_lload_n hx hb dX2_jobNamed_31 rfl (lv_at hl 2 rfl) ?_
        refine W.lcmp hx hb dX2_jobNamed_32 ?_
        refine lv_if_ne (tgt := 39) hx hb dX2_jobNamed_33 (by decide) (fun c_33 => ?_) (fun c_33 => ?_)
        · skip
          obtain ⟨x31, ex31⟩ : ∃ y : Int32, y = (nI j) + 1 := ⟨_, rfl⟩
          refine lv_iinc (v := x31) (lv' := [(3, .int x31), (4, .ref ob), (0, .ref ed), (1, .long xw)]) hx hb dX2_jobNamed_39 hl (k := 3) rfl (by rw [ex31]; rfl) (by decide) rfl (fun ls hl => ?_)
          refine lv_goto (tgt := 2) hx hb dX2_jobNamed_42 (by decide) ?_
          rw [show x31 = nI (j + 1) by rw [ex31]; exact (nI_succ j).symm] at hl
          have hp9 : ¬ ((fun j => decide (nm j = xw)) j = true) := fun z => by
            have z2 := of_decide_eq_true z
            exact c_33 ((lg_cmp_eq _ _).mpr (by exact z2))
          have hq2 : fndF (fun j => decide (nm j = xw)) n (j + 1) = RF := by rw [← hq, fndF, if_neg hp9]
          exact ih (j + 1) (by omega) hq2 Gv v_ed rfl _ _ hG hS ls (lv_sub hl [2, 3, 0] rfl)
        · skip
          refine lv_aload hx hb dX2_jobNamed_36 (lv_at hl 0 rfl) ?_
          have hp9 : (fun j => decide (nm j = xw)) j = true := decide_eq_true (by exact (lg_cmp_eq _ _).mp c_33)
          exact W.aret (v := .ref ob) hx hb hr (Or.inl ⟨_, rfl⟩) (Or.inr ⟨_, rfl⟩) (fun t ht hW => ⟨⟨(some ob), _, rfl, ⟨(by rw [hR, ← hq, fndF, if_pos hp9, eob]; rfl), rfl⟩, mk_end hG ht⟩, hS.F ht⟩) hS.2.2 dX2_jobNamed_38
  refine lv_iconst (v := 0) hx hb dX2_jobNamed_0 (by decide) ?_
  refine lv_istore_n (lv' := [(3, .int 0), (0, .ref ed), (1, .long xw)]) hx hb dX2_jobNamed_1 rfl hl (by decide) rfl (fun ls hl => ?_)
  exact hloop nC 0 (by omega) hR G hed rfl _ _ hG hS ls (lv_sub hl [1, 2, 0] rfl)

set_option maxHeartbeats 4000000 in
set_option maxRecDepth 100000 in
theorem c_X10_named (l : Launch) (D : va_G) (cy : Nat → ClassId) (A : Nat → Prop) (X : State → Prop) (hst : mk_St A X) (hXT : ∀ U : State, X U → TB U) (e0 : Nat) (tk : Nat → Nat) (hXE : ∀ U : State, X U → ES e0 tk A U) (mi : Nat) (hXL : ∀ U : State, X U → EL e0 mi A U) (G : Nat → Option va_E) (sa la pl : Nat) (su sat sz : Int32) (sn : Int64) (ec nC : Nat) (fC : Nat → Nat) (fs : Nat → List Value) (nm : Nat → Int64) (xw : Int64) (hsa : G sa = some (.inr (11, [.int su, .ref la, .int sat, .long sn, .ref pl, .int sz]))) (hls : LiS cy e0 G pl ec nC fC) (hnC : nC < 200) (hnm : ∀ j, j < nC → G (fC j) = some (.inr (9, fs j)) ∧ (fs j)[2]? = some (.long (nm j))) : Met l yX10_named [.code yX10_named cX10_named 5 (some (.object "DescribeText$Parameter"))] ({ frames := 3, cells := 0, slots := 0, locals := 90 }) (mk_Pre D vwCl (tyL cy) A X G [.ref sa, .long xw]) (va_Qq (fun (r : Option Nat) (G2 : Nat → Option va_E) => r = (fndF (fun j => decide (nm j = xw)) nC 0).map fC ∧ G2 = G) (mk_B D vwCl A) A) 0 0 A := by
  refine Met.ofW (cc := cX10_named) (maxL := 5) (ret := (some (.object "DescribeText$Parameter"))) (by decide) rfl ?_
  intro p e s m args below meth c s₁ B hml hv
  obtain ⟨rfl, hG, hK, hA, hX⟩ := hv
  have hx := B.exec
  have hb := B.bytes
  have hr := B.returns
  have hlocks := B.notSynchronized
  have hT := hXT s hX
  have hown : s.vm.findClass RX10 = some m.cls := findClass_of_methodNamed B.named
  have hf_X10 : ∀ w ∈ u_ws RX10 TX10 6, w.before ([.ref sa, .long xw] : List Value).toArray s = true := tb_list hT fX10
  have hf_X8 : ∀ w ∈ u_ws RX8 TX8 15, w.before ([.ref sa, .long xw] : List Value).toArray s = true := tb_list hT fX8
  have hS : va_S A s.heap s.heap [] := va_S.rf
  have hE := hXE s hX
  have hl := lv_entry ([.ref sa, .long xw]) (n := 5) (Nat.le_of_ble_eq_true rfl)
  rw [lg_entry_eq]
  generalize (lg_sl ([.ref sa, .long xw]) ++ List.replicate (5 - (lg_sl ([.ref sa, .long xw])).length) Slot.unset).toArray = ls at hl ⊢
  have hl : lv_has ls 5 [(0, .ref sa), (1, .long xw)] := hl
  obtain ⟨RF, hR⟩ : ∃ y, fndF (fun j => decide (nm j = xw)) nC 0 = y := ⟨_, rfl⟩
  have hloop : ∀ (n : Nat) (j : Nat), (n + j = nC) → (fndF (fun j => decide (nm j = xw)) n j = RF) → ∀ (Gv : Nat → Option va_E), (Gv sa = some (.inr (11, [.int su, .ref la, .int sat, .long sn, .ref pl, .int sz]))) → (Gv = G) → ∀ (H : Heap) (locs : List Loc), mm D vwCl A Gv H → va_S A s.heap H locs → ∀ ls : Array Slot, lv_has ls 5 [(0, .ref sa), (1, .long xw), (3, .int (nI j))] → W p l e (headSpec [.code yX10_named cX10_named 5 (some (.object "DescribeText$Parameter"))] ({ frames := 3, cells := 0, slots := 0, locals := 90 })).room s m ([.ref sa, .long xw] : List Value).toArray below meth c H locs 0 0 (MQ below (va_Qq (fun (r : Option Nat) (G2 : Nat → Option va_E) => r = (fndF (fun j => decide (nm j = xw)) nC 0).map fC ∧ G2 = G) (mk_B D vwCl A) A) ([.ref sa, .long xw] : List Value).toArray s 0 0 A) (F0 m 2 ls []) := by
    intro n
    induction n with
    | zero =>
      intro j hjn hq Gv v_sa hGv H locs hG hS ls hl
      have hG9 := hG
      have hS9 := hS
      have hl9 := hl
      subst hGv
      have hG := hG9
      have hS := hS9
      have hl := hl9
      refine lv_iload_n hx hb dX10_named_2 rfl (lv_at hl 2 rfl) ?_
      refine lv_aload_n hx hb dX10_named_3 rfl (lv_at hl 0 rfl) ?_
      refine mm_get (v := .ref pl) hx hb hf_X10 (fun _ h9 => h9) hown hK hG v_sa rfl 4 (by decide) (tb_use hT tw_738) (fun _ h9 => h9) rfl dX10_named_4 ?_
      obtain ⟨mo21, h_mo21, -⟩ := id hls
      refine va_calli (va_runV (As := []) (rest := [.int (nI j)]) ⟨hx, hb, hml, hown, (fun _ h9 => absurd h9 List.not_mem_nil : ∀ w ∈ ([] : List Cond), w.before _ s = true)⟩ (c_LS_size l D cy A X hst hXT e0 tk hXE mi hXL Gv pl ec nC fC hls) (tb_cw (C := RJx4a65c) 0 hT tw_457 tw_113 tw_1048 tw_455 tw_456 rfl rfl hq_Jx4a65c_size_8abf5 ⟨Nat.le_of_ble_eq_true rfl, Nat.le_of_ble_eq_true rfl⟩) (mk_preC hst hG hK hA hX hS vc_1 h_mo21) rfl rfl hl.1 rfl (lv_room (Nat.le_of_ble_eq_true rfl)) dX10_named_7 ⟨Nat.le_of_ble_eq_true rfl, Nat.le_of_ble_eq_true rfl⟩) hS (fun q _ h => h) (fun q h => h) (fun r22 G23 t H locs ht hvm hw hB hz1 hk1 hS => ?_)
      have hG : mm D vwCl A G23 H := by rw [← ht]; exact hB
      clear hB hz1 hk1 hvm ht
      obtain ⟨rfl, hw⟩ := hw
      rw [hw] at hG
      refine lv_icmp_ge (tgt := 45) hx hb dX10_named_10 (by decide) (fun c_10 => ?_) (fun c_10 => ?_)
      · skip
        refine lv_null hx hb dX10_named_45 ?_
        exact W.aret (v := .null) hx hb hr (Or.inl ⟨_, rfl⟩) (Or.inl rfl) (fun t ht hW => ⟨⟨(none : Option Nat), _, rfl, ⟨(by rw [hR, ← hq]; rfl), rfl⟩, mk_end hG ht⟩, hS.F ht⟩) hS.2.2 dX10_named_46
      · skip
        exact absurd (by rw [show j = nC by omega]; exact Int32.le_refl _) c_10
    | succ n ih =>
      intro j hjn hq Gv v_sa hGv H locs hG hS ls hl
      have hG9 := hG
      have hS9 := hS
      have hl9 := hl
      subst hGv
      have hG := hG9
      have hS := hS9
      have hl := hl9
      refine lv_iload_n hx hb dX10_named_2 rfl (lv_at hl 2 rfl) ?_
      refine lv_aload_n hx hb dX10_named_3 rfl (lv_at hl 0 rfl) ?_
      refine mm_get (v := .ref pl) hx hb hf_X10 (fun _ h9 => h9) hown hK hG v_sa rfl 4 (by decide) (tb_use hT tw_738) (fun _ h9 => h9) rfl dX10_named_4 ?_
      obtain ⟨mo24, h_mo24, -⟩ := id hls
      refine va_calli (va_runV (As := []) (rest := [.int (nI j)]) ⟨hx, hb, hml, hown, (fun _ h9 => absurd h9 List.not_mem_nil : ∀ w ∈ ([] : List Cond), w.before _ s = true)⟩ (c_LS_size l D cy A X hst hXT e0 tk hXE mi hXL Gv pl ec nC fC hls) (tb_cw (C := RJx4a65c) 0 hT tw_457 tw_113 tw_1048 tw_455 tw_456 rfl rfl hq_Jx4a65c_size_8abf5 ⟨Nat.le_of_ble_eq_true rfl, Nat.le_of_ble_eq_true rfl⟩) (mk_preC hst hG hK hA hX hS vc_1 h_mo24) rfl rfl hl.1 rfl (lv_room (Nat.le_of_ble_eq_true rfl)) dX10_named_7 ⟨Nat.le_of_ble_eq_true rfl, Nat.le_of_ble_eq_true rfl⟩) hS (fun q _ h => h) (fun q h => h) (fun r25 G26 t H locs ht hvm hw hB hz1 hk1 hS => ?_)
      have hG : mm D vwCl A G26 H := by rw [← ht]; exact hB
      clear hB hz1 hk1 hvm ht
      obtain ⟨rfl, hw⟩ := hw
      rw [hw] at hG
      refine lv_icmp_ge (tgt := 45) hx hb dX10_named_10 (by decide) (fun c_10 => ?_) (fun c_10 => ?_)
      · skip
        exact absurd c_10 (nI_ge (by omega) (by omega))
      · skip
        refine lv_aload_n hx hb dX10_named_13 rfl (lv_at hl 0 rfl) ?_
        refine mm_get (v := .ref pl) hx hb hf_X10 (fun _ h9 => h9) hown hK hG v_sa rfl 4 (by decide) (tb_use hT tw_738) (fun _ h9 => h9) rfl dX10_named_14 ?_
        refine lv_iload_n hx hb dX10_named_17 rfl (lv_at hl 2 rfl) ?_
        obtain ⟨mo27, h_mo27, -⟩ := id hls
        refine va_callq (va_runV (As := [.int (nI j)]) (rest := []) ⟨hx, hb, hml, hown, (fun _ h9 => absurd h9 List.not_mem_nil : ∀ w ∈ ([] : List Cond), w.before _ s = true)⟩ (c_LS_get l D cy A X hst hXT e0 tk hXE mi hXL Gv pl ec nC fC j hls (by omega)) (tb_cw (C := RJx4a65c) 1 hT tw_942 tw_113 tw_1049 tw_940 tw_941 rfl rfl hq_Jx4a65c_get_915e3 ⟨Nat.le_of_ble_eq_true rfl, Nat.le_of_ble_eq_true rfl⟩) (mk_preC hst hG hK hA hX hS vc_1 h_mo27) rfl rfl hl.1 rfl (lv_room (Nat.le_of_ble_eq_true rfl)) dX10_named_18 ⟨Nat.le_of_ble_eq_true rfl, Nat.le_of_ble_eq_true rfl⟩) hS (fun q _ h => h) (fun q h => h) (fun r28 G29 t H locs ht hvm hw hB hz1 hk1 hS => ?_)
        have hG : mm D vwCl A G29 H := by rw [← ht]; exact hB
        clear hB hz1 hk1 hvm ht
        obtain ⟨rfl, hw⟩ := hw
        rw [hw] at hG
        obtain ⟨ob, eob⟩ : ∃ y, y = fC j := ⟨_, rfl⟩
        rw [← eob]
        have k_ob := (hnm j (by omega)).1
        rw [← eob] at k_ob
        refine W.eq (g2 := F0 m 21 ls [.ref ob]) rfl ?_
        refine va_castS hx hb hown (tb_use hT tw_1050) (hK.1 9 _ rfl).2 (va_recv hK (hG.one k_ob) (q := (RX8, TX8, 15)) rfl (q0 := 0) rfl) dX10_named_21 ?_
        refine lv_astore (lv' := [(4, .ref ob), (0, .ref sa), (1, .long xw), (3, .int (nI j))]) hx hb dX10_named_24 hl (by decide) rfl (fun ls hl => ?_)
        refine lv_aload hx hb dX10_named_26 (lv_at hl 0 rfl) ?_
        refine mm_getN (v := .long (nm j)) hx hb hf_X8 (fun _ h9 => h9) hown hK hG k_ob rfl 2 (by decide) (tb_use hT tw_776) (fun _ h9 => h9) (hnm j (by omega)).2 dX10_named_28 ?_
        refine lv_lload_n hx hb dX10_named_31 rfl (lv_at hl 2 rfl) ?_
        refine W.lcmp hx hb dX10_named_32 ?_
        refine lv_if_ne (tgt := 39) hx hb dX10_named_33 (by decide) (fun c_33 => ?_) (fun c_33 => ?_)
        · skip
          obtain ⟨x31, ex31⟩ : ∃ y : Int32, y = (nI j) + 1 := ⟨_, rfl⟩
          refine lv_iinc (v := x31) (lv' := [(3, .int x31), (4, .ref ob), (0, .ref sa), (1, .long xw)]) hx hb dX10_named_39 hl (k := 3) rfl (by rw [ex31]; rfl) (by decide) rfl (fun ls hl => ?_)
          refine lv_goto (tgt := 2) hx hb dX10_named_42 (by decide) ?_
          rw [show x31 = nI (j + 1) by rw [ex31]; exact (nI_succ j).symm] at hl
          have hp9 : ¬ ((fun j => decide (nm j = xw)) j = true) := fun z => by
            have z2 := of_decide_eq_true z
            exact c_33 ((lg_cmp_eq _ _).mpr (by exact z2))
          have hq2 : fndF (fun j => decide (nm j = xw)) n (j + 1) = RF := by rw [← hq, fndF, if_neg hp9]
          exact ih (j + 1) (by omega) hq2 Gv v_sa rfl _ _ hG hS ls (lv_sub hl [2, 3, 0] rfl)
        · skip
          refine lv_aload hx hb dX10_named_36 (lv_at hl 0 rfl) ?_
          have hp9 : (fun j => decide (nm j = xw)) j = true := decide_eq_true (by exact (lg_cmp_eq _ _).mp c_33)
          exact W.aret (v := .ref ob) hx hb hr (Or.inl ⟨_, rfl⟩) (Or.inr ⟨_, rfl⟩) (fun t ht hW => ⟨⟨(some ob), _, rfl, ⟨(by rw [hR, ← hq, fndF, if_pos hp9, eob]; rfl), rfl⟩, mk_end hG ht⟩, hS.F ht⟩) hS.2.2 dX10_named_38
  refine lv_iconst (v := 0) hx hb dX10_named_0 (by decide) ?_
  refine lv_istore_n (lv' := [(3, .int 0), (0, .ref sa), (1, .long xw)]) hx hb dX10_named_1 rfl hl (by decide) rfl (fun ls hl => ?_)
  exact hloop nC 0 (by omega) hR G hsa rfl _ _ hG hS ls (lv_sub hl [1, 2, 0] rfl)

set_option maxHeartbeats 4000000 in
set_option maxRecDepth 100000 in
theorem c_X13_firstWithNumber (l : Launch) (D : va_G) (cy : Nat → ClassId) (A : Nat → Prop) (X : State → Prop) (hst : mk_St A X) (hXT : ∀ U : State, X U → TB U) (e0 : Nat) (tk : Nat → Nat) (hXE : ∀ U : State, X U → ES e0 tk A U) (mi : Nat) (hXL : ∀ U : State, X U → EL e0 mi A U) (G : Nat → Option va_E) (al : Nat)  (ec nC : Nat) (fC : Nat → Nat) (fs : Nat → List Value) (nm : Nat → Int32) (xw : Int64) (hls : LiS cy e0 G al ec nC fC) (hnC : nC < 200) (hnm : ∀ j, j < nC → G (fC j) = some (.inr (4, fs j)) ∧ (fs j)[0]? = some (.int (nm j))) : Met l yX13_firstWithNumber [.code yX13_firstWithNumber cX13_firstWithNumber 5 (some (.object "DescribeText$Entry"))] ({ frames := 3, cells := 0, slots := 0, locals := 90 }) (mk_Pre D vwCl (tyL cy) A X G [.ref al, .long xw]) (va_Qq (fun (r : Option Nat) (G2 : Nat → Option va_E) => r = (fndF (fun j => decide ((nm j).toInt64 = xw)) nC 0).map fC ∧ G2 = G) (mk_B D vwCl A) A) 0 0 A := by
  refine Met.ofW (cc := cX13_firstWithNumber) (maxL := 5) (ret := (some (.object "DescribeText$Entry"))) (by decide) rfl ?_
  intro p e s m args below meth c s₁ B hml hv
  obtain ⟨rfl, hG, hK, hA, hX⟩ := hv
  have hx := B.exec
  have hb := B.bytes
  have hr := B.returns
  have hlocks := B.notSynchronized
  have hT := hXT s hX
  have hown : s.vm.findClass RX13 = some m.cls := findClass_of_methodNamed B.named
  have hf_X3 : ∀ w ∈ u_ws RX3 TX3 5, w.before ([.ref al, .long xw] : List Value).toArray s = true := tb_list hT fX3
  have hS : va_S A s.heap s.heap [] := va_S.rf
  have hE := hXE s hX
  have hl := lv_entry ([.ref al, .long xw]) (n := 5) (Nat.le_of_ble_eq_true rfl)
  rw [lg_entry_eq]
  generalize (lg_sl ([.ref al, .long xw]) ++ List.replicate (5 - (lg_sl ([.ref al, .long xw])).length) Slot.unset).toArray = ls at hl ⊢
  have hl : lv_has ls 5 [(0, .ref al), (1, .long xw)] := hl
  obtain ⟨RF, hR⟩ : ∃ y, fndF (fun j => decide ((nm j).toInt64 = xw)) nC 0 = y := ⟨_, rfl⟩
  have hloop : ∀ (n : Nat) (j : Nat), (n + j = nC) → (fndF (fun j => decide ((nm j).toInt64 = xw)) n j = RF) → ∀ (Gv : Nat → Option va_E), (Gv = G) → ∀ (H : Heap) (locs : List Loc), mm D vwCl A Gv H → va_S A s.heap H locs → ∀ ls : Array Slot, lv_has ls 5 [(0, .ref al), (1, .long xw), (3, .int (nI j))] → W p l e (headSpec [.code yX13_firstWithNumber cX13_firstWithNumber 5 (some (.object "DescribeText$Entry"))] ({ frames := 3, cells := 0, slots := 0, locals := 90 })).room s m ([.ref al, .long xw] : List Value).toArray below meth c H locs 0 0 (MQ below (va_Qq (fun (r : Option Nat) (G2 : Nat → Option va_E) => r = (fndF (fun j => decide ((nm j).toInt64 = xw)) nC 0).map fC ∧ G2 = G) (mk_B D vwCl A) A) ([.ref al, .long xw] : List Value).toArray s 0 0 A) (F0 m 2 ls []) := by
    intro n
    induction n with
    | zero =>
      intro j hjn hq Gv hGv H locs hG hS ls hl
      have hG9 := hG
      have hS9 := hS
      have hl9 := hl
      subst hGv
      have hG := hG9
      have hS := hS9
      have hl := hl9
      refine lv_iload_n hx hb dX13_firstWithNumber_2 rfl (lv_at hl 2 rfl) ?_
      refine lv_aload_n hx hb dX13_firstWithNumber_3 rfl (lv_at hl 0 rfl) ?_
      obtain ⟨mo21, h_mo21, -⟩ := id hls
      refine va_calli (va_runV (As := []) (rest := [.int (nI j)]) ⟨hx, hb, hml, hown, (fun _ h9 => absurd h9 List.not_mem_nil : ∀ w ∈ ([] : List Cond), w.before _ s = true)⟩ (c_LS_size l D cy A X hst hXT e0 tk hXE mi hXL Gv al ec nC fC hls) (tb_cw (C := RJx4a65c) 0 hT tw_457 tw_113 tw_1031 tw_455 tw_456 rfl rfl hq_Jx4a65c_size_8abf5 ⟨Nat.le_of_ble_eq_true rfl, Nat.le_of_ble_eq_true rfl⟩) (mk_preC hst hG hK hA hX hS vc_1 h_mo21) rfl rfl hl.1 rfl (lv_room (Nat.le_of_ble_eq_true rfl)) dX13_firstWithNumber_4 ⟨Nat.le_of_ble_eq_true rfl, Nat.le_of_ble_eq_true rfl⟩) hS (fun q _ h => h) (fun q h => h) (fun r22 G23 t H locs ht hvm hw hB hz1 hk1 hS => ?_)
      have hG : mm D vwCl A G23 H := by rw [← ht]; exact hB
      clear hB hz1 hk1 hvm ht
      obtain ⟨rfl, hw⟩ := hw
      rw [hw] at hG
      refine lv_icmp_ge (tgt := 40) hx hb dX13_firstWithNumber_7 (by decide) (fun c_7 => ?_) (fun c_7 => ?_)
      · skip
        refine lv_null hx hb dX13_firstWithNumber_40 ?_
        exact W.aret (v := .null) hx hb hr (Or.inl ⟨_, rfl⟩) (Or.inl rfl) (fun t ht hW => ⟨⟨(none : Option Nat), _, rfl, ⟨(by rw [hR, ← hq]; rfl), rfl⟩, mk_end hG ht⟩, hS.F ht⟩) hS.2.2 dX13_firstWithNumber_41
      · skip
        exact absurd (by rw [show j = nC by omega]; exact Int32.le_refl _) c_7
    | succ n ih =>
      intro j hjn hq Gv hGv H locs hG hS ls hl
      have hG9 := hG
      have hS9 := hS
      have hl9 := hl
      subst hGv
      have hG := hG9
      have hS := hS9
      have hl := hl9
      refine lv_iload_n hx hb dX13_firstWithNumber_2 rfl (lv_at hl 2 rfl) ?_
      refine lv_aload_n hx hb dX13_firstWithNumber_3 rfl (lv_at hl 0 rfl) ?_
      obtain ⟨mo24, h_mo24, -⟩ := id hls
      refine va_calli (va_runV (As := []) (rest := [.int (nI j)]) ⟨hx, hb, hml, hown, (fun _ h9 => absurd h9 List.not_mem_nil : ∀ w ∈ ([] : List Cond), w.before _ s = true)⟩ (c_LS_size l D cy A X hst hXT e0 tk hXE mi hXL Gv al ec nC fC hls) (tb_cw (C := RJx4a65c) 0 hT tw_457 tw_113 tw_1031 tw_455 tw_456 rfl rfl hq_Jx4a65c_size_8abf5 ⟨Nat.le_of_ble_eq_true rfl, Nat.le_of_ble_eq_true rfl⟩) (mk_preC hst hG hK hA hX hS vc_1 h_mo24) rfl rfl hl.1 rfl (lv_room (Nat.le_of_ble_eq_true rfl)) dX13_firstWithNumber_4 ⟨Nat.le_of_ble_eq_true rfl, Nat.le_of_ble_eq_true rfl⟩) hS (fun q _ h => h) (fun q h => h) (fun r25 G26 t H locs ht hvm hw hB hz1 hk1 hS => ?_)
      have hG : mm D vwCl A G26 H := by rw [← ht]; exact hB
      clear hB hz1 hk1 hvm ht
      obtain ⟨rfl, hw⟩ := hw
      rw [hw] at hG
      refine lv_icmp_ge (tgt := 40) hx hb dX13_firstWithNumber_7 (by decide) (fun c_7 => ?_) (fun c_7 => ?_)
      · skip
        exact absurd c_7 (nI_ge (by omega) (by omega))
      · skip
        refine lv_aload_n hx hb dX13_firstWithNumber_10 rfl (lv_at hl 0 rfl) ?_
        refine lv_iload_n hx hb dX13_firstWithNumber_11 rfl (lv_at hl 2 rfl) ?_
        obtain ⟨mo27, h_mo27, -⟩ := id hls
        refine va_callq (va_runV (As := [.int (nI j)]) (rest := []) ⟨hx, hb, hml, hown, (fun _ h9 => absurd h9 List.not_mem_nil : ∀ w ∈ ([] : List Cond), w.before _ s = true)⟩ (c_LS_get l D cy A X hst hXT e0 tk hXE mi hXL Gv al ec nC fC j hls (by omega)) (tb_cw (C := RJx4a65c) 1 hT tw_942 tw_113 tw_1032 tw_940 tw_941 rfl rfl hq_Jx4a65c_get_915e3 ⟨Nat.le_of_ble_eq_true rfl, Nat.le_of_ble_eq_true rfl⟩) (mk_preC hst hG hK hA hX hS vc_1 h_mo27) rfl rfl hl.1 rfl (lv_room (Nat.le_of_ble_eq_true rfl)) dX13_firstWithNumber_12 ⟨Nat.le_of_ble_eq_true rfl, Nat.le_of_ble_eq_true rfl⟩) hS (fun q _ h => h) (fun q h => h) (fun r28 G29 t H locs ht hvm hw hB hz1 hk1 hS => ?_)
        have hG : mm D vwCl A G29 H := by rw [← ht]; exact hB
        clear hB hz1 hk1 hvm ht
        obtain ⟨rfl, hw⟩ := hw
        rw [hw] at hG
        obtain ⟨ob, eob⟩ : ∃ y, y = fC j := ⟨_, rfl⟩
        rw [← eob]
        have k_ob := (hnm j (by omega)).1
        rw [← eob] at k_ob
        refine W.eq (g2 := F0 m 15 ls [.ref ob]) rfl ?_
        refine va_castS hx hb hown (tb_use hT tw_1033) (hK.1 4 _ rfl).2 (va_recv hK (hG.one k_ob) (q := (RX3, TX3, 5)) rfl (q0 := 0) rfl) dX13_firstWithNumber_15 ?_
        refine lv_astore (lv' := [(4, .ref ob), (0, .ref al), (1, .long xw), (3, .int (nI j))]) hx hb dX13_firstWithNumber_18 hl (by decide) rfl (fun ls hl => ?_)
        refine lv_aload hx hb dX13_firstWithNumber_20 (lv_at hl 0 rfl) ?_
        refine mm_getN (v := .int (nm j)) hx hb hf_X3 (fun _ h9 => h9) hown hK hG k_ob rfl 0 (by decide) (tb_use hT tw_561) (fun _ h9 => h9) (hnm j (by omega)).2 dX13_firstWithNumber_22 ?_
        obtain ⟨x30, ex30⟩ : ∃ y, y = ((nm j) : Int32).toInt64 := ⟨_, rfl⟩
        refine lv_i2l (v := x30) hx hb dX13_firstWithNumber_25 ex30.symm ?_
        refine lv_lload_n hx hb dX13_firstWithNumber_26 rfl (lv_at hl 2 rfl) ?_
        refine W.lcmp hx hb dX13_firstWithNumber_27 ?_
        refine lv_if_ne (tgt := 34) hx hb dX13_firstWithNumber_28 (by decide) (fun c_28 => ?_) (fun c_28 => ?_)
        · skip
          obtain ⟨x32, ex32⟩ : ∃ y : Int32, y = (nI j) + 1 := ⟨_, rfl⟩
          refine lv_iinc (v := x32) (lv' := [(3, .int x32), (4, .ref ob), (0, .ref al), (1, .long xw)]) hx hb dX13_firstWithNumber_34 hl (k := 3) rfl (by rw [ex32]; rfl) (by decide) rfl (fun ls hl => ?_)
          refine lv_goto (tgt := 2) hx hb dX13_firstWithNumber_37 (by decide) ?_
          rw [show x32 = nI (j + 1) by rw [ex32]; exact (nI_succ j).symm] at hl
          have hp9 : ¬ ((fun j => decide ((nm j).toInt64 = xw)) j = true) := fun z => by
            have z2 := of_decide_eq_true z
            exact c_28 ((lg_cmp_eq _ _).mpr (by rw [ex30]; exact z2))
          have hq2 : fndF (fun j => decide ((nm j).toInt64 = xw)) n (j + 1) = RF := by rw [← hq, fndF, if_neg hp9]
          exact ih (j + 1) (by omega) hq2 Gv  rfl _ _ hG hS ls (lv_sub hl [2, 3, 0] rfl)
        · skip
          refine lv_aload hx hb dX13_firstWithNumber_31 (lv_at hl 0 rfl) ?_
          have hp9 : (fun j => decide ((nm j).toInt64 = xw)) j = true := decide_eq_true (by rw [← ex30]; exact (lg_cmp_eq _ _).mp c_28)
          exact W.aret (v := .ref ob) hx hb hr (Or.inl ⟨_, rfl⟩) (Or.inr ⟨_, rfl⟩) (fun t ht hW => ⟨⟨(some ob), _, rfl, ⟨(by rw [hR, ← hq, fndF, if_pos hp9, eob]; rfl), rfl⟩, mk_end hG ht⟩, hS.F ht⟩) hS.2.2 dX13_firstWithNumber_33
  refine lv_iconst (v := 0) hx hb dX13_firstWithNumber_0 (by decide) ?_
  refine lv_istore_n (lv' := [(3, .int 0), (0, .ref al), (1, .long xw)]) hx hb dX13_firstWithNumber_1 rfl hl (by decide) rfl (fun ls hl => ?_)
  exact hloop nC 0 (by omega) hR G  rfl _ _ hG hS ls (lv_sub hl [1, 2, 0] rfl)
