set_option maxHeartbeats 4000000 in
set_option maxRecDepth 100000 in
theorem c_M_isW5 (l : Launch) (D : va_G) (cy : Nat → ClassId) (A : Nat → Prop) (X : State → Prop) (hst : mk_St A X) (hXT : ∀ U : State, X U → TB U) (G : Nat → Option va_E) (o : Nat) (Ar : Nat → Nat) (Iv : Nat → Int32) (F : Nat → Nat → Int32) (L : Nat → Nat → Int64) (ft : Nat → Int32) (en bo n9 s9 c9 : Nat) (v9 : EdV) (hM : MD cy G o Ar Iv F L) (hbS : bkS (tkK ft en) (tkV ft en) n9 F bo v9) (hn30 : n9 < 2 ^ 30) (hbl : bo < 2) (h41 : Iv 41 = nI bo) (hs9 : s9 < v9.nS) (hc9 : c9 < v9.nP s9) : Met l yX14_isWrong [.code yX14_isWrong cX14_isWrong 11 (some .boolean)] ({ frames := 1, cells := 0, slots := 0, locals := 30 }) (mk_Pre D vwCl (tyL cy) A X G [.ref o, .int 5, .int (nI s9), .int (nI c9)]) (va_Qi (fun (r : Int32) (G2 : Nat → Option va_E) => r = b2i (decide (paN v9 s9 (v9.P s9 c9).2.1 ≠ some c9)) ∧ G2 = G) (mk_B D vwCl A) A) 0 0 A := by
  refine Met.ofW (cc := cX14_isWrong) (maxL := 11) (ret := (some .boolean)) (by decide) rfl ?_
  intro p e s m args below meth c s₁ B hml hv
  obtain ⟨rfl, hG, hK, hA, hX⟩ := hv
  have hx := B.exec
  have hb := B.bytes
  have hr := B.returns
  have hlocks := B.notSynchronized
  have hT := hXT s hX
  have hown : s.vm.findClass RX14 = some m.cls := findClass_of_methodNamed B.named
  have hf_X14 : ∀ w ∈ u_ws RX14 TX14 76, w.before ([.ref o, .int 5, .int (nI s9), .int (nI c9)] : List Value).toArray s = true := tb_list hT fX14
  have hS : va_S A s.heap s.heap [] := va_S.rf
  have hl := lv_entry ([.ref o, .int 5, .int (nI s9), .int (nI c9)]) (n := 11) (Nat.le_of_ble_eq_true rfl)
  rw [lg_entry_eq]
  generalize (lg_sl ([.ref o, .int 5, .int (nI s9), .int (nI c9)]) ++ List.replicate (11 - (lg_sl ([.ref o, .int 5, .int (nI s9), .int (nI c9)])).length) Slot.unset).toArray = ls at hl ⊢
  have hl : lv_has ls 11 [(0, .ref o), (1, .int 5), (2, .int (nI s9)), (3, .int (nI c9))] := hl
  have hs16 := hbS.2.1
  have hp8 := (hbS.2.2 s9 hs9).2.2.2.2.1
  have hna := ((hbS.2.2 s9 hs9).2.2.2.2.2 c9 hc9).1
  refine lv_aload_n hx hb dX14_isWrong_0 rfl (lv_at hl 0 rfl) ?_
  refine mm_get (v := .int (Iv 41)) hx hb hf_X14 (fun _ h9 => h9) hown hK hG hM.1 rfl 41 (by decide) (tb_use hT tw_1432) (fun _ h9 => h9) (mfs_g41 _ _) dX14_isWrong_1 ?_
  rw [h41]
  refine lv_istore (lv' := [(4, .int (nI bo)), (0, .ref o), (1, .int 5), (2, .int (nI s9)), (3, .int (nI c9))]) hx hb dX14_isWrong_4 hl (by decide) rfl (fun ls hl => ?_)
  refine lv_iload_n hx hb dX14_isWrong_6 rfl (lv_at hl 2 rfl) ?_
  refine lv_tableIn (tgt := 227) hx hb dX14_isWrong_7 (by decide) (by decide) (off := 220) rfl (by decide) ?_
  refine lv_aload_n hx hb dX14_isWrong_227 rfl (lv_at hl 1 rfl) ?_
  refine lv_iload hx hb dX14_isWrong_228 (lv_at hl 0 rfl) ?_
  refine lv_iload_n hx hb dX14_isWrong_230 rfl (lv_at hl 3 rfl) ?_
  refine lv_aload_n hx hb dX14_isWrong_231 rfl (lv_at hl 1 rfl) ?_
  refine mm_get (v := .ref (Ar 24)) hx hb hf_X14 (fun _ h9 => h9) hown hK hG hM.1 rfl 24 (by decide) (tb_use hT tw_1415) (fun _ h9 => h9) (mfs_g24 _ _) dX14_isWrong_232 ?_
  refine lv_sipush (v := 128) hx hb dX14_isWrong_235 (by decide) ?_
  refine lv_iload hx hb dX14_isWrong_238 (lv_at hl 0 rfl) ?_
  refine lv_imul hx hb dX14_isWrong_240 ?_
  refine lv_bipush (v := 8) hx hb dX14_isWrong_241 (by decide) ?_
  refine lv_iload_n hx hb dX14_isWrong_243 rfl (lv_at hl 3 rfl) ?_
  refine lv_imul hx hb dX14_isWrong_244 ?_
  refine lv_iadd hx hb dX14_isWrong_245 ?_
  refine lv_iload_n hx hb dX14_isWrong_246 rfl (lv_at hl 4 rfl) ?_
  refine lv_iadd hx hb dX14_isWrong_247 ?_
  refine mm_iald (n := 256) (f := F 24) hx hb hK hG 1 (hM.2.1 24 rfl) rfl (by rw [show (128 : Int32) * nI bo + 8 * nI s9 + nI c9 = nI (128 * bo + 8 * s9 + c9) from nI_mb bo s9 c9]; exact nI_in (N := 256) (by omega) (by decide)) dX14_isWrong_248 ?_
  refine lv_topi (fun x1 ex1 => ?_)
  refine va_calli (va_runV (As := [.int (nI bo), .int (nI s9), .int x1]) (rest := []) ⟨hx, hb, hml, hown, (fun _ h9 => absurd h9 List.not_mem_nil : ∀ w ∈ ([] : List Cond), w.before _ s = true)⟩ (c_M_paramAt l D cy A X hst hXT G o Ar Iv F L bo s9 (v9.nP s9) x1 hM hbl (by omega) (hbS.2.2 s9 hs9).2.2.2.1 (hbS.2.2 s9 hs9).2.2.2.2.1) (tb_cw (C := RX14) 3 hT tw_1794 tw_109 tw_1791 tw_1793 tw_92 rfl rfl hq_X14_paramAt ⟨Nat.le_of_ble_eq_true rfl, Nat.le_of_ble_eq_true rfl⟩) (mk_preC hst hG hK hA hX hS vc_15 hM.1) rfl rfl hl.1 rfl (lv_room (Nat.le_of_ble_eq_true rfl)) dX14_isWrong_249 ⟨Nat.le_of_ble_eq_true rfl, Nat.le_of_ble_eq_true rfl⟩) hS (fun q _ h => h) (fun q h => h) (fun r2 G3 t H locs ht hvm hw hB hz1 hk1 hS => ?_)
  have hG : mm D vwCl A G3 H := by rw [← ht]; exact hB
  clear hB hz1 hk1 hvm ht
  obtain ⟨er2, hw⟩ := hw
  rw [hw] at hG
  refine lv_iload_n hx hb dX14_isWrong_252 rfl (lv_at hl 4 rfl) ?_
  refine lv_icmp_ge (tgt := 260) hx hb dX14_isWrong_253 (by decide) (fun c_253 => ?_) (fun c_253 => ?_)
  · skip
    refine lv_iconst (v := 0) hx hb dX14_isWrong_260 (by decide) ?_
    have hxa : x1 = F 24 (128 * bo + (8 * s9 + c9)) := by rw [ex1, show (128 : Int32) * nI bo + 8 * nI s9 + nI c9 = nI (128 * bo + 8 * s9 + c9) from nI_mb bo s9 c9, nI_clamp (by omega), Nat.add_assoc]
    have hfo : r2 = opI (paN v9 s9 (v9.P s9 c9).2.1) := by rw [er2, hxa]; exact hbS.atP hn30 hna hs9
    obtain ⟨i9, hi9, hia⟩ : ∃ i, paN v9 s9 (v9.P s9 c9).2.1 = some i ∧ i ≤ c9 := fnd_lt hc9 (decide_eq_true rfl)
    rw [hfo] at c_253
    exact W.zret (v := 0) hx hb hr rfl (fun t ht hW => ⟨⟨_, _, rfl, ⟨(by rw [decide_eq_false (fun z => z ((ge_some hi9 hia (by omega)).mp c_253))]; rfl), rfl⟩, mk_end hG ht⟩, hS.F ht⟩) hS.2.2 dX14_isWrong_261
  · skip
    refine lv_iconst (v := 1) hx hb dX14_isWrong_256 (by decide) ?_
    refine lv_goto (tgt := 261) hx hb dX14_isWrong_257 (by decide) ?_
    have hxa : x1 = F 24 (128 * bo + (8 * s9 + c9)) := by rw [ex1, show (128 : Int32) * nI bo + 8 * nI s9 + nI c9 = nI (128 * bo + 8 * s9 + c9) from nI_mb bo s9 c9, nI_clamp (by omega), Nat.add_assoc]
    have hfo : r2 = opI (paN v9 s9 (v9.P s9 c9).2.1) := by rw [er2, hxa]; exact hbS.atP hn30 hna hs9
    obtain ⟨i9, hi9, hia⟩ : ∃ i, paN v9 s9 (v9.P s9 c9).2.1 = some i ∧ i ≤ c9 := fnd_lt hc9 (decide_eq_true rfl)
    rw [hfo] at c_253
    exact W.zret (v := 1) hx hb hr rfl (fun t ht hW => ⟨⟨_, _, rfl, ⟨(by rw [decide_eq_true (show paN v9 s9 (v9.P s9 c9).2.1 ≠ some c9 from fun z => c_253 ((ge_some hi9 hia (by omega)).mpr z))]; rfl), rfl⟩, mk_end hG ht⟩, hS.F ht⟩) hS.2.2 dX14_isWrong_261

set_option maxHeartbeats 4000000 in
set_option maxRecDepth 100000 in
theorem c_M_isW11 (l : Launch) (D : va_G) (cy : Nat → ClassId) (A : Nat → Prop) (X : State → Prop) (hst : mk_St A X) (hXT : ∀ U : State, X U → TB U) (G : Nat → Option va_E) (o : Nat) (Ar : Nat → Nat) (Iv : Nat → Int32) (F : Nat → Nat → Int32) (L : Nat → Nat → Int64) (ft : Nat → Int32) (en bo n9 s9 i9 : Nat) (v9 : EdV) (hM : MD cy G o Ar Iv F L) (hbS : bkS (tkK ft en) (tkV ft en) n9 F bo v9) (hn30 : n9 < 2 ^ 30) (hbl : bo < 2) (h41 : Iv 41 = nI bo) (hs9 : s9 < v9.nS) (hi9 : i9 < v9.nP s9) : Met l yX14_isWrong [.code yX14_isWrong cX14_isWrong 11 (some .boolean)] ({ frames := 1, cells := 0, slots := 0, locals := 30 }) (mk_Pre D vwCl (tyL cy) A X G [.ref o, .int 11, .int (nI s9), .int (nI (8 * s9 + i9))]) (va_Qi (fun (r : Int32) (G2 : Nat → Option va_E) => r = b2i (!(eB v9 s9 i9)) ∧ G2 = G) (mk_B D vwCl A) A) 0 0 A := by
  refine Met.ofW (cc := cX14_isWrong) (maxL := 11) (ret := (some .boolean)) (by decide) rfl ?_
  intro p e s m args below meth c s₁ B hml hv
  obtain ⟨rfl, hG, hK, hA, hX⟩ := hv
  have hx := B.exec
  have hb := B.bytes
  have hr := B.returns
  have hlocks := B.notSynchronized
  have hT := hXT s hX
  have hown : s.vm.findClass RX14 = some m.cls := findClass_of_methodNamed B.named
  have hf_X14 : ∀ w ∈ u_ws RX14 TX14 76, w.before ([.ref o, .int 11, .int (nI s9), .int (nI (8 * s9 + i9))] : List Value).toArray s = true := tb_list hT fX14
  have hS : va_S A s.heap s.heap [] := va_S.rf
  have hl := lv_entry ([.ref o, .int 11, .int (nI s9), .int (nI (8 * s9 + i9))]) (n := 11) (Nat.le_of_ble_eq_true rfl)
  rw [lg_entry_eq]
  generalize (lg_sl ([.ref o, .int 11, .int (nI s9), .int (nI (8 * s9 + i9))]) ++ List.replicate (11 - (lg_sl ([.ref o, .int 11, .int (nI s9), .int (nI (8 * s9 + i9))])).length) Slot.unset).toArray = ls at hl ⊢
  have hl : lv_has ls 11 [(0, .ref o), (1, .int 11), (2, .int (nI s9)), (3, .int (nI (8 * s9 + i9)))] := hl
  have hs16 := hbS.2.1
  have hp8 := (hbS.2.2 s9 hs9).2.2.2.2.1
  have hna := ((hbS.2.2 s9 hs9).2.2.2.2.2 i9 hi9).2.2.2.1
  refine lv_aload_n hx hb dX14_isWrong_0 rfl (lv_at hl 0 rfl) ?_
  refine mm_get (v := .int (Iv 41)) hx hb hf_X14 (fun _ h9 => h9) hown hK hG hM.1 rfl 41 (by decide) (tb_use hT tw_1432) (fun _ h9 => h9) (mfs_g41 _ _) dX14_isWrong_1 ?_
  rw [h41]
  refine lv_istore (lv' := [(4, .int (nI bo)), (0, .ref o), (1, .int 11), (2, .int (nI s9)), (3, .int (nI (8 * s9 + i9)))]) hx hb dX14_isWrong_4 hl (by decide) rfl (fun ls hl => ?_)
  refine lv_iload_n hx hb dX14_isWrong_6 rfl (lv_at hl 2 rfl) ?_
  refine lv_tableIn (tgt := 518) hx hb dX14_isWrong_7 (by decide) (by decide) (off := 511) rfl (by decide) ?_
  refine lv_aload_n hx hb dX14_isWrong_518 rfl (lv_at hl 1 rfl) ?_
  refine lv_iload hx hb dX14_isWrong_519 (lv_at hl 0 rfl) ?_
  refine lv_iload_n hx hb dX14_isWrong_521 rfl (lv_at hl 3 rfl) ?_
  refine lv_aload_n hx hb dX14_isWrong_522 rfl (lv_at hl 1 rfl) ?_
  refine mm_get (v := .ref (Ar 27)) hx hb hf_X14 (fun _ h9 => h9) hown hK hG hM.1 rfl 27 (by decide) (tb_use hT tw_1418) (fun _ h9 => h9) (mfs_g27 _ _) dX14_isWrong_523 ?_
  refine lv_sipush (v := 128) hx hb dX14_isWrong_526 (by decide) ?_
  refine lv_iload hx hb dX14_isWrong_529 (lv_at hl 0 rfl) ?_
  refine lv_imul hx hb dX14_isWrong_531 ?_
  refine lv_iload_n hx hb dX14_isWrong_532 rfl (lv_at hl 4 rfl) ?_
  refine lv_iadd hx hb dX14_isWrong_533 ?_
  refine mm_iald (n := 256) (f := F 27) hx hb hK hG 1 (hM.2.1 27 rfl) rfl (by rw [show (128 : Int32) * nI bo + nI (8 * s9 + i9) = nI (128 * bo + (8 * s9 + i9)) from nI_ma 128 bo (8 * s9 + i9)]; exact nI_in (N := 256) (by omega) (by decide)) dX14_isWrong_534 ?_
  refine lv_topi (fun x1 ex1 => ?_)
  refine va_calli (va_runV (As := [.int (nI bo), .int (nI s9), .int x1]) (rest := []) ⟨hx, hb, hml, hown, (fun _ h9 => absurd h9 List.not_mem_nil : ∀ w ∈ ([] : List Cond), w.before _ s = true)⟩ (c_M_paramAt l D cy A X hst hXT G o Ar Iv F L bo s9 (v9.nP s9) x1 hM hbl (by omega) (hbS.2.2 s9 hs9).2.2.2.1 (hbS.2.2 s9 hs9).2.2.2.2.1) (tb_cw (C := RX14) 3 hT tw_1794 tw_109 tw_1791 tw_1793 tw_92 rfl rfl hq_X14_paramAt ⟨Nat.le_of_ble_eq_true rfl, Nat.le_of_ble_eq_true rfl⟩) (mk_preC hst hG hK hA hX hS vc_15 hM.1) rfl rfl hl.1 rfl (lv_room (Nat.le_of_ble_eq_true rfl)) dX14_isWrong_535 ⟨Nat.le_of_ble_eq_true rfl, Nat.le_of_ble_eq_true rfl⟩) hS (fun q _ h => h) (fun q h => h) (fun r2 G3 t H locs ht hvm hw hB hz1 hk1 hS => ?_)
  have hG : mm D vwCl A G3 H := by rw [← ht]; exact hB
  clear hB hz1 hk1 hvm ht
  obtain ⟨er2, hw⟩ := hw
  rw [hw] at hG
  refine lv_istore (lv' := [(9, .int r2), (4, .int (nI bo)), (0, .ref o), (1, .int 11), (2, .int (nI s9)), (3, .int (nI (8 * s9 + i9)))]) hx hb dX14_isWrong_538 hl (by decide) rfl (fun ls hl => ?_)
  refine lv_iload hx hb dX14_isWrong_540 (lv_at hl 0 rfl) ?_
  refine lv_if_lt (tgt := 556) hx hb dX14_isWrong_542 (by decide) (fun c_542 => ?_) (fun c_542 => ?_)
  · skip
    refine lv_iconst (v := 1) hx hb dX14_isWrong_556 (by decide) ?_
    refine lv_goto (tgt := 561) hx hb dX14_isWrong_557 (by decide) ?_
    have hxa : x1 = F 27 (128 * bo + (8 * s9 + i9)) := by rw [ex1, show (128 : Int32) * nI bo + nI (8 * s9 + i9) = nI (128 * bo + (8 * s9 + i9)) from nI_ma 128 bo (8 * s9 + i9), nI_clamp (by omega)]
    have hfo : r2 = opI (paN v9 s9 (v9.P s9 i9).2.2.2.2.2.1) := by rw [er2, hxa]; exact hbS.atP hn30 hna hs9
    rw [hfo] at c_542
    have hres : eB v9 s9 i9 = false := by
      unfold eB
      cases hq : paN v9 s9 (v9.P s9 i9).2.2.2.2.2.1 with
      | none => rfl
      | some k => rw [hq] at c_542; exact absurd c_542 (nI_pos (by have := paN_lt hq; omega))
    exact W.zret (v := 1) hx hb hr rfl (fun t ht hW => ⟨⟨_, _, rfl, ⟨(by rw [hres]; rfl), rfl⟩, mk_end hG ht⟩, hS.F ht⟩) hS.2.2 dX14_isWrong_561
  · skip
    refine lv_bipush (v := 8) hx hb dX14_isWrong_545 (by decide) ?_
    refine lv_iload_n hx hb dX14_isWrong_547 rfl (lv_at hl 4 rfl) ?_
    refine lv_imul hx hb dX14_isWrong_548 ?_
    refine lv_iload hx hb dX14_isWrong_549 (lv_at hl 0 rfl) ?_
    refine lv_iadd hx hb dX14_isWrong_551 ?_
    refine lv_iload_n hx hb dX14_isWrong_552 rfl (lv_at hl 5 rfl) ?_
    refine lv_icmp_lt (tgt := 560) hx hb dX14_isWrong_553 (by decide) (fun c_553 => ?_) (fun c_553 => ?_)
    · skip
      refine lv_iconst (v := 0) hx hb dX14_isWrong_560 (by decide) ?_
      have hxa : x1 = F 27 (128 * bo + (8 * s9 + i9)) := by rw [ex1, show (128 : Int32) * nI bo + nI (8 * s9 + i9) = nI (128 * bo + (8 * s9 + i9)) from nI_ma 128 bo (8 * s9 + i9), nI_clamp (by omega)]
      have hfo : r2 = opI (paN v9 s9 (v9.P s9 i9).2.2.2.2.2.1) := by rw [er2, hxa]; exact hbS.atP hn30 hna hs9
      rw [hfo] at c_542
      rw [hfo] at c_553
      have hres : eB v9 s9 i9 = true := by
        unfold eB
        cases hq : paN v9 s9 (v9.P s9 i9).2.2.2.2.2.1 with
        | none => exact absurd (by rw [hq]; decide) c_542
        | some k =>
          rw [hq] at c_553
          have hkk := paN_lt hq
          rw [show (8 : Int32) * nI s9 + opI (some k) = nI (8 * s9 + k) from nI_ma 8 s9 k] at c_553
          exact decide_eq_true (by have z := nI_lt_of (a := 8 * s9 + k) (b := 8 * s9 + i9) (by omega) (by omega) (Int32.not_le.mpr c_553); omega)
      exact W.zret (v := 0) hx hb hr rfl (fun t ht hW => ⟨⟨_, _, rfl, ⟨(by rw [hres]; rfl), rfl⟩, mk_end hG ht⟩, hS.F ht⟩) hS.2.2 dX14_isWrong_561
    · skip
      refine lv_iconst (v := 1) hx hb dX14_isWrong_556 (by decide) ?_
      refine lv_goto (tgt := 561) hx hb dX14_isWrong_557 (by decide) ?_
      have hxa : x1 = F 27 (128 * bo + (8 * s9 + i9)) := by rw [ex1, show (128 : Int32) * nI bo + nI (8 * s9 + i9) = nI (128 * bo + (8 * s9 + i9)) from nI_ma 128 bo (8 * s9 + i9), nI_clamp (by omega)]
      have hfo : r2 = opI (paN v9 s9 (v9.P s9 i9).2.2.2.2.2.1) := by rw [er2, hxa]; exact hbS.atP hn30 hna hs9
      rw [hfo] at c_542
      rw [hfo] at c_553
      have hres : eB v9 s9 i9 = false := by
        unfold eB
        cases hq : paN v9 s9 (v9.P s9 i9).2.2.2.2.2.1 with
        | none => exact absurd (by rw [hq]; decide) c_542
        | some k =>
          rw [hq] at c_553
          have hkk := paN_lt hq
          rw [show (8 : Int32) * nI s9 + opI (some k) = nI (8 * s9 + k) from nI_ma 8 s9 k] at c_553
          exact decide_eq_false (fun z => c_553 (nI_lt (by omega) (by omega)))
      exact W.zret (v := 1) hx hb hr rfl (fun t ht hW => ⟨⟨_, _, rfl, ⟨(by rw [hres]; rfl), rfl⟩, mk_end hG ht⟩, hS.F ht⟩) hS.2.2 dX14_isWrong_561
