set_option maxHeartbeats 4000000 in
set_option maxRecDepth 100000 in
theorem c_M_isW9 (l : Launch) (D : va_G) (cy : Nat → ClassId) (A : Nat → Prop) (X : State → Prop) (hst : mk_St A X) (hXT : ∀ U : State, X U → TB U) (G : Nat → Option va_E) (o : Nat) (Ar : Nat → Nat) (Iv : Nat → Int32) (F : Nat → Nat → Int32) (L : Nat → Nat → Int64) (ft : Nat → Int32) (en bo n9 a9 : Nat) (xc : Int32) (v9 : EdV) (hM : MD cy G o Ar Iv F L) (hb1 : bkL (tkK ft en) (tkV ft en) n9 F bo v9) (hn30 : n9 < 2 ^ 30) (hbl : bo < 2) (h41 : Iv 41 = nI bo) (ha9 : a9 < v9.nL) (hof : (v9.L a9).2.2.1 ≠ 0) : Met l yX14_isWrong [.code yX14_isWrong cX14_isWrong 11 (some .boolean)] ({ frames := 2, cells := 0, slots := 0, locals := 60 }) (mk_Pre D vwCl (tyL cy) A X G [.ref o, .int 9, .int (nI a9), .int xc]) (va_Qi (fun (r : Int32) (G2 : Nat → Option va_E) => r = b2i ((lyN v9 (v9.L a9).2.2.1).isNone || inR v9 a9 6 (nx v9 a9)) ∧ ∃ (I2 : Nat → Int32) (F2 : Nat → Nat → Int32), MD cy G2 o Ar I2 F2 L ∧ MF G G2 o Ar ∧ (∀ j, ¬ j = 63 → I2 j = Iv j) ∧ (∀ j, ¬ j = 64 → F2 j = F j) ∧ (inR v9 a9 6 (nx v9 a9) = false → Iv 63 = 0 → I2 63 = 0) ∧ (inR v9 a9 6 (nx v9 a9) = true → ∃ m, 1 ≤ m ∧ m ≤ 6 ∧ I2 63 = nI m ∧ RGp v9 F2 a9 m ∧ RGe v9 a9 m)) (mk_B D vwCl A) A) 0 0 A := by
  refine Met.ofW (cc := cX14_isWrong) (maxL := 11) (ret := (some .boolean)) (by decide) rfl ?_
  intro p e s m args below meth c s₁ B hml hv
  obtain ⟨rfl, hG, hK, hA, hX⟩ := hv
  have hx := B.exec
  have hb := B.bytes
  have hr := B.returns
  have hlocks := B.notSynchronized
  have hT := hXT s hX
  have hown : s.vm.findClass RX14 = some m.cls := findClass_of_methodNamed B.named
  have hf_X14 : ∀ w ∈ u_ws RX14 TX14 76, w.before ([.ref o, .int 9, .int (nI a9), .int xc] : List Value).toArray s = true := tb_list hT fX14
  have hS : va_S A s.heap s.heap [] := va_S.rf
  have hl := lv_entry ([.ref o, .int 9, .int (nI a9), .int xc]) (n := 11) (Nat.le_of_ble_eq_true rfl)
  rw [lg_entry_eq]
  generalize (lg_sl ([.ref o, .int 9, .int (nI a9), .int xc]) ++ List.replicate (11 - (lg_sl ([.ref o, .int 9, .int (nI a9), .int xc])).length) Slot.unset).toArray = ls at hl ⊢
  have hl : lv_has ls 11 [(0, .ref o), (1, .int 9), (2, .int (nI a9)), (3, .int xc)] := hl
  have hF : MF G G o Ar := MF.rf
  have hbn := hb1.2.1
  have hna := (hb1.2.2 a9 ha9).2
  refine lv_aload_n hx hb dX14_isWrong_0 rfl (lv_at hl 0 rfl) ?_
  refine mm_get (v := .int (Iv 41)) hx hb hf_X14 (fun _ h9 => h9) hown hK hG hM.1 rfl 41 (by decide) (tb_use hT tw_1432) (fun _ h9 => h9) (mfs_g41 _ _) dX14_isWrong_1 ?_
  rw [h41]
  refine lv_istore (lv' := [(4, .int (nI bo)), (0, .ref o), (1, .int 9), (2, .int (nI a9)), (3, .int xc)]) hx hb dX14_isWrong_4 hl (by decide) rfl (fun ls hl => ?_)
  refine lv_iload_n hx hb dX14_isWrong_6 rfl (lv_at hl 2 rfl) ?_
  refine lv_tableIn (tgt := 455) hx hb dX14_isWrong_7 (by decide) (by decide) (off := 448) rfl (by decide) ?_
  refine lv_aload_n hx hb dX14_isWrong_455 rfl (lv_at hl 1 rfl) ?_
  refine lv_iload hx hb dX14_isWrong_456 (lv_at hl 0 rfl) ?_
  refine lv_aload_n hx hb dX14_isWrong_458 rfl (lv_at hl 1 rfl) ?_
  refine mm_get (v := .ref (Ar 19)) hx hb hf_X14 (fun _ h9 => h9) hown hK hG hM.1 rfl 19 (by decide) (tb_use hT tw_1410) (fun _ h9 => h9) (mfs_g19 _ _) dX14_isWrong_459 ?_
  refine lv_bipush (v := 6) hx hb dX14_isWrong_462 (by decide) ?_
  refine lv_iload hx hb dX14_isWrong_464 (lv_at hl 0 rfl) ?_
  refine lv_imul hx hb dX14_isWrong_466 ?_
  refine lv_iload_n hx hb dX14_isWrong_467 rfl (lv_at hl 3 rfl) ?_
  refine lv_iadd hx hb dX14_isWrong_468 ?_
  refine mm_iald (n := 12) (f := F 19) hx hb hK hG 1 (hM.2.1 19 rfl) rfl (by rw [show (6 : Int32) * nI bo + nI a9 = nI (6 * bo + a9) from nI_ma 6 bo a9]; exact nI_in (N := 12) (by omega) (by decide)) dX14_isWrong_469 ?_
  refine lv_topi (fun x1 ex1 => ?_)
  refine va_calli (va_runV (As := [.int (nI bo), .int x1]) (rest := []) ⟨hx, hb, hml, hown, (fun _ h9 => absurd h9 List.not_mem_nil : ∀ w ∈ ([] : List Cond), w.before _ s = true)⟩ (c_M_layerAt l D cy A X hst hXT G o Ar Iv F L bo v9.nL x1 hM hbl hb1.1 hb1.2.1) (tb_cw (C := RX14) 2 hT tw_1786 tw_109 tw_1783 tw_1785 tw_90 rfl rfl hq_X14_layerAt ⟨Nat.le_of_ble_eq_true rfl, Nat.le_of_ble_eq_true rfl⟩) (mk_preC hst hG hK hA hX hS vc_15 hM.1) rfl rfl hl.1 rfl (lv_room (Nat.le_of_ble_eq_true rfl)) dX14_isWrong_470 ⟨Nat.le_of_ble_eq_true rfl, Nat.le_of_ble_eq_true rfl⟩) hS (fun q _ h => h) (fun q h => h) (fun r2 G3 t H locs ht hvm hw hB hz1 hk1 hS => ?_)
  have hG : mm D vwCl A G3 H := by rw [← ht]; exact hB
  clear hB hz1 hk1 hvm ht
  obtain ⟨er2, hw⟩ := hw
  rw [hw] at hG
  refine lv_if_lt (tgt := 484) hx hb dX14_isWrong_473 (by decide) (fun c_473 => ?_) (fun c_473 => ?_)
  · skip
    refine lv_iconst (v := 1) hx hb dX14_isWrong_484 (by decide) ?_
    refine lv_goto (tgt := 489) hx hb dX14_isWrong_485 (by decide) ?_
    have hxa : x1 = F 19 (6 * bo + a9) := by rw [ex1, show (6 : Int32) * nI bo + nI a9 = nI (6 * bo + a9) from nI_ma 6 bo a9, nI_clamp (by omega)]
    have hfo : r2 = opI (lyN v9 (v9.L a9).2.2.1) := by rw [er2, hxa]; exact hb1.at hn30 hna
    rw [hfo] at c_473
    have hlt9 : ∀ k, lyN v9 (v9.L a9).2.2.1 = some k → k < 2 ^ 31 := fun k hk => by have := lyN_lt hk; omega
    have hno : lyN v9 (v9.L a9).2.2.1 = none := by cases hq : lyN v9 (v9.L a9).2.2.1 with | none => rfl | some k => exact absurd ((opI_ge hlt9).mpr ⟨k, hq⟩) (Int32.not_le.mpr c_473)
    have hnr : inR v9 a9 6 (nx v9 a9) = false := by rw [show nx v9 a9 = none by unfold nx; rw [if_neg hof, hno]]; rfl
    exact W.zret (v := 1) hx hb hr rfl (fun t ht hW => ⟨⟨_, _, rfl, ⟨(by rw [hno]; rfl), Iv, F, hM, hF, (fun _ _ => rfl), (fun _ _ => rfl), (fun _ z => z), (fun z => by rw [hnr] at z; cases z)⟩, mk_end hG ht⟩, hS.F ht⟩) hS.2.2 dX14_isWrong_489
  · skip
    refine lv_aload_n hx hb dX14_isWrong_476 rfl (lv_at hl 1 rfl) ?_
    refine lv_iload_n hx hb dX14_isWrong_477 rfl (lv_at hl 3 rfl) ?_
    refine va_calli (va_runV (As := [.int (nI a9)]) (rest := []) ⟨hx, hb, hml, hown, (fun _ h9 => absurd h9 List.not_mem_nil : ∀ w ∈ ([] : List Cond), w.before _ s = true)⟩ (c_M_isRing l D cy A X hst hXT G o Ar Iv F L ft en bo n9 a9 v9 hM hb1 hn30 hbl h41 ha9) (tb_cw (C := RX14) 1 hT tw_1798 tw_109 tw_1795 tw_1797 tw_93 rfl rfl hq_X14_isRing ⟨Nat.le_of_ble_eq_true rfl, Nat.le_of_ble_eq_true rfl⟩) (mk_preC hst hG hK hA hX hS vc_15 hM.1) rfl rfl hl.1 rfl (lv_room (Nat.le_of_ble_eq_true rfl)) dX14_isWrong_478 ⟨Nat.le_of_ble_eq_true rfl, Nat.le_of_ble_eq_true rfl⟩) hS (fun q _ h => h) (fun q h => h) (fun r4 G5 t H locs ht hvm hw hB hz1 hk1 hS => ?_)
    have hG : mm D vwCl A G5 H := by rw [← ht]; exact hB
    clear hB hz1 hk1 hvm ht
    obtain ⟨er4, I9, F9, hM2, hF2, hi9, hf9, hr1, hr0⟩ := hw
    replace hF := hF.tr hF2; replace hM := hM2; clear hM2 hF2
    refine lv_if_eq (tgt := 488) hx hb dX14_isWrong_481 (by decide) (fun c_481 => ?_) (fun c_481 => ?_)
    · skip
      refine lv_iconst (v := 0) hx hb dX14_isWrong_488 (by decide) ?_
      have hxa : x1 = F 19 (6 * bo + a9) := by rw [ex1, show (6 : Int32) * nI bo + nI a9 = nI (6 * bo + a9) from nI_ma 6 bo a9, nI_clamp (by omega)]
      have hfo : r2 = opI (lyN v9 (v9.L a9).2.2.1) := by rw [er2, hxa]; exact hb1.at hn30 hna
      rw [hfo] at c_473
      have hlt9 : ∀ k, lyN v9 (v9.L a9).2.2.1 = some k → k < 2 ^ 31 := fun k hk => by have := lyN_lt hk; omega
      obtain ⟨k7, hk7⟩ := (opI_ge hlt9).mp (Int32.not_lt.mp c_473)
      have hnr : inR v9 a9 6 (nx v9 a9) = false := b2i_f (by rw [← er4]; exact c_481)
      exact W.zret (v := 0) hx hb hr rfl (fun t ht hW => ⟨⟨_, _, rfl, ⟨(by rw [hk7, hnr]; rfl), I9, F9, hM, hF, hi9, hf9, (fun _ _ => hr0 c_481), (fun z => by rw [hnr] at z; cases z)⟩, mk_end hG ht⟩, hS.F ht⟩) hS.2.2 dX14_isWrong_489
    · skip
      refine lv_iconst (v := 1) hx hb dX14_isWrong_484 (by decide) ?_
      refine lv_goto (tgt := 489) hx hb dX14_isWrong_485 (by decide) ?_
      have hxa : x1 = F 19 (6 * bo + a9) := by rw [ex1, show (6 : Int32) * nI bo + nI a9 = nI (6 * bo + a9) from nI_ma 6 bo a9, nI_clamp (by omega)]
      have hfo : r2 = opI (lyN v9 (v9.L a9).2.2.1) := by rw [er2, hxa]; exact hb1.at hn30 hna
      rw [hfo] at c_473
      have hlt9 : ∀ k, lyN v9 (v9.L a9).2.2.1 = some k → k < 2 ^ 31 := fun k hk => by have := lyN_lt hk; omega
      obtain ⟨k7, hk7⟩ := (opI_ge hlt9).mp (Int32.not_lt.mp c_473)
      have hnr : inR v9 a9 6 (nx v9 a9) = true := b2i_t (by rw [← er4]; exact c_481)
      exact W.zret (v := 1) hx hb hr rfl (fun t ht hW => ⟨⟨_, _, rfl, ⟨(by rw [hnr, Bool.or_true]; rfl), I9, F9, hM, hF, hi9, hf9, (fun z => by rw [hnr] at z; cases z), (fun _ => hr1 c_481)⟩, mk_end hG ht⟩, hS.F ht⟩) hS.2.2 dX14_isWrong_489

set_option maxHeartbeats 4000000 in
set_option maxRecDepth 100000 in
theorem c_M_isW14 (l : Launch) (D : va_G) (cy : Nat → ClassId) (A : Nat → Prop) (X : State → Prop) (hst : mk_St A X) (hXT : ∀ U : State, X U → TB U) (G : Nat → Option va_E) (o : Nat) (Ar : Nat → Nat) (Iv : Nat → Int32) (F : Nat → Nat → Int32) (L : Nat → Nat → Int64) (ft : Nat → Int32) (en bo n9 j9 i9 : Nat) (xc : Int32) (v9 : EdV) (hM : MD cy G o Ar Iv F L) (hbS : bkS (tkK ft en) (tkV ft en) n9 F bo v9) (hbJ : bkJ (tkK ft en) (tkV ft en) n9 F bo v9) (hn30 : n9 < 2 ^ 30) (hbl : bo < 2) (h41 : Iv 41 = nI bo) (hj9 : j9 < v9.nJ) (hi9 : i9 < v9.nO j9) (hk9 : (v9.O j9 i9).1 = 26) : Met l yX14_isWrong [.code yX14_isWrong cX14_isWrong 11 (some .boolean)] ({ frames := 1, cells := 0, slots := 0, locals := 30 }) (mk_Pre D vwCl (tyL cy) A X G [.ref o, .int 14, .int (nI (100 * j9 + i9)), .int xc]) (va_Qi (fun (r : Int32) (G2 : Nat → Option va_E) => r = b2i (opP v9 (v9.O j9 i9)).isNone ∧ G2 = G) (mk_B D vwCl A) A) 0 0 A := by
  refine Met.ofW (cc := cX14_isWrong) (maxL := 11) (ret := (some .boolean)) (by decide) rfl ?_
  intro p e s m args below meth c s₁ B hml hv
  obtain ⟨rfl, hG, hK, hA, hX⟩ := hv
  have hx := B.exec
  have hb := B.bytes
  have hr := B.returns
  have hlocks := B.notSynchronized
  have hT := hXT s hX
  have hown : s.vm.findClass RX14 = some m.cls := findClass_of_methodNamed B.named
  have hf_X14 : ∀ w ∈ u_ws RX14 TX14 76, w.before ([.ref o, .int 14, .int (nI (100 * j9 + i9)), .int xc] : List Value).toArray s = true := tb_list hT fX14
  have hS : va_S A s.heap s.heap [] := va_S.rf
  have hl := lv_entry ([.ref o, .int 14, .int (nI (100 * j9 + i9)), .int xc]) (n := 11) (Nat.le_of_ble_eq_true rfl)
  rw [lg_entry_eq]
  generalize (lg_sl ([.ref o, .int 14, .int (nI (100 * j9 + i9)), .int xc]) ++ List.replicate (11 - (lg_sl ([.ref o, .int 14, .int (nI (100 * j9 + i9)), .int xc])).length) Slot.unset).toArray = ls at hl ⊢
  have hl : lv_has ls 11 [(0, .ref o), (1, .int 14), (2, .int (nI (100 * j9 + i9))), (3, .int xc)] := hl
  have hs16 := hbS.2.1
  have hj4 := hbJ.2.1
  have ho80 := (hbJ.2.2 j9 hj9).2.2.1
  have hna := (((hbJ.2.2 j9 hj9).2.2.2 i9 hi9).2.2.1 hk9).1
  have hnb := (((hbJ.2.2 j9 hj9).2.2.2 i9 hi9).2.2.1 hk9).2
  refine lv_aload_n hx hb dX14_isWrong_0 rfl (lv_at hl 0 rfl) ?_
  refine mm_get (v := .int (Iv 41)) hx hb hf_X14 (fun _ h9 => h9) hown hK hG hM.1 rfl 41 (by decide) (tb_use hT tw_1432) (fun _ h9 => h9) (mfs_g41 _ _) dX14_isWrong_1 ?_
  rw [h41]
  refine lv_istore (lv' := [(4, .int (nI bo)), (0, .ref o), (1, .int 14), (2, .int (nI (100 * j9 + i9))), (3, .int xc)]) hx hb dX14_isWrong_4 hl (by decide) rfl (fun ls hl => ?_)
  refine lv_iload_n hx hb dX14_isWrong_6 rfl (lv_at hl 2 rfl) ?_
  refine lv_tableOut (tgt := 618) hx hb dX14_isWrong_7 (by decide) (by decide) ?_
  refine lv_aload_n hx hb dX14_isWrong_618 rfl (lv_at hl 1 rfl) ?_
  refine lv_iload hx hb dX14_isWrong_619 (lv_at hl 0 rfl) ?_
  refine lv_aload_n hx hb dX14_isWrong_621 rfl (lv_at hl 1 rfl) ?_
  refine mm_get (v := .ref (Ar 36)) hx hb hf_X14 (fun _ h9 => h9) hown hK hG hM.1 rfl 36 (by decide) (tb_use hT tw_1427) (fun _ h9 => h9) (mfs_g36 _ _) dX14_isWrong_622 ?_
  refine lv_sipush (v := 400) hx hb dX14_isWrong_625 (by decide) ?_
  refine lv_iload hx hb dX14_isWrong_628 (lv_at hl 0 rfl) ?_
  refine lv_imul hx hb dX14_isWrong_630 ?_
  refine lv_iload_n hx hb dX14_isWrong_631 rfl (lv_at hl 3 rfl) ?_
  refine lv_iadd hx hb dX14_isWrong_632 ?_
  refine mm_iald (n := 800) (f := F 36) hx hb hK hG 1 (hM.2.1 36 rfl) rfl (by rw [show (400 : Int32) * nI bo + nI (100 * j9 + i9) = nI (400 * bo + (100 * j9 + i9)) from nI_ma 400 bo (100 * j9 + i9)]; exact nI_in (N := 800) (by omega) (by decide)) dX14_isWrong_633 ?_
  refine lv_topi (fun x1 ex1 => ?_)
  refine lv_iconst (v := (-1)) hx hb dX14_isWrong_634 (by decide) ?_
  refine va_calli (va_runV (As := [.int (nI bo), .int x1, .int (-1)]) (rest := []) ⟨hx, hb, hml, hown, (fun _ h9 => absurd h9 List.not_mem_nil : ∀ w ∈ ([] : List Cond), w.before _ s = true)⟩ (c_M_serviceAt l D cy A X hst hXT G o Ar Iv F L bo v9.nS x1 (-1) hM hbl hbS.1 hbS.2.1) (tb_cw (C := RX14) 3 hT tw_1790 tw_109 tw_1787 tw_1789 tw_91 rfl rfl hq_X14_serviceAt ⟨Nat.le_of_ble_eq_true rfl, Nat.le_of_ble_eq_true rfl⟩) (mk_preC hst hG hK hA hX hS vc_15 hM.1) rfl rfl hl.1 rfl (lv_room (Nat.le_of_ble_eq_true rfl)) dX14_isWrong_635 ⟨Nat.le_of_ble_eq_true rfl, Nat.le_of_ble_eq_true rfl⟩) hS (fun q _ h => h) (fun q h => h) (fun r2 G3 t H locs ht hvm hw hB hz1 hk1 hS => ?_)
  have hG : mm D vwCl A G3 H := by rw [← ht]; exact hB
  clear hB hz1 hk1 hvm ht
  obtain ⟨er2, hw⟩ := hw
  rw [hw] at hG
  refine lv_istore (lv' := [(10, .int r2), (4, .int (nI bo)), (0, .ref o), (1, .int 14), (2, .int (nI (100 * j9 + i9))), (3, .int xc)]) hx hb dX14_isWrong_638 hl (by decide) rfl (fun ls hl => ?_)
  refine lv_iload hx hb dX14_isWrong_640 (lv_at hl 0 rfl) ?_
  refine lv_if_lt (tgt := 669) hx hb dX14_isWrong_642 (by decide) (fun c_642 => ?_) (fun c_642 => ?_)
  · skip
    refine lv_iconst (v := 1) hx hb dX14_isWrong_669 (by decide) ?_
    refine lv_goto (tgt := 674) hx hb dX14_isWrong_670 (by decide) ?_
    have hxa : x1 = F 36 (400 * bo + (100 * j9 + i9)) := by rw [ex1, show (400 : Int32) * nI bo + nI (100 * j9 + i9) = nI (400 * bo + (100 * j9 + i9)) from nI_ma 400 bo (100 * j9 + i9), nI_clamp (by omega)]
    have hfo : r2 = opI (svN v9 (v9.O j9 i9).2.2.1) := by rw [er2, hxa]; exact hbS.atN hn30 hna
    have hlt9 : ∀ k, svN v9 (v9.O j9 i9).2.2.1 = some k → k < 2 ^ 31 := fun k hk => by have := svN_lt hk; omega
    have hno : svN v9 (v9.O j9 i9).2.2.1 = none := by cases hq : svN v9 (v9.O j9 i9).2.2.1 with | none => rfl | some k => exact absurd ((opI_ge hlt9).mpr ⟨k, hq⟩) (Int32.not_le.mpr (by rw [← hfo]; exact c_642))
    exact W.zret (v := 1) hx hb hr rfl (fun t ht hW => ⟨⟨_, _, rfl, ⟨(by unfold opP opS; rw [if_pos hk9, hno]; rfl), rfl⟩, mk_end hG ht⟩, hS.F ht⟩) hS.2.2 dX14_isWrong_674
  · skip
    have hxa : x1 = F 36 (400 * bo + (100 * j9 + i9)) := by rw [ex1, show (400 : Int32) * nI bo + nI (100 * j9 + i9) = nI (400 * bo + (100 * j9 + i9)) from nI_ma 400 bo (100 * j9 + i9), nI_clamp (by omega)]
    have hfo : r2 = opI (svN v9 (v9.O j9 i9).2.2.1) := by rw [er2, hxa]; exact hbS.atN hn30 hna
    have hlt9 : ∀ k, svN v9 (v9.O j9 i9).2.2.1 = some k → k < 2 ^ 31 := fun k hk => by have := svN_lt hk; omega
    obtain ⟨k7, hk7⟩ := (opI_ge hlt9).mp (by rw [← hfo]; exact Int32.not_lt.mp c_642)
    have hk7l := svN_lt hk7
    rw [show r2 = nI k7 by rw [hfo, hk7]; rfl] at hl
    refine lv_aload_n hx hb dX14_isWrong_645 rfl (lv_at hl 2 rfl) ?_
    refine lv_iload hx hb dX14_isWrong_646 (lv_at hl 1 rfl) ?_
    refine lv_iload hx hb dX14_isWrong_648 (lv_at hl 0 rfl) ?_
    refine lv_aload_n hx hb dX14_isWrong_650 rfl (lv_at hl 2 rfl) ?_
    refine mm_get (v := .ref (Ar 37)) hx hb hf_X14 (fun _ h9 => h9) hown hK hG hM.1 rfl 37 (by decide) (tb_use hT tw_1428) (fun _ h9 => h9) (mfs_g37 _ _) dX14_isWrong_651 ?_
    refine lv_sipush (v := 400) hx hb dX14_isWrong_654 (by decide) ?_
    refine lv_iload hx hb dX14_isWrong_657 (lv_at hl 1 rfl) ?_
    refine lv_imul hx hb dX14_isWrong_659 ?_
    refine lv_iload_n hx hb dX14_isWrong_660 rfl (lv_at hl 4 rfl) ?_
    refine lv_iadd hx hb dX14_isWrong_661 ?_
    refine mm_iald (n := 800) (f := F 37) hx hb hK hG 1 (hM.2.1 37 rfl) rfl (by rw [show (400 : Int32) * nI bo + nI (100 * j9 + i9) = nI (400 * bo + (100 * j9 + i9)) from nI_ma 400 bo (100 * j9 + i9)]; exact nI_in (N := 800) (by omega) (by decide)) dX14_isWrong_662 ?_
    refine lv_topi (fun x4 ex4 => ?_)
    refine va_calli (va_runV (As := [.int (nI bo), .int (nI k7), .int x4]) (rest := []) ⟨hx, hb, hml, hown, (fun _ h9 => absurd h9 List.not_mem_nil : ∀ w ∈ ([] : List Cond), w.before _ s = true)⟩ (c_M_paramAt l D cy A X hst hXT G o Ar Iv F L bo k7 (v9.nP k7) x4 hM hbl (by omega) (hbS.2.2 k7 hk7l).2.2.2.1 (hbS.2.2 k7 hk7l).2.2.2.2.1) (tb_cw (C := RX14) 3 hT tw_1794 tw_109 tw_1791 tw_1793 tw_92 rfl rfl hq_X14_paramAt ⟨Nat.le_of_ble_eq_true rfl, Nat.le_of_ble_eq_true rfl⟩) (mk_preC hst hG hK hA hX hS vc_15 hM.1) rfl rfl hl.1 rfl (lv_room (Nat.le_of_ble_eq_true rfl)) dX14_isWrong_663 ⟨Nat.le_of_ble_eq_true rfl, Nat.le_of_ble_eq_true rfl⟩) hS (fun q _ h => h) (fun q h => h) (fun r5 G6 t H locs ht hvm hw hB hz1 hk1 hS => ?_)
    have hG : mm D vwCl A G6 H := by rw [← ht]; exact hB
    clear hB hz1 hk1 hvm ht
    obtain ⟨er5, hw⟩ := hw
    rw [hw] at hG
    refine lv_if_ge (tgt := 673) hx hb dX14_isWrong_666 (by decide) (fun c_666 => ?_) (fun c_666 => ?_)
    · skip
      refine lv_iconst (v := 0) hx hb dX14_isWrong_673 (by decide) ?_
      have hyb : x4 = F 37 (400 * bo + (100 * j9 + i9)) := by rw [ex4, show (400 : Int32) * nI bo + nI (100 * j9 + i9) = nI (400 * bo + (100 * j9 + i9)) from nI_ma 400 bo (100 * j9 + i9), nI_clamp (by omega)]
      have hfp : r5 = opI (paN v9 k7 (v9.O j9 i9).2.2.2.2.1) := by rw [er5, hyb]; exact hbS.atP hn30 hnb hk7l
      rw [hfp] at c_666
      have hlp9 : ∀ k, paN v9 k7 (v9.O j9 i9).2.2.2.2.1 = some k → k < 2 ^ 31 := fun k hk => by have := paN_lt hk; have := (hbS.2.2 k7 hk7l).2.2.2.2.1; omega
      exact W.zret (v := 0) hx hb hr rfl (fun t ht hW => ⟨⟨_, _, rfl, ⟨(by obtain ⟨k, hk⟩ := (opI_ge hlp9).mp c_666; unfold opP opS; rw [if_pos hk9, hk7]; dsimp only; rw [hk]; rfl), rfl⟩, mk_end hG ht⟩, hS.F ht⟩) hS.2.2 dX14_isWrong_674
    · skip
      refine lv_iconst (v := 1) hx hb dX14_isWrong_669 (by decide) ?_
      refine lv_goto (tgt := 674) hx hb dX14_isWrong_670 (by decide) ?_
      have hyb : x4 = F 37 (400 * bo + (100 * j9 + i9)) := by rw [ex4, show (400 : Int32) * nI bo + nI (100 * j9 + i9) = nI (400 * bo + (100 * j9 + i9)) from nI_ma 400 bo (100 * j9 + i9), nI_clamp (by omega)]
      have hfp : r5 = opI (paN v9 k7 (v9.O j9 i9).2.2.2.2.1) := by rw [er5, hyb]; exact hbS.atP hn30 hnb hk7l
      rw [hfp] at c_666
      have hlp9 : ∀ k, paN v9 k7 (v9.O j9 i9).2.2.2.2.1 = some k → k < 2 ^ 31 := fun k hk => by have := paN_lt hk; have := (hbS.2.2 k7 hk7l).2.2.2.2.1; omega
      have hno : paN v9 k7 (v9.O j9 i9).2.2.2.2.1 = none := by cases hq : paN v9 k7 (v9.O j9 i9).2.2.2.2.1 with | none => rfl | some k => exact absurd ((opI_ge hlp9).mpr ⟨k, hq⟩) c_666
      exact W.zret (v := 1) hx hb hr rfl (fun t ht hW => ⟨⟨_, _, rfl, ⟨(by unfold opP opS; rw [if_pos hk9, hk7]; dsimp only; rw [hno]; rfl), rfl⟩, mk_end hG ht⟩, hS.F ht⟩) hS.2.2 dX14_isWrong_674
