set_option maxHeartbeats 4000000 in
set_option maxRecDepth 100000 in
theorem c_M_isW13 (l : Launch) (D : va_G) (cy : Nat → ClassId) (A : Nat → Prop) (X : State → Prop) (hst : mk_St A X) (hXT : ∀ U : State, X U → TB U) (G : Nat → Option va_E) (o : Nat) (Ar : Nat → Nat) (Iv : Nat → Int32) (F : Nat → Nat → Int32) (L : Nat → Nat → Int64) (ft : Nat → Int32) (en bo n9 j9 i9 : Nat) (xc : Int32) (v9 : EdV) (hM : MD cy G o Ar Iv F L) (hbS : bkS (tkK ft en) (tkV ft en) n9 F bo v9) (hbJ : bkJ (tkK ft en) (tkV ft en) n9 F bo v9) (hn30 : n9 < 2 ^ 30) (hbl : bo < 2) (h41 : Iv 41 = nI bo) (hj9 : j9 < v9.nJ) (hi9 : i9 < v9.nO j9) (hk9 : (v9.O j9 i9).1 = 26) : Met l yX14_isWrong [.code yX14_isWrong cX14_isWrong 11 (some .boolean)] ({ frames := 1, cells := 0, slots := 0, locals := 30 }) (mk_Pre D vwCl (tyL cy) A X G [.ref o, .int 13, .int (nI (100 * j9 + i9)), .int xc]) (va_Qi (fun (r : Int32) (G2 : Nat → Option va_E) => r = b2i (svN v9 (v9.O j9 i9).2.2.1).isNone ∧ G2 = G) (mk_B D vwCl A) A) 0 0 A := by
  refine Met.ofW (cc := cX14_isWrong) (maxL := 11) (ret := (some .boolean)) (by decide) rfl ?_
  intro p e s m args below meth c s₁ B hml hv
  obtain ⟨rfl, hG, hK, hA, hX⟩ := hv
  have hx := B.exec
  have hb := B.bytes
  have hr := B.returns
  have hlocks := B.notSynchronized
  have hT := hXT s hX
  have hown : s.vm.findClass RX14 = some m.cls := findClass_of_methodNamed B.named
  have hf_X14 : ∀ w ∈ u_ws RX14 TX14 76, w.before ([.ref o, .int 13, .int (nI (100 * j9 + i9)), .int xc] : List Value).toArray s = true := tb_list hT fX14
  have hS : va_S A s.heap s.heap [] := va_S.rf
  have hl := lv_entry ([.ref o, .int 13, .int (nI (100 * j9 + i9)), .int xc]) (n := 11) (Nat.le_of_ble_eq_true rfl)
  rw [lg_entry_eq]
  generalize (lg_sl ([.ref o, .int 13, .int (nI (100 * j9 + i9)), .int xc]) ++ List.replicate (11 - (lg_sl ([.ref o, .int 13, .int (nI (100 * j9 + i9)), .int xc])).length) Slot.unset).toArray = ls at hl ⊢
  have hl : lv_has ls 11 [(0, .ref o), (1, .int 13), (2, .int (nI (100 * j9 + i9))), (3, .int xc)] := hl
  have hs16 := hbS.2.1
  have hj4 := hbJ.2.1
  have ho80 := (hbJ.2.2 j9 hj9).2.2.1
  have hna := (((hbJ.2.2 j9 hj9).2.2.2 i9 hi9).2.2.1 hk9).1
  refine lv_aload_n hx hb dX14_isWrong_0 rfl (lv_at hl 0 rfl) ?_
  refine mm_get (v := .int (Iv 41)) hx hb hf_X14 (fun _ h9 => h9) hown hK hG hM.1 rfl 41 (by decide) (tb_use hT tw_1432) (fun _ h9 => h9) (mfs_g41 _ _) dX14_isWrong_1 ?_
  rw [h41]
  refine lv_istore (lv' := [(4, .int (nI bo)), (0, .ref o), (1, .int 13), (2, .int (nI (100 * j9 + i9))), (3, .int xc)]) hx hb dX14_isWrong_4 hl (by decide) rfl (fun ls hl => ?_)
  refine lv_iload_n hx hb dX14_isWrong_6 rfl (lv_at hl 2 rfl) ?_
  refine lv_tableIn (tgt := 589) hx hb dX14_isWrong_7 (by decide) (by decide) (off := 582) rfl (by decide) ?_
  refine lv_aload_n hx hb dX14_isWrong_589 rfl (lv_at hl 1 rfl) ?_
  refine lv_iload hx hb dX14_isWrong_590 (lv_at hl 0 rfl) ?_
  refine lv_aload_n hx hb dX14_isWrong_592 rfl (lv_at hl 1 rfl) ?_
  refine mm_get (v := .ref (Ar 36)) hx hb hf_X14 (fun _ h9 => h9) hown hK hG hM.1 rfl 36 (by decide) (tb_use hT tw_1427) (fun _ h9 => h9) (mfs_g36 _ _) dX14_isWrong_593 ?_
  refine lv_sipush (v := 400) hx hb dX14_isWrong_596 (by decide) ?_
  refine lv_iload hx hb dX14_isWrong_599 (lv_at hl 0 rfl) ?_
  refine lv_imul hx hb dX14_isWrong_601 ?_
  refine lv_iload_n hx hb dX14_isWrong_602 rfl (lv_at hl 3 rfl) ?_
  refine lv_iadd hx hb dX14_isWrong_603 ?_
  refine mm_iald (n := 800) (f := F 36) hx hb hK hG 1 (hM.2.1 36 rfl) rfl (by rw [show (400 : Int32) * nI bo + nI (100 * j9 + i9) = nI (400 * bo + (100 * j9 + i9)) from nI_ma 400 bo (100 * j9 + i9)]; exact nI_in (N := 800) (by omega) (by decide)) dX14_isWrong_604 ?_
  refine lv_topi (fun x1 ex1 => ?_)
  refine lv_iconst (v := (-1)) hx hb dX14_isWrong_605 (by decide) ?_
  refine va_calli (va_runV (As := [.int (nI bo), .int x1, .int (-1)]) (rest := []) ⟨hx, hb, hml, hown, (fun _ h9 => absurd h9 List.not_mem_nil : ∀ w ∈ ([] : List Cond), w.before _ s = true)⟩ (c_M_serviceAt l D cy A X hst hXT G o Ar Iv F L bo v9.nS x1 (-1) hM hbl hbS.1 hbS.2.1) (tb_cw (C := RX14) 3 hT tw_1790 tw_109 tw_1787 tw_1789 tw_91 rfl rfl hq_X14_serviceAt ⟨Nat.le_of_ble_eq_true rfl, Nat.le_of_ble_eq_true rfl⟩) (mk_preC hst hG hK hA hX hS vc_15 hM.1) rfl rfl hl.1 rfl (lv_room (Nat.le_of_ble_eq_true rfl)) dX14_isWrong_606 ⟨Nat.le_of_ble_eq_true rfl, Nat.le_of_ble_eq_true rfl⟩) hS (fun q _ h => h) (fun q h => h) (fun r2 G3 t H locs ht hvm hw hB hz1 hk1 hS => ?_)
  have hG : mm D vwCl A G3 H := by rw [← ht]; exact hB
  clear hB hz1 hk1 hvm ht
  obtain ⟨er2, hw⟩ := hw
  rw [hw] at hG
  refine lv_if_ge (tgt := 616) hx hb dX14_isWrong_609 (by decide) (fun c_609 => ?_) (fun c_609 => ?_)
  · skip
    refine lv_iconst (v := 0) hx hb dX14_isWrong_616 (by decide) ?_
    have hxa : x1 = F 36 (400 * bo + (100 * j9 + i9)) := by rw [ex1, show (400 : Int32) * nI bo + nI (100 * j9 + i9) = nI (400 * bo + (100 * j9 + i9)) from nI_ma 400 bo (100 * j9 + i9), nI_clamp (by omega)]
    have hfo : r2 = opI (svN v9 (v9.O j9 i9).2.2.1) := by rw [er2, hxa]; exact hbS.atN hn30 hna
    rw [hfo] at c_609
    have hlt9 : ∀ k, svN v9 (v9.O j9 i9).2.2.1 = some k → k < 2 ^ 31 := fun k hk => by have := svN_lt hk; omega
    exact W.zret (v := 0) hx hb hr rfl (fun t ht hW => ⟨⟨_, _, rfl, ⟨(by obtain ⟨k, hk⟩ := (opI_ge hlt9).mp c_609; rw [hk]; rfl), rfl⟩, mk_end hG ht⟩, hS.F ht⟩) hS.2.2 dX14_isWrong_617
  · skip
    refine lv_iconst (v := 1) hx hb dX14_isWrong_612 (by decide) ?_
    refine lv_goto (tgt := 617) hx hb dX14_isWrong_613 (by decide) ?_
    have hxa : x1 = F 36 (400 * bo + (100 * j9 + i9)) := by rw [ex1, show (400 : Int32) * nI bo + nI (100 * j9 + i9) = nI (400 * bo + (100 * j9 + i9)) from nI_ma 400 bo (100 * j9 + i9), nI_clamp (by omega)]
    have hfo : r2 = opI (svN v9 (v9.O j9 i9).2.2.1) := by rw [er2, hxa]; exact hbS.atN hn30 hna
    rw [hfo] at c_609
    have hlt9 : ∀ k, svN v9 (v9.O j9 i9).2.2.1 = some k → k < 2 ^ 31 := fun k hk => by have := svN_lt hk; omega
    exact W.zret (v := 1) hx hb hr rfl (fun t ht hW => ⟨⟨_, _, rfl, ⟨(by cases hq : svN v9 (v9.O j9 i9).2.2.1 with | none => rfl | some k => exact absurd ((opI_ge hlt9).mpr ⟨k, hq⟩) c_609), rfl⟩, mk_end hG ht⟩, hS.F ht⟩) hS.2.2 dX14_isWrong_617

set_option maxHeartbeats 4000000 in
set_option maxRecDepth 100000 in
theorem c_M_isW4 (l : Launch) (D : va_G) (cy : Nat → ClassId) (A : Nat → Prop) (X : State → Prop) (hst : mk_St A X) (hXT : ∀ U : State, X U → TB U) (G : Nat → Option va_E) (o : Nat) (Ar : Nat → Nat) (Iv : Nat → Int32) (F : Nat → Nat → Int32) (L : Nat → Nat → Int64) (ft : Nat → Int32) (en bo n9 a9 : Nat) (xc : Int32) (v9 : EdV) (hM : MD cy G o Ar Iv F L) (hbS : bkS (tkK ft en) (tkV ft en) n9 F bo v9) (hLS : LSv v9) (hl6 : v9.nL ≤ 6) (hn30 : n9 < 2 ^ 30) (hbl : bo < 2) (h41 : Iv 41 = nI bo) (ha9 : a9 < v9.nS) : Met l yX14_isWrong [.code yX14_isWrong cX14_isWrong 11 (some .boolean)] ({ frames := 1, cells := 0, slots := 0, locals := 30 }) (mk_Pre D vwCl (tyL cy) A X G [.ref o, .int 4, .int (nI a9), .int xc]) (va_Qi (fun (r : Int32) (G2 : Nat → Option va_E) => r = b2i (decide (svI v9 (v9.S a9).1 (v9.S a9).2.2.1 ≠ some a9)) ∧ G2 = G) (mk_B D vwCl A) A) 0 0 A := by
  refine Met.ofW (cc := cX14_isWrong) (maxL := 11) (ret := (some .boolean)) (by decide) rfl ?_
  intro p e s m args below meth c s₁ B hml hv
  obtain ⟨rfl, hG, hK, hA, hX⟩ := hv
  have hx := B.exec
  have hb := B.bytes
  have hr := B.returns
  have hlocks := B.notSynchronized
  have hT := hXT s hX
  have hown : s.vm.findClass RX14 = some m.cls := findClass_of_methodNamed B.named
  have hf_X14 : ∀ w ∈ u_ws RX14 TX14 76, w.before ([.ref o, .int 4, .int (nI a9), .int xc] : List Value).toArray s = true := tb_list hT fX14
  have hS : va_S A s.heap s.heap [] := va_S.rf
  have hl := lv_entry ([.ref o, .int 4, .int (nI a9), .int xc]) (n := 11) (Nat.le_of_ble_eq_true rfl)
  rw [lg_entry_eq]
  generalize (lg_sl ([.ref o, .int 4, .int (nI a9), .int xc]) ++ List.replicate (11 - (lg_sl ([.ref o, .int 4, .int (nI a9), .int xc])).length) Slot.unset).toArray = ls at hl ⊢
  have hl : lv_has ls 11 [(0, .ref o), (1, .int 4), (2, .int (nI a9)), (3, .int xc)] := hl
  have hs16 := hbS.2.1
  have hna := (hbS.2.2 a9 ha9).1
  refine lv_aload_n hx hb dX14_isWrong_0 rfl (lv_at hl 0 rfl) ?_
  refine mm_get (v := .int (Iv 41)) hx hb hf_X14 (fun _ h9 => h9) hown hK hG hM.1 rfl 41 (by decide) (tb_use hT tw_1432) (fun _ h9 => h9) (mfs_g41 _ _) dX14_isWrong_1 ?_
  rw [h41]
  refine lv_istore (lv' := [(4, .int (nI bo)), (0, .ref o), (1, .int 4), (2, .int (nI a9)), (3, .int xc)]) hx hb dX14_isWrong_4 hl (by decide) rfl (fun ls hl => ?_)
  refine lv_iload_n hx hb dX14_isWrong_6 rfl (lv_at hl 2 rfl) ?_
  refine lv_tableIn (tgt := 187) hx hb dX14_isWrong_7 (by decide) (by decide) (off := 180) rfl (by decide) ?_
  refine lv_aload_n hx hb dX14_isWrong_187 rfl (lv_at hl 1 rfl) ?_
  refine lv_iload hx hb dX14_isWrong_188 (lv_at hl 0 rfl) ?_
  refine lv_aload_n hx hb dX14_isWrong_190 rfl (lv_at hl 1 rfl) ?_
  refine mm_get (v := .ref (Ar 20)) hx hb hf_X14 (fun _ h9 => h9) hown hK hG hM.1 rfl 20 (by decide) (tb_use hT tw_1411) (fun _ h9 => h9) (mfs_g20 _ _) dX14_isWrong_191 ?_
  refine lv_bipush (v := 16) hx hb dX14_isWrong_194 (by decide) ?_
  refine lv_iload hx hb dX14_isWrong_196 (lv_at hl 0 rfl) ?_
  refine lv_imul hx hb dX14_isWrong_198 ?_
  refine lv_iload_n hx hb dX14_isWrong_199 rfl (lv_at hl 3 rfl) ?_
  refine lv_iadd hx hb dX14_isWrong_200 ?_
  refine mm_iald (n := 32) (f := F 20) hx hb hK hG 1 (hM.2.1 20 rfl) rfl (by rw [show (16 : Int32) * nI bo + nI a9 = nI (16 * bo + a9) from nI_ma 16 bo a9]; exact nI_in (N := 32) (by omega) (by decide)) dX14_isWrong_201 ?_
  refine lv_topi (fun x1 ex1 => ?_)
  refine lv_aload_n hx hb dX14_isWrong_202 rfl (lv_at hl 1 rfl) ?_
  refine mm_get (v := .ref (Ar 22)) hx hb hf_X14 (fun _ h9 => h9) hown hK hG hM.1 rfl 22 (by decide) (tb_use hT tw_1413) (fun _ h9 => h9) (mfs_g22 _ _) dX14_isWrong_203 ?_
  refine lv_bipush (v := 16) hx hb dX14_isWrong_206 (by decide) ?_
  refine lv_iload hx hb dX14_isWrong_208 (lv_at hl 0 rfl) ?_
  refine lv_imul hx hb dX14_isWrong_210 ?_
  refine lv_iload_n hx hb dX14_isWrong_211 rfl (lv_at hl 3 rfl) ?_
  refine lv_iadd hx hb dX14_isWrong_212 ?_
  refine mm_iald (n := 32) (f := F 22) hx hb hK hG 1 (hM.2.1 22 rfl) rfl (by rw [show (16 : Int32) * nI bo + nI a9 = nI (16 * bo + a9) from nI_ma 16 bo a9]; exact nI_in (N := 32) (by omega) (by decide)) dX14_isWrong_213 ?_
  refine lv_topi (fun x2 ex2 => ?_)
  refine va_calli (va_runV (As := [.int (nI bo), .int x1, .int x2]) (rest := []) ⟨hx, hb, hml, hown, (fun _ h9 => absurd h9 List.not_mem_nil : ∀ w ∈ ([] : List Cond), w.before _ s = true)⟩ (c_M_serviceAt l D cy A X hst hXT G o Ar Iv F L bo v9.nS x1 x2 hM hbl hbS.1 hbS.2.1) (tb_cw (C := RX14) 3 hT tw_1790 tw_109 tw_1787 tw_1789 tw_91 rfl rfl hq_X14_serviceAt ⟨Nat.le_of_ble_eq_true rfl, Nat.le_of_ble_eq_true rfl⟩) (mk_preC hst hG hK hA hX hS vc_15 hM.1) rfl rfl hl.1 rfl (lv_room (Nat.le_of_ble_eq_true rfl)) dX14_isWrong_214 ⟨Nat.le_of_ble_eq_true rfl, Nat.le_of_ble_eq_true rfl⟩) hS (fun q _ h => h) (fun q h => h) (fun r3 G4 t H locs ht hvm hw hB hz1 hk1 hS => ?_)
  have hG : mm D vwCl A G4 H := by rw [← ht]; exact hB
  clear hB hz1 hk1 hvm ht
  obtain ⟨er3, hw⟩ := hw
  rw [hw] at hG
  refine lv_iload_n hx hb dX14_isWrong_217 rfl (lv_at hl 3 rfl) ?_
  refine lv_icmp_ge (tgt := 225) hx hb dX14_isWrong_218 (by decide) (fun c_218 => ?_) (fun c_218 => ?_)
  · skip
    refine lv_iconst (v := 0) hx hb dX14_isWrong_225 (by decide) ?_
    have hxa : x1 = F 20 (16 * bo + a9) := by rw [ex1, show (16 : Int32) * nI bo + nI a9 = nI (16 * bo + a9) from nI_ma 16 bo a9, nI_clamp (by omega)]
    have hxb : x2 = nI (v9.S a9).1 := by rw [ex2, show (16 : Int32) * nI bo + nI a9 = nI (16 * bo + a9) from nI_ma 16 bo a9, nI_clamp (by omega)]; exact (hbS.2.2 a9 ha9).2.2.1
    have hfo : r3 = opI (svI v9 (v9.S a9).1 (v9.S a9).2.2.1) := by rw [er3, hxa, hxb]; exact hbS.atI hLS hl6 hn30 hna (hLS a9 ha9)
    obtain ⟨i9, hi9, hia⟩ : ∃ i, svI v9 (v9.S a9).1 (v9.S a9).2.2.1 = some i ∧ i ≤ a9 := fnd_lt ha9 (by rw [decide_eq_true rfl, decide_eq_true rfl]; rfl)
    rw [hfo] at c_218
    exact W.zret (v := 0) hx hb hr rfl (fun t ht hW => ⟨⟨_, _, rfl, ⟨(by rw [decide_eq_false (fun z => z ((ge_some hi9 hia (by omega)).mp c_218))]; rfl), rfl⟩, mk_end hG ht⟩, hS.F ht⟩) hS.2.2 dX14_isWrong_226
  · skip
    refine lv_iconst (v := 1) hx hb dX14_isWrong_221 (by decide) ?_
    refine lv_goto (tgt := 226) hx hb dX14_isWrong_222 (by decide) ?_
    have hxa : x1 = F 20 (16 * bo + a9) := by rw [ex1, show (16 : Int32) * nI bo + nI a9 = nI (16 * bo + a9) from nI_ma 16 bo a9, nI_clamp (by omega)]
    have hxb : x2 = nI (v9.S a9).1 := by rw [ex2, show (16 : Int32) * nI bo + nI a9 = nI (16 * bo + a9) from nI_ma 16 bo a9, nI_clamp (by omega)]; exact (hbS.2.2 a9 ha9).2.2.1
    have hfo : r3 = opI (svI v9 (v9.S a9).1 (v9.S a9).2.2.1) := by rw [er3, hxa, hxb]; exact hbS.atI hLS hl6 hn30 hna (hLS a9 ha9)
    obtain ⟨i9, hi9, hia⟩ : ∃ i, svI v9 (v9.S a9).1 (v9.S a9).2.2.1 = some i ∧ i ≤ a9 := fnd_lt ha9 (by rw [decide_eq_true rfl, decide_eq_true rfl]; rfl)
    rw [hfo] at c_218
    exact W.zret (v := 1) hx hb hr rfl (fun t ht hW => ⟨⟨_, _, rfl, ⟨(by rw [decide_eq_true (show svI v9 (v9.S a9).1 (v9.S a9).2.2.1 ≠ some a9 from fun z => c_218 ((ge_some hi9 hia (by omega)).mpr z))]; rfl), rfl⟩, mk_end hG ht⟩, hS.F ht⟩) hS.2.2 dX14_isWrong_226
