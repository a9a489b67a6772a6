theorem ge_some {o : Option Nat} {i a : Nat} (h : o = some i) (hi : i ≤ a) (ha : a < 2 ^ 31) : nI a ≤ opI o ↔ o = some a := by
  rw [h]
  exact ⟨fun z => by rw [show i = a by have := nI_ge_of (a := i) (b := a) (by omega) ha z; omega], fun z => by injection z with z; rw [z]; exact nI_le (Nat.le_refl a) ha⟩

set_option maxHeartbeats 4000000 in
set_option maxRecDepth 100000 in
theorem c_M_isW1 (l : Launch) (D : va_G) (cy : Nat → ClassId) (A : Nat → Prop) (X : State → Prop) (hst : mk_St A X) (hXT : ∀ U : State, X U → TB U) (G : Nat → Option va_E) (o : Nat) (Ar : Nat → Nat) (Iv : Nat → Int32) (F : Nat → Nat → Int32) (L : Nat → Nat → Int64) (ft : Nat → Int32) (en bo n9 a9 : Nat) (xc : Int32) (v9 : EdV) (hM : MD cy G o Ar Iv F L) (hb1 : bkC (tkK ft en) (tkV ft en) n9 F bo v9) (hn30 : n9 < 2 ^ 30) (hbl : bo < 2) (h41 : Iv 41 = nI bo) (ha9 : a9 < v9.nC) : Met l yX14_isWrong [.code yX14_isWrong cX14_isWrong 11 (some .boolean)] ({ frames := 1, cells := 0, slots := 0, locals := 30 }) (mk_Pre D vwCl (tyL cy) A X G [.ref o, .int 1, .int (nI a9), .int xc]) (va_Qi (fun (r : Int32) (G2 : Nat → Option va_E) => r = b2i (decide (cdN v9 ((v9.C a9).1.2.1) ≠ some a9)) ∧ G2 = G) (mk_B D vwCl A) A) 0 0 A := by
  refine Met.ofW (cc := cX14_isWrong) (maxL := 11) (ret := (some .boolean)) (by decide) rfl ?_
  intro p e s m args below meth c s₁ B hml hv
  obtain ⟨rfl, hG, hK, hA, hX⟩ := hv
  have hx := B.exec
  have hb := B.bytes
  have hr := B.returns
  have hlocks := B.notSynchronized
  have hT := hXT s hX
  have hown : s.vm.findClass RX14 = some m.cls := findClass_of_methodNamed B.named
  have hf_X14 : ∀ w ∈ u_ws RX14 TX14 76, w.before ([.ref o, .int 1, .int (nI a9), .int xc] : List Value).toArray s = true := tb_list hT fX14
  have hS : va_S A s.heap s.heap [] := va_S.rf
  have hl := lv_entry ([.ref o, .int 1, .int (nI a9), .int xc]) (n := 11) (Nat.le_of_ble_eq_true rfl)
  rw [lg_entry_eq]
  generalize (lg_sl ([.ref o, .int 1, .int (nI a9), .int xc]) ++ List.replicate (11 - (lg_sl ([.ref o, .int 1, .int (nI a9), .int xc])).length) Slot.unset).toArray = ls at hl ⊢
  have hl : lv_has ls 11 [(0, .ref o), (1, .int 1), (2, .int (nI a9)), (3, .int xc)] := hl
  have hbn := hb1.2.1
  have hna := (hb1.2.2 a9 ha9).1.1
  refine lv_aload_n hx hb dX14_isWrong_0 rfl (lv_at hl 0 rfl) ?_
  refine mm_get (v := .int (Iv 41)) hx hb hf_X14 (fun _ h9 => h9) hown hK hG hM.1 rfl 41 (by decide) (tb_use hT tw_1432) (fun _ h9 => h9) (mfs_g41 _ _) dX14_isWrong_1 ?_
  rw [h41]
  refine lv_istore (lv' := [(4, .int (nI bo)), (0, .ref o), (1, .int 1), (2, .int (nI a9)), (3, .int xc)]) hx hb dX14_isWrong_4 hl (by decide) rfl (fun ls hl => ?_)
  refine lv_iload_n hx hb dX14_isWrong_6 rfl (lv_at hl 2 rfl) ?_
  refine lv_tableIn (tgt := 72) hx hb dX14_isWrong_7 (by decide) (by decide) (off := 65) rfl (by decide) ?_
  refine lv_aload_n hx hb dX14_isWrong_72 rfl (lv_at hl 1 rfl) ?_
  refine lv_iload hx hb dX14_isWrong_73 (lv_at hl 0 rfl) ?_
  refine lv_aload_n hx hb dX14_isWrong_75 rfl (lv_at hl 1 rfl) ?_
  refine mm_get (v := .ref (Ar 9)) hx hb hf_X14 (fun _ h9 => h9) hown hK hG hM.1 rfl 9 (by decide) (tb_use hT tw_1400) (fun _ h9 => h9) (mfs_g9 _ _) dX14_isWrong_76 ?_
  refine lv_bipush (v := 12) hx hb dX14_isWrong_79 (by decide) ?_
  refine lv_iload hx hb dX14_isWrong_81 (lv_at hl 0 rfl) ?_
  refine lv_imul hx hb dX14_isWrong_83 ?_
  refine lv_iload_n hx hb dX14_isWrong_84 rfl (lv_at hl 3 rfl) ?_
  refine lv_iadd hx hb dX14_isWrong_85 ?_
  refine mm_iald (n := 24) (f := F 9) hx hb hK hG 1 (hM.2.1 9 rfl) rfl (by rw [show (12 : Int32) * nI bo + nI a9 = nI (12 * bo + a9) from nI_ma 12 bo a9]; exact nI_in (N := 24) (by omega) (by decide)) dX14_isWrong_86 ?_
  refine lv_topi (fun x1 ex1 => ?_)
  refine va_calli (va_runV (As := [.int (nI bo), .int x1]) (rest := []) ⟨hx, hb, hml, hown, (fun _ h9 => absurd h9 List.not_mem_nil : ∀ w ∈ ([] : List Cond), w.before _ s = true)⟩ (c_M_codingAt l D cy A X hst hXT G o Ar Iv F L bo v9.nC x1 hM hbl hb1.1 hb1.2.1) (tb_cw (C := RX14) 2 hT tw_1782 tw_109 tw_1779 tw_1781 tw_89 rfl rfl hq_X14_codingAt ⟨Nat.le_of_ble_eq_true rfl, Nat.le_of_ble_eq_true rfl⟩) (mk_preC hst hG hK hA hX hS vc_15 hM.1) rfl rfl hl.1 rfl (lv_room (Nat.le_of_ble_eq_true rfl)) dX14_isWrong_87 ⟨Nat.le_of_ble_eq_true rfl, Nat.le_of_ble_eq_true rfl⟩) hS (fun q _ h => h) (fun q h => h) (fun r2 G3 t H locs ht hvm hw hB hz1 hk1 hS => ?_)
  have hG : mm D vwCl A G3 H := by rw [← ht]; exact hB
  clear hB hz1 hk1 hvm ht
  obtain ⟨er2, hw⟩ := hw
  rw [hw] at hG
  refine lv_iload_n hx hb dX14_isWrong_90 rfl (lv_at hl 3 rfl) ?_
  refine lv_icmp_ge (tgt := 98) hx hb dX14_isWrong_91 (by decide) (fun c_91 => ?_) (fun c_91 => ?_)
  · skip
    refine lv_iconst (v := 0) hx hb dX14_isWrong_98 (by decide) ?_
    have hxa : x1 = F 9 (12 * bo + a9) := by rw [ex1, show (12 : Int32) * nI bo + nI a9 = nI (12 * bo + a9) from nI_ma 12 bo a9, nI_clamp (by omega)]
    have hfo : r2 = opI (cdN v9 ((v9.C a9).1.2.1)) := by rw [er2, hxa]; exact hb1.at hn30 hna
    obtain ⟨i9, hi9, hia⟩ : ∃ i, cdN v9 ((v9.C a9).1.2.1) = some i ∧ i ≤ a9 := fnd_lt ha9 (decide_eq_true rfl)
    rw [hfo] at c_91
    exact W.zret (v := 0) hx hb hr rfl (fun t ht hW => ⟨⟨_, _, rfl, ⟨(by rw [decide_eq_false (fun z => z ((ge_some hi9 hia (by omega)).mp c_91))]; rfl), rfl⟩, mk_end hG ht⟩, hS.F ht⟩) hS.2.2 dX14_isWrong_99
  · skip
    refine lv_iconst (v := 1) hx hb dX14_isWrong_94 (by decide) ?_
    refine lv_goto (tgt := 99) hx hb dX14_isWrong_95 (by decide) ?_
    have hxa : x1 = F 9 (12 * bo + a9) := by rw [ex1, show (12 : Int32) * nI bo + nI a9 = nI (12 * bo + a9) from nI_ma 12 bo a9, nI_clamp (by omega)]
    have hfo : r2 = opI (cdN v9 ((v9.C a9).1.2.1)) := by rw [er2, hxa]; exact hb1.at hn30 hna
    obtain ⟨i9, hi9, hia⟩ : ∃ i, cdN v9 ((v9.C a9).1.2.1) = some i ∧ i ≤ a9 := fnd_lt ha9 (decide_eq_true rfl)
    rw [hfo] at c_91
    exact W.zret (v := 1) hx hb hr rfl (fun t ht hW => ⟨⟨_, _, rfl, ⟨(by rw [decide_eq_true (show cdN v9 ((v9.C a9).1.2.1) ≠ some a9 from fun z => c_91 ((ge_some hi9 hia (by omega)).mpr z))]; rfl), rfl⟩, mk_end hG ht⟩, hS.F ht⟩) hS.2.2 dX14_isWrong_99

set_option maxHeartbeats 4000000 in
set_option maxRecDepth 100000 in
theorem c_M_isW2 (l : Launch) (D : va_G) (cy : Nat → ClassId) (A : Nat → Prop) (X : State → Prop) (hst : mk_St A X) (hXT : ∀ U : State, X U → TB U) (G : Nat → Option va_E) (o : Nat) (Ar : Nat → Nat) (Iv : Nat → Int32) (F : Nat → Nat → Int32) (L : Nat → Nat → Int64) (ft : Nat → Int32) (en bo n9 a9 : Nat) (xc : Int32) (v9 : EdV) (hM : MD cy G o Ar Iv F L) (hb1 : bkL (tkK ft en) (tkV ft en) n9 F bo v9) (hn30 : n9 < 2 ^ 30) (hbl : bo < 2) (h41 : Iv 41 = nI bo) (ha9 : a9 < v9.nL) : Met l yX14_isWrong [.code yX14_isWrong cX14_isWrong 11 (some .boolean)] ({ frames := 1, cells := 0, slots := 0, locals := 30 }) (mk_Pre D vwCl (tyL cy) A X G [.ref o, .int 2, .int (nI a9), .int xc]) (va_Qi (fun (r : Int32) (G2 : Nat → Option va_E) => r = b2i (decide (lyN v9 ((v9.L a9).2.1) ≠ some a9)) ∧ G2 = G) (mk_B D vwCl A) A) 0 0 A := by
  refine Met.ofW (cc := cX14_isWrong) (maxL := 11) (ret := (some .boolean)) (by decide) rfl ?_
  intro p e s m args below meth c s₁ B hml hv
  obtain ⟨rfl, hG, hK, hA, hX⟩ := hv
  have hx := B.exec
  have hb := B.bytes
  have hr := B.returns
  have hlocks := B.notSynchronized
  have hT := hXT s hX
  have hown : s.vm.findClass RX14 = some m.cls := findClass_of_methodNamed B.named
  have hf_X14 : ∀ w ∈ u_ws RX14 TX14 76, w.before ([.ref o, .int 2, .int (nI a9), .int xc] : List Value).toArray s = true := tb_list hT fX14
  have hS : va_S A s.heap s.heap [] := va_S.rf
  have hl := lv_entry ([.ref o, .int 2, .int (nI a9), .int xc]) (n := 11) (Nat.le_of_ble_eq_true rfl)
  rw [lg_entry_eq]
  generalize (lg_sl ([.ref o, .int 2, .int (nI a9), .int xc]) ++ List.replicate (11 - (lg_sl ([.ref o, .int 2, .int (nI a9), .int xc])).length) Slot.unset).toArray = ls at hl ⊢
  have hl : lv_has ls 11 [(0, .ref o), (1, .int 2), (2, .int (nI a9)), (3, .int xc)] := hl
  have hbn := hb1.2.1
  have hna := (hb1.2.2 a9 ha9).1
  refine lv_aload_n hx hb dX14_isWrong_0 rfl (lv_at hl 0 rfl) ?_
  refine mm_get (v := .int (Iv 41)) hx hb hf_X14 (fun _ h9 => h9) hown hK hG hM.1 rfl 41 (by decide) (tb_use hT tw_1432) (fun _ h9 => h9) (mfs_g41 _ _) dX14_isWrong_1 ?_
  rw [h41]
  refine lv_istore (lv' := [(4, .int (nI bo)), (0, .ref o), (1, .int 2), (2, .int (nI a9)), (3, .int xc)]) hx hb dX14_isWrong_4 hl (by decide) rfl (fun ls hl => ?_)
  refine lv_iload_n hx hb dX14_isWrong_6 rfl (lv_at hl 2 rfl) ?_
  refine lv_tableIn (tgt := 100) hx hb dX14_isWrong_7 (by decide) (by decide) (off := 93) rfl (by decide) ?_
  refine lv_aload_n hx hb dX14_isWrong_100 rfl (lv_at hl 1 rfl) ?_
  refine lv_iload hx hb dX14_isWrong_101 (lv_at hl 0 rfl) ?_
  refine lv_aload_n hx hb dX14_isWrong_103 rfl (lv_at hl 1 rfl) ?_
  refine mm_get (v := .ref (Ar 18)) hx hb hf_X14 (fun _ h9 => h9) hown hK hG hM.1 rfl 18 (by decide) (tb_use hT tw_1409) (fun _ h9 => h9) (mfs_g18 _ _) dX14_isWrong_104 ?_
  refine lv_bipush (v := 6) hx hb dX14_isWrong_107 (by decide) ?_
  refine lv_iload hx hb dX14_isWrong_109 (lv_at hl 0 rfl) ?_
  refine lv_imul hx hb dX14_isWrong_111 ?_
  refine lv_iload_n hx hb dX14_isWrong_112 rfl (lv_at hl 3 rfl) ?_
  refine lv_iadd hx hb dX14_isWrong_113 ?_
  refine mm_iald (n := 12) (f := F 18) hx hb hK hG 1 (hM.2.1 18 rfl) rfl (by rw [show (6 : Int32) * nI bo + nI a9 = nI (6 * bo + a9) from nI_ma 6 bo a9]; exact nI_in (N := 12) (by omega) (by decide)) dX14_isWrong_114 ?_
  refine lv_topi (fun x1 ex1 => ?_)
  refine va_calli (va_runV (As := [.int (nI bo), .int x1]) (rest := []) ⟨hx, hb, hml, hown, (fun _ h9 => absurd h9 List.not_mem_nil : ∀ w ∈ ([] : List Cond), w.before _ s = true)⟩ (c_M_layerAt l D cy A X hst hXT G o Ar Iv F L bo v9.nL x1 hM hbl hb1.1 hb1.2.1) (tb_cw (C := RX14) 2 hT tw_1786 tw_109 tw_1783 tw_1785 tw_90 rfl rfl hq_X14_layerAt ⟨Nat.le_of_ble_eq_true rfl, Nat.le_of_ble_eq_true rfl⟩) (mk_preC hst hG hK hA hX hS vc_15 hM.1) rfl rfl hl.1 rfl (lv_room (Nat.le_of_ble_eq_true rfl)) dX14_isWrong_115 ⟨Nat.le_of_ble_eq_true rfl, Nat.le_of_ble_eq_true rfl⟩) hS (fun q _ h => h) (fun q h => h) (fun r2 G3 t H locs ht hvm hw hB hz1 hk1 hS => ?_)
  have hG : mm D vwCl A G3 H := by rw [← ht]; exact hB
  clear hB hz1 hk1 hvm ht
  obtain ⟨er2, hw⟩ := hw
  rw [hw] at hG
  refine lv_iload_n hx hb dX14_isWrong_118 rfl (lv_at hl 3 rfl) ?_
  refine lv_icmp_ge (tgt := 126) hx hb dX14_isWrong_119 (by decide) (fun c_119 => ?_) (fun c_119 => ?_)
  · skip
    refine lv_iconst (v := 0) hx hb dX14_isWrong_126 (by decide) ?_
    have hxa : x1 = F 18 (6 * bo + a9) := by rw [ex1, show (6 : Int32) * nI bo + nI a9 = nI (6 * bo + a9) from nI_ma 6 bo a9, nI_clamp (by omega)]
    have hfo : r2 = opI (lyN v9 ((v9.L a9).2.1)) := by rw [er2, hxa]; exact hb1.at hn30 hna
    obtain ⟨i9, hi9, hia⟩ : ∃ i, lyN v9 ((v9.L a9).2.1) = some i ∧ i ≤ a9 := fnd_lt ha9 (decide_eq_true rfl)
    rw [hfo] at c_119
    exact W.zret (v := 0) hx hb hr rfl (fun t ht hW => ⟨⟨_, _, rfl, ⟨(by rw [decide_eq_false (fun z => z ((ge_some hi9 hia (by omega)).mp c_119))]; rfl), rfl⟩, mk_end hG ht⟩, hS.F ht⟩) hS.2.2 dX14_isWrong_127
  · skip
    refine lv_iconst (v := 1) hx hb dX14_isWrong_122 (by decide) ?_
    refine lv_goto (tgt := 127) hx hb dX14_isWrong_123 (by decide) ?_
    have hxa : x1 = F 18 (6 * bo + a9) := by rw [ex1, show (6 : Int32) * nI bo + nI a9 = nI (6 * bo + a9) from nI_ma 6 bo a9, nI_clamp (by omega)]
    have hfo : r2 = opI (lyN v9 ((v9.L a9).2.1)) := by rw [er2, hxa]; exact hb1.at hn30 hna
    obtain ⟨i9, hi9, hia⟩ : ∃ i, lyN v9 ((v9.L a9).2.1) = some i ∧ i ≤ a9 := fnd_lt ha9 (decide_eq_true rfl)
    rw [hfo] at c_119
    exact W.zret (v := 1) hx hb hr rfl (fun t ht hW => ⟨⟨_, _, rfl, ⟨(by rw [decide_eq_true (show lyN v9 ((v9.L a9).2.1) ≠ some a9 from fun z => c_119 ((ge_some hi9 hia (by omega)).mpr z))]; rfl), rfl⟩, mk_end hG ht⟩, hS.F ht⟩) hS.2.2 dX14_isWrong_127

set_option maxHeartbeats 4000000 in
set_option maxRecDepth 100000 in
theorem c_M_isW10 (l : Launch) (D : va_G) (cy : Nat → ClassId) (A : Nat → Prop) (X : State → Prop) (hst : mk_St A X) (hXT : ∀ U : State, X U → TB U) (G : Nat → Option va_E) (o : Nat) (Ar : Nat → Nat) (Iv : Nat → Int32) (F : Nat → Nat → Int32) (L : Nat → Nat → Int64) (ft : Nat → Int32) (en bo n9 : Nat) (s9 i9 : Nat) (xc : Int32) (v9 : EdV) (hM : MD cy G o Ar Iv F L) (hb1 : bkC (tkK ft en) (tkV ft en) n9 F bo v9) (hn30 : n9 < 2 ^ 30) (hbl : bo < 2) (h41 : Iv 41 = nI bo) (hbS : bkS (tkK ft en) (tkV ft en) n9 F bo v9) (hs9 : s9 < v9.nS) (hi9 : i9 < v9.nP s9) : Met l yX14_isWrong [.code yX14_isWrong cX14_isWrong 11 (some .boolean)] ({ frames := 1, cells := 0, slots := 0, locals := 30 }) (mk_Pre D vwCl (tyL cy) A X G [.ref o, .int 10, .int (nI (8 * s9 + i9)), .int xc]) (va_Qi (fun (r : Int32) (G2 : Nat → Option va_E) => r = b2i (cdN v9 (v9.P s9 i9).2.2.1).isNone ∧ G2 = G) (mk_B D vwCl A) A) 0 0 A := by
  refine Met.ofW (cc := cX14_isWrong) (maxL := 11) (ret := (some .boolean)) (by decide) rfl ?_
  intro p e s m args below meth c s₁ B hml hv
  obtain ⟨rfl, hG, hK, hA, hX⟩ := hv
  have hx := B.exec
  have hb := B.bytes
  have hr := B.returns
  have hlocks := B.notSynchronized
  have hT := hXT s hX
  have hown : s.vm.findClass RX14 = some m.cls := findClass_of_methodNamed B.named
  have hf_X14 : ∀ w ∈ u_ws RX14 TX14 76, w.before ([.ref o, .int 10, .int (nI (8 * s9 + i9)), .int xc] : List Value).toArray s = true := tb_list hT fX14
  have hS : va_S A s.heap s.heap [] := va_S.rf
  have hl := lv_entry ([.ref o, .int 10, .int (nI (8 * s9 + i9)), .int xc]) (n := 11) (Nat.le_of_ble_eq_true rfl)
  rw [lg_entry_eq]
  generalize (lg_sl ([.ref o, .int 10, .int (nI (8 * s9 + i9)), .int xc]) ++ List.replicate (11 - (lg_sl ([.ref o, .int 10, .int (nI (8 * s9 + i9)), .int xc])).length) Slot.unset).toArray = ls at hl ⊢
  have hl : lv_has ls 11 [(0, .ref o), (1, .int 10), (2, .int (nI (8 * s9 + i9))), (3, .int xc)] := hl
  have hbn := hb1.2.1
  have hs16 := hbS.2.1
  have hp8 := (hbS.2.2 s9 hs9).2.2.2.2.1
  have hna := ((hbS.2.2 s9 hs9).2.2.2.2.2 i9 hi9).2.1
  refine lv_aload_n hx hb dX14_isWrong_0 rfl (lv_at hl 0 rfl) ?_
  refine mm_get (v := .int (Iv 41)) hx hb hf_X14 (fun _ h9 => h9) hown hK hG hM.1 rfl 41 (by decide) (tb_use hT tw_1432) (fun _ h9 => h9) (mfs_g41 _ _) dX14_isWrong_1 ?_
  rw [h41]
  refine lv_istore (lv' := [(4, .int (nI bo)), (0, .ref o), (1, .int 10), (2, .int (nI (8 * s9 + i9))), (3, .int xc)]) hx hb dX14_isWrong_4 hl (by decide) rfl (fun ls hl => ?_)
  refine lv_iload_n hx hb dX14_isWrong_6 rfl (lv_at hl 2 rfl) ?_
  refine lv_tableIn (tgt := 490) hx hb dX14_isWrong_7 (by decide) (by decide) (off := 483) rfl (by decide) ?_
  refine lv_aload_n hx hb dX14_isWrong_490 rfl (lv_at hl 1 rfl) ?_
  refine lv_iload hx hb dX14_isWrong_491 (lv_at hl 0 rfl) ?_
  refine lv_aload_n hx hb dX14_isWrong_493 rfl (lv_at hl 1 rfl) ?_
  refine mm_get (v := .ref (Ar 25)) hx hb hf_X14 (fun _ h9 => h9) hown hK hG hM.1 rfl 25 (by decide) (tb_use hT tw_1416) (fun _ h9 => h9) (mfs_g25 _ _) dX14_isWrong_494 ?_
  refine lv_sipush (v := 128) hx hb dX14_isWrong_497 (by decide) ?_
  refine lv_iload hx hb dX14_isWrong_500 (lv_at hl 0 rfl) ?_
  refine lv_imul hx hb dX14_isWrong_502 ?_
  refine lv_iload_n hx hb dX14_isWrong_503 rfl (lv_at hl 3 rfl) ?_
  refine lv_iadd hx hb dX14_isWrong_504 ?_
  refine mm_iald (n := 256) (f := F 25) hx hb hK hG 1 (hM.2.1 25 rfl) rfl (by rw [show (128 : Int32) * nI bo + nI (8 * s9 + i9) = nI (128 * bo + (8 * s9 + i9)) from nI_ma 128 bo (8 * s9 + i9)]; exact nI_in (N := 256) (by omega) (by decide)) dX14_isWrong_505 ?_
  refine lv_topi (fun x1 ex1 => ?_)
  refine va_calli (va_runV (As := [.int (nI bo), .int x1]) (rest := []) ⟨hx, hb, hml, hown, (fun _ h9 => absurd h9 List.not_mem_nil : ∀ w ∈ ([] : List Cond), w.before _ s = true)⟩ (c_M_codingAt l D cy A X hst hXT G o Ar Iv F L bo v9.nC x1 hM hbl hb1.1 hb1.2.1) (tb_cw (C := RX14) 2 hT tw_1782 tw_109 tw_1779 tw_1781 tw_89 rfl rfl hq_X14_codingAt ⟨Nat.le_of_ble_eq_true rfl, Nat.le_of_ble_eq_true rfl⟩) (mk_preC hst hG hK hA hX hS vc_15 hM.1) rfl rfl hl.1 rfl (lv_room (Nat.le_of_ble_eq_true rfl)) dX14_isWrong_506 ⟨Nat.le_of_ble_eq_true rfl, Nat.le_of_ble_eq_true rfl⟩) hS (fun q _ h => h) (fun q h => h) (fun r2 G3 t H locs ht hvm hw hB hz1 hk1 hS => ?_)
  have hG : mm D vwCl A G3 H := by rw [← ht]; exact hB
  clear hB hz1 hk1 hvm ht
  obtain ⟨er2, hw⟩ := hw
  rw [hw] at hG
  refine lv_if_ge (tgt := 516) hx hb dX14_isWrong_509 (by decide) (fun c_509 => ?_) (fun c_509 => ?_)
  · skip
    refine lv_iconst (v := 0) hx hb dX14_isWrong_516 (by decide) ?_
    have hxa : x1 = F 25 (128 * bo + (8 * s9 + i9)) := by rw [ex1, show (128 : Int32) * nI bo + nI (8 * s9 + i9) = nI (128 * bo + (8 * s9 + i9)) from nI_ma 128 bo (8 * s9 + i9), nI_clamp (by omega)]
    have hfo : r2 = opI (cdN v9 (v9.P s9 i9).2.2.1) := by rw [er2, hxa]; exact hb1.at hn30 hna
    rw [hfo] at c_509
    have hlt9 : ∀ k, cdN v9 (v9.P s9 i9).2.2.1 = some k → k < 2 ^ 31 := fun k hk => by have := cdN_lt hk; omega
    obtain ⟨O9, hO9⟩ : ∃ y, cdN v9 (v9.P s9 i9).2.2.1 = y := ⟨_, rfl⟩
    exact W.zret (v := 0) hx hb hr rfl (fun t ht hW => ⟨⟨_, _, rfl, ⟨(by obtain ⟨k, hk⟩ := (opI_ge hlt9).mp c_509; rw [hk]; rfl), rfl⟩, mk_end hG ht⟩, hS.F ht⟩) hS.2.2 dX14_isWrong_517
  · skip
    refine lv_iconst (v := 1) hx hb dX14_isWrong_512 (by decide) ?_
    refine lv_goto (tgt := 517) hx hb dX14_isWrong_513 (by decide) ?_
    have hxa : x1 = F 25 (128 * bo + (8 * s9 + i9)) := by rw [ex1, show (128 : Int32) * nI bo + nI (8 * s9 + i9) = nI (128 * bo + (8 * s9 + i9)) from nI_ma 128 bo (8 * s9 + i9), nI_clamp (by omega)]
    have hfo : r2 = opI (cdN v9 (v9.P s9 i9).2.2.1) := by rw [er2, hxa]; exact hb1.at hn30 hna
    rw [hfo] at c_509
    have hlt9 : ∀ k, cdN v9 (v9.P s9 i9).2.2.1 = some k → k < 2 ^ 31 := fun k hk => by have := cdN_lt hk; omega
    obtain ⟨O9, hO9⟩ : ∃ y, cdN v9 (v9.P s9 i9).2.2.1 = y := ⟨_, rfl⟩
    exact W.zret (v := 1) hx hb hr rfl (fun t ht hW => ⟨⟨_, _, rfl, ⟨(by cases hq : cdN v9 (v9.P s9 i9).2.2.1 with | none => rfl | some k => exact absurd ((opI_ge hlt9).mpr ⟨k, hq⟩) c_509), rfl⟩, mk_end hG ht⟩, hS.F ht⟩) hS.2.2 dX14_isWrong_517

set_option maxHeartbeats 4000000 in
set_option maxRecDepth 100000 in
theorem c_M_isW12 (l : Launch) (D : va_G) (cy : Nat → ClassId) (A : Nat → Prop) (X : State → Prop) (hst : mk_St A X) (hXT : ∀ U : State, X U → TB U) (G : Nat → Option va_E) (o : Nat) (Ar : Nat → Nat) (Iv : Nat → Int32) (F : Nat → Nat → Int32) (L : Nat → Nat → Int64) (ft : Nat → Int32) (en bo n9 : Nat) (a9 : Nat) (xc : Int32) (v9 : EdV) (hM : MD cy G o Ar Iv F L) (hb1 : bkL (tkK ft en) (tkV ft en) n9 F bo v9) (hn30 : n9 < 2 ^ 30) (hbl : bo < 2) (h41 : Iv 41 = nI bo) (hbV : bkV (tkK ft en) (tkV ft en) n9 F bo v9) (ha9 : a9 < v9.nV) : Met l yX14_isWrong [.code yX14_isWrong cX14_isWrong 11 (some .boolean)] ({ frames := 1, cells := 0, slots := 0, locals := 30 }) (mk_Pre D vwCl (tyL cy) A X G [.ref o, .int 12, .int (nI (a9)), .int xc]) (va_Qi (fun (r : Int32) (G2 : Nat → Option va_E) => r = b2i (lyN v9 (v9.V a9).2.2.1).isNone ∧ G2 = G) (mk_B D vwCl A) A) 0 0 A := by
  refine Met.ofW (cc := cX14_isWrong) (maxL := 11) (ret := (some .boolean)) (by decide) rfl ?_
  intro p e s m args below meth c s₁ B hml hv
  obtain ⟨rfl, hG, hK, hA, hX⟩ := hv
  have hx := B.exec
  have hb := B.bytes
  have hr := B.returns
  have hlocks := B.notSynchronized
  have hT := hXT s hX
  have hown : s.vm.findClass RX14 = some m.cls := findClass_of_methodNamed B.named
  have hf_X14 : ∀ w ∈ u_ws RX14 TX14 76, w.before ([.ref o, .int 12, .int (nI (a9)), .int xc] : List Value).toArray s = true := tb_list hT fX14
  have hS : va_S A s.heap s.heap [] := va_S.rf
  have hl := lv_entry ([.ref o, .int 12, .int (nI (a9)), .int xc]) (n := 11) (Nat.le_of_ble_eq_true rfl)
  rw [lg_entry_eq]
  generalize (lg_sl ([.ref o, .int 12, .int (nI (a9)), .int xc]) ++ List.replicate (11 - (lg_sl ([.ref o, .int 12, .int (nI (a9)), .int xc])).length) Slot.unset).toArray = ls at hl ⊢
  have hl : lv_has ls 11 [(0, .ref o), (1, .int 12), (2, .int (nI (a9))), (3, .int xc)] := hl
  have hbn := hb1.2.1
  have hv6 := hbV.2.1
  have hna := (hbV.2.2 a9 ha9).2
  refine lv_aload_n hx hb dX14_isWrong_0 rfl (lv_at hl 0 rfl) ?_
  refine mm_get (v := .int (Iv 41)) hx hb hf_X14 (fun _ h9 => h9) hown hK hG hM.1 rfl 41 (by decide) (tb_use hT tw_1432) (fun _ h9 => h9) (mfs_g41 _ _) dX14_isWrong_1 ?_
  rw [h41]
  refine lv_istore (lv' := [(4, .int (nI bo)), (0, .ref o), (1, .int 12), (2, .int (nI (a9))), (3, .int xc)]) hx hb dX14_isWrong_4 hl (by decide) rfl (fun ls hl => ?_)
  refine lv_iload_n hx hb dX14_isWrong_6 rfl (lv_at hl 2 rfl) ?_
  refine lv_tableIn (tgt := 562) hx hb dX14_isWrong_7 (by decide) (by decide) (off := 555) rfl (by decide) ?_
  refine lv_aload_n hx hb dX14_isWrong_562 rfl (lv_at hl 1 rfl) ?_
  refine lv_iload hx hb dX14_isWrong_563 (lv_at hl 0 rfl) ?_
  refine lv_aload_n hx hb dX14_isWrong_565 rfl (lv_at hl 1 rfl) ?_
  refine mm_get (v := .ref (Ar 31)) hx hb hf_X14 (fun _ h9 => h9) hown hK hG hM.1 rfl 31 (by decide) (tb_use hT tw_1422) (fun _ h9 => h9) (mfs_g31 _ _) dX14_isWrong_566 ?_
  refine lv_bipush (v := 6) hx hb dX14_isWrong_569 (by decide) ?_
  refine lv_iload hx hb dX14_isWrong_571 (lv_at hl 0 rfl) ?_
  refine lv_imul hx hb dX14_isWrong_573 ?_
  refine lv_iload_n hx hb dX14_isWrong_574 rfl (lv_at hl 3 rfl) ?_
  refine lv_iadd hx hb dX14_isWrong_575 ?_
  refine mm_iald (n := 12) (f := F 31) hx hb hK hG 1 (hM.2.1 31 rfl) rfl (by rw [show (6 : Int32) * nI bo + nI (a9) = nI (6 * bo + (a9)) from nI_ma 6 bo (a9)]; exact nI_in (N := 12) (by omega) (by decide)) dX14_isWrong_576 ?_
  refine lv_topi (fun x1 ex1 => ?_)
  refine va_calli (va_runV (As := [.int (nI bo), .int x1]) (rest := []) ⟨hx, hb, hml, hown, (fun _ h9 => absurd h9 List.not_mem_nil : ∀ w ∈ ([] : List Cond), w.before _ s = true)⟩ (c_M_layerAt l D cy A X hst hXT G o Ar Iv F L bo v9.nL x1 hM hbl hb1.1 hb1.2.1) (tb_cw (C := RX14) 2 hT tw_1786 tw_109 tw_1783 tw_1785 tw_90 rfl rfl hq_X14_layerAt ⟨Nat.le_of_ble_eq_true rfl, Nat.le_of_ble_eq_true rfl⟩) (mk_preC hst hG hK hA hX hS vc_15 hM.1) rfl rfl hl.1 rfl (lv_room (Nat.le_of_ble_eq_true rfl)) dX14_isWrong_577 ⟨Nat.le_of_ble_eq_true rfl, Nat.le_of_ble_eq_true rfl⟩) hS (fun q _ h => h) (fun q h => h) (fun r2 G3 t H locs ht hvm hw hB hz1 hk1 hS => ?_)
  have hG : mm D vwCl A G3 H := by rw [← ht]; exact hB
  clear hB hz1 hk1 hvm ht
  obtain ⟨er2, hw⟩ := hw
  rw [hw] at hG
  refine lv_if_ge (tgt := 587) hx hb dX14_isWrong_580 (by decide) (fun c_580 => ?_) (fun c_580 => ?_)
  · skip
    refine lv_iconst (v := 0) hx hb dX14_isWrong_587 (by decide) ?_
    have hxa : x1 = F 31 (6 * bo + (a9)) := by rw [ex1, show (6 : Int32) * nI bo + nI (a9) = nI (6 * bo + (a9)) from nI_ma 6 bo (a9), nI_clamp (by omega)]
    have hfo : r2 = opI (lyN v9 (v9.V a9).2.2.1) := by rw [er2, hxa]; exact hb1.at hn30 hna
    rw [hfo] at c_580
    have hlt9 : ∀ k, lyN v9 (v9.V a9).2.2.1 = some k → k < 2 ^ 31 := fun k hk => by have := lyN_lt hk; omega
    obtain ⟨O9, hO9⟩ : ∃ y, lyN v9 (v9.V a9).2.2.1 = y := ⟨_, rfl⟩
    exact W.zret (v := 0) hx hb hr rfl (fun t ht hW => ⟨⟨_, _, rfl, ⟨(by obtain ⟨k, hk⟩ := (opI_ge hlt9).mp c_580; rw [hk]; rfl), rfl⟩, mk_end hG ht⟩, hS.F ht⟩) hS.2.2 dX14_isWrong_588
  · skip
    refine lv_iconst (v := 1) hx hb dX14_isWrong_583 (by decide) ?_
    refine lv_goto (tgt := 588) hx hb dX14_isWrong_584 (by decide) ?_
    have hxa : x1 = F 31 (6 * bo + (a9)) := by rw [ex1, show (6 : Int32) * nI bo + nI (a9) = nI (6 * bo + (a9)) from nI_ma 6 bo (a9), nI_clamp (by omega)]
    have hfo : r2 = opI (lyN v9 (v9.V a9).2.2.1) := by rw [er2, hxa]; exact hb1.at hn30 hna
    rw [hfo] at c_580
    have hlt9 : ∀ k, lyN v9 (v9.V a9).2.2.1 = some k → k < 2 ^ 31 := fun k hk => by have := lyN_lt hk; omega
    obtain ⟨O9, hO9⟩ : ∃ y, lyN v9 (v9.V a9).2.2.1 = y := ⟨_, rfl⟩
    exact W.zret (v := 1) hx hb hr rfl (fun t ht hW => ⟨⟨_, _, rfl, ⟨(by cases hq : lyN v9 (v9.V a9).2.2.1 with | none => rfl | some k => exact absurd ((opI_ge hlt9).mpr ⟨k, hq⟩) c_580), rfl⟩, mk_end hG ht⟩, hS.F ht⟩) hS.2.2 dX14_isWrong_588
