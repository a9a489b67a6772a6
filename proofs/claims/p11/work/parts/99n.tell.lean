set_option maxHeartbeats 4000000 in
set_option maxRecDepth 100000 in
theorem c_P_groups (l : Launch) (D : va_G) (cy : Nat → ClassId) (A : Nat → Prop) (X : State → Prop) (hst : mk_St A X) (hXT : ∀ U : State, X U → TB U) (e0 : Nat) (tk : Nat → Nat) (hXE : ∀ U : State, X U → ES e0 tk A U) (mi : Nat) (hXL : ∀ U : State, X U → EL e0 mi A U) (ax adK adV : Nat → Nat) (hXX : ∀ U : State, X U → TX ax adK adV tk A U) (G : Nat → Option va_E) (G0 : Nat → Option va_E) (Bx : Nat → Prop) (v : EdV) (z : PtV) (LA EA : Nat → Nat) (AD : Nat → Nat → Nat) (PI : Nat → Nat) (c9 : Nat) (P9 : PdT) (p9 : Nat) (hP : EDP cy e0 tk G0 Bx G v (z.r_pd c9 P9) LA EA AD PI) (hZ : ZF v AD z) (hc9 : c9 < v.nS) (hp9 : p9 < v.nP c9) : Met l yX8_groups [.code yX8_groups cX8_groups 1 (some .int)] ({ frames := 1, cells := 0, slots := 0, locals := 30 }) (mk_Pre D vwCl (tyL cy) A X G [.ref (AD (20 + c9) p9)]) (va_Qi (fun (r : Int32) (G2 : Nat → Option va_E) => r = nI (grN v c9 p9 P9) ∧ G2 = G) (mk_B D vwCl A) A) 0 0 A := by
  refine Met.ofW (cc := cX8_groups) (maxL := 1) (ret := (some .int)) (by decide) rfl ?_
  intro p e s m args below meth c s₁ B hml hv
  obtain ⟨rfl, hG, hK, hA, hX⟩ := hv
  have hx := B.exec
  have hb := B.bytes
  have hr := B.returns
  have hlocks := B.notSynchronized
  have hT := hXT s hX
  have hown : s.vm.findClass RX8 = some m.cls := findClass_of_methodNamed B.named
  have hf_X8 : ∀ w ∈ u_ws RX8 TX8 15, w.before ([.ref (AD (20 + c9) p9)] : List Value).toArray s = true := tb_list hT fX8
  have hS : va_S A s.heap s.heap [] := va_S.rf
  have hE := hXE s hX
  have hl := lv_entry ([.ref (AD (20 + c9) p9)]) (n := 1) (Nat.le_of_ble_eq_true rfl)
  rw [lg_entry_eq]
  generalize (lg_sl ([.ref (AD (20 + c9) p9)]) ++ List.replicate (1 - (lg_sl ([.ref (AD (20 + c9) p9)])).length) Slot.unset).toArray = ls at hl ⊢
  have hl : lv_has ls 1 [(0, .ref (AD (20 + c9) p9))] := hl
  have hQ := hXX s hX
  refine lv_aload_n hx hb dX8_groups_0 rfl (lv_at hl 0 rfl) ?_
  have k21 : G (AD (20 + c9) p9) = some (.inr (9, [.int (nI (p9 + 1)), .int ((v.P c9 p9).1), .long ((v.P c9 p9).2.1), .long ((v.P c9 p9).2.2.1), .int ((v.P c9 p9).2.2.2.1), va_rf ((cdN v ((v.P c9 p9).2.2.1)).map (AD 0)), .int ((v.P c9 p9).2.2.2.2.1), .long ((v.P c9 p9).2.2.2.2.2.1), .int ((v.P c9 p9).2.2.2.2.2.2.1), va_rf ((peI v c9 p9).map (AD (20 + c9))), .int ((v.P c9 p9).2.2.2.2.2.2.2), .int ((P9 p9).1), .int ((P9 p9).2.1), .long ((P9 p9).2.2.1), .long ((P9 p9).2.2.2)])) := by rw [← (hZ.2.2.1 c9 hc9 p9 hp9).1, ← (hZ.2.2.1 c9 hc9 p9 hp9).2]; have z9 := hP.elP hc9 hp9; rw [r_pd_at] at z9; exact z9
  refine mm_get (v := .int ((v.P c9 p9).2.2.2.2.1)) hx hb hf_X8 (fun _ h9 => h9) hown hK hG k21 rfl 6 (by decide) (tb_use hT tw_788) (fun _ h9 => h9) rfl dX8_groups_1 ?_
  refine lv_if_ne (tgt := 9) hx hb dX8_groups_4 (by decide) (fun c_4 => ?_) (fun c_4 => ?_)
  · skip
    refine lv_aload_n hx hb dX8_groups_9 rfl (lv_at hl 0 rfl) ?_
    refine mm_get (v := va_rf ((peI v c9 p9).map (AD (20 + c9)))) hx hb hf_X8 (fun _ h9 => h9) hown hK hG k21 rfl 9 (by decide) (tb_use hT tw_797) (fun _ h9 => h9) rfl dX8_groups_10 ?_
    obtain ⟨y_hf22, hf22⟩ : ∃ y, peI v c9 p9 = y := ⟨_, rfl⟩
    cases y_hf22 with
    | none =>
      refine W.eq (g2 := F0 m 13 ls [.null]) (by first | rfl | (rw [hf22]; rfl)) ?_
      refine lv_ifnullN (tgt := 26) hx hb dX8_groups_13 (by decide) ?_
      refine lv_iconst (v := 0) hx hb dX8_groups_26 (by decide) ?_
      exact W.iret (v := 0) hx hb hr (fun t ht hW => ⟨⟨_, _, rfl, ⟨(by rw [grN, if_neg c_4, hf22]; rfl), rfl⟩, mk_end hG ht⟩, hS.F ht⟩) hS.2.2 dX8_groups_27
    | some j23 =>
      have hj24 := peI_lt hf22
      refine W.eq (g2 := F0 m 13 ls [.ref (AD (20 + c9) j23)]) (by first | rfl | (rw [hf22]; rfl)) ?_
      refine lv_ifnull hx hb dX8_groups_13 ?_
      refine lv_aload_n hx hb dX8_groups_16 rfl (lv_at hl 0 rfl) ?_
      refine mm_get (v := va_rf ((peI v c9 p9).map (AD (20 + c9)))) hx hb hf_X8 (fun _ h9 => h9) hown hK hG k21 rfl 9 (by decide) (tb_use hT tw_797) (fun _ h9 => h9) rfl dX8_groups_17 ?_
      refine W.eq (g2 := F0 m 20 ls [.ref (AD (20 + c9) j23)]) (by first | rfl | (rw [hf22]; rfl)) ?_
      have k25 : G (AD (20 + c9) j23) = some (.inr (9, [.int (nI (j23 + 1)), .int ((v.P c9 j23).1), .long ((v.P c9 j23).2.1), .long ((v.P c9 j23).2.2.1), .int ((v.P c9 j23).2.2.2.1), va_rf ((cdN v ((v.P c9 j23).2.2.1)).map (AD 0)), .int ((v.P c9 j23).2.2.2.2.1), .long ((v.P c9 j23).2.2.2.2.2.1), .int ((v.P c9 j23).2.2.2.2.2.2.1), va_rf ((peI v c9 j23).map (AD (20 + c9))), .int ((v.P c9 j23).2.2.2.2.2.2.2), .int ((P9 j23).1), .int ((P9 j23).2.1), .long ((P9 j23).2.2.1), .long ((P9 j23).2.2.2)])) := by rw [← (hZ.2.2.1 c9 hc9 j23 hj24).1, ← (hZ.2.2.1 c9 hc9 j23 hj24).2]; have z9 := hP.elP hc9 hj24; rw [r_pd_at] at z9; exact z9
      refine mm_get (v := .int ((P9 j23).2.1)) hx hb hf_X8 (fun _ h9 => h9) hown hK hG k25 rfl 12 (by decide) (tb_use hT tw_806) (fun _ h9 => h9) rfl dX8_groups_20 ?_
      refine lv_if_ne (tgt := 28) hx hb dX8_groups_23 (by decide) (fun c_23 => ?_) (fun c_23 => ?_)
      · skip
        refine lv_aload_n hx hb dX8_groups_28 rfl (lv_at hl 0 rfl) ?_
        refine mm_get (v := .int ((v.P c9 p9).2.2.2.2.1)) hx hb hf_X8 (fun _ h9 => h9) hown hK hG k21 rfl 6 (by decide) (tb_use hT tw_788) (fun _ h9 => h9) rfl dX8_groups_29 ?_
        refine lv_iconst (v := 1) hx hb dX8_groups_32 (by decide) ?_
        refine lv_icmp_ne (tgt := 58) hx hb dX8_groups_33 (by decide) (fun c_33 => ?_) (fun c_33 => ?_)
        · skip
          refine lv_lconst (v := 0) hx hb dX8_groups_58 (by decide) ?_
          refine lv_aload_n hx hb dX8_groups_59 rfl (lv_at hl 0 rfl) ?_
          refine mm_get (v := va_rf ((peI v c9 p9).map (AD (20 + c9)))) hx hb hf_X8 (fun _ h9 => h9) hown hK hG k21 rfl 9 (by decide) (tb_use hT tw_797) (fun _ h9 => h9) rfl dX8_groups_60 ?_
          refine W.eq (g2 := F0 m 63 ls [.ref (AD (20 + c9) j23), .long 0]) (by first | rfl | (rw [hf22]; rfl)) ?_
          refine mm_get (v := .long ((P9 j23).2.2.1)) hx hb hf_X8 (fun _ h9 => h9) hown hK hG k25 rfl 13 (by decide) (tb_use hT tw_809) (fun _ h9 => h9) rfl dX8_groups_63 ?_
          refine lv_ldc2 hx hb hown (tb_use hT tw_1135) dX8_groups_66 ?_
          refine va_calll (va_runS (As := [.long ((P9 j23).2.2.1), .long 8]) (rest := [.long 0]) ⟨hx, hb, hml, hown, (fun _ h9 => absurd h9 List.not_mem_nil : ∀ w ∈ ([] : List Cond), w.before _ s = true)⟩ (c_lmin l D cy A X hst hXT e0 tk hXE G ((P9 j23).2.2.1) 8) (tb_cs 2 hT tw_1138 tw_114 tw_1136 tw_1137 rfl rfl hq_J9_min_f86c9 ⟨Nat.le_of_ble_eq_true rfl, Nat.le_of_ble_eq_true rfl⟩) (mk_preS hst hG hK hA hX hS) rfl rfl hl.1 rfl (lv_room (Nat.le_of_ble_eq_true rfl)) dX8_groups_69 ⟨Nat.le_of_ble_eq_true rfl, Nat.le_of_ble_eq_true rfl⟩) hS (fun q _ h => h) (fun q h => h) (fun r26 G27 t H locs ht hvm hw hB hz1 hk1 hS => ?_)
          have hG : mm D vwCl A G27 H := by rw [← ht]; exact hB
          clear hB hz1 hk1 hvm ht
          obtain ⟨er26, hw⟩ := hw
          rw [hw] at hG
          refine va_calll (va_runS (As := [.long 0, .long r26]) (rest := []) ⟨hx, hb, hml, hown, (fun _ h9 => absurd h9 List.not_mem_nil : ∀ w ∈ ([] : List Cond), w.before _ s = true)⟩ (c_lmax l D cy A X hst hXT e0 tk hXE G 0 r26) (tb_cs 2 hT tw_1141 tw_114 tw_1139 tw_1140 rfl rfl hq_J9_max_f86c9 ⟨Nat.le_of_ble_eq_true rfl, Nat.le_of_ble_eq_true rfl⟩) (mk_preS hst hG hK hA hX hS) rfl rfl hl.1 rfl (lv_room (Nat.le_of_ble_eq_true rfl)) dX8_groups_72 ⟨Nat.le_of_ble_eq_true rfl, Nat.le_of_ble_eq_true rfl⟩) hS (fun q _ h => h) (fun q h => h) (fun r28 G29 t H locs ht hvm hw hB hz1 hk1 hS => ?_)
          have hG : mm D vwCl A G29 H := by rw [← ht]; exact hB
          clear hB hz1 hk1 hvm ht
          obtain ⟨er28, hw⟩ := hw
          rw [hw] at hG
          obtain ⟨x30, ex30⟩ : ∃ y, y = (r28 : Int64).toInt32 := ⟨_, rfl⟩
          refine lv_l2i (v := x30) hx hb dX8_groups_75 ex30.symm ?_
          exact W.iret (v := x30) hx hb hr (fun t ht hW => ⟨⟨_, _, rfl, ⟨(by rw [grN, if_neg c_4, hf22]; simp only []; rw [if_neg c_23, if_neg c_33, ← (clN_ok _).1, ex30, er28, er26]), rfl⟩, mk_end hG ht⟩, hS.F ht⟩) hS.2.2 dX8_groups_76
        · skip
          refine lv_aload_n hx hb dX8_groups_36 rfl (lv_at hl 0 rfl) ?_
          refine mm_get (v := va_rf ((peI v c9 p9).map (AD (20 + c9)))) hx hb hf_X8 (fun _ h9 => h9) hown hK hG k21 rfl 9 (by decide) (tb_use hT tw_797) (fun _ h9 => h9) rfl dX8_groups_37 ?_
          refine W.eq (g2 := F0 m 40 ls [.ref (AD (20 + c9) j23)]) (by first | rfl | (rw [hf22]; rfl)) ?_
          refine mm_get (v := .long ((P9 j23).2.2.1)) hx hb hf_X8 (fun _ h9 => h9) hown hK hG k25 rfl 13 (by decide) (tb_use hT tw_809) (fun _ h9 => h9) rfl dX8_groups_40 ?_
          refine lv_aload_n hx hb dX8_groups_43 rfl (lv_at hl 0 rfl) ?_
          refine mm_get (v := .int ((v.P c9 p9).2.2.2.2.2.2.2)) hx hb hf_X8 (fun _ h9 => h9) hown hK hG k21 rfl 10 (by decide) (tb_use hT tw_800) (fun _ h9 => h9) rfl dX8_groups_44 ?_
          obtain ⟨x31, ex31⟩ : ∃ y, y = ((v.P c9 p9).2.2.2.2.2.2.2 : Int32).toInt64 := ⟨_, rfl⟩
          refine lv_i2l (v := x31) hx hb dX8_groups_47 ex31.symm ?_
          refine W.lcmp hx hb dX8_groups_48 ?_
          refine lv_if_ne (tgt := 56) hx hb dX8_groups_49 (by decide) (fun c_49 => ?_) (fun c_49 => ?_)
          · skip
            refine lv_iconst (v := 0) hx hb dX8_groups_56 (by decide) ?_
            exact W.iret (v := 0) hx hb hr (fun t ht hW => ⟨⟨_, _, rfl, ⟨(by rw [grN, if_neg c_4, hf22]; simp only []; rw [if_neg c_23, if_pos c_33, if_neg (fun z => c_49 ((lg_cmp_eq _ _).mpr (by rw [ex31]; exact z)))]; rfl), rfl⟩, mk_end hG ht⟩, hS.F ht⟩) hS.2.2 dX8_groups_57
          · skip
            refine lv_iconst (v := 1) hx hb dX8_groups_52 (by decide) ?_
            refine lv_goto (tgt := 57) hx hb dX8_groups_53 (by decide) ?_
            exact W.iret (v := 1) hx hb hr (fun t ht hW => ⟨⟨_, _, rfl, ⟨(by rw [grN, if_neg c_4, hf22]; simp only []; rw [if_neg c_23, if_pos c_33, if_pos (by rw [← ex31]; exact (lg_cmp_eq _ _).mp c_49)]; rfl), rfl⟩, mk_end hG ht⟩, hS.F ht⟩) hS.2.2 dX8_groups_57
      · skip
        refine lv_iconst (v := 0) hx hb dX8_groups_26 (by decide) ?_
        exact W.iret (v := 0) hx hb hr (fun t ht hW => ⟨⟨_, _, rfl, ⟨(by rw [grN, if_neg c_4, hf22]; simp only []; rw [if_pos c_23]; rfl), rfl⟩, mk_end hG ht⟩, hS.F ht⟩) hS.2.2 dX8_groups_27
  · skip
    refine lv_iconst (v := 1) hx hb dX8_groups_7 (by decide) ?_
    exact W.iret (v := 1) hx hb hr (fun t ht hW => ⟨⟨_, _, rfl, ⟨(by rw [grN, if_pos c_4]; rfl), rfl⟩, mk_end hG ht⟩, hS.F ht⟩) hS.2.2 dX8_groups_8

set_option maxHeartbeats 4000000 in
set_option maxRecDepth 100000 in
theorem c_P_wanted (l : Launch) (D : va_G) (cy : Nat → ClassId) (A : Nat → Prop) (X : State → Prop) (hst : mk_St A X) (hXT : ∀ U : State, X U → TB U) (e0 : Nat) (tk : Nat → Nat) (hXE : ∀ U : State, X U → ES e0 tk A U) (mi : Nat) (hXL : ∀ U : State, X U → EL e0 mi A U) (ax adK adV : Nat → Nat) (hXX : ∀ U : State, X U → TX ax adK adV tk A U) (G : Nat → Option va_E) (G0 : Nat → Option va_E) (Bx : Nat → Prop) (v : EdV) (z : PtV) (LA EA : Nat → Nat) (AD : Nat → Nat → Nat) (PI : Nat → Nat) (c9 : Nat) (P9 : PdT) (p9 : Nat) (hP : EDP cy e0 tk G0 Bx G v (z.r_pd c9 P9) LA EA AD PI) (hZ : ZF v AD z) (hc9 : c9 < v.nS) (hp9 : p9 < v.nP c9) (hWd : WDv v) : Met l yX8_wantedSize [.code yX8_wantedSize cX8_wantedSize 1 (some .int)] ({ frames := 2, cells := 0, slots := 0, locals := 90 }) (mk_Pre D vwCl (tyL cy) A X G [.ref (AD (20 + c9) p9)]) (va_Qi (fun (r : Int32) (G2 : Nat → Option va_E) => r = nI (wsN v c9 p9 P9) ∧ G2 = G) (mk_B D vwCl A) A) 0 0 A := by
  refine Met.ofW (cc := cX8_wantedSize) (maxL := 1) (ret := (some .int)) (by decide) rfl ?_
  intro p e s m args below meth c s₁ B hml hv
  obtain ⟨rfl, hG, hK, hA, hX⟩ := hv
  have hx := B.exec
  have hb := B.bytes
  have hr := B.returns
  have hlocks := B.notSynchronized
  have hT := hXT s hX
  have hown : s.vm.findClass RX8 = some m.cls := findClass_of_methodNamed B.named
  have hf_X8 : ∀ w ∈ u_ws RX8 TX8 15, w.before ([.ref (AD (20 + c9) p9)] : List Value).toArray s = true := tb_list hT fX8
  have hf_X1 : ∀ w ∈ u_ws RX1 TX1 10, w.before ([.ref (AD (20 + c9) p9)] : List Value).toArray s = true := tb_list hT fX1
  have hS : va_S A s.heap s.heap [] := va_S.rf
  have hE := hXE s hX
  have hl := lv_entry ([.ref (AD (20 + c9) p9)]) (n := 1) (Nat.le_of_ble_eq_true rfl)
  rw [lg_entry_eq]
  generalize (lg_sl ([.ref (AD (20 + c9) p9)]) ++ List.replicate (1 - (lg_sl ([.ref (AD (20 + c9) p9)])).length) Slot.unset).toArray = ls at hl ⊢
  have hl : lv_has ls 1 [(0, .ref (AD (20 + c9) p9))] := hl
  have hQ := hXX s hX
  refine lv_aload_n hx hb dX8_wantedSize_0 rfl (lv_at hl 0 rfl) ?_
  have k21 : G (AD (20 + c9) p9) = some (.inr (9, [.int (nI (p9 + 1)), .int ((v.P c9 p9).1), .long ((v.P c9 p9).2.1), .long ((v.P c9 p9).2.2.1), .int ((v.P c9 p9).2.2.2.1), va_rf ((cdN v ((v.P c9 p9).2.2.1)).map (AD 0)), .int ((v.P c9 p9).2.2.2.2.1), .long ((v.P c9 p9).2.2.2.2.2.1), .int ((v.P c9 p9).2.2.2.2.2.2.1), va_rf ((peI v c9 p9).map (AD (20 + c9))), .int ((v.P c9 p9).2.2.2.2.2.2.2), .int ((P9 p9).1), .int ((P9 p9).2.1), .long ((P9 p9).2.2.1), .long ((P9 p9).2.2.2)])) := by rw [← (hZ.2.2.1 c9 hc9 p9 hp9).1, ← (hZ.2.2.1 c9 hc9 p9 hp9).2]; have z9 := hP.elP hc9 hp9; rw [r_pd_at] at z9; exact z9
  refine mm_get (v := va_rf ((cdN v ((v.P c9 p9).2.2.1)).map (AD 0))) hx hb hf_X8 (fun _ h9 => h9) hown hK hG k21 rfl 5 (by decide) (tb_use hT tw_783) (fun _ h9 => h9) rfl dX8_wantedSize_1 ?_
  obtain ⟨y_hf22, hf22⟩ : ∃ y, cdN v ((v.P c9 p9).2.2.1) = y := ⟨_, rfl⟩
  cases y_hf22 with
  | none =>
    refine W.eq (g2 := F0 m 4 ls [.null]) (by first | rfl | (rw [hf22]; rfl)) ?_
    refine lv_ifnonnullN hx hb dX8_wantedSize_4 ?_
    refine lv_iconst (v := 0) hx hb dX8_wantedSize_7 (by decide) ?_
    refine lv_goto (tgt := 23) hx hb dX8_wantedSize_8 (by decide) ?_
    exact W.iret (v := 0) hx hb hr (fun t ht hW => ⟨⟨_, _, rfl, ⟨(by rw [wsN, hf22]; rfl), rfl⟩, mk_end hG ht⟩, hS.F ht⟩) hS.2.2 dX8_wantedSize_23
  | some j23 =>
    have hj24 := cdN_lt hf22
    refine W.eq (g2 := F0 m 4 ls [.ref (AD 0 j23)]) (by first | rfl | (rw [hf22]; rfl)) ?_
    refine lv_ifnonnull (tgt := 11) hx hb dX8_wantedSize_4 (by decide) ?_
    refine lv_aload_n hx hb dX8_wantedSize_11 rfl (lv_at hl 0 rfl) ?_
    refine va_calli (va_runV (As := []) (rest := []) ⟨hx, hb, hml, hown, (fun _ h9 => absurd h9 List.not_mem_nil : ∀ w ∈ ([] : List Cond), w.before _ s = true)⟩ (c_P_groups l D cy A X hst hXT e0 tk hXE mi hXL ax adK adV hXX G G0 Bx v z LA EA AD PI c9 P9 p9 hP hZ hc9 hp9) (tb_cw (C := RX8) 0 hT tw_1134 tw_129 tw_1131 tw_1133 tw_48 rfl rfl hq_X8_groups ⟨Nat.le_of_ble_eq_true rfl, Nat.le_of_ble_eq_true rfl⟩) (mk_preC hst hG hK hA hX hS vc_9 k21) rfl rfl hl.1 rfl (lv_room (Nat.le_of_ble_eq_true rfl)) dX8_wantedSize_12 ⟨Nat.le_of_ble_eq_true rfl, Nat.le_of_ble_eq_true rfl⟩) hS (fun q _ h => h) (fun q h => h) (fun r25 G26 t H locs ht hvm hw hB hz1 hk1 hS => ?_)
    have hG : mm D vwCl A G26 H := by rw [← ht]; exact hB
    clear hB hz1 hk1 hvm ht
    obtain ⟨er25, hw⟩ := hw
    rw [hw] at hG
    refine lv_aload_n hx hb dX8_wantedSize_15 rfl (lv_at hl 0 rfl) ?_
    refine mm_get (v := va_rf ((cdN v ((v.P c9 p9).2.2.1)).map (AD 0))) hx hb hf_X8 (fun _ h9 => h9) hown hK hG k21 rfl 5 (by decide) (tb_use hT tw_783) (fun _ h9 => h9) rfl dX8_wantedSize_16 ?_
    refine W.eq (g2 := F0 m 19 ls [.ref (AD 0 j23), .int r25]) (by first | rfl | (rw [hf22]; rfl)) ?_
    have k27 : G (AD 0 j23) = some (.inr (2, [.int (nI (j23 + 1)), .int ((v.C j23).1.1), .long ((v.C j23).1.2.1), .ref (LA (6 + j23)), .int ((v.C j23).1.2.2), .int ((v.C j23).2.1), .int ((v.C j23).2.2.1), .long ((v.C j23).2.2.2.1), .long ((v.C j23).2.2.2.2.1), .long ((v.C j23).2.2.2.2.2)])) := hP.elC hj24
    refine mm_getN (v := .int ((v.C j23).1.2.2)) hx hb hf_X1 (fun _ h9 => h9) hown hK hG k27 rfl 4 (by decide) (tb_use hT tw_501) (fun _ h9 => h9) rfl dX8_wantedSize_19 ?_
    refine lv_imul hx hb dX8_wantedSize_22 ?_
    exact W.iret (v := (r25 * (v.C j23).1.2.2)) hx hb hr (fun t ht hW => ⟨⟨_, _, rfl, ⟨(by rw [wsN, hf22]; simp only []; rw [er25, (hWd j23 hj24).1, mul_nI]), rfl⟩, mk_end hG ht⟩, hS.F ht⟩) hS.2.2 dX8_wantedSize_23

theorem fgF_succ {P : PdT} {j : Nat} : up1 (fgF j P) j (0, 0, 0, (fgF j P j).2.2.2) = fgF (j + 1) P := by
  funext i
  unfold up1 fgF
  by_cases h : i = j
  · rw [if_pos h, if_neg (Nat.lt_irrefl j), if_pos (by omega), h]
  · rw [if_neg h]
    by_cases h2 : i < j
    · rw [if_pos h2, if_pos (by omega)]
    · rw [if_neg h2, if_neg (by omega)]
theorem fgF_0 {P : PdT} : fgF 0 P = P := by
  funext i
  unfold fgF
  rw [if_neg (Nat.not_lt_zero i)]
set_option maxHeartbeats 4000000 in
set_option maxRecDepth 100000 in
theorem c_P_forget (l : Launch) (D : va_G) (cy : Nat → ClassId) (A : Nat → Prop) (X : State → Prop) (hst : mk_St A X) (hXT : ∀ U : State, X U → TB U) (e0 : Nat) (tk : Nat → Nat) (hXE : ∀ U : State, X U → ES e0 tk A U) (mi : Nat) (hXL : ∀ U : State, X U → EL e0 mi A U) (ax adK adV : Nat → Nat) (hXX : ∀ U : State, X U → TX ax adK adV tk A U) (G : Nat → Option va_E) (G0 : Nat → Option va_E) (Bx : Nat → Prop) (v : EdV) (z : PtV) (LA EA : Nat → Nat) (AD : Nat → Nat → Nat) (PI : Nat → Nat) (c9 : Nat) (P9 : PdT) (hP : EDP cy e0 tk G0 Bx G v (z.r_pd c9 P9) LA EA AD PI) (hZ : ZF v AD z) (hc9 : c9 < v.nS) : Met l yX10_forget [.code yX10_forget cX10_forget 2 none] ({ frames := 3, cells := 0, slots := 0, locals := 90 }) (mk_Pre D vwCl (tyL cy) A X G [.ref (AD 2 c9)]) (va_Qv (fun (G2 : Nat → Option va_E) => EDP cy e0 tk G0 Bx G2 v (z.r_pd c9 (fgF (v.nP c9) P9)) LA EA AD PI ∧ ∀ (x : Nat) (e : va_E), G x = some e → (∀ i, i < v.nP c9 → x ≠ AD (20 + c9) i) → G2 x = some e) (mk_B D vwCl A) A) 0 0 A := by
  refine Met.ofW (cc := cX10_forget) (maxL := 2) (ret := none) (by decide) rfl ?_
  intro p e s m args below meth c s₁ B hml hv
  obtain ⟨rfl, hG, hK, hA, hX⟩ := hv
  have hx := B.exec
  have hb := B.bytes
  have hr := B.returns
  have hlocks := B.notSynchronized
  have hT := hXT s hX
  have hown : s.vm.findClass RX10 = some m.cls := findClass_of_methodNamed B.named
  have hf_X10 : ∀ w ∈ u_ws RX10 TX10 6, w.before ([.ref (AD 2 c9)] : List Value).toArray s = true := tb_list hT fX10
  have hS : va_S A s.heap s.heap [] := va_S.rf
  have hE := hXE s hX
  have hl := lv_entry ([.ref (AD 2 c9)]) (n := 2) (Nat.le_of_ble_eq_true rfl)
  rw [lg_entry_eq]
  generalize (lg_sl ([.ref (AD 2 c9)]) ++ List.replicate (2 - (lg_sl ([.ref (AD 2 c9)])).length) Slot.unset).toArray = ls at hl ⊢
  have hl : lv_has ls 2 [(0, .ref (AD 2 c9))] := hl
  have hQ := hXX s hX
  have hloop : ∀ (n : Nat) (j9 : Nat), (n + j9 = v.nP c9) → ∀ (Gv : Nat → Option va_E), (EDP cy e0 tk G0 Bx Gv v (z.r_pd c9 (fgF j9 P9)) LA EA AD PI) → (∀ (x : Nat) (e : va_E), G x = some e → (∀ i, i < v.nP c9 → x ≠ AD (20 + c9) i) → Gv x = some e) → ∀ (H : Heap) (locs : List Loc), mm D vwCl A Gv H → va_S A s.heap H locs → ∀ ls : Array Slot, lv_has ls 2 [(0, .ref (AD 2 c9)), (1, .int (nI j9))] → W p l e (headSpec [.code yX10_forget cX10_forget 2 none] ({ frames := 3, cells := 0, slots := 0, locals := 90 })).room s m ([.ref (AD 2 c9)] : List Value).toArray below meth c H locs 0 0 (MQ below (va_Qv (fun (G2 : Nat → Option va_E) => EDP cy e0 tk G0 Bx G2 v (z.r_pd c9 (fgF (v.nP c9) P9)) LA EA AD PI ∧ ∀ (x : Nat) (e : va_E), G x = some e → (∀ i, i < v.nP c9 → x ≠ AD (20 + c9) i) → G2 x = some e) (mk_B D vwCl A) A) ([.ref (AD 2 c9)] : List Value).toArray s 0 0 A) (F0 m 2 ls []) := by
    intro n
    induction n with
    | zero =>
      intro j9 hjn Gv hP hfs H locs hG hS ls hl
      have hbb := hP.b
      have hb2 := (hP.lsP hc9).le
      refine lv_iload_n hx hb dX10_forget_2 rfl (lv_at hl 1 rfl) ?_
      refine lv_aload_n hx hb dX10_forget_3 rfl (lv_at hl 0 rfl) ?_
      have k21 : Gv (AD 2 c9) = some (.inr (11, [.int (nI (c9 + 1)), .ref (AD 1 (v.S c9).1), .int ((v.S c9).2.1), .long ((v.S c9).2.2.1), .ref (LA (20 + c9)), .int ((v.S c9).2.2.2)])) := hP.elS hc9
      refine mm_get (v := .ref (LA (20 + c9))) hx hb hf_X10 (fun _ h9 => h9) hown hK hG k21 rfl 4 (by decide) (tb_use hT tw_738) (fun _ h9 => h9) rfl dX10_forget_4 ?_
      obtain ⟨mo22, h_mo22, -⟩ := id (hP.lsP hc9)
      refine va_calli (va_runV (As := []) (rest := [.int (nI j9)]) ⟨hx, hb, hml, hown, (fun _ h9 => absurd h9 List.not_mem_nil : ∀ w ∈ ([] : List Cond), w.before _ s = true)⟩ (c_LS_size l D cy A X hst hXT e0 tk hXE mi hXL Gv (LA (20 + c9)) (EA (20 + c9)) (v.nP c9) (AD (20 + c9)) (hP.lsP hc9)) (tb_cw (C := RJx4a65c) 0 hT tw_457 tw_113 tw_1048 tw_455 tw_456 rfl rfl hq_Jx4a65c_size_8abf5 ⟨Nat.le_of_ble_eq_true rfl, Nat.le_of_ble_eq_true rfl⟩) (mk_preC hst hG hK hA hX hS vc_1 h_mo22) rfl rfl hl.1 rfl (lv_room (Nat.le_of_ble_eq_true rfl)) dX10_forget_7 ⟨Nat.le_of_ble_eq_true rfl, Nat.le_of_ble_eq_true rfl⟩) hS (fun q _ h => h) (fun q h => h) (fun r23 G24 t H locs ht hvm hw hB hz1 hk1 hS => ?_)
      have hG : mm D vwCl A G24 H := by rw [← ht]; exact hB
      clear hB hz1 hk1 hvm ht
      obtain ⟨rfl, hw⟩ := hw
      rw [hw] at hG
      refine lv_icmp_ge (tgt := 36) hx hb dX10_forget_10 (by decide) (fun c_10 => ?_) (fun c_10 => ?_)
      · skip
        have hj9 : j9 = v.nP c9 := by omega
        rw [hj9] at hP
        exact W.vret hx hb hr (fun t ht hW => ⟨⟨_, rfl, ⟨hP, hfs⟩, mk_end hG ht⟩, hS.F ht⟩) hS.2.2 dX10_forget_36
      · skip
        exact absurd (by rw [show j9 = v.nP c9 by omega]; exact Int32.le_refl _) c_10
    | succ n ih =>
      intro j9 hjn Gv hP hfs H locs hG hS ls hl
      have hbb := hP.b
      have hb2 := (hP.lsP hc9).le
      refine lv_iload_n hx hb dX10_forget_2 rfl (lv_at hl 1 rfl) ?_
      refine lv_aload_n hx hb dX10_forget_3 rfl (lv_at hl 0 rfl) ?_
      have k25 : Gv (AD 2 c9) = some (.inr (11, [.int (nI (c9 + 1)), .ref (AD 1 (v.S c9).1), .int ((v.S c9).2.1), .long ((v.S c9).2.2.1), .ref (LA (20 + c9)), .int ((v.S c9).2.2.2)])) := hP.elS hc9
      refine mm_get (v := .ref (LA (20 + c9))) hx hb hf_X10 (fun _ h9 => h9) hown hK hG k25 rfl 4 (by decide) (tb_use hT tw_738) (fun _ h9 => h9) rfl dX10_forget_4 ?_
      obtain ⟨mo26, h_mo26, -⟩ := id (hP.lsP hc9)
      refine va_calli (va_runV (As := []) (rest := [.int (nI j9)]) ⟨hx, hb, hml, hown, (fun _ h9 => absurd h9 List.not_mem_nil : ∀ w ∈ ([] : List Cond), w.before _ s = true)⟩ (c_LS_size l D cy A X hst hXT e0 tk hXE mi hXL Gv (LA (20 + c9)) (EA (20 + c9)) (v.nP c9) (AD (20 + c9)) (hP.lsP hc9)) (tb_cw (C := RJx4a65c) 0 hT tw_457 tw_113 tw_1048 tw_455 tw_456 rfl rfl hq_Jx4a65c_size_8abf5 ⟨Nat.le_of_ble_eq_true rfl, Nat.le_of_ble_eq_true rfl⟩) (mk_preC hst hG hK hA hX hS vc_1 h_mo26) rfl rfl hl.1 rfl (lv_room (Nat.le_of_ble_eq_true rfl)) dX10_forget_7 ⟨Nat.le_of_ble_eq_true rfl, Nat.le_of_ble_eq_true rfl⟩) hS (fun q _ h => h) (fun q h => h) (fun r27 G28 t H locs ht hvm hw hB hz1 hk1 hS => ?_)
      have hG : mm D vwCl A G28 H := by rw [← ht]; exact hB
      clear hB hz1 hk1 hvm ht
      obtain ⟨rfl, hw⟩ := hw
      rw [hw] at hG
      refine lv_icmp_ge (tgt := 36) hx hb dX10_forget_10 (by decide) (fun c_10 => ?_) (fun c_10 => ?_)
      · skip
        exact absurd c_10 (nI_ge (by omega) (by omega))
      · skip
        refine lv_aload_n hx hb dX10_forget_13 rfl (lv_at hl 0 rfl) ?_
        refine mm_get (v := .ref (LA (20 + c9))) hx hb hf_X10 (fun _ h9 => h9) hown hK hG k25 rfl 4 (by decide) (tb_use hT tw_738) (fun _ h9 => h9) rfl dX10_forget_14 ?_
        refine lv_iload_n hx hb dX10_forget_17 rfl (lv_at hl 1 rfl) ?_
        have hj29 : j9 < (v.nP c9) := by omega
        obtain ⟨mo30, h_mo30, -⟩ := id (hP.lsP hc9)
        refine va_callq (va_runV (As := [.int (nI j9)]) (rest := []) ⟨hx, hb, hml, hown, (fun _ h9 => absurd h9 List.not_mem_nil : ∀ w ∈ ([] : List Cond), w.before _ s = true)⟩ (c_LS_get l D cy A X hst hXT e0 tk hXE mi hXL Gv (LA (20 + c9)) (EA (20 + c9)) (v.nP c9) (AD (20 + c9)) j9 (hP.lsP hc9) hj29) (tb_cw (C := RJx4a65c) 1 hT tw_942 tw_113 tw_1049 tw_940 tw_941 rfl rfl hq_Jx4a65c_get_915e3 ⟨Nat.le_of_ble_eq_true rfl, Nat.le_of_ble_eq_true rfl⟩) (mk_preC hst hG hK hA hX hS vc_1 h_mo30) rfl rfl hl.1 rfl (lv_room (Nat.le_of_ble_eq_true rfl)) dX10_forget_18 ⟨Nat.le_of_ble_eq_true rfl, Nat.le_of_ble_eq_true rfl⟩) hS (fun q _ h => h) (fun q h => h) (fun r31 G32 t H locs ht hvm hw hB hz1 hk1 hS => ?_)
        have hG : mm D vwCl A G32 H := by rw [← ht]; exact hB
        clear hB hz1 hk1 hvm ht
        obtain ⟨rfl, hw⟩ := hw
        rw [hw] at hG
        refine W.eq (g2 := F0 m 21 ls [.ref (AD (20 + c9) j9)]) rfl ?_
        have k33 : Gv (AD (20 + c9) j9) = some (.inr (9, [.int (nI (j9 + 1)), .int ((v.P c9 j9).1), .long ((v.P c9 j9).2.1), .long ((v.P c9 j9).2.2.1), .int ((v.P c9 j9).2.2.2.1), va_rf ((cdN v ((v.P c9 j9).2.2.1)).map (AD 0)), .int ((v.P c9 j9).2.2.2.2.1), .long ((v.P c9 j9).2.2.2.2.2.1), .int ((v.P c9 j9).2.2.2.2.2.2.1), va_rf ((peI v c9 j9).map (AD (20 + c9))), .int ((v.P c9 j9).2.2.2.2.2.2.2), .int (((fgF j9 P9) j9).1), .int (((fgF j9 P9) j9).2.1), .long (((fgF j9 P9) j9).2.2.1), .long (((fgF j9 P9) j9).2.2.2)])) := by rw [← (hZ.2.2.1 c9 hc9 j9 hj29).1, ← (hZ.2.2.1 c9 hc9 j9 hj29).2]; have z9 := hP.elP hc9 hj29; rw [r_pd_at] at z9; exact z9
        refine va_castS hx hb hown (tb_use hT tw_1050) (hK.1 9 _ rfl).2 (va_recv hK (hG.one k33) (q := (RX8, TX8, 15)) rfl (q0 := 0) rfl) dX10_forget_21 ?_
        refine lv_iconst (v := 0) hx hb dX10_forget_24 (by decide) ?_
        refine lv_iconst (v := 0) hx hb dX10_forget_25 (by decide) ?_
        refine lv_lconst (v := 0) hx hb dX10_forget_26 (by decide) ?_
        refine va_callv (va_runV (As := [.int 0, .int 0, .long 0]) (rest := []) ⟨hx, hb, hml, hown, (fun _ h9 => absurd h9 List.not_mem_nil : ∀ w ∈ ([] : List Cond), w.before _ s = true)⟩ (c_X8_lay l D cy A X hst hXT e0 tk hXE Gv (AD (20 + c9) j9) (nI (j9 + 1)) ((v.P c9 j9).1) ((v.P c9 j9).2.2.2.1) ((v.P c9 j9).2.2.2.2.1) ((v.P c9 j9).2.2.2.2.2.2.1) ((v.P c9 j9).2.2.2.2.2.2.2) (((fgF j9 P9) j9).1) (((fgF j9 P9) j9).2.1) ((v.P c9 j9).2.1) ((v.P c9 j9).2.2.1) ((v.P c9 j9).2.2.2.2.2.1) (((fgF j9 P9) j9).2.2.1) (((fgF j9 P9) j9).2.2.2) ((cdN v ((v.P c9 j9).2.2.1)).map (AD 0)) ((peI v c9 j9).map (AD (20 + c9))) 0 0 0 k33) (tb_cw (C := RX8) 3 hT tw_1122 tw_129 tw_1119 tw_1120 tw_1121 rfl rfl hq_X8_lay ⟨Nat.le_of_ble_eq_true rfl, Nat.le_of_ble_eq_true rfl⟩) (mk_preC hst hG hK hA hX hS vc_9 k33) rfl rfl hl.1 rfl (lv_room (Nat.le_of_ble_eq_true rfl)) dX10_forget_27 ⟨Nat.le_of_ble_eq_true rfl, Nat.le_of_ble_eq_true rfl⟩) hS (fun q _ h => h) (fun q h => h) (fun  G34 t H locs ht hvm hw hB hz1 hk1 hS => ?_)
        have hG : mm D vwCl A G34 H := by rw [← ht]; exact hB
        clear hB hz1 hk1 hvm ht
        have hP35 : EDP cy e0 tk G0 Bx G34 v (z.r_pd c9 (up1 (fgF j9 P9) j9 (0, 0, 0, ((fgF j9 P9) j9).2.2.2))) LA EA AD PI := by
          have z9 := EDP.put_pd hP hc9 hj29 (x := (0, 0, 0, ((fgF j9 P9) j9).2.2.2))
          rw [r_s_pd] at z9
          rw [hw]
          have y1 := (hZ.2.2.1 c9 hc9 j9 hj29).1
          have y2 := (hZ.2.2.1 c9 hc9 j9 hj29).2
          rw [← y1, ← y2]
          exact z9
        have hfs36 : ∀ (x : Nat) (e : va_E), G x = some e → (∀ i, i < v.nP c9 → x ≠ AD (20 + c9) i) → G34 x = some e := fun x e z9 n1 => by rw [hw]; exact mm_set_of (hfs x e z9 n1) (n1 j9 hj29)
        have k37 : G34 (AD 2 c9) = some (.inr (11, [.int (nI (c9 + 1)), .ref (AD 1 (v.S c9).1), .int ((v.S c9).2.1), .long ((v.S c9).2.2.1), .ref (LA (20 + c9)), .int ((v.S c9).2.2.2)])) := by rw [hw]; exact mm_set_of k25 (mm_ne_oo k25 k33 (by decide))
        clear hw
        obtain ⟨x38, ex38⟩ : ∃ y : Int32, y = (nI j9) + 1 := ⟨_, rfl⟩
        refine lv_iinc (v := x38) (lv' := [(1, .int x38), (0, .ref (AD 2 c9))]) hx hb dX10_forget_30 hl (k := 1) rfl (by rw [ex38]; rfl) (by decide) rfl (fun ls hl => ?_)
        refine lv_goto (tgt := 2) hx hb dX10_forget_33 (by decide) ?_
        rw [show x38 = nI (j9 + 1) by rw [ex38]; exact (nI_succ j9).symm] at hl
        have hPq := hP35
        rw [fgF_succ] at hPq
        exact ih (j9 + 1) (by omega) G34 hPq hfs36 _ _ hG hS ls (lv_sub hl [1, 0] rfl)
  refine lv_iconst (v := 0) hx hb dX10_forget_0 (by decide) ?_
  refine lv_istore_n (lv' := [(1, .int 0), (0, .ref (AD 2 c9))]) hx hb dX10_forget_1 rfl hl (by decide) rfl (fun ls hl => ?_)
  exact hloop (v.nP c9) 0 (by omega) G (by rw [fgF_0]; exact hP) (fun x e z _ => z) _ _ hG hS ls (lv_sub hl [1, 0] rfl)

set_option maxHeartbeats 4000000 in
set_option maxRecDepth 100000 in
theorem c_P_tell (l : Launch) (D : va_G) (cy : Nat → ClassId) (A : Nat → Prop) (X : State → Prop) (hst : mk_St A X) (hXT : ∀ U : State, X U → TB U) (e0 : Nat) (tk : Nat → Nat) (hXE : ∀ U : State, X U → ES e0 tk A U) (mi : Nat) (hXL : ∀ U : State, X U → EL e0 mi A U) (ax adK adV : Nat → Nat) (hXX : ∀ U : State, X U → TX ax adK adV tk A U) (G : Nat → Option va_E) (G0 : Nat → Option va_E) (Bx : Nat → Prop) (v : EdV) (z : PtV) (LA EA : Nat → Nat) (AD : Nat → Nat → Nat) (PI : Nat → Nat) (c9 : Nat) (P9 : PdT) (to ro ln : Nat) (fo9 : Nat → Int32) (hP : EDP cy e0 tk G0 Bx G v (z.r_pd c9 P9) LA EA AD PI) (hZ : ZF v AD z) (hc9 : c9 < v.nS) (hWd : WDv v) (hto : G to = some (.inr (7, [.ref ro, .int (nI ln)]))) (hro : G ro = some (.inl (cy 0, 64, .inl fo9))) (hln : ln ≤ 64) : Met l yX10_tell [.code yX10_tell cX10_tell 6 none] ({ frames := 4, cells := 0, slots := 0, locals := 120 }) (mk_Pre D vwCl (tyL cy) A X G [.ref (AD 2 c9), .ref to]) (va_Qv (fun (G2 : Nat → Option va_E) => EDP cy e0 tk G0 Bx G2 v (z.r_pd c9 (teF v c9 ln fo9 P9)) LA EA AD PI ∧ ∀ (x : Nat) (e : va_E), G x = some e → (∀ i, i < v.nP c9 → x ≠ AD (20 + c9) i) → G2 x = some e) (mk_B D vwCl A) A) 0 0 A := by
  refine Met.ofW (cc := cX10_tell) (maxL := 6) (ret := none) (by decide) rfl ?_
  intro p e s m args below meth c s₁ B hml hv
  obtain ⟨rfl, hG, hK, hA, hX⟩ := hv
  have hx := B.exec
  have hb := B.bytes
  have hr := B.returns
  have hlocks := B.notSynchronized
  have hT := hXT s hX
  have hown : s.vm.findClass RX10 = some m.cls := findClass_of_methodNamed B.named
  have hf_X10 : ∀ w ∈ u_ws RX10 TX10 6, w.before ([.ref (AD 2 c9), .ref to] : List Value).toArray s = true := tb_list hT fX10
  have hf_X6 : ∀ w ∈ u_ws RX6 TX6 2, w.before ([.ref (AD 2 c9), .ref to] : List Value).toArray s = true := tb_list hT fX6
  have hf_X8 : ∀ w ∈ u_ws RX8 TX8 15, w.before ([.ref (AD 2 c9), .ref to] : List Value).toArray s = true := tb_list hT fX8
  have hS : va_S A s.heap s.heap [] := va_S.rf
  have hE := hXE s hX
  have hl := lv_entry ([.ref (AD 2 c9), .ref to]) (n := 6) (Nat.le_of_ble_eq_true rfl)
  rw [lg_entry_eq]
  generalize (lg_sl ([.ref (AD 2 c9), .ref to]) ++ List.replicate (6 - (lg_sl ([.ref (AD 2 c9), .ref to])).length) Slot.unset).toArray = ls at hl ⊢
  have hl : lv_has ls 6 [(0, .ref (AD 2 c9)), (1, .ref to)] := hl
  have hQ := hXX s hX
  obtain ⟨RF, hR⟩ : ∃ y, tlF v c9 ln fo9 (v.nP c9) 0 1 (fgF (v.nP c9) P9) = y := ⟨_, rfl⟩
  have hfs : ∀ (x : Nat) (e : va_E), G x = some e → (∀ i, i < v.nP c9 → x ≠ AD (20 + c9) i) → G x = some e := fun x e z _ => z
  have hloop : ∀ (n : Nat) (j9 en : Nat) (PP : PdT), (n + j9 = v.nP c9) → (en ≤ 65) → (¬ (ln = 0 ∨ ¬ oc_at (nI ln) fo9 0 = (v.S c9).2.2.2 + 64)) → (tlF v c9 ln fo9 n j9 en PP = RF) → ∀ (Gv : Nat → Option va_E), (Gv to = some (.inr (7, [.ref ro, .int (nI ln)]))) → (Gv ro = some (.inl (cy 0, 64, .inl fo9))) → (EDP cy e0 tk G0 Bx Gv v (z.r_pd c9 PP) LA EA AD PI) → (∀ (x : Nat) (e : va_E), G x = some e → (∀ i, i < v.nP c9 → x ≠ AD (20 + c9) i) → Gv x = some e) → ∀ (H : Heap) (locs : List Loc), mm D vwCl A Gv H → va_S A s.heap H locs → ∀ ls : Array Slot, lv_has ls 6 [(0, .ref (AD 2 c9)), (1, .ref to), (2, .int (nI en)), (3, .int (nI j9))] → W p l e (headSpec [.code yX10_tell cX10_tell 6 none] ({ frames := 4, cells := 0, slots := 0, locals := 120 })).room s m ([.ref (AD 2 c9), .ref to] : List Value).toArray below meth c H locs 0 0 (MQ below (va_Qv (fun (G2 : Nat → Option va_E) => EDP cy e0 tk G0 Bx G2 v (z.r_pd c9 (teF v c9 ln fo9 P9)) LA EA AD PI ∧ ∀ (x : Nat) (e : va_E), G x = some e → (∀ i, i < v.nP c9 → x ≠ AD (20 + c9) i) → G2 x = some e) (mk_B D vwCl A) A) ([.ref (AD 2 c9), .ref to] : List Value).toArray s 0 0 A) (F0 m 31 ls []) := by
    intro n
    induction n with
    | zero =>
      intro j9 en PP hjn hen hcd hq Gv v_to v_ro hP hfs H locs hG hS ls hl
      have hbb := hP.b
      have hb2 := (hP.lsP hc9).le
      have hw32 := wsN_le hWd c9 j9 PP
      refine lv_iload_n hx hb dX10_tell_31 rfl (lv_at hl 3 rfl) ?_
      refine lv_aload_n hx hb dX10_tell_32 rfl (lv_at hl 0 rfl) ?_
      have k21 : Gv (AD 2 c9) = some (.inr (11, [.int (nI (c9 + 1)), .ref (AD 1 (v.S c9).1), .int ((v.S c9).2.1), .long ((v.S c9).2.2.1), .ref (LA (20 + c9)), .int ((v.S c9).2.2.2)])) := hP.elS hc9
      refine mm_get (v := .ref (LA (20 + c9))) hx hb hf_X10 (fun _ h9 => h9) hown hK hG k21 rfl 4 (by decide) (tb_use hT tw_738) (fun _ h9 => h9) rfl dX10_tell_33 ?_
      obtain ⟨mo22, h_mo22, -⟩ := id (hP.lsP hc9)
      refine va_calli (va_runV (As := []) (rest := [.int (nI j9)]) ⟨hx, hb, hml, hown, (fun _ h9 => absurd h9 List.not_mem_nil : ∀ w ∈ ([] : List Cond), w.before _ s = true)⟩ (c_LS_size l D cy A X hst hXT e0 tk hXE mi hXL Gv (LA (20 + c9)) (EA (20 + c9)) (v.nP c9) (AD (20 + c9)) (hP.lsP hc9)) (tb_cw (C := RJx4a65c) 0 hT tw_457 tw_113 tw_1048 tw_455 tw_456 rfl rfl hq_Jx4a65c_size_8abf5 ⟨Nat.le_of_ble_eq_true rfl, Nat.le_of_ble_eq_true rfl⟩) (mk_preC hst hG hK hA hX hS vc_1 h_mo22) rfl rfl hl.1 rfl (lv_room (Nat.le_of_ble_eq_true rfl)) dX10_tell_36 ⟨Nat.le_of_ble_eq_true rfl, Nat.le_of_ble_eq_true rfl⟩) hS (fun q _ h => h) (fun q h => h) (fun r23 G24 t H locs ht hvm hw hB hz1 hk1 hS => ?_)
      have hG : mm D vwCl A G24 H := by rw [← ht]; exact hB
      clear hB hz1 hk1 hvm ht
      obtain ⟨rfl, hw⟩ := hw
      rw [hw] at hG
      refine lv_icmp_ge (tgt := 116) hx hb dX10_tell_39 (by decide) (fun c_39 => ?_) (fun c_39 => ?_)
      · skip
        have hz : RF = PP := by rw [← hq]; first | rfl | (rw [show n = 0 by omega]; rfl)
        have hz2 : teF v c9 ln fo9 P9 = PP := by rw [teF, if_neg hcd, hR, hz]
        exact W.vret hx hb hr (fun t ht hW => ⟨⟨_, rfl, (by rw [hz2]; exact ⟨hP, hfs⟩), mk_end hG ht⟩, hS.F ht⟩) hS.2.2 dX10_tell_116
      · skip
        exact absurd (by rw [show j9 = v.nP c9 by omega]; exact Int32.le_refl _) c_39
    | succ n ih =>
      intro j9 en PP hjn hen hcd hq Gv v_to v_ro hP hfs H locs hG hS ls hl
      have hbb := hP.b
      have hb2 := (hP.lsP hc9).le
      have hw32 := wsN_le hWd c9 j9 PP
      refine lv_iload_n hx hb dX10_tell_31 rfl (lv_at hl 3 rfl) ?_
      refine lv_aload_n hx hb dX10_tell_32 rfl (lv_at hl 0 rfl) ?_
      have k25 : Gv (AD 2 c9) = some (.inr (11, [.int (nI (c9 + 1)), .ref (AD 1 (v.S c9).1), .int ((v.S c9).2.1), .long ((v.S c9).2.2.1), .ref (LA (20 + c9)), .int ((v.S c9).2.2.2)])) := hP.elS hc9
      refine mm_get (v := .ref (LA (20 + c9))) hx hb hf_X10 (fun _ h9 => h9) hown hK hG k25 rfl 4 (by decide) (tb_use hT tw_738) (fun _ h9 => h9) rfl dX10_tell_33 ?_
      obtain ⟨mo26, h_mo26, -⟩ := id (hP.lsP hc9)
      refine va_calli (va_runV (As := []) (rest := [.int (nI j9)]) ⟨hx, hb, hml, hown, (fun _ h9 => absurd h9 List.not_mem_nil : ∀ w ∈ ([] : List Cond), w.before _ s = true)⟩ (c_LS_size l D cy A X hst hXT e0 tk hXE mi hXL Gv (LA (20 + c9)) (EA (20 + c9)) (v.nP c9) (AD (20 + c9)) (hP.lsP hc9)) (tb_cw (C := RJx4a65c) 0 hT tw_457 tw_113 tw_1048 tw_455 tw_456 rfl rfl hq_Jx4a65c_size_8abf5 ⟨Nat.le_of_ble_eq_true rfl, Nat.le_of_ble_eq_true rfl⟩) (mk_preC hst hG hK hA hX hS vc_1 h_mo26) rfl rfl hl.1 rfl (lv_room (Nat.le_of_ble_eq_true rfl)) dX10_tell_36 ⟨Nat.le_of_ble_eq_true rfl, Nat.le_of_ble_eq_true rfl⟩) hS (fun q _ h => h) (fun q h => h) (fun r27 G28 t H locs ht hvm hw hB hz1 hk1 hS => ?_)
      have hG : mm D vwCl A G28 H := by rw [← ht]; exact hB
      clear hB hz1 hk1 hvm ht
      obtain ⟨rfl, hw⟩ := hw
      rw [hw] at hG
      refine lv_icmp_ge (tgt := 116) hx hb dX10_tell_39 (by decide) (fun c_39 => ?_) (fun c_39 => ?_)
      · skip
        exact absurd c_39 (nI_ge (by omega) (by omega))
      · skip
        refine lv_aload_n hx hb dX10_tell_42 rfl (lv_at hl 0 rfl) ?_
        refine mm_get (v := .ref (LA (20 + c9))) hx hb hf_X10 (fun _ h9 => h9) hown hK hG k25 rfl 4 (by decide) (tb_use hT tw_738) (fun _ h9 => h9) rfl dX10_tell_43 ?_
        refine lv_iload_n hx hb dX10_tell_46 rfl (lv_at hl 3 rfl) ?_
        have hj29 : j9 < (v.nP c9) := by omega
        obtain ⟨mo30, h_mo30, -⟩ := id (hP.lsP hc9)
        refine va_callq (va_runV (As := [.int (nI j9)]) (rest := []) ⟨hx, hb, hml, hown, (fun _ h9 => absurd h9 List.not_mem_nil : ∀ w ∈ ([] : List Cond), w.before _ s = true)⟩ (c_LS_get l D cy A X hst hXT e0 tk hXE mi hXL Gv (LA (20 + c9)) (EA (20 + c9)) (v.nP c9) (AD (20 + c9)) j9 (hP.lsP hc9) hj29) (tb_cw (C := RJx4a65c) 1 hT tw_942 tw_113 tw_1049 tw_940 tw_941 rfl rfl hq_Jx4a65c_get_915e3 ⟨Nat.le_of_ble_eq_true rfl, Nat.le_of_ble_eq_true rfl⟩) (mk_preC hst hG hK hA hX hS vc_1 h_mo30) rfl rfl hl.1 rfl (lv_room (Nat.le_of_ble_eq_true rfl)) dX10_tell_47 ⟨Nat.le_of_ble_eq_true rfl, Nat.le_of_ble_eq_true rfl⟩) hS (fun q _ h => h) (fun q h => h) (fun r31 G32 t H locs ht hvm hw hB hz1 hk1 hS => ?_)
        have hG : mm D vwCl A G32 H := by rw [← ht]; exact hB
        clear hB hz1 hk1 hvm ht
        obtain ⟨rfl, hw⟩ := hw
        rw [hw] at hG
        refine W.eq (g2 := F0 m 50 ls [.ref (AD (20 + c9) j9)]) rfl ?_
        have k33 : Gv (AD (20 + c9) j9) = some (.inr (9, [.int (nI (j9 + 1)), .int ((v.P c9 j9).1), .long ((v.P c9 j9).2.1), .long ((v.P c9 j9).2.2.1), .int ((v.P c9 j9).2.2.2.1), va_rf ((cdN v ((v.P c9 j9).2.2.1)).map (AD 0)), .int ((v.P c9 j9).2.2.2.2.1), .long ((v.P c9 j9).2.2.2.2.2.1), .int ((v.P c9 j9).2.2.2.2.2.2.1), va_rf ((peI v c9 j9).map (AD (20 + c9))), .int ((v.P c9 j9).2.2.2.2.2.2.2), .int ((PP j9).1), .int ((PP j9).2.1), .long ((PP j9).2.2.1), .long ((PP j9).2.2.2)])) := by rw [← (hZ.2.2.1 c9 hc9 j9 hj29).1, ← (hZ.2.2.1 c9 hc9 j9 hj29).2]; have z9 := hP.elP hc9 hj29; rw [r_pd_at] at z9; exact z9
        refine va_castS hx hb hown (tb_use hT tw_1050) (hK.1 9 _ rfl).2 (va_recv hK (hG.one k33) (q := (RX8, TX8, 15)) rfl (q0 := 0) rfl) dX10_tell_50 ?_
        refine lv_astore (lv' := [(4, .ref (AD (20 + c9) j9)), (0, .ref (AD 2 c9)), (1, .ref to), (2, .int (nI en)), (3, .int (nI j9))]) hx hb dX10_tell_53 hl (by decide) rfl (fun ls hl => ?_)
        refine lv_aload hx hb dX10_tell_55 (lv_at hl 0 rfl) ?_
        refine va_calli (va_runV (As := []) (rest := []) ⟨hx, hb, hml, hown, (fun _ h9 => absurd h9 List.not_mem_nil : ∀ w ∈ ([] : List Cond), w.before _ s = true)⟩ (c_P_wanted l D cy A X hst hXT e0 tk hXE mi hXL ax adK adV hXX Gv G0 Bx v z LA EA AD PI c9 PP j9 hP hZ hc9 hj29 hWd) (tb_cw (C := RX8) 0 hT tw_1130 tw_129 tw_1127 tw_1128 tw_1129 rfl rfl hq_X8_wantedSize ⟨Nat.le_of_ble_eq_true rfl, Nat.le_of_ble_eq_true rfl⟩) (mk_preC hst hG hK hA hX hS vc_9 k33) rfl rfl hl.1 rfl (lv_room (Nat.le_of_ble_eq_true rfl)) dX10_tell_57 ⟨Nat.le_of_ble_eq_true rfl, Nat.le_of_ble_eq_true rfl⟩) hS (fun q _ h => h) (fun q h => h) (fun r34 G35 t H locs ht hvm hw hB hz1 hk1 hS => ?_)
        have hG : mm D vwCl A G35 H := by rw [← ht]; exact hB
        clear hB hz1 hk1 hvm ht
        obtain ⟨er34, hw⟩ := hw
        rw [hw] at hG
        rw [er34]
        refine lv_istore (lv' := [(5, .int (nI (wsN v c9 j9 PP))), (4, .ref (AD (20 + c9) j9)), (0, .ref (AD 2 c9)), (1, .ref to), (2, .int (nI en)), (3, .int (nI j9))]) hx hb dX10_tell_60 hl (by decide) rfl (fun ls hl => ?_)
        refine lv_iload_n hx hb dX10_tell_62 rfl (lv_at hl 4 rfl) ?_
        refine lv_iload hx hb dX10_tell_63 (lv_at hl 0 rfl) ?_
        refine lv_iadd hx hb dX10_tell_65 ?_
        rw [nI_add en (wsN v c9 j9 PP)]
        refine lv_aload_n hx hb dX10_tell_66 rfl (lv_at hl 3 rfl) ?_
        refine mm_getN (v := .int (nI ln)) hx hb hf_X6 (fun _ h9 => h9) hown hK hG v_to rfl 1 (by decide) (tb_use hT tw_202) (fun _ h9 => h9) rfl dX10_tell_67 ?_
        refine lv_icmp_le (tgt := 74) hx hb dX10_tell_70 (by decide) (fun c_70 => ?_) (fun c_70 => ?_)
        · skip
          refine lv_iload hx hb dX10_tell_74 (lv_at hl 0 rfl) ?_
          refine lv_if_le (tgt := 105) hx hb dX10_tell_76 (by decide) (fun c_76 => ?_) (fun c_76 => ?_)
          · skip
            refine lv_iload_n hx hb dX10_tell_105 rfl (lv_at hl 4 rfl) ?_
            refine lv_iload hx hb dX10_tell_106 (lv_at hl 0 rfl) ?_
            refine lv_iadd hx hb dX10_tell_108 ?_
            rw [nI_add en (wsN v c9 j9 PP)]
            refine lv_istore_n (lv' := [(2, .int (nI (en + (wsN v c9 j9 PP)))), (5, .int (nI (wsN v c9 j9 PP))), (4, .ref (AD (20 + c9) j9)), (0, .ref (AD 2 c9)), (1, .ref to), (3, .int (nI j9))]) hx hb dX10_tell_109 rfl hl (by decide) rfl (fun ls hl => ?_)
            obtain ⟨x36, ex36⟩ : ∃ y : Int32, y = (nI j9) + 1 := ⟨_, rfl⟩
            refine lv_iinc (v := x36) (lv' := [(3, .int x36), (2, .int (nI (en + (wsN v c9 j9 PP)))), (5, .int (nI (wsN v c9 j9 PP))), (4, .ref (AD (20 + c9) j9)), (0, .ref (AD 2 c9)), (1, .ref to)]) hx hb dX10_tell_110 hl (k := 5) rfl (by rw [ex36]; rfl) (by decide) rfl (fun ls hl => ?_)
            refine lv_goto (tgt := 31) hx hb dX10_tell_113 (by decide) ?_
            rw [show x36 = nI (j9 + 1) by rw [ex36]; exact (nI_succ j9).symm] at hl
            have hle9 : en + (wsN v c9 j9 PP) ≤ ln := nI_ge_of (by omega) (by omega) c_70
            have hw0 : ¬ 0 < (wsN v c9 j9 PP) := fun z => absurd c_76 (nI_nle z (by omega))
            have hq2 : tlF v c9 ln fo9 n (j9 + 1) (en + (wsN v c9 j9 PP)) PP = RF := by rw [← hq, tlF, if_pos hle9, if_neg hw0]
            exact ih (j9 + 1) (en + (wsN v c9 j9 PP)) PP (by omega) (by omega) hcd hq2 Gv v_to v_ro hP hfs _ _ hG hS ls (lv_sub hl [4, 5, 1, 0] rfl)
          · skip
            refine lv_aload hx hb dX10_tell_79 (lv_at hl 1 rfl) ?_
            refine mm_getN (v := va_rf ((cdN v ((v.P c9 j9).2.2.1)).map (AD 0))) hx hb hf_X8 (fun _ h9 => h9) hown hK hG k33 rfl 5 (by decide) (tb_use hT tw_785) (fun _ h9 => h9) rfl dX10_tell_81 ?_
            have hw0 : 0 < (wsN v c9 j9 PP) := by rcases Nat.eq_zero_or_pos (wsN v c9 j9 PP) with z | z; exact absurd (by rw [z]; decide) c_76; exact z
            obtain ⟨j38, hf37⟩ : ∃ k, cdN v ((v.P c9 j9).2.2.1) = some k := by cases hz : cdN v ((v.P c9 j9).2.2.1) with | none => exact absurd hw0 (by rw [wsN, hz]; exact Nat.lt_irrefl 0) | some k => exact ⟨k, rfl⟩
            have hj39 := cdN_lt hf37
            refine W.eq (g2 := F0 m 84 ls [.ref (AD 0 j38)]) (by rw [hf37]; rfl) ?_
            refine lv_ifnull hx hb dX10_tell_84 ?_
            refine lv_aload hx hb dX10_tell_87 (lv_at hl 1 rfl) ?_
            refine lv_iload_n hx hb dX10_tell_89 rfl (lv_at hl 4 rfl) ?_
            refine lv_iload hx hb dX10_tell_90 (lv_at hl 0 rfl) ?_
            refine lv_aload hx hb dX10_tell_92 (lv_at hl 1 rfl) ?_
            refine mm_getN (v := va_rf ((cdN v ((v.P c9 j9).2.2.1)).map (AD 0))) hx hb hf_X8 (fun _ h9 => h9) hown hK hG k33 rfl 5 (by decide) (tb_use hT tw_785) (fun _ h9 => h9) rfl dX10_tell_94 ?_
            refine lv_aload_n hx hb dX10_tell_97 rfl (lv_at hl 3 rfl) ?_
            refine lv_iload_n hx hb dX10_tell_98 rfl (lv_at hl 4 rfl) ?_
            refine W.eq (g2 := F0 m 99 ls [.int (nI en), .ref to, .ref (AD 0 j38), .int (nI (wsN v c9 j9 PP)), .int (nI en), .ref (AD (20 + c9) j9)]) (by first | rfl | (rw [hf37]; rfl)) ?_
            have k40 : Gv (AD 0 j38) = some (.inr (2, [.int (nI (j38 + 1)), .int ((v.C j38).1.1), .long ((v.C j38).1.2.1), .ref (LA (6 + j38)), .int ((v.C j38).1.2.2), .int ((v.C j38).2.1), .int ((v.C j38).2.2.1), .long ((v.C j38).2.2.2.1), .long ((v.C j38).2.2.2.2.1), .long ((v.C j38).2.2.2.2.2)])) := hP.elC hj39
            refine va_calll (va_runV (As := [.ref to, .int (nI en)]) (rest := [.int (nI (wsN v c9 j9 PP)), .int (nI en), .ref (AD (20 + c9) j9)]) ⟨hx, hb, hml, hown, (fun _ h9 => absurd h9 List.not_mem_nil : ∀ w ∈ ([] : List Cond), w.before _ s = true)⟩ (c_H_rawAt l D cy A X hst hXT e0 tk hXE mi hXL ax adK adV hXX Gv G0 Bx v (z.r_pd c9 PP) LA EA AD PI j38 (wdN v j38) (nI en) to ro ln fo9 hP hj39 (hWd j38 hj39).1 (hWd j38 hj39).2.2 v_to v_ro hln) (tb_cw (C := RX1) 2 hT tw_1145 tw_122 tw_1142 tw_1143 tw_1144 rfl rfl hq_X1_rawAt ⟨Nat.le_of_ble_eq_true rfl, Nat.le_of_ble_eq_true rfl⟩) (mk_preC hst hG hK hA hX hS vc_2 k40) rfl rfl hl.1 rfl (lv_room (Nat.le_of_ble_eq_true rfl)) dX10_tell_99 ⟨Nat.le_of_ble_eq_true rfl, Nat.le_of_ble_eq_true rfl⟩) hS (fun q _ h => h) (fun q h => h) (fun r41 G42 t H locs ht hvm hw hB hz1 hk1 hS => ?_)
            have hG : mm D vwCl A G42 H := by rw [← ht]; exact hB
            clear hB hz1 hk1 hvm ht
            obtain ⟨er41, hw⟩ := hw
            rw [hw] at hG
            have fr41 : r41 = rwO v c9 j9 ln fo9 en := by rw [rwO, hf37]; exact er41
            rw [fr41]
            refine va_callv (va_runV (As := [.int (nI en), .int (nI (wsN v c9 j9 PP)), .long (rwO v c9 j9 ln fo9 en)]) (rest := []) ⟨hx, hb, hml, hown, (fun _ h9 => absurd h9 List.not_mem_nil : ∀ w ∈ ([] : List Cond), w.before _ s = true)⟩ (c_X8_lay l D cy A X hst hXT e0 tk hXE Gv (AD (20 + c9) j9) (nI (j9 + 1)) ((v.P c9 j9).1) ((v.P c9 j9).2.2.2.1) ((v.P c9 j9).2.2.2.2.1) ((v.P c9 j9).2.2.2.2.2.2.1) ((v.P c9 j9).2.2.2.2.2.2.2) ((PP j9).1) ((PP j9).2.1) ((v.P c9 j9).2.1) ((v.P c9 j9).2.2.1) ((v.P c9 j9).2.2.2.2.2.1) ((PP j9).2.2.1) ((PP j9).2.2.2) ((cdN v ((v.P c9 j9).2.2.1)).map (AD 0)) ((peI v c9 j9).map (AD (20 + c9))) (nI en) (nI (wsN v c9 j9 PP)) (rwO v c9 j9 ln fo9 en) k33) (tb_cw (C := RX8) 3 hT tw_1122 tw_129 tw_1119 tw_1120 tw_1121 rfl rfl hq_X8_lay ⟨Nat.le_of_ble_eq_true rfl, Nat.le_of_ble_eq_true rfl⟩) (mk_preC hst hG hK hA hX hS vc_9 k33) rfl rfl hl.1 rfl (lv_room (Nat.le_of_ble_eq_true rfl)) dX10_tell_102 ⟨Nat.le_of_ble_eq_true rfl, Nat.le_of_ble_eq_true rfl⟩) hS (fun q _ h => h) (fun q h => h) (fun  G43 t H locs ht hvm hw hB hz1 hk1 hS => ?_)
            have hG : mm D vwCl A G43 H := by rw [← ht]; exact hB
            clear hB hz1 hk1 hvm ht
            have hP44 : EDP cy e0 tk G0 Bx G43 v (z.r_pd c9 (up1 PP j9 ((nI en), (nI (wsN v c9 j9 PP)), (rwO v c9 j9 ln fo9 en), (PP j9).2.2.2))) LA EA AD PI := by
              have z9 := EDP.put_pd hP hc9 hj29 (x := ((nI en), (nI (wsN v c9 j9 PP)), (rwO v c9 j9 ln fo9 en), (PP j9).2.2.2))
              rw [r_s_pd] at z9
              rw [hw]
              have y1 := (hZ.2.2.1 c9 hc9 j9 hj29).1
              have y2 := (hZ.2.2.1 c9 hc9 j9 hj29).2
              rw [← y1, ← y2]
              exact z9
            have hfs45 : ∀ (x : Nat) (e : va_E), G x = some e → (∀ i, i < v.nP c9 → x ≠ AD (20 + c9) i) → G43 x = some e := fun x e z9 n1 => by rw [hw]; exact mm_set_of (hfs x e z9 n1) (n1 j9 hj29)
            have k46 : G43 to = some (.inr (7, [.ref ro, .int (nI ln)])) := by rw [hw]; exact mm_set_of v_to (mm_ne_oo v_to k33 (by decide))
            have k47 : G43 ro = some (.inl (cy 0, 64, .inl fo9)) := by rw [hw]; exact mm_set_of v_ro (mm_ne_ao v_ro k33)
            have k48 : G43 (AD 2 c9) = some (.inr (11, [.int (nI (c9 + 1)), .ref (AD 1 (v.S c9).1), .int ((v.S c9).2.1), .long ((v.S c9).2.2.1), .ref (LA (20 + c9)), .int ((v.S c9).2.2.2)])) := by rw [hw]; exact mm_set_of k25 (mm_ne_oo k25 k33 (by decide))
            have k49 : G43 (AD 0 j38) = some (.inr (2, [.int (nI (j38 + 1)), .int ((v.C j38).1.1), .long ((v.C j38).1.2.1), .ref (LA (6 + j38)), .int ((v.C j38).1.2.2), .int ((v.C j38).2.1), .int ((v.C j38).2.2.1), .long ((v.C j38).2.2.2.1), .long ((v.C j38).2.2.2.2.1), .long ((v.C j38).2.2.2.2.2)])) := by rw [hw]; exact mm_set_of k40 (mm_ne_oo k40 k33 (by decide))
            clear hw
            refine lv_iload_n hx hb dX10_tell_105 rfl (lv_at hl 4 rfl) ?_
            refine lv_iload hx hb dX10_tell_106 (lv_at hl 0 rfl) ?_
            refine lv_iadd hx hb dX10_tell_108 ?_
            rw [nI_add en (wsN v c9 j9 PP)]
            refine lv_istore_n (lv' := [(2, .int (nI (en + (wsN v c9 j9 PP)))), (5, .int (nI (wsN v c9 j9 PP))), (4, .ref (AD (20 + c9) j9)), (0, .ref (AD 2 c9)), (1, .ref to), (3, .int (nI j9))]) hx hb dX10_tell_109 rfl hl (by decide) rfl (fun ls hl => ?_)
            obtain ⟨x50, ex50⟩ : ∃ y : Int32, y = (nI j9) + 1 := ⟨_, rfl⟩
            refine lv_iinc (v := x50) (lv' := [(3, .int x50), (2, .int (nI (en + (wsN v c9 j9 PP)))), (5, .int (nI (wsN v c9 j9 PP))), (4, .ref (AD (20 + c9) j9)), (0, .ref (AD 2 c9)), (1, .ref to)]) hx hb dX10_tell_110 hl (k := 5) rfl (by rw [ex50]; rfl) (by decide) rfl (fun ls hl => ?_)
            refine lv_goto (tgt := 31) hx hb dX10_tell_113 (by decide) ?_
            rw [show x50 = nI (j9 + 1) by rw [ex50]; exact (nI_succ j9).symm] at hl
            have hle9 : en + (wsN v c9 j9 PP) ≤ ln := nI_ge_of (by omega) (by omega) c_70
            have hw0 : 0 < (wsN v c9 j9 PP) := by rcases Nat.eq_zero_or_pos (wsN v c9 j9 PP) with z | z; exact absurd (by rw [z]; decide) c_76; exact z
            have hq2 : tlF v c9 ln fo9 n (j9 + 1) (en + (wsN v c9 j9 PP)) (up1 PP j9 ((nI en), (nI (wsN v c9 j9 PP)), (rwO v c9 j9 ln fo9 en), (PP j9).2.2.2)) = RF := by rw [← hq, tlF, if_pos hle9, if_pos hw0]
            exact ih (j9 + 1) (en + (wsN v c9 j9 PP)) (up1 PP j9 ((nI en), (nI (wsN v c9 j9 PP)), (rwO v c9 j9 ln fo9 en), (PP j9).2.2.2)) (by omega) (by omega) hcd hq2 G43 k46 k47 hP44 hfs45 _ _ hG hS ls (lv_sub hl [4, 5, 1, 0] rfl)
        · skip
          have hz : RF = PP := by rw [← hq, tlF, if_neg (fun z => c_70 (nI_le z (by omega)))]
          have hz2 : teF v c9 ln fo9 P9 = PP := by rw [teF, if_neg hcd, hR, hz]
          exact W.vret hx hb hr (fun t ht hW => ⟨⟨_, rfl, (by rw [hz2]; exact ⟨hP, hfs⟩), mk_end hG ht⟩, hS.F ht⟩) hS.2.2 dX10_tell_73
  refine lv_aload_n hx hb dX10_tell_0 rfl (lv_at hl 0 rfl) ?_
  have k51 : G (AD 2 c9) = some (.inr (11, [.int (nI (c9 + 1)), .ref (AD 1 (v.S c9).1), .int ((v.S c9).2.1), .long ((v.S c9).2.2.1), .ref (LA (20 + c9)), .int ((v.S c9).2.2.2)])) := hP.elS hc9
  refine va_callv (va_runV (As := []) (rest := []) ⟨hx, hb, hml, hown, (fun _ h9 => absurd h9 List.not_mem_nil : ∀ w ∈ ([] : List Cond), w.before _ s = true)⟩ (c_P_forget l D cy A X hst hXT e0 tk hXE mi hXL ax adK adV hXX G G0 Bx v z LA EA AD PI c9 P9 hP hZ hc9) (tb_cw (C := RX10) 0 hT tw_1118 tw_128 tw_1115 tw_1117 tw_47 rfl rfl hq_X10_forget ⟨Nat.le_of_ble_eq_true rfl, Nat.le_of_ble_eq_true rfl⟩) (mk_preC hst hG hK hA hX hS vc_11 k51) rfl rfl hl.1 rfl (lv_room (Nat.le_of_ble_eq_true rfl)) dX10_tell_1 ⟨Nat.le_of_ble_eq_true rfl, Nat.le_of_ble_eq_true rfl⟩) hS (fun q _ h => h) (fun q h => h) (fun  G52 t H locs ht hvm hw hB hz1 hk1 hS => ?_)
  have hG : mm D vwCl A G52 H := by rw [← ht]; exact hB
  clear hB hz1 hk1 hvm ht
  obtain ⟨hP53, hf54⟩ := hw
  have k55 : G52 to = some (.inr (7, [.ref ro, .int (nI ln)])) := hf54 _ _ hto (fun i hi => mm_ne_oo hto (hP.elP hc9 hi) (by decide))
  have k56 : G52 ro = some (.inl (cy 0, 64, .inl fo9)) := hf54 _ _ hro (fun i hi => mm_ne_ao hro (hP.elP hc9 hi))
  have k57 : G52 (AD 2 c9) = some (.inr (11, [.int (nI (c9 + 1)), .ref (AD 1 (v.S c9).1), .int ((v.S c9).2.1), .long ((v.S c9).2.2.1), .ref (LA (20 + c9)), .int ((v.S c9).2.2.2)])) := hf54 _ _ k51 (fun i hi => mm_ne_oo k51 (hP.elP hc9 hi) (by decide))
  have hfs58 : ∀ (x : Nat) (e : va_E), G x = some e → (∀ i, i < v.nP c9 → x ≠ AD (20 + c9) i) → G52 x = some e := fun x e z9 n1 => hf54 x e (z9) n1
  refine lv_aload_n hx hb dX10_tell_4 rfl (lv_at hl 1 rfl) ?_
  refine mm_getN (v := .int (nI ln)) hx hb hf_X6 (fun _ h9 => h9) hown hK hG k55 rfl 1 (by decide) (tb_use hT tw_202) (fun _ h9 => h9) rfl dX10_tell_5 ?_
  refine lv_if_eq (tgt := 26) hx hb dX10_tell_8 (by decide) (fun c_8 => ?_) (fun c_8 => ?_)
  · skip
    have hz : teF v c9 ln fo9 P9 = fgF (v.nP c9) P9 := by rw [teF, if_pos (Or.inl (nI_inj (b := 0) (by omega) (by decide) c_8))]
    exact W.vret hx hb hr (fun t ht hW => ⟨⟨_, rfl, (by rw [hz]; exact ⟨hP53, hfs58⟩), mk_end hG ht⟩, hS.F ht⟩) hS.2.2 dX10_tell_26
  · skip
    refine lv_aload_n hx hb dX10_tell_11 rfl (lv_at hl 1 rfl) ?_
    refine lv_iconst (v := 0) hx hb dX10_tell_12 (by decide) ?_
    refine va_calli (va_runV (As := [.int 0]) (rest := []) ⟨hx, hb, hml, hown, (fun _ h9 => absurd h9 List.not_mem_nil : ∀ w ∈ ([] : List Cond), w.before _ s = true)⟩ (c_X6_at l D cy A X hst hXT G52 to ro (nI ln) 0 fo9 k55 k56) (tb_cw (C := RX6) 1 hT tw_1126 tw_108 tw_1123 tw_1124 tw_1125 rfl rfl hq_X6_at ⟨Nat.le_of_ble_eq_true rfl, Nat.le_of_ble_eq_true rfl⟩) (mk_preC hst hG hK hA hX hS vc_7 k55) rfl rfl hl.1 rfl (lv_room (Nat.le_of_ble_eq_true rfl)) dX10_tell_13 ⟨Nat.le_of_ble_eq_true rfl, Nat.le_of_ble_eq_true rfl⟩) hS (fun q _ h => h) (fun q h => h) (fun r59 G60 t H locs ht hvm hw hB hz1 hk1 hS => ?_)
    have hG : mm D vwCl A G60 H := by rw [← ht]; exact hB
    clear hB hz1 hk1 hvm ht
    obtain ⟨er59, hw⟩ := hw
    rw [hw] at hG
    refine lv_aload_n hx hb dX10_tell_16 rfl (lv_at hl 0 rfl) ?_
    refine mm_get (v := .int ((v.S c9).2.2.2)) hx hb hf_X10 (fun _ h9 => h9) hown hK hG k57 rfl 5 (by decide) (tb_use hT tw_742) (fun _ h9 => h9) rfl dX10_tell_17 ?_
    refine lv_bipush (v := 64) hx hb dX10_tell_20 (by decide) ?_
    refine lv_iadd hx hb dX10_tell_22 ?_
    refine lv_icmp_eq (tgt := 27) hx hb dX10_tell_23 (by decide) (fun c_23 => ?_) (fun c_23 => ?_)
    · skip
      refine lv_iconst (v := 1) hx hb dX10_tell_27 (by decide) ?_
      refine lv_istore_n (lv' := [(2, .int 1), (0, .ref (AD 2 c9)), (1, .ref to)]) hx hb dX10_tell_28 rfl hl (by decide) rfl (fun ls hl => ?_)
      refine lv_iconst (v := 0) hx hb dX10_tell_29 (by decide) ?_
      refine lv_istore_n (lv' := [(3, .int 0), (2, .int 1), (0, .ref (AD 2 c9)), (1, .ref to)]) hx hb dX10_tell_30 rfl hl (by decide) rfl (fun ls hl => ?_)
      have hcd : ¬ (ln = 0 ∨ ¬ oc_at (nI ln) fo9 0 = (v.S c9).2.2.2 + 64) := by rintro (z | z); exact c_8 (by rw [z]; rfl); exact z (by rw [← er59]; exact c_23)
      exact hloop (v.nP c9) 0 1 (fgF (v.nP c9) P9) (by omega) (by omega) hcd hR G52 k55 k56 hP53 hfs58 _ _ hG hS ls (lv_sub hl [2, 3, 1, 0] rfl)
    · skip
      have hz : teF v c9 ln fo9 P9 = fgF (v.nP c9) P9 := by rw [teF, if_pos (Or.inr (fun z => c_23 (by rw [er59]; exact z)))]
      exact W.vret hx hb hr (fun t ht hW => ⟨⟨_, rfl, (by rw [hz]; exact ⟨hP53, hfs58⟩), mk_end hG ht⟩, hS.F ht⟩) hS.2.2 dX10_tell_26
