/-- how many groups a parameter has, once the one it hangs on (at place u) is found -/
def grM (F : Nat → Nat → Int32) (L : Nat → Nat → Int64) (q u : Nat) : Int32 := if F 26 q = 0 then 1 else if F 71 u = 0 then 0 else if F 26 q = 1 then (if L 74 u = (F 28 q).toInt64 then 1 else 0) else if L 74 u < 0 then 0 else if 8 < L 74 u then 8 else (L 74 u).toInt32

set_option maxHeartbeats 4000000 in
set_option maxRecDepth 100000 in
theorem c_M_groups (l : Launch) (D : va_G) (cy : Nat → ClassId) (A : Nat → Prop) (X : State → Prop) (hst : mk_St A X) (hXT : ∀ U : State, X U → TB U) (G : Nat → Option va_E) (o : Nat) (Ar : Nat → Nat) (Iv : Nat → Int32) (F : Nat → Nat → Int32) (L : Nat → Nat → Int64) (b9 s9 p9 nC u9 : Nat) (hM : MD cy G o Ar Iv F L) (hb9 : b9 < 2) (hbk : Iv 42 = nI b9) (hs9 : s9 < 16) (hp9 : p9 < 128) (hcn : F 23 (16 * b9 + s9) = nI nC) (hnC : nC ≤ 8) (hoth : ¬ F 26 (128 * b9 + p9) = 0 → fnI (fun j => decide (F 24 (128 * b9 + 8 * s9 + j) = F 27 (128 * b9 + p9))) nC = nI u9 ∧ u9 < 8) : Met l yX14_groups [.code yX14_groups cX14_groups 4 (some .int)] ({ frames := 1, cells := 0, slots := 0, locals := 30 }) (mk_Pre D vwCl (tyL cy) A X G [.ref o, .int (nI p9), .int (nI s9)]) (va_Qi (fun (r : Int32) (G2 : Nat → Option va_E) => r = grM F L (128 * b9 + p9) u9 ∧ G2 = G) (mk_B D vwCl A) A) 0 0 A := by
  refine Met.ofW (cc := cX14_groups) (maxL := 4) (ret := (some .int)) (by decide) rfl ?_
  intro p e s m args below meth c s₁ B hml hv
  obtain ⟨rfl, hG, hK, hA, hX⟩ := hv
  have hx := B.exec
  have hb := B.bytes
  have hr := B.returns
  have hlocks := B.notSynchronized
  have hT := hXT s hX
  have hown : s.vm.findClass RX14 = some m.cls := findClass_of_methodNamed B.named
  have hf_X14 : ∀ w ∈ u_ws RX14 TX14 76, w.before ([.ref o, .int (nI p9), .int (nI s9)] : List Value).toArray s = true := tb_list hT fX14
  have hS : va_S A s.heap s.heap [] := va_S.rf
  have hl := lv_entry ([.ref o, .int (nI p9), .int (nI s9)]) (n := 4) (Nat.le_of_ble_eq_true rfl)
  rw [lg_entry_eq]
  generalize (lg_sl ([.ref o, .int (nI p9), .int (nI s9)]) ++ List.replicate (4 - (lg_sl ([.ref o, .int (nI p9), .int (nI s9)])).length) Slot.unset).toArray = ls at hl ⊢
  have hl : lv_has ls 4 [(0, .ref o), (1, .int (nI p9)), (2, .int (nI s9))] := hl
  refine lv_aload_n hx hb dX14_groups_0 rfl (lv_at hl 0 rfl) ?_
  refine mm_get (v := .ref (Ar 26)) hx hb hf_X14 (fun _ h9 => h9) hown hK hG hM.1 rfl 26 (by decide) (tb_use hT tw_1417) (fun _ h9 => h9) (mfs_g26 _ _) dX14_groups_1 ?_
  refine lv_sipush (v := 128) hx hb dX14_groups_4 (by decide) ?_
  refine lv_aload_n hx hb dX14_groups_7 rfl (lv_at hl 0 rfl) ?_
  refine mm_get (v := .int (Iv 42)) hx hb hf_X14 (fun _ h9 => h9) hown hK hG hM.1 rfl 42 (by decide) (tb_use hT tw_1433) (fun _ h9 => h9) (mfs_g42 _ _) dX14_groups_8 ?_
  refine lv_imul hx hb dX14_groups_11 ?_
  refine lv_iload_n hx hb dX14_groups_12 rfl (lv_at hl 1 rfl) ?_
  refine lv_iadd hx hb dX14_groups_13 ?_
  refine mm_iald (n := 256) (f := F 26) hx hb hK hG 1 (hM.2.1 26 rfl) rfl (by rw [show (128 : Int32) * Iv 42 + nI p9 = nI (128 * b9 + p9) by rw [hbk]; exact nI_ma 128 b9 p9]; exact nI_in (N := 256) (by omega) (by decide)) dX14_groups_14 ?_
  refine lv_topi (fun x1 ex1 => ?_)
  refine lv_if_ne (tgt := 20) hx hb dX14_groups_15 (by decide) (fun c_15 => ?_) (fun c_15 => ?_)
  · skip
    refine lv_aload_n hx hb dX14_groups_20 rfl (lv_at hl 0 rfl) ?_
    refine lv_aload_n hx hb dX14_groups_21 rfl (lv_at hl 0 rfl) ?_
    refine mm_get (v := .int (Iv 42)) hx hb hf_X14 (fun _ h9 => h9) hown hK hG hM.1 rfl 42 (by decide) (tb_use hT tw_1433) (fun _ h9 => h9) (mfs_g42 _ _) dX14_groups_22 ?_
    refine lv_iload_n hx hb dX14_groups_25 rfl (lv_at hl 2 rfl) ?_
    refine lv_aload_n hx hb dX14_groups_26 rfl (lv_at hl 0 rfl) ?_
    refine mm_get (v := .ref (Ar 27)) hx hb hf_X14 (fun _ h9 => h9) hown hK hG hM.1 rfl 27 (by decide) (tb_use hT tw_1418) (fun _ h9 => h9) (mfs_g27 _ _) dX14_groups_27 ?_
    refine lv_sipush (v := 128) hx hb dX14_groups_30 (by decide) ?_
    refine lv_aload_n hx hb dX14_groups_33 rfl (lv_at hl 0 rfl) ?_
    refine mm_get (v := .int (Iv 42)) hx hb hf_X14 (fun _ h9 => h9) hown hK hG hM.1 rfl 42 (by decide) (tb_use hT tw_1433) (fun _ h9 => h9) (mfs_g42 _ _) dX14_groups_34 ?_
    refine lv_imul hx hb dX14_groups_37 ?_
    refine lv_iload_n hx hb dX14_groups_38 rfl (lv_at hl 1 rfl) ?_
    refine lv_iadd hx hb dX14_groups_39 ?_
    refine mm_iald (n := 256) (f := F 27) hx hb hK hG 1 (hM.2.1 27 rfl) rfl (by rw [show (128 : Int32) * Iv 42 + nI p9 = nI (128 * b9 + p9) by rw [hbk]; exact nI_ma 128 b9 p9]; exact nI_in (N := 256) (by omega) (by decide)) dX14_groups_40 ?_
    refine lv_topi (fun x2 ex2 => ?_)
    refine W.eq (g2 := F0 m 41 ls [.int x2, .int (nI s9), .int (nI b9), .ref o]) (by rw [← hbk]) ?_
    refine va_calli (va_runV (As := [.int (nI b9), .int (nI s9), .int x2]) (rest := []) ⟨hx, hb, hml, hown, (fun _ h9 => absurd h9 List.not_mem_nil : ∀ w ∈ ([] : List Cond), w.before _ s = true)⟩ (c_M_paramAt l D cy A X hst hXT G o Ar Iv F L b9 s9 nC x2 hM hb9 hs9 hcn hnC) (tb_cw (C := RX14) 3 hT tw_1794 tw_109 tw_1791 tw_1793 tw_92 rfl rfl hq_X14_paramAt ⟨Nat.le_of_ble_eq_true rfl, Nat.le_of_ble_eq_true rfl⟩) (mk_preC hst hG hK hA hX hS vc_15 hM.1) rfl rfl hl.1 rfl (lv_room (Nat.le_of_ble_eq_true rfl)) dX14_groups_41 ⟨Nat.le_of_ble_eq_true rfl, Nat.le_of_ble_eq_true rfl⟩) hS (fun q _ h => h) (fun q h => h) (fun r3 G4 t H locs ht hvm hw hB hz1 hk1 hS => ?_)
    have hG : mm D vwCl A G4 H := by rw [← ht]; exact hB
    clear hB hz1 hk1 hvm ht
    obtain ⟨er3, hw⟩ := hw
    rw [hw] at hG
    refine lv_istore_n (lv' := [(3, .int r3), (0, .ref o), (1, .int (nI p9)), (2, .int (nI s9))]) hx hb dX14_groups_44 rfl hl (by decide) rfl (fun ls hl => ?_)
    have hix : ((128 : Int32) * Iv 42 + nI p9).toNatClampNeg = (128 * b9 + p9) := by rw [show (128 : Int32) * Iv 42 + nI p9 = nI (128 * b9 + p9) by rw [hbk]; exact nI_ma 128 b9 p9]; exact nI_clamp (by omega)
    have h26 : x1 = F 26 (128 * b9 + p9) := by rw [ex1, hix]
    have h27 : x2 = F 27 (128 * b9 + p9) := by rw [ex2, hix]
    obtain ⟨hu, hu8⟩ := hoth (by rw [← h26]; exact c_15)
    have hru : r3 = nI u9 := by rw [er3, h27]; exact hu
    have hrc : r3.toNatClampNeg = u9 := by rw [hru]; exact nI_clamp (by omega)
    refine lv_aload_n hx hb dX14_groups_45 rfl (lv_at hl 1 rfl) ?_
    refine mm_get (v := .ref (Ar 71)) hx hb hf_X14 (fun _ h9 => h9) hown hK hG hM.1 rfl 71 (by decide) (tb_use hT tw_1462) (fun _ h9 => h9) (mfs_g71 _ _) dX14_groups_46 ?_
    refine lv_iload_n hx hb dX14_groups_49 rfl (lv_at hl 0 rfl) ?_
    refine mm_zald (n := 8) (f := F 71) hx hb hK hG 3 hM.2.2.2.1 rfl (by rw [hru]; exact nI_in (N := 8) hu8 (by decide)) dX14_groups_50 ?_
    refine lv_topi (fun x5 ex5 => ?_)
    refine lv_if_ne (tgt := 56) hx hb dX14_groups_51 (by decide) (fun c_51 => ?_) (fun c_51 => ?_)
    · skip
      refine lv_aload_n hx hb dX14_groups_56 rfl (lv_at hl 1 rfl) ?_
      refine mm_get (v := .ref (Ar 26)) hx hb hf_X14 (fun _ h9 => h9) hown hK hG hM.1 rfl 26 (by decide) (tb_use hT tw_1417) (fun _ h9 => h9) (mfs_g26 _ _) dX14_groups_57 ?_
      refine lv_sipush (v := 128) hx hb dX14_groups_60 (by decide) ?_
      refine lv_aload_n hx hb dX14_groups_63 rfl (lv_at hl 1 rfl) ?_
      refine mm_get (v := .int (Iv 42)) hx hb hf_X14 (fun _ h9 => h9) hown hK hG hM.1 rfl 42 (by decide) (tb_use hT tw_1433) (fun _ h9 => h9) (mfs_g42 _ _) dX14_groups_64 ?_
      refine lv_imul hx hb dX14_groups_67 ?_
      refine lv_iload_n hx hb dX14_groups_68 rfl (lv_at hl 2 rfl) ?_
      refine lv_iadd hx hb dX14_groups_69 ?_
      refine mm_iald (n := 256) (f := F 26) hx hb hK hG 1 (hM.2.1 26 rfl) rfl (by rw [show (128 : Int32) * Iv 42 + nI p9 = nI (128 * b9 + p9) by rw [hbk]; exact nI_ma 128 b9 p9]; exact nI_in (N := 256) (by omega) (by decide)) dX14_groups_70 ?_
      refine lv_topi (fun x6 ex6 => ?_)
      refine lv_iconst (v := 1) hx hb dX14_groups_71 (by decide) ?_
      refine lv_icmp_ne (tgt := 107) hx hb dX14_groups_72 (by decide) (fun c_72 => ?_) (fun c_72 => ?_)
      · skip
        refine lv_aload_n hx hb dX14_groups_107 rfl (lv_at hl 1 rfl) ?_
        refine mm_get (v := .ref (Ar 74)) hx hb hf_X14 (fun _ h9 => h9) hown hK hG hM.1 rfl 74 (by decide) (tb_use hT tw_1465) (fun _ h9 => h9) (mfs_g74 _ _) dX14_groups_108 ?_
        refine lv_iload_n hx hb dX14_groups_111 rfl (lv_at hl 0 rfl) ?_
        refine mm_lald (n := 8) (f := L 74) hx hb hK hG 2 (hM.2.2.1 74 rfl) rfl (by rw [hru]; exact nI_in (N := 8) hu8 (by decide)) dX14_groups_112 ?_
        refine lv_topl (fun x7 ex7 => ?_)
        refine lv_lconst (v := 0) hx hb dX14_groups_113 (by decide) ?_
        refine W.lcmp hx hb dX14_groups_114 ?_
        refine lv_if_ge (tgt := 122) hx hb dX14_groups_115 (by decide) (fun c_115 => ?_) (fun c_115 => ?_)
        · skip
          refine lv_aload_n hx hb dX14_groups_122 rfl (lv_at hl 1 rfl) ?_
          refine mm_get (v := .ref (Ar 74)) hx hb hf_X14 (fun _ h9 => h9) hown hK hG hM.1 rfl 74 (by decide) (tb_use hT tw_1465) (fun _ h9 => h9) (mfs_g74 _ _) dX14_groups_123 ?_
          refine lv_iload_n hx hb dX14_groups_126 rfl (lv_at hl 0 rfl) ?_
          refine mm_lald (n := 8) (f := L 74) hx hb hK hG 2 (hM.2.2.1 74 rfl) rfl (by rw [hru]; exact nI_in (N := 8) hu8 (by decide)) dX14_groups_127 ?_
          refine lv_topl (fun x9 ex9 => ?_)
          refine lv_ldc2 hx hb hown (tb_use hT tw_1837) dX14_groups_128 ?_
          refine W.lcmp hx hb dX14_groups_131 ?_
          refine lv_if_le (tgt := 140) hx hb dX14_groups_132 (by decide) (fun c_132 => ?_) (fun c_132 => ?_)
          · skip
            refine lv_aload_n hx hb dX14_groups_140 rfl (lv_at hl 1 rfl) ?_
            refine mm_get (v := .ref (Ar 74)) hx hb hf_X14 (fun _ h9 => h9) hown hK hG hM.1 rfl 74 (by decide) (tb_use hT tw_1465) (fun _ h9 => h9) (mfs_g74 _ _) dX14_groups_141 ?_
            refine lv_iload_n hx hb dX14_groups_144 rfl (lv_at hl 0 rfl) ?_
            refine mm_lald (n := 8) (f := L 74) hx hb hK hG 2 (hM.2.2.1 74 rfl) rfl (by rw [hru]; exact nI_in (N := 8) hu8 (by decide)) dX14_groups_145 ?_
            refine lv_topl (fun x11 ex11 => ?_)
            obtain ⟨x12, ex12⟩ : ∃ y, y = (x11 : Int64).toInt32 := ⟨_, rfl⟩
            refine lv_l2i (v := x12) hx hb dX14_groups_146 ex12.symm ?_
            have h71 : x5 = F 71 u9 := by rw [ex5, hrc]
            have g26 : x6 = F 26 (128 * b9 + p9) := by rw [ex6, hix]
            have h74 : x7 = L 74 u9 := by rw [ex7, hrc]
            have g74 : x9 = L 74 u9 := by rw [ex9, hrc]
            exact W.iret (v := x12) hx hb hr (fun t ht hW => ⟨⟨_, _, rfl, ⟨(by rw [grM, if_neg (by rw [← h26]; exact c_15), if_neg (by rw [← h71]; exact c_51), if_neg (by rw [← g26]; exact c_72), if_neg (Int64.not_lt.mpr (by rw [← h74]; exact (lg_cmp_ge _ _).mp c_115)), if_neg (Int64.not_lt.mpr (by rw [← g74]; exact (lg_cmp_le _ _).mp c_132)), ex12, ex11, hrc]), rfl⟩, mk_end hG ht⟩, hS.F ht⟩) hS.2.2 dX14_groups_147
          · skip
            refine lv_bipush (v := 8) hx hb dX14_groups_135 (by decide) ?_
            refine lv_goto (tgt := 147) hx hb dX14_groups_137 (by decide) ?_
            have h71 : x5 = F 71 u9 := by rw [ex5, hrc]
            have g26 : x6 = F 26 (128 * b9 + p9) := by rw [ex6, hix]
            have h74 : x7 = L 74 u9 := by rw [ex7, hrc]
            have g74 : x9 = L 74 u9 := by rw [ex9, hrc]
            exact W.iret (v := 8) hx hb hr (fun t ht hW => ⟨⟨_, _, rfl, ⟨(by rw [grM, if_neg (by rw [← h26]; exact c_15), if_neg (by rw [← h71]; exact c_51), if_neg (by rw [← g26]; exact c_72), if_neg (Int64.not_lt.mpr (by rw [← h74]; exact (lg_cmp_ge _ _).mp c_115)), if_pos (Int64.not_le.mp (fun z => c_132 ((lg_cmp_le _ _).mpr (by rw [g74]; exact z))))]), rfl⟩, mk_end hG ht⟩, hS.F ht⟩) hS.2.2 dX14_groups_147
        · skip
          refine lv_iconst (v := 0) hx hb dX14_groups_118 (by decide) ?_
          refine lv_goto (tgt := 147) hx hb dX14_groups_119 (by decide) ?_
          have h71 : x5 = F 71 u9 := by rw [ex5, hrc]
          have g26 : x6 = F 26 (128 * b9 + p9) := by rw [ex6, hix]
          have h74 : x7 = L 74 u9 := by rw [ex7, hrc]
          exact W.iret (v := 0) hx hb hr (fun t ht hW => ⟨⟨_, _, rfl, ⟨(by rw [grM, if_neg (by rw [← h26]; exact c_15), if_neg (by rw [← h71]; exact c_51), if_neg (by rw [← g26]; exact c_72), if_pos (Int64.not_le.mp (fun z => c_115 ((lg_cmp_ge _ _).mpr (by rw [h74]; exact z))))]), rfl⟩, mk_end hG ht⟩, hS.F ht⟩) hS.2.2 dX14_groups_147
      · skip
        refine lv_aload_n hx hb dX14_groups_75 rfl (lv_at hl 1 rfl) ?_
        refine mm_get (v := .ref (Ar 74)) hx hb hf_X14 (fun _ h9 => h9) hown hK hG hM.1 rfl 74 (by decide) (tb_use hT tw_1465) (fun _ h9 => h9) (mfs_g74 _ _) dX14_groups_76 ?_
        refine lv_iload_n hx hb dX14_groups_79 rfl (lv_at hl 0 rfl) ?_
        refine mm_lald (n := 8) (f := L 74) hx hb hK hG 2 (hM.2.2.1 74 rfl) rfl (by rw [hru]; exact nI_in (N := 8) hu8 (by decide)) dX14_groups_80 ?_
        refine lv_topl (fun x13 ex13 => ?_)
        refine lv_aload_n hx hb dX14_groups_81 rfl (lv_at hl 1 rfl) ?_
        refine mm_get (v := .ref (Ar 28)) hx hb hf_X14 (fun _ h9 => h9) hown hK hG hM.1 rfl 28 (by decide) (tb_use hT tw_1419) (fun _ h9 => h9) (mfs_g28 _ _) dX14_groups_82 ?_
        refine lv_sipush (v := 128) hx hb dX14_groups_85 (by decide) ?_
        refine lv_aload_n hx hb dX14_groups_88 rfl (lv_at hl 1 rfl) ?_
        refine mm_get (v := .int (Iv 42)) hx hb hf_X14 (fun _ h9 => h9) hown hK hG hM.1 rfl 42 (by decide) (tb_use hT tw_1433) (fun _ h9 => h9) (mfs_g42 _ _) dX14_groups_89 ?_
        refine lv_imul hx hb dX14_groups_92 ?_
        refine lv_iload_n hx hb dX14_groups_93 rfl (lv_at hl 2 rfl) ?_
        refine lv_iadd hx hb dX14_groups_94 ?_
        refine mm_iald (n := 256) (f := F 28) hx hb hK hG 1 (hM.2.1 28 rfl) rfl (by rw [show (128 : Int32) * Iv 42 + nI p9 = nI (128 * b9 + p9) by rw [hbk]; exact nI_ma 128 b9 p9]; exact nI_in (N := 256) (by omega) (by decide)) dX14_groups_95 ?_
        refine lv_topi (fun x14 ex14 => ?_)
        obtain ⟨x15, ex15⟩ : ∃ y, y = (x14 : Int32).toInt64 := ⟨_, rfl⟩
        refine lv_i2l (v := x15) hx hb dX14_groups_96 ex15.symm ?_
        refine W.lcmp hx hb dX14_groups_97 ?_
        refine lv_if_ne (tgt := 105) hx hb dX14_groups_98 (by decide) (fun c_98 => ?_) (fun c_98 => ?_)
        · skip
          refine lv_iconst (v := 0) hx hb dX14_groups_105 (by decide) ?_
          have h71 : x5 = F 71 u9 := by rw [ex5, hrc]
          have g26 : x6 = F 26 (128 * b9 + p9) := by rw [ex6, hix]
          have h74 : x13 = L 74 u9 := by rw [ex13, hrc]
          have h28 : x15 = (F 28 (128 * b9 + p9)).toInt64 := by rw [ex15, ex14, hix]
          exact W.iret (v := 0) hx hb hr (fun t ht hW => ⟨⟨_, _, rfl, ⟨(by rw [grM, if_neg (by rw [← h26]; exact c_15), if_neg (by rw [← h71]; exact c_51), if_pos (by rw [← g26]; exact c_72), if_neg (fun z => c_98 ((lg_cmp_eq _ _).mpr (by rw [h74, h28]; exact z)))]), rfl⟩, mk_end hG ht⟩, hS.F ht⟩) hS.2.2 dX14_groups_106
        · skip
          refine lv_iconst (v := 1) hx hb dX14_groups_101 (by decide) ?_
          refine lv_goto (tgt := 106) hx hb dX14_groups_102 (by decide) ?_
          have h71 : x5 = F 71 u9 := by rw [ex5, hrc]
          have g26 : x6 = F 26 (128 * b9 + p9) := by rw [ex6, hix]
          have h74 : x13 = L 74 u9 := by rw [ex13, hrc]
          have h28 : x15 = (F 28 (128 * b9 + p9)).toInt64 := by rw [ex15, ex14, hix]
          exact W.iret (v := 1) hx hb hr (fun t ht hW => ⟨⟨_, _, rfl, ⟨(by rw [grM, if_neg (by rw [← h26]; exact c_15), if_neg (by rw [← h71]; exact c_51), if_pos (by rw [← g26]; exact c_72), if_pos (by rw [← h74, ← h28]; exact (lg_cmp_eq _ _).mp c_98)]), rfl⟩, mk_end hG ht⟩, hS.F ht⟩) hS.2.2 dX14_groups_106
    · skip
      refine lv_iconst (v := 0) hx hb dX14_groups_54 (by decide) ?_
      have h71 : x5 = F 71 u9 := by rw [ex5, hrc]
      exact W.iret (v := 0) hx hb hr (fun t ht hW => ⟨⟨_, _, rfl, ⟨(by rw [grM, if_neg (by rw [← h26]; exact c_15), if_pos (by rw [← h71]; exact c_51)]), rfl⟩, mk_end hG ht⟩, hS.F ht⟩) hS.2.2 dX14_groups_55
  · skip
    refine lv_iconst (v := 1) hx hb dX14_groups_18 (by decide) ?_
    have hix : ((128 : Int32) * Iv 42 + nI p9).toNatClampNeg = (128 * b9 + p9) := by rw [show (128 : Int32) * Iv 42 + nI p9 = nI (128 * b9 + p9) by rw [hbk]; exact nI_ma 128 b9 p9]; exact nI_clamp (by omega)
    have h26 : x1 = F 26 (128 * b9 + p9) := by rw [ex1, hix]
    exact W.iret (v := 1) hx hb hr (fun t ht hW => ⟨⟨_, _, rfl, ⟨(by rw [grM, if_pos (by rw [← h26]; exact c_15)]), rfl⟩, mk_end hG ht⟩, hS.F ht⟩) hS.2.2 dX14_groups_19
