/-- what a GET lays -/
def fvV (v : EdV) (T : PdT) (c p : Nat) : Int64 := match cdN v (v.P c p).2.2.1 with
  | none => 0
  | some k => if (T p).2.1 = 0 then 0 else if cWh (v.C k).2.2.2.1 (v.C k).2.2.2.2.1 (v.C k).2.2.2.2.2 (T p).2.2.1 < cWh (v.C k).2.2.2.1 (v.C k).2.2.2.2.1 (v.C k).2.2.2.2.2 (T p).2.2.1 / (v.C k).2.2.2.2.1 * (v.C k).2.2.2.2.1 then cWh (v.C k).2.2.2.1 (v.C k).2.2.2.2.1 (v.C k).2.2.2.2.2 (T p).2.2.1 / (v.C k).2.2.2.2.1 - 1 else cWh (v.C k).2.2.2.1 (v.C k).2.2.2.2.1 (v.C k).2.2.2.2.2 (T p).2.2.1 / (v.C k).2.2.2.2.1
set_option maxHeartbeats 4000000 in
set_option maxRecDepth 100000 in
theorem c_M_floor (l : Launch) (D : va_G) (cy : Nat → ClassId) (A : Nat → Prop) (X : State → Prop) (hst : mk_St A X) (hXT : ∀ U : State, X U → TB U) (G : Nat → Option va_E) (o : Nat) (Ar : Nat → Nat) (Iv : Nat → Int32) (F : Nat → Nat → Int32) (L : Nat → Nat → Int64) (ft : Nat → Int32) (en b9 n9 : Nat) (v9 : EdV) (s9 i9 j9 k9 ln : Nat) (f9 : Nat → Int32) (P0 : Nat → PdT) (hM : MD cy G o Ar Iv F L) (hB : BK (tkK ft en) (tkV ft en) n9 F b9 v9) (hVL : VLD v9) (hn30 : n9 < 2 ^ 30) (hb9 : b9 < 2) (hbk : Iv 42 = nI b9) (hWd : WDv v9) (hCB : CBv v9) (h66 : Iv 66 = nI ln) (hln : ln ≤ 64) (hoc : ∀ i, i < ln → F 65 i = oc_at (nI ln) f9 (nI i) ∧ 0 ≤ (F 65 i).toInt ∧ (F 65 i).toInt < 256) (hj4 : j9 < 4) (hk80 : k9 < 80) (hop : NMt (tkK ft en) (tkV ft en) n9 (F 36 (400 * b9 + (100 * j9 + k9))) (v9.O j9 k9).2.2.1 ∧ NMt (tkK ft en) (tkV ft en) n9 (F 37 (400 * b9 + (100 * j9 + k9))) (v9.O j9 k9).2.2.2.2.1) (hs0 : svN v9 (v9.O j9 k9).2.2.1 = some s9) (hi0 : paN v9 s9 (v9.O j9 k9).2.2.2.2.1 = some i9) : Met l yX14_floorValue [.code yX14_floorValue cX14_floorValue 12 (some .long)] ({ frames := 3, cells := 0, slots := 0, locals := 120 }) (mk_Pre D vwCl (tyL cy) A X G [.ref o, .int (nI (100 * j9 + k9))]) (va_Ql (fun (r : Int64) (G2 : Nat → Option va_E) => r = fvV v9 (teF v9 s9 ln f9 (P0 s9)) s9 i9 ∧ ∃ (F2 : Nat → Nat → Int32) (L2 : Nat → Nat → Int64), MD cy G2 o Ar Iv F2 L2 ∧ MF G G2 o Ar ∧ (∀ j, ¬ (71 ≤ j ∧ j ≤ 73) → F2 j = F j) ∧ (∀ j, ¬ j = 74 → L2 j = L j)) (mk_B D vwCl A) A) 0 0 A := by
  refine Met.ofW (cc := cX14_floorValue) (maxL := 12) (ret := (some .long)) (by decide) rfl ?_
  intro p e s m args below meth c s₁ B hml hv
  obtain ⟨rfl, hG, hK, hA, hX⟩ := hv
  have hx := B.exec
  have hb := B.bytes
  have hr := B.returns
  have hlocks := B.notSynchronized
  have hT := hXT s hX
  have hown : s.vm.findClass RX14 = some m.cls := findClass_of_methodNamed B.named
  have hf_X14 : ∀ w ∈ u_ws RX14 TX14 76, w.before ([.ref o, .int (nI (100 * j9 + k9))] : List Value).toArray s = true := tb_list hT fX14
  have hS : va_S A s.heap s.heap [] := va_S.rf
  have hl := lv_entry ([.ref o, .int (nI (100 * j9 + k9))]) (n := 12) (Nat.le_of_ble_eq_true rfl)
  rw [lg_entry_eq]
  generalize (lg_sl ([.ref o, .int (nI (100 * j9 + k9))]) ++ List.replicate (12 - (lg_sl ([.ref o, .int (nI (100 * j9 + k9))])).length) Slot.unset).toArray = ls at hl ⊢
  have hl : lv_has ls 12 [(0, .ref o), (1, .int (nI (100 * j9 + k9)))] := hl
  have hF : MF G G o Ar := MF.rf
  have hs9 := svN_lt hs0
  have hi9 := paN_lt hi0
  have hs16 := hB.2.2.1.2.1
  have hp8 := (hB.2.2.1.2.2 s9 hs9).2.2.2.2.1
  have hpr := (hB.2.2.1.2.2 s9 hs9).2.2.2.2.2 i9 hi9
  obtain ⟨N9, hN9⟩ : ∃ y : Nat, 999999 ≤ y := ⟨999999, Nat.le_refl _⟩
  refine lv_aload_n hx hb dX14_floorValue_0 rfl (lv_at hl 0 rfl) ?_
  refine lv_aload_n hx hb dX14_floorValue_1 rfl (lv_at hl 0 rfl) ?_
  refine mm_get (v := .int (Iv 42)) hx hb hf_X14 (fun _ h9 => h9) hown hK hG hM.1 rfl 42 (by decide) (tb_use hT tw_1433) (fun _ h9 => h9) (mfs_g42 _ _) dX14_floorValue_2 ?_
  rw [show (Iv 42) = nI b9 from hbk]
  refine lv_aload_n hx hb dX14_floorValue_5 rfl (lv_at hl 0 rfl) ?_
  refine mm_get (v := .ref (Ar 36)) hx hb hf_X14 (fun _ h9 => h9) hown hK hG hM.1 rfl 36 (by decide) (tb_use hT tw_1427) (fun _ h9 => h9) (mfs_g36 _ _) dX14_floorValue_6 ?_
  refine lv_sipush (v := 400) hx hb dX14_floorValue_9 (by decide) ?_
  refine lv_aload_n hx hb dX14_floorValue_12 rfl (lv_at hl 0 rfl) ?_
  refine mm_get (v := .int (Iv 42)) hx hb hf_X14 (fun _ h9 => h9) hown hK hG hM.1 rfl 42 (by decide) (tb_use hT tw_1433) (fun _ h9 => h9) (mfs_g42 _ _) dX14_floorValue_13 ?_
  rw [show (Iv 42) = nI b9 from hbk]
  refine lv_imul hx hb dX14_floorValue_16 ?_
  refine lv_iload_n hx hb dX14_floorValue_17 rfl (lv_at hl 1 rfl) ?_
  refine lv_iadd hx hb dX14_floorValue_18 ?_
  refine mm_iald (n := 800) (f := F 36) hx hb hK hG 1 (hM.2.1 36 rfl) rfl (by rw [show (400 : Int32) * nI b9 + nI (100 * j9 + k9) = nI (400 * b9 + (100 * j9 + k9)) from nI_ma 400 b9 (100 * j9 + k9)]; exact nI_in (N := 800) (by omega) (by decide)) dX14_floorValue_19 ?_
  refine lv_topi (fun x1 ex1 => ?_)
  refine lv_iconst (v := (-1)) hx hb dX14_floorValue_20 (by decide) ?_
  refine va_calli (va_runV (As := [.int (nI b9), .int x1, .int (-1)]) (rest := []) ⟨hx, hb, hml, hown, (fun _ h9 => absurd h9 List.not_mem_nil : ∀ w ∈ ([] : List Cond), w.before _ s = true)⟩ (c_M_serviceAt l D cy A X hst hXT G o Ar Iv F L b9 v9.nS x1 (-1) hM hb9 hB.2.2.1.1 hB.2.2.1.2.1) (tb_cw (C := RX14) 3 hT tw_1790 tw_109 tw_1787 tw_1789 tw_91 rfl rfl hq_X14_serviceAt ⟨Nat.le_of_ble_eq_true rfl, Nat.le_of_ble_eq_true rfl⟩) (mk_preC hst hG hK hA hX hS vc_15 hM.1) rfl rfl hl.1 rfl (lv_room (Nat.le_of_ble_eq_true rfl)) dX14_floorValue_21 ⟨Nat.le_of_ble_eq_true rfl, Nat.le_of_ble_eq_true rfl⟩) hS (fun q _ h => h) (fun q h => h) (fun r2 G3 t H locs ht hvm hw hB hz1 hk1 hS => ?_)
  have hG : mm D vwCl A G3 H := by rw [← ht]; exact hB
  clear hB hz1 hk1 hvm ht
  obtain ⟨er2, hw⟩ := hw
  rw [hw] at hG
  have hxa : x1 = F 36 (400 * b9 + (100 * j9 + k9)) := by rw [ex1, show (400 : Int32) * nI b9 + nI (100 * j9 + k9) = nI (400 * b9 + (100 * j9 + k9)) from nI_ma 400 b9 (100 * j9 + k9), nI_clamp (by omega)]
  rw [show r2 = nI s9 by rw [er2, hxa]; exact (hB.2.2.1.atN hn30 hop.1).trans (by rw [hs0])]
  refine lv_istore_n (lv' := [(2, .int (nI s9)), (0, .ref o), (1, .int (nI (100 * j9 + k9)))]) hx hb dX14_floorValue_24 rfl hl (by decide) rfl (fun ls hl => ?_)
  refine lv_aload_n hx hb dX14_floorValue_25 rfl (lv_at hl 1 rfl) ?_
  refine lv_aload_n hx hb dX14_floorValue_26 rfl (lv_at hl 1 rfl) ?_
  refine mm_get (v := .int (Iv 42)) hx hb hf_X14 (fun _ h9 => h9) hown hK hG hM.1 rfl 42 (by decide) (tb_use hT tw_1433) (fun _ h9 => h9) (mfs_g42 _ _) dX14_floorValue_27 ?_
  rw [show (Iv 42) = nI b9 from hbk]
  refine lv_iload_n hx hb dX14_floorValue_30 rfl (lv_at hl 0 rfl) ?_
  refine lv_aload_n hx hb dX14_floorValue_31 rfl (lv_at hl 1 rfl) ?_
  refine mm_get (v := .ref (Ar 37)) hx hb hf_X14 (fun _ h9 => h9) hown hK hG hM.1 rfl 37 (by decide) (tb_use hT tw_1428) (fun _ h9 => h9) (mfs_g37 _ _) dX14_floorValue_32 ?_
  refine lv_sipush (v := 400) hx hb dX14_floorValue_35 (by decide) ?_
  refine lv_aload_n hx hb dX14_floorValue_38 rfl (lv_at hl 1 rfl) ?_
  refine mm_get (v := .int (Iv 42)) hx hb hf_X14 (fun _ h9 => h9) hown hK hG hM.1 rfl 42 (by decide) (tb_use hT tw_1433) (fun _ h9 => h9) (mfs_g42 _ _) dX14_floorValue_39 ?_
  rw [show (Iv 42) = nI b9 from hbk]
  refine lv_imul hx hb dX14_floorValue_42 ?_
  refine lv_iload_n hx hb dX14_floorValue_43 rfl (lv_at hl 2 rfl) ?_
  refine lv_iadd hx hb dX14_floorValue_44 ?_
  refine mm_iald (n := 800) (f := F 37) hx hb hK hG 1 (hM.2.1 37 rfl) rfl (by rw [show (400 : Int32) * nI b9 + nI (100 * j9 + k9) = nI (400 * b9 + (100 * j9 + k9)) from nI_ma 400 b9 (100 * j9 + k9)]; exact nI_in (N := 800) (by omega) (by decide)) dX14_floorValue_45 ?_
  refine lv_topi (fun x4 ex4 => ?_)
  refine va_calli (va_runV (As := [.int (nI b9), .int (nI s9), .int x4]) (rest := []) ⟨hx, hb, hml, hown, (fun _ h9 => absurd h9 List.not_mem_nil : ∀ w ∈ ([] : List Cond), w.before _ s = true)⟩ (c_M_paramAt l D cy A X hst hXT G o Ar Iv F L b9 s9 (v9.nP s9) x4 hM hb9 (by omega) (hB.2.2.1.2.2 s9 hs9).2.2.2.1 (hB.2.2.1.2.2 s9 hs9).2.2.2.2.1) (tb_cw (C := RX14) 3 hT tw_1794 tw_109 tw_1791 tw_1793 tw_92 rfl rfl hq_X14_paramAt ⟨Nat.le_of_ble_eq_true rfl, Nat.le_of_ble_eq_true rfl⟩) (mk_preC hst hG hK hA hX hS vc_15 hM.1) rfl rfl hl.1 rfl (lv_room (Nat.le_of_ble_eq_true rfl)) dX14_floorValue_46 ⟨Nat.le_of_ble_eq_true rfl, Nat.le_of_ble_eq_true rfl⟩) hS (fun q _ h => h) (fun q h => h) (fun r5 G6 t H locs ht hvm hw hB hz1 hk1 hS => ?_)
  have hG : mm D vwCl A G6 H := by rw [← ht]; exact hB
  clear hB hz1 hk1 hvm ht
  obtain ⟨er5, hw⟩ := hw
  rw [hw] at hG
  have hxb : x4 = F 37 (400 * b9 + (100 * j9 + k9)) := by rw [ex4, show (400 : Int32) * nI b9 + nI (100 * j9 + k9) = nI (400 * b9 + (100 * j9 + k9)) from nI_ma 400 b9 (100 * j9 + k9), nI_clamp (by omega)]
  rw [show r5 = nI i9 by rw [er5, hxb]; exact (hB.2.2.1.atP hn30 hop.2 hs9).trans (by rw [hi0])]
  refine lv_istore_n (lv' := [(3, .int (nI i9)), (2, .int (nI s9)), (0, .ref o), (1, .int (nI (100 * j9 + k9)))]) hx hb dX14_floorValue_49 rfl hl (by decide) rfl (fun ls hl => ?_)
  refine lv_aload_n hx hb dX14_floorValue_50 rfl (lv_at hl 2 rfl) ?_
  refine lv_iload_n hx hb dX14_floorValue_51 rfl (lv_at hl 1 rfl) ?_
  refine lv_aload_n hx hb dX14_floorValue_52 rfl (lv_at hl 2 rfl) ?_
  refine mm_get (v := .ref (Ar 65)) hx hb hf_X14 (fun _ h9 => h9) hown hK hG hM.1 rfl 65 (by decide) (tb_use hT tw_1456) (fun _ h9 => h9) (mfs_g65 _ _) dX14_floorValue_53 ?_
  refine lv_aload_n hx hb dX14_floorValue_56 rfl (lv_at hl 2 rfl) ?_
  refine mm_get (v := .int (Iv 66)) hx hb hf_X14 (fun _ h9 => h9) hown hK hG hM.1 rfl 66 (by decide) (tb_use hT tw_1457) (fun _ h9 => h9) (mfs_g66 _ _) dX14_floorValue_57 ?_
  rw [show (Iv 66) = nI ln from h66]
  refine lv_iconst (v := 0) hx hb dX14_floorValue_60 (by decide) ?_
  refine va_calli (va_runV (As := [.int (nI s9), .ref (Ar 65), .int (nI ln), .int 0]) (rest := []) ⟨hx, hb, hml, hown, (fun _ h9 => absurd h9 List.not_mem_nil : ∀ w ∈ ([] : List Cond), w.before _ s = true)⟩ (c_M_findA l D cy A X hst hXT G o Ar Iv F L ft en b9 n9 v9 s9 ln f9 (P0 s9) hM hB hVL hWd hn30 hb9 (by exact hbk) hs9 hln hoc) (tb_cw (C := RX14) 4 hT tw_1832 tw_109 tw_1829 tw_1831 tw_96 rfl rfl hq_X14_find ⟨Nat.le_of_ble_eq_true rfl, Nat.le_of_ble_eq_true rfl⟩) (mk_preC hst hG hK hA hX hS vc_15 hM.1) rfl rfl hl.1 rfl (lv_room (Nat.le_of_ble_eq_true rfl)) dX14_floorValue_61 ⟨Nat.le_of_ble_eq_true rfl, Nat.le_of_ble_eq_true rfl⟩) hS (fun q _ h => h) (fun q h => h) (fun r7 G8 t H locs ht hvm hw hB hz1 hk1 hS => ?_)
  have hG : mm D vwCl A G8 H := by rw [← ht]; exact hB
  clear hB hz1 hk1 hvm ht
  obtain ⟨F9, L9, hM2, hF2, hf9, hL9, hT9⟩ := hw
  replace hF := hF.tr hF2; replace hM := hM2; clear hM2 hF2
  obtain ⟨T9, hTe⟩ : ∃ y, teF v9 s9 ln f9 (P0 s9) = y := ⟨_, rfl⟩
  rw [hTe] at hT9
  have hti := hT9 i9 hi9
  have hB9 : BK (tkK ft en) (tkV ft en) n9 F9 b9 v9 := ⟨hB.1.mv (Nat.le_refl _) (fun k i hk => by rw [hf9 k (by omega)]) rfl rfl rfl rfl, hB.2.1.mv (Nat.le_refl _) (fun k i hk => by rw [hf9 k (by omega)]) rfl rfl, hB.2.2.1.mv (Nat.le_refl _) (fun k i hk => by rw [hf9 k (by omega)]) rfl rfl rfl rfl, hB.2.2.2.1.mv (Nat.le_refl _) (fun k i hk => by rw [hf9 k (by omega)]) rfl rfl, hB.2.2.2.2.1.mv (Nat.le_refl _) (fun k i hk => by rw [hf9 k (by omega)]) rfl rfl, hB.2.2.2.2.2.mv (Nat.le_refl _) (fun k i hk => by rw [hf9 k (by omega)]) rfl rfl rfl rfl⟩
  refine lv_istore (lv' := [(4, .int r7), (3, .int (nI i9)), (2, .int (nI s9)), (0, .ref o), (1, .int (nI (100 * j9 + k9)))]) hx hb dX14_floorValue_64 hl (by decide) rfl (fun ls hl => ?_)
  refine lv_aload_n hx hb dX14_floorValue_66 rfl (lv_at hl 3 rfl) ?_
  refine mm_get (v := .ref (Ar 71)) hx hb hf_X14 (fun _ h9 => h9) hown hK hG hM.1 rfl 71 (by decide) (tb_use hT tw_1462) (fun _ h9 => h9) (mfs_g71 _ _) dX14_floorValue_67 ?_
  refine lv_iload_n hx hb dX14_floorValue_70 rfl (lv_at hl 1 rfl) ?_
  refine mm_zald (n := 8) (f := F9 71) hx hb hK hG 3 hM.2.2.2.1 rfl (nI_in (N := 8) (by omega) (by decide)) dX14_floorValue_71 ?_
  refine lv_topi (fun x9 ex9 => ?_)
  refine lv_if_ne (tgt := 77) hx hb dX14_floorValue_72 (by decide) (fun c_72 => ?_) (fun c_72 => ?_)
  · skip
    have h71 : x9 = F9 71 i9 := by rw [ex9, nI_clamp (by omega)]
    have htn : ¬ (T9 i9).2.1 = 0 := fun z => c_72 (by rw [h71, hti.1, if_pos z])
    obtain ⟨ht72, ht73, ht74⟩ := hti.2 htn
    refine lv_aload_n hx hb dX14_floorValue_77 rfl (lv_at hl 3 rfl) ?_
    refine lv_aload_n hx hb dX14_floorValue_78 rfl (lv_at hl 3 rfl) ?_
    refine mm_get (v := .int (Iv 42)) hx hb hf_X14 (fun _ h9 => h9) hown hK hG hM.1 rfl 42 (by decide) (tb_use hT tw_1433) (fun _ h9 => h9) (mfs_g42 _ _) dX14_floorValue_79 ?_
    rw [show (Iv 42) = nI b9 from hbk]
    refine lv_aload_n hx hb dX14_floorValue_82 rfl (lv_at hl 3 rfl) ?_
    refine mm_get (v := .ref (Ar 25)) hx hb hf_X14 (fun _ h9 => h9) hown hK hG hM.1 rfl 25 (by decide) (tb_use hT tw_1416) (fun _ h9 => h9) (mfs_g25 _ _) dX14_floorValue_83 ?_
    refine lv_sipush (v := 128) hx hb dX14_floorValue_86 (by decide) ?_
    refine lv_aload_n hx hb dX14_floorValue_89 rfl (lv_at hl 3 rfl) ?_
    refine mm_get (v := .int (Iv 42)) hx hb hf_X14 (fun _ h9 => h9) hown hK hG hM.1 rfl 42 (by decide) (tb_use hT tw_1433) (fun _ h9 => h9) (mfs_g42 _ _) dX14_floorValue_90 ?_
    rw [show (Iv 42) = nI b9 from hbk]
    refine lv_imul hx hb dX14_floorValue_93 ?_
    refine lv_bipush (v := 8) hx hb dX14_floorValue_94 (by decide) ?_
    refine lv_iload_n hx hb dX14_floorValue_96 rfl (lv_at hl 2 rfl) ?_
    refine lv_imul hx hb dX14_floorValue_97 ?_
    refine lv_iadd hx hb dX14_floorValue_98 ?_
    refine lv_iload_n hx hb dX14_floorValue_99 rfl (lv_at hl 1 rfl) ?_
    refine lv_iadd hx hb dX14_floorValue_100 ?_
    refine mm_iald (n := 256) (f := F9 25) hx hb hK hG 1 (hM.2.1 25 rfl) rfl (by rw [show (128 : Int32) * nI b9 + (8 : Int32) * nI s9 + nI i9 = nI (128 * b9 + (8 * s9 + i9)) from (nI_mb b9 s9 i9).trans (by rw [Nat.add_assoc])]; exact nI_in (N := 256) (by omega) (by decide)) dX14_floorValue_101 ?_
    refine lv_topi (fun x10 ex10 => ?_)
    refine va_calli (va_runV (As := [.int (nI b9), .int x10]) (rest := []) ⟨hx, hb, hml, hown, (fun _ h9 => absurd h9 List.not_mem_nil : ∀ w ∈ ([] : List Cond), w.before _ s = true)⟩ (c_M_codingAt l D cy A X hst hXT G8 o Ar Iv F9 L9 b9 v9.nC x10 hM hb9 hB9.1.1 hB9.1.2.1) (tb_cw (C := RX14) 2 hT tw_1782 tw_109 tw_1779 tw_1781 tw_89 rfl rfl hq_X14_codingAt ⟨Nat.le_of_ble_eq_true rfl, Nat.le_of_ble_eq_true rfl⟩) (mk_preC hst hG hK hA hX hS vc_15 hM.1) rfl rfl hl.1 rfl (lv_room (Nat.le_of_ble_eq_true rfl)) dX14_floorValue_102 ⟨Nat.le_of_ble_eq_true rfl, Nat.le_of_ble_eq_true rfl⟩) hS (fun q _ h => h) (fun q h => h) (fun r11 G12 t H locs ht hvm hw hB hz1 hk1 hS => ?_)
    have hG : mm D vwCl A G12 H := by rw [← ht]; exact hB
    clear hB hz1 hk1 hvm ht
    obtain ⟨er11, hw⟩ := hw
    rw [hw] at hG
    obtain ⟨c9, hc9, hcl⟩ := hVL.cd hp8 hs9 hi9
    have hc12 := hB.1.2.1
    have hpr9 := (hB9.2.2.1.2.2 s9 hs9).2.2.2.2.2 i9 hi9
    have hxc : x10 = F9 25 (128 * b9 + (8 * s9 + i9)) := by rw [ex10, show (128 : Int32) * nI b9 + (8 : Int32) * nI s9 + nI i9 = nI (128 * b9 + (8 * s9 + i9)) from (nI_mb b9 s9 i9).trans (by rw [Nat.add_assoc]), nI_clamp (by omega)]
    have hrc : r11 = nI c9 := by rw [er11, hxc]; exact (hB9.1.at hn30 hpr9.2.1).trans (by rw [hc9])
    rw [hrc]
    have hcd := (hB9.1.2.2 c9 hcl).1
    have hcb := hCB c9 hcl
    have hov0 : ¬ (v9.C c9).2.2.2.2.1 < 0 := fun z => by have y := Int64.lt_iff_toInt_lt.mp z; rw [show (0 : Int64).toInt = 0 by decide] at y; have u := hcb.1.1; omega
    have hovN : (v9.C c9).2.2.2.2.1.toInt.toNat ≤ N9 := by have u := hcb.1.2; omega
    refine lv_istore (lv' := [(5, .int (nI c9)), (4, .int r7), (3, .int (nI i9)), (2, .int (nI s9)), (0, .ref o), (1, .int (nI (100 * j9 + k9)))]) hx hb dX14_floorValue_105 hl (by decide) rfl (fun ls hl => ?_)
    refine lv_aload_n hx hb dX14_floorValue_107 rfl (lv_at hl 4 rfl) ?_
    refine lv_iload hx hb dX14_floorValue_108 (lv_at hl 0 rfl) ?_
    refine lv_aload_n hx hb dX14_floorValue_110 rfl (lv_at hl 4 rfl) ?_
    refine mm_get (v := .ref (Ar 74)) hx hb hf_X14 (fun _ h9 => h9) hown hK hG hM.1 rfl 74 (by decide) (tb_use hT tw_1465) (fun _ h9 => h9) (mfs_g74 _ _) dX14_floorValue_111 ?_
    refine lv_iload_n hx hb dX14_floorValue_114 rfl (lv_at hl 2 rfl) ?_
    refine mm_lald (n := 8) (f := L9 74) hx hb hK hG 2 (hM.2.2.1 74 rfl) rfl (nI_in (N := 8) (by omega) (by decide)) dX14_floorValue_115 ?_
    refine lv_topl (fun x13 ex13 => ?_)
    rw [show x13 = (T9 i9).2.2.1 by rw [ex13, nI_clamp (by omega)]; exact ht74]
    have hrb := teF_b hWd (c := s9) (ln := ln) (f := f9) (P := P0 s9) hi9
    rw [hTe] at hrb
    refine va_calll (va_runV (As := [.int (nI c9), .long ((T9 i9).2.2.1)]) (rest := []) ⟨hx, hb, hml, hown, (fun _ h9 => absurd h9 List.not_mem_nil : ∀ w ∈ ([] : List Cond), w.before _ s = true)⟩ (c_M_above l D cy A X hst hXT G8 o Ar Iv F9 L9 b9 c9 ((T9 i9).2.2.1) hM hb9 (by exact hbk) (by omega)) (tb_cw (C := RX14) 2 hT tw_1842 tw_109 tw_1839 tw_1841 tw_98 rfl rfl hq_X14_above ⟨Nat.le_of_ble_eq_true rfl, Nat.le_of_ble_eq_true rfl⟩) (mk_preC hst hG hK hA hX hS vc_15 hM.1) rfl rfl hl.1 rfl (lv_room (Nat.le_of_ble_eq_true rfl)) dX14_floorValue_116 ⟨Nat.le_of_ble_eq_true rfl, Nat.le_of_ble_eq_true rfl⟩) hS (fun q _ h => h) (fun q h => h) (fun r14 G15 t H locs ht hvm hw hB hz1 hk1 hS => ?_)
    have hG : mm D vwCl A G15 H := by rw [← ht]; exact hB
    clear hB hz1 hk1 hvm ht
    obtain ⟨er14, hw⟩ := hw
    rw [hw] at hG
    rw [show r14 = cWh (v9.C c9).2.2.2.1 (v9.C c9).2.2.2.2.1 (v9.C c9).2.2.2.2.2 (T9 i9).2.2.1 from er14.trans (ab_eq hcd).1]
    have hlab := labs_b (cWh_b hcb hrb).1
    obtain ⟨aa9, haa⟩ : ∃ y, cWh (v9.C c9).2.2.2.1 (v9.C c9).2.2.2.2.1 (v9.C c9).2.2.2.2.2 (T9 i9).2.2.1 = y := ⟨_, rfl⟩
    rw [haa] at hlab ⊢
    refine lv_lstore (lv' := [(6, .long aa9), (5, .int (nI c9)), (4, .int r7), (3, .int (nI i9)), (2, .int (nI s9)), (0, .ref o), (1, .int (nI (100 * j9 + k9)))]) hx hb dX14_floorValue_119 hl (by decide) rfl (fun ls hl => ?_)
    refine lv_aload_n hx hb dX14_floorValue_121 rfl (lv_at hl 5 rfl) ?_
    refine lv_iload hx hb dX14_floorValue_122 (lv_at hl 1 rfl) ?_
    refine va_calli (va_runV (As := [.int (nI c9)]) (rest := []) ⟨hx, hb, hml, hown, (fun _ h9 => absurd h9 List.not_mem_nil : ∀ w ∈ ([] : List Cond), w.before _ s = true)⟩ (c_M_below l D cy A X hst hXT G8 o Ar Iv F9 L9 b9 c9 hM hb9 (by exact hbk) (by omega)) (tb_cw (C := RX14) 1 hT tw_1846 tw_109 tw_1843 tw_1845 tw_99 rfl rfl hq_X14_below ⟨Nat.le_of_ble_eq_true rfl, Nat.le_of_ble_eq_true rfl⟩) (mk_preC hst hG hK hA hX hS vc_15 hM.1) rfl rfl hl.1 rfl (lv_room (Nat.le_of_ble_eq_true rfl)) dX14_floorValue_124 ⟨Nat.le_of_ble_eq_true rfl, Nat.le_of_ble_eq_true rfl⟩) hS (fun q _ h => h) (fun q h => h) (fun r16 G17 t H locs ht hvm hw hB hz1 hk1 hS => ?_)
    have hG : mm D vwCl A G17 H := by rw [← ht]; exact hB
    clear hB hz1 hk1 hvm ht
    obtain ⟨er16, hw⟩ := hw
    rw [hw] at hG
    obtain ⟨x18, ex18⟩ : ∃ y, y = (r16 : Int32).toInt64 := ⟨_, rfl⟩
    refine lv_i2l (v := x18) hx hb dX14_floorValue_127 ex18.symm ?_
    rw [show x18 = (v9.C c9).2.2.2.2.1 by rw [ex18, er16]; exact (ab_eq (r := 0) hcd).2]
    obtain ⟨ov9, hov9⟩ : ∃ y, (v9.C c9).2.2.2.2.1 = y := ⟨_, rfl⟩
    rw [hov9] at hov0 hovN ⊢
    have hov1 := hcb.1.1
    rw [hov9] at hov1
    refine lv_lstore (lv' := [(8, .long ov9), (6, .long aa9), (5, .int (nI c9)), (4, .int r7), (3, .int (nI i9)), (2, .int (nI s9)), (0, .ref o), (1, .int (nI (100 * j9 + k9)))]) hx hb dX14_floorValue_128 hl (by decide) rfl (fun ls hl => ?_)
    refine lv_lload hx hb dX14_floorValue_130 (lv_at hl 1 rfl) ?_
    refine lv_lload hx hb dX14_floorValue_132 (lv_at hl 0 rfl) ?_
    refine lv_ldiv hx hb dX14_floorValue_134 (fun z => by rw [z] at hov1; revert hov1; decide) ?_
    refine lv_topl (fun x19 ex19 => ?_)
    refine lv_lstore (lv' := [(10, .long x19), (8, .long ov9), (6, .long aa9), (5, .int (nI c9)), (4, .int r7), (3, .int (nI i9)), (2, .int (nI s9)), (0, .ref o), (1, .int (nI (100 * j9 + k9)))]) hx hb dX14_floorValue_135 hl (by decide) rfl (fun ls hl => ?_)
    refine lv_lload hx hb dX14_floorValue_137 (lv_at hl 0 rfl) ?_
    refine lv_lload hx hb dX14_floorValue_139 (lv_at hl 1 rfl) ?_
    refine lv_lmul hx hb dX14_floorValue_141 ?_
    refine lv_lload hx hb dX14_floorValue_142 (lv_at hl 2 rfl) ?_
    refine W.lcmp hx hb dX14_floorValue_144 ?_
    refine lv_if_le (tgt := 155) hx hb dX14_floorValue_145 (by decide) (fun c_145 => ?_) (fun c_145 => ?_)
    · skip
      refine lv_lload hx hb dX14_floorValue_155 (lv_at hl 0 rfl) ?_
      have hcmp : (aa9 < aa9 / ov9 * ov9) ↔ ¬ lg_cmp (x19 * ov9) aa9 ≤ 0 := by rw [ex19]; exact ⟨fun y z => absurd ((lg_cmp_le _ _).mp z) (Int64.not_le.mpr y), fun y => Int64.not_le.mp (fun z => y ((lg_cmp_le _ _).mpr z))⟩
      exact W.lret (v := x19) hx hb hr (fun t ht hW => ⟨⟨_, _, rfl, ⟨(by rw [hTe]; unfold fvV; rw [hc9]; dsimp only; rw [if_neg htn, haa, hov9, if_neg (fun y => (hcmp.mp y) c_145)]; exact ex19), F9, L9, hM, hF, hf9, hL9⟩, mk_end hG ht⟩, hS.F ht⟩) hS.2.2 dX14_floorValue_157
    · skip
      refine lv_lload hx hb dX14_floorValue_148 (lv_at hl 0 rfl) ?_
      refine lv_lconst (v := 1) hx hb dX14_floorValue_150 (by decide) ?_
      refine lv_lsub hx hb dX14_floorValue_151 ?_
      refine lv_goto (tgt := 157) hx hb dX14_floorValue_152 (by decide) ?_
      have hcmp : (aa9 < aa9 / ov9 * ov9) ↔ ¬ lg_cmp (x19 * ov9) aa9 ≤ 0 := by rw [ex19]; exact ⟨fun y z => absurd ((lg_cmp_le _ _).mp z) (Int64.not_le.mpr y), fun y => Int64.not_le.mp (fun z => y ((lg_cmp_le _ _).mpr z))⟩
      exact W.lret (v := (x19 - 1)) hx hb hr (fun t ht hW => ⟨⟨_, _, rfl, ⟨(by rw [hTe]; unfold fvV; rw [hc9]; dsimp only; rw [if_neg htn, haa, hov9, if_pos (hcmp.mpr c_145), ex19]), F9, L9, hM, hF, hf9, hL9⟩, mk_end hG ht⟩, hS.F ht⟩) hS.2.2 dX14_floorValue_157
  · skip
    refine lv_lconst (v := 0) hx hb dX14_floorValue_75 (by decide) ?_
    have h71 : x9 = F9 71 i9 := by rw [ex9, nI_clamp (by omega)]
    have ht0 : (T9 i9).2.1 = 0 := by refine Classical.byContradiction (fun z => ?_); have y := c_72; rw [h71, hti.1, if_neg z] at y; exact absurd y (by decide)
    obtain ⟨c9, hc9, hcl⟩ := hVL.cd hp8 hs9 hi9
    exact W.lret (v := 0) hx hb hr (fun t ht hW => ⟨⟨_, _, rfl, ⟨(by rw [hTe]; unfold fvV; rw [hc9]; dsimp only; rw [if_pos ht0]), F9, L9, hM, hF, hf9, hL9⟩, mk_end hG ht⟩, hS.F ht⟩) hS.2.2 dX14_floorValue_76
