/-- the name of a row that was found -/
def rnN (v : EdV) (c : Nat) (o : Option Nat) : Int64 := match o with
  | none => 0
  | some j => (v.R c j).2.2.1
set_option maxHeartbeats 4000000 in
set_option maxRecDepth 100000 in
theorem c_M_decode (l : Launch) (D : va_G) (cy : Nat → ClassId) (A : Nat → Prop) (X : State → Prop) (hst : mk_St A X) (hXT : ∀ U : State, X U → TB U) (G : Nat → Option va_E) (o : Nat) (Ar : Nat → Nat) (Iv : Nat → Int32) (F : Nat → Nat → Int32) (L : Nat → Nat → Int64) (ft : Nat → Int32) (en b9 n9 : Nat) (v9 : EdV) (nm : Int64 → Int32) (ln N9 : Nat) (f9 : Nat → Int32) (P0 : Nat → PdT) (iv jv wv : Int32) (hM : MD cy G o Ar Iv F L) (hB : BK (tkK ft en) (tkV ft en) n9 F b9 v9) (hLS : LSv v9) (hVL : VLD v9) (hn30 : n9 < 2 ^ 30) (hb9 : b9 < 2) (hbk : Iv 42 = nI b9) (h43 : ¬ Iv 43 = 0) (hnm : ∀ r x, NMt (tkK ft en) (tkV ft en) n9 r x → r = nm x) (hWd : WDv v9) (hCB : CBv v9) (h66 : Iv 66 = nI ln) (hln : ln ≤ 64) (hN9 : 999999 ≤ N9) (hoc : ∀ i, i < ln → F 65 i = oc_at (nI ln) f9 (nI i) ∧ 0 ≤ (F 65 i).toInt ∧ (F 65 i).toInt < 256) : Met l yX14_decode [.code yX14_decode cX14_decode 14 (some .long)] ({ frames := 3, cells := 0, slots := 0, locals := 120 }) (mk_Pre D vwCl (tyL cy) A X G [.ref o, .int iv, .int jv, .int wv]) (va_Ql (fun (r : Int64) (G2 : Nat → Option va_E) => r = (match spO v9 iv jv with | none => -1 | some y => if 0 ≤ wv ∧ wv ≤ 4 then dcN N9 v9 nm (teF v9 y.1 ln f9 (P0 y.1)) y.1 y.2 wv else -2) ∧ ∃ (F2 : Nat → Nat → Int32) (L2 : Nat → Nat → Int64), MD cy G2 o Ar (upd Iv 38 0) F2 L2 ∧ MF G G2 o Ar ∧ (∀ j, ¬ (71 ≤ j ∧ j ≤ 73) → F2 j = F j) ∧ (∀ j, ¬ j = 74 → L2 j = L j)) (mk_B D vwCl A) A) 0 0 A := by
  refine Met.ofW (cc := cX14_decode) (maxL := 14) (ret := (some .long)) (by decide) rfl ?_
  intro p e s m args below meth c s₁ B hml hv
  obtain ⟨rfl, hG, hK, hA, hX⟩ := hv
  have hx := B.exec
  have hb := B.bytes
  have hr := B.returns
  have hlocks := B.notSynchronized
  have hT := hXT s hX
  have hown : s.vm.findClass RX14 = some m.cls := findClass_of_methodNamed B.named
  have hf_X14 : ∀ w ∈ u_ws RX14 TX14 76, w.before ([.ref o, .int iv, .int jv, .int wv] : List Value).toArray s = true := tb_list hT fX14
  have hS : va_S A s.heap s.heap [] := va_S.rf
  have hl := lv_entry ([.ref o, .int iv, .int jv, .int wv]) (n := 14) (Nat.le_of_ble_eq_true rfl)
  rw [lg_entry_eq]
  generalize (lg_sl ([.ref o, .int iv, .int jv, .int wv]) ++ List.replicate (14 - (lg_sl ([.ref o, .int iv, .int jv, .int wv])).length) Slot.unset).toArray = ls at hl ⊢
  have hl : lv_has ls 14 [(0, .ref o), (1, .int iv), (2, .int jv), (3, .int wv)] := hl
  have hF : MF G G o Ar := MF.rf
  refine lv_aload_n hx hb dX14_decode_0 rfl (lv_at hl 0 rfl) ?_
  refine lv_iconst (v := 0) hx hb dX14_decode_1 (by decide) ?_
  refine mm_put (v := .int 0) (ty := .int) hx hb hf_X14 (fun _ h9 => h9) tyX14 tyX14_ok nmX14 hown hK hG hS hM.1 rfl 38 (by decide) (tb_use hT tw_1429) (fun _ h9 => h9) rfl (by decide +kernel) rfl rfl (mfs_l38 _ _) dX14_decode_2 (fun H locs hG hS => ?_)
  have hM := MD.puti (k := 38) (v := 0) hM (mfs_s38 _ _ _)
  have hF := hF.wo (e' := .inr (15, (mfs Ar Iv).set 38 (.int 0)))
  obtain ⟨I1, eI1⟩ : ∃ g, g = upd Iv 38 0 := ⟨_, rfl⟩
  rw [← eI1] at hM
  have hgn := gn_MD hG hM hF
  clear hG hM hF
  obtain ⟨G2, hG, hM, hF⟩ := hgn
  refine lv_aload_n hx hb dX14_decode_5 rfl (lv_at hl 0 rfl) ?_
  refine lv_iload_n hx hb dX14_decode_6 rfl (lv_at hl 1 rfl) ?_
  refine lv_iload_n hx hb dX14_decode_7 rfl (lv_at hl 2 rfl) ?_
  refine va_calli (va_runV (As := [.int iv, .int jv]) (rest := []) ⟨hx, hb, hml, hown, (fun _ h9 => absurd h9 List.not_mem_nil : ∀ w ∈ ([] : List Cond), w.before _ s = true)⟩ (c_M_isParam l D cy A X hst hXT G2 o Ar I1 F L b9 v9.nS v9.nP iv jv hM hb9 (by rw [eI1]; exact hbk) hB.2.2.1.1 hB.2.2.1.2.1 (fun s hs => ⟨(hB.2.2.1.2.2 s hs).2.2.2.1, (hB.2.2.1.2.2 s hs).2.2.2.2.1⟩)) (tb_cw (C := RX14) 2 hT tw_1818 tw_109 tw_1815 tw_1817 tw_95 rfl rfl hq_X14_isParam ⟨Nat.le_of_ble_eq_true rfl, Nat.le_of_ble_eq_true rfl⟩) (mk_preC hst hG hK hA hX hS vc_15 hM.1) rfl rfl hl.1 rfl (lv_room (Nat.le_of_ble_eq_true rfl)) dX14_decode_8 ⟨Nat.le_of_ble_eq_true rfl, Nat.le_of_ble_eq_true rfl⟩) hS (fun q _ h => h) (fun q h => h) (fun r3 G4 t H locs ht hvm hw hB hz1 hk1 hS => ?_)
  have hG : mm D vwCl A G4 H := by rw [← ht]; exact hB
  clear hB hz1 hk1 hvm ht
  obtain ⟨er3, hw⟩ := hw
  rw [hw] at hG
  refine lv_if_ne (tgt := 18) hx hb dX14_decode_11 (by decide) (fun c_11 => ?_) (fun c_11 => ?_)
  · skip
    have hsv : isPv I1 v9.nS v9.nP iv jv = true := b2i_t (by rw [← er3]; exact c_11)
    have hs16 := hB.2.2.1.2.1
    obtain ⟨s9, i9, hs9, hi9, hxs, hxi, ho9, hoi⟩ := isPv_ix (by omega) (fun s hs => by have y := (hB.2.2.1.2.2 s hs).2.2.2.2.1; omega) hsv
    have hp8 := (hB.2.2.1.2.2 s9 hs9).2.2.2.2.1
    have hpr := (hB.2.2.1.2.2 s9 hs9).2.2.2.2.2 i9 hi9
    have hsp : spO v9 iv jv = some (s9, i9) := by unfold spO; rw [show svO v9 iv = some s9 from ho9]; dsimp only; rw [show paO v9 s9 jv = some i9 from hoi]; rfl
    refine lv_iload_n hx hb dX14_decode_18 rfl (lv_at hl 3 rfl) ?_
    refine lv_if_lt (tgt := 27) hx hb dX14_decode_19 (by decide) (fun c_19 => ?_) (fun c_19 => ?_)
    · skip
      refine lv_ldc2 hx hb hown (tb_use hT tw_1828) dX14_decode_27 ?_
      have hI38 : I1 = upd Iv 38 0 := eI1
      exact W.lret (v := (-2)) hx hb hr (fun t ht hW => ⟨⟨_, _, rfl, ⟨(by rw [hsp]; dsimp only; rw [if_neg (fun y => absurd y.1 (Int32.not_le.mpr c_19))]), F, L, (by rw [← hI38]; exact hM), hF, (fun _ _ => rfl), (fun _ _ => rfl)⟩, mk_end hG ht⟩, hS.F ht⟩) hS.2.2 dX14_decode_30
    · skip
      refine lv_iload_n hx hb dX14_decode_22 rfl (lv_at hl 3 rfl) ?_
      refine lv_iconst (v := 4) hx hb dX14_decode_23 (by decide) ?_
      refine lv_icmp_le (tgt := 31) hx hb dX14_decode_24 (by decide) (fun c_24 => ?_) (fun c_24 => ?_)
      · skip
        refine lv_iload_n hx hb dX14_decode_31 rfl (lv_at hl 2 rfl) ?_
        refine lv_iconst (v := 1) hx hb dX14_decode_32 (by decide) ?_
        refine lv_isub hx hb dX14_decode_33 ?_
        rw [show jv - 1 = nI i9 by rw [hxi]; exact nI_pred i9]
        refine lv_istore (lv' := [(4, .int (nI i9)), (0, .ref o), (1, .int iv), (2, .int jv), (3, .int wv)]) hx hb dX14_decode_34 hl (by decide) rfl (fun ls hl => ?_)
        refine lv_aload_n hx hb dX14_decode_36 rfl (lv_at hl 1 rfl) ?_
        refine lv_iload_n hx hb dX14_decode_37 rfl (lv_at hl 2 rfl) ?_
        refine lv_iconst (v := 1) hx hb dX14_decode_38 (by decide) ?_
        refine lv_isub hx hb dX14_decode_39 ?_
        rw [show iv - 1 = nI s9 by rw [hxs]; exact nI_pred s9]
        refine lv_aload_n hx hb dX14_decode_40 rfl (lv_at hl 1 rfl) ?_
        refine mm_get (v := .ref (Ar 65)) hx hb hf_X14 (fun _ h9 => h9) hown hK hG hM.1 rfl 65 (by decide) (tb_use hT tw_1456) (fun _ h9 => h9) (mfs_g65 _ _) dX14_decode_41 ?_
        refine lv_aload_n hx hb dX14_decode_44 rfl (lv_at hl 1 rfl) ?_
        refine mm_get (v := .int (Iv 66)) hx hb hf_X14 (fun _ h9 => h9) hown hK hG hM.1 rfl 66 (by decide) (tb_use hT tw_1457) (fun _ h9 => h9) (by rw [mfs_g66, eI1] <;> rfl) dX14_decode_45 ?_
        rw [show (Iv 66) = nI ln from h66]
        refine lv_iconst (v := 0) hx hb dX14_decode_48 (by decide) ?_
        refine va_calli (va_runV (As := [.int (nI s9), .ref (Ar 65), .int (nI ln), .int 0]) (rest := []) ⟨hx, hb, hml, hown, (fun _ h9 => absurd h9 List.not_mem_nil : ∀ w ∈ ([] : List Cond), w.before _ s = true)⟩ (c_M_findA l D cy A X hst hXT G2 o Ar I1 F L ft en b9 n9 v9 s9 ln f9 (P0 s9) hM hB hVL hWd hn30 hb9 (by rw [eI1]; exact hbk) hs9 hln hoc) (tb_cw (C := RX14) 4 hT tw_1832 tw_109 tw_1829 tw_1831 tw_96 rfl rfl hq_X14_find ⟨Nat.le_of_ble_eq_true rfl, Nat.le_of_ble_eq_true rfl⟩) (mk_preC hst hG hK hA hX hS vc_15 hM.1) rfl rfl hl.1 rfl (lv_room (Nat.le_of_ble_eq_true rfl)) dX14_decode_49 ⟨Nat.le_of_ble_eq_true rfl, Nat.le_of_ble_eq_true rfl⟩) hS (fun q _ h => h) (fun q h => h) (fun r5 G6 t H locs ht hvm hw hB hz1 hk1 hS => ?_)
        have hG : mm D vwCl A G6 H := by rw [← ht]; exact hB
        clear hB hz1 hk1 hvm ht
        obtain ⟨F9, L9, hM2, hF2, hf9, hL9, hT9⟩ := hw
        replace hF := hF.tr hF2; replace hM := hM2; clear hM2 hF2
        obtain ⟨T9, hTe⟩ : ∃ y, teF v9 s9 ln f9 (P0 s9) = y := ⟨_, rfl⟩
        rw [hTe] at hT9
        have hti := hT9 i9 hi9
        have hB9 : BK (tkK ft en) (tkV ft en) n9 F9 b9 v9 := ⟨hB.1.mv (Nat.le_refl _) (fun k i hk => by rw [hf9 k (by omega)]) rfl rfl rfl rfl, hB.2.1.mv (Nat.le_refl _) (fun k i hk => by rw [hf9 k (by omega)]) rfl rfl, hB.2.2.1.mv (Nat.le_refl _) (fun k i hk => by rw [hf9 k (by omega)]) rfl rfl rfl rfl, hB.2.2.2.1.mv (Nat.le_refl _) (fun k i hk => by rw [hf9 k (by omega)]) rfl rfl, hB.2.2.2.2.1.mv (Nat.le_refl _) (fun k i hk => by rw [hf9 k (by omega)]) rfl rfl, hB.2.2.2.2.2.mv (Nat.le_refl _) (fun k i hk => by rw [hf9 k (by omega)]) rfl rfl rfl rfl⟩
        refine lv_istore (lv' := [(5, .int r5), (4, .int (nI i9)), (0, .ref o), (1, .int iv), (2, .int jv), (3, .int wv)]) hx hb dX14_decode_52 hl (by decide) rfl (fun ls hl => ?_)
        refine lv_aload_n hx hb dX14_decode_54 rfl (lv_at hl 2 rfl) ?_
        refine mm_get (v := .ref (Ar 71)) hx hb hf_X14 (fun _ h9 => h9) hown hK hG hM.1 rfl 71 (by decide) (tb_use hT tw_1462) (fun _ h9 => h9) (mfs_g71 _ _) dX14_decode_55 ?_
        refine lv_iload hx hb dX14_decode_58 (lv_at hl 1 rfl) ?_
        refine mm_zald (n := 8) (f := F9 71) hx hb hK hG 3 hM.2.2.2.1 rfl (nI_in (N := 8) (by omega) (by decide)) dX14_decode_60 ?_
        refine lv_topi (fun x7 ex7 => ?_)
        refine lv_if_ne (tgt := 77) hx hb dX14_decode_61 (by decide) (fun c_61 => ?_) (fun c_61 => ?_)
        · skip
          have h71 : x7 = F9 71 i9 := by rw [ex7, nI_clamp (by omega)]
          have htn : ¬ (T9 i9).2.1 = 0 := fun z => c_61 (by rw [h71, hti.1, if_pos z])
          obtain ⟨ht72, ht73, ht74⟩ := hti.2 htn
          refine lv_aload_n hx hb dX14_decode_77 rfl (lv_at hl 2 rfl) ?_
          refine lv_aload_n hx hb dX14_decode_78 rfl (lv_at hl 2 rfl) ?_
          refine mm_get (v := .int (Iv 42)) hx hb hf_X14 (fun _ h9 => h9) hown hK hG hM.1 rfl 42 (by decide) (tb_use hT tw_1433) (fun _ h9 => h9) (by rw [mfs_g42, eI1] <;> rfl) dX14_decode_79 ?_
          rw [show (Iv 42) = nI b9 from hbk]
          refine lv_aload_n hx hb dX14_decode_82 rfl (lv_at hl 2 rfl) ?_
          refine mm_get (v := .ref (Ar 25)) hx hb hf_X14 (fun _ h9 => h9) hown hK hG hM.1 rfl 25 (by decide) (tb_use hT tw_1416) (fun _ h9 => h9) (mfs_g25 _ _) dX14_decode_83 ?_
          refine lv_sipush (v := 128) hx hb dX14_decode_86 (by decide) ?_
          refine lv_aload_n hx hb dX14_decode_89 rfl (lv_at hl 2 rfl) ?_
          refine mm_get (v := .int (Iv 42)) hx hb hf_X14 (fun _ h9 => h9) hown hK hG hM.1 rfl 42 (by decide) (tb_use hT tw_1433) (fun _ h9 => h9) (by rw [mfs_g42, eI1] <;> rfl) dX14_decode_90 ?_
          rw [show (Iv 42) = nI b9 from hbk]
          refine lv_imul hx hb dX14_decode_93 ?_
          refine lv_bipush (v := 8) hx hb dX14_decode_94 (by decide) ?_
          refine lv_iload_n hx hb dX14_decode_96 rfl (lv_at hl 3 rfl) ?_
          refine lv_iconst (v := 1) hx hb dX14_decode_97 (by decide) ?_
          refine lv_isub hx hb dX14_decode_98 ?_
          rw [show iv - 1 = nI s9 by rw [hxs]; exact nI_pred s9]
          refine lv_imul hx hb dX14_decode_99 ?_
          refine lv_iadd hx hb dX14_decode_100 ?_
          refine lv_iload hx hb dX14_decode_101 (lv_at hl 1 rfl) ?_
          refine lv_iadd hx hb dX14_decode_103 ?_
          refine mm_iald (n := 256) (f := F9 25) hx hb hK hG 1 (hM.2.1 25 rfl) rfl (by rw [show (128 : Int32) * nI b9 + (8 : Int32) * nI s9 + nI i9 = nI (128 * b9 + (8 * s9 + i9)) from (nI_mb b9 s9 i9).trans (by rw [Nat.add_assoc])]; exact nI_in (N := 256) (by omega) (by decide)) dX14_decode_104 ?_
          refine lv_topi (fun x8 ex8 => ?_)
          refine va_calli (va_runV (As := [.int (nI b9), .int x8]) (rest := []) ⟨hx, hb, hml, hown, (fun _ h9 => absurd h9 List.not_mem_nil : ∀ w ∈ ([] : List Cond), w.before _ s = true)⟩ (c_M_codingAt l D cy A X hst hXT G6 o Ar I1 F9 L9 b9 v9.nC x8 hM hb9 hB9.1.1 hB9.1.2.1) (tb_cw (C := RX14) 2 hT tw_1782 tw_109 tw_1779 tw_1781 tw_89 rfl rfl hq_X14_codingAt ⟨Nat.le_of_ble_eq_true rfl, Nat.le_of_ble_eq_true rfl⟩) (mk_preC hst hG hK hA hX hS vc_15 hM.1) rfl rfl hl.1 rfl (lv_room (Nat.le_of_ble_eq_true rfl)) dX14_decode_105 ⟨Nat.le_of_ble_eq_true rfl, Nat.le_of_ble_eq_true rfl⟩) hS (fun q _ h => h) (fun q h => h) (fun r9 G10 t H locs ht hvm hw hB hz1 hk1 hS => ?_)
          have hG : mm D vwCl A G10 H := by rw [← ht]; exact hB
          clear hB hz1 hk1 hvm ht
          obtain ⟨er9, hw⟩ := hw
          rw [hw] at hG
          obtain ⟨c9, hc9, hcl⟩ := hVL.cd hp8 hs9 hi9
          have hc12 := hB.1.2.1
          have hpr9 := (hB9.2.2.1.2.2 s9 hs9).2.2.2.2.2 i9 hi9
          have hxc : x8 = F9 25 (128 * b9 + (8 * s9 + i9)) := by rw [ex8, show (128 : Int32) * nI b9 + (8 : Int32) * nI s9 + nI i9 = nI (128 * b9 + (8 * s9 + i9)) from (nI_mb b9 s9 i9).trans (by rw [Nat.add_assoc]), nI_clamp (by omega)]
          have hrc : r9 = nI c9 := by rw [er9, hxc]; exact (hB9.1.at hn30 hpr9.2.1).trans (by rw [hc9])
          rw [hrc]
          have hcd := (hB9.1.2.2 c9 hcl).1
          have hcb := hCB c9 hcl
          have hov0 : ¬ (v9.C c9).2.2.2.2.1 < 0 := fun z => by have y := Int64.lt_iff_toInt_lt.mp z; rw [show (0 : Int64).toInt = 0 by decide] at y; have u := hcb.1.1; omega
          have hovN : (v9.C c9).2.2.2.2.1.toInt.toNat ≤ N9 := by have u := hcb.1.2; omega
          refine lv_istore (lv' := [(6, .int (nI c9)), (5, .int r5), (4, .int (nI i9)), (0, .ref o), (1, .int iv), (2, .int jv), (3, .int wv)]) hx hb dX14_decode_108 hl (by decide) rfl (fun ls hl => ?_)
          refine lv_aload_n hx hb dX14_decode_110 rfl (lv_at hl 3 rfl) ?_
          refine lv_iload hx hb dX14_decode_111 (lv_at hl 0 rfl) ?_
          refine lv_aload_n hx hb dX14_decode_113 rfl (lv_at hl 3 rfl) ?_
          refine mm_get (v := .ref (Ar 74)) hx hb hf_X14 (fun _ h9 => h9) hown hK hG hM.1 rfl 74 (by decide) (tb_use hT tw_1465) (fun _ h9 => h9) (mfs_g74 _ _) dX14_decode_114 ?_
          refine lv_iload hx hb dX14_decode_117 (lv_at hl 2 rfl) ?_
          refine mm_lald (n := 8) (f := L9 74) hx hb hK hG 2 (hM.2.2.1 74 rfl) rfl (nI_in (N := 8) (by omega) (by decide)) dX14_decode_119 ?_
          refine lv_topl (fun x11 ex11 => ?_)
          rw [show x11 = (T9 i9).2.2.1 by rw [ex11, nI_clamp (by omega)]; exact ht74]
          have hrb := teF_b hWd (c := s9) (ln := ln) (f := f9) (P := P0 s9) hi9
          rw [hTe] at hrb
          refine va_calll (va_runV (As := [.int (nI c9), .long ((T9 i9).2.2.1)]) (rest := []) ⟨hx, hb, hml, hown, (fun _ h9 => absurd h9 List.not_mem_nil : ∀ w ∈ ([] : List Cond), w.before _ s = true)⟩ (c_M_above l D cy A X hst hXT G6 o Ar I1 F9 L9 b9 c9 ((T9 i9).2.2.1) hM hb9 (by rw [eI1]; exact hbk) (by omega)) (tb_cw (C := RX14) 2 hT tw_1842 tw_109 tw_1839 tw_1841 tw_98 rfl rfl hq_X14_above ⟨Nat.le_of_ble_eq_true rfl, Nat.le_of_ble_eq_true rfl⟩) (mk_preC hst hG hK hA hX hS vc_15 hM.1) rfl rfl hl.1 rfl (lv_room (Nat.le_of_ble_eq_true rfl)) dX14_decode_120 ⟨Nat.le_of_ble_eq_true rfl, Nat.le_of_ble_eq_true rfl⟩) hS (fun q _ h => h) (fun q h => h) (fun r12 G13 t H locs ht hvm hw hB hz1 hk1 hS => ?_)
          have hG : mm D vwCl A G13 H := by rw [← ht]; exact hB
          clear hB hz1 hk1 hvm ht
          obtain ⟨er12, hw⟩ := hw
          rw [hw] at hG
          rw [show r12 = cWh (v9.C c9).2.2.2.1 (v9.C c9).2.2.2.2.1 (v9.C c9).2.2.2.2.2 (T9 i9).2.2.1 from er12.trans (ab_eq hcd).1]
          have hlab := labs_b (cWh_b hcb hrb).1
          obtain ⟨aa9, haa⟩ : ∃ y, cWh (v9.C c9).2.2.2.1 (v9.C c9).2.2.2.2.1 (v9.C c9).2.2.2.2.2 (T9 i9).2.2.1 = y := ⟨_, rfl⟩
          rw [haa] at hlab ⊢
          refine lv_lstore (lv' := [(7, .long aa9), (6, .int (nI c9)), (5, .int r5), (4, .int (nI i9)), (0, .ref o), (1, .int iv), (2, .int jv), (3, .int wv)]) hx hb dX14_decode_123 hl (by decide) rfl (fun ls hl => ?_)
          refine lv_aload_n hx hb dX14_decode_125 rfl (lv_at hl 4 rfl) ?_
          refine lv_iload hx hb dX14_decode_126 (lv_at hl 1 rfl) ?_
          refine va_calli (va_runV (As := [.int (nI c9)]) (rest := []) ⟨hx, hb, hml, hown, (fun _ h9 => absurd h9 List.not_mem_nil : ∀ w ∈ ([] : List Cond), w.before _ s = true)⟩ (c_M_below l D cy A X hst hXT G6 o Ar I1 F9 L9 b9 c9 hM hb9 (by rw [eI1]; exact hbk) (by omega)) (tb_cw (C := RX14) 1 hT tw_1846 tw_109 tw_1843 tw_1845 tw_99 rfl rfl hq_X14_below ⟨Nat.le_of_ble_eq_true rfl, Nat.le_of_ble_eq_true rfl⟩) (mk_preC hst hG hK hA hX hS vc_15 hM.1) rfl rfl hl.1 rfl (lv_room (Nat.le_of_ble_eq_true rfl)) dX14_decode_128 ⟨Nat.le_of_ble_eq_true rfl, Nat.le_of_ble_eq_true rfl⟩) hS (fun q _ h => h) (fun q h => h) (fun r14 G15 t H locs ht hvm hw hB hz1 hk1 hS => ?_)
          have hG : mm D vwCl A G15 H := by rw [← ht]; exact hB
          clear hB hz1 hk1 hvm ht
          obtain ⟨er14, hw⟩ := hw
          rw [hw] at hG
          obtain ⟨x16, ex16⟩ : ∃ y, y = (r14 : Int32).toInt64 := ⟨_, rfl⟩
          refine lv_i2l (v := x16) hx hb dX14_decode_131 ex16.symm ?_
          rw [show x16 = (v9.C c9).2.2.2.2.1 by rw [ex16, er14]; exact (ab_eq (r := 0) hcd).2]
          obtain ⟨ov9, hov9⟩ : ∃ y, (v9.C c9).2.2.2.2.1 = y := ⟨_, rfl⟩
          rw [hov9] at hov0 hovN ⊢
          have hov1 := hcb.1.1
          rw [hov9] at hov1
          refine lv_lstore (lv' := [(9, .long ov9), (7, .long aa9), (6, .int (nI c9)), (5, .int r5), (4, .int (nI i9)), (0, .ref o), (1, .int iv), (2, .int jv), (3, .int wv)]) hx hb dX14_decode_132 hl (by decide) rfl (fun ls hl => ?_)
          refine lv_lload hx hb dX14_decode_134 (lv_at hl 1 rfl) ?_
          refine lv_lload hx hb dX14_decode_136 (lv_at hl 0 rfl) ?_
          refine va_calll (va_runS (As := [.long aa9, .long ov9]) (rest := []) ⟨hx, hb, hml, hown, (fun _ h9 => absurd h9 List.not_mem_nil : ∀ w ∈ ([] : List Cond), w.before _ s = true)⟩ (c_M_common l D cy A X hst hXT G6 aa9 ov9 N9 hlab.1 hov0 hovN) (tb_cs 2 hT tw_1849 tw_109 tw_1847 tw_1848 rfl rfl hq_X14_common ⟨Nat.le_of_ble_eq_true rfl, Nat.le_of_ble_eq_true rfl⟩) (mk_preS hst hG hK hA hX hS) rfl rfl hl.1 rfl (lv_room (Nat.le_of_ble_eq_true rfl)) dX14_decode_138 ⟨Nat.le_of_ble_eq_true rfl, Nat.le_of_ble_eq_true rfl⟩) hS (fun q _ h => h) (fun q h => h) (fun r17 G18 t H locs ht hvm hw hB hz1 hk1 hS => ?_)
          have hG : mm D vwCl A G18 H := by rw [← ht]; exact hB
          clear hB hz1 hk1 hvm ht
          obtain ⟨er17, hw⟩ := hw
          rw [hw] at hG
          have hco0 : ¬ r17 = 0 := fun z => by have y := cdv_pos hlab.1 hov0 (Or.inr hov1) hovN; rw [← er17, z] at y; revert y; decide
          refine lv_lstore (lv' := [(11, .long r17), (9, .long ov9), (7, .long aa9), (6, .int (nI c9)), (5, .int r5), (4, .int (nI i9)), (0, .ref o), (1, .int iv), (2, .int jv), (3, .int wv)]) hx hb dX14_decode_141 hl (by decide) rfl (fun ls hl => ?_)
          refine lv_iload_n hx hb dX14_decode_143 rfl (lv_at hl 9 rfl) ?_
          by_cases sw_144 : wv.toInt < 0 ∨ 3 < wv.toInt
          · skip
            refine lv_tableOut (tgt := 206) hx hb dX14_decode_144 sw_144 (by decide) ?_
            have hI38 : I1 = upd Iv 38 0 := eI1
            have hwv : 0 ≤ wv ∧ wv ≤ 4 := ⟨Int32.not_lt.mp c_19, c_24⟩
            have hA9 : (match spO v9 iv jv with | none => -1 | some y => if 0 ≤ wv ∧ wv ≤ 4 then dcN N9 v9 nm (teF v9 y.1 ln f9 (P0 y.1)) y.1 y.2 wv else -2) = dcN N9 v9 nm T9 s9 i9 wv := by rw [hsp]; dsimp only; rw [if_pos hwv, hTe]
            obtain ⟨n0, n1, n2, n3⟩ : ¬ wv = 0 ∧ ¬ wv = 1 ∧ ¬ wv = 2 ∧ ¬ wv = 3 := by refine ⟨fun z => ?_, fun z => ?_, fun z => ?_, fun z => ?_⟩ <;> (rw [z] at sw_144; revert sw_144; decide)
            obtain ⟨RF, hRF⟩ : ∃ y, fndF (fun j => decide (((v9.R c9 j).1).toInt64 = (T9 i9).2.2.1)) (v9.nR c9) 0 = y := ⟨_, rfl⟩
            have hA4 : (match spO v9 iv jv with | none => -1 | some y => if 0 ≤ wv ∧ wv ≤ 4 then dcN N9 v9 nm (teF v9 y.1 ln f9 (P0 y.1)) y.1 y.2 wv else -2) = (nm (rnN v9 c9 RF)).toInt64 := by rw [hA9]; unfold dcN; rw [hc9]; dsimp only; rw [if_neg htn, if_neg n0, if_neg n1, if_neg n2, if_neg n3]; unfold fnR; rw [hRF]; rfl
            have hrr := (hB9.1.2.2 c9 hcl).2.2.2
            have hr8 := (hB9.1.2.2 c9 hcl).2.2.1
            have hrn := (hB9.1.2.2 c9 hcl).2.1
            have hbI : I1 42 = nI b9 := by rw [eI1]; exact hbk
            have hlr : ∀ (n : Nat) (j9 : Nat), (n + j9 = v9.nR c9) → (fndF (fun j => decide (((v9.R c9 j).1).toInt64 = (T9 i9).2.2.1)) n j9 = RF) → ∀ (Gv : Nat → Option va_E), (MD cy Gv o Ar I1 F9 L9) → (MF G Gv o Ar) → ∀ (H : Heap) (locs : List Loc), mm D vwCl A Gv H → va_S A s.heap H locs → ∀ ls : Array Slot, lv_has ls 14 [(0, .ref o), (4, .int (nI i9)), (6, .int (nI c9)), (13, .int (nI j9))] → W p l e (headSpec [.code yX14_decode cX14_decode 14 (some .long)] ({ frames := 3, cells := 0, slots := 0, locals := 120 })).room s m ([.ref o, .int iv, .int jv, .int wv] : List Value).toArray below meth c H locs 0 0 (MQ below (va_Ql (fun (r : Int64) (G2 : Nat → Option va_E) => r = (match spO v9 iv jv with | none => -1 | some y => if 0 ≤ wv ∧ wv ≤ 4 then dcN N9 v9 nm (teF v9 y.1 ln f9 (P0 y.1)) y.1 y.2 wv else -2) ∧ ∃ (F2 : Nat → Nat → Int32) (L2 : Nat → Nat → Int64), MD cy G2 o Ar (upd Iv 38 0) F2 L2 ∧ MF G G2 o Ar ∧ (∀ j, ¬ (71 ≤ j ∧ j ≤ 73) → F2 j = F j) ∧ (∀ j, ¬ j = 74 → L2 j = L j)) (mk_B D vwCl A) A) ([.ref o, .int iv, .int jv, .int wv] : List Value).toArray s 0 0 A) (F0 m 209 ls []) := by
              intro n
              induction n with
              | zero =>
                intro j9 hjn hq Gv hM hF H locs hG hS ls hl
                refine lv_iload hx hb dX14_decode_209 (lv_at hl 3 rfl) ?_
                refine lv_aload_n hx hb dX14_decode_211 rfl (lv_at hl 0 rfl) ?_
                refine mm_get (v := .ref (Ar 15)) hx hb hf_X14 (fun _ h9 => h9) hown hK hG hM.1 rfl 15 (by decide) (tb_use hT tw_1406) (fun _ h9 => h9) (mfs_g15 _ _) dX14_decode_212 ?_
                refine lv_bipush (v := 12) hx hb dX14_decode_215 (by decide) ?_
                refine lv_aload_n hx hb dX14_decode_217 rfl (lv_at hl 0 rfl) ?_
                refine mm_get (v := .int (I1 42)) hx hb hf_X14 (fun _ h9 => h9) hown hK hG hM.1 rfl 42 (by decide) (tb_use hT tw_1433) (fun _ h9 => h9) (mfs_g42 _ _) dX14_decode_218 ?_
                rw [show (I1 42) = nI b9 from hbI]
                refine lv_imul hx hb dX14_decode_221 ?_
                refine lv_iload hx hb dX14_decode_222 (lv_at hl 2 rfl) ?_
                refine lv_iadd hx hb dX14_decode_224 ?_
                refine mm_iald (n := 24) (f := F9 15) hx hb hK hG 1 (hM.2.1 15 rfl) rfl (by rw [show (12 : Int32) * nI b9 + nI c9 = nI (12 * b9 + c9) from nI_ma 12 b9 c9]; exact nI_in (N := 24) (by omega) (by decide)) dX14_decode_225 ?_
                refine lv_topi (fun x19 ex19 => ?_)
                refine lv_icmp_ge (tgt := 291) hx hb dX14_decode_226 (by decide) (fun c_226 => ?_) (fun c_226 => ?_)
                · skip
                  refine lv_lconst (v := 0) hx hb dX14_decode_291 (by decide) ?_
                  have hz : RF = none := by rw [← hq]; first | rfl | (rw [show n = 0 by omega]; rfl)
                  exact W.lret (v := 0) hx hb hr (fun t ht hW => ⟨⟨_, _, rfl, ⟨(by rw [hA4, hz]; show (0 : Int64) = (nm 0).toInt64; rw [← hnm 0 0 NMt.z]; rfl), F9, L9, (by rw [← hI38]; exact hM), hF, hf9, hL9⟩, mk_end hG ht⟩, hS.F ht⟩) hS.2.2 dX14_decode_292
                · skip
                  exact absurd (by rw [ex19, show (12 : Int32) * nI b9 + nI c9 = nI (12 * b9 + c9) from nI_ma 12 b9 c9, nI_clamp (by omega), hrn, show j9 = v9.nR c9 by omega]; exact Int32.le_refl _) c_226
              | succ n ih =>
                intro j9 hjn hq Gv hM hF H locs hG hS ls hl
                refine lv_iload hx hb dX14_decode_209 (lv_at hl 3 rfl) ?_
                refine lv_aload_n hx hb dX14_decode_211 rfl (lv_at hl 0 rfl) ?_
                refine mm_get (v := .ref (Ar 15)) hx hb hf_X14 (fun _ h9 => h9) hown hK hG hM.1 rfl 15 (by decide) (tb_use hT tw_1406) (fun _ h9 => h9) (mfs_g15 _ _) dX14_decode_212 ?_
                refine lv_bipush (v := 12) hx hb dX14_decode_215 (by decide) ?_
                refine lv_aload_n hx hb dX14_decode_217 rfl (lv_at hl 0 rfl) ?_
                refine mm_get (v := .int (I1 42)) hx hb hf_X14 (fun _ h9 => h9) hown hK hG hM.1 rfl 42 (by decide) (tb_use hT tw_1433) (fun _ h9 => h9) (mfs_g42 _ _) dX14_decode_218 ?_
                rw [show (I1 42) = nI b9 from hbI]
                refine lv_imul hx hb dX14_decode_221 ?_
                refine lv_iload hx hb dX14_decode_222 (lv_at hl 2 rfl) ?_
                refine lv_iadd hx hb dX14_decode_224 ?_
                refine mm_iald (n := 24) (f := F9 15) hx hb hK hG 1 (hM.2.1 15 rfl) rfl (by rw [show (12 : Int32) * nI b9 + nI c9 = nI (12 * b9 + c9) from nI_ma 12 b9 c9]; exact nI_in (N := 24) (by omega) (by decide)) dX14_decode_225 ?_
                refine lv_topi (fun x20 ex20 => ?_)
                refine lv_icmp_ge (tgt := 291) hx hb dX14_decode_226 (by decide) (fun c_226 => ?_) (fun c_226 => ?_)
                · skip
                  exact absurd (by have z := c_226; rw [ex20, show (12 : Int32) * nI b9 + nI c9 = nI (12 * b9 + c9) from nI_ma 12 b9 c9, nI_clamp (by omega), hrn] at z; exact z) (nI_ge (a := j9) (b := v9.nR c9) (by omega) (by omega))
                · skip
                  refine lv_aload_n hx hb dX14_decode_229 rfl (lv_at hl 0 rfl) ?_
                  refine mm_get (v := .ref (Ar 16)) hx hb hf_X14 (fun _ h9 => h9) hown hK hG hM.1 rfl 16 (by decide) (tb_use hT tw_1407) (fun _ h9 => h9) (mfs_g16 _ _) dX14_decode_230 ?_
                  refine lv_bipush (v := 96) hx hb dX14_decode_233 (by decide) ?_
                  refine lv_aload_n hx hb dX14_decode_235 rfl (lv_at hl 0 rfl) ?_
                  refine mm_get (v := .int (I1 42)) hx hb hf_X14 (fun _ h9 => h9) hown hK hG hM.1 rfl 42 (by decide) (tb_use hT tw_1433) (fun _ h9 => h9) (mfs_g42 _ _) dX14_decode_236 ?_
                  rw [show (I1 42) = nI b9 from hbI]
                  refine lv_imul hx hb dX14_decode_239 ?_
                  refine lv_bipush (v := 8) hx hb dX14_decode_240 (by decide) ?_
                  refine lv_iload hx hb dX14_decode_242 (lv_at hl 2 rfl) ?_
                  refine lv_imul hx hb dX14_decode_244 ?_
                  refine lv_iadd hx hb dX14_decode_245 ?_
                  refine lv_iload hx hb dX14_decode_246 (lv_at hl 3 rfl) ?_
                  refine lv_iadd hx hb dX14_decode_248 ?_
                  refine mm_iald (n := 192) (f := F9 16) hx hb hK hG 1 (hM.2.1 16 rfl) rfl (by rw [show (96 : Int32) * nI b9 + (8 : Int32) * nI c9 + nI j9 = nI (96 * b9 + 8 * c9 + j9) from nI_mc b9 c9 j9]; exact nI_in (N := 192) (by omega) (by decide)) dX14_decode_249 ?_
                  refine lv_topi (fun x21 ex21 => ?_)
                  obtain ⟨x22, ex22⟩ : ∃ y, y = (x21 : Int32).toInt64 := ⟨_, rfl⟩
                  refine lv_i2l (v := x22) hx hb dX14_decode_250 ex22.symm ?_
                  refine lv_aload_n hx hb dX14_decode_251 rfl (lv_at hl 0 rfl) ?_
                  refine mm_get (v := .ref (Ar 74)) hx hb hf_X14 (fun _ h9 => h9) hown hK hG hM.1 rfl 74 (by decide) (tb_use hT tw_1465) (fun _ h9 => h9) (mfs_g74 _ _) dX14_decode_252 ?_
                  refine lv_iload hx hb dX14_decode_255 (lv_at hl 1 rfl) ?_
                  refine mm_lald (n := 8) (f := L9 74) hx hb hK hG 2 (hM.2.2.1 74 rfl) rfl (nI_in (N := 8) (by omega) (by decide)) dX14_decode_257 ?_
                  refine lv_topl (fun x23 ex23 => ?_)
                  refine W.lcmp hx hb dX14_decode_258 ?_
                  refine lv_if_ne (tgt := 285) hx hb dX14_decode_259 (by decide) (fun c_259 => ?_) (fun c_259 => ?_)
                  · skip
                    obtain ⟨x25, ex25⟩ : ∃ y : Int32, y = (nI j9) + 1 := ⟨_, rfl⟩
                    refine lv_iinc (v := x25) (lv' := [(13, .int x25), (0, .ref o), (4, .int (nI i9)), (6, .int (nI c9))]) hx hb dX14_decode_285 hl (k := 3) rfl (by rw [ex25]; rfl) (by decide) rfl (fun ls hl => ?_)
                    refine lv_goto (tgt := 209) hx hb dX14_decode_288 (by decide) ?_
                    rw [show x25 = nI (j9 + 1) by rw [ex25]; exact (nI_succ j9).symm] at hl
                    have hxz : x22 = ((v9.R c9 j9).1).toInt64 := by rw [ex22, ex21, show (96 : Int32) * nI b9 + (8 : Int32) * nI c9 + nI j9 = nI (96 * b9 + 8 * c9 + j9) from nI_mc b9 c9 j9, nI_clamp (by omega), Nat.add_assoc]; exact congrArg Int32.toInt64 (hrr j9 (by omega)).1
                    have hx74 : x23 = (T9 i9).2.2.1 := by rw [ex23, nI_clamp (by omega)]; exact ht74
                    have hq2 : fndF (fun j => decide (((v9.R c9 j).1).toInt64 = (T9 i9).2.2.1)) n (j9 + 1) = RF := by rw [← hq, fndF, if_neg (by rw [decide_eq_false (fun z => c_259 ((lg_cmp_eq _ _).mpr (by rw [hxz, hx74]; exact z)))]; exact Bool.false_ne_true)]
                    exact ih (j9 + 1) (by omega) hq2 Gv hM hF _ _ hG hS ls (lv_sub hl [1, 2, 3, 0] rfl)
                  · skip
                    refine lv_aload_n hx hb dX14_decode_262 rfl (lv_at hl 0 rfl) ?_
                    refine mm_get (v := .ref (Ar 17)) hx hb hf_X14 (fun _ h9 => h9) hown hK hG hM.1 rfl 17 (by decide) (tb_use hT tw_1408) (fun _ h9 => h9) (mfs_g17 _ _) dX14_decode_263 ?_
                    refine lv_bipush (v := 96) hx hb dX14_decode_266 (by decide) ?_
                    refine lv_aload_n hx hb dX14_decode_268 rfl (lv_at hl 0 rfl) ?_
                    refine mm_get (v := .int (I1 42)) hx hb hf_X14 (fun _ h9 => h9) hown hK hG hM.1 rfl 42 (by decide) (tb_use hT tw_1433) (fun _ h9 => h9) (mfs_g42 _ _) dX14_decode_269 ?_
                    rw [show (I1 42) = nI b9 from hbI]
                    refine lv_imul hx hb dX14_decode_272 ?_
                    refine lv_bipush (v := 8) hx hb dX14_decode_273 (by decide) ?_
                    refine lv_iload hx hb dX14_decode_275 (lv_at hl 2 rfl) ?_
                    refine lv_imul hx hb dX14_decode_277 ?_
                    refine lv_iadd hx hb dX14_decode_278 ?_
                    refine lv_iload hx hb dX14_decode_279 (lv_at hl 3 rfl) ?_
                    refine lv_iadd hx hb dX14_decode_281 ?_
                    refine mm_iald (n := 192) (f := F9 17) hx hb hK hG 1 (hM.2.1 17 rfl) rfl (by rw [show (96 : Int32) * nI b9 + (8 : Int32) * nI c9 + nI j9 = nI (96 * b9 + 8 * c9 + j9) from nI_mc b9 c9 j9]; exact nI_in (N := 192) (by omega) (by decide)) dX14_decode_282 ?_
                    refine lv_topi (fun x26 ex26 => ?_)
                    obtain ⟨x27, ex27⟩ : ∃ y, y = (x26 : Int32).toInt64 := ⟨_, rfl⟩
                    refine lv_i2l (v := x27) hx hb dX14_decode_283 ex27.symm ?_
                    have hxz : x22 = ((v9.R c9 j9).1).toInt64 := by rw [ex22, ex21, show (96 : Int32) * nI b9 + (8 : Int32) * nI c9 + nI j9 = nI (96 * b9 + 8 * c9 + j9) from nI_mc b9 c9 j9, nI_clamp (by omega), Nat.add_assoc]; exact congrArg Int32.toInt64 (hrr j9 (by omega)).1
                    have hx74 : x23 = (T9 i9).2.2.1 := by rw [ex23, nI_clamp (by omega)]; exact ht74
                    have hp9 : decide (((v9.R c9 j9).1).toInt64 = (T9 i9).2.2.1) = true := decide_eq_true (by rw [← hxz, ← hx74]; exact (lg_cmp_eq _ _).mp c_259)
                    have hz : RF = some j9 := by rw [← hq, fndF, if_pos hp9]
                    have hnv : x27 = (nm (v9.R c9 j9).2.2.1).toInt64 := by rw [ex27, ex26, show (96 : Int32) * nI b9 + (8 : Int32) * nI c9 + nI j9 = nI (96 * b9 + 8 * c9 + j9) from nI_mc b9 c9 j9, nI_clamp (by omega), Nat.add_assoc]; exact congrArg Int32.toInt64 (hnm _ _ (hrr j9 (by omega)).2)
                    exact W.lret (v := x27) hx hb hr (fun t ht hW => ⟨⟨_, _, rfl, ⟨(by rw [hA4, hz]; exact hnv), F9, L9, (by rw [← hI38]; exact hM), hF, hf9, hL9⟩, mk_end hG ht⟩, hS.F ht⟩) hS.2.2 dX14_decode_284
            refine lv_iconst (v := 0) hx hb dX14_decode_206 (by decide) ?_
            refine lv_istore (lv' := [(13, .int 0), (11, .long r17), (9, .long ov9), (7, .long aa9), (6, .int (nI c9)), (5, .int r5), (4, .int (nI i9)), (0, .ref o), (1, .int iv), (2, .int jv), (3, .int wv)]) hx hb dX14_decode_207 hl (by decide) rfl (fun ls hl => ?_)
            exact hlr (v9.nR c9) 0 (by omega) hRF G6 hM hF _ _ hG hS ls (lv_sub hl [7, 6, 4, 0] rfl)
          · skip
            have hlo : ¬ wv.toInt < 0 := fun z => sw_144 (Or.inl z)
            have hhi : ¬ 3 < wv.toInt := fun z => sw_144 (Or.inr z)
            have hcs : wv.toInt = 0 ∨ wv.toInt = 1 ∨ wv.toInt = 2 ∨ wv.toInt = 3 := by omega
            rcases hcs with sw_144 | sw_144 | sw_144 | sw_144
            · skip
              refine lv_tableIn (tgt := 176) hx hb dX14_decode_144 hlo hhi (off := 32) (by rw [sw_144]; rfl) (by decide) ?_
              refine lv_lload hx hb dX14_decode_176 (lv_at hl 2 rfl) ?_
              refine lv_lload hx hb dX14_decode_178 (lv_at hl 0 rfl) ?_
              refine lv_ldiv hx hb dX14_decode_180 hco0 ?_
              refine lv_topl (fun x28 ex28 => ?_)
              have hI38 : I1 = upd Iv 38 0 := eI1
              have hwv : 0 ≤ wv ∧ wv ≤ 4 := ⟨Int32.not_lt.mp c_19, c_24⟩
              have hA9 : (match spO v9 iv jv with | none => -1 | some y => if 0 ≤ wv ∧ wv ≤ 4 then dcN N9 v9 nm (teF v9 y.1 ln f9 (P0 y.1)) y.1 y.2 wv else -2) = dcN N9 v9 nm T9 s9 i9 wv := by rw [hsp]; dsimp only; rw [if_pos hwv, hTe]
              have hxw : wv = nI 0 := sw5 (by decide) sw_144
              exact W.lret (v := x28) hx hb hr (fun t ht hW => ⟨⟨_, _, rfl, ⟨(by rw [hA9]; unfold dcN; rw [hc9]; dsimp only; rw [if_neg htn, hxw, haa, hov9, ← er17]; exact ex28), F9, L9, (by rw [← hI38]; exact hM), hF, hf9, hL9⟩, mk_end hG ht⟩, hS.F ht⟩) hS.2.2 dX14_decode_181
            · skip
              refine lv_tableIn (tgt := 182) hx hb dX14_decode_144 hlo hhi (off := 38) (by rw [sw_144]; rfl) (by decide) ?_
              refine lv_lload hx hb dX14_decode_182 (lv_at hl 1 rfl) ?_
              refine lv_lload hx hb dX14_decode_184 (lv_at hl 0 rfl) ?_
              refine lv_ldiv hx hb dX14_decode_186 hco0 ?_
              refine lv_topl (fun x29 ex29 => ?_)
              have hI38 : I1 = upd Iv 38 0 := eI1
              have hwv : 0 ≤ wv ∧ wv ≤ 4 := ⟨Int32.not_lt.mp c_19, c_24⟩
              have hA9 : (match spO v9 iv jv with | none => -1 | some y => if 0 ≤ wv ∧ wv ≤ 4 then dcN N9 v9 nm (teF v9 y.1 ln f9 (P0 y.1)) y.1 y.2 wv else -2) = dcN N9 v9 nm T9 s9 i9 wv := by rw [hsp]; dsimp only; rw [if_pos hwv, hTe]
              have hxw : wv = nI 1 := sw5 (by decide) sw_144
              exact W.lret (v := x29) hx hb hr (fun t ht hW => ⟨⟨_, _, rfl, ⟨(by rw [hA9]; unfold dcN; rw [hc9]; dsimp only; rw [if_neg htn, hxw, haa, hov9, ← er17]; exact ex29), F9, L9, (by rw [← hI38]; exact hM), hF, hf9, hL9⟩, mk_end hG ht⟩, hS.F ht⟩) hS.2.2 dX14_decode_187
            · skip
              refine lv_tableIn (tgt := 188) hx hb dX14_decode_144 hlo hhi (off := 44) (by rw [sw_144]; rfl) (by decide) ?_
              refine lv_aload_n hx hb dX14_decode_188 rfl (lv_at hl 6 rfl) ?_
              refine mm_get (v := .ref (Ar 72)) hx hb hf_X14 (fun _ h9 => h9) hown hK hG hM.1 rfl 72 (by decide) (tb_use hT tw_1463) (fun _ h9 => h9) (mfs_g72 _ _) dX14_decode_189 ?_
              refine lv_iload hx hb dX14_decode_192 (lv_at hl 5 rfl) ?_
              refine mm_iald (n := 8) (f := F9 72) hx hb hK hG 1 (hM.2.1 72 rfl) rfl (nI_in (N := 8) (by omega) (by decide)) dX14_decode_194 ?_
              refine lv_topi (fun x30 ex30 => ?_)
              obtain ⟨x31, ex31⟩ : ∃ y, y = (x30 : Int32).toInt64 := ⟨_, rfl⟩
              refine lv_i2l (v := x31) hx hb dX14_decode_195 ex31.symm ?_
              have hI38 : I1 = upd Iv 38 0 := eI1
              have hwv : 0 ≤ wv ∧ wv ≤ 4 := ⟨Int32.not_lt.mp c_19, c_24⟩
              have hA9 : (match spO v9 iv jv with | none => -1 | some y => if 0 ≤ wv ∧ wv ≤ 4 then dcN N9 v9 nm (teF v9 y.1 ln f9 (P0 y.1)) y.1 y.2 wv else -2) = dcN N9 v9 nm T9 s9 i9 wv := by rw [hsp]; dsimp only; rw [if_pos hwv, hTe]
              have hxw : wv = nI 2 := sw5 (by decide) sw_144
              exact W.lret (v := x31) hx hb hr (fun t ht hW => ⟨⟨_, _, rfl, ⟨(by rw [hA9]; unfold dcN; rw [hc9]; dsimp only; rw [if_neg htn, hxw]; show _ = ((T9 i9).1).toInt64; rw [ex31, ex30, nI_clamp (by omega), ht72]), F9, L9, (by rw [← hI38]; exact hM), hF, hf9, hL9⟩, mk_end hG ht⟩, hS.F ht⟩) hS.2.2 dX14_decode_196
            · skip
              refine lv_tableIn (tgt := 197) hx hb dX14_decode_144 hlo hhi (off := 53) (by rw [sw_144]; rfl) (by decide) ?_
              refine lv_aload_n hx hb dX14_decode_197 rfl (lv_at hl 6 rfl) ?_
              refine mm_get (v := .ref (Ar 73)) hx hb hf_X14 (fun _ h9 => h9) hown hK hG hM.1 rfl 73 (by decide) (tb_use hT tw_1464) (fun _ h9 => h9) (mfs_g73 _ _) dX14_decode_198 ?_
              refine lv_iload hx hb dX14_decode_201 (lv_at hl 5 rfl) ?_
              refine mm_iald (n := 8) (f := F9 73) hx hb hK hG 1 (hM.2.1 73 rfl) rfl (nI_in (N := 8) (by omega) (by decide)) dX14_decode_203 ?_
              refine lv_topi (fun x32 ex32 => ?_)
              obtain ⟨x33, ex33⟩ : ∃ y, y = (x32 : Int32).toInt64 := ⟨_, rfl⟩
              refine lv_i2l (v := x33) hx hb dX14_decode_204 ex33.symm ?_
              have hI38 : I1 = upd Iv 38 0 := eI1
              have hwv : 0 ≤ wv ∧ wv ≤ 4 := ⟨Int32.not_lt.mp c_19, c_24⟩
              have hA9 : (match spO v9 iv jv with | none => -1 | some y => if 0 ≤ wv ∧ wv ≤ 4 then dcN N9 v9 nm (teF v9 y.1 ln f9 (P0 y.1)) y.1 y.2 wv else -2) = dcN N9 v9 nm T9 s9 i9 wv := by rw [hsp]; dsimp only; rw [if_pos hwv, hTe]
              have hxw : wv = nI 3 := sw5 (by decide) sw_144
              exact W.lret (v := x33) hx hb hr (fun t ht hW => ⟨⟨_, _, rfl, ⟨(by rw [hA9]; unfold dcN; rw [hc9]; dsimp only; rw [if_neg htn, hxw]; show _ = ((T9 i9).2.1).toInt64; rw [ex33, ex32, nI_clamp (by omega), ht73]), F9, L9, (by rw [← hI38]; exact hM), hF, hf9, hL9⟩, mk_end hG ht⟩, hS.F ht⟩) hS.2.2 dX14_decode_205
        · skip
          refine lv_iload_n hx hb dX14_decode_64 rfl (lv_at hl 5 rfl) ?_
          refine lv_iconst (v := 2) hx hb dX14_decode_65 (by decide) ?_
          refine lv_icmp_ne (tgt := 75) hx hb dX14_decode_66 (by decide) (fun c_66 => ?_) (fun c_66 => ?_)
          · skip
            refine lv_lconst (v := 0) hx hb dX14_decode_75 (by decide) ?_
            have hI38 : I1 = upd Iv 38 0 := eI1
            have hwv : 0 ≤ wv ∧ wv ≤ 4 := ⟨Int32.not_lt.mp c_19, c_24⟩
            have hA9 : (match spO v9 iv jv with | none => -1 | some y => if 0 ≤ wv ∧ wv ≤ 4 then dcN N9 v9 nm (teF v9 y.1 ln f9 (P0 y.1)) y.1 y.2 wv else -2) = dcN N9 v9 nm T9 s9 i9 wv := by rw [hsp]; dsimp only; rw [if_pos hwv, hTe]
            have h71 : x7 = F9 71 i9 := by rw [ex7, nI_clamp (by omega)]
            have ht0 : (T9 i9).2.1 = 0 := by refine Classical.byContradiction (fun z => ?_); have y := c_61; rw [h71, hti.1, if_neg z] at y; exact absurd y (by decide)
            obtain ⟨c9, hc9, hcl⟩ := hVL.cd hp8 hs9 hi9
            exact W.lret (v := 0) hx hb hr (fun t ht hW => ⟨⟨_, _, rfl, ⟨(by rw [hA9]; unfold dcN; rw [hc9]; dsimp only; rw [if_pos ht0, if_neg c_66]), F9, L9, (by rw [← hI38]; exact hM), hF, hf9, hL9⟩, mk_end hG ht⟩, hS.F ht⟩) hS.2.2 dX14_decode_76
          · skip
            refine lv_ldc2 hx hb hown (tb_use hT tw_1827) dX14_decode_69 ?_
            refine lv_goto (tgt := 76) hx hb dX14_decode_72 (by decide) ?_
            have hI38 : I1 = upd Iv 38 0 := eI1
            have hwv : 0 ≤ wv ∧ wv ≤ 4 := ⟨Int32.not_lt.mp c_19, c_24⟩
            have hA9 : (match spO v9 iv jv with | none => -1 | some y => if 0 ≤ wv ∧ wv ≤ 4 then dcN N9 v9 nm (teF v9 y.1 ln f9 (P0 y.1)) y.1 y.2 wv else -2) = dcN N9 v9 nm T9 s9 i9 wv := by rw [hsp]; dsimp only; rw [if_pos hwv, hTe]
            have h71 : x7 = F9 71 i9 := by rw [ex7, nI_clamp (by omega)]
            have ht0 : (T9 i9).2.1 = 0 := by refine Classical.byContradiction (fun z => ?_); have y := c_61; rw [h71, hti.1, if_neg z] at y; exact absurd y (by decide)
            obtain ⟨c9, hc9, hcl⟩ := hVL.cd hp8 hs9 hi9
            exact W.lret (v := (-1)) hx hb hr (fun t ht hW => ⟨⟨_, _, rfl, ⟨(by rw [hA9]; unfold dcN; rw [hc9]; dsimp only; rw [if_pos ht0, if_pos c_66]), F9, L9, (by rw [← hI38]; exact hM), hF, hf9, hL9⟩, mk_end hG ht⟩, hS.F ht⟩) hS.2.2 dX14_decode_76
      · skip
        refine lv_ldc2 hx hb hown (tb_use hT tw_1828) dX14_decode_27 ?_
        have hI38 : I1 = upd Iv 38 0 := eI1
        exact W.lret (v := (-2)) hx hb hr (fun t ht hW => ⟨⟨_, _, rfl, ⟨(by rw [hsp]; dsimp only; rw [if_neg (fun y => c_24 y.2)]), F, L, (by rw [← hI38]; exact hM), hF, (fun _ _ => rfl), (fun _ _ => rfl)⟩, mk_end hG ht⟩, hS.F ht⟩) hS.2.2 dX14_decode_30
  · skip
    refine lv_ldc2 hx hb hown (tb_use hT tw_1827) dX14_decode_14 ?_
    have hI38 : I1 = upd Iv 38 0 := eI1
    have hno := isPv_f (v := v9) (by rw [eI1]; exact h43) (b2i_f (by rw [← er3]; exact c_11) : isPv I1 v9.nS v9.nP iv jv = false)
    have hsn : spO v9 iv jv = none := by unfold spO; rcases hno with y | ⟨c, y, z⟩; (rw [y]); (rw [y]; dsimp only; rw [z]; rfl)
    exact W.lret (v := (-1)) hx hb hr (fun t ht hW => ⟨⟨_, _, rfl, ⟨(by rw [hsn]), F, L, (by rw [← hI38]; exact hM), hF, (fun _ _ => rfl), (fun _ _ => rfl)⟩, mk_end hG ht⟩, hS.F ht⟩) hS.2.2 dX14_decode_17
