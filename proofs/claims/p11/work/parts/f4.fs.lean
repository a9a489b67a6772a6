/-! ===== octets ===== -/
theorem nar_255 (bv : Int32) : vp_nar .byte bv.toInt8.toInt32 &&& 255 = bv &&& 255 := by
  show bv.toInt8.toInt32.toInt8.toInt32 &&& 255 = bv &&& 255
  rw [Int8.toInt8_toInt32]
  apply Int32.toBitVec_inj.mp
  show ((bv.toBitVec.signExtend 8).signExtend 32 &&& 255#32) = (bv.toBitVec &&& 255#32)
  apply BitVec.eq_of_getLsbD_eq
  intro i hi
  rw [BitVec.getLsbD_and, BitVec.getLsbD_and]
  by_cases h8 : i < 8
  · rw [BitVec.getLsbD_signExtend, BitVec.getLsbD_signExtend]
    simp [h8, show i < 32 by omega]
  · have h0 : (255#32).getLsbD i = false := by
      have : ∀ j : Fin 32, 8 ≤ j.val → (255#32).getLsbD j.val = false := by decide
      exact this ⟨i, hi⟩ (by simpa using h8)
    rw [h0, Bool.and_false, Bool.and_false]
theorem l_255 (x : Int64) : (x &&& 255).toInt32 = x.toInt32 &&& 255 := by
  apply Int32.toBitVec_inj.mp
  show ((x.toBitVec &&& 255#64).signExtend 32) = (x.toBitVec.signExtend 32 &&& 255#32)
  apply BitVec.eq_of_getLsbD_eq
  intro i hi
  rw [BitVec.getLsbD_and, BitVec.getLsbD_signExtend, BitVec.getLsbD_signExtend, BitVec.getLsbD_and]
  have e : (255#64).getLsbD i = (255#32).getLsbD i := by
    have : ∀ j : Fin 32, (255#64).getLsbD j.val = (255#32).getLsbD j.val := by decide
    exact this ⟨i, hi⟩
  rw [e]
  simp [show i < 64 by omega, hi]
/-- octets that were sent, on both sides -/
def JS (b : Nat × (Nat → Int32)) (sz : Nat) (F : Nat → Int32) : Prop := b.1 = sz ∧ sz ≤ 64 ∧ ∀ i, i < sz → b.2 i &&& 255 = F i &&& 255
theorem JS.send {b : Nat × (Nat → Int32)} {sz : Nat} {F : Nat → Int32} (h : JS b sz F) (h64 : sz < 64) {x : Int64} : JS (b.1 + 1, upd b.2 b.1 (vp_nar .byte (x.toInt32.toInt8.toInt32))) (sz + 1) (upd F sz (x &&& 255).toInt32) := by
  refine ⟨?_, by omega, fun i hi => ?_⟩
  · show b.1 + 1 = sz + 1
    rw [h.1]
  · show upd b.2 b.1 (vp_nar .byte (x.toInt32.toInt8.toInt32)) i &&& 255 = upd F sz (x &&& 255).toInt32 i &&& 255
    rw [h.1]
    by_cases e : i = sz
    · rw [e, pk_us, pk_us, nar_255, l_255, Int32.and_assoc, show (255 : Int32) &&& 255 = 255 by decide]
    · rw [pk_un e, pk_un e]
      exact h.2.2 i (by omega)
set_option maxHeartbeats 4000000 in
set_option maxRecDepth 100000 in
theorem c_M_findS (l : Launch) (D : va_G) (cy : Nat → ClassId) (A : Nat → Prop) (X : State → Prop) (hst : mk_St A X) (hXT : ∀ U : State, X U → TB U) (G : Nat → Option va_E) (o : Nat) (Ar : Nat → Nat) (Iv : Nat → Int32) (F : Nat → Nat → Int32) (L : Nat → Nat → Int64) (ft : Nat → Int32) (en b9 n9 : Nat) (v9 : EdV) (s9 : Nat) (P0 : PdT) (f0 : Nat → Int32) (hM : MD cy G o Ar Iv F L) (hB : BK (tkK ft en) (tkV ft en) n9 F b9 v9) (hVL : VLD v9) (hWd : WDv v9) (hn30 : n9 < 2 ^ 30) (hb9 : b9 < 2) (hbk : Iv 42 = nI b9) (hs9 : s9 < v9.nS) (hrm0 : ∀ i, i < v9.nP s9 → (P0 i).2.2.2 = L 70 (8 * s9 + i)) (hf0 : f0 0 &&& 255 = F 67 0 &&& 255) : Met l yX14_find [.code yX14_find cX14_find 13 (some .int)] ({ frames := 2, cells := 0, slots := 0, locals := 60 }) (mk_Pre D vwCl (tyL cy) A X G [.ref o, .int (nI s9), .ref (Ar 67), .int 64, .int 1]) (va_Qi (fun (r : Int32) (G2 : Nat → Option va_E) => ∃ (k9 : Nat) (F2 : Nat → Nat → Int32) (L2 : Nat → Nat → Int64), r = nI k9 ∧ 1 ≤ k9 ∧ k9 ≤ 64 ∧ MD cy G2 o Ar Iv F2 L2 ∧ MF G G2 o Ar ∧ (∀ j, ¬ (j = 67 ∨ (71 ≤ j ∧ j ≤ 73)) → F2 j = F j) ∧ (∀ j, ¬ j = 74 → L2 j = L j) ∧ (mkF v9 s9 (v9.nP s9) 0 1 (fgF (v9.nP s9) P0) f0).2.1 = k9 ∧ ∀ i, i < k9 → (mkF v9 s9 (v9.nP s9) 0 1 (fgF (v9.nP s9) P0) f0).2.2 i &&& 255 = F2 67 i &&& 255) (mk_B D vwCl A) A) 0 0 A := by
  refine Met.ofW (cc := cX14_find) (maxL := 13) (ret := (some .int)) (by decide) rfl ?_
  intro p e s m args below meth c s₁ B hml hv
  obtain ⟨rfl, hG, hK, hA, hX⟩ := hv
  have hx := B.exec
  have hb := B.bytes
  have hr := B.returns
  have hlocks := B.notSynchronized
  have hT := hXT s hX
  have hown : s.vm.findClass RX14 = some m.cls := findClass_of_methodNamed B.named
  have hf_X14 : ∀ w ∈ u_ws RX14 TX14 76, w.before ([.ref o, .int (nI s9), .ref (Ar 67), .int 64, .int 1] : List Value).toArray s = true := tb_list hT fX14
  have hS : va_S A s.heap s.heap [] := va_S.rf
  have hl := lv_entry ([.ref o, .int (nI s9), .ref (Ar 67), .int 64, .int 1]) (n := 13) (Nat.le_of_ble_eq_true rfl)
  rw [lg_entry_eq]
  generalize (lg_sl ([.ref o, .int (nI s9), .ref (Ar 67), .int 64, .int 1]) ++ List.replicate (13 - (lg_sl ([.ref o, .int (nI s9), .ref (Ar 67), .int 64, .int 1])).length) Slot.unset).toArray = ls at hl ⊢
  have hl : lv_has ls 13 [(0, .ref o), (1, .int (nI s9)), (2, .ref (Ar 67)), (3, .int 64), (4, .int 1)] := hl
  have hF : MF G G o Ar := MF.rf
  have hs16 := hB.2.2.1.2.1
  have hsr := hB.2.2.1.2.2 s9 hs9
  have hp8 := hsr.2.2.2.2.1
  obtain ⟨RT, hRT0⟩ : ∃ y, mkF v9 s9 (v9.nP s9) 0 1 (fgF (v9.nP s9) P0) f0 = y := ⟨_, rfl⟩
  have hlf : ∀ (n : Nat) (i9 k9 : Nat) (xg : Int32) (Pj : PdT) (fr : Nat → Int32) (Fj : Nat → Nat → Int32) (Lj : Nat → Nat → Int64), (n + i9 = v9.nP s9) → (1 ≤ k9 ∧ k9 ≤ 64) → ((xg = 0 ∧ mkF v9 s9 n i9 k9 Pj fr = RT) ∨ (xg = 1 ∧ RT.2 = (k9, fr))) → (∀ i, i9 ≤ i → i < v9.nP s9 → (Pj i).2.1 = 0) → (RFP Fj Lj Pj i9) → (∀ i, i < v9.nP s9 → (Pj i).2.2.2 = L 70 (8 * s9 + i)) → (∀ i, i < k9 → fr i &&& 255 = Fj 67 i &&& 255) → (∀ j, ¬ (j = 67 ∨ (71 ≤ j ∧ j ≤ 73)) → Fj j = F j) → (∀ j, ¬ j = 74 → Lj j = L j) → ∀ (Gv : Nat → Option va_E), (MD cy Gv o Ar Iv Fj Lj) → (MF G Gv o Ar) → ∀ (H : Heap) (locs : List Loc), mm D vwCl A Gv H → va_S A s.heap H locs → ∀ ls : Array Slot, lv_has ls 13 [(0, .ref o), (1, .int (nI s9)), (2, .ref (Ar 67)), (3, .int 64), (4, .int 1), (5, .int (nI k9)), (6, .int xg), (7, .int (nI i9))] → W p l e (headSpec [.code yX14_find cX14_find 13 (some .int)] ({ frames := 2, cells := 0, slots := 0, locals := 60 })).room s m ([.ref o, .int (nI s9), .ref (Ar 67), .int 64, .int 1] : List Value).toArray below meth c H locs 0 0 (MQ below (va_Qi (fun (r : Int32) (G2 : Nat → Option va_E) => ∃ (k9 : Nat) (F2 : Nat → Nat → Int32) (L2 : Nat → Nat → Int64), r = nI k9 ∧ 1 ≤ k9 ∧ k9 ≤ 64 ∧ MD cy G2 o Ar Iv F2 L2 ∧ MF G G2 o Ar ∧ (∀ j, ¬ (j = 67 ∨ (71 ≤ j ∧ j ≤ 73)) → F2 j = F j) ∧ (∀ j, ¬ j = 74 → L2 j = L j) ∧ (mkF v9 s9 (v9.nP s9) 0 1 (fgF (v9.nP s9) P0) f0).2.1 = k9 ∧ ∀ i, i < k9 → (mkF v9 s9 (v9.nP s9) 0 1 (fgF (v9.nP s9) P0) f0).2.2 i &&& 255 = F2 67 i &&& 255) (mk_B D vwCl A) A) ([.ref o, .int (nI s9), .ref (Ar 67), .int 64, .int 1] : List Value).toArray s 0 0 A) (F0 m 45 ls []) := by
    intro n
    induction n with
    | zero =>
      intro i9 k9 xg Pj fr Fj Lj hin hk9 hR hz hTt hrm hfr hFo hLo Gv hM hF H locs hG hS ls hl
      refine lv_iload hx hb dX14_find_45 (lv_at hl 7 rfl) ?_
      refine lv_aload_n hx hb dX14_find_47 rfl (lv_at hl 0 rfl) ?_
      refine mm_get (v := .ref (Ar 23)) hx hb hf_X14 (fun _ h9 => h9) hown hK hG hM.1 rfl 23 (by decide) (tb_use hT tw_1414) (fun _ h9 => h9) (mfs_g23 _ _) dX14_find_48 ?_
      refine lv_bipush (v := 16) hx hb dX14_find_51 (by decide) ?_
      refine lv_aload_n hx hb dX14_find_53 rfl (lv_at hl 0 rfl) ?_
      refine mm_get (v := .int (Iv 42)) hx hb hf_X14 (fun _ h9 => h9) hown hK hG hM.1 rfl 42 (by decide) (tb_use hT tw_1433) (fun _ h9 => h9) (mfs_g42 _ _) dX14_find_54 ?_
      rw [hbk]
      refine lv_imul hx hb dX14_find_57 ?_
      refine lv_iload_n hx hb dX14_find_58 rfl (lv_at hl 1 rfl) ?_
      refine lv_iadd hx hb dX14_find_59 ?_
      refine mm_iald (n := 32) (f := Fj 23) hx hb hK hG 1 (hM.2.1 23 rfl) rfl (by rw [show (16 : Int32) * nI b9 + nI s9 = nI (16 * b9 + s9) from nI_ma 16 b9 s9]; exact nI_in (N := 32) (by omega) (by decide)) dX14_find_60 ?_
      refine lv_topi (fun x1 ex1 => ?_)
      refine lv_icmp_ge (tgt := 384) hx hb dX14_find_61 (by decide) (fun c_61 => ?_) (fun c_61 => ?_)
      · skip
        refine lv_iload hx hb dX14_find_384 (lv_at hl 5 rfl) ?_
        have hRT : RT.2 = (k9, fr) := by rcases hR with z | z; (rw [← z.2]; rfl); exact z.2
        exact W.iret (v := (nI k9)) hx hb hr (fun t ht hW => ⟨⟨_, _, rfl, ⟨k9, Fj, Lj, rfl, hk9.1, hk9.2, hM, hF, hFo, hLo, (by rw [hRT0, hRT]), (by rw [hRT0, hRT]; exact hfr)⟩, mk_end hG ht⟩, hS.F ht⟩) hS.2.2 dX14_find_386
      · skip
        exact absurd (by rw [ex1, show (16 : Int32) * nI b9 + nI s9 = nI (16 * b9 + s9) from nI_ma 16 b9 s9, nI_clamp (by omega), hFo 23 (by decide), hsr.2.2.2.1, show i9 = v9.nP s9 by omega]; exact Int32.le_refl _) c_61
    | succ n ih =>
      intro i9 k9 xg Pj fr Fj Lj hin hk9 hR hz hTt hrm hfr hFo hLo Gv hM hF H locs hG hS ls hl
      have hi9 : i9 < v9.nP s9 := by omega
      have hpr := hsr.2.2.2.2.2 i9 hi9
      refine lv_iload hx hb dX14_find_45 (lv_at hl 7 rfl) ?_
      refine lv_aload_n hx hb dX14_find_47 rfl (lv_at hl 0 rfl) ?_
      refine mm_get (v := .ref (Ar 23)) hx hb hf_X14 (fun _ h9 => h9) hown hK hG hM.1 rfl 23 (by decide) (tb_use hT tw_1414) (fun _ h9 => h9) (mfs_g23 _ _) dX14_find_48 ?_
      refine lv_bipush (v := 16) hx hb dX14_find_51 (by decide) ?_
      refine lv_aload_n hx hb dX14_find_53 rfl (lv_at hl 0 rfl) ?_
      refine mm_get (v := .int (Iv 42)) hx hb hf_X14 (fun _ h9 => h9) hown hK hG hM.1 rfl 42 (by decide) (tb_use hT tw_1433) (fun _ h9 => h9) (mfs_g42 _ _) dX14_find_54 ?_
      rw [hbk]
      refine lv_imul hx hb dX14_find_57 ?_
      refine lv_iload_n hx hb dX14_find_58 rfl (lv_at hl 1 rfl) ?_
      refine lv_iadd hx hb dX14_find_59 ?_
      refine mm_iald (n := 32) (f := Fj 23) hx hb hK hG 1 (hM.2.1 23 rfl) rfl (by rw [show (16 : Int32) * nI b9 + nI s9 = nI (16 * b9 + s9) from nI_ma 16 b9 s9]; exact nI_in (N := 32) (by omega) (by decide)) dX14_find_60 ?_
      refine lv_topi (fun x2 ex2 => ?_)
      refine lv_icmp_ge (tgt := 384) hx hb dX14_find_61 (by decide) (fun c_61 => ?_) (fun c_61 => ?_)
      · skip
        exact absurd (by have z := c_61; rw [ex2, show (16 : Int32) * nI b9 + nI s9 = nI (16 * b9 + s9) from nI_ma 16 b9 s9, nI_clamp (by omega), hFo 23 (by decide), hsr.2.2.2.1] at z; exact z) (nI_ge (a := i9) (b := v9.nP s9) (by omega) (by omega))
      · skip
        refine lv_bipush (v := 8) hx hb dX14_find_64 (by decide) ?_
        refine lv_iload_n hx hb dX14_find_66 rfl (lv_at hl 1 rfl) ?_
        refine lv_imul hx hb dX14_find_67 ?_
        refine lv_iload hx hb dX14_find_68 (lv_at hl 7 rfl) ?_
        refine lv_iadd hx hb dX14_find_70 ?_
        rw [show (8 : Int32) * nI s9 + nI i9 = nI (8 * s9 + i9) from nI_ma 8 s9 i9]
        refine lv_istore (lv' := [(8, .int (nI (8 * s9 + i9))), (0, .ref o), (1, .int (nI s9)), (2, .ref (Ar 67)), (3, .int 64), (4, .int 1), (5, .int (nI k9)), (6, .int xg), (7, .int (nI i9))]) hx hb dX14_find_71 hl (by decide) rfl (fun ls hl => ?_)
        refine lv_aload_n hx hb dX14_find_73 rfl (lv_at hl 1 rfl) ?_
        refine lv_aload_n hx hb dX14_find_74 rfl (lv_at hl 1 rfl) ?_
        refine mm_get (v := .int (Iv 42)) hx hb hf_X14 (fun _ h9 => h9) hown hK hG hM.1 rfl 42 (by decide) (tb_use hT tw_1433) (fun _ h9 => h9) (mfs_g42 _ _) dX14_find_75 ?_
        rw [hbk]
        refine lv_aload_n hx hb dX14_find_78 rfl (lv_at hl 1 rfl) ?_
        refine mm_get (v := .ref (Ar 25)) hx hb hf_X14 (fun _ h9 => h9) hown hK hG hM.1 rfl 25 (by decide) (tb_use hT tw_1416) (fun _ h9 => h9) (mfs_g25 _ _) dX14_find_79 ?_
        refine lv_sipush (v := 128) hx hb dX14_find_82 (by decide) ?_
        refine lv_aload_n hx hb dX14_find_85 rfl (lv_at hl 1 rfl) ?_
        refine mm_get (v := .int (Iv 42)) hx hb hf_X14 (fun _ h9 => h9) hown hK hG hM.1 rfl 42 (by decide) (tb_use hT tw_1433) (fun _ h9 => h9) (mfs_g42 _ _) dX14_find_86 ?_
        rw [hbk]
        refine lv_imul hx hb dX14_find_89 ?_
        refine lv_iload hx hb dX14_find_90 (lv_at hl 0 rfl) ?_
        refine lv_iadd hx hb dX14_find_92 ?_
        refine mm_iald (n := 256) (f := Fj 25) hx hb hK hG 1 (hM.2.1 25 rfl) rfl (by rw [show (128 : Int32) * nI b9 + nI (8 * s9 + i9) = nI (128 * b9 + (8 * s9 + i9)) from nI_ma 128 b9 (8 * s9 + i9)]; exact nI_in (N := 256) (by omega) (by decide)) dX14_find_93 ?_
        refine lv_topi (fun x3 ex3 => ?_)
        refine va_calli (va_runV (As := [.int (nI b9), .int x3]) (rest := []) ⟨hx, hb, hml, hown, (fun _ h9 => absurd h9 List.not_mem_nil : ∀ w ∈ ([] : List Cond), w.before _ s = true)⟩ (c_M_codingAt l D cy A X hst hXT Gv o Ar Iv Fj Lj b9 v9.nC x3 hM hb9 (by rw [hFo 1 (by decide)]; exact hB.1.1) hB.1.2.1) (tb_cw (C := RX14) 2 hT tw_1782 tw_109 tw_1779 tw_1781 tw_89 rfl rfl hq_X14_codingAt ⟨Nat.le_of_ble_eq_true rfl, Nat.le_of_ble_eq_true rfl⟩) (mk_preC hst hG hK hA hX hS vc_15 hM.1) rfl rfl hl.1 rfl (lv_room (Nat.le_of_ble_eq_true rfl)) dX14_find_94 ⟨Nat.le_of_ble_eq_true rfl, Nat.le_of_ble_eq_true rfl⟩) hS (fun q _ h => h) (fun q h => h) (fun r4 G5 t H locs ht hvm hw hB hz1 hk1 hS => ?_)
        have hG : mm D vwCl A G5 H := by rw [← ht]; exact hB
        clear hB hz1 hk1 hvm ht
        obtain ⟨er4, hw⟩ := hw
        rw [hw] at hG
        obtain ⟨c9, hc9, hcl⟩ := hVL.cd hp8 hs9 hi9
        have hc12 := hB.1.2.1
        have hxc : x3 = F 25 (128 * b9 + (8 * s9 + i9)) := by rw [ex3, show (128 : Int32) * nI b9 + nI (8 * s9 + i9) = nI (128 * b9 + (8 * s9 + i9)) from nI_ma 128 b9 (8 * s9 + i9), nI_clamp (by omega), hFo 25 (by decide)]
        have hrc : r4 = nI c9 := by rw [er4, hFo 9 (by decide), hxc]; exact (hB.1.at hn30 hpr.2.1).trans (by rw [hc9])
        rw [hrc]
        obtain ⟨hw1, hw2, hw3⟩ := hWd c9 hcl
        obtain ⟨w9, hw9⟩ : ∃ y, wdN v9 c9 = y := ⟨_, rfl⟩
        rw [hw9] at hw1 hw2 hw3
        refine lv_istore (lv' := [(9, .int (nI c9)), (8, .int (nI (8 * s9 + i9))), (0, .ref o), (1, .int (nI s9)), (2, .ref (Ar 67)), (3, .int 64), (4, .int 1), (5, .int (nI k9)), (6, .int xg), (7, .int (nI i9))]) hx hb dX14_find_97 hl (by decide) rfl (fun ls hl => ?_)
        refine lv_aload_n hx hb dX14_find_99 rfl (lv_at hl 2 rfl) ?_
        refine mm_get (v := .ref (Ar 10)) hx hb hf_X14 (fun _ h9 => h9) hown hK hG hM.1 rfl 10 (by decide) (tb_use hT tw_1401) (fun _ h9 => h9) (mfs_g10 _ _) dX14_find_100 ?_
        refine lv_bipush (v := 12) hx hb dX14_find_103 (by decide) ?_
        refine lv_aload_n hx hb dX14_find_105 rfl (lv_at hl 2 rfl) ?_
        refine mm_get (v := .int (Iv 42)) hx hb hf_X14 (fun _ h9 => h9) hown hK hG hM.1 rfl 42 (by decide) (tb_use hT tw_1433) (fun _ h9 => h9) (mfs_g42 _ _) dX14_find_106 ?_
        rw [hbk]
        refine lv_imul hx hb dX14_find_109 ?_
        refine lv_iload hx hb dX14_find_110 (lv_at hl 0 rfl) ?_
        refine lv_iadd hx hb dX14_find_112 ?_
        refine mm_iald (n := 24) (f := Fj 10) hx hb hK hG 1 (hM.2.1 10 rfl) rfl (by rw [show (12 : Int32) * nI b9 + nI c9 = nI (12 * b9 + c9) from nI_ma 12 b9 c9]; exact nI_in (N := 24) (by omega) (by decide)) dX14_find_113 ?_
        refine lv_topi (fun x6 ex6 => ?_)
        rw [show x6 = nI w9 by rw [ex6, show (12 : Int32) * nI b9 + nI c9 = nI (12 * b9 + c9) from nI_ma 12 b9 c9, nI_clamp (by omega), hFo 10 (by decide)]; exact (hB.1.2.2 c9 hcl).1.2.1.trans hw1]
        refine lv_istore (lv' := [(10, .int (nI w9)), (9, .int (nI c9)), (8, .int (nI (8 * s9 + i9))), (0, .ref o), (1, .int (nI s9)), (2, .ref (Ar 67)), (3, .int 64), (4, .int 1), (5, .int (nI k9)), (6, .int xg), (7, .int (nI i9))]) hx hb dX14_find_114 hl (by decide) rfl (fun ls hl => ?_)
        obtain ⟨u9, hu8, hu9⟩ : ∃ u, u < 8 ∧ (¬ (v9.P s9 i9).2.2.2.2.1 = 0 → u < i9 ∧ paN v9 s9 (v9.P s9 i9).2.2.2.2.2.1 = some u ∧ peI v9 s9 i9 = some u) := by
          by_cases y : (v9.P s9 i9).2.2.2.2.1 = 0
          · exact ⟨0, by decide, fun z => absurd y z⟩
          · obtain ⟨u, a1, a2, a3⟩ := hVL.pe hs9 hi9 y; exact ⟨u, by omega, fun _ => ⟨a1, a2, a3⟩⟩
        refine lv_aload_n hx hb dX14_find_116 rfl (lv_at hl 3 rfl) ?_
        refine lv_iload hx hb dX14_find_117 (lv_at hl 2 rfl) ?_
        refine lv_iload_n hx hb dX14_find_119 rfl (lv_at hl 4 rfl) ?_
        refine va_calli (va_runV (As := [.int (nI (8 * s9 + i9)), .int (nI s9)]) (rest := []) ⟨hx, hb, hml, hown, (fun _ h9 => absurd h9 List.not_mem_nil : ∀ w ∈ ([] : List Cond), w.before _ s = true)⟩ (c_M_groups l D cy A X hst hXT Gv o Ar Iv Fj Lj b9 s9 (8 * s9 + i9) (v9.nP s9) u9 hM hb9 hbk (by omega) (by omega) (by rw [hFo 23 (by decide)]; exact hsr.2.2.2.1) hp8 (fun z => by rw [hFo 24 (by decide), hFo 27 (by decide)]; rw [hFo 26 (by decide)] at z; exact ⟨(hB.2.2.1.atP hn30 hpr.2.2.2.1 hs9).trans (by rw [(hu9 (fun y => z (hpr.2.2.1.trans y))).2.1]), hu8⟩)) (tb_cw (C := RX14) 2 hT tw_1836 tw_109 tw_1833 tw_1835 tw_97 rfl rfl hq_X14_groups ⟨Nat.le_of_ble_eq_true rfl, Nat.le_of_ble_eq_true rfl⟩) (mk_preC hst hG hK hA hX hS vc_15 hM.1) rfl rfl hl.1 rfl (lv_room (Nat.le_of_ble_eq_true rfl)) dX14_find_120 ⟨Nat.le_of_ble_eq_true rfl, Nat.le_of_ble_eq_true rfl⟩) hS (fun q _ h => h) (fun q h => h) (fun r7 G8 t H locs ht hvm hw hB hz1 hk1 hS => ?_)
        have hG : mm D vwCl A G8 H := by rw [← ht]; exact hB
        clear hB hz1 hk1 hvm ht
        obtain ⟨er7, hw⟩ := hw
        rw [hw] at hG
        have hgr : r7 = nI (grN v9 s9 i9 Pj) := by rw [er7]; exact gr_eq (by rw [hFo 26 (by decide)]; exact hpr.2.2.1) (by rw [hFo 28 (by decide)]; exact hpr.2.2.2.2) (fun z => ⟨(hu9 z).2.2, (hTt u9 (hu9 z).1).1, fun y => ((hTt u9 (hu9 z).1).2 y).2.2⟩)
        have hg8 := grN_le v9 s9 i9 Pj
        have hws : wsN v9 s9 i9 Pj = grN v9 s9 i9 Pj * w9 := by unfold wsN; rw [hc9]; dsimp only; rw [hw9]
        obtain ⟨g9, hg9⟩ : ∃ y, grN v9 s9 i9 Pj = y := ⟨_, rfl⟩
        rw [hg9] at hgr hg8 hws
        rw [hgr]
        have hgw : g9 * w9 ≤ 32 := Nat.le_trans (Nat.mul_le_mul hg8 hw3) (by decide)
        refine lv_istore (lv' := [(11, .int (nI g9)), (10, .int (nI w9)), (9, .int (nI c9)), (8, .int (nI (8 * s9 + i9))), (0, .ref o), (1, .int (nI s9)), (2, .ref (Ar 67)), (3, .int 64), (4, .int 1), (5, .int (nI k9)), (6, .int xg), (7, .int (nI i9))]) hx hb dX14_find_123 hl (by decide) rfl (fun ls hl => ?_)
        refine lv_aload_n hx hb dX14_find_125 rfl (lv_at hl 4 rfl) ?_
        refine mm_get (v := .ref (Ar 71)) hx hb hf_X14 (fun _ h9 => h9) hown hK hG hM.1 rfl 71 (by decide) (tb_use hT tw_1462) (fun _ h9 => h9) (mfs_g71 _ _) dX14_find_126 ?_
        refine lv_iload hx hb dX14_find_129 (lv_at hl 11 rfl) ?_
        refine lv_iconst (v := 0) hx hb dX14_find_131 (by decide) ?_
        refine mm_zast (n := mdN 71) (f := Fj 71) hx hb hK hG hS 3 hM.2.2.2.1 rfl (nI_in (N := 8) (by omega) (by decide)) dX14_find_132 (fun H locs hG hS => ?_)
        have hM := MD.setz (upd (Fj 71) (nI i9).toNatClampNeg (vp_nar .boolean 0)) hM
        have hF := hF.wa (k := 71) (e' := .inl (cy 3, mdN 71, .inl (upd (Fj 71) (nI i9).toNatClampNeg (vp_nar .boolean 0)))) rfl
        obtain ⟨F9, eF9⟩ : ∃ g, g = va_up Fj 71 (upd (Fj 71) (nI i9).toNatClampNeg (vp_nar .boolean 0)) := ⟨_, rfl⟩
        rw [← eF9] at hM
        have hgn := gn_MD hG hM hF
        clear hG hM hF
        obtain ⟨G10, hG, hM, hF⟩ := hgn
        refine lv_iload hx hb dX14_find_133 (lv_at hl 10 rfl) ?_
        refine lv_if_ne (tgt := 378) hx hb dX14_find_135 (by decide) (fun c_135 => ?_) (fun c_135 => ?_)
        · skip
          obtain ⟨x11, ex11⟩ : ∃ y : Int32, y = (nI i9) + 1 := ⟨_, rfl⟩
          refine lv_iinc (v := x11) (lv' := [(7, .int x11), (11, .int (nI g9)), (10, .int (nI w9)), (9, .int (nI c9)), (8, .int (nI (8 * s9 + i9))), (0, .ref o), (1, .int (nI s9)), (2, .ref (Ar 67)), (3, .int 64), (4, .int 1), (5, .int (nI k9)), (6, .int xg)]) hx hb dX14_find_378 hl (k := 11) rfl (by rw [ex11]; rfl) (by decide) rfl (fun ls hl => ?_)
          refine lv_goto (tgt := 45) hx hb dX14_find_381 (by decide) ?_
          rw [show x11 = nI (i9 + 1) by rw [ex11]; exact (nI_succ i9).symm] at hl
          have hFo2 : ∀ j, ¬ (j = 67 ∨ (71 ≤ j ∧ j ≤ 73)) → F9 j = F j := fun j hj => by rw [eF9, va_up_ne _ _ (by omega)]; exact hFo j hj
          have hF67 : F9 67 = Fj 67 := by rw [eF9, va_up_ne _ _ (by decide)]
          have hfr2 : ∀ i, i < k9 → fr i &&& 255 = F9 67 i &&& 255 := by rw [hF67]; exact hfr
          have hP0 : (Pj i9).2.1 = 0 := hz i9 (Nat.le_refl _) hi9
          have hTn : ∀ T : PdT, (∀ i, i < i9 → T i = Pj i) → (T i9).2.1 = 0 → RFP F9 Lj T (i9 + 1) := fun T t1 t2 => hTt.step (fun j i a b z => by rw [eF9]; by_cases y : j = 71; (rw [y, va_up_self, nI_clamp (by omega), pk_un z]); (rw [va_up_ne _ _ y])) (fun _ _ => rfl) t1 ⟨(by rw [eF9, va_up_self, nI_clamp (by omega), pk_us, if_pos t2]; rfl), fun z => absurd t2 z⟩
          have hgo : xg = 1 ∧ RT.2 = (k9, fr) := hR.resolve_left (fun z => c_135 z.1)
          exact ih (i9 + 1) k9 xg Pj fr F9 Lj (by omega) hk9 (Or.inr hgo) (fun i h1 h2 => hz i (by omega) h2) (hTn Pj (fun _ _ => rfl) hP0) hrm hfr2 hFo2 hLo G10 hM hF _ _ hG hS ls (lv_sub hl [5, 6, 7, 8, 9, 10, 11, 0] rfl)
        · skip
          refine lv_iload hx hb dX14_find_138 (lv_at hl 0 rfl) ?_
          refine lv_if_ne (tgt := 146) hx hb dX14_find_140 (by decide) (fun c_140 => ?_) (fun c_140 => ?_)
          · skip
            refine lv_iload hx hb dX14_find_146 (lv_at hl 9 rfl) ?_
            refine lv_iload hx hb dX14_find_148 (lv_at hl 0 rfl) ?_
            refine lv_iload hx hb dX14_find_150 (lv_at hl 1 rfl) ?_
            refine lv_imul hx hb dX14_find_152 ?_
            refine lv_iadd hx hb dX14_find_153 ?_
            rw [show ((nI k9) + ((nI g9) * (nI w9))) = nI (k9 + g9 * w9) by rw [mul_nI, nI_add]]
            refine lv_iload_n hx hb dX14_find_154 rfl (lv_at hl 7 rfl) ?_
            refine lv_icmp_le (tgt := 162) hx hb dX14_find_155 (by decide) (fun c_155 => ?_) (fun c_155 => ?_)
            · skip
              refine lv_iconst (v := 0) hx hb dX14_find_162 (by decide) ?_
              refine lv_istore (lv' := [(6, .int 0), (11, .int (nI g9)), (10, .int (nI w9)), (9, .int (nI c9)), (8, .int (nI (8 * s9 + i9))), (0, .ref o), (1, .int (nI s9)), (2, .ref (Ar 67)), (3, .int 64), (4, .int 1), (5, .int (nI k9)), (7, .int (nI i9))]) hx hb dX14_find_163 hl (by decide) rfl (fun ls hl => ?_)
              refine lv_iload hx hb dX14_find_165 (lv_at hl 0 rfl) ?_
              refine lv_if_eq (tgt := 173) hx hb dX14_find_167 (by decide) (fun c_167 => ?_) (fun c_167 => ?_)
              · skip
                refine lv_aload_n hx hb dX14_find_173 rfl (lv_at hl 5 rfl) ?_
                refine mm_get (v := .ref (Ar 71)) hx hb hf_X14 (fun _ h9 => h9) hown hK hG hM.1 rfl 71 (by decide) (tb_use hT tw_1462) (fun _ h9 => h9) (mfs_g71 _ _) dX14_find_174 ?_
                refine lv_iload hx hb dX14_find_177 (lv_at hl 11 rfl) ?_
                refine lv_iconst (v := 1) hx hb dX14_find_179 (by decide) ?_
                refine mm_zast (n := mdN 71) (f := F9 71) hx hb hK hG hS 3 hM.2.2.2.1 rfl (nI_in (N := 8) (by omega) (by decide)) dX14_find_180 (fun H locs hG hS => ?_)
                have hM := MD.setz (upd (F9 71) (nI i9).toNatClampNeg (vp_nar .boolean 1)) hM
                have hF := hF.wa (k := 71) (e' := .inl (cy 3, mdN 71, .inl (upd (F9 71) (nI i9).toNatClampNeg (vp_nar .boolean 1)))) rfl
                obtain ⟨F12, eF12⟩ : ∃ g, g = va_up F9 71 (upd (F9 71) (nI i9).toNatClampNeg (vp_nar .boolean 1)) := ⟨_, rfl⟩
                rw [← eF12] at hM
                have hgn := gn_MD hG hM hF
                clear hG hM hF
                obtain ⟨G13, hG, hM, hF⟩ := hgn
                refine lv_aload_n hx hb dX14_find_181 rfl (lv_at hl 5 rfl) ?_
                refine mm_get (v := .ref (Ar 72)) hx hb hf_X14 (fun _ h9 => h9) hown hK hG hM.1 rfl 72 (by decide) (tb_use hT tw_1463) (fun _ h9 => h9) (mfs_g72 _ _) dX14_find_182 ?_
                refine lv_iload hx hb dX14_find_185 (lv_at hl 11 rfl) ?_
                refine lv_iload hx hb dX14_find_187 (lv_at hl 10 rfl) ?_
                refine lv_topi (fun x14 ex14 => ?_)
                refine mm_iast (n := mdN 72) (f := F12 72) hx hb hK hG hS 1 (hM.2.1 72 rfl) rfl (nI_in (N := mdN 72) (by show _ < 8; omega) (by decide)) dX14_find_189 (fun H locs hG hS => ?_)
                have hM := MD.seti (k := 72) (upd (F12 72) (nI i9).toNatClampNeg x14) hM rfl
                have hF := hF.wa (k := 72) (e' := .inl (cy 1, mdN 72, .inl (upd (F12 72) (nI i9).toNatClampNeg x14))) rfl
                obtain ⟨F15, eF15⟩ : ∃ g, g = va_up F12 72 (upd (F12 72) (nI i9).toNatClampNeg x14) := ⟨_, rfl⟩
                rw [← eF15] at hM
                have hgn := gn_MD hG hM hF
                clear hG hM hF
                obtain ⟨G16, hG, hM, hF⟩ := hgn
                refine lv_aload_n hx hb dX14_find_190 rfl (lv_at hl 5 rfl) ?_
                refine mm_get (v := .ref (Ar 73)) hx hb hf_X14 (fun _ h9 => h9) hown hK hG hM.1 rfl 73 (by decide) (tb_use hT tw_1464) (fun _ h9 => h9) (mfs_g73 _ _) dX14_find_191 ?_
                refine lv_iload hx hb dX14_find_194 (lv_at hl 11 rfl) ?_
                refine lv_iload hx hb dX14_find_196 (lv_at hl 1 rfl) ?_
                refine lv_iload hx hb dX14_find_198 (lv_at hl 2 rfl) ?_
                refine lv_imul hx hb dX14_find_200 ?_
                rw [show ((nI g9) * (nI w9)) = nI (g9 * w9) from mul_nI]
                refine lv_topi (fun x17 ex17 => ?_)
                refine mm_iast (n := mdN 73) (f := F15 73) hx hb hK hG hS 1 (hM.2.1 73 rfl) rfl (nI_in (N := mdN 73) (by show _ < 8; omega) (by decide)) dX14_find_201 (fun H locs hG hS => ?_)
                have hM := MD.seti (k := 73) (upd (F15 73) (nI i9).toNatClampNeg x17) hM rfl
                have hF := hF.wa (k := 73) (e' := .inl (cy 1, mdN 73, .inl (upd (F15 73) (nI i9).toNatClampNeg x17))) rfl
                obtain ⟨F18, eF18⟩ : ∃ g, g = va_up F15 73 (upd (F15 73) (nI i9).toNatClampNeg x17) := ⟨_, rfl⟩
                rw [← eF18] at hM
                have hgn := gn_MD hG hM hF
                clear hG hM hF
                obtain ⟨G19, hG, hM, hF⟩ := hgn
                refine lv_iload hx hb dX14_find_202 (lv_at hl 9 rfl) ?_
                refine lv_if_eq (tgt := 284) hx hb dX14_find_204 (by decide) (fun c_204 => ?_) (fun c_204 => ?_)
                · skip
                  exact absurd c_204 (by decide)
                · skip
                  have hfit0 : k9 + g9 * w9 ≤ 64 := nI_ge_of (a := 64) (b := k9 + g9 * w9) (by decide) (by omega) c_155
                  have hF71 : F18 71 = upd (upd (Fj 71) i9 0) i9 1 := by rw [eF18, va_up_ne _ _ (by decide), eF15, va_up_ne _ _ (by decide), eF12, va_up_self, nI_clamp (by omega), eF9, va_up_self, nI_clamp (by omega)]; rfl
                  have hF72 : F18 72 = upd (Fj 72) i9 (nI k9) := by rw [eF18, va_up_ne _ _ (by decide), eF15, va_up_self, nI_clamp (by omega), eF12, va_up_ne _ _ (by decide), eF9, va_up_ne _ _ (by decide), ex14]
                  have hF73 : F18 73 = upd (Fj 73) i9 (nI (g9 * w9)) := by rw [eF18, va_up_self, nI_clamp (by omega), eF15, va_up_ne _ _ (by decide), eF12, va_up_ne _ _ (by decide), eF9, va_up_ne _ _ (by decide), ex17]
                  have hF67 : F18 67 = Fj 67 := by rw [eF18, va_up_ne _ _ (by decide), eF15, va_up_ne _ _ (by decide), eF12, va_up_ne _ _ (by decide), eF9, va_up_ne _ _ (by decide)]
                  have hFq : ∀ j, ¬ (j = 67 ∨ (71 ≤ j ∧ j ≤ 73)) → F18 j = F j := fun j hj => by rw [eF18, va_up_ne _ _ (by omega), eF15, va_up_ne _ _ (by omega), eF12, va_up_ne _ _ (by omega), eF9, va_up_ne _ _ (by omega)]; exact hFo j hj
                  obtain ⟨rm, erm⟩ : ∃ y, y = (Pj i9).2.2.2 := ⟨_, rfl⟩
                  have hrr : L 70 (8 * s9 + i9) = rm := by rw [erm]; exact (hrm i9 hi9).symm
                  have hlq : ∀ (nq : Nat) (j9 : Nat) (Fq : Nat → Nat → Int32), (nq + j9 = g9 * w9) → (∀ j, ¬ j = 67 → Fq j = F18 j) → (∀ i, i < k9 + j9 → wrF rm w9 k9 fr j9 i &&& 255 = Fq 67 i &&& 255) → ∀ (Gv : Nat → Option va_E), (MD cy Gv o Ar Iv Fq Lj) → (MF G Gv o Ar) → ∀ (H : Heap) (locs : List Loc), mm D vwCl A Gv H → va_S A s.heap H locs → ∀ ls : Array Slot, lv_has ls 13 [(0, .ref o), (1, .int (nI s9)), (2, .ref (Ar 67)), (3, .int 64), (4, .int 1), (5, .int (nI k9)), (6, .int 0), (7, .int (nI i9)), (8, .int (nI (8 * s9 + i9))), (9, .int (nI c9)), (10, .int (nI w9)), (11, .int (nI g9)), (12, .int (nI j9))] → W p l e (headSpec [.code yX14_find cX14_find 13 (some .int)] ({ frames := 2, cells := 0, slots := 0, locals := 60 })).room s m ([.ref o, .int (nI s9), .ref (Ar 67), .int 64, .int 1] : List Value).toArray below meth c H locs 0 0 (MQ below (va_Qi (fun (r : Int32) (G2 : Nat → Option va_E) => ∃ (k9 : Nat) (F2 : Nat → Nat → Int32) (L2 : Nat → Nat → Int64), r = nI k9 ∧ 1 ≤ k9 ∧ k9 ≤ 64 ∧ MD cy G2 o Ar Iv F2 L2 ∧ MF G G2 o Ar ∧ (∀ j, ¬ (j = 67 ∨ (71 ≤ j ∧ j ≤ 73)) → F2 j = F j) ∧ (∀ j, ¬ j = 74 → L2 j = L j) ∧ (mkF v9 s9 (v9.nP s9) 0 1 (fgF (v9.nP s9) P0) f0).2.1 = k9 ∧ ∀ i, i < k9 → (mkF v9 s9 (v9.nP s9) 0 1 (fgF (v9.nP s9) P0) f0).2.2 i &&& 255 = F2 67 i &&& 255) (mk_B D vwCl A) A) ([.ref o, .int (nI s9), .ref (Ar 67), .int 64, .int 1] : List Value).toArray s 0 0 A) (F0 m 210 ls []) := by
                    intro nq
                    induction nq with
                    | zero =>
                      intro j9 Fq hjw0 hqf hqo Gv hM hF H locs hG hS ls hl
                      refine lv_iload hx hb dX14_find_210 (lv_at hl 12 rfl) ?_
                      refine lv_iload hx hb dX14_find_212 (lv_at hl 11 rfl) ?_
                      refine lv_iload hx hb dX14_find_214 (lv_at hl 10 rfl) ?_
                      refine lv_imul hx hb dX14_find_216 ?_
                      refine lv_icmp_ge (tgt := 267) hx hb dX14_find_217 (by decide) (fun c_217 => ?_) (fun c_217 => ?_)
                      · skip
                        refine lv_aload_n hx hb dX14_find_267 rfl (lv_at hl 0 rfl) ?_
                        refine mm_get (v := .ref (Ar 74)) hx hb hf_X14 (fun _ h9 => h9) hown hK hG hM.1 rfl 74 (by decide) (tb_use hT tw_1465) (fun _ h9 => h9) (mfs_g74 _ _) dX14_find_268 ?_
                        refine lv_iload hx hb dX14_find_271 (lv_at hl 7 rfl) ?_
                        refine lv_aload_n hx hb dX14_find_273 rfl (lv_at hl 0 rfl) ?_
                        refine mm_get (v := .ref (Ar 70)) hx hb hf_X14 (fun _ h9 => h9) hown hK hG hM.1 rfl 70 (by decide) (tb_use hT tw_1461) (fun _ h9 => h9) (mfs_g70 _ _) dX14_find_274 ?_
                        refine lv_iload hx hb dX14_find_277 (lv_at hl 8 rfl) ?_
                        refine mm_lald (n := 128) (f := Lj 70) hx hb hK hG 2 (hM.2.2.1 70 rfl) rfl (nI_in (N := 128) (by omega) (by decide)) dX14_find_279 ?_
                        refine lv_topl (fun x20 ex20 => ?_)
                        refine mm_last (n := mdN 74) (f := Lj 74) hx hb hK hG hS 2 (hM.2.2.1 74 rfl) rfl (nI_in (N := mdN 74) (by show _ < 8; omega) (by decide)) dX14_find_280 (fun H locs hG hS => ?_)
                        have hM := MD.setj (k := 74) (vp_updL (Lj 74) (nI i9).toNatClampNeg x20) hM rfl
                        have hF := hF.wa (k := 74) (e' := .inl (cy 2, mdN 74, .inr (.inl (vp_updL (Lj 74) (nI i9).toNatClampNeg x20)))) rfl
                        obtain ⟨L21, eL21⟩ : ∃ g, g = va_up Lj 74 (vp_updL (Lj 74) (nI i9).toNatClampNeg x20) := ⟨_, rfl⟩
                        rw [← eL21] at hM
                        have hgn := gn_MD hG hM hF
                        clear hG hM hF
                        obtain ⟨G22, hG, hM, hF⟩ := hgn
                        refine lv_goto (tgt := 368) hx hb dX14_find_281 (by decide) ?_
                        refine lv_iload hx hb dX14_find_368 (lv_at hl 5 rfl) ?_
                        refine lv_iload hx hb dX14_find_370 (lv_at hl 11 rfl) ?_
                        refine lv_iload hx hb dX14_find_372 (lv_at hl 10 rfl) ?_
                        refine lv_imul hx hb dX14_find_374 ?_
                        refine lv_iadd hx hb dX14_find_375 ?_
                        rw [show ((nI k9) + ((nI g9) * (nI w9))) = nI (k9 + g9 * w9) by rw [mul_nI, nI_add]]
                        refine lv_istore (lv' := [(5, .int (nI (k9 + g9 * w9))), (0, .ref o), (1, .int (nI s9)), (2, .ref (Ar 67)), (3, .int 64), (4, .int 1), (6, .int 0), (7, .int (nI i9)), (8, .int (nI (8 * s9 + i9))), (9, .int (nI c9)), (10, .int (nI w9)), (11, .int (nI g9)), (12, .int (nI j9))]) hx hb dX14_find_376 hl (by decide) rfl (fun ls hl => ?_)
                        obtain ⟨x23, ex23⟩ : ∃ y : Int32, y = (nI i9) + 1 := ⟨_, rfl⟩
                        refine lv_iinc (v := x23) (lv' := [(7, .int x23), (5, .int (nI (k9 + g9 * w9))), (0, .ref o), (1, .int (nI s9)), (2, .ref (Ar 67)), (3, .int 64), (4, .int 1), (6, .int 0), (8, .int (nI (8 * s9 + i9))), (9, .int (nI c9)), (10, .int (nI w9)), (11, .int (nI g9)), (12, .int (nI j9))]) hx hb dX14_find_378 hl (k := 7) rfl (by rw [ex23]; rfl) (by decide) rfl (fun ls hl => ?_)
                        refine lv_goto (tgt := 45) hx hb dX14_find_381 (by decide) ?_
                        rw [show x23 = nI (i9 + 1) by rw [ex23]; exact (nI_succ i9).symm] at hl
                        have hgo : xg = 0 ∧ mkF v9 s9 (n + 1) i9 k9 Pj fr = RT := hR.resolve_right (fun z => absurd (z.1.symm.trans c_135) (by decide))
                        have hjw : j9 = g9 * w9 := by omega
                        have hpos : 0 < g9 * w9 := Nat.mul_pos (Nat.pos_of_ne_zero (fun y => c_140 (by rw [y]; rfl))) hw2
                        have hcw : cwN v9 s9 i9 = w9 := by unfold cwN; rw [hc9]; exact hw9
                        obtain ⟨P2, hP2⟩ : ∃ y, y = up1 Pj i9 (nI k9, nI (g9 * w9), rm, rm) := ⟨_, rfl⟩
                        have hR2 : mkF v9 s9 n (i9 + 1) (k9 + g9 * w9) P2 (wrF rm w9 k9 fr (g9 * w9)) = RT := by rw [← hgo.2, mkF, hws, if_pos hfit0, hcw, hP2, ← erm]
                        have hn0 : ¬ nI (g9 * w9) = 0 := fun y => absurd (nI_inj (b := 0) (by omega) (by decide) y) (by omega)
                        have hL74 : L21 74 = vp_updL (Lj 74) i9 rm := by rw [eL21, va_up_self, nI_clamp (by omega), ex20, nI_clamp (by omega), hLo 70 (by decide), hrr]
                        have hTt2 : RFP Fq L21 P2 (i9 + 1) := hTt.step (fun j i a b z => by rcases (show j = 71 ∨ j = 72 ∨ j = 73 by omega) with y | y | y; (rw [y, hqf 71 (by decide), hF71, pk_un z, pk_un z]); (rw [y, hqf 72 (by decide), hF72, pk_un z]); (rw [y, hqf 73 (by decide), hF73, pk_un z])) (fun i z => by rw [hL74, updL_ne z]) (fun i hi => by rw [hP2, up1_ne (by omega)]) ⟨(by rw [hP2, up1_eq]; dsimp only; rw [if_neg hn0, hqf 71 (by decide), hF71, pk_us]), fun _ => by rw [hP2, up1_eq]; dsimp only; exact ⟨(by rw [hqf 72 (by decide), hF72, pk_us]), (by rw [hqf 73 (by decide), hF73, pk_us]), (by rw [hL74, updL_eq])⟩⟩
                        have hz2 : ∀ i, i9 + 1 ≤ i → i < v9.nP s9 → (P2 i).2.1 = 0 := fun i h1 h2 => by rw [hP2, up1_ne (by omega)]; exact hz i (by omega) h2
                        have hrm2 : ∀ i, i < v9.nP s9 → (P2 i).2.2.2 = L 70 (8 * s9 + i) := fun i hi => by rw [hP2]; by_cases y : i = i9; (rw [y, up1_eq]; exact hrr.symm); (rw [up1_ne y]; exact hrm i hi)
                        have hfr2 : ∀ i, i < k9 + g9 * w9 → wrF rm w9 k9 fr (g9 * w9) i &&& 255 = Fq 67 i &&& 255 := fun i hi => by have y := hqo i (by omega); rw [hjw] at y; exact y
                        have hFo2 : ∀ j, ¬ (j = 67 ∨ (71 ≤ j ∧ j ≤ 73)) → Fq j = F j := fun j hj => by rw [hqf j (by omega)]; exact hFq j hj
                        exact ih (i9 + 1) (k9 + g9 * w9) 0 P2 (wrF rm w9 k9 fr (g9 * w9)) Fq L21 (by omega) ⟨by omega, hfit0⟩ (Or.inl ⟨rfl, hR2⟩) hz2 hTt2 hrm2 hfr2 hFo2 (fun j hj => by rw [eL21, va_up_ne _ _ hj]; exact hLo j hj) G22 hM hF _ _ hG hS ls (lv_sub hl [2, 3, 4, 5, 6, 1, 7, 0] rfl)
                      · skip
                        exact absurd (by rw [show nI g9 * nI w9 = nI (g9 * w9) from mul_nI, show j9 = g9 * w9 by omega]; exact Int32.le_refl _) c_217
                    | succ nq ihq =>
                      intro j9 Fq hjw0 hqf hqo Gv hM hF H locs hG hS ls hl
                      refine lv_iload hx hb dX14_find_210 (lv_at hl 12 rfl) ?_
                      refine lv_iload hx hb dX14_find_212 (lv_at hl 11 rfl) ?_
                      refine lv_iload hx hb dX14_find_214 (lv_at hl 10 rfl) ?_
                      refine lv_imul hx hb dX14_find_216 ?_
                      refine lv_icmp_ge (tgt := 267) hx hb dX14_find_217 (by decide) (fun c_217 => ?_) (fun c_217 => ?_)
                      · skip
                        exact absurd (by have z := c_217; rw [show nI g9 * nI w9 = nI (g9 * w9) from mul_nI] at z; exact z) (nI_ge (a := j9) (b := g9 * w9) (by omega) (by omega))
                      · skip
                        refine lv_aload_n hx hb dX14_find_220 rfl (lv_at hl 2 rfl) ?_
                        refine lv_iload hx hb dX14_find_221 (lv_at hl 5 rfl) ?_
                        refine lv_iload hx hb dX14_find_223 (lv_at hl 12 rfl) ?_
                        refine lv_iadd hx hb dX14_find_225 ?_
                        refine lv_iload hx hb dX14_find_226 (lv_at hl 12 rfl) ?_
                        refine lv_iload hx hb dX14_find_228 (lv_at hl 10 rfl) ?_
                        refine lv_icmp_ge (tgt := 259) hx hb dX14_find_230 (by decide) (fun c_230 => ?_) (fun c_230 => ?_)
                        · skip
                          refine lv_iconst (v := 0) hx hb dX14_find_259 (by decide) ?_
                          refine mm_iast (n := mdN 67) (f := Fq 67) hx hb hK hG hS 1 (hM.2.1 67 rfl) rfl (by rw [nI_add]; exact nI_in (N := mdN 67) (by show _ < 64; omega) (by decide)) dX14_find_260 (fun H locs hG hS => ?_)
                          have hM := MD.seti (k := 67) (upd (Fq 67) ((nI k9) + (nI j9)).toNatClampNeg 0) hM rfl
                          have hF := hF.wa (k := 67) (e' := .inl (cy 1, mdN 67, .inl (upd (Fq 67) ((nI k9) + (nI j9)).toNatClampNeg 0))) rfl
                          obtain ⟨F24, eF24⟩ : ∃ g, g = va_up Fq 67 (upd (Fq 67) ((nI k9) + (nI j9)).toNatClampNeg 0) := ⟨_, rfl⟩
                          rw [← eF24] at hM
                          have hgn := gn_MD hG hM hF
                          clear hG hM hF
                          obtain ⟨G25, hG, hM, hF⟩ := hgn
                          obtain ⟨x26, ex26⟩ : ∃ y : Int32, y = (nI j9) + 1 := ⟨_, rfl⟩
                          refine lv_iinc (v := x26) (lv' := [(12, .int x26), (0, .ref o), (1, .int (nI s9)), (2, .ref (Ar 67)), (3, .int 64), (4, .int 1), (5, .int (nI k9)), (6, .int 0), (7, .int (nI i9)), (8, .int (nI (8 * s9 + i9))), (9, .int (nI c9)), (10, .int (nI w9)), (11, .int (nI g9))]) hx hb dX14_find_261 hl (k := 12) rfl (by rw [ex26]; rfl) (by decide) rfl (fun ls hl => ?_)
                          refine lv_goto (tgt := 210) hx hb dX14_find_264 (by decide) ?_
                          rw [show x26 = nI (j9 + 1) by rw [ex26]; exact (nI_succ j9).symm] at hl
                          have hqv : wrO rm w9 j9 &&& 255 = 0 &&& 255 := by unfold wrO; rw [if_neg (Nat.not_lt.mpr (nI_ge_of (by omega) (by omega) c_230))]
                          have hqo2 : ∀ i, i < k9 + (j9 + 1) → wrF rm w9 k9 fr (j9 + 1) i &&& 255 = F24 67 i &&& 255 := fun i hi => by
                            rw [wrF, eF24, va_up_self, nI_add, nI_clamp (by omega)]
                            by_cases y : i = k9 + j9
                            · rw [y, pk_us, pk_us, nar_255]; exact hqv
                            · rw [pk_un y, pk_un y]; exact hqo i (by omega)
                          exact ihq (j9 + 1) F24 (by omega) (fun j hj => by rw [eF24, va_up_ne _ _ hj]; exact hqf j hj) hqo2 G25 hM hF _ _ hG hS ls (lv_sub hl [1, 2, 3, 4, 5, 6, 7, 8, 9, 10, 11, 12, 0] rfl)
                        · skip
                          refine lv_aload_n hx hb dX14_find_233 rfl (lv_at hl 0 rfl) ?_
                          refine mm_get (v := .ref (Ar 70)) hx hb hf_X14 (fun _ h9 => h9) hown hK hG hM.1 rfl 70 (by decide) (tb_use hT tw_1461) (fun _ h9 => h9) (mfs_g70 _ _) dX14_find_234 ?_
                          refine lv_iload hx hb dX14_find_237 (lv_at hl 8 rfl) ?_
                          refine mm_lald (n := 128) (f := Lj 70) hx hb hK hG 2 (hM.2.2.1 70 rfl) rfl (nI_in (N := 128) (by omega) (by decide)) dX14_find_239 ?_
                          refine lv_topl (fun x27 ex27 => ?_)
                          refine lv_bipush (v := 8) hx hb dX14_find_240 (by decide) ?_
                          refine lv_iload hx hb dX14_find_242 (lv_at hl 10 rfl) ?_
                          refine lv_iconst (v := 1) hx hb dX14_find_244 (by decide) ?_
                          refine lv_isub hx hb dX14_find_245 ?_
                          refine lv_iload hx hb dX14_find_246 (lv_at hl 12 rfl) ?_
                          refine lv_isub hx hb dX14_find_248 ?_
                          refine lv_imul hx hb dX14_find_249 ?_
                          obtain ⟨x28, ex28⟩ : ∃ y, y = (x27 : Int64) >>> (((8 * (((nI w9) - 1) - (nI j9))) : Int32).toInt64 &&& 63) := ⟨_, rfl⟩
                          refine lv_lshr (v := x28) hx hb dX14_find_250 ex28.symm ?_
                          refine lv_ldc2 hx hb hown (tb_use hT tw_1838) dX14_find_251 ?_
                          refine lv_land hx hb dX14_find_254 ?_
                          obtain ⟨x29, ex29⟩ : ∃ y, y = ((x28 &&& 255) : Int64).toInt32 := ⟨_, rfl⟩
                          refine lv_l2i (v := x29) hx hb dX14_find_255 ex29.symm ?_
                          refine lv_goto (tgt := 260) hx hb dX14_find_256 (by decide) ?_
                          refine mm_iast (n := mdN 67) (f := Fq 67) hx hb hK hG hS 1 (hM.2.1 67 rfl) rfl (by rw [nI_add]; exact nI_in (N := mdN 67) (by show _ < 64; omega) (by decide)) dX14_find_260 (fun H locs hG hS => ?_)
                          have hM := MD.seti (k := 67) (upd (Fq 67) ((nI k9) + (nI j9)).toNatClampNeg x29) hM rfl
                          have hF := hF.wa (k := 67) (e' := .inl (cy 1, mdN 67, .inl (upd (Fq 67) ((nI k9) + (nI j9)).toNatClampNeg x29))) rfl
                          obtain ⟨F30, eF30⟩ : ∃ g, g = va_up Fq 67 (upd (Fq 67) ((nI k9) + (nI j9)).toNatClampNeg x29) := ⟨_, rfl⟩
                          rw [← eF30] at hM
                          have hgn := gn_MD hG hM hF
                          clear hG hM hF
                          obtain ⟨G31, hG, hM, hF⟩ := hgn
                          obtain ⟨x32, ex32⟩ : ∃ y : Int32, y = (nI j9) + 1 := ⟨_, rfl⟩
                          refine lv_iinc (v := x32) (lv' := [(12, .int x32), (0, .ref o), (1, .int (nI s9)), (2, .ref (Ar 67)), (3, .int 64), (4, .int 1), (5, .int (nI k9)), (6, .int 0), (7, .int (nI i9)), (8, .int (nI (8 * s9 + i9))), (9, .int (nI c9)), (10, .int (nI w9)), (11, .int (nI g9))]) hx hb dX14_find_261 hl (k := 12) rfl (by rw [ex32]; rfl) (by decide) rfl (fun ls hl => ?_)
                          refine lv_goto (tgt := 210) hx hb dX14_find_264 (by decide) ?_
                          rw [show x32 = nI (j9 + 1) by rw [ex32]; exact (nI_succ j9).symm] at hl
                          have hqv : wrO rm w9 j9 &&& 255 = x29 &&& 255 := by unfold wrO; rw [if_pos (nI_lt_of (by omega) (by omega) c_230), ex29, l_255, Int32.and_assoc, show (255 : Int32) &&& 255 = 255 by decide, ex28, ex27, nI_clamp (by omega), hLo 70 (by decide), hrr]
                          have hqo2 : ∀ i, i < k9 + (j9 + 1) → wrF rm w9 k9 fr (j9 + 1) i &&& 255 = F30 67 i &&& 255 := fun i hi => by
                            rw [wrF, eF30, va_up_self, nI_add, nI_clamp (by omega)]
                            by_cases y : i = k9 + j9
                            · rw [y, pk_us, pk_us, nar_255]; exact hqv
                            · rw [pk_un y, pk_un y]; exact hqo i (by omega)
                          exact ihq (j9 + 1) F30 (by omega) (fun j hj => by rw [eF30, va_up_ne _ _ hj]; exact hqf j hj) hqo2 G31 hM hF _ _ hG hS ls (lv_sub hl [1, 2, 3, 4, 5, 6, 7, 8, 9, 10, 11, 12, 0] rfl)
                  refine lv_iconst (v := 0) hx hb dX14_find_207 (by decide) ?_
                  refine lv_istore (lv' := [(12, .int 0), (6, .int 0), (11, .int (nI g9)), (10, .int (nI w9)), (9, .int (nI c9)), (8, .int (nI (8 * s9 + i9))), (0, .ref o), (1, .int (nI s9)), (2, .ref (Ar 67)), (3, .int 64), (4, .int 1), (5, .int (nI k9)), (7, .int (nI i9))]) hx hb dX14_find_208 hl (by decide) rfl (fun ls hl => ?_)
                  exact hlq (g9 * w9) 0 F18 (by omega) (fun _ _ => rfl) (fun i hi => by rw [hF67]; exact hfr i hi) G19 hM hF _ _ hG hS ls (lv_sub hl [6, 7, 8, 9, 10, 11, 1, 12, 5, 4, 3, 2, 0] rfl)
              · skip
                exact absurd (by decide) c_167
            · skip
              refine lv_iconst (v := 1) hx hb dX14_find_158 (by decide) ?_
              refine lv_goto (tgt := 163) hx hb dX14_find_159 (by decide) ?_
              refine lv_istore (lv' := [(6, .int 1), (11, .int (nI g9)), (10, .int (nI w9)), (9, .int (nI c9)), (8, .int (nI (8 * s9 + i9))), (0, .ref o), (1, .int (nI s9)), (2, .ref (Ar 67)), (3, .int 64), (4, .int 1), (5, .int (nI k9)), (7, .int (nI i9))]) hx hb dX14_find_163 hl (by decide) rfl (fun ls hl => ?_)
              refine lv_iload hx hb dX14_find_165 (lv_at hl 0 rfl) ?_
              refine lv_if_eq (tgt := 173) hx hb dX14_find_167 (by decide) (fun c_167 => ?_) (fun c_167 => ?_)
              · skip
                exact absurd c_167 (by decide)
              · skip
                refine lv_goto (tgt := 378) hx hb dX14_find_170 (by decide) ?_
                obtain ⟨x33, ex33⟩ : ∃ y : Int32, y = (nI i9) + 1 := ⟨_, rfl⟩
                refine lv_iinc (v := x33) (lv' := [(7, .int x33), (6, .int 1), (11, .int (nI g9)), (10, .int (nI w9)), (9, .int (nI c9)), (8, .int (nI (8 * s9 + i9))), (0, .ref o), (1, .int (nI s9)), (2, .ref (Ar 67)), (3, .int 64), (4, .int 1), (5, .int (nI k9))]) hx hb dX14_find_378 hl (k := 11) rfl (by rw [ex33]; rfl) (by decide) rfl (fun ls hl => ?_)
                refine lv_goto (tgt := 45) hx hb dX14_find_381 (by decide) ?_
                rw [show x33 = nI (i9 + 1) by rw [ex33]; exact (nI_succ i9).symm] at hl
                have hFo2 : ∀ j, ¬ (j = 67 ∨ (71 ≤ j ∧ j ≤ 73)) → F9 j = F j := fun j hj => by rw [eF9, va_up_ne _ _ (by omega)]; exact hFo j hj
                have hF67 : F9 67 = Fj 67 := by rw [eF9, va_up_ne _ _ (by decide)]
                have hfr2 : ∀ i, i < k9 → fr i &&& 255 = F9 67 i &&& 255 := by rw [hF67]; exact hfr
                have hP0 : (Pj i9).2.1 = 0 := hz i9 (Nat.le_refl _) hi9
                have hTn : ∀ T : PdT, (∀ i, i < i9 → T i = Pj i) → (T i9).2.1 = 0 → RFP F9 Lj T (i9 + 1) := fun T t1 t2 => hTt.step (fun j i a b z => by rw [eF9]; by_cases y : j = 71; (rw [y, va_up_self, nI_clamp (by omega), pk_un z]); (rw [va_up_ne _ _ y])) (fun _ _ => rfl) t1 ⟨(by rw [eF9, va_up_self, nI_clamp (by omega), pk_us, if_pos t2]; rfl), fun z => absurd t2 z⟩
                have hgo : xg = 0 ∧ mkF v9 s9 (n + 1) i9 k9 Pj fr = RT := hR.resolve_right (fun z => absurd (z.1.symm.trans c_135) (by decide))
                have hbig : ¬ k9 + g9 * w9 ≤ 64 := fun z => c_155 (nI_le (b := 64) z (by decide))
                have hR2 : RT.2 = (k9, fr) := by rw [← hgo.2, mkF, hws, if_neg hbig]
                exact ih (i9 + 1) k9 1 Pj fr F9 Lj (by omega) hk9 (Or.inr ⟨rfl, hR2⟩) (fun i h1 h2 => hz i (by omega) h2) (hTn Pj (fun _ _ => rfl) hP0) hrm hfr2 hFo2 hLo G10 hM hF _ _ hG hS ls (lv_sub hl [6, 7, 8, 9, 10, 11, 1, 0] rfl)
          · skip
            refine lv_goto (tgt := 378) hx hb dX14_find_143 (by decide) ?_
            obtain ⟨x34, ex34⟩ : ∃ y : Int32, y = (nI i9) + 1 := ⟨_, rfl⟩
            refine lv_iinc (v := x34) (lv' := [(7, .int x34), (11, .int (nI g9)), (10, .int (nI w9)), (9, .int (nI c9)), (8, .int (nI (8 * s9 + i9))), (0, .ref o), (1, .int (nI s9)), (2, .ref (Ar 67)), (3, .int 64), (4, .int 1), (5, .int (nI k9)), (6, .int xg)]) hx hb dX14_find_378 hl (k := 11) rfl (by rw [ex34]; rfl) (by decide) rfl (fun ls hl => ?_)
            refine lv_goto (tgt := 45) hx hb dX14_find_381 (by decide) ?_
            rw [show x34 = nI (i9 + 1) by rw [ex34]; exact (nI_succ i9).symm] at hl
            have hFo2 : ∀ j, ¬ (j = 67 ∨ (71 ≤ j ∧ j ≤ 73)) → F9 j = F j := fun j hj => by rw [eF9, va_up_ne _ _ (by omega)]; exact hFo j hj
            have hF67 : F9 67 = Fj 67 := by rw [eF9, va_up_ne _ _ (by decide)]
            have hfr2 : ∀ i, i < k9 → fr i &&& 255 = F9 67 i &&& 255 := by rw [hF67]; exact hfr
            have hP0 : (Pj i9).2.1 = 0 := hz i9 (Nat.le_refl _) hi9
            have hTn : ∀ T : PdT, (∀ i, i < i9 → T i = Pj i) → (T i9).2.1 = 0 → RFP F9 Lj T (i9 + 1) := fun T t1 t2 => hTt.step (fun j i a b z => by rw [eF9]; by_cases y : j = 71; (rw [y, va_up_self, nI_clamp (by omega), pk_un z]); (rw [va_up_ne _ _ y])) (fun _ _ => rfl) t1 ⟨(by rw [eF9, va_up_self, nI_clamp (by omega), pk_us, if_pos t2]; rfl), fun z => absurd t2 z⟩
            have hgo : xg = 0 ∧ mkF v9 s9 (n + 1) i9 k9 Pj fr = RT := hR.resolve_right (fun z => absurd (z.1.symm.trans c_135) (by decide))
            have hg0 : g9 = 0 := nI_inj (b := 0) (by omega) (by decide) c_140
            have hw0 : wsN v9 s9 i9 Pj = 0 := by rw [hws, hg0, Nat.zero_mul]
            obtain ⟨P2, hP2⟩ : ∃ y, y = up1 Pj i9 (nI k9, nI 0, (Pj i9).2.2.2, (Pj i9).2.2.2) := ⟨_, rfl⟩
            have hR2 : mkF v9 s9 n (i9 + 1) k9 P2 fr = RT := by rw [← hgo.2, mkF, hw0, if_pos (show k9 + 0 ≤ 64 from hk9.2), hP2]; rfl
            have hz2 : ∀ i, i9 + 1 ≤ i → i < v9.nP s9 → (P2 i).2.1 = 0 := fun i h1 h2 => by rw [hP2, up1_ne (by omega)]; exact hz i (by omega) h2
            have hrm2 : ∀ i, i < v9.nP s9 → (P2 i).2.2.2 = L 70 (8 * s9 + i) := fun i hi => by rw [hP2]; by_cases y : i = i9; (rw [y, up1_eq]; exact hrm i9 hi9); (rw [up1_ne y]; exact hrm i hi)
            exact ih (i9 + 1) k9 xg P2 fr F9 Lj (by omega) hk9 (Or.inl ⟨hgo.1, hR2⟩) hz2 (hTn P2 (fun i hi => by rw [hP2, up1_ne (by omega)]) (by rw [hP2, up1_eq]; rfl)) hrm2 hfr2 hFo2 hLo G10 hM hF _ _ hG hS ls (lv_sub hl [5, 6, 7, 8, 9, 10, 11, 0] rfl)
  refine lv_iconst (v := 1) hx hb dX14_find_0 (by decide) ?_
  refine lv_istore (lv' := [(5, .int 1), (0, .ref o), (1, .int (nI s9)), (2, .ref (Ar 67)), (3, .int 64), (4, .int 1)]) hx hb dX14_find_1 hl (by decide) rfl (fun ls hl => ?_)
  refine lv_iload hx hb dX14_find_3 (lv_at hl 5 rfl) ?_
  refine lv_if_ne (tgt := 39) hx hb dX14_find_5 (by decide) (fun c_5 => ?_) (fun c_5 => ?_)
  · skip
    refine lv_iconst (v := 0) hx hb dX14_find_39 (by decide) ?_
    refine lv_istore (lv' := [(6, .int 0), (5, .int 1), (0, .ref o), (1, .int (nI s9)), (2, .ref (Ar 67)), (3, .int 64), (4, .int 1)]) hx hb dX14_find_40 hl (by decide) rfl (fun ls hl => ?_)
    refine lv_iconst (v := 0) hx hb dX14_find_42 (by decide) ?_
    refine lv_istore (lv' := [(7, .int 0), (6, .int 0), (5, .int 1), (0, .ref o), (1, .int (nI s9)), (2, .ref (Ar 67)), (3, .int 64), (4, .int 1)]) hx hb dX14_find_43 hl (by decide) rfl (fun ls hl => ?_)
    exact hlf (v9.nP s9) 0 1 0 (fgF (v9.nP s9) P0) f0 F L (by omega) ⟨by decide, by decide⟩ (Or.inl ⟨rfl, hRT0⟩) (fun i _ hi => by unfold fgF; rw [if_pos hi]) (fun i hi => absurd hi (Nat.not_lt_zero i)) (fun i hi => by unfold fgF; rw [if_pos hi]; exact hrm0 i hi) (fun i hi => by rw [show i = 0 by omega]; exact hf0) (fun _ _ => rfl) (fun _ _ => rfl) G hM hF _ _ hG hS ls (lv_sub hl [3, 4, 5, 6, 7, 2, 1, 0] rfl)
  · skip
    exact absurd c_5 (by decide)
