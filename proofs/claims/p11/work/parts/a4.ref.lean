theorem nI_mb (b s j : Nat) : nI 128 * nI b + nI 8 * nI s + nI j = nI (128 * b + 8 * s + j) := by
  rw [show nI 128 * nI b = nI (128 * b) from (Int32.ofNat_mul 128 b).symm, show nI 8 * nI s = nI (8 * s) from (Int32.ofNat_mul 8 s).symm, nI_add, nI_add]

set_option maxHeartbeats 4000000 in
set_option maxRecDepth 100000 in
theorem c_M_serviceAt (l : Launch) (D : va_G) (cy : Nat → ClassId) (A : Nat → Prop) (X : State → Prop) (hst : mk_St A X) (hXT : ∀ U : State, X U → TB U) (G : Nat → Option va_E) (o : Nat) (Ar : Nat → Nat) (Iv : Nat → Int32) (F : Nat → Nat → Int32) (L : Nat → Nat → Int64) (b9 nC : Nat) (xn xo : Int32) (hM : MD cy G o Ar Iv F L) (hb9 : b9 < 2) (hcn : F 3 b9 = nI nC) (hnC : nC ≤ 16) : Met l yX14_serviceAt [.code yX14_serviceAt cX14_serviceAt 5 (some .int)] ({ frames := 0, cells := 0, slots := 0, locals := 0 }) (mk_Pre D vwCl (tyL cy) A X G [.ref o, .int (nI b9), .int xn, .int xo]) (va_Qi (fun (r : Int32) (G2 : Nat → Option va_E) => r = fnI (fun j => decide (F 20 (16 * b9 + j) = xn) && (decide (xo < 0) || decide (F 22 (16 * b9 + j) = xo))) nC ∧ G2 = G) (mk_B D vwCl A) A) 0 0 A := by
  refine Met.ofW (cc := cX14_serviceAt) (maxL := 5) (ret := (some .int)) (by decide) rfl ?_
  intro p e s m args below meth c s₁ B hml hv
  obtain ⟨rfl, hG, hK, hA, hX⟩ := hv
  have hx := B.exec
  have hb := B.bytes
  have hr := B.returns
  have hlocks := B.notSynchronized
  have hT := hXT s hX
  have hown : s.vm.findClass RX14 = some m.cls := findClass_of_methodNamed B.named
  have hf_X14 : ∀ w ∈ u_ws RX14 TX14 76, w.before ([.ref o, .int (nI b9), .int xn, .int xo] : List Value).toArray s = true := tb_list hT fX14
  have hS : va_S A s.heap s.heap [] := va_S.rf
  have hl := lv_entry ([.ref o, .int (nI b9), .int xn, .int xo]) (n := 5) (Nat.le_of_ble_eq_true rfl)
  rw [lg_entry_eq]
  generalize (lg_sl ([.ref o, .int (nI b9), .int xn, .int xo]) ++ List.replicate (5 - (lg_sl ([.ref o, .int (nI b9), .int xn, .int xo])).length) Slot.unset).toArray = ls at hl ⊢
  have hl : lv_has ls 5 [(0, .ref o), (1, .int (nI b9)), (2, .int xn), (3, .int xo)] := hl
  obtain ⟨RF, hR⟩ : ∃ y, fndF (fun j => decide (F 20 (16 * b9 + j) = xn) && (decide (xo < 0) || decide (F 22 (16 * b9 + j) = xo))) nC 0 = y := ⟨_, rfl⟩
  have hloop : ∀ (n : Nat) (j9 : Nat), (n + j9 = nC) → (fndF (fun j => decide (F 20 (16 * b9 + j) = xn) && (decide (xo < 0) || decide (F 22 (16 * b9 + j) = xo))) n j9 = RF) → ∀ (Gv : Nat → Option va_E), (MD cy Gv o Ar Iv F L) → (Gv = G) → ∀ (H : Heap) (locs : List Loc), mm D vwCl A Gv H → va_S A s.heap H locs → ∀ ls : Array Slot, lv_has ls 5 [(0, .ref o), (1, .int (nI b9)), (2, .int xn), (3, .int xo), (4, .int (nI j9))] → W p l e (headSpec [.code yX14_serviceAt cX14_serviceAt 5 (some .int)] ({ frames := 0, cells := 0, slots := 0, locals := 0 })).room s m ([.ref o, .int (nI b9), .int xn, .int xo] : List Value).toArray below meth c H locs 0 0 (MQ below (va_Qi (fun (r : Int32) (G2 : Nat → Option va_E) => r = fnI (fun j => decide (F 20 (16 * b9 + j) = xn) && (decide (xo < 0) || decide (F 22 (16 * b9 + j) = xo))) nC ∧ G2 = G) (mk_B D vwCl A) A) ([.ref o, .int (nI b9), .int xn, .int xo] : List Value).toArray s 0 0 A) (F0 m 3 ls []) := by
    intro n
    induction n with
    | zero =>
      intro j9 hjn hq Gv hM hGe H locs hG hS ls hl
      refine lv_iload hx hb dX14_serviceAt_3 (lv_at hl 4 rfl) ?_
      refine lv_aload_n hx hb dX14_serviceAt_5 rfl (lv_at hl 0 rfl) ?_
      refine mm_get (v := .ref (Ar 3)) hx hb hf_X14 (fun _ h9 => h9) hown hK hG hM.1 rfl 3 (by decide) (tb_use hT tw_1394) (fun _ h9 => h9) (mfs_g3 _ _) dX14_serviceAt_6 ?_
      refine lv_iload_n hx hb dX14_serviceAt_9 rfl (lv_at hl 1 rfl) ?_
      refine mm_iald (n := 2) (f := F 3) hx hb hK hG 1 (hM.2.1 3 rfl) rfl (nI_in (N := 2) hb9 (by decide)) dX14_serviceAt_10 ?_
      refine lv_topi (fun x1 ex1 => ?_)
      refine lv_icmp_ge (tgt := 59) hx hb dX14_serviceAt_11 (by decide) (fun c_11 => ?_) (fun c_11 => ?_)
      · skip
        refine lv_iconst (v := (-1)) hx hb dX14_serviceAt_59 (by decide) ?_
        have hz : RF = none := by rw [← hq]; first | rfl | (rw [show n = 0 by omega]; rfl)
        exact W.iret (v := (-1)) hx hb hr (fun t ht hW => ⟨⟨_, _, rfl, ⟨(by rw [fnI, hR, hz]), hGe⟩, mk_end hG ht⟩, hS.F ht⟩) hS.2.2 dX14_serviceAt_60
      · skip
        exact absurd (by rw [ex1, nI_clamp (by omega), hcn, show j9 = nC by omega]; exact Int32.le_refl _) c_11
    | succ n ih =>
      intro j9 hjn hq Gv hM hGe H locs hG hS ls hl
      refine lv_iload hx hb dX14_serviceAt_3 (lv_at hl 4 rfl) ?_
      refine lv_aload_n hx hb dX14_serviceAt_5 rfl (lv_at hl 0 rfl) ?_
      refine mm_get (v := .ref (Ar 3)) hx hb hf_X14 (fun _ h9 => h9) hown hK hG hM.1 rfl 3 (by decide) (tb_use hT tw_1394) (fun _ h9 => h9) (mfs_g3 _ _) dX14_serviceAt_6 ?_
      refine lv_iload_n hx hb dX14_serviceAt_9 rfl (lv_at hl 1 rfl) ?_
      refine mm_iald (n := 2) (f := F 3) hx hb hK hG 1 (hM.2.1 3 rfl) rfl (nI_in (N := 2) hb9 (by decide)) dX14_serviceAt_10 ?_
      refine lv_topi (fun x2 ex2 => ?_)
      refine lv_icmp_ge (tgt := 59) hx hb dX14_serviceAt_11 (by decide) (fun c_11 => ?_) (fun c_11 => ?_)
      · skip
        exact absurd (by have z := c_11; rw [ex2, nI_clamp (by omega), hcn] at z; exact z) (nI_ge (a := j9) (b := nC) (by omega) (by omega))
      · skip
        refine lv_aload_n hx hb dX14_serviceAt_14 rfl (lv_at hl 0 rfl) ?_
        refine mm_get (v := .ref (Ar 20)) hx hb hf_X14 (fun _ h9 => h9) hown hK hG hM.1 rfl 20 (by decide) (tb_use hT tw_1411) (fun _ h9 => h9) (mfs_g20 _ _) dX14_serviceAt_15 ?_
        refine lv_bipush (v := 16) hx hb dX14_serviceAt_18 (by decide) ?_
        refine lv_iload_n hx hb dX14_serviceAt_20 rfl (lv_at hl 1 rfl) ?_
        refine lv_imul hx hb dX14_serviceAt_21 ?_
        refine lv_iload hx hb dX14_serviceAt_22 (lv_at hl 4 rfl) ?_
        refine lv_iadd hx hb dX14_serviceAt_24 ?_
        refine mm_iald (n := 32) (f := F 20) hx hb hK hG 1 (hM.2.1 20 rfl) rfl (by rw [show (16 : Int32) * nI b9 + nI j9 = nI (16 * b9 + j9) from nI_ma 16 b9 j9]; exact nI_in (N := 32) (by omega) (by decide)) dX14_serviceAt_25 ?_
        refine lv_topi (fun x3 ex3 => ?_)
        refine lv_iload_n hx hb dX14_serviceAt_26 rfl (lv_at hl 2 rfl) ?_
        refine lv_icmp_ne (tgt := 53) hx hb dX14_serviceAt_27 (by decide) (fun c_27 => ?_) (fun c_27 => ?_)
        · skip
          obtain ⟨x4, ex4⟩ : ∃ y : Int32, y = (nI j9) + 1 := ⟨_, rfl⟩
          refine lv_iinc (v := x4) (lv' := [(4, .int x4), (0, .ref o), (1, .int (nI b9)), (2, .int xn), (3, .int xo)]) hx hb dX14_serviceAt_53 hl (k := 4) rfl (by rw [ex4]; rfl) (by decide) rfl (fun ls hl => ?_)
          refine lv_goto (tgt := 3) hx hb dX14_serviceAt_56 (by decide) ?_
          rw [show x4 = nI (j9 + 1) by rw [ex4]; exact (nI_succ j9).symm] at hl
          have hx9 : ¬ F 20 (16 * b9 + j9) = xn := fun z => c_27 (by rw [ex3, show (16 : Int32) * nI b9 + nI j9 = nI (16 * b9 + j9) from nI_ma 16 b9 j9, nI_clamp (by omega)]; exact z)
          have hp9 : (fun j => decide (F 20 (16 * b9 + j) = xn) && (decide (xo < 0) || decide (F 22 (16 * b9 + j) = xo))) j9 = false := by show (decide _ && _) = false; rw [decide_eq_false hx9]; rfl
          have hq2 : fndF (fun j => decide (F 20 (16 * b9 + j) = xn) && (decide (xo < 0) || decide (F 22 (16 * b9 + j) = xo))) n (j9 + 1) = RF := by rw [← hq, fndF, if_neg (fun z => Bool.false_ne_true (hp9.symm.trans z))]
          exact ih (j9 + 1) (by omega) hq2 Gv hM hGe _ _ hG hS ls (lv_sub hl [1, 2, 3, 4, 0] rfl)
        · skip
          refine lv_iload_n hx hb dX14_serviceAt_30 rfl (lv_at hl 3 rfl) ?_
          refine lv_if_lt (tgt := 50) hx hb dX14_serviceAt_31 (by decide) (fun c_31 => ?_) (fun c_31 => ?_)
          · skip
            refine lv_iload hx hb dX14_serviceAt_50 (lv_at hl 4 rfl) ?_
            have hx9 : F 20 (16 * b9 + j9) = xn := by have z := c_27; rw [ex3, show (16 : Int32) * nI b9 + nI j9 = nI (16 * b9 + j9) from nI_ma 16 b9 j9, nI_clamp (by omega)] at z; exact z
            have hp9 : (fun j => decide (F 20 (16 * b9 + j) = xn) && (decide (xo < 0) || decide (F 22 (16 * b9 + j) = xo))) j9 = true := by show (decide _ && (decide _ || _)) = true; rw [decide_eq_true hx9, decide_eq_true c_31]; rfl
            have hz : RF = some j9 := by rw [← hq, fndF, if_pos hp9]
            exact W.iret (v := (nI j9)) hx hb hr (fun t ht hW => ⟨⟨_, _, rfl, ⟨(by rw [fnI, hR, hz]), hGe⟩, mk_end hG ht⟩, hS.F ht⟩) hS.2.2 dX14_serviceAt_52
          · skip
            refine lv_aload_n hx hb dX14_serviceAt_34 rfl (lv_at hl 0 rfl) ?_
            refine mm_get (v := .ref (Ar 22)) hx hb hf_X14 (fun _ h9 => h9) hown hK hG hM.1 rfl 22 (by decide) (tb_use hT tw_1413) (fun _ h9 => h9) (mfs_g22 _ _) dX14_serviceAt_35 ?_
            refine lv_bipush (v := 16) hx hb dX14_serviceAt_38 (by decide) ?_
            refine lv_iload_n hx hb dX14_serviceAt_40 rfl (lv_at hl 1 rfl) ?_
            refine lv_imul hx hb dX14_serviceAt_41 ?_
            refine lv_iload hx hb dX14_serviceAt_42 (lv_at hl 4 rfl) ?_
            refine lv_iadd hx hb dX14_serviceAt_44 ?_
            refine mm_iald (n := 32) (f := F 22) hx hb hK hG 1 (hM.2.1 22 rfl) rfl (by rw [show (16 : Int32) * nI b9 + nI j9 = nI (16 * b9 + j9) from nI_ma 16 b9 j9]; exact nI_in (N := 32) (by omega) (by decide)) dX14_serviceAt_45 ?_
            refine lv_topi (fun x5 ex5 => ?_)
            refine lv_iload_n hx hb dX14_serviceAt_46 rfl (lv_at hl 3 rfl) ?_
            refine lv_icmp_ne (tgt := 53) hx hb dX14_serviceAt_47 (by decide) (fun c_47 => ?_) (fun c_47 => ?_)
            · skip
              obtain ⟨x6, ex6⟩ : ∃ y : Int32, y = (nI j9) + 1 := ⟨_, rfl⟩
              refine lv_iinc (v := x6) (lv' := [(4, .int x6), (0, .ref o), (1, .int (nI b9)), (2, .int xn), (3, .int xo)]) hx hb dX14_serviceAt_53 hl (k := 4) rfl (by rw [ex6]; rfl) (by decide) rfl (fun ls hl => ?_)
              refine lv_goto (tgt := 3) hx hb dX14_serviceAt_56 (by decide) ?_
              rw [show x6 = nI (j9 + 1) by rw [ex6]; exact (nI_succ j9).symm] at hl
              have hx9 : F 20 (16 * b9 + j9) = xn := by have z := c_27; rw [ex3, show (16 : Int32) * nI b9 + nI j9 = nI (16 * b9 + j9) from nI_ma 16 b9 j9, nI_clamp (by omega)] at z; exact z
              have hy9 : ¬ F 22 (16 * b9 + j9) = xo := fun z => c_47 (by rw [ex5, show (16 : Int32) * nI b9 + nI j9 = nI (16 * b9 + j9) from nI_ma 16 b9 j9, nI_clamp (by omega)]; exact z)
              have hp9 : (fun j => decide (F 20 (16 * b9 + j) = xn) && (decide (xo < 0) || decide (F 22 (16 * b9 + j) = xo))) j9 = false := by show (decide _ && (decide _ || decide _)) = false; rw [decide_eq_true hx9, decide_eq_false c_31, decide_eq_false hy9]; rfl
              have hq2 : fndF (fun j => decide (F 20 (16 * b9 + j) = xn) && (decide (xo < 0) || decide (F 22 (16 * b9 + j) = xo))) n (j9 + 1) = RF := by rw [← hq, fndF, if_neg (fun z => Bool.false_ne_true (hp9.symm.trans z))]
              exact ih (j9 + 1) (by omega) hq2 Gv hM hGe _ _ hG hS ls (lv_sub hl [1, 2, 3, 4, 0] rfl)
            · skip
              refine lv_iload hx hb dX14_serviceAt_50 (lv_at hl 4 rfl) ?_
              have hx9 : F 20 (16 * b9 + j9) = xn := by have z := c_27; rw [ex3, show (16 : Int32) * nI b9 + nI j9 = nI (16 * b9 + j9) from nI_ma 16 b9 j9, nI_clamp (by omega)] at z; exact z
              have hy9 : F 22 (16 * b9 + j9) = xo := by have z := c_47; rw [ex5, show (16 : Int32) * nI b9 + nI j9 = nI (16 * b9 + j9) from nI_ma 16 b9 j9, nI_clamp (by omega)] at z; exact z
              have hp9 : (fun j => decide (F 20 (16 * b9 + j) = xn) && (decide (xo < 0) || decide (F 22 (16 * b9 + j) = xo))) j9 = true := by show (decide _ && (decide _ || decide _)) = true; rw [decide_eq_true hx9, decide_eq_true hy9, Bool.or_true]; rfl
              have hz : RF = some j9 := by rw [← hq, fndF, if_pos hp9]
              exact W.iret (v := (nI j9)) hx hb hr (fun t ht hW => ⟨⟨_, _, rfl, ⟨(by rw [fnI, hR, hz]), hGe⟩, mk_end hG ht⟩, hS.F ht⟩) hS.2.2 dX14_serviceAt_52
  refine lv_iconst (v := 0) hx hb dX14_serviceAt_0 (by decide) ?_
  refine lv_istore (lv' := [(4, .int 0), (0, .ref o), (1, .int (nI b9)), (2, .int xn), (3, .int xo)]) hx hb dX14_serviceAt_1 hl (by decide) rfl (fun ls hl => ?_)
  exact hloop nC 0 (by omega) hR G hM rfl _ _ hG hS ls (lv_sub hl [1, 2, 3, 4, 0] rfl)

set_option maxHeartbeats 4000000 in
set_option maxRecDepth 100000 in
theorem c_M_paramAt (l : Launch) (D : va_G) (cy : Nat → ClassId) (A : Nat → Prop) (X : State → Prop) (hst : mk_St A X) (hXT : ∀ U : State, X U → TB U) (G : Nat → Option va_E) (o : Nat) (Ar : Nat → Nat) (Iv : Nat → Int32) (F : Nat → Nat → Int32) (L : Nat → Nat → Int64) (b9 s9 nC : Nat) (xn : Int32) (hM : MD cy G o Ar Iv F L) (hb9 : b9 < 2) (hs9 : s9 < 16) (hcn : F 23 (16 * b9 + s9) = nI nC) (hnC : nC ≤ 8) : Met l yX14_paramAt [.code yX14_paramAt cX14_paramAt 5 (some .int)] ({ frames := 0, cells := 0, slots := 0, locals := 0 }) (mk_Pre D vwCl (tyL cy) A X G [.ref o, .int (nI b9), .int (nI s9), .int xn]) (va_Qi (fun (r : Int32) (G2 : Nat → Option va_E) => r = fnI (fun j => decide (F 24 (128 * b9 + 8 * s9 + j) = xn)) nC ∧ G2 = G) (mk_B D vwCl A) A) 0 0 A := by
  refine Met.ofW (cc := cX14_paramAt) (maxL := 5) (ret := (some .int)) (by decide) rfl ?_
  intro p e s m args below meth c s₁ B hml hv
  obtain ⟨rfl, hG, hK, hA, hX⟩ := hv
  have hx := B.exec
  have hb := B.bytes
  have hr := B.returns
  have hlocks := B.notSynchronized
  have hT := hXT s hX
  have hown : s.vm.findClass RX14 = some m.cls := findClass_of_methodNamed B.named
  have hf_X14 : ∀ w ∈ u_ws RX14 TX14 76, w.before ([.ref o, .int (nI b9), .int (nI s9), .int xn] : List Value).toArray s = true := tb_list hT fX14
  have hS : va_S A s.heap s.heap [] := va_S.rf
  have hl := lv_entry ([.ref o, .int (nI b9), .int (nI s9), .int xn]) (n := 5) (Nat.le_of_ble_eq_true rfl)
  rw [lg_entry_eq]
  generalize (lg_sl ([.ref o, .int (nI b9), .int (nI s9), .int xn]) ++ List.replicate (5 - (lg_sl ([.ref o, .int (nI b9), .int (nI s9), .int xn])).length) Slot.unset).toArray = ls at hl ⊢
  have hl : lv_has ls 5 [(0, .ref o), (1, .int (nI b9)), (2, .int (nI s9)), (3, .int xn)] := hl
  obtain ⟨RF, hR⟩ : ∃ y, fndF (fun j => decide (F 24 (128 * b9 + 8 * s9 + j) = xn)) nC 0 = y := ⟨_, rfl⟩
  have hloop : ∀ (n : Nat) (j9 : Nat), (n + j9 = nC) → (fndF (fun j => decide (F 24 (128 * b9 + 8 * s9 + j) = xn)) n j9 = RF) → ∀ (Gv : Nat → Option va_E), (MD cy Gv o Ar Iv F L) → (Gv = G) → ∀ (H : Heap) (locs : List Loc), mm D vwCl A Gv H → va_S A s.heap H locs → ∀ ls : Array Slot, lv_has ls 5 [(0, .ref o), (1, .int (nI b9)), (2, .int (nI s9)), (3, .int xn), (4, .int (nI j9))] → W p l e (headSpec [.code yX14_paramAt cX14_paramAt 5 (some .int)] ({ frames := 0, cells := 0, slots := 0, locals := 0 })).room s m ([.ref o, .int (nI b9), .int (nI s9), .int xn] : List Value).toArray below meth c H locs 0 0 (MQ below (va_Qi (fun (r : Int32) (G2 : Nat → Option va_E) => r = fnI (fun j => decide (F 24 (128 * b9 + 8 * s9 + j) = xn)) nC ∧ G2 = G) (mk_B D vwCl A) A) ([.ref o, .int (nI b9), .int (nI s9), .int xn] : List Value).toArray s 0 0 A) (F0 m 3 ls []) := by
    intro n
    induction n with
    | zero =>
      intro j9 hjn hq Gv hM hGe H locs hG hS ls hl
      refine lv_iload hx hb dX14_paramAt_3 (lv_at hl 4 rfl) ?_
      refine lv_aload_n hx hb dX14_paramAt_5 rfl (lv_at hl 0 rfl) ?_
      refine mm_get (v := .ref (Ar 23)) hx hb hf_X14 (fun _ h9 => h9) hown hK hG hM.1 rfl 23 (by decide) (tb_use hT tw_1414) (fun _ h9 => h9) (mfs_g23 _ _) dX14_paramAt_6 ?_
      refine lv_bipush (v := 16) hx hb dX14_paramAt_9 (by decide) ?_
      refine lv_iload_n hx hb dX14_paramAt_11 rfl (lv_at hl 1 rfl) ?_
      refine lv_imul hx hb dX14_paramAt_12 ?_
      refine lv_iload_n hx hb dX14_paramAt_13 rfl (lv_at hl 2 rfl) ?_
      refine lv_iadd hx hb dX14_paramAt_14 ?_
      refine mm_iald (n := 32) (f := F 23) hx hb hK hG 1 (hM.2.1 23 rfl) rfl (by rw [show (16 : Int32) * nI b9 + nI s9 = nI (16 * b9 + s9) from nI_ma 16 b9 s9]; exact nI_in (N := 32) (by omega) (by decide)) dX14_paramAt_15 ?_
      refine lv_topi (fun x1 ex1 => ?_)
      refine lv_icmp_ge (tgt := 50) hx hb dX14_paramAt_16 (by decide) (fun c_16 => ?_) (fun c_16 => ?_)
      · skip
        refine lv_iconst (v := (-1)) hx hb dX14_paramAt_50 (by decide) ?_
        have hz : RF = none := by rw [← hq]; first | rfl | (rw [show n = 0 by omega]; rfl)
        exact W.iret (v := (-1)) hx hb hr (fun t ht hW => ⟨⟨_, _, rfl, ⟨(by rw [fnI, hR, hz]), hGe⟩, mk_end hG ht⟩, hS.F ht⟩) hS.2.2 dX14_paramAt_51
      · skip
        exact absurd (by rw [ex1, show (16 : Int32) * nI b9 + nI s9 = nI (16 * b9 + s9) from nI_ma 16 b9 s9, nI_clamp (by omega), hcn, show j9 = nC by omega]; exact Int32.le_refl _) c_16
    | succ n ih =>
      intro j9 hjn hq Gv hM hGe H locs hG hS ls hl
      refine lv_iload hx hb dX14_paramAt_3 (lv_at hl 4 rfl) ?_
      refine lv_aload_n hx hb dX14_paramAt_5 rfl (lv_at hl 0 rfl) ?_
      refine mm_get (v := .ref (Ar 23)) hx hb hf_X14 (fun _ h9 => h9) hown hK hG hM.1 rfl 23 (by decide) (tb_use hT tw_1414) (fun _ h9 => h9) (mfs_g23 _ _) dX14_paramAt_6 ?_
      refine lv_bipush (v := 16) hx hb dX14_paramAt_9 (by decide) ?_
      refine lv_iload_n hx hb dX14_paramAt_11 rfl (lv_at hl 1 rfl) ?_
      refine lv_imul hx hb dX14_paramAt_12 ?_
      refine lv_iload_n hx hb dX14_paramAt_13 rfl (lv_at hl 2 rfl) ?_
      refine lv_iadd hx hb dX14_paramAt_14 ?_
      refine mm_iald (n := 32) (f := F 23) hx hb hK hG 1 (hM.2.1 23 rfl) rfl (by rw [show (16 : Int32) * nI b9 + nI s9 = nI (16 * b9 + s9) from nI_ma 16 b9 s9]; exact nI_in (N := 32) (by omega) (by decide)) dX14_paramAt_15 ?_
      refine lv_topi (fun x2 ex2 => ?_)
      refine lv_icmp_ge (tgt := 50) hx hb dX14_paramAt_16 (by decide) (fun c_16 => ?_) (fun c_16 => ?_)
      · skip
        exact absurd (by have z := c_16; rw [ex2, show (16 : Int32) * nI b9 + nI s9 = nI (16 * b9 + s9) from nI_ma 16 b9 s9, nI_clamp (by omega), hcn] at z; exact z) (nI_ge (a := j9) (b := nC) (by omega) (by omega))
      · skip
        refine lv_aload_n hx hb dX14_paramAt_19 rfl (lv_at hl 0 rfl) ?_
        refine mm_get (v := .ref (Ar 24)) hx hb hf_X14 (fun _ h9 => h9) hown hK hG hM.1 rfl 24 (by decide) (tb_use hT tw_1415) (fun _ h9 => h9) (mfs_g24 _ _) dX14_paramAt_20 ?_
        refine lv_sipush (v := 128) hx hb dX14_paramAt_23 (by decide) ?_
        refine lv_iload_n hx hb dX14_paramAt_26 rfl (lv_at hl 1 rfl) ?_
        refine lv_imul hx hb dX14_paramAt_27 ?_
        refine lv_bipush (v := 8) hx hb dX14_paramAt_28 (by decide) ?_
        refine lv_iload_n hx hb dX14_paramAt_30 rfl (lv_at hl 2 rfl) ?_
        refine lv_imul hx hb dX14_paramAt_31 ?_
        refine lv_iadd hx hb dX14_paramAt_32 ?_
        refine lv_iload hx hb dX14_paramAt_33 (lv_at hl 4 rfl) ?_
        refine lv_iadd hx hb dX14_paramAt_35 ?_
        refine mm_iald (n := 256) (f := F 24) hx hb hK hG 1 (hM.2.1 24 rfl) rfl (by rw [show (128 : Int32) * nI b9 + (8 : Int32) * nI s9 + nI j9 = nI (128 * b9 + 8 * s9 + j9) from nI_mb b9 s9 j9]; exact nI_in (N := 256) (by omega) (by decide)) dX14_paramAt_36 ?_
        refine lv_topi (fun x3 ex3 => ?_)
        refine lv_iload_n hx hb dX14_paramAt_37 rfl (lv_at hl 3 rfl) ?_
        refine lv_icmp_ne (tgt := 44) hx hb dX14_paramAt_38 (by decide) (fun c_38 => ?_) (fun c_38 => ?_)
        · skip
          obtain ⟨x4, ex4⟩ : ∃ y : Int32, y = (nI j9) + 1 := ⟨_, rfl⟩
          refine lv_iinc (v := x4) (lv' := [(4, .int x4), (0, .ref o), (1, .int (nI b9)), (2, .int (nI s9)), (3, .int xn)]) hx hb dX14_paramAt_44 hl (k := 4) rfl (by rw [ex4]; rfl) (by decide) rfl (fun ls hl => ?_)
          refine lv_goto (tgt := 3) hx hb dX14_paramAt_47 (by decide) ?_
          rw [show x4 = nI (j9 + 1) by rw [ex4]; exact (nI_succ j9).symm] at hl
          have hx9 : ¬ F 24 (128 * b9 + 8 * s9 + j9) = xn := fun z => c_38 (by rw [ex3, show (128 : Int32) * nI b9 + (8 : Int32) * nI s9 + nI j9 = nI (128 * b9 + 8 * s9 + j9) from nI_mb b9 s9 j9, nI_clamp (by omega)]; exact z)
          have hq2 : fndF (fun j => decide (F 24 (128 * b9 + 8 * s9 + j) = xn)) n (j9 + 1) = RF := by rw [← hq, fndF, if_neg (by rw [decide_eq_false hx9]; exact Bool.false_ne_true)]
          exact ih (j9 + 1) (by omega) hq2 Gv hM hGe _ _ hG hS ls (lv_sub hl [1, 2, 3, 4, 0] rfl)
        · skip
          refine lv_iload hx hb dX14_paramAt_41 (lv_at hl 4 rfl) ?_
          have hx9 : F 24 (128 * b9 + 8 * s9 + j9) = xn := by have z := c_38; rw [ex3, show (128 : Int32) * nI b9 + (8 : Int32) * nI s9 + nI j9 = nI (128 * b9 + 8 * s9 + j9) from nI_mb b9 s9 j9, nI_clamp (by omega)] at z; exact z
          have hz : RF = some j9 := by rw [← hq, fndF, if_pos (decide_eq_true hx9)]
          exact W.iret (v := (nI j9)) hx hb hr (fun t ht hW => ⟨⟨_, _, rfl, ⟨(by rw [fnI, hR, hz]), hGe⟩, mk_end hG ht⟩, hS.F ht⟩) hS.2.2 dX14_paramAt_43
  refine lv_iconst (v := 0) hx hb dX14_paramAt_0 (by decide) ?_
  refine lv_istore (lv' := [(4, .int 0), (0, .ref o), (1, .int (nI b9)), (2, .int (nI s9)), (3, .int xn)]) hx hb dX14_paramAt_1 hl (by decide) rfl (fun ls hl => ?_)
  exact hloop nC 0 (by omega) hR G hM rfl _ _ hG hS ls (lv_sub hl [1, 2, 3, 4, 0] rfl)

/-- no fault, a token of this kind and value -/
def isKV (Iv : Nat → Int32) (k x : Int32) : Bool := decide (¬ Iv 55 = 0) && decide (Iv 52 = k) && decide (Iv 53 = x)
set_option maxHeartbeats 4000000 in
set_option maxRecDepth 100000 in
theorem c_M_isWord (l : Launch) (D : va_G) (cy : Nat → ClassId) (A : Nat → Prop) (X : State → Prop) (hst : mk_St A X) (hXT : ∀ U : State, X U → TB U) (G : Nat → Option va_E) (o : Nat) (Ar : Nat → Nat) (Iv : Nat → Int32) (F : Nat → Nat → Int32) (L : Nat → Nat → Int64) (xa : Int32) (hM : MD cy G o Ar Iv F L) : Met l yX14_isWord [.code yX14_isWord cX14_isWord 2 (some .boolean)] ({ frames := 0, cells := 0, slots := 0, locals := 0 }) (mk_Pre D vwCl (tyL cy) A X G [.ref o, .int xa]) (va_Qi (fun (r : Int32) (G2 : Nat → Option va_E) => r = b2i (isKV Iv 1 xa) ∧ G2 = G) (mk_B D vwCl A) A) 0 0 A := by
  refine Met.ofW (cc := cX14_isWord) (maxL := 2) (ret := (some .boolean)) (by decide) rfl ?_
  intro p e s m args below meth c s₁ B hml hv
  obtain ⟨rfl, hG, hK, hA, hX⟩ := hv
  have hx := B.exec
  have hb := B.bytes
  have hr := B.returns
  have hlocks := B.notSynchronized
  have hT := hXT s hX
  have hown : s.vm.findClass RX14 = some m.cls := findClass_of_methodNamed B.named
  have hf_X14 : ∀ w ∈ u_ws RX14 TX14 76, w.before ([.ref o, .int xa] : List Value).toArray s = true := tb_list hT fX14
  have hS : va_S A s.heap s.heap [] := va_S.rf
  have hl := lv_entry ([.ref o, .int xa]) (n := 2) (Nat.le_of_ble_eq_true rfl)
  rw [lg_entry_eq]
  generalize (lg_sl ([.ref o, .int xa]) ++ List.replicate (2 - (lg_sl ([.ref o, .int xa])).length) Slot.unset).toArray = ls at hl ⊢
  have hl : lv_has ls 2 [(0, .ref o), (1, .int xa)] := hl
  refine lv_aload_n hx hb dX14_isWord_0 rfl (lv_at hl 0 rfl) ?_
  refine mm_get (v := .int (Iv 55)) hx hb hf_X14 (fun _ h9 => h9) hown hK hG hM.1 rfl 55 (by decide) (tb_use hT tw_1446) (fun _ h9 => h9) (mfs_g55 _ _) dX14_isWord_1 ?_
  refine lv_if_eq (tgt := 27) hx hb dX14_isWord_4 (by decide) (fun c_4 => ?_) (fun c_4 => ?_)
  · skip
    refine lv_iconst (v := 0) hx hb dX14_isWord_27 (by decide) ?_
    exact W.zret (v := 0) hx hb hr rfl (fun t ht hW => ⟨⟨_, _, rfl, ⟨(by rw [show isKV Iv 1 xa = false by unfold isKV; rw [decide_eq_false (fun z => z c_4)]; rfl]; rfl), rfl⟩, mk_end hG ht⟩, hS.F ht⟩) hS.2.2 dX14_isWord_28
  · skip
    refine lv_aload_n hx hb dX14_isWord_7 rfl (lv_at hl 0 rfl) ?_
    refine mm_get (v := .int (Iv 52)) hx hb hf_X14 (fun _ h9 => h9) hown hK hG hM.1 rfl 52 (by decide) (tb_use hT tw_1443) (fun _ h9 => h9) (mfs_g52 _ _) dX14_isWord_8 ?_
    refine lv_iconst (v := 1) hx hb dX14_isWord_11 (by decide) ?_
    refine lv_icmp_ne (tgt := 27) hx hb dX14_isWord_12 (by decide) (fun c_12 => ?_) (fun c_12 => ?_)
    · skip
      refine lv_iconst (v := 0) hx hb dX14_isWord_27 (by decide) ?_
      exact W.zret (v := 0) hx hb hr rfl (fun t ht hW => ⟨⟨_, _, rfl, ⟨(by rw [show isKV Iv 1 xa = false by unfold isKV; rw [decide_eq_false c_12, Bool.and_false]; rfl]; rfl), rfl⟩, mk_end hG ht⟩, hS.F ht⟩) hS.2.2 dX14_isWord_28
    · skip
      refine lv_aload_n hx hb dX14_isWord_15 rfl (lv_at hl 0 rfl) ?_
      refine mm_get (v := .int (Iv 53)) hx hb hf_X14 (fun _ h9 => h9) hown hK hG hM.1 rfl 53 (by decide) (tb_use hT tw_1444) (fun _ h9 => h9) (mfs_g53 _ _) dX14_isWord_16 ?_
      refine lv_iload_n hx hb dX14_isWord_19 rfl (lv_at hl 1 rfl) ?_
      refine lv_icmp_ne (tgt := 27) hx hb dX14_isWord_20 (by decide) (fun c_20 => ?_) (fun c_20 => ?_)
      · skip
        refine lv_iconst (v := 0) hx hb dX14_isWord_27 (by decide) ?_
        exact W.zret (v := 0) hx hb hr rfl (fun t ht hW => ⟨⟨_, _, rfl, ⟨(by rw [show isKV Iv 1 xa = false by unfold isKV; rw [decide_eq_false c_20, Bool.and_false]]; rfl), rfl⟩, mk_end hG ht⟩, hS.F ht⟩) hS.2.2 dX14_isWord_28
      · skip
        refine lv_iconst (v := 1) hx hb dX14_isWord_23 (by decide) ?_
        refine lv_goto (tgt := 28) hx hb dX14_isWord_24 (by decide) ?_
        exact W.zret (v := 1) hx hb hr rfl (fun t ht hW => ⟨⟨_, _, rfl, ⟨(by rw [show isKV Iv 1 xa = true by unfold isKV; rw [decide_eq_true c_4, decide_eq_true c_12, decide_eq_true c_20]; rfl]; rfl), rfl⟩, mk_end hG ht⟩, hS.F ht⟩) hS.2.2 dX14_isWord_28

set_option maxHeartbeats 4000000 in
set_option maxRecDepth 100000 in
theorem c_M_isSign (l : Launch) (D : va_G) (cy : Nat → ClassId) (A : Nat → Prop) (X : State → Prop) (hst : mk_St A X) (hXT : ∀ U : State, X U → TB U) (G : Nat → Option va_E) (o : Nat) (Ar : Nat → Nat) (Iv : Nat → Int32) (F : Nat → Nat → Int32) (L : Nat → Nat → Int64) (xa : Int32) (hM : MD cy G o Ar Iv F L) : Met l yX14_isSign [.code yX14_isSign cX14_isSign 2 (some .boolean)] ({ frames := 0, cells := 0, slots := 0, locals := 0 }) (mk_Pre D vwCl (tyL cy) A X G [.ref o, .int xa]) (va_Qi (fun (r : Int32) (G2 : Nat → Option va_E) => r = b2i (isKV Iv 4 xa) ∧ G2 = G) (mk_B D vwCl A) A) 0 0 A := by
  refine Met.ofW (cc := cX14_isSign) (maxL := 2) (ret := (some .boolean)) (by decide) rfl ?_
  intro p e s m args below meth c s₁ B hml hv
  obtain ⟨rfl, hG, hK, hA, hX⟩ := hv
  have hx := B.exec
  have hb := B.bytes
  have hr := B.returns
  have hlocks := B.notSynchronized
  have hT := hXT s hX
  have hown : s.vm.findClass RX14 = some m.cls := findClass_of_methodNamed B.named
  have hf_X14 : ∀ w ∈ u_ws RX14 TX14 76, w.before ([.ref o, .int xa] : List Value).toArray s = true := tb_list hT fX14
  have hS : va_S A s.heap s.heap [] := va_S.rf
  have hl := lv_entry ([.ref o, .int xa]) (n := 2) (Nat.le_of_ble_eq_true rfl)
  rw [lg_entry_eq]
  generalize (lg_sl ([.ref o, .int xa]) ++ List.replicate (2 - (lg_sl ([.ref o, .int xa])).length) Slot.unset).toArray = ls at hl ⊢
  have hl : lv_has ls 2 [(0, .ref o), (1, .int xa)] := hl
  refine lv_aload_n hx hb dX14_isSign_0 rfl (lv_at hl 0 rfl) ?_
  refine mm_get (v := .int (Iv 55)) hx hb hf_X14 (fun _ h9 => h9) hown hK hG hM.1 rfl 55 (by decide) (tb_use hT tw_1446) (fun _ h9 => h9) (mfs_g55 _ _) dX14_isSign_1 ?_
  refine lv_if_eq (tgt := 27) hx hb dX14_isSign_4 (by decide) (fun c_4 => ?_) (fun c_4 => ?_)
  · skip
    refine lv_iconst (v := 0) hx hb dX14_isSign_27 (by decide) ?_
    exact W.zret (v := 0) hx hb hr rfl (fun t ht hW => ⟨⟨_, _, rfl, ⟨(by rw [show isKV Iv 4 xa = false by unfold isKV; rw [decide_eq_false (fun z => z c_4)]; rfl]; rfl), rfl⟩, mk_end hG ht⟩, hS.F ht⟩) hS.2.2 dX14_isSign_28
  · skip
    refine lv_aload_n hx hb dX14_isSign_7 rfl (lv_at hl 0 rfl) ?_
    refine mm_get (v := .int (Iv 52)) hx hb hf_X14 (fun _ h9 => h9) hown hK hG hM.1 rfl 52 (by decide) (tb_use hT tw_1443) (fun _ h9 => h9) (mfs_g52 _ _) dX14_isSign_8 ?_
    refine lv_iconst (v := 4) hx hb dX14_isSign_11 (by decide) ?_
    refine lv_icmp_ne (tgt := 27) hx hb dX14_isSign_12 (by decide) (fun c_12 => ?_) (fun c_12 => ?_)
    · skip
      refine lv_iconst (v := 0) hx hb dX14_isSign_27 (by decide) ?_
      exact W.zret (v := 0) hx hb hr rfl (fun t ht hW => ⟨⟨_, _, rfl, ⟨(by rw [show isKV Iv 4 xa = false by unfold isKV; rw [decide_eq_false c_12, Bool.and_false]; rfl]; rfl), rfl⟩, mk_end hG ht⟩, hS.F ht⟩) hS.2.2 dX14_isSign_28
    · skip
      refine lv_aload_n hx hb dX14_isSign_15 rfl (lv_at hl 0 rfl) ?_
      refine mm_get (v := .int (Iv 53)) hx hb hf_X14 (fun _ h9 => h9) hown hK hG hM.1 rfl 53 (by decide) (tb_use hT tw_1444) (fun _ h9 => h9) (mfs_g53 _ _) dX14_isSign_16 ?_
      refine lv_iload_n hx hb dX14_isSign_19 rfl (lv_at hl 1 rfl) ?_
      refine lv_icmp_ne (tgt := 27) hx hb dX14_isSign_20 (by decide) (fun c_20 => ?_) (fun c_20 => ?_)
      · skip
        refine lv_iconst (v := 0) hx hb dX14_isSign_27 (by decide) ?_
        exact W.zret (v := 0) hx hb hr rfl (fun t ht hW => ⟨⟨_, _, rfl, ⟨(by rw [show isKV Iv 4 xa = false by unfold isKV; rw [decide_eq_false c_20, Bool.and_false]]; rfl), rfl⟩, mk_end hG ht⟩, hS.F ht⟩) hS.2.2 dX14_isSign_28
      · skip
        refine lv_iconst (v := 1) hx hb dX14_isSign_23 (by decide) ?_
        refine lv_goto (tgt := 28) hx hb dX14_isSign_24 (by decide) ?_
        exact W.zret (v := 1) hx hb hr rfl (fun t ht hW => ⟨⟨_, _, rfl, ⟨(by rw [show isKV Iv 4 xa = true by unfold isKV; rw [decide_eq_true c_4, decide_eq_true c_12, decide_eq_true c_20]; rfl]; rfl), rfl⟩, mk_end hG ht⟩, hS.F ht⟩) hS.2.2 dX14_isSign_28
