def fnI (p : Nat → Bool) (n : Nat) : Int32 := match fndF p n 0 with
  | none => -1
  | some k => nI k
theorem nI_ma (k b j : Nat) : nI k * nI b + nI j = nI (k * b + j) := by
  rw [← nI_add]
  congr 1
  exact (Int32.ofNat_mul k b).symm

set_option maxHeartbeats 4000000 in
set_option maxRecDepth 100000 in
theorem c_M_codingAt (l : Launch) (D : va_G) (cy : Nat → ClassId) (A : Nat → Prop) (X : State → Prop) (hst : mk_St A X) (hXT : ∀ U : State, X U → TB U) (G : Nat → Option va_E) (o : Nat) (Ar : Nat → Nat) (Iv : Nat → Int32) (F : Nat → Nat → Int32) (L : Nat → Nat → Int64) (b9 nC : Nat) (xn : Int32) (hM : MD cy G o Ar Iv F L) (hb9 : b9 < 2) (hcn : F 1 b9 = nI nC) (hnC : nC ≤ 12) : Met l yX14_codingAt [.code yX14_codingAt cX14_codingAt 4 (some .int)] ({ frames := 0, cells := 0, slots := 0, locals := 0 }) (mk_Pre D vwCl (tyL cy) A X G [.ref o, .int (nI b9), .int xn]) (va_Qi (fun (r : Int32) (G2 : Nat → Option va_E) => r = fnI (fun j => decide (F 9 (12 * b9 + j) = xn)) nC ∧ G2 = G) (mk_B D vwCl A) A) 0 0 A := by
  refine Met.ofW (cc := cX14_codingAt) (maxL := 4) (ret := (some .int)) (by decide) rfl ?_
  intro p e s m args below meth c s₁ B hml hv
  obtain ⟨rfl, hG, hK, hA, hX⟩ := hv
  have hx := B.exec
  have hb := B.bytes
  have hr := B.returns
  have hlocks := B.notSynchronized
  have hT := hXT s hX
  have hown : s.vm.findClass RX14 = some m.cls := findClass_of_methodNamed B.named
  have hf_X14 : ∀ w ∈ u_ws RX14 TX14 76, w.before ([.ref o, .int (nI b9), .int xn] : List Value).toArray s = true := tb_list hT fX14
  have hS : va_S A s.heap s.heap [] := va_S.rf
  have hl := lv_entry ([.ref o, .int (nI b9), .int xn]) (n := 4) (Nat.le_of_ble_eq_true rfl)
  rw [lg_entry_eq]
  generalize (lg_sl ([.ref o, .int (nI b9), .int xn]) ++ List.replicate (4 - (lg_sl ([.ref o, .int (nI b9), .int xn])).length) Slot.unset).toArray = ls at hl ⊢
  have hl : lv_has ls 4 [(0, .ref o), (1, .int (nI b9)), (2, .int xn)] := hl
  obtain ⟨RF, hR⟩ : ∃ y, fndF (fun j => decide (F 9 (12 * b9 + j) = xn)) nC 0 = y := ⟨_, rfl⟩
  have hloop : ∀ (n : Nat) (j9 : Nat), (n + j9 = nC) → (fndF (fun j => decide (F 9 (12 * b9 + j) = xn)) n j9 = RF) → ∀ (Gv : Nat → Option va_E), (MD cy Gv o Ar Iv F L) → (Gv = G) → ∀ (H : Heap) (locs : List Loc), mm D vwCl A Gv H → va_S A s.heap H locs → ∀ ls : Array Slot, lv_has ls 4 [(0, .ref o), (1, .int (nI b9)), (2, .int xn), (3, .int (nI j9))] → W p l e (headSpec [.code yX14_codingAt cX14_codingAt 4 (some .int)] ({ frames := 0, cells := 0, slots := 0, locals := 0 })).room s m ([.ref o, .int (nI b9), .int xn] : List Value).toArray below meth c H locs 0 0 (MQ below (va_Qi (fun (r : Int32) (G2 : Nat → Option va_E) => r = fnI (fun j => decide (F 9 (12 * b9 + j) = xn)) nC ∧ G2 = G) (mk_B D vwCl A) A) ([.ref o, .int (nI b9), .int xn] : List Value).toArray s 0 0 A) (F0 m 2 ls []) := by
    intro n
    induction n with
    | zero =>
      intro j9 hjn hq Gv hM hGe H locs hG hS ls hl
      refine lv_iload_n hx hb dX14_codingAt_2 rfl (lv_at hl 3 rfl) ?_
      refine lv_aload_n hx hb dX14_codingAt_3 rfl (lv_at hl 0 rfl) ?_
      refine mm_get (v := .ref (Ar 1)) hx hb hf_X14 (fun _ h9 => h9) hown hK hG hM.1 rfl 1 (by decide) (tb_use hT tw_1392) (fun _ h9 => h9) (mfs_g1 _ _) dX14_codingAt_4 ?_
      refine lv_iload_n hx hb dX14_codingAt_7 rfl (lv_at hl 1 rfl) ?_
      refine mm_iald (n := 2) (f := F 1) hx hb hK hG 1 (hM.2.1 1 rfl) rfl (nI_in (N := 2) hb9 (by decide)) dX14_codingAt_8 ?_
      refine lv_topi (fun x1 ex1 => ?_)
      refine lv_icmp_ge (tgt := 35) hx hb dX14_codingAt_9 (by decide) (fun c_9 => ?_) (fun c_9 => ?_)
      · skip
        refine lv_iconst (v := (-1)) hx hb dX14_codingAt_35 (by decide) ?_
        have hz : RF = none := by rw [← hq]; first | rfl | (rw [show n = 0 by omega]; rfl)
        exact W.iret (v := (-1)) hx hb hr (fun t ht hW => ⟨⟨_, _, rfl, ⟨(by rw [fnI, hR, hz]), hGe⟩, mk_end hG ht⟩, hS.F ht⟩) hS.2.2 dX14_codingAt_36
      · skip
        exact absurd (by rw [ex1, nI_clamp (by omega), hcn, show j9 = nC by omega]; exact Int32.le_refl _) c_9
    | succ n ih =>
      intro j9 hjn hq Gv hM hGe H locs hG hS ls hl
      refine lv_iload_n hx hb dX14_codingAt_2 rfl (lv_at hl 3 rfl) ?_
      refine lv_aload_n hx hb dX14_codingAt_3 rfl (lv_at hl 0 rfl) ?_
      refine mm_get (v := .ref (Ar 1)) hx hb hf_X14 (fun _ h9 => h9) hown hK hG hM.1 rfl 1 (by decide) (tb_use hT tw_1392) (fun _ h9 => h9) (mfs_g1 _ _) dX14_codingAt_4 ?_
      refine lv_iload_n hx hb dX14_codingAt_7 rfl (lv_at hl 1 rfl) ?_
      refine mm_iald (n := 2) (f := F 1) hx hb hK hG 1 (hM.2.1 1 rfl) rfl (nI_in (N := 2) hb9 (by decide)) dX14_codingAt_8 ?_
      refine lv_topi (fun x2 ex2 => ?_)
      refine lv_icmp_ge (tgt := 35) hx hb dX14_codingAt_9 (by decide) (fun c_9 => ?_) (fun c_9 => ?_)
      · skip
        exact absurd (by have z := c_9; rw [ex2, nI_clamp (by omega), hcn] at z; exact z) (nI_ge (a := j9) (b := nC) (by omega) (by omega))
      · skip
        refine lv_aload_n hx hb dX14_codingAt_12 rfl (lv_at hl 0 rfl) ?_
        refine mm_get (v := .ref (Ar 9)) hx hb hf_X14 (fun _ h9 => h9) hown hK hG hM.1 rfl 9 (by decide) (tb_use hT tw_1400) (fun _ h9 => h9) (mfs_g9 _ _) dX14_codingAt_13 ?_
        refine lv_bipush (v := 12) hx hb dX14_codingAt_16 (by decide) ?_
        refine lv_iload_n hx hb dX14_codingAt_18 rfl (lv_at hl 1 rfl) ?_
        refine lv_imul hx hb dX14_codingAt_19 ?_
        refine lv_iload_n hx hb dX14_codingAt_20 rfl (lv_at hl 3 rfl) ?_
        refine lv_iadd hx hb dX14_codingAt_21 ?_
        refine mm_iald (n := 24) (f := F 9) hx hb hK hG 1 (hM.2.1 9 rfl) rfl (by rw [show (12 : Int32) * nI b9 + nI j9 = nI (12 * b9 + j9) from nI_ma 12 b9 j9]; exact nI_in (N := 24) (by omega) (by decide)) dX14_codingAt_22 ?_
        refine lv_topi (fun x3 ex3 => ?_)
        refine lv_iload_n hx hb dX14_codingAt_23 rfl (lv_at hl 2 rfl) ?_
        refine lv_icmp_ne (tgt := 29) hx hb dX14_codingAt_24 (by decide) (fun c_24 => ?_) (fun c_24 => ?_)
        · skip
          obtain ⟨x4, ex4⟩ : ∃ y : Int32, y = (nI j9) + 1 := ⟨_, rfl⟩
          refine lv_iinc (v := x4) (lv' := [(3, .int x4), (0, .ref o), (1, .int (nI b9)), (2, .int xn)]) hx hb dX14_codingAt_29 hl (k := 3) rfl (by rw [ex4]; rfl) (by decide) rfl (fun ls hl => ?_)
          refine lv_goto (tgt := 2) hx hb dX14_codingAt_32 (by decide) ?_
          rw [show x4 = nI (j9 + 1) by rw [ex4]; exact (nI_succ j9).symm] at hl
          have hx9 : ¬ F 9 (12 * b9 + j9) = xn := fun z => c_24 (by rw [ex3, show (12 : Int32) * nI b9 + nI j9 = nI (12 * b9 + j9) from nI_ma 12 b9 j9, nI_clamp (by omega)]; exact z)
          have hq2 : fndF (fun j => decide (F 9 (12 * b9 + j) = xn)) n (j9 + 1) = RF := by rw [← hq, fndF, if_neg (by rw [decide_eq_false hx9]; exact Bool.false_ne_true)]
          exact ih (j9 + 1) (by omega) hq2 Gv hM hGe _ _ hG hS ls (lv_sub hl [1, 2, 3, 0] rfl)
        · skip
          refine lv_iload_n hx hb dX14_codingAt_27 rfl (lv_at hl 3 rfl) ?_
          have hx9 : F 9 (12 * b9 + j9) = xn := by have z := c_24; rw [ex3, show (12 : Int32) * nI b9 + nI j9 = nI (12 * b9 + j9) from nI_ma 12 b9 j9, nI_clamp (by omega)] at z; exact z
          have hz : RF = some j9 := by rw [← hq, fndF, if_pos (decide_eq_true hx9)]
          exact W.iret (v := (nI j9)) hx hb hr (fun t ht hW => ⟨⟨_, _, rfl, ⟨(by rw [fnI, hR, hz]), hGe⟩, mk_end hG ht⟩, hS.F ht⟩) hS.2.2 dX14_codingAt_28
  refine lv_iconst (v := 0) hx hb dX14_codingAt_0 (by decide) ?_
  refine lv_istore_n (lv' := [(3, .int 0), (0, .ref o), (1, .int (nI b9)), (2, .int xn)]) hx hb dX14_codingAt_1 rfl hl (by decide) rfl (fun ls hl => ?_)
  exact hloop nC 0 (by omega) hR G hM rfl _ _ hG hS ls (lv_sub hl [1, 2, 3, 0] rfl)

set_option maxHeartbeats 4000000 in
set_option maxRecDepth 100000 in
theorem c_M_layerAt (l : Launch) (D : va_G) (cy : Nat → ClassId) (A : Nat → Prop) (X : State → Prop) (hst : mk_St A X) (hXT : ∀ U : State, X U → TB U) (G : Nat → Option va_E) (o : Nat) (Ar : Nat → Nat) (Iv : Nat → Int32) (F : Nat → Nat → Int32) (L : Nat → Nat → Int64) (b9 nC : Nat) (xn : Int32) (hM : MD cy G o Ar Iv F L) (hb9 : b9 < 2) (hcn : F 2 b9 = nI nC) (hnC : nC ≤ 6) : Met l yX14_layerAt [.code yX14_layerAt cX14_layerAt 4 (some .int)] ({ frames := 0, cells := 0, slots := 0, locals := 0 }) (mk_Pre D vwCl (tyL cy) A X G [.ref o, .int (nI b9), .int xn]) (va_Qi (fun (r : Int32) (G2 : Nat → Option va_E) => r = fnI (fun j => decide (F 18 (6 * b9 + j) = xn)) nC ∧ G2 = G) (mk_B D vwCl A) A) 0 0 A := by
  refine Met.ofW (cc := cX14_layerAt) (maxL := 4) (ret := (some .int)) (by decide) rfl ?_
  intro p e s m args below meth c s₁ B hml hv
  obtain ⟨rfl, hG, hK, hA, hX⟩ := hv
  have hx := B.exec
  have hb := B.bytes
  have hr := B.returns
  have hlocks := B.notSynchronized
  have hT := hXT s hX
  have hown : s.vm.findClass RX14 = some m.cls := findClass_of_methodNamed B.named
  have hf_X14 : ∀ w ∈ u_ws RX14 TX14 76, w.before ([.ref o, .int (nI b9), .int xn] : List Value).toArray s = true := tb_list hT fX14
  have hS : va_S A s.heap s.heap [] := va_S.rf
  have hl := lv_entry ([.ref o, .int (nI b9), .int xn]) (n := 4) (Nat.le_of_ble_eq_true rfl)
  rw [lg_entry_eq]
  generalize (lg_sl ([.ref o, .int (nI b9), .int xn]) ++ List.replicate (4 - (lg_sl ([.ref o, .int (nI b9), .int xn])).length) Slot.unset).toArray = ls at hl ⊢
  have hl : lv_has ls 4 [(0, .ref o), (1, .int (nI b9)), (2, .int xn)] := hl
  obtain ⟨RF, hR⟩ : ∃ y, fndF (fun j => decide (F 18 (6 * b9 + j) = xn)) nC 0 = y := ⟨_, rfl⟩
  have hloop : ∀ (n : Nat) (j9 : Nat), (n + j9 = nC) → (fndF (fun j => decide (F 18 (6 * b9 + j) = xn)) n j9 = RF) → ∀ (Gv : Nat → Option va_E), (MD cy Gv o Ar Iv F L) → (Gv = G) → ∀ (H : Heap) (locs : List Loc), mm D vwCl A Gv H → va_S A s.heap H locs → ∀ ls : Array Slot, lv_has ls 4 [(0, .ref o), (1, .int (nI b9)), (2, .int xn), (3, .int (nI j9))] → W p l e (headSpec [.code yX14_layerAt cX14_layerAt 4 (some .int)] ({ frames := 0, cells := 0, slots := 0, locals := 0 })).room s m ([.ref o, .int (nI b9), .int xn] : List Value).toArray below meth c H locs 0 0 (MQ below (va_Qi (fun (r : Int32) (G2 : Nat → Option va_E) => r = fnI (fun j => decide (F 18 (6 * b9 + j) = xn)) nC ∧ G2 = G) (mk_B D vwCl A) A) ([.ref o, .int (nI b9), .int xn] : List Value).toArray s 0 0 A) (F0 m 2 ls []) := by
    intro n
    induction n with
    | zero =>
      intro j9 hjn hq Gv hM hGe H locs hG hS ls hl
      refine lv_iload_n hx hb dX14_layerAt_2 rfl (lv_at hl 3 rfl) ?_
      refine lv_aload_n hx hb dX14_layerAt_3 rfl (lv_at hl 0 rfl) ?_
      refine mm_get (v := .ref (Ar 2)) hx hb hf_X14 (fun _ h9 => h9) hown hK hG hM.1 rfl 2 (by decide) (tb_use hT tw_1393) (fun _ h9 => h9) (mfs_g2 _ _) dX14_layerAt_4 ?_
      refine lv_iload_n hx hb dX14_layerAt_7 rfl (lv_at hl 1 rfl) ?_
      refine mm_iald (n := 2) (f := F 2) hx hb hK hG 1 (hM.2.1 2 rfl) rfl (nI_in (N := 2) hb9 (by decide)) dX14_layerAt_8 ?_
      refine lv_topi (fun x1 ex1 => ?_)
      refine lv_icmp_ge (tgt := 35) hx hb dX14_layerAt_9 (by decide) (fun c_9 => ?_) (fun c_9 => ?_)
      · skip
        refine lv_iconst (v := (-1)) hx hb dX14_layerAt_35 (by decide) ?_
        have hz : RF = none := by rw [← hq]; first | rfl | (rw [show n = 0 by omega]; rfl)
        exact W.iret (v := (-1)) hx hb hr (fun t ht hW => ⟨⟨_, _, rfl, ⟨(by rw [fnI, hR, hz]), hGe⟩, mk_end hG ht⟩, hS.F ht⟩) hS.2.2 dX14_layerAt_36
      · skip
        exact absurd (by rw [ex1, nI_clamp (by omega), hcn, show j9 = nC by omega]; exact Int32.le_refl _) c_9
    | succ n ih =>
      intro j9 hjn hq Gv hM hGe H locs hG hS ls hl
      refine lv_iload_n hx hb dX14_layerAt_2 rfl (lv_at hl 3 rfl) ?_
      refine lv_aload_n hx hb dX14_layerAt_3 rfl (lv_at hl 0 rfl) ?_
      refine mm_get (v := .ref (Ar 2)) hx hb hf_X14 (fun _ h9 => h9) hown hK hG hM.1 rfl 2 (by decide) (tb_use hT tw_1393) (fun _ h9 => h9) (mfs_g2 _ _) dX14_layerAt_4 ?_
      refine lv_iload_n hx hb dX14_layerAt_7 rfl (lv_at hl 1 rfl) ?_
      refine mm_iald (n := 2) (f := F 2) hx hb hK hG 1 (hM.2.1 2 rfl) rfl (nI_in (N := 2) hb9 (by decide)) dX14_layerAt_8 ?_
      refine lv_topi (fun x2 ex2 => ?_)
      refine lv_icmp_ge (tgt := 35) hx hb dX14_layerAt_9 (by decide) (fun c_9 => ?_) (fun c_9 => ?_)
      · skip
        exact absurd (by have z := c_9; rw [ex2, nI_clamp (by omega), hcn] at z; exact z) (nI_ge (a := j9) (b := nC) (by omega) (by omega))
      · skip
        refine lv_aload_n hx hb dX14_layerAt_12 rfl (lv_at hl 0 rfl) ?_
        refine mm_get (v := .ref (Ar 18)) hx hb hf_X14 (fun _ h9 => h9) hown hK hG hM.1 rfl 18 (by decide) (tb_use hT tw_1409) (fun _ h9 => h9) (mfs_g18 _ _) dX14_layerAt_13 ?_
        refine lv_bipush (v := 6) hx hb dX14_layerAt_16 (by decide) ?_
        refine lv_iload_n hx hb dX14_layerAt_18 rfl (lv_at hl 1 rfl) ?_
        refine lv_imul hx hb dX14_layerAt_19 ?_
        refine lv_iload_n hx hb dX14_layerAt_20 rfl (lv_at hl 3 rfl) ?_
        refine lv_iadd hx hb dX14_layerAt_21 ?_
        refine mm_iald (n := 12) (f := F 18) hx hb hK hG 1 (hM.2.1 18 rfl) rfl (by rw [show (6 : Int32) * nI b9 + nI j9 = nI (6 * b9 + j9) from nI_ma 6 b9 j9]; exact nI_in (N := 12) (by omega) (by decide)) dX14_layerAt_22 ?_
        refine lv_topi (fun x3 ex3 => ?_)
        refine lv_iload_n hx hb dX14_layerAt_23 rfl (lv_at hl 2 rfl) ?_
        refine lv_icmp_ne (tgt := 29) hx hb dX14_layerAt_24 (by decide) (fun c_24 => ?_) (fun c_24 => ?_)
        · skip
          obtain ⟨x4, ex4⟩ : ∃ y : Int32, y = (nI j9) + 1 := ⟨_, rfl⟩
          refine lv_iinc (v := x4) (lv' := [(3, .int x4), (0, .ref o), (1, .int (nI b9)), (2, .int xn)]) hx hb dX14_layerAt_29 hl (k := 3) rfl (by rw [ex4]; rfl) (by decide) rfl (fun ls hl => ?_)
          refine lv_goto (tgt := 2) hx hb dX14_layerAt_32 (by decide) ?_
          rw [show x4 = nI (j9 + 1) by rw [ex4]; exact (nI_succ j9).symm] at hl
          have hx9 : ¬ F 18 (6 * b9 + j9) = xn := fun z => c_24 (by rw [ex3, show (6 : Int32) * nI b9 + nI j9 = nI (6 * b9 + j9) from nI_ma 6 b9 j9, nI_clamp (by omega)]; exact z)
          have hq2 : fndF (fun j => decide (F 18 (6 * b9 + j) = xn)) n (j9 + 1) = RF := by rw [← hq, fndF, if_neg (by rw [decide_eq_false hx9]; exact Bool.false_ne_true)]
          exact ih (j9 + 1) (by omega) hq2 Gv hM hGe _ _ hG hS ls (lv_sub hl [1, 2, 3, 0] rfl)
        · skip
          refine lv_iload_n hx hb dX14_layerAt_27 rfl (lv_at hl 3 rfl) ?_
          have hx9 : F 18 (6 * b9 + j9) = xn := by have z := c_24; rw [ex3, show (6 : Int32) * nI b9 + nI j9 = nI (6 * b9 + j9) from nI_ma 6 b9 j9, nI_clamp (by omega)] at z; exact z
          have hz : RF = some j9 := by rw [← hq, fndF, if_pos (decide_eq_true hx9)]
          exact W.iret (v := (nI j9)) hx hb hr (fun t ht hW => ⟨⟨_, _, rfl, ⟨(by rw [fnI, hR, hz]), hGe⟩, mk_end hG ht⟩, hS.F ht⟩) hS.2.2 dX14_layerAt_28
  refine lv_iconst (v := 0) hx hb dX14_layerAt_0 (by decide) ?_
  refine lv_istore_n (lv' := [(3, .int 0), (0, .ref o), (1, .int (nI b9)), (2, .int xn)]) hx hb dX14_layerAt_1 rfl hl (by decide) rfl (fun ls hl => ?_)
  exact hloop nC 0 (by omega) hR G hM rfl _ _ hG hS ls (lv_sub hl [1, 2, 3, 0] rfl)
