def abM (F : Nat → Nat → Int32) (b c : Nat) (x : Int64) : Int64 := if F 11 (12 * b + c) = 2 then x * (F 12 (12 * b + c)).toInt64 + (F 14 (12 * b + c)).toInt64 * (F 13 (12 * b + c)).toInt64 else x
def blM (F : Nat → Nat → Int32) (b c : Nat) : Int32 := if F 11 (12 * b + c) = 2 then F 13 (12 * b + c) else 1
/-- something is in hand and the numbers are a service's and a parameter's of it -/
def isPv (Iv : Nat → Int32) (nS : Nat) (nP : Nat → Nat) (x y : Int32) : Bool := isSv Iv nS x && (match oIx x nS with | none => false | some s => (oIx y (nP s)).isSome)

set_option maxHeartbeats 4000000 in
set_option maxRecDepth 100000 in
theorem c_M_above (l : Launch) (D : va_G) (cy : Nat → ClassId) (A : Nat → Prop) (X : State → Prop) (hst : mk_St A X) (hXT : ∀ U : State, X U → TB U) (G : Nat → Option va_E) (o : Nat) (Ar : Nat → Nat) (Iv : Nat → Int32) (F : Nat → Nat → Int32) (L : Nat → Nat → Int64) (b9 c9 : Nat) (xr : Int64) (hM : MD cy G o Ar Iv F L) (hb9 : b9 < 2) (hbk : Iv 42 = nI b9) (hc9 : c9 < 12) : Met l yX14_above [.code yX14_above cX14_above 4 (some .long)] ({ frames := 0, cells := 0, slots := 0, locals := 0 }) (mk_Pre D vwCl (tyL cy) A X G [.ref o, .int (nI c9), .long xr]) (va_Ql (fun (r : Int64) (G2 : Nat → Option va_E) => r = abM F b9 c9 xr ∧ G2 = G) (mk_B D vwCl A) A) 0 0 A := by
  refine Met.ofW (cc := cX14_above) (maxL := 4) (ret := (some .long)) (by decide) rfl ?_
  intro p e s m args below meth c s₁ B hml hv
  obtain ⟨rfl, hG, hK, hA, hX⟩ := hv
  have hx := B.exec
  have hb := B.bytes
  have hr := B.returns
  have hlocks := B.notSynchronized
  have hT := hXT s hX
  have hown : s.vm.findClass RX14 = some m.cls := findClass_of_methodNamed B.named
  have hf_X14 : ∀ w ∈ u_ws RX14 TX14 76, w.before ([.ref o, .int (nI c9), .long xr] : List Value).toArray s = true := tb_list hT fX14
  have hS : va_S A s.heap s.heap [] := va_S.rf
  have hl := lv_entry ([.ref o, .int (nI c9), .long xr]) (n := 4) (Nat.le_of_ble_eq_true rfl)
  rw [lg_entry_eq]
  generalize (lg_sl ([.ref o, .int (nI c9), .long xr]) ++ List.replicate (4 - (lg_sl ([.ref o, .int (nI c9), .long xr])).length) Slot.unset).toArray = ls at hl ⊢
  have hl : lv_has ls 4 [(0, .ref o), (1, .int (nI c9)), (2, .long xr)] := hl
  refine lv_aload_n hx hb dX14_above_0 rfl (lv_at hl 0 rfl) ?_
  refine mm_get (v := .ref (Ar 11)) hx hb hf_X14 (fun _ h9 => h9) hown hK hG hM.1 rfl 11 (by decide) (tb_use hT tw_1402) (fun _ h9 => h9) (mfs_g11 _ _) dX14_above_1 ?_
  refine lv_bipush (v := 12) hx hb dX14_above_4 (by decide) ?_
  refine lv_aload_n hx hb dX14_above_6 rfl (lv_at hl 0 rfl) ?_
  refine mm_get (v := .int (Iv 42)) hx hb hf_X14 (fun _ h9 => h9) hown hK hG hM.1 rfl 42 (by decide) (tb_use hT tw_1433) (fun _ h9 => h9) (mfs_g42 _ _) dX14_above_7 ?_
  refine lv_imul hx hb dX14_above_10 ?_
  refine lv_iload_n hx hb dX14_above_11 rfl (lv_at hl 1 rfl) ?_
  refine lv_iadd hx hb dX14_above_12 ?_
  refine mm_iald (n := 24) (f := F 11) hx hb hK hG 1 (hM.2.1 11 rfl) rfl (by rw [show (12 : Int32) * Iv 42 + nI c9 = nI (12 * b9 + c9) by rw [hbk]; exact nI_ma 12 b9 c9]; exact nI_in (N := 24) (by omega) (by decide)) dX14_above_13 ?_
  refine lv_topi (fun x1 ex1 => ?_)
  refine lv_iconst (v := 2) hx hb dX14_above_14 (by decide) ?_
  refine lv_icmp_ne (tgt := 70) hx hb dX14_above_15 (by decide) (fun c_15 => ?_) (fun c_15 => ?_)
  · skip
    refine lv_lload_n hx hb dX14_above_70 rfl (lv_at hl 2 rfl) ?_
    have hix : ((12 : Int32) * Iv 42 + nI c9).toNatClampNeg = 12 * b9 + c9 := by rw [show (12 : Int32) * Iv 42 + nI c9 = nI (12 * b9 + c9) by rw [hbk]; exact nI_ma 12 b9 c9]; exact nI_clamp (by omega)
    have h11 : x1 = F 11 (12 * b9 + c9) := by rw [ex1, hix]
    rw [h11] at c_15
    exact W.lret (v := xr) hx hb hr (fun t ht hW => ⟨⟨_, _, rfl, ⟨(by rw [abM, if_neg c_15]), rfl⟩, mk_end hG ht⟩, hS.F ht⟩) hS.2.2 dX14_above_71
  · skip
    refine lv_lload_n hx hb dX14_above_18 rfl (lv_at hl 2 rfl) ?_
    refine lv_aload_n hx hb dX14_above_19 rfl (lv_at hl 0 rfl) ?_
    refine mm_get (v := .ref (Ar 12)) hx hb hf_X14 (fun _ h9 => h9) hown hK hG hM.1 rfl 12 (by decide) (tb_use hT tw_1403) (fun _ h9 => h9) (mfs_g12 _ _) dX14_above_20 ?_
    refine lv_bipush (v := 12) hx hb dX14_above_23 (by decide) ?_
    refine lv_aload_n hx hb dX14_above_25 rfl (lv_at hl 0 rfl) ?_
    refine mm_get (v := .int (Iv 42)) hx hb hf_X14 (fun _ h9 => h9) hown hK hG hM.1 rfl 42 (by decide) (tb_use hT tw_1433) (fun _ h9 => h9) (mfs_g42 _ _) dX14_above_26 ?_
    refine lv_imul hx hb dX14_above_29 ?_
    refine lv_iload_n hx hb dX14_above_30 rfl (lv_at hl 1 rfl) ?_
    refine lv_iadd hx hb dX14_above_31 ?_
    refine mm_iald (n := 24) (f := F 12) hx hb hK hG 1 (hM.2.1 12 rfl) rfl (by rw [show (12 : Int32) * Iv 42 + nI c9 = nI (12 * b9 + c9) by rw [hbk]; exact nI_ma 12 b9 c9]; exact nI_in (N := 24) (by omega) (by decide)) dX14_above_32 ?_
    refine lv_topi (fun x2 ex2 => ?_)
    obtain ⟨x3, ex3⟩ : ∃ y, y = (x2 : Int32).toInt64 := ⟨_, rfl⟩
    refine lv_i2l (v := x3) hx hb dX14_above_33 ex3.symm ?_
    refine lv_lmul hx hb dX14_above_34 ?_
    refine lv_aload_n hx hb dX14_above_35 rfl (lv_at hl 0 rfl) ?_
    refine mm_get (v := .ref (Ar 14)) hx hb hf_X14 (fun _ h9 => h9) hown hK hG hM.1 rfl 14 (by decide) (tb_use hT tw_1405) (fun _ h9 => h9) (mfs_g14 _ _) dX14_above_36 ?_
    refine lv_bipush (v := 12) hx hb dX14_above_39 (by decide) ?_
    refine lv_aload_n hx hb dX14_above_41 rfl (lv_at hl 0 rfl) ?_
    refine mm_get (v := .int (Iv 42)) hx hb hf_X14 (fun _ h9 => h9) hown hK hG hM.1 rfl 42 (by decide) (tb_use hT tw_1433) (fun _ h9 => h9) (mfs_g42 _ _) dX14_above_42 ?_
    refine lv_imul hx hb dX14_above_45 ?_
    refine lv_iload_n hx hb dX14_above_46 rfl (lv_at hl 1 rfl) ?_
    refine lv_iadd hx hb dX14_above_47 ?_
    refine mm_iald (n := 24) (f := F 14) hx hb hK hG 1 (hM.2.1 14 rfl) rfl (by rw [show (12 : Int32) * Iv 42 + nI c9 = nI (12 * b9 + c9) by rw [hbk]; exact nI_ma 12 b9 c9]; exact nI_in (N := 24) (by omega) (by decide)) dX14_above_48 ?_
    refine lv_topi (fun x4 ex4 => ?_)
    obtain ⟨x5, ex5⟩ : ∃ y, y = (x4 : Int32).toInt64 := ⟨_, rfl⟩
    refine lv_i2l (v := x5) hx hb dX14_above_49 ex5.symm ?_
    refine lv_aload_n hx hb dX14_above_50 rfl (lv_at hl 0 rfl) ?_
    refine mm_get (v := .ref (Ar 13)) hx hb hf_X14 (fun _ h9 => h9) hown hK hG hM.1 rfl 13 (by decide) (tb_use hT tw_1404) (fun _ h9 => h9) (mfs_g13 _ _) dX14_above_51 ?_
    refine lv_bipush (v := 12) hx hb dX14_above_54 (by decide) ?_
    refine lv_aload_n hx hb dX14_above_56 rfl (lv_at hl 0 rfl) ?_
    refine mm_get (v := .int (Iv 42)) hx hb hf_X14 (fun _ h9 => h9) hown hK hG hM.1 rfl 42 (by decide) (tb_use hT tw_1433) (fun _ h9 => h9) (mfs_g42 _ _) dX14_above_57 ?_
    refine lv_imul hx hb dX14_above_60 ?_
    refine lv_iload_n hx hb dX14_above_61 rfl (lv_at hl 1 rfl) ?_
    refine lv_iadd hx hb dX14_above_62 ?_
    refine mm_iald (n := 24) (f := F 13) hx hb hK hG 1 (hM.2.1 13 rfl) rfl (by rw [show (12 : Int32) * Iv 42 + nI c9 = nI (12 * b9 + c9) by rw [hbk]; exact nI_ma 12 b9 c9]; exact nI_in (N := 24) (by omega) (by decide)) dX14_above_63 ?_
    refine lv_topi (fun x6 ex6 => ?_)
    obtain ⟨x7, ex7⟩ : ∃ y, y = (x6 : Int32).toInt64 := ⟨_, rfl⟩
    refine lv_i2l (v := x7) hx hb dX14_above_64 ex7.symm ?_
    refine lv_lmul hx hb dX14_above_65 ?_
    refine lv_ladd hx hb dX14_above_66 ?_
    refine lv_goto (tgt := 71) hx hb dX14_above_67 (by decide) ?_
    have hix : ((12 : Int32) * Iv 42 + nI c9).toNatClampNeg = 12 * b9 + c9 := by rw [show (12 : Int32) * Iv 42 + nI c9 = nI (12 * b9 + c9) by rw [hbk]; exact nI_ma 12 b9 c9]; exact nI_clamp (by omega)
    have h11 : x1 = F 11 (12 * b9 + c9) := by rw [ex1, hix]
    rw [h11] at c_15
    exact W.lret (v := ((xr * x3) + (x5 * x7))) hx hb hr (fun t ht hW => ⟨⟨_, _, rfl, ⟨(by rw [abM, if_pos c_15]; simp only [ex2, ex3, ex4, ex5, ex6, ex7, hix]), rfl⟩, mk_end hG ht⟩, hS.F ht⟩) hS.2.2 dX14_above_71

set_option maxHeartbeats 4000000 in
set_option maxRecDepth 100000 in
theorem c_M_below (l : Launch) (D : va_G) (cy : Nat → ClassId) (A : Nat → Prop) (X : State → Prop) (hst : mk_St A X) (hXT : ∀ U : State, X U → TB U) (G : Nat → Option va_E) (o : Nat) (Ar : Nat → Nat) (Iv : Nat → Int32) (F : Nat → Nat → Int32) (L : Nat → Nat → Int64) (b9 c9 : Nat) (hM : MD cy G o Ar Iv F L) (hb9 : b9 < 2) (hbk : Iv 42 = nI b9) (hc9 : c9 < 12) : Met l yX14_below [.code yX14_below cX14_below 2 (some .int)] ({ frames := 0, cells := 0, slots := 0, locals := 0 }) (mk_Pre D vwCl (tyL cy) A X G [.ref o, .int (nI c9)]) (va_Qi (fun (r : Int32) (G2 : Nat → Option va_E) => r = blM F b9 c9 ∧ G2 = G) (mk_B D vwCl A) A) 0 0 A := by
  refine Met.ofW (cc := cX14_below) (maxL := 2) (ret := (some .int)) (by decide) rfl ?_
  intro p e s m args below meth c s₁ B hml hv
  obtain ⟨rfl, hG, hK, hA, hX⟩ := hv
  have hx := B.exec
  have hb := B.bytes
  have hr := B.returns
  have hlocks := B.notSynchronized
  have hT := hXT s hX
  have hown : s.vm.findClass RX14 = some m.cls := findClass_of_methodNamed B.named
  have hf_X14 : ∀ w ∈ u_ws RX14 TX14 76, w.before ([.ref o, .int (nI c9)] : List Value).toArray s = true := tb_list hT fX14
  have hS : va_S A s.heap s.heap [] := va_S.rf
  have hl := lv_entry ([.ref o, .int (nI c9)]) (n := 2) (Nat.le_of_ble_eq_true rfl)
  rw [lg_entry_eq]
  generalize (lg_sl ([.ref o, .int (nI c9)]) ++ List.replicate (2 - (lg_sl ([.ref o, .int (nI c9)])).length) Slot.unset).toArray = ls at hl ⊢
  have hl : lv_has ls 2 [(0, .ref o), (1, .int (nI c9))] := hl
  refine lv_aload_n hx hb dX14_below_0 rfl (lv_at hl 0 rfl) ?_
  refine mm_get (v := .ref (Ar 11)) hx hb hf_X14 (fun _ h9 => h9) hown hK hG hM.1 rfl 11 (by decide) (tb_use hT tw_1402) (fun _ h9 => h9) (mfs_g11 _ _) dX14_below_1 ?_
  refine lv_bipush (v := 12) hx hb dX14_below_4 (by decide) ?_
  refine lv_aload_n hx hb dX14_below_6 rfl (lv_at hl 0 rfl) ?_
  refine mm_get (v := .int (Iv 42)) hx hb hf_X14 (fun _ h9 => h9) hown hK hG hM.1 rfl 42 (by decide) (tb_use hT tw_1433) (fun _ h9 => h9) (mfs_g42 _ _) dX14_below_7 ?_
  refine lv_imul hx hb dX14_below_10 ?_
  refine lv_iload_n hx hb dX14_below_11 rfl (lv_at hl 1 rfl) ?_
  refine lv_iadd hx hb dX14_below_12 ?_
  refine mm_iald (n := 24) (f := F 11) hx hb hK hG 1 (hM.2.1 11 rfl) rfl (by rw [show (12 : Int32) * Iv 42 + nI c9 = nI (12 * b9 + c9) by rw [hbk]; exact nI_ma 12 b9 c9]; exact nI_in (N := 24) (by omega) (by decide)) dX14_below_13 ?_
  refine lv_topi (fun x1 ex1 => ?_)
  refine lv_iconst (v := 2) hx hb dX14_below_14 (by decide) ?_
  refine lv_icmp_ne (tgt := 35) hx hb dX14_below_15 (by decide) (fun c_15 => ?_) (fun c_15 => ?_)
  · skip
    refine lv_iconst (v := 1) hx hb dX14_below_35 (by decide) ?_
    have hix : ((12 : Int32) * Iv 42 + nI c9).toNatClampNeg = 12 * b9 + c9 := by rw [show (12 : Int32) * Iv 42 + nI c9 = nI (12 * b9 + c9) by rw [hbk]; exact nI_ma 12 b9 c9]; exact nI_clamp (by omega)
    have h11 : x1 = F 11 (12 * b9 + c9) := by rw [ex1, hix]
    rw [h11] at c_15
    exact W.iret (v := 1) hx hb hr (fun t ht hW => ⟨⟨_, _, rfl, ⟨(by rw [blM, if_neg c_15]), rfl⟩, mk_end hG ht⟩, hS.F ht⟩) hS.2.2 dX14_below_36
  · skip
    refine lv_aload_n hx hb dX14_below_18 rfl (lv_at hl 0 rfl) ?_
    refine mm_get (v := .ref (Ar 13)) hx hb hf_X14 (fun _ h9 => h9) hown hK hG hM.1 rfl 13 (by decide) (tb_use hT tw_1404) (fun _ h9 => h9) (mfs_g13 _ _) dX14_below_19 ?_
    refine lv_bipush (v := 12) hx hb dX14_below_22 (by decide) ?_
    refine lv_aload_n hx hb dX14_below_24 rfl (lv_at hl 0 rfl) ?_
    refine mm_get (v := .int (Iv 42)) hx hb hf_X14 (fun _ h9 => h9) hown hK hG hM.1 rfl 42 (by decide) (tb_use hT tw_1433) (fun _ h9 => h9) (mfs_g42 _ _) dX14_below_25 ?_
    refine lv_imul hx hb dX14_below_28 ?_
    refine lv_iload_n hx hb dX14_below_29 rfl (lv_at hl 1 rfl) ?_
    refine lv_iadd hx hb dX14_below_30 ?_
    refine mm_iald (n := 24) (f := F 13) hx hb hK hG 1 (hM.2.1 13 rfl) rfl (by rw [show (12 : Int32) * Iv 42 + nI c9 = nI (12 * b9 + c9) by rw [hbk]; exact nI_ma 12 b9 c9]; exact nI_in (N := 24) (by omega) (by decide)) dX14_below_31 ?_
    refine lv_topi (fun x2 ex2 => ?_)
    refine lv_goto (tgt := 36) hx hb dX14_below_32 (by decide) ?_
    have hix : ((12 : Int32) * Iv 42 + nI c9).toNatClampNeg = 12 * b9 + c9 := by rw [show (12 : Int32) * Iv 42 + nI c9 = nI (12 * b9 + c9) by rw [hbk]; exact nI_ma 12 b9 c9]; exact nI_clamp (by omega)
    have h11 : x1 = F 11 (12 * b9 + c9) := by rw [ex1, hix]
    rw [h11] at c_15
    exact W.iret (v := x2) hx hb hr (fun t ht hW => ⟨⟨_, _, rfl, ⟨(by rw [blM, if_pos c_15]; simp only [ex2, hix]), rfl⟩, mk_end hG ht⟩, hS.F ht⟩) hS.2.2 dX14_below_36
