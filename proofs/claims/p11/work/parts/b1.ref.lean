def rgM (Iv : Nat → Int32) (F : Nat → Nat → Int32) (i : Int32) : Int32 := if ¬ i < 0 ∧ i < Iv 63 then F 64 i.toNatClampNeg else 0
def ouT (Iv : Nat → Int32) (i : Int32) : Int32 := if ¬ i < 0 ∧ i < Iv 68 then 0 else 1
def ouM (Iv : Nat → Int32) (F : Nat → Nat → Int32) (i : Int32) : Int32 := if ¬ i < 0 ∧ i < Iv 68 then (F 67 i.toNatClampNeg).toInt8.toInt32 else 0

set_option maxHeartbeats 4000000 in
set_option maxRecDepth 100000 in
theorem c_M_ring (l : Launch) (D : va_G) (cy : Nat → ClassId) (A : Nat → Prop) (X : State → Prop) (hst : mk_St A X) (hXT : ∀ U : State, X U → TB U) (G : Nat → Option va_E) (o : Nat) (Ar : Nat → Nat) (Iv : Nat → Int32) (F : Nat → Nat → Int32) (L : Nat → Nat → Int64) (xa : Int32) (hM : MD cy G o Ar Iv F L) (h63 : Iv 63 ≤ nI 6) : Met l yX14_ring [.code yX14_ring cX14_ring 2 (some .int)] ({ frames := 0, cells := 0, slots := 0, locals := 0 }) (mk_Pre D vwCl (tyL cy) A X G [.ref o, .int xa]) (va_Qi (fun (r : Int32) (G2 : Nat → Option va_E) => r = rgM Iv F xa ∧ MD cy G2 o Ar (upd Iv 38 0) F L ∧ MF G G2 o Ar) (mk_B D vwCl A) A) 0 0 A := by
  refine Met.ofW (cc := cX14_ring) (maxL := 2) (ret := (some .int)) (by decide) rfl ?_
  intro p e s m args below meth c s₁ B hml hv
  obtain ⟨rfl, hG, hK, hA, hX⟩ := hv
  have hx := B.exec
  have hb := B.bytes
  have hr := B.returns
  have hlocks := B.notSynchronized
  have hT := hXT s hX
  have hown : s.vm.findClass RX14 = some m.cls := findClass_of_methodNamed B.named
  have hf_X14 : ∀ w ∈ u_ws RX14 TX14 76, w.before ([.ref o, .int xa] : List Value).toArray s = true := tb_list hT fX14
  have hS : va_S A s.heap s.heap [] := va_S.rf
  have hl := lv_entry ([.ref o, .int xa]) (n := 2) (Nat.le_of_ble_eq_true rfl)
  rw [lg_entry_eq]
  generalize (lg_sl ([.ref o, .int xa]) ++ List.replicate (2 - (lg_sl ([.ref o, .int xa])).length) Slot.unset).toArray = ls at hl ⊢
  have hl : lv_has ls 2 [(0, .ref o), (1, .int xa)] := hl
  have hF : MF G G o Ar := MF.rf
  refine lv_aload_n hx hb dX14_ring_0 rfl (lv_at hl 0 rfl) ?_
  refine lv_iconst (v := 0) hx hb dX14_ring_1 (by decide) ?_
  refine mm_put (v := .int 0) (ty := .int) hx hb hf_X14 (fun _ h9 => h9) tyX14 tyX14_ok nmX14 hown hK hG hS hM.1 rfl 38 (by decide) (tb_use hT tw_1429) (fun _ h9 => h9) rfl (by decide +kernel) rfl rfl (mfs_l38 _ _) dX14_ring_2 (fun H locs hG hS => ?_)
  have hM := MD.puti (k := 38) (v := 0) hM (mfs_s38 _ _ _)
  have hF := hF.wo (e' := .inr (15, (mfs Ar Iv).set 38 (.int 0)))
  obtain ⟨I1, eI1⟩ : ∃ g, g = upd Iv 38 0 := ⟨_, rfl⟩
  rw [← eI1] at hM
  have hgn := gn_MD hG hM hF
  clear hG hM hF
  obtain ⟨G2, hG, hM, hF⟩ := hgn
  refine lv_iload_n hx hb dX14_ring_5 rfl (lv_at hl 1 rfl) ?_
  refine lv_if_lt (tgt := 26) hx hb dX14_ring_6 (by decide) (fun c_6 => ?_) (fun c_6 => ?_)
  · skip
    refine lv_iconst (v := 0) hx hb dX14_ring_26 (by decide) ?_
    exact W.iret (v := 0) hx hb hr (fun t ht hW => ⟨⟨_, _, rfl, ⟨(by rw [rgM, if_neg (fun z => z.1 c_6)]), (by have z := hM; rw [eI1] at z; exact z), hF⟩, mk_end hG ht⟩, hS.F ht⟩) hS.2.2 dX14_ring_27
  · skip
    refine lv_iload_n hx hb dX14_ring_9 rfl (lv_at hl 1 rfl) ?_
    refine lv_aload_n hx hb dX14_ring_10 rfl (lv_at hl 0 rfl) ?_
    refine mm_get (v := .int (Iv 63)) hx hb hf_X14 (fun _ h9 => h9) hown hK hG hM.1 rfl 63 (by decide) (tb_use hT tw_1454) (fun _ h9 => h9) (by rw [mfs_g63, eI1] <;> rfl) dX14_ring_11 ?_
    refine lv_icmp_ge (tgt := 26) hx hb dX14_ring_14 (by decide) (fun c_14 => ?_) (fun c_14 => ?_)
    · skip
      refine lv_iconst (v := 0) hx hb dX14_ring_26 (by decide) ?_
      exact W.iret (v := 0) hx hb hr (fun t ht hW => ⟨⟨_, _, rfl, ⟨(by rw [rgM, if_neg (fun z => absurd z.2 (Int32.not_lt.mpr c_14))]), (by have z := hM; rw [eI1] at z; exact z), hF⟩, mk_end hG ht⟩, hS.F ht⟩) hS.2.2 dX14_ring_27
    · skip
      refine lv_aload_n hx hb dX14_ring_17 rfl (lv_at hl 0 rfl) ?_
      refine mm_get (v := .ref (Ar 64)) hx hb hf_X14 (fun _ h9 => h9) hown hK hG hM.1 rfl 64 (by decide) (tb_use hT tw_1455) (fun _ h9 => h9) (mfs_g64 _ _) dX14_ring_18 ?_
      refine lv_iload_n hx hb dX14_ring_21 rfl (lv_at hl 1 rfl) ?_
      refine mm_iald (n := 6) (f := F 64) hx hb hK hG 1 (hM.2.1 64 rfl) rfl (in_of c_6 (Int32.not_le.mp c_14) h63 (by decide)) dX14_ring_22 ?_
      refine lv_topi (fun x3 ex3 => ?_)
      refine lv_goto (tgt := 27) hx hb dX14_ring_23 (by decide) ?_
      exact W.iret (v := x3) hx hb hr (fun t ht hW => ⟨⟨_, _, rfl, ⟨(by rw [rgM, if_pos ⟨c_6, Int32.not_le.mp c_14⟩, ex3]), (by have z := hM; rw [eI1] at z; exact z), hF⟩, mk_end hG ht⟩, hS.F ht⟩) hS.2.2 dX14_ring_27

set_option maxHeartbeats 4000000 in
set_option maxRecDepth 100000 in
theorem c_M_out (l : Launch) (D : va_G) (cy : Nat → ClassId) (A : Nat → Prop) (X : State → Prop) (hst : mk_St A X) (hXT : ∀ U : State, X U → TB U) (G : Nat → Option va_E) (o : Nat) (Ar : Nat → Nat) (Iv : Nat → Int32) (F : Nat → Nat → Int32) (L : Nat → Nat → Int64) (xa : Int32) (hM : MD cy G o Ar Iv F L) (h68 : Iv 68 ≤ nI 64) : Met l yX14_out [.code yX14_out cX14_out 2 (some .byte)] ({ frames := 0, cells := 0, slots := 0, locals := 0 }) (mk_Pre D vwCl (tyL cy) A X G [.ref o, .int xa]) (va_Qi (fun (r : Int32) (G2 : Nat → Option va_E) => r = ouM Iv F xa ∧ MD cy G2 o Ar (upd Iv 38 (ouT Iv xa)) F L ∧ MF G G2 o Ar) (mk_B D vwCl A) A) 0 0 A := by
  refine Met.ofW (cc := cX14_out) (maxL := 2) (ret := (some .byte)) (by decide) rfl ?_
  intro p e s m args below meth c s₁ B hml hv
  obtain ⟨rfl, hG, hK, hA, hX⟩ := hv
  have hx := B.exec
  have hb := B.bytes
  have hr := B.returns
  have hlocks := B.notSynchronized
  have hT := hXT s hX
  have hown : s.vm.findClass RX14 = some m.cls := findClass_of_methodNamed B.named
  have hf_X14 : ∀ w ∈ u_ws RX14 TX14 76, w.before ([.ref o, .int xa] : List Value).toArray s = true := tb_list hT fX14
  have hS : va_S A s.heap s.heap [] := va_S.rf
  have hl := lv_entry ([.ref o, .int xa]) (n := 2) (Nat.le_of_ble_eq_true rfl)
  rw [lg_entry_eq]
  generalize (lg_sl ([.ref o, .int xa]) ++ List.replicate (2 - (lg_sl ([.ref o, .int xa])).length) Slot.unset).toArray = ls at hl ⊢
  have hl : lv_has ls 2 [(0, .ref o), (1, .int xa)] := hl
  have hF : MF G G o Ar := MF.rf
  refine lv_aload_n hx hb dX14_out_0 rfl (lv_at hl 0 rfl) ?_
  refine lv_iload_n hx hb dX14_out_1 rfl (lv_at hl 1 rfl) ?_
  refine lv_if_lt (tgt := 13) hx hb dX14_out_2 (by decide) (fun c_2 => ?_) (fun c_2 => ?_)
  · skip
    refine lv_iconst (v := 1) hx hb dX14_out_13 (by decide) ?_
    refine lv_goto (tgt := 18) hx hb dX14_out_14 (by decide) ?_
    refine mm_put (v := .int 1) (ty := .int) hx hb hf_X14 (fun _ h9 => h9) tyX14 tyX14_ok nmX14 hown hK hG hS hM.1 rfl 38 (by decide) (tb_use hT tw_1429) (fun _ h9 => h9) rfl (by decide +kernel) rfl rfl (mfs_l38 _ _) dX14_out_18 (fun H locs hG hS => ?_)
    have hM := MD.puti (k := 38) (v := 1) hM (mfs_s38 _ _ _)
    have hF := hF.wo (e' := .inr (15, (mfs Ar Iv).set 38 (.int 1)))
    obtain ⟨I1, eI1⟩ : ∃ g, g = upd Iv 38 1 := ⟨_, rfl⟩
    rw [← eI1] at hM
    have hgn := gn_MD hG hM hF
    clear hG hM hF
    obtain ⟨G2, hG, hM, hF⟩ := hgn
    refine lv_aload_n hx hb dX14_out_21 rfl (lv_at hl 0 rfl) ?_
    refine mm_get (v := .int 1) hx hb hf_X14 (fun _ h9 => h9) hown hK hG hM.1 rfl 38 (by decide) (tb_use hT tw_1429) (fun _ h9 => h9) (by rw [mfs_g38, eI1] <;> rfl) dX14_out_22 ?_
    refine lv_if_le (tgt := 32) hx hb dX14_out_25 (by decide) (fun c_25 => ?_) (fun c_25 => ?_)
    · skip
      exact absurd c_25 (by decide)
    · skip
      refine lv_iconst (v := 0) hx hb dX14_out_28 (by decide) ?_
      refine lv_goto (tgt := 39) hx hb dX14_out_29 (by decide) ?_
      have hno : ¬ (¬ xa < 0 ∧ xa < Iv 68) := fun z => z.1 c_2
      exact W.zret (v := 0) hx hb hr rfl (fun t ht hW => ⟨⟨_, _, rfl, ⟨(by rw [ouM, if_neg hno]), (by have z := hM; rw [eI1] at z; rw [ouT, if_neg hno]; exact z), hF⟩, mk_end hG ht⟩, hS.F ht⟩) hS.2.2 dX14_out_39
  · skip
    refine lv_iload_n hx hb dX14_out_5 rfl (lv_at hl 1 rfl) ?_
    refine lv_aload_n hx hb dX14_out_6 rfl (lv_at hl 0 rfl) ?_
    refine mm_get (v := .int (Iv 68)) hx hb hf_X14 (fun _ h9 => h9) hown hK hG hM.1 rfl 68 (by decide) (tb_use hT tw_1459) (fun _ h9 => h9) (mfs_g68 _ _) dX14_out_7 ?_
    refine lv_icmp_lt (tgt := 17) hx hb dX14_out_10 (by decide) (fun c_10 => ?_) (fun c_10 => ?_)
    · skip
      refine lv_iconst (v := 0) hx hb dX14_out_17 (by decide) ?_
      refine mm_put (v := .int 0) (ty := .int) hx hb hf_X14 (fun _ h9 => h9) tyX14 tyX14_ok nmX14 hown hK hG hS hM.1 rfl 38 (by decide) (tb_use hT tw_1429) (fun _ h9 => h9) rfl (by decide +kernel) rfl rfl (mfs_l38 _ _) dX14_out_18 (fun H locs hG hS => ?_)
      have hM := MD.puti (k := 38) (v := 0) hM (mfs_s38 _ _ _)
      have hF := hF.wo (e' := .inr (15, (mfs Ar Iv).set 38 (.int 0)))
      obtain ⟨I3, eI3⟩ : ∃ g, g = upd Iv 38 0 := ⟨_, rfl⟩
      rw [← eI3] at hM
      have hgn := gn_MD hG hM hF
      clear hG hM hF
      obtain ⟨G4, hG, hM, hF⟩ := hgn
      refine lv_aload_n hx hb dX14_out_21 rfl (lv_at hl 0 rfl) ?_
      refine mm_get (v := .int 0) hx hb hf_X14 (fun _ h9 => h9) hown hK hG hM.1 rfl 38 (by decide) (tb_use hT tw_1429) (fun _ h9 => h9) (by rw [mfs_g38, eI3] <;> rfl) dX14_out_22 ?_
      refine lv_if_le (tgt := 32) hx hb dX14_out_25 (by decide) (fun c_25 => ?_) (fun c_25 => ?_)
      · skip
        refine lv_aload_n hx hb dX14_out_32 rfl (lv_at hl 0 rfl) ?_
        refine mm_get (v := .ref (Ar 67)) hx hb hf_X14 (fun _ h9 => h9) hown hK hG hM.1 rfl 67 (by decide) (tb_use hT tw_1458) (fun _ h9 => h9) (mfs_g67 _ _) dX14_out_33 ?_
        refine lv_iload_n hx hb dX14_out_36 rfl (lv_at hl 1 rfl) ?_
        refine mm_iald (n := 64) (f := F 67) hx hb hK hG 1 (hM.2.1 67 rfl) rfl (in_of c_2 c_10 h68 (by decide)) dX14_out_37 ?_
        refine lv_topi (fun x5 ex5 => ?_)
        obtain ⟨x6, ex6⟩ : ∃ y, y = (x5 : Int32).toInt8.toInt32 := ⟨_, rfl⟩
        refine lv_i2b (v := x6) hx hb dX14_out_38 ex6.symm ?_
        have hyes : ¬ xa < 0 ∧ xa < Iv 68 := ⟨c_2, c_10⟩
        exact W.zret (v := x6) hx hb hr (by rw [ex6]; exact nar_b _) (fun t ht hW => ⟨⟨_, _, rfl, ⟨(by rw [ouM, if_pos hyes, ex6, ex5]), (by have z := hM; rw [eI3] at z; rw [ouT, if_pos hyes]; exact z), hF⟩, mk_end hG ht⟩, hS.F ht⟩) hS.2.2 dX14_out_39
      · skip
        exact absurd (by decide) c_25
    · skip
      refine lv_iconst (v := 1) hx hb dX14_out_13 (by decide) ?_
      refine lv_goto (tgt := 18) hx hb dX14_out_14 (by decide) ?_
      refine mm_put (v := .int 1) (ty := .int) hx hb hf_X14 (fun _ h9 => h9) tyX14 tyX14_ok nmX14 hown hK hG hS hM.1 rfl 38 (by decide) (tb_use hT tw_1429) (fun _ h9 => h9) rfl (by decide +kernel) rfl rfl (mfs_l38 _ _) dX14_out_18 (fun H locs hG hS => ?_)
      have hM := MD.puti (k := 38) (v := 1) hM (mfs_s38 _ _ _)
      have hF := hF.wo (e' := .inr (15, (mfs Ar Iv).set 38 (.int 1)))
      obtain ⟨I7, eI7⟩ : ∃ g, g = upd Iv 38 1 := ⟨_, rfl⟩
      rw [← eI7] at hM
      have hgn := gn_MD hG hM hF
      clear hG hM hF
      obtain ⟨G8, hG, hM, hF⟩ := hgn
      refine lv_aload_n hx hb dX14_out_21 rfl (lv_at hl 0 rfl) ?_
      refine mm_get (v := .int 1) hx hb hf_X14 (fun _ h9 => h9) hown hK hG hM.1 rfl 38 (by decide) (tb_use hT tw_1429) (fun _ h9 => h9) (by rw [mfs_g38, eI7] <;> rfl) dX14_out_22 ?_
      refine lv_if_le (tgt := 32) hx hb dX14_out_25 (by decide) (fun c_25 => ?_) (fun c_25 => ?_)
      · skip
        exact absurd c_25 (by decide)
      · skip
        refine lv_iconst (v := 0) hx hb dX14_out_28 (by decide) ?_
        refine lv_goto (tgt := 39) hx hb dX14_out_29 (by decide) ?_
        have hno : ¬ (¬ xa < 0 ∧ xa < Iv 68) := fun z => c_10 z.2
        exact W.zret (v := 0) hx hb hr rfl (fun t ht hW => ⟨⟨_, _, rfl, ⟨(by rw [ouM, if_neg hno]), (by have z := hM; rw [eI7] at z; rw [ouT, if_neg hno]; exact z), hF⟩, mk_end hG ht⟩, hS.F ht⟩) hS.2.2 dX14_out_39
