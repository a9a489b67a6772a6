set_option maxHeartbeats 4000000 in
set_option maxRecDepth 100000 in
theorem c_X14_octet (l : Launch) (D : va_G) (cy : Nat → ClassId) (A : Nat → Prop) (X : State → Prop) (hst : mk_St A X) (hXT : ∀ U : State, X U → TB U) (G : Nat → Option va_E) (o : Nat) (Ar : Nat → Nat) (Iv : Nat → Int32) (F : Nat → Nat → Int32) (L : Nat → Nat → Int64) (bv : Int32) (hM : MD cy G o Ar Iv F L) (h0 : ¬ Iv 66 < 0) (h64 : Iv 66 ≤ 64) : Met l yX14_octet [.code yX14_octet cX14_octet 2 none] ({ frames := 0, cells := 0, slots := 0, locals := 0 }) (mk_Pre D vwCl (tyL cy) A X G [.ref o, .int bv]) (va_Qv (fun (G2 : Nat → Option va_E) => MD cy G2 o Ar (upd (upd (upd Iv 38 0) 66 (oc_n (Iv 66))) 66 (oc_n (Iv 66) + 1)) (va_up F 65 (upd (F 65) (oc_n (Iv 66)).toNatClampNeg (bv &&& 255))) L ∧ MF G G2 o Ar) (mk_B D vwCl A) A) 0 0 A := by
  refine Met.ofW (cc := cX14_octet) (maxL := 2) (ret := none) (by decide) rfl ?_
  intro p e s m args below meth c s₁ B hml hv
  obtain ⟨rfl, hG, hK, hA, hX⟩ := hv
  have hx := B.exec
  have hb := B.bytes
  have hr := B.returns
  have hlocks := B.notSynchronized
  have hT := hXT s hX
  have hown : s.vm.findClass RX14 = some m.cls := findClass_of_methodNamed B.named
  have hf_X14 : ∀ w ∈ u_ws RX14 TX14 76, w.before ([.ref o, .int bv] : List Value).toArray s = true := tb_list hT fX14
  have hS : va_S A s.heap s.heap [] := va_S.rf
  have hl := lv_entry ([.ref o, .int bv]) (n := 2) (Nat.le_of_ble_eq_true rfl)
  rw [lg_entry_eq]
  generalize (lg_sl ([.ref o, .int bv]) ++ List.replicate (2 - (lg_sl ([.ref o, .int bv])).length) Slot.unset).toArray = ls at hl ⊢
  have hl : lv_has ls 2 [(0, .ref o), (1, .int bv)] := hl
  have hF : MF G G o Ar := MF.rf
  refine lv_aload_n hx hb dX14_octet_0 rfl (lv_at hl 0 rfl) ?_
  refine lv_iconst (v := 0) hx hb dX14_octet_1 (by decide) ?_
  refine mm_put (v := .int 0) (ty := .int) hx hb hf_X14 (fun _ h9 => h9) tyX14 tyX14_ok nmX14 hown hK hG hS hM.1 rfl 38 (by decide) (tb_use hT tw_1429) (fun _ h9 => h9) rfl (by decide +kernel) rfl rfl (mfs_l38 _ _) dX14_octet_2 (fun H locs hG hS => ?_)
  have hM := MD.puti (k := 38) (v := 0) hM (mfs_s38 _ _ _)
  have hF := hF.wo (e' := .inr (15, (mfs Ar Iv).set 38 (.int 0)))
  obtain ⟨I1, eI1⟩ : ∃ g, g = upd Iv 38 0 := ⟨_, rfl⟩
  rw [← eI1] at hM
  have hgn := gn_MD hG hM hF
  clear hG hM hF
  obtain ⟨G2, hG, hM, hF⟩ := hgn
  refine lv_aload_n hx hb dX14_octet_5 rfl (lv_at hl 0 rfl) ?_
  refine lv_aload_n hx hb dX14_octet_6 rfl (lv_at hl 0 rfl) ?_
  refine mm_get (v := .int (Iv 66)) hx hb hf_X14 (fun _ h9 => h9) hown hK hG hM.1 rfl 66 (by decide) (tb_use hT tw_1457) (fun _ h9 => h9) (by rw [mfs_g66, eI1] <;> rfl) dX14_octet_7 ?_
  refine lv_bipush (v := 64) hx hb dX14_octet_10 (by decide) ?_
  refine lv_icmp_ne (tgt := 19) hx hb dX14_octet_12 (by decide) (fun c_12 => ?_) (fun c_12 => ?_)
  · skip
    refine lv_aload_n hx hb dX14_octet_19 rfl (lv_at hl 0 rfl) ?_
    refine mm_get (v := .int (Iv 66)) hx hb hf_X14 (fun _ h9 => h9) hown hK hG hM.1 rfl 66 (by decide) (tb_use hT tw_1457) (fun _ h9 => h9) (by rw [mfs_g66, eI1] <;> rfl) dX14_octet_20 ?_
    refine lv_topi (fun x3 ex3 => ?_)
    refine mm_put (v := .int x3) (ty := .int) hx hb hf_X14 (fun _ h9 => h9) tyX14 tyX14_ok nmX14 hown hK hG hS hM.1 rfl 66 (by decide) (tb_use hT tw_1457) (fun _ h9 => h9) rfl (by decide +kernel) rfl rfl (mfs_l66 _ _) dX14_octet_23 (fun H locs hG hS => ?_)
    have hM := MD.puti (k := 66) (v := x3) hM (mfs_s66 _ _ _)
    have hF := hF.wo (e' := .inr (15, (mfs Ar I1).set 66 (.int x3)))
    obtain ⟨I4, eI4⟩ : ∃ g, g = upd I1 66 x3 := ⟨_, rfl⟩
    rw [← eI4] at hM
    have hgn := gn_MD hG hM hF
    clear hG hM hF
    obtain ⟨G5, hG, hM, hF⟩ := hgn
    refine lv_aload_n hx hb dX14_octet_26 rfl (lv_at hl 0 rfl) ?_
    refine mm_get (v := .ref (Ar 65)) hx hb hf_X14 (fun _ h9 => h9) hown hK hG hM.1 rfl 65 (by decide) (tb_use hT tw_1456) (fun _ h9 => h9) (mfs_g65 _ _) dX14_octet_27 ?_
    refine lv_aload_n hx hb dX14_octet_30 rfl (lv_at hl 0 rfl) ?_
    refine mm_get (v := .int x3) hx hb hf_X14 (fun _ h9 => h9) hown hK hG hM.1 rfl 66 (by decide) (tb_use hT tw_1457) (fun _ h9 => h9) (by rw [mfs_g66, eI4, eI1] <;> rfl) dX14_octet_31 ?_
    refine lv_iload_n hx hb dX14_octet_34 rfl (lv_at hl 1 rfl) ?_
    refine lv_sipush (v := 255) hx hb dX14_octet_35 (by decide) ?_
    refine lv_iand hx hb dX14_octet_38 ?_
    refine lv_topi (fun x6 ex6 => ?_)
    refine mm_iast (n := mdN 65) (f := F 65) hx hb hK hG hS 1 (hM.2.1 65 rfl) rfl (vp_in_lt (m := 64) (by rw [ex3]; first | exact h0 | decide) (by rw [ex3]; first | exact oc_lt h64 c_12 | decide) rfl) dX14_octet_39 (fun H locs hG hS => ?_)
    have hM := MD.seti (k := 65) (upd (F 65) x3.toNatClampNeg x6) hM rfl
    have hF := hF.wa (k := 65) (e' := .inl (cy 1, mdN 65, .inl (upd (F 65) x3.toNatClampNeg x6))) rfl
    obtain ⟨F7, eF7⟩ : ∃ g, g = va_up F 65 (upd (F 65) x3.toNatClampNeg x6) := ⟨_, rfl⟩
    rw [← eF7] at hM
    have hgn := gn_MD hG hM hF
    clear hG hM hF
    obtain ⟨G8, hG, hM, hF⟩ := hgn
    refine lv_aload_n hx hb dX14_octet_40 rfl (lv_at hl 0 rfl) ?_
    refine lv_dup hx hb dX14_octet_41 rfl ?_
    refine mm_get (v := .int x3) hx hb hf_X14 (fun _ h9 => h9) hown hK hG hM.1 rfl 66 (by decide) (tb_use hT tw_1457) (fun _ h9 => h9) (by rw [mfs_g66, eI4, eI1] <;> rfl) dX14_octet_42 ?_
    refine lv_iconst (v := 1) hx hb dX14_octet_45 (by decide) ?_
    refine lv_iadd hx hb dX14_octet_46 ?_
    refine lv_topi (fun x9 ex9 => ?_)
    refine mm_put (v := .int x9) (ty := .int) hx hb hf_X14 (fun _ h9 => h9) tyX14 tyX14_ok nmX14 hown hK hG hS hM.1 rfl 66 (by decide) (tb_use hT tw_1457) (fun _ h9 => h9) rfl (by decide +kernel) rfl rfl (mfs_l66 _ _) dX14_octet_47 (fun H locs hG hS => ?_)
    have hM := MD.puti (k := 66) (v := x9) hM (mfs_s66 _ _ _)
    have hF := hF.wo (e' := .inr (15, (mfs Ar I4).set 66 (.int x9)))
    obtain ⟨I10, eI10⟩ : ∃ g, g = upd I4 66 x9 := ⟨_, rfl⟩
    rw [← eI10] at hM
    have hgn := gn_MD hG hM hF
    clear hG hM hF
    obtain ⟨G11, hG, hM, hF⟩ := hgn
    exact W.vret hx hb hr (fun t ht hW => ⟨⟨_, rfl, ⟨(by subst eI1 ex3 eI4 ex6 eF7 ex9 eI10; rw [oc_n, if_neg c_12]; exact hM), hF⟩, mk_end hG ht⟩, hS.F ht⟩) hS.2.2 dX14_octet_50
  · skip
    refine lv_iconst (v := 0) hx hb dX14_octet_15 (by decide) ?_
    refine lv_goto (tgt := 23) hx hb dX14_octet_16 (by decide) ?_
    refine mm_put (v := .int 0) (ty := .int) hx hb hf_X14 (fun _ h9 => h9) tyX14 tyX14_ok nmX14 hown hK hG hS hM.1 rfl 66 (by decide) (tb_use hT tw_1457) (fun _ h9 => h9) rfl (by decide +kernel) rfl rfl (mfs_l66 _ _) dX14_octet_23 (fun H locs hG hS => ?_)
    have hM := MD.puti (k := 66) (v := 0) hM (mfs_s66 _ _ _)
    have hF := hF.wo (e' := .inr (15, (mfs Ar I1).set 66 (.int 0)))
    obtain ⟨I12, eI12⟩ : ∃ g, g = upd I1 66 0 := ⟨_, rfl⟩
    rw [← eI12] at hM
    have hgn := gn_MD hG hM hF
    clear hG hM hF
    obtain ⟨G13, hG, hM, hF⟩ := hgn
    refine lv_aload_n hx hb dX14_octet_26 rfl (lv_at hl 0 rfl) ?_
    refine mm_get (v := .ref (Ar 65)) hx hb hf_X14 (fun _ h9 => h9) hown hK hG hM.1 rfl 65 (by decide) (tb_use hT tw_1456) (fun _ h9 => h9) (mfs_g65 _ _) dX14_octet_27 ?_
    refine lv_aload_n hx hb dX14_octet_30 rfl (lv_at hl 0 rfl) ?_
    refine mm_get (v := .int 0) hx hb hf_X14 (fun _ h9 => h9) hown hK hG hM.1 rfl 66 (by decide) (tb_use hT tw_1457) (fun _ h9 => h9) (by rw [mfs_g66, eI12, eI1] <;> rfl) dX14_octet_31 ?_
    refine lv_iload_n hx hb dX14_octet_34 rfl (lv_at hl 1 rfl) ?_
    refine lv_sipush (v := 255) hx hb dX14_octet_35 (by decide) ?_
    refine lv_iand hx hb dX14_octet_38 ?_
    refine lv_topi (fun x14 ex14 => ?_)
    refine mm_iast (n := mdN 65) (f := F 65) hx hb hK hG hS 1 (hM.2.1 65 rfl) rfl (vp_in_lt (m := 64) (by skip; first | exact h0 | decide) (by skip; first | exact oc_lt h64 c_12 | decide) rfl) dX14_octet_39 (fun H locs hG hS => ?_)
    have hM := MD.seti (k := 65) (upd (F 65) (0 : Int32).toNatClampNeg x14) hM rfl
    have hF := hF.wa (k := 65) (e' := .inl (cy 1, mdN 65, .inl (upd (F 65) (0 : Int32).toNatClampNeg x14))) rfl
    obtain ⟨F15, eF15⟩ : ∃ g, g = va_up F 65 (upd (F 65) (0 : Int32).toNatClampNeg x14) := ⟨_, rfl⟩
    rw [← eF15] at hM
    have hgn := gn_MD hG hM hF
    clear hG hM hF
    obtain ⟨G16, hG, hM, hF⟩ := hgn
    refine lv_aload_n hx hb dX14_octet_40 rfl (lv_at hl 0 rfl) ?_
    refine lv_dup hx hb dX14_octet_41 rfl ?_
    refine mm_get (v := .int 0) hx hb hf_X14 (fun _ h9 => h9) hown hK hG hM.1 rfl 66 (by decide) (tb_use hT tw_1457) (fun _ h9 => h9) (by rw [mfs_g66, eI12, eI1] <;> rfl) dX14_octet_42 ?_
    refine lv_iconst (v := 1) hx hb dX14_octet_45 (by decide) ?_
    refine lv_iadd hx hb dX14_octet_46 ?_
    refine lv_topi (fun x17 ex17 => ?_)
    refine mm_put (v := .int x17) (ty := .int) hx hb hf_X14 (fun _ h9 => h9) tyX14 tyX14_ok nmX14 hown hK hG hS hM.1 rfl 66 (by decide) (tb_use hT tw_1457) (fun _ h9 => h9) rfl (by decide +kernel) rfl rfl (mfs_l66 _ _) dX14_octet_47 (fun H locs hG hS => ?_)
    have hM := MD.puti (k := 66) (v := x17) hM (mfs_s66 _ _ _)
    have hF := hF.wo (e' := .inr (15, (mfs Ar I12).set 66 (.int x17)))
    obtain ⟨I18, eI18⟩ : ∃ g, g = upd I12 66 x17 := ⟨_, rfl⟩
    rw [← eI18] at hM
    have hgn := gn_MD hG hM hF
    clear hG hM hF
    obtain ⟨G19, hG, hM, hF⟩ := hgn
    exact W.vret hx hb hr (fun t ht hW => ⟨⟨_, rfl, ⟨(by subst eI1 eI12 ex14 eF15 ex17 eI18; rw [oc_n, if_pos c_12]; exact hM), hF⟩, mk_end hG ht⟩, hS.F ht⟩) hS.2.2 dX14_octet_50
