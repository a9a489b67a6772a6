/-- a claim noted, if no fault is found -/
def cmI (Iv : Nat → Int32) : Nat → Int32 := if Iv 55 = 0 then Iv else upd Iv 58 (Iv 58 + 1)
def cmF (Iv : Nat → Int32) (F : Nat → Nat → Int32) (a b c : Int32) : Nat → Nat → Int32 := if Iv 55 = 0 then F else
  va_up (va_up (va_up (va_up F 59 (upd (F 59) (Iv 58).toNatClampNeg a)) 60 (upd (F 60) (Iv 58).toNatClampNeg (Iv 54))) 61 (upd (F 61) (Iv 58).toNatClampNeg b)) 62 (upd (F 62) (Iv 58).toNatClampNeg c)

set_option maxHeartbeats 4000000 in
set_option maxRecDepth 100000 in
theorem c_M_claim (l : Launch) (D : va_G) (cy : Nat → ClassId) (A : Nat → Prop) (X : State → Prop) (hst : mk_St A X) (hXT : ∀ U : State, X U → TB U) (G : Nat → Option va_E) (o : Nat) (Ar : Nat → Nat) (Iv : Nat → Int32) (F : Nat → Nat → Int32) (L : Nat → Nat → Int64) (xa xb xc : Int32) (hM : MD cy G o Ar Iv F L) (hcl : ¬ Iv 55 = 0 → vp_in (Iv 58) 2000) : Met l yX14_claim [.code yX14_claim cX14_claim 4 none] ({ frames := 0, cells := 0, slots := 0, locals := 0 }) (mk_Pre D vwCl (tyL cy) A X G [.ref o, .int xa, .int xb, .int xc]) (va_Qv (fun (G2 : Nat → Option va_E) => MD cy G2 o Ar (cmI Iv) (cmF Iv F xa xb xc) L ∧ MF G G2 o Ar) (mk_B D vwCl A) A) 0 0 A := by
  refine Met.ofW (cc := cX14_claim) (maxL := 4) (ret := none) (by decide) rfl ?_
  intro p e s m args below meth c s₁ B hml hv
  obtain ⟨rfl, hG, hK, hA, hX⟩ := hv
  have hx := B.exec
  have hb := B.bytes
  have hr := B.returns
  have hlocks := B.notSynchronized
  have hT := hXT s hX
  have hown : s.vm.findClass RX14 = some m.cls := findClass_of_methodNamed B.named
  have hf_X14 : ∀ w ∈ u_ws RX14 TX14 76, w.before ([.ref o, .int xa, .int xb, .int xc] : List Value).toArray s = true := tb_list hT fX14
  have hS : va_S A s.heap s.heap [] := va_S.rf
  have hl := lv_entry ([.ref o, .int xa, .int xb, .int xc]) (n := 4) (Nat.le_of_ble_eq_true rfl)
  rw [lg_entry_eq]
  generalize (lg_sl ([.ref o, .int xa, .int xb, .int xc]) ++ List.replicate (4 - (lg_sl ([.ref o, .int xa, .int xb, .int xc])).length) Slot.unset).toArray = ls at hl ⊢
  have hl : lv_has ls 4 [(0, .ref o), (1, .int xa), (2, .int xb), (3, .int xc)] := hl
  have hF : MF G G o Ar := MF.rf
  refine lv_aload_n hx hb dX14_claim_0 rfl (lv_at hl 0 rfl) ?_
  refine mm_get (v := .int (Iv 55)) hx hb hf_X14 (fun _ h9 => h9) hown hK hG hM.1 rfl 55 (by decide) (tb_use hT tw_1446) (fun _ h9 => h9) (mfs_g55 _ _) dX14_claim_1 ?_
  refine lv_if_ne (tgt := 8) hx hb dX14_claim_4 (by decide) (fun c_4 => ?_) (fun c_4 => ?_)
  · skip
    refine lv_aload_n hx hb dX14_claim_8 rfl (lv_at hl 0 rfl) ?_
    refine mm_get (v := .ref (Ar 59)) hx hb hf_X14 (fun _ h9 => h9) hown hK hG hM.1 rfl 59 (by decide) (tb_use hT tw_1450) (fun _ h9 => h9) (mfs_g59 _ _) dX14_claim_9 ?_
    refine lv_aload_n hx hb dX14_claim_12 rfl (lv_at hl 0 rfl) ?_
    refine mm_get (v := .int (Iv 58)) hx hb hf_X14 (fun _ h9 => h9) hown hK hG hM.1 rfl 58 (by decide) (tb_use hT tw_1449) (fun _ h9 => h9) (mfs_g58 _ _) dX14_claim_13 ?_
    refine lv_iload_n hx hb dX14_claim_16 rfl (lv_at hl 1 rfl) ?_
    refine mm_iast (n := mdN 59) (f := F 59) hx hb hK hG hS 1 (hM.2.1 59 rfl) rfl (hcl c_4) dX14_claim_17 (fun H locs hG hS => ?_)
    have hM := MD.seti (k := 59) (upd (F 59) (Iv 58).toNatClampNeg xa) hM rfl
    have hF := hF.wa (k := 59) (e' := .inl (cy 1, mdN 59, .inl (upd (F 59) (Iv 58).toNatClampNeg xa))) rfl
    obtain ⟨F1, eF1⟩ : ∃ g, g = va_up F 59 (upd (F 59) (Iv 58).toNatClampNeg xa) := ⟨_, rfl⟩
    rw [← eF1] at hM
    have hgn := gn_MD hG hM hF
    clear hG hM hF
    obtain ⟨G2, hG, hM, hF⟩ := hgn
    refine lv_aload_n hx hb dX14_claim_18 rfl (lv_at hl 0 rfl) ?_
    refine mm_get (v := .ref (Ar 60)) hx hb hf_X14 (fun _ h9 => h9) hown hK hG hM.1 rfl 60 (by decide) (tb_use hT tw_1451) (fun _ h9 => h9) (mfs_g60 _ _) dX14_claim_19 ?_
    refine lv_aload_n hx hb dX14_claim_22 rfl (lv_at hl 0 rfl) ?_
    refine mm_get (v := .int (Iv 58)) hx hb hf_X14 (fun _ h9 => h9) hown hK hG hM.1 rfl 58 (by decide) (tb_use hT tw_1449) (fun _ h9 => h9) (mfs_g58 _ _) dX14_claim_23 ?_
    refine lv_aload_n hx hb dX14_claim_26 rfl (lv_at hl 0 rfl) ?_
    refine mm_get (v := .int (Iv 54)) hx hb hf_X14 (fun _ h9 => h9) hown hK hG hM.1 rfl 54 (by decide) (tb_use hT tw_1445) (fun _ h9 => h9) (mfs_g54 _ _) dX14_claim_27 ?_
    refine lv_topi (fun x3 ex3 => ?_)
    refine mm_iast (n := mdN 60) (f := F1 60) hx hb hK hG hS 1 (hM.2.1 60 rfl) rfl (hcl c_4) dX14_claim_30 (fun H locs hG hS => ?_)
    have hM := MD.seti (k := 60) (upd (F1 60) (Iv 58).toNatClampNeg x3) hM rfl
    have hF := hF.wa (k := 60) (e' := .inl (cy 1, mdN 60, .inl (upd (F1 60) (Iv 58).toNatClampNeg x3))) rfl
    obtain ⟨F4, eF4⟩ : ∃ g, g = va_up F1 60 (upd (F1 60) (Iv 58).toNatClampNeg x3) := ⟨_, rfl⟩
    rw [← eF4] at hM
    have hgn := gn_MD hG hM hF
    clear hG hM hF
    obtain ⟨G5, hG, hM, hF⟩ := hgn
    refine lv_aload_n hx hb dX14_claim_31 rfl (lv_at hl 0 rfl) ?_
    refine mm_get (v := .ref (Ar 61)) hx hb hf_X14 (fun _ h9 => h9) hown hK hG hM.1 rfl 61 (by decide) (tb_use hT tw_1452) (fun _ h9 => h9) (mfs_g61 _ _) dX14_claim_32 ?_
    refine lv_aload_n hx hb dX14_claim_35 rfl (lv_at hl 0 rfl) ?_
    refine mm_get (v := .int (Iv 58)) hx hb hf_X14 (fun _ h9 => h9) hown hK hG hM.1 rfl 58 (by decide) (tb_use hT tw_1449) (fun _ h9 => h9) (mfs_g58 _ _) dX14_claim_36 ?_
    refine lv_iload_n hx hb dX14_claim_39 rfl (lv_at hl 2 rfl) ?_
    refine mm_iast (n := mdN 61) (f := F4 61) hx hb hK hG hS 1 (hM.2.1 61 rfl) rfl (hcl c_4) dX14_claim_40 (fun H locs hG hS => ?_)
    have hM := MD.seti (k := 61) (upd (F4 61) (Iv 58).toNatClampNeg xb) hM rfl
    have hF := hF.wa (k := 61) (e' := .inl (cy 1, mdN 61, .inl (upd (F4 61) (Iv 58).toNatClampNeg xb))) rfl
    obtain ⟨F6, eF6⟩ : ∃ g, g = va_up F4 61 (upd (F4 61) (Iv 58).toNatClampNeg xb) := ⟨_, rfl⟩
    rw [← eF6] at hM
    have hgn := gn_MD hG hM hF
    clear hG hM hF
    obtain ⟨G7, hG, hM, hF⟩ := hgn
    refine lv_aload_n hx hb dX14_claim_41 rfl (lv_at hl 0 rfl) ?_
    refine mm_get (v := .ref (Ar 62)) hx hb hf_X14 (fun _ h9 => h9) hown hK hG hM.1 rfl 62 (by decide) (tb_use hT tw_1453) (fun _ h9 => h9) (mfs_g62 _ _) dX14_claim_42 ?_
    refine lv_aload_n hx hb dX14_claim_45 rfl (lv_at hl 0 rfl) ?_
    refine mm_get (v := .int (Iv 58)) hx hb hf_X14 (fun _ h9 => h9) hown hK hG hM.1 rfl 58 (by decide) (tb_use hT tw_1449) (fun _ h9 => h9) (mfs_g58 _ _) dX14_claim_46 ?_
    refine lv_iload_n hx hb dX14_claim_49 rfl (lv_at hl 3 rfl) ?_
    refine mm_iast (n := mdN 62) (f := F6 62) hx hb hK hG hS 1 (hM.2.1 62 rfl) rfl (hcl c_4) dX14_claim_50 (fun H locs hG hS => ?_)
    have hM := MD.seti (k := 62) (upd (F6 62) (Iv 58).toNatClampNeg xc) hM rfl
    have hF := hF.wa (k := 62) (e' := .inl (cy 1, mdN 62, .inl (upd (F6 62) (Iv 58).toNatClampNeg xc))) rfl
    obtain ⟨F8, eF8⟩ : ∃ g, g = va_up F6 62 (upd (F6 62) (Iv 58).toNatClampNeg xc) := ⟨_, rfl⟩
    rw [← eF8] at hM
    have hgn := gn_MD hG hM hF
    clear hG hM hF
    obtain ⟨G9, hG, hM, hF⟩ := hgn
    refine lv_aload_n hx hb dX14_claim_51 rfl (lv_at hl 0 rfl) ?_
    refine lv_dup hx hb dX14_claim_52 rfl ?_
    refine mm_get (v := .int (Iv 58)) hx hb hf_X14 (fun _ h9 => h9) hown hK hG hM.1 rfl 58 (by decide) (tb_use hT tw_1449) (fun _ h9 => h9) (mfs_g58 _ _) dX14_claim_53 ?_
    refine lv_iconst (v := 1) hx hb dX14_claim_56 (by decide) ?_
    refine lv_iadd hx hb dX14_claim_57 ?_
    refine lv_topi (fun x10 ex10 => ?_)
    refine mm_put (v := .int x10) (ty := .int) hx hb hf_X14 (fun _ h9 => h9) tyX14 tyX14_ok nmX14 hown hK hG hS hM.1 rfl 58 (by decide) (tb_use hT tw_1449) (fun _ h9 => h9) rfl (by decide +kernel) rfl rfl (mfs_l58 _ _) dX14_claim_58 (fun H locs hG hS => ?_)
    have hM := MD.puti (k := 58) (v := x10) hM (mfs_s58 _ _ _)
    have hF := hF.wo (e' := .inr (15, (mfs Ar Iv).set 58 (.int x10)))
    obtain ⟨I11, eI11⟩ : ∃ g, g = upd Iv 58 x10 := ⟨_, rfl⟩
    rw [← eI11] at hM
    have hgn := gn_MD hG hM hF
    clear hG hM hF
    obtain ⟨G12, hG, hM, hF⟩ := hgn
    have hc1 : I11 = cmI Iv := by rw [cmI, if_neg c_4, eI11, ex10]
    have hc2 : F8 = cmF Iv F xa xb xc := by rw [cmF, if_neg c_4, eF8, eF6, eF4, eF1, ex3]; rfl
    exact W.vret hx hb hr (fun t ht hW => ⟨⟨_, rfl, ⟨(by have z := hM; rw [hc1, hc2] at z; exact z), hF⟩, mk_end hG ht⟩, hS.F ht⟩) hS.2.2 dX14_claim_61
  · skip
    exact W.vret hx hb hr (fun t ht hW => ⟨⟨_, rfl, ⟨(by rw [cmI, cmF, if_pos c_4, if_pos c_4]; exact hM), hF⟩, mk_end hG ht⟩, hS.F ht⟩) hS.2.2 dX14_claim_7
