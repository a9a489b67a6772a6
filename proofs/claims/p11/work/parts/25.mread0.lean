/-- clear(): the counts of a book are 0 -/
def clF (F : Nat → Nat → Int32) (d : Nat) : Nat → Nat → Int32 := fun j => if j < 7 then upd (F j) d 0 else F j
theorem MD.puts {cy : Nat → ClassId} {G : Nat → Option va_E} {o a : Nat} {Ar : Nat → Nat} {Iv : Nat → Int32} {F : Nat → Nat → Int32} {L : Nat → Nat → Int64} (h : MD cy G o Ar Iv F L) (hs : (mfs Ar Iv).set 47 (.ref a) = mfs (va_up Ar 47 a) Iv) : MD cy (mm_set G o (.inr (15, (mfs Ar Iv).set 47 (.ref a)))) o (va_up Ar 47 a) Iv F L := by
  obtain ⟨h1, h2, h3, h4, h5⟩ := h
  have hr : ∀ k, mdR k = true → va_up Ar 47 a k = Ar k := fun k hk => va_up_ne _ _ (fun z => by rw [z] at hk; exact absurd hk (by decide))
  refine ⟨by rw [hs]; exact mm_set_self, fun j hj => ?_, fun j hj => ?_, ?_, fun j k hj hk e => h5 j k hj hk (by rw [← hr j hj, ← hr k hk]; exact e)⟩
  · rw [hr j (mdR_I hj)]; exact mm_set_of (h2 j hj) (mm_ne_ao (h2 j hj) h1)
  · rw [hr j (mdR_J hj)]; exact mm_set_of (h3 j hj) (mm_ne_ao (h3 j hj) h1)
  · rw [hr 71 (by decide)]; exact mm_set_of h4 (mm_ne_ao h4 h1)
theorem va_up_same {Ar : Nat → Nat} {k a : Nat} (h : Ar k = a) : va_up Ar k a = Ar := by
  funext j
  by_cases e : j = k
  · subst e; rw [va_up_self]; exact h.symm
  · rw [va_up_ne _ _ e]
theorem pk_us2 {f : Nat → Int32} {x y : Int32} (h : x = 0) : upd f x.toNatClampNeg y 0 = y := by
  subst h
  exact pk_us
set_option maxHeartbeats 4000000 in
set_option maxRecDepth 100000 in
theorem c_X14_clear (l : Launch) (D : va_G) (cy : Nat → ClassId) (A : Nat → Prop) (X : State → Prop) (hst : mk_St A X) (hXT : ∀ U : State, X U → TB U) (G : Nat → Option va_E) (o : Nat) (Ar : Nat → Nat) (Iv : Nat → Int32) (F : Nat → Nat → Int32) (L : Nat → Nat → Int64)  (hM : MD cy G o Ar Iv F L) (h41 : vp_in (Iv 41) 2) : Met l yX14_clear [.code yX14_clear cX14_clear 1 none] ({ frames := 0, cells := 0, slots := 0, locals := 0 }) (mk_Pre D vwCl (tyL cy) A X G [.ref o]) (va_Qv (fun (G2 : Nat → Option va_E) => MD cy G2 o Ar Iv (clF F (Iv 41).toNatClampNeg) L ∧ MF G G2 o Ar) (mk_B D vwCl A) A) 0 0 A := by
  refine Met.ofW (cc := cX14_clear) (maxL := 1) (ret := none) (by decide) rfl ?_
  intro p e s m args below meth c s₁ B hml hv
  obtain ⟨rfl, hG, hK, hA, hX⟩ := hv
  have hx := B.exec
  have hb := B.bytes
  have hr := B.returns
  have hlocks := B.notSynchronized
  have hT := hXT s hX
  have hown : s.vm.findClass RX14 = some m.cls := findClass_of_methodNamed B.named
  have hf_X14 : ∀ w ∈ u_ws RX14 TX14 76, w.before ([.ref o] : List Value).toArray s = true := tb_list hT fX14
  have hS : va_S A s.heap s.heap [] := va_S.rf
  have hl := lv_entry ([.ref o]) (n := 1) (Nat.le_of_ble_eq_true rfl)
  rw [lg_entry_eq]
  generalize (lg_sl ([.ref o]) ++ List.replicate (1 - (lg_sl ([.ref o])).length) Slot.unset).toArray = ls at hl ⊢
  have hl : lv_has ls 1 [(0, .ref o)] := hl
  have hF : MF G G o Ar := MF.rf
  refine lv_aload_n hx hb dX14_clear_0 rfl (lv_at hl 0 rfl) ?_
  refine mm_get (v := .ref (Ar 0)) hx hb hf_X14 (fun _ h9 => h9) hown hK hG hM.1 rfl 0 (by decide) (tb_use hT tw_1391) (fun _ h9 => h9) (mfs_g0 _ _) dX14_clear_1 ?_
  refine lv_aload_n hx hb dX14_clear_4 rfl (lv_at hl 0 rfl) ?_
  refine mm_get (v := .int (Iv 41)) hx hb hf_X14 (fun _ h9 => h9) hown hK hG hM.1 rfl 41 (by decide) (tb_use hT tw_1432) (fun _ h9 => h9) (mfs_g41 _ _) dX14_clear_5 ?_
  refine lv_iconst (v := 0) hx hb dX14_clear_8 (by decide) ?_
  refine mm_iast (n := mdN 0) (f := F 0) hx hb hK hG hS 1 (hM.2.1 0 rfl) rfl h41 dX14_clear_9 (fun H locs hG hS => ?_)
  have hM := MD.seti (k := 0) (upd (F 0) (Iv 41).toNatClampNeg 0) hM rfl
  have hF := hF.wa (k := 0) (e' := .inl (cy 1, mdN 0, .inl (upd (F 0) (Iv 41).toNatClampNeg 0))) rfl
  obtain ⟨F1, eF1⟩ : ∃ g, g = va_up F 0 (upd (F 0) (Iv 41).toNatClampNeg 0) := ⟨_, rfl⟩
  rw [← eF1] at hM
  have hgn := gn_MD hG hM hF
  clear hG hM hF
  obtain ⟨G2, hG, hM, hF⟩ := hgn
  refine lv_aload_n hx hb dX14_clear_10 rfl (lv_at hl 0 rfl) ?_
  refine mm_get (v := .ref (Ar 1)) hx hb hf_X14 (fun _ h9 => h9) hown hK hG hM.1 rfl 1 (by decide) (tb_use hT tw_1392) (fun _ h9 => h9) (mfs_g1 _ _) dX14_clear_11 ?_
  refine lv_aload_n hx hb dX14_clear_14 rfl (lv_at hl 0 rfl) ?_
  refine mm_get (v := .int (Iv 41)) hx hb hf_X14 (fun _ h9 => h9) hown hK hG hM.1 rfl 41 (by decide) (tb_use hT tw_1432) (fun _ h9 => h9) (mfs_g41 _ _) dX14_clear_15 ?_
  refine lv_iconst (v := 0) hx hb dX14_clear_18 (by decide) ?_
  refine mm_iast (n := mdN 1) (f := F1 1) hx hb hK hG hS 1 (hM.2.1 1 rfl) rfl h41 dX14_clear_19 (fun H locs hG hS => ?_)
  have hM := MD.seti (k := 1) (upd (F1 1) (Iv 41).toNatClampNeg 0) hM rfl
  have hF := hF.wa (k := 1) (e' := .inl (cy 1, mdN 1, .inl (upd (F1 1) (Iv 41).toNatClampNeg 0))) rfl
  obtain ⟨F3, eF3⟩ : ∃ g, g = va_up F1 1 (upd (F1 1) (Iv 41).toNatClampNeg 0) := ⟨_, rfl⟩
  rw [← eF3] at hM
  have hgn := gn_MD hG hM hF
  clear hG hM hF
  obtain ⟨G4, hG, hM, hF⟩ := hgn
  refine lv_aload_n hx hb dX14_clear_20 rfl (lv_at hl 0 rfl) ?_
  refine mm_get (v := .ref (Ar 2)) hx hb hf_X14 (fun _ h9 => h9) hown hK hG hM.1 rfl 2 (by decide) (tb_use hT tw_1393) (fun _ h9 => h9) (mfs_g2 _ _) dX14_clear_21 ?_
  refine lv_aload_n hx hb dX14_clear_24 rfl (lv_at hl 0 rfl) ?_
  refine mm_get (v := .int (Iv 41)) hx hb hf_X14 (fun _ h9 => h9) hown hK hG hM.1 rfl 41 (by decide) (tb_use hT tw_1432) (fun _ h9 => h9) (mfs_g41 _ _) dX14_clear_25 ?_
  refine lv_iconst (v := 0) hx hb dX14_clear_28 (by decide) ?_
  refine mm_iast (n := mdN 2) (f := F3 2) hx hb hK hG hS 1 (hM.2.1 2 rfl) rfl h41 dX14_clear_29 (fun H locs hG hS => ?_)
  have hM := MD.seti (k := 2) (upd (F3 2) (Iv 41).toNatClampNeg 0) hM rfl
  have hF := hF.wa (k := 2) (e' := .inl (cy 1, mdN 2, .inl (upd (F3 2) (Iv 41).toNatClampNeg 0))) rfl
  obtain ⟨F5, eF5⟩ : ∃ g, g = va_up F3 2 (upd (F3 2) (Iv 41).toNatClampNeg 0) := ⟨_, rfl⟩
  rw [← eF5] at hM
  have hgn := gn_MD hG hM hF
  clear hG hM hF
  obtain ⟨G6, hG, hM, hF⟩ := hgn
  refine lv_aload_n hx hb dX14_clear_30 rfl (lv_at hl 0 rfl) ?_
  refine mm_get (v := .ref (Ar 3)) hx hb hf_X14 (fun _ h9 => h9) hown hK hG hM.1 rfl 3 (by decide) (tb_use hT tw_1394) (fun _ h9 => h9) (mfs_g3 _ _) dX14_clear_31 ?_
  refine lv_aload_n hx hb dX14_clear_34 rfl (lv_at hl 0 rfl) ?_
  refine mm_get (v := .int (Iv 41)) hx hb hf_X14 (fun _ h9 => h9) hown hK hG hM.1 rfl 41 (by decide) (tb_use hT tw_1432) (fun _ h9 => h9) (mfs_g41 _ _) dX14_clear_35 ?_
  refine lv_iconst (v := 0) hx hb dX14_clear_38 (by decide) ?_
  refine mm_iast (n := mdN 3) (f := F5 3) hx hb hK hG hS 1 (hM.2.1 3 rfl) rfl h41 dX14_clear_39 (fun H locs hG hS => ?_)
  have hM := MD.seti (k := 3) (upd (F5 3) (Iv 41).toNatClampNeg 0) hM rfl
  have hF := hF.wa (k := 3) (e' := .inl (cy 1, mdN 3, .inl (upd (F5 3) (Iv 41).toNatClampNeg 0))) rfl
  obtain ⟨F7, eF7⟩ : ∃ g, g = va_up F5 3 (upd (F5 3) (Iv 41).toNatClampNeg 0) := ⟨_, rfl⟩
  rw [← eF7] at hM
  have hgn := gn_MD hG hM hF
  clear hG hM hF
  obtain ⟨G8, hG, hM, hF⟩ := hgn
  refine lv_aload_n hx hb dX14_clear_40 rfl (lv_at hl 0 rfl) ?_
  refine mm_get (v := .ref (Ar 4)) hx hb hf_X14 (fun _ h9 => h9) hown hK hG hM.1 rfl 4 (by decide) (tb_use hT tw_1395) (fun _ h9 => h9) (mfs_g4 _ _) dX14_clear_41 ?_
  refine lv_aload_n hx hb dX14_clear_44 rfl (lv_at hl 0 rfl) ?_
  refine mm_get (v := .int (Iv 41)) hx hb hf_X14 (fun _ h9 => h9) hown hK hG hM.1 rfl 41 (by decide) (tb_use hT tw_1432) (fun _ h9 => h9) (mfs_g41 _ _) dX14_clear_45 ?_
  refine lv_iconst (v := 0) hx hb dX14_clear_48 (by decide) ?_
  refine mm_iast (n := mdN 4) (f := F7 4) hx hb hK hG hS 1 (hM.2.1 4 rfl) rfl h41 dX14_clear_49 (fun H locs hG hS => ?_)
  have hM := MD.seti (k := 4) (upd (F7 4) (Iv 41).toNatClampNeg 0) hM rfl
  have hF := hF.wa (k := 4) (e' := .inl (cy 1, mdN 4, .inl (upd (F7 4) (Iv 41).toNatClampNeg 0))) rfl
  obtain ⟨F9, eF9⟩ : ∃ g, g = va_up F7 4 (upd (F7 4) (Iv 41).toNatClampNeg 0) := ⟨_, rfl⟩
  rw [← eF9] at hM
  have hgn := gn_MD hG hM hF
  clear hG hM hF
  obtain ⟨G10, hG, hM, hF⟩ := hgn
  refine lv_aload_n hx hb dX14_clear_50 rfl (lv_at hl 0 rfl) ?_
  refine mm_get (v := .ref (Ar 5)) hx hb hf_X14 (fun _ h9 => h9) hown hK hG hM.1 rfl 5 (by decide) (tb_use hT tw_1396) (fun _ h9 => h9) (mfs_g5 _ _) dX14_clear_51 ?_
  refine lv_aload_n hx hb dX14_clear_54 rfl (lv_at hl 0 rfl) ?_
  refine mm_get (v := .int (Iv 41)) hx hb hf_X14 (fun _ h9 => h9) hown hK hG hM.1 rfl 41 (by decide) (tb_use hT tw_1432) (fun _ h9 => h9) (mfs_g41 _ _) dX14_clear_55 ?_
  refine lv_iconst (v := 0) hx hb dX14_clear_58 (by decide) ?_
  refine mm_iast (n := mdN 5) (f := F9 5) hx hb hK hG hS 1 (hM.2.1 5 rfl) rfl h41 dX14_clear_59 (fun H locs hG hS => ?_)
  have hM := MD.seti (k := 5) (upd (F9 5) (Iv 41).toNatClampNeg 0) hM rfl
  have hF := hF.wa (k := 5) (e' := .inl (cy 1, mdN 5, .inl (upd (F9 5) (Iv 41).toNatClampNeg 0))) rfl
  obtain ⟨F11, eF11⟩ : ∃ g, g = va_up F9 5 (upd (F9 5) (Iv 41).toNatClampNeg 0) := ⟨_, rfl⟩
  rw [← eF11] at hM
  have hgn := gn_MD hG hM hF
  clear hG hM hF
  obtain ⟨G12, hG, hM, hF⟩ := hgn
  refine lv_aload_n hx hb dX14_clear_60 rfl (lv_at hl 0 rfl) ?_
  refine mm_get (v := .ref (Ar 6)) hx hb hf_X14 (fun _ h9 => h9) hown hK hG hM.1 rfl 6 (by decide) (tb_use hT tw_1397) (fun _ h9 => h9) (mfs_g6 _ _) dX14_clear_61 ?_
  refine lv_aload_n hx hb dX14_clear_64 rfl (lv_at hl 0 rfl) ?_
  refine mm_get (v := .int (Iv 41)) hx hb hf_X14 (fun _ h9 => h9) hown hK hG hM.1 rfl 41 (by decide) (tb_use hT tw_1432) (fun _ h9 => h9) (mfs_g41 _ _) dX14_clear_65 ?_
  refine lv_iconst (v := 0) hx hb dX14_clear_68 (by decide) ?_
  refine mm_iast (n := mdN 6) (f := F11 6) hx hb hK hG hS 1 (hM.2.1 6 rfl) rfl h41 dX14_clear_69 (fun H locs hG hS => ?_)
  have hM := MD.seti (k := 6) (upd (F11 6) (Iv 41).toNatClampNeg 0) hM rfl
  have hF := hF.wa (k := 6) (e' := .inl (cy 1, mdN 6, .inl (upd (F11 6) (Iv 41).toNatClampNeg 0))) rfl
  obtain ⟨F13, eF13⟩ : ∃ g, g = va_up F11 6 (upd (F11 6) (Iv 41).toNatClampNeg 0) := ⟨_, rfl⟩
  rw [← eF13] at hM
  have hgn := gn_MD hG hM hF
  clear hG hM hF
  obtain ⟨G14, hG, hM, hF⟩ := hgn
  have hc : F13 = clF F (Iv 41).toNatClampNeg := by
    subst eF1 eF3 eF5 eF7 eF9 eF11 eF13
    funext j
    match j with
    | 0 => rfl
    | 1 => rfl
    | 2 => rfl
    | 3 => rfl
    | 4 => rfl
    | 5 => rfl
    | 6 => rfl
    | j + 7 => rw [va_up_ne _ _ (by omega), va_up_ne _ _ (by omega), va_up_ne _ _ (by omega), va_up_ne _ _ (by omega), va_up_ne _ _ (by omega), va_up_ne _ _ (by omega), va_up_ne _ _ (by omega)]; unfold clF; rw [if_neg (by omega)]
  exact W.vret hx hb hr (fun t ht hW => ⟨⟨_, rfl, ⟨(by rw [hc] at hM; exact hM), hF⟩, mk_end hG ht⟩, hS.F ht⟩) hS.2.2 dX14_clear_70
