/-- clear(): the counts of a book are 0 -/
def clF (F : Nat → Nat → Int32) (d : Nat) : Nat → Nat → Int32 := fun j => if j < 7 then upd (F j) d 0 else F j
theorem MD.puts {cy : Nat → ClassId} {G : Nat → Option va_E} {o a : Nat} {Ar : Nat → Nat} {Iv : Nat → Int32} {F : Nat → Nat → Int32} {L : Nat → Nat → Int64} (h : MD cy G o Ar Iv F L) (hs : (mfs Ar Iv).set 47 (.ref a) = mfs (va_up Ar 47 a) Iv) : MD cy (mm_set G o (.inr (15, (mfs Ar Iv).set 47 (.ref a)))) o (va_up Ar 47 a) Iv F L := by
  obtain ⟨h1, h2, h3, h4, h5⟩ := h
  have hr : ∀ k, mdR k = true → va_up Ar 47 a k = Ar k := fun k hk => va_up_ne _ _ (fun z => by rw [z] at hk; exact absurd hk (by decide))
  refine ⟨by rw [hs]; exact mm_set_self, fun j hj => ?_, fun j hj => ?_, ?_, fun j k hj hk e => h5 j k hj hk (by rw [← hr j hj, ← hr k hk]; exact e)⟩
  · rw [hr j (mdR_I hj)]; exact mm_set_of (h2 j hj) (mm_ne_ao (h2 j hj) h1)
  · rw [hr j (mdR_J hj)]; exact mm_set_of (h3 j hj) (mm_ne_ao (h3 j hj) h1)
  · rw [hr 71 (by decide)]; exact mm_set_of h4 (mm_ne_ao h4 h1)
theorem va_up_same {Ar : Nat → Nat} {k a : Nat} (h : Ar k = a) : va_up Ar k a = Ar := by
  funext j
  by_cases e : j = k
  · subst e; rw [va_up_self]; exact h.symm
  · rw [va_up_ne _ _ e]
theorem pk_us2 {f : Nat → Int32} {x y : Int32} (h : x = 0) : upd f x.toNatClampNeg y 0 = y := by
  subst h
  exact pk_us
set_option maxHeartbeats 4000000 in
set_option maxRecDepth 100000 in
theorem c_X14_here_e (l : Launch) (D : va_G) (cy : Nat → ClassId) (A : Nat → Prop) (X : State → Prop) (hst : mk_St A X) (hXT : ∀ U : State, X U → TB U) (G : Nat → Option va_E) (o : Nat) (Ar : Nat → Nat) (Iv : Nat → Int32) (F : Nat → Nat → Int32) (L : Nat → Nat → Int64)  (hM : MD cy G o Ar Iv F L) (hat : Iv 49 ≤ Iv 50) : Met l yX14_here [.code yX14_here cX14_here 1 (some .int)] ({ frames := 0, cells := 0, slots := 0, locals := 0 }) (mk_Pre D vwCl (tyL cy) A X G [.ref o]) (va_Qi (fun (r : Int32) (G2 : Nat → Option va_E) => r = -1 ∧ G2 = G) (mk_B D vwCl A) A) 0 0 A := by
  refine Met.ofW (cc := cX14_here) (maxL := 1) (ret := (some .int)) (by decide) rfl ?_
  intro p e s m args below meth c s₁ B hml hv
  obtain ⟨rfl, hG, hK, hA, hX⟩ := hv
  have hx := B.exec
  have hb := B.bytes
  have hr := B.returns
  have hlocks := B.notSynchronized
  have hT := hXT s hX
  have hown : s.vm.findClass RX14 = some m.cls := findClass_of_methodNamed B.named
  have hf_X14 : ∀ w ∈ u_ws RX14 TX14 76, w.before ([.ref o] : List Value).toArray s = true := tb_list hT fX14
  have hS : va_S A s.heap s.heap [] := va_S.rf
  have hl := lv_entry ([.ref o]) (n := 1) (Nat.le_of_ble_eq_true rfl)
  rw [lg_entry_eq]
  generalize (lg_sl ([.ref o]) ++ List.replicate (1 - (lg_sl ([.ref o])).length) Slot.unset).toArray = ls at hl ⊢
  have hl : lv_has ls 1 [(0, .ref o)] := hl
  refine lv_aload_n hx hb dX14_here_0 rfl (lv_at hl 0 rfl) ?_
  refine mm_get (v := .int (Iv 50)) hx hb hf_X14 (fun _ h9 => h9) hown hK hG hM.1 rfl 50 (by decide) (tb_use hT tw_1441) (fun _ h9 => h9) rfl dX14_here_1 ?_
  refine lv_aload_n hx hb dX14_here_4 rfl (lv_at hl 0 rfl) ?_
  refine mm_get (v := .int (Iv 49)) hx hb hf_X14 (fun _ h9 => h9) hown hK hG hM.1 rfl 49 (by decide) (tb_use hT tw_1440) (fun _ h9 => h9) rfl dX14_here_5 ?_
  refine lv_icmp_ge (tgt := 23) hx hb dX14_here_8 (by decide) (fun c_8 => ?_) (fun c_8 => ?_)
  · skip
    refine lv_iconst (v := (-1)) hx hb dX14_here_23 (by decide) ?_
    exact W.iret (v := (-1)) hx hb hr (fun t ht hW => ⟨⟨_, _, rfl, ⟨rfl, rfl⟩, mk_end hG ht⟩, hS.F ht⟩) hS.2.2 dX14_here_24
  · skip
    exact absurd hat c_8

set_option maxHeartbeats 4000000 in
set_option maxRecDepth 100000 in
theorem c_X14_clear (l : Launch) (D : va_G) (cy : Nat → ClassId) (A : Nat → Prop) (X : State → Prop) (hst : mk_St A X) (hXT : ∀ U : State, X U → TB U) (G : Nat → Option va_E) (o : Nat) (Ar : Nat → Nat) (Iv : Nat → Int32) (F : Nat → Nat → Int32) (L : Nat → Nat → Int64)  (hM : MD cy G o Ar Iv F L) (h41 : vp_in (Iv 41) 2) : Met l yX14_clear [.code yX14_clear cX14_clear 1 none] ({ frames := 0, cells := 0, slots := 0, locals := 0 }) (mk_Pre D vwCl (tyL cy) A X G [.ref o]) (va_Qv (fun (G2 : Nat → Option va_E) => MD cy G2 o Ar Iv (clF F (Iv 41).toNatClampNeg) L ∧ MF G G2 o Ar) (mk_B D vwCl A) A) 0 0 A := by
  refine Met.ofW (cc := cX14_clear) (maxL := 1) (ret := none) (by decide) rfl ?_
  intro p e s m args below meth c s₁ B hml hv
  obtain ⟨rfl, hG, hK, hA, hX⟩ := hv
  have hx := B.exec
  have hb := B.bytes
  have hr := B.returns
  have hlocks := B.notSynchronized
  have hT := hXT s hX
  have hown : s.vm.findClass RX14 = some m.cls := findClass_of_methodNamed B.named
  have hf_X14 : ∀ w ∈ u_ws RX14 TX14 76, w.before ([.ref o] : List Value).toArray s = true := tb_list hT fX14
  have hS : va_S A s.heap s.heap [] := va_S.rf
  have hl := lv_entry ([.ref o]) (n := 1) (Nat.le_of_ble_eq_true rfl)
  rw [lg_entry_eq]
  generalize (lg_sl ([.ref o]) ++ List.replicate (1 - (lg_sl ([.ref o])).length) Slot.unset).toArray = ls at hl ⊢
  have hl : lv_has ls 1 [(0, .ref o)] := hl
  have hF : MF G G o Ar := MF.rf
  refine lv_aload_n hx hb dX14_clear_0 rfl (lv_at hl 0 rfl) ?_
  refine mm_get (v := .ref (Ar 0)) hx hb hf_X14 (fun _ h9 => h9) hown hK hG hM.1 rfl 0 (by decide) (tb_use hT tw_1391) (fun _ h9 => h9) rfl dX14_clear_1 ?_
  refine lv_aload_n hx hb dX14_clear_4 rfl (lv_at hl 0 rfl) ?_
  refine mm_get (v := .int (Iv 41)) hx hb hf_X14 (fun _ h9 => h9) hown hK hG hM.1 rfl 41 (by decide) (tb_use hT tw_1432) (fun _ h9 => h9) rfl dX14_clear_5 ?_
  refine lv_iconst (v := 0) hx hb dX14_clear_8 (by decide) ?_
  refine mm_iast (n := mdN 0) (f := F 0) hx hb hK hG hS 1 (hM.2.1 0 rfl) rfl h41 dX14_clear_9 (fun H locs hG hS => ?_)
  have hM := MD.seti (k := 0) (upd (F 0) (Iv 41).toNatClampNeg 0) hM rfl
  have hF := hF.wa (k := 0) (e' := .inl (cy 1, mdN 0, .inl (upd (F 0) (Iv 41).toNatClampNeg 0))) rfl
  obtain ⟨F1, eF1⟩ : ∃ g, g = va_up F 0 (upd (F 0) (Iv 41).toNatClampNeg 0) := ⟨_, rfl⟩
  rw [← eF1] at hM
  generalize mm_set _ _ _ = G2 at hG hM hF
  refine lv_aload_n hx hb dX14_clear_10 rfl (lv_at hl 0 rfl) ?_
  refine mm_get (v := .ref (Ar 1)) hx hb hf_X14 (fun _ h9 => h9) hown hK hG hM.1 rfl 1 (by decide) (tb_use hT tw_1392) (fun _ h9 => h9) rfl dX14_clear_11 ?_
  refine lv_aload_n hx hb dX14_clear_14 rfl (lv_at hl 0 rfl) ?_
  refine mm_get (v := .int (Iv 41)) hx hb hf_X14 (fun _ h9 => h9) hown hK hG hM.1 rfl 41 (by decide) (tb_use hT tw_1432) (fun _ h9 => h9) rfl dX14_clear_15 ?_
  refine lv_iconst (v := 0) hx hb dX14_clear_18 (by decide) ?_
  refine mm_iast (n := mdN 1) (f := F1 1) hx hb hK hG hS 1 (hM.2.1 1 rfl) rfl h41 dX14_clear_19 (fun H locs hG hS => ?_)
  have hM := MD.seti (k := 1) (upd (F1 1) (Iv 41).toNatClampNeg 0) hM rfl
  have hF := hF.wa (k := 1) (e' := .inl (cy 1, mdN 1, .inl (upd (F1 1) (Iv 41).toNatClampNeg 0))) rfl
  obtain ⟨F3, eF3⟩ : ∃ g, g = va_up F1 1 (upd (F1 1) (Iv 41).toNatClampNeg 0) := ⟨_, rfl⟩
  rw [← eF3] at hM
  generalize mm_set _ _ _ = G4 at hG hM hF
  refine lv_aload_n hx hb dX14_clear_20 rfl (lv_at hl 0 rfl) ?_
  refine mm_get (v := .ref (Ar 2)) hx hb hf_X14 (fun _ h9 => h9) hown hK hG hM.1 rfl 2 (by decide) (tb_use hT tw_1393) (fun _ h9 => h9) rfl dX14_clear_21 ?_
  refine lv_aload_n hx hb dX14_clear_24 rfl (lv_at hl 0 rfl) ?_
  refine mm_get (v := .int (Iv 41)) hx hb hf_X14 (fun _ h9 => h9) hown hK hG hM.1 rfl 41 (by decide) (tb_use hT tw_1432) (fun _ h9 => h9) rfl dX14_clear_25 ?_
  refine lv_iconst (v := 0) hx hb dX14_clear_28 (by decide) ?_
  refine mm_iast (n := mdN 2) (f := F3 2) hx hb hK hG hS 1 (hM.2.1 2 rfl) rfl h41 dX14_clear_29 (fun H locs hG hS => ?_)
  have hM := MD.seti (k := 2) (upd (F3 2) (Iv 41).toNatClampNeg 0) hM rfl
  have hF := hF.wa (k := 2) (e' := .inl (cy 1, mdN 2, .inl (upd (F3 2) (Iv 41).toNatClampNeg 0))) rfl
  obtain ⟨F5, eF5⟩ : ∃ g, g = va_up F3 2 (upd (F3 2) (Iv 41).toNatClampNeg 0) := ⟨_, rfl⟩
  rw [← eF5] at hM
  generalize mm_set _ _ _ = G6 at hG hM hF
  refine lv_aload_n hx hb dX14_clear_30 rfl (lv_at hl 0 rfl) ?_
  refine mm_get (v := .ref (Ar 3)) hx hb hf_X14 (fun _ h9 => h9) hown hK hG hM.1 rfl 3 (by decide) (tb_use hT tw_1394) (fun _ h9 => h9) rfl dX14_clear_31 ?_
  refine lv_aload_n hx hb dX14_clear_34 rfl (lv_at hl 0 rfl) ?_
  refine mm_get (v := .int (Iv 41)) hx hb hf_X14 (fun _ h9 => h9) hown hK hG hM.1 rfl 41 (by decide) (tb_use hT tw_1432) (fun _ h9 => h9) rfl dX14_clear_35 ?_
  refine lv_iconst (v := 0) hx hb dX14_clear_38 (by decide) ?_
  refine mm_iast (n := mdN 3) (f := F5 3) hx hb hK hG hS 1 (hM.2.1 3 rfl) rfl h41 dX14_clear_39 (fun H locs hG hS => ?_)
  have hM := MD.seti (k := 3) (upd (F5 3) (Iv 41).toNatClampNeg 0) hM rfl
  have hF := hF.wa (k := 3) (e' := .inl (cy 1, mdN 3, .inl (upd (F5 3) (Iv 41).toNatClampNeg 0))) rfl
  obtain ⟨F7, eF7⟩ : ∃ g, g = va_up F5 3 (upd (F5 3) (Iv 41).toNatClampNeg 0) := ⟨_, rfl⟩
  rw [← eF7] at hM
  generalize mm_set _ _ _ = G8 at hG hM hF
  refine lv_aload_n hx hb dX14_clear_40 rfl (lv_at hl 0 rfl) ?_
  refine mm_get (v := .ref (Ar 4)) hx hb hf_X14 (fun _ h9 => h9) hown hK hG hM.1 rfl 4 (by decide) (tb_use hT tw_1395) (fun _ h9 => h9) rfl dX14_clear_41 ?_
  refine lv_aload_n hx hb dX14_clear_44 rfl (lv_at hl 0 rfl) ?_
  refine mm_get (v := .int (Iv 41)) hx hb hf_X14 (fun _ h9 => h9) hown hK hG hM.1 rfl 41 (by decide) (tb_use hT tw_1432) (fun _ h9 => h9) rfl dX14_clear_45 ?_
  refine lv_iconst (v := 0) hx hb dX14_clear_48 (by decide) ?_
  refine mm_iast (n := mdN 4) (f := F7 4) hx hb hK hG hS 1 (hM.2.1 4 rfl) rfl h41 dX14_clear_49 (fun H locs hG hS => ?_)
  have hM := MD.seti (k := 4) (upd (F7 4) (Iv 41).toNatClampNeg 0) hM rfl
  have hF := hF.wa (k := 4) (e' := .inl (cy 1, mdN 4, .inl (upd (F7 4) (Iv 41).toNatClampNeg 0))) rfl
  obtain ⟨F9, eF9⟩ : ∃ g, g = va_up F7 4 (upd (F7 4) (Iv 41).toNatClampNeg 0) := ⟨_, rfl⟩
  rw [← eF9] at hM
  generalize mm_set _ _ _ = G10 at hG hM hF
  refine lv_aload_n hx hb dX14_clear_50 rfl (lv_at hl 0 rfl) ?_
  refine mm_get (v := .ref (Ar 5)) hx hb hf_X14 (fun _ h9 => h9) hown hK hG hM.1 rfl 5 (by decide) (tb_use hT tw_1396) (fun _ h9 => h9) rfl dX14_clear_51 ?_
  refine lv_aload_n hx hb dX14_clear_54 rfl (lv_at hl 0 rfl) ?_
  refine mm_get (v := .int (Iv 41)) hx hb hf_X14 (fun _ h9 => h9) hown hK hG hM.1 rfl 41 (by decide) (tb_use hT tw_1432) (fun _ h9 => h9) rfl dX14_clear_55 ?_
  refine lv_iconst (v := 0) hx hb dX14_clear_58 (by decide) ?_
  refine mm_iast (n := mdN 5) (f := F9 5) hx hb hK hG hS 1 (hM.2.1 5 rfl) rfl h41 dX14_clear_59 (fun H locs hG hS => ?_)
  have hM := MD.seti (k := 5) (upd (F9 5) (Iv 41).toNatClampNeg 0) hM rfl
  have hF := hF.wa (k := 5) (e' := .inl (cy 1, mdN 5, .inl (upd (F9 5) (Iv 41).toNatClampNeg 0))) rfl
  obtain ⟨F11, eF11⟩ : ∃ g, g = va_up F9 5 (upd (F9 5) (Iv 41).toNatClampNeg 0) := ⟨_, rfl⟩
  rw [← eF11] at hM
  generalize mm_set _ _ _ = G12 at hG hM hF
  refine lv_aload_n hx hb dX14_clear_60 rfl (lv_at hl 0 rfl) ?_
  refine mm_get (v := .ref (Ar 6)) hx hb hf_X14 (fun _ h9 => h9) hown hK hG hM.1 rfl 6 (by decide) (tb_use hT tw_1397) (fun _ h9 => h9) rfl dX14_clear_61 ?_
  refine lv_aload_n hx hb dX14_clear_64 rfl (lv_at hl 0 rfl) ?_
  refine mm_get (v := .int (Iv 41)) hx hb hf_X14 (fun _ h9 => h9) hown hK hG hM.1 rfl 41 (by decide) (tb_use hT tw_1432) (fun _ h9 => h9) rfl dX14_clear_65 ?_
  refine lv_iconst (v := 0) hx hb dX14_clear_68 (by decide) ?_
  refine mm_iast (n := mdN 6) (f := F11 6) hx hb hK hG hS 1 (hM.2.1 6 rfl) rfl h41 dX14_clear_69 (fun H locs hG hS => ?_)
  have hM := MD.seti (k := 6) (upd (F11 6) (Iv 41).toNatClampNeg 0) hM rfl
  have hF := hF.wa (k := 6) (e' := .inl (cy 1, mdN 6, .inl (upd (F11 6) (Iv 41).toNatClampNeg 0))) rfl
  obtain ⟨F13, eF13⟩ : ∃ g, g = va_up F11 6 (upd (F11 6) (Iv 41).toNatClampNeg 0) := ⟨_, rfl⟩
  rw [← eF13] at hM
  generalize mm_set _ _ _ = G14 at hG hM hF
  have hc : F13 = clF F (Iv 41).toNatClampNeg := by
    subst eF1 eF3 eF5 eF7 eF9 eF11 eF13
    funext j
    match j with
    | 0 => rfl
    | 1 => rfl
    | 2 => rfl
    | 3 => rfl
    | 4 => rfl
    | 5 => rfl
    | 6 => rfl
    | j + 7 => rw [va_up_ne _ _ (by omega), va_up_ne _ _ (by omega), va_up_ne _ _ (by omega), va_up_ne _ _ (by omega), va_up_ne _ _ (by omega), va_up_ne _ _ (by omega), va_up_ne _ _ (by omega)]; unfold clF; rw [if_neg (by omega)]
  exact W.vret hx hb hr (fun t ht hW => ⟨⟨_, rfl, ⟨(by rw [hc] at hM; exact hM), hF⟩, mk_end hG ht⟩, hS.F ht⟩) hS.2.2 dX14_clear_70

set_option maxHeartbeats 4000000 in
set_option maxRecDepth 100000 in
theorem c_X14_next_e (l : Launch) (D : va_G) (cy : Nat → ClassId) (A : Nat → Prop) (X : State → Prop) (hst : mk_St A X) (hXT : ∀ U : State, X U → TB U) (G : Nat → Option va_E) (o : Nat) (Ar : Nat → Nat) (Iv : Nat → Int32) (F : Nat → Nat → Int32) (L : Nat → Nat → Int64)  (hM : MD cy G o Ar Iv F L) (hat : Iv 49 ≤ Iv 50) : Met l yX14_next [.code yX14_next cX14_next 4 none] ({ frames := 1, cells := 0, slots := 0, locals := 30 }) (mk_Pre D vwCl (tyL cy) A X G [.ref o]) (va_Qv (fun (G2 : Nat → Option va_E) => MD cy G2 o Ar (upd (upd (upd Iv 54 (Iv 51)) 53 (-1)) 52 0) F L ∧ MF G G2 o Ar) (mk_B D vwCl A) A) 0 0 A := by
  refine Met.ofW (cc := cX14_next) (maxL := 4) (ret := none) (by decide) rfl ?_
  intro p e s m args below meth c s₁ B hml hv
  obtain ⟨rfl, hG, hK, hA, hX⟩ := hv
  have hx := B.exec
  have hb := B.bytes
  have hr := B.returns
  have hlocks := B.notSynchronized
  have hT := hXT s hX
  have hown : s.vm.findClass RX14 = some m.cls := findClass_of_methodNamed B.named
  have hf_X14 : ∀ w ∈ u_ws RX14 TX14 76, w.before ([.ref o] : List Value).toArray s = true := tb_list hT fX14
  have hS : va_S A s.heap s.heap [] := va_S.rf
  have hl := lv_entry ([.ref o]) (n := 4) (Nat.le_of_ble_eq_true rfl)
  rw [lg_entry_eq]
  generalize (lg_sl ([.ref o]) ++ List.replicate (4 - (lg_sl ([.ref o])).length) Slot.unset).toArray = ls at hl ⊢
  have hl : lv_has ls 4 [(0, .ref o)] := hl
  have hF : MF G G o Ar := MF.rf
  refine lv_aload_n hx hb dX14_next_0 rfl (lv_at hl 0 rfl) ?_
  refine va_calli (va_runV (As := []) (rest := []) ⟨hx, hb, hml, hown, (fun _ h9 => absurd h9 List.not_mem_nil : ∀ w ∈ ([] : List Cond), w.before _ s = true)⟩ (c_X14_here_e l D cy A X hst hXT G o Ar Iv F L hM (by skip; exact hat)) (tb_cw (C := RX14) 0 hT tw_1648 tw_109 tw_1645 tw_1647 tw_63 rfl rfl (by decide +kernel) ⟨Nat.le_of_ble_eq_true rfl, Nat.le_of_ble_eq_true rfl⟩) (mk_preV hst hG hK hA hX hS (ci := 15) rfl hM.1) rfl rfl hl.1 rfl (lv_room (Nat.le_of_ble_eq_true rfl)) dX14_next_1 ⟨Nat.le_of_ble_eq_true rfl, Nat.le_of_ble_eq_true rfl⟩) hS (fun q _ h => h) (fun q h => h) (fun r1 G2 t H1 locs ht hvm hw hB hz1 hk1 hS => ?_)
  have hG : mm D vwCl A G2 H1 := by rw [← ht]; exact hB
  clear hB hz1 hk1 hvm ht
  generalize H1 = H at hG hS ⊢
  obtain ⟨er1, hw⟩ := hw
  rw [hw] at hG
  refine lv_bipush (v := 9) hx hb dX14_next_4 (by decide) ?_
  refine lv_icmp_eq (tgt := 36) hx hb dX14_next_6 (by decide) (fun c_6 => ?_) (fun c_6 => ?_)
  · skip
    (rw [er1] at c_6; exact absurd c_6 (by decide))
  · skip
    refine lv_aload_n hx hb dX14_next_9 rfl (lv_at hl 0 rfl) ?_
    refine va_calli (va_runV (As := []) (rest := []) ⟨hx, hb, hml, hown, (fun _ h9 => absurd h9 List.not_mem_nil : ∀ w ∈ ([] : List Cond), w.before _ s = true)⟩ (c_X14_here_e l D cy A X hst hXT G o Ar Iv F L hM (by skip; exact hat)) (tb_cw (C := RX14) 0 hT tw_1648 tw_109 tw_1645 tw_1647 tw_63 rfl rfl (by decide +kernel) ⟨Nat.le_of_ble_eq_true rfl, Nat.le_of_ble_eq_true rfl⟩) (mk_preV hst hG hK hA hX hS (ci := 15) rfl hM.1) rfl rfl hl.1 rfl (lv_room (Nat.le_of_ble_eq_true rfl)) dX14_next_10 ⟨Nat.le_of_ble_eq_true rfl, Nat.le_of_ble_eq_true rfl⟩) hS (fun q _ h => h) (fun q h => h) (fun r3 G4 t H1 locs ht hvm hw hB hz1 hk1 hS => ?_)
    have hG : mm D vwCl A G4 H1 := by rw [← ht]; exact hB
    clear hB hz1 hk1 hvm ht
    generalize H1 = H at hG hS ⊢
    obtain ⟨er3, hw⟩ := hw
    rw [hw] at hG
    refine lv_bipush (v := 10) hx hb dX14_next_13 (by decide) ?_
    refine lv_icmp_eq (tgt := 36) hx hb dX14_next_15 (by decide) (fun c_15 => ?_) (fun c_15 => ?_)
    · skip
      (rw [er3] at c_15; exact absurd c_15 (by decide))
    · skip
      refine lv_aload_n hx hb dX14_next_18 rfl (lv_at hl 0 rfl) ?_
      refine va_calli (va_runV (As := []) (rest := []) ⟨hx, hb, hml, hown, (fun _ h9 => absurd h9 List.not_mem_nil : ∀ w ∈ ([] : List Cond), w.before _ s = true)⟩ (c_X14_here_e l D cy A X hst hXT G o Ar Iv F L hM (by skip; exact hat)) (tb_cw (C := RX14) 0 hT tw_1648 tw_109 tw_1645 tw_1647 tw_63 rfl rfl (by decide +kernel) ⟨Nat.le_of_ble_eq_true rfl, Nat.le_of_ble_eq_true rfl⟩) (mk_preV hst hG hK hA hX hS (ci := 15) rfl hM.1) rfl rfl hl.1 rfl (lv_room (Nat.le_of_ble_eq_true rfl)) dX14_next_19 ⟨Nat.le_of_ble_eq_true rfl, Nat.le_of_ble_eq_true rfl⟩) hS (fun q _ h => h) (fun q h => h) (fun r5 G6 t H1 locs ht hvm hw hB hz1 hk1 hS => ?_)
      have hG : mm D vwCl A G6 H1 := by rw [← ht]; exact hB
      clear hB hz1 hk1 hvm ht
      generalize H1 = H at hG hS ⊢
      obtain ⟨er5, hw⟩ := hw
      rw [hw] at hG
      refine lv_bipush (v := 13) hx hb dX14_next_22 (by decide) ?_
      refine lv_icmp_eq (tgt := 36) hx hb dX14_next_24 (by decide) (fun c_24 => ?_) (fun c_24 => ?_)
      · skip
        (rw [er5] at c_24; exact absurd c_24 (by decide))
      · skip
        refine lv_aload_n hx hb dX14_next_27 rfl (lv_at hl 0 rfl) ?_
        refine va_calli (va_runV (As := []) (rest := []) ⟨hx, hb, hml, hown, (fun _ h9 => absurd h9 List.not_mem_nil : ∀ w ∈ ([] : List Cond), w.before _ s = true)⟩ (c_X14_here_e l D cy A X hst hXT G o Ar Iv F L hM (by skip; exact hat)) (tb_cw (C := RX14) 0 hT tw_1648 tw_109 tw_1645 tw_1647 tw_63 rfl rfl (by decide +kernel) ⟨Nat.le_of_ble_eq_true rfl, Nat.le_of_ble_eq_true rfl⟩) (mk_preV hst hG hK hA hX hS (ci := 15) rfl hM.1) rfl rfl hl.1 rfl (lv_room (Nat.le_of_ble_eq_true rfl)) dX14_next_28 ⟨Nat.le_of_ble_eq_true rfl, Nat.le_of_ble_eq_true rfl⟩) hS (fun q _ h => h) (fun q h => h) (fun r7 G8 t H1 locs ht hvm hw hB hz1 hk1 hS => ?_)
        have hG : mm D vwCl A G8 H1 := by rw [← ht]; exact hB
        clear hB hz1 hk1 hvm ht
        generalize H1 = H at hG hS ⊢
        obtain ⟨er7, hw⟩ := hw
        rw [hw] at hG
        refine lv_bipush (v := 32) hx hb dX14_next_31 (by decide) ?_
        refine lv_icmp_ne (tgt := 68) hx hb dX14_next_33 (by decide) (fun c_33 => ?_) (fun c_33 => ?_)
        · skip
          refine lv_aload_n hx hb dX14_next_68 rfl (lv_at hl 0 rfl) ?_
          refine lv_aload_n hx hb dX14_next_69 rfl (lv_at hl 0 rfl) ?_
          refine mm_get (v := .int (Iv 51)) hx hb hf_X14 (fun _ h9 => h9) hown hK hG hM.1 rfl 51 (by decide) (tb_use hT tw_1442) (fun _ h9 => h9) rfl dX14_next_70 ?_
          refine lv_topi (fun x9 ex9 => ?_)
          refine mm_put (v := .int x9) (ty := .int) hx hb hf_X14 (fun _ h9 => h9) tyX14 tyX14_ok nmX14 hown hK hG hS hM.1 rfl 54 (by decide) (tb_use hT tw_1445) (fun _ h9 => h9) rfl (by decide +kernel) rfl rfl (Nat.le_of_ble_eq_true rfl) dX14_next_73 (fun H locs hG hS => ?_)
          have hM := MD.puti (k := 54) (v := x9) hM rfl
          have hF := hF.wo (e' := .inr (15, (mfs Ar Iv).set 54 (.int x9)))
          obtain ⟨I10, eI10⟩ : ∃ g, g = upd Iv 54 x9 := ⟨_, rfl⟩
          rw [← eI10] at hM
          generalize mm_set _ _ _ = G11 at hG hM hF
          refine lv_aload_n hx hb dX14_next_76 rfl (lv_at hl 0 rfl) ?_
          refine mm_get (v := .int (Iv 50)) hx hb hf_X14 (fun _ h9 => h9) hown hK hG hM.1 rfl 50 (by decide) (tb_use hT tw_1441) (fun _ h9 => h9) (by rw [eI10]; rfl) dX14_next_77 ?_
          refine lv_topi (fun x12 ex12 => ?_)
          refine lv_istore_n (lv' := [(1, .int x12), (0, .ref o)]) hx hb dX14_next_80 rfl hl (by decide) rfl (fun ls hl => ?_)
          refine lv_aload_n hx hb dX14_next_81 rfl (lv_at hl 1 rfl) ?_
          refine va_calli (va_runV (As := []) (rest := []) ⟨hx, hb, hml, hown, (fun _ h9 => absurd h9 List.not_mem_nil : ∀ w ∈ ([] : List Cond), w.before _ s = true)⟩ (c_X14_here_e l D cy A X hst hXT G11 o Ar I10 F L hM (by rw [eI10]; exact hat)) (tb_cw (C := RX14) 0 hT tw_1648 tw_109 tw_1645 tw_1647 tw_63 rfl rfl (by decide +kernel) ⟨Nat.le_of_ble_eq_true rfl, Nat.le_of_ble_eq_true rfl⟩) (mk_preV hst hG hK hA hX hS (ci := 15) rfl hM.1) rfl rfl hl.1 rfl (lv_room (Nat.le_of_ble_eq_true rfl)) dX14_next_82 ⟨Nat.le_of_ble_eq_true rfl, Nat.le_of_ble_eq_true rfl⟩) hS (fun q _ h => h) (fun q h => h) (fun r13 G14 t H1 locs ht hvm hw hB hz1 hk1 hS => ?_)
          have hG : mm D vwCl A G14 H1 := by rw [← ht]; exact hB
          clear hB hz1 hk1 hvm ht
          generalize H1 = H at hG hS ⊢
          obtain ⟨er13, hw⟩ := hw
          rw [hw] at hG
          refine lv_istore_n (lv' := [(2, .int r13), (1, .int x12), (0, .ref o)]) hx hb dX14_next_85 rfl hl (by decide) rfl (fun ls hl => ?_)
          refine lv_aload_n hx hb dX14_next_86 rfl (lv_at hl 2 rfl) ?_
          refine lv_iload_n hx hb dX14_next_87 rfl (lv_at hl 0 rfl) ?_
          refine mm_put (v := .int r13) (ty := .int) hx hb hf_X14 (fun _ h9 => h9) tyX14 tyX14_ok nmX14 hown hK hG hS hM.1 rfl 53 (by decide) (tb_use hT tw_1444) (fun _ h9 => h9) rfl (by decide +kernel) rfl rfl (Nat.le_of_ble_eq_true rfl) dX14_next_88 (fun H locs hG hS => ?_)
          have hM := MD.puti (k := 53) (v := r13) hM rfl
          have hF := hF.wo (e' := .inr (15, (mfs Ar I10).set 53 (.int r13)))
          obtain ⟨I15, eI15⟩ : ∃ g, g = upd I10 53 r13 := ⟨_, rfl⟩
          rw [← eI15] at hM
          generalize mm_set _ _ _ = G16 at hG hM hF
          refine lv_iload_n hx hb dX14_next_91 rfl (lv_at hl 0 rfl) ?_
          refine lv_if_ge (tgt := 103) hx hb dX14_next_92 (by decide) (fun c_92 => ?_) (fun c_92 => ?_)
          · skip
            (rw [er13] at c_92; exact absurd c_92 (by decide))
          · skip
            refine lv_aload_n hx hb dX14_next_95 rfl (lv_at hl 2 rfl) ?_
            refine lv_iconst (v := 0) hx hb dX14_next_96 (by decide) ?_
            refine mm_put (v := .int 0) (ty := .int) hx hb hf_X14 (fun _ h9 => h9) tyX14 tyX14_ok nmX14 hown hK hG hS hM.1 rfl 52 (by decide) (tb_use hT tw_1443) (fun _ h9 => h9) rfl (by decide +kernel) rfl rfl (Nat.le_of_ble_eq_true rfl) dX14_next_97 (fun H locs hG hS => ?_)
            have hM := MD.puti (k := 52) (v := 0) hM rfl
            have hF := hF.wo (e' := .inr (15, (mfs Ar I15).set 52 (.int 0)))
            obtain ⟨I17, eI17⟩ : ∃ g, g = upd I15 52 0 := ⟨_, rfl⟩
            rw [← eI17] at hM
            generalize mm_set _ _ _ = G18 at hG hM hF
            refine lv_goto (tgt := 381) hx hb dX14_next_100 (by decide) ?_
            exact W.vret hx hb hr (fun t ht hW => ⟨⟨_, rfl, ⟨(by subst er1 er3 er5 er7 ex9 eI10 ex12 er13 eI15 eI17; exact hM), hF⟩, mk_end hG ht⟩, hS.F ht⟩) hS.2.2 dX14_next_381
        · skip
          (rw [er7] at c_33; exact absurd c_33 (by decide))

set_option maxHeartbeats 4000000 in
set_option maxRecDepth 100000 in
theorem c_X14_readInto_e (l : Launch) (D : va_G) (cy : Nat → ClassId) (A : Nat → Prop) (X : State → Prop) (hst : mk_St A X) (hXT : ∀ U : State, X U → TB U) (G : Nat → Option va_E) (o : Nat) (Ar : Nat → Nat) (Iv : Nat → Int32) (F : Nat → Nat → Int32) (L : Nat → Nat → Int64) (hM : MD cy G o Ar Iv F L) (h41 : Iv 41 = 0) (h47 : Ar 47 = Ar 40) : Met l yX14_readInto [.code yX14_readInto cX14_readInto 4 (some .int)] ({ frames := 2, cells := 0, slots := 0, locals := 60 }) (mk_Pre D vwCl (tyL cy) A X G [.ref o, .ref (Ar 40), .int 0, .int 0]) (va_Qi (fun (r : Int32) (G2 : Nat → Option va_E) => r = 0 ∧ ∃ (I2 : Nat → Int32) (F2 : Nat → Nat → Int32), MD cy G2 o Ar I2 F2 L ∧ MF G G2 o Ar ∧ I2 41 = 0 ∧ I2 58 = 0 ∧ I2 44 = Iv 44 ∧ F2 3 0 = 0) (mk_B D vwCl A) A) 0 0 A := by
  refine Met.ofW (cc := cX14_readInto) (maxL := 4) (ret := (some .int)) (by decide) rfl ?_
  intro p e s m args below meth c s₁ B hml hv
  obtain ⟨rfl, hG, hK, hA, hX⟩ := hv
  have hx := B.exec
  have hb := B.bytes
  have hr := B.returns
  have hlocks := B.notSynchronized
  have hT := hXT s hX
  have hown : s.vm.findClass RX14 = some m.cls := findClass_of_methodNamed B.named
  have hf_X14 : ∀ w ∈ u_ws RX14 TX14 76, w.before ([.ref o, .ref (Ar 40), .int 0, .int 0] : List Value).toArray s = true := tb_list hT fX14
  have hS : va_S A s.heap s.heap [] := va_S.rf
  have hl := lv_entry ([.ref o, .ref (Ar 40), .int 0, .int 0]) (n := 4) (Nat.le_of_ble_eq_true rfl)
  rw [lg_entry_eq]
  generalize (lg_sl ([.ref o, .ref (Ar 40), .int 0, .int 0]) ++ List.replicate (4 - (lg_sl ([.ref o, .ref (Ar 40), .int 0, .int 0])).length) Slot.unset).toArray = ls at hl ⊢
  have hl : lv_has ls 4 [(0, .ref o), (1, .ref (Ar 40)), (2, .int 0), (3, .int 0)] := hl
  have hF : MF G G o Ar := MF.rf
  refine lv_aload_n hx hb dX14_readInto_0 rfl (lv_at hl 0 rfl) ?_
  refine lv_aload_n hx hb dX14_readInto_1 rfl (lv_at hl 1 rfl) ?_
  refine mm_put (v := .ref (Ar 40)) (ty := .array .int) hx hb hf_X14 (fun _ h9 => h9) tyX14 tyX14_ok nmX14 hown hK hG hS hM.1 rfl 47 (by decide) (tb_use hT tw_1438) (fun _ h9 => h9) rfl (by decide +kernel) rfl rfl (Nat.le_of_ble_eq_true rfl) dX14_readInto_2 (fun H locs hG hS => ?_)
  have hM := MD.puts (a := (Ar 40)) hM rfl
  have hF := hF.wo (e' := .inr (15, (mfs Ar Iv).set 47 (.ref (Ar 40))))
  rw [va_up_same h47] at hM
  generalize mm_set _ _ _ = G1 at hG hM hF
  refine lv_aload_n hx hb dX14_readInto_5 rfl (lv_at hl 0 rfl) ?_
  refine lv_iload_n hx hb dX14_readInto_6 rfl (lv_at hl 2 rfl) ?_
  refine mm_put (v := .int 0) (ty := .int) hx hb hf_X14 (fun _ h9 => h9) tyX14 tyX14_ok nmX14 hown hK hG hS hM.1 rfl 48 (by decide) (tb_use hT tw_1439) (fun _ h9 => h9) rfl (by decide +kernel) rfl rfl (Nat.le_of_ble_eq_true rfl) dX14_readInto_7 (fun H locs hG hS => ?_)
  have hM := MD.puti (k := 48) (v := 0) hM rfl
  have hF := hF.wo (e' := .inr (15, (mfs Ar Iv).set 48 (.int 0)))
  obtain ⟨I2, eI2⟩ : ∃ g, g = upd Iv 48 0 := ⟨_, rfl⟩
  rw [← eI2] at hM
  generalize mm_set _ _ _ = G3 at hG hM hF
  refine lv_aload_n hx hb dX14_readInto_10 rfl (lv_at hl 0 rfl) ?_
  refine lv_iload_n hx hb dX14_readInto_11 rfl (lv_at hl 2 rfl) ?_
  refine mm_put (v := .int 0) (ty := .int) hx hb hf_X14 (fun _ h9 => h9) tyX14 tyX14_ok nmX14 hown hK hG hS hM.1 rfl 50 (by decide) (tb_use hT tw_1441) (fun _ h9 => h9) rfl (by decide +kernel) rfl rfl (Nat.le_of_ble_eq_true rfl) dX14_readInto_12 (fun H locs hG hS => ?_)
  have hM := MD.puti (k := 50) (v := 0) hM rfl
  have hF := hF.wo (e' := .inr (15, (mfs Ar I2).set 50 (.int 0)))
  obtain ⟨I4, eI4⟩ : ∃ g, g = upd I2 50 0 := ⟨_, rfl⟩
  rw [← eI4] at hM
  generalize mm_set _ _ _ = G5 at hG hM hF
  refine lv_aload_n hx hb dX14_readInto_15 rfl (lv_at hl 0 rfl) ?_
  refine lv_iload_n hx hb dX14_readInto_16 rfl (lv_at hl 2 rfl) ?_
  refine lv_iload_n hx hb dX14_readInto_17 rfl (lv_at hl 3 rfl) ?_
  refine lv_iadd hx hb dX14_readInto_18 ?_
  refine lv_topi (fun x6 ex6 => ?_)
  refine mm_put (v := .int x6) (ty := .int) hx hb hf_X14 (fun _ h9 => h9) tyX14 tyX14_ok nmX14 hown hK hG hS hM.1 rfl 49 (by decide) (tb_use hT tw_1440) (fun _ h9 => h9) rfl (by decide +kernel) rfl rfl (Nat.le_of_ble_eq_true rfl) dX14_readInto_19 (fun H locs hG hS => ?_)
  have hM := MD.puti (k := 49) (v := x6) hM rfl
  have hF := hF.wo (e' := .inr (15, (mfs Ar I4).set 49 (.int x6)))
  obtain ⟨I7, eI7⟩ : ∃ g, g = upd I4 49 x6 := ⟨_, rfl⟩
  rw [← eI7] at hM
  generalize mm_set _ _ _ = G8 at hG hM hF
  refine lv_aload_n hx hb dX14_readInto_22 rfl (lv_at hl 0 rfl) ?_
  refine lv_iconst (v := 1) hx hb dX14_readInto_23 (by decide) ?_
  refine mm_put (v := .int 1) (ty := .int) hx hb hf_X14 (fun _ h9 => h9) tyX14 tyX14_ok nmX14 hown hK hG hS hM.1 rfl 51 (by decide) (tb_use hT tw_1442) (fun _ h9 => h9) rfl (by decide +kernel) rfl rfl (Nat.le_of_ble_eq_true rfl) dX14_readInto_24 (fun H locs hG hS => ?_)
  have hM := MD.puti (k := 51) (v := 1) hM rfl
  have hF := hF.wo (e' := .inr (15, (mfs Ar I7).set 51 (.int 1)))
  obtain ⟨I9, eI9⟩ : ∃ g, g = upd I7 51 1 := ⟨_, rfl⟩
  rw [← eI9] at hM
  generalize mm_set _ _ _ = G10 at hG hM hF
  refine lv_aload_n hx hb dX14_readInto_27 rfl (lv_at hl 0 rfl) ?_
  refine lv_iconst (v := 1) hx hb dX14_readInto_28 (by decide) ?_
  refine mm_put (v := .int 1) (ty := .boolean) hx hb hf_X14 (fun _ h9 => h9) tyX14 tyX14_ok nmX14 hown hK hG hS hM.1 rfl 55 (by decide) (tb_use hT tw_1446) (fun _ h9 => h9) rfl (by decide +kernel) rfl rfl (Nat.le_of_ble_eq_true rfl) dX14_readInto_29 (fun H locs hG hS => ?_)
  have hM := MD.puti (k := 55) (v := 1) hM rfl
  have hF := hF.wo (e' := .inr (15, (mfs Ar I9).set 55 (.int 1)))
  obtain ⟨I11, eI11⟩ : ∃ g, g = upd I9 55 1 := ⟨_, rfl⟩
  rw [← eI11] at hM
  generalize mm_set _ _ _ = G12 at hG hM hF
  refine lv_aload_n hx hb dX14_readInto_32 rfl (lv_at hl 0 rfl) ?_
  refine lv_iconst (v := 0) hx hb dX14_readInto_33 (by decide) ?_
  refine mm_put (v := .int 0) (ty := .int) hx hb hf_X14 (fun _ h9 => h9) tyX14 tyX14_ok nmX14 hown hK hG hS hM.1 rfl 58 (by decide) (tb_use hT tw_1449) (fun _ h9 => h9) rfl (by decide +kernel) rfl rfl (Nat.le_of_ble_eq_true rfl) dX14_readInto_34 (fun H locs hG hS => ?_)
  have hM := MD.puti (k := 58) (v := 0) hM rfl
  have hF := hF.wo (e' := .inr (15, (mfs Ar I11).set 58 (.int 0)))
  obtain ⟨I13, eI13⟩ : ∃ g, g = upd I11 58 0 := ⟨_, rfl⟩
  rw [← eI13] at hM
  generalize mm_set _ _ _ = G14 at hG hM hF
  refine lv_aload_n hx hb dX14_readInto_37 rfl (lv_at hl 0 rfl) ?_
  refine va_callv (va_runV (As := []) (rest := []) ⟨hx, hb, hml, hown, (fun _ h9 => absurd h9 List.not_mem_nil : ∀ w ∈ ([] : List Cond), w.before _ s = true)⟩ (c_X14_clear l D cy A X hst hXT G14 o Ar I13 F L hM (by rw [eI13, eI11, eI9, eI7, eI4, eI2]; show vp_in (Iv 41) 2; rw [h41]; exact vp_in_lt (by decide) (by decide : (0 : Int32) < 2) rfl)) (tb_cw (C := RX14) 0 hT tw_1640 tw_109 tw_1637 tw_1639 tw_61 rfl rfl (by decide +kernel) ⟨Nat.le_of_ble_eq_true rfl, Nat.le_of_ble_eq_true rfl⟩) (mk_preV hst hG hK hA hX hS (ci := 15) rfl hM.1) rfl rfl hl.1 rfl (lv_room (Nat.le_of_ble_eq_true rfl)) dX14_readInto_38 ⟨Nat.le_of_ble_eq_true rfl, Nat.le_of_ble_eq_true rfl⟩) hS (fun q _ h => h) (fun q h => h) (fun  G15 t H1 locs ht hvm hw hB hz1 hk1 hS => ?_)
  have hG : mm D vwCl A G15 H1 := by rw [← ht]; exact hB
  clear hB hz1 hk1 hvm ht
  generalize H1 = H at hG hS ⊢
  obtain ⟨hM2, hF2⟩ := hw
  replace hF := hF.tr hF2
  replace hM := hM2; clear hM2 hF2
  obtain ⟨F16, eF16⟩ : ∃ z, z = clF F (I13 41).toNatClampNeg := ⟨_, rfl⟩
  rw [← eF16] at hM
  refine lv_aload_n hx hb dX14_readInto_41 rfl (lv_at hl 0 rfl) ?_
  refine va_callv (va_runV (As := []) (rest := []) ⟨hx, hb, hml, hown, (fun _ h9 => absurd h9 List.not_mem_nil : ∀ w ∈ ([] : List Cond), w.before _ s = true)⟩ (c_X14_next_e l D cy A X hst hXT G15 o Ar I13 F16 L hM (by rw [eI13, eI11, eI9, eI7, eI4, eI2]; show x6 ≤ (0 : Int32); rw [ex6]; decide)) (tb_cw (C := RX14) 0 hT tw_1644 tw_109 tw_1641 tw_1643 tw_62 rfl rfl (by decide +kernel) ⟨Nat.le_of_ble_eq_true rfl, Nat.le_of_ble_eq_true rfl⟩) (mk_preV hst hG hK hA hX hS (ci := 15) rfl hM.1) rfl rfl hl.1 rfl (lv_room (Nat.le_of_ble_eq_true rfl)) dX14_readInto_42 ⟨Nat.le_of_ble_eq_true rfl, Nat.le_of_ble_eq_true rfl⟩) hS (fun q _ h => h) (fun q h => h) (fun  G17 t H1 locs ht hvm hw hB hz1 hk1 hS => ?_)
  have hG : mm D vwCl A G17 H1 := by rw [← ht]; exact hB
  clear hB hz1 hk1 hvm ht
  generalize H1 = H at hG hS ⊢
  obtain ⟨hM2, hF2⟩ := hw
  replace hF := hF.tr hF2
  replace hM := hM2; clear hM2 hF2
  obtain ⟨I18, eI18⟩ : ∃ z, z = upd (upd (upd I13 54 (I13 51)) 53 (-1)) 52 0 := ⟨_, rfl⟩
  rw [← eI18] at hM
  refine lv_aload_n hx hb dX14_readInto_45 rfl (lv_at hl 0 rfl) ?_
  refine mm_get (v := .int 1) hx hb hf_X14 (fun _ h9 => h9) hown hK hG hM.1 rfl 55 (by decide) (tb_use hT tw_1446) (fun _ h9 => h9) (by rw [eI18, eI13, eI11, eI9, eI7, eI4, eI2]; rfl) dX14_readInto_46 ?_
  refine lv_if_eq (tgt := 66) hx hb dX14_readInto_49 (by decide) (fun c_49 => ?_) (fun c_49 => ?_)
  · skip
    exact absurd c_49 (by decide)
  · skip
    refine lv_aload_n hx hb dX14_readInto_52 rfl (lv_at hl 0 rfl) ?_
    refine mm_get (v := .int 0) hx hb hf_X14 (fun _ h9 => h9) hown hK hG hM.1 rfl 52 (by decide) (tb_use hT tw_1443) (fun _ h9 => h9) (by rw [eI18, eI13, eI11, eI9, eI7, eI4, eI2]; rfl) dX14_readInto_53 ?_
    refine lv_if_eq (tgt := 66) hx hb dX14_readInto_56 (by decide) (fun c_56 => ?_) (fun c_56 => ?_)
    · skip
      refine lv_aload_n hx hb dX14_readInto_66 rfl (lv_at hl 0 rfl) ?_
      refine mm_get (v := .int 1) hx hb hf_X14 (fun _ h9 => h9) hown hK hG hM.1 rfl 55 (by decide) (tb_use hT tw_1446) (fun _ h9 => h9) (by rw [eI18, eI13, eI11, eI9, eI7, eI4, eI2]; rfl) dX14_readInto_67 ?_
      refine lv_if_eq (tgt := 77) hx hb dX14_readInto_70 (by decide) (fun c_70 => ?_) (fun c_70 => ?_)
      · skip
        exact absurd c_70 (by decide)
      · skip
        refine lv_iconst (v := 0) hx hb dX14_readInto_73 (by decide) ?_
        refine lv_goto (tgt := 81) hx hb dX14_readInto_74 (by decide) ?_
        exact W.iret (v := 0) hx hb hr (fun t ht hW => ⟨⟨_, _, rfl, ⟨rfl, I18, F16, hM, hF, (by rw [eI18, eI13, eI11, eI9, eI7, eI4, eI2]; exact h41), (by rw [eI18, eI13, eI11, eI9, eI7, eI4, eI2]; rfl), (by rw [eI18, eI13, eI11, eI9, eI7, eI4, eI2]; rfl), (by rw [eF16]; unfold clF; rw [if_pos (by decide)]; exact pk_us2 (by rw [eI13, eI11, eI9, eI7, eI4, eI2]; exact h41))⟩, mk_end hG ht⟩, hS.F ht⟩) hS.2.2 dX14_readInto_81
    · skip
      exact absurd rfl c_56

set_option maxHeartbeats 4000000 in
set_option maxRecDepth 100000 in
theorem c_X14_firstWrong_e (l : Launch) (D : va_G) (cy : Nat → ClassId) (A : Nat → Prop) (X : State → Prop) (hst : mk_St A X) (hXT : ∀ U : State, X U → TB U) (G : Nat → Option va_E) (o : Nat) (Ar : Nat → Nat) (Iv : Nat → Int32) (F : Nat → Nat → Int32) (L : Nat → Nat → Int64)  (hM : MD cy G o Ar Iv F L) (h58 : Iv 58 = 0) : Met l yX14_firstWrong [.code yX14_firstWrong cX14_firstWrong 2 (some .int)] ({ frames := 0, cells := 0, slots := 0, locals := 0 }) (mk_Pre D vwCl (tyL cy) A X G [.ref o]) (va_Qi (fun (r : Int32) (G2 : Nat → Option va_E) => r = 0 ∧ G2 = G) (mk_B D vwCl A) A) 0 0 A := by
  refine Met.ofW (cc := cX14_firstWrong) (maxL := 2) (ret := (some .int)) (by decide) rfl ?_
  intro p e s m args below meth c s₁ B hml hv
  obtain ⟨rfl, hG, hK, hA, hX⟩ := hv
  have hx := B.exec
  have hb := B.bytes
  have hr := B.returns
  have hlocks := B.notSynchronized
  have hT := hXT s hX
  have hown : s.vm.findClass RX14 = some m.cls := findClass_of_methodNamed B.named
  have hf_X14 : ∀ w ∈ u_ws RX14 TX14 76, w.before ([.ref o] : List Value).toArray s = true := tb_list hT fX14
  have hS : va_S A s.heap s.heap [] := va_S.rf
  have hl := lv_entry ([.ref o]) (n := 2) (Nat.le_of_ble_eq_true rfl)
  rw [lg_entry_eq]
  generalize (lg_sl ([.ref o]) ++ List.replicate (2 - (lg_sl ([.ref o])).length) Slot.unset).toArray = ls at hl ⊢
  have hl : lv_has ls 2 [(0, .ref o)] := hl
  refine lv_iconst (v := 0) hx hb dX14_firstWrong_0 (by decide) ?_
  refine lv_istore_n (lv' := [(1, .int 0), (0, .ref o)]) hx hb dX14_firstWrong_1 rfl hl (by decide) rfl (fun ls hl => ?_)
  refine lv_iload_n hx hb dX14_firstWrong_2 rfl (lv_at hl 0 rfl) ?_
  refine lv_aload_n hx hb dX14_firstWrong_3 rfl (lv_at hl 1 rfl) ?_
  refine mm_get (v := .int (Iv 58)) hx hb hf_X14 (fun _ h9 => h9) hown hK hG hM.1 rfl 58 (by decide) (tb_use hT tw_1449) (fun _ h9 => h9) rfl dX14_firstWrong_4 ?_
  refine lv_icmp_ge (tgt := 48) hx hb dX14_firstWrong_7 (by decide) (fun c_7 => ?_) (fun c_7 => ?_)
  · skip
    refine lv_iconst (v := 0) hx hb dX14_firstWrong_48 (by decide) ?_
    exact W.iret (v := 0) hx hb hr (fun t ht hW => ⟨⟨_, _, rfl, ⟨rfl, rfl⟩, mk_end hG ht⟩, hS.F ht⟩) hS.2.2 dX14_firstWrong_49
  · skip
    exact absurd (by rw [h58]; decide) c_7

set_option maxHeartbeats 4000000 in
set_option maxRecDepth 100000 in
theorem c_X14_read_e (l : Launch) (D : va_G) (cy : Nat → ClassId) (A : Nat → Prop) (X : State → Prop) (hst : mk_St A X) (hXT : ∀ U : State, X U → TB U) (G : Nat → Option va_E) (o : Nat) (Ar : Nat → Nat) (Iv : Nat → Int32) (F : Nat → Nat → Int32) (L : Nat → Nat → Int64)  (hM : MD cy G o Ar Iv F L) (h39 : Iv 39 = 0) (h41 : Iv 41 = 0) (h44 : Iv 44 = 0) (h47 : Ar 47 = Ar 40) : Met l yX14_read [.code yX14_read cX14_read 4 (some .int)] ({ frames := 3, cells := 0, slots := 0, locals := 90 }) (mk_Pre D vwCl (tyL cy) A X G [.ref o]) (va_Qi (fun (r : Int32) (G2 : Nat → Option va_E) => r = 0 ∧ ∃ (I2 : Nat → Int32) (F2 : Nat → Nat → Int32) (L2 : Nat → Nat → Int64), MD cy G2 o Ar I2 F2 L2 ∧ MF G G2 o Ar) (mk_B D vwCl A) A) 0 0 A := by
  refine Met.ofW (cc := cX14_read) (maxL := 4) (ret := (some .int)) (by decide) rfl ?_
  intro p e s m args below meth c s₁ B hml hv
  obtain ⟨rfl, hG, hK, hA, hX⟩ := hv
  have hx := B.exec
  have hb := B.bytes
  have hr := B.returns
  have hlocks := B.notSynchronized
  have hT := hXT s hX
  have hown : s.vm.findClass RX14 = some m.cls := findClass_of_methodNamed B.named
  have hf_X14 : ∀ w ∈ u_ws RX14 TX14 76, w.before ([.ref o] : List Value).toArray s = true := tb_list hT fX14
  have hS : va_S A s.heap s.heap [] := va_S.rf
  have hl := lv_entry ([.ref o]) (n := 4) (Nat.le_of_ble_eq_true rfl)
  rw [lg_entry_eq]
  generalize (lg_sl ([.ref o]) ++ List.replicate (4 - (lg_sl ([.ref o])).length) Slot.unset).toArray = ls at hl ⊢
  have hl : lv_has ls 4 [(0, .ref o)] := hl
  have hF : MF G G o Ar := MF.rf
  have lp : ∀ (n : Nat) (k : Int32) (Lj : Nat → Nat → Int64) (Ij : Nat → Int32) (Fj : Nat → Nat → Int32), (n ≤ 128) → (k = nI (128 - n)) → (Ij 42 = 0) → (Fj 3 0 = 0) → ∀ (Gv : Nat → Option va_E), (MD cy Gv o Ar Ij Fj Lj) → (MF G Gv o Ar) → ∀ (H : Heap) (locs : List Loc), mm D vwCl A Gv H → va_S A s.heap H locs → ∀ ls : Array Slot, lv_has ls 4 [(0, .ref o), (3, .int k)] → W p l e (headSpec [.code yX14_read cX14_read 4 (some .int)] ({ frames := 3, cells := 0, slots := 0, locals := 90 })).room s m ([.ref o] : List Value).toArray below meth c H locs 0 0 (MQ below (va_Qi (fun (r : Int32) (G2 : Nat → Option va_E) => r = 0 ∧ ∃ (I2 : Nat → Int32) (F2 : Nat → Nat → Int32) (L2 : Nat → Nat → Int64), MD cy G2 o Ar I2 F2 L2 ∧ MF G G2 o Ar) (mk_B D vwCl A) A) ([.ref o] : List Value).toArray s 0 0 A) (F0 m 142 ls []) := by
    intro n
    induction n with
    | zero =>
      intro k Lj Ij Fj hn hk h42 h3 Gv hM hF H locs hG hS ls hl
      refine lv_iload_n hx hb dX14_read_142 rfl (lv_at hl 1 rfl) ?_
      refine lv_sipush (v := 128) hx hb dX14_read_143 (by decide) ?_
      refine lv_icmp_ge (tgt := 162) hx hb dX14_read_146 (by decide) (fun c_146 => ?_) (fun c_146 => ?_)
      · skip
        refine lv_aload_n hx hb dX14_read_162 rfl (lv_at hl 0 rfl) ?_
        refine lv_aload_n hx hb dX14_read_163 rfl (lv_at hl 0 rfl) ?_
        refine mm_get (v := .ref (Ar 2)) hx hb hf_X14 (fun _ h9 => h9) hown hK hG hM.1 rfl 2 (by decide) (tb_use hT tw_1393) (fun _ h9 => h9) rfl dX14_read_164 ?_
        refine lv_aload_n hx hb dX14_read_167 rfl (lv_at hl 0 rfl) ?_
        refine mm_get (v := .int (Ij 42)) hx hb hf_X14 (fun _ h9 => h9) hown hK hG hM.1 rfl 42 (by decide) (tb_use hT tw_1433) (fun _ h9 => h9) rfl dX14_read_168 ?_
        refine mm_iald (n := 2) (f := Fj 2) hx hb hK hG 1 (hM.2.1 2 rfl) rfl (by rw [h42]; exact vp_in_lt (m := 2) (by decide) (by decide) rfl) dX14_read_171 ?_
        refine lv_topi (fun x1 ex1 => ?_)
        refine lv_if_le (tgt := 179) hx hb dX14_read_172 (by decide) (fun c_172 => ?_) (fun c_172 => ?_)
        · skip
          refine lv_iconst (v := 0) hx hb dX14_read_179 (by decide) ?_
          refine mm_put (v := .int 0) (ty := .int) hx hb hf_X14 (fun _ h9 => h9) tyX14 tyX14_ok nmX14 hown hK hG hS hM.1 rfl 69 (by decide) (tb_use hT tw_1460) (fun _ h9 => h9) rfl (by decide +kernel) rfl rfl (Nat.le_of_ble_eq_true rfl) dX14_read_180 (fun H locs hG hS => ?_)
          have hM := MD.puti (k := 69) (v := 0) hM rfl
          have hF := hF.wo (e' := .inr (15, (mfs Ar Ij).set 69 (.int 0)))
          obtain ⟨I2, eI2⟩ : ∃ g, g = upd Ij 69 0 := ⟨_, rfl⟩
          rw [← eI2] at hM
          generalize mm_set _ _ _ = G3 at hG hM hF
          refine lv_aload_n hx hb dX14_read_183 rfl (lv_at hl 0 rfl) ?_
          refine mm_get (v := .ref (Ar 3)) hx hb hf_X14 (fun _ h9 => h9) hown hK hG hM.1 rfl 3 (by decide) (tb_use hT tw_1394) (fun _ h9 => h9) rfl dX14_read_184 ?_
          refine lv_aload_n hx hb dX14_read_187 rfl (lv_at hl 0 rfl) ?_
          refine mm_get (v := .int (Ij 42)) hx hb hf_X14 (fun _ h9 => h9) hown hK hG hM.1 rfl 42 (by decide) (tb_use hT tw_1433) (fun _ h9 => h9) (by rw [eI2]; rfl) dX14_read_188 ?_
          refine mm_iald (n := 2) (f := Fj 3) hx hb hK hG 1 (hM.2.1 3 rfl) rfl (by rw [h42]; exact vp_in_lt (m := 2) (by decide) (by decide) rfl) dX14_read_191 ?_
          refine lv_topi (fun x4 ex4 => ?_)
          exact W.iret (v := x4) hx hb hr (fun t ht hW => ⟨⟨_, _, rfl, ⟨(by rw [ex4, h42]; exact h3), _, _, _, hM, hF⟩, mk_end hG ht⟩, hS.F ht⟩) hS.2.2 dX14_read_192
        · skip
          refine lv_iconst (v := 1) hx hb dX14_read_175 (by decide) ?_
          refine lv_goto (tgt := 180) hx hb dX14_read_176 (by decide) ?_
          refine mm_put (v := .int 1) (ty := .int) hx hb hf_X14 (fun _ h9 => h9) tyX14 tyX14_ok nmX14 hown hK hG hS hM.1 rfl 69 (by decide) (tb_use hT tw_1460) (fun _ h9 => h9) rfl (by decide +kernel) rfl rfl (Nat.le_of_ble_eq_true rfl) dX14_read_180 (fun H locs hG hS => ?_)
          have hM := MD.puti (k := 69) (v := 1) hM rfl
          have hF := hF.wo (e' := .inr (15, (mfs Ar Ij).set 69 (.int 1)))
          obtain ⟨I5, eI5⟩ : ∃ g, g = upd Ij 69 1 := ⟨_, rfl⟩
          rw [← eI5] at hM
          generalize mm_set _ _ _ = G6 at hG hM hF
          refine lv_aload_n hx hb dX14_read_183 rfl (lv_at hl 0 rfl) ?_
          refine mm_get (v := .ref (Ar 3)) hx hb hf_X14 (fun _ h9 => h9) hown hK hG hM.1 rfl 3 (by decide) (tb_use hT tw_1394) (fun _ h9 => h9) rfl dX14_read_184 ?_
          refine lv_aload_n hx hb dX14_read_187 rfl (lv_at hl 0 rfl) ?_
          refine mm_get (v := .int (Ij 42)) hx hb hf_X14 (fun _ h9 => h9) hown hK hG hM.1 rfl 42 (by decide) (tb_use hT tw_1433) (fun _ h9 => h9) (by rw [eI5]; rfl) dX14_read_188 ?_
          refine mm_iald (n := 2) (f := Fj 3) hx hb hK hG 1 (hM.2.1 3 rfl) rfl (by rw [h42]; exact vp_in_lt (m := 2) (by decide) (by decide) rfl) dX14_read_191 ?_
          refine lv_topi (fun x7 ex7 => ?_)
          exact W.iret (v := x7) hx hb hr (fun t ht hW => ⟨⟨_, _, rfl, ⟨(by rw [ex7, h42]; exact h3), _, _, _, hM, hF⟩, mk_end hG ht⟩, hS.F ht⟩) hS.2.2 dX14_read_192
      · skip
        exact absurd (by rw [hk]; decide) c_146
    | succ n ih =>
      intro k Lj Ij Fj hn hk h42 h3 Gv hM hF H locs hG hS ls hl
      refine lv_iload_n hx hb dX14_read_142 rfl (lv_at hl 1 rfl) ?_
      refine lv_sipush (v := 128) hx hb dX14_read_143 (by decide) ?_
      refine lv_icmp_ge (tgt := 162) hx hb dX14_read_146 (by decide) (fun c_146 => ?_) (fun c_146 => ?_)
      · skip
        exact absurd c_146 (by rw [hk]; exact (nI_ge (by omega) (by decide) : ¬ nI 128 ≤ nI (128 - (n + 1))))
      · skip
        refine lv_aload_n hx hb dX14_read_149 rfl (lv_at hl 0 rfl) ?_
        refine mm_get (v := .ref (Ar 70)) hx hb hf_X14 (fun _ h9 => h9) hown hK hG hM.1 rfl 70 (by decide) (tb_use hT tw_1461) (fun _ h9 => h9) rfl dX14_read_150 ?_
        refine lv_iload_n hx hb dX14_read_153 rfl (lv_at hl 1 rfl) ?_
        refine lv_lconst (v := 0) hx hb dX14_read_154 (by decide) ?_
        refine mm_last (n := mdN 70) (f := Lj 70) hx hb hK hG hS 2 (hM.2.2.1 70 rfl) rfl (by rw [hk]; exact (vp_in_nI (by omega) (by decide) : vp_in (nI (128 - (n + 1))) 128)) dX14_read_155 (fun H locs hG hS => ?_)
        have hM := MD.setj (k := 70) (vp_updL (Lj 70) k.toNatClampNeg 0) hM rfl
        have hF := hF.wa (k := 70) (e' := .inl (cy 2, mdN 70, .inr (.inl (vp_updL (Lj 70) k.toNatClampNeg 0)))) rfl
        obtain ⟨L8, eL8⟩ : ∃ g, g = va_up Lj 70 (vp_updL (Lj 70) k.toNatClampNeg 0) := ⟨_, rfl⟩
        rw [← eL8] at hM
        generalize mm_set _ _ _ = G9 at hG hM hF
        obtain ⟨x10, ex10⟩ : ∃ y : Int32, y = k + 1 := ⟨_, rfl⟩
        refine lv_iinc (v := x10) (lv' := [(3, .int x10), (0, .ref o)]) hx hb dX14_read_156 hl (k := 1) rfl (by rw [ex10]; rfl) (by decide) rfl (fun ls hl => ?_)
        refine lv_goto (tgt := 142) hx hb dX14_read_159 (by decide) ?_
        exact ih x10 L8 Ij Fj (by omega) (by rw [ex10, hk, nI_1]; congr 1; omega) h42 h3 G9 hM hF _ _ hG hS ls (lv_sub hl [1, 0] rfl)
  refine lv_aload_n hx hb dX14_read_0 rfl (lv_at hl 0 rfl) ?_
  refine lv_iconst (v := 0) hx hb dX14_read_1 (by decide) ?_
  refine mm_put (v := .int 0) (ty := .int) hx hb hf_X14 (fun _ h9 => h9) tyX14 tyX14_ok nmX14 hown hK hG hS hM.1 rfl 38 (by decide) (tb_use hT tw_1429) (fun _ h9 => h9) rfl (by decide +kernel) rfl rfl (Nat.le_of_ble_eq_true rfl) dX14_read_2 (fun H locs hG hS => ?_)
  have hM := MD.puti (k := 38) (v := 0) hM rfl
  have hF := hF.wo (e' := .inr (15, (mfs Ar Iv).set 38 (.int 0)))
  obtain ⟨I11, eI11⟩ : ∃ g, g = upd Iv 38 0 := ⟨_, rfl⟩
  rw [← eI11] at hM
  generalize mm_set _ _ _ = G12 at hG hM hF
  refine lv_aload_n hx hb dX14_read_5 rfl (lv_at hl 0 rfl) ?_
  refine lv_iconst (v := 0) hx hb dX14_read_6 (by decide) ?_
  refine mm_put (v := .int 0) (ty := .int) hx hb hf_X14 (fun _ h9 => h9) tyX14 tyX14_ok nmX14 hown hK hG hS hM.1 rfl 63 (by decide) (tb_use hT tw_1454) (fun _ h9 => h9) rfl (by decide +kernel) rfl rfl (Nat.le_of_ble_eq_true rfl) dX14_read_7 (fun H locs hG hS => ?_)
  have hM := MD.puti (k := 63) (v := 0) hM rfl
  have hF := hF.wo (e' := .inr (15, (mfs Ar I11).set 63 (.int 0)))
  obtain ⟨I13, eI13⟩ : ∃ g, g = upd I11 63 0 := ⟨_, rfl⟩
  rw [← eI13] at hM
  generalize mm_set _ _ _ = G14 at hG hM hF
  refine lv_aload_n hx hb dX14_read_10 rfl (lv_at hl 0 rfl) ?_
  refine mm_get (v := .int (Iv 39)) hx hb hf_X14 (fun _ h9 => h9) hown hK hG hM.1 rfl 39 (by decide) (tb_use hT tw_1430) (fun _ h9 => h9) (by rw [eI13, eI11]; rfl) dX14_read_11 ?_
  rw [h39]
  refine lv_istore_n (lv' := [(1, .int 0), (0, .ref o)]) hx hb dX14_read_14 rfl hl (by decide) rfl (fun ls hl => ?_)
  refine lv_aload_n hx hb dX14_read_15 rfl (lv_at hl 1 rfl) ?_
  refine lv_iconst (v := 0) hx hb dX14_read_16 (by decide) ?_
  refine mm_put (v := .int 0) (ty := .int) hx hb hf_X14 (fun _ h9 => h9) tyX14 tyX14_ok nmX14 hown hK hG hS hM.1 rfl 39 (by decide) (tb_use hT tw_1430) (fun _ h9 => h9) rfl (by decide +kernel) rfl rfl (Nat.le_of_ble_eq_true rfl) dX14_read_17 (fun H locs hG hS => ?_)
  have hM := MD.puti (k := 39) (v := 0) hM rfl
  have hF := hF.wo (e' := .inr (15, (mfs Ar I13).set 39 (.int 0)))
  obtain ⟨I15, eI15⟩ : ∃ g, g = upd I13 39 0 := ⟨_, rfl⟩
  rw [← eI15] at hM
  generalize mm_set _ _ _ = G16 at hG hM hF
  refine lv_aload_n hx hb dX14_read_20 rfl (lv_at hl 1 rfl) ?_
  refine lv_aload_n hx hb dX14_read_21 rfl (lv_at hl 1 rfl) ?_
  refine mm_get (v := .ref (Ar 40)) hx hb hf_X14 (fun _ h9 => h9) hown hK hG hM.1 rfl 40 (by decide) (tb_use hT tw_1431) (fun _ h9 => h9) rfl dX14_read_22 ?_
  refine lv_iconst (v := 0) hx hb dX14_read_25 (by decide) ?_
  refine lv_iload_n hx hb dX14_read_26 rfl (lv_at hl 0 rfl) ?_
  refine va_calli (va_runV (As := [.ref (Ar 40), .int 0, .int 0]) (rest := []) ⟨hx, hb, hml, hown, (fun _ h9 => absurd h9 List.not_mem_nil : ∀ w ∈ ([] : List Cond), w.before _ s = true)⟩ (c_X14_readInto_e l D cy A X hst hXT G16 o Ar I15 F L hM (by rw [eI15, eI13, eI11]; exact h41) h47) (tb_cw (C := RX14) 3 hT tw_1636 tw_109 tw_1633 tw_1635 tw_60 rfl rfl (by decide +kernel) ⟨Nat.le_of_ble_eq_true rfl, Nat.le_of_ble_eq_true rfl⟩) (mk_preV hst hG hK hA hX hS (ci := 15) rfl hM.1) rfl rfl hl.1 rfl (lv_room (Nat.le_of_ble_eq_true rfl)) dX14_read_27 ⟨Nat.le_of_ble_eq_true rfl, Nat.le_of_ble_eq_true rfl⟩) hS (fun q _ h => h) (fun q h => h) (fun r17 G18 t H1 locs ht hvm hw hB hz1 hk1 hS => ?_)
  have hG : mm D vwCl A G18 H1 := by rw [← ht]; exact hB
  clear hB hz1 hk1 hvm ht
  generalize H1 = H at hG hS ⊢
  obtain ⟨er17, I19, F20, hM2, hF2, h2141, h2158, h2144, h213⟩ := hw
  replace hF := hF.tr hF2
  replace hM := hM2; clear hM2 hF2
  replace h2144 : I19 44 = 0 := by rw [h2144, eI15, eI13, eI11]; exact h44
  refine lv_istore_n (lv' := [(2, .int r17), (1, .int 0), (0, .ref o)]) hx hb dX14_read_30 rfl hl (by decide) rfl (fun ls hl => ?_)
  refine lv_iload_n hx hb dX14_read_31 rfl (lv_at hl 0 rfl) ?_
  refine lv_if_le (tgt := 39) hx hb dX14_read_32 (by decide) (fun c_32 => ?_) (fun c_32 => ?_)
  · skip
    refine lv_aload_n hx hb dX14_read_39 rfl (lv_at hl 2 rfl) ?_
    refine va_calli (va_runV (As := []) (rest := []) ⟨hx, hb, hml, hown, (fun _ h9 => absurd h9 List.not_mem_nil : ∀ w ∈ ([] : List Cond), w.before _ s = true)⟩ (c_X14_firstWrong_e l D cy A X hst hXT G18 o Ar I19 F20 L hM h2158) (tb_cw (C := RX14) 0 hT tw_1778 tw_109 tw_1775 tw_1777 tw_87 rfl rfl (by decide +kernel) ⟨Nat.le_of_ble_eq_true rfl, Nat.le_of_ble_eq_true rfl⟩) (mk_preV hst hG hK hA hX hS (ci := 15) rfl hM.1) rfl rfl hl.1 rfl (lv_room (Nat.le_of_ble_eq_true rfl)) dX14_read_40 ⟨Nat.le_of_ble_eq_true rfl, Nat.le_of_ble_eq_true rfl⟩) hS (fun q _ h => h) (fun q h => h) (fun r22 G23 t H1 locs ht hvm hw hB hz1 hk1 hS => ?_)
    have hG : mm D vwCl A G23 H1 := by rw [← ht]; exact hB
    clear hB hz1 hk1 hvm ht
    generalize H1 = H at hG hS ⊢
    obtain ⟨er22, hw⟩ := hw
    rw [hw] at hG
    refine lv_istore_n (lv' := [(2, .int r22), (1, .int 0), (0, .ref o)]) hx hb dX14_read_43 rfl hl (by decide) rfl (fun ls hl => ?_)
    refine lv_iload_n hx hb dX14_read_44 rfl (lv_at hl 0 rfl) ?_
    refine lv_if_le (tgt := 51) hx hb dX14_read_45 (by decide) (fun c_45 => ?_) (fun c_45 => ?_)
    · skip
      refine lv_aload_n hx hb dX14_read_51 rfl (lv_at hl 2 rfl) ?_
      refine lv_aload_n hx hb dX14_read_52 rfl (lv_at hl 2 rfl) ?_
      refine mm_get (v := .int (I19 41)) hx hb hf_X14 (fun _ h9 => h9) hown hK hG hM.1 rfl 41 (by decide) (tb_use hT tw_1432) (fun _ h9 => h9) rfl dX14_read_53 ?_
      refine lv_topi (fun x24 ex24 => ?_)
      refine mm_put (v := .int x24) (ty := .int) hx hb hf_X14 (fun _ h9 => h9) tyX14 tyX14_ok nmX14 hown hK hG hS hM.1 rfl 42 (by decide) (tb_use hT tw_1433) (fun _ h9 => h9) rfl (by decide +kernel) rfl rfl (Nat.le_of_ble_eq_true rfl) dX14_read_56 (fun H locs hG hS => ?_)
      have hM := MD.puti (k := 42) (v := x24) hM rfl
      have hF := hF.wo (e' := .inr (15, (mfs Ar I19).set 42 (.int x24)))
      obtain ⟨I25, eI25⟩ : ∃ g, g = upd I19 42 x24 := ⟨_, rfl⟩
      rw [← eI25] at hM
      generalize mm_set _ _ _ = G26 at hG hM hF
      refine lv_aload_n hx hb dX14_read_59 rfl (lv_at hl 2 rfl) ?_
      refine lv_iconst (v := 1) hx hb dX14_read_60 (by decide) ?_
      refine lv_aload_n hx hb dX14_read_61 rfl (lv_at hl 2 rfl) ?_
      refine mm_get (v := .int x24) hx hb hf_X14 (fun _ h9 => h9) hown hK hG hM.1 rfl 42 (by decide) (tb_use hT tw_1433) (fun _ h9 => h9) (by rw [eI25]; rfl) dX14_read_62 ?_
      refine lv_isub hx hb dX14_read_65 ?_
      refine lv_topi (fun x27 ex27 => ?_)
      refine mm_put (v := .int x27) (ty := .int) hx hb hf_X14 (fun _ h9 => h9) tyX14 tyX14_ok nmX14 hown hK hG hS hM.1 rfl 41 (by decide) (tb_use hT tw_1432) (fun _ h9 => h9) rfl (by decide +kernel) rfl rfl (Nat.le_of_ble_eq_true rfl) dX14_read_66 (fun H locs hG hS => ?_)
      have hM := MD.puti (k := 41) (v := x27) hM rfl
      have hF := hF.wo (e' := .inr (15, (mfs Ar I25).set 41 (.int x27)))
      obtain ⟨I28, eI28⟩ : ∃ g, g = upd I25 41 x27 := ⟨_, rfl⟩
      rw [← eI28] at hM
      generalize mm_set _ _ _ = G29 at hG hM hF
      refine lv_aload_n hx hb dX14_read_69 rfl (lv_at hl 2 rfl) ?_
      refine lv_iconst (v := 1) hx hb dX14_read_70 (by decide) ?_
      refine mm_put (v := .int 1) (ty := .boolean) hx hb hf_X14 (fun _ h9 => h9) tyX14 tyX14_ok nmX14 hown hK hG hS hM.1 rfl 43 (by decide) (tb_use hT tw_1434) (fun _ h9 => h9) rfl (by decide +kernel) rfl rfl (Nat.le_of_ble_eq_true rfl) dX14_read_71 (fun H locs hG hS => ?_)
      have hM := MD.puti (k := 43) (v := 1) hM rfl
      have hF := hF.wo (e' := .inr (15, (mfs Ar I28).set 43 (.int 1)))
      obtain ⟨I30, eI30⟩ : ∃ g, g = upd I28 43 1 := ⟨_, rfl⟩
      rw [← eI30] at hM
      generalize mm_set _ _ _ = G31 at hG hM hF
      refine lv_aload_n hx hb dX14_read_74 rfl (lv_at hl 2 rfl) ?_
      refine lv_dup hx hb dX14_read_75 rfl ?_
      refine mm_get (v := .int (I19 44)) hx hb hf_X14 (fun _ h9 => h9) hown hK hG hM.1 rfl 44 (by decide) (tb_use hT tw_1435) (fun _ h9 => h9) (by rw [eI30, eI28, eI25]; rfl) dX14_read_76 ?_
      refine lv_iconst (v := 1) hx hb dX14_read_79 (by decide) ?_
      refine lv_iadd hx hb dX14_read_80 ?_
      refine lv_topi (fun x32 ex32 => ?_)
      refine mm_put (v := .int x32) (ty := .int) hx hb hf_X14 (fun _ h9 => h9) tyX14 tyX14_ok nmX14 hown hK hG hS hM.1 rfl 44 (by decide) (tb_use hT tw_1435) (fun _ h9 => h9) rfl (by decide +kernel) rfl rfl (Nat.le_of_ble_eq_true rfl) dX14_read_81 (fun H locs hG hS => ?_)
      have hM := MD.puti (k := 44) (v := x32) hM rfl
      have hF := hF.wo (e' := .inr (15, (mfs Ar I30).set 44 (.int x32)))
      obtain ⟨I33, eI33⟩ : ∃ g, g = upd I30 44 x32 := ⟨_, rfl⟩
      rw [← eI33] at hM
      generalize mm_set _ _ _ = G34 at hG hM hF
      refine lv_aload_n hx hb dX14_read_84 rfl (lv_at hl 2 rfl) ?_
      refine mm_get (v := .int x32) hx hb hf_X14 (fun _ h9 => h9) hown hK hG hM.1 rfl 44 (by decide) (tb_use hT tw_1435) (fun _ h9 => h9) (by rw [eI33, eI30, eI28, eI25]; rfl) dX14_read_85 ?_
      refine lv_iconst (v := 4) hx hb dX14_read_88 (by decide) ?_
      refine lv_icmp_gt (tgt := 140) hx hb dX14_read_89 (by decide) (fun c_89 => ?_) (fun c_89 => ?_)
      · skip
        exact absurd c_89 (by rw [ex32, h2144]; decide)
      · skip
        refine lv_aload_n hx hb dX14_read_92 rfl (lv_at hl 2 rfl) ?_
        refine mm_get (v := .ref (Ar 45)) hx hb hf_X14 (fun _ h9 => h9) hown hK hG hM.1 rfl 45 (by decide) (tb_use hT tw_1436) (fun _ h9 => h9) rfl dX14_read_93 ?_
        refine lv_aload_n hx hb dX14_read_96 rfl (lv_at hl 2 rfl) ?_
        refine mm_get (v := .int x32) hx hb hf_X14 (fun _ h9 => h9) hown hK hG hM.1 rfl 44 (by decide) (tb_use hT tw_1435) (fun _ h9 => h9) (by rw [eI33, eI30, eI28, eI25]; rfl) dX14_read_97 ?_
        refine lv_iconst (v := 1) hx hb dX14_read_100 (by decide) ?_
        refine lv_isub hx hb dX14_read_101 ?_
        refine lv_iload_n hx hb dX14_read_102 rfl (lv_at hl 1 rfl) ?_
        refine mm_iast (n := mdN 45) (f := F20 45) hx hb hK hG hS 1 (hM.2.1 45 rfl) rfl (by rw [ex32, h2144]; exact vp_in_lt (m := 4) (by decide) (by decide) rfl) dX14_read_103 (fun H locs hG hS => ?_)
        have hM := MD.seti (k := 45) (upd (F20 45) (x32 - 1).toNatClampNeg 0) hM rfl
        have hF := hF.wa (k := 45) (e' := .inl (cy 1, mdN 45, .inl (upd (F20 45) (x32 - 1).toNatClampNeg 0))) rfl
        obtain ⟨F35, eF35⟩ : ∃ g, g = va_up F20 45 (upd (F20 45) (x32 - 1).toNatClampNeg 0) := ⟨_, rfl⟩
        rw [← eF35] at hM
        generalize mm_set _ _ _ = G36 at hG hM hF
        refine lv_iconst (v := 0) hx hb dX14_read_104 (by decide) ?_
        refine lv_istore_n (lv' := [(3, .int 0), (2, .int r22), (1, .int 0), (0, .ref o)]) hx hb dX14_read_105 rfl hl (by decide) rfl (fun ls hl => ?_)
        refine lv_iload_n hx hb dX14_read_106 rfl (lv_at hl 0 rfl) ?_
        refine lv_iload_n hx hb dX14_read_107 rfl (lv_at hl 2 rfl) ?_
        refine lv_icmp_ge (tgt := 140) hx hb dX14_read_108 (by decide) (fun c_108 => ?_) (fun c_108 => ?_)
        · skip
          refine lv_iconst (v := 0) hx hb dX14_read_140 (by decide) ?_
          refine lv_istore_n (lv' := [(3, .int 0), (2, .int r22), (1, .int 0), (0, .ref o)]) hx hb dX14_read_141 rfl hl (by decide) rfl (fun ls hl => ?_)
          exact lp 128 0 L I33 F35 (by omega) (by decide) (by rw [eI33, eI30, eI28, eI25]; show x24 = 0; rw [ex24]; exact h2141) (by rw [eF35, va_up_ne _ _ (by decide)]; exact h213) G36 hM hF _ _ hG hS ls (lv_sub hl [3, 0] rfl)
        · skip
          exact absurd (by decide) c_108
    · skip
      exact absurd (by rw [er22]; decide) c_45
  · skip
    exact absurd (by rw [er17]; decide) c_32
