theorem isPv_ix {Iv : Nat → Int32} {nS : Nat} {nP : Nat → Nat} {x y : Int32} (hn : nS < 1000) (hp : ∀ s, s < nS → nP s < 1000) (h : isPv Iv nS nP x y = true) : ∃ k i, k < nS ∧ i < nP k ∧ x = nI (k + 1) ∧ y = nI (i + 1) ∧ oIx x nS = some k ∧ oIx y (nP k) = some i := by
  have h1 : isSv Iv nS x = true := by
    unfold isPv at h
    exact ((Bool.and_eq_true _ _).mp h).1
  obtain ⟨k, a1, a2, a3⟩ := isSv_ix hn h1
  unfold isPv at h
  rw [h1, a3] at h
  have h2 : (oIx y (nP k)).isSome = true := h
  have hk := hp k a1
  by_cases c1 : y < 1
  · rw [ix_no1 c1] at h2
    cases h2
  · by_cases c2 : y ≤ nI (nP k)
    · obtain ⟨i, b1, b2, b3⟩ := ix_of hk c1 c2
      exact ⟨k, i, a1, b1, a2, b2, a3, b3⟩
    · rw [ix_no2 hk c2] at h2
      cases h2
theorem isPv_f {Iv : Nat → Int32} {v : EdV} {x y : Int32} (h43 : ¬ Iv 43 = 0) (h : isPv Iv v.nS v.nP x y = false) : svO v x = none ∨ ∃ c, svO v x = some c ∧ paO v c y = none := by
  unfold isPv at h
  rw [isSv_t h43] at h
  unfold svO paO
  cases hq : oIx x v.nS with
  | none => exact Or.inl rfl
  | some c =>
    rw [hq] at h
    have h2 : (oIx y (v.nP c)).isSome = false := h
    refine Or.inr ⟨c, rfl, ?_⟩
    cases hp : oIx y (v.nP c) with
    | none => rfl
    | some k => rw [hp] at h2; cases h2
theorem op_nu1 {o : Option Nat} : opI o + 1 = nu1 o := by
  cases o with
  | none => rfl
  | some k => exact nI_1 k
set_option maxHeartbeats 4000000 in
set_option maxRecDepth 100000 in
theorem c_M_parameter (l : Launch) (D : va_G) (cy : Nat → ClassId) (A : Nat → Prop) (X : State → Prop) (hst : mk_St A X) (hXT : ∀ U : State, X U → TB U) (G : Nat → Option va_E) (o : Nat) (Ar : Nat → Nat) (Iv : Nat → Int32) (F : Nat → Nat → Int32) (L : Nat → Nat → Int64) (ft : Nat → Int32) (en b9 n9 : Nat) (v9 : EdV) (nm : Int64 → Int32) (iv jv wv : Int32) (hM : MD cy G o Ar Iv F L) (hB : BK (tkK ft en) (tkV ft en) n9 F b9 v9) (hLS : LSv v9) (hVL : VLD v9) (hn30 : n9 < 2 ^ 30) (hb9 : b9 < 2) (hbk : Iv 42 = nI b9) (h43 : ¬ Iv 43 = 0) (hnm : ∀ r x, NMt (tkK ft en) (tkV ft en) n9 r x → r = nm x) : Met l yX14_parameter [.code yX14_parameter cX14_parameter 5 (some .int)] ({ frames := 2, cells := 0, slots := 0, locals := 60 }) (mk_Pre D vwCl (tyL cy) A X G [.ref o, .int iv, .int jv, .int wv]) (va_Qi (fun (r : Int32) (G2 : Nat → Option va_E) => r = (match svO v9 iv with | none => -1 | some c => match paO v9 c jv with | none => -1 | some p => paA v9 nm c p wv) ∧ MD cy G2 o Ar (upd Iv 38 0) F L ∧ MF G G2 o Ar) (mk_B D vwCl A) A) 0 0 A := by
  refine Met.ofW (cc := cX14_parameter) (maxL := 5) (ret := (some .int)) (by decide) rfl ?_
  intro p e s m args below meth c s₁ B hml hv
  obtain ⟨rfl, hG, hK, hA, hX⟩ := hv
  have hx := B.exec
  have hb := B.bytes
  have hr := B.returns
  have hlocks := B.notSynchronized
  have hT := hXT s hX
  have hown : s.vm.findClass RX14 = some m.cls := findClass_of_methodNamed B.named
  have hf_X14 : ∀ w ∈ u_ws RX14 TX14 76, w.before ([.ref o, .int iv, .int jv, .int wv] : List Value).toArray s = true := tb_list hT fX14
  have hS : va_S A s.heap s.heap [] := va_S.rf
  have hl := lv_entry ([.ref o, .int iv, .int jv, .int wv]) (n := 5) (Nat.le_of_ble_eq_true rfl)
  rw [lg_entry_eq]
  generalize (lg_sl ([.ref o, .int iv, .int jv, .int wv]) ++ List.replicate (5 - (lg_sl ([.ref o, .int iv, .int jv, .int wv])).length) Slot.unset).toArray = ls at hl ⊢
  have hl : lv_has ls 5 [(0, .ref o), (1, .int iv), (2, .int jv), (3, .int wv)] := hl
  have hF : MF G G o Ar := MF.rf
  refine lv_aload_n hx hb dX14_parameter_0 rfl (lv_at hl 0 rfl) ?_
  refine lv_iconst (v := 0) hx hb dX14_parameter_1 (by decide) ?_
  refine mm_put (v := .int 0) (ty := .int) hx hb hf_X14 (fun _ h9 => h9) tyX14 tyX14_ok nmX14 hown hK hG hS hM.1 rfl 38 (by decide) (tb_use hT tw_1429) (fun _ h9 => h9) rfl (by decide +kernel) rfl rfl (mfs_l38 _ _) dX14_parameter_2 (fun H locs hG hS => ?_)
  have hM := MD.puti (k := 38) (v := 0) hM (mfs_s38 _ _ _)
  have hF := hF.wo (e' := .inr (15, (mfs Ar Iv).set 38 (.int 0)))
  obtain ⟨I1, eI1⟩ : ∃ g, g = upd Iv 38 0 := ⟨_, rfl⟩
  rw [← eI1] at hM
  have hgn := gn_MD hG hM hF
  clear hG hM hF
  obtain ⟨G2, hG, hM, hF⟩ := hgn
  refine lv_aload_n hx hb dX14_parameter_5 rfl (lv_at hl 0 rfl) ?_
  refine lv_iload_n hx hb dX14_parameter_6 rfl (lv_at hl 1 rfl) ?_
  refine lv_iload_n hx hb dX14_parameter_7 rfl (lv_at hl 2 rfl) ?_
  refine va_calli (va_runV (As := [.int iv, .int jv]) (rest := []) ⟨hx, hb, hml, hown, (fun _ h9 => absurd h9 List.not_mem_nil : ∀ w ∈ ([] : List Cond), w.before _ s = true)⟩ (c_M_isParam l D cy A X hst hXT G2 o Ar I1 F L b9 v9.nS v9.nP iv jv hM hb9 (by rw [eI1]; exact hbk) hB.2.2.1.1 hB.2.2.1.2.1 (fun s hs => ⟨(hB.2.2.1.2.2 s hs).2.2.2.1, (hB.2.2.1.2.2 s hs).2.2.2.2.1⟩)) (tb_cw (C := RX14) 2 hT tw_1818 tw_109 tw_1815 tw_1817 tw_95 rfl rfl hq_X14_isParam ⟨Nat.le_of_ble_eq_true rfl, Nat.le_of_ble_eq_true rfl⟩) (mk_preC hst hG hK hA hX hS vc_15 hM.1) rfl rfl hl.1 rfl (lv_room (Nat.le_of_ble_eq_true rfl)) dX14_parameter_8 ⟨Nat.le_of_ble_eq_true rfl, Nat.le_of_ble_eq_true rfl⟩) hS (fun q _ h => h) (fun q h => h) (fun r3 G4 t H locs ht hvm hw hB hz1 hk1 hS => ?_)
  have hG : mm D vwCl A G4 H := by rw [← ht]; exact hB
  clear hB hz1 hk1 hvm ht
  obtain ⟨er3, hw⟩ := hw
  rw [hw] at hG
  refine lv_if_ne (tgt := 16) hx hb dX14_parameter_11 (by decide) (fun c_11 => ?_) (fun c_11 => ?_)
  · skip
    have hsv : isPv I1 v9.nS v9.nP iv jv = true := b2i_t (by rw [← er3]; exact c_11)
    have hs16 := hB.2.2.1.2.1
    obtain ⟨s9, i9, hs9, hi9, hxs, hxi, ho9, hoi⟩ := isPv_ix (by omega) (fun s hs => by have y := (hB.2.2.1.2.2 s hs).2.2.2.2.1; omega) hsv
    have hp8 := (hB.2.2.1.2.2 s9 hs9).2.2.2.2.1
    have hpr := (hB.2.2.1.2.2 s9 hs9).2.2.2.2.2 i9 hi9
    refine lv_bipush (v := 8) hx hb dX14_parameter_16 (by decide) ?_
    refine lv_iload_n hx hb dX14_parameter_18 rfl (lv_at hl 1 rfl) ?_
    refine lv_iconst (v := 1) hx hb dX14_parameter_19 (by decide) ?_
    refine lv_isub hx hb dX14_parameter_20 ?_
    refine lv_imul hx hb dX14_parameter_21 ?_
    refine lv_iload_n hx hb dX14_parameter_22 rfl (lv_at hl 2 rfl) ?_
    refine lv_iadd hx hb dX14_parameter_23 ?_
    refine lv_iconst (v := 1) hx hb dX14_parameter_24 (by decide) ?_
    refine lv_isub hx hb dX14_parameter_25 ?_
    rw [show (((8 * (iv - 1)) + jv) - 1) = nI (8 * s9 + i9) by rw [hxs, hxi, show nI (s9 + 1) - 1 = nI s9 from nI_pred s9, show (8 : Int32) * nI s9 + nI (i9 + 1) = nI (8 * s9 + (i9 + 1)) from nI_ma 8 s9 (i9 + 1)]; exact nI_pred (8 * s9 + i9)]
    refine lv_istore (lv' := [(4, .int (nI (8 * s9 + i9))), (0, .ref o), (1, .int iv), (2, .int jv), (3, .int wv)]) hx hb dX14_parameter_26 hl (by decide) rfl (fun ls hl => ?_)
    refine lv_iload_n hx hb dX14_parameter_28 rfl (lv_at hl 4 rfl) ?_
    by_cases sw_29 : wv.toInt < 0 ∨ 4 < wv.toInt
    · skip
      refine lv_tableOut (tgt := 195) hx hb dX14_parameter_29 sw_29 (by decide) ?_
      refine lv_bipush (v := (-2)) hx hb dX14_parameter_195 (by decide) ?_
      have hA : (match svO v9 iv with | none => -1 | some c => match paO v9 c jv with | none => -1 | some p => paA v9 nm c p wv) = paA v9 nm s9 i9 wv := by rw [show svO v9 iv = some s9 from ho9]; dsimp only; rw [show paO v9 s9 jv = some i9 from hoi]
      obtain ⟨n0, n1, n2, n3, n4⟩ := sw5n sw_29
      exact W.iret (v := (-2)) hx hb hr (fun t ht hW => ⟨⟨_, _, rfl, ⟨(by rw [hA]; simp only [paA, if_neg n0, if_neg n1, if_neg n2, if_neg n3, if_neg n4]), (by rw [← eI1]; exact hM), hF⟩, mk_end hG ht⟩, hS.F ht⟩) hS.2.2 dX14_parameter_197
    · skip
      have hlo : ¬ wv.toInt < 0 := fun z => sw_29 (Or.inl z)
      have hhi : ¬ 4 < wv.toInt := fun z => sw_29 (Or.inr z)
      have hcs : wv.toInt = 0 ∨ wv.toInt = 1 ∨ wv.toInt = 2 ∨ wv.toInt = 3 ∨ wv.toInt = 4 := by omega
      rcases hcs with sw_29 | sw_29 | sw_29 | sw_29 | sw_29
      · skip
        refine lv_tableIn (tgt := 64) hx hb dX14_parameter_29 hlo hhi (off := 35) (by rw [sw_29]; rfl) (by decide) ?_
        refine lv_aload_n hx hb dX14_parameter_64 rfl (lv_at hl 1 rfl) ?_
        refine mm_get (v := .ref (Ar 24)) hx hb hf_X14 (fun _ h9 => h9) hown hK hG hM.1 rfl 24 (by decide) (tb_use hT tw_1415) (fun _ h9 => h9) (mfs_g24 _ _) dX14_parameter_65 ?_
        refine lv_sipush (v := 128) hx hb dX14_parameter_68 (by decide) ?_
        refine lv_aload_n hx hb dX14_parameter_71 rfl (lv_at hl 1 rfl) ?_
        refine mm_get (v := .int (Iv 42)) hx hb hf_X14 (fun _ h9 => h9) hown hK hG hM.1 rfl 42 (by decide) (tb_use hT tw_1433) (fun _ h9 => h9) (by rw [mfs_g42, eI1] <;> rfl) dX14_parameter_72 ?_
        rw [show (Iv 42) = nI b9 from hbk]
        refine lv_imul hx hb dX14_parameter_75 ?_
        refine lv_iload hx hb dX14_parameter_76 (lv_at hl 0 rfl) ?_
        refine lv_iadd hx hb dX14_parameter_78 ?_
        refine mm_iald (n := 256) (f := F 24) hx hb hK hG 1 (hM.2.1 24 rfl) rfl (by rw [show (128 : Int32) * nI b9 + nI (8 * s9 + i9) = nI (128 * b9 + (8 * s9 + i9)) from nI_ma 128 b9 (8 * s9 + i9)]; exact nI_in (N := 256) (by omega) (by decide)) dX14_parameter_79 ?_
        refine lv_topi (fun x5 ex5 => ?_)
        have hA : (match svO v9 iv with | none => -1 | some c => match paO v9 c jv with | none => -1 | some p => paA v9 nm c p wv) = paA v9 nm s9 i9 wv := by rw [show svO v9 iv = some s9 from ho9]; dsimp only; rw [show paO v9 s9 jv = some i9 from hoi]
        have hxw : wv = nI 0 := sw5 (by decide) sw_29
        exact W.iret (v := x5) hx hb hr (fun t ht hW => ⟨⟨_, _, rfl, ⟨(by rw [hA, hxw, ex5, show (128 : Int32) * nI b9 + nI (8 * s9 + i9) = nI (128 * b9 + (8 * s9 + i9)) from nI_ma 128 b9 (8 * s9 + i9), nI_clamp (by omega)]; exact (hnm _ _ hpr.1)), (by rw [← eI1]; exact hM), hF⟩, mk_end hG ht⟩, hS.F ht⟩) hS.2.2 dX14_parameter_80
      · skip
        refine lv_tableIn (tgt := 81) hx hb dX14_parameter_29 hlo hhi (off := 52) (by rw [sw_29]; rfl) (by decide) ?_
        refine lv_aload_n hx hb dX14_parameter_81 rfl (lv_at hl 1 rfl) ?_
        refine lv_aload_n hx hb dX14_parameter_82 rfl (lv_at hl 1 rfl) ?_
        refine mm_get (v := .int (Iv 42)) hx hb hf_X14 (fun _ h9 => h9) hown hK hG hM.1 rfl 42 (by decide) (tb_use hT tw_1433) (fun _ h9 => h9) (by rw [mfs_g42, eI1] <;> rfl) dX14_parameter_83 ?_
        rw [show (Iv 42) = nI b9 from hbk]
        refine lv_aload_n hx hb dX14_parameter_86 rfl (lv_at hl 1 rfl) ?_
        refine mm_get (v := .ref (Ar 25)) hx hb hf_X14 (fun _ h9 => h9) hown hK hG hM.1 rfl 25 (by decide) (tb_use hT tw_1416) (fun _ h9 => h9) (mfs_g25 _ _) dX14_parameter_87 ?_
        refine lv_sipush (v := 128) hx hb dX14_parameter_90 (by decide) ?_
        refine lv_aload_n hx hb dX14_parameter_93 rfl (lv_at hl 1 rfl) ?_
        refine mm_get (v := .int (Iv 42)) hx hb hf_X14 (fun _ h9 => h9) hown hK hG hM.1 rfl 42 (by decide) (tb_use hT tw_1433) (fun _ h9 => h9) (by rw [mfs_g42, eI1] <;> rfl) dX14_parameter_94 ?_
        rw [show (Iv 42) = nI b9 from hbk]
        refine lv_imul hx hb dX14_parameter_97 ?_
        refine lv_iload hx hb dX14_parameter_98 (lv_at hl 0 rfl) ?_
        refine lv_iadd hx hb dX14_parameter_100 ?_
        refine mm_iald (n := 256) (f := F 25) hx hb hK hG 1 (hM.2.1 25 rfl) rfl (by rw [show (128 : Int32) * nI b9 + nI (8 * s9 + i9) = nI (128 * b9 + (8 * s9 + i9)) from nI_ma 128 b9 (8 * s9 + i9)]; exact nI_in (N := 256) (by omega) (by decide)) dX14_parameter_101 ?_
        refine lv_topi (fun x6 ex6 => ?_)
        refine va_calli (va_runV (As := [.int (nI b9), .int x6]) (rest := []) ⟨hx, hb, hml, hown, (fun _ h9 => absurd h9 List.not_mem_nil : ∀ w ∈ ([] : List Cond), w.before _ s = true)⟩ (c_M_codingAt l D cy A X hst hXT G2 o Ar I1 F L b9 v9.nC x6 hM hb9 hB.1.1 hB.1.2.1) (tb_cw (C := RX14) 2 hT tw_1782 tw_109 tw_1779 tw_1781 tw_89 rfl rfl hq_X14_codingAt ⟨Nat.le_of_ble_eq_true rfl, Nat.le_of_ble_eq_true rfl⟩) (mk_preC hst hG hK hA hX hS vc_15 hM.1) rfl rfl hl.1 rfl (lv_room (Nat.le_of_ble_eq_true rfl)) dX14_parameter_102 ⟨Nat.le_of_ble_eq_true rfl, Nat.le_of_ble_eq_true rfl⟩) hS (fun q _ h => h) (fun q h => h) (fun r7 G8 t H locs ht hvm hw hB hz1 hk1 hS => ?_)
        have hG : mm D vwCl A G8 H := by rw [← ht]; exact hB
        clear hB hz1 hk1 hvm ht
        obtain ⟨er7, hw⟩ := hw
        rw [hw] at hG
        refine lv_iconst (v := 1) hx hb dX14_parameter_105 (by decide) ?_
        refine lv_iadd hx hb dX14_parameter_106 ?_
        have hA : (match svO v9 iv with | none => -1 | some c => match paO v9 c jv with | none => -1 | some p => paA v9 nm c p wv) = paA v9 nm s9 i9 wv := by rw [show svO v9 iv = some s9 from ho9]; dsimp only; rw [show paO v9 s9 jv = some i9 from hoi]
        have hxw : wv = nI 1 := sw5 (by decide) sw_29
        have hfo : r7 = opI (cdN v9 (v9.P s9 i9).2.2.1) := by rw [er7, ex6, show (128 : Int32) * nI b9 + nI (8 * s9 + i9) = nI (128 * b9 + (8 * s9 + i9)) from nI_ma 128 b9 (8 * s9 + i9), nI_clamp (by omega)]; exact hB.1.at hn30 hpr.2.1
        exact W.iret (v := (r7 + 1)) hx hb hr (fun t ht hW => ⟨⟨_, _, rfl, ⟨(by rw [hA, hxw, hfo]; exact op_nu1), (by rw [← eI1]; exact hM), hF⟩, mk_end hG ht⟩, hS.F ht⟩) hS.2.2 dX14_parameter_107
      · skip
        refine lv_tableIn (tgt := 108) hx hb dX14_parameter_29 hlo hhi (off := 79) (by rw [sw_29]; rfl) (by decide) ?_
        refine lv_aload_n hx hb dX14_parameter_108 rfl (lv_at hl 1 rfl) ?_
        refine mm_get (v := .ref (Ar 26)) hx hb hf_X14 (fun _ h9 => h9) hown hK hG hM.1 rfl 26 (by decide) (tb_use hT tw_1417) (fun _ h9 => h9) (mfs_g26 _ _) dX14_parameter_109 ?_
        refine lv_sipush (v := 128) hx hb dX14_parameter_112 (by decide) ?_
        refine lv_aload_n hx hb dX14_parameter_115 rfl (lv_at hl 1 rfl) ?_
        refine mm_get (v := .int (Iv 42)) hx hb hf_X14 (fun _ h9 => h9) hown hK hG hM.1 rfl 42 (by decide) (tb_use hT tw_1433) (fun _ h9 => h9) (by rw [mfs_g42, eI1] <;> rfl) dX14_parameter_116 ?_
        rw [show (Iv 42) = nI b9 from hbk]
        refine lv_imul hx hb dX14_parameter_119 ?_
        refine lv_iload hx hb dX14_parameter_120 (lv_at hl 0 rfl) ?_
        refine lv_iadd hx hb dX14_parameter_122 ?_
        refine mm_iald (n := 256) (f := F 26) hx hb hK hG 1 (hM.2.1 26 rfl) rfl (by rw [show (128 : Int32) * nI b9 + nI (8 * s9 + i9) = nI (128 * b9 + (8 * s9 + i9)) from nI_ma 128 b9 (8 * s9 + i9)]; exact nI_in (N := 256) (by omega) (by decide)) dX14_parameter_123 ?_
        refine lv_topi (fun x9 ex9 => ?_)
        have hA : (match svO v9 iv with | none => -1 | some c => match paO v9 c jv with | none => -1 | some p => paA v9 nm c p wv) = paA v9 nm s9 i9 wv := by rw [show svO v9 iv = some s9 from ho9]; dsimp only; rw [show paO v9 s9 jv = some i9 from hoi]
        have hxw : wv = nI 2 := sw5 (by decide) sw_29
        exact W.iret (v := x9) hx hb hr (fun t ht hW => ⟨⟨_, _, rfl, ⟨(by rw [hA, hxw, ex9, show (128 : Int32) * nI b9 + nI (8 * s9 + i9) = nI (128 * b9 + (8 * s9 + i9)) from nI_ma 128 b9 (8 * s9 + i9), nI_clamp (by omega)]; exact hpr.2.2.1), (by rw [← eI1]; exact hM), hF⟩, mk_end hG ht⟩, hS.F ht⟩) hS.2.2 dX14_parameter_124
      · skip
        refine lv_tableIn (tgt := 125) hx hb dX14_parameter_29 hlo hhi (off := 96) (by rw [sw_29]; rfl) (by decide) ?_
        refine lv_aload_n hx hb dX14_parameter_125 rfl (lv_at hl 1 rfl) ?_
        refine mm_get (v := .ref (Ar 26)) hx hb hf_X14 (fun _ h9 => h9) hown hK hG hM.1 rfl 26 (by decide) (tb_use hT tw_1417) (fun _ h9 => h9) (mfs_g26 _ _) dX14_parameter_126 ?_
        refine lv_sipush (v := 128) hx hb dX14_parameter_129 (by decide) ?_
        refine lv_aload_n hx hb dX14_parameter_132 rfl (lv_at hl 1 rfl) ?_
        refine mm_get (v := .int (Iv 42)) hx hb hf_X14 (fun _ h9 => h9) hown hK hG hM.1 rfl 42 (by decide) (tb_use hT tw_1433) (fun _ h9 => h9) (by rw [mfs_g42, eI1] <;> rfl) dX14_parameter_133 ?_
        rw [show (Iv 42) = nI b9 from hbk]
        refine lv_imul hx hb dX14_parameter_136 ?_
        refine lv_iload hx hb dX14_parameter_137 (lv_at hl 0 rfl) ?_
        refine lv_iadd hx hb dX14_parameter_139 ?_
        refine mm_iald (n := 256) (f := F 26) hx hb hK hG 1 (hM.2.1 26 rfl) rfl (by rw [show (128 : Int32) * nI b9 + nI (8 * s9 + i9) = nI (128 * b9 + (8 * s9 + i9)) from nI_ma 128 b9 (8 * s9 + i9)]; exact nI_in (N := 256) (by omega) (by decide)) dX14_parameter_140 ?_
        refine lv_topi (fun x10 ex10 => ?_)
        refine lv_if_ne (tgt := 148) hx hb dX14_parameter_141 (by decide) (fun c_141 => ?_) (fun c_141 => ?_)
        · skip
          refine lv_aload_n hx hb dX14_parameter_148 rfl (lv_at hl 1 rfl) ?_
          refine lv_aload_n hx hb dX14_parameter_149 rfl (lv_at hl 1 rfl) ?_
          refine mm_get (v := .int (Iv 42)) hx hb hf_X14 (fun _ h9 => h9) hown hK hG hM.1 rfl 42 (by decide) (tb_use hT tw_1433) (fun _ h9 => h9) (by rw [mfs_g42, eI1] <;> rfl) dX14_parameter_150 ?_
          rw [show (Iv 42) = nI b9 from hbk]
          refine lv_iload_n hx hb dX14_parameter_153 rfl (lv_at hl 2 rfl) ?_
          refine lv_iconst (v := 1) hx hb dX14_parameter_154 (by decide) ?_
          refine lv_isub hx hb dX14_parameter_155 ?_
          rw [show iv - 1 = nI s9 by rw [hxs]; exact nI_pred s9]
          refine lv_aload_n hx hb dX14_parameter_156 rfl (lv_at hl 1 rfl) ?_
          refine mm_get (v := .ref (Ar 27)) hx hb hf_X14 (fun _ h9 => h9) hown hK hG hM.1 rfl 27 (by decide) (tb_use hT tw_1418) (fun _ h9 => h9) (mfs_g27 _ _) dX14_parameter_157 ?_
          refine lv_sipush (v := 128) hx hb dX14_parameter_160 (by decide) ?_
          refine lv_aload_n hx hb dX14_parameter_163 rfl (lv_at hl 1 rfl) ?_
          refine mm_get (v := .int (Iv 42)) hx hb hf_X14 (fun _ h9 => h9) hown hK hG hM.1 rfl 42 (by decide) (tb_use hT tw_1433) (fun _ h9 => h9) (by rw [mfs_g42, eI1] <;> rfl) dX14_parameter_164 ?_
          rw [show (Iv 42) = nI b9 from hbk]
          refine lv_imul hx hb dX14_parameter_167 ?_
          refine lv_iload hx hb dX14_parameter_168 (lv_at hl 0 rfl) ?_
          refine lv_iadd hx hb dX14_parameter_170 ?_
          refine mm_iald (n := 256) (f := F 27) hx hb hK hG 1 (hM.2.1 27 rfl) rfl (by rw [show (128 : Int32) * nI b9 + nI (8 * s9 + i9) = nI (128 * b9 + (8 * s9 + i9)) from nI_ma 128 b9 (8 * s9 + i9)]; exact nI_in (N := 256) (by omega) (by decide)) dX14_parameter_171 ?_
          refine lv_topi (fun x11 ex11 => ?_)
          refine va_calli (va_runV (As := [.int (nI b9), .int (nI s9), .int x11]) (rest := []) ⟨hx, hb, hml, hown, (fun _ h9 => absurd h9 List.not_mem_nil : ∀ w ∈ ([] : List Cond), w.before _ s = true)⟩ (c_M_paramAt l D cy A X hst hXT G2 o Ar I1 F L b9 s9 (v9.nP s9) x11 hM hb9 (by omega) (hB.2.2.1.2.2 s9 hs9).2.2.2.1 (hB.2.2.1.2.2 s9 hs9).2.2.2.2.1) (tb_cw (C := RX14) 3 hT tw_1794 tw_109 tw_1791 tw_1793 tw_92 rfl rfl hq_X14_paramAt ⟨Nat.le_of_ble_eq_true rfl, Nat.le_of_ble_eq_true rfl⟩) (mk_preC hst hG hK hA hX hS vc_15 hM.1) rfl rfl hl.1 rfl (lv_room (Nat.le_of_ble_eq_true rfl)) dX14_parameter_172 ⟨Nat.le_of_ble_eq_true rfl, Nat.le_of_ble_eq_true rfl⟩) hS (fun q _ h => h) (fun q h => h) (fun r12 G13 t H locs ht hvm hw hB hz1 hk1 hS => ?_)
          have hG : mm D vwCl A G13 H := by rw [← ht]; exact hB
          clear hB hz1 hk1 hvm ht
          obtain ⟨er12, hw⟩ := hw
          rw [hw] at hG
          refine lv_iconst (v := 1) hx hb dX14_parameter_175 (by decide) ?_
          refine lv_iadd hx hb dX14_parameter_176 ?_
          have hA : (match svO v9 iv with | none => -1 | some c => match paO v9 c jv with | none => -1 | some p => paA v9 nm c p wv) = paA v9 nm s9 i9 wv := by rw [show svO v9 iv = some s9 from ho9]; dsimp only; rw [show paO v9 s9 jv = some i9 from hoi]
          have hxw : wv = nI 3 := sw5 (by decide) sw_29
          have hk0 : ¬ (v9.P s9 i9).2.2.2.2.1 = 0 := fun z => c_141 (by rw [ex10, show (128 : Int32) * nI b9 + nI (8 * s9 + i9) = nI (128 * b9 + (8 * s9 + i9)) from nI_ma 128 b9 (8 * s9 + i9), nI_clamp (by omega)]; exact hpr.2.2.1.trans z)
          have hfo : r12 = opI (paN v9 s9 (v9.P s9 i9).2.2.2.2.2.1) := by rw [er12, ex11, show (128 : Int32) * nI b9 + nI (8 * s9 + i9) = nI (128 * b9 + (8 * s9 + i9)) from nI_ma 128 b9 (8 * s9 + i9), nI_clamp (by omega)]; exact hB.2.2.1.atP hn30 hpr.2.2.2.1 hs9
          have hw11 := hVL 11 s9 (8 * s9 + i9) _ ⟨hs9, i9, hi9, rfl, hk0, rfl⟩
          rw [w_11] at hw11
          have hpe : peI v9 s9 i9 = paN v9 s9 (v9.P s9 i9).2.2.2.2.2.1 := by
            unfold peI
            rw [if_neg hk0]
            unfold eB at hw11
            cases hq : paN v9 s9 (v9.P s9 i9).2.2.2.2.2.1 with
            | none => rfl
            | some k =>
              rw [hq] at hw11
              have hlt : k < i9 := by have y : (!(decide (k < i9))) = false := hw11; rw [Bool.not_eq_false'] at y; exact of_decide_eq_true y
              exact if_pos hlt
          exact W.iret (v := (r12 + 1)) hx hb hr (fun t ht hW => ⟨⟨_, _, rfl, ⟨(by rw [hA, hxw, hfo]; show _ = nu1 (peI v9 s9 i9); rw [hpe]; exact op_nu1), (by rw [← eI1]; exact hM), hF⟩, mk_end hG ht⟩, hS.F ht⟩) hS.2.2 dX14_parameter_177
        · skip
          refine lv_iconst (v := 0) hx hb dX14_parameter_144 (by decide) ?_
          refine lv_goto (tgt := 177) hx hb dX14_parameter_145 (by decide) ?_
          have hA : (match svO v9 iv with | none => -1 | some c => match paO v9 c jv with | none => -1 | some p => paA v9 nm c p wv) = paA v9 nm s9 i9 wv := by rw [show svO v9 iv = some s9 from ho9]; dsimp only; rw [show paO v9 s9 jv = some i9 from hoi]
          have hxw : wv = nI 3 := sw5 (by decide) sw_29
          have hk0 : (v9.P s9 i9).2.2.2.2.1 = 0 := by have z := c_141; rw [ex10, show (128 : Int32) * nI b9 + nI (8 * s9 + i9) = nI (128 * b9 + (8 * s9 + i9)) from nI_ma 128 b9 (8 * s9 + i9), nI_clamp (by omega)] at z; exact hpr.2.2.1.symm.trans z
          exact W.iret (v := 0) hx hb hr (fun t ht hW => ⟨⟨_, _, rfl, ⟨(by rw [hA, hxw]; show (0 : Int32) = nu1 (peI v9 s9 i9); unfold peI; rw [if_pos hk0]; rfl), (by rw [← eI1]; exact hM), hF⟩, mk_end hG ht⟩, hS.F ht⟩) hS.2.2 dX14_parameter_177
      · skip
        refine lv_tableIn (tgt := 178) hx hb dX14_parameter_29 hlo hhi (off := 149) (by rw [sw_29]; rfl) (by decide) ?_
        refine lv_aload_n hx hb dX14_parameter_178 rfl (lv_at hl 1 rfl) ?_
        refine mm_get (v := .ref (Ar 28)) hx hb hf_X14 (fun _ h9 => h9) hown hK hG hM.1 rfl 28 (by decide) (tb_use hT tw_1419) (fun _ h9 => h9) (mfs_g28 _ _) dX14_parameter_179 ?_
        refine lv_sipush (v := 128) hx hb dX14_parameter_182 (by decide) ?_
        refine lv_aload_n hx hb dX14_parameter_185 rfl (lv_at hl 1 rfl) ?_
        refine mm_get (v := .int (Iv 42)) hx hb hf_X14 (fun _ h9 => h9) hown hK hG hM.1 rfl 42 (by decide) (tb_use hT tw_1433) (fun _ h9 => h9) (by rw [mfs_g42, eI1] <;> rfl) dX14_parameter_186 ?_
        rw [show (Iv 42) = nI b9 from hbk]
        refine lv_imul hx hb dX14_parameter_189 ?_
        refine lv_iload hx hb dX14_parameter_190 (lv_at hl 0 rfl) ?_
        refine lv_iadd hx hb dX14_parameter_192 ?_
        refine mm_iald (n := 256) (f := F 28) hx hb hK hG 1 (hM.2.1 28 rfl) rfl (by rw [show (128 : Int32) * nI b9 + nI (8 * s9 + i9) = nI (128 * b9 + (8 * s9 + i9)) from nI_ma 128 b9 (8 * s9 + i9)]; exact nI_in (N := 256) (by omega) (by decide)) dX14_parameter_193 ?_
        refine lv_topi (fun x14 ex14 => ?_)
        have hA : (match svO v9 iv with | none => -1 | some c => match paO v9 c jv with | none => -1 | some p => paA v9 nm c p wv) = paA v9 nm s9 i9 wv := by rw [show svO v9 iv = some s9 from ho9]; dsimp only; rw [show paO v9 s9 jv = some i9 from hoi]
        have hxw : wv = nI 4 := sw5 (by decide) sw_29
        exact W.iret (v := x14) hx hb hr (fun t ht hW => ⟨⟨_, _, rfl, ⟨(by rw [hA, hxw, ex14, show (128 : Int32) * nI b9 + nI (8 * s9 + i9) = nI (128 * b9 + (8 * s9 + i9)) from nI_ma 128 b9 (8 * s9 + i9), nI_clamp (by omega)]; exact hpr.2.2.2.2), (by rw [← eI1]; exact hM), hF⟩, mk_end hG ht⟩, hS.F ht⟩) hS.2.2 dX14_parameter_194
  · skip
    refine lv_iconst (v := (-1)) hx hb dX14_parameter_14 (by decide) ?_
    have hno := isPv_f (v := v9) (by rw [eI1]; exact h43) (b2i_f (by rw [← er3]; exact c_11) : isPv I1 v9.nS v9.nP iv jv = false)
    exact W.iret (v := (-1)) hx hb hr (fun t ht hW => ⟨⟨_, _, rfl, ⟨(by rcases hno with y | ⟨c, y, z⟩; (rw [y]); (rw [y]; dsimp only; rw [z])), (by rw [← eI1]; exact hM), hF⟩, mk_end hG ht⟩, hS.F ht⟩) hS.2.2 dX14_parameter_15
