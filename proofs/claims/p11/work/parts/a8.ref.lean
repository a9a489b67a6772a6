theorem isSv_ix {Iv : Nat → Int32} {nS : Nat} {x : Int32} (hn : nS < 1000) (h : isSv Iv nS x = true) : ∃ k, k < nS ∧ x = nI (k + 1) ∧ oIx x nS = some k := by
  unfold isSv at h
  have h2 : (oIx x nS).isSome = true := ((Bool.and_eq_true _ _).mp h).2
  by_cases c1 : x < 1
  · rw [ix_no1 c1] at h2
    cases h2
  · by_cases c2 : x ≤ nI nS
    · exact ix_of hn c1 c2
    · rw [ix_no2 (by omega) c2] at h2
      cases h2
theorem b2i_t {b : Bool} (h : ¬ b2i b = 0) : b = true := by
  cases b with
  | false => exact absurd rfl h
  | true => rfl
theorem b2i_f {b : Bool} (h : b2i b = 0) : b = false := by
  cases b with
  | false => rfl
  | true => exact absurd h (by decide)

set_option maxHeartbeats 4000000 in
set_option maxRecDepth 100000 in
theorem c_M_isParam (l : Launch) (D : va_G) (cy : Nat → ClassId) (A : Nat → Prop) (X : State → Prop) (hst : mk_St A X) (hXT : ∀ U : State, X U → TB U) (G : Nat → Option va_E) (o : Nat) (Ar : Nat → Nat) (Iv : Nat → Int32) (F : Nat → Nat → Int32) (L : Nat → Nat → Int64) (b9 nS : Nat) (nP : Nat → Nat) (xa ya : Int32) (hM : MD cy G o Ar Iv F L) (hb9 : b9 < 2) (hbk : Iv 42 = nI b9) (hcn : F 3 b9 = nI nS) (hnS : nS ≤ 16) (hPn : ∀ s, s < nS → F 23 (16 * b9 + s) = nI (nP s) ∧ nP s ≤ 8) : Met l yX14_isParam [.code yX14_isParam cX14_isParam 3 (some .boolean)] ({ frames := 1, cells := 0, slots := 0, locals := 30 }) (mk_Pre D vwCl (tyL cy) A X G [.ref o, .int xa, .int ya]) (va_Qi (fun (r : Int32) (G2 : Nat → Option va_E) => r = b2i (isPv Iv nS nP xa ya) ∧ G2 = G) (mk_B D vwCl A) A) 0 0 A := by
  refine Met.ofW (cc := cX14_isParam) (maxL := 3) (ret := (some .boolean)) (by decide) rfl ?_
  intro p e s m args below meth c s₁ B hml hv
  obtain ⟨rfl, hG, hK, hA, hX⟩ := hv
  have hx := B.exec
  have hb := B.bytes
  have hr := B.returns
  have hlocks := B.notSynchronized
  have hT := hXT s hX
  have hown : s.vm.findClass RX14 = some m.cls := findClass_of_methodNamed B.named
  have hf_X14 : ∀ w ∈ u_ws RX14 TX14 76, w.before ([.ref o, .int xa, .int ya] : List Value).toArray s = true := tb_list hT fX14
  have hS : va_S A s.heap s.heap [] := va_S.rf
  have hl := lv_entry ([.ref o, .int xa, .int ya]) (n := 3) (Nat.le_of_ble_eq_true rfl)
  rw [lg_entry_eq]
  generalize (lg_sl ([.ref o, .int xa, .int ya]) ++ List.replicate (3 - (lg_sl ([.ref o, .int xa, .int ya])).length) Slot.unset).toArray = ls at hl ⊢
  have hl : lv_has ls 3 [(0, .ref o), (1, .int xa), (2, .int ya)] := hl
  refine lv_aload_n hx hb dX14_isParam_0 rfl (lv_at hl 0 rfl) ?_
  refine lv_iload_n hx hb dX14_isParam_1 rfl (lv_at hl 1 rfl) ?_
  refine va_calli (va_runV (As := [.int xa]) (rest := []) ⟨hx, hb, hml, hown, (fun _ h9 => absurd h9 List.not_mem_nil : ∀ w ∈ ([] : List Cond), w.before _ s = true)⟩ (c_M_isService l D cy A X hst hXT G o Ar Iv F L b9 nS xa hM hb9 hbk hcn hnS) (tb_cw (C := RX14) 1 hT tw_1810 tw_109 tw_1807 tw_1809 tw_94 rfl rfl hq_X14_isService ⟨Nat.le_of_ble_eq_true rfl, Nat.le_of_ble_eq_true rfl⟩) (mk_preC hst hG hK hA hX hS vc_15 hM.1) rfl rfl hl.1 rfl (lv_room (Nat.le_of_ble_eq_true rfl)) dX14_isParam_2 ⟨Nat.le_of_ble_eq_true rfl, Nat.le_of_ble_eq_true rfl⟩) hS (fun q _ h => h) (fun q h => h) (fun r1 G2 t H locs ht hvm hw hB hz1 hk1 hS => ?_)
  have hG : mm D vwCl A G2 H := by rw [← ht]; exact hB
  clear hB hz1 hk1 hvm ht
  obtain ⟨er1, hw⟩ := hw
  rw [hw] at hG
  refine lv_if_eq (tgt := 37) hx hb dX14_isParam_5 (by decide) (fun c_5 => ?_) (fun c_5 => ?_)
  · skip
    refine lv_iconst (v := 0) hx hb dX14_isParam_37 (by decide) ?_
    exact W.zret (v := 0) hx hb hr rfl (fun t ht hW => ⟨⟨_, _, rfl, ⟨(by rw [show isPv Iv nS nP xa ya = false by unfold isPv; rw [b2i_f (by rw [← er1]; exact c_5 : b2i (isSv Iv nS xa) = 0)]; rfl]; rfl), rfl⟩, mk_end hG ht⟩, hS.F ht⟩) hS.2.2 dX14_isParam_38
  · skip
    have hsv : isSv Iv nS xa = true := b2i_t (by rw [← er1]; exact c_5)
    obtain ⟨s9, hs9, hxs, ho9⟩ := isSv_ix (by omega) hsv
    obtain ⟨hpn, hp8⟩ := hPn s9 hs9
    have hix : (16 : Int32) * Iv 42 + xa - 1 = nI (16 * b9 + s9) := by rw [hbk, hxs, show (16 : Int32) * nI b9 + nI (s9 + 1) = nI (16 * b9 + (s9 + 1)) from nI_ma 16 b9 (s9 + 1)]; exact nI_pred (16 * b9 + s9)
    refine lv_iload_n hx hb dX14_isParam_8 rfl (lv_at hl 2 rfl) ?_
    refine lv_iconst (v := 1) hx hb dX14_isParam_9 (by decide) ?_
    refine lv_icmp_lt (tgt := 37) hx hb dX14_isParam_10 (by decide) (fun c_10 => ?_) (fun c_10 => ?_)
    · skip
      refine lv_iconst (v := 0) hx hb dX14_isParam_37 (by decide) ?_
      have hF9 : isPv Iv nS nP xa ya = (oIx ya (nP s9)).isSome := by unfold isPv; rw [hsv, ho9]; rfl
      exact W.zret (v := 0) hx hb hr rfl (fun t ht hW => ⟨⟨_, _, rfl, ⟨(by rw [hF9, show oIx ya (nP s9) = none from ix_no1 c_10]; rfl), rfl⟩, mk_end hG ht⟩, hS.F ht⟩) hS.2.2 dX14_isParam_38
    · skip
      refine lv_iload_n hx hb dX14_isParam_13 rfl (lv_at hl 2 rfl) ?_
      refine lv_aload_n hx hb dX14_isParam_14 rfl (lv_at hl 0 rfl) ?_
      refine mm_get (v := .ref (Ar 23)) hx hb hf_X14 (fun _ h9 => h9) hown hK hG hM.1 rfl 23 (by decide) (tb_use hT tw_1414) (fun _ h9 => h9) (mfs_g23 _ _) dX14_isParam_15 ?_
      refine lv_bipush (v := 16) hx hb dX14_isParam_18 (by decide) ?_
      refine lv_aload_n hx hb dX14_isParam_20 rfl (lv_at hl 0 rfl) ?_
      refine mm_get (v := .int (Iv 42)) hx hb hf_X14 (fun _ h9 => h9) hown hK hG hM.1 rfl 42 (by decide) (tb_use hT tw_1433) (fun _ h9 => h9) (mfs_g42 _ _) dX14_isParam_21 ?_
      refine lv_imul hx hb dX14_isParam_24 ?_
      refine lv_iload_n hx hb dX14_isParam_25 rfl (lv_at hl 1 rfl) ?_
      refine lv_iadd hx hb dX14_isParam_26 ?_
      refine lv_iconst (v := 1) hx hb dX14_isParam_27 (by decide) ?_
      refine lv_isub hx hb dX14_isParam_28 ?_
      refine mm_iald (n := 32) (f := F 23) hx hb hK hG 1 (hM.2.1 23 rfl) rfl (by rw [hix]; exact nI_in (N := 32) (by omega) (by decide)) dX14_isParam_29 ?_
      refine lv_topi (fun x3 ex3 => ?_)
      refine lv_icmp_gt (tgt := 37) hx hb dX14_isParam_30 (by decide) (fun c_30 => ?_) (fun c_30 => ?_)
      · skip
        refine lv_iconst (v := 0) hx hb dX14_isParam_37 (by decide) ?_
        have hF9 : isPv Iv nS nP xa ya = (oIx ya (nP s9)).isSome := by unfold isPv; rw [hsv, ho9]; rfl
        have hxc : x3 = nI (nP s9) := by rw [ex3, hix, nI_clamp (by omega)]; exact hpn
        rw [hxc] at c_30
        exact W.zret (v := 0) hx hb hr rfl (fun t ht hW => ⟨⟨_, _, rfl, ⟨(by rw [hF9, show oIx ya (nP s9) = none from ix_no2 (by omega) (Int32.not_le.mpr c_30)]; rfl), rfl⟩, mk_end hG ht⟩, hS.F ht⟩) hS.2.2 dX14_isParam_38
      · skip
        refine lv_iconst (v := 1) hx hb dX14_isParam_33 (by decide) ?_
        refine lv_goto (tgt := 38) hx hb dX14_isParam_34 (by decide) ?_
        have hF9 : isPv Iv nS nP xa ya = (oIx ya (nP s9)).isSome := by unfold isPv; rw [hsv, ho9]; rfl
        have hxc : x3 = nI (nP s9) := by rw [ex3, hix, nI_clamp (by omega)]; exact hpn
        rw [hxc] at c_30
        obtain ⟨k9, -, -, hy9⟩ := ix_of (i := ya) (n := nP s9) (by omega) c_10 (Int32.not_lt.mp c_30)
        exact W.zret (v := 1) hx hb hr rfl (fun t ht hW => ⟨⟨_, _, rfl, ⟨(by rw [hF9, hy9]; rfl), rfl⟩, mk_end hG ht⟩, hS.F ht⟩) hS.2.2 dX14_isParam_38
