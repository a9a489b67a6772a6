/-- something is in hand and the number is a service's -/
def isSv (Iv : Nat → Int32) (nS : Nat) (x : Int32) : Bool := decide (¬ Iv 43 = 0) && (oIx x nS).isSome

set_option maxHeartbeats 4000000 in
set_option maxRecDepth 100000 in
theorem c_M_isService (l : Launch) (D : va_G) (cy : Nat → ClassId) (A : Nat → Prop) (X : State → Prop) (hst : mk_St A X) (hXT : ∀ U : State, X U → TB U) (G : Nat → Option va_E) (o : Nat) (Ar : Nat → Nat) (Iv : Nat → Int32) (F : Nat → Nat → Int32) (L : Nat → Nat → Int64) (b9 nS : Nat) (xa : Int32) (hM : MD cy G o Ar Iv F L) (hb9 : b9 < 2) (hbk : Iv 42 = nI b9) (hcn : F 3 b9 = nI nS) (hnS : nS ≤ 16) : Met l yX14_isService [.code yX14_isService cX14_isService 2 (some .boolean)] ({ frames := 0, cells := 0, slots := 0, locals := 0 }) (mk_Pre D vwCl (tyL cy) A X G [.ref o, .int xa]) (va_Qi (fun (r : Int32) (G2 : Nat → Option va_E) => r = b2i (isSv Iv nS xa) ∧ G2 = G) (mk_B D vwCl A) A) 0 0 A := by
  refine Met.ofW (cc := cX14_isService) (maxL := 2) (ret := (some .boolean)) (by decide) rfl ?_
  intro p e s m args below meth c s₁ B hml hv
  obtain ⟨rfl, hG, hK, hA, hX⟩ := hv
  have hx := B.exec
  have hb := B.bytes
  have hr := B.returns
  have hlocks := B.notSynchronized
  have hT := hXT s hX
  have hown : s.vm.findClass RX14 = some m.cls := findClass_of_methodNamed B.named
  have hf_X14 : ∀ w ∈ u_ws RX14 TX14 76, w.before ([.ref o, .int xa] : List Value).toArray s = true := tb_list hT fX14
  have hS : va_S A s.heap s.heap [] := va_S.rf
  have hl := lv_entry ([.ref o, .int xa]) (n := 2) (Nat.le_of_ble_eq_true rfl)
  rw [lg_entry_eq]
  generalize (lg_sl ([.ref o, .int xa]) ++ List.replicate (2 - (lg_sl ([.ref o, .int xa])).length) Slot.unset).toArray = ls at hl ⊢
  have hl : lv_has ls 2 [(0, .ref o), (1, .int xa)] := hl
  refine lv_aload_n hx hb dX14_isService_0 rfl (lv_at hl 0 rfl) ?_
  refine mm_get (v := .int (Iv 43)) hx hb hf_X14 (fun _ h9 => h9) hown hK hG hM.1 rfl 43 (by decide) (tb_use hT tw_1434) (fun _ h9 => h9) (mfs_g43 _ _) dX14_isService_1 ?_
  refine lv_if_eq (tgt := 29) hx hb dX14_isService_4 (by decide) (fun c_4 => ?_) (fun c_4 => ?_)
  · skip
    refine lv_iconst (v := 0) hx hb dX14_isService_29 (by decide) ?_
    exact W.zret (v := 0) hx hb hr rfl (fun t ht hW => ⟨⟨_, _, rfl, ⟨(by rw [show isSv Iv nS xa = false by unfold isSv; rw [decide_eq_false (fun z => z c_4)]; rfl]; rfl), rfl⟩, mk_end hG ht⟩, hS.F ht⟩) hS.2.2 dX14_isService_30
  · skip
    refine lv_iload_n hx hb dX14_isService_7 rfl (lv_at hl 1 rfl) ?_
    refine lv_iconst (v := 1) hx hb dX14_isService_8 (by decide) ?_
    refine lv_icmp_lt (tgt := 29) hx hb dX14_isService_9 (by decide) (fun c_9 => ?_) (fun c_9 => ?_)
    · skip
      refine lv_iconst (v := 0) hx hb dX14_isService_29 (by decide) ?_
      exact W.zret (v := 0) hx hb hr rfl (fun t ht hW => ⟨⟨_, _, rfl, ⟨(by rw [show isSv Iv nS xa = false by unfold isSv; rw [show oIx xa nS = none from ix_no1 c_9, Option.isSome_none, Bool.and_false]]; rfl), rfl⟩, mk_end hG ht⟩, hS.F ht⟩) hS.2.2 dX14_isService_30
    · skip
      refine lv_iload_n hx hb dX14_isService_12 rfl (lv_at hl 1 rfl) ?_
      refine lv_aload_n hx hb dX14_isService_13 rfl (lv_at hl 0 rfl) ?_
      refine mm_get (v := .ref (Ar 3)) hx hb hf_X14 (fun _ h9 => h9) hown hK hG hM.1 rfl 3 (by decide) (tb_use hT tw_1394) (fun _ h9 => h9) (mfs_g3 _ _) dX14_isService_14 ?_
      refine lv_aload_n hx hb dX14_isService_17 rfl (lv_at hl 0 rfl) ?_
      refine mm_get (v := .int (Iv 42)) hx hb hf_X14 (fun _ h9 => h9) hown hK hG hM.1 rfl 42 (by decide) (tb_use hT tw_1433) (fun _ h9 => h9) (mfs_g42 _ _) dX14_isService_18 ?_
      refine mm_iald (n := 2) (f := F 3) hx hb hK hG 1 (hM.2.1 3 rfl) rfl (by rw [hbk]; exact nI_in (N := 2) hb9 (by decide)) dX14_isService_21 ?_
      refine lv_topi (fun x1 ex1 => ?_)
      refine lv_icmp_gt (tgt := 29) hx hb dX14_isService_22 (by decide) (fun c_22 => ?_) (fun c_22 => ?_)
      · skip
        refine lv_iconst (v := 0) hx hb dX14_isService_29 (by decide) ?_
        have hxc : x1 = nI nS := by rw [ex1, hbk, nI_clamp (by omega)]; exact hcn
        rw [hxc] at c_22
        exact W.zret (v := 0) hx hb hr rfl (fun t ht hW => ⟨⟨_, _, rfl, ⟨(by rw [show isSv Iv nS xa = false by unfold isSv; rw [show oIx xa nS = none from ix_no2 (by omega) (Int32.not_le.mpr c_22), Option.isSome_none, Bool.and_false]]; rfl), rfl⟩, mk_end hG ht⟩, hS.F ht⟩) hS.2.2 dX14_isService_30
      · skip
        refine lv_iconst (v := 1) hx hb dX14_isService_25 (by decide) ?_
        refine lv_goto (tgt := 30) hx hb dX14_isService_26 (by decide) ?_
        have hxc : x1 = nI nS := by rw [ex1, hbk, nI_clamp (by omega)]; exact hcn
        rw [hxc] at c_22
        obtain ⟨k9, -, -, ho9⟩ := ix_of (i := xa) (n := nS) (by omega) c_9 (Int32.not_lt.mp c_22)
        exact W.zret (v := 1) hx hb hr rfl (fun t ht hW => ⟨⟨_, _, rfl, ⟨(by rw [show isSv Iv nS xa = true by unfold isSv; rw [decide_eq_true c_4, ho9]; rfl]; rfl), rfl⟩, mk_end hG ht⟩, hS.F ht⟩) hS.2.2 dX14_isService_30
