/-- Octets.at -/
def oc_at (n : Int32) (f : Nat → Int32) (i : Int32) : Int32 := if i < 0 then 0 else if n ≤ i then 0 else if i < 64 then f i.toNatClampNeg &&& 255 else 0
set_option maxHeartbeats 4000000 in
set_option maxRecDepth 100000 in
theorem c_X6_at (l : Launch) (D : va_G) (cy : Nat → ClassId) (A : Nat → Prop) (X : State → Prop) (hst : mk_St A X) (hXT : ∀ U : State, X U → TB U) (G : Nat → Option va_E) (o ro : Nat) (n i : Int32) (f : Nat → Int32) (h0 : G o = some (.inr (7, [.ref ro, .int n]))) (h1 : G ro = some (.inl (cy 0, 64, .inl f))) : Met l yX6_at [.code yX6_at cX6_at 2 (some .int)] ({ frames := 0, cells := 0, slots := 0, locals := 0 }) (mk_Pre D vwCl (tyL cy) A X G [.ref o, .int i]) (va_Qi (fun (r : Int32) (G2 : Nat → Option va_E) => r = oc_at n f i ∧ G2 = G) (mk_B D vwCl A) A) 0 0 A := by
  refine Met.ofW (cc := cX6_at) (maxL := 2) (ret := (some .int)) (by decide) rfl ?_
  intro p e s m args below meth c s₁ B hml hv
  obtain ⟨rfl, hG, hK, hA, hX⟩ := hv
  have hx := B.exec
  have hb := B.bytes
  have hr := B.returns
  have hlocks := B.notSynchronized
  have hT := hXT s hX
  have hown : s.vm.findClass RX6 = some m.cls := findClass_of_methodNamed B.named
  have hf_X6 : ∀ w ∈ u_ws RX6 TX6 2, w.before ([.ref o, .int i] : List Value).toArray s = true := tb_list hT fX6
  have hS : va_S A s.heap s.heap [] := va_S.rf
  have hl := lv_entry ([.ref o, .int i]) (n := 2) (Nat.le_of_ble_eq_true rfl)
  rw [lg_entry_eq]
  generalize (lg_sl ([.ref o, .int i]) ++ List.replicate (2 - (lg_sl ([.ref o, .int i])).length) Slot.unset).toArray = ls at hl ⊢
  have hl : lv_has ls 2 [(0, .ref o), (1, .int i)] := hl
  refine lv_iload_n hx hb dX6_at_0 rfl (lv_at hl 1 rfl) ?_
  refine lv_if_lt (tgt := 21) hx hb dX6_at_1 (by decide) (fun c_1 => ?_) (fun c_1 => ?_)
  · skip
    refine lv_iconst (v := 0) hx hb dX6_at_21 (by decide) ?_
    refine lv_goto (tgt := 35) hx hb dX6_at_22 (by decide) ?_
    exact W.iret (v := 0) hx hb hr (fun t ht hW => ⟨⟨_, _, rfl, ⟨(by unfold oc_at; rw [if_pos c_1]), rfl⟩, mk_end hG ht⟩, hS.F ht⟩) hS.2.2 dX6_at_35
  · skip
    refine lv_iload_n hx hb dX6_at_4 rfl (lv_at hl 1 rfl) ?_
    refine lv_aload_n hx hb dX6_at_5 rfl (lv_at hl 0 rfl) ?_
    refine mm_get (v := .int n) hx hb hf_X6 (fun _ h9 => h9) hown hK hG h0 rfl 1 (by decide) (tb_use hT tw_200) (fun _ h9 => h9) rfl dX6_at_6 ?_
    refine lv_icmp_ge (tgt := 21) hx hb dX6_at_9 (by decide) (fun c_9 => ?_) (fun c_9 => ?_)
    · skip
      refine lv_iconst (v := 0) hx hb dX6_at_21 (by decide) ?_
      refine lv_goto (tgt := 35) hx hb dX6_at_22 (by decide) ?_
      exact W.iret (v := 0) hx hb hr (fun t ht hW => ⟨⟨_, _, rfl, ⟨(by unfold oc_at; rw [if_neg c_1, if_pos c_9]), rfl⟩, mk_end hG ht⟩, hS.F ht⟩) hS.2.2 dX6_at_35
    · skip
      refine lv_iload_n hx hb dX6_at_12 rfl (lv_at hl 1 rfl) ?_
      refine lv_aload_n hx hb dX6_at_13 rfl (lv_at hl 0 rfl) ?_
      refine mm_get (v := .ref ro) hx hb hf_X6 (fun _ h9 => h9) hown hK hG h0 rfl 0 (by decide) (tb_use hT tw_199) (fun _ h9 => h9) rfl dX6_at_14 ?_
      refine mm_alen (v := 64) hx hb hK hG 0 h1 rfl rfl dX6_at_17 ?_
      refine lv_icmp_lt (tgt := 25) hx hb dX6_at_18 (by decide) (fun c_18 => ?_) (fun c_18 => ?_)
      · skip
        refine lv_aload_n hx hb dX6_at_25 rfl (lv_at hl 0 rfl) ?_
        refine mm_get (v := .ref ro) hx hb hf_X6 (fun _ h9 => h9) hown hK hG h0 rfl 0 (by decide) (tb_use hT tw_199) (fun _ h9 => h9) rfl dX6_at_26 ?_
        refine lv_iload_n hx hb dX6_at_29 rfl (lv_at hl 1 rfl) ?_
        refine mm_bald hx hb hK hG 0 h1 rfl (vp_in_lt c_1 c_18 rfl) dX6_at_30 ?_
        refine lv_topi (fun x1 ex1 => ?_)
        refine lv_sipush (v := 255) hx hb dX6_at_31 (by decide) ?_
        refine lv_iand hx hb dX6_at_34 ?_
        exact W.iret (v := (x1 &&& 255)) hx hb hr (fun t ht hW => ⟨⟨_, _, rfl, ⟨(by unfold oc_at; rw [if_neg c_1, if_neg c_9, if_pos c_18]; rw [ex1]), rfl⟩, mk_end hG ht⟩, hS.F ht⟩) hS.2.2 dX6_at_35
      · skip
        refine lv_iconst (v := 0) hx hb dX6_at_21 (by decide) ?_
        refine lv_goto (tgt := 35) hx hb dX6_at_22 (by decide) ?_
        exact W.iret (v := 0) hx hb hr (fun t ht hW => ⟨⟨_, _, rfl, ⟨(by unfold oc_at; rw [if_neg c_1, if_neg c_9, if_neg c_18]), rfl⟩, mk_end hG ht⟩, hS.F ht⟩) hS.2.2 dX6_at_35
