/-- Octets.at -/
def oc_at (n : Int32) (f : Nat → Int32) (i : Int32) : Int32 := if i < 0 then 0 else if n ≤ i then 0 else if i < 64 then f i.toNatClampNeg &&& 255 else 0
set_option maxHeartbeats 4000000 in
set_option maxRecDepth 100000 in
theorem c_X6_at (l : Launch) (D : va_G) (cy : Nat → ClassId) (A : Nat → Prop) (X : State → Prop) (hst : mk_St A X) (hXT : ∀ U : State, X U → TB U) (G : Nat → Option va_E) (o ro : Nat) (n i : Int32) (f : Nat → Int32) (h0 : G o = some (.inr (7, [.ref ro, .int n]))) (h1 : G ro = some (.inl (cy 0, 64, .inl f))) : Met l yX6_at [.code yX6_at cX6_at 2 (some .int)] ({ frames := 0, cells := 0, slots := 0, locals := 0 }) (mk_Pre D vwCl (tyL cy) A X G [.ref o, .int i]) (va_Qi (fun (r : Int32) (G2 : Nat → Option va_E) => r = oc_at n f i ∧ G2 = G) (mk_B D vwCl A) A) 0 0 A := by
  refine Met.ofW (cc := cX6_at) (maxL := 2) (ret := (some .int)) (by decide) rfl ?_
  intro p e s m args below meth c s₁ B hml hv
  obtain ⟨rfl, hG, hK, hA, hX⟩ := hv
  have hx := B.exec
  have hb := B.bytes
  have hr := B.returns
  have hlocks := B.notSynchronized
  have hT := hXT s hX
  have hown : s.vm.findClass RX6 = some m.cls := findClass_of_methodNamed B.named
  have hf_X6 : ∀ w ∈ u_ws RX6 TX6 2, w.before ([.ref o, .int i] : List Value).toArray s = true := tb_list hT fX6
  have hS : va_S A s.heap s.heap [] := va_S.rf
  have hl := lv_entry ([.ref o, .int i]) (n := 2) (Nat.le_of_ble_eq_true rfl)
  rw [lg_entry_eq]
  generalize (lg_sl ([.ref o, .int i]) ++ List.replicate (2 - (lg_sl ([.ref o, .int i])).length) Slot.unset).toArray = ls at hl ⊢
  have hl : lv_has ls 2 [(0, .ref o), (1, .int i)] := hl
  refine lv_iload_n hx hb dX6_at_0 rfl (lv_at hl 1 rfl) ?_
  refine lv_if_lt (tgt := 21) hx hb dX6_at_1 (by decide) (fun c_1 => ?_) (fun c_1 => ?_)
  · skip
    refine lv_iconst (v := 0) hx hb dX6_at_21 (by decide) ?_
    refine lv_goto (tgt := 35) hx hb dX6_at_22 (by decide) ?_
    exact W.iret (v := 0) hx hb hr (fun t ht hW => ⟨⟨_, _, rfl, ⟨(by unfold oc_at; rw [if_pos c_1]), rfl⟩, mk_end hG ht⟩, hS.F ht⟩) hS.2.2 dX6_at_35
  · skip
    refine lv_iload_n hx hb dX6_at_4 rfl (lv_at hl 1 rfl) ?_
    refine lv_aload_n hx hb dX6_at_5 rfl (lv_at hl 0 rfl) ?_
    refine mm_get (v := .int n) hx hb hf_X6 (fun _ h9 => h9) hown hK hG h0 rfl 1 (by decide) (tb_use hT tw_200) (fun _ h9 => h9) rfl dX6_at_6 ?_
    refine lv_icmp_ge (tgt := 21) hx hb dX6_at_9 (by decide) (fun c_9 => ?_) (fun c_9 => ?_)
    · skip
      refine lv_iconst (v := 0) hx hb dX6_at_21 (by decide) ?_
      refine lv_goto (tgt := 35) hx hb dX6_at_22 (by decide) ?_
      exact W.iret (v := 0) hx hb hr (fun t ht hW => ⟨⟨_, _, rfl, ⟨(by unfold oc_at; rw [if_neg c_1, if_pos c_9]), rfl⟩, mk_end hG ht⟩, hS.F ht⟩) hS.2.2 dX6_at_35
    · skip
      refine lv_iload_n hx hb dX6_at_12 rfl (lv_at hl 1 rfl) ?_
      refine lv_aload_n hx hb dX6_at_13 rfl (lv_at hl 0 rfl) ?_
      refine mm_get (v := .ref ro) hx hb hf_X6 (fun _ h9 => h9) hown hK hG h0 rfl 0 (by decide) (tb_use hT tw_199) (fun _ h9 => h9) rfl dX6_at_14 ?_
      refine mm_alen (v := 64) hx hb hK hG 0 h1 rfl rfl dX6_at_17 ?_
      refine lv_icmp_lt (tgt := 25) hx hb dX6_at_18 (by decide) (fun c_18 => ?_) (fun c_18 => ?_)
      · skip
        refine lv_aload_n hx hb dX6_at_25 rfl (lv_at hl 0 rfl) ?_
        refine mm_get (v := .ref ro) hx hb hf_X6 (fun _ h9 => h9) hown hK hG h0 rfl 0 (by decide) (tb_use hT tw_199) (fun _ h9 => h9) rfl dX6_at_26 ?_
        refine lv_iload_n hx hb dX6_at_29 rfl (lv_at hl 1 rfl) ?_
        refine mm_bald hx hb hK hG 0 h1 rfl (vp_in_lt c_1 c_18 rfl) dX6_at_30 ?_
        refine lv_topi (fun x1 ex1 => ?_)
        refine lv_sipush (v := 255) hx hb dX6_at_31 (by decide) ?_
        refine lv_iand hx hb dX6_at_34 ?_
        exact W.iret (v := (x1 &&& 255)) hx hb hr (fun t ht hW => ⟨⟨_, _, rfl, ⟨(by unfold oc_at; rw [if_neg c_1, if_neg c_9, if_pos c_18]; rw [ex1]), rfl⟩, mk_end hG ht⟩, hS.F ht⟩) hS.2.2 dX6_at_35
      · skip
        refine lv_iconst (v := 0) hx hb dX6_at_21 (by decide) ?_
        refine lv_goto (tgt := 35) hx hb dX6_at_22 (by decide) ?_
        exact W.iret (v := 0) hx hb hr (fun t ht hW => ⟨⟨_, _, rfl, ⟨(by unfold oc_at; rw [if_neg c_1, if_neg c_9, if_neg c_18]), rfl⟩, mk_end hG ht⟩, hS.F ht⟩) hS.2.2 dX6_at_35

set_option maxHeartbeats 4000000 in
set_option maxRecDepth 100000 in
theorem c_X6_add (l : Launch) (D : va_G) (cy : Nat → ClassId) (A : Nat → Prop) (X : State → Prop) (hst : mk_St A X) (hXT : ∀ U : State, X U → TB U) (G : Nat → Option va_E) (o ro : Nat) (n i : Int32) (f : Nat → Int32) (h0 : G o = some (.inr (7, [.ref ro, .int n]))) (h1 : G ro = some (.inl (cy 0, 64, .inl f))) (hn0 : ¬ n < 0) (hn : n < 64) : Met l yX6_add [.code yX6_add cX6_add 2 none] ({ frames := 0, cells := 0, slots := 0, locals := 0 }) (mk_Pre D vwCl (tyL cy) A X G [.ref o, .int i]) (va_Qv (fun (G2 : Nat → Option va_E) => G2 = mm_set (mm_set G ro (.inl (cy 0, 64, .inl (upd f n.toNatClampNeg (vp_nar .byte i.toInt8.toInt32))))) o (.inr (7, [.ref ro, .int (n + 1)]))) (mk_B D vwCl A) A) 0 0 A := by
  refine Met.ofW (cc := cX6_add) (maxL := 2) (ret := none) (by decide) rfl ?_
  intro p e s m args below meth c s₁ B hml hv
  obtain ⟨rfl, hG, hK, hA, hX⟩ := hv
  have hx := B.exec
  have hb := B.bytes
  have hr := B.returns
  have hlocks := B.notSynchronized
  have hT := hXT s hX
  have hown : s.vm.findClass RX6 = some m.cls := findClass_of_methodNamed B.named
  have hf_X6 : ∀ w ∈ u_ws RX6 TX6 2, w.before ([.ref o, .int i] : List Value).toArray s = true := tb_list hT fX6
  have hS : va_S A s.heap s.heap [] := va_S.rf
  have hl := lv_entry ([.ref o, .int i]) (n := 2) (Nat.le_of_ble_eq_true rfl)
  rw [lg_entry_eq]
  generalize (lg_sl ([.ref o, .int i]) ++ List.replicate (2 - (lg_sl ([.ref o, .int i])).length) Slot.unset).toArray = ls at hl ⊢
  have hl : lv_has ls 2 [(0, .ref o), (1, .int i)] := hl
  refine lv_aload_n hx hb dX6_add_0 rfl (lv_at hl 0 rfl) ?_
  refine mm_get (v := .int n) hx hb hf_X6 (fun _ h9 => h9) hown hK hG h0 rfl 1 (by decide) (tb_use hT tw_200) (fun _ h9 => h9) rfl dX6_add_1 ?_
  refine lv_if_lt (tgt := 40) hx hb dX6_add_4 (by decide) (fun c_4 => ?_) (fun c_4 => ?_)
  · skip
    exact absurd c_4 hn0
  · skip
    refine lv_aload_n hx hb dX6_add_7 rfl (lv_at hl 0 rfl) ?_
    refine mm_get (v := .int n) hx hb hf_X6 (fun _ h9 => h9) hown hK hG h0 rfl 1 (by decide) (tb_use hT tw_200) (fun _ h9 => h9) rfl dX6_add_8 ?_
    refine lv_aload_n hx hb dX6_add_11 rfl (lv_at hl 0 rfl) ?_
    refine mm_get (v := .ref ro) hx hb hf_X6 (fun _ h9 => h9) hown hK hG h0 rfl 0 (by decide) (tb_use hT tw_199) (fun _ h9 => h9) rfl dX6_add_12 ?_
    refine mm_alen (v := 64) hx hb hK hG 0 h1 rfl rfl dX6_add_15 ?_
    refine lv_icmp_ge (tgt := 40) hx hb dX6_add_16 (by decide) (fun c_16 => ?_) (fun c_16 => ?_)
    · skip
      exact absurd hn (Int32.not_lt.mpr c_16)
    · skip
      refine lv_aload_n hx hb dX6_add_19 rfl (lv_at hl 0 rfl) ?_
      refine mm_get (v := .ref ro) hx hb hf_X6 (fun _ h9 => h9) hown hK hG h0 rfl 0 (by decide) (tb_use hT tw_199) (fun _ h9 => h9) rfl dX6_add_20 ?_
      refine lv_aload_n hx hb dX6_add_23 rfl (lv_at hl 0 rfl) ?_
      refine mm_get (v := .int n) hx hb hf_X6 (fun _ h9 => h9) hown hK hG h0 rfl 1 (by decide) (tb_use hT tw_200) (fun _ h9 => h9) rfl dX6_add_24 ?_
      refine lv_iload_n hx hb dX6_add_27 rfl (lv_at hl 1 rfl) ?_
      obtain ⟨x1, ex1⟩ : ∃ y, y = (i : Int32).toInt8.toInt32 := ⟨_, rfl⟩
      refine lv_i2b (v := x1) hx hb dX6_add_28 ex1.symm ?_
      refine mm_bast hx hb hK hG hS 0 h1 rfl (vp_in_lt hn0 hn rfl) dX6_add_29 (fun H locs hG hS => ?_)
      obtain ⟨G2, eG2⟩ : ∃ g, g = mm_set G ro (.inl (cy 0, 64, .inl (upd f n.toNatClampNeg (vp_nar .byte x1)))) := ⟨_, rfl⟩
      have hG : mm D vwCl A G2 H := by rw [eG2]; exact hG
      have k3 : G2 o = some (.inr (7, [.ref ro, .int n])) := by rw [eG2]; exact mm_set_of h0 (mm_ne_oa h0 h1)
      have k4 : G2 ro = some (.inl (cy 0, 64, .inl (upd f n.toNatClampNeg (vp_nar .byte x1)))) := by rw [eG2]; exact mm_set_self
      refine lv_aload_n hx hb dX6_add_30 rfl (lv_at hl 0 rfl) ?_
      refine lv_dup hx hb dX6_add_31 rfl ?_
      refine mm_get (v := .int n) hx hb hf_X6 (fun _ h9 => h9) hown hK hG k3 rfl 1 (by decide) (tb_use hT tw_200) (fun _ h9 => h9) rfl dX6_add_32 ?_
      refine lv_iconst (v := 1) hx hb dX6_add_35 (by decide) ?_
      refine lv_iadd hx hb dX6_add_36 ?_
      refine lv_topi (fun x5 ex5 => ?_)
      refine mm_put (v := .int x5) (ty := .int) hx hb hf_X6 (fun _ h9 => h9) tyX6 tyX6_ok nmX6 hown hK hG hS k3 rfl 1 (by decide) (tb_use hT tw_200) (fun _ h9 => h9) rfl (by decide +kernel) rfl rfl (Nat.le_of_ble_eq_true rfl) dX6_add_37 (fun H locs hG hS => ?_)
      obtain ⟨G6, eG6⟩ : ∃ g, g = mm_set G2 o (.inr (7, [.ref ro, .int x5])) := ⟨_, rfl⟩
      have hG : mm D vwCl A G6 H := by rw [eG6]; exact hG
      have k7 : G6 o = some (.inr (7, [.ref ro, .int x5])) := by rw [eG6]; exact mm_set_self
      have k8 : G6 ro = some (.inl (cy 0, 64, .inl (upd f n.toNatClampNeg (vp_nar .byte x1)))) := by rw [eG6]; exact mm_set_of k4 (mm_ne_ao k4 k3)
      exact W.vret hx hb hr (fun t ht hW => ⟨⟨_, rfl, (by subst ex1 eG2 ex5 eG6; rfl), mk_end hG ht⟩, hS.F ht⟩) hS.2.2 dX6_add_40

set_option maxHeartbeats 4000000 in
set_option maxRecDepth 100000 in
theorem c_X6_init (l : Launch) (D : va_G) (cy : Nat → ClassId) (A : Nat → Prop) (X : State → Prop) (hst : mk_St A X) (hXT : ∀ U : State, X U → TB U) (G : Nat → Option va_E) (o : Nat) (h0 : G o = some (.inr (7, [.null, .int 0]))) : Met l yX6_init [.code yX6_init cX6_init 1 none] ({ frames := 1, cells := 1, slots := 64, locals := 12 }) (mk_Pre D vwCl (tyL cy) A X G [.ref o]) (va_Qv (fun (G2 : Nat → Option va_E) => ∃ ro : Nat, G ro = none ∧ G2 o = some (.inr (7, [.ref ro, .int 0])) ∧ G2 ro = some (.inl (cy 0, 64, .inl (fun _ => 0))) ∧ ∀ (x : Nat) (e : va_E), G x = some e → x ≠ o → G2 x = some e) (mk_B D vwCl A) A) 1 64 A := by
  refine Met.ofW (cc := cX6_init) (maxL := 1) (ret := none) (by decide) rfl ?_
  intro p e s m args below meth c s₁ B hml hv
  obtain ⟨rfl, hG, hK, hA, hX⟩ := hv
  have hx := B.exec
  have hb := B.bytes
  have hr := B.returns
  have hlocks := B.notSynchronized
  have hT := hXT s hX
  have hown : s.vm.findClass RX6 = some m.cls := findClass_of_methodNamed B.named
  have hin : meth.name = "<init>" := (name_of_methodNamed B.named B.method).1
  have hf_X6 : ∀ w ∈ u_ws RX6 TX6 2, w.before ([.ref o] : List Value).toArray s = true := tb_list hT fX6
  have hS : va_S A s.heap s.heap [] := va_S.rf
  have hl := lv_entry ([.ref o]) (n := 1) (Nat.le_of_ble_eq_true rfl)
  rw [lg_entry_eq]
  generalize (lg_sl ([.ref o]) ++ List.replicate (1 - (lg_sl ([.ref o])).length) Slot.unset).toArray = ls at hl ⊢
  have hl : lv_has ls 1 [(0, .ref o)] := hl
  refine lv_aload_n hx hb dX6_init_0 rfl (lv_at hl 0 rfl) ?_
  refine W.objInit hx hb hown (tb_use hT tw_198) (tb_use hT tw_144) (tb_use hT tw_145) rfl (by rw [hml]; exact hl.1) rfl dX6_init_1 (Nat.le_of_ble_eq_true rfl) (Nat.le_of_ble_eq_true rfl) ?_
  refine W.eq (g2 := F0 m 4 ls []) rfl ?_
  refine lv_aload_n hx hb dX6_init_4 rfl (lv_at hl 0 rfl) ?_
  refine lv_bipush (v := 64) hx hb dX6_init_5 (by decide) ?_
  refine mm_newa (n := 64) (atype := .byte) (ty := .byte) (N' := 64) (a0 := (64, .inl (fun _ => 0))) hx hb (tb_arr hT tw_174) rfl hK hG hS hA 0 rfl (fun cA => rfl) (by decide) (by decide) (by decide) (by exact Nat.le_of_ble_eq_true rfl) (by exact Nat.le_of_ble_eq_true rfl) dX6_init_7 (fun q1 H hn_q1 hG hS => ?_)
  obtain ⟨G2, eG2⟩ : ∃ g, g = mm_set G q1 (.inl (cy 0, 64, .inl (fun _ => 0))) := ⟨_, rfl⟩
  have hG : mm D vwCl A G2 H := by rw [eG2]; exact hG
  have k3 : G2 o = some (.inr (7, [.null, .int 0])) := by rw [eG2]; exact mm_set_new h0 hn_q1
  have k4 : G2 q1 = some (.inl (cy 0, 64, .inl (fun _ => 0))) := by rw [eG2]; exact mm_set_self
  refine mm_putF (v := .ref q1) (ty := .array .byte) hx hb hf_X6 (fun _ h9 => h9) tyX6 tyX6_ok nmX6 hown hK hG hS k3 rfl 0 (by decide) (tb_use hT tw_199) (fun _ h9 => h9) rfl hin rfl (by decide +kernel) rfl rfl (Nat.le_of_ble_eq_true rfl) dX6_init_9 (fun H locs hG hS => ?_)
  obtain ⟨G5, eG5⟩ : ∃ g, g = mm_set G2 o (.inr (7, [.ref q1, .int 0])) := ⟨_, rfl⟩
  have hG : mm D vwCl A G5 H := by rw [eG5]; exact hG
  have k6 : G5 o = some (.inr (7, [.ref q1, .int 0])) := by rw [eG5]; exact mm_set_self
  have k7 : G5 q1 = some (.inl (cy 0, 64, .inl (fun _ => 0))) := by rw [eG5]; exact mm_set_of k4 (mm_ne_ao k4 k3)
  have hfr : ∀ (x : Nat) (e : va_E), G x = some e → x ≠ o → G5 x = some e := by
    intro x e z0 n_o
    have n_q1 : x ≠ q1 := fun z => by rw [z, hn_q1] at z0; cases z0
    have z1 : G2 x = some e := by rw [eG2]; exact mm_set_of z0 n_q1
    have z2 : G5 x = some e := by rw [eG5]; exact mm_set_of z1 n_o
    exact z2
  exact W.vret hx hb hr (fun t ht hW => ⟨⟨_, rfl, ⟨q1, hn_q1, k6, k7, hfr⟩, mk_end hG ht⟩, hS.F ht⟩) hS.2.2 dX6_init_12
