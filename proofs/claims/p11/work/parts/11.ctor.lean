set_option maxHeartbeats 4000000 in
set_option maxRecDepth 100000 in
theorem c_X12_init (l : Launch) (D : va_G) (cy : Nat → ClassId) (A : Nat → Prop) (X : State → Prop) (hst : mk_St A X) (hXT : ∀ U : State, X U → TB U) (G : Nat → Option va_E) (o : Nat) (h0 : G o = some (.inr (13, [.null, .null, .null, .int 0]))) : Met l yX12_init [.code yX12_init cX12_init 1 none] ({ frames := 1, cells := 3, slots := 6003, locals := 12 }) (mk_Pre D vwCl (tyL cy) A X G [.ref o]) (va_Qv (fun (G2 : Nat → Option va_E) => ∃ ks ss vs : Nat, G2 o = some (.inr (13, [.ref ks, .ref ss, .ref vs, .int 0])) ∧ G2 ks = some (.inl (cy 5, 2001, .inr (.inr (.inr (.inr (fun _ => none)))))) ∧ G2 ss = some (.inl (cy 1, 2001, .inl (fun _ => 0))) ∧ G2 vs = some (.inl (cy 2, 2001, .inr (.inl (fun _ => 0)))) ∧ ∀ (x : Nat) (e : va_E), G x = some e → x ≠ o → G2 x = some e) (mk_B D vwCl A) A) 3 6003 A := by
  refine Met.ofW (cc := cX12_init) (maxL := 1) (ret := none) (by decide) rfl ?_
  intro p e s m args below meth c s₁ B hml hv
  obtain ⟨rfl, hG, hK, hA, hX⟩ := hv
  have hx := B.exec
  have hb := B.bytes
  have hr := B.returns
  have hlocks := B.notSynchronized
  have hT := hXT s hX
  have hown : s.vm.findClass RX12 = some m.cls := findClass_of_methodNamed B.named
  have hin : meth.name = "<init>" := (name_of_methodNamed B.named B.method).1
  have hf_X12 : ∀ w ∈ u_ws RX12 TX12 4, w.before ([.ref o] : List Value).toArray s = true := tb_list hT fX12
  have hS : va_S A s.heap s.heap [] := va_S.rf
  have hl := lv_entry ([.ref o]) (n := 1) (Nat.le_of_ble_eq_true rfl)
  rw [lg_entry_eq]
  generalize (lg_sl ([.ref o]) ++ List.replicate (1 - (lg_sl ([.ref o])).length) Slot.unset).toArray = ls at hl ⊢
  have hl : lv_has ls 1 [(0, .ref o)] := hl
  refine lv_aload_n hx hb dX12_init_0 rfl (lv_at hl 0 rfl) ?_
  refine W.objInit hx hb hown (tb_use hT tw_157) (tb_use hT tw_144) (tb_use hT tw_145) rfl (by rw [hml]; exact hl.1) rfl dX12_init_1 (Nat.le_of_ble_eq_true rfl) (Nat.le_of_ble_eq_true rfl) ?_
  refine W.eq (g2 := F0 m 4 ls []) rfl ?_
  refine lv_aload_n hx hb dX12_init_4 rfl (lv_at hl 0 rfl) ?_
  refine lv_sipush (v := 2001) hx hb dX12_init_5 (by decide) ?_
  refine mm_newq (n := 2001) (N' := 2001) hx hb hown (tb_use hT tw_158) (hT _ tw_159 rfl) hK hG hS hA 5 rfl (by decide) (by decide) (by decide) (by exact Nat.le_of_ble_eq_true rfl) (by exact Nat.le_of_ble_eq_true rfl) dX12_init_8 (fun q1 H hn_q1 hG hS => ?_)
  obtain ⟨G2, eG2⟩ : ∃ g, g = mm_set G q1 (.inl (cy 5, 2001, .inr (.inr (.inr (.inr (fun _ => none)))))) := ⟨_, rfl⟩
  have hG : mm D vwCl A G2 H := by rw [eG2]; exact hG
  have k3 : G2 o = some (.inr (13, [.null, .null, .null, .int 0])) := by rw [eG2]; exact mm_set_new h0 hn_q1
  have k4 : G2 q1 = some (.inl (cy 5, 2001, .inr (.inr (.inr (.inr (fun _ => none)))))) := by rw [eG2]; exact mm_set_self
  refine mm_putF (v := .ref q1) (ty := .array (.object "DescribeText$Token")) hx hb hf_X12 (fun _ h9 => h9) tyX12 tyX12_ok nmX12 hown hK hG hS k3 rfl 0 (by decide) (tb_use hT tw_160) (fun _ h9 => h9) rfl hin rfl (by decide +kernel) rfl rfl (Nat.le_of_ble_eq_true rfl) dX12_init_11 (fun H locs hG hS => ?_)
  obtain ⟨G5, eG5⟩ : ∃ g, g = mm_set G2 o (.inr (13, [.ref q1, .null, .null, .int 0])) := ⟨_, rfl⟩
  have hG : mm D vwCl A G5 H := by rw [eG5]; exact hG
  have k6 : G5 o = some (.inr (13, [.ref q1, .null, .null, .int 0])) := by rw [eG5]; exact mm_set_self
  have k7 : G5 q1 = some (.inl (cy 5, 2001, .inr (.inr (.inr (.inr (fun _ => none)))))) := by rw [eG5]; exact mm_set_of k4 (mm_ne_ao k4 k3)
  refine lv_aload_n hx hb dX12_init_14 rfl (lv_at hl 0 rfl) ?_
  refine lv_sipush (v := 2001) hx hb dX12_init_15 (by decide) ?_
  refine mm_newa (n := 2001) (atype := .int) (ty := .int) (N' := 2001) (a0 := (2001, .inl (fun _ => 0))) hx hb (tb_arr hT tw_175) rfl hK hG hS hA 1 rfl (fun cA => rfl) (by decide) (by decide) (by decide) (by exact Nat.le_of_ble_eq_true rfl) (by exact Nat.le_of_ble_eq_true rfl) dX12_init_18 (fun q8 H hn_q8 hG hS => ?_)
  obtain ⟨G9, eG9⟩ : ∃ g, g = mm_set G5 q8 (.inl (cy 1, 2001, .inl (fun _ => 0))) := ⟨_, rfl⟩
  have hG : mm D vwCl A G9 H := by rw [eG9]; exact hG
  have ne_q1_q8 : q1 ≠ q8 := mm_ne_new k7 hn_q8
  have k10 : G9 o = some (.inr (13, [.ref q1, .null, .null, .int 0])) := by rw [eG9]; exact mm_set_new k6 hn_q8
  have k11 : G9 q1 = some (.inl (cy 5, 2001, .inr (.inr (.inr (.inr (fun _ => none)))))) := by rw [eG9]; exact mm_set_new k7 hn_q8
  have k12 : G9 q8 = some (.inl (cy 1, 2001, .inl (fun _ => 0))) := by rw [eG9]; exact mm_set_self
  refine mm_putF (v := .ref q8) (ty := .array .int) hx hb hf_X12 (fun _ h9 => h9) tyX12 tyX12_ok nmX12 hown hK hG hS k10 rfl 1 (by decide) (tb_use hT tw_161) (fun _ h9 => h9) rfl hin rfl (by decide +kernel) rfl rfl (Nat.le_of_ble_eq_true rfl) dX12_init_20 (fun H locs hG hS => ?_)
  obtain ⟨G13, eG13⟩ : ∃ g, g = mm_set G9 o (.inr (13, [.ref q1, .ref q8, .null, .int 0])) := ⟨_, rfl⟩
  have hG : mm D vwCl A G13 H := by rw [eG13]; exact hG
  have k14 : G13 o = some (.inr (13, [.ref q1, .ref q8, .null, .int 0])) := by rw [eG13]; exact mm_set_self
  have k15 : G13 q1 = some (.inl (cy 5, 2001, .inr (.inr (.inr (.inr (fun _ => none)))))) := by rw [eG13]; exact mm_set_of k11 (mm_ne_ao k11 k10)
  have k16 : G13 q8 = some (.inl (cy 1, 2001, .inl (fun _ => 0))) := by rw [eG13]; exact mm_set_of k12 (mm_ne_ao k12 k10)
  refine lv_aload_n hx hb dX12_init_23 rfl (lv_at hl 0 rfl) ?_
  refine lv_sipush (v := 2001) hx hb dX12_init_24 (by decide) ?_
  refine mm_newa (n := 2001) (atype := .long) (ty := .long) (N' := 2001) (a0 := (2001, .inr (.inl (fun _ => 0)))) hx hb (tb_arr hT tw_176) rfl hK hG hS hA 2 rfl (fun cA => rfl) (by decide) (by decide) (by decide) (by exact Nat.le_of_ble_eq_true rfl) (by exact Nat.le_of_ble_eq_true rfl) dX12_init_27 (fun q17 H hn_q17 hG hS => ?_)
  obtain ⟨G18, eG18⟩ : ∃ g, g = mm_set G13 q17 (.inl (cy 2, 2001, .inr (.inl (fun _ => 0)))) := ⟨_, rfl⟩
  have hG : mm D vwCl A G18 H := by rw [eG18]; exact hG
  have ne_q1_q17 : q1 ≠ q17 := mm_ne_new k15 hn_q17
  have ne_q8_q17 : q8 ≠ q17 := mm_ne_new k16 hn_q17
  have k19 : G18 o = some (.inr (13, [.ref q1, .ref q8, .null, .int 0])) := by rw [eG18]; exact mm_set_new k14 hn_q17
  have k20 : G18 q1 = some (.inl (cy 5, 2001, .inr (.inr (.inr (.inr (fun _ => none)))))) := by rw [eG18]; exact mm_set_new k15 hn_q17
  have k21 : G18 q8 = some (.inl (cy 1, 2001, .inl (fun _ => 0))) := by rw [eG18]; exact mm_set_new k16 hn_q17
  have k22 : G18 q17 = some (.inl (cy 2, 2001, .inr (.inl (fun _ => 0)))) := by rw [eG18]; exact mm_set_self
  refine mm_putF (v := .ref q17) (ty := .array .long) hx hb hf_X12 (fun _ h9 => h9) tyX12 tyX12_ok nmX12 hown hK hG hS k19 rfl 2 (by decide) (tb_use hT tw_162) (fun _ h9 => h9) rfl hin rfl (by decide +kernel) rfl rfl (Nat.le_of_ble_eq_true rfl) dX12_init_29 (fun H locs hG hS => ?_)
  obtain ⟨G23, eG23⟩ : ∃ g, g = mm_set G18 o (.inr (13, [.ref q1, .ref q8, .ref q17, .int 0])) := ⟨_, rfl⟩
  have hG : mm D vwCl A G23 H := by rw [eG23]; exact hG
  have k24 : G23 o = some (.inr (13, [.ref q1, .ref q8, .ref q17, .int 0])) := by rw [eG23]; exact mm_set_self
  have k25 : G23 q1 = some (.inl (cy 5, 2001, .inr (.inr (.inr (.inr (fun _ => none)))))) := by rw [eG23]; exact mm_set_of k20 (mm_ne_ao k20 k19)
  have k26 : G23 q8 = some (.inl (cy 1, 2001, .inl (fun _ => 0))) := by rw [eG23]; exact mm_set_of k21 (mm_ne_ao k21 k19)
  have k27 : G23 q17 = some (.inl (cy 2, 2001, .inr (.inl (fun _ => 0)))) := by rw [eG23]; exact mm_set_of k22 (mm_ne_ao k22 k19)
  have hfr : ∀ (x : Nat) (e : va_E), G x = some e → x ≠ o → G23 x = some e := by
    intro x e z0 n_o
    have n_q1 : x ≠ q1 := fun z => by rw [z, hn_q1] at z0; cases z0
    have z1 : G2 x = some e := by rw [eG2]; exact mm_set_of z0 n_q1
    have z2 : G5 x = some e := by rw [eG5]; exact mm_set_of z1 n_o
    have n_q8 : x ≠ q8 := fun z => by rw [z, hn_q8] at z2; cases z2
    have z3 : G9 x = some e := by rw [eG9]; exact mm_set_of z2 n_q8
    have z4 : G13 x = some e := by rw [eG13]; exact mm_set_of z3 n_o
    have n_q17 : x ≠ q17 := fun z => by rw [z, hn_q17] at z4; cases z4
    have z5 : G18 x = some e := by rw [eG18]; exact mm_set_of z4 n_q17
    have z6 : G23 x = some e := by rw [eG23]; exact mm_set_of z5 n_o
    exact z6
  exact W.vret hx hb hr (fun t ht hW => ⟨⟨_, rfl, ⟨q1, q8, q17, k24, k25, k26, k27, hfr⟩, mk_end hG ht⟩, hS.F ht⟩) hS.2.2 dX12_init_32

set_option maxHeartbeats 4000000 in
set_option maxRecDepth 100000 in
theorem c_X9_init (l : Launch) (D : va_G) (cy : Nat → ClassId) (A : Nat → Prop) (X : State → Prop) (hst : mk_St A X) (hXT : ∀ U : State, X U → TB U) (G : Nat → Option va_E) (o : Nat) (h0 : G o = some (.inr (10, [.null, .null, .null, .int 0, .int 0]))) : Met l yX9_init [.code yX9_init cX9_init 1 none] ({ frames := 2, cells := 5, slots := 6010, locals := 32 }) (mk_Pre D vwCl (tyL cy) A X G [.ref o]) (va_Qv (fun (G2 : Nat → Option va_E) => ∃ tk ow ks ss vs : Nat, G2 o = some (.inr (10, [.ref tk, .ref ow, .null, .int 0, .int 0])) ∧ G2 tk = some (.inr (13, [.ref ks, .ref ss, .ref vs, .int 0])) ∧ G2 ow = some (.inl (cy 1, 3, .inl (fun _ => 0))) ∧ G2 ks = some (.inl (cy 5, 2001, .inr (.inr (.inr (.inr (fun _ => none)))))) ∧ G2 ss = some (.inl (cy 1, 2001, .inl (fun _ => 0))) ∧ G2 vs = some (.inl (cy 2, 2001, .inr (.inl (fun _ => 0)))) ∧ ∀ (x : Nat) (e : va_E), G x = some e → x ≠ o → G2 x = some e) (mk_B D vwCl A) A) 5 6010 A := by
  refine Met.ofW (cc := cX9_init) (maxL := 1) (ret := none) (by decide) rfl ?_
  intro p e s m args below meth c s₁ B hml hv
  obtain ⟨rfl, hG, hK, hA, hX⟩ := hv
  have hx := B.exec
  have hb := B.bytes
  have hr := B.returns
  have hlocks := B.notSynchronized
  have hT := hXT s hX
  have hown : s.vm.findClass RX9 = some m.cls := findClass_of_methodNamed B.named
  have hin : meth.name = "<init>" := (name_of_methodNamed B.named B.method).1
  have hf_X12 : ∀ w ∈ u_ws RX12 TX12 4, w.before ([.ref o] : List Value).toArray s = true := tb_list hT fX12
  have hf_X9 : ∀ w ∈ u_ws RX9 TX9 5, w.before ([.ref o] : List Value).toArray s = true := tb_list hT fX9
  have hS : va_S A s.heap s.heap [] := va_S.rf
  have hl := lv_entry ([.ref o]) (n := 1) (Nat.le_of_ble_eq_true rfl)
  rw [lg_entry_eq]
  generalize (lg_sl ([.ref o]) ++ List.replicate (1 - (lg_sl ([.ref o])).length) Slot.unset).toArray = ls at hl ⊢
  have hl : lv_has ls 1 [(0, .ref o)] := hl
  refine lv_aload_n hx hb dX9_init_0 rfl (lv_at hl 0 rfl) ?_
  refine W.objInit hx hb hown (tb_use hT tw_151) (tb_use hT tw_144) (tb_use hT tw_145) rfl (by rw [hml]; exact hl.1) rfl dX9_init_1 (Nat.le_of_ble_eq_true rfl) (Nat.le_of_ble_eq_true rfl) ?_
  refine W.eq (g2 := F0 m 4 ls []) rfl ?_
  refine lv_aload_n hx hb dX9_init_4 rfl (lv_at hl 0 rfl) ?_
  refine mm_new (ci := 13) (fs := [.null, .null, .null, .int 0]) hx hb hf_X12 (fun _ h9 => h9) tyX12 tyX12_ok hown (tb_use hT tw_152) (tb_use hT tw_153) (tb_use hT tw_107) hK hG hS hA rfl (fun j hj => by rcases (show j = 0 ∨ j = 1 ∨ j = 2 ∨ j = 3 by omega) with rfl | rfl | rfl | rfl <;> rfl) (by exact Nat.le_of_ble_eq_true rfl) (by exact Nat.le_of_ble_eq_true rfl) dX9_init_5 (fun q1 H hn_q1 hG hS => ?_)
  obtain ⟨G2, eG2⟩ : ∃ g, g = mm_set G q1 (.inr (13, [.null, .null, .null, .int 0])) := ⟨_, rfl⟩
  have hG : mm D vwCl A G2 H := by rw [eG2]; exact hG
  have k3 : G2 o = some (.inr (10, [.null, .null, .null, .int 0, .int 0])) := by rw [eG2]; exact mm_set_new h0 hn_q1
  have k4 : G2 q1 = some (.inr (13, [.null, .null, .null, .int 0])) := by rw [eG2]; exact mm_set_self
  refine lv_dup hx hb dX9_init_8 rfl ?_
  refine va_callv (va_runIN (As := []) (rest := [.ref q1, .ref o]) ⟨hx, hb, hml, hown, (fun _ h9 => absurd h9 List.not_mem_nil : ∀ w ∈ ([] : List Cond), w.before _ s = true)⟩ (c_X12_init l D cy A X hst hXT G2 q1 k4) ⟨tb_cn (host := "DescribeText") 0 hT tw_156 tw_107 tw_154 rfl rfl hq_X12_init ⟨Nat.le_of_ble_eq_true rfl, Nat.le_of_ble_eq_true rfl⟩, rfl, (tb_use hT tw_155)⟩ (mk_preS hst hG hK hA hX hS) rfl rfl hl.1 rfl (lv_room (Nat.le_of_ble_eq_true rfl)) dX9_init_9 ⟨Nat.le_of_ble_eq_true rfl, Nat.le_of_ble_eq_true rfl⟩) hS (fun q _ h => h) (fun q h => h) (fun  G5 t H locs ht hvm hw hB hz1 hk1 hS => ?_)
  have hG : mm D vwCl A G5 H := by rw [← ht]; exact hB
  clear hB hz1 hk1 hvm ht
  obtain ⟨q6, q7, q8, h9_o, h9_1, h9_2, h9_3, h9_f⟩ := hw
  have k10 : G5 o = some (.inr (10, [.null, .null, .null, .int 0, .int 0])) := h9_f _ _ k3 (mm_ne_oo k3 k4 (by decide))
  refine mm_putF (v := .ref q1) (ty := .object "DescribeText$Tokens") hx hb hf_X9 (fun _ h9 => h9) tyX9 tyX9_ok nmX9 hown hK hG hS k10 rfl 0 (by decide) (tb_use hT tw_177) (fun _ h9 => h9) rfl hin rfl (by decide +kernel) rfl rfl (Nat.le_of_ble_eq_true rfl) dX9_init_12 (fun H locs hG hS => ?_)
  obtain ⟨G11, eG11⟩ : ∃ g, g = mm_set G5 o (.inr (10, [.ref q1, .null, .null, .int 0, .int 0])) := ⟨_, rfl⟩
  have hG : mm D vwCl A G11 H := by rw [eG11]; exact hG
  have k12 : G11 o = some (.inr (10, [.ref q1, .null, .null, .int 0, .int 0])) := by rw [eG11]; exact mm_set_self
  have k13 : G11 q1 = some (.inr (13, [.ref q6, .ref q7, .ref q8, .int 0])) := by rw [eG11]; exact mm_set_of h9_o (mm_ne_oo h9_o k10 (by decide))
  have k14 : G11 q6 = some (.inl (cy 5, 2001, .inr (.inr (.inr (.inr (fun _ => none)))))) := by rw [eG11]; exact mm_set_of h9_1 (mm_ne_ao h9_1 k10)
  have k15 : G11 q7 = some (.inl (cy 1, 2001, .inl (fun _ => 0))) := by rw [eG11]; exact mm_set_of h9_2 (mm_ne_ao h9_2 k10)
  have k16 : G11 q8 = some (.inl (cy 2, 2001, .inr (.inl (fun _ => 0)))) := by rw [eG11]; exact mm_set_of h9_3 (mm_ne_ao h9_3 k10)
  refine lv_aload_n hx hb dX9_init_15 rfl (lv_at hl 0 rfl) ?_
  refine lv_iconst (v := 3) hx hb dX9_init_16 (by decide) ?_
  refine mm_newa (n := 3) (atype := .int) (ty := .int) (N' := 3) (a0 := (3, .inl (fun _ => 0))) hx hb (tb_arr hT tw_175) rfl hK hG hS hA 1 rfl (fun cA => rfl) (by decide) (by decide) (by decide) (by exact Nat.le_of_ble_eq_true rfl) (by exact Nat.le_of_ble_eq_true rfl) dX9_init_17 (fun q17 H hn_q17 hG hS => ?_)
  obtain ⟨G18, eG18⟩ : ∃ g, g = mm_set G11 q17 (.inl (cy 1, 3, .inl (fun _ => 0))) := ⟨_, rfl⟩
  have hG : mm D vwCl A G18 H := by rw [eG18]; exact hG
  have k19 : G18 o = some (.inr (10, [.ref q1, .null, .null, .int 0, .int 0])) := by rw [eG18]; exact mm_set_new k12 hn_q17
  have k20 : G18 q1 = some (.inr (13, [.ref q6, .ref q7, .ref q8, .int 0])) := by rw [eG18]; exact mm_set_new k13 hn_q17
  have k21 : G18 q6 = some (.inl (cy 5, 2001, .inr (.inr (.inr (.inr (fun _ => none)))))) := by rw [eG18]; exact mm_set_new k14 hn_q17
  have k22 : G18 q7 = some (.inl (cy 1, 2001, .inl (fun _ => 0))) := by rw [eG18]; exact mm_set_new k15 hn_q17
  have k23 : G18 q8 = some (.inl (cy 2, 2001, .inr (.inl (fun _ => 0)))) := by rw [eG18]; exact mm_set_new k16 hn_q17
  have k24 : G18 q17 = some (.inl (cy 1, 3, .inl (fun _ => 0))) := by rw [eG18]; exact mm_set_self
  refine mm_putF (v := .ref q17) (ty := .array .int) hx hb hf_X9 (fun _ h9 => h9) tyX9 tyX9_ok nmX9 hown hK hG hS k19 rfl 1 (by decide) (tb_use hT tw_178) (fun _ h9 => h9) rfl hin rfl (by decide +kernel) rfl rfl (Nat.le_of_ble_eq_true rfl) dX9_init_19 (fun H locs hG hS => ?_)
  obtain ⟨G25, eG25⟩ : ∃ g, g = mm_set G18 o (.inr (10, [.ref q1, .ref q17, .null, .int 0, .int 0])) := ⟨_, rfl⟩
  have hG : mm D vwCl A G25 H := by rw [eG25]; exact hG
  have k26 : G25 o = some (.inr (10, [.ref q1, .ref q17, .null, .int 0, .int 0])) := by rw [eG25]; exact mm_set_self
  have k27 : G25 q1 = some (.inr (13, [.ref q6, .ref q7, .ref q8, .int 0])) := by rw [eG25]; exact mm_set_of k20 (mm_ne_oo k20 k19 (by decide))
  have k28 : G25 q6 = some (.inl (cy 5, 2001, .inr (.inr (.inr (.inr (fun _ => none)))))) := by rw [eG25]; exact mm_set_of k21 (mm_ne_ao k21 k19)
  have k29 : G25 q7 = some (.inl (cy 1, 2001, .inl (fun _ => 0))) := by rw [eG25]; exact mm_set_of k22 (mm_ne_ao k22 k19)
  have k30 : G25 q8 = some (.inl (cy 2, 2001, .inr (.inl (fun _ => 0)))) := by rw [eG25]; exact mm_set_of k23 (mm_ne_ao k23 k19)
  have k31 : G25 q17 = some (.inl (cy 1, 3, .inl (fun _ => 0))) := by rw [eG25]; exact mm_set_of k24 (mm_ne_ao k24 k19)
  have hfr : ∀ (x : Nat) (e : va_E), G x = some e → x ≠ o → G25 x = some e := by
    intro x e z0 n_o
    have n_q1 : x ≠ q1 := fun z => by rw [z, hn_q1] at z0; cases z0
    have z1 : G2 x = some e := by rw [eG2]; exact mm_set_of z0 n_q1
    have z2 : G5 x = some e := h9_f x e z1 n_q1
    have z3 : G11 x = some e := by rw [eG11]; exact mm_set_of z2 n_o
    have n_q17 : x ≠ q17 := fun z => by rw [z, hn_q17] at z3; cases z3
    have z4 : G18 x = some e := by rw [eG18]; exact mm_set_of z3 n_q17
    have z5 : G25 x = some e := by rw [eG25]; exact mm_set_of z4 n_o
    exact z5
  exact W.vret hx hb hr (fun t ht hW => ⟨⟨_, rfl, ⟨q1, q17, q6, q7, q8, k26, k27, k31, k28, k29, k30, hfr⟩, mk_end hG ht⟩, hS.F ht⟩) hS.2.2 dX9_init_22
