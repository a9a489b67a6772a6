set_option maxHeartbeats 4000000 in
set_option maxRecDepth 100000 in
theorem c_X2_init (l : Launch) (D : va_G) (cy : Nat → ClassId) (A : Nat → Prop) (X : State → Prop) (hst : mk_St A X) (hXT : ∀ U : State, X U → TB U) (e0 : Nat) (tk : Nat → Nat) (hXE : ∀ U : State, X U → ES e0 tk A U) (G : Nat → Option va_E) (o : Nat) (h0 : G o = some (.inr (3, [.null, .null, .null, .null, .null, .null, .null, .int 0, .null, .int 0, .null]))) : Met l yX2_init [.code yX2_init cX2_init 1 none] ({ frames := 4, cells := 7, slots := 26, locals := 120 }) (mk_Pre D vwCl (tyL cy) A X G [.ref o]) (va_Qv (fun (G2 : Nat → Option va_E) => ∃ l1 l2 l3 l4 l5 l6 nm : Nat, G2 o = some (.inr (3, [.ref l1, .ref l2, .ref l3, .ref l4, .ref l5, .ref l6, .ref nm, .int 0, .null, .int (-1), .null])) ∧ G2 l1 = some (.inr (1, [.int 0, .ref e0, .int 0])) ∧ G2 l2 = some (.inr (1, [.int 0, .ref e0, .int 0])) ∧ G2 l3 = some (.inr (1, [.int 0, .ref e0, .int 0])) ∧ G2 l4 = some (.inr (1, [.int 0, .ref e0, .int 0])) ∧ G2 l5 = some (.inr (1, [.int 0, .ref e0, .int 0])) ∧ G2 l6 = some (.inr (1, [.int 0, .ref e0, .int 0])) ∧ G2 nm = some (.inl (cy 2, 8, .inr (.inl (fun _ => 0)))) ∧ ∀ (x : Nat) (e : va_E), G x = some e → x ≠ o → G2 x = some e) (mk_B D vwCl A) A) 7 26 A := by
  refine Met.ofW (cc := cX2_init) (maxL := 1) (ret := none) (by decide) rfl ?_
  intro p e s m args below meth c s₁ B hml hv
  obtain ⟨rfl, hG, hK, hA, hX⟩ := hv
  have hx := B.exec
  have hb := B.bytes
  have hr := B.returns
  have hlocks := B.notSynchronized
  have hT := hXT s hX
  have hown : s.vm.findClass RX2 = some m.cls := findClass_of_methodNamed B.named
  have hin : meth.name = "<init>" := (name_of_methodNamed B.named B.method).1
  have hf_Jx4a65c : ∀ w ∈ u_ws RJx4a65c TJx4a65c 3, w.before ([.ref o] : List Value).toArray s = true := tb_list hT fJx4a65c
  have hf_X2 : ∀ w ∈ u_ws RX2 TX2 11, w.before ([.ref o] : List Value).toArray s = true := tb_list hT fX2
  have hS : va_S A s.heap s.heap [] := va_S.rf
  have hE := hXE s hX
  have hl := lv_entry ([.ref o]) (n := 1) (Nat.le_of_ble_eq_true rfl)
  rw [lg_entry_eq]
  generalize (lg_sl ([.ref o]) ++ List.replicate (1 - (lg_sl ([.ref o])).length) Slot.unset).toArray = ls at hl ⊢
  have hl : lv_has ls 1 [(0, .ref o)] := hl
  refine lv_aload_n hx hb dX2_init_0 rfl (lv_at hl 0 rfl) ?_
  refine W.objInit hx hb hown (tb_use hT tw_251) (tb_use hT tw_144) (tb_use hT tw_145) rfl (by rw [hml]; exact hl.1) rfl dX2_init_1 (Nat.le_of_ble_eq_true rfl) (Nat.le_of_ble_eq_true rfl) ?_
  refine W.eq (g2 := F0 m 4 ls []) rfl ?_
  refine lv_aload_n hx hb dX2_init_4 rfl (lv_at hl 0 rfl) ?_
  refine mm_new (ci := 1) (fs := [.int 0, .null, .int 0]) hx hb hf_Jx4a65c (fun _ h9 => h9) tyJx4a65c tyJx4a65c_ok hown (tb_use hT tw_252) (tb_use hT tw_253) (tb_use hT tw_113) hK hG hS hA rfl (fun j hj => by rcases (show j = 0 ∨ j = 1 ∨ j = 2 by omega) with rfl | rfl | rfl <;> rfl) (by exact Nat.le_of_ble_eq_true rfl) (by exact Nat.le_of_ble_eq_true rfl) dX2_init_5 (fun q1 H hn_q1 hG hS => ?_)
  obtain ⟨G2, eG2⟩ : ∃ g, g = mm_set G q1 (.inr (1, [.int 0, .null, .int 0])) := ⟨_, rfl⟩
  have hG : mm D vwCl A G2 H := by rw [eG2]; exact hG
  have k3 : G2 o = some (.inr (3, [.null, .null, .null, .null, .null, .null, .null, .int 0, .null, .int 0, .null])) := by rw [eG2]; exact mm_set_new h0 hn_q1
  have k4 : G2 q1 = some (.inr (1, [.int 0, .null, .int 0])) := by rw [eG2]; exact mm_set_self
  refine lv_dup hx hb dX2_init_8 rfl ?_
  refine va_callv (va_runI (As := []) (rest := [.ref q1, .ref o]) ⟨hx, hb, hml, hown, (fun _ h9 => absurd h9 List.not_mem_nil : ∀ w ∈ ([] : List Cond), w.before _ s = true)⟩ (c_Jx4a65c_init_da8c8 l D cy A X hst hXT e0 tk hXE G2 q1 k4) (tb_ci 0 hT tw_256 tw_113 tw_254 tw_255 rfl rfl rfl (by decide +kernel) ⟨Nat.le_of_ble_eq_true rfl, Nat.le_of_ble_eq_true rfl⟩) (mk_preS hst hG hK hA hX hS) rfl rfl hl.1 rfl (lv_room (Nat.le_of_ble_eq_true rfl)) dX2_init_9 ⟨Nat.le_of_ble_eq_true rfl, Nat.le_of_ble_eq_true rfl⟩) hS (fun q _ h => h) (fun q h => h) (fun  G5 t H1 locs ht hvm hw hB hz1 hk1 hS => ?_)
  have hG : mm D vwCl A G5 H1 := by rw [← ht]; exact hB
  clear hB hz1 hk1 hvm ht
  generalize H1 = H at hG hS ⊢
  obtain ⟨h6_o, h6_f⟩ := hw
  have k7 : G5 o = some (.inr (3, [.null, .null, .null, .null, .null, .null, .null, .int 0, .null, .int 0, .null])) := h6_f _ _ k3 (mm_ne_oo k3 k4 (by decide))
  refine mm_putF (v := .ref q1) (ty := .object "java/util/ArrayList") hx hb hf_X2 (fun _ h9 => h9) tyX2 tyX2_ok nmX2 hown hK hG hS k7 rfl 0 (by decide) (tb_use hT tw_278) (fun _ h9 => h9) rfl hin rfl (by decide +kernel) rfl rfl (Nat.le_of_ble_eq_true rfl) dX2_init_12 (fun H locs hG hS => ?_)
  obtain ⟨G8, eG8⟩ : ∃ g, g = mm_set G5 o (.inr (3, [.ref q1, .null, .null, .null, .null, .null, .null, .int 0, .null, .int 0, .null])) := ⟨_, rfl⟩
  have hG : mm D vwCl A G8 H := by rw [eG8]; exact hG
  have k9 : G8 o = some (.inr (3, [.ref q1, .null, .null, .null, .null, .null, .null, .int 0, .null, .int 0, .null])) := by rw [eG8]; exact mm_set_self
  have k10 : G8 q1 = some (.inr (1, [.int 0, .ref e0, .int 0])) := by rw [eG8]; exact mm_set_of h6_o (mm_ne_oo h6_o k7 (by decide))
  refine lv_aload_n hx hb dX2_init_15 rfl (lv_at hl 0 rfl) ?_
  refine mm_new (ci := 1) (fs := [.int 0, .null, .int 0]) hx hb hf_Jx4a65c (fun _ h9 => h9) tyJx4a65c tyJx4a65c_ok hown (tb_use hT tw_252) (tb_use hT tw_253) (tb_use hT tw_113) hK hG hS hA rfl (fun j hj => by rcases (show j = 0 ∨ j = 1 ∨ j = 2 by omega) with rfl | rfl | rfl <;> rfl) (by exact Nat.le_of_ble_eq_true rfl) (by exact Nat.le_of_ble_eq_true rfl) dX2_init_16 (fun q11 H hn_q11 hG hS => ?_)
  obtain ⟨G12, eG12⟩ : ∃ g, g = mm_set G8 q11 (.inr (1, [.int 0, .null, .int 0])) := ⟨_, rfl⟩
  have hG : mm D vwCl A G12 H := by rw [eG12]; exact hG
  have ne_q1_q11 : q1 ≠ q11 := mm_ne_new k10 hn_q11
  have k13 : G12 o = some (.inr (3, [.ref q1, .null, .null, .null, .null, .null, .null, .int 0, .null, .int 0, .null])) := by rw [eG12]; exact mm_set_new k9 hn_q11
  have k14 : G12 q1 = some (.inr (1, [.int 0, .ref e0, .int 0])) := by rw [eG12]; exact mm_set_new k10 hn_q11
  have k15 : G12 q11 = some (.inr (1, [.int 0, .null, .int 0])) := by rw [eG12]; exact mm_set_self
  refine lv_dup hx hb dX2_init_19 rfl ?_
  refine va_callv (va_runI (As := []) (rest := [.ref q11, .ref o]) ⟨hx, hb, hml, hown, (fun _ h9 => absurd h9 List.not_mem_nil : ∀ w ∈ ([] : List Cond), w.before _ s = true)⟩ (c_Jx4a65c_init_da8c8 l D cy A X hst hXT e0 tk hXE G12 q11 k15) (tb_ci 0 hT tw_256 tw_113 tw_254 tw_255 rfl rfl rfl (by decide +kernel) ⟨Nat.le_of_ble_eq_true rfl, Nat.le_of_ble_eq_true rfl⟩) (mk_preS hst hG hK hA hX hS) rfl rfl hl.1 rfl (lv_room (Nat.le_of_ble_eq_true rfl)) dX2_init_20 ⟨Nat.le_of_ble_eq_true rfl, Nat.le_of_ble_eq_true rfl⟩) hS (fun q _ h => h) (fun q h => h) (fun  G16 t H1 locs ht hvm hw hB hz1 hk1 hS => ?_)
  have hG : mm D vwCl A G16 H1 := by rw [← ht]; exact hB
  clear hB hz1 hk1 hvm ht
  generalize H1 = H at hG hS ⊢
  obtain ⟨h17_o, h17_f⟩ := hw
  have k18 : G16 o = some (.inr (3, [.ref q1, .null, .null, .null, .null, .null, .null, .int 0, .null, .int 0, .null])) := h17_f _ _ k13 (mm_ne_oo k13 k15 (by decide))
  have k19 : G16 q1 = some (.inr (1, [.int 0, .ref e0, .int 0])) := h17_f _ _ k14 ne_q1_q11
  refine mm_putF (v := .ref q11) (ty := .object "java/util/ArrayList") hx hb hf_X2 (fun _ h9 => h9) tyX2 tyX2_ok nmX2 hown hK hG hS k18 rfl 1 (by decide) (tb_use hT tw_280) (fun _ h9 => h9) rfl hin rfl (by decide +kernel) rfl rfl (Nat.le_of_ble_eq_true rfl) dX2_init_23 (fun H locs hG hS => ?_)
  obtain ⟨G20, eG20⟩ : ∃ g, g = mm_set G16 o (.inr (3, [.ref q1, .ref q11, .null, .null, .null, .null, .null, .int 0, .null, .int 0, .null])) := ⟨_, rfl⟩
  have hG : mm D vwCl A G20 H := by rw [eG20]; exact hG
  have k21 : G20 o = some (.inr (3, [.ref q1, .ref q11, .null, .null, .null, .null, .null, .int 0, .null, .int 0, .null])) := by rw [eG20]; exact mm_set_self
  have k22 : G20 q1 = some (.inr (1, [.int 0, .ref e0, .int 0])) := by rw [eG20]; exact mm_set_of k19 (mm_ne_oo k19 k18 (by decide))
  have k23 : G20 q11 = some (.inr (1, [.int 0, .ref e0, .int 0])) := by rw [eG20]; exact mm_set_of h17_o (mm_ne_oo h17_o k18 (by decide))
  refine lv_aload_n hx hb dX2_init_26 rfl (lv_at hl 0 rfl) ?_
  refine mm_new (ci := 1) (fs := [.int 0, .null, .int 0]) hx hb hf_Jx4a65c (fun _ h9 => h9) tyJx4a65c tyJx4a65c_ok hown (tb_use hT tw_252) (tb_use hT tw_253) (tb_use hT tw_113) hK hG hS hA rfl (fun j hj => by rcases (show j = 0 ∨ j = 1 ∨ j = 2 by omega) with rfl | rfl | rfl <;> rfl) (by exact Nat.le_of_ble_eq_true rfl) (by exact Nat.le_of_ble_eq_true rfl) dX2_init_27 (fun q24 H hn_q24 hG hS => ?_)
  obtain ⟨G25, eG25⟩ : ∃ g, g = mm_set G20 q24 (.inr (1, [.int 0, .null, .int 0])) := ⟨_, rfl⟩
  have hG : mm D vwCl A G25 H := by rw [eG25]; exact hG
  have ne_q1_q24 : q1 ≠ q24 := mm_ne_new k22 hn_q24
  have ne_q11_q24 : q11 ≠ q24 := mm_ne_new k23 hn_q24
  have k26 : G25 o = some (.inr (3, [.ref q1, .ref q11, .null, .null, .null, .null, .null, .int 0, .null, .int 0, .null])) := by rw [eG25]; exact mm_set_new k21 hn_q24
  have k27 : G25 q1 = some (.inr (1, [.int 0, .ref e0, .int 0])) := by rw [eG25]; exact mm_set_new k22 hn_q24
  have k28 : G25 q11 = some (.inr (1, [.int 0, .ref e0, .int 0])) := by rw [eG25]; exact mm_set_new k23 hn_q24
  have k29 : G25 q24 = some (.inr (1, [.int 0, .null, .int 0])) := by rw [eG25]; exact mm_set_self
  refine lv_dup hx hb dX2_init_30 rfl ?_
  refine va_callv (va_runI (As := []) (rest := [.ref q24, .ref o]) ⟨hx, hb, hml, hown, (fun _ h9 => absurd h9 List.not_mem_nil : ∀ w ∈ ([] : List Cond), w.before _ s = true)⟩ (c_Jx4a65c_init_da8c8 l D cy A X hst hXT e0 tk hXE G25 q24 k29) (tb_ci 0 hT tw_256 tw_113 tw_254 tw_255 rfl rfl rfl (by decide +kernel) ⟨Nat.le_of_ble_eq_true rfl, Nat.le_of_ble_eq_true rfl⟩) (mk_preS hst hG hK hA hX hS) rfl rfl hl.1 rfl (lv_room (Nat.le_of_ble_eq_true rfl)) dX2_init_31 ⟨Nat.le_of_ble_eq_true rfl, Nat.le_of_ble_eq_true rfl⟩) hS (fun q _ h => h) (fun q h => h) (fun  G30 t H1 locs ht hvm hw hB hz1 hk1 hS => ?_)
  have hG : mm D vwCl A G30 H1 := by rw [← ht]; exact hB
  clear hB hz1 hk1 hvm ht
  generalize H1 = H at hG hS ⊢
  obtain ⟨h31_o, h31_f⟩ := hw
  have k32 : G30 o = some (.inr (3, [.ref q1, .ref q11, .null, .null, .null, .null, .null, .int 0, .null, .int 0, .null])) := h31_f _ _ k26 (mm_ne_oo k26 k29 (by decide))
  have k33 : G30 q1 = some (.inr (1, [.int 0, .ref e0, .int 0])) := h31_f _ _ k27 ne_q1_q24
  have k34 : G30 q11 = some (.inr (1, [.int 0, .ref e0, .int 0])) := h31_f _ _ k28 ne_q11_q24
  refine mm_putF (v := .ref q24) (ty := .object "java/util/ArrayList") hx hb hf_X2 (fun _ h9 => h9) tyX2 tyX2_ok nmX2 hown hK hG hS k32 rfl 2 (by decide) (tb_use hT tw_283) (fun _ h9 => h9) rfl hin rfl (by decide +kernel) rfl rfl (Nat.le_of_ble_eq_true rfl) dX2_init_34 (fun H locs hG hS => ?_)
  obtain ⟨G35, eG35⟩ : ∃ g, g = mm_set G30 o (.inr (3, [.ref q1, .ref q11, .ref q24, .null, .null, .null, .null, .int 0, .null, .int 0, .null])) := ⟨_, rfl⟩
  have hG : mm D vwCl A G35 H := by rw [eG35]; exact hG
  have k36 : G35 o = some (.inr (3, [.ref q1, .ref q11, .ref q24, .null, .null, .null, .null, .int 0, .null, .int 0, .null])) := by rw [eG35]; exact mm_set_self
  have k37 : G35 q1 = some (.inr (1, [.int 0, .ref e0, .int 0])) := by rw [eG35]; exact mm_set_of k33 (mm_ne_oo k33 k32 (by decide))
  have k38 : G35 q11 = some (.inr (1, [.int 0, .ref e0, .int 0])) := by rw [eG35]; exact mm_set_of k34 (mm_ne_oo k34 k32 (by decide))
  have k39 : G35 q24 = some (.inr (1, [.int 0, .ref e0, .int 0])) := by rw [eG35]; exact mm_set_of h31_o (mm_ne_oo h31_o k32 (by decide))
  refine lv_aload_n hx hb dX2_init_37 rfl (lv_at hl 0 rfl) ?_
  refine mm_new (ci := 1) (fs := [.int 0, .null, .int 0]) hx hb hf_Jx4a65c (fun _ h9 => h9) tyJx4a65c tyJx4a65c_ok hown (tb_use hT tw_252) (tb_use hT tw_253) (tb_use hT tw_113) hK hG hS hA rfl (fun j hj => by rcases (show j = 0 ∨ j = 1 ∨ j = 2 by omega) with rfl | rfl | rfl <;> rfl) (by exact Nat.le_of_ble_eq_true rfl) (by exact Nat.le_of_ble_eq_true rfl) dX2_init_38 (fun q40 H hn_q40 hG hS => ?_)
  obtain ⟨G41, eG41⟩ : ∃ g, g = mm_set G35 q40 (.inr (1, [.int 0, .null, .int 0])) := ⟨_, rfl⟩
  have hG : mm D vwCl A G41 H := by rw [eG41]; exact hG
  have ne_q1_q40 : q1 ≠ q40 := mm_ne_new k37 hn_q40
  have ne_q11_q40 : q11 ≠ q40 := mm_ne_new k38 hn_q40
  have ne_q24_q40 : q24 ≠ q40 := mm_ne_new k39 hn_q40
  have k42 : G41 o = some (.inr (3, [.ref q1, .ref q11, .ref q24, .null, .null, .null, .null, .int 0, .null, .int 0, .null])) := by rw [eG41]; exact mm_set_new k36 hn_q40
  have k43 : G41 q1 = some (.inr (1, [.int 0, .ref e0, .int 0])) := by rw [eG41]; exact mm_set_new k37 hn_q40
  have k44 : G41 q11 = some (.inr (1, [.int 0, .ref e0, .int 0])) := by rw [eG41]; exact mm_set_new k38 hn_q40
  have k45 : G41 q24 = some (.inr (1, [.int 0, .ref e0, .int 0])) := by rw [eG41]; exact mm_set_new k39 hn_q40
  have k46 : G41 q40 = some (.inr (1, [.int 0, .null, .int 0])) := by rw [eG41]; exact mm_set_self
  refine lv_dup hx hb dX2_init_41 rfl ?_
  refine va_callv (va_runI (As := []) (rest := [.ref q40, .ref o]) ⟨hx, hb, hml, hown, (fun _ h9 => absurd h9 List.not_mem_nil : ∀ w ∈ ([] : List Cond), w.before _ s = true)⟩ (c_Jx4a65c_init_da8c8 l D cy A X hst hXT e0 tk hXE G41 q40 k46) (tb_ci 0 hT tw_256 tw_113 tw_254 tw_255 rfl rfl rfl (by decide +kernel) ⟨Nat.le_of_ble_eq_true rfl, Nat.le_of_ble_eq_true rfl⟩) (mk_preS hst hG hK hA hX hS) rfl rfl hl.1 rfl (lv_room (Nat.le_of_ble_eq_true rfl)) dX2_init_42 ⟨Nat.le_of_ble_eq_true rfl, Nat.le_of_ble_eq_true rfl⟩) hS (fun q _ h => h) (fun q h => h) (fun  G47 t H1 locs ht hvm hw hB hz1 hk1 hS => ?_)
  have hG : mm D vwCl A G47 H1 := by rw [← ht]; exact hB
  clear hB hz1 hk1 hvm ht
  generalize H1 = H at hG hS ⊢
  obtain ⟨h48_o, h48_f⟩ := hw
  have k49 : G47 o = some (.inr (3, [.ref q1, .ref q11, .ref q24, .null, .null, .null, .null, .int 0, .null, .int 0, .null])) := h48_f _ _ k42 (mm_ne_oo k42 k46 (by decide))
  have k50 : G47 q1 = some (.inr (1, [.int 0, .ref e0, .int 0])) := h48_f _ _ k43 ne_q1_q40
  have k51 : G47 q11 = some (.inr (1, [.int 0, .ref e0, .int 0])) := h48_f _ _ k44 ne_q11_q40
  have k52 : G47 q24 = some (.inr (1, [.int 0, .ref e0, .int 0])) := h48_f _ _ k45 ne_q24_q40
  refine mm_putF (v := .ref q40) (ty := .object "java/util/ArrayList") hx hb hf_X2 (fun _ h9 => h9) tyX2 tyX2_ok nmX2 hown hK hG hS k49 rfl 3 (by decide) (tb_use hT tw_286) (fun _ h9 => h9) rfl hin rfl (by decide +kernel) rfl rfl (Nat.le_of_ble_eq_true rfl) dX2_init_45 (fun H locs hG hS => ?_)
  obtain ⟨G53, eG53⟩ : ∃ g, g = mm_set G47 o (.inr (3, [.ref q1, .ref q11, .ref q24, .ref q40, .null, .null, .null, .int 0, .null, .int 0, .null])) := ⟨_, rfl⟩
  have hG : mm D vwCl A G53 H := by rw [eG53]; exact hG
  have k54 : G53 o = some (.inr (3, [.ref q1, .ref q11, .ref q24, .ref q40, .null, .null, .null, .int 0, .null, .int 0, .null])) := by rw [eG53]; exact mm_set_self
  have k55 : G53 q1 = some (.inr (1, [.int 0, .ref e0, .int 0])) := by rw [eG53]; exact mm_set_of k50 (mm_ne_oo k50 k49 (by decide))
  have k56 : G53 q11 = some (.inr (1, [.int 0, .ref e0, .int 0])) := by rw [eG53]; exact mm_set_of k51 (mm_ne_oo k51 k49 (by decide))
  have k57 : G53 q24 = some (.inr (1, [.int 0, .ref e0, .int 0])) := by rw [eG53]; exact mm_set_of k52 (mm_ne_oo k52 k49 (by decide))
  have k58 : G53 q40 = some (.inr (1, [.int 0, .ref e0, .int 0])) := by rw [eG53]; exact mm_set_of h48_o (mm_ne_oo h48_o k49 (by decide))
  refine lv_aload_n hx hb dX2_init_48 rfl (lv_at hl 0 rfl) ?_
  refine mm_new (ci := 1) (fs := [.int 0, .null, .int 0]) hx hb hf_Jx4a65c (fun _ h9 => h9) tyJx4a65c tyJx4a65c_ok hown (tb_use hT tw_252) (tb_use hT tw_253) (tb_use hT tw_113) hK hG hS hA rfl (fun j hj => by rcases (show j = 0 ∨ j = 1 ∨ j = 2 by omega) with rfl | rfl | rfl <;> rfl) (by exact Nat.le_of_ble_eq_true rfl) (by exact Nat.le_of_ble_eq_true rfl) dX2_init_49 (fun q59 H hn_q59 hG hS => ?_)
  obtain ⟨G60, eG60⟩ : ∃ g, g = mm_set G53 q59 (.inr (1, [.int 0, .null, .int 0])) := ⟨_, rfl⟩
  have hG : mm D vwCl A G60 H := by rw [eG60]; exact hG
  have ne_q1_q59 : q1 ≠ q59 := mm_ne_new k55 hn_q59
  have ne_q11_q59 : q11 ≠ q59 := mm_ne_new k56 hn_q59
  have ne_q24_q59 : q24 ≠ q59 := mm_ne_new k57 hn_q59
  have ne_q40_q59 : q40 ≠ q59 := mm_ne_new k58 hn_q59
  have k61 : G60 o = some (.inr (3, [.ref q1, .ref q11, .ref q24, .ref q40, .null, .null, .null, .int 0, .null, .int 0, .null])) := by rw [eG60]; exact mm_set_new k54 hn_q59
  have k62 : G60 q1 = some (.inr (1, [.int 0, .ref e0, .int 0])) := by rw [eG60]; exact mm_set_new k55 hn_q59
  have k63 : G60 q11 = some (.inr (1, [.int 0, .ref e0, .int 0])) := by rw [eG60]; exact mm_set_new k56 hn_q59
  have k64 : G60 q24 = some (.inr (1, [.int 0, .ref e0, .int 0])) := by rw [eG60]; exact mm_set_new k57 hn_q59
  have k65 : G60 q40 = some (.inr (1, [.int 0, .ref e0, .int 0])) := by rw [eG60]; exact mm_set_new k58 hn_q59
  have k66 : G60 q59 = some (.inr (1, [.int 0, .null, .int 0])) := by rw [eG60]; exact mm_set_self
  refine lv_dup hx hb dX2_init_52 rfl ?_
  refine va_callv (va_runI (As := []) (rest := [.ref q59, .ref o]) ⟨hx, hb, hml, hown, (fun _ h9 => absurd h9 List.not_mem_nil : ∀ w ∈ ([] : List Cond), w.before _ s = true)⟩ (c_Jx4a65c_init_da8c8 l D cy A X hst hXT e0 tk hXE G60 q59 k66) (tb_ci 0 hT tw_256 tw_113 tw_254 tw_255 rfl rfl rfl (by decide +kernel) ⟨Nat.le_of_ble_eq_true rfl, Nat.le_of_ble_eq_true rfl⟩) (mk_preS hst hG hK hA hX hS) rfl rfl hl.1 rfl (lv_room (Nat.le_of_ble_eq_true rfl)) dX2_init_53 ⟨Nat.le_of_ble_eq_true rfl, Nat.le_of_ble_eq_true rfl⟩) hS (fun q _ h => h) (fun q h => h) (fun  G67 t H1 locs ht hvm hw hB hz1 hk1 hS => ?_)
  have hG : mm D vwCl A G67 H1 := by rw [← ht]; exact hB
  clear hB hz1 hk1 hvm ht
  generalize H1 = H at hG hS ⊢
  obtain ⟨h68_o, h68_f⟩ := hw
  have k69 : G67 o = some (.inr (3, [.ref q1, .ref q11, .ref q24, .ref q40, .null, .null, .null, .int 0, .null, .int 0, .null])) := h68_f _ _ k61 (mm_ne_oo k61 k66 (by decide))
  have k70 : G67 q1 = some (.inr (1, [.int 0, .ref e0, .int 0])) := h68_f _ _ k62 ne_q1_q59
  have k71 : G67 q11 = some (.inr (1, [.int 0, .ref e0, .int 0])) := h68_f _ _ k63 ne_q11_q59
  have k72 : G67 q24 = some (.inr (1, [.int 0, .ref e0, .int 0])) := h68_f _ _ k64 ne_q24_q59
  have k73 : G67 q40 = some (.inr (1, [.int 0, .ref e0, .int 0])) := h68_f _ _ k65 ne_q40_q59
  refine mm_putF (v := .ref q59) (ty := .object "java/util/ArrayList") hx hb hf_X2 (fun _ h9 => h9) tyX2 tyX2_ok nmX2 hown hK hG hS k69 rfl 4 (by decide) (tb_use hT tw_289) (fun _ h9 => h9) rfl hin rfl (by decide +kernel) rfl rfl (Nat.le_of_ble_eq_true rfl) dX2_init_56 (fun H locs hG hS => ?_)
  obtain ⟨G74, eG74⟩ : ∃ g, g = mm_set G67 o (.inr (3, [.ref q1, .ref q11, .ref q24, .ref q40, .ref q59, .null, .null, .int 0, .null, .int 0, .null])) := ⟨_, rfl⟩
  have hG : mm D vwCl A G74 H := by rw [eG74]; exact hG
  have k75 : G74 o = some (.inr (3, [.ref q1, .ref q11, .ref q24, .ref q40, .ref q59, .null, .null, .int 0, .null, .int 0, .null])) := by rw [eG74]; exact mm_set_self
  have k76 : G74 q1 = some (.inr (1, [.int 0, .ref e0, .int 0])) := by rw [eG74]; exact mm_set_of k70 (mm_ne_oo k70 k69 (by decide))
  have k77 : G74 q11 = some (.inr (1, [.int 0, .ref e0, .int 0])) := by rw [eG74]; exact mm_set_of k71 (mm_ne_oo k71 k69 (by decide))
  have k78 : G74 q24 = some (.inr (1, [.int 0, .ref e0, .int 0])) := by rw [eG74]; exact mm_set_of k72 (mm_ne_oo k72 k69 (by decide))
  have k79 : G74 q40 = some (.inr (1, [.int 0, .ref e0, .int 0])) := by rw [eG74]; exact mm_set_of k73 (mm_ne_oo k73 k69 (by decide))
  have k80 : G74 q59 = some (.inr (1, [.int 0, .ref e0, .int 0])) := by rw [eG74]; exact mm_set_of h68_o (mm_ne_oo h68_o k69 (by decide))
  refine lv_aload_n hx hb dX2_init_59 rfl (lv_at hl 0 rfl) ?_
  refine mm_new (ci := 1) (fs := [.int 0, .null, .int 0]) hx hb hf_Jx4a65c (fun _ h9 => h9) tyJx4a65c tyJx4a65c_ok hown (tb_use hT tw_252) (tb_use hT tw_253) (tb_use hT tw_113) hK hG hS hA rfl (fun j hj => by rcases (show j = 0 ∨ j = 1 ∨ j = 2 by omega) with rfl | rfl | rfl <;> rfl) (by exact Nat.le_of_ble_eq_true rfl) (by exact Nat.le_of_ble_eq_true rfl) dX2_init_60 (fun q81 H hn_q81 hG hS => ?_)
  obtain ⟨G82, eG82⟩ : ∃ g, g = mm_set G74 q81 (.inr (1, [.int 0, .null, .int 0])) := ⟨_, rfl⟩
  have hG : mm D vwCl A G82 H := by rw [eG82]; exact hG
  have ne_q1_q81 : q1 ≠ q81 := mm_ne_new k76 hn_q81
  have ne_q11_q81 : q11 ≠ q81 := mm_ne_new k77 hn_q81
  have ne_q24_q81 : q24 ≠ q81 := mm_ne_new k78 hn_q81
  have ne_q40_q81 : q40 ≠ q81 := mm_ne_new k79 hn_q81
  have ne_q59_q81 : q59 ≠ q81 := mm_ne_new k80 hn_q81
  have k83 : G82 o = some (.inr (3, [.ref q1, .ref q11, .ref q24, .ref q40, .ref q59, .null, .null, .int 0, .null, .int 0, .null])) := by rw [eG82]; exact mm_set_new k75 hn_q81
  have k84 : G82 q1 = some (.inr (1, [.int 0, .ref e0, .int 0])) := by rw [eG82]; exact mm_set_new k76 hn_q81
  have k85 : G82 q11 = some (.inr (1, [.int 0, .ref e0, .int 0])) := by rw [eG82]; exact mm_set_new k77 hn_q81
  have k86 : G82 q24 = some (.inr (1, [.int 0, .ref e0, .int 0])) := by rw [eG82]; exact mm_set_new k78 hn_q81
  have k87 : G82 q40 = some (.inr (1, [.int 0, .ref e0, .int 0])) := by rw [eG82]; exact mm_set_new k79 hn_q81
  have k88 : G82 q59 = some (.inr (1, [.int 0, .ref e0, .int 0])) := by rw [eG82]; exact mm_set_new k80 hn_q81
  have k89 : G82 q81 = some (.inr (1, [.int 0, .null, .int 0])) := by rw [eG82]; exact mm_set_self
  refine lv_dup hx hb dX2_init_63 rfl ?_
  refine va_callv (va_runI (As := []) (rest := [.ref q81, .ref o]) ⟨hx, hb, hml, hown, (fun _ h9 => absurd h9 List.not_mem_nil : ∀ w ∈ ([] : List Cond), w.before _ s = true)⟩ (c_Jx4a65c_init_da8c8 l D cy A X hst hXT e0 tk hXE G82 q81 k89) (tb_ci 0 hT tw_256 tw_113 tw_254 tw_255 rfl rfl rfl (by decide +kernel) ⟨Nat.le_of_ble_eq_true rfl, Nat.le_of_ble_eq_true rfl⟩) (mk_preS hst hG hK hA hX hS) rfl rfl hl.1 rfl (lv_room (Nat.le_of_ble_eq_true rfl)) dX2_init_64 ⟨Nat.le_of_ble_eq_true rfl, Nat.le_of_ble_eq_true rfl⟩) hS (fun q _ h => h) (fun q h => h) (fun  G90 t H1 locs ht hvm hw hB hz1 hk1 hS => ?_)
  have hG : mm D vwCl A G90 H1 := by rw [← ht]; exact hB
  clear hB hz1 hk1 hvm ht
  generalize H1 = H at hG hS ⊢
  obtain ⟨h91_o, h91_f⟩ := hw
  have k92 : G90 o = some (.inr (3, [.ref q1, .ref q11, .ref q24, .ref q40, .ref q59, .null, .null, .int 0, .null, .int 0, .null])) := h91_f _ _ k83 (mm_ne_oo k83 k89 (by decide))
  have k93 : G90 q1 = some (.inr (1, [.int 0, .ref e0, .int 0])) := h91_f _ _ k84 ne_q1_q81
  have k94 : G90 q11 = some (.inr (1, [.int 0, .ref e0, .int 0])) := h91_f _ _ k85 ne_q11_q81
  have k95 : G90 q24 = some (.inr (1, [.int 0, .ref e0, .int 0])) := h91_f _ _ k86 ne_q24_q81
  have k96 : G90 q40 = some (.inr (1, [.int 0, .ref e0, .int 0])) := h91_f _ _ k87 ne_q40_q81
  have k97 : G90 q59 = some (.inr (1, [.int 0, .ref e0, .int 0])) := h91_f _ _ k88 ne_q59_q81
  refine mm_putF (v := .ref q81) (ty := .object "java/util/ArrayList") hx hb hf_X2 (fun _ h9 => h9) tyX2 tyX2_ok nmX2 hown hK hG hS k92 rfl 5 (by decide) (tb_use hT tw_291) (fun _ h9 => h9) rfl hin rfl (by decide +kernel) rfl rfl (Nat.le_of_ble_eq_true rfl) dX2_init_67 (fun H locs hG hS => ?_)
  obtain ⟨G98, eG98⟩ : ∃ g, g = mm_set G90 o (.inr (3, [.ref q1, .ref q11, .ref q24, .ref q40, .ref q59, .ref q81, .null, .int 0, .null, .int 0, .null])) := ⟨_, rfl⟩
  have hG : mm D vwCl A G98 H := by rw [eG98]; exact hG
  have k99 : G98 o = some (.inr (3, [.ref q1, .ref q11, .ref q24, .ref q40, .ref q59, .ref q81, .null, .int 0, .null, .int 0, .null])) := by rw [eG98]; exact mm_set_self
  have k100 : G98 q1 = some (.inr (1, [.int 0, .ref e0, .int 0])) := by rw [eG98]; exact mm_set_of k93 (mm_ne_oo k93 k92 (by decide))
  have k101 : G98 q11 = some (.inr (1, [.int 0, .ref e0, .int 0])) := by rw [eG98]; exact mm_set_of k94 (mm_ne_oo k94 k92 (by decide))
  have k102 : G98 q24 = some (.inr (1, [.int 0, .ref e0, .int 0])) := by rw [eG98]; exact mm_set_of k95 (mm_ne_oo k95 k92 (by decide))
  have k103 : G98 q40 = some (.inr (1, [.int 0, .ref e0, .int 0])) := by rw [eG98]; exact mm_set_of k96 (mm_ne_oo k96 k92 (by decide))
  have k104 : G98 q59 = some (.inr (1, [.int 0, .ref e0, .int 0])) := by rw [eG98]; exact mm_set_of k97 (mm_ne_oo k97 k92 (by decide))
  have k105 : G98 q81 = some (.inr (1, [.int 0, .ref e0, .int 0])) := by rw [eG98]; exact mm_set_of h91_o (mm_ne_oo h91_o k92 (by decide))
  refine lv_aload_n hx hb dX2_init_70 rfl (lv_at hl 0 rfl) ?_
  refine lv_bipush (v := 8) hx hb dX2_init_71 (by decide) ?_
  refine mm_newa (n := 8) (atype := .long) (ty := .long) (N' := 8) (a0 := (8, .inr (.inl (fun _ => 0)))) hx hb (tb_arr hT tw_176) rfl hK hG hS hA 2 rfl (fun cA => rfl) (by decide) (by decide) (by decide) (by exact Nat.le_of_ble_eq_true rfl) (by exact Nat.le_of_ble_eq_true rfl) dX2_init_73 (fun q106 H hn_q106 hG hS => ?_)
  obtain ⟨G107, eG107⟩ : ∃ g, g = mm_set G98 q106 (.inl (cy 2, 8, .inr (.inl (fun _ => 0)))) := ⟨_, rfl⟩
  have hG : mm D vwCl A G107 H := by rw [eG107]; exact hG
  have k108 : G107 o = some (.inr (3, [.ref q1, .ref q11, .ref q24, .ref q40, .ref q59, .ref q81, .null, .int 0, .null, .int 0, .null])) := by rw [eG107]; exact mm_set_new k99 hn_q106
  have k109 : G107 q1 = some (.inr (1, [.int 0, .ref e0, .int 0])) := by rw [eG107]; exact mm_set_new k100 hn_q106
  have k110 : G107 q11 = some (.inr (1, [.int 0, .ref e0, .int 0])) := by rw [eG107]; exact mm_set_new k101 hn_q106
  have k111 : G107 q24 = some (.inr (1, [.int 0, .ref e0, .int 0])) := by rw [eG107]; exact mm_set_new k102 hn_q106
  have k112 : G107 q40 = some (.inr (1, [.int 0, .ref e0, .int 0])) := by rw [eG107]; exact mm_set_new k103 hn_q106
  have k113 : G107 q59 = some (.inr (1, [.int 0, .ref e0, .int 0])) := by rw [eG107]; exact mm_set_new k104 hn_q106
  have k114 : G107 q81 = some (.inr (1, [.int 0, .ref e0, .int 0])) := by rw [eG107]; exact mm_set_new k105 hn_q106
  have k115 : G107 q106 = some (.inl (cy 2, 8, .inr (.inl (fun _ => 0)))) := by rw [eG107]; exact mm_set_self
  refine mm_put (v := .ref q106) (ty := .array .long) hx hb hf_X2 (fun _ h9 => h9) tyX2 tyX2_ok nmX2 hown hK hG hS k108 rfl 6 (by decide) (tb_use hT tw_294) (fun _ h9 => h9) rfl (by decide +kernel) rfl rfl (Nat.le_of_ble_eq_true rfl) dX2_init_75 (fun H locs hG hS => ?_)
  obtain ⟨G116, eG116⟩ : ∃ g, g = mm_set G107 o (.inr (3, [.ref q1, .ref q11, .ref q24, .ref q40, .ref q59, .ref q81, .ref q106, .int 0, .null, .int 0, .null])) := ⟨_, rfl⟩
  have hG : mm D vwCl A G116 H := by rw [eG116]; exact hG
  have k117 : G116 o = some (.inr (3, [.ref q1, .ref q11, .ref q24, .ref q40, .ref q59, .ref q81, .ref q106, .int 0, .null, .int 0, .null])) := by rw [eG116]; exact mm_set_self
  have k118 : G116 q1 = some (.inr (1, [.int 0, .ref e0, .int 0])) := by rw [eG116]; exact mm_set_of k109 (mm_ne_oo k109 k108 (by decide))
  have k119 : G116 q11 = some (.inr (1, [.int 0, .ref e0, .int 0])) := by rw [eG116]; exact mm_set_of k110 (mm_ne_oo k110 k108 (by decide))
  have k120 : G116 q24 = some (.inr (1, [.int 0, .ref e0, .int 0])) := by rw [eG116]; exact mm_set_of k111 (mm_ne_oo k111 k108 (by decide))
  have k121 : G116 q40 = some (.inr (1, [.int 0, .ref e0, .int 0])) := by rw [eG116]; exact mm_set_of k112 (mm_ne_oo k112 k108 (by decide))
  have k122 : G116 q59 = some (.inr (1, [.int 0, .ref e0, .int 0])) := by rw [eG116]; exact mm_set_of k113 (mm_ne_oo k113 k108 (by decide))
  have k123 : G116 q81 = some (.inr (1, [.int 0, .ref e0, .int 0])) := by rw [eG116]; exact mm_set_of k114 (mm_ne_oo k114 k108 (by decide))
  have k124 : G116 q106 = some (.inl (cy 2, 8, .inr (.inl (fun _ => 0)))) := by rw [eG116]; exact mm_set_of k115 (mm_ne_ao k115 k108)
  refine lv_aload_n hx hb dX2_init_78 rfl (lv_at hl 0 rfl) ?_
  refine lv_iconst (v := (-1)) hx hb dX2_init_79 (by decide) ?_
  refine mm_put (v := .int (-1)) (ty := .int) hx hb hf_X2 (fun _ h9 => h9) tyX2 tyX2_ok nmX2 hown hK hG hS k117 rfl 9 (by decide) (tb_use hT tw_298) (fun _ h9 => h9) rfl (by decide +kernel) rfl rfl (Nat.le_of_ble_eq_true rfl) dX2_init_80 (fun H locs hG hS => ?_)
  obtain ⟨G125, eG125⟩ : ∃ g, g = mm_set G116 o (.inr (3, [.ref q1, .ref q11, .ref q24, .ref q40, .ref q59, .ref q81, .ref q106, .int 0, .null, .int (-1), .null])) := ⟨_, rfl⟩
  have hG : mm D vwCl A G125 H := by rw [eG125]; exact hG
  have k126 : G125 o = some (.inr (3, [.ref q1, .ref q11, .ref q24, .ref q40, .ref q59, .ref q81, .ref q106, .int 0, .null, .int (-1), .null])) := by rw [eG125]; exact mm_set_self
  have k127 : G125 q1 = some (.inr (1, [.int 0, .ref e0, .int 0])) := by rw [eG125]; exact mm_set_of k118 (mm_ne_oo k118 k117 (by decide))
  have k128 : G125 q11 = some (.inr (1, [.int 0, .ref e0, .int 0])) := by rw [eG125]; exact mm_set_of k119 (mm_ne_oo k119 k117 (by decide))
  have k129 : G125 q24 = some (.inr (1, [.int 0, .ref e0, .int 0])) := by rw [eG125]; exact mm_set_of k120 (mm_ne_oo k120 k117 (by decide))
  have k130 : G125 q40 = some (.inr (1, [.int 0, .ref e0, .int 0])) := by rw [eG125]; exact mm_set_of k121 (mm_ne_oo k121 k117 (by decide))
  have k131 : G125 q59 = some (.inr (1, [.int 0, .ref e0, .int 0])) := by rw [eG125]; exact mm_set_of k122 (mm_ne_oo k122 k117 (by decide))
  have k132 : G125 q81 = some (.inr (1, [.int 0, .ref e0, .int 0])) := by rw [eG125]; exact mm_set_of k123 (mm_ne_oo k123 k117 (by decide))
  have k133 : G125 q106 = some (.inl (cy 2, 8, .inr (.inl (fun _ => 0)))) := by rw [eG125]; exact mm_set_of k124 (mm_ne_ao k124 k117)
  have hfr : ∀ (x : Nat) (e : va_E), G x = some e → x ≠ o → G125 x = some e := by
    intro x e z0 n_o
    have n_q1 : x ≠ q1 := fun z => by rw [z, hn_q1] at z0; cases z0
    have z1 : G2 x = some e := by rw [eG2]; exact mm_set_of z0 n_q1
    have z2 : G5 x = some e := h6_f x e z1 n_q1
    have z3 : G8 x = some e := by rw [eG8]; exact mm_set_of z2 n_o
    have n_q11 : x ≠ q11 := fun z => by rw [z, hn_q11] at z3; cases z3
    have z4 : G12 x = some e := by rw [eG12]; exact mm_set_of z3 n_q11
    have z5 : G16 x = some e := h17_f x e z4 n_q11
    have z6 : G20 x = some e := by rw [eG20]; exact mm_set_of z5 n_o
    have n_q24 : x ≠ q24 := fun z => by rw [z, hn_q24] at z6; cases z6
    have z7 : G25 x = some e := by rw [eG25]; exact mm_set_of z6 n_q24
    have z8 : G30 x = some e := h31_f x e z7 n_q24
    have z9 : G35 x = some e := by rw [eG35]; exact mm_set_of z8 n_o
    have n_q40 : x ≠ q40 := fun z => by rw [z, hn_q40] at z9; cases z9
    have z10 : G41 x = some e := by rw [eG41]; exact mm_set_of z9 n_q40
    have z11 : G47 x = some e := h48_f x e z10 n_q40
    have z12 : G53 x = some e := by rw [eG53]; exact mm_set_of z11 n_o
    have n_q59 : x ≠ q59 := fun z => by rw [z, hn_q59] at z12; cases z12
    have z13 : G60 x = some e := by rw [eG60]; exact mm_set_of z12 n_q59
    have z14 : G67 x = some e := h68_f x e z13 n_q59
    have z15 : G74 x = some e := by rw [eG74]; exact mm_set_of z14 n_o
    have n_q81 : x ≠ q81 := fun z => by rw [z, hn_q81] at z15; cases z15
    have z16 : G82 x = some e := by rw [eG82]; exact mm_set_of z15 n_q81
    have z17 : G90 x = some e := h91_f x e z16 n_q81
    have z18 : G98 x = some e := by rw [eG98]; exact mm_set_of z17 n_o
    have n_q106 : x ≠ q106 := fun z => by rw [z, hn_q106] at z18; cases z18
    have z19 : G107 x = some e := by rw [eG107]; exact mm_set_of z18 n_q106
    have z20 : G116 x = some e := by rw [eG116]; exact mm_set_of z19 n_o
    have z21 : G125 x = some e := by rw [eG125]; exact mm_set_of z20 n_o
    exact z21
  exact W.vret hx hb hr (fun t ht hW => ⟨⟨_, rfl, ⟨q1, q11, q24, q40, q59, q81, q106, k126, k127, k128, k129, k130, k131, k132, k133, hfr⟩, mk_end hG ht⟩, hS.F ht⟩) hS.2.2 dX2_init_83

set_option maxHeartbeats 4000000 in
set_option maxRecDepth 100000 in
theorem c_Jx4a65c_size_8abf5 (l : Launch) (D : va_G) (cy : Nat → ClassId) (A : Nat → Prop) (X : State → Prop) (hst : mk_St A X) (hXT : ∀ U : State, X U → TB U) (e0 : Nat) (tk : Nat → Nat) (hXE : ∀ U : State, X U → ES e0 tk A U) (G : Nat → Option va_E) (o : Nat) (mo n : Int32) (ea : Option Nat) (h0 : G o = some (.inr (1, [.int mo, va_rf ea, .int n]))) : Met l yJx4a65c_size_8abf5 [.code yJx4a65c_size_8abf5 cJx4a65c_size_8abf5 1 (some .int)] ({ frames := 0, cells := 0, slots := 0, locals := 0 }) (mk_Pre D vwCl (tyL cy) A X G [.ref o]) (va_Qi (fun (r : Int32) (G2 : Nat → Option va_E) => r = n ∧ G2 = G) (mk_B D vwCl A) A) 0 0 A := by
  refine Met.ofW (cc := cJx4a65c_size_8abf5) (maxL := 1) (ret := (some .int)) (by decide) rfl ?_
  intro p e s m args below meth c s₁ B hml hv
  obtain ⟨rfl, hG, hK, hA, hX⟩ := hv
  have hx := B.exec
  have hb := B.bytes
  have hr := B.returns
  have hlocks := B.notSynchronized
  have hT := hXT s hX
  have hown : s.vm.findClass RJx4a65c = some m.cls := findClass_of_methodNamed B.named
  have hf_Jx4a65c : ∀ w ∈ u_ws RJx4a65c TJx4a65c 3, w.before ([.ref o] : List Value).toArray s = true := tb_list hT fJx4a65c
  have hS : va_S A s.heap s.heap [] := va_S.rf
  have hE := hXE s hX
  have hl := lv_entry ([.ref o]) (n := 1) (Nat.le_of_ble_eq_true rfl)
  rw [lg_entry_eq]
  generalize (lg_sl ([.ref o]) ++ List.replicate (1 - (lg_sl ([.ref o])).length) Slot.unset).toArray = ls at hl ⊢
  have hl : lv_has ls 1 [(0, .ref o)] := hl
  refine lv_aload_n hx hb dJx4a65c_size_8abf5_0 rfl (lv_at hl 0 rfl) ?_
  refine mm_get (v := .int n) hx hb hf_Jx4a65c (fun _ h9 => h9) hown hK hG h0 rfl 2 (by decide) (tb_use hT tw_267) (fun _ h9 => h9) rfl dJx4a65c_size_8abf5_1 ?_
  exact W.iret (v := n) hx hb hr (fun t ht hW => ⟨⟨_, _, rfl, ⟨rfl, rfl⟩, mk_end hG ht⟩, hS.F ht⟩) hS.2.2 dJx4a65c_size_8abf5_4

set_option maxHeartbeats 4000000 in
set_option maxRecDepth 100000 in
theorem c_Jx4a65c_isEmpty_aae02 (l : Launch) (D : va_G) (cy : Nat → ClassId) (A : Nat → Prop) (X : State → Prop) (hst : mk_St A X) (hXT : ∀ U : State, X U → TB U) (e0 : Nat) (tk : Nat → Nat) (hXE : ∀ U : State, X U → ES e0 tk A U) (G : Nat → Option va_E) (o : Nat) (mo n : Int32) (ea : Option Nat) (h0 : G o = some (.inr (1, [.int mo, va_rf ea, .int n]))) : Met l yJx4a65c_isEmpty_aae02 [.code yJx4a65c_isEmpty_aae02 cJx4a65c_isEmpty_aae02 1 (some .boolean)] ({ frames := 0, cells := 0, slots := 0, locals := 0 }) (mk_Pre D vwCl (tyL cy) A X G [.ref o]) (va_Qi (fun (r : Int32) (G2 : Nat → Option va_E) => r = (if n = 0 then 1 else 0) ∧ G2 = G) (mk_B D vwCl A) A) 0 0 A := by
  refine Met.ofW (cc := cJx4a65c_isEmpty_aae02) (maxL := 1) (ret := (some .boolean)) (by decide) rfl ?_
  intro p e s m args below meth c s₁ B hml hv
  obtain ⟨rfl, hG, hK, hA, hX⟩ := hv
  have hx := B.exec
  have hb := B.bytes
  have hr := B.returns
  have hlocks := B.notSynchronized
  have hT := hXT s hX
  have hown : s.vm.findClass RJx4a65c = some m.cls := findClass_of_methodNamed B.named
  have hf_Jx4a65c : ∀ w ∈ u_ws RJx4a65c TJx4a65c 3, w.before ([.ref o] : List Value).toArray s = true := tb_list hT fJx4a65c
  have hS : va_S A s.heap s.heap [] := va_S.rf
  have hE := hXE s hX
  have hl := lv_entry ([.ref o]) (n := 1) (Nat.le_of_ble_eq_true rfl)
  rw [lg_entry_eq]
  generalize (lg_sl ([.ref o]) ++ List.replicate (1 - (lg_sl ([.ref o])).length) Slot.unset).toArray = ls at hl ⊢
  have hl : lv_has ls 1 [(0, .ref o)] := hl
  refine lv_aload_n hx hb dJx4a65c_isEmpty_aae02_0 rfl (lv_at hl 0 rfl) ?_
  refine mm_get (v := .int n) hx hb hf_Jx4a65c (fun _ h9 => h9) hown hK hG h0 rfl 2 (by decide) (tb_use hT tw_267) (fun _ h9 => h9) rfl dJx4a65c_isEmpty_aae02_1 ?_
  refine lv_if_ne (tgt := 11) hx hb dJx4a65c_isEmpty_aae02_4 (by decide) (fun c_4 => ?_) (fun c_4 => ?_)
  · skip
    refine lv_iconst (v := 0) hx hb dJx4a65c_isEmpty_aae02_11 (by decide) ?_
    exact W.zret (v := 0) hx hb hr rfl (fun t ht hW => ⟨⟨_, _, rfl, ⟨(by rw [if_neg c_4]), rfl⟩, mk_end hG ht⟩, hS.F ht⟩) hS.2.2 dJx4a65c_isEmpty_aae02_12
  · skip
    refine lv_iconst (v := 1) hx hb dJx4a65c_isEmpty_aae02_7 (by decide) ?_
    refine lv_goto (tgt := 12) hx hb dJx4a65c_isEmpty_aae02_8 (by decide) ?_
    exact W.zret (v := 1) hx hb hr rfl (fun t ht hW => ⟨⟨_, _, rfl, ⟨(by rw [if_pos c_4]), rfl⟩, mk_end hG ht⟩, hS.F ht⟩) hS.2.2 dJx4a65c_isEmpty_aae02_12

set_option maxHeartbeats 4000000 in
set_option maxRecDepth 100000 in
theorem c_X12_add (l : Launch) (D : va_G) (cy : Nat → ClassId) (A : Nat → Prop) (X : State → Prop) (hst : mk_St A X) (hXT : ∀ U : State, X U → TB U) (e0 : Nat) (tk : Nat → Nat) (hXE : ∀ U : State, X U → ES e0 tk A U) (G : Nat → Option va_E) (o ks ss vs : Nat) (n : Int32) (f1 : Nat → Option Nat) (f2 : Nat → Int32) (f3 : Nat → Int64) (ti : Nat) (sv : Int32) (vv : Int64) (h0 : G o = some (.inr (13, [.ref ks, .ref ss, .ref vs, .int n]))) (h1 : G ks = some (.inl (cy 5, 2001, .inr (.inr (.inr (.inr f1)))))) (h2 : G ss = some (.inl (cy 1, 2001, .inl f2))) (h3 : G vs = some (.inl (cy 2, 2001, .inr (.inl f3)))) (hn0 : ¬ n < 0) (hn : n < 2001) (hti : ti < 35) : Met l yX12_add [.code yX12_add cX12_add 5 none] ({ frames := 0, cells := 0, slots := 0, locals := 0 }) (mk_Pre D vwCl (tyL cy) A X G [.ref o, .ref (tk ti), .int sv, .long vv]) (va_Qv (fun (G2 : Nat → Option va_E) => G2 o = some (.inr (13, [.ref ks, .ref ss, .ref vs, .int (n + 1)])) ∧ G2 ks = some (.inl (cy 5, 2001, .inr (.inr (.inr (.inr (va_up f1 n.toNatClampNeg (some (tk ti)))))))) ∧ G2 ss = some (.inl (cy 1, 2001, .inl (upd f2 n.toNatClampNeg sv))) ∧ G2 vs = some (.inl (cy 2, 2001, .inr (.inl (vp_updL f3 n.toNatClampNeg vv)))) ∧ ∀ (x : Nat) (e : va_E), G x = some e → x ≠ o → x ≠ ks → x ≠ ss → x ≠ vs → G2 x = some e) (mk_B D vwCl A) A) 0 0 A := by
  refine Met.ofW (cc := cX12_add) (maxL := 5) (ret := none) (by decide) rfl ?_
  intro p e s m args below meth c s₁ B hml hv
  obtain ⟨rfl, hG, hK, hA, hX⟩ := hv
  have hx := B.exec
  have hb := B.bytes
  have hr := B.returns
  have hlocks := B.notSynchronized
  have hT := hXT s hX
  have hown : s.vm.findClass RX12 = some m.cls := findClass_of_methodNamed B.named
  have hf_X12 : ∀ w ∈ u_ws RX12 TX12 4, w.before ([.ref o, .ref (tk ti), .int sv, .long vv] : List Value).toArray s = true := tb_list hT fX12
  have hS : va_S A s.heap s.heap [] := va_S.rf
  have hE := hXE s hX
  have hl := lv_entry ([.ref o, .ref (tk ti), .int sv, .long vv]) (n := 5) (Nat.le_of_ble_eq_true rfl)
  rw [lg_entry_eq]
  generalize (lg_sl ([.ref o, .ref (tk ti), .int sv, .long vv]) ++ List.replicate (5 - (lg_sl ([.ref o, .ref (tk ti), .int sv, .long vv])).length) Slot.unset).toArray = ls at hl ⊢
  have hl : lv_has ls 5 [(0, .ref o), (1, .ref (tk ti)), (2, .int sv), (3, .long vv)] := hl
  refine lv_aload_n hx hb dX12_add_0 rfl (lv_at hl 0 rfl) ?_
  refine mm_get (v := .int n) hx hb hf_X12 (fun _ h9 => h9) hown hK hG h0 rfl 3 (by decide) (tb_use hT tw_163) (fun _ h9 => h9) rfl dX12_add_1 ?_
  refine lv_aload_n hx hb dX12_add_4 rfl (lv_at hl 0 rfl) ?_
  refine mm_get (v := .ref ks) hx hb hf_X12 (fun _ h9 => h9) hown hK hG h0 rfl 0 (by decide) (tb_use hT tw_160) (fun _ h9 => h9) rfl dX12_add_5 ?_
  refine mm_alen (v := 2001) hx hb hK hG 5 h1 rfl rfl dX12_add_8 ?_
  refine lv_icmp_ge (tgt := 52) hx hb dX12_add_9 (by decide) (fun c_9 => ?_) (fun c_9 => ?_)
  · skip
    exact absurd hn (Int32.not_lt.mpr c_9)
  · skip
    refine lv_aload_n hx hb dX12_add_12 rfl (lv_at hl 0 rfl) ?_
    refine mm_get (v := .ref ks) hx hb hf_X12 (fun _ h9 => h9) hown hK hG h0 rfl 0 (by decide) (tb_use hT tw_160) (fun _ h9 => h9) rfl dX12_add_13 ?_
    refine lv_aload_n hx hb dX12_add_16 rfl (lv_at hl 0 rfl) ?_
    refine mm_get (v := .int n) hx hb hf_X12 (fun _ h9 => h9) hown hK hG h0 rfl 3 (by decide) (tb_use hT tw_163) (fun _ h9 => h9) rfl dX12_add_17 ?_
    refine lv_aload_n hx hb dX12_add_20 rfl (lv_at hl 1 rfl) ?_
    refine mm_aastM hx hb hK hG hS 5 h1 rfl (tk_any hK hE (by first | decide | assumption) hS) (vp_in_lt hn0 hn rfl) dX12_add_21 (fun H locs hG hS => ?_)
    obtain ⟨G1, eG1⟩ : ∃ g, g = mm_set G ks (.inl (cy 5, 2001, .inr (.inr (.inr (.inr (va_up f1 n.toNatClampNeg (some (tk ti)))))))) := ⟨_, rfl⟩
    have hG : mm D vwCl A G1 H := by rw [eG1]; exact hG
    have k2 : G1 o = some (.inr (13, [.ref ks, .ref ss, .ref vs, .int n])) := by rw [eG1]; exact mm_set_of h0 (mm_ne_oa h0 h1)
    have k3 : G1 ks = some (.inl (cy 5, 2001, .inr (.inr (.inr (.inr (va_up f1 n.toNatClampNeg (some (tk ti)))))))) := by rw [eG1]; exact mm_set_self
    have k4 : G1 ss = some (.inl (cy 1, 2001, .inl f2)) := by rw [eG1]; exact mm_set_of h2 (mm_ne_e h2 h1 (fun z => by have z2 := (Prod.mk.inj (Prod.mk.inj (Sum.inl.inj z)).2).2; cases z2))
    have k5 : G1 vs = some (.inl (cy 2, 2001, .inr (.inl f3))) := by rw [eG1]; exact mm_set_of h3 (mm_ne_e h3 h1 (fun z => by have z2 := (Prod.mk.inj (Prod.mk.inj (Sum.inl.inj z)).2).2; cases z2))
    refine lv_aload_n hx hb dX12_add_22 rfl (lv_at hl 0 rfl) ?_
    refine mm_get (v := .ref ss) hx hb hf_X12 (fun _ h9 => h9) hown hK hG k2 rfl 1 (by decide) (tb_use hT tw_161) (fun _ h9 => h9) rfl dX12_add_23 ?_
    refine lv_aload_n hx hb dX12_add_26 rfl (lv_at hl 0 rfl) ?_
    refine mm_get (v := .int n) hx hb hf_X12 (fun _ h9 => h9) hown hK hG k2 rfl 3 (by decide) (tb_use hT tw_163) (fun _ h9 => h9) rfl dX12_add_27 ?_
    refine lv_iload_n hx hb dX12_add_30 rfl (lv_at hl 2 rfl) ?_
    refine mm_iast hx hb hK hG hS 1 k4 rfl (vp_in_lt hn0 hn rfl) dX12_add_31 (fun H locs hG hS => ?_)
    obtain ⟨G6, eG6⟩ : ∃ g, g = mm_set G1 ss (.inl (cy 1, 2001, .inl (upd f2 n.toNatClampNeg sv))) := ⟨_, rfl⟩
    have hG : mm D vwCl A G6 H := by rw [eG6]; exact hG
    have k7 : G6 o = some (.inr (13, [.ref ks, .ref ss, .ref vs, .int n])) := by rw [eG6]; exact mm_set_of k2 (mm_ne_oa k2 k4)
    have k8 : G6 ks = some (.inl (cy 5, 2001, .inr (.inr (.inr (.inr (va_up f1 n.toNatClampNeg (some (tk ti)))))))) := by rw [eG6]; exact mm_set_of k3 (mm_ne_e k3 k4 (fun z => by have z2 := (Prod.mk.inj (Prod.mk.inj (Sum.inl.inj z)).2).2; cases z2))
    have k9 : G6 ss = some (.inl (cy 1, 2001, .inl (upd f2 n.toNatClampNeg sv))) := by rw [eG6]; exact mm_set_self
    have k10 : G6 vs = some (.inl (cy 2, 2001, .inr (.inl f3))) := by rw [eG6]; exact mm_set_of k5 (mm_ne_e k5 k4 (fun z => by have z2 := (Prod.mk.inj (Prod.mk.inj (Sum.inl.inj z)).2).2; cases z2))
    refine lv_aload_n hx hb dX12_add_32 rfl (lv_at hl 0 rfl) ?_
    refine mm_get (v := .ref vs) hx hb hf_X12 (fun _ h9 => h9) hown hK hG k7 rfl 2 (by decide) (tb_use hT tw_162) (fun _ h9 => h9) rfl dX12_add_33 ?_
    refine lv_aload_n hx hb dX12_add_36 rfl (lv_at hl 0 rfl) ?_
    refine mm_get (v := .int n) hx hb hf_X12 (fun _ h9 => h9) hown hK hG k7 rfl 3 (by decide) (tb_use hT tw_163) (fun _ h9 => h9) rfl dX12_add_37 ?_
    refine lv_lload_n hx hb dX12_add_40 rfl (lv_at hl 3 rfl) ?_
    refine mm_last hx hb hK hG hS 2 k10 rfl (vp_in_lt hn0 hn rfl) dX12_add_41 (fun H locs hG hS => ?_)
    obtain ⟨G11, eG11⟩ : ∃ g, g = mm_set G6 vs (.inl (cy 2, 2001, .inr (.inl (vp_updL f3 n.toNatClampNeg vv)))) := ⟨_, rfl⟩
    have hG : mm D vwCl A G11 H := by rw [eG11]; exact hG
    have k12 : G11 o = some (.inr (13, [.ref ks, .ref ss, .ref vs, .int n])) := by rw [eG11]; exact mm_set_of k7 (mm_ne_oa k7 k10)
    have k13 : G11 ks = some (.inl (cy 5, 2001, .inr (.inr (.inr (.inr (va_up f1 n.toNatClampNeg (some (tk ti)))))))) := by rw [eG11]; exact mm_set_of k8 (mm_ne_e k8 k10 (fun z => by have z2 := (Prod.mk.inj (Prod.mk.inj (Sum.inl.inj z)).2).2; cases z2))
    have k14 : G11 ss = some (.inl (cy 1, 2001, .inl (upd f2 n.toNatClampNeg sv))) := by rw [eG11]; exact mm_set_of k9 (mm_ne_e k9 k10 (fun z => by have z2 := (Prod.mk.inj (Prod.mk.inj (Sum.inl.inj z)).2).2; cases z2))
    have k15 : G11 vs = some (.inl (cy 2, 2001, .inr (.inl (vp_updL f3 n.toNatClampNeg vv)))) := by rw [eG11]; exact mm_set_self
    refine lv_aload_n hx hb dX12_add_42 rfl (lv_at hl 0 rfl) ?_
    refine lv_dup hx hb dX12_add_43 rfl ?_
    refine mm_get (v := .int n) hx hb hf_X12 (fun _ h9 => h9) hown hK hG k12 rfl 3 (by decide) (tb_use hT tw_163) (fun _ h9 => h9) rfl dX12_add_44 ?_
    refine lv_iconst (v := 1) hx hb dX12_add_47 (by decide) ?_
    refine lv_iadd hx hb dX12_add_48 ?_
    refine lv_topi (fun x16 ex16 => ?_)
    refine mm_put (v := .int x16) (ty := .int) hx hb hf_X12 (fun _ h9 => h9) tyX12 tyX12_ok nmX12 hown hK hG hS k12 rfl 3 (by decide) (tb_use hT tw_163) (fun _ h9 => h9) rfl (by decide +kernel) rfl rfl (Nat.le_of_ble_eq_true rfl) dX12_add_49 (fun H locs hG hS => ?_)
    obtain ⟨G17, eG17⟩ : ∃ g, g = mm_set G11 o (.inr (13, [.ref ks, .ref ss, .ref vs, .int x16])) := ⟨_, rfl⟩
    have hG : mm D vwCl A G17 H := by rw [eG17]; exact hG
    have k18 : G17 o = some (.inr (13, [.ref ks, .ref ss, .ref vs, .int x16])) := by rw [eG17]; exact mm_set_self
    have k19 : G17 ks = some (.inl (cy 5, 2001, .inr (.inr (.inr (.inr (va_up f1 n.toNatClampNeg (some (tk ti)))))))) := by rw [eG17]; exact mm_set_of k13 (mm_ne_ao k13 k12)
    have k20 : G17 ss = some (.inl (cy 1, 2001, .inl (upd f2 n.toNatClampNeg sv))) := by rw [eG17]; exact mm_set_of k14 (mm_ne_ao k14 k12)
    have k21 : G17 vs = some (.inl (cy 2, 2001, .inr (.inl (vp_updL f3 n.toNatClampNeg vv)))) := by rw [eG17]; exact mm_set_of k15 (mm_ne_ao k15 k12)
    have hfr : ∀ (x : Nat) (e : va_E), G x = some e → x ≠ o → x ≠ ks → x ≠ ss → x ≠ vs → G17 x = some e := by
      intro x e z0 n_o n_ks n_ss n_vs
      have z1 : G1 x = some e := by rw [eG1]; exact mm_set_of z0 n_ks
      have z2 : G6 x = some e := by rw [eG6]; exact mm_set_of z1 n_ss
      have z3 : G11 x = some e := by rw [eG11]; exact mm_set_of z2 n_vs
      have z4 : G17 x = some e := by rw [eG17]; exact mm_set_of z3 n_o
      exact z4
    exact W.vret hx hb hr (fun t ht hW => ⟨⟨_, rfl, ⟨(by rw [k18, ex16]), k19, k20, k21, hfr⟩, mk_end hG ht⟩, hS.F ht⟩) hS.2.2 dX12_add_52

set_option maxHeartbeats 4000000 in
set_option maxRecDepth 100000 in
theorem c_X12_cut_e (l : Launch) (D : va_G) (cy : Nat → ClassId) (A : Nat → Prop) (X : State → Prop) (hst : mk_St A X) (hXT : ∀ U : State, X U → TB U) (e0 : Nat) (tk : Nat → Nat) (hXE : ∀ U : State, X U → ES e0 tk A U) (G : Nat → Option va_E) (o ks ss vs : Nat) (n : Int32) (f1 : Nat → Option Nat) (f2 : Nat → Int32) (f3 : Nat → Int64) (tx : Nat) (f : Nat → Int32) (h0 : G o = some (.inr (13, [.ref ks, .ref ss, .ref vs, .int n]))) (h1 : G ks = some (.inl (cy 5, 2001, .inr (.inr (.inr (.inr f1)))))) (h2 : G ss = some (.inl (cy 1, 2001, .inl f2))) (h3 : G vs = some (.inl (cy 2, 2001, .inr (.inl f3)))) (h4 : G tx = some (.inl (cy 0, 2000, .inl f))) : Met l yX12_cut [.code yX12_cut cX12_cut 6 none] ({ frames := 1, cells := 0, slots := 0, locals := 30 }) (mk_Pre D vwCl (tyL cy) A X G [.ref o, .ref tx, .int 0]) (va_Qv (fun (G2 : Nat → Option va_E) => G2 o = some (.inr (13, [.ref ks, .ref ss, .ref vs, .int 1])) ∧ (∃ g1, G2 ks = some (.inl (cy 5, 2001, .inr (.inr (.inr (.inr (va_up g1 0 (some (tk 2))))))))) ∧ (∃ g2, G2 ss = some (.inl (cy 1, 2001, .inl g2))) ∧ (∃ g3, G2 vs = some (.inl (cy 2, 2001, .inr (.inl g3)))) ∧ ∀ (x : Nat) (e : va_E), G x = some e → x ≠ o → x ≠ ks → x ≠ ss → x ≠ vs → G2 x = some e) (mk_B D vwCl A) A) 0 0 A := by
  refine Met.ofW (cc := cX12_cut) (maxL := 6) (ret := none) (by decide) rfl ?_
  intro p e s m args below meth c s₁ B hml hv
  obtain ⟨rfl, hG, hK, hA, hX⟩ := hv
  have hx := B.exec
  have hb := B.bytes
  have hr := B.returns
  have hlocks := B.notSynchronized
  have hT := hXT s hX
  have hown : s.vm.findClass RX12 = some m.cls := findClass_of_methodNamed B.named
  have hf_X12 : ∀ w ∈ u_ws RX12 TX12 4, w.before ([.ref o, .ref tx, .int 0] : List Value).toArray s = true := tb_list hT fX12
  have hS : va_S A s.heap s.heap [] := va_S.rf
  have hE := hXE s hX
  have hl := lv_entry ([.ref o, .ref tx, .int 0]) (n := 6) (Nat.le_of_ble_eq_true rfl)
  rw [lg_entry_eq]
  generalize (lg_sl ([.ref o, .ref tx, .int 0]) ++ List.replicate (6 - (lg_sl ([.ref o, .ref tx, .int 0])).length) Slot.unset).toArray = ls at hl ⊢
  have hl : lv_has ls 6 [(0, .ref o), (1, .ref tx), (2, .int 0)] := hl
  refine lv_aload_n hx hb dX12_cut_0 rfl (lv_at hl 0 rfl) ?_
  refine lv_iconst (v := 0) hx hb dX12_cut_1 (by decide) ?_
  refine mm_put (v := .int 0) (ty := .int) hx hb hf_X12 (fun _ h9 => h9) tyX12 tyX12_ok nmX12 hown hK hG hS h0 rfl 3 (by decide) (tb_use hT tw_163) (fun _ h9 => h9) rfl (by decide +kernel) rfl rfl (Nat.le_of_ble_eq_true rfl) dX12_cut_2 (fun H locs hG hS => ?_)
  obtain ⟨G1, eG1⟩ : ∃ g, g = mm_set G o (.inr (13, [.ref ks, .ref ss, .ref vs, .int 0])) := ⟨_, rfl⟩
  have hG : mm D vwCl A G1 H := by rw [eG1]; exact hG
  have k2 : G1 o = some (.inr (13, [.ref ks, .ref ss, .ref vs, .int 0])) := by rw [eG1]; exact mm_set_self
  have k3 : G1 ks = some (.inl (cy 5, 2001, .inr (.inr (.inr (.inr f1))))) := by rw [eG1]; exact mm_set_of h1 (mm_ne_ao h1 h0)
  have k4 : G1 ss = some (.inl (cy 1, 2001, .inl f2)) := by rw [eG1]; exact mm_set_of h2 (mm_ne_ao h2 h0)
  have k5 : G1 vs = some (.inl (cy 2, 2001, .inr (.inl f3))) := by rw [eG1]; exact mm_set_of h3 (mm_ne_ao h3 h0)
  have k6 : G1 tx = some (.inl (cy 0, 2000, .inl f)) := by rw [eG1]; exact mm_set_of h4 (mm_ne_ao h4 h0)
  refine lv_iload_n hx hb dX12_cut_5 rfl (lv_at hl 2 rfl) ?_
  refine lv_aload_n hx hb dX12_cut_6 rfl (lv_at hl 1 rfl) ?_
  refine mm_alen (v := 2000) hx hb hK hG 0 k6 rfl rfl dX12_cut_7 ?_
  refine va_mmin hx hb (by rw [hml]; exact hl.1.symm) hown (tb_use hT tw_333) (tb_use hT tw_334) (tb_use hT tw_114) (tb_use hT tw_335) (Nat.le_of_ble_eq_true rfl) (Nat.le_of_ble_eq_true rfl) (by exact Nat.zero_le _) (by exact Nat.zero_le _) dX12_cut_8 ?_
  refine lv_topi (fun x7 ex7 => ?_)
  refine lv_istore_n (lv' := [(3, .int x7), (0, .ref o), (1, .ref tx), (2, .int 0)]) hx hb dX12_cut_11 rfl hl (by decide) rfl (fun ls hl => ?_)
  refine lv_iconst (v := 0) hx hb dX12_cut_12 (by decide) ?_
  refine lv_istore (lv' := [(4, .int 0), (3, .int x7), (0, .ref o), (1, .ref tx), (2, .int 0)]) hx hb dX12_cut_13 hl (by decide) rfl (fun ls hl => ?_)
  refine lv_iconst (v := 0) hx hb dX12_cut_15 (by decide) ?_
  refine lv_istore (lv' := [(5, .int 0), (4, .int 0), (3, .int x7), (0, .ref o), (1, .ref tx), (2, .int 0)]) hx hb dX12_cut_16 hl (by decide) rfl (fun ls hl => ?_)
  refine lv_iload hx hb dX12_cut_18 (lv_at hl 0 rfl) ?_
  refine lv_iload_n hx hb dX12_cut_20 rfl (lv_at hl 2 rfl) ?_
  refine lv_icmp_ge (tgt := 63) hx hb dX12_cut_21 (by decide) (fun c_21 => ?_) (fun c_21 => ?_)
  · skip
    refine lv_aload_n hx hb dX12_cut_63 rfl (lv_at hl 3 rfl) ?_
    refine va_gets (v := .ref (tk 2)) hx hb (show va_Z "DescribeText$Token" "END" "LDescribeText$Token;" (.ref (tk 2)) A s s.heap from (hE.2.1 2 (by decide)).1) hS hown (tb_use hT tw_431) (fun _ h9 => h9) dX12_cut_64 ?_
    refine lv_iload_n hx hb dX12_cut_67 rfl (lv_at hl 2 rfl) ?_
    refine lv_lconst (v := 0) hx hb dX12_cut_68 (by decide) ?_
    refine va_callv (va_runV (As := [.ref (tk 2), .int x7, .long 0]) (rest := []) ⟨hx, hb, hml, hown, (fun _ h9 => absurd h9 List.not_mem_nil : ∀ w ∈ ([] : List Cond), w.before _ s = true)⟩ (c_X12_add l D cy A X hst hXT e0 tk hXE G1 o ks ss vs 0 f1 f2 f3 2 x7 0 k2 k3 k4 k5 (by decide) (by decide) (by decide)) (tb_cw (C := RX12) 3 hT tw_362 tw_107 tw_359 tw_361 tw_3 rfl rfl (by decide +kernel) ⟨Nat.le_of_ble_eq_true rfl, Nat.le_of_ble_eq_true rfl⟩) (mk_preV hst hG hK hA hX hS (ci := 13) rfl k2) rfl rfl hl.1 rfl (lv_room (Nat.le_of_ble_eq_true rfl)) dX12_cut_69 ⟨Nat.le_of_ble_eq_true rfl, Nat.le_of_ble_eq_true rfl⟩) hS (fun q _ h => h) (fun q h => h) (fun  G8 t H1 locs ht hvm hw hB hz1 hk1 hS => ?_)
    have hG : mm D vwCl A G8 H1 := by rw [← ht]; exact hB
    clear hB hz1 hk1 hvm ht
    generalize H1 = H at hG hS ⊢
    obtain ⟨h9_0, h9_1, h9_2, h9_3, h9_f⟩ := hw
    have k10 : G8 tx = some (.inl (cy 0, 2000, .inl f)) := h9_f _ _ k6 (mm_ne_ao k6 k2) (mm_ne_e k6 k3 (fun z => by have z2 := (Prod.mk.inj (Prod.mk.inj (Sum.inl.inj z)).2).2; cases z2)) (mm_ne_n k6 k4 (by decide)) (mm_ne_e k6 k5 (fun z => by have z2 := (Prod.mk.inj (Prod.mk.inj (Sum.inl.inj z)).2).2; cases z2))
    have hfr : ∀ (x : Nat) (e : va_E), G x = some e → x ≠ o → x ≠ ks → x ≠ ss → x ≠ vs → G8 x = some e := by
      intro x e z0 n_o n_ks n_ss n_vs
      have z1 : G1 x = some e := by rw [eG1]; exact mm_set_of z0 n_o
      have z2 : G8 x = some e := h9_f x e z1 n_o n_ks n_ss n_vs
      exact z2
    exact W.vret hx hb hr (fun t ht hW => ⟨⟨_, rfl, ⟨h9_0, ⟨_, (by exact h9_1)⟩, ⟨_, h9_2⟩, ⟨_, h9_3⟩, hfr⟩, mk_end hG ht⟩, hS.F ht⟩) hS.2.2 dX12_cut_72
  · skip
    exact absurd (by rw [ex7]; decide) c_21
