set_option maxHeartbeats 4000000 in
set_option maxRecDepth 100000 in
theorem c_ED_new (l : Launch) (D : va_G) (cy : Nat → ClassId) (A : Nat → Prop) (X : State → Prop) (hst : mk_St A X) (hXT : ∀ U : State, X U → TB U) (e0 : Nat) (tk : Nat → Nat) (hXE : ∀ U : State, X U → ES e0 tk A U) (G : Nat → Option va_E) (o : Nat) (h0 : G o = some (.inr (3, [.null, .null, .null, .null, .null, .null, .null, .int 0, .null, .int 0, .null]))) : Met l yX2_init [.code yX2_init cX2_init 1 none] ({ frames := 4, cells := 7, slots := 26, locals := 120 }) (mk_Pre D vwCl (tyL cy) A X G [.ref o]) (va_Qv (fun (G2 : Nat → Option va_E) => ∃ (LA : Nat → Nat) (nm : Nat), G2 o = some (.inr (3, [.ref (LA 0), .ref (LA 1), .ref (LA 2), .ref (LA 3), .ref (LA 4), .ref (LA 5), .ref nm, .int 0, .null, .int (-1), .null])) ∧ (∀ i, i < 6 → G2 (LA i) = some (.inr (1, [.int 0, .ref e0, .int 0]))) ∧ (∀ i j, i < 6 → j < 6 → LA i = LA j → i = j) ∧ (∀ i, i < 6 → G (LA i) = none) ∧ G2 nm = some (.inl (cy 2, 8, .inr (.inl (fun _ => 0)))) ∧ G nm = none ∧ ∀ (x : Nat) (e : va_E), G x = some e → x ≠ o → G2 x = some e) (mk_B D vwCl A) A) 7 26 A := by
  refine Met.ofW (cc := cX2_init) (maxL := 1) (ret := none) (by decide) rfl ?_
  intro p e s m args below meth c s₁ B hml hv
  obtain ⟨rfl, hG, hK, hA, hX⟩ := hv
  have hx := B.exec
  have hb := B.bytes
  have hr := B.returns
  have hlocks := B.notSynchronized
  have hT := hXT s hX
  have hown : s.vm.findClass RX2 = some m.cls := findClass_of_methodNamed B.named
  have hin : meth.name = "<init>" := (name_of_methodNamed B.named B.method).1
  have hf_Jx4a65c : ∀ w ∈ u_ws RJx4a65c TJx4a65c 3, w.before ([.ref o] : List Value).toArray s = true := tb_list hT fJx4a65c
  have hf_X2 : ∀ w ∈ u_ws RX2 TX2 11, w.before ([.ref o] : List Value).toArray s = true := tb_list hT fX2
  have hS : va_S A s.heap s.heap [] := va_S.rf
  have hE := hXE s hX
  have hl := lv_entry ([.ref o]) (n := 1) (Nat.le_of_ble_eq_true rfl)
  rw [lg_entry_eq]
  generalize (lg_sl ([.ref o]) ++ List.replicate (1 - (lg_sl ([.ref o])).length) Slot.unset).toArray = ls at hl ⊢
  have hl : lv_has ls 1 [(0, .ref o)] := hl
  refine lv_aload_n hx hb dX2_init_0 rfl (lv_at hl 0 rfl) ?_
  refine W.objInit hx hb hown (tb_use hT tw_251) (tb_use hT tw_144) (tb_use hT tw_145) rfl (by rw [hml]; exact hl.1) rfl dX2_init_1 (Nat.le_of_ble_eq_true rfl) (Nat.le_of_ble_eq_true rfl) ?_
  refine W.eq (g2 := F0 m 4 ls []) rfl ?_
  refine lv_aload_n hx hb dX2_init_4 rfl (lv_at hl 0 rfl) ?_
  refine mm_new (ci := 1) (fs := [.int 0, .null, .int 0]) hx hb hf_Jx4a65c (fun _ h9 => h9) tyJx4a65c tyJx4a65c_ok hown (tb_use hT tw_252) (tb_use hT tw_253) (tb_use hT tw_113) hK hG hS hA rfl (fun j hj => by rcases (show j = 0 ∨ j = 1 ∨ j = 2 by omega) with rfl | rfl | rfl <;> rfl) (by exact Nat.le_of_ble_eq_true rfl) (by exact Nat.le_of_ble_eq_true rfl) dX2_init_5 (fun q1 H hn_q1 hG hS => ?_)
  obtain ⟨G2, eG2⟩ : ∃ g, g = mm_set G q1 (.inr (1, [.int 0, .null, .int 0])) := ⟨_, rfl⟩
  have hG : mm D vwCl A G2 H := by rw [eG2]; exact hG
  have k3 : G2 o = some (.inr (3, [.null, .null, .null, .null, .null, .null, .null, .int 0, .null, .int 0, .null])) := by rw [eG2]; exact mm_set_new h0 hn_q1
  have k4 : G2 q1 = some (.inr (1, [.int 0, .null, .int 0])) := by rw [eG2]; exact mm_set_self
  refine lv_dup hx hb dX2_init_8 rfl ?_
  refine va_callv (va_runI (As := []) (rest := [.ref q1, .ref o]) ⟨hx, hb, hml, hown, (fun _ h9 => absurd h9 List.not_mem_nil : ∀ w ∈ ([] : List Cond), w.before _ s = true)⟩ (c_Jx4a65c_init_da8c8 l D cy A X hst hXT e0 tk hXE G2 q1 k4) (tb_ci 0 hT tw_256 tw_113 tw_254 tw_255 rfl rfl rfl hq_Jx4a65c_init_da8c8 ⟨Nat.le_of_ble_eq_true rfl, Nat.le_of_ble_eq_true rfl⟩) (mk_preS hst hG hK hA hX hS) rfl rfl hl.1 rfl (lv_room (Nat.le_of_ble_eq_true rfl)) dX2_init_9 ⟨Nat.le_of_ble_eq_true rfl, Nat.le_of_ble_eq_true rfl⟩) hS (fun q _ h => h) (fun q h => h) (fun  G5 t H locs ht hvm hw hB hz1 hk1 hS => ?_)
  have hG : mm D vwCl A G5 H := by rw [← ht]; exact hB
  clear hB hz1 hk1 hvm ht
  obtain ⟨h6_o, h6_f⟩ := hw
  have k7 : G5 o = some (.inr (3, [.null, .null, .null, .null, .null, .null, .null, .int 0, .null, .int 0, .null])) := h6_f _ _ k3 (mm_ne_oo k3 k4 (by decide))
  refine mm_putF (v := .ref q1) (ty := .object "java/util/ArrayList") hx hb hf_X2 (fun _ h9 => h9) tyX2 tyX2_ok nmX2 hown hK hG hS k7 rfl 0 (by decide) (tb_use hT tw_278) (fun _ h9 => h9) rfl hin rfl (by decide +kernel) rfl rfl (Nat.le_of_ble_eq_true rfl) dX2_init_12 (fun H locs hG hS => ?_)
  obtain ⟨G8, eG8⟩ : ∃ g, g = mm_set G5 o (.inr (3, [.ref q1, .null, .null, .null, .null, .null, .null, .int 0, .null, .int 0, .null])) := ⟨_, rfl⟩
  have hG : mm D vwCl A G8 H := by rw [eG8]; exact hG
  have k9 : G8 o = some (.inr (3, [.ref q1, .null, .null, .null, .null, .null, .null, .int 0, .null, .int 0, .null])) := by rw [eG8]; exact mm_set_self
  have k10 : G8 q1 = some (.inr (1, [.int 0, .ref e0, .int 0])) := by rw [eG8]; exact mm_set_of h6_o (mm_ne_oo h6_o k7 (by decide))
  refine lv_aload_n hx hb dX2_init_15 rfl (lv_at hl 0 rfl) ?_
  refine mm_new (ci := 1) (fs := [.int 0, .null, .int 0]) hx hb hf_Jx4a65c (fun _ h9 => h9) tyJx4a65c tyJx4a65c_ok hown (tb_use hT tw_252) (tb_use hT tw_253) (tb_use hT tw_113) hK hG hS hA rfl (fun j hj => by rcases (show j = 0 ∨ j = 1 ∨ j = 2 by omega) with rfl | rfl | rfl <;> rfl) (by exact Nat.le_of_ble_eq_true rfl) (by exact Nat.le_of_ble_eq_true rfl) dX2_init_16 (fun q11 H hn_q11 hG hS => ?_)
  obtain ⟨G12, eG12⟩ : ∃ g, g = mm_set G8 q11 (.inr (1, [.int 0, .null, .int 0])) := ⟨_, rfl⟩
  have hG : mm D vwCl A G12 H := by rw [eG12]; exact hG
  have ne_q1_q11 : q1 ≠ q11 := mm_ne_new k10 hn_q11
  have k13 : G12 o = some (.inr (3, [.ref q1, .null, .null, .null, .null, .null, .null, .int 0, .null, .int 0, .null])) := by rw [eG12]; exact mm_set_new k9 hn_q11
  have k14 : G12 q1 = some (.inr (1, [.int 0, .ref e0, .int 0])) := by rw [eG12]; exact mm_set_new k10 hn_q11
  have k15 : G12 q11 = some (.inr (1, [.int 0, .null, .int 0])) := by rw [eG12]; exact mm_set_self
  refine lv_dup hx hb dX2_init_19 rfl ?_
  refine va_callv (va_runI (As := []) (rest := [.ref q11, .ref o]) ⟨hx, hb, hml, hown, (fun _ h9 => absurd h9 List.not_mem_nil : ∀ w ∈ ([] : List Cond), w.before _ s = true)⟩ (c_Jx4a65c_init_da8c8 l D cy A X hst hXT e0 tk hXE G12 q11 k15) (tb_ci 0 hT tw_256 tw_113 tw_254 tw_255 rfl rfl rfl hq_Jx4a65c_init_da8c8 ⟨Nat.le_of_ble_eq_true rfl, Nat.le_of_ble_eq_true rfl⟩) (mk_preS hst hG hK hA hX hS) rfl rfl hl.1 rfl (lv_room (Nat.le_of_ble_eq_true rfl)) dX2_init_20 ⟨Nat.le_of_ble_eq_true rfl, Nat.le_of_ble_eq_true rfl⟩) hS (fun q _ h => h) (fun q h => h) (fun  G16 t H locs ht hvm hw hB hz1 hk1 hS => ?_)
  have hG : mm D vwCl A G16 H := by rw [← ht]; exact hB
  clear hB hz1 hk1 hvm ht
  obtain ⟨h17_o, h17_f⟩ := hw
  have k18 : G16 o = some (.inr (3, [.ref q1, .null, .null, .null, .null, .null, .null, .int 0, .null, .int 0, .null])) := h17_f _ _ k13 (mm_ne_oo k13 k15 (by decide))
  have k19 : G16 q1 = some (.inr (1, [.int 0, .ref e0, .int 0])) := h17_f _ _ k14 ne_q1_q11
  refine mm_putF (v := .ref q11) (ty := .object "java/util/ArrayList") hx hb hf_X2 (fun _ h9 => h9) tyX2 tyX2_ok nmX2 hown hK hG hS k18 rfl 1 (by decide) (tb_use hT tw_280) (fun _ h9 => h9) rfl hin rfl (by decide +kernel) rfl rfl (Nat.le_of_ble_eq_true rfl) dX2_init_23 (fun H locs hG hS => ?_)
  obtain ⟨G20, eG20⟩ : ∃ g, g = mm_set G16 o (.inr (3, [.ref q1, .ref q11, .null, .null, .null, .null, .null, .int 0, .null, .int 0, .null])) := ⟨_, rfl⟩
  have hG : mm D vwCl A G20 H := by rw [eG20]; exact hG
  have k21 : G20 o = some (.inr (3, [.ref q1, .ref q11, .null, .null, .null, .null, .null, .int 0, .null, .int 0, .null])) := by rw [eG20]; exact mm_set_self
  have k22 : G20 q1 = some (.inr (1, [.int 0, .ref e0, .int 0])) := by rw [eG20]; exact mm_set_of k19 (mm_ne_oo k19 k18 (by decide))
  have k23 : G20 q11 = some (.inr (1, [.int 0, .ref e0, .int 0])) := by rw [eG20]; exact mm_set_of h17_o (mm_ne_oo h17_o k18 (by decide))
  refine lv_aload_n hx hb dX2_init_26 rfl (lv_at hl 0 rfl) ?_
  refine mm_new (ci := 1) (fs := [.int 0, .null, .int 0]) hx hb hf_Jx4a65c (fun _ h9 => h9) tyJx4a65c tyJx4a65c_ok hown (tb_use hT tw_252) (tb_use hT tw_253) (tb_use hT tw_113) hK hG hS hA rfl (fun j hj => by rcases (show j = 0 ∨ j = 1 ∨ j = 2 by omega) with rfl | rfl | rfl <;> rfl) (by exact Nat.le_of_ble_eq_true rfl) (by exact Nat.le_of_ble_eq_true rfl) dX2_init_27 (fun q24 H hn_q24 hG hS => ?_)
  obtain ⟨G25, eG25⟩ : ∃ g, g = mm_set G20 q24 (.inr (1, [.int 0, .null, .int 0])) := ⟨_, rfl⟩
  have hG : mm D vwCl A G25 H := by rw [eG25]; exact hG
  have ne_q1_q24 : q1 ≠ q24 := mm_ne_new k22 hn_q24
  have ne_q11_q24 : q11 ≠ q24 := mm_ne_new k23 hn_q24
  have k26 : G25 o = some (.inr (3, [.ref q1, .ref q11, .null, .null, .null, .null, .null, .int 0, .null, .int 0, .null])) := by rw [eG25]; exact mm_set_new k21 hn_q24
  have k27 : G25 q1 = some (.inr (1, [.int 0, .ref e0, .int 0])) := by rw [eG25]; exact mm_set_new k22 hn_q24
  have k28 : G25 q11 = some (.inr (1, [.int 0, .ref e0, .int 0])) := by rw [eG25]; exact mm_set_new k23 hn_q24
  have k29 : G25 q24 = some (.inr (1, [.int 0, .null, .int 0])) := by rw [eG25]; exact mm_set_self
  refine lv_dup hx hb dX2_init_30 rfl ?_
  refine va_callv (va_runI (As := []) (rest := [.ref q24, .ref o]) ⟨hx, hb, hml, hown, (fun _ h9 => absurd h9 List.not_mem_nil : ∀ w ∈ ([] : List Cond), w.before _ s = true)⟩ (c_Jx4a65c_init_da8c8 l D cy A X hst hXT e0 tk hXE G25 q24 k29) (tb_ci 0 hT tw_256 tw_113 tw_254 tw_255 rfl rfl rfl hq_Jx4a65c_init_da8c8 ⟨Nat.le_of_ble_eq_true rfl, Nat.le_of_ble_eq_true rfl⟩) (mk_preS hst hG hK hA hX hS) rfl rfl hl.1 rfl (lv_room (Nat.le_of_ble_eq_true rfl)) dX2_init_31 ⟨Nat.le_of_ble_eq_true rfl, Nat.le_of_ble_eq_true rfl⟩) hS (fun q _ h => h) (fun q h => h) (fun  G30 t H locs ht hvm hw hB hz1 hk1 hS => ?_)
  have hG : mm D vwCl A G30 H := by rw [← ht]; exact hB
  clear hB hz1 hk1 hvm ht
  obtain ⟨h31_o, h31_f⟩ := hw
  have k32 : G30 o = some (.inr (3, [.ref q1, .ref q11, .null, .null, .null, .null, .null, .int 0, .null, .int 0, .null])) := h31_f _ _ k26 (mm_ne_oo k26 k29 (by decide))
  have k33 : G30 q1 = some (.inr (1, [.int 0, .ref e0, .int 0])) := h31_f _ _ k27 ne_q1_q24
  have k34 : G30 q11 = some (.inr (1, [.int 0, .ref e0, .int 0])) := h31_f _ _ k28 ne_q11_q24
  refine mm_putF (v := .ref q24) (ty := .object "java/util/ArrayList") hx hb hf_X2 (fun _ h9 => h9) tyX2 tyX2_ok nmX2 hown hK hG hS k32 rfl 2 (by decide) (tb_use hT tw_283) (fun _ h9 => h9) rfl hin rfl (by decide +kernel) rfl rfl (Nat.le_of_ble_eq_true rfl) dX2_init_34 (fun H locs hG hS => ?_)
  obtain ⟨G35, eG35⟩ : ∃ g, g = mm_set G30 o (.inr (3, [.ref q1, .ref q11, .ref q24, .null, .null, .null, .null, .int 0, .null, .int 0, .null])) := ⟨_, rfl⟩
  have hG : mm D vwCl A G35 H := by rw [eG35]; exact hG
  have k36 : G35 o = some (.inr (3, [.ref q1, .ref q11, .ref q24, .null, .null, .null, .null, .int 0, .null, .int 0, .null])) := by rw [eG35]; exact mm_set_self
  have k37 : G35 q1 = some (.inr (1, [.int 0, .ref e0, .int 0])) := by rw [eG35]; exact mm_set_of k33 (mm_ne_oo k33 k32 (by decide))
  have k38 : G35 q11 = some (.inr (1, [.int 0, .ref e0, .int 0])) := by rw [eG35]; exact mm_set_of k34 (mm_ne_oo k34 k32 (by decide))
  have k39 : G35 q24 = some (.inr (1, [.int 0, .ref e0, .int 0])) := by rw [eG35]; exact mm_set_of h31_o (mm_ne_oo h31_o k32 (by decide))
  refine lv_aload_n hx hb dX2_init_37 rfl (lv_at hl 0 rfl) ?_
  refine mm_new (ci := 1) (fs := [.int 0, .null, .int 0]) hx hb hf_Jx4a65c (fun _ h9 => h9) tyJx4a65c tyJx4a65c_ok hown (tb_use hT tw_252) (tb_use hT tw_253) (tb_use hT tw_113) hK hG hS hA rfl (fun j hj => by rcases (show j = 0 ∨ j = 1 ∨ j = 2 by omega) with rfl | rfl | rfl <;> rfl) (by exact Nat.le_of_ble_eq_true rfl) (by exact Nat.le_of_ble_eq_true rfl) dX2_init_38 (fun q40 H hn_q40 hG hS => ?_)
  obtain ⟨G41, eG41⟩ : ∃ g, g = mm_set G35 q40 (.inr (1, [.int 0, .null, .int 0])) := ⟨_, rfl⟩
  have hG : mm D vwCl A G41 H := by rw [eG41]; exact hG
  have ne_q1_q40 : q1 ≠ q40 := mm_ne_new k37 hn_q40
  have ne_q11_q40 : q11 ≠ q40 := mm_ne_new k38 hn_q40
  have ne_q24_q40 : q24 ≠ q40 := mm_ne_new k39 hn_q40
  have k42 : G41 o = some (.inr (3, [.ref q1, .ref q11, .ref q24, .null, .null, .null, .null, .int 0, .null, .int 0, .null])) := by rw [eG41]; exact mm_set_new k36 hn_q40
  have k43 : G41 q1 = some (.inr (1, [.int 0, .ref e0, .int 0])) := by rw [eG41]; exact mm_set_new k37 hn_q40
  have k44 : G41 q11 = some (.inr (1, [.int 0, .ref e0, .int 0])) := by rw [eG41]; exact mm_set_new k38 hn_q40
  have k45 : G41 q24 = some (.inr (1, [.int 0, .ref e0, .int 0])) := by rw [eG41]; exact mm_set_new k39 hn_q40
  have k46 : G41 q40 = some (.inr (1, [.int 0, .null, .int 0])) := by rw [eG41]; exact mm_set_self
  refine lv_dup hx hb dX2_init_41 rfl ?_
  refine va_callv (va_runI (As := []) (rest := [.ref q40, .ref o]) ⟨hx, hb, hml, hown, (fun _ h9 => absurd h9 List.not_mem_nil : ∀ w ∈ ([] : List Cond), w.before _ s = true)⟩ (c_Jx4a65c_init_da8c8 l D cy A X hst hXT e0 tk hXE G41 q40 k46) (tb_ci 0 hT tw_256 tw_113 tw_254 tw_255 rfl rfl rfl hq_Jx4a65c_init_da8c8 ⟨Nat.le_of_ble_eq_true rfl, Nat.le_of_ble_eq_true rfl⟩) (mk_preS hst hG hK hA hX hS) rfl rfl hl.1 rfl (lv_room (Nat.le_of_ble_eq_true rfl)) dX2_init_42 ⟨Nat.le_of_ble_eq_true rfl, Nat.le_of_ble_eq_true rfl⟩) hS (fun q _ h => h) (fun q h => h) (fun  G47 t H locs ht hvm hw hB hz1 hk1 hS => ?_)
  have hG : mm D vwCl A G47 H := by rw [← ht]; exact hB
  clear hB hz1 hk1 hvm ht
  obtain ⟨h48_o, h48_f⟩ := hw
  have k49 : G47 o = some (.inr (3, [.ref q1, .ref q11, .ref q24, .null, .null, .null, .null, .int 0, .null, .int 0, .null])) := h48_f _ _ k42 (mm_ne_oo k42 k46 (by decide))
  have k50 : G47 q1 = some (.inr (1, [.int 0, .ref e0, .int 0])) := h48_f _ _ k43 ne_q1_q40
  have k51 : G47 q11 = some (.inr (1, [.int 0, .ref e0, .int 0])) := h48_f _ _ k44 ne_q11_q40
  have k52 : G47 q24 = some (.inr (1, [.int 0, .ref e0, .int 0])) := h48_f _ _ k45 ne_q24_q40
  refine mm_putF (v := .ref q40) (ty := .object "java/util/ArrayList") hx hb hf_X2 (fun _ h9 => h9) tyX2 tyX2_ok nmX2 hown hK hG hS k49 rfl 3 (by decide) (tb_use hT tw_286) (fun _ h9 => h9) rfl hin rfl (by decide +kernel) rfl rfl (Nat.le_of_ble_eq_true rfl) dX2_init_45 (fun H locs hG hS => ?_)
  obtain ⟨G53, eG53⟩ : ∃ g, g = mm_set G47 o (.inr (3, [.ref q1, .ref q11, .ref q24, .ref q40, .null, .null, .null, .int 0, .null, .int 0, .null])) := ⟨_, rfl⟩
  have hG : mm D vwCl A G53 H := by rw [eG53]; exact hG
  have k54 : G53 o = some (.inr (3, [.ref q1, .ref q11, .ref q24, .ref q40, .null, .null, .null, .int 0, .null, .int 0, .null])) := by rw [eG53]; exact mm_set_self
  have k55 : G53 q1 = some (.inr (1, [.int 0, .ref e0, .int 0])) := by rw [eG53]; exact mm_set_of k50 (mm_ne_oo k50 k49 (by decide))
  have k56 : G53 q11 = some (.inr (1, [.int 0, .ref e0, .int 0])) := by rw [eG53]; exact mm_set_of k51 (mm_ne_oo k51 k49 (by decide))
  have k57 : G53 q24 = some (.inr (1, [.int 0, .ref e0, .int 0])) := by rw [eG53]; exact mm_set_of k52 (mm_ne_oo k52 k49 (by decide))
  have k58 : G53 q40 = some (.inr (1, [.int 0, .ref e0, .int 0])) := by rw [eG53]; exact mm_set_of h48_o (mm_ne_oo h48_o k49 (by decide))
  refine lv_aload_n hx hb dX2_init_48 rfl (lv_at hl 0 rfl) ?_
  refine mm_new (ci := 1) (fs := [.int 0, .null, .int 0]) hx hb hf_Jx4a65c (fun _ h9 => h9) tyJx4a65c tyJx4a65c_ok hown (tb_use hT tw_252) (tb_use hT tw_253) (tb_use hT tw_113) hK hG hS hA rfl (fun j hj => by rcases (show j = 0 ∨ j = 1 ∨ j = 2 by omega) with rfl | rfl | rfl <;> rfl) (by exact Nat.le_of_ble_eq_true rfl) (by exact Nat.le_of_ble_eq_true rfl) dX2_init_49 (fun q59 H hn_q59 hG hS => ?_)
  obtain ⟨G60, eG60⟩ : ∃ g, g = mm_set G53 q59 (.inr (1, [.int 0, .null, .int 0])) := ⟨_, rfl⟩
  have hG : mm D vwCl A G60 H := by rw [eG60]; exact hG
  have ne_q1_q59 : q1 ≠ q59 := mm_ne_new k55 hn_q59
  have ne_q11_q59 : q11 ≠ q59 := mm_ne_new k56 hn_q59
  have ne_q24_q59 : q24 ≠ q59 := mm_ne_new k57 hn_q59
  have ne_q40_q59 : q40 ≠ q59 := mm_ne_new k58 hn_q59
  have k61 : G60 o = some (.inr (3, [.ref q1, .ref q11, .ref q24, .ref q40, .null, .null, .null, .int 0, .null, .int 0, .null])) := by rw [eG60]; exact mm_set_new k54 hn_q59
  have k62 : G60 q1 = some (.inr (1, [.int 0, .ref e0, .int 0])) := by rw [eG60]; exact mm_set_new k55 hn_q59
  have k63 : G60 q11 = some (.inr (1, [.int 0, .ref e0, .int 0])) := by rw [eG60]; exact mm_set_new k56 hn_q59
  have k64 : G60 q24 = some (.inr (1, [.int 0, .ref e0, .int 0])) := by rw [eG60]; exact mm_set_new k57 hn_q59
  have k65 : G60 q40 = some (.inr (1, [.int 0, .ref e0, .int 0])) := by rw [eG60]; exact mm_set_new k58 hn_q59
  have k66 : G60 q59 = some (.inr (1, [.int 0, .null, .int 0])) := by rw [eG60]; exact mm_set_self
  refine lv_dup hx hb dX2_init_52 rfl ?_
  refine va_callv (va_runI (As := []) (rest := [.ref q59, .ref o]) ⟨hx, hb, hml, hown, (fun _ h9 => absurd h9 List.not_mem_nil : ∀ w ∈ ([] : List Cond), w.before _ s = true)⟩ (c_Jx4a65c_init_da8c8 l D cy A X hst hXT e0 tk hXE G60 q59 k66) (tb_ci 0 hT tw_256 tw_113 tw_254 tw_255 rfl rfl rfl hq_Jx4a65c_init_da8c8 ⟨Nat.le_of_ble_eq_true rfl, Nat.le_of_ble_eq_true rfl⟩) (mk_preS hst hG hK hA hX hS) rfl rfl hl.1 rfl (lv_room (Nat.le_of_ble_eq_true rfl)) dX2_init_53 ⟨Nat.le_of_ble_eq_true rfl, Nat.le_of_ble_eq_true rfl⟩) hS (fun q _ h => h) (fun q h => h) (fun  G67 t H locs ht hvm hw hB hz1 hk1 hS => ?_)
  have hG : mm D vwCl A G67 H := by rw [← ht]; exact hB
  clear hB hz1 hk1 hvm ht
  obtain ⟨h68_o, h68_f⟩ := hw
  have k69 : G67 o = some (.inr (3, [.ref q1, .ref q11, .ref q24, .ref q40, .null, .null, .null, .int 0, .null, .int 0, .null])) := h68_f _ _ k61 (mm_ne_oo k61 k66 (by decide))
  have k70 : G67 q1 = some (.inr (1, [.int 0, .ref e0, .int 0])) := h68_f _ _ k62 ne_q1_q59
  have k71 : G67 q11 = some (.inr (1, [.int 0, .ref e0, .int 0])) := h68_f _ _ k63 ne_q11_q59
  have k72 : G67 q24 = some (.inr (1, [.int 0, .ref e0, .int 0])) := h68_f _ _ k64 ne_q24_q59
  have k73 : G67 q40 = some (.inr (1, [.int 0, .ref e0, .int 0])) := h68_f _ _ k65 ne_q40_q59
  refine mm_putF (v := .ref q59) (ty := .object "java/util/ArrayList") hx hb hf_X2 (fun _ h9 => h9) tyX2 tyX2_ok nmX2 hown hK hG hS k69 rfl 4 (by decide) (tb_use hT tw_289) (fun _ h9 => h9) rfl hin rfl (by decide +kernel) rfl rfl (Nat.le_of_ble_eq_true rfl) dX2_init_56 (fun H locs hG hS => ?_)
  obtain ⟨G74, eG74⟩ : ∃ g, g = mm_set G67 o (.inr (3, [.ref q1, .ref q11, .ref q24, .ref q40, .ref q59, .null, .null, .int 0, .null, .int 0, .null])) := ⟨_, rfl⟩
  have hG : mm D vwCl A G74 H := by rw [eG74]; exact hG
  have k75 : G74 o = some (.inr (3, [.ref q1, .ref q11, .ref q24, .ref q40, .ref q59, .null, .null, .int 0, .null, .int 0, .null])) := by rw [eG74]; exact mm_set_self
  have k76 : G74 q1 = some (.inr (1, [.int 0, .ref e0, .int 0])) := by rw [eG74]; exact mm_set_of k70 (mm_ne_oo k70 k69 (by decide))
  have k77 : G74 q11 = some (.inr (1, [.int 0, .ref e0, .int 0])) := by rw [eG74]; exact mm_set_of k71 (mm_ne_oo k71 k69 (by decide))
  have k78 : G74 q24 = some (.inr (1, [.int 0, .ref e0, .int 0])) := by rw [eG74]; exact mm_set_of k72 (mm_ne_oo k72 k69 (by decide))
  have k79 : G74 q40 = some (.inr (1, [.int 0, .ref e0, .int 0])) := by rw [eG74]; exact mm_set_of k73 (mm_ne_oo k73 k69 (by decide))
  have k80 : G74 q59 = some (.inr (1, [.int 0, .ref e0, .int 0])) := by rw [eG74]; exact mm_set_of h68_o (mm_ne_oo h68_o k69 (by decide))
  refine lv_aload_n hx hb dX2_init_59 rfl (lv_at hl 0 rfl) ?_
  refine mm_new (ci := 1) (fs := [.int 0, .null, .int 0]) hx hb hf_Jx4a65c (fun _ h9 => h9) tyJx4a65c tyJx4a65c_ok hown (tb_use hT tw_252) (tb_use hT tw_253) (tb_use hT tw_113) hK hG hS hA rfl (fun j hj => by rcases (show j = 0 ∨ j = 1 ∨ j = 2 by omega) with rfl | rfl | rfl <;> rfl) (by exact Nat.le_of_ble_eq_true rfl) (by exact Nat.le_of_ble_eq_true rfl) dX2_init_60 (fun q81 H hn_q81 hG hS => ?_)
  obtain ⟨G82, eG82⟩ : ∃ g, g = mm_set G74 q81 (.inr (1, [.int 0, .null, .int 0])) := ⟨_, rfl⟩
  have hG : mm D vwCl A G82 H := by rw [eG82]; exact hG
  have ne_q1_q81 : q1 ≠ q81 := mm_ne_new k76 hn_q81
  have ne_q11_q81 : q11 ≠ q81 := mm_ne_new k77 hn_q81
  have ne_q24_q81 : q24 ≠ q81 := mm_ne_new k78 hn_q81
  have ne_q40_q81 : q40 ≠ q81 := mm_ne_new k79 hn_q81
  have ne_q59_q81 : q59 ≠ q81 := mm_ne_new k80 hn_q81
  have k83 : G82 o = some (.inr (3, [.ref q1, .ref q11, .ref q24, .ref q40, .ref q59, .null, .null, .int 0, .null, .int 0, .null])) := by rw [eG82]; exact mm_set_new k75 hn_q81
  have k84 : G82 q1 = some (.inr (1, [.int 0, .ref e0, .int 0])) := by rw [eG82]; exact mm_set_new k76 hn_q81
  have k85 : G82 q11 = some (.inr (1, [.int 0, .ref e0, .int 0])) := by rw [eG82]; exact mm_set_new k77 hn_q81
  have k86 : G82 q24 = some (.inr (1, [.int 0, .ref e0, .int 0])) := by rw [eG82]; exact mm_set_new k78 hn_q81
  have k87 : G82 q40 = some (.inr (1, [.int 0, .ref e0, .int 0])) := by rw [eG82]; exact mm_set_new k79 hn_q81
  have k88 : G82 q59 = some (.inr (1, [.int 0, .ref e0, .int 0])) := by rw [eG82]; exact mm_set_new k80 hn_q81
  have k89 : G82 q81 = some (.inr (1, [.int 0, .null, .int 0])) := by rw [eG82]; exact mm_set_self
  refine lv_dup hx hb dX2_init_63 rfl ?_
  refine va_callv (va_runI (As := []) (rest := [.ref q81, .ref o]) ⟨hx, hb, hml, hown, (fun _ h9 => absurd h9 List.not_mem_nil : ∀ w ∈ ([] : List Cond), w.before _ s = true)⟩ (c_Jx4a65c_init_da8c8 l D cy A X hst hXT e0 tk hXE G82 q81 k89) (tb_ci 0 hT tw_256 tw_113 tw_254 tw_255 rfl rfl rfl hq_Jx4a65c_init_da8c8 ⟨Nat.le_of_ble_eq_true rfl, Nat.le_of_ble_eq_true rfl⟩) (mk_preS hst hG hK hA hX hS) rfl rfl hl.1 rfl (lv_room (Nat.le_of_ble_eq_true rfl)) dX2_init_64 ⟨Nat.le_of_ble_eq_true rfl, Nat.le_of_ble_eq_true rfl⟩) hS (fun q _ h => h) (fun q h => h) (fun  G90 t H locs ht hvm hw hB hz1 hk1 hS => ?_)
  have hG : mm D vwCl A G90 H := by rw [← ht]; exact hB
  clear hB hz1 hk1 hvm ht
  obtain ⟨h91_o, h91_f⟩ := hw
  have k92 : G90 o = some (.inr (3, [.ref q1, .ref q11, .ref q24, .ref q40, .ref q59, .null, .null, .int 0, .null, .int 0, .null])) := h91_f _ _ k83 (mm_ne_oo k83 k89 (by decide))
  have k93 : G90 q1 = some (.inr (1, [.int 0, .ref e0, .int 0])) := h91_f _ _ k84 ne_q1_q81
  have k94 : G90 q11 = some (.inr (1, [.int 0, .ref e0, .int 0])) := h91_f _ _ k85 ne_q11_q81
  have k95 : G90 q24 = some (.inr (1, [.int 0, .ref e0, .int 0])) := h91_f _ _ k86 ne_q24_q81
  have k96 : G90 q40 = some (.inr (1, [.int 0, .ref e0, .int 0])) := h91_f _ _ k87 ne_q40_q81
  have k97 : G90 q59 = some (.inr (1, [.int 0, .ref e0, .int 0])) := h91_f _ _ k88 ne_q59_q81
  refine mm_putF (v := .ref q81) (ty := .object "java/util/ArrayList") hx hb hf_X2 (fun _ h9 => h9) tyX2 tyX2_ok nmX2 hown hK hG hS k92 rfl 5 (by decide) (tb_use hT tw_291) (fun _ h9 => h9) rfl hin rfl (by decide +kernel) rfl rfl (Nat.le_of_ble_eq_true rfl) dX2_init_67 (fun H locs hG hS => ?_)
  obtain ⟨G98, eG98⟩ : ∃ g, g = mm_set G90 o (.inr (3, [.ref q1, .ref q11, .ref q24, .ref q40, .ref q59, .ref q81, .null, .int 0, .null, .int 0, .null])) := ⟨_, rfl⟩
  have hG : mm D vwCl A G98 H := by rw [eG98]; exact hG
  have k99 : G98 o = some (.inr (3, [.ref q1, .ref q11, .ref q24, .ref q40, .ref q59, .ref q81, .null, .int 0, .null, .int 0, .null])) := by rw [eG98]; exact mm_set_self
  have k100 : G98 q1 = some (.inr (1, [.int 0, .ref e0, .int 0])) := by rw [eG98]; exact mm_set_of k93 (mm_ne_oo k93 k92 (by decide))
  have k101 : G98 q11 = some (.inr (1, [.int 0, .ref e0, .int 0])) := by rw [eG98]; exact mm_set_of k94 (mm_ne_oo k94 k92 (by decide))
  have k102 : G98 q24 = some (.inr (1, [.int 0, .ref e0, .int 0])) := by rw [eG98]; exact mm_set_of k95 (mm_ne_oo k95 k92 (by decide))
  have k103 : G98 q40 = some (.inr (1, [.int 0, .ref e0, .int 0])) := by rw [eG98]; exact mm_set_of k96 (mm_ne_oo k96 k92 (by decide))
  have k104 : G98 q59 = some (.inr (1, [.int 0, .ref e0, .int 0])) := by rw [eG98]; exact mm_set_of k97 (mm_ne_oo k97 k92 (by decide))
  have k105 : G98 q81 = some (.inr (1, [.int 0, .ref e0, .int 0])) := by rw [eG98]; exact mm_set_of h91_o (mm_ne_oo h91_o k92 (by decide))
  refine lv_aload_n hx hb dX2_init_70 rfl (lv_at hl 0 rfl) ?_
  refine lv_bipush (v := 8) hx hb dX2_init_71 (by decide) ?_
  refine mm_newa (n := 8) (atype := .long) (ty := .long) (N' := 8) (a0 := (8, .inr (.inl (fun _ => 0)))) hx hb (tb_arr hT tw_176) rfl hK hG hS hA 2 rfl (fun cA => rfl) (by decide) (by decide) (by decide) (by exact Nat.le_of_ble_eq_true rfl) (by exact Nat.le_of_ble_eq_true rfl) dX2_init_73 (fun q106 H hn_q106 hG hS => ?_)
  obtain ⟨G107, eG107⟩ : ∃ g, g = mm_set G98 q106 (.inl (cy 2, 8, .inr (.inl (fun _ => 0)))) := ⟨_, rfl⟩
  have hG : mm D vwCl A G107 H := by rw [eG107]; exact hG
  have k108 : G107 o = some (.inr (3, [.ref q1, .ref q11, .ref q24, .ref q40, .ref q59, .ref q81, .null, .int 0, .null, .int 0, .null])) := by rw [eG107]; exact mm_set_new k99 hn_q106
  have k109 : G107 q1 = some (.inr (1, [.int 0, .ref e0, .int 0])) := by rw [eG107]; exact mm_set_new k100 hn_q106
  have k110 : G107 q11 = some (.inr (1, [.int 0, .ref e0, .int 0])) := by rw [eG107]; exact mm_set_new k101 hn_q106
  have k111 : G107 q24 = some (.inr (1, [.int 0, .ref e0, .int 0])) := by rw [eG107]; exact mm_set_new k102 hn_q106
  have k112 : G107 q40 = some (.inr (1, [.int 0, .ref e0, .int 0])) := by rw [eG107]; exact mm_set_new k103 hn_q106
  have k113 : G107 q59 = some (.inr (1, [.int 0, .ref e0, .int 0])) := by rw [eG107]; exact mm_set_new k104 hn_q106
  have k114 : G107 q81 = some (.inr (1, [.int 0, .ref e0, .int 0])) := by rw [eG107]; exact mm_set_new k105 hn_q106
  have k115 : G107 q106 = some (.inl (cy 2, 8, .inr (.inl (fun _ => 0)))) := by rw [eG107]; exact mm_set_self
  refine mm_put (v := .ref q106) (ty := .array .long) hx hb hf_X2 (fun _ h9 => h9) tyX2 tyX2_ok nmX2 hown hK hG hS k108 rfl 6 (by decide) (tb_use hT tw_294) (fun _ h9 => h9) rfl (by decide +kernel) rfl rfl (Nat.le_of_ble_eq_true rfl) dX2_init_75 (fun H locs hG hS => ?_)
  obtain ⟨G116, eG116⟩ : ∃ g, g = mm_set G107 o (.inr (3, [.ref q1, .ref q11, .ref q24, .ref q40, .ref q59, .ref q81, .ref q106, .int 0, .null, .int 0, .null])) := ⟨_, rfl⟩
  have hG : mm D vwCl A G116 H := by rw [eG116]; exact hG
  have k117 : G116 o = some (.inr (3, [.ref q1, .ref q11, .ref q24, .ref q40, .ref q59, .ref q81, .ref q106, .int 0, .null, .int 0, .null])) := by rw [eG116]; exact mm_set_self
  have k118 : G116 q1 = some (.inr (1, [.int 0, .ref e0, .int 0])) := by rw [eG116]; exact mm_set_of k109 (mm_ne_oo k109 k108 (by decide))
  have k119 : G116 q11 = some (.inr (1, [.int 0, .ref e0, .int 0])) := by rw [eG116]; exact mm_set_of k110 (mm_ne_oo k110 k108 (by decide))
  have k120 : G116 q24 = some (.inr (1, [.int 0, .ref e0, .int 0])) := by rw [eG116]; exact mm_set_of k111 (mm_ne_oo k111 k108 (by decide))
  have k121 : G116 q40 = some (.inr (1, [.int 0, .ref e0, .int 0])) := by rw [eG116]; exact mm_set_of k112 (mm_ne_oo k112 k108 (by decide))
  have k122 : G116 q59 = some (.inr (1, [.int 0, .ref e0, .int 0])) := by rw [eG116]; exact mm_set_of k113 (mm_ne_oo k113 k108 (by decide))
  have k123 : G116 q81 = some (.inr (1, [.int 0, .ref e0, .int 0])) := by rw [eG116]; exact mm_set_of k114 (mm_ne_oo k114 k108 (by decide))
  have k124 : G116 q106 = some (.inl (cy 2, 8, .inr (.inl (fun _ => 0)))) := by rw [eG116]; exact mm_set_of k115 (mm_ne_ao k115 k108)
  refine lv_aload_n hx hb dX2_init_78 rfl (lv_at hl 0 rfl) ?_
  refine lv_iconst (v := (-1)) hx hb dX2_init_79 (by decide) ?_
  refine mm_put (v := .int (-1)) (ty := .int) hx hb hf_X2 (fun _ h9 => h9) tyX2 tyX2_ok nmX2 hown hK hG hS k117 rfl 9 (by decide) (tb_use hT tw_298) (fun _ h9 => h9) rfl (by decide +kernel) rfl rfl (Nat.le_of_ble_eq_true rfl) dX2_init_80 (fun H locs hG hS => ?_)
  obtain ⟨G125, eG125⟩ : ∃ g, g = mm_set G116 o (.inr (3, [.ref q1, .ref q11, .ref q24, .ref q40, .ref q59, .ref q81, .ref q106, .int 0, .null, .int (-1), .null])) := ⟨_, rfl⟩
  have hG : mm D vwCl A G125 H := by rw [eG125]; exact hG
  have k126 : G125 o = some (.inr (3, [.ref q1, .ref q11, .ref q24, .ref q40, .ref q59, .ref q81, .ref q106, .int 0, .null, .int (-1), .null])) := by rw [eG125]; exact mm_set_self
  have k127 : G125 q1 = some (.inr (1, [.int 0, .ref e0, .int 0])) := by rw [eG125]; exact mm_set_of k118 (mm_ne_oo k118 k117 (by decide))
  have k128 : G125 q11 = some (.inr (1, [.int 0, .ref e0, .int 0])) := by rw [eG125]; exact mm_set_of k119 (mm_ne_oo k119 k117 (by decide))
  have k129 : G125 q24 = some (.inr (1, [.int 0, .ref e0, .int 0])) := by rw [eG125]; exact mm_set_of k120 (mm_ne_oo k120 k117 (by decide))
  have k130 : G125 q40 = some (.inr (1, [.int 0, .ref e0, .int 0])) := by rw [eG125]; exact mm_set_of k121 (mm_ne_oo k121 k117 (by decide))
  have k131 : G125 q59 = some (.inr (1, [.int 0, .ref e0, .int 0])) := by rw [eG125]; exact mm_set_of k122 (mm_ne_oo k122 k117 (by decide))
  have k132 : G125 q81 = some (.inr (1, [.int 0, .ref e0, .int 0])) := by rw [eG125]; exact mm_set_of k123 (mm_ne_oo k123 k117 (by decide))
  have k133 : G125 q106 = some (.inl (cy 2, 8, .inr (.inl (fun _ => 0)))) := by rw [eG125]; exact mm_set_of k124 (mm_ne_ao k124 k117)
  have hfr : ∀ (x : Nat) (e : va_E), G x = some e → x ≠ o → G125 x = some e := by
    intro x e z0 n_o
    have n_q1 : x ≠ q1 := fun z => by rw [z, hn_q1] at z0; cases z0
    have z1 : G2 x = some e := by rw [eG2]; exact mm_set_of z0 n_q1
    have z2 : G5 x = some e := h6_f x e z1 n_q1
    have z3 : G8 x = some e := by rw [eG8]; exact mm_set_of z2 n_o
    have n_q11 : x ≠ q11 := fun z => by rw [z, hn_q11] at z3; cases z3
    have z4 : G12 x = some e := by rw [eG12]; exact mm_set_of z3 n_q11
    have z5 : G16 x = some e := h17_f x e z4 n_q11
    have z6 : G20 x = some e := by rw [eG20]; exact mm_set_of z5 n_o
    have n_q24 : x ≠ q24 := fun z => by rw [z, hn_q24] at z6; cases z6
    have z7 : G25 x = some e := by rw [eG25]; exact mm_set_of z6 n_q24
    have z8 : G30 x = some e := h31_f x e z7 n_q24
    have z9 : G35 x = some e := by rw [eG35]; exact mm_set_of z8 n_o
    have n_q40 : x ≠ q40 := fun z => by rw [z, hn_q40] at z9; cases z9
    have z10 : G41 x = some e := by rw [eG41]; exact mm_set_of z9 n_q40
    have z11 : G47 x = some e := h48_f x e z10 n_q40
    have z12 : G53 x = some e := by rw [eG53]; exact mm_set_of z11 n_o
    have n_q59 : x ≠ q59 := fun z => by rw [z, hn_q59] at z12; cases z12
    have z13 : G60 x = some e := by rw [eG60]; exact mm_set_of z12 n_q59
    have z14 : G67 x = some e := h68_f x e z13 n_q59
    have z15 : G74 x = some e := by rw [eG74]; exact mm_set_of z14 n_o
    have n_q81 : x ≠ q81 := fun z => by rw [z, hn_q81] at z15; cases z15
    have z16 : G82 x = some e := by rw [eG82]; exact mm_set_of z15 n_q81
    have z17 : G90 x = some e := h91_f x e z16 n_q81
    have z18 : G98 x = some e := by rw [eG98]; exact mm_set_of z17 n_o
    have n_q106 : x ≠ q106 := fun z => by rw [z, hn_q106] at z18; cases z18
    have z19 : G107 x = some e := by rw [eG107]; exact mm_set_of z18 n_q106
    have z20 : G116 x = some e := by rw [eG116]; exact mm_set_of z19 n_o
    have z21 : G125 x = some e := by rw [eG125]; exact mm_set_of z20 n_o
    exact z21
  have fz_q1 : G q1 = none := by
    have no : q1 ≠ o := mm_ne_oo k127 k126 (by decide)
    have hf9 : ∀ (x : Nat) (e : va_E), G x = some e → x ≠ o → G x = some e := by
      intro x e z0 n_o
      exact z0
    cases hz9 : G q1 with
    | none => rfl
    | some e9 => have z9 := hf9 _ _ hz9 no; rw [hn_q1] at z9; cases z9
  have fz_q11 : G q11 = none := by
    have no : q11 ≠ o := mm_ne_oo k128 k126 (by decide)
    have hf9 : ∀ (x : Nat) (e : va_E), G x = some e → x ≠ o → G8 x = some e := by
      intro x e z0 n_o
      have n_q1 : x ≠ q1 := fun z => by rw [z, hn_q1] at z0; cases z0
      have z1 : G2 x = some e := by rw [eG2]; exact mm_set_of z0 n_q1
      have z2 : G5 x = some e := h6_f x e z1 n_q1
      have z3 : G8 x = some e := by rw [eG8]; exact mm_set_of z2 n_o
      exact z3
    cases hz9 : G q11 with
    | none => rfl
    | some e9 => have z9 := hf9 _ _ hz9 no; rw [hn_q11] at z9; cases z9
  have fz_q24 : G q24 = none := by
    have no : q24 ≠ o := mm_ne_oo k129 k126 (by decide)
    have hf9 : ∀ (x : Nat) (e : va_E), G x = some e → x ≠ o → G20 x = some e := by
      intro x e z0 n_o
      have n_q1 : x ≠ q1 := fun z => by rw [z, hn_q1] at z0; cases z0
      have z1 : G2 x = some e := by rw [eG2]; exact mm_set_of z0 n_q1
      have z2 : G5 x = some e := h6_f x e z1 n_q1
      have z3 : G8 x = some e := by rw [eG8]; exact mm_set_of z2 n_o
      have n_q11 : x ≠ q11 := fun z => by rw [z, hn_q11] at z3; cases z3
      have z4 : G12 x = some e := by rw [eG12]; exact mm_set_of z3 n_q11
      have z5 : G16 x = some e := h17_f x e z4 n_q11
      have z6 : G20 x = some e := by rw [eG20]; exact mm_set_of z5 n_o
      exact z6
    cases hz9 : G q24 with
    | none => rfl
    | some e9 => have z9 := hf9 _ _ hz9 no; rw [hn_q24] at z9; cases z9
  have fz_q40 : G q40 = none := by
    have no : q40 ≠ o := mm_ne_oo k130 k126 (by decide)
    have hf9 : ∀ (x : Nat) (e : va_E), G x = some e → x ≠ o → G35 x = some e := by
      intro x e z0 n_o
      have n_q1 : x ≠ q1 := fun z => by rw [z, hn_q1] at z0; cases z0
      have z1 : G2 x = some e := by rw [eG2]; exact mm_set_of z0 n_q1
      have z2 : G5 x = some e := h6_f x e z1 n_q1
      have z3 : G8 x = some e := by rw [eG8]; exact mm_set_of z2 n_o
      have n_q11 : x ≠ q11 := fun z => by rw [z, hn_q11] at z3; cases z3
      have z4 : G12 x = some e := by rw [eG12]; exact mm_set_of z3 n_q11
      have z5 : G16 x = some e := h17_f x e z4 n_q11
      have z6 : G20 x = some e := by rw [eG20]; exact mm_set_of z5 n_o
      have n_q24 : x ≠ q24 := fun z => by rw [z, hn_q24] at z6; cases z6
      have z7 : G25 x = some e := by rw [eG25]; exact mm_set_of z6 n_q24
      have z8 : G30 x = some e := h31_f x e z7 n_q24
      have z9 : G35 x = some e := by rw [eG35]; exact mm_set_of z8 n_o
      exact z9
    cases hz9 : G q40 with
    | none => rfl
    | some e9 => have z9 := hf9 _ _ hz9 no; rw [hn_q40] at z9; cases z9
  have fz_q59 : G q59 = none := by
    have no : q59 ≠ o := mm_ne_oo k131 k126 (by decide)
    have hf9 : ∀ (x : Nat) (e : va_E), G x = some e → x ≠ o → G53 x = some e := by
      intro x e z0 n_o
      have n_q1 : x ≠ q1 := fun z => by rw [z, hn_q1] at z0; cases z0
      have z1 : G2 x = some e := by rw [eG2]; exact mm_set_of z0 n_q1
      have z2 : G5 x = some e := h6_f x e z1 n_q1
      have z3 : G8 x = some e := by rw [eG8]; exact mm_set_of z2 n_o
      have n_q11 : x ≠ q11 := fun z => by rw [z, hn_q11] at z3; cases z3
      have z4 : G12 x = some e := by rw [eG12]; exact mm_set_of z3 n_q11
      have z5 : G16 x = some e := h17_f x e z4 n_q11
      have z6 : G20 x = some e := by rw [eG20]; exact mm_set_of z5 n_o
      have n_q24 : x ≠ q24 := fun z => by rw [z, hn_q24] at z6; cases z6
      have z7 : G25 x = some e := by rw [eG25]; exact mm_set_of z6 n_q24
      have z8 : G30 x = some e := h31_f x e z7 n_q24
      have z9 : G35 x = some e := by rw [eG35]; exact mm_set_of z8 n_o
      have n_q40 : x ≠ q40 := fun z => by rw [z, hn_q40] at z9; cases z9
      have z10 : G41 x = some e := by rw [eG41]; exact mm_set_of z9 n_q40
      have z11 : G47 x = some e := h48_f x e z10 n_q40
      have z12 : G53 x = some e := by rw [eG53]; exact mm_set_of z11 n_o
      exact z12
    cases hz9 : G q59 with
    | none => rfl
    | some e9 => have z9 := hf9 _ _ hz9 no; rw [hn_q59] at z9; cases z9
  have fz_q81 : G q81 = none := by
    have no : q81 ≠ o := mm_ne_oo k132 k126 (by decide)
    have hf9 : ∀ (x : Nat) (e : va_E), G x = some e → x ≠ o → G74 x = some e := by
      intro x e z0 n_o
      have n_q1 : x ≠ q1 := fun z => by rw [z, hn_q1] at z0; cases z0
      have z1 : G2 x = some e := by rw [eG2]; exact mm_set_of z0 n_q1
      have z2 : G5 x = some e := h6_f x e z1 n_q1
      have z3 : G8 x = some e := by rw [eG8]; exact mm_set_of z2 n_o
      have n_q11 : x ≠ q11 := fun z => by rw [z, hn_q11] at z3; cases z3
      have z4 : G12 x = some e := by rw [eG12]; exact mm_set_of z3 n_q11
      have z5 : G16 x = some e := h17_f x e z4 n_q11
      have z6 : G20 x = some e := by rw [eG20]; exact mm_set_of z5 n_o
      have n_q24 : x ≠ q24 := fun z => by rw [z, hn_q24] at z6; cases z6
      have z7 : G25 x = some e := by rw [eG25]; exact mm_set_of z6 n_q24
      have z8 : G30 x = some e := h31_f x e z7 n_q24
      have z9 : G35 x = some e := by rw [eG35]; exact mm_set_of z8 n_o
      have n_q40 : x ≠ q40 := fun z => by rw [z, hn_q40] at z9; cases z9
      have z10 : G41 x = some e := by rw [eG41]; exact mm_set_of z9 n_q40
      have z11 : G47 x = some e := h48_f x e z10 n_q40
      have z12 : G53 x = some e := by rw [eG53]; exact mm_set_of z11 n_o
      have n_q59 : x ≠ q59 := fun z => by rw [z, hn_q59] at z12; cases z12
      have z13 : G60 x = some e := by rw [eG60]; exact mm_set_of z12 n_q59
      have z14 : G67 x = some e := h68_f x e z13 n_q59
      have z15 : G74 x = some e := by rw [eG74]; exact mm_set_of z14 n_o
      exact z15
    cases hz9 : G q81 with
    | none => rfl
    | some e9 => have z9 := hf9 _ _ hz9 no; rw [hn_q81] at z9; cases z9
  have fz_q106 : G q106 = none := by
    have no : q106 ≠ o := mm_ne_ao k133 k126
    have hf9 : ∀ (x : Nat) (e : va_E), G x = some e → x ≠ o → G98 x = some e := by
      intro x e z0 n_o
      have n_q1 : x ≠ q1 := fun z => by rw [z, hn_q1] at z0; cases z0
      have z1 : G2 x = some e := by rw [eG2]; exact mm_set_of z0 n_q1
      have z2 : G5 x = some e := h6_f x e z1 n_q1
      have z3 : G8 x = some e := by rw [eG8]; exact mm_set_of z2 n_o
      have n_q11 : x ≠ q11 := fun z => by rw [z, hn_q11] at z3; cases z3
      have z4 : G12 x = some e := by rw [eG12]; exact mm_set_of z3 n_q11
      have z5 : G16 x = some e := h17_f x e z4 n_q11
      have z6 : G20 x = some e := by rw [eG20]; exact mm_set_of z5 n_o
      have n_q24 : x ≠ q24 := fun z => by rw [z, hn_q24] at z6; cases z6
      have z7 : G25 x = some e := by rw [eG25]; exact mm_set_of z6 n_q24
      have z8 : G30 x = some e := h31_f x e z7 n_q24
      have z9 : G35 x = some e := by rw [eG35]; exact mm_set_of z8 n_o
      have n_q40 : x ≠ q40 := fun z => by rw [z, hn_q40] at z9; cases z9
      have z10 : G41 x = some e := by rw [eG41]; exact mm_set_of z9 n_q40
      have z11 : G47 x = some e := h48_f x e z10 n_q40
      have z12 : G53 x = some e := by rw [eG53]; exact mm_set_of z11 n_o
      have n_q59 : x ≠ q59 := fun z => by rw [z, hn_q59] at z12; cases z12
      have z13 : G60 x = some e := by rw [eG60]; exact mm_set_of z12 n_q59
      have z14 : G67 x = some e := h68_f x e z13 n_q59
      have z15 : G74 x = some e := by rw [eG74]; exact mm_set_of z14 n_o
      have n_q81 : x ≠ q81 := fun z => by rw [z, hn_q81] at z15; cases z15
      have z16 : G82 x = some e := by rw [eG82]; exact mm_set_of z15 n_q81
      have z17 : G90 x = some e := h91_f x e z16 n_q81
      have z18 : G98 x = some e := by rw [eG98]; exact mm_set_of z17 n_o
      exact z18
    cases hz9 : G q106 with
    | none => rfl
    | some e9 => have z9 := hf9 _ _ hz9 no; rw [hn_q106] at z9; cases z9
  have hA6 : ∀ i, i < 6 → G125 ((fun i => if i = 0 then q1 else if i = 1 then q11 else if i = 2 then q24 else if i = 3 then q40 else if i = 4 then q59 else q81) i) = some (.inr (1, [.int 0, .ref e0, .int 0])) := by
    intro i hi
    rcases (show i = 0 ∨ i = 1 ∨ i = 2 ∨ i = 3 ∨ i = 4 ∨ i = 5 by omega) with rfl | rfl | rfl | rfl | rfl | rfl
    · exact k127
    · exact k128
    · exact k129
    · exact k130
    · exact k131
    · exact k132
  have hN6 : ∀ i, i < 6 → G ((fun i => if i = 0 then q1 else if i = 1 then q11 else if i = 2 then q24 else if i = 3 then q40 else if i = 4 then q59 else q81) i) = none := by
    intro i hi
    rcases (show i = 0 ∨ i = 1 ∨ i = 2 ∨ i = 3 ∨ i = 4 ∨ i = 5 by omega) with rfl | rfl | rfl | rfl | rfl | rfl
    · exact fz_q1
    · exact fz_q11
    · exact fz_q24
    · exact fz_q40
    · exact fz_q59
    · exact fz_q81
  have hJ6 : ∀ i j, i < 6 → j < 6 → (fun i => if i = 0 then q1 else if i = 1 then q11 else if i = 2 then q24 else if i = 3 then q40 else if i = 4 then q59 else q81) i = (fun i => if i = 0 then q1 else if i = 1 then q11 else if i = 2 then q24 else if i = 3 then q40 else if i = 4 then q59 else q81) j → i = j := by
    intro i j hi hj
    rcases (show i = 0 ∨ i = 1 ∨ i = 2 ∨ i = 3 ∨ i = 4 ∨ i = 5 by omega) with rfl | rfl | rfl | rfl | rfl | rfl
    · rcases (show j = 0 ∨ j = 1 ∨ j = 2 ∨ j = 3 ∨ j = 4 ∨ j = 5 by omega) with rfl | rfl | rfl | rfl | rfl | rfl
      · exact fun _ => rfl
      · exact fun z => absurd (show q1 = q11 from z) ne_q1_q11
      · exact fun z => absurd (show q1 = q24 from z) ne_q1_q24
      · exact fun z => absurd (show q1 = q40 from z) ne_q1_q40
      · exact fun z => absurd (show q1 = q59 from z) ne_q1_q59
      · exact fun z => absurd (show q1 = q81 from z) ne_q1_q81
    · rcases (show j = 0 ∨ j = 1 ∨ j = 2 ∨ j = 3 ∨ j = 4 ∨ j = 5 by omega) with rfl | rfl | rfl | rfl | rfl | rfl
      · exact fun z => absurd (show q11 = q1 from z) (Ne.symm ne_q1_q11)
      · exact fun _ => rfl
      · exact fun z => absurd (show q11 = q24 from z) ne_q11_q24
      · exact fun z => absurd (show q11 = q40 from z) ne_q11_q40
      · exact fun z => absurd (show q11 = q59 from z) ne_q11_q59
      · exact fun z => absurd (show q11 = q81 from z) ne_q11_q81
    · rcases (show j = 0 ∨ j = 1 ∨ j = 2 ∨ j = 3 ∨ j = 4 ∨ j = 5 by omega) with rfl | rfl | rfl | rfl | rfl | rfl
      · exact fun z => absurd (show q24 = q1 from z) (Ne.symm ne_q1_q24)
      · exact fun z => absurd (show q24 = q11 from z) (Ne.symm ne_q11_q24)
      · exact fun _ => rfl
      · exact fun z => absurd (show q24 = q40 from z) ne_q24_q40
      · exact fun z => absurd (show q24 = q59 from z) ne_q24_q59
      · exact fun z => absurd (show q24 = q81 from z) ne_q24_q81
    · rcases (show j = 0 ∨ j = 1 ∨ j = 2 ∨ j = 3 ∨ j = 4 ∨ j = 5 by omega) with rfl | rfl | rfl | rfl | rfl | rfl
      · exact fun z => absurd (show q40 = q1 from z) (Ne.symm ne_q1_q40)
      · exact fun z => absurd (show q40 = q11 from z) (Ne.symm ne_q11_q40)
      · exact fun z => absurd (show q40 = q24 from z) (Ne.symm ne_q24_q40)
      · exact fun _ => rfl
      · exact fun z => absurd (show q40 = q59 from z) ne_q40_q59
      · exact fun z => absurd (show q40 = q81 from z) ne_q40_q81
    · rcases (show j = 0 ∨ j = 1 ∨ j = 2 ∨ j = 3 ∨ j = 4 ∨ j = 5 by omega) with rfl | rfl | rfl | rfl | rfl | rfl
      · exact fun z => absurd (show q59 = q1 from z) (Ne.symm ne_q1_q59)
      · exact fun z => absurd (show q59 = q11 from z) (Ne.symm ne_q11_q59)
      · exact fun z => absurd (show q59 = q24 from z) (Ne.symm ne_q24_q59)
      · exact fun z => absurd (show q59 = q40 from z) (Ne.symm ne_q40_q59)
      · exact fun _ => rfl
      · exact fun z => absurd (show q59 = q81 from z) ne_q59_q81
    · rcases (show j = 0 ∨ j = 1 ∨ j = 2 ∨ j = 3 ∨ j = 4 ∨ j = 5 by omega) with rfl | rfl | rfl | rfl | rfl | rfl
      · exact fun z => absurd (show q81 = q1 from z) (Ne.symm ne_q1_q81)
      · exact fun z => absurd (show q81 = q11 from z) (Ne.symm ne_q11_q81)
      · exact fun z => absurd (show q81 = q24 from z) (Ne.symm ne_q24_q81)
      · exact fun z => absurd (show q81 = q40 from z) (Ne.symm ne_q40_q81)
      · exact fun z => absurd (show q81 = q59 from z) (Ne.symm ne_q59_q81)
      · exact fun _ => rfl
  exact W.vret hx hb hr (fun t ht hW => ⟨⟨_, rfl, ⟨(fun i => if i = 0 then q1 else if i = 1 then q11 else if i = 2 then q24 else if i = 3 then q40 else if i = 4 then q59 else q81), q106, k126, hA6, hJ6, hN6, k133, fz_q106, hfr⟩, mk_end hG ht⟩, hS.F ht⟩) hS.2.2 dX2_init_83
set_option maxHeartbeats 4000000 in
set_option maxRecDepth 100000 in
theorem c_LS_isEmpty (l : Launch) (D : va_G) (cy : Nat → ClassId) (A : Nat → Prop) (X : State → Prop) (hst : mk_St A X) (hXT : ∀ U : State, X U → TB U) (e0 : Nat) (tk : Nat → Nat) (hXE : ∀ U : State, X U → ES e0 tk A U) (G : Nat → Option va_E) (al ea nn : Nat) (mo : Int32) (h0 : G al = some (.inr (1, [.int mo, .ref ea, .int (nI nn)]))) (hnn : nn < 1000) : Met l yJx4a65c_isEmpty_aae02 [.code yJx4a65c_isEmpty_aae02 cJx4a65c_isEmpty_aae02 1 (some .boolean)] ({ frames := 0, cells := 0, slots := 0, locals := 0 }) (mk_Pre D vwCl (tyL cy) A X G [.ref al]) (va_Qi (fun (r : Int32) (G2 : Nat → Option va_E) => r = b2i (decide (nn = 0)) ∧ G2 = G) (mk_B D vwCl A) A) 0 0 A := by
  refine Met.ofW (cc := cJx4a65c_isEmpty_aae02) (maxL := 1) (ret := (some .boolean)) (by decide) rfl ?_
  intro p e s m args below meth c s₁ B hml hv
  obtain ⟨rfl, hG, hK, hA, hX⟩ := hv
  have hx := B.exec
  have hb := B.bytes
  have hr := B.returns
  have hlocks := B.notSynchronized
  have hT := hXT s hX
  have hown : s.vm.findClass RJx4a65c = some m.cls := findClass_of_methodNamed B.named
  have hf_Jx4a65c : ∀ w ∈ u_ws RJx4a65c TJx4a65c 3, w.before ([.ref al] : List Value).toArray s = true := tb_list hT fJx4a65c
  have hS : va_S A s.heap s.heap [] := va_S.rf
  have hE := hXE s hX
  have hl := lv_entry ([.ref al]) (n := 1) (Nat.le_of_ble_eq_true rfl)
  rw [lg_entry_eq]
  generalize (lg_sl ([.ref al]) ++ List.replicate (1 - (lg_sl ([.ref al])).length) Slot.unset).toArray = ls at hl ⊢
  have hl : lv_has ls 1 [(0, .ref al)] := hl
  refine lv_aload_n hx hb dJx4a65c_isEmpty_aae02_0 rfl (lv_at hl 0 rfl) ?_
  refine mm_get (v := .int (nI nn)) hx hb hf_Jx4a65c (fun _ h9 => h9) hown hK hG h0 rfl 2 (by decide) (tb_use hT tw_267) (fun _ h9 => h9) rfl dJx4a65c_isEmpty_aae02_1 ?_
  refine lv_if_ne (tgt := 11) hx hb dJx4a65c_isEmpty_aae02_4 (by decide) (fun c_4 => ?_) (fun c_4 => ?_)
  · skip
    refine lv_iconst (v := 0) hx hb dJx4a65c_isEmpty_aae02_11 (by decide) ?_
    exact W.zret (v := 0) hx hb hr rfl (fun t ht hW => ⟨⟨_, _, rfl, ⟨(by rw [decide_eq_false (fun z => c_4 (by rw [z]; rfl))]; rfl), rfl⟩, mk_end hG ht⟩, hS.F ht⟩) hS.2.2 dJx4a65c_isEmpty_aae02_12
  · skip
    refine lv_iconst (v := 1) hx hb dJx4a65c_isEmpty_aae02_7 (by decide) ?_
    refine lv_goto (tgt := 12) hx hb dJx4a65c_isEmpty_aae02_8 (by decide) ?_
    exact W.zret (v := 1) hx hb hr rfl (fun t ht hW => ⟨⟨_, _, rfl, ⟨(by rw [decide_eq_true (nI_inj (b := 0) (by omega) (by decide) c_4)]; rfl), rfl⟩, mk_end hG ht⟩, hS.F ht⟩) hS.2.2 dJx4a65c_isEmpty_aae02_12
set_option maxHeartbeats 4000000 in
set_option maxRecDepth 100000 in
theorem c_X13_lineAtG (l : Launch) (D : va_G) (cy : Nat → ClassId) (A : Nat → Prop) (X : State → Prop) (hst : mk_St A X) (hXT : ∀ U : State, X U → TB U) (e0 : Nat) (tk : Nat → Nat) (hXE : ∀ U : State, X U → ES e0 tk A U) (G : Nat → Option va_E) (o tx rd to se kp : Nat) (hd rg : Option Nat) (kc : Int32) (tn pn : Nat) (ft : Nat → Int32) (h0 : G o = some (.inr (14, [.ref tx, .ref rd, .ref to, .ref se, .ref kp, .int (nI tn), .int kc, va_rf hd, va_rf rg]))) (htx : G tx = some (.inl (cy 0, 2000, .inl ft))) (htn : tn ≤ 2000) (hpn : pn < 2147483648) : Met l yX13_lineAt [.code yX13_lineAt cX13_lineAt 4 (some .int)] ({ frames := 0, cells := 0, slots := 0, locals := 0 }) (mk_Pre D vwCl (tyL cy) A X G [.ref o, .int (nI pn)]) (va_Qi (fun (r : Int32) (G2 : Nat → Option va_E) => r = lnc ft (min pn tn) ∧ G2 = G) (mk_B D vwCl A) A) 0 0 A := by
  refine Met.ofW (cc := cX13_lineAt) (maxL := 4) (ret := (some .int)) (by decide) rfl ?_
  intro p e s m args below meth c s₁ B hml hv
  obtain ⟨rfl, hG, hK, hA, hX⟩ := hv
  have hx := B.exec
  have hb := B.bytes
  have hr := B.returns
  have hlocks := B.notSynchronized
  have hT := hXT s hX
  have hown : s.vm.findClass RX13 = some m.cls := findClass_of_methodNamed B.named
  have hf_X13 : ∀ w ∈ u_ws RX13 TX13 9, w.before ([.ref o, .int (nI pn)] : List Value).toArray s = true := tb_list hT fX13
  have hS : va_S A s.heap s.heap [] := va_S.rf
  have hE := hXE s hX
  have hl := lv_entry ([.ref o, .int (nI pn)]) (n := 4) (Nat.le_of_ble_eq_true rfl)
  rw [lg_entry_eq]
  generalize (lg_sl ([.ref o, .int (nI pn)]) ++ List.replicate (4 - (lg_sl ([.ref o, .int (nI pn)])).length) Slot.unset).toArray = ls at hl ⊢
  have hl : lv_has ls 4 [(0, .ref o), (1, .int (nI pn))] := hl
  have hloop : ∀ (n : Nat) (j : Nat), (n + j = min pn tn) → ∀ (Gv : Nat → Option va_E), (Gv o = some (.inr (14, [.ref tx, .ref rd, .ref to, .ref se, .ref kp, .int (nI tn), .int kc, va_rf hd, va_rf rg]))) → (Gv tx = some (.inl (cy 0, 2000, .inl ft))) → (Gv = G) → ∀ (H : Heap) (locs : List Loc), mm D vwCl A Gv H → va_S A s.heap H locs → ∀ ls : Array Slot, lv_has ls 4 [(0, .ref o), (1, .int (nI pn)), (2, .int (lnc ft j)), (3, .int (nI j))] → W p l e (headSpec [.code yX13_lineAt cX13_lineAt 4 (some .int)] ({ frames := 0, cells := 0, slots := 0, locals := 0 })).room s m ([.ref o, .int (nI pn)] : List Value).toArray below meth c H locs 0 0 (MQ below (va_Qi (fun (r : Int32) (G2 : Nat → Option va_E) => r = lnc ft (min pn tn) ∧ G2 = G) (mk_B D vwCl A) A) ([.ref o, .int (nI pn)] : List Value).toArray s 0 0 A) (F0 m 4 ls []) := by
    intro n
    induction n with
    | zero =>
      intro j hjn Gv v_o v_tx hGv H locs hG hS ls hl
      have hG9 := hG
      have hS9 := hS
      have hl9 := hl
      subst hGv
      have hG := hG9
      have hS := hS9
      have hl := hl9
      refine lv_iload_n hx hb dX13_lineAt_4 rfl (lv_at hl 3 rfl) ?_
      refine lv_iload_n hx hb dX13_lineAt_5 rfl (lv_at hl 1 rfl) ?_
      refine lv_icmp_ge (tgt := 37) hx hb dX13_lineAt_6 (by decide) (fun c_6 => ?_) (fun c_6 => ?_)
      · skip
        refine lv_iload_n hx hb dX13_lineAt_37 rfl (lv_at hl 2 rfl) ?_
        exact W.iret (v := (lnc ft j)) hx hb hr (fun t ht hW => ⟨⟨_, _, rfl, ⟨(by rw [show j = min pn tn by omega]), rfl⟩, mk_end hG ht⟩, hS.F ht⟩) hS.2.2 dX13_lineAt_38
      · skip
        refine lv_iload_n hx hb dX13_lineAt_9 rfl (lv_at hl 3 rfl) ?_
        refine lv_aload_n hx hb dX13_lineAt_10 rfl (lv_at hl 0 rfl) ?_
        refine mm_get (v := .int (nI tn)) hx hb hf_X13 (fun _ h9 => h9) hown hK hG v_o rfl 5 (by decide) (tb_use hT tw_216) (fun _ h9 => h9) rfl dX13_lineAt_11 ?_
        refine lv_icmp_ge (tgt := 37) hx hb dX13_lineAt_14 (by decide) (fun c_14 => ?_) (fun c_14 => ?_)
        · skip
          refine lv_iload_n hx hb dX13_lineAt_37 rfl (lv_at hl 2 rfl) ?_
          exact W.iret (v := (lnc ft j)) hx hb hr (fun t ht hW => ⟨⟨_, _, rfl, ⟨(by rw [show j = min pn tn by omega]), rfl⟩, mk_end hG ht⟩, hS.F ht⟩) hS.2.2 dX13_lineAt_38
        · skip
          exact absurd (nI_le (by have := nI_lt_of (by omega) (by omega) c_6; omega) (by omega)) c_14
    | succ n ih =>
      intro j hjn Gv v_o v_tx hGv H locs hG hS ls hl
      have hG9 := hG
      have hS9 := hS
      have hl9 := hl
      subst hGv
      have hG := hG9
      have hS := hS9
      have hl := hl9
      refine lv_iload_n hx hb dX13_lineAt_4 rfl (lv_at hl 3 rfl) ?_
      refine lv_iload_n hx hb dX13_lineAt_5 rfl (lv_at hl 1 rfl) ?_
      refine lv_icmp_ge (tgt := 37) hx hb dX13_lineAt_6 (by decide) (fun c_6 => ?_) (fun c_6 => ?_)
      · skip
        exact absurd c_6 (nI_ge (by omega) (by omega))
      · skip
        refine lv_iload_n hx hb dX13_lineAt_9 rfl (lv_at hl 3 rfl) ?_
        refine lv_aload_n hx hb dX13_lineAt_10 rfl (lv_at hl 0 rfl) ?_
        refine mm_get (v := .int (nI tn)) hx hb hf_X13 (fun _ h9 => h9) hown hK hG v_o rfl 5 (by decide) (tb_use hT tw_216) (fun _ h9 => h9) rfl dX13_lineAt_11 ?_
        refine lv_icmp_ge (tgt := 37) hx hb dX13_lineAt_14 (by decide) (fun c_14 => ?_) (fun c_14 => ?_)
        · skip
          exact absurd c_14 (nI_ge (by omega) (by omega))
        · skip
          refine lv_aload_n hx hb dX13_lineAt_17 rfl (lv_at hl 0 rfl) ?_
          refine mm_get (v := .ref tx) hx hb hf_X13 (fun _ h9 => h9) hown hK hG v_o rfl 0 (by decide) (tb_use hT tw_211) (fun _ h9 => h9) rfl dX13_lineAt_18 ?_
          refine lv_iload_n hx hb dX13_lineAt_21 rfl (lv_at hl 3 rfl) ?_
          refine mm_bald hx hb hK hG 0 v_tx rfl (nI_in (c := j) (N := 2000) (by omega) (by decide)) dX13_lineAt_22 ?_
          refine lv_topi (fun x21 ex21 => ?_)
          refine lv_bipush (v := 10) hx hb dX13_lineAt_23 (by decide) ?_
          refine lv_icmp_ne (tgt := 31) hx hb dX13_lineAt_25 (by decide) (fun c_25 => ?_) (fun c_25 => ?_)
          · skip
            obtain ⟨x22, ex22⟩ : ∃ y : Int32, y = (nI j) + 1 := ⟨_, rfl⟩
            refine lv_iinc (v := x22) (lv' := [(3, .int x22), (0, .ref o), (1, .int (nI pn)), (2, .int (lnc ft j))]) hx hb dX13_lineAt_31 hl (k := 3) rfl (by rw [ex22]; rfl) (by decide) rfl (fun ls hl => ?_)
            refine lv_goto (tgt := 4) hx hb dX13_lineAt_34 (by decide) ?_
            rw [show x22 = nI (j + 1) by rw [ex22]; exact (nI_succ j).symm] at hl
            have hf9 : ¬ ft j = 10 := fun z => c_25 (by rw [ex21, nI_clamp (n := j) (by omega)]; exact z)
            rw [show lnc ft j = lnc ft (j + 1) by rw [lnc, if_neg hf9]] at hl
            exact ih (j + 1) (by omega) Gv v_o v_tx rfl _ _ hG hS ls (lv_sub hl [1, 2, 3, 0] rfl)
          · skip
            obtain ⟨x23, ex23⟩ : ∃ y : Int32, y = (lnc ft j) + 1 := ⟨_, rfl⟩
            refine lv_iinc (v := x23) (lv' := [(2, .int x23), (0, .ref o), (1, .int (nI pn)), (3, .int (nI j))]) hx hb dX13_lineAt_28 hl (k := 2) rfl (by rw [ex23]; rfl) (by decide) rfl (fun ls hl => ?_)
            obtain ⟨x24, ex24⟩ : ∃ y : Int32, y = (nI j) + 1 := ⟨_, rfl⟩
            refine lv_iinc (v := x24) (lv' := [(3, .int x24), (2, .int x23), (0, .ref o), (1, .int (nI pn))]) hx hb dX13_lineAt_31 hl (k := 3) rfl (by rw [ex24]; rfl) (by decide) rfl (fun ls hl => ?_)
            refine lv_goto (tgt := 4) hx hb dX13_lineAt_34 (by decide) ?_
            rw [show x24 = nI (j + 1) by rw [ex24]; exact (nI_succ j).symm] at hl
            have hf9 : ft j = 10 := by have z := c_25; rw [ex21, nI_clamp (n := j) (by omega)] at z; exact z
            rw [show x23 = lnc ft (j + 1) by rw [ex23, lnc, if_pos hf9]] at hl
            exact ih (j + 1) (by omega) Gv v_o v_tx rfl _ _ hG hS ls (lv_sub hl [2, 3, 1, 0] rfl)
  refine lv_iconst (v := 1) hx hb dX13_lineAt_0 (by decide) ?_
  refine lv_istore_n (lv' := [(2, .int 1), (0, .ref o), (1, .int (nI pn))]) hx hb dX13_lineAt_1 rfl hl (by decide) rfl (fun ls hl => ?_)
  refine lv_iconst (v := 0) hx hb dX13_lineAt_2 (by decide) ?_
  refine lv_istore_n (lv' := [(3, .int 0), (2, .int 1), (0, .ref o), (1, .int (nI pn))]) hx hb dX13_lineAt_3 rfl hl (by decide) rfl (fun ls hl => ?_)
  exact hloop (min pn tn) 0 (by omega) G h0 htx rfl _ _ hG hS ls (lv_sub hl [2, 3, 1, 0] rfl)
