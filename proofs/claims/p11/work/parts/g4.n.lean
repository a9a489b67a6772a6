set_option maxHeartbeats 4000000 in
set_option maxRecDepth 100000 in
theorem c_X13_serviceNumbered_n (l : Launch) (D : va_G) (cy : Nat → ClassId) (A : Nat → Prop) (X : State → Prop) (hst : mk_St A X) (hXT : ∀ U : State, X U → TB U) (G : Nat → Option va_E) (o tx rd to se kp : Nat) (rg : Option Nat) (tl kc : Int32) (i : Int32) (h0 : G o = some (.inr (14, [.ref tx, .ref rd, .ref to, .ref se, .ref kp, .int tl, .int kc, .null, va_rf rg]))) : Met l yX13_serviceNumbered [.code yX13_serviceNumbered cX13_serviceNumbered 2 (some (.object "DescribeText$Service"))] ({ frames := 0, cells := 0, slots := 0, locals := 0 }) (mk_Pre D vwCl (tyL cy) A X G [.ref o, .int i]) (va_Qq (fun (r : Option Nat) (G2 : Nat → Option va_E) => r = none ∧ G2 = G) (mk_B D vwCl A) A) 0 0 A := by
  refine Met.ofW (cc := cX13_serviceNumbered) (maxL := 2) (ret := (some (.object "DescribeText$Service"))) (by decide) rfl ?_
  intro p e s m args below meth c s₁ B hml hv
  obtain ⟨rfl, hG, hK, hA, hX⟩ := hv
  have hx := B.exec
  have hb := B.bytes
  have hr := B.returns
  have hlocks := B.notSynchronized
  have hT := hXT s hX
  have hown : s.vm.findClass RX13 = some m.cls := findClass_of_methodNamed B.named
  have hf_X13 : ∀ w ∈ u_ws RX13 TX13 9, w.before ([.ref o, .int i] : List Value).toArray s = true := tb_list hT fX13
  have hS : va_S A s.heap s.heap [] := va_S.rf
  have hl := lv_entry ([.ref o, .int i]) (n := 2) (Nat.le_of_ble_eq_true rfl)
  rw [lg_entry_eq]
  generalize (lg_sl ([.ref o, .int i]) ++ List.replicate (2 - (lg_sl ([.ref o, .int i])).length) Slot.unset).toArray = ls at hl ⊢
  have hl : lv_has ls 2 [(0, .ref o), (1, .int i)] := hl
  refine lv_aload_n hx hb dX13_serviceNumbered_0 rfl (lv_at hl 0 rfl) ?_
  refine mm_get (v := .null) hx hb hf_X13 (fun _ h9 => h9) hown hK hG h0 rfl 7 (by decide) (tb_use hT tw_218) (fun _ h9 => h9) rfl dX13_serviceNumbered_1 ?_
  refine lv_ifnullN (tgt := 26) hx hb dX13_serviceNumbered_4 (by decide) ?_
  refine lv_null hx hb dX13_serviceNumbered_26 ?_
  exact W.aret (v := .null) hx hb hr (Or.inl ⟨_, rfl⟩) (Or.inl rfl) (fun t ht hW => ⟨⟨(none : Option Nat), _, rfl, ⟨rfl, rfl⟩, mk_end hG ht⟩, hS.F ht⟩) hS.2.2 dX13_serviceNumbered_27

set_option maxHeartbeats 4000000 in
set_option maxRecDepth 100000 in
theorem c_X13_service_n (l : Launch) (D : va_G) (cy : Nat → ClassId) (A : Nat → Prop) (X : State → Prop) (hst : mk_St A X) (hXT : ∀ U : State, X U → TB U) (G : Nat → Option va_E) (o tx rd to se kp : Nat) (rg : Option Nat) (tl kc : Int32) (i wv : Int32) (h0 : G o = some (.inr (14, [.ref tx, .ref rd, .ref to, .ref se, .ref kp, .int tl, .int kc, .null, va_rf rg]))) : Met l yX13_service [.code yX13_service cX13_service 4 (some .int)] ({ frames := 1, cells := 0, slots := 0, locals := 30 }) (mk_Pre D vwCl (tyL cy) A X G [.ref o, .int i, .int wv]) (va_Qi (fun (r : Int32) (G2 : Nat → Option va_E) => r = -1 ∧ G2 = G) (mk_B D vwCl A) A) 0 0 A := by
  refine Met.ofW (cc := cX13_service) (maxL := 4) (ret := (some .int)) (by decide) rfl ?_
  intro p e s m args below meth c s₁ B hml hv
  obtain ⟨rfl, hG, hK, hA, hX⟩ := hv
  have hx := B.exec
  have hb := B.bytes
  have hr := B.returns
  have hlocks := B.notSynchronized
  have hT := hXT s hX
  have hown : s.vm.findClass RX13 = some m.cls := findClass_of_methodNamed B.named
  have hS : va_S A s.heap s.heap [] := va_S.rf
  have hl := lv_entry ([.ref o, .int i, .int wv]) (n := 4) (Nat.le_of_ble_eq_true rfl)
  rw [lg_entry_eq]
  generalize (lg_sl ([.ref o, .int i, .int wv]) ++ List.replicate (4 - (lg_sl ([.ref o, .int i, .int wv])).length) Slot.unset).toArray = ls at hl ⊢
  have hl : lv_has ls 4 [(0, .ref o), (1, .int i), (2, .int wv)] := hl
  refine lv_aload_n hx hb dX13_service_0 rfl (lv_at hl 0 rfl) ?_
  refine lv_iload_n hx hb dX13_service_1 rfl (lv_at hl 1 rfl) ?_
  refine va_callq (va_runV (As := [.int i]) (rest := []) ⟨hx, hb, hml, hown, (fun _ h9 => absurd h9 List.not_mem_nil : ∀ w ∈ ([] : List Cond), w.before _ s = true)⟩ (c_X13_serviceNumbered_n l D cy A X hst hXT G o tx rd to se kp rg tl kc i h0) (tb_cw (C := RX13) 1 hT tw_1090 tw_105 tw_1087 tw_1089 tw_46 rfl rfl hq_X13_serviceNumbered ⟨Nat.le_of_ble_eq_true rfl, Nat.le_of_ble_eq_true rfl⟩) (mk_preC hst hG hK hA hX hS vc_14 h0) rfl rfl hl.1 rfl (lv_room (Nat.le_of_ble_eq_true rfl)) dX13_service_2 ⟨Nat.le_of_ble_eq_true rfl, Nat.le_of_ble_eq_true rfl⟩) hS (fun q _ h => h) (fun q h => h) (fun r1 G2 t H locs ht hvm hw hB hz1 hk1 hS => ?_)
  have hG : mm D vwCl A G2 H := by rw [← ht]; exact hB
  clear hB hz1 hk1 hvm ht
  obtain ⟨rfl, hw⟩ := hw
  rw [hw] at hG
  refine lv_astore_nN (lv' := [(3, .null), (0, .ref o), (1, .int i), (2, .int wv)]) hx hb dX13_service_5 rfl hl (by decide) rfl (fun ls hl => ?_)
  refine lv_aload_nN hx hb dX13_service_6 rfl (lv_at hl 0 rfl) ?_
  refine lv_ifnullN (tgt := 17) hx hb dX13_service_7 (by decide) ?_
  refine lv_iconst (v := (-1)) hx hb dX13_service_17 (by decide) ?_
  exact W.iret (v := (-1)) hx hb hr (fun t ht hW => ⟨⟨_, _, rfl, ⟨rfl, rfl⟩, mk_end hG ht⟩, hS.F ht⟩) hS.2.2 dX13_service_18

set_option maxHeartbeats 4000000 in
set_option maxRecDepth 100000 in
theorem c_X13_parameter_n (l : Launch) (D : va_G) (cy : Nat → ClassId) (A : Nat → Prop) (X : State → Prop) (hst : mk_St A X) (hXT : ∀ U : State, X U → TB U) (G : Nat → Option va_E) (o tx rd to se kp : Nat) (rg : Option Nat) (tl kc : Int32) (i j wv : Int32) (h0 : G o = some (.inr (14, [.ref tx, .ref rd, .ref to, .ref se, .ref kp, .int tl, .int kc, .null, va_rf rg]))) : Met l yX13_parameter [.code yX13_parameter cX13_parameter 5 (some .int)] ({ frames := 1, cells := 0, slots := 0, locals := 30 }) (mk_Pre D vwCl (tyL cy) A X G [.ref o, .int i, .int j, .int wv]) (va_Qi (fun (r : Int32) (G2 : Nat → Option va_E) => r = -1 ∧ G2 = G) (mk_B D vwCl A) A) 0 0 A := by
  refine Met.ofW (cc := cX13_parameter) (maxL := 5) (ret := (some .int)) (by decide) rfl ?_
  intro p e s m args below meth c s₁ B hml hv
  obtain ⟨rfl, hG, hK, hA, hX⟩ := hv
  have hx := B.exec
  have hb := B.bytes
  have hr := B.returns
  have hlocks := B.notSynchronized
  have hT := hXT s hX
  have hown : s.vm.findClass RX13 = some m.cls := findClass_of_methodNamed B.named
  have hS : va_S A s.heap s.heap [] := va_S.rf
  have hl := lv_entry ([.ref o, .int i, .int j, .int wv]) (n := 5) (Nat.le_of_ble_eq_true rfl)
  rw [lg_entry_eq]
  generalize (lg_sl ([.ref o, .int i, .int j, .int wv]) ++ List.replicate (5 - (lg_sl ([.ref o, .int i, .int j, .int wv])).length) Slot.unset).toArray = ls at hl ⊢
  have hl : lv_has ls 5 [(0, .ref o), (1, .int i), (2, .int j), (3, .int wv)] := hl
  refine lv_aload_n hx hb dX13_parameter_0 rfl (lv_at hl 0 rfl) ?_
  refine lv_iload_n hx hb dX13_parameter_1 rfl (lv_at hl 1 rfl) ?_
  refine va_callq (va_runV (As := [.int i]) (rest := []) ⟨hx, hb, hml, hown, (fun _ h9 => absurd h9 List.not_mem_nil : ∀ w ∈ ([] : List Cond), w.before _ s = true)⟩ (c_X13_serviceNumbered_n l D cy A X hst hXT G o tx rd to se kp rg tl kc i h0) (tb_cw (C := RX13) 1 hT tw_1090 tw_105 tw_1087 tw_1089 tw_46 rfl rfl hq_X13_serviceNumbered ⟨Nat.le_of_ble_eq_true rfl, Nat.le_of_ble_eq_true rfl⟩) (mk_preC hst hG hK hA hX hS vc_14 h0) rfl rfl hl.1 rfl (lv_room (Nat.le_of_ble_eq_true rfl)) dX13_parameter_2 ⟨Nat.le_of_ble_eq_true rfl, Nat.le_of_ble_eq_true rfl⟩) hS (fun q _ h => h) (fun q h => h) (fun r1 G2 t H locs ht hvm hw hB hz1 hk1 hS => ?_)
  have hG : mm D vwCl A G2 H := by rw [← ht]; exact hB
  clear hB hz1 hk1 hvm ht
  obtain ⟨rfl, hw⟩ := hw
  rw [hw] at hG
  refine lv_iload_n hx hb dX13_parameter_5 rfl (lv_at hl 2 rfl) ?_
  refine va_callq (va_runS (As := [.null, .int j]) (rest := []) ⟨hx, hb, hml, hown, (fun _ h9 => absurd h9 List.not_mem_nil : ∀ w ∈ ([] : List Cond), w.before _ s = true)⟩ (c_X13_parameterNumbered_0 l D cy A X hst hXT G j) (tb_cs 2 hT tw_1103 tw_105 tw_1101 tw_1102 rfl rfl hq_X13_parameterNumbered ⟨Nat.le_of_ble_eq_true rfl, Nat.le_of_ble_eq_true rfl⟩) (mk_preS hst hG hK hA hX hS) rfl rfl hl.1 rfl (lv_room (Nat.le_of_ble_eq_true rfl)) dX13_parameter_6 ⟨Nat.le_of_ble_eq_true rfl, Nat.le_of_ble_eq_true rfl⟩) hS (fun q _ h => h) (fun q h => h) (fun r3 G4 t H locs ht hvm hw hB hz1 hk1 hS => ?_)
  have hG : mm D vwCl A G4 H := by rw [← ht]; exact hB
  clear hB hz1 hk1 hvm ht
  obtain ⟨rfl, hw⟩ := hw
  rw [hw] at hG
  refine lv_astoreN (lv' := [(4, .null), (0, .ref o), (1, .int i), (2, .int j), (3, .int wv)]) hx hb dX13_parameter_9 hl (by decide) rfl (fun ls hl => ?_)
  refine lv_aloadN hx hb dX13_parameter_11 (lv_at hl 0 rfl) ?_
  refine lv_ifnullN (tgt := 23) hx hb dX13_parameter_13 (by decide) ?_
  refine lv_iconst (v := (-1)) hx hb dX13_parameter_23 (by decide) ?_
  exact W.iret (v := (-1)) hx hb hr (fun t ht hW => ⟨⟨_, _, rfl, ⟨rfl, rfl⟩, mk_end hG ht⟩, hS.F ht⟩) hS.2.2 dX13_parameter_24

set_option maxHeartbeats 4000000 in
set_option maxRecDepth 100000 in
theorem c_X13_decode_n (l : Launch) (D : va_G) (cy : Nat → ClassId) (A : Nat → Prop) (X : State → Prop) (hst : mk_St A X) (hXT : ∀ U : State, X U → TB U) (G : Nat → Option va_E) (o tx rd to se kp : Nat) (rg : Option Nat) (tl kc : Int32) (i j wv : Int32) (h0 : G o = some (.inr (14, [.ref tx, .ref rd, .ref to, .ref se, .ref kp, .int tl, .int kc, .null, va_rf rg]))) : Met l yX13_decode [.code yX13_decode cX13_decode 6 (some .long)] ({ frames := 1, cells := 0, slots := 0, locals := 30 }) (mk_Pre D vwCl (tyL cy) A X G [.ref o, .int i, .int j, .int wv]) (va_Ql (fun (r : Int64) (G2 : Nat → Option va_E) => r = -1 ∧ G2 = G) (mk_B D vwCl A) A) 0 0 A := by
  refine Met.ofW (cc := cX13_decode) (maxL := 6) (ret := (some .long)) (by decide) rfl ?_
  intro p e s m args below meth c s₁ B hml hv
  obtain ⟨rfl, hG, hK, hA, hX⟩ := hv
  have hx := B.exec
  have hb := B.bytes
  have hr := B.returns
  have hlocks := B.notSynchronized
  have hT := hXT s hX
  have hown : s.vm.findClass RX13 = some m.cls := findClass_of_methodNamed B.named
  have hS : va_S A s.heap s.heap [] := va_S.rf
  have hl := lv_entry ([.ref o, .int i, .int j, .int wv]) (n := 6) (Nat.le_of_ble_eq_true rfl)
  rw [lg_entry_eq]
  generalize (lg_sl ([.ref o, .int i, .int j, .int wv]) ++ List.replicate (6 - (lg_sl ([.ref o, .int i, .int j, .int wv])).length) Slot.unset).toArray = ls at hl ⊢
  have hl : lv_has ls 6 [(0, .ref o), (1, .int i), (2, .int j), (3, .int wv)] := hl
  refine lv_aload_n hx hb dX13_decode_0 rfl (lv_at hl 0 rfl) ?_
  refine lv_iload_n hx hb dX13_decode_1 rfl (lv_at hl 1 rfl) ?_
  refine va_callq (va_runV (As := [.int i]) (rest := []) ⟨hx, hb, hml, hown, (fun _ h9 => absurd h9 List.not_mem_nil : ∀ w ∈ ([] : List Cond), w.before _ s = true)⟩ (c_X13_serviceNumbered_n l D cy A X hst hXT G o tx rd to se kp rg tl kc i h0) (tb_cw (C := RX13) 1 hT tw_1090 tw_105 tw_1087 tw_1089 tw_46 rfl rfl hq_X13_serviceNumbered ⟨Nat.le_of_ble_eq_true rfl, Nat.le_of_ble_eq_true rfl⟩) (mk_preC hst hG hK hA hX hS vc_14 h0) rfl rfl hl.1 rfl (lv_room (Nat.le_of_ble_eq_true rfl)) dX13_decode_2 ⟨Nat.le_of_ble_eq_true rfl, Nat.le_of_ble_eq_true rfl⟩) hS (fun q _ h => h) (fun q h => h) (fun r1 G2 t H locs ht hvm hw hB hz1 hk1 hS => ?_)
  have hG : mm D vwCl A G2 H := by rw [← ht]; exact hB
  clear hB hz1 hk1 hvm ht
  obtain ⟨rfl, hw⟩ := hw
  rw [hw] at hG
  refine lv_astoreN (lv' := [(4, .null), (0, .ref o), (1, .int i), (2, .int j), (3, .int wv)]) hx hb dX13_decode_5 hl (by decide) rfl (fun ls hl => ?_)
  refine lv_aloadN hx hb dX13_decode_7 (lv_at hl 0 rfl) ?_
  refine lv_iload_n hx hb dX13_decode_9 rfl (lv_at hl 3 rfl) ?_
  refine va_callq (va_runS (As := [.null, .int j]) (rest := []) ⟨hx, hb, hml, hown, (fun _ h9 => absurd h9 List.not_mem_nil : ∀ w ∈ ([] : List Cond), w.before _ s = true)⟩ (c_X13_parameterNumbered_0 l D cy A X hst hXT G j) (tb_cs 2 hT tw_1103 tw_105 tw_1101 tw_1102 rfl rfl hq_X13_parameterNumbered ⟨Nat.le_of_ble_eq_true rfl, Nat.le_of_ble_eq_true rfl⟩) (mk_preS hst hG hK hA hX hS) rfl rfl hl.1 rfl (lv_room (Nat.le_of_ble_eq_true rfl)) dX13_decode_10 ⟨Nat.le_of_ble_eq_true rfl, Nat.le_of_ble_eq_true rfl⟩) hS (fun q _ h => h) (fun q h => h) (fun r3 G4 t H locs ht hvm hw hB hz1 hk1 hS => ?_)
  have hG : mm D vwCl A G4 H := by rw [← ht]; exact hB
  clear hB hz1 hk1 hvm ht
  obtain ⟨rfl, hw⟩ := hw
  rw [hw] at hG
  refine lv_astoreN (lv' := [(5, .null), (4, .null), (0, .ref o), (1, .int i), (2, .int j), (3, .int wv)]) hx hb dX13_decode_13 hl (by decide) rfl (fun ls hl => ?_)
  refine lv_aloadN hx hb dX13_decode_15 (lv_at hl 1 rfl) ?_
  refine lv_ifnullN (tgt := 32) hx hb dX13_decode_17 (by decide) ?_
  refine lv_ldc2 hx hb hown (tb_use hT tw_1109) dX13_decode_32 ?_
  exact W.lret (v := (-1)) hx hb hr (fun t ht hW => ⟨⟨_, _, rfl, ⟨rfl, rfl⟩, mk_end hG ht⟩, hS.F ht⟩) hS.2.2 dX13_decode_35

set_option maxHeartbeats 4000000 in
set_option maxRecDepth 100000 in
theorem c_X13_encode_n (l : Launch) (D : va_G) (cy : Nat → ClassId) (A : Nat → Prop) (X : State → Prop) (hst : mk_St A X) (hXT : ∀ U : State, X U → TB U) (G : Nat → Option va_E) (o tx rd to se kp : Nat) (rg : Option Nat) (tl kc : Int32) (i j : Int32) (v : Int64) (h0 : G o = some (.inr (14, [.ref tx, .ref rd, .ref to, .ref se, .ref kp, .int tl, .int kc, .null, va_rf rg]))) : Met l yX13_encode [.code yX13_encode cX13_encode 9 (some .int)] ({ frames := 1, cells := 0, slots := 0, locals := 30 }) (mk_Pre D vwCl (tyL cy) A X G [.ref o, .int i, .int j, .long v]) (va_Qi (fun (r : Int32) (G2 : Nat → Option va_E) => r = -1 ∧ G2 = G) (mk_B D vwCl A) A) 0 0 A := by
  refine Met.ofW (cc := cX13_encode) (maxL := 9) (ret := (some .int)) (by decide) rfl ?_
  intro p e s m args below meth c s₁ B hml hv
  obtain ⟨rfl, hG, hK, hA, hX⟩ := hv
  have hx := B.exec
  have hb := B.bytes
  have hr := B.returns
  have hlocks := B.notSynchronized
  have hT := hXT s hX
  have hown : s.vm.findClass RX13 = some m.cls := findClass_of_methodNamed B.named
  have hS : va_S A s.heap s.heap [] := va_S.rf
  have hl := lv_entry ([.ref o, .int i, .int j, .long v]) (n := 9) (Nat.le_of_ble_eq_true rfl)
  rw [lg_entry_eq]
  generalize (lg_sl ([.ref o, .int i, .int j, .long v]) ++ List.replicate (9 - (lg_sl ([.ref o, .int i, .int j, .long v])).length) Slot.unset).toArray = ls at hl ⊢
  have hl : lv_has ls 9 [(0, .ref o), (1, .int i), (2, .int j), (3, .long v)] := hl
  refine lv_aload_n hx hb dX13_encode_0 rfl (lv_at hl 0 rfl) ?_
  refine lv_iload_n hx hb dX13_encode_1 rfl (lv_at hl 1 rfl) ?_
  refine va_callq (va_runV (As := [.int i]) (rest := []) ⟨hx, hb, hml, hown, (fun _ h9 => absurd h9 List.not_mem_nil : ∀ w ∈ ([] : List Cond), w.before _ s = true)⟩ (c_X13_serviceNumbered_n l D cy A X hst hXT G o tx rd to se kp rg tl kc i h0) (tb_cw (C := RX13) 1 hT tw_1090 tw_105 tw_1087 tw_1089 tw_46 rfl rfl hq_X13_serviceNumbered ⟨Nat.le_of_ble_eq_true rfl, Nat.le_of_ble_eq_true rfl⟩) (mk_preC hst hG hK hA hX hS vc_14 h0) rfl rfl hl.1 rfl (lv_room (Nat.le_of_ble_eq_true rfl)) dX13_encode_2 ⟨Nat.le_of_ble_eq_true rfl, Nat.le_of_ble_eq_true rfl⟩) hS (fun q _ h => h) (fun q h => h) (fun r1 G2 t H locs ht hvm hw hB hz1 hk1 hS => ?_)
  have hG : mm D vwCl A G2 H := by rw [← ht]; exact hB
  clear hB hz1 hk1 hvm ht
  obtain ⟨rfl, hw⟩ := hw
  rw [hw] at hG
  refine lv_astoreN (lv' := [(5, .null), (0, .ref o), (1, .int i), (2, .int j), (3, .long v)]) hx hb dX13_encode_5 hl (by decide) rfl (fun ls hl => ?_)
  refine lv_aloadN hx hb dX13_encode_7 (lv_at hl 0 rfl) ?_
  refine lv_iload_n hx hb dX13_encode_9 rfl (lv_at hl 3 rfl) ?_
  refine va_callq (va_runS (As := [.null, .int j]) (rest := []) ⟨hx, hb, hml, hown, (fun _ h9 => absurd h9 List.not_mem_nil : ∀ w ∈ ([] : List Cond), w.before _ s = true)⟩ (c_X13_parameterNumbered_0 l D cy A X hst hXT G j) (tb_cs 2 hT tw_1103 tw_105 tw_1101 tw_1102 rfl rfl hq_X13_parameterNumbered ⟨Nat.le_of_ble_eq_true rfl, Nat.le_of_ble_eq_true rfl⟩) (mk_preS hst hG hK hA hX hS) rfl rfl hl.1 rfl (lv_room (Nat.le_of_ble_eq_true rfl)) dX13_encode_10 ⟨Nat.le_of_ble_eq_true rfl, Nat.le_of_ble_eq_true rfl⟩) hS (fun q _ h => h) (fun q h => h) (fun r3 G4 t H locs ht hvm hw hB hz1 hk1 hS => ?_)
  have hG : mm D vwCl A G4 H := by rw [← ht]; exact hB
  clear hB hz1 hk1 hvm ht
  obtain ⟨rfl, hw⟩ := hw
  rw [hw] at hG
  refine lv_astoreN (lv' := [(6, .null), (5, .null), (0, .ref o), (1, .int i), (2, .int j), (3, .long v)]) hx hb dX13_encode_13 hl (by decide) rfl (fun ls hl => ?_)
  refine lv_aloadN hx hb dX13_encode_15 (lv_at hl 1 rfl) ?_
  refine lv_ifnullN (tgt := 33) hx hb dX13_encode_17 (by decide) ?_
  refine lv_iconst (v := (-1)) hx hb dX13_encode_33 (by decide) ?_
  exact W.iret (v := (-1)) hx hb hr (fun t ht hW => ⟨⟨_, _, rfl, ⟨rfl, rfl⟩, mk_end hG ht⟩, hS.F ht⟩) hS.2.2 dX13_encode_34

set_option maxHeartbeats 4000000 in
set_option maxRecDepth 100000 in
theorem c_X13_variant_n (l : Launch) (D : va_G) (cy : Nat → ClassId) (A : Nat → Prop) (X : State → Prop) (hst : mk_St A X) (hXT : ∀ U : State, X U → TB U) (G : Nat → Option va_E) (o tx rd to se kp : Nat) (rg : Option Nat) (tl kc : Int32) (i : Int32) (h0 : G o = some (.inr (14, [.ref tx, .ref rd, .ref to, .ref se, .ref kp, .int tl, .int kc, .null, va_rf rg]))) : Met l yX13_variant [.code yX13_variant cX13_variant 2 (some .int)] ({ frames := 0, cells := 0, slots := 0, locals := 0 }) (mk_Pre D vwCl (tyL cy) A X G [.ref o, .int i]) (va_Qi (fun (r : Int32) (G2 : Nat → Option va_E) => r = -3 ∧ G2 = G) (mk_B D vwCl A) A) 0 0 A := by
  refine Met.ofW (cc := cX13_variant) (maxL := 2) (ret := (some .int)) (by decide) rfl ?_
  intro p e s m args below meth c s₁ B hml hv
  obtain ⟨rfl, hG, hK, hA, hX⟩ := hv
  have hx := B.exec
  have hb := B.bytes
  have hr := B.returns
  have hlocks := B.notSynchronized
  have hT := hXT s hX
  have hown : s.vm.findClass RX13 = some m.cls := findClass_of_methodNamed B.named
  have hf_X13 : ∀ w ∈ u_ws RX13 TX13 9, w.before ([.ref o, .int i] : List Value).toArray s = true := tb_list hT fX13
  have hS : va_S A s.heap s.heap [] := va_S.rf
  have hl := lv_entry ([.ref o, .int i]) (n := 2) (Nat.le_of_ble_eq_true rfl)
  rw [lg_entry_eq]
  generalize (lg_sl ([.ref o, .int i]) ++ List.replicate (2 - (lg_sl ([.ref o, .int i])).length) Slot.unset).toArray = ls at hl ⊢
  have hl : lv_has ls 2 [(0, .ref o), (1, .int i)] := hl
  refine lv_aload_n hx hb dX13_variant_0 rfl (lv_at hl 0 rfl) ?_
  refine mm_get (v := .null) hx hb hf_X13 (fun _ h9 => h9) hown hK hG h0 rfl 7 (by decide) (tb_use hT tw_218) (fun _ h9 => h9) rfl dX13_variant_1 ?_
  refine lv_ifnonnullN hx hb dX13_variant_4 ?_
  refine lv_bipush (v := (-3)) hx hb dX13_variant_7 (by decide) ?_
  exact W.iret (v := (-3)) hx hb hr (fun t ht hW => ⟨⟨_, _, rfl, ⟨rfl, rfl⟩, mk_end hG ht⟩, hS.F ht⟩) hS.2.2 dX13_variant_9

set_option maxHeartbeats 4000000 in
set_option maxRecDepth 100000 in
theorem c_X13_job_n (l : Launch) (D : va_G) (cy : Nat → ClassId) (A : Nat → Prop) (X : State → Prop) (hst : mk_St A X) (hXT : ∀ U : State, X U → TB U) (G : Nat → Option va_E) (o tx rd to se kp : Nat) (rg : Option Nat) (tl kc : Int32) (i : Int32) (v : Int64) (h0 : G o = some (.inr (14, [.ref tx, .ref rd, .ref to, .ref se, .ref kp, .int tl, .int kc, .null, va_rf rg]))) : Met l yX13_job [.code yX13_job cX13_job 4 (some .int)] ({ frames := 0, cells := 0, slots := 0, locals := 0 }) (mk_Pre D vwCl (tyL cy) A X G [.ref o, .int i, .long v]) (va_Qi (fun (r : Int32) (G2 : Nat → Option va_E) => r = -1 ∧ G2 = G) (mk_B D vwCl A) A) 0 0 A := by
  refine Met.ofW (cc := cX13_job) (maxL := 4) (ret := (some .int)) (by decide) rfl ?_
  intro p e s m args below meth c s₁ B hml hv
  obtain ⟨rfl, hG, hK, hA, hX⟩ := hv
  have hx := B.exec
  have hb := B.bytes
  have hr := B.returns
  have hlocks := B.notSynchronized
  have hT := hXT s hX
  have hown : s.vm.findClass RX13 = some m.cls := findClass_of_methodNamed B.named
  have hf_X13 : ∀ w ∈ u_ws RX13 TX13 9, w.before ([.ref o, .int i, .long v] : List Value).toArray s = true := tb_list hT fX13
  have hS : va_S A s.heap s.heap [] := va_S.rf
  have hl := lv_entry ([.ref o, .int i, .long v]) (n := 4) (Nat.le_of_ble_eq_true rfl)
  rw [lg_entry_eq]
  generalize (lg_sl ([.ref o, .int i, .long v]) ++ List.replicate (4 - (lg_sl ([.ref o, .int i, .long v])).length) Slot.unset).toArray = ls at hl ⊢
  have hl : lv_has ls 4 [(0, .ref o), (1, .int i), (2, .long v)] := hl
  refine lv_aload_n hx hb dX13_job_0 rfl (lv_at hl 0 rfl) ?_
  refine mm_get (v := .null) hx hb hf_X13 (fun _ h9 => h9) hown hK hG h0 rfl 7 (by decide) (tb_use hT tw_218) (fun _ h9 => h9) rfl dX13_job_1 ?_
  refine lv_ifnullN (tgt := 26) hx hb dX13_job_4 (by decide) ?_
  refine lv_iconst (v := (-1)) hx hb dX13_job_26 (by decide) ?_
  exact W.iret (v := (-1)) hx hb hr (fun t ht hW => ⟨⟨_, _, rfl, ⟨rfl, rfl⟩, mk_end hG ht⟩, hS.F ht⟩) hS.2.2 dX13_job_27

set_option maxHeartbeats 4000000 in
set_option maxRecDepth 100000 in
theorem c_X13_compare_n (l : Launch) (D : va_G) (cy : Nat → ClassId) (A : Nat → Prop) (X : State → Prop) (hst : mk_St A X) (hXT : ∀ U : State, X U → TB U) (G : Nat → Option va_E) (o tx rd to se kp : Nat) (rg : Option Nat) (tl kc : Int32) (i : Int32) (h0 : G o = some (.inr (14, [.ref tx, .ref rd, .ref to, .ref se, .ref kp, .int tl, .int kc, .null, va_rf rg]))) : Met l yX13_compare [.code yX13_compare cX13_compare 3 (some .int)] ({ frames := 0, cells := 0, slots := 0, locals := 0 }) (mk_Pre D vwCl (tyL cy) A X G [.ref o, .int i]) (va_Qi (fun (r : Int32) (G2 : Nat → Option va_E) => r = -1 ∧ G2 = G) (mk_B D vwCl A) A) 0 0 A := by
  refine Met.ofW (cc := cX13_compare) (maxL := 3) (ret := (some .int)) (by decide) rfl ?_
  intro p e s m args below meth c s₁ B hml hv
  obtain ⟨rfl, hG, hK, hA, hX⟩ := hv
  have hx := B.exec
  have hb := B.bytes
  have hr := B.returns
  have hlocks := B.notSynchronized
  have hT := hXT s hX
  have hown : s.vm.findClass RX13 = some m.cls := findClass_of_methodNamed B.named
  have hf_X13 : ∀ w ∈ u_ws RX13 TX13 9, w.before ([.ref o, .int i] : List Value).toArray s = true := tb_list hT fX13
  have hS : va_S A s.heap s.heap [] := va_S.rf
  have hl := lv_entry ([.ref o, .int i]) (n := 3) (Nat.le_of_ble_eq_true rfl)
  rw [lg_entry_eq]
  generalize (lg_sl ([.ref o, .int i]) ++ List.replicate (3 - (lg_sl ([.ref o, .int i])).length) Slot.unset).toArray = ls at hl ⊢
  have hl : lv_has ls 3 [(0, .ref o), (1, .int i)] := hl
  refine lv_aload_n hx hb dX13_compare_0 rfl (lv_at hl 0 rfl) ?_
  refine mm_get (v := .null) hx hb hf_X13 (fun _ h9 => h9) hown hK hG h0 rfl 7 (by decide) (tb_use hT tw_218) (fun _ h9 => h9) rfl dX13_compare_1 ?_
  refine lv_ifnullN (tgt := 25) hx hb dX13_compare_4 (by decide) ?_
  refine lv_iconst (v := (-1)) hx hb dX13_compare_25 (by decide) ?_
  exact W.iret (v := (-1)) hx hb hr (fun t ht hW => ⟨⟨_, _, rfl, ⟨rfl, rfl⟩, mk_end hG ht⟩, hS.F ht⟩) hS.2.2 dX13_compare_26

set_option maxHeartbeats 4000000 in
set_option maxRecDepth 100000 in
theorem c_X13_code_n (l : Launch) (D : va_G) (cy : Nat → ClassId) (A : Nat → Prop) (X : State → Prop) (hst : mk_St A X) (hXT : ∀ U : State, X U → TB U) (G : Nat → Option va_E) (o tx rd to se kp : Nat) (rg : Option Nat) (tl kc : Int32) (i : Int32) (h0 : G o = some (.inr (14, [.ref tx, .ref rd, .ref to, .ref se, .ref kp, .int tl, .int kc, .null, va_rf rg]))) : Met l yX13_code [.code yX13_code cX13_code 3 (some .int)] ({ frames := 0, cells := 0, slots := 0, locals := 0 }) (mk_Pre D vwCl (tyL cy) A X G [.ref o, .int i]) (va_Qi (fun (r : Int32) (G2 : Nat → Option va_E) => r = 0 ∧ G2 = G) (mk_B D vwCl A) A) 0 0 A := by
  refine Met.ofW (cc := cX13_code) (maxL := 3) (ret := (some .int)) (by decide) rfl ?_
  intro p e s m args below meth c s₁ B hml hv
  obtain ⟨rfl, hG, hK, hA, hX⟩ := hv
  have hx := B.exec
  have hb := B.bytes
  have hr := B.returns
  have hlocks := B.notSynchronized
  have hT := hXT s hX
  have hown : s.vm.findClass RX13 = some m.cls := findClass_of_methodNamed B.named
  have hf_X13 : ∀ w ∈ u_ws RX13 TX13 9, w.before ([.ref o, .int i] : List Value).toArray s = true := tb_list hT fX13
  have hS : va_S A s.heap s.heap [] := va_S.rf
  have hl := lv_entry ([.ref o, .int i]) (n := 3) (Nat.le_of_ble_eq_true rfl)
  rw [lg_entry_eq]
  generalize (lg_sl ([.ref o, .int i]) ++ List.replicate (3 - (lg_sl ([.ref o, .int i])).length) Slot.unset).toArray = ls at hl ⊢
  have hl : lv_has ls 3 [(0, .ref o), (1, .int i)] := hl
  refine lv_aload_n hx hb dX13_code_0 rfl (lv_at hl 0 rfl) ?_
  refine mm_get (v := .null) hx hb hf_X13 (fun _ h9 => h9) hown hK hG h0 rfl 7 (by decide) (tb_use hT tw_218) (fun _ h9 => h9) rfl dX13_code_1 ?_
  refine lv_ifnonnullN hx hb dX13_code_4 ?_
  refine lv_iconst (v := 0) hx hb dX13_code_7 (by decide) ?_
  exact W.iret (v := 0) hx hb hr (fun t ht hW => ⟨⟨_, _, rfl, ⟨rfl, rfl⟩, mk_end hG ht⟩, hS.F ht⟩) hS.2.2 dX13_code_8
