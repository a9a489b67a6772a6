set_option maxHeartbeats 4000000 in
set_option maxRecDepth 100000 in
theorem c_X2_findLayers_e (l : Launch) (D : va_G) (cy : Nat → ClassId) (A : Nat → Prop) (X : State → Prop) (hst : mk_St A X) (hXT : ∀ U : State, X U → TB U) (e0 : Nat) (tk : Nat → Nat) (hXE : ∀ U : State, X U → ES e0 tk A U) (G : Nat → Option va_E) (o l1 l2 l3 l4 l5 l6 nm : Nat) (h0 : G o = some (.inr (3, [.ref l1, .ref l2, .ref l3, .ref l4, .ref l5, .ref l6, .ref nm, .int 0, .null, .int (-1), .null]))) (h1 : G l1 = some (.inr (1, [.int 0, .ref e0, .int 0]))) (h2 : G l2 = some (.inr (1, [.int 0, .ref e0, .int 0]))) (h3 : G l3 = some (.inr (1, [.int 0, .ref e0, .int 0]))) (h4 : G l4 = some (.inr (1, [.int 0, .ref e0, .int 0]))) (h5 : G l5 = some (.inr (1, [.int 0, .ref e0, .int 0]))) (h6 : G l6 = some (.inr (1, [.int 0, .ref e0, .int 0]))) : Met l yX2_findLayers [.code yX2_findLayers cX2_findLayers 3 none] ({ frames := 1, cells := 0, slots := 0, locals := 30 }) (mk_Pre D vwCl (tyL cy) A X G [.ref o]) (va_Qv (fun (G2 : Nat → Option va_E) => G2 = G) (mk_B D vwCl A) A) 0 0 A := by
  refine Met.ofW (cc := cX2_findLayers) (maxL := 3) (ret := none) (by decide) rfl ?_
  intro p e s m args below meth c s₁ B hml hv
  obtain ⟨rfl, hG, hK, hA, hX⟩ := hv
  have hx := B.exec
  have hb := B.bytes
  have hr := B.returns
  have hlocks := B.notSynchronized
  have hT := hXT s hX
  have hown : s.vm.findClass RX2 = some m.cls := findClass_of_methodNamed B.named
  have hf_X2 : ∀ w ∈ u_ws RX2 TX2 11, w.before ([.ref o] : List Value).toArray s = true := tb_list hT fX2
  have hS : va_S A s.heap s.heap [] := va_S.rf
  have hE := hXE s hX
  have hl := lv_entry ([.ref o]) (n := 3) (Nat.le_of_ble_eq_true rfl)
  rw [lg_entry_eq]
  generalize (lg_sl ([.ref o]) ++ List.replicate (3 - (lg_sl ([.ref o])).length) Slot.unset).toArray = ls at hl ⊢
  have hl : lv_has ls 3 [(0, .ref o)] := hl
  refine lv_iconst (v := 0) hx hb dX2_findLayers_0 (by decide) ?_
  refine lv_istore_n (lv' := [(1, .int 0), (0, .ref o)]) hx hb dX2_findLayers_1 rfl hl (by decide) rfl (fun ls hl => ?_)
  refine lv_iload_n hx hb dX2_findLayers_2 rfl (lv_at hl 0 rfl) ?_
  refine lv_aload_n hx hb dX2_findLayers_3 rfl (lv_at hl 1 rfl) ?_
  refine mm_get (v := .ref l2) hx hb hf_X2 (fun _ h9 => h9) hown hK hG h0 rfl 1 (by decide) (tb_use hT tw_280) (fun _ h9 => h9) rfl dX2_findLayers_4 ?_
  refine va_calli (va_runV (As := []) (rest := [.int 0]) ⟨hx, hb, hml, hown, (fun _ h9 => absurd h9 List.not_mem_nil : ∀ w ∈ ([] : List Cond), w.before _ s = true)⟩ (c_Jx4a65c_size_8abf5 l D cy A X hst hXT e0 tk hXE G l2 0 0 (some e0) h2) (tb_cw (C := RJx4a65c) 0 hT tw_457 tw_113 tw_999 tw_455 tw_456 rfl rfl (by decide +kernel) ⟨Nat.le_of_ble_eq_true rfl, Nat.le_of_ble_eq_true rfl⟩) (mk_preV hst hG hK hA hX hS (ci := 1) rfl h2) rfl rfl hl.1 rfl (lv_room (Nat.le_of_ble_eq_true rfl)) dX2_findLayers_7 ⟨Nat.le_of_ble_eq_true rfl, Nat.le_of_ble_eq_true rfl⟩) hS (fun q _ h => h) (fun q h => h) (fun r1 G2 t H1 locs ht hvm hw hB hz1 hk1 hS => ?_)
  have hG : mm D vwCl A G2 H1 := by rw [← ht]; exact hB
  clear hB hz1 hk1 hvm ht
  generalize H1 = H at hG hS ⊢
  obtain ⟨er1, hw⟩ := hw
  rw [hw] at hG
  refine lv_icmp_ge (tgt := 97) hx hb dX2_findLayers_10 (by decide) (fun c_10 => ?_) (fun c_10 => ?_)
  · skip
    refine lv_iconst (v := 0) hx hb dX2_findLayers_97 (by decide) ?_
    refine lv_istore_n (lv' := [(1, .int 0), (0, .ref o)]) hx hb dX2_findLayers_98 rfl hl (by decide) rfl (fun ls hl => ?_)
    refine lv_iload_n hx hb dX2_findLayers_99 rfl (lv_at hl 0 rfl) ?_
    refine lv_aload_n hx hb dX2_findLayers_100 rfl (lv_at hl 1 rfl) ?_
    refine mm_get (v := .ref l2) hx hb hf_X2 (fun _ h9 => h9) hown hK hG h0 rfl 1 (by decide) (tb_use hT tw_280) (fun _ h9 => h9) rfl dX2_findLayers_101 ?_
    refine va_calli (va_runV (As := []) (rest := [.int 0]) ⟨hx, hb, hml, hown, (fun _ h9 => absurd h9 List.not_mem_nil : ∀ w ∈ ([] : List Cond), w.before _ s = true)⟩ (c_Jx4a65c_size_8abf5 l D cy A X hst hXT e0 tk hXE G l2 0 0 (some e0) h2) (tb_cw (C := RJx4a65c) 0 hT tw_457 tw_113 tw_999 tw_455 tw_456 rfl rfl (by decide +kernel) ⟨Nat.le_of_ble_eq_true rfl, Nat.le_of_ble_eq_true rfl⟩) (mk_preV hst hG hK hA hX hS (ci := 1) rfl h2) rfl rfl hl.1 rfl (lv_room (Nat.le_of_ble_eq_true rfl)) dX2_findLayers_104 ⟨Nat.le_of_ble_eq_true rfl, Nat.le_of_ble_eq_true rfl⟩) hS (fun q _ h => h) (fun q h => h) (fun r3 G4 t H1 locs ht hvm hw hB hz1 hk1 hS => ?_)
    have hG : mm D vwCl A G4 H1 := by rw [← ht]; exact hB
    clear hB hz1 hk1 hvm ht
    generalize H1 = H at hG hS ⊢
    obtain ⟨er3, hw⟩ := hw
    rw [hw] at hG
    refine lv_icmp_ge (tgt := 160) hx hb dX2_findLayers_107 (by decide) (fun c_107 => ?_) (fun c_107 => ?_)
    · skip
      exact W.vret hx hb hr (fun t ht hW => ⟨⟨_, rfl, rfl, mk_end hG ht⟩, hS.F ht⟩) hS.2.2 dX2_findLayers_160
    · skip
      exact absurd (by rw [er3]; decide) c_107
  · skip
    exact absurd (by rw [er1]; decide) c_10

set_option maxHeartbeats 4000000 in
set_option maxRecDepth 100000 in
theorem c_X2_expectNumbersOnce_e (l : Launch) (D : va_G) (cy : Nat → ClassId) (A : Nat → Prop) (X : State → Prop) (hst : mk_St A X) (hXT : ∀ U : State, X U → TB U) (e0 : Nat) (tk : Nat → Nat) (hXE : ∀ U : State, X U → ES e0 tk A U) (G : Nat → Option va_E) (o q : Nat) (h0 : G q = some (.inr (1, [.int 0, .ref e0, .int 0]))) : Met l yX2_expectNumbersOnce [.code yX2_expectNumbersOnce cX2_expectNumbersOnce 4 none] ({ frames := 1, cells := 0, slots := 0, locals := 30 }) (mk_Pre D vwCl (tyL cy) A X G [.ref o, .ref q]) (va_Qv (fun (G2 : Nat → Option va_E) => G2 = G) (mk_B D vwCl A) A) 0 0 A := by
  refine Met.ofW (cc := cX2_expectNumbersOnce) (maxL := 4) (ret := none) (by decide) rfl ?_
  intro p e s m args below meth c s₁ B hml hv
  obtain ⟨rfl, hG, hK, hA, hX⟩ := hv
  have hx := B.exec
  have hb := B.bytes
  have hr := B.returns
  have hlocks := B.notSynchronized
  have hT := hXT s hX
  have hown : s.vm.findClass RX2 = some m.cls := findClass_of_methodNamed B.named
  have hS : va_S A s.heap s.heap [] := va_S.rf
  have hE := hXE s hX
  have hl := lv_entry ([.ref o, .ref q]) (n := 4) (Nat.le_of_ble_eq_true rfl)
  rw [lg_entry_eq]
  generalize (lg_sl ([.ref o, .ref q]) ++ List.replicate (4 - (lg_sl ([.ref o, .ref q])).length) Slot.unset).toArray = ls at hl ⊢
  have hl : lv_has ls 4 [(0, .ref o), (1, .ref q)] := hl
  refine lv_iconst (v := 0) hx hb dX2_expectNumbersOnce_0 (by decide) ?_
  refine lv_istore_n (lv' := [(2, .int 0), (0, .ref o), (1, .ref q)]) hx hb dX2_expectNumbersOnce_1 rfl hl (by decide) rfl (fun ls hl => ?_)
  refine lv_iload_n hx hb dX2_expectNumbersOnce_2 rfl (lv_at hl 0 rfl) ?_
  refine lv_aload_n hx hb dX2_expectNumbersOnce_3 rfl (lv_at hl 2 rfl) ?_
  refine va_calli (va_runV (As := []) (rest := [.int 0]) ⟨hx, hb, hml, hown, (fun _ h9 => absurd h9 List.not_mem_nil : ∀ w ∈ ([] : List Cond), w.before _ s = true)⟩ (c_Jx4a65c_size_8abf5 l D cy A X hst hXT e0 tk hXE G q 0 0 (some e0) h0) (tb_cw (C := RJx4a65c) 0 hT tw_457 tw_113 tw_999 tw_455 tw_456 rfl rfl (by decide +kernel) ⟨Nat.le_of_ble_eq_true rfl, Nat.le_of_ble_eq_true rfl⟩) (mk_preV hst hG hK hA hX hS (ci := 1) rfl h0) rfl rfl hl.1 rfl (lv_room (Nat.le_of_ble_eq_true rfl)) dX2_expectNumbersOnce_4 ⟨Nat.le_of_ble_eq_true rfl, Nat.le_of_ble_eq_true rfl⟩) hS (fun q _ h => h) (fun q h => h) (fun r1 G2 t H1 locs ht hvm hw hB hz1 hk1 hS => ?_)
  have hG : mm D vwCl A G2 H1 := by rw [← ht]; exact hB
  clear hB hz1 hk1 hvm ht
  generalize H1 = H at hG hS ⊢
  obtain ⟨er1, hw⟩ := hw
  rw [hw] at hG
  refine lv_icmp_ge (tgt := 51) hx hb dX2_expectNumbersOnce_7 (by decide) (fun c_7 => ?_) (fun c_7 => ?_)
  · skip
    exact W.vret hx hb hr (fun t ht hW => ⟨⟨_, rfl, rfl, mk_end hG ht⟩, hS.F ht⟩) hS.2.2 dX2_expectNumbersOnce_51
  · skip
    exact absurd (by rw [er1]; decide) c_7

set_option maxHeartbeats 4000000 in
set_option maxRecDepth 100000 in
theorem c_X2_findVariants_e (l : Launch) (D : va_G) (cy : Nat → ClassId) (A : Nat → Prop) (X : State → Prop) (hst : mk_St A X) (hXT : ∀ U : State, X U → TB U) (e0 : Nat) (tk : Nat → Nat) (hXE : ∀ U : State, X U → ES e0 tk A U) (G : Nat → Option va_E) (o l1 l2 l3 l4 l5 l6 nm : Nat) (h0 : G o = some (.inr (3, [.ref l1, .ref l2, .ref l3, .ref l4, .ref l5, .ref l6, .ref nm, .int 0, .null, .int (-1), .null]))) (h1 : G l1 = some (.inr (1, [.int 0, .ref e0, .int 0]))) (h2 : G l2 = some (.inr (1, [.int 0, .ref e0, .int 0]))) (h3 : G l3 = some (.inr (1, [.int 0, .ref e0, .int 0]))) (h4 : G l4 = some (.inr (1, [.int 0, .ref e0, .int 0]))) (h5 : G l5 = some (.inr (1, [.int 0, .ref e0, .int 0]))) (h6 : G l6 = some (.inr (1, [.int 0, .ref e0, .int 0]))) : Met l yX2_findVariants [.code yX2_findVariants cX2_findVariants 3 none] ({ frames := 2, cells := 0, slots := 0, locals := 60 }) (mk_Pre D vwCl (tyL cy) A X G [.ref o]) (va_Qv (fun (G2 : Nat → Option va_E) => G2 = G) (mk_B D vwCl A) A) 0 0 A := by
  refine Met.ofW (cc := cX2_findVariants) (maxL := 3) (ret := none) (by decide) rfl ?_
  intro p e s m args below meth c s₁ B hml hv
  obtain ⟨rfl, hG, hK, hA, hX⟩ := hv
  have hx := B.exec
  have hb := B.bytes
  have hr := B.returns
  have hlocks := B.notSynchronized
  have hT := hXT s hX
  have hown : s.vm.findClass RX2 = some m.cls := findClass_of_methodNamed B.named
  have hf_X2 : ∀ w ∈ u_ws RX2 TX2 11, w.before ([.ref o] : List Value).toArray s = true := tb_list hT fX2
  have hS : va_S A s.heap s.heap [] := va_S.rf
  have hE := hXE s hX
  have hl := lv_entry ([.ref o]) (n := 3) (Nat.le_of_ble_eq_true rfl)
  rw [lg_entry_eq]
  generalize (lg_sl ([.ref o]) ++ List.replicate (3 - (lg_sl ([.ref o])).length) Slot.unset).toArray = ls at hl ⊢
  have hl : lv_has ls 3 [(0, .ref o)] := hl
  refine lv_aload_n hx hb dX2_findVariants_0 rfl (lv_at hl 0 rfl) ?_
  refine lv_aload_n hx hb dX2_findVariants_1 rfl (lv_at hl 0 rfl) ?_
  refine mm_get (v := .ref l5) hx hb hf_X2 (fun _ h9 => h9) hown hK hG h0 rfl 4 (by decide) (tb_use hT tw_289) (fun _ h9 => h9) rfl dX2_findVariants_2 ?_
  refine va_callv (va_runV (As := [.ref l5]) (rest := []) ⟨hx, hb, hml, hown, (fun _ h9 => absurd h9 List.not_mem_nil : ∀ w ∈ ([] : List Cond), w.before _ s = true)⟩ (c_X2_expectNumbersOnce_e l D cy A X hst hXT e0 tk hXE G o l5 h5) (tb_cw (C := RX2) 1 hT tw_1026 tw_110 tw_1023 tw_1025 tw_37 rfl rfl (by decide +kernel) ⟨Nat.le_of_ble_eq_true rfl, Nat.le_of_ble_eq_true rfl⟩) (mk_preV hst hG hK hA hX hS (ci := 3) rfl h0) rfl rfl hl.1 rfl (lv_room (Nat.le_of_ble_eq_true rfl)) dX2_findVariants_5 ⟨Nat.le_of_ble_eq_true rfl, Nat.le_of_ble_eq_true rfl⟩) hS (fun q _ h => h) (fun q h => h) (fun  G1 t H1 locs ht hvm hw hB hz1 hk1 hS => ?_)
  have hG : mm D vwCl A G1 H1 := by rw [← ht]; exact hB
  clear hB hz1 hk1 hvm ht
  generalize H1 = H at hG hS ⊢
  rw [hw] at hG
  refine lv_iconst (v := 0) hx hb dX2_findVariants_8 (by decide) ?_
  refine lv_istore_n (lv' := [(1, .int 0), (0, .ref o)]) hx hb dX2_findVariants_9 rfl hl (by decide) rfl (fun ls hl => ?_)
  refine lv_iload_n hx hb dX2_findVariants_10 rfl (lv_at hl 0 rfl) ?_
  refine lv_aload_n hx hb dX2_findVariants_11 rfl (lv_at hl 1 rfl) ?_
  refine mm_get (v := .ref l5) hx hb hf_X2 (fun _ h9 => h9) hown hK hG h0 rfl 4 (by decide) (tb_use hT tw_289) (fun _ h9 => h9) rfl dX2_findVariants_12 ?_
  refine va_calli (va_runV (As := []) (rest := [.int 0]) ⟨hx, hb, hml, hown, (fun _ h9 => absurd h9 List.not_mem_nil : ∀ w ∈ ([] : List Cond), w.before _ s = true)⟩ (c_Jx4a65c_size_8abf5 l D cy A X hst hXT e0 tk hXE G l5 0 0 (some e0) h5) (tb_cw (C := RJx4a65c) 0 hT tw_457 tw_113 tw_999 tw_455 tw_456 rfl rfl (by decide +kernel) ⟨Nat.le_of_ble_eq_true rfl, Nat.le_of_ble_eq_true rfl⟩) (mk_preV hst hG hK hA hX hS (ci := 1) rfl h5) rfl rfl hl.1 rfl (lv_room (Nat.le_of_ble_eq_true rfl)) dX2_findVariants_15 ⟨Nat.le_of_ble_eq_true rfl, Nat.le_of_ble_eq_true rfl⟩) hS (fun q _ h => h) (fun q h => h) (fun r2 G3 t H1 locs ht hvm hw hB hz1 hk1 hS => ?_)
  have hG : mm D vwCl A G3 H1 := by rw [← ht]; exact hB
  clear hB hz1 hk1 hvm ht
  generalize H1 = H at hG hS ⊢
  obtain ⟨er2, hw⟩ := hw
  rw [hw] at hG
  refine lv_icmp_ge (tgt := 71) hx hb dX2_findVariants_18 (by decide) (fun c_18 => ?_) (fun c_18 => ?_)
  · skip
    exact W.vret hx hb hr (fun t ht hW => ⟨⟨_, rfl, rfl, mk_end hG ht⟩, hS.F ht⟩) hS.2.2 dX2_findVariants_71
  · skip
    exact absurd (by rw [er2]; decide) c_18

set_option maxHeartbeats 4000000 in
set_option maxRecDepth 100000 in
theorem c_X2_findMeanings_e (l : Launch) (D : va_G) (cy : Nat → ClassId) (A : Nat → Prop) (X : State → Prop) (hst : mk_St A X) (hXT : ∀ U : State, X U → TB U) (e0 : Nat) (tk : Nat → Nat) (hXE : ∀ U : State, X U → ES e0 tk A U) (G : Nat → Option va_E) (o l1 l2 l3 l4 l5 l6 nm : Nat) (h0 : G o = some (.inr (3, [.ref l1, .ref l2, .ref l3, .ref l4, .ref l5, .ref l6, .ref nm, .int 0, .null, .int (-1), .null]))) (h1 : G l1 = some (.inr (1, [.int 0, .ref e0, .int 0]))) (h2 : G l2 = some (.inr (1, [.int 0, .ref e0, .int 0]))) (h3 : G l3 = some (.inr (1, [.int 0, .ref e0, .int 0]))) (h4 : G l4 = some (.inr (1, [.int 0, .ref e0, .int 0]))) (h5 : G l5 = some (.inr (1, [.int 0, .ref e0, .int 0]))) (h6 : G l6 = some (.inr (1, [.int 0, .ref e0, .int 0]))) : Met l yX2_findMeanings [.code yX2_findMeanings cX2_findMeanings 3 none] ({ frames := 3, cells := 0, slots := 0, locals := 90 }) (mk_Pre D vwCl (tyL cy) A X G [.ref o]) (va_Qv (fun (G2 : Nat → Option va_E) => G2 = G) (mk_B D vwCl A) A) 0 0 A := by
  refine Met.ofW (cc := cX2_findMeanings) (maxL := 3) (ret := none) (by decide) rfl ?_
  intro p e s m args below meth c s₁ B hml hv
  obtain ⟨rfl, hG, hK, hA, hX⟩ := hv
  have hx := B.exec
  have hb := B.bytes
  have hr := B.returns
  have hlocks := B.notSynchronized
  have hT := hXT s hX
  have hown : s.vm.findClass RX2 = some m.cls := findClass_of_methodNamed B.named
  have hf_X2 : ∀ w ∈ u_ws RX2 TX2 11, w.before ([.ref o] : List Value).toArray s = true := tb_list hT fX2
  have hS : va_S A s.heap s.heap [] := va_S.rf
  have hE := hXE s hX
  have hl := lv_entry ([.ref o]) (n := 3) (Nat.le_of_ble_eq_true rfl)
  rw [lg_entry_eq]
  generalize (lg_sl ([.ref o]) ++ List.replicate (3 - (lg_sl ([.ref o])).length) Slot.unset).toArray = ls at hl ⊢
  have hl : lv_has ls 3 [(0, .ref o)] := hl
  refine lv_aload_n hx hb dX2_findMeanings_0 rfl (lv_at hl 0 rfl) ?_
  refine va_callv (va_runV (As := []) (rest := []) ⟨hx, hb, hml, hown, (fun _ h9 => absurd h9 List.not_mem_nil : ∀ w ∈ ([] : List Cond), w.before _ s = true)⟩ (c_X2_findLayers_e l D cy A X hst hXT e0 tk hXE G o l1 l2 l3 l4 l5 l6 nm  h0 h1 h2 h3 h4 h5 h6) (tb_cw (C := RX2) 0 hT tw_998 tw_110 tw_995 tw_997 tw_32 rfl rfl (by decide +kernel) ⟨Nat.le_of_ble_eq_true rfl, Nat.le_of_ble_eq_true rfl⟩) (mk_preV hst hG hK hA hX hS (ci := 3) rfl h0) rfl rfl hl.1 rfl (lv_room (Nat.le_of_ble_eq_true rfl)) dX2_findMeanings_1 ⟨Nat.le_of_ble_eq_true rfl, Nat.le_of_ble_eq_true rfl⟩) hS (fun q _ h => h) (fun q h => h) (fun  G1 t H1 locs ht hvm hw hB hz1 hk1 hS => ?_)
  have hG : mm D vwCl A G1 H1 := by rw [← ht]; exact hB
  clear hB hz1 hk1 hvm ht
  generalize H1 = H at hG hS ⊢
  rw [hw] at hG
  refine lv_iconst (v := 0) hx hb dX2_findMeanings_4 (by decide) ?_
  refine lv_istore_n (lv' := [(1, .int 0), (0, .ref o)]) hx hb dX2_findMeanings_5 rfl hl (by decide) rfl (fun ls hl => ?_)
  refine lv_iload_n hx hb dX2_findMeanings_6 rfl (lv_at hl 0 rfl) ?_
  refine lv_aload_n hx hb dX2_findMeanings_7 rfl (lv_at hl 1 rfl) ?_
  refine mm_get (v := .ref l1) hx hb hf_X2 (fun _ h9 => h9) hown hK hG h0 rfl 0 (by decide) (tb_use hT tw_278) (fun _ h9 => h9) rfl dX2_findMeanings_8 ?_
  refine va_calli (va_runV (As := []) (rest := [.int 0]) ⟨hx, hb, hml, hown, (fun _ h9 => absurd h9 List.not_mem_nil : ∀ w ∈ ([] : List Cond), w.before _ s = true)⟩ (c_Jx4a65c_size_8abf5 l D cy A X hst hXT e0 tk hXE G l1 0 0 (some e0) h1) (tb_cw (C := RJx4a65c) 0 hT tw_457 tw_113 tw_999 tw_455 tw_456 rfl rfl (by decide +kernel) ⟨Nat.le_of_ble_eq_true rfl, Nat.le_of_ble_eq_true rfl⟩) (mk_preV hst hG hK hA hX hS (ci := 1) rfl h1) rfl rfl hl.1 rfl (lv_room (Nat.le_of_ble_eq_true rfl)) dX2_findMeanings_11 ⟨Nat.le_of_ble_eq_true rfl, Nat.le_of_ble_eq_true rfl⟩) hS (fun q _ h => h) (fun q h => h) (fun r2 G3 t H1 locs ht hvm hw hB hz1 hk1 hS => ?_)
  have hG : mm D vwCl A G3 H1 := by rw [← ht]; exact hB
  clear hB hz1 hk1 hvm ht
  generalize H1 = H at hG hS ⊢
  obtain ⟨er2, hw⟩ := hw
  rw [hw] at hG
  refine lv_icmp_ge (tgt := 68) hx hb dX2_findMeanings_14 (by decide) (fun c_14 => ?_) (fun c_14 => ?_)
  · skip
    refine lv_iconst (v := 0) hx hb dX2_findMeanings_68 (by decide) ?_
    refine lv_istore_n (lv' := [(1, .int 0), (0, .ref o)]) hx hb dX2_findMeanings_69 rfl hl (by decide) rfl (fun ls hl => ?_)
    refine lv_iload_n hx hb dX2_findMeanings_70 rfl (lv_at hl 0 rfl) ?_
    refine lv_aload_n hx hb dX2_findMeanings_71 rfl (lv_at hl 1 rfl) ?_
    refine mm_get (v := .ref l3) hx hb hf_X2 (fun _ h9 => h9) hown hK hG h0 rfl 2 (by decide) (tb_use hT tw_283) (fun _ h9 => h9) rfl dX2_findMeanings_72 ?_
    refine va_calli (va_runV (As := []) (rest := [.int 0]) ⟨hx, hb, hml, hown, (fun _ h9 => absurd h9 List.not_mem_nil : ∀ w ∈ ([] : List Cond), w.before _ s = true)⟩ (c_Jx4a65c_size_8abf5 l D cy A X hst hXT e0 tk hXE G l3 0 0 (some e0) h3) (tb_cw (C := RJx4a65c) 0 hT tw_457 tw_113 tw_999 tw_455 tw_456 rfl rfl (by decide +kernel) ⟨Nat.le_of_ble_eq_true rfl, Nat.le_of_ble_eq_true rfl⟩) (mk_preV hst hG hK hA hX hS (ci := 1) rfl h3) rfl rfl hl.1 rfl (lv_room (Nat.le_of_ble_eq_true rfl)) dX2_findMeanings_75 ⟨Nat.le_of_ble_eq_true rfl, Nat.le_of_ble_eq_true rfl⟩) hS (fun q _ h => h) (fun q h => h) (fun r4 G5 t H1 locs ht hvm hw hB hz1 hk1 hS => ?_)
    have hG : mm D vwCl A G5 H1 := by rw [← ht]; exact hB
    clear hB hz1 hk1 hvm ht
    generalize H1 = H at hG hS ⊢
    obtain ⟨er4, hw⟩ := hw
    rw [hw] at hG
    refine lv_icmp_ge (tgt := 133) hx hb dX2_findMeanings_78 (by decide) (fun c_78 => ?_) (fun c_78 => ?_)
    · skip
      refine lv_aload_n hx hb dX2_findMeanings_133 rfl (lv_at hl 1 rfl) ?_
      refine lv_aload_n hx hb dX2_findMeanings_134 rfl (lv_at hl 1 rfl) ?_
      refine mm_get (v := .ref l4) hx hb hf_X2 (fun _ h9 => h9) hown hK hG h0 rfl 3 (by decide) (tb_use hT tw_286) (fun _ h9 => h9) rfl dX2_findMeanings_135 ?_
      refine va_callv (va_runV (As := [.ref l4]) (rest := []) ⟨hx, hb, hml, hown, (fun _ h9 => absurd h9 List.not_mem_nil : ∀ w ∈ ([] : List Cond), w.before _ s = true)⟩ (c_X2_expectNumbersOnce_e l D cy A X hst hXT e0 tk hXE G o l4 h4) (tb_cw (C := RX2) 1 hT tw_1026 tw_110 tw_1023 tw_1025 tw_37 rfl rfl (by decide +kernel) ⟨Nat.le_of_ble_eq_true rfl, Nat.le_of_ble_eq_true rfl⟩) (mk_preV hst hG hK hA hX hS (ci := 3) rfl h0) rfl rfl hl.1 rfl (lv_room (Nat.le_of_ble_eq_true rfl)) dX2_findMeanings_138 ⟨Nat.le_of_ble_eq_true rfl, Nat.le_of_ble_eq_true rfl⟩) hS (fun q _ h => h) (fun q h => h) (fun  G6 t H1 locs ht hvm hw hB hz1 hk1 hS => ?_)
      have hG : mm D vwCl A G6 H1 := by rw [← ht]; exact hB
      clear hB hz1 hk1 hvm ht
      generalize H1 = H at hG hS ⊢
      rw [hw] at hG
      refine lv_aload_n hx hb dX2_findMeanings_141 rfl (lv_at hl 1 rfl) ?_
      refine va_callv (va_runV (As := []) (rest := []) ⟨hx, hb, hml, hown, (fun _ h9 => absurd h9 List.not_mem_nil : ∀ w ∈ ([] : List Cond), w.before _ s = true)⟩ (c_X2_findVariants_e l D cy A X hst hXT e0 tk hXE G o l1 l2 l3 l4 l5 l6 nm  h0 h1 h2 h3 h4 h5 h6) (tb_cw (C := RX2) 0 hT tw_1054 tw_110 tw_1051 tw_1053 tw_40 rfl rfl (by decide +kernel) ⟨Nat.le_of_ble_eq_true rfl, Nat.le_of_ble_eq_true rfl⟩) (mk_preV hst hG hK hA hX hS (ci := 3) rfl h0) rfl rfl hl.1 rfl (lv_room (Nat.le_of_ble_eq_true rfl)) dX2_findMeanings_142 ⟨Nat.le_of_ble_eq_true rfl, Nat.le_of_ble_eq_true rfl⟩) hS (fun q _ h => h) (fun q h => h) (fun  G7 t H1 locs ht hvm hw hB hz1 hk1 hS => ?_)
      have hG : mm D vwCl A G7 H1 := by rw [← ht]; exact hB
      clear hB hz1 hk1 hvm ht
      generalize H1 = H at hG hS ⊢
      rw [hw] at hG
      refine lv_iconst (v := 0) hx hb dX2_findMeanings_145 (by decide) ?_
      refine lv_istore_n (lv' := [(1, .int 0), (0, .ref o)]) hx hb dX2_findMeanings_146 rfl hl (by decide) rfl (fun ls hl => ?_)
      refine lv_iload_n hx hb dX2_findMeanings_147 rfl (lv_at hl 0 rfl) ?_
      refine lv_aload_n hx hb dX2_findMeanings_148 rfl (lv_at hl 1 rfl) ?_
      refine mm_get (v := .ref l6) hx hb hf_X2 (fun _ h9 => h9) hown hK hG h0 rfl 5 (by decide) (tb_use hT tw_291) (fun _ h9 => h9) rfl dX2_findMeanings_149 ?_
      refine va_calli (va_runV (As := []) (rest := [.int 0]) ⟨hx, hb, hml, hown, (fun _ h9 => absurd h9 List.not_mem_nil : ∀ w ∈ ([] : List Cond), w.before _ s = true)⟩ (c_Jx4a65c_size_8abf5 l D cy A X hst hXT e0 tk hXE G l6 0 0 (some e0) h6) (tb_cw (C := RJx4a65c) 0 hT tw_457 tw_113 tw_999 tw_455 tw_456 rfl rfl (by decide +kernel) ⟨Nat.le_of_ble_eq_true rfl, Nat.le_of_ble_eq_true rfl⟩) (mk_preV hst hG hK hA hX hS (ci := 1) rfl h6) rfl rfl hl.1 rfl (lv_room (Nat.le_of_ble_eq_true rfl)) dX2_findMeanings_152 ⟨Nat.le_of_ble_eq_true rfl, Nat.le_of_ble_eq_true rfl⟩) hS (fun q _ h => h) (fun q h => h) (fun r8 G9 t H1 locs ht hvm hw hB hz1 hk1 hS => ?_)
      have hG : mm D vwCl A G9 H1 := by rw [← ht]; exact hB
      clear hB hz1 hk1 hvm ht
      generalize H1 = H at hG hS ⊢
      obtain ⟨er8, hw⟩ := hw
      rw [hw] at hG
      refine lv_icmp_ge (tgt := 206) hx hb dX2_findMeanings_155 (by decide) (fun c_155 => ?_) (fun c_155 => ?_)
      · skip
        exact W.vret hx hb hr (fun t ht hW => ⟨⟨_, rfl, rfl, mk_end hG ht⟩, hS.F ht⟩) hS.2.2 dX2_findMeanings_206
      · skip
        exact absurd (by rw [er8]; decide) c_155
    · skip
      exact absurd (by rw [er4]; decide) c_78
  · skip
    exact absurd (by rw [er2]; decide) c_14

set_option maxHeartbeats 4000000 in
set_option maxRecDepth 100000 in
theorem c_X13_lineAt_e (l : Launch) (D : va_G) (cy : Nat → ClassId) (A : Nat → Prop) (X : State → Prop) (hst : mk_St A X) (hXT : ∀ U : State, X U → TB U) (e0 : Nat) (tk : Nat → Nat) (hXE : ∀ U : State, X U → ES e0 tk A U) (G : Nat → Option va_E) (o tx rd to se kp : Nat) (hd rg : Option Nat) (tl kc : Int32) (h0 : G o = some (.inr (14, [.ref tx, .ref rd, .ref to, .ref se, .ref kp, .int tl, .int kc, va_rf hd, va_rf rg]))) : Met l yX13_lineAt [.code yX13_lineAt cX13_lineAt 4 (some .int)] ({ frames := 0, cells := 0, slots := 0, locals := 0 }) (mk_Pre D vwCl (tyL cy) A X G [.ref o, .int (-1)]) (va_Qi (fun (r : Int32) (G2 : Nat → Option va_E) => r = 1 ∧ G2 = G) (mk_B D vwCl A) A) 0 0 A := by
  refine Met.ofW (cc := cX13_lineAt) (maxL := 4) (ret := (some .int)) (by decide) rfl ?_
  intro p e s m args below meth c s₁ B hml hv
  obtain ⟨rfl, hG, hK, hA, hX⟩ := hv
  have hx := B.exec
  have hb := B.bytes
  have hr := B.returns
  have hlocks := B.notSynchronized
  have hT := hXT s hX
  have hown : s.vm.findClass RX13 = some m.cls := findClass_of_methodNamed B.named
  have hS : va_S A s.heap s.heap [] := va_S.rf
  have hE := hXE s hX
  have hl := lv_entry ([.ref o, .int (-1)]) (n := 4) (Nat.le_of_ble_eq_true rfl)
  rw [lg_entry_eq]
  generalize (lg_sl ([.ref o, .int (-1)]) ++ List.replicate (4 - (lg_sl ([.ref o, .int (-1)])).length) Slot.unset).toArray = ls at hl ⊢
  have hl : lv_has ls 4 [(0, .ref o), (1, .int (-1))] := hl
  refine lv_iconst (v := 1) hx hb dX13_lineAt_0 (by decide) ?_
  refine lv_istore_n (lv' := [(2, .int 1), (0, .ref o), (1, .int (-1))]) hx hb dX13_lineAt_1 rfl hl (by decide) rfl (fun ls hl => ?_)
  refine lv_iconst (v := 0) hx hb dX13_lineAt_2 (by decide) ?_
  refine lv_istore_n (lv' := [(3, .int 0), (2, .int 1), (0, .ref o), (1, .int (-1))]) hx hb dX13_lineAt_3 rfl hl (by decide) rfl (fun ls hl => ?_)
  refine lv_iload_n hx hb dX13_lineAt_4 rfl (lv_at hl 0 rfl) ?_
  refine lv_iload_n hx hb dX13_lineAt_5 rfl (lv_at hl 3 rfl) ?_
  refine lv_icmp_ge (tgt := 37) hx hb dX13_lineAt_6 (by decide) (fun c_6 => ?_) (fun c_6 => ?_)
  · skip
    refine lv_iload_n hx hb dX13_lineAt_37 rfl (lv_at hl 1 rfl) ?_
    exact W.iret (v := 1) hx hb hr (fun t ht hW => ⟨⟨_, _, rfl, ⟨rfl, rfl⟩, mk_end hG ht⟩, hS.F ht⟩) hS.2.2 dX13_lineAt_38
  · skip
    exact absurd (by decide) c_6

set_option maxHeartbeats 4000000 in
set_option maxRecDepth 100000 in
theorem c_X13_take_e (l : Launch) (D : va_G) (cy : Nat → ClassId) (A : Nat → Prop) (X : State → Prop) (hst : mk_St A X) (hXT : ∀ U : State, X U → TB U) (e0 : Nat) (tk : Nat → Nat) (hXE : ∀ U : State, X U → ES e0 tk A U) (G : Nat → Option va_E) (o tx rd to se kp : Nat) (hd rg : Option Nat) (tl kc : Int32) (ev l1 l2 l3 l4 l5 l6 nm : Nat) (kf : Nat → Option Nat) (h0 : G o = some (.inr (14, [.ref tx, .ref rd, .ref to, .ref se, .ref kp, .int tl, .int kc, va_rf hd, va_rf rg]))) (h1 : G ev = some (.inr (3, [.ref l1, .ref l2, .ref l3, .ref l4, .ref l5, .ref l6, .ref nm, .int 0, .null, .int (-1), .null]))) (h2 : G l2 = some (.inr (1, [.int 0, .ref e0, .int 0]))) (h3 : G kp = some (.inl (cy 6, 4, .inr (.inr (.inr (.inr kf)))))) (hk0 : ¬ kc < 0) (hk4 : kc < 4) : Met l yX13_take [.code yX13_take cX13_take 2 none] ({ frames := 1, cells := 0, slots := 0, locals := 30 }) (mk_Pre D vwCl (tyL cy) A X G [.ref o, .ref ev]) (va_Qv (fun (G2 : Nat → Option va_E) => (∀ (x : Nat) (e : va_E), G x = some e → x ≠ o → x ≠ kp → G2 x = some e) ∧ True) (mk_B D vwCl A) A) 0 0 A := by
  refine Met.ofW (cc := cX13_take) (maxL := 2) (ret := none) (by decide) rfl ?_
  intro p e s m args below meth c s₁ B hml hv
  obtain ⟨rfl, hG, hK, hA, hX⟩ := hv
  have hx := B.exec
  have hb := B.bytes
  have hr := B.returns
  have hlocks := B.notSynchronized
  have hT := hXT s hX
  have hown : s.vm.findClass RX13 = some m.cls := findClass_of_methodNamed B.named
  have hf_X13 : ∀ w ∈ u_ws RX13 TX13 9, w.before ([.ref o, .ref ev] : List Value).toArray s = true := tb_list hT fX13
  have hf_X2 : ∀ w ∈ u_ws RX2 TX2 11, w.before ([.ref o, .ref ev] : List Value).toArray s = true := tb_list hT fX2
  have hS : va_S A s.heap s.heap [] := va_S.rf
  have hE := hXE s hX
  have hl := lv_entry ([.ref o, .ref ev]) (n := 2) (Nat.le_of_ble_eq_true rfl)
  rw [lg_entry_eq]
  generalize (lg_sl ([.ref o, .ref ev]) ++ List.replicate (2 - (lg_sl ([.ref o, .ref ev])).length) Slot.unset).toArray = ls at hl ⊢
  have hl : lv_has ls 2 [(0, .ref o), (1, .ref ev)] := hl
  refine lv_aload_n hx hb dX13_take_0 rfl (lv_at hl 0 rfl) ?_
  refine lv_aload_n hx hb dX13_take_1 rfl (lv_at hl 1 rfl) ?_
  refine mm_put (v := .ref ev) (ty := .object "DescribeText$Edition") hx hb hf_X13 (fun _ h9 => h9) tyX13 tyX13_ok nmX13 hown hK hG hS h0 rfl 7 (by decide) (tb_use hT tw_218) (fun _ h9 => h9) rfl (by decide +kernel) rfl rfl (Nat.le_of_ble_eq_true rfl) dX13_take_2 (fun H locs hG hS => ?_)
  obtain ⟨G1, eG1⟩ : ∃ g, g = mm_set G o (.inr (14, [.ref tx, .ref rd, .ref to, .ref se, .ref kp, .int tl, .int kc, .ref ev, va_rf rg])) := ⟨_, rfl⟩
  have hG : mm D vwCl A G1 H := by rw [eG1]; exact hG
  have k2 : G1 o = some (.inr (14, [.ref tx, .ref rd, .ref to, .ref se, .ref kp, .int tl, .int kc, .ref ev, va_rf rg])) := by rw [eG1]; exact mm_set_self
  have k3 : G1 ev = some (.inr (3, [.ref l1, .ref l2, .ref l3, .ref l4, .ref l5, .ref l6, .ref nm, .int 0, .null, .int (-1), .null])) := by rw [eG1]; exact mm_set_of h1 (mm_ne_oo h1 h0 (by decide))
  have k4 : G1 l2 = some (.inr (1, [.int 0, .ref e0, .int 0])) := by rw [eG1]; exact mm_set_of h2 (mm_ne_oo h2 h0 (by decide))
  have k5 : G1 kp = some (.inl (cy 6, 4, .inr (.inr (.inr (.inr kf))))) := by rw [eG1]; exact mm_set_of h3 (mm_ne_ao h3 h0)
  refine lv_aload_n hx hb dX13_take_5 rfl (lv_at hl 1 rfl) ?_
  refine mm_getN (v := .ref l2) hx hb hf_X2 (fun _ h9 => h9) hown hK hG k3 rfl 1 (by decide) (tb_use hT tw_282) (fun _ h9 => h9) rfl dX13_take_6 ?_
  refine va_calli (va_runV (As := []) (rest := []) ⟨hx, hb, hml, hown, (fun _ h9 => absurd h9 List.not_mem_nil : ∀ w ∈ ([] : List Cond), w.before _ s = true)⟩ (c_Jx4a65c_isEmpty_aae02 l D cy A X hst hXT e0 tk hXE G1 l2 0 0 (some e0) k4) (tb_cw (C := RJx4a65c) 0 hT tw_1081 tw_113 tw_1078 tw_1079 tw_1080 rfl rfl (by decide +kernel) ⟨Nat.le_of_ble_eq_true rfl, Nat.le_of_ble_eq_true rfl⟩) (mk_preV hst hG hK hA hX hS (ci := 1) rfl k4) rfl rfl hl.1 rfl (lv_room (Nat.le_of_ble_eq_true rfl)) dX13_take_9 ⟨Nat.le_of_ble_eq_true rfl, Nat.le_of_ble_eq_true rfl⟩) hS (fun q _ h => h) (fun q h => h) (fun r6 G7 t H1 locs ht hvm hw hB hz1 hk1 hS => ?_)
  have hG : mm D vwCl A G7 H1 := by rw [← ht]; exact hB
  clear hB hz1 hk1 hvm ht
  generalize H1 = H at hG hS ⊢
  obtain ⟨er6, hw⟩ := hw
  rw [hw] at hG
  refine lv_if_ne (tgt := 30) hx hb dX13_take_12 (by decide) (fun c_12 => ?_) (fun c_12 => ?_)
  · skip
    refine lv_aload_n hx hb dX13_take_30 rfl (lv_at hl 0 rfl) ?_
    refine mm_get (v := .int kc) hx hb hf_X13 (fun _ h9 => h9) hown hK hG k2 rfl 6 (by decide) (tb_use hT tw_217) (fun _ h9 => h9) rfl dX13_take_31 ?_
    refine lv_iconst (v := 4) hx hb dX13_take_34 (by decide) ?_
    refine lv_icmp_ge (tgt := 58) hx hb dX13_take_35 (by decide) (fun c_35 => ?_) (fun c_35 => ?_)
    · skip
      exact absurd hk4 (Int32.not_lt.mpr c_35)
    · skip
      refine lv_aload_n hx hb dX13_take_38 rfl (lv_at hl 0 rfl) ?_
      refine mm_get (v := .ref kp) hx hb hf_X13 (fun _ h9 => h9) hown hK hG k2 rfl 4 (by decide) (tb_use hT tw_215) (fun _ h9 => h9) rfl dX13_take_39 ?_
      refine lv_aload_n hx hb dX13_take_42 rfl (lv_at hl 0 rfl) ?_
      refine mm_get (v := .int kc) hx hb hf_X13 (fun _ h9 => h9) hown hK hG k2 rfl 6 (by decide) (tb_use hT tw_217) (fun _ h9 => h9) rfl dX13_take_43 ?_
      refine lv_aload_n hx hb dX13_take_46 rfl (lv_at hl 1 rfl) ?_
      refine mm_aast hx hb hK hG hS 6 3 k5 rfl k3 rfl (vp_in_lt hk0 hk4 rfl) dX13_take_47 (fun H locs hG hS => ?_)
      obtain ⟨G8, eG8⟩ : ∃ g, g = mm_set G1 kp (.inl (cy 6, 4, .inr (.inr (.inr (.inr (va_up kf kc.toNatClampNeg (some ev))))))) := ⟨_, rfl⟩
      have hG : mm D vwCl A G8 H := by rw [eG8]; exact hG
      have k9 : G8 o = some (.inr (14, [.ref tx, .ref rd, .ref to, .ref se, .ref kp, .int tl, .int kc, .ref ev, va_rf rg])) := by rw [eG8]; exact mm_set_of k2 (mm_ne_oa k2 k5)
      have k10 : G8 ev = some (.inr (3, [.ref l1, .ref l2, .ref l3, .ref l4, .ref l5, .ref l6, .ref nm, .int 0, .null, .int (-1), .null])) := by rw [eG8]; exact mm_set_of k3 (mm_ne_oa k3 k5)
      have k11 : G8 l2 = some (.inr (1, [.int 0, .ref e0, .int 0])) := by rw [eG8]; exact mm_set_of k4 (mm_ne_oa k4 k5)
      have k12 : G8 kp = some (.inl (cy 6, 4, .inr (.inr (.inr (.inr (va_up kf kc.toNatClampNeg (some ev))))))) := by rw [eG8]; exact mm_set_self
      refine lv_aload_n hx hb dX13_take_48 rfl (lv_at hl 0 rfl) ?_
      refine lv_dup hx hb dX13_take_49 rfl ?_
      refine mm_get (v := .int kc) hx hb hf_X13 (fun _ h9 => h9) hown hK hG k9 rfl 6 (by decide) (tb_use hT tw_217) (fun _ h9 => h9) rfl dX13_take_50 ?_
      refine lv_iconst (v := 1) hx hb dX13_take_53 (by decide) ?_
      refine lv_iadd hx hb dX13_take_54 ?_
      refine lv_topi (fun x13 ex13 => ?_)
      refine mm_put (v := .int x13) (ty := .int) hx hb hf_X13 (fun _ h9 => h9) tyX13 tyX13_ok nmX13 hown hK hG hS k9 rfl 6 (by decide) (tb_use hT tw_217) (fun _ h9 => h9) rfl (by decide +kernel) rfl rfl (Nat.le_of_ble_eq_true rfl) dX13_take_55 (fun H locs hG hS => ?_)
      obtain ⟨G14, eG14⟩ : ∃ g, g = mm_set G8 o (.inr (14, [.ref tx, .ref rd, .ref to, .ref se, .ref kp, .int tl, .int x13, .ref ev, va_rf rg])) := ⟨_, rfl⟩
      have hG : mm D vwCl A G14 H := by rw [eG14]; exact hG
      have k15 : G14 o = some (.inr (14, [.ref tx, .ref rd, .ref to, .ref se, .ref kp, .int tl, .int x13, .ref ev, va_rf rg])) := by rw [eG14]; exact mm_set_self
      have k16 : G14 ev = some (.inr (3, [.ref l1, .ref l2, .ref l3, .ref l4, .ref l5, .ref l6, .ref nm, .int 0, .null, .int (-1), .null])) := by rw [eG14]; exact mm_set_of k10 (mm_ne_oo k10 k9 (by decide))
      have k17 : G14 l2 = some (.inr (1, [.int 0, .ref e0, .int 0])) := by rw [eG14]; exact mm_set_of k11 (mm_ne_oo k11 k9 (by decide))
      have k18 : G14 kp = some (.inl (cy 6, 4, .inr (.inr (.inr (.inr (va_up kf kc.toNatClampNeg (some ev))))))) := by rw [eG14]; exact mm_set_of k12 (mm_ne_ao k12 k9)
      have hfr : ∀ (x : Nat) (e : va_E), G x = some e → x ≠ o → x ≠ kp → G14 x = some e := by
        intro x e z0 n_o n_kp
        have z1 : G1 x = some e := by rw [eG1]; exact mm_set_of z0 n_o
        have z2 : G8 x = some e := by rw [eG8]; exact mm_set_of z1 n_kp
        have z3 : G14 x = some e := by rw [eG14]; exact mm_set_of z2 n_o
        exact z3
      exact W.vret hx hb hr (fun t ht hW => ⟨⟨_, rfl, ⟨hfr, trivial⟩, mk_end hG ht⟩, hS.F ht⟩) hS.2.2 dX13_take_58
  · skip
    exact absurd (by rw [er6] at c_12; exact c_12) (by decide)
