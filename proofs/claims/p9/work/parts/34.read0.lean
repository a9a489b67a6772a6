set_option maxHeartbeats 4000000 in
set_option maxRecDepth 100000 in
theorem c_X13_read_e (l : Launch) (D : va_G) (cy : Nat → ClassId) (A : Nat → Prop) (X : State → Prop) (hst : mk_St A X) (hXT : ∀ U : State, X U → TB U) (e0 : Nat) (tk : Nat → Nat) (hXE : ∀ U : State, X U → ES e0 tk A U) (G : Nat → Option va_E) (o tx rd to se kp tk_ ow ks ss vs : Nat) (h0 : G o = some (.inr (14, [.ref tx, .ref rd, .ref to, .ref se, .ref kp, .int 0, .int 0, .null, .null]))) (h1 : G tx = some (.inl (cy 0, 2000, .inl (fun _ => 0)))) (h2 : G rd = some (.inr (10, [.ref tk_, .ref ow, .null, .int 0, .int 0]))) (h3 : G kp = some (.inl (cy 6, 4, .inr (.inr (.inr (.inr (fun _ => none))))))) (h4 : G tk_ = some (.inr (13, [.ref ks, .ref ss, .ref vs, .int 0]))) (h5 : G ks = some (.inl (cy 5, 2001, .inr (.inr (.inr (.inr (fun _ => none))))))) (h6 : G ss = some (.inl (cy 1, 2001, .inl (fun _ => 0)))) (h7 : G vs = some (.inl (cy 2, 2001, .inr (.inl (fun _ => 0))))) : Met l yX13_read [.code yX13_read cX13_read 4 (some .int)] ({ frames := 5, cells := 8, slots := 37, locals := 240 }) (mk_Pre D vwCl (tyL cy) A X G [.ref o]) (va_Qi (fun (r : Int32) (G2 : Nat → Option va_E) => r = 0 ∧ ∀ (x : Nat) (e : va_E), G x = some e → x ≠ o → x ≠ rd → x ≠ tk_ → x ≠ ks → x ≠ ss → x ≠ vs → x ≠ kp → G2 x = some e) (mk_B D vwCl A) A) 8 37 A := by
  refine Met.ofW (cc := cX13_read) (maxL := 4) (ret := (some .int)) (by decide) rfl ?_
  intro p e s m args below meth c s₁ B hml hv
  obtain ⟨rfl, hG, hK, hA, hX⟩ := hv
  have hx := B.exec
  have hb := B.bytes
  have hr := B.returns
  have hlocks := B.notSynchronized
  have hT := hXT s hX
  have hown : s.vm.findClass RX13 = some m.cls := findClass_of_methodNamed B.named
  have hf_X2 : ∀ w ∈ u_ws RX2 TX2 11, w.before ([.ref o] : List Value).toArray s = true := tb_list hT fX2
  have hf_X13 : ∀ w ∈ u_ws RX13 TX13 9, w.before ([.ref o] : List Value).toArray s = true := tb_list hT fX13
  have hS : va_S A s.heap s.heap [] := va_S.rf
  have hE := hXE s hX
  have hl := lv_entry ([.ref o]) (n := 4) (Nat.le_of_ble_eq_true rfl)
  rw [lg_entry_eq]
  generalize (lg_sl ([.ref o]) ++ List.replicate (4 - (lg_sl ([.ref o])).length) Slot.unset).toArray = ls at hl ⊢
  have hl : lv_has ls 4 [(0, .ref o)] := hl
  refine mm_new (ci := 3) (fs := [.null, .null, .null, .null, .null, .null, .null, .int 0, .null, .int 0, .null]) hx hb hf_X2 (fun _ h9 => h9) tyX2 tyX2_ok hown (tb_use hT tw_209) (tb_use hT tw_247) (tb_use hT tw_110) hK hG hS hA rfl (fun j hj => by rcases (show j = 0 ∨ j = 1 ∨ j = 2 ∨ j = 3 ∨ j = 4 ∨ j = 5 ∨ j = 6 ∨ j = 7 ∨ j = 8 ∨ j = 9 ∨ j = 10 by omega) with rfl | rfl | rfl | rfl | rfl | rfl | rfl | rfl | rfl | rfl | rfl <;> rfl) (by exact Nat.le_of_ble_eq_true rfl) (by exact Nat.le_of_ble_eq_true rfl) dX13_read_0 (fun q1 H hn_q1 hG hS => ?_)
  obtain ⟨G2, eG2⟩ : ∃ g, g = mm_set G q1 (.inr (3, [.null, .null, .null, .null, .null, .null, .null, .int 0, .null, .int 0, .null])) := ⟨_, rfl⟩
  have hG : mm D vwCl A G2 H := by rw [eG2]; exact hG
  have k3 : G2 o = some (.inr (14, [.ref tx, .ref rd, .ref to, .ref se, .ref kp, .int 0, .int 0, .null, .null])) := by rw [eG2]; exact mm_set_new h0 hn_q1
  have k4 : G2 tx = some (.inl (cy 0, 2000, .inl (fun _ => 0))) := by rw [eG2]; exact mm_set_new h1 hn_q1
  have k5 : G2 rd = some (.inr (10, [.ref tk_, .ref ow, .null, .int 0, .int 0])) := by rw [eG2]; exact mm_set_new h2 hn_q1
  have k6 : G2 kp = some (.inl (cy 6, 4, .inr (.inr (.inr (.inr (fun _ => none)))))) := by rw [eG2]; exact mm_set_new h3 hn_q1
  have k7 : G2 tk_ = some (.inr (13, [.ref ks, .ref ss, .ref vs, .int 0])) := by rw [eG2]; exact mm_set_new h4 hn_q1
  have k8 : G2 ks = some (.inl (cy 5, 2001, .inr (.inr (.inr (.inr (fun _ => none)))))) := by rw [eG2]; exact mm_set_new h5 hn_q1
  have k9 : G2 ss = some (.inl (cy 1, 2001, .inl (fun _ => 0))) := by rw [eG2]; exact mm_set_new h6 hn_q1
  have k10 : G2 vs = some (.inl (cy 2, 2001, .inr (.inl (fun _ => 0)))) := by rw [eG2]; exact mm_set_new h7 hn_q1
  have k11 : G2 q1 = some (.inr (3, [.null, .null, .null, .null, .null, .null, .null, .int 0, .null, .int 0, .null])) := by rw [eG2]; exact mm_set_self
  refine lv_dup hx hb dX13_read_3 rfl ?_
  refine va_callv (va_runIN (As := []) (rest := [.ref q1]) ⟨hx, hb, hml, hown, (fun _ h9 => absurd h9 List.not_mem_nil : ∀ w ∈ ([] : List Cond), w.before _ s = true)⟩ (c_X2_init l D cy A X hst hXT e0 tk hXE G2 q1 k11) ⟨tb_cn (host := "DescribeText") 0 hT tw_250 tw_110 tw_248 rfl rfl (by decide +kernel) ⟨Nat.le_of_ble_eq_true rfl, Nat.le_of_ble_eq_true rfl⟩, rfl, (tb_use hT tw_249)⟩ (mk_preS hst hG hK hA hX hS) rfl rfl hl.1 rfl (lv_room (Nat.le_of_ble_eq_true rfl)) dX13_read_4 ⟨Nat.le_of_ble_eq_true rfl, Nat.le_of_ble_eq_true rfl⟩) hS (fun q _ h => h) (fun q h => h) (fun  G12 t H1 locs ht hvm hw hB hz1 hk1 hS => ?_)
  have hG : mm D vwCl A G12 H1 := by rw [← ht]; exact hB
  clear hB hz1 hk1 hvm ht
  generalize H1 = H at hG hS ⊢
  obtain ⟨l1, l2, l3, l4, l5, l6, nm, h13_o, h13_1, h13_2, h13_3, h13_4, h13_5, h13_6, h13_7, h13_f⟩ := hw
  have k14 : G12 o = some (.inr (14, [.ref tx, .ref rd, .ref to, .ref se, .ref kp, .int 0, .int 0, .null, .null])) := h13_f _ _ k3 (mm_ne_oo k3 k11 (by decide))
  have k15 : G12 tx = some (.inl (cy 0, 2000, .inl (fun _ => 0))) := h13_f _ _ k4 (mm_ne_ao k4 k11)
  have k16 : G12 rd = some (.inr (10, [.ref tk_, .ref ow, .null, .int 0, .int 0])) := h13_f _ _ k5 (mm_ne_oo k5 k11 (by decide))
  have k17 : G12 kp = some (.inl (cy 6, 4, .inr (.inr (.inr (.inr (fun _ => none)))))) := h13_f _ _ k6 (mm_ne_ao k6 k11)
  have k18 : G12 tk_ = some (.inr (13, [.ref ks, .ref ss, .ref vs, .int 0])) := h13_f _ _ k7 (mm_ne_oo k7 k11 (by decide))
  have k19 : G12 ks = some (.inl (cy 5, 2001, .inr (.inr (.inr (.inr (fun _ => none)))))) := h13_f _ _ k8 (mm_ne_ao k8 k11)
  have k20 : G12 ss = some (.inl (cy 1, 2001, .inl (fun _ => 0))) := h13_f _ _ k9 (mm_ne_ao k9 k11)
  have k21 : G12 vs = some (.inl (cy 2, 2001, .inr (.inl (fun _ => 0)))) := h13_f _ _ k10 (mm_ne_ao k10 k11)
  refine lv_astore_n (lv' := [(1, .ref q1), (0, .ref o)]) hx hb dX13_read_7 rfl hl (by decide) rfl (fun ls hl => ?_)
  refine lv_aload_n hx hb dX13_read_8 rfl (lv_at hl 1 rfl) ?_
  refine lv_null hx hb dX13_read_9 ?_
  refine mm_put (v := .null) (ty := .object "DescribeText$Layer") hx hb hf_X13 (fun _ h9 => h9) tyX13 tyX13_ok nmX13 hown hK hG hS k14 rfl 8 (by decide) (tb_use hT tw_219) (fun _ h9 => h9) rfl (by decide +kernel) rfl rfl (Nat.le_of_ble_eq_true rfl) dX13_read_10 (fun H locs hG hS => ?_)
  obtain ⟨G22, eG22⟩ : ∃ g, g = mm_set G12 o (.inr (14, [.ref tx, .ref rd, .ref to, .ref se, .ref kp, .int 0, .int 0, .null, .null])) := ⟨_, rfl⟩
  have hG : mm D vwCl A G22 H := by rw [eG22]; exact hG
  have k23 : G22 o = some (.inr (14, [.ref tx, .ref rd, .ref to, .ref se, .ref kp, .int 0, .int 0, .null, .null])) := by rw [eG22]; exact mm_set_self
  have k24 : G22 tx = some (.inl (cy 0, 2000, .inl (fun _ => 0))) := by rw [eG22]; exact mm_set_of k15 (mm_ne_ao k15 k14)
  have k25 : G22 rd = some (.inr (10, [.ref tk_, .ref ow, .null, .int 0, .int 0])) := by rw [eG22]; exact mm_set_of k16 (mm_ne_oo k16 k14 (by decide))
  have k26 : G22 kp = some (.inl (cy 6, 4, .inr (.inr (.inr (.inr (fun _ => none)))))) := by rw [eG22]; exact mm_set_of k17 (mm_ne_ao k17 k14)
  have k27 : G22 tk_ = some (.inr (13, [.ref ks, .ref ss, .ref vs, .int 0])) := by rw [eG22]; exact mm_set_of k18 (mm_ne_oo k18 k14 (by decide))
  have k28 : G22 ks = some (.inl (cy 5, 2001, .inr (.inr (.inr (.inr (fun _ => none)))))) := by rw [eG22]; exact mm_set_of k19 (mm_ne_ao k19 k14)
  have k29 : G22 ss = some (.inl (cy 1, 2001, .inl (fun _ => 0))) := by rw [eG22]; exact mm_set_of k20 (mm_ne_ao k20 k14)
  have k30 : G22 vs = some (.inl (cy 2, 2001, .inr (.inl (fun _ => 0)))) := by rw [eG22]; exact mm_set_of k21 (mm_ne_ao k21 k14)
  have k31 : G22 q1 = some (.inr (3, [.ref l1, .ref l2, .ref l3, .ref l4, .ref l5, .ref l6, .ref nm, .int 0, .null, .int (-1), .null])) := by rw [eG22]; exact mm_set_of h13_o (mm_ne_oo h13_o k14 (by decide))
  have k32 : G22 nm = some (.inl (cy 2, 8, .inr (.inl (fun _ => 0)))) := by rw [eG22]; exact mm_set_of h13_7 (mm_ne_ao h13_7 k14)
  have k33 : G22 l1 = some (.inr (1, [.int 0, .ref e0, .int 0])) := by rw [eG22]; exact mm_set_of h13_1 (mm_ne_oo h13_1 k14 (by decide))
  have k34 : G22 l2 = some (.inr (1, [.int 0, .ref e0, .int 0])) := by rw [eG22]; exact mm_set_of h13_2 (mm_ne_oo h13_2 k14 (by decide))
  have k35 : G22 l3 = some (.inr (1, [.int 0, .ref e0, .int 0])) := by rw [eG22]; exact mm_set_of h13_3 (mm_ne_oo h13_3 k14 (by decide))
  have k36 : G22 l4 = some (.inr (1, [.int 0, .ref e0, .int 0])) := by rw [eG22]; exact mm_set_of h13_4 (mm_ne_oo h13_4 k14 (by decide))
  have k37 : G22 l5 = some (.inr (1, [.int 0, .ref e0, .int 0])) := by rw [eG22]; exact mm_set_of h13_5 (mm_ne_oo h13_5 k14 (by decide))
  have k38 : G22 l6 = some (.inr (1, [.int 0, .ref e0, .int 0])) := by rw [eG22]; exact mm_set_of h13_6 (mm_ne_oo h13_6 k14 (by decide))
  refine lv_aload_n hx hb dX13_read_13 rfl (lv_at hl 1 rfl) ?_
  refine mm_get (v := .ref rd) hx hb hf_X13 (fun _ h9 => h9) hown hK hG k23 rfl 1 (by decide) (tb_use hT tw_212) (fun _ h9 => h9) rfl dX13_read_14 ?_
  refine lv_aload_n hx hb dX13_read_17 rfl (lv_at hl 0 rfl) ?_
  refine lv_aload_n hx hb dX13_read_18 rfl (lv_at hl 1 rfl) ?_
  refine mm_get (v := .ref tx) hx hb hf_X13 (fun _ h9 => h9) hown hK hG k23 rfl 0 (by decide) (tb_use hT tw_211) (fun _ h9 => h9) rfl dX13_read_19 ?_
  refine lv_aload_n hx hb dX13_read_22 rfl (lv_at hl 1 rfl) ?_
  refine mm_get (v := .int 0) hx hb hf_X13 (fun _ h9 => h9) hown hK hG k23 rfl 5 (by decide) (tb_use hT tw_216) (fun _ h9 => h9) rfl dX13_read_23 ?_
  refine va_calli (va_runV (As := [.ref q1, .ref tx, .int 0]) (rest := []) ⟨hx, hb, hml, hown, (fun _ h9 => absurd h9 List.not_mem_nil : ∀ w ∈ ([] : List Cond), w.before _ s = true)⟩ (c_X9_fill_e l D cy A X hst hXT e0 tk hXE G22 rd ow tk_ ks ss vs tx q1 none 0 0 0 (fun _ => none) (fun _ => 0) (fun _ => 0) (fun _ => 0) k25 k27 k28 k29 k30 k24) (tb_cw (C := RX9) 3 hT tw_328 tw_106 tw_325 tw_326 tw_327 rfl rfl (by decide +kernel) ⟨Nat.le_of_ble_eq_true rfl, Nat.le_of_ble_eq_true rfl⟩) (mk_preV hst hG hK hA hX hS (ci := 10) rfl k25) rfl rfl hl.1 rfl (lv_room (Nat.le_of_ble_eq_true rfl)) dX13_read_26 ⟨Nat.le_of_ble_eq_true rfl, Nat.le_of_ble_eq_true rfl⟩) hS (fun q _ h => h) (fun q h => h) (fun r39 G40 t H1 locs ht hvm hw hB hz1 hk1 hS => ?_)
  have hG : mm D vwCl A G40 H1 := by rw [← ht]; exact hB
  clear hB hz1 hk1 hvm ht
  generalize H1 = H at hG hS ⊢
  obtain ⟨er39, h41_f⟩ := hw
  have k42 : G40 o = some (.inr (14, [.ref tx, .ref rd, .ref to, .ref se, .ref kp, .int 0, .int 0, .null, .null])) := h41_f _ _ k23 (mm_ne_oo k23 k25 (by decide)) (mm_ne_oo k23 k27 (by decide)) (mm_ne_oa k23 k28) (mm_ne_oa k23 k29) (mm_ne_oa k23 k30)
  have k43 : G40 tx = some (.inl (cy 0, 2000, .inl (fun _ => 0))) := h41_f _ _ k24 (mm_ne_ao k24 k25) (mm_ne_ao k24 k27) (mm_ne_e k24 k28 (fun z => by have z2 := (Prod.mk.inj (Prod.mk.inj (Sum.inl.inj z)).2).2; cases z2)) (mm_ne_n k24 k29 (by decide)) (mm_ne_e k24 k30 (fun z => by have z2 := (Prod.mk.inj (Prod.mk.inj (Sum.inl.inj z)).2).2; cases z2))
  have k44 : G40 kp = some (.inl (cy 6, 4, .inr (.inr (.inr (.inr (fun _ => none)))))) := h41_f _ _ k26 (mm_ne_ao k26 k25) (mm_ne_ao k26 k27) (mm_ne_n k26 k28 (by decide)) (mm_ne_e k26 k29 (fun z => by have z2 := (Prod.mk.inj (Prod.mk.inj (Sum.inl.inj z)).2).2; cases z2)) (mm_ne_e k26 k30 (fun z => by have z2 := (Prod.mk.inj (Prod.mk.inj (Sum.inl.inj z)).2).2; cases z2))
  have k45 : G40 q1 = some (.inr (3, [.ref l1, .ref l2, .ref l3, .ref l4, .ref l5, .ref l6, .ref nm, .int 0, .null, .int (-1), .null])) := h41_f _ _ k31 (mm_ne_oo k31 k25 (by decide)) (mm_ne_oo k31 k27 (by decide)) (mm_ne_oa k31 k28) (mm_ne_oa k31 k29) (mm_ne_oa k31 k30)
  have k46 : G40 nm = some (.inl (cy 2, 8, .inr (.inl (fun _ => 0)))) := h41_f _ _ k32 (mm_ne_ao k32 k25) (mm_ne_ao k32 k27) (mm_ne_e k32 k28 (fun z => by have z2 := (Prod.mk.inj (Prod.mk.inj (Sum.inl.inj z)).2).2; cases z2)) (mm_ne_e k32 k29 (fun z => by have z2 := (Prod.mk.inj (Prod.mk.inj (Sum.inl.inj z)).2).2; cases z2)) (mm_ne_n k32 k30 (by decide))
  have k47 : G40 l1 = some (.inr (1, [.int 0, .ref e0, .int 0])) := h41_f _ _ k33 (mm_ne_oo k33 k25 (by decide)) (mm_ne_oo k33 k27 (by decide)) (mm_ne_oa k33 k28) (mm_ne_oa k33 k29) (mm_ne_oa k33 k30)
  have k48 : G40 l2 = some (.inr (1, [.int 0, .ref e0, .int 0])) := h41_f _ _ k34 (mm_ne_oo k34 k25 (by decide)) (mm_ne_oo k34 k27 (by decide)) (mm_ne_oa k34 k28) (mm_ne_oa k34 k29) (mm_ne_oa k34 k30)
  have k49 : G40 l3 = some (.inr (1, [.int 0, .ref e0, .int 0])) := h41_f _ _ k35 (mm_ne_oo k35 k25 (by decide)) (mm_ne_oo k35 k27 (by decide)) (mm_ne_oa k35 k28) (mm_ne_oa k35 k29) (mm_ne_oa k35 k30)
  have k50 : G40 l4 = some (.inr (1, [.int 0, .ref e0, .int 0])) := h41_f _ _ k36 (mm_ne_oo k36 k25 (by decide)) (mm_ne_oo k36 k27 (by decide)) (mm_ne_oa k36 k28) (mm_ne_oa k36 k29) (mm_ne_oa k36 k30)
  have k51 : G40 l5 = some (.inr (1, [.int 0, .ref e0, .int 0])) := h41_f _ _ k37 (mm_ne_oo k37 k25 (by decide)) (mm_ne_oo k37 k27 (by decide)) (mm_ne_oa k37 k28) (mm_ne_oa k37 k29) (mm_ne_oa k37 k30)
  have k52 : G40 l6 = some (.inr (1, [.int 0, .ref e0, .int 0])) := h41_f _ _ k38 (mm_ne_oo k38 k25 (by decide)) (mm_ne_oo k38 k27 (by decide)) (mm_ne_oa k38 k28) (mm_ne_oa k38 k29) (mm_ne_oa k38 k30)
  refine lv_istore_n (lv' := [(2, .int r39), (1, .ref q1), (0, .ref o)]) hx hb dX13_read_29 rfl hl (by decide) rfl (fun ls hl => ?_)
  refine lv_iload_n hx hb dX13_read_30 rfl (lv_at hl 0 rfl) ?_
  refine lv_if_ge (tgt := 51) hx hb dX13_read_31 (by decide) (fun c_31 => ?_) (fun c_31 => ?_)
  · skip
    exact absurd (by rw [er39] at c_31; exact c_31) (by decide)
  · skip
    refine lv_aload_n hx hb dX13_read_34 rfl (lv_at hl 1 rfl) ?_
    refine va_callv (va_runV (As := []) (rest := []) ⟨hx, hb, hml, hown, (fun _ h9 => absurd h9 List.not_mem_nil : ∀ w ∈ ([] : List Cond), w.before _ s = true)⟩ (c_X2_findMeanings_e l D cy A X hst hXT e0 tk hXE G40 q1 l1 l2 l3 l4 l5 l6 nm k45 k47 k48 k49 k50 k51 k52) (tb_cw (C := RX2) 0 hT tw_994 tw_110 tw_991 tw_992 tw_993 rfl rfl (by decide +kernel) ⟨Nat.le_of_ble_eq_true rfl, Nat.le_of_ble_eq_true rfl⟩) (mk_preV hst hG hK hA hX hS (ci := 3) rfl k45) rfl rfl hl.1 rfl (lv_room (Nat.le_of_ble_eq_true rfl)) dX13_read_35 ⟨Nat.le_of_ble_eq_true rfl, Nat.le_of_ble_eq_true rfl⟩) hS (fun q _ h => h) (fun q h => h) (fun  G53 t H1 locs ht hvm hw hB hz1 hk1 hS => ?_)
    have hG : mm D vwCl A G53 H1 := by rw [← ht]; exact hB
    clear hB hz1 hk1 hvm ht
    generalize H1 = H at hG hS ⊢
    rw [hw] at hG
    refine lv_aload_n hx hb dX13_read_38 rfl (lv_at hl 1 rfl) ?_
    refine mm_getN (v := .int (-1)) hx hb hf_X2 (fun _ h9 => h9) hown hK hG k45 rfl 9 (by decide) (tb_use hT tw_299) (fun _ h9 => h9) rfl dX13_read_39 ?_
    refine lv_istore_n (lv' := [(2, .int (-1)), (1, .ref q1), (0, .ref o)]) hx hb dX13_read_42 rfl hl (by decide) rfl (fun ls hl => ?_)
    refine lv_aload_n hx hb dX13_read_43 rfl (lv_at hl 2 rfl) ?_
    refine lv_aload_n hx hb dX13_read_44 rfl (lv_at hl 1 rfl) ?_
    refine mm_getN (v := .null) hx hb hf_X2 (fun _ h9 => h9) hown hK hG k45 rfl 10 (by decide) (tb_use hT tw_300) (fun _ h9 => h9) rfl dX13_read_45 ?_
    refine mm_put (v := .null) (ty := .object "DescribeText$Layer") hx hb hf_X13 (fun _ h9 => h9) tyX13 tyX13_ok nmX13 hown hK hG hS k42 rfl 8 (by decide) (tb_use hT tw_219) (fun _ h9 => h9) rfl (by decide +kernel) rfl rfl (Nat.le_of_ble_eq_true rfl) dX13_read_48 (fun H locs hG hS => ?_)
    obtain ⟨G54, eG54⟩ : ∃ g, g = mm_set G40 o (.inr (14, [.ref tx, .ref rd, .ref to, .ref se, .ref kp, .int 0, .int 0, .null, .null])) := ⟨_, rfl⟩
    have hG : mm D vwCl A G54 H := by rw [eG54]; exact hG
    have k55 : G54 o = some (.inr (14, [.ref tx, .ref rd, .ref to, .ref se, .ref kp, .int 0, .int 0, .null, .null])) := by rw [eG54]; exact mm_set_self
    have k56 : G54 tx = some (.inl (cy 0, 2000, .inl (fun _ => 0))) := by rw [eG54]; exact mm_set_of k43 (mm_ne_ao k43 k42)
    have k57 : G54 kp = some (.inl (cy 6, 4, .inr (.inr (.inr (.inr (fun _ => none)))))) := by rw [eG54]; exact mm_set_of k44 (mm_ne_ao k44 k42)
    have k58 : G54 q1 = some (.inr (3, [.ref l1, .ref l2, .ref l3, .ref l4, .ref l5, .ref l6, .ref nm, .int 0, .null, .int (-1), .null])) := by rw [eG54]; exact mm_set_of k45 (mm_ne_oo k45 k42 (by decide))
    have k59 : G54 nm = some (.inl (cy 2, 8, .inr (.inl (fun _ => 0)))) := by rw [eG54]; exact mm_set_of k46 (mm_ne_ao k46 k42)
    have k60 : G54 l1 = some (.inr (1, [.int 0, .ref e0, .int 0])) := by rw [eG54]; exact mm_set_of k47 (mm_ne_oo k47 k42 (by decide))
    have k61 : G54 l2 = some (.inr (1, [.int 0, .ref e0, .int 0])) := by rw [eG54]; exact mm_set_of k48 (mm_ne_oo k48 k42 (by decide))
    have k62 : G54 l3 = some (.inr (1, [.int 0, .ref e0, .int 0])) := by rw [eG54]; exact mm_set_of k49 (mm_ne_oo k49 k42 (by decide))
    have k63 : G54 l4 = some (.inr (1, [.int 0, .ref e0, .int 0])) := by rw [eG54]; exact mm_set_of k50 (mm_ne_oo k50 k42 (by decide))
    have k64 : G54 l5 = some (.inr (1, [.int 0, .ref e0, .int 0])) := by rw [eG54]; exact mm_set_of k51 (mm_ne_oo k51 k42 (by decide))
    have k65 : G54 l6 = some (.inr (1, [.int 0, .ref e0, .int 0])) := by rw [eG54]; exact mm_set_of k52 (mm_ne_oo k52 k42 (by decide))
    refine lv_aload_n hx hb dX13_read_51 rfl (lv_at hl 2 rfl) ?_
    refine lv_iload_n hx hb dX13_read_52 rfl (lv_at hl 0 rfl) ?_
    refine va_calli (va_runV (As := [.int (-1)]) (rest := []) ⟨hx, hb, hml, hown, (fun _ h9 => absurd h9 List.not_mem_nil : ∀ w ∈ ([] : List Cond), w.before _ s = true)⟩ (c_X13_lineAt_e l D cy A X hst hXT e0 tk hXE G54 o tx rd to se kp none none 0 0 k55) (tb_cw (C := RX13) 1 hT tw_1073 tw_105 tw_1070 tw_1072 tw_44 rfl rfl (by decide +kernel) ⟨Nat.le_of_ble_eq_true rfl, Nat.le_of_ble_eq_true rfl⟩) (mk_preV hst hG hK hA hX hS (ci := 14) rfl k55) rfl rfl hl.1 rfl (lv_room (Nat.le_of_ble_eq_true rfl)) dX13_read_53 ⟨Nat.le_of_ble_eq_true rfl, Nat.le_of_ble_eq_true rfl⟩) hS (fun q _ h => h) (fun q h => h) (fun r66 G67 t H1 locs ht hvm hw hB hz1 hk1 hS => ?_)
    have hG : mm D vwCl A G67 H1 := by rw [← ht]; exact hB
    clear hB hz1 hk1 hvm ht
    generalize H1 = H at hG hS ⊢
    obtain ⟨er66, hw⟩ := hw
    rw [hw] at hG
    refine lv_istore_n (lv' := [(3, .int r66), (2, .int (-1)), (1, .ref q1), (0, .ref o)]) hx hb dX13_read_56 rfl hl (by decide) rfl (fun ls hl => ?_)
    refine lv_aload_n hx hb dX13_read_57 rfl (lv_at hl 3 rfl) ?_
    refine lv_iconst (v := 0) hx hb dX13_read_58 (by decide) ?_
    refine mm_put (v := .int 0) (ty := .int) hx hb hf_X13 (fun _ h9 => h9) tyX13 tyX13_ok nmX13 hown hK hG hS k55 rfl 5 (by decide) (tb_use hT tw_216) (fun _ h9 => h9) rfl (by decide +kernel) rfl rfl (Nat.le_of_ble_eq_true rfl) dX13_read_59 (fun H locs hG hS => ?_)
    obtain ⟨G68, eG68⟩ : ∃ g, g = mm_set G54 o (.inr (14, [.ref tx, .ref rd, .ref to, .ref se, .ref kp, .int 0, .int 0, .null, .null])) := ⟨_, rfl⟩
    have hG : mm D vwCl A G68 H := by rw [eG68]; exact hG
    have k69 : G68 o = some (.inr (14, [.ref tx, .ref rd, .ref to, .ref se, .ref kp, .int 0, .int 0, .null, .null])) := by rw [eG68]; exact mm_set_self
    have k70 : G68 tx = some (.inl (cy 0, 2000, .inl (fun _ => 0))) := by rw [eG68]; exact mm_set_of k56 (mm_ne_ao k56 k55)
    have k71 : G68 kp = some (.inl (cy 6, 4, .inr (.inr (.inr (.inr (fun _ => none)))))) := by rw [eG68]; exact mm_set_of k57 (mm_ne_ao k57 k55)
    have k72 : G68 q1 = some (.inr (3, [.ref l1, .ref l2, .ref l3, .ref l4, .ref l5, .ref l6, .ref nm, .int 0, .null, .int (-1), .null])) := by rw [eG68]; exact mm_set_of k58 (mm_ne_oo k58 k55 (by decide))
    have k73 : G68 nm = some (.inl (cy 2, 8, .inr (.inl (fun _ => 0)))) := by rw [eG68]; exact mm_set_of k59 (mm_ne_ao k59 k55)
    have k74 : G68 l1 = some (.inr (1, [.int 0, .ref e0, .int 0])) := by rw [eG68]; exact mm_set_of k60 (mm_ne_oo k60 k55 (by decide))
    have k75 : G68 l2 = some (.inr (1, [.int 0, .ref e0, .int 0])) := by rw [eG68]; exact mm_set_of k61 (mm_ne_oo k61 k55 (by decide))
    have k76 : G68 l3 = some (.inr (1, [.int 0, .ref e0, .int 0])) := by rw [eG68]; exact mm_set_of k62 (mm_ne_oo k62 k55 (by decide))
    have k77 : G68 l4 = some (.inr (1, [.int 0, .ref e0, .int 0])) := by rw [eG68]; exact mm_set_of k63 (mm_ne_oo k63 k55 (by decide))
    have k78 : G68 l5 = some (.inr (1, [.int 0, .ref e0, .int 0])) := by rw [eG68]; exact mm_set_of k64 (mm_ne_oo k64 k55 (by decide))
    have k79 : G68 l6 = some (.inr (1, [.int 0, .ref e0, .int 0])) := by rw [eG68]; exact mm_set_of k65 (mm_ne_oo k65 k55 (by decide))
    refine lv_iload_n hx hb dX13_read_62 rfl (lv_at hl 1 rfl) ?_
    refine lv_if_lt (tgt := 69) hx hb dX13_read_63 (by decide) (fun c_63 => ?_) (fun c_63 => ?_)
    · skip
      refine lv_aload_n hx hb dX13_read_69 rfl (lv_at hl 3 rfl) ?_
      refine lv_aload_n hx hb dX13_read_70 rfl (lv_at hl 2 rfl) ?_
      refine va_callv (va_runV (As := [.ref q1]) (rest := []) ⟨hx, hb, hml, hown, (fun _ h9 => absurd h9 List.not_mem_nil : ∀ w ∈ ([] : List Cond), w.before _ s = true)⟩ (c_X13_take_e l D cy A X hst hXT e0 tk hXE G68 o tx rd to se kp none none 0 0 q1 l1 l2 l3 l4 l5 l6 nm (fun _ => none) k69 k72 k75 k71 (by decide) (by decide)) (tb_cw (C := RX13) 1 hT tw_1077 tw_105 tw_1074 tw_1076 tw_45 rfl rfl (by decide +kernel) ⟨Nat.le_of_ble_eq_true rfl, Nat.le_of_ble_eq_true rfl⟩) (mk_preV hst hG hK hA hX hS (ci := 14) rfl k69) rfl rfl hl.1 rfl (lv_room (Nat.le_of_ble_eq_true rfl)) dX13_read_71 ⟨Nat.le_of_ble_eq_true rfl, Nat.le_of_ble_eq_true rfl⟩) hS (fun q _ h => h) (fun q h => h) (fun  G80 t H1 locs ht hvm hw hB hz1 hk1 hS => ?_)
      have hG : mm D vwCl A G80 H1 := by rw [← ht]; exact hB
      clear hB hz1 hk1 hvm ht
      generalize H1 = H at hG hS ⊢
      obtain ⟨h81_f, -⟩ := hw
      have k82 : G80 tx = some (.inl (cy 0, 2000, .inl (fun _ => 0))) := h81_f _ _ k70 (mm_ne_ao k70 k69) (mm_ne_e k70 k71 (fun z => by have z2 := (Prod.mk.inj (Prod.mk.inj (Sum.inl.inj z)).2).2; cases z2))
      have k83 : G80 q1 = some (.inr (3, [.ref l1, .ref l2, .ref l3, .ref l4, .ref l5, .ref l6, .ref nm, .int 0, .null, .int (-1), .null])) := h81_f _ _ k72 (mm_ne_oo k72 k69 (by decide)) (mm_ne_oa k72 k71)
      have k84 : G80 nm = some (.inl (cy 2, 8, .inr (.inl (fun _ => 0)))) := h81_f _ _ k73 (mm_ne_ao k73 k69) (mm_ne_e k73 k71 (fun z => by have z2 := (Prod.mk.inj (Prod.mk.inj (Sum.inl.inj z)).2).2; cases z2))
      have k85 : G80 l1 = some (.inr (1, [.int 0, .ref e0, .int 0])) := h81_f _ _ k74 (mm_ne_oo k74 k69 (by decide)) (mm_ne_oa k74 k71)
      have k86 : G80 l2 = some (.inr (1, [.int 0, .ref e0, .int 0])) := h81_f _ _ k75 (mm_ne_oo k75 k69 (by decide)) (mm_ne_oa k75 k71)
      have k87 : G80 l3 = some (.inr (1, [.int 0, .ref e0, .int 0])) := h81_f _ _ k76 (mm_ne_oo k76 k69 (by decide)) (mm_ne_oa k76 k71)
      have k88 : G80 l4 = some (.inr (1, [.int 0, .ref e0, .int 0])) := h81_f _ _ k77 (mm_ne_oo k77 k69 (by decide)) (mm_ne_oa k77 k71)
      have k89 : G80 l5 = some (.inr (1, [.int 0, .ref e0, .int 0])) := h81_f _ _ k78 (mm_ne_oo k78 k69 (by decide)) (mm_ne_oa k78 k71)
      have k90 : G80 l6 = some (.inr (1, [.int 0, .ref e0, .int 0])) := h81_f _ _ k79 (mm_ne_oo k79 k69 (by decide)) (mm_ne_oa k79 k71)
      refine lv_aload_n hx hb dX13_read_74 rfl (lv_at hl 2 rfl) ?_
      refine mm_getN (v := .ref l3) hx hb hf_X2 (fun _ h9 => h9) hown hK hG k83 rfl 2 (by decide) (tb_use hT tw_284) (fun _ h9 => h9) rfl dX13_read_75 ?_
      refine va_calli (va_runV (As := []) (rest := []) ⟨hx, hb, hml, hown, (fun _ h9 => absurd h9 List.not_mem_nil : ∀ w ∈ ([] : List Cond), w.before _ s = true)⟩ (c_Jx4a65c_size_8abf5 l D cy A X hst hXT e0 tk hXE G80 l3 0 0 (some e0) k87) (tb_cw (C := RJx4a65c) 0 hT tw_457 tw_113 tw_1031 tw_455 tw_456 rfl rfl (by decide +kernel) ⟨Nat.le_of_ble_eq_true rfl, Nat.le_of_ble_eq_true rfl⟩) (mk_preV hst hG hK hA hX hS (ci := 1) rfl k87) rfl rfl hl.1 rfl (lv_room (Nat.le_of_ble_eq_true rfl)) dX13_read_78 ⟨Nat.le_of_ble_eq_true rfl, Nat.le_of_ble_eq_true rfl⟩) hS (fun q _ h => h) (fun q h => h) (fun r91 G92 t H1 locs ht hvm hw hB hz1 hk1 hS => ?_)
      have hG : mm D vwCl A G92 H1 := by rw [← ht]; exact hB
      clear hB hz1 hk1 hvm ht
      generalize H1 = H at hG hS ⊢
      obtain ⟨er91, hw⟩ := hw
      rw [hw] at hG
      have hfr : ∀ (x : Nat) (e : va_E), G x = some e → x ≠ o → x ≠ rd → x ≠ tk_ → x ≠ ks → x ≠ ss → x ≠ vs → x ≠ kp → G80 x = some e := by
        intro x e z0 n_o n_rd n_tk_ n_ks n_ss n_vs n_kp
        have n_q1 : x ≠ q1 := fun z => by rw [z, hn_q1] at z0; cases z0
        have z1 : G2 x = some e := by rw [eG2]; exact mm_set_of z0 n_q1
        have z2 : G12 x = some e := h13_f x e z1 n_q1
        have z3 : G22 x = some e := by rw [eG22]; exact mm_set_of z2 n_o
        have z4 : G40 x = some e := h41_f x e z3 n_rd n_tk_ n_ks n_ss n_vs
        have z5 : G54 x = some e := by rw [eG54]; exact mm_set_of z4 n_o
        have z6 : G68 x = some e := by rw [eG68]; exact mm_set_of z5 n_o
        have z7 : G80 x = some e := h81_f x e z6 n_o n_kp
        exact z7
      exact W.iret (v := r91) hx hb hr (fun t ht hW => ⟨⟨_, _, rfl, ⟨er91, hfr⟩, mk_end hG ht⟩, hS.F ht⟩) hS.2.2 dX13_read_81
    · skip
      exact absurd (by decide) c_63
