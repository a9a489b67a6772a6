def oc_n (n : Int32) : Int32 := if n = 64 then 0 else n
theorem oc_lt {n : Int32} (h : n ≤ 64) (h2 : ¬ n = 64) : n < 64 := by
  rw [Int32.lt_iff_toInt_lt]
  have h1 := Int32.le_iff_toInt_le.mp h
  have h3 : n.toInt ≠ 64 := fun z => h2 (Int32.toInt_inj.mp z)
  have h4 : (64 : Int32).toInt = 64 := rfl
  omega
set_option maxHeartbeats 4000000 in
set_option maxRecDepth 100000 in
theorem c_X13_octet (l : Launch) (D : va_G) (cy : Nat → ClassId) (A : Nat → Prop) (X : State → Prop) (hst : mk_St A X) (hXT : ∀ U : State, X U → TB U) (G : Nat → Option va_E) (o tx rd to se kp : Nat) (hd rg : Option Nat) (tl kc : Int32) (ro : Nat) (n bv : Int32) (f : Nat → Int32) (h0 : G o = some (.inr (14, [.ref tx, .ref rd, .ref to, .ref se, .ref kp, .int tl, .int kc, va_rf hd, va_rf rg]))) (h1 : G to = some (.inr (7, [.ref ro, .int n]))) (h2 : G ro = some (.inl (cy 0, 64, .inl f))) (hn0 : ¬ n < 0) (hn64 : n ≤ 64) : Met l yX13_octet [.code yX13_octet cX13_octet 2 none] ({ frames := 1, cells := 0, slots := 0, locals := 30 }) (mk_Pre D vwCl (tyL cy) A X G [.ref o, .int bv]) (va_Qv (fun (G2 : Nat → Option va_E) => G2 to = some (.inr (7, [.ref ro, .int (oc_n n + 1)])) ∧ G2 ro = some (.inl (cy 0, 64, .inl (upd f (oc_n n).toNatClampNeg (vp_nar .byte bv.toInt8.toInt32)))) ∧ ∀ (x : Nat) (e : va_E), G x = some e → x ≠ to → x ≠ ro → G2 x = some e) (mk_B D vwCl A) A) 0 0 A := by
  refine Met.ofW (cc := cX13_octet) (maxL := 2) (ret := none) (by decide) rfl ?_
  intro p e s m args below meth c s₁ B hml hv
  obtain ⟨rfl, hG, hK, hA, hX⟩ := hv
  have hx := B.exec
  have hb := B.bytes
  have hr := B.returns
  have hlocks := B.notSynchronized
  have hT := hXT s hX
  have hown : s.vm.findClass RX13 = some m.cls := findClass_of_methodNamed B.named
  have hf_X13 : ∀ w ∈ u_ws RX13 TX13 9, w.before ([.ref o, .int bv] : List Value).toArray s = true := tb_list hT fX13
  have hf_X6 : ∀ w ∈ u_ws RX6 TX6 2, w.before ([.ref o, .int bv] : List Value).toArray s = true := tb_list hT fX6
  have hS : va_S A s.heap s.heap [] := va_S.rf
  have hl := lv_entry ([.ref o, .int bv]) (n := 2) (Nat.le_of_ble_eq_true rfl)
  rw [lg_entry_eq]
  generalize (lg_sl ([.ref o, .int bv]) ++ List.replicate (2 - (lg_sl ([.ref o, .int bv])).length) Slot.unset).toArray = ls at hl ⊢
  have hl : lv_has ls 2 [(0, .ref o), (1, .int bv)] := hl
  refine lv_aload_n hx hb dX13_octet_0 rfl (lv_at hl 0 rfl) ?_
  refine mm_get (v := .ref to) hx hb hf_X13 (fun _ h9 => h9) hown hK hG h0 rfl 2 (by decide) (tb_use hT tw_213) (fun _ h9 => h9) rfl dX13_octet_1 ?_
  refine mm_getN (v := .int n) hx hb hf_X6 (fun _ h9 => h9) hown hK hG h1 rfl 1 (by decide) (tb_use hT tw_203) (fun _ h9 => h9) rfl dX13_octet_4 ?_
  refine lv_bipush (v := 64) hx hb dX13_octet_7 (by decide) ?_
  refine lv_icmp_ne (tgt := 20) hx hb dX13_octet_9 (by decide) (fun c_9 => ?_) (fun c_9 => ?_)
  · skip
    refine lv_aload_n hx hb dX13_octet_20 rfl (lv_at hl 0 rfl) ?_
    refine mm_get (v := .ref to) hx hb hf_X13 (fun _ h9 => h9) hown hK hG h0 rfl 2 (by decide) (tb_use hT tw_213) (fun _ h9 => h9) rfl dX13_octet_21 ?_
    refine lv_iload_n hx hb dX13_octet_24 rfl (lv_at hl 1 rfl) ?_
    refine va_callv (va_runV (As := [.int bv]) (rest := []) ⟨hx, hb, hml, hown, (fun _ h9 => absurd h9 List.not_mem_nil : ∀ w ∈ ([] : List Cond), w.before _ s = true)⟩ (c_X6_add l D cy A X hst hXT G to ro n bv f h1 h2 hn0 (oc_lt hn64 c_9)) (tb_cw (C := RX6) 1 hT tw_1182 tw_108 tw_1179 tw_1180 tw_1181 rfl rfl hq_X6_add ⟨Nat.le_of_ble_eq_true rfl, Nat.le_of_ble_eq_true rfl⟩) (mk_preC hst hG hK hA hX hS vc_7 h1) rfl rfl hl.1 rfl (lv_room (Nat.le_of_ble_eq_true rfl)) dX13_octet_25 ⟨Nat.le_of_ble_eq_true rfl, Nat.le_of_ble_eq_true rfl⟩) hS (fun q _ h => h) (fun q h => h) (fun  G1 t H locs ht hvm hw hB hz1 hk1 hS => ?_)
    have hG : mm D vwCl A G1 H := by rw [← ht]; exact hB
    clear hB hz1 hk1 hvm ht
    obtain ⟨G2, eG2⟩ : ∃ g, g = mm_set G ro (.inl (cy 0, 64, .inl (upd f n.toNatClampNeg (vp_nar .byte bv.toInt8.toInt32)))) := ⟨_, rfl⟩
    rw [← eG2] at hw
    have k3 : G2 o = some (.inr (14, [.ref tx, .ref rd, .ref to, .ref se, .ref kp, .int tl, .int kc, va_rf hd, va_rf rg])) := by rw [eG2]; exact mm_set_of h0 (mm_ne_oa h0 h2)
    have k4 : G2 to = some (.inr (7, [.ref ro, .int n])) := by rw [eG2]; exact mm_set_of h1 (mm_ne_oa h1 h2)
    have k5 : G2 ro = some (.inl (cy 0, 64, .inl (upd f n.toNatClampNeg (vp_nar .byte bv.toInt8.toInt32)))) := by rw [eG2]; exact mm_set_self
    have k6 : G1 o = some (.inr (14, [.ref tx, .ref rd, .ref to, .ref se, .ref kp, .int tl, .int kc, va_rf hd, va_rf rg])) := by rw [hw]; exact mm_set_of k3 (mm_ne_oo k3 k4 (by decide))
    have k7 : G1 to = some (.inr (7, [.ref ro, .int (n + 1)])) := by rw [hw]; exact mm_set_self
    have k8 : G1 ro = some (.inl (cy 0, 64, .inl (upd f n.toNatClampNeg (vp_nar .byte bv.toInt8.toInt32)))) := by rw [hw]; exact mm_set_of k5 (mm_ne_ao k5 k4)
    have hfr : ∀ (x : Nat) (e : va_E), G x = some e → x ≠ to → x ≠ ro → G1 x = some e := by
      intro x e z0 n_to n_ro
      have z1 : G2 x = some e := by rw [eG2]; exact mm_set_of z0 n_ro
      have z2 : G1 x = some e := by rw [hw]; exact mm_set_of z1 n_to
      exact z2
    exact W.vret hx hb hr (fun t ht hW => ⟨⟨_, rfl, ⟨(by rw [oc_n, if_neg c_9]; exact k7), (by rw [oc_n, if_neg c_9]; exact k8), hfr⟩, mk_end hG ht⟩, hS.F ht⟩) hS.2.2 dX13_octet_28
  · skip
    refine lv_aload_n hx hb dX13_octet_12 rfl (lv_at hl 0 rfl) ?_
    refine mm_get (v := .ref to) hx hb hf_X13 (fun _ h9 => h9) hown hK hG h0 rfl 2 (by decide) (tb_use hT tw_213) (fun _ h9 => h9) rfl dX13_octet_13 ?_
    refine lv_iconst (v := 0) hx hb dX13_octet_16 (by decide) ?_
    refine mm_putN (v := .int 0) (ty := .int) hx hb hf_X6 (fun _ h9 => h9) tyX6 tyX6_ok nmX6 hown hK hG hS h1 rfl 1 (by decide) (tb_use hT tw_203) (fun _ h9 => h9) rfl (by decide +kernel) rfl rfl (Nat.le_of_ble_eq_true rfl) dX13_octet_17 (fun H locs hG hS => ?_)
    obtain ⟨G9, eG9⟩ : ∃ g, g = mm_set G to (.inr (7, [.ref ro, .int 0])) := ⟨_, rfl⟩
    have hG : mm D vwCl A G9 H := by rw [eG9]; exact hG
    have k10 : G9 o = some (.inr (14, [.ref tx, .ref rd, .ref to, .ref se, .ref kp, .int tl, .int kc, va_rf hd, va_rf rg])) := by rw [eG9]; exact mm_set_of h0 (mm_ne_oo h0 h1 (by decide))
    have k11 : G9 to = some (.inr (7, [.ref ro, .int 0])) := by rw [eG9]; exact mm_set_self
    have k12 : G9 ro = some (.inl (cy 0, 64, .inl f)) := by rw [eG9]; exact mm_set_of h2 (mm_ne_ao h2 h1)
    refine lv_aload_n hx hb dX13_octet_20 rfl (lv_at hl 0 rfl) ?_
    refine mm_get (v := .ref to) hx hb hf_X13 (fun _ h9 => h9) hown hK hG k10 rfl 2 (by decide) (tb_use hT tw_213) (fun _ h9 => h9) rfl dX13_octet_21 ?_
    refine lv_iload_n hx hb dX13_octet_24 rfl (lv_at hl 1 rfl) ?_
    refine va_callv (va_runV (As := [.int bv]) (rest := []) ⟨hx, hb, hml, hown, (fun _ h9 => absurd h9 List.not_mem_nil : ∀ w ∈ ([] : List Cond), w.before _ s = true)⟩ (c_X6_add l D cy A X hst hXT G9 to ro 0 bv f k11 k12 (by decide) (by decide)) (tb_cw (C := RX6) 1 hT tw_1182 tw_108 tw_1179 tw_1180 tw_1181 rfl rfl hq_X6_add ⟨Nat.le_of_ble_eq_true rfl, Nat.le_of_ble_eq_true rfl⟩) (mk_preC hst hG hK hA hX hS vc_7 k11) rfl rfl hl.1 rfl (lv_room (Nat.le_of_ble_eq_true rfl)) dX13_octet_25 ⟨Nat.le_of_ble_eq_true rfl, Nat.le_of_ble_eq_true rfl⟩) hS (fun q _ h => h) (fun q h => h) (fun  G13 t H locs ht hvm hw hB hz1 hk1 hS => ?_)
    have hG : mm D vwCl A G13 H := by rw [← ht]; exact hB
    clear hB hz1 hk1 hvm ht
    obtain ⟨G14, eG14⟩ : ∃ g, g = mm_set G9 ro (.inl (cy 0, 64, .inl (upd f (0 : Int32).toNatClampNeg (vp_nar .byte bv.toInt8.toInt32)))) := ⟨_, rfl⟩
    rw [← eG14] at hw
    have k15 : G14 o = some (.inr (14, [.ref tx, .ref rd, .ref to, .ref se, .ref kp, .int tl, .int kc, va_rf hd, va_rf rg])) := by rw [eG14]; exact mm_set_of k10 (mm_ne_oa k10 k12)
    have k16 : G14 to = some (.inr (7, [.ref ro, .int 0])) := by rw [eG14]; exact mm_set_of k11 (mm_ne_oa k11 k12)
    have k17 : G14 ro = some (.inl (cy 0, 64, .inl (upd f (0 : Int32).toNatClampNeg (vp_nar .byte bv.toInt8.toInt32)))) := by rw [eG14]; exact mm_set_self
    have k18 : G13 o = some (.inr (14, [.ref tx, .ref rd, .ref to, .ref se, .ref kp, .int tl, .int kc, va_rf hd, va_rf rg])) := by rw [hw]; exact mm_set_of k15 (mm_ne_oo k15 k16 (by decide))
    have k19 : G13 to = some (.inr (7, [.ref ro, .int (0 + 1)])) := by rw [hw]; exact mm_set_self
    have k20 : G13 ro = some (.inl (cy 0, 64, .inl (upd f (0 : Int32).toNatClampNeg (vp_nar .byte bv.toInt8.toInt32)))) := by rw [hw]; exact mm_set_of k17 (mm_ne_ao k17 k16)
    have hfr : ∀ (x : Nat) (e : va_E), G x = some e → x ≠ to → x ≠ ro → G13 x = some e := by
      intro x e z0 n_to n_ro
      have z1 : G9 x = some e := by rw [eG9]; exact mm_set_of z0 n_to
      have z2 : G14 x = some e := by rw [eG14]; exact mm_set_of z1 n_ro
      have z3 : G13 x = some e := by rw [hw]; exact mm_set_of z2 n_to
      exact z3
    exact W.vret hx hb hr (fun t ht hW => ⟨⟨_, rfl, ⟨(by rw [oc_n, if_pos c_9]; exact k19), (by rw [oc_n, if_pos c_9]; exact k20), hfr⟩, mk_end hG ht⟩, hS.F ht⟩) hS.2.2 dX13_octet_28

set_option maxHeartbeats 4000000 in
set_option maxRecDepth 100000 in
theorem c_X13_init (l : Launch) (D : va_G) (cy : Nat → ClassId) (A : Nat → Prop) (X : State → Prop) (hst : mk_St A X) (hXT : ∀ U : State, X U → TB U) (G : Nat → Option va_E) (o : Nat) (h0 : G o = some (.inr (14, [.null, .null, .null, .null, .null, .int 0, .int 0, .null, .null]))) : Met l yX13_init [.code yX13_init cX13_init 1 none] ({ frames := 3, cells := 12, slots := 8151, locals := 60 }) (mk_Pre D vwCl (tyL cy) A X G [.ref o]) (va_Qv (fun (G2 : Nat → Option va_E) => ∃ tx rd to se kp tk ow ks ss vs ro rs : Nat, G2 o = some (.inr (14, [.ref tx, .ref rd, .ref to, .ref se, .ref kp, .int 0, .int 0, .null, .null])) ∧ G2 tx = some (.inl (cy 0, 2000, .inl (fun _ => 0))) ∧ G2 rd = some (.inr (10, [.ref tk, .ref ow, .null, .int 0, .int 0])) ∧ G2 to = some (.inr (7, [.ref ro, .int 0])) ∧ G2 se = some (.inr (7, [.ref rs, .int 0])) ∧ G2 kp = some (.inl (cy 6, 4, .inr (.inr (.inr (.inr (fun _ => none)))))) ∧ G2 tk = some (.inr (13, [.ref ks, .ref ss, .ref vs, .int 0])) ∧ G2 ow = some (.inl (cy 1, 3, .inl (fun _ => 0))) ∧ G2 ks = some (.inl (cy 5, 2001, .inr (.inr (.inr (.inr (fun _ => none)))))) ∧ G2 ss = some (.inl (cy 1, 2001, .inl (fun _ => 0))) ∧ G2 vs = some (.inl (cy 2, 2001, .inr (.inl (fun _ => 0)))) ∧ G2 ro = some (.inl (cy 0, 64, .inl (fun _ => 0))) ∧ G2 rs = some (.inl (cy 0, 64, .inl (fun _ => 0))) ∧ to ≠ se ∧ ro ≠ rs ∧ ∀ (x : Nat) (e : va_E), G x = some e → x ≠ o → G2 x = some e) (mk_B D vwCl A) A) 12 8151 A := by
  refine Met.ofW (cc := cX13_init) (maxL := 1) (ret := none) (by decide) rfl ?_
  intro p e s m args below meth c s₁ B hml hv
  obtain ⟨rfl, hG, hK, hA, hX⟩ := hv
  have hx := B.exec
  have hb := B.bytes
  have hr := B.returns
  have hlocks := B.notSynchronized
  have hT := hXT s hX
  have hown : s.vm.findClass RX13 = some m.cls := findClass_of_methodNamed B.named
  have hin : meth.name = "<init>" := (name_of_methodNamed B.named B.method).1
  have hf_X13 : ∀ w ∈ u_ws RX13 TX13 9, w.before ([.ref o] : List Value).toArray s = true := tb_list hT fX13
  have hf_X9 : ∀ w ∈ u_ws RX9 TX9 5, w.before ([.ref o] : List Value).toArray s = true := tb_list hT fX9
  have hf_X6 : ∀ w ∈ u_ws RX6 TX6 2, w.before ([.ref o] : List Value).toArray s = true := tb_list hT fX6
  have hS : va_S A s.heap s.heap [] := va_S.rf
  have hl := lv_entry ([.ref o]) (n := 1) (Nat.le_of_ble_eq_true rfl)
  rw [lg_entry_eq]
  generalize (lg_sl ([.ref o]) ++ List.replicate (1 - (lg_sl ([.ref o])).length) Slot.unset).toArray = ls at hl ⊢
  have hl : lv_has ls 1 [(0, .ref o)] := hl
  refine lv_aload_n hx hb dX13_init_0 rfl (lv_at hl 0 rfl) ?_
  refine W.objInit hx hb hown (tb_use hT tw_143) (tb_use hT tw_144) (tb_use hT tw_145) rfl (by rw [hml]; exact hl.1) rfl dX13_init_1 (Nat.le_of_ble_eq_true rfl) (Nat.le_of_ble_eq_true rfl) ?_
  refine W.eq (g2 := F0 m 4 ls []) rfl ?_
  refine lv_aload_n hx hb dX13_init_4 rfl (lv_at hl 0 rfl) ?_
  refine lv_sipush (v := 2000) hx hb dX13_init_5 (by decide) ?_
  refine mm_newa (n := 2000) (atype := .byte) (ty := .byte) (N' := 2000) (a0 := (2000, .inl (fun _ => 0))) hx hb (tb_arr hT tw_174) rfl hK hG hS hA 0 rfl (fun cA => rfl) (by decide) (by decide) (by decide) (by exact Nat.le_of_ble_eq_true rfl) (by exact Nat.le_of_ble_eq_true rfl) dX13_init_8 (fun q1 H hn_q1 hG hS => ?_)
  obtain ⟨G2, eG2⟩ : ∃ g, g = mm_set G q1 (.inl (cy 0, 2000, .inl (fun _ => 0))) := ⟨_, rfl⟩
  have hG : mm D vwCl A G2 H := by rw [eG2]; exact hG
  have k3 : G2 o = some (.inr (14, [.null, .null, .null, .null, .null, .int 0, .int 0, .null, .null])) := by rw [eG2]; exact mm_set_new h0 hn_q1
  have k4 : G2 q1 = some (.inl (cy 0, 2000, .inl (fun _ => 0))) := by rw [eG2]; exact mm_set_self
  refine mm_putF (v := .ref q1) (ty := .array .byte) hx hb hf_X13 (fun _ h9 => h9) tyX13 tyX13_ok nmX13 hown hK hG hS k3 rfl 0 (by decide) (tb_use hT tw_211) (fun _ h9 => h9) rfl hin rfl (by decide +kernel) rfl rfl (Nat.le_of_ble_eq_true rfl) dX13_init_10 (fun H locs hG hS => ?_)
  obtain ⟨G5, eG5⟩ : ∃ g, g = mm_set G2 o (.inr (14, [.ref q1, .null, .null, .null, .null, .int 0, .int 0, .null, .null])) := ⟨_, rfl⟩
  have hG : mm D vwCl A G5 H := by rw [eG5]; exact hG
  have k6 : G5 o = some (.inr (14, [.ref q1, .null, .null, .null, .null, .int 0, .int 0, .null, .null])) := by rw [eG5]; exact mm_set_self
  have k7 : G5 q1 = some (.inl (cy 0, 2000, .inl (fun _ => 0))) := by rw [eG5]; exact mm_set_of k4 (mm_ne_ao k4 k3)
  refine lv_aload_n hx hb dX13_init_13 rfl (lv_at hl 0 rfl) ?_
  refine mm_new (ci := 10) (fs := [.null, .null, .null, .int 0, .int 0]) hx hb hf_X9 (fun _ h9 => h9) tyX9 tyX9_ok hown (tb_use hT tw_146) (tb_use hT tw_147) (tb_use hT tw_106) hK hG hS hA rfl (fun j hj => by rcases (show j = 0 ∨ j = 1 ∨ j = 2 ∨ j = 3 ∨ j = 4 by omega) with rfl | rfl | rfl | rfl | rfl <;> rfl) (by exact Nat.le_of_ble_eq_true rfl) (by exact Nat.le_of_ble_eq_true rfl) dX13_init_14 (fun q8 H hn_q8 hG hS => ?_)
  obtain ⟨G9, eG9⟩ : ∃ g, g = mm_set G5 q8 (.inr (10, [.null, .null, .null, .int 0, .int 0])) := ⟨_, rfl⟩
  have hG : mm D vwCl A G9 H := by rw [eG9]; exact hG
  have k10 : G9 o = some (.inr (14, [.ref q1, .null, .null, .null, .null, .int 0, .int 0, .null, .null])) := by rw [eG9]; exact mm_set_new k6 hn_q8
  have k11 : G9 q1 = some (.inl (cy 0, 2000, .inl (fun _ => 0))) := by rw [eG9]; exact mm_set_new k7 hn_q8
  have k12 : G9 q8 = some (.inr (10, [.null, .null, .null, .int 0, .int 0])) := by rw [eG9]; exact mm_set_self
  refine lv_dup hx hb dX13_init_17 rfl ?_
  refine va_callv (va_runIN (As := []) (rest := [.ref q8, .ref o]) ⟨hx, hb, hml, hown, (fun _ h9 => absurd h9 List.not_mem_nil : ∀ w ∈ ([] : List Cond), w.before _ s = true)⟩ (c_X9_init l D cy A X hst hXT G9 q8 k12) ⟨tb_cn (host := "DescribeText") 0 hT tw_150 tw_106 tw_148 rfl rfl hq_X9_init ⟨Nat.le_of_ble_eq_true rfl, Nat.le_of_ble_eq_true rfl⟩, rfl, (tb_use hT tw_149)⟩ (mk_preS hst hG hK hA hX hS) rfl rfl hl.1 rfl (lv_room (Nat.le_of_ble_eq_true rfl)) dX13_init_18 ⟨Nat.le_of_ble_eq_true rfl, Nat.le_of_ble_eq_true rfl⟩) hS (fun q _ h => h) (fun q h => h) (fun  G13 t H locs ht hvm hw hB hz1 hk1 hS => ?_)
  have hG : mm D vwCl A G13 H := by rw [← ht]; exact hB
  clear hB hz1 hk1 hvm ht
  obtain ⟨q14, q15, q16, q17, q18, h19_o, h19_1, h19_2, h19_3, h19_4, h19_5, h19_f⟩ := hw
  have k20 : G13 o = some (.inr (14, [.ref q1, .null, .null, .null, .null, .int 0, .int 0, .null, .null])) := h19_f _ _ k10 (mm_ne_oo k10 k12 (by decide))
  have k21 : G13 q1 = some (.inl (cy 0, 2000, .inl (fun _ => 0))) := h19_f _ _ k11 (mm_ne_ao k11 k12)
  refine mm_putF (v := .ref q8) (ty := .object "DescribeText$Reader") hx hb hf_X13 (fun _ h9 => h9) tyX13 tyX13_ok nmX13 hown hK hG hS k20 rfl 1 (by decide) (tb_use hT tw_212) (fun _ h9 => h9) rfl hin rfl (by decide +kernel) rfl rfl (Nat.le_of_ble_eq_true rfl) dX13_init_21 (fun H locs hG hS => ?_)
  obtain ⟨G22, eG22⟩ : ∃ g, g = mm_set G13 o (.inr (14, [.ref q1, .ref q8, .null, .null, .null, .int 0, .int 0, .null, .null])) := ⟨_, rfl⟩
  have hG : mm D vwCl A G22 H := by rw [eG22]; exact hG
  have k23 : G22 o = some (.inr (14, [.ref q1, .ref q8, .null, .null, .null, .int 0, .int 0, .null, .null])) := by rw [eG22]; exact mm_set_self
  have k24 : G22 q1 = some (.inl (cy 0, 2000, .inl (fun _ => 0))) := by rw [eG22]; exact mm_set_of k21 (mm_ne_ao k21 k20)
  have k25 : G22 q8 = some (.inr (10, [.ref q14, .ref q15, .null, .int 0, .int 0])) := by rw [eG22]; exact mm_set_of h19_o (mm_ne_oo h19_o k20 (by decide))
  have k26 : G22 q14 = some (.inr (13, [.ref q16, .ref q17, .ref q18, .int 0])) := by rw [eG22]; exact mm_set_of h19_1 (mm_ne_oo h19_1 k20 (by decide))
  have k27 : G22 q15 = some (.inl (cy 1, 3, .inl (fun _ => 0))) := by rw [eG22]; exact mm_set_of h19_2 (mm_ne_ao h19_2 k20)
  have k28 : G22 q16 = some (.inl (cy 5, 2001, .inr (.inr (.inr (.inr (fun _ => none)))))) := by rw [eG22]; exact mm_set_of h19_3 (mm_ne_ao h19_3 k20)
  have k29 : G22 q17 = some (.inl (cy 1, 2001, .inl (fun _ => 0))) := by rw [eG22]; exact mm_set_of h19_4 (mm_ne_ao h19_4 k20)
  have k30 : G22 q18 = some (.inl (cy 2, 2001, .inr (.inl (fun _ => 0)))) := by rw [eG22]; exact mm_set_of h19_5 (mm_ne_ao h19_5 k20)
  refine lv_aload_n hx hb dX13_init_24 rfl (lv_at hl 0 rfl) ?_
  refine mm_new (ci := 7) (fs := [.null, .int 0]) hx hb hf_X6 (fun _ h9 => h9) tyX6 tyX6_ok hown (tb_use hT tw_193) (tb_use hT tw_194) (tb_use hT tw_108) hK hG hS hA rfl (fun j hj => by rcases (show j = 0 ∨ j = 1 by omega) with rfl | rfl <;> rfl) (by exact Nat.le_of_ble_eq_true rfl) (by exact Nat.le_of_ble_eq_true rfl) dX13_init_25 (fun q31 H hn_q31 hG hS => ?_)
  obtain ⟨G32, eG32⟩ : ∃ g, g = mm_set G22 q31 (.inr (7, [.null, .int 0])) := ⟨_, rfl⟩
  have hG : mm D vwCl A G32 H := by rw [eG32]; exact hG
  have k33 : G32 o = some (.inr (14, [.ref q1, .ref q8, .null, .null, .null, .int 0, .int 0, .null, .null])) := by rw [eG32]; exact mm_set_new k23 hn_q31
  have k34 : G32 q1 = some (.inl (cy 0, 2000, .inl (fun _ => 0))) := by rw [eG32]; exact mm_set_new k24 hn_q31
  have k35 : G32 q8 = some (.inr (10, [.ref q14, .ref q15, .null, .int 0, .int 0])) := by rw [eG32]; exact mm_set_new k25 hn_q31
  have k36 : G32 q14 = some (.inr (13, [.ref q16, .ref q17, .ref q18, .int 0])) := by rw [eG32]; exact mm_set_new k26 hn_q31
  have k37 : G32 q15 = some (.inl (cy 1, 3, .inl (fun _ => 0))) := by rw [eG32]; exact mm_set_new k27 hn_q31
  have k38 : G32 q16 = some (.inl (cy 5, 2001, .inr (.inr (.inr (.inr (fun _ => none)))))) := by rw [eG32]; exact mm_set_new k28 hn_q31
  have k39 : G32 q17 = some (.inl (cy 1, 2001, .inl (fun _ => 0))) := by rw [eG32]; exact mm_set_new k29 hn_q31
  have k40 : G32 q18 = some (.inl (cy 2, 2001, .inr (.inl (fun _ => 0)))) := by rw [eG32]; exact mm_set_new k30 hn_q31
  have k41 : G32 q31 = some (.inr (7, [.null, .int 0])) := by rw [eG32]; exact mm_set_self
  refine lv_dup hx hb dX13_init_28 rfl ?_
  refine va_callv (va_runIN (As := []) (rest := [.ref q31, .ref o]) ⟨hx, hb, hml, hown, (fun _ h9 => absurd h9 List.not_mem_nil : ∀ w ∈ ([] : List Cond), w.before _ s = true)⟩ (c_X6_init l D cy A X hst hXT G32 q31 k41) ⟨tb_cn (host := "DescribeText") 0 hT tw_197 tw_108 tw_195 rfl rfl hq_X6_init ⟨Nat.le_of_ble_eq_true rfl, Nat.le_of_ble_eq_true rfl⟩, rfl, (tb_use hT tw_196)⟩ (mk_preS hst hG hK hA hX hS) rfl rfl hl.1 rfl (lv_room (Nat.le_of_ble_eq_true rfl)) dX13_init_29 ⟨Nat.le_of_ble_eq_true rfl, Nat.le_of_ble_eq_true rfl⟩) hS (fun q _ h => h) (fun q h => h) (fun  G42 t H locs ht hvm hw hB hz1 hk1 hS => ?_)
  have hG : mm D vwCl A G42 H := by rw [← ht]; exact hB
  clear hB hz1 hk1 hvm ht
  obtain ⟨q43, hn_q43, h44_o, h44_r, h44_f⟩ := hw
  have k45 : G42 o = some (.inr (14, [.ref q1, .ref q8, .null, .null, .null, .int 0, .int 0, .null, .null])) := h44_f _ _ k33 (mm_ne_oo k33 k41 (by decide))
  have k46 : G42 q1 = some (.inl (cy 0, 2000, .inl (fun _ => 0))) := h44_f _ _ k34 (mm_ne_ao k34 k41)
  have k47 : G42 q8 = some (.inr (10, [.ref q14, .ref q15, .null, .int 0, .int 0])) := h44_f _ _ k35 (mm_ne_oo k35 k41 (by decide))
  have k48 : G42 q14 = some (.inr (13, [.ref q16, .ref q17, .ref q18, .int 0])) := h44_f _ _ k36 (mm_ne_oo k36 k41 (by decide))
  have k49 : G42 q15 = some (.inl (cy 1, 3, .inl (fun _ => 0))) := h44_f _ _ k37 (mm_ne_ao k37 k41)
  have k50 : G42 q16 = some (.inl (cy 5, 2001, .inr (.inr (.inr (.inr (fun _ => none)))))) := h44_f _ _ k38 (mm_ne_ao k38 k41)
  have k51 : G42 q17 = some (.inl (cy 1, 2001, .inl (fun _ => 0))) := h44_f _ _ k39 (mm_ne_ao k39 k41)
  have k52 : G42 q18 = some (.inl (cy 2, 2001, .inr (.inl (fun _ => 0)))) := h44_f _ _ k40 (mm_ne_ao k40 k41)
  refine mm_putF (v := .ref q31) (ty := .object "DescribeText$Octets") hx hb hf_X13 (fun _ h9 => h9) tyX13 tyX13_ok nmX13 hown hK hG hS k45 rfl 2 (by decide) (tb_use hT tw_213) (fun _ h9 => h9) rfl hin rfl (by decide +kernel) rfl rfl (Nat.le_of_ble_eq_true rfl) dX13_init_32 (fun H locs hG hS => ?_)
  obtain ⟨G53, eG53⟩ : ∃ g, g = mm_set G42 o (.inr (14, [.ref q1, .ref q8, .ref q31, .null, .null, .int 0, .int 0, .null, .null])) := ⟨_, rfl⟩
  have hG : mm D vwCl A G53 H := by rw [eG53]; exact hG
  have k54 : G53 o = some (.inr (14, [.ref q1, .ref q8, .ref q31, .null, .null, .int 0, .int 0, .null, .null])) := by rw [eG53]; exact mm_set_self
  have k55 : G53 q1 = some (.inl (cy 0, 2000, .inl (fun _ => 0))) := by rw [eG53]; exact mm_set_of k46 (mm_ne_ao k46 k45)
  have k56 : G53 q8 = some (.inr (10, [.ref q14, .ref q15, .null, .int 0, .int 0])) := by rw [eG53]; exact mm_set_of k47 (mm_ne_oo k47 k45 (by decide))
  have k57 : G53 q14 = some (.inr (13, [.ref q16, .ref q17, .ref q18, .int 0])) := by rw [eG53]; exact mm_set_of k48 (mm_ne_oo k48 k45 (by decide))
  have k58 : G53 q15 = some (.inl (cy 1, 3, .inl (fun _ => 0))) := by rw [eG53]; exact mm_set_of k49 (mm_ne_ao k49 k45)
  have k59 : G53 q16 = some (.inl (cy 5, 2001, .inr (.inr (.inr (.inr (fun _ => none)))))) := by rw [eG53]; exact mm_set_of k50 (mm_ne_ao k50 k45)
  have k60 : G53 q17 = some (.inl (cy 1, 2001, .inl (fun _ => 0))) := by rw [eG53]; exact mm_set_of k51 (mm_ne_ao k51 k45)
  have k61 : G53 q18 = some (.inl (cy 2, 2001, .inr (.inl (fun _ => 0)))) := by rw [eG53]; exact mm_set_of k52 (mm_ne_ao k52 k45)
  have k62 : G53 q31 = some (.inr (7, [.ref q43, .int 0])) := by rw [eG53]; exact mm_set_of h44_o (mm_ne_oo h44_o k45 (by decide))
  have k63 : G53 q43 = some (.inl (cy 0, 64, .inl (fun _ => 0))) := by rw [eG53]; exact mm_set_of h44_r (mm_ne_ao h44_r k45)
  refine lv_aload_n hx hb dX13_init_35 rfl (lv_at hl 0 rfl) ?_
  refine mm_new (ci := 7) (fs := [.null, .int 0]) hx hb hf_X6 (fun _ h9 => h9) tyX6 tyX6_ok hown (tb_use hT tw_193) (tb_use hT tw_194) (tb_use hT tw_108) hK hG hS hA rfl (fun j hj => by rcases (show j = 0 ∨ j = 1 by omega) with rfl | rfl <;> rfl) (by exact Nat.le_of_ble_eq_true rfl) (by exact Nat.le_of_ble_eq_true rfl) dX13_init_36 (fun q64 H hn_q64 hG hS => ?_)
  obtain ⟨G65, eG65⟩ : ∃ g, g = mm_set G53 q64 (.inr (7, [.null, .int 0])) := ⟨_, rfl⟩
  have hG : mm D vwCl A G65 H := by rw [eG65]; exact hG
  have ne_q31_q64 : q31 ≠ q64 := mm_ne_new k62 hn_q64
  have k66 : G65 o = some (.inr (14, [.ref q1, .ref q8, .ref q31, .null, .null, .int 0, .int 0, .null, .null])) := by rw [eG65]; exact mm_set_new k54 hn_q64
  have k67 : G65 q1 = some (.inl (cy 0, 2000, .inl (fun _ => 0))) := by rw [eG65]; exact mm_set_new k55 hn_q64
  have k68 : G65 q8 = some (.inr (10, [.ref q14, .ref q15, .null, .int 0, .int 0])) := by rw [eG65]; exact mm_set_new k56 hn_q64
  have k69 : G65 q14 = some (.inr (13, [.ref q16, .ref q17, .ref q18, .int 0])) := by rw [eG65]; exact mm_set_new k57 hn_q64
  have k70 : G65 q15 = some (.inl (cy 1, 3, .inl (fun _ => 0))) := by rw [eG65]; exact mm_set_new k58 hn_q64
  have k71 : G65 q16 = some (.inl (cy 5, 2001, .inr (.inr (.inr (.inr (fun _ => none)))))) := by rw [eG65]; exact mm_set_new k59 hn_q64
  have k72 : G65 q17 = some (.inl (cy 1, 2001, .inl (fun _ => 0))) := by rw [eG65]; exact mm_set_new k60 hn_q64
  have k73 : G65 q18 = some (.inl (cy 2, 2001, .inr (.inl (fun _ => 0)))) := by rw [eG65]; exact mm_set_new k61 hn_q64
  have k74 : G65 q31 = some (.inr (7, [.ref q43, .int 0])) := by rw [eG65]; exact mm_set_new k62 hn_q64
  have k75 : G65 q43 = some (.inl (cy 0, 64, .inl (fun _ => 0))) := by rw [eG65]; exact mm_set_new k63 hn_q64
  have k76 : G65 q64 = some (.inr (7, [.null, .int 0])) := by rw [eG65]; exact mm_set_self
  refine lv_dup hx hb dX13_init_39 rfl ?_
  refine va_callv (va_runIN (As := []) (rest := [.ref q64, .ref o]) ⟨hx, hb, hml, hown, (fun _ h9 => absurd h9 List.not_mem_nil : ∀ w ∈ ([] : List Cond), w.before _ s = true)⟩ (c_X6_init l D cy A X hst hXT G65 q64 k76) ⟨tb_cn (host := "DescribeText") 0 hT tw_197 tw_108 tw_195 rfl rfl hq_X6_init ⟨Nat.le_of_ble_eq_true rfl, Nat.le_of_ble_eq_true rfl⟩, rfl, (tb_use hT tw_196)⟩ (mk_preS hst hG hK hA hX hS) rfl rfl hl.1 rfl (lv_room (Nat.le_of_ble_eq_true rfl)) dX13_init_40 ⟨Nat.le_of_ble_eq_true rfl, Nat.le_of_ble_eq_true rfl⟩) hS (fun q _ h => h) (fun q h => h) (fun  G77 t H locs ht hvm hw hB hz1 hk1 hS => ?_)
  have hG : mm D vwCl A G77 H := by rw [← ht]; exact hB
  clear hB hz1 hk1 hvm ht
  obtain ⟨q78, hn_q78, h79_o, h79_r, h79_f⟩ := hw
  have k80 : G77 o = some (.inr (14, [.ref q1, .ref q8, .ref q31, .null, .null, .int 0, .int 0, .null, .null])) := h79_f _ _ k66 (mm_ne_oo k66 k76 (by decide))
  have k81 : G77 q1 = some (.inl (cy 0, 2000, .inl (fun _ => 0))) := h79_f _ _ k67 (mm_ne_ao k67 k76)
  have k82 : G77 q8 = some (.inr (10, [.ref q14, .ref q15, .null, .int 0, .int 0])) := h79_f _ _ k68 (mm_ne_oo k68 k76 (by decide))
  have k83 : G77 q14 = some (.inr (13, [.ref q16, .ref q17, .ref q18, .int 0])) := h79_f _ _ k69 (mm_ne_oo k69 k76 (by decide))
  have k84 : G77 q15 = some (.inl (cy 1, 3, .inl (fun _ => 0))) := h79_f _ _ k70 (mm_ne_ao k70 k76)
  have k85 : G77 q16 = some (.inl (cy 5, 2001, .inr (.inr (.inr (.inr (fun _ => none)))))) := h79_f _ _ k71 (mm_ne_ao k71 k76)
  have k86 : G77 q17 = some (.inl (cy 1, 2001, .inl (fun _ => 0))) := h79_f _ _ k72 (mm_ne_ao k72 k76)
  have k87 : G77 q18 = some (.inl (cy 2, 2001, .inr (.inl (fun _ => 0)))) := h79_f _ _ k73 (mm_ne_ao k73 k76)
  have k88 : G77 q31 = some (.inr (7, [.ref q43, .int 0])) := h79_f _ _ k74 ne_q31_q64
  have k89 : G77 q43 = some (.inl (cy 0, 64, .inl (fun _ => 0))) := h79_f _ _ k75 (mm_ne_ao k75 k76)
  have ne_q43_q78 : q43 ≠ q78 := mm_ne_new k75 hn_q78
  refine mm_putF (v := .ref q64) (ty := .object "DescribeText$Octets") hx hb hf_X13 (fun _ h9 => h9) tyX13 tyX13_ok nmX13 hown hK hG hS k80 rfl 3 (by decide) (tb_use hT tw_214) (fun _ h9 => h9) rfl hin rfl (by decide +kernel) rfl rfl (Nat.le_of_ble_eq_true rfl) dX13_init_43 (fun H locs hG hS => ?_)
  obtain ⟨G90, eG90⟩ : ∃ g, g = mm_set G77 o (.inr (14, [.ref q1, .ref q8, .ref q31, .ref q64, .null, .int 0, .int 0, .null, .null])) := ⟨_, rfl⟩
  have hG : mm D vwCl A G90 H := by rw [eG90]; exact hG
  have k91 : G90 o = some (.inr (14, [.ref q1, .ref q8, .ref q31, .ref q64, .null, .int 0, .int 0, .null, .null])) := by rw [eG90]; exact mm_set_self
  have k92 : G90 q1 = some (.inl (cy 0, 2000, .inl (fun _ => 0))) := by rw [eG90]; exact mm_set_of k81 (mm_ne_ao k81 k80)
  have k93 : G90 q8 = some (.inr (10, [.ref q14, .ref q15, .null, .int 0, .int 0])) := by rw [eG90]; exact mm_set_of k82 (mm_ne_oo k82 k80 (by decide))
  have k94 : G90 q14 = some (.inr (13, [.ref q16, .ref q17, .ref q18, .int 0])) := by rw [eG90]; exact mm_set_of k83 (mm_ne_oo k83 k80 (by decide))
  have k95 : G90 q15 = some (.inl (cy 1, 3, .inl (fun _ => 0))) := by rw [eG90]; exact mm_set_of k84 (mm_ne_ao k84 k80)
  have k96 : G90 q16 = some (.inl (cy 5, 2001, .inr (.inr (.inr (.inr (fun _ => none)))))) := by rw [eG90]; exact mm_set_of k85 (mm_ne_ao k85 k80)
  have k97 : G90 q17 = some (.inl (cy 1, 2001, .inl (fun _ => 0))) := by rw [eG90]; exact mm_set_of k86 (mm_ne_ao k86 k80)
  have k98 : G90 q18 = some (.inl (cy 2, 2001, .inr (.inl (fun _ => 0)))) := by rw [eG90]; exact mm_set_of k87 (mm_ne_ao k87 k80)
  have k99 : G90 q31 = some (.inr (7, [.ref q43, .int 0])) := by rw [eG90]; exact mm_set_of k88 (mm_ne_oo k88 k80 (by decide))
  have k100 : G90 q43 = some (.inl (cy 0, 64, .inl (fun _ => 0))) := by rw [eG90]; exact mm_set_of k89 (mm_ne_ao k89 k80)
  have k101 : G90 q64 = some (.inr (7, [.ref q78, .int 0])) := by rw [eG90]; exact mm_set_of h79_o (mm_ne_oo h79_o k80 (by decide))
  have k102 : G90 q78 = some (.inl (cy 0, 64, .inl (fun _ => 0))) := by rw [eG90]; exact mm_set_of h79_r (mm_ne_ao h79_r k80)
  refine lv_aload_n hx hb dX13_init_46 rfl (lv_at hl 0 rfl) ?_
  refine lv_iconst (v := 4) hx hb dX13_init_47 (by decide) ?_
  refine mm_newq (n := 4) (N' := 4) hx hb hown (tb_use hT tw_209) (hT _ tw_210 rfl) hK hG hS hA 6 rfl (by decide) (by decide) (by decide) (by exact Nat.le_of_ble_eq_true rfl) (by exact Nat.le_of_ble_eq_true rfl) dX13_init_48 (fun q103 H hn_q103 hG hS => ?_)
  obtain ⟨G104, eG104⟩ : ∃ g, g = mm_set G90 q103 (.inl (cy 6, 4, .inr (.inr (.inr (.inr (fun _ => none)))))) := ⟨_, rfl⟩
  have hG : mm D vwCl A G104 H := by rw [eG104]; exact hG
  have k105 : G104 o = some (.inr (14, [.ref q1, .ref q8, .ref q31, .ref q64, .null, .int 0, .int 0, .null, .null])) := by rw [eG104]; exact mm_set_new k91 hn_q103
  have k106 : G104 q1 = some (.inl (cy 0, 2000, .inl (fun _ => 0))) := by rw [eG104]; exact mm_set_new k92 hn_q103
  have k107 : G104 q8 = some (.inr (10, [.ref q14, .ref q15, .null, .int 0, .int 0])) := by rw [eG104]; exact mm_set_new k93 hn_q103
  have k108 : G104 q14 = some (.inr (13, [.ref q16, .ref q17, .ref q18, .int 0])) := by rw [eG104]; exact mm_set_new k94 hn_q103
  have k109 : G104 q15 = some (.inl (cy 1, 3, .inl (fun _ => 0))) := by rw [eG104]; exact mm_set_new k95 hn_q103
  have k110 : G104 q16 = some (.inl (cy 5, 2001, .inr (.inr (.inr (.inr (fun _ => none)))))) := by rw [eG104]; exact mm_set_new k96 hn_q103
  have k111 : G104 q17 = some (.inl (cy 1, 2001, .inl (fun _ => 0))) := by rw [eG104]; exact mm_set_new k97 hn_q103
  have k112 : G104 q18 = some (.inl (cy 2, 2001, .inr (.inl (fun _ => 0)))) := by rw [eG104]; exact mm_set_new k98 hn_q103
  have k113 : G104 q31 = some (.inr (7, [.ref q43, .int 0])) := by rw [eG104]; exact mm_set_new k99 hn_q103
  have k114 : G104 q43 = some (.inl (cy 0, 64, .inl (fun _ => 0))) := by rw [eG104]; exact mm_set_new k100 hn_q103
  have k115 : G104 q64 = some (.inr (7, [.ref q78, .int 0])) := by rw [eG104]; exact mm_set_new k101 hn_q103
  have k116 : G104 q78 = some (.inl (cy 0, 64, .inl (fun _ => 0))) := by rw [eG104]; exact mm_set_new k102 hn_q103
  have k117 : G104 q103 = some (.inl (cy 6, 4, .inr (.inr (.inr (.inr (fun _ => none)))))) := by rw [eG104]; exact mm_set_self
  refine mm_putF (v := .ref q103) (ty := .array (.object "DescribeText$Edition")) hx hb hf_X13 (fun _ h9 => h9) tyX13 tyX13_ok nmX13 hown hK hG hS k105 rfl 4 (by decide) (tb_use hT tw_215) (fun _ h9 => h9) rfl hin rfl (by decide +kernel) rfl rfl (Nat.le_of_ble_eq_true rfl) dX13_init_51 (fun H locs hG hS => ?_)
  obtain ⟨G118, eG118⟩ : ∃ g, g = mm_set G104 o (.inr (14, [.ref q1, .ref q8, .ref q31, .ref q64, .ref q103, .int 0, .int 0, .null, .null])) := ⟨_, rfl⟩
  have hG : mm D vwCl A G118 H := by rw [eG118]; exact hG
  have k119 : G118 o = some (.inr (14, [.ref q1, .ref q8, .ref q31, .ref q64, .ref q103, .int 0, .int 0, .null, .null])) := by rw [eG118]; exact mm_set_self
  have k120 : G118 q1 = some (.inl (cy 0, 2000, .inl (fun _ => 0))) := by rw [eG118]; exact mm_set_of k106 (mm_ne_ao k106 k105)
  have k121 : G118 q8 = some (.inr (10, [.ref q14, .ref q15, .null, .int 0, .int 0])) := by rw [eG118]; exact mm_set_of k107 (mm_ne_oo k107 k105 (by decide))
  have k122 : G118 q14 = some (.inr (13, [.ref q16, .ref q17, .ref q18, .int 0])) := by rw [eG118]; exact mm_set_of k108 (mm_ne_oo k108 k105 (by decide))
  have k123 : G118 q15 = some (.inl (cy 1, 3, .inl (fun _ => 0))) := by rw [eG118]; exact mm_set_of k109 (mm_ne_ao k109 k105)
  have k124 : G118 q16 = some (.inl (cy 5, 2001, .inr (.inr (.inr (.inr (fun _ => none)))))) := by rw [eG118]; exact mm_set_of k110 (mm_ne_ao k110 k105)
  have k125 : G118 q17 = some (.inl (cy 1, 2001, .inl (fun _ => 0))) := by rw [eG118]; exact mm_set_of k111 (mm_ne_ao k111 k105)
  have k126 : G118 q18 = some (.inl (cy 2, 2001, .inr (.inl (fun _ => 0)))) := by rw [eG118]; exact mm_set_of k112 (mm_ne_ao k112 k105)
  have k127 : G118 q31 = some (.inr (7, [.ref q43, .int 0])) := by rw [eG118]; exact mm_set_of k113 (mm_ne_oo k113 k105 (by decide))
  have k128 : G118 q43 = some (.inl (cy 0, 64, .inl (fun _ => 0))) := by rw [eG118]; exact mm_set_of k114 (mm_ne_ao k114 k105)
  have k129 : G118 q64 = some (.inr (7, [.ref q78, .int 0])) := by rw [eG118]; exact mm_set_of k115 (mm_ne_oo k115 k105 (by decide))
  have k130 : G118 q78 = some (.inl (cy 0, 64, .inl (fun _ => 0))) := by rw [eG118]; exact mm_set_of k116 (mm_ne_ao k116 k105)
  have k131 : G118 q103 = some (.inl (cy 6, 4, .inr (.inr (.inr (.inr (fun _ => none)))))) := by rw [eG118]; exact mm_set_of k117 (mm_ne_ao k117 k105)
  have hfr : ∀ (x : Nat) (e : va_E), G x = some e → x ≠ o → G118 x = some e := by
    intro x e z0 n_o
    have n_q1 : x ≠ q1 := fun z => by rw [z, hn_q1] at z0; cases z0
    have z1 : G2 x = some e := by rw [eG2]; exact mm_set_of z0 n_q1
    have z2 : G5 x = some e := by rw [eG5]; exact mm_set_of z1 n_o
    have n_q8 : x ≠ q8 := fun z => by rw [z, hn_q8] at z2; cases z2
    have z3 : G9 x = some e := by rw [eG9]; exact mm_set_of z2 n_q8
    have z4 : G13 x = some e := h19_f x e z3 n_q8
    have z5 : G22 x = some e := by rw [eG22]; exact mm_set_of z4 n_o
    have n_q31 : x ≠ q31 := fun z => by rw [z, hn_q31] at z5; cases z5
    have z6 : G32 x = some e := by rw [eG32]; exact mm_set_of z5 n_q31
    have z7 : G42 x = some e := h44_f x e z6 n_q31
    have z8 : G53 x = some e := by rw [eG53]; exact mm_set_of z7 n_o
    have n_q64 : x ≠ q64 := fun z => by rw [z, hn_q64] at z8; cases z8
    have z9 : G65 x = some e := by rw [eG65]; exact mm_set_of z8 n_q64
    have z10 : G77 x = some e := h79_f x e z9 n_q64
    have z11 : G90 x = some e := by rw [eG90]; exact mm_set_of z10 n_o
    have n_q103 : x ≠ q103 := fun z => by rw [z, hn_q103] at z11; cases z11
    have z12 : G104 x = some e := by rw [eG104]; exact mm_set_of z11 n_q103
    have z13 : G118 x = some e := by rw [eG118]; exact mm_set_of z12 n_o
    exact z13
  exact W.vret hx hb hr (fun t ht hW => ⟨⟨_, rfl, ⟨q1, q8, q31, q64, q103, q14, q15, q16, q17, q18, q43, q78, k119, k120, k121, k127, k129, k131, k122, k123, k124, k125, k126, k128, k130, ne_q31_q64, ne_q43_q78, hfr⟩, mk_end hG ht⟩, hS.F ht⟩) hS.2.2 dX13_init_54
