/-- a parameter: where, name, its coding's name, where, kind, the earlier one's name, where, Z -/
abbrev PrD : Type := Int32 × Int64 × Int64 × Int32 × Int32 × Int64 × Int32 × Int32
def q_par (K : Nat → Nat) (S : Nat → Int32) (V : Nat → Int64) (nC : Nat) (q : Nat × Int32) : (Nat × Int32) × PrD :=
  let q1 := q_begin S (nI nC) 8 q
  let a := q_name K S V q1
  let q2 := q_take K S 7 a.2
  let b := q_name K S V q2
  if se K b.2.1 b.2.2 20 then
    let e := q_name K S V (b.2.1 + 1, b.2.2)
    let q4 := q_take K S 8 e.2
    let z := q_num K S V 0 999999 q4
    (q_take K S 6 z.2, (S q1.1, a.1, b.1, S q2.1, 1, e.1, S (b.2.1 + 1), z.1))
  else if se K b.2.1 b.2.2 21 then
    let e := q_name K S V (b.2.1 + 1, b.2.2)
    (q_take K S 6 e.2, (S q1.1, a.1, b.1, S q2.1, 2, e.1, S (b.2.1 + 1), 0))
  else (q_take K S 6 b.2, (S q1.1, a.1, b.1, S q2.1, 0, 0, 0, 0))
set_option maxHeartbeats 4000000 in
set_option maxRecDepth 100000 in
theorem c_X9_takeParameter (l : Launch) (D : va_G) (cy : Nat → ClassId) (A : Nat → Prop) (X : State → Prop) (hst : mk_St A X) (hXT : ∀ U : State, X U → TB U) (e0 : Nat) (tk : Nat → Nat) (hXE : ∀ U : State, X U → ES e0 tk A U) (mi : Nat) (hXL : ∀ U : State, X U → EL e0 mi A U) (G : Nat → Option va_E) (o ow ed : Nat) (q : Nat × Int32) (k ks ss vs tn : Nat) (K : Nat → Nat) (S : Nat → Int32) (V : Nat → Int64) (f1 : Nat → Option Nat) (f2 : Nat → Int32) (f3 : Nat → Int64) (sa la pl : Nat) (su sat sz : Int32) (sn : Int64) (ec nC : Nat) (fC : Nat → Nat) (h0 : G o = some (.inr (10, [.ref k, .ref ow, .ref ed, .int (nI q.1), .int q.2]))) (q1 : G k = some (.inr (13, [.ref ks, .ref ss, .ref vs, .int (nI tn)]))) (q2 : G ks = some (.inl (cy 5, 2001, .inr (.inr (.inr (.inr f1)))))) (q3 : G ss = some (.inl (cy 1, 2001, .inl f2))) (q4 : G vs = some (.inl (cy 2, 2001, .inr (.inl f3)))) (hTP : TKP tk tn K S V f1 f2 f3) (hp : q.1 < 2 ^ 27) (hsa : G sa = some (.inr (11, [.int su, .ref la, .int sat, .long sn, .ref pl, .int sz]))) (hlc : LiS cy e0 G pl ec nC fC) (hLT : LT G 9 nC fC) (hnC : nC < 100) : Met l yX9_takeParameter [.code yX9_takeParameter cX9_takeParameter 3 none] ({ frames := 8, cells := 2, slots := (15 + gco nC), locals := 240 }) (mk_Pre D vwCl (tyL cy) A X G [.ref o, .ref sa]) (va_Qv (fun (G2 : Nat → Option va_E) => ∃ (pa ec2 : Nat), G pa = none ∧ G2 o = some (.inr (10, [.ref k, .ref ow, .ref ed, .int (nI ((q_par K S V nC q).1).1), .int (((q_par K S V nC q).1).2)])) ∧ LiS cy e0 G2 pl ec2 (nC + 1) (fup fC nC pa) ∧ ((1 ≤ nC ∧ ec2 = ec) ∨ G ec2 = none) ∧ G2 pa = some (.inr (9, [.int (nI (nC + 1)), .int ((q_par K S V nC q).2.1), .long ((q_par K S V nC q).2.2.1), .long ((q_par K S V nC q).2.2.2.1), .int ((q_par K S V nC q).2.2.2.2.1), .null, .int ((q_par K S V nC q).2.2.2.2.2.1), .long ((q_par K S V nC q).2.2.2.2.2.2.1), .int ((q_par K S V nC q).2.2.2.2.2.2.2.1), .null, .int ((q_par K S V nC q).2.2.2.2.2.2.2.2), .int 0, .int 0, .long 0, .long 0])) ∧ ∀ (x : Nat) (e : va_E), G x = some e → x ≠ o → x ≠ pl → (1 ≤ nC → x ≠ ec) → G2 x = some e) (mk_B D vwCl A) A) 2 (15 + gco nC) A := by
  refine Met.ofW (cc := cX9_takeParameter) (maxL := 3) (ret := none) (by decide) rfl ?_
  intro p e s m args below meth c s₁ B hml hv
  obtain ⟨rfl, hG, hK, hA, hX⟩ := hv
  have hx := B.exec
  have hb := B.bytes
  have hr := B.returns
  have hlocks := B.notSynchronized
  have hT := hXT s hX
  have hown : s.vm.findClass RX9 = some m.cls := findClass_of_methodNamed B.named
  have hf_X10 : ∀ w ∈ u_ws RX10 TX10 6, w.before ([.ref o, .ref sa] : List Value).toArray s = true := tb_list hT fX10
  have hf_X8 : ∀ w ∈ u_ws RX8 TX8 15, w.before ([.ref o, .ref sa] : List Value).toArray s = true := tb_list hT fX8
  have hf_X9 : ∀ w ∈ u_ws RX9 TX9 5, w.before ([.ref o, .ref sa] : List Value).toArray s = true := tb_list hT fX9
  have hS : va_S A s.heap s.heap [] := va_S.rf
  have hE := hXE s hX
  have hl := lv_entry ([.ref o, .ref sa]) (n := 3) (Nat.le_of_ble_eq_true rfl)
  rw [lg_entry_eq]
  generalize (lg_sl ([.ref o, .ref sa]) ++ List.replicate (3 - (lg_sl ([.ref o, .ref sa])).length) Slot.unset).toArray = ls at hl ⊢
  have hl : lv_has ls 3 [(0, .ref o), (1, .ref sa)] := hl
  refine lv_aload_n hx hb dX9_takeParameter_0 rfl (lv_at hl 0 rfl) ?_
  refine lv_aload_n hx hb dX9_takeParameter_1 rfl (lv_at hl 1 rfl) ?_
  refine mm_getN (v := .ref pl) hx hb hf_X10 (fun _ h9 => h9) hown hK hG hsa rfl 4 (by decide) (tb_use hT tw_741) (fun _ h9 => h9) rfl dX9_takeParameter_2 ?_
  have hB1 : ∀ (x : Nat) (e : va_E), G x = some e → x ≠ o → G x = some e := by
    intro x e z0 n_o
    exact z0
  have hL2 : LiS cy e0 G pl ec nC fC := LiS.fr2 (fun x => x ≠ o) hlc (fun x e h0 hp => hB1 x e h0 hp) (hlc.ne h0 (by decide)) (fun v _ hv => mm_ne_ao hv h0)
  obtain ⟨mo3, h_mo3, -⟩ := id hL2
  refine va_calli (va_runV (As := []) (rest := [.ref o]) ⟨hx, hb, hml, hown, (fun _ h9 => absurd h9 List.not_mem_nil : ∀ w ∈ ([] : List Cond), w.before _ s = true)⟩ (c_LS_size l D cy A X hst hXT e0 tk hXE mi hXL G pl ec nC fC hL2) (tb_cw (C := RJx4a65c) 0 hT tw_457 tw_113 tw_454 tw_455 tw_456 rfl rfl hq_Jx4a65c_size_8abf5 ⟨Nat.le_of_ble_eq_true rfl, Nat.le_of_ble_eq_true rfl⟩) (mk_preC hst hG hK hA hX hS vc_1 h_mo3) rfl rfl hl.1 rfl (lv_room (Nat.le_of_ble_eq_true rfl)) dX9_takeParameter_5 ⟨(by show _ ≤ 2; omega), (by show _ ≤ 15 + gco nC; omega)⟩) hS (fun q _ h => h) (fun q h => h) (fun r4 G5 t H locs ht hvm hw hB hz1 hk1 hS => ?_)
  have hG : mm D vwCl A G5 H := by rw [← ht]; exact hB
  clear hB hz1 hk1 hvm ht
  obtain ⟨rfl, hw⟩ := hw
  rw [hw] at hG
  refine lv_bipush (v := 8) hx hb dX9_takeParameter_8 (by decide) ?_
  refine va_callv (va_runV (As := [.int (nI nC), .int 8]) (rest := []) ⟨hx, hb, hml, hown, (fun _ h9 => absurd h9 List.not_mem_nil : ∀ w ∈ ([] : List Cond), w.before _ s = true)⟩ (c_X9_begin l D cy A X hst hXT e0 tk hXE G o ow ed q k ks ss vs tn K S V f1 f2 f3 (nI nC) 8 h0 q1 q2 q3 q4 hTP (by first | omega | (simp only []; omega)) ) (tb_cw (C := RX9) 2 hT tw_461 tw_106 tw_458 tw_460 tw_8 rfl rfl hq_X9_begin ⟨Nat.le_of_ble_eq_true rfl, Nat.le_of_ble_eq_true rfl⟩) (mk_preC hst hG hK hA hX hS vc_10 h0) rfl rfl hl.1 rfl (lv_room (Nat.le_of_ble_eq_true rfl)) dX9_takeParameter_10 ⟨(by show _ ≤ 2; omega), (by show _ ≤ 15 + gco nC; omega)⟩) hS (fun q _ h => h) (fun q h => h) (fun  G6 t H locs ht hvm hw hB hz1 hk1 hS => ?_)
  have hG : mm D vwCl A G6 H := by rw [← ht]; exact hB
  clear hB hz1 hk1 hvm ht
  obtain ⟨y7, ey7⟩ : ∃ y, y = q_begin S (nI nC) 8 q := ⟨_, rfl⟩
  rw [← ey7] at hw
  have ly7 : y7.1 ≤ q.1 + 1 := by rw [ey7]; exact q_begin_le
  have eG6 := hw
  clear hw
  have k8 : G6 o = some (.inr (10, [.ref k, .ref ow, .ref ed, .int (nI y7.1), .int y7.2])) := by rw [eG6]; exact mm_set_self
  have k9 : G6 k = some (.inr (13, [.ref ks, .ref ss, .ref vs, .int (nI tn)])) := by rw [eG6]; exact mm_set_of q1 (mm_ne_oo q1 h0 (by decide))
  have k10 : G6 ks = some (.inl (cy 5, 2001, .inr (.inr (.inr (.inr f1))))) := by rw [eG6]; exact mm_set_of q2 (mm_ne_ao q2 h0)
  have k11 : G6 ss = some (.inl (cy 1, 2001, .inl f2)) := by rw [eG6]; exact mm_set_of q3 (mm_ne_ao q3 h0)
  have k12 : G6 vs = some (.inl (cy 2, 2001, .inr (.inl f3))) := by rw [eG6]; exact mm_set_of q4 (mm_ne_ao q4 h0)
  have k13 : G6 sa = some (.inr (11, [.int su, .ref la, .int sat, .long sn, .ref pl, .int sz])) := by rw [eG6]; exact mm_set_of hsa (mm_ne_oo hsa h0 (by decide))
  refine mm_new (ci := 9) (fs := [.int 0, .int 0, .long 0, .long 0, .int 0, .null, .int 0, .long 0, .int 0, .null, .int 0, .int 0, .int 0, .long 0, .long 0]) hx hb hf_X8 (fun _ h9 => h9) tyX8 tyX8_ok hown (tb_use hT tw_764) (tb_use hT tw_765) (tb_use hT tw_129) hK hG hS hA rfl (fun j hj => by rcases (show j = 0 ∨ j = 1 ∨ j = 2 ∨ j = 3 ∨ j = 4 ∨ j = 5 ∨ j = 6 ∨ j = 7 ∨ j = 8 ∨ j = 9 ∨ j = 10 ∨ j = 11 ∨ j = 12 ∨ j = 13 ∨ j = 14 by omega) with rfl | rfl | rfl | rfl | rfl | rfl | rfl | rfl | rfl | rfl | rfl | rfl | rfl | rfl | rfl <;> rfl) (by show _ ≤ 2; omega) (by show _ ≤ 15 + gco nC; omega) dX9_takeParameter_13 (fun q14 H hn_q14 hG hS => ?_)
  obtain ⟨G15, eG15⟩ : ∃ g, g = mm_set G6 q14 (.inr (9, [.int 0, .int 0, .long 0, .long 0, .int 0, .null, .int 0, .long 0, .int 0, .null, .int 0, .int 0, .int 0, .long 0, .long 0])) := ⟨_, rfl⟩
  have hG : mm D vwCl A G15 H := by rw [eG15]; exact hG
  have k16 : G15 o = some (.inr (10, [.ref k, .ref ow, .ref ed, .int (nI y7.1), .int y7.2])) := by rw [eG15]; exact mm_set_new k8 hn_q14
  have k17 : G15 k = some (.inr (13, [.ref ks, .ref ss, .ref vs, .int (nI tn)])) := by rw [eG15]; exact mm_set_new k9 hn_q14
  have k18 : G15 ks = some (.inl (cy 5, 2001, .inr (.inr (.inr (.inr f1))))) := by rw [eG15]; exact mm_set_new k10 hn_q14
  have k19 : G15 ss = some (.inl (cy 1, 2001, .inl f2)) := by rw [eG15]; exact mm_set_new k11 hn_q14
  have k20 : G15 vs = some (.inl (cy 2, 2001, .inr (.inl f3))) := by rw [eG15]; exact mm_set_new k12 hn_q14
  have k21 : G15 sa = some (.inr (11, [.int su, .ref la, .int sat, .long sn, .ref pl, .int sz])) := by rw [eG15]; exact mm_set_new k13 hn_q14
  have k22 : G15 q14 = some (.inr (9, [.int 0, .int 0, .long 0, .long 0, .int 0, .null, .int 0, .long 0, .int 0, .null, .int 0, .int 0, .int 0, .long 0, .long 0])) := by rw [eG15]; exact mm_set_self
  refine lv_dup hx hb dX9_takeParameter_16 rfl ?_
  refine lv_aload_n hx hb dX9_takeParameter_17 rfl (lv_at hl 1 rfl) ?_
  refine mm_getN (v := .ref pl) hx hb hf_X10 (fun _ h9 => h9) hown hK hG k21 rfl 4 (by decide) (tb_use hT tw_741) (fun _ h9 => h9) rfl dX9_takeParameter_18 ?_
  have hB23 : ∀ (x : Nat) (e : va_E), G x = some e → x ≠ o → G15 x = some e := by
    intro x e z0 n_o
    have z1 : G6 x = some e := by rw [eG6]; exact mm_set_of z0 n_o
    have n_q14 : x ≠ q14 := fun z => by rw [z, hn_q14] at z1; cases z1
    have z2 : G15 x = some e := by rw [eG15]; exact mm_set_of z1 n_q14
    exact z2
  have hL24 : LiS cy e0 G15 pl ec nC fC := LiS.fr2 (fun x => x ≠ o) hlc (fun x e h0 hp => hB23 x e h0 hp) (hlc.ne h0 (by decide)) (fun v _ hv => mm_ne_ao hv h0)
  obtain ⟨mo25, h_mo25, -⟩ := id hL24
  refine va_calli (va_runV (As := []) (rest := [.ref q14, .ref q14]) ⟨hx, hb, hml, hown, (fun _ h9 => absurd h9 List.not_mem_nil : ∀ w ∈ ([] : List Cond), w.before _ s = true)⟩ (c_LS_size l D cy A X hst hXT e0 tk hXE mi hXL G15 pl ec nC fC hL24) (tb_cw (C := RJx4a65c) 0 hT tw_457 tw_113 tw_454 tw_455 tw_456 rfl rfl hq_Jx4a65c_size_8abf5 ⟨Nat.le_of_ble_eq_true rfl, Nat.le_of_ble_eq_true rfl⟩) (mk_preC hst hG hK hA hX hS vc_1 h_mo25) rfl rfl hl.1 rfl (lv_room (Nat.le_of_ble_eq_true rfl)) dX9_takeParameter_21 ⟨(by show _ ≤ 2; omega), (by show _ ≤ 15 + gco nC; omega)⟩) hS (fun q _ h => h) (fun q h => h) (fun r26 G27 t H locs ht hvm hw hB hz1 hk1 hS => ?_)
  have hG : mm D vwCl A G27 H := by rw [← ht]; exact hB
  clear hB hz1 hk1 hvm ht
  obtain ⟨rfl, hw⟩ := hw
  rw [hw] at hG
  refine lv_iconst (v := 1) hx hb dX9_takeParameter_24 (by decide) ?_
  refine lv_iadd hx hb dX9_takeParameter_25 ?_
  rw [← nI_succ nC]
  refine lv_aload_n hx hb dX9_takeParameter_26 rfl (lv_at hl 0 rfl) ?_
  refine va_calli (va_runV (As := []) (rest := [.int (nI (nC + 1)), .ref q14, .ref q14]) ⟨hx, hb, hml, hown, (fun _ h9 => absurd h9 List.not_mem_nil : ∀ w ∈ ([] : List Cond), w.before _ s = true)⟩ (c_X9_start l D cy A X hst hXT e0 tk hXE G15 o ow ed y7 k ks ss vs tn K S V f1 f2 f3  k16 k17 k18 k19 k20 hTP (by first | omega | (simp only []; omega)) ) (tb_cw (C := RX9) 0 hT tw_475 tw_106 tw_472 tw_474 tw_10 rfl rfl hq_X9_start ⟨Nat.le_of_ble_eq_true rfl, Nat.le_of_ble_eq_true rfl⟩) (mk_preC hst hG hK hA hX hS vc_10 k16) rfl rfl hl.1 rfl (lv_room (Nat.le_of_ble_eq_true rfl)) dX9_takeParameter_27 ⟨(by show _ ≤ 2; omega), (by show _ ≤ 15 + gco nC; omega)⟩) hS (fun q _ h => h) (fun q h => h) (fun r28 G29 t H locs ht hvm hw hB hz1 hk1 hS => ?_)
  have hG : mm D vwCl A G29 H := by rw [← ht]; exact hB
  clear hB hz1 hk1 hvm ht
  obtain ⟨er28, hw⟩ := hw
  rw [hw] at hG
  refine lv_aload_n hx hb dX9_takeParameter_30 rfl (lv_at hl 0 rfl) ?_
  refine va_calll (va_runV (As := []) (rest := [.int r28, .int (nI (nC + 1)), .ref q14, .ref q14]) ⟨hx, hb, hml, hown, (fun _ h9 => absurd h9 List.not_mem_nil : ∀ w ∈ ([] : List Cond), w.before _ s = true)⟩ (c_X9_takeName l D cy A X hst hXT e0 tk hXE G15 o ow ed y7 k ks ss vs tn K S V f1 f2 f3  k16 k17 k18 k19 k20 hTP (by first | omega | (simp only []; omega)) ) (tb_cw (C := RX9) 0 hT tw_479 tw_106 tw_476 tw_478 tw_11 rfl rfl hq_X9_takeName ⟨Nat.le_of_ble_eq_true rfl, Nat.le_of_ble_eq_true rfl⟩) (mk_preC hst hG hK hA hX hS vc_10 k16) rfl rfl hl.1 rfl (lv_room (Nat.le_of_ble_eq_true rfl)) dX9_takeParameter_31 ⟨(by show _ ≤ 2; omega), (by show _ ≤ 15 + gco nC; omega)⟩) hS (fun q _ h => h) (fun q h => h) (fun r30 G31 t H locs ht hvm hw hB hz1 hk1 hS => ?_)
  have hG : mm D vwCl A G31 H := by rw [← ht]; exact hB
  clear hB hz1 hk1 hvm ht
  obtain ⟨y32, ey32⟩ : ∃ y, y = q_name K S V y7 := ⟨_, rfl⟩
  rw [← ey32] at hw
  obtain ⟨er30, hw⟩ := hw
  have ly32 : y32.2.1 ≤ y7.1 + 1 := by rw [ey32]; exact q_name_le
  have eG31 := hw
  clear hw
  have k33 : G31 o = some (.inr (10, [.ref k, .ref ow, .ref ed, .int (nI y32.2.1), .int y32.2.2])) := by rw [eG31]; exact mm_set_self
  have k34 : G31 k = some (.inr (13, [.ref ks, .ref ss, .ref vs, .int (nI tn)])) := by rw [eG31]; exact mm_set_of k17 (mm_ne_oo k17 k16 (by decide))
  have k35 : G31 ks = some (.inl (cy 5, 2001, .inr (.inr (.inr (.inr f1))))) := by rw [eG31]; exact mm_set_of k18 (mm_ne_ao k18 k16)
  have k36 : G31 ss = some (.inl (cy 1, 2001, .inl f2)) := by rw [eG31]; exact mm_set_of k19 (mm_ne_ao k19 k16)
  have k37 : G31 vs = some (.inl (cy 2, 2001, .inr (.inl f3))) := by rw [eG31]; exact mm_set_of k20 (mm_ne_ao k20 k16)
  have k38 : G31 sa = some (.inr (11, [.int su, .ref la, .int sat, .long sn, .ref pl, .int sz])) := by rw [eG31]; exact mm_set_of k21 (mm_ne_oo k21 k16 (by decide))
  have k39 : G31 q14 = some (.inr (9, [.int 0, .int 0, .long 0, .long 0, .int 0, .null, .int 0, .long 0, .int 0, .null, .int 0, .int 0, .int 0, .long 0, .long 0])) := by rw [eG31]; exact mm_set_of k22 (mm_ne_oo k22 k16 (by decide))
  refine va_callv (va_runI (As := [.int (nI (nC + 1)), .int r28, .long r30]) (rest := [.ref q14]) ⟨hx, hb, hml, hown, (fun _ h9 => absurd h9 List.not_mem_nil : ∀ w ∈ ([] : List Cond), w.before _ s = true)⟩ (c_X8_init l D cy A X hst hXT e0 tk hXE G31 q14 (nI (nC + 1)) r28 r30 k39) (tb_ci 3 hT tw_768 tw_129 tw_766 tw_767 rfl rfl rfl hq_X8_init ⟨Nat.le_of_ble_eq_true rfl, Nat.le_of_ble_eq_true rfl⟩) (mk_preS hst hG hK hA hX hS) rfl rfl hl.1 rfl (lv_room (Nat.le_of_ble_eq_true rfl)) dX9_takeParameter_34 ⟨(by show _ ≤ 2; omega), (by show _ ≤ 15 + gco nC; omega)⟩) hS (fun q _ h => h) (fun q h => h) (fun  G40 t H locs ht hvm hw hB hz1 hk1 hS => ?_)
  have hG : mm D vwCl A G40 H := by rw [← ht]; exact hB
  clear hB hz1 hk1 hvm ht
  obtain ⟨h41_1, h41_f⟩ := hw
  have k42 : G40 o = some (.inr (10, [.ref k, .ref ow, .ref ed, .int (nI y32.2.1), .int y32.2.2])) := h41_f _ _ k33 (mm_ne_oo k33 k39 (by decide))
  have k43 : G40 k = some (.inr (13, [.ref ks, .ref ss, .ref vs, .int (nI tn)])) := h41_f _ _ k34 (mm_ne_oo k34 k39 (by decide))
  have k44 : G40 ks = some (.inl (cy 5, 2001, .inr (.inr (.inr (.inr f1))))) := h41_f _ _ k35 (mm_ne_ao k35 k39)
  have k45 : G40 ss = some (.inl (cy 1, 2001, .inl f2)) := h41_f _ _ k36 (mm_ne_ao k36 k39)
  have k46 : G40 vs = some (.inl (cy 2, 2001, .inr (.inl f3))) := h41_f _ _ k37 (mm_ne_ao k37 k39)
  have k47 : G40 sa = some (.inr (11, [.int su, .ref la, .int sat, .long sn, .ref pl, .int sz])) := h41_f _ _ k38 (mm_ne_oo k38 k39 (by decide))
  refine lv_astore_n (lv' := [(2, .ref q14), (0, .ref o), (1, .ref sa)]) hx hb dX9_takeParameter_37 rfl hl (by decide) rfl (fun ls hl => ?_)
  refine lv_aload_n hx hb dX9_takeParameter_38 rfl (lv_at hl 1 rfl) ?_
  refine va_gets (v := .ref (tk 7)) hx hb (show va_Z "DescribeText$Token" "COLON" "LDescribeText$Token;" (.ref (tk 7)) A s s.heap from (hE.2.1 7 (by decide)).1) hS hown (tb_use hT tw_844) (fun _ h9 => h9) dX9_takeParameter_39 ?_
  refine va_callv (va_runV (As := [.ref (tk 7)]) (rest := []) ⟨hx, hb, hml, hown, (fun _ h9 => absurd h9 List.not_mem_nil : ∀ w ∈ ([] : List Cond), w.before _ s = true)⟩ (c_X9_take l D cy A X hst hXT e0 tk hXE G40 o ow ed y32.2 k ks ss vs tn K S V f1 f2 f3 7 k42 k43 k44 k45 k46 hTP (by first | omega | (simp only []; omega)) (by decide)) (tb_cw (C := RX9) 1 hT tw_539 tw_106 tw_536 tw_538 tw_12 rfl rfl hq_X9_take ⟨Nat.le_of_ble_eq_true rfl, Nat.le_of_ble_eq_true rfl⟩) (mk_preC hst hG hK hA hX hS vc_10 k42) rfl rfl hl.1 rfl (lv_room (Nat.le_of_ble_eq_true rfl)) dX9_takeParameter_42 ⟨(by show _ ≤ 2; omega), (by show _ ≤ 15 + gco nC; omega)⟩) hS (fun q _ h => h) (fun q h => h) (fun  G48 t H locs ht hvm hw hB hz1 hk1 hS => ?_)
  have hG : mm D vwCl A G48 H := by rw [← ht]; exact hB
  clear hB hz1 hk1 hvm ht
  obtain ⟨y49, ey49⟩ : ∃ y, y = q_take K S 7 y32.2 := ⟨_, rfl⟩
  rw [← ey49] at hw
  have ly49 : y49.1 ≤ y32.2.1 + 1 := by rw [ey49]; exact q_take_le
  have eG48 := hw
  clear hw
  have k50 : G48 o = some (.inr (10, [.ref k, .ref ow, .ref ed, .int (nI y49.1), .int y49.2])) := by rw [eG48]; exact mm_set_self
  have k51 : G48 k = some (.inr (13, [.ref ks, .ref ss, .ref vs, .int (nI tn)])) := by rw [eG48]; exact mm_set_of k43 (mm_ne_oo k43 k42 (by decide))
  have k52 : G48 ks = some (.inl (cy 5, 2001, .inr (.inr (.inr (.inr f1))))) := by rw [eG48]; exact mm_set_of k44 (mm_ne_ao k44 k42)
  have k53 : G48 ss = some (.inl (cy 1, 2001, .inl f2)) := by rw [eG48]; exact mm_set_of k45 (mm_ne_ao k45 k42)
  have k54 : G48 vs = some (.inl (cy 2, 2001, .inr (.inl f3))) := by rw [eG48]; exact mm_set_of k46 (mm_ne_ao k46 k42)
  have k55 : G48 sa = some (.inr (11, [.int su, .ref la, .int sat, .long sn, .ref pl, .int sz])) := by rw [eG48]; exact mm_set_of k47 (mm_ne_oo k47 k42 (by decide))
  have k56 : G48 q14 = some (.inr (9, [.int (nI (nC + 1)), .int r28, .long r30, .long 0, .int 0, .null, .int 0, .long 0, .int 0, .null, .int 0, .int 0, .int 0, .long 0, .long 0])) := by rw [eG48]; exact mm_set_of h41_1 (mm_ne_oo h41_1 k42 (by decide))
  refine lv_aload_n hx hb dX9_takeParameter_45 rfl (lv_at hl 0 rfl) ?_
  refine lv_aload_n hx hb dX9_takeParameter_46 rfl (lv_at hl 1 rfl) ?_
  refine va_calli (va_runV (As := []) (rest := [.ref q14]) ⟨hx, hb, hml, hown, (fun _ h9 => absurd h9 List.not_mem_nil : ∀ w ∈ ([] : List Cond), w.before _ s = true)⟩ (c_X9_start l D cy A X hst hXT e0 tk hXE G48 o ow ed y49 k ks ss vs tn K S V f1 f2 f3  k50 k51 k52 k53 k54 hTP (by first | omega | (simp only []; omega)) ) (tb_cw (C := RX9) 0 hT tw_475 tw_106 tw_472 tw_474 tw_10 rfl rfl hq_X9_start ⟨Nat.le_of_ble_eq_true rfl, Nat.le_of_ble_eq_true rfl⟩) (mk_preC hst hG hK hA hX hS vc_10 k50) rfl rfl hl.1 rfl (lv_room (Nat.le_of_ble_eq_true rfl)) dX9_takeParameter_47 ⟨(by show _ ≤ 2; omega), (by show _ ≤ 15 + gco nC; omega)⟩) hS (fun q _ h => h) (fun q h => h) (fun r57 G58 t H locs ht hvm hw hB hz1 hk1 hS => ?_)
  have hG : mm D vwCl A G58 H := by rw [← ht]; exact hB
  clear hB hz1 hk1 hvm ht
  obtain ⟨er57, hw⟩ := hw
  rw [hw] at hG
  refine mm_putN (v := .int r57) (ty := .int) hx hb hf_X8 (fun _ h9 => h9) tyX8 tyX8_ok nmX8 hown hK hG hS k56 rfl 4 (by decide) (tb_use hT tw_782) (fun _ h9 => h9) rfl (by decide +kernel) rfl rfl (Nat.le_of_ble_eq_true rfl) dX9_takeParameter_50 (fun H locs hG hS => ?_)
  obtain ⟨G59, eG59⟩ : ∃ g, g = mm_set G48 q14 (.inr (9, [.int (nI (nC + 1)), .int r28, .long r30, .long 0, .int r57, .null, .int 0, .long 0, .int 0, .null, .int 0, .int 0, .int 0, .long 0, .long 0])) := ⟨_, rfl⟩
  have hG : mm D vwCl A G59 H := by rw [eG59]; exact hG
  have k60 : G59 o = some (.inr (10, [.ref k, .ref ow, .ref ed, .int (nI y49.1), .int y49.2])) := by rw [eG59]; exact mm_set_of k50 (mm_ne_oo k50 k56 (by decide))
  have k61 : G59 k = some (.inr (13, [.ref ks, .ref ss, .ref vs, .int (nI tn)])) := by rw [eG59]; exact mm_set_of k51 (mm_ne_oo k51 k56 (by decide))
  have k62 : G59 ks = some (.inl (cy 5, 2001, .inr (.inr (.inr (.inr f1))))) := by rw [eG59]; exact mm_set_of k52 (mm_ne_ao k52 k56)
  have k63 : G59 ss = some (.inl (cy 1, 2001, .inl f2)) := by rw [eG59]; exact mm_set_of k53 (mm_ne_ao k53 k56)
  have k64 : G59 vs = some (.inl (cy 2, 2001, .inr (.inl f3))) := by rw [eG59]; exact mm_set_of k54 (mm_ne_ao k54 k56)
  have k65 : G59 sa = some (.inr (11, [.int su, .ref la, .int sat, .long sn, .ref pl, .int sz])) := by rw [eG59]; exact mm_set_of k55 (mm_ne_oo k55 k56 (by decide))
  have k66 : G59 q14 = some (.inr (9, [.int (nI (nC + 1)), .int r28, .long r30, .long 0, .int r57, .null, .int 0, .long 0, .int 0, .null, .int 0, .int 0, .int 0, .long 0, .long 0])) := by rw [eG59]; exact mm_set_self
  refine lv_aload_n hx hb dX9_takeParameter_53 rfl (lv_at hl 0 rfl) ?_
  refine lv_aload_n hx hb dX9_takeParameter_54 rfl (lv_at hl 1 rfl) ?_
  refine va_calll (va_runV (As := []) (rest := [.ref q14]) ⟨hx, hb, hml, hown, (fun _ h9 => absurd h9 List.not_mem_nil : ∀ w ∈ ([] : List Cond), w.before _ s = true)⟩ (c_X9_takeName l D cy A X hst hXT e0 tk hXE G59 o ow ed y49 k ks ss vs tn K S V f1 f2 f3  k60 k61 k62 k63 k64 hTP (by first | omega | (simp only []; omega)) ) (tb_cw (C := RX9) 0 hT tw_479 tw_106 tw_476 tw_478 tw_11 rfl rfl hq_X9_takeName ⟨Nat.le_of_ble_eq_true rfl, Nat.le_of_ble_eq_true rfl⟩) (mk_preC hst hG hK hA hX hS vc_10 k60) rfl rfl hl.1 rfl (lv_room (Nat.le_of_ble_eq_true rfl)) dX9_takeParameter_55 ⟨(by show _ ≤ 2; omega), (by show _ ≤ 15 + gco nC; omega)⟩) hS (fun q _ h => h) (fun q h => h) (fun r67 G68 t H locs ht hvm hw hB hz1 hk1 hS => ?_)
  have hG : mm D vwCl A G68 H := by rw [← ht]; exact hB
  clear hB hz1 hk1 hvm ht
  obtain ⟨y69, ey69⟩ : ∃ y, y = q_name K S V y49 := ⟨_, rfl⟩
  rw [← ey69] at hw
  obtain ⟨er67, hw⟩ := hw
  have ly69 : y69.2.1 ≤ y49.1 + 1 := by rw [ey69]; exact q_name_le
  have eG68 := hw
  clear hw
  have k70 : G68 o = some (.inr (10, [.ref k, .ref ow, .ref ed, .int (nI y69.2.1), .int y69.2.2])) := by rw [eG68]; exact mm_set_self
  have k71 : G68 k = some (.inr (13, [.ref ks, .ref ss, .ref vs, .int (nI tn)])) := by rw [eG68]; exact mm_set_of k61 (mm_ne_oo k61 k60 (by decide))
  have k72 : G68 ks = some (.inl (cy 5, 2001, .inr (.inr (.inr (.inr f1))))) := by rw [eG68]; exact mm_set_of k62 (mm_ne_ao k62 k60)
  have k73 : G68 ss = some (.inl (cy 1, 2001, .inl f2)) := by rw [eG68]; exact mm_set_of k63 (mm_ne_ao k63 k60)
  have k74 : G68 vs = some (.inl (cy 2, 2001, .inr (.inl f3))) := by rw [eG68]; exact mm_set_of k64 (mm_ne_ao k64 k60)
  have k75 : G68 sa = some (.inr (11, [.int su, .ref la, .int sat, .long sn, .ref pl, .int sz])) := by rw [eG68]; exact mm_set_of k65 (mm_ne_oo k65 k60 (by decide))
  have k76 : G68 q14 = some (.inr (9, [.int (nI (nC + 1)), .int r28, .long r30, .long 0, .int r57, .null, .int 0, .long 0, .int 0, .null, .int 0, .int 0, .int 0, .long 0, .long 0])) := by rw [eG68]; exact mm_set_of k66 (mm_ne_oo k66 k60 (by decide))
  refine mm_putN (v := .long r67) (ty := .long) hx hb hf_X8 (fun _ h9 => h9) tyX8 tyX8_ok nmX8 hown hK hG hS k76 rfl 3 (by decide) (tb_use hT tw_780) (fun _ h9 => h9) rfl (by decide +kernel) rfl rfl (Nat.le_of_ble_eq_true rfl) dX9_takeParameter_58 (fun H locs hG hS => ?_)
  obtain ⟨G77, eG77⟩ : ∃ g, g = mm_set G68 q14 (.inr (9, [.int (nI (nC + 1)), .int r28, .long r30, .long r67, .int r57, .null, .int 0, .long 0, .int 0, .null, .int 0, .int 0, .int 0, .long 0, .long 0])) := ⟨_, rfl⟩
  have hG : mm D vwCl A G77 H := by rw [eG77]; exact hG
  have k78 : G77 o = some (.inr (10, [.ref k, .ref ow, .ref ed, .int (nI y69.2.1), .int y69.2.2])) := by rw [eG77]; exact mm_set_of k70 (mm_ne_oo k70 k76 (by decide))
  have k79 : G77 k = some (.inr (13, [.ref ks, .ref ss, .ref vs, .int (nI tn)])) := by rw [eG77]; exact mm_set_of k71 (mm_ne_oo k71 k76 (by decide))
  have k80 : G77 ks = some (.inl (cy 5, 2001, .inr (.inr (.inr (.inr f1))))) := by rw [eG77]; exact mm_set_of k72 (mm_ne_ao k72 k76)
  have k81 : G77 ss = some (.inl (cy 1, 2001, .inl f2)) := by rw [eG77]; exact mm_set_of k73 (mm_ne_ao k73 k76)
  have k82 : G77 vs = some (.inl (cy 2, 2001, .inr (.inl f3))) := by rw [eG77]; exact mm_set_of k74 (mm_ne_ao k74 k76)
  have k83 : G77 sa = some (.inr (11, [.int su, .ref la, .int sat, .long sn, .ref pl, .int sz])) := by rw [eG77]; exact mm_set_of k75 (mm_ne_oo k75 k76 (by decide))
  have k84 : G77 q14 = some (.inr (9, [.int (nI (nC + 1)), .int r28, .long r30, .long r67, .int r57, .null, .int 0, .long 0, .int 0, .null, .int 0, .int 0, .int 0, .long 0, .long 0])) := by rw [eG77]; exact mm_set_self
  refine lv_aload_n hx hb dX9_takeParameter_61 rfl (lv_at hl 1 rfl) ?_
  refine va_gets (v := .ref (tk 20)) hx hb (show va_Z "DescribeText$Token" "WHEN" "LDescribeText$Token;" (.ref (tk 20)) A s s.heap from (hE.2.1 20 (by decide)).1) hS hown (tb_use hT tw_846) (fun _ h9 => h9) dX9_takeParameter_62 ?_
  refine va_calli (va_runV (As := [.ref (tk 20)]) (rest := []) ⟨hx, hb, hml, hown, (fun _ h9 => absurd h9 List.not_mem_nil : ∀ w ∈ ([] : List Cond), w.before _ s = true)⟩ (c_X9_sees l D cy A X hst hXT e0 tk hXE G77 o ow ed y69.2 k ks ss vs tn K S V f1 f2 f3 20 k78 k79 k80 k81 k82 hTP (by first | omega | (simp only []; omega)) (by decide)) (tb_cw (C := RX9) 1 hT tw_437 tw_106 tw_434 tw_436 tw_6 rfl rfl hq_X9_sees ⟨Nat.le_of_ble_eq_true rfl, Nat.le_of_ble_eq_true rfl⟩) (mk_preC hst hG hK hA hX hS vc_10 k78) rfl rfl hl.1 rfl (lv_room (Nat.le_of_ble_eq_true rfl)) dX9_takeParameter_65 ⟨(by show _ ≤ 2; omega), (by show _ ≤ 15 + gco nC; omega)⟩) hS (fun q _ h => h) (fun q h => h) (fun r85 G86 t H locs ht hvm hw hB hz1 hk1 hS => ?_)
  have hG : mm D vwCl A G86 H := by rw [← ht]; exact hB
  clear hB hz1 hk1 hvm ht
  obtain ⟨er85, hw⟩ := hw
  rw [hw] at hG
  refine lv_if_eq (tgt := 79) hx hb dX9_takeParameter_68 (by decide) (fun c_68 => ?_) (fun c_68 => ?_)
  · skip
    refine lv_aload_n hx hb dX9_takeParameter_79 rfl (lv_at hl 1 rfl) ?_
    refine va_gets (v := .ref (tk 21)) hx hb (show va_Z "DescribeText$Token" "TIMES" "LDescribeText$Token;" (.ref (tk 21)) A s s.heap from (hE.2.1 21 (by decide)).1) hS hown (tb_use hT tw_848) (fun _ h9 => h9) dX9_takeParameter_80 ?_
    refine va_calli (va_runV (As := [.ref (tk 21)]) (rest := []) ⟨hx, hb, hml, hown, (fun _ h9 => absurd h9 List.not_mem_nil : ∀ w ∈ ([] : List Cond), w.before _ s = true)⟩ (c_X9_sees l D cy A X hst hXT e0 tk hXE G77 o ow ed y69.2 k ks ss vs tn K S V f1 f2 f3 21 k78 k79 k80 k81 k82 hTP (by first | omega | (simp only []; omega)) (by decide)) (tb_cw (C := RX9) 1 hT tw_437 tw_106 tw_434 tw_436 tw_6 rfl rfl hq_X9_sees ⟨Nat.le_of_ble_eq_true rfl, Nat.le_of_ble_eq_true rfl⟩) (mk_preC hst hG hK hA hX hS vc_10 k78) rfl rfl hl.1 rfl (lv_room (Nat.le_of_ble_eq_true rfl)) dX9_takeParameter_83 ⟨(by show _ ≤ 2; omega), (by show _ ≤ 15 + gco nC; omega)⟩) hS (fun q _ h => h) (fun q h => h) (fun r87 G88 t H locs ht hvm hw hB hz1 hk1 hS => ?_)
    have hG : mm D vwCl A G88 H := by rw [← ht]; exact hB
    clear hB hz1 hk1 hvm ht
    obtain ⟨er87, hw⟩ := hw
    rw [hw] at hG
    refine lv_if_eq (tgt := 94) hx hb dX9_takeParameter_86 (by decide) (fun c_86 => ?_) (fun c_86 => ?_)
    · skip
      refine lv_aload_n hx hb dX9_takeParameter_94 rfl (lv_at hl 0 rfl) ?_
      refine mm_getN (v := .int 0) hx hb hf_X8 (fun _ h9 => h9) hown hK hG k84 rfl 6 (by decide) (tb_use hT tw_791) (fun _ h9 => h9) rfl dX9_takeParameter_95 ?_
      refine lv_if_eq (tgt := 127) hx hb dX9_takeParameter_98 (by decide) (fun c_98 => ?_) (fun c_98 => ?_)
      · skip
        refine lv_aload_n hx hb dX9_takeParameter_127 rfl (lv_at hl 0 rfl) ?_
        refine mm_getN (v := .int 0) hx hb hf_X8 (fun _ h9 => h9) hown hK hG k84 rfl 6 (by decide) (tb_use hT tw_791) (fun _ h9 => h9) rfl dX9_takeParameter_128 ?_
        refine lv_iconst (v := 1) hx hb dX9_takeParameter_131 (by decide) ?_
        refine lv_icmp_ne (tgt := 153) hx hb dX9_takeParameter_132 (by decide) (fun c_132 => ?_) (fun c_132 => ?_)
        · skip
          refine lv_aload_n hx hb dX9_takeParameter_153 rfl (lv_at hl 1 rfl) ?_
          refine va_gets (v := .ref (tk 6)) hx hb (show va_Z "DescribeText$Token" "SEMICOLON" "LDescribeText$Token;" (.ref (tk 6)) A s s.heap from (hE.2.1 6 (by decide)).1) hS hown (tb_use hT tw_592) (fun _ h9 => h9) dX9_takeParameter_154 ?_
          refine va_callv (va_runV (As := [.ref (tk 6)]) (rest := []) ⟨hx, hb, hml, hown, (fun _ h9 => absurd h9 List.not_mem_nil : ∀ w ∈ ([] : List Cond), w.before _ s = true)⟩ (c_X9_take l D cy A X hst hXT e0 tk hXE G77 o ow ed y69.2 k ks ss vs tn K S V f1 f2 f3 6 k78 k79 k80 k81 k82 hTP (by first | omega | (simp only []; omega)) (by decide)) (tb_cw (C := RX9) 1 hT tw_539 tw_106 tw_536 tw_538 tw_12 rfl rfl hq_X9_take ⟨Nat.le_of_ble_eq_true rfl, Nat.le_of_ble_eq_true rfl⟩) (mk_preC hst hG hK hA hX hS vc_10 k78) rfl rfl hl.1 rfl (lv_room (Nat.le_of_ble_eq_true rfl)) dX9_takeParameter_157 ⟨(by show _ ≤ 2; omega), (by show _ ≤ 15 + gco nC; omega)⟩) hS (fun q _ h => h) (fun q h => h) (fun  G89 t H locs ht hvm hw hB hz1 hk1 hS => ?_)
          have hG : mm D vwCl A G89 H := by rw [← ht]; exact hB
          clear hB hz1 hk1 hvm ht
          obtain ⟨y90, ey90⟩ : ∃ y, y = q_take K S 6 y69.2 := ⟨_, rfl⟩
          rw [← ey90] at hw
          have ly90 : y90.1 ≤ y69.2.1 + 1 := by rw [ey90]; exact q_take_le
          have eG89 := hw
          clear hw
          have k91 : G89 o = some (.inr (10, [.ref k, .ref ow, .ref ed, .int (nI y90.1), .int y90.2])) := by rw [eG89]; exact mm_set_self
          have k92 : G89 k = some (.inr (13, [.ref ks, .ref ss, .ref vs, .int (nI tn)])) := by rw [eG89]; exact mm_set_of k79 (mm_ne_oo k79 k78 (by decide))
          have k93 : G89 ks = some (.inl (cy 5, 2001, .inr (.inr (.inr (.inr f1))))) := by rw [eG89]; exact mm_set_of k80 (mm_ne_ao k80 k78)
          have k94 : G89 ss = some (.inl (cy 1, 2001, .inl f2)) := by rw [eG89]; exact mm_set_of k81 (mm_ne_ao k81 k78)
          have k95 : G89 vs = some (.inl (cy 2, 2001, .inr (.inl f3))) := by rw [eG89]; exact mm_set_of k82 (mm_ne_ao k82 k78)
          have k96 : G89 sa = some (.inr (11, [.int su, .ref la, .int sat, .long sn, .ref pl, .int sz])) := by rw [eG89]; exact mm_set_of k83 (mm_ne_oo k83 k78 (by decide))
          have k97 : G89 q14 = some (.inr (9, [.int (nI (nC + 1)), .int r28, .long r30, .long r67, .int r57, .null, .int 0, .long 0, .int 0, .null, .int 0, .int 0, .int 0, .long 0, .long 0])) := by rw [eG89]; exact mm_set_of k84 (mm_ne_oo k84 k78 (by decide))
          refine lv_aload_n hx hb dX9_takeParameter_160 rfl (lv_at hl 2 rfl) ?_
          refine mm_getN (v := .ref pl) hx hb hf_X10 (fun _ h9 => h9) hown hK hG k96 rfl 4 (by decide) (tb_use hT tw_741) (fun _ h9 => h9) rfl dX9_takeParameter_161 ?_
          refine lv_aload_n hx hb dX9_takeParameter_164 rfl (lv_at hl 0 rfl) ?_
          have hB98 : ∀ (x : Nat) (e : va_E), G x = some e → x ≠ o → G89 x = some e := by
            intro x e z0 n_o
            have z1 : G6 x = some e := by rw [eG6]; exact mm_set_of z0 n_o
            have n_q14 : x ≠ q14 := fun z => by rw [z, hn_q14] at z1; cases z1
            have z2 : G15 x = some e := by rw [eG15]; exact mm_set_of z1 n_q14
            have z3 : G31 x = some e := by rw [eG31]; exact mm_set_of z2 n_o
            have z4 : G40 x = some e := h41_f x e z3 n_q14
            have z5 : G48 x = some e := by rw [eG48]; exact mm_set_of z4 n_o
            have z6 : G59 x = some e := by rw [eG59]; exact mm_set_of z5 n_q14
            have z7 : G68 x = some e := by rw [eG68]; exact mm_set_of z6 n_o
            have z8 : G77 x = some e := by rw [eG77]; exact mm_set_of z7 n_q14
            have z9 : G89 x = some e := by rw [eG89]; exact mm_set_of z8 n_o
            exact z9
          have hL99 : LiS cy e0 G89 pl ec nC fC := LiS.fr2 (fun x => x ≠ o) hlc (fun x e h0 hp => hB98 x e h0 hp) (hlc.ne h0 (by decide)) (fun v _ hv => mm_ne_ao hv h0)
          have hLO2 : LO G89 nC fC := fun j hj => by obtain ⟨fs, z⟩ := hLT j hj; exact ⟨9, fs, _, hB98 _ _ z (mm_ne_oo z h0 (by decide)), rfl, tw_1917, by decide⟩
          obtain ⟨mo102, h_mo102, -⟩ := id hL99
          refine va_calli (va_runV (As := [.ref q14]) (rest := []) ⟨hx, hb, hml, hown, (fun _ h9 => absurd h9 List.not_mem_nil : ∀ w ∈ ([] : List Cond), w.before _ s = true)⟩ (c_LS_add l D cy A X hst hXT e0 tk hXE mi hXL G89 pl ec nC fC q14 9 _ _ hL99 hLO2 (by omega) k97 rfl (by decide) tw_1917) (tb_cw (C := RJx4a65c) 1 hT tw_597 tw_113 tw_594 tw_595 tw_596 rfl rfl hq_Jx4a65c_add_9ea2d ⟨Nat.le_of_ble_eq_true rfl, Nat.le_of_ble_eq_true rfl⟩) (mk_preC hst hG hK hA hX hS vc_1 h_mo102) rfl rfl hl.1 rfl (lv_room (Nat.le_of_ble_eq_true rfl)) dX9_takeParameter_165 ⟨(by show _ ≤ 2; omega), (by show _ ≤ 15 + gco nC; omega)⟩) hS (fun q _ h => h) (fun q h => h) (fun r101 G100 t H locs ht hvm hw hB hz1 hk1 hS => ?_)
          have hG : mm D vwCl A G100 H := by rw [← ht]; exact hB
          clear hB hz1 hk1 hvm ht
          obtain ⟨ec2, hlc2, hec2, hf2⟩ := hw
          have hf3 : ∀ (x ci : Nat) (fs : List Value), G89 x = some (.inr (ci, fs)) → ci ≠ 1 → G100 x = some (.inr (ci, fs)) := fun x ci fs h0 hc => hf2 x _ h0 (Ne.symm (hL99.ne h0 hc)) (fun h1 => LiS.nea hL99 h1 h0)
          have k_o : G100 o = some (.inr (10, [.ref k, .ref ow, .ref ed, .int (nI y90.1), .int y90.2])) := hf3 _ _ _ k91 (by decide)
          have k_el : G100 q14 = some (.inr (9, [.int (nI (nC + 1)), .int r28, .long r30, .long r67, .int r57, .null, .int 0, .long 0, .int 0, .null, .int 0, .int 0, .int 0, .long 0, .long 0])) := hf3 _ _ _ k97 (by decide)
          have hec3 : (1 ≤ nC ∧ ec2 = ec) ∨ G ec2 = none := by
            rcases hec2 with h1 | h1
            · exact Or.inl h1
            · refine Or.inr (none_back hB98 h1 ?_)
              intro z; rw [z, k91] at h1; cases h1
          have hfr9 : ∀ (x : Nat) (e : va_E), G x = some e → x ≠ o → x ≠ pl → (1 ≤ nC → x ≠ ec) → G100 x = some e := fun x e h0 n1 n2 n3 => hf2 x e (hB98 x e h0 n1) n2 n3
          refine lv_pop hx hb dX9_takeParameter_168 rfl ?_
          have hs_w : se K y69.2.1 y69.2.2 20 = false := by rw [er85] at c_68; revert c_68; cases se K y69.2.1 y69.2.2 20 <;> simp [b2i]
          have hs_t : se K y69.2.1 y69.2.2 21 = false := by rw [er87] at c_86; revert c_86; cases se K y69.2.1 y69.2.2 21 <;> simp [b2i]
          have hq : q_par K S V nC q = (y90, (r28, r30, r67, r57, 0, 0, 0, 0)) := by
            simp only [q_par]
            simp only [← ey7, ← ey32, ← ey49, ← ey69, ← ey90]
            simp only [hs_w, hs_t, Bool.false_eq_true, if_false, if_true, reduceIte]
            try simp only [← ey7, ← ey32, ← ey49, ← ey69, ← ey90]
            try simp only [er28, er30, er57, er67]
          have fn103 : G q14 = none := by
            have z := hn_q14
            rw [eG6] at z; replace z := mm_none z
            exact z
          refine W.widen (k := 2) (n := (15 + gco nC)) (by omega) (by omega) ?_
          exact W.vret hx hb hr (fun t ht hW => ⟨⟨_, rfl, (by rw [hq]; exact ⟨q14, ec2, fn103, k_o, hlc2, hec3, k_el, hfr9⟩), mk_end hG ht⟩, hS.F ht⟩) hS.2.2 dX9_takeParameter_169
        · skip
          exact absurd c_132 (by decide)
      · skip
        exact absurd (by decide) c_98
    · skip
      refine lv_aload_n hx hb dX9_takeParameter_89 rfl (lv_at hl 0 rfl) ?_
      refine lv_iconst (v := 2) hx hb dX9_takeParameter_90 (by decide) ?_
      refine mm_putN (v := .int 2) (ty := .int) hx hb hf_X8 (fun _ h9 => h9) tyX8 tyX8_ok nmX8 hown hK hG hS k84 rfl 6 (by decide) (tb_use hT tw_791) (fun _ h9 => h9) rfl (by decide +kernel) rfl rfl (Nat.le_of_ble_eq_true rfl) dX9_takeParameter_91 (fun H locs hG hS => ?_)
      obtain ⟨G104, eG104⟩ : ∃ g, g = mm_set G77 q14 (.inr (9, [.int (nI (nC + 1)), .int r28, .long r30, .long r67, .int r57, .null, .int 2, .long 0, .int 0, .null, .int 0, .int 0, .int 0, .long 0, .long 0])) := ⟨_, rfl⟩
      have hG : mm D vwCl A G104 H := by rw [eG104]; exact hG
      have k105 : G104 o = some (.inr (10, [.ref k, .ref ow, .ref ed, .int (nI y69.2.1), .int y69.2.2])) := by rw [eG104]; exact mm_set_of k78 (mm_ne_oo k78 k84 (by decide))
      have k106 : G104 k = some (.inr (13, [.ref ks, .ref ss, .ref vs, .int (nI tn)])) := by rw [eG104]; exact mm_set_of k79 (mm_ne_oo k79 k84 (by decide))
      have k107 : G104 ks = some (.inl (cy 5, 2001, .inr (.inr (.inr (.inr f1))))) := by rw [eG104]; exact mm_set_of k80 (mm_ne_ao k80 k84)
      have k108 : G104 ss = some (.inl (cy 1, 2001, .inl f2)) := by rw [eG104]; exact mm_set_of k81 (mm_ne_ao k81 k84)
      have k109 : G104 vs = some (.inl (cy 2, 2001, .inr (.inl f3))) := by rw [eG104]; exact mm_set_of k82 (mm_ne_ao k82 k84)
      have k110 : G104 sa = some (.inr (11, [.int su, .ref la, .int sat, .long sn, .ref pl, .int sz])) := by rw [eG104]; exact mm_set_of k83 (mm_ne_oo k83 k84 (by decide))
      have k111 : G104 q14 = some (.inr (9, [.int (nI (nC + 1)), .int r28, .long r30, .long r67, .int r57, .null, .int 2, .long 0, .int 0, .null, .int 0, .int 0, .int 0, .long 0, .long 0])) := by rw [eG104]; exact mm_set_self
      refine lv_aload_n hx hb dX9_takeParameter_94 rfl (lv_at hl 0 rfl) ?_
      refine mm_getN (v := .int 2) hx hb hf_X8 (fun _ h9 => h9) hown hK hG k111 rfl 6 (by decide) (tb_use hT tw_791) (fun _ h9 => h9) rfl dX9_takeParameter_95 ?_
      refine lv_if_eq (tgt := 127) hx hb dX9_takeParameter_98 (by decide) (fun c_98 => ?_) (fun c_98 => ?_)
      · skip
        exact absurd c_98 (by decide)
      · skip
        refine lv_aload_n hx hb dX9_takeParameter_101 rfl (lv_at hl 1 rfl) ?_
        refine lv_dup hx hb dX9_takeParameter_102 rfl ?_
        refine mm_get (v := .int (nI y69.2.1)) hx hb hf_X9 (fun _ h9 => h9) hown hK hG k105 rfl 3 (by decide) (tb_use hT tw_180) (fun _ h9 => h9) rfl dX9_takeParameter_103 ?_
        refine lv_iconst (v := 1) hx hb dX9_takeParameter_106 (by decide) ?_
        refine lv_iadd hx hb dX9_takeParameter_107 ?_
        rw [← nI_succ y69.2.1]
        refine mm_put (v := .int (nI (y69.2.1 + 1))) (ty := .int) hx hb hf_X9 (fun _ h9 => h9) tyX9 tyX9_ok nmX9 hown hK hG hS k105 rfl 3 (by decide) (tb_use hT tw_180) (fun _ h9 => h9) rfl (by decide +kernel) rfl rfl (Nat.le_of_ble_eq_true rfl) dX9_takeParameter_108 (fun H locs hG hS => ?_)
        obtain ⟨G112, eG112⟩ : ∃ g, g = mm_set G104 o (.inr (10, [.ref k, .ref ow, .ref ed, .int (nI (y69.2.1 + 1)), .int y69.2.2])) := ⟨_, rfl⟩
        have hG : mm D vwCl A G112 H := by rw [eG112]; exact hG
        have k113 : G112 o = some (.inr (10, [.ref k, .ref ow, .ref ed, .int (nI (y69.2.1 + 1)), .int y69.2.2])) := by rw [eG112]; exact mm_set_self
        have k114 : G112 k = some (.inr (13, [.ref ks, .ref ss, .ref vs, .int (nI tn)])) := by rw [eG112]; exact mm_set_of k106 (mm_ne_oo k106 k105 (by decide))
        have k115 : G112 ks = some (.inl (cy 5, 2001, .inr (.inr (.inr (.inr f1))))) := by rw [eG112]; exact mm_set_of k107 (mm_ne_ao k107 k105)
        have k116 : G112 ss = some (.inl (cy 1, 2001, .inl f2)) := by rw [eG112]; exact mm_set_of k108 (mm_ne_ao k108 k105)
        have k117 : G112 vs = some (.inl (cy 2, 2001, .inr (.inl f3))) := by rw [eG112]; exact mm_set_of k109 (mm_ne_ao k109 k105)
        have k118 : G112 sa = some (.inr (11, [.int su, .ref la, .int sat, .long sn, .ref pl, .int sz])) := by rw [eG112]; exact mm_set_of k110 (mm_ne_oo k110 k105 (by decide))
        have k119 : G112 q14 = some (.inr (9, [.int (nI (nC + 1)), .int r28, .long r30, .long r67, .int r57, .null, .int 2, .long 0, .int 0, .null, .int 0, .int 0, .int 0, .long 0, .long 0])) := by rw [eG112]; exact mm_set_of k111 (mm_ne_oo k111 k105 (by decide))
        refine lv_aload_n hx hb dX9_takeParameter_111 rfl (lv_at hl 0 rfl) ?_
        refine lv_aload_n hx hb dX9_takeParameter_112 rfl (lv_at hl 1 rfl) ?_
        refine va_calli (va_runV (As := []) (rest := [.ref q14]) ⟨hx, hb, hml, hown, (fun _ h9 => absurd h9 List.not_mem_nil : ∀ w ∈ ([] : List Cond), w.before _ s = true)⟩ (c_X9_start l D cy A X hst hXT e0 tk hXE G112 o ow ed (y69.2.1 + 1, y69.2.2) k ks ss vs tn K S V f1 f2 f3  k113 k114 k115 k116 k117 hTP (by first | omega | (simp only []; omega)) ) (tb_cw (C := RX9) 0 hT tw_475 tw_106 tw_472 tw_474 tw_10 rfl rfl hq_X9_start ⟨Nat.le_of_ble_eq_true rfl, Nat.le_of_ble_eq_true rfl⟩) (mk_preC hst hG hK hA hX hS vc_10 k113) rfl rfl hl.1 rfl (lv_room (Nat.le_of_ble_eq_true rfl)) dX9_takeParameter_113 ⟨(by show _ ≤ 2; omega), (by show _ ≤ 15 + gco nC; omega)⟩) hS (fun q _ h => h) (fun q h => h) (fun r120 G121 t H locs ht hvm hw hB hz1 hk1 hS => ?_)
        have hG : mm D vwCl A G121 H := by rw [← ht]; exact hB
        clear hB hz1 hk1 hvm ht
        obtain ⟨er120, hw⟩ := hw
        rw [hw] at hG
        refine mm_putN (v := .int r120) (ty := .int) hx hb hf_X8 (fun _ h9 => h9) tyX8 tyX8_ok nmX8 hown hK hG hS k119 rfl 8 (by decide) (tb_use hT tw_796) (fun _ h9 => h9) rfl (by decide +kernel) rfl rfl (Nat.le_of_ble_eq_true rfl) dX9_takeParameter_116 (fun H locs hG hS => ?_)
        obtain ⟨G122, eG122⟩ : ∃ g, g = mm_set G112 q14 (.inr (9, [.int (nI (nC + 1)), .int r28, .long r30, .long r67, .int r57, .null, .int 2, .long 0, .int r120, .null, .int 0, .int 0, .int 0, .long 0, .long 0])) := ⟨_, rfl⟩
        have hG : mm D vwCl A G122 H := by rw [eG122]; exact hG
        have k123 : G122 o = some (.inr (10, [.ref k, .ref ow, .ref ed, .int (nI (y69.2.1 + 1)), .int y69.2.2])) := by rw [eG122]; exact mm_set_of k113 (mm_ne_oo k113 k119 (by decide))
        have k124 : G122 k = some (.inr (13, [.ref ks, .ref ss, .ref vs, .int (nI tn)])) := by rw [eG122]; exact mm_set_of k114 (mm_ne_oo k114 k119 (by decide))
        have k125 : G122 ks = some (.inl (cy 5, 2001, .inr (.inr (.inr (.inr f1))))) := by rw [eG122]; exact mm_set_of k115 (mm_ne_ao k115 k119)
        have k126 : G122 ss = some (.inl (cy 1, 2001, .inl f2)) := by rw [eG122]; exact mm_set_of k116 (mm_ne_ao k116 k119)
        have k127 : G122 vs = some (.inl (cy 2, 2001, .inr (.inl f3))) := by rw [eG122]; exact mm_set_of k117 (mm_ne_ao k117 k119)
        have k128 : G122 sa = some (.inr (11, [.int su, .ref la, .int sat, .long sn, .ref pl, .int sz])) := by rw [eG122]; exact mm_set_of k118 (mm_ne_oo k118 k119 (by decide))
        have k129 : G122 q14 = some (.inr (9, [.int (nI (nC + 1)), .int r28, .long r30, .long r67, .int r57, .null, .int 2, .long 0, .int r120, .null, .int 0, .int 0, .int 0, .long 0, .long 0])) := by rw [eG122]; exact mm_set_self
        refine lv_aload_n hx hb dX9_takeParameter_119 rfl (lv_at hl 0 rfl) ?_
        refine lv_aload_n hx hb dX9_takeParameter_120 rfl (lv_at hl 1 rfl) ?_
        refine va_calll (va_runV (As := []) (rest := [.ref q14]) ⟨hx, hb, hml, hown, (fun _ h9 => absurd h9 List.not_mem_nil : ∀ w ∈ ([] : List Cond), w.before _ s = true)⟩ (c_X9_takeName l D cy A X hst hXT e0 tk hXE G122 o ow ed (y69.2.1 + 1, y69.2.2) k ks ss vs tn K S V f1 f2 f3  k123 k124 k125 k126 k127 hTP (by first | omega | (simp only []; omega)) ) (tb_cw (C := RX9) 0 hT tw_479 tw_106 tw_476 tw_478 tw_11 rfl rfl hq_X9_takeName ⟨Nat.le_of_ble_eq_true rfl, Nat.le_of_ble_eq_true rfl⟩) (mk_preC hst hG hK hA hX hS vc_10 k123) rfl rfl hl.1 rfl (lv_room (Nat.le_of_ble_eq_true rfl)) dX9_takeParameter_121 ⟨(by show _ ≤ 2; omega), (by show _ ≤ 15 + gco nC; omega)⟩) hS (fun q _ h => h) (fun q h => h) (fun r130 G131 t H locs ht hvm hw hB hz1 hk1 hS => ?_)
        have hG : mm D vwCl A G131 H := by rw [← ht]; exact hB
        clear hB hz1 hk1 hvm ht
        obtain ⟨y132, ey132⟩ : ∃ y, y = q_name K S V (y69.2.1 + 1, y69.2.2) := ⟨_, rfl⟩
        rw [← ey132] at hw
        obtain ⟨er130, hw⟩ := hw
        have ly132 : y132.2.1 ≤ (y69.2.1 + 1, y69.2.2).1 + 1 := by rw [ey132]; exact q_name_le
        have eG131 := hw
        clear hw
        have k133 : G131 o = some (.inr (10, [.ref k, .ref ow, .ref ed, .int (nI y132.2.1), .int y132.2.2])) := by rw [eG131]; exact mm_set_self
        have k134 : G131 k = some (.inr (13, [.ref ks, .ref ss, .ref vs, .int (nI tn)])) := by rw [eG131]; exact mm_set_of k124 (mm_ne_oo k124 k123 (by decide))
        have k135 : G131 ks = some (.inl (cy 5, 2001, .inr (.inr (.inr (.inr f1))))) := by rw [eG131]; exact mm_set_of k125 (mm_ne_ao k125 k123)
        have k136 : G131 ss = some (.inl (cy 1, 2001, .inl f2)) := by rw [eG131]; exact mm_set_of k126 (mm_ne_ao k126 k123)
        have k137 : G131 vs = some (.inl (cy 2, 2001, .inr (.inl f3))) := by rw [eG131]; exact mm_set_of k127 (mm_ne_ao k127 k123)
        have k138 : G131 sa = some (.inr (11, [.int su, .ref la, .int sat, .long sn, .ref pl, .int sz])) := by rw [eG131]; exact mm_set_of k128 (mm_ne_oo k128 k123 (by decide))
        have k139 : G131 q14 = some (.inr (9, [.int (nI (nC + 1)), .int r28, .long r30, .long r67, .int r57, .null, .int 2, .long 0, .int r120, .null, .int 0, .int 0, .int 0, .long 0, .long 0])) := by rw [eG131]; exact mm_set_of k129 (mm_ne_oo k129 k123 (by decide))
        refine mm_putN (v := .long r130) (ty := .long) hx hb hf_X8 (fun _ h9 => h9) tyX8 tyX8_ok nmX8 hown hK hG hS k139 rfl 7 (by decide) (tb_use hT tw_794) (fun _ h9 => h9) rfl (by decide +kernel) rfl rfl (Nat.le_of_ble_eq_true rfl) dX9_takeParameter_124 (fun H locs hG hS => ?_)
        obtain ⟨G140, eG140⟩ : ∃ g, g = mm_set G131 q14 (.inr (9, [.int (nI (nC + 1)), .int r28, .long r30, .long r67, .int r57, .null, .int 2, .long r130, .int r120, .null, .int 0, .int 0, .int 0, .long 0, .long 0])) := ⟨_, rfl⟩
        have hG : mm D vwCl A G140 H := by rw [eG140]; exact hG
        have k141 : G140 o = some (.inr (10, [.ref k, .ref ow, .ref ed, .int (nI y132.2.1), .int y132.2.2])) := by rw [eG140]; exact mm_set_of k133 (mm_ne_oo k133 k139 (by decide))
        have k142 : G140 k = some (.inr (13, [.ref ks, .ref ss, .ref vs, .int (nI tn)])) := by rw [eG140]; exact mm_set_of k134 (mm_ne_oo k134 k139 (by decide))
        have k143 : G140 ks = some (.inl (cy 5, 2001, .inr (.inr (.inr (.inr f1))))) := by rw [eG140]; exact mm_set_of k135 (mm_ne_ao k135 k139)
        have k144 : G140 ss = some (.inl (cy 1, 2001, .inl f2)) := by rw [eG140]; exact mm_set_of k136 (mm_ne_ao k136 k139)
        have k145 : G140 vs = some (.inl (cy 2, 2001, .inr (.inl f3))) := by rw [eG140]; exact mm_set_of k137 (mm_ne_ao k137 k139)
        have k146 : G140 sa = some (.inr (11, [.int su, .ref la, .int sat, .long sn, .ref pl, .int sz])) := by rw [eG140]; exact mm_set_of k138 (mm_ne_oo k138 k139 (by decide))
        have k147 : G140 q14 = some (.inr (9, [.int (nI (nC + 1)), .int r28, .long r30, .long r67, .int r57, .null, .int 2, .long r130, .int r120, .null, .int 0, .int 0, .int 0, .long 0, .long 0])) := by rw [eG140]; exact mm_set_self
        refine lv_aload_n hx hb dX9_takeParameter_127 rfl (lv_at hl 0 rfl) ?_
        refine mm_getN (v := .int 2) hx hb hf_X8 (fun _ h9 => h9) hown hK hG k147 rfl 6 (by decide) (tb_use hT tw_791) (fun _ h9 => h9) rfl dX9_takeParameter_128 ?_
        refine lv_iconst (v := 1) hx hb dX9_takeParameter_131 (by decide) ?_
        refine lv_icmp_ne (tgt := 153) hx hb dX9_takeParameter_132 (by decide) (fun c_132 => ?_) (fun c_132 => ?_)
        · skip
          refine lv_aload_n hx hb dX9_takeParameter_153 rfl (lv_at hl 1 rfl) ?_
          refine va_gets (v := .ref (tk 6)) hx hb (show va_Z "DescribeText$Token" "SEMICOLON" "LDescribeText$Token;" (.ref (tk 6)) A s s.heap from (hE.2.1 6 (by decide)).1) hS hown (tb_use hT tw_592) (fun _ h9 => h9) dX9_takeParameter_154 ?_
          refine va_callv (va_runV (As := [.ref (tk 6)]) (rest := []) ⟨hx, hb, hml, hown, (fun _ h9 => absurd h9 List.not_mem_nil : ∀ w ∈ ([] : List Cond), w.before _ s = true)⟩ (c_X9_take l D cy A X hst hXT e0 tk hXE G140 o ow ed y132.2 k ks ss vs tn K S V f1 f2 f3 6 k141 k142 k143 k144 k145 hTP (by first | omega | (simp only []; omega)) (by decide)) (tb_cw (C := RX9) 1 hT tw_539 tw_106 tw_536 tw_538 tw_12 rfl rfl hq_X9_take ⟨Nat.le_of_ble_eq_true rfl, Nat.le_of_ble_eq_true rfl⟩) (mk_preC hst hG hK hA hX hS vc_10 k141) rfl rfl hl.1 rfl (lv_room (Nat.le_of_ble_eq_true rfl)) dX9_takeParameter_157 ⟨(by show _ ≤ 2; omega), (by show _ ≤ 15 + gco nC; omega)⟩) hS (fun q _ h => h) (fun q h => h) (fun  G148 t H locs ht hvm hw hB hz1 hk1 hS => ?_)
          have hG : mm D vwCl A G148 H := by rw [← ht]; exact hB
          clear hB hz1 hk1 hvm ht
          obtain ⟨y149, ey149⟩ : ∃ y, y = q_take K S 6 y132.2 := ⟨_, rfl⟩
          rw [← ey149] at hw
          have ly149 : y149.1 ≤ y132.2.1 + 1 := by rw [ey149]; exact q_take_le
          have eG148 := hw
          clear hw
          have k150 : G148 o = some (.inr (10, [.ref k, .ref ow, .ref ed, .int (nI y149.1), .int y149.2])) := by rw [eG148]; exact mm_set_self
          have k151 : G148 k = some (.inr (13, [.ref ks, .ref ss, .ref vs, .int (nI tn)])) := by rw [eG148]; exact mm_set_of k142 (mm_ne_oo k142 k141 (by decide))
          have k152 : G148 ks = some (.inl (cy 5, 2001, .inr (.inr (.inr (.inr f1))))) := by rw [eG148]; exact mm_set_of k143 (mm_ne_ao k143 k141)
          have k153 : G148 ss = some (.inl (cy 1, 2001, .inl f2)) := by rw [eG148]; exact mm_set_of k144 (mm_ne_ao k144 k141)
          have k154 : G148 vs = some (.inl (cy 2, 2001, .inr (.inl f3))) := by rw [eG148]; exact mm_set_of k145 (mm_ne_ao k145 k141)
          have k155 : G148 sa = some (.inr (11, [.int su, .ref la, .int sat, .long sn, .ref pl, .int sz])) := by rw [eG148]; exact mm_set_of k146 (mm_ne_oo k146 k141 (by decide))
          have k156 : G148 q14 = some (.inr (9, [.int (nI (nC + 1)), .int r28, .long r30, .long r67, .int r57, .null, .int 2, .long r130, .int r120, .null, .int 0, .int 0, .int 0, .long 0, .long 0])) := by rw [eG148]; exact mm_set_of k147 (mm_ne_oo k147 k141 (by decide))
          refine lv_aload_n hx hb dX9_takeParameter_160 rfl (lv_at hl 2 rfl) ?_
          refine mm_getN (v := .ref pl) hx hb hf_X10 (fun _ h9 => h9) hown hK hG k155 rfl 4 (by decide) (tb_use hT tw_741) (fun _ h9 => h9) rfl dX9_takeParameter_161 ?_
          refine lv_aload_n hx hb dX9_takeParameter_164 rfl (lv_at hl 0 rfl) ?_
          have hB157 : ∀ (x : Nat) (e : va_E), G x = some e → x ≠ o → G148 x = some e := by
            intro x e z0 n_o
            have z1 : G6 x = some e := by rw [eG6]; exact mm_set_of z0 n_o
            have n_q14 : x ≠ q14 := fun z => by rw [z, hn_q14] at z1; cases z1
            have z2 : G15 x = some e := by rw [eG15]; exact mm_set_of z1 n_q14
            have z3 : G31 x = some e := by rw [eG31]; exact mm_set_of z2 n_o
            have z4 : G40 x = some e := h41_f x e z3 n_q14
            have z5 : G48 x = some e := by rw [eG48]; exact mm_set_of z4 n_o
            have z6 : G59 x = some e := by rw [eG59]; exact mm_set_of z5 n_q14
            have z7 : G68 x = some e := by rw [eG68]; exact mm_set_of z6 n_o
            have z8 : G77 x = some e := by rw [eG77]; exact mm_set_of z7 n_q14
            have z9 : G104 x = some e := by rw [eG104]; exact mm_set_of z8 n_q14
            have z10 : G112 x = some e := by rw [eG112]; exact mm_set_of z9 n_o
            have z11 : G122 x = some e := by rw [eG122]; exact mm_set_of z10 n_q14
            have z12 : G131 x = some e := by rw [eG131]; exact mm_set_of z11 n_o
            have z13 : G140 x = some e := by rw [eG140]; exact mm_set_of z12 n_q14
            have z14 : G148 x = some e := by rw [eG148]; exact mm_set_of z13 n_o
            exact z14
          have hL158 : LiS cy e0 G148 pl ec nC fC := LiS.fr2 (fun x => x ≠ o) hlc (fun x e h0 hp => hB157 x e h0 hp) (hlc.ne h0 (by decide)) (fun v _ hv => mm_ne_ao hv h0)
          have hLO2 : LO G148 nC fC := fun j hj => by obtain ⟨fs, z⟩ := hLT j hj; exact ⟨9, fs, _, hB157 _ _ z (mm_ne_oo z h0 (by decide)), rfl, tw_1917, by decide⟩
          obtain ⟨mo161, h_mo161, -⟩ := id hL158
          refine va_calli (va_runV (As := [.ref q14]) (rest := []) ⟨hx, hb, hml, hown, (fun _ h9 => absurd h9 List.not_mem_nil : ∀ w ∈ ([] : List Cond), w.before _ s = true)⟩ (c_LS_add l D cy A X hst hXT e0 tk hXE mi hXL G148 pl ec nC fC q14 9 _ _ hL158 hLO2 (by omega) k156 rfl (by decide) tw_1917) (tb_cw (C := RJx4a65c) 1 hT tw_597 tw_113 tw_594 tw_595 tw_596 rfl rfl hq_Jx4a65c_add_9ea2d ⟨Nat.le_of_ble_eq_true rfl, Nat.le_of_ble_eq_true rfl⟩) (mk_preC hst hG hK hA hX hS vc_1 h_mo161) rfl rfl hl.1 rfl (lv_room (Nat.le_of_ble_eq_true rfl)) dX9_takeParameter_165 ⟨(by show _ ≤ 2; omega), (by show _ ≤ 15 + gco nC; omega)⟩) hS (fun q _ h => h) (fun q h => h) (fun r160 G159 t H locs ht hvm hw hB hz1 hk1 hS => ?_)
          have hG : mm D vwCl A G159 H := by rw [← ht]; exact hB
          clear hB hz1 hk1 hvm ht
          obtain ⟨ec2, hlc2, hec2, hf2⟩ := hw
          have hf3 : ∀ (x ci : Nat) (fs : List Value), G148 x = some (.inr (ci, fs)) → ci ≠ 1 → G159 x = some (.inr (ci, fs)) := fun x ci fs h0 hc => hf2 x _ h0 (Ne.symm (hL158.ne h0 hc)) (fun h1 => LiS.nea hL158 h1 h0)
          have k_o : G159 o = some (.inr (10, [.ref k, .ref ow, .ref ed, .int (nI y149.1), .int y149.2])) := hf3 _ _ _ k150 (by decide)
          have k_el : G159 q14 = some (.inr (9, [.int (nI (nC + 1)), .int r28, .long r30, .long r67, .int r57, .null, .int 2, .long r130, .int r120, .null, .int 0, .int 0, .int 0, .long 0, .long 0])) := hf3 _ _ _ k156 (by decide)
          have hec3 : (1 ≤ nC ∧ ec2 = ec) ∨ G ec2 = none := by
            rcases hec2 with h1 | h1
            · exact Or.inl h1
            · refine Or.inr (none_back hB157 h1 ?_)
              intro z; rw [z, k150] at h1; cases h1
          have hfr9 : ∀ (x : Nat) (e : va_E), G x = some e → x ≠ o → x ≠ pl → (1 ≤ nC → x ≠ ec) → G159 x = some e := fun x e h0 n1 n2 n3 => hf2 x e (hB157 x e h0 n1) n2 n3
          refine lv_pop hx hb dX9_takeParameter_168 rfl ?_
          have hs_w : se K y69.2.1 y69.2.2 20 = false := by rw [er85] at c_68; revert c_68; cases se K y69.2.1 y69.2.2 20 <;> simp [b2i]
          have hs_t : se K y69.2.1 y69.2.2 21 = true := by rw [er87] at c_86; revert c_86; cases se K y69.2.1 y69.2.2 21 <;> simp [b2i]
          have hq : q_par K S V nC q = (y149, (r28, r30, r67, r57, 2, r130, r120, 0)) := by
            simp only [q_par]
            simp only [← ey7, ← ey32, ← ey49, ← ey69, ← ey132, ← ey149]
            simp only [hs_w, hs_t, Bool.false_eq_true, if_false, if_true, reduceIte]
            try simp only [← ey7, ← ey32, ← ey49, ← ey69, ← ey132, ← ey149]
            try simp only [er28, er30, er57, er67, er120, er130]
          have fn162 : G q14 = none := by
            have z := hn_q14
            rw [eG6] at z; replace z := mm_none z
            exact z
          refine W.widen (k := 2) (n := (15 + gco nC)) (by omega) (by omega) ?_
          exact W.vret hx hb hr (fun t ht hW => ⟨⟨_, rfl, (by rw [hq]; exact ⟨q14, ec2, fn162, k_o, hlc2, hec3, k_el, hfr9⟩), mk_end hG ht⟩, hS.F ht⟩) hS.2.2 dX9_takeParameter_169
        · skip
          exact absurd c_132 (by decide)
  · skip
    refine lv_aload_n hx hb dX9_takeParameter_71 rfl (lv_at hl 0 rfl) ?_
    refine lv_iconst (v := 1) hx hb dX9_takeParameter_72 (by decide) ?_
    refine mm_putN (v := .int 1) (ty := .int) hx hb hf_X8 (fun _ h9 => h9) tyX8 tyX8_ok nmX8 hown hK hG hS k84 rfl 6 (by decide) (tb_use hT tw_791) (fun _ h9 => h9) rfl (by decide +kernel) rfl rfl (Nat.le_of_ble_eq_true rfl) dX9_takeParameter_73 (fun H locs hG hS => ?_)
    obtain ⟨G163, eG163⟩ : ∃ g, g = mm_set G77 q14 (.inr (9, [.int (nI (nC + 1)), .int r28, .long r30, .long r67, .int r57, .null, .int 1, .long 0, .int 0, .null, .int 0, .int 0, .int 0, .long 0, .long 0])) := ⟨_, rfl⟩
    have hG : mm D vwCl A G163 H := by rw [eG163]; exact hG
    have k164 : G163 o = some (.inr (10, [.ref k, .ref ow, .ref ed, .int (nI y69.2.1), .int y69.2.2])) := by rw [eG163]; exact mm_set_of k78 (mm_ne_oo k78 k84 (by decide))
    have k165 : G163 k = some (.inr (13, [.ref ks, .ref ss, .ref vs, .int (nI tn)])) := by rw [eG163]; exact mm_set_of k79 (mm_ne_oo k79 k84 (by decide))
    have k166 : G163 ks = some (.inl (cy 5, 2001, .inr (.inr (.inr (.inr f1))))) := by rw [eG163]; exact mm_set_of k80 (mm_ne_ao k80 k84)
    have k167 : G163 ss = some (.inl (cy 1, 2001, .inl f2)) := by rw [eG163]; exact mm_set_of k81 (mm_ne_ao k81 k84)
    have k168 : G163 vs = some (.inl (cy 2, 2001, .inr (.inl f3))) := by rw [eG163]; exact mm_set_of k82 (mm_ne_ao k82 k84)
    have k169 : G163 sa = some (.inr (11, [.int su, .ref la, .int sat, .long sn, .ref pl, .int sz])) := by rw [eG163]; exact mm_set_of k83 (mm_ne_oo k83 k84 (by decide))
    have k170 : G163 q14 = some (.inr (9, [.int (nI (nC + 1)), .int r28, .long r30, .long r67, .int r57, .null, .int 1, .long 0, .int 0, .null, .int 0, .int 0, .int 0, .long 0, .long 0])) := by rw [eG163]; exact mm_set_self
    refine lv_goto (tgt := 94) hx hb dX9_takeParameter_76 (by decide) ?_
    refine lv_aload_n hx hb dX9_takeParameter_94 rfl (lv_at hl 0 rfl) ?_
    refine mm_getN (v := .int 1) hx hb hf_X8 (fun _ h9 => h9) hown hK hG k170 rfl 6 (by decide) (tb_use hT tw_791) (fun _ h9 => h9) rfl dX9_takeParameter_95 ?_
    refine lv_if_eq (tgt := 127) hx hb dX9_takeParameter_98 (by decide) (fun c_98 => ?_) (fun c_98 => ?_)
    · skip
      exact absurd c_98 (by decide)
    · skip
      refine lv_aload_n hx hb dX9_takeParameter_101 rfl (lv_at hl 1 rfl) ?_
      refine lv_dup hx hb dX9_takeParameter_102 rfl ?_
      refine mm_get (v := .int (nI y69.2.1)) hx hb hf_X9 (fun _ h9 => h9) hown hK hG k164 rfl 3 (by decide) (tb_use hT tw_180) (fun _ h9 => h9) rfl dX9_takeParameter_103 ?_
      refine lv_iconst (v := 1) hx hb dX9_takeParameter_106 (by decide) ?_
      refine lv_iadd hx hb dX9_takeParameter_107 ?_
      rw [← nI_succ y69.2.1]
      refine mm_put (v := .int (nI (y69.2.1 + 1))) (ty := .int) hx hb hf_X9 (fun _ h9 => h9) tyX9 tyX9_ok nmX9 hown hK hG hS k164 rfl 3 (by decide) (tb_use hT tw_180) (fun _ h9 => h9) rfl (by decide +kernel) rfl rfl (Nat.le_of_ble_eq_true rfl) dX9_takeParameter_108 (fun H locs hG hS => ?_)
      obtain ⟨G171, eG171⟩ : ∃ g, g = mm_set G163 o (.inr (10, [.ref k, .ref ow, .ref ed, .int (nI (y69.2.1 + 1)), .int y69.2.2])) := ⟨_, rfl⟩
      have hG : mm D vwCl A G171 H := by rw [eG171]; exact hG
      have k172 : G171 o = some (.inr (10, [.ref k, .ref ow, .ref ed, .int (nI (y69.2.1 + 1)), .int y69.2.2])) := by rw [eG171]; exact mm_set_self
      have k173 : G171 k = some (.inr (13, [.ref ks, .ref ss, .ref vs, .int (nI tn)])) := by rw [eG171]; exact mm_set_of k165 (mm_ne_oo k165 k164 (by decide))
      have k174 : G171 ks = some (.inl (cy 5, 2001, .inr (.inr (.inr (.inr f1))))) := by rw [eG171]; exact mm_set_of k166 (mm_ne_ao k166 k164)
      have k175 : G171 ss = some (.inl (cy 1, 2001, .inl f2)) := by rw [eG171]; exact mm_set_of k167 (mm_ne_ao k167 k164)
      have k176 : G171 vs = some (.inl (cy 2, 2001, .inr (.inl f3))) := by rw [eG171]; exact mm_set_of k168 (mm_ne_ao k168 k164)
      have k177 : G171 sa = some (.inr (11, [.int su, .ref la, .int sat, .long sn, .ref pl, .int sz])) := by rw [eG171]; exact mm_set_of k169 (mm_ne_oo k169 k164 (by decide))
      have k178 : G171 q14 = some (.inr (9, [.int (nI (nC + 1)), .int r28, .long r30, .long r67, .int r57, .null, .int 1, .long 0, .int 0, .null, .int 0, .int 0, .int 0, .long 0, .long 0])) := by rw [eG171]; exact mm_set_of k170 (mm_ne_oo k170 k164 (by decide))
      refine lv_aload_n hx hb dX9_takeParameter_111 rfl (lv_at hl 0 rfl) ?_
      refine lv_aload_n hx hb dX9_takeParameter_112 rfl (lv_at hl 1 rfl) ?_
      refine va_calli (va_runV (As := []) (rest := [.ref q14]) ⟨hx, hb, hml, hown, (fun _ h9 => absurd h9 List.not_mem_nil : ∀ w ∈ ([] : List Cond), w.before _ s = true)⟩ (c_X9_start l D cy A X hst hXT e0 tk hXE G171 o ow ed (y69.2.1 + 1, y69.2.2) k ks ss vs tn K S V f1 f2 f3  k172 k173 k174 k175 k176 hTP (by first | omega | (simp only []; omega)) ) (tb_cw (C := RX9) 0 hT tw_475 tw_106 tw_472 tw_474 tw_10 rfl rfl hq_X9_start ⟨Nat.le_of_ble_eq_true rfl, Nat.le_of_ble_eq_true rfl⟩) (mk_preC hst hG hK hA hX hS vc_10 k172) rfl rfl hl.1 rfl (lv_room (Nat.le_of_ble_eq_true rfl)) dX9_takeParameter_113 ⟨(by show _ ≤ 2; omega), (by show _ ≤ 15 + gco nC; omega)⟩) hS (fun q _ h => h) (fun q h => h) (fun r179 G180 t H locs ht hvm hw hB hz1 hk1 hS => ?_)
      have hG : mm D vwCl A G180 H := by rw [← ht]; exact hB
      clear hB hz1 hk1 hvm ht
      obtain ⟨er179, hw⟩ := hw
      rw [hw] at hG
      refine mm_putN (v := .int r179) (ty := .int) hx hb hf_X8 (fun _ h9 => h9) tyX8 tyX8_ok nmX8 hown hK hG hS k178 rfl 8 (by decide) (tb_use hT tw_796) (fun _ h9 => h9) rfl (by decide +kernel) rfl rfl (Nat.le_of_ble_eq_true rfl) dX9_takeParameter_116 (fun H locs hG hS => ?_)
      obtain ⟨G181, eG181⟩ : ∃ g, g = mm_set G171 q14 (.inr (9, [.int (nI (nC + 1)), .int r28, .long r30, .long r67, .int r57, .null, .int 1, .long 0, .int r179, .null, .int 0, .int 0, .int 0, .long 0, .long 0])) := ⟨_, rfl⟩
      have hG : mm D vwCl A G181 H := by rw [eG181]; exact hG
      have k182 : G181 o = some (.inr (10, [.ref k, .ref ow, .ref ed, .int (nI (y69.2.1 + 1)), .int y69.2.2])) := by rw [eG181]; exact mm_set_of k172 (mm_ne_oo k172 k178 (by decide))
      have k183 : G181 k = some (.inr (13, [.ref ks, .ref ss, .ref vs, .int (nI tn)])) := by rw [eG181]; exact mm_set_of k173 (mm_ne_oo k173 k178 (by decide))
      have k184 : G181 ks = some (.inl (cy 5, 2001, .inr (.inr (.inr (.inr f1))))) := by rw [eG181]; exact mm_set_of k174 (mm_ne_ao k174 k178)
      have k185 : G181 ss = some (.inl (cy 1, 2001, .inl f2)) := by rw [eG181]; exact mm_set_of k175 (mm_ne_ao k175 k178)
      have k186 : G181 vs = some (.inl (cy 2, 2001, .inr (.inl f3))) := by rw [eG181]; exact mm_set_of k176 (mm_ne_ao k176 k178)
      have k187 : G181 sa = some (.inr (11, [.int su, .ref la, .int sat, .long sn, .ref pl, .int sz])) := by rw [eG181]; exact mm_set_of k177 (mm_ne_oo k177 k178 (by decide))
      have k188 : G181 q14 = some (.inr (9, [.int (nI (nC + 1)), .int r28, .long r30, .long r67, .int r57, .null, .int 1, .long 0, .int r179, .null, .int 0, .int 0, .int 0, .long 0, .long 0])) := by rw [eG181]; exact mm_set_self
      refine lv_aload_n hx hb dX9_takeParameter_119 rfl (lv_at hl 0 rfl) ?_
      refine lv_aload_n hx hb dX9_takeParameter_120 rfl (lv_at hl 1 rfl) ?_
      refine va_calll (va_runV (As := []) (rest := [.ref q14]) ⟨hx, hb, hml, hown, (fun _ h9 => absurd h9 List.not_mem_nil : ∀ w ∈ ([] : List Cond), w.before _ s = true)⟩ (c_X9_takeName l D cy A X hst hXT e0 tk hXE G181 o ow ed (y69.2.1 + 1, y69.2.2) k ks ss vs tn K S V f1 f2 f3  k182 k183 k184 k185 k186 hTP (by first | omega | (simp only []; omega)) ) (tb_cw (C := RX9) 0 hT tw_479 tw_106 tw_476 tw_478 tw_11 rfl rfl hq_X9_takeName ⟨Nat.le_of_ble_eq_true rfl, Nat.le_of_ble_eq_true rfl⟩) (mk_preC hst hG hK hA hX hS vc_10 k182) rfl rfl hl.1 rfl (lv_room (Nat.le_of_ble_eq_true rfl)) dX9_takeParameter_121 ⟨(by show _ ≤ 2; omega), (by show _ ≤ 15 + gco nC; omega)⟩) hS (fun q _ h => h) (fun q h => h) (fun r189 G190 t H locs ht hvm hw hB hz1 hk1 hS => ?_)
      have hG : mm D vwCl A G190 H := by rw [← ht]; exact hB
      clear hB hz1 hk1 hvm ht
      obtain ⟨y191, ey191⟩ : ∃ y, y = q_name K S V (y69.2.1 + 1, y69.2.2) := ⟨_, rfl⟩
      rw [← ey191] at hw
      obtain ⟨er189, hw⟩ := hw
      have ly191 : y191.2.1 ≤ (y69.2.1 + 1, y69.2.2).1 + 1 := by rw [ey191]; exact q_name_le
      have eG190 := hw
      clear hw
      have k192 : G190 o = some (.inr (10, [.ref k, .ref ow, .ref ed, .int (nI y191.2.1), .int y191.2.2])) := by rw [eG190]; exact mm_set_self
      have k193 : G190 k = some (.inr (13, [.ref ks, .ref ss, .ref vs, .int (nI tn)])) := by rw [eG190]; exact mm_set_of k183 (mm_ne_oo k183 k182 (by decide))
      have k194 : G190 ks = some (.inl (cy 5, 2001, .inr (.inr (.inr (.inr f1))))) := by rw [eG190]; exact mm_set_of k184 (mm_ne_ao k184 k182)
      have k195 : G190 ss = some (.inl (cy 1, 2001, .inl f2)) := by rw [eG190]; exact mm_set_of k185 (mm_ne_ao k185 k182)
      have k196 : G190 vs = some (.inl (cy 2, 2001, .inr (.inl f3))) := by rw [eG190]; exact mm_set_of k186 (mm_ne_ao k186 k182)
      have k197 : G190 sa = some (.inr (11, [.int su, .ref la, .int sat, .long sn, .ref pl, .int sz])) := by rw [eG190]; exact mm_set_of k187 (mm_ne_oo k187 k182 (by decide))
      have k198 : G190 q14 = some (.inr (9, [.int (nI (nC + 1)), .int r28, .long r30, .long r67, .int r57, .null, .int 1, .long 0, .int r179, .null, .int 0, .int 0, .int 0, .long 0, .long 0])) := by rw [eG190]; exact mm_set_of k188 (mm_ne_oo k188 k182 (by decide))
      refine mm_putN (v := .long r189) (ty := .long) hx hb hf_X8 (fun _ h9 => h9) tyX8 tyX8_ok nmX8 hown hK hG hS k198 rfl 7 (by decide) (tb_use hT tw_794) (fun _ h9 => h9) rfl (by decide +kernel) rfl rfl (Nat.le_of_ble_eq_true rfl) dX9_takeParameter_124 (fun H locs hG hS => ?_)
      obtain ⟨G199, eG199⟩ : ∃ g, g = mm_set G190 q14 (.inr (9, [.int (nI (nC + 1)), .int r28, .long r30, .long r67, .int r57, .null, .int 1, .long r189, .int r179, .null, .int 0, .int 0, .int 0, .long 0, .long 0])) := ⟨_, rfl⟩
      have hG : mm D vwCl A G199 H := by rw [eG199]; exact hG
      have k200 : G199 o = some (.inr (10, [.ref k, .ref ow, .ref ed, .int (nI y191.2.1), .int y191.2.2])) := by rw [eG199]; exact mm_set_of k192 (mm_ne_oo k192 k198 (by decide))
      have k201 : G199 k = some (.inr (13, [.ref ks, .ref ss, .ref vs, .int (nI tn)])) := by rw [eG199]; exact mm_set_of k193 (mm_ne_oo k193 k198 (by decide))
      have k202 : G199 ks = some (.inl (cy 5, 2001, .inr (.inr (.inr (.inr f1))))) := by rw [eG199]; exact mm_set_of k194 (mm_ne_ao k194 k198)
      have k203 : G199 ss = some (.inl (cy 1, 2001, .inl f2)) := by rw [eG199]; exact mm_set_of k195 (mm_ne_ao k195 k198)
      have k204 : G199 vs = some (.inl (cy 2, 2001, .inr (.inl f3))) := by rw [eG199]; exact mm_set_of k196 (mm_ne_ao k196 k198)
      have k205 : G199 sa = some (.inr (11, [.int su, .ref la, .int sat, .long sn, .ref pl, .int sz])) := by rw [eG199]; exact mm_set_of k197 (mm_ne_oo k197 k198 (by decide))
      have k206 : G199 q14 = some (.inr (9, [.int (nI (nC + 1)), .int r28, .long r30, .long r67, .int r57, .null, .int 1, .long r189, .int r179, .null, .int 0, .int 0, .int 0, .long 0, .long 0])) := by rw [eG199]; exact mm_set_self
      refine lv_aload_n hx hb dX9_takeParameter_127 rfl (lv_at hl 0 rfl) ?_
      refine mm_getN (v := .int 1) hx hb hf_X8 (fun _ h9 => h9) hown hK hG k206 rfl 6 (by decide) (tb_use hT tw_791) (fun _ h9 => h9) rfl dX9_takeParameter_128 ?_
      refine lv_iconst (v := 1) hx hb dX9_takeParameter_131 (by decide) ?_
      refine lv_icmp_ne (tgt := 153) hx hb dX9_takeParameter_132 (by decide) (fun c_132 => ?_) (fun c_132 => ?_)
      · skip
        exact absurd (by decide) c_132
      · skip
        refine lv_aload_n hx hb dX9_takeParameter_135 rfl (lv_at hl 1 rfl) ?_
        refine va_gets (v := .ref (tk 8)) hx hb (show va_Z "DescribeText$Token" "EQUAL" "LDescribeText$Token;" (.ref (tk 8)) A s s.heap from (hE.2.1 8 (by decide)).1) hS hown (tb_use hT tw_534) (fun _ h9 => h9) dX9_takeParameter_136 ?_
        refine va_callv (va_runV (As := [.ref (tk 8)]) (rest := []) ⟨hx, hb, hml, hown, (fun _ h9 => absurd h9 List.not_mem_nil : ∀ w ∈ ([] : List Cond), w.before _ s = true)⟩ (c_X9_take l D cy A X hst hXT e0 tk hXE G199 o ow ed y191.2 k ks ss vs tn K S V f1 f2 f3 8 k200 k201 k202 k203 k204 hTP (by first | omega | (simp only []; omega)) (by decide)) (tb_cw (C := RX9) 1 hT tw_539 tw_106 tw_536 tw_538 tw_12 rfl rfl hq_X9_take ⟨Nat.le_of_ble_eq_true rfl, Nat.le_of_ble_eq_true rfl⟩) (mk_preC hst hG hK hA hX hS vc_10 k200) rfl rfl hl.1 rfl (lv_room (Nat.le_of_ble_eq_true rfl)) dX9_takeParameter_139 ⟨(by show _ ≤ 2; omega), (by show _ ≤ 15 + gco nC; omega)⟩) hS (fun q _ h => h) (fun q h => h) (fun  G207 t H locs ht hvm hw hB hz1 hk1 hS => ?_)
        have hG : mm D vwCl A G207 H := by rw [← ht]; exact hB
        clear hB hz1 hk1 hvm ht
        obtain ⟨y208, ey208⟩ : ∃ y, y = q_take K S 8 y191.2 := ⟨_, rfl⟩
        rw [← ey208] at hw
        have ly208 : y208.1 ≤ y191.2.1 + 1 := by rw [ey208]; exact q_take_le
        have eG207 := hw
        clear hw
        have k209 : G207 o = some (.inr (10, [.ref k, .ref ow, .ref ed, .int (nI y208.1), .int y208.2])) := by rw [eG207]; exact mm_set_self
        have k210 : G207 k = some (.inr (13, [.ref ks, .ref ss, .ref vs, .int (nI tn)])) := by rw [eG207]; exact mm_set_of k201 (mm_ne_oo k201 k200 (by decide))
        have k211 : G207 ks = some (.inl (cy 5, 2001, .inr (.inr (.inr (.inr f1))))) := by rw [eG207]; exact mm_set_of k202 (mm_ne_ao k202 k200)
        have k212 : G207 ss = some (.inl (cy 1, 2001, .inl f2)) := by rw [eG207]; exact mm_set_of k203 (mm_ne_ao k203 k200)
        have k213 : G207 vs = some (.inl (cy 2, 2001, .inr (.inl f3))) := by rw [eG207]; exact mm_set_of k204 (mm_ne_ao k204 k200)
        have k214 : G207 sa = some (.inr (11, [.int su, .ref la, .int sat, .long sn, .ref pl, .int sz])) := by rw [eG207]; exact mm_set_of k205 (mm_ne_oo k205 k200 (by decide))
        have k215 : G207 q14 = some (.inr (9, [.int (nI (nC + 1)), .int r28, .long r30, .long r67, .int r57, .null, .int 1, .long r189, .int r179, .null, .int 0, .int 0, .int 0, .long 0, .long 0])) := by rw [eG207]; exact mm_set_of k206 (mm_ne_oo k206 k200 (by decide))
        refine lv_aload_n hx hb dX9_takeParameter_142 rfl (lv_at hl 0 rfl) ?_
        refine lv_aload_n hx hb dX9_takeParameter_143 rfl (lv_at hl 1 rfl) ?_
        refine lv_iconst (v := 0) hx hb dX9_takeParameter_144 (by decide) ?_
        refine lv_ldc hx hb hown (tb_use hT tw_587) dX9_takeParameter_145 ?_
        refine va_calli (va_runV (As := [.int 0, .int 999999]) (rest := [.ref q14]) ⟨hx, hb, hml, hown, (fun _ h9 => absurd h9 List.not_mem_nil : ∀ w ∈ ([] : List Cond), w.before _ s = true)⟩ (c_X9_takeNumber l D cy A X hst hXT e0 tk hXE G207 o ow ed y208 k ks ss vs tn K S V f1 f2 f3 0 999999 k209 k210 k211 k212 k213 hTP (by first | omega | (simp only []; omega)) ) (tb_cw (C := RX9) 2 hT tw_543 tw_106 tw_540 tw_542 tw_13 rfl rfl hq_X9_takeNumber ⟨Nat.le_of_ble_eq_true rfl, Nat.le_of_ble_eq_true rfl⟩) (mk_preC hst hG hK hA hX hS vc_10 k209) rfl rfl hl.1 rfl (lv_room (Nat.le_of_ble_eq_true rfl)) dX9_takeParameter_147 ⟨(by show _ ≤ 2; omega), (by show _ ≤ 15 + gco nC; omega)⟩) hS (fun q _ h => h) (fun q h => h) (fun r216 G217 t H locs ht hvm hw hB hz1 hk1 hS => ?_)
        have hG : mm D vwCl A G217 H := by rw [← ht]; exact hB
        clear hB hz1 hk1 hvm ht
        obtain ⟨y218, ey218⟩ : ∃ y, y = q_num K S V 0 999999 y208 := ⟨_, rfl⟩
        rw [← ey218] at hw
        obtain ⟨er216, hw⟩ := hw
        have ly218 : y218.2.1 ≤ y208.1 + 1 := by rw [ey218]; exact q_num_le
        have eG217 := hw
        clear hw
        have k219 : G217 o = some (.inr (10, [.ref k, .ref ow, .ref ed, .int (nI y218.2.1), .int y218.2.2])) := by rw [eG217]; exact mm_set_self
        have k220 : G217 k = some (.inr (13, [.ref ks, .ref ss, .ref vs, .int (nI tn)])) := by rw [eG217]; exact mm_set_of k210 (mm_ne_oo k210 k209 (by decide))
        have k221 : G217 ks = some (.inl (cy 5, 2001, .inr (.inr (.inr (.inr f1))))) := by rw [eG217]; exact mm_set_of k211 (mm_ne_ao k211 k209)
        have k222 : G217 ss = some (.inl (cy 1, 2001, .inl f2)) := by rw [eG217]; exact mm_set_of k212 (mm_ne_ao k212 k209)
        have k223 : G217 vs = some (.inl (cy 2, 2001, .inr (.inl f3))) := by rw [eG217]; exact mm_set_of k213 (mm_ne_ao k213 k209)
        have k224 : G217 sa = some (.inr (11, [.int su, .ref la, .int sat, .long sn, .ref pl, .int sz])) := by rw [eG217]; exact mm_set_of k214 (mm_ne_oo k214 k209 (by decide))
        have k225 : G217 q14 = some (.inr (9, [.int (nI (nC + 1)), .int r28, .long r30, .long r67, .int r57, .null, .int 1, .long r189, .int r179, .null, .int 0, .int 0, .int 0, .long 0, .long 0])) := by rw [eG217]; exact mm_set_of k215 (mm_ne_oo k215 k209 (by decide))
        refine mm_putN (v := .int r216) (ty := .int) hx hb hf_X8 (fun _ h9 => h9) tyX8 tyX8_ok nmX8 hown hK hG hS k225 rfl 10 (by decide) (tb_use hT tw_802) (fun _ h9 => h9) rfl (by decide +kernel) rfl rfl (Nat.le_of_ble_eq_true rfl) dX9_takeParameter_150 (fun H locs hG hS => ?_)
        obtain ⟨G226, eG226⟩ : ∃ g, g = mm_set G217 q14 (.inr (9, [.int (nI (nC + 1)), .int r28, .long r30, .long r67, .int r57, .null, .int 1, .long r189, .int r179, .null, .int r216, .int 0, .int 0, .long 0, .long 0])) := ⟨_, rfl⟩
        have hG : mm D vwCl A G226 H := by rw [eG226]; exact hG
        have k227 : G226 o = some (.inr (10, [.ref k, .ref ow, .ref ed, .int (nI y218.2.1), .int y218.2.2])) := by rw [eG226]; exact mm_set_of k219 (mm_ne_oo k219 k225 (by decide))
        have k228 : G226 k = some (.inr (13, [.ref ks, .ref ss, .ref vs, .int (nI tn)])) := by rw [eG226]; exact mm_set_of k220 (mm_ne_oo k220 k225 (by decide))
        have k229 : G226 ks = some (.inl (cy 5, 2001, .inr (.inr (.inr (.inr f1))))) := by rw [eG226]; exact mm_set_of k221 (mm_ne_ao k221 k225)
        have k230 : G226 ss = some (.inl (cy 1, 2001, .inl f2)) := by rw [eG226]; exact mm_set_of k222 (mm_ne_ao k222 k225)
        have k231 : G226 vs = some (.inl (cy 2, 2001, .inr (.inl f3))) := by rw [eG226]; exact mm_set_of k223 (mm_ne_ao k223 k225)
        have k232 : G226 sa = some (.inr (11, [.int su, .ref la, .int sat, .long sn, .ref pl, .int sz])) := by rw [eG226]; exact mm_set_of k224 (mm_ne_oo k224 k225 (by decide))
        have k233 : G226 q14 = some (.inr (9, [.int (nI (nC + 1)), .int r28, .long r30, .long r67, .int r57, .null, .int 1, .long r189, .int r179, .null, .int r216, .int 0, .int 0, .long 0, .long 0])) := by rw [eG226]; exact mm_set_self
        refine lv_aload_n hx hb dX9_takeParameter_153 rfl (lv_at hl 1 rfl) ?_
        refine va_gets (v := .ref (tk 6)) hx hb (show va_Z "DescribeText$Token" "SEMICOLON" "LDescribeText$Token;" (.ref (tk 6)) A s s.heap from (hE.2.1 6 (by decide)).1) hS hown (tb_use hT tw_592) (fun _ h9 => h9) dX9_takeParameter_154 ?_
        refine va_callv (va_runV (As := [.ref (tk 6)]) (rest := []) ⟨hx, hb, hml, hown, (fun _ h9 => absurd h9 List.not_mem_nil : ∀ w ∈ ([] : List Cond), w.before _ s = true)⟩ (c_X9_take l D cy A X hst hXT e0 tk hXE G226 o ow ed y218.2 k ks ss vs tn K S V f1 f2 f3 6 k227 k228 k229 k230 k231 hTP (by first | omega | (simp only []; omega)) (by decide)) (tb_cw (C := RX9) 1 hT tw_539 tw_106 tw_536 tw_538 tw_12 rfl rfl hq_X9_take ⟨Nat.le_of_ble_eq_true rfl, Nat.le_of_ble_eq_true rfl⟩) (mk_preC hst hG hK hA hX hS vc_10 k227) rfl rfl hl.1 rfl (lv_room (Nat.le_of_ble_eq_true rfl)) dX9_takeParameter_157 ⟨(by show _ ≤ 2; omega), (by show _ ≤ 15 + gco nC; omega)⟩) hS (fun q _ h => h) (fun q h => h) (fun  G234 t H locs ht hvm hw hB hz1 hk1 hS => ?_)
        have hG : mm D vwCl A G234 H := by rw [← ht]; exact hB
        clear hB hz1 hk1 hvm ht
        obtain ⟨y235, ey235⟩ : ∃ y, y = q_take K S 6 y218.2 := ⟨_, rfl⟩
        rw [← ey235] at hw
        have ly235 : y235.1 ≤ y218.2.1 + 1 := by rw [ey235]; exact q_take_le
        have eG234 := hw
        clear hw
        have k236 : G234 o = some (.inr (10, [.ref k, .ref ow, .ref ed, .int (nI y235.1), .int y235.2])) := by rw [eG234]; exact mm_set_self
        have k237 : G234 k = some (.inr (13, [.ref ks, .ref ss, .ref vs, .int (nI tn)])) := by rw [eG234]; exact mm_set_of k228 (mm_ne_oo k228 k227 (by decide))
        have k238 : G234 ks = some (.inl (cy 5, 2001, .inr (.inr (.inr (.inr f1))))) := by rw [eG234]; exact mm_set_of k229 (mm_ne_ao k229 k227)
        have k239 : G234 ss = some (.inl (cy 1, 2001, .inl f2)) := by rw [eG234]; exact mm_set_of k230 (mm_ne_ao k230 k227)
        have k240 : G234 vs = some (.inl (cy 2, 2001, .inr (.inl f3))) := by rw [eG234]; exact mm_set_of k231 (mm_ne_ao k231 k227)
        have k241 : G234 sa = some (.inr (11, [.int su, .ref la, .int sat, .long sn, .ref pl, .int sz])) := by rw [eG234]; exact mm_set_of k232 (mm_ne_oo k232 k227 (by decide))
        have k242 : G234 q14 = some (.inr (9, [.int (nI (nC + 1)), .int r28, .long r30, .long r67, .int r57, .null, .int 1, .long r189, .int r179, .null, .int r216, .int 0, .int 0, .long 0, .long 0])) := by rw [eG234]; exact mm_set_of k233 (mm_ne_oo k233 k227 (by decide))
        refine lv_aload_n hx hb dX9_takeParameter_160 rfl (lv_at hl 2 rfl) ?_
        refine mm_getN (v := .ref pl) hx hb hf_X10 (fun _ h9 => h9) hown hK hG k241 rfl 4 (by decide) (tb_use hT tw_741) (fun _ h9 => h9) rfl dX9_takeParameter_161 ?_
        refine lv_aload_n hx hb dX9_takeParameter_164 rfl (lv_at hl 0 rfl) ?_
        have hB243 : ∀ (x : Nat) (e : va_E), G x = some e → x ≠ o → G234 x = some e := by
          intro x e z0 n_o
          have z1 : G6 x = some e := by rw [eG6]; exact mm_set_of z0 n_o
          have n_q14 : x ≠ q14 := fun z => by rw [z, hn_q14] at z1; cases z1
          have z2 : G15 x = some e := by rw [eG15]; exact mm_set_of z1 n_q14
          have z3 : G31 x = some e := by rw [eG31]; exact mm_set_of z2 n_o
          have z4 : G40 x = some e := h41_f x e z3 n_q14
          have z5 : G48 x = some e := by rw [eG48]; exact mm_set_of z4 n_o
          have z6 : G59 x = some e := by rw [eG59]; exact mm_set_of z5 n_q14
          have z7 : G68 x = some e := by rw [eG68]; exact mm_set_of z6 n_o
          have z8 : G77 x = some e := by rw [eG77]; exact mm_set_of z7 n_q14
          have z9 : G163 x = some e := by rw [eG163]; exact mm_set_of z8 n_q14
          have z10 : G171 x = some e := by rw [eG171]; exact mm_set_of z9 n_o
          have z11 : G181 x = some e := by rw [eG181]; exact mm_set_of z10 n_q14
          have z12 : G190 x = some e := by rw [eG190]; exact mm_set_of z11 n_o
          have z13 : G199 x = some e := by rw [eG199]; exact mm_set_of z12 n_q14
          have z14 : G207 x = some e := by rw [eG207]; exact mm_set_of z13 n_o
          have z15 : G217 x = some e := by rw [eG217]; exact mm_set_of z14 n_o
          have z16 : G226 x = some e := by rw [eG226]; exact mm_set_of z15 n_q14
          have z17 : G234 x = some e := by rw [eG234]; exact mm_set_of z16 n_o
          exact z17
        have hL244 : LiS cy e0 G234 pl ec nC fC := LiS.fr2 (fun x => x ≠ o) hlc (fun x e h0 hp => hB243 x e h0 hp) (hlc.ne h0 (by decide)) (fun v _ hv => mm_ne_ao hv h0)
        have hLO2 : LO G234 nC fC := fun j hj => by obtain ⟨fs, z⟩ := hLT j hj; exact ⟨9, fs, _, hB243 _ _ z (mm_ne_oo z h0 (by decide)), rfl, tw_1917, by decide⟩
        obtain ⟨mo247, h_mo247, -⟩ := id hL244
        refine va_calli (va_runV (As := [.ref q14]) (rest := []) ⟨hx, hb, hml, hown, (fun _ h9 => absurd h9 List.not_mem_nil : ∀ w ∈ ([] : List Cond), w.before _ s = true)⟩ (c_LS_add l D cy A X hst hXT e0 tk hXE mi hXL G234 pl ec nC fC q14 9 _ _ hL244 hLO2 (by omega) k242 rfl (by decide) tw_1917) (tb_cw (C := RJx4a65c) 1 hT tw_597 tw_113 tw_594 tw_595 tw_596 rfl rfl hq_Jx4a65c_add_9ea2d ⟨Nat.le_of_ble_eq_true rfl, Nat.le_of_ble_eq_true rfl⟩) (mk_preC hst hG hK hA hX hS vc_1 h_mo247) rfl rfl hl.1 rfl (lv_room (Nat.le_of_ble_eq_true rfl)) dX9_takeParameter_165 ⟨(by show _ ≤ 2; omega), (by show _ ≤ 15 + gco nC; omega)⟩) hS (fun q _ h => h) (fun q h => h) (fun r246 G245 t H locs ht hvm hw hB hz1 hk1 hS => ?_)
        have hG : mm D vwCl A G245 H := by rw [← ht]; exact hB
        clear hB hz1 hk1 hvm ht
        obtain ⟨ec2, hlc2, hec2, hf2⟩ := hw
        have hf3 : ∀ (x ci : Nat) (fs : List Value), G234 x = some (.inr (ci, fs)) → ci ≠ 1 → G245 x = some (.inr (ci, fs)) := fun x ci fs h0 hc => hf2 x _ h0 (Ne.symm (hL244.ne h0 hc)) (fun h1 => LiS.nea hL244 h1 h0)
        have k_o : G245 o = some (.inr (10, [.ref k, .ref ow, .ref ed, .int (nI y235.1), .int y235.2])) := hf3 _ _ _ k236 (by decide)
        have k_el : G245 q14 = some (.inr (9, [.int (nI (nC + 1)), .int r28, .long r30, .long r67, .int r57, .null, .int 1, .long r189, .int r179, .null, .int r216, .int 0, .int 0, .long 0, .long 0])) := hf3 _ _ _ k242 (by decide)
        have hec3 : (1 ≤ nC ∧ ec2 = ec) ∨ G ec2 = none := by
          rcases hec2 with h1 | h1
          · exact Or.inl h1
          · refine Or.inr (none_back hB243 h1 ?_)
            intro z; rw [z, k236] at h1; cases h1
        have hfr9 : ∀ (x : Nat) (e : va_E), G x = some e → x ≠ o → x ≠ pl → (1 ≤ nC → x ≠ ec) → G245 x = some e := fun x e h0 n1 n2 n3 => hf2 x e (hB243 x e h0 n1) n2 n3
        refine lv_pop hx hb dX9_takeParameter_168 rfl ?_
        have hs_w : se K y69.2.1 y69.2.2 20 = true := by rw [er85] at c_68; revert c_68; cases se K y69.2.1 y69.2.2 20 <;> simp [b2i]
        have hq : q_par K S V nC q = (y235, (r28, r30, r67, r57, 1, r189, r179, r216)) := by
          simp only [q_par]
          simp only [← ey7, ← ey32, ← ey49, ← ey69, ← ey191, ← ey208, ← ey218, ← ey235]
          simp only [hs_w, Bool.false_eq_true, if_false, if_true, reduceIte]
          try simp only [← ey7, ← ey32, ← ey49, ← ey69, ← ey191, ← ey208, ← ey218, ← ey235]
          try simp only [er28, er30, er57, er67, er179, er189, er216]
        have fn248 : G q14 = none := by
          have z := hn_q14
          rw [eG6] at z; replace z := mm_none z
          exact z
        refine W.widen (k := 2) (n := (15 + gco nC)) (by omega) (by omega) ?_
        exact W.vret hx hb hr (fun t ht hW => ⟨⟨_, rfl, (by rw [hq]; exact ⟨q14, ec2, fn248, k_o, hlc2, hec3, k_el, hfr9⟩), mk_end hG ht⟩, hS.F ht⟩) hS.2.2 dX9_takeParameter_169
