def q_code (K : Nat → Nat) (S : Nat → Int32) (V : Nat → Int64) (nC : Nat) (q : Nat × Int32) : (Nat × Int32) × RwD :=
  let q1 := q_begin S (nI nC) 12 q
  let a := q_num K S V 0 999999 q1
  let q2 := q_take K S 8 a.2
  let b := q_name K S V q2
  (q_take K S 6 b.2, (a.1, S q1.1, b.1, S q2.1))
def q_vari (K : Nat → Nat) (S : Nat → Int32) (V : Nat → Int64) (nC : Nat) (q : Nat × Int32) : (Nat × Int32) × RwD :=
  let q1 := q_begin S (nI nC) 6 q
  let b := q_name K S V q1
  let q2 := q_take K S 8 b.2
  let a := q_num K S V 0 999999 q2
  (q_take K S 6 a.2, (a.1, S q2.1, b.1, S q1.1))
set_option maxHeartbeats 4000000 in
set_option maxRecDepth 100000 in
theorem c_X9_takeCode (l : Launch) (D : va_G) (cy : Nat → ClassId) (A : Nat → Prop) (X : State → Prop) (hst : mk_St A X) (hXT : ∀ U : State, X U → TB U) (e0 : Nat) (tk : Nat → Nat) (hXE : ∀ U : State, X U → ES e0 tk A U) (mi : Nat) (hXL : ∀ U : State, X U → EL e0 mi A U) (G : Nat → Option va_E) (o ow ed : Nat) (q : Nat × Int32) (k ks ss vs tn : Nat) (K : Nat → Nat) (S : Nat → Int32) (V : Nat → Int64) (f1 : Nat → Option Nat) (f2 : Nat → Int32) (f3 : Nat → Int64) (lc ly lsv lco lva ljo na : Nat) (nc wa : Int32) (iu rs : Option Nat) (ec nC : Nat) (fC : Nat → Nat) (h0 : G o = some (.inr (10, [.ref k, .ref ow, .ref ed, .int (nI q.1), .int q.2]))) (q1 : G k = some (.inr (13, [.ref ks, .ref ss, .ref vs, .int (nI tn)]))) (q2 : G ks = some (.inl (cy 5, 2001, .inr (.inr (.inr (.inr f1)))))) (q3 : G ss = some (.inl (cy 1, 2001, .inl f2))) (q4 : G vs = some (.inl (cy 2, 2001, .inr (.inl f3)))) (hTP : TKP tk tn K S V f1 f2 f3) (hp : q.1 < 2 ^ 27) (hed : G ed = some (.inr (3, [.ref lc, .ref ly, .ref lsv, .ref lco, .ref lva, .ref ljo, .ref na, .int nc, va_rf iu, .int wa, va_rf rs]))) (hlc : LiS cy e0 G lco ec nC fC) (hLT : LT G 4 nC fC) (hnC : nC < 100) : Met l yX9_takeCode [.code yX9_takeCode cX9_takeCode 2 none] ({ frames := 8, cells := 2, slots := (5 + gco nC), locals := 240 }) (mk_Pre D vwCl (tyL cy) A X G [.ref o]) (va_Qv (fun (G2 : Nat → Option va_E) => ∃ (en ec2 : Nat), G en = none ∧ G2 o = some (.inr (10, [.ref k, .ref ow, .ref ed, .int (nI ((q_code K S V nC q).1).1), .int (((q_code K S V nC q).1).2)])) ∧ LiS cy e0 G2 lco ec2 (nC + 1) (fup fC nC en) ∧ ((1 ≤ nC ∧ ec2 = ec) ∨ G ec2 = none) ∧ G2 en = some (.inr (4, [.int ((q_code K S V nC q).2.1), .int ((q_code K S V nC q).2.2.1), .long ((q_code K S V nC q).2.2.2.1), .int ((q_code K S V nC q).2.2.2.2), .null])) ∧ ∀ (x : Nat) (e : va_E), G x = some e → x ≠ o → x ≠ lco → (1 ≤ nC → x ≠ ec) → G2 x = some e) (mk_B D vwCl A) A) 2 (5 + gco nC) A := by
  refine Met.ofW (cc := cX9_takeCode) (maxL := 2) (ret := none) (by decide) rfl ?_
  intro p e s m args below meth c s₁ B hml hv
  obtain ⟨rfl, hG, hK, hA, hX⟩ := hv
  have hx := B.exec
  have hb := B.bytes
  have hr := B.returns
  have hlocks := B.notSynchronized
  have hT := hXT s hX
  have hown : s.vm.findClass RX9 = some m.cls := findClass_of_methodNamed B.named
  have hf_X9 : ∀ w ∈ u_ws RX9 TX9 5, w.before ([.ref o] : List Value).toArray s = true := tb_list hT fX9
  have hf_X2 : ∀ w ∈ u_ws RX2 TX2 11, w.before ([.ref o] : List Value).toArray s = true := tb_list hT fX2
  have hf_X3 : ∀ w ∈ u_ws RX3 TX3 5, w.before ([.ref o] : List Value).toArray s = true := tb_list hT fX3
  have hS : va_S A s.heap s.heap [] := va_S.rf
  have hE := hXE s hX
  have hl := lv_entry ([.ref o]) (n := 2) (Nat.le_of_ble_eq_true rfl)
  rw [lg_entry_eq]
  generalize (lg_sl ([.ref o]) ++ List.replicate (2 - (lg_sl ([.ref o])).length) Slot.unset).toArray = ls at hl ⊢
  have hl : lv_has ls 2 [(0, .ref o)] := hl
  refine lv_aload_n hx hb dX9_takeCode_0 rfl (lv_at hl 0 rfl) ?_
  refine lv_aload_n hx hb dX9_takeCode_1 rfl (lv_at hl 0 rfl) ?_
  refine mm_get (v := .ref ed) hx hb hf_X9 (fun _ h9 => h9) hown hK hG h0 rfl 2 (by decide) (tb_use hT tw_179) (fun _ h9 => h9) rfl dX9_takeCode_2 ?_
  refine mm_getN (v := .ref lco) hx hb hf_X2 (fun _ h9 => h9) hown hK hG hed rfl 3 (by decide) (tb_use hT tw_287) (fun _ h9 => h9) rfl dX9_takeCode_5 ?_
  have hB1 : ∀ (x : Nat) (e : va_E), G x = some e → x ≠ o → G x = some e := by
    intro x e z0 n_o
    exact z0
  have hL2 : LiS cy e0 G lco ec nC fC := LiS.fr2 (fun x => x ≠ o) hlc (fun x e h0 hp => hB1 x e h0 hp) (hlc.ne h0 (by decide)) (fun v _ hv => mm_ne_ao hv h0)
  obtain ⟨mo3, h_mo3, -⟩ := id hL2
  refine va_calli (va_runV (As := []) (rest := [.ref o]) ⟨hx, hb, hml, hown, (fun _ h9 => absurd h9 List.not_mem_nil : ∀ w ∈ ([] : List Cond), w.before _ s = true)⟩ (c_LS_size l D cy A X hst hXT e0 tk hXE mi hXL G lco ec nC fC hL2) (tb_cw (C := RJx4a65c) 0 hT tw_457 tw_113 tw_454 tw_455 tw_456 rfl rfl hq_Jx4a65c_size_8abf5 ⟨Nat.le_of_ble_eq_true rfl, Nat.le_of_ble_eq_true rfl⟩) (mk_preC hst hG hK hA hX hS vc_1 h_mo3) rfl rfl hl.1 rfl (lv_room (Nat.le_of_ble_eq_true rfl)) dX9_takeCode_8 ⟨(by show _ ≤ 2; omega), (by show _ ≤ 5 + gco nC; omega)⟩) hS (fun q _ h => h) (fun q h => h) (fun r4 G5 t H locs ht hvm hw hB hz1 hk1 hS => ?_)
  have hG : mm D vwCl A G5 H := by rw [← ht]; exact hB
  clear hB hz1 hk1 hvm ht
  obtain ⟨rfl, hw⟩ := hw
  rw [hw] at hG
  refine lv_bipush (v := 12) hx hb dX9_takeCode_11 (by decide) ?_
  refine va_callv (va_runV (As := [.int (nI nC), .int 12]) (rest := []) ⟨hx, hb, hml, hown, (fun _ h9 => absurd h9 List.not_mem_nil : ∀ w ∈ ([] : List Cond), w.before _ s = true)⟩ (c_X9_begin l D cy A X hst hXT e0 tk hXE G o ow ed q k ks ss vs tn K S V f1 f2 f3 (nI nC) 12 h0 q1 q2 q3 q4 hTP (by first | omega | (simp only []; omega)) ) (tb_cw (C := RX9) 2 hT tw_461 tw_106 tw_458 tw_460 tw_8 rfl rfl hq_X9_begin ⟨Nat.le_of_ble_eq_true rfl, Nat.le_of_ble_eq_true rfl⟩) (mk_preC hst hG hK hA hX hS vc_10 h0) rfl rfl hl.1 rfl (lv_room (Nat.le_of_ble_eq_true rfl)) dX9_takeCode_13 ⟨(by show _ ≤ 2; omega), (by show _ ≤ 5 + gco nC; omega)⟩) hS (fun q _ h => h) (fun q h => h) (fun  G6 t H locs ht hvm hw hB hz1 hk1 hS => ?_)
  have hG : mm D vwCl A G6 H := by rw [← ht]; exact hB
  clear hB hz1 hk1 hvm ht
  obtain ⟨y7, ey7⟩ : ∃ y, y = q_begin S (nI nC) 12 q := ⟨_, rfl⟩
  rw [← ey7] at hw
  have ly7 : y7.1 ≤ q.1 + 1 := by rw [ey7]; exact q_begin_le
  have eG6 := hw
  clear hw
  have k8 : G6 o = some (.inr (10, [.ref k, .ref ow, .ref ed, .int (nI y7.1), .int y7.2])) := by rw [eG6]; exact mm_set_self
  have k9 : G6 k = some (.inr (13, [.ref ks, .ref ss, .ref vs, .int (nI tn)])) := by rw [eG6]; exact mm_set_of q1 (mm_ne_oo q1 h0 (by decide))
  have k10 : G6 ks = some (.inl (cy 5, 2001, .inr (.inr (.inr (.inr f1))))) := by rw [eG6]; exact mm_set_of q2 (mm_ne_ao q2 h0)
  have k11 : G6 ss = some (.inl (cy 1, 2001, .inl f2)) := by rw [eG6]; exact mm_set_of q3 (mm_ne_ao q3 h0)
  have k12 : G6 vs = some (.inl (cy 2, 2001, .inr (.inl f3))) := by rw [eG6]; exact mm_set_of q4 (mm_ne_ao q4 h0)
  have k13 : G6 ed = some (.inr (3, [.ref lc, .ref ly, .ref lsv, .ref lco, .ref lva, .ref ljo, .ref na, .int nc, va_rf iu, .int wa, va_rf rs])) := by rw [eG6]; exact mm_set_of hed (mm_ne_oo hed h0 (by decide))
  refine mm_new (ci := 4) (fs := [.int 0, .int 0, .long 0, .int 0, .null]) hx hb hf_X3 (fun _ h9 => h9) tyX3 tyX3_ok hown (tb_use hT tw_553) (tb_use hT tw_554) (tb_use hT tw_123) hK hG hS hA rfl (fun j hj => by rcases (show j = 0 ∨ j = 1 ∨ j = 2 ∨ j = 3 ∨ j = 4 by omega) with rfl | rfl | rfl | rfl | rfl <;> rfl) (by show _ ≤ 2; omega) (by show _ ≤ 5 + gco nC; omega) dX9_takeCode_16 (fun q14 H hn_q14 hG hS => ?_)
  obtain ⟨G15, eG15⟩ : ∃ g, g = mm_set G6 q14 (.inr (4, [.int 0, .int 0, .long 0, .int 0, .null])) := ⟨_, rfl⟩
  have hG : mm D vwCl A G15 H := by rw [eG15]; exact hG
  have k16 : G15 o = some (.inr (10, [.ref k, .ref ow, .ref ed, .int (nI y7.1), .int y7.2])) := by rw [eG15]; exact mm_set_new k8 hn_q14
  have k17 : G15 k = some (.inr (13, [.ref ks, .ref ss, .ref vs, .int (nI tn)])) := by rw [eG15]; exact mm_set_new k9 hn_q14
  have k18 : G15 ks = some (.inl (cy 5, 2001, .inr (.inr (.inr (.inr f1))))) := by rw [eG15]; exact mm_set_new k10 hn_q14
  have k19 : G15 ss = some (.inl (cy 1, 2001, .inl f2)) := by rw [eG15]; exact mm_set_new k11 hn_q14
  have k20 : G15 vs = some (.inl (cy 2, 2001, .inr (.inl f3))) := by rw [eG15]; exact mm_set_new k12 hn_q14
  have k21 : G15 ed = some (.inr (3, [.ref lc, .ref ly, .ref lsv, .ref lco, .ref lva, .ref ljo, .ref na, .int nc, va_rf iu, .int wa, va_rf rs])) := by rw [eG15]; exact mm_set_new k13 hn_q14
  have k22 : G15 q14 = some (.inr (4, [.int 0, .int 0, .long 0, .int 0, .null])) := by rw [eG15]; exact mm_set_self
  refine lv_dup hx hb dX9_takeCode_19 rfl ?_
  refine va_callv (va_runIN (As := []) (rest := [.ref q14]) ⟨hx, hb, hml, hown, (fun _ h9 => absurd h9 List.not_mem_nil : ∀ w ∈ ([] : List Cond), w.before _ s = true)⟩ (c_X3_init l D cy A X hst hXT e0 tk hXE G15 q14 k22) ⟨tb_cn (host := "DescribeText") 0 hT tw_557 tw_123 tw_555 rfl rfl hq_X3_init ⟨Nat.le_of_ble_eq_true rfl, Nat.le_of_ble_eq_true rfl⟩, rfl, (tb_use hT tw_556)⟩ (mk_preS hst hG hK hA hX hS) rfl rfl hl.1 rfl (lv_room (Nat.le_of_ble_eq_true rfl)) dX9_takeCode_20 ⟨(by show _ ≤ 2; omega), (by show _ ≤ 5 + gco nC; omega)⟩) hS (fun q _ h => h) (fun q h => h) (fun  G23 t H locs ht hvm hw hB hz1 hk1 hS => ?_)
  have hG : mm D vwCl A G23 H := by rw [← ht]; exact hB
  clear hB hz1 hk1 hvm ht
  rw [hw] at hG
  refine lv_astore_n (lv' := [(1, .ref q14), (0, .ref o)]) hx hb dX9_takeCode_23 rfl hl (by decide) rfl (fun ls hl => ?_)
  refine lv_aload_n hx hb dX9_takeCode_24 rfl (lv_at hl 1 rfl) ?_
  refine lv_aload_n hx hb dX9_takeCode_25 rfl (lv_at hl 0 rfl) ?_
  refine va_callv (va_runV (As := [.ref q14]) (rest := []) ⟨hx, hb, hml, hown, (fun _ h9 => absurd h9 List.not_mem_nil : ∀ w ∈ ([] : List Cond), w.before _ s = true)⟩ (c_X9_takeNumberOf l D cy A X hst hXT e0 tk hXE G15 o ow ed y7 k ks ss vs tn K S V f1 f2 f3 q14 0 0 0 0 none k16 k17 k18 k19 k20 hTP (by first | omega | (simp only []; omega)) k22) (tb_cw (C := RX9) 1 hT tw_586 tw_106 tw_583 tw_585 tw_15 rfl rfl hq_X9_takeNumberOf ⟨Nat.le_of_ble_eq_true rfl, Nat.le_of_ble_eq_true rfl⟩) (mk_preC hst hG hK hA hX hS vc_10 k16) rfl rfl hl.1 rfl (lv_room (Nat.le_of_ble_eq_true rfl)) dX9_takeCode_26 ⟨(by show _ ≤ 2; omega), (by show _ ≤ 5 + gco nC; omega)⟩) hS (fun q _ h => h) (fun q h => h) (fun  G24 t H locs ht hvm hw hB hz1 hk1 hS => ?_)
  have hG : mm D vwCl A G24 H := by rw [← ht]; exact hB
  clear hB hz1 hk1 hvm ht
  obtain ⟨h25_1, h25_2, h25_f⟩ := hw
  obtain ⟨y26, ey26⟩ : ∃ y, y = q_num K S V 0 999999 y7 := ⟨_, rfl⟩
  rw [← ey26] at h25_1 h25_2
  have ly26 : y26.2.1 ≤ y7.1 + 1 := by rw [ey26]; exact q_num_le
  have k27 : G24 k = some (.inr (13, [.ref ks, .ref ss, .ref vs, .int (nI tn)])) := h25_f _ _ k17 (mm_ne_oo k17 k16 (by decide)) (mm_ne_oo k17 k22 (by decide))
  have k28 : G24 ks = some (.inl (cy 5, 2001, .inr (.inr (.inr (.inr f1))))) := h25_f _ _ k18 (mm_ne_ao k18 k16) (mm_ne_ao k18 k22)
  have k29 : G24 ss = some (.inl (cy 1, 2001, .inl f2)) := h25_f _ _ k19 (mm_ne_ao k19 k16) (mm_ne_ao k19 k22)
  have k30 : G24 vs = some (.inl (cy 2, 2001, .inr (.inl f3))) := h25_f _ _ k20 (mm_ne_ao k20 k16) (mm_ne_ao k20 k22)
  have k31 : G24 ed = some (.inr (3, [.ref lc, .ref ly, .ref lsv, .ref lco, .ref lva, .ref ljo, .ref na, .int nc, va_rf iu, .int wa, va_rf rs])) := h25_f _ _ k21 (mm_ne_oo k21 k16 (by decide)) (mm_ne_oo k21 k22 (by decide))
  refine lv_aload_n hx hb dX9_takeCode_29 rfl (lv_at hl 1 rfl) ?_
  refine va_gets (v := .ref (tk 8)) hx hb (show va_Z "DescribeText$Token" "EQUAL" "LDescribeText$Token;" (.ref (tk 8)) A s s.heap from (hE.2.1 8 (by decide)).1) hS hown (tb_use hT tw_534) (fun _ h9 => h9) dX9_takeCode_30 ?_
  refine va_callv (va_runV (As := [.ref (tk 8)]) (rest := []) ⟨hx, hb, hml, hown, (fun _ h9 => absurd h9 List.not_mem_nil : ∀ w ∈ ([] : List Cond), w.before _ s = true)⟩ (c_X9_take l D cy A X hst hXT e0 tk hXE G24 o ow ed y26.2 k ks ss vs tn K S V f1 f2 f3 8 h25_1 k27 k28 k29 k30 hTP (by first | omega | (simp only []; omega)) (by decide)) (tb_cw (C := RX9) 1 hT tw_539 tw_106 tw_536 tw_538 tw_12 rfl rfl hq_X9_take ⟨Nat.le_of_ble_eq_true rfl, Nat.le_of_ble_eq_true rfl⟩) (mk_preC hst hG hK hA hX hS vc_10 h25_1) rfl rfl hl.1 rfl (lv_room (Nat.le_of_ble_eq_true rfl)) dX9_takeCode_33 ⟨(by show _ ≤ 2; omega), (by show _ ≤ 5 + gco nC; omega)⟩) hS (fun q _ h => h) (fun q h => h) (fun  G32 t H locs ht hvm hw hB hz1 hk1 hS => ?_)
  have hG : mm D vwCl A G32 H := by rw [← ht]; exact hB
  clear hB hz1 hk1 hvm ht
  obtain ⟨y33, ey33⟩ : ∃ y, y = q_take K S 8 y26.2 := ⟨_, rfl⟩
  rw [← ey33] at hw
  have ly33 : y33.1 ≤ y26.2.1 + 1 := by rw [ey33]; exact q_take_le
  have eG32 := hw
  clear hw
  have k34 : G32 k = some (.inr (13, [.ref ks, .ref ss, .ref vs, .int (nI tn)])) := by rw [eG32]; exact mm_set_of k27 (mm_ne_oo k27 h25_1 (by decide))
  have k35 : G32 ks = some (.inl (cy 5, 2001, .inr (.inr (.inr (.inr f1))))) := by rw [eG32]; exact mm_set_of k28 (mm_ne_ao k28 h25_1)
  have k36 : G32 ss = some (.inl (cy 1, 2001, .inl f2)) := by rw [eG32]; exact mm_set_of k29 (mm_ne_ao k29 h25_1)
  have k37 : G32 vs = some (.inl (cy 2, 2001, .inr (.inl f3))) := by rw [eG32]; exact mm_set_of k30 (mm_ne_ao k30 h25_1)
  have k38 : G32 ed = some (.inr (3, [.ref lc, .ref ly, .ref lsv, .ref lco, .ref lva, .ref ljo, .ref na, .int nc, va_rf iu, .int wa, va_rf rs])) := by rw [eG32]; exact mm_set_of k31 (mm_ne_oo k31 h25_1 (by decide))
  have k39 : G32 o = some (.inr (10, [.ref k, .ref ow, .ref ed, .int (nI y33.1), .int y33.2])) := by rw [eG32]; exact mm_set_self
  have k40 : G32 q14 = some (.inr (4, [.int y26.1, .int (S y7.1), .long 0, .int 0, .null])) := by rw [eG32]; exact mm_set_of h25_2 (mm_ne_oo h25_2 h25_1 (by decide))
  refine lv_aload_n hx hb dX9_takeCode_36 rfl (lv_at hl 1 rfl) ?_
  refine lv_aload_n hx hb dX9_takeCode_37 rfl (lv_at hl 0 rfl) ?_
  refine va_callv (va_runV (As := [.ref q14]) (rest := []) ⟨hx, hb, hml, hown, (fun _ h9 => absurd h9 List.not_mem_nil : ∀ w ∈ ([] : List Cond), w.before _ s = true)⟩ (c_X9_takeNameOf l D cy A X hst hXT e0 tk hXE G32 o ow ed y33 k ks ss vs tn K S V f1 f2 f3 q14 y26.1 (S y7.1) 0 0 none k39 k34 k35 k36 k37 hTP (by first | omega | (simp only []; omega)) k40) (tb_cw (C := RX9) 1 hT tw_591 tw_106 tw_588 tw_590 tw_16 rfl rfl hq_X9_takeNameOf ⟨Nat.le_of_ble_eq_true rfl, Nat.le_of_ble_eq_true rfl⟩) (mk_preC hst hG hK hA hX hS vc_10 k39) rfl rfl hl.1 rfl (lv_room (Nat.le_of_ble_eq_true rfl)) dX9_takeCode_38 ⟨(by show _ ≤ 2; omega), (by show _ ≤ 5 + gco nC; omega)⟩) hS (fun q _ h => h) (fun q h => h) (fun  G41 t H locs ht hvm hw hB hz1 hk1 hS => ?_)
  have hG : mm D vwCl A G41 H := by rw [← ht]; exact hB
  clear hB hz1 hk1 hvm ht
  obtain ⟨h42_1, h42_2, h42_f⟩ := hw
  obtain ⟨y43, ey43⟩ : ∃ y, y = q_name K S V y33 := ⟨_, rfl⟩
  rw [← ey43] at h42_1 h42_2
  have ly43 : y43.2.1 ≤ y33.1 + 1 := by rw [ey43]; exact q_name_le
  have k44 : G41 k = some (.inr (13, [.ref ks, .ref ss, .ref vs, .int (nI tn)])) := h42_f _ _ k34 (mm_ne_oo k34 k39 (by decide)) (mm_ne_oo k34 k40 (by decide))
  have k45 : G41 ks = some (.inl (cy 5, 2001, .inr (.inr (.inr (.inr f1))))) := h42_f _ _ k35 (mm_ne_ao k35 k39) (mm_ne_ao k35 k40)
  have k46 : G41 ss = some (.inl (cy 1, 2001, .inl f2)) := h42_f _ _ k36 (mm_ne_ao k36 k39) (mm_ne_ao k36 k40)
  have k47 : G41 vs = some (.inl (cy 2, 2001, .inr (.inl f3))) := h42_f _ _ k37 (mm_ne_ao k37 k39) (mm_ne_ao k37 k40)
  have k48 : G41 ed = some (.inr (3, [.ref lc, .ref ly, .ref lsv, .ref lco, .ref lva, .ref ljo, .ref na, .int nc, va_rf iu, .int wa, va_rf rs])) := h42_f _ _ k38 (mm_ne_oo k38 k39 (by decide)) (mm_ne_oo k38 k40 (by decide))
  refine lv_aload_n hx hb dX9_takeCode_41 rfl (lv_at hl 1 rfl) ?_
  refine va_gets (v := .ref (tk 6)) hx hb (show va_Z "DescribeText$Token" "SEMICOLON" "LDescribeText$Token;" (.ref (tk 6)) A s s.heap from (hE.2.1 6 (by decide)).1) hS hown (tb_use hT tw_592) (fun _ h9 => h9) dX9_takeCode_42 ?_
  refine va_callv (va_runV (As := [.ref (tk 6)]) (rest := []) ⟨hx, hb, hml, hown, (fun _ h9 => absurd h9 List.not_mem_nil : ∀ w ∈ ([] : List Cond), w.before _ s = true)⟩ (c_X9_take l D cy A X hst hXT e0 tk hXE G41 o ow ed y43.2 k ks ss vs tn K S V f1 f2 f3 6 h42_1 k44 k45 k46 k47 hTP (by first | omega | (simp only []; omega)) (by decide)) (tb_cw (C := RX9) 1 hT tw_539 tw_106 tw_536 tw_538 tw_12 rfl rfl hq_X9_take ⟨Nat.le_of_ble_eq_true rfl, Nat.le_of_ble_eq_true rfl⟩) (mk_preC hst hG hK hA hX hS vc_10 h42_1) rfl rfl hl.1 rfl (lv_room (Nat.le_of_ble_eq_true rfl)) dX9_takeCode_45 ⟨(by show _ ≤ 2; omega), (by show _ ≤ 5 + gco nC; omega)⟩) hS (fun q _ h => h) (fun q h => h) (fun  G49 t H locs ht hvm hw hB hz1 hk1 hS => ?_)
  have hG : mm D vwCl A G49 H := by rw [← ht]; exact hB
  clear hB hz1 hk1 hvm ht
  obtain ⟨y50, ey50⟩ : ∃ y, y = q_take K S 6 y43.2 := ⟨_, rfl⟩
  rw [← ey50] at hw
  have ly50 : y50.1 ≤ y43.2.1 + 1 := by rw [ey50]; exact q_take_le
  have eG49 := hw
  clear hw
  have k51 : G49 k = some (.inr (13, [.ref ks, .ref ss, .ref vs, .int (nI tn)])) := by rw [eG49]; exact mm_set_of k44 (mm_ne_oo k44 h42_1 (by decide))
  have k52 : G49 ks = some (.inl (cy 5, 2001, .inr (.inr (.inr (.inr f1))))) := by rw [eG49]; exact mm_set_of k45 (mm_ne_ao k45 h42_1)
  have k53 : G49 ss = some (.inl (cy 1, 2001, .inl f2)) := by rw [eG49]; exact mm_set_of k46 (mm_ne_ao k46 h42_1)
  have k54 : G49 vs = some (.inl (cy 2, 2001, .inr (.inl f3))) := by rw [eG49]; exact mm_set_of k47 (mm_ne_ao k47 h42_1)
  have k55 : G49 ed = some (.inr (3, [.ref lc, .ref ly, .ref lsv, .ref lco, .ref lva, .ref ljo, .ref na, .int nc, va_rf iu, .int wa, va_rf rs])) := by rw [eG49]; exact mm_set_of k48 (mm_ne_oo k48 h42_1 (by decide))
  have k56 : G49 o = some (.inr (10, [.ref k, .ref ow, .ref ed, .int (nI y50.1), .int y50.2])) := by rw [eG49]; exact mm_set_self
  have k57 : G49 q14 = some (.inr (4, [.int y26.1, .int (S y7.1), .long y43.1, .int (S y33.1), .null])) := by rw [eG49]; exact mm_set_of h42_2 (mm_ne_oo h42_2 h42_1 (by decide))
  refine lv_aload_n hx hb dX9_takeCode_48 rfl (lv_at hl 1 rfl) ?_
  refine mm_get (v := .ref ed) hx hb hf_X9 (fun _ h9 => h9) hown hK hG k56 rfl 2 (by decide) (tb_use hT tw_179) (fun _ h9 => h9) rfl dX9_takeCode_49 ?_
  refine mm_getN (v := .ref lco) hx hb hf_X2 (fun _ h9 => h9) hown hK hG k55 rfl 3 (by decide) (tb_use hT tw_287) (fun _ h9 => h9) rfl dX9_takeCode_52 ?_
  refine lv_aload_n hx hb dX9_takeCode_55 rfl (lv_at hl 0 rfl) ?_
  have hB58 : ∀ (x : Nat) (e : va_E), G x = some e → x ≠ o → G49 x = some e := by
    intro x e z0 n_o
    have z1 : G6 x = some e := by rw [eG6]; exact mm_set_of z0 n_o
    have n_q14 : x ≠ q14 := fun z => by rw [z, hn_q14] at z1; cases z1
    have z2 : G15 x = some e := by rw [eG15]; exact mm_set_of z1 n_q14
    have z3 : G24 x = some e := h25_f x e z2 n_o n_q14
    have z4 : G32 x = some e := by rw [eG32]; exact mm_set_of z3 n_o
    have z5 : G41 x = some e := h42_f x e z4 n_o n_q14
    have z6 : G49 x = some e := by rw [eG49]; exact mm_set_of z5 n_o
    exact z6
  have hL59 : LiS cy e0 G49 lco ec nC fC := LiS.fr2 (fun x => x ≠ o) hlc (fun x e h0 hp => hB58 x e h0 hp) (hlc.ne h0 (by decide)) (fun v _ hv => mm_ne_ao hv h0)
  have hLO2 : LO G49 nC fC := fun j hj => by obtain ⟨fs, z⟩ := hLT j hj; exact ⟨4, fs, _, hB58 _ _ z (mm_ne_oo z h0 (by decide)), rfl, tw_1914, by decide⟩
  obtain ⟨mo62, h_mo62, -⟩ := id hL59
  refine va_calli (va_runV (As := [.ref q14]) (rest := []) ⟨hx, hb, hml, hown, (fun _ h9 => absurd h9 List.not_mem_nil : ∀ w ∈ ([] : List Cond), w.before _ s = true)⟩ (c_LS_add l D cy A X hst hXT e0 tk hXE mi hXL G49 lco ec nC fC q14 4 _ _ hL59 hLO2 (by omega) k57 rfl (by decide) tw_1914) (tb_cw (C := RJx4a65c) 1 hT tw_597 tw_113 tw_594 tw_595 tw_596 rfl rfl hq_Jx4a65c_add_9ea2d ⟨Nat.le_of_ble_eq_true rfl, Nat.le_of_ble_eq_true rfl⟩) (mk_preC hst hG hK hA hX hS vc_1 h_mo62) rfl rfl hl.1 rfl (lv_room (Nat.le_of_ble_eq_true rfl)) dX9_takeCode_56 ⟨(by show _ ≤ 2; omega), (by show _ ≤ 5 + gco nC; omega)⟩) hS (fun q _ h => h) (fun q h => h) (fun r61 G60 t H locs ht hvm hw hB hz1 hk1 hS => ?_)
  have hG : mm D vwCl A G60 H := by rw [← ht]; exact hB
  clear hB hz1 hk1 hvm ht
  obtain ⟨ec2, hlc2, hec2, hf2⟩ := hw
  have hf3 : ∀ (x ci : Nat) (fs : List Value), G49 x = some (.inr (ci, fs)) → ci ≠ 1 → G60 x = some (.inr (ci, fs)) := fun x ci fs h0 hc => hf2 x _ h0 (Ne.symm (hL59.ne h0 hc)) (fun h1 => LiS.nea hL59 h1 h0)
  have k_o : G60 o = some (.inr (10, [.ref k, .ref ow, .ref ed, .int (nI y50.1), .int y50.2])) := hf3 _ _ _ k56 (by decide)
  have k_el : G60 q14 = some (.inr (4, [.int y26.1, .int (S y7.1), .long y43.1, .int (S y33.1), .null])) := hf3 _ _ _ k57 (by decide)
  have hec3 : (1 ≤ nC ∧ ec2 = ec) ∨ G ec2 = none := by
    rcases hec2 with h1 | h1
    · exact Or.inl h1
    · refine Or.inr (none_back hB58 h1 ?_)
      intro z; rw [z, k56] at h1; cases h1
  have hfr9 : ∀ (x : Nat) (e : va_E), G x = some e → x ≠ o → x ≠ lco → (1 ≤ nC → x ≠ ec) → G60 x = some e := fun x e h0 n1 n2 n3 => hf2 x e (hB58 x e h0 n1) n2 n3
  refine lv_pop hx hb dX9_takeCode_59 rfl ?_
  have hq : q_code K S V nC q = (y50, (y26.1, (S y7.1), y43.1, (S y33.1))) := by
    simp only [q_code]
    simp only [← ey7, ← ey26, ← ey33, ← ey43, ← ey50]
  have fn63 : G q14 = none := by
    have z := hn_q14
    rw [eG6] at z; replace z := mm_none z
    exact z
  refine W.widen (k := 2) (n := (5 + gco nC)) (by omega) (by omega) ?_
  exact W.vret hx hb hr (fun t ht hW => ⟨⟨_, rfl, (by rw [hq]; exact ⟨q14, ec2, fn63, k_o, hlc2, hec3, k_el, hfr9⟩), mk_end hG ht⟩, hS.F ht⟩) hS.2.2 dX9_takeCode_60

set_option maxHeartbeats 4000000 in
set_option maxRecDepth 100000 in
theorem c_X9_takeVariant (l : Launch) (D : va_G) (cy : Nat → ClassId) (A : Nat → Prop) (X : State → Prop) (hst : mk_St A X) (hXT : ∀ U : State, X U → TB U) (e0 : Nat) (tk : Nat → Nat) (hXE : ∀ U : State, X U → ES e0 tk A U) (mi : Nat) (hXL : ∀ U : State, X U → EL e0 mi A U) (G : Nat → Option va_E) (o ow ed : Nat) (q : Nat × Int32) (k ks ss vs tn : Nat) (K : Nat → Nat) (S : Nat → Int32) (V : Nat → Int64) (f1 : Nat → Option Nat) (f2 : Nat → Int32) (f3 : Nat → Int64) (lc ly lsv lco lva ljo na : Nat) (nc wa : Int32) (iu rs : Option Nat) (ec nC : Nat) (fC : Nat → Nat) (h0 : G o = some (.inr (10, [.ref k, .ref ow, .ref ed, .int (nI q.1), .int q.2]))) (q1 : G k = some (.inr (13, [.ref ks, .ref ss, .ref vs, .int (nI tn)]))) (q2 : G ks = some (.inl (cy 5, 2001, .inr (.inr (.inr (.inr f1)))))) (q3 : G ss = some (.inl (cy 1, 2001, .inl f2))) (q4 : G vs = some (.inl (cy 2, 2001, .inr (.inl f3)))) (hTP : TKP tk tn K S V f1 f2 f3) (hp : q.1 < 2 ^ 27) (hed : G ed = some (.inr (3, [.ref lc, .ref ly, .ref lsv, .ref lco, .ref lva, .ref ljo, .ref na, .int nc, va_rf iu, .int wa, va_rf rs]))) (hlc : LiS cy e0 G lva ec nC fC) (hLT : LT G 4 nC fC) (hnC : nC < 100) : Met l yX9_takeVariant [.code yX9_takeVariant cX9_takeVariant 2 none] ({ frames := 8, cells := 2, slots := (5 + gco nC), locals := 240 }) (mk_Pre D vwCl (tyL cy) A X G [.ref o]) (va_Qv (fun (G2 : Nat → Option va_E) => ∃ (en ec2 : Nat), G en = none ∧ G2 o = some (.inr (10, [.ref k, .ref ow, .ref ed, .int (nI ((q_vari K S V nC q).1).1), .int (((q_vari K S V nC q).1).2)])) ∧ LiS cy e0 G2 lva ec2 (nC + 1) (fup fC nC en) ∧ ((1 ≤ nC ∧ ec2 = ec) ∨ G ec2 = none) ∧ G2 en = some (.inr (4, [.int ((q_vari K S V nC q).2.1), .int ((q_vari K S V nC q).2.2.1), .long ((q_vari K S V nC q).2.2.2.1), .int ((q_vari K S V nC q).2.2.2.2), .null])) ∧ ∀ (x : Nat) (e : va_E), G x = some e → x ≠ o → x ≠ lva → (1 ≤ nC → x ≠ ec) → G2 x = some e) (mk_B D vwCl A) A) 2 (5 + gco nC) A := by
  refine Met.ofW (cc := cX9_takeVariant) (maxL := 2) (ret := none) (by decide) rfl ?_
  intro p e s m args below meth c s₁ B hml hv
  obtain ⟨rfl, hG, hK, hA, hX⟩ := hv
  have hx := B.exec
  have hb := B.bytes
  have hr := B.returns
  have hlocks := B.notSynchronized
  have hT := hXT s hX
  have hown : s.vm.findClass RX9 = some m.cls := findClass_of_methodNamed B.named
  have hf_X9 : ∀ w ∈ u_ws RX9 TX9 5, w.before ([.ref o] : List Value).toArray s = true := tb_list hT fX9
  have hf_X2 : ∀ w ∈ u_ws RX2 TX2 11, w.before ([.ref o] : List Value).toArray s = true := tb_list hT fX2
  have hf_X3 : ∀ w ∈ u_ws RX3 TX3 5, w.before ([.ref o] : List Value).toArray s = true := tb_list hT fX3
  have hS : va_S A s.heap s.heap [] := va_S.rf
  have hE := hXE s hX
  have hl := lv_entry ([.ref o]) (n := 2) (Nat.le_of_ble_eq_true rfl)
  rw [lg_entry_eq]
  generalize (lg_sl ([.ref o]) ++ List.replicate (2 - (lg_sl ([.ref o])).length) Slot.unset).toArray = ls at hl ⊢
  have hl : lv_has ls 2 [(0, .ref o)] := hl
  refine lv_aload_n hx hb dX9_takeVariant_0 rfl (lv_at hl 0 rfl) ?_
  refine lv_aload_n hx hb dX9_takeVariant_1 rfl (lv_at hl 0 rfl) ?_
  refine mm_get (v := .ref ed) hx hb hf_X9 (fun _ h9 => h9) hown hK hG h0 rfl 2 (by decide) (tb_use hT tw_179) (fun _ h9 => h9) rfl dX9_takeVariant_2 ?_
  refine mm_getN (v := .ref lva) hx hb hf_X2 (fun _ h9 => h9) hown hK hG hed rfl 4 (by decide) (tb_use hT tw_290) (fun _ h9 => h9) rfl dX9_takeVariant_5 ?_
  have hB1 : ∀ (x : Nat) (e : va_E), G x = some e → x ≠ o → G x = some e := by
    intro x e z0 n_o
    exact z0
  have hL2 : LiS cy e0 G lva ec nC fC := LiS.fr2 (fun x => x ≠ o) hlc (fun x e h0 hp => hB1 x e h0 hp) (hlc.ne h0 (by decide)) (fun v _ hv => mm_ne_ao hv h0)
  obtain ⟨mo3, h_mo3, -⟩ := id hL2
  refine va_calli (va_runV (As := []) (rest := [.ref o]) ⟨hx, hb, hml, hown, (fun _ h9 => absurd h9 List.not_mem_nil : ∀ w ∈ ([] : List Cond), w.before _ s = true)⟩ (c_LS_size l D cy A X hst hXT e0 tk hXE mi hXL G lva ec nC fC hL2) (tb_cw (C := RJx4a65c) 0 hT tw_457 tw_113 tw_454 tw_455 tw_456 rfl rfl hq_Jx4a65c_size_8abf5 ⟨Nat.le_of_ble_eq_true rfl, Nat.le_of_ble_eq_true rfl⟩) (mk_preC hst hG hK hA hX hS vc_1 h_mo3) rfl rfl hl.1 rfl (lv_room (Nat.le_of_ble_eq_true rfl)) dX9_takeVariant_8 ⟨(by show _ ≤ 2; omega), (by show _ ≤ 5 + gco nC; omega)⟩) hS (fun q _ h => h) (fun q h => h) (fun r4 G5 t H locs ht hvm hw hB hz1 hk1 hS => ?_)
  have hG : mm D vwCl A G5 H := by rw [← ht]; exact hB
  clear hB hz1 hk1 hvm ht
  obtain ⟨rfl, hw⟩ := hw
  rw [hw] at hG
  refine lv_bipush (v := 6) hx hb dX9_takeVariant_11 (by decide) ?_
  refine va_callv (va_runV (As := [.int (nI nC), .int 6]) (rest := []) ⟨hx, hb, hml, hown, (fun _ h9 => absurd h9 List.not_mem_nil : ∀ w ∈ ([] : List Cond), w.before _ s = true)⟩ (c_X9_begin l D cy A X hst hXT e0 tk hXE G o ow ed q k ks ss vs tn K S V f1 f2 f3 (nI nC) 6 h0 q1 q2 q3 q4 hTP (by first | omega | (simp only []; omega)) ) (tb_cw (C := RX9) 2 hT tw_461 tw_106 tw_458 tw_460 tw_8 rfl rfl hq_X9_begin ⟨Nat.le_of_ble_eq_true rfl, Nat.le_of_ble_eq_true rfl⟩) (mk_preC hst hG hK hA hX hS vc_10 h0) rfl rfl hl.1 rfl (lv_room (Nat.le_of_ble_eq_true rfl)) dX9_takeVariant_13 ⟨(by show _ ≤ 2; omega), (by show _ ≤ 5 + gco nC; omega)⟩) hS (fun q _ h => h) (fun q h => h) (fun  G6 t H locs ht hvm hw hB hz1 hk1 hS => ?_)
  have hG : mm D vwCl A G6 H := by rw [← ht]; exact hB
  clear hB hz1 hk1 hvm ht
  obtain ⟨y7, ey7⟩ : ∃ y, y = q_begin S (nI nC) 6 q := ⟨_, rfl⟩
  rw [← ey7] at hw
  have ly7 : y7.1 ≤ q.1 + 1 := by rw [ey7]; exact q_begin_le
  have eG6 := hw
  clear hw
  have k8 : G6 o = some (.inr (10, [.ref k, .ref ow, .ref ed, .int (nI y7.1), .int y7.2])) := by rw [eG6]; exact mm_set_self
  have k9 : G6 k = some (.inr (13, [.ref ks, .ref ss, .ref vs, .int (nI tn)])) := by rw [eG6]; exact mm_set_of q1 (mm_ne_oo q1 h0 (by decide))
  have k10 : G6 ks = some (.inl (cy 5, 2001, .inr (.inr (.inr (.inr f1))))) := by rw [eG6]; exact mm_set_of q2 (mm_ne_ao q2 h0)
  have k11 : G6 ss = some (.inl (cy 1, 2001, .inl f2)) := by rw [eG6]; exact mm_set_of q3 (mm_ne_ao q3 h0)
  have k12 : G6 vs = some (.inl (cy 2, 2001, .inr (.inl f3))) := by rw [eG6]; exact mm_set_of q4 (mm_ne_ao q4 h0)
  have k13 : G6 ed = some (.inr (3, [.ref lc, .ref ly, .ref lsv, .ref lco, .ref lva, .ref ljo, .ref na, .int nc, va_rf iu, .int wa, va_rf rs])) := by rw [eG6]; exact mm_set_of hed (mm_ne_oo hed h0 (by decide))
  refine mm_new (ci := 4) (fs := [.int 0, .int 0, .long 0, .int 0, .null]) hx hb hf_X3 (fun _ h9 => h9) tyX3 tyX3_ok hown (tb_use hT tw_553) (tb_use hT tw_554) (tb_use hT tw_123) hK hG hS hA rfl (fun j hj => by rcases (show j = 0 ∨ j = 1 ∨ j = 2 ∨ j = 3 ∨ j = 4 by omega) with rfl | rfl | rfl | rfl | rfl <;> rfl) (by show _ ≤ 2; omega) (by show _ ≤ 5 + gco nC; omega) dX9_takeVariant_16 (fun q14 H hn_q14 hG hS => ?_)
  obtain ⟨G15, eG15⟩ : ∃ g, g = mm_set G6 q14 (.inr (4, [.int 0, .int 0, .long 0, .int 0, .null])) := ⟨_, rfl⟩
  have hG : mm D vwCl A G15 H := by rw [eG15]; exact hG
  have k16 : G15 o = some (.inr (10, [.ref k, .ref ow, .ref ed, .int (nI y7.1), .int y7.2])) := by rw [eG15]; exact mm_set_new k8 hn_q14
  have k17 : G15 k = some (.inr (13, [.ref ks, .ref ss, .ref vs, .int (nI tn)])) := by rw [eG15]; exact mm_set_new k9 hn_q14
  have k18 : G15 ks = some (.inl (cy 5, 2001, .inr (.inr (.inr (.inr f1))))) := by rw [eG15]; exact mm_set_new k10 hn_q14
  have k19 : G15 ss = some (.inl (cy 1, 2001, .inl f2)) := by rw [eG15]; exact mm_set_new k11 hn_q14
  have k20 : G15 vs = some (.inl (cy 2, 2001, .inr (.inl f3))) := by rw [eG15]; exact mm_set_new k12 hn_q14
  have k21 : G15 ed = some (.inr (3, [.ref lc, .ref ly, .ref lsv, .ref lco, .ref lva, .ref ljo, .ref na, .int nc, va_rf iu, .int wa, va_rf rs])) := by rw [eG15]; exact mm_set_new k13 hn_q14
  have k22 : G15 q14 = some (.inr (4, [.int 0, .int 0, .long 0, .int 0, .null])) := by rw [eG15]; exact mm_set_self
  refine lv_dup hx hb dX9_takeVariant_19 rfl ?_
  refine va_callv (va_runIN (As := []) (rest := [.ref q14]) ⟨hx, hb, hml, hown, (fun _ h9 => absurd h9 List.not_mem_nil : ∀ w ∈ ([] : List Cond), w.before _ s = true)⟩ (c_X3_init l D cy A X hst hXT e0 tk hXE G15 q14 k22) ⟨tb_cn (host := "DescribeText") 0 hT tw_557 tw_123 tw_555 rfl rfl hq_X3_init ⟨Nat.le_of_ble_eq_true rfl, Nat.le_of_ble_eq_true rfl⟩, rfl, (tb_use hT tw_556)⟩ (mk_preS hst hG hK hA hX hS) rfl rfl hl.1 rfl (lv_room (Nat.le_of_ble_eq_true rfl)) dX9_takeVariant_20 ⟨(by show _ ≤ 2; omega), (by show _ ≤ 5 + gco nC; omega)⟩) hS (fun q _ h => h) (fun q h => h) (fun  G23 t H locs ht hvm hw hB hz1 hk1 hS => ?_)
  have hG : mm D vwCl A G23 H := by rw [← ht]; exact hB
  clear hB hz1 hk1 hvm ht
  rw [hw] at hG
  refine lv_astore_n (lv' := [(1, .ref q14), (0, .ref o)]) hx hb dX9_takeVariant_23 rfl hl (by decide) rfl (fun ls hl => ?_)
  refine lv_aload_n hx hb dX9_takeVariant_24 rfl (lv_at hl 1 rfl) ?_
  refine lv_aload_n hx hb dX9_takeVariant_25 rfl (lv_at hl 0 rfl) ?_
  refine va_callv (va_runV (As := [.ref q14]) (rest := []) ⟨hx, hb, hml, hown, (fun _ h9 => absurd h9 List.not_mem_nil : ∀ w ∈ ([] : List Cond), w.before _ s = true)⟩ (c_X9_takeNameOf l D cy A X hst hXT e0 tk hXE G15 o ow ed y7 k ks ss vs tn K S V f1 f2 f3 q14 0 0 0 0 none k16 k17 k18 k19 k20 hTP (by first | omega | (simp only []; omega)) k22) (tb_cw (C := RX9) 1 hT tw_591 tw_106 tw_588 tw_590 tw_16 rfl rfl hq_X9_takeNameOf ⟨Nat.le_of_ble_eq_true rfl, Nat.le_of_ble_eq_true rfl⟩) (mk_preC hst hG hK hA hX hS vc_10 k16) rfl rfl hl.1 rfl (lv_room (Nat.le_of_ble_eq_true rfl)) dX9_takeVariant_26 ⟨(by show _ ≤ 2; omega), (by show _ ≤ 5 + gco nC; omega)⟩) hS (fun q _ h => h) (fun q h => h) (fun  G24 t H locs ht hvm hw hB hz1 hk1 hS => ?_)
  have hG : mm D vwCl A G24 H := by rw [← ht]; exact hB
  clear hB hz1 hk1 hvm ht
  obtain ⟨h25_1, h25_2, h25_f⟩ := hw
  obtain ⟨y26, ey26⟩ : ∃ y, y = q_name K S V y7 := ⟨_, rfl⟩
  rw [← ey26] at h25_1 h25_2
  have ly26 : y26.2.1 ≤ y7.1 + 1 := by rw [ey26]; exact q_name_le
  have k27 : G24 k = some (.inr (13, [.ref ks, .ref ss, .ref vs, .int (nI tn)])) := h25_f _ _ k17 (mm_ne_oo k17 k16 (by decide)) (mm_ne_oo k17 k22 (by decide))
  have k28 : G24 ks = some (.inl (cy 5, 2001, .inr (.inr (.inr (.inr f1))))) := h25_f _ _ k18 (mm_ne_ao k18 k16) (mm_ne_ao k18 k22)
  have k29 : G24 ss = some (.inl (cy 1, 2001, .inl f2)) := h25_f _ _ k19 (mm_ne_ao k19 k16) (mm_ne_ao k19 k22)
  have k30 : G24 vs = some (.inl (cy 2, 2001, .inr (.inl f3))) := h25_f _ _ k20 (mm_ne_ao k20 k16) (mm_ne_ao k20 k22)
  have k31 : G24 ed = some (.inr (3, [.ref lc, .ref ly, .ref lsv, .ref lco, .ref lva, .ref ljo, .ref na, .int nc, va_rf iu, .int wa, va_rf rs])) := h25_f _ _ k21 (mm_ne_oo k21 k16 (by decide)) (mm_ne_oo k21 k22 (by decide))
  refine lv_aload_n hx hb dX9_takeVariant_29 rfl (lv_at hl 1 rfl) ?_
  refine va_gets (v := .ref (tk 8)) hx hb (show va_Z "DescribeText$Token" "EQUAL" "LDescribeText$Token;" (.ref (tk 8)) A s s.heap from (hE.2.1 8 (by decide)).1) hS hown (tb_use hT tw_534) (fun _ h9 => h9) dX9_takeVariant_30 ?_
  refine va_callv (va_runV (As := [.ref (tk 8)]) (rest := []) ⟨hx, hb, hml, hown, (fun _ h9 => absurd h9 List.not_mem_nil : ∀ w ∈ ([] : List Cond), w.before _ s = true)⟩ (c_X9_take l D cy A X hst hXT e0 tk hXE G24 o ow ed y26.2 k ks ss vs tn K S V f1 f2 f3 8 h25_1 k27 k28 k29 k30 hTP (by first | omega | (simp only []; omega)) (by decide)) (tb_cw (C := RX9) 1 hT tw_539 tw_106 tw_536 tw_538 tw_12 rfl rfl hq_X9_take ⟨Nat.le_of_ble_eq_true rfl, Nat.le_of_ble_eq_true rfl⟩) (mk_preC hst hG hK hA hX hS vc_10 h25_1) rfl rfl hl.1 rfl (lv_room (Nat.le_of_ble_eq_true rfl)) dX9_takeVariant_33 ⟨(by show _ ≤ 2; omega), (by show _ ≤ 5 + gco nC; omega)⟩) hS (fun q _ h => h) (fun q h => h) (fun  G32 t H locs ht hvm hw hB hz1 hk1 hS => ?_)
  have hG : mm D vwCl A G32 H := by rw [← ht]; exact hB
  clear hB hz1 hk1 hvm ht
  obtain ⟨y33, ey33⟩ : ∃ y, y = q_take K S 8 y26.2 := ⟨_, rfl⟩
  rw [← ey33] at hw
  have ly33 : y33.1 ≤ y26.2.1 + 1 := by rw [ey33]; exact q_take_le
  have eG32 := hw
  clear hw
  have k34 : G32 k = some (.inr (13, [.ref ks, .ref ss, .ref vs, .int (nI tn)])) := by rw [eG32]; exact mm_set_of k27 (mm_ne_oo k27 h25_1 (by decide))
  have k35 : G32 ks = some (.inl (cy 5, 2001, .inr (.inr (.inr (.inr f1))))) := by rw [eG32]; exact mm_set_of k28 (mm_ne_ao k28 h25_1)
  have k36 : G32 ss = some (.inl (cy 1, 2001, .inl f2)) := by rw [eG32]; exact mm_set_of k29 (mm_ne_ao k29 h25_1)
  have k37 : G32 vs = some (.inl (cy 2, 2001, .inr (.inl f3))) := by rw [eG32]; exact mm_set_of k30 (mm_ne_ao k30 h25_1)
  have k38 : G32 ed = some (.inr (3, [.ref lc, .ref ly, .ref lsv, .ref lco, .ref lva, .ref ljo, .ref na, .int nc, va_rf iu, .int wa, va_rf rs])) := by rw [eG32]; exact mm_set_of k31 (mm_ne_oo k31 h25_1 (by decide))
  have k39 : G32 o = some (.inr (10, [.ref k, .ref ow, .ref ed, .int (nI y33.1), .int y33.2])) := by rw [eG32]; exact mm_set_self
  have k40 : G32 q14 = some (.inr (4, [.int 0, .int 0, .long y26.1, .int (S y7.1), .null])) := by rw [eG32]; exact mm_set_of h25_2 (mm_ne_oo h25_2 h25_1 (by decide))
  refine lv_aload_n hx hb dX9_takeVariant_36 rfl (lv_at hl 1 rfl) ?_
  refine lv_aload_n hx hb dX9_takeVariant_37 rfl (lv_at hl 0 rfl) ?_
  refine va_callv (va_runV (As := [.ref q14]) (rest := []) ⟨hx, hb, hml, hown, (fun _ h9 => absurd h9 List.not_mem_nil : ∀ w ∈ ([] : List Cond), w.before _ s = true)⟩ (c_X9_takeNumberOf l D cy A X hst hXT e0 tk hXE G32 o ow ed y33 k ks ss vs tn K S V f1 f2 f3 q14 0 0 y26.1 (S y7.1) none k39 k34 k35 k36 k37 hTP (by first | omega | (simp only []; omega)) k40) (tb_cw (C := RX9) 1 hT tw_586 tw_106 tw_583 tw_585 tw_15 rfl rfl hq_X9_takeNumberOf ⟨Nat.le_of_ble_eq_true rfl, Nat.le_of_ble_eq_true rfl⟩) (mk_preC hst hG hK hA hX hS vc_10 k39) rfl rfl hl.1 rfl (lv_room (Nat.le_of_ble_eq_true rfl)) dX9_takeVariant_38 ⟨(by show _ ≤ 2; omega), (by show _ ≤ 5 + gco nC; omega)⟩) hS (fun q _ h => h) (fun q h => h) (fun  G41 t H locs ht hvm hw hB hz1 hk1 hS => ?_)
  have hG : mm D vwCl A G41 H := by rw [← ht]; exact hB
  clear hB hz1 hk1 hvm ht
  obtain ⟨h42_1, h42_2, h42_f⟩ := hw
  obtain ⟨y43, ey43⟩ : ∃ y, y = q_num K S V 0 999999 y33 := ⟨_, rfl⟩
  rw [← ey43] at h42_1 h42_2
  have ly43 : y43.2.1 ≤ y33.1 + 1 := by rw [ey43]; exact q_num_le
  have k44 : G41 k = some (.inr (13, [.ref ks, .ref ss, .ref vs, .int (nI tn)])) := h42_f _ _ k34 (mm_ne_oo k34 k39 (by decide)) (mm_ne_oo k34 k40 (by decide))
  have k45 : G41 ks = some (.inl (cy 5, 2001, .inr (.inr (.inr (.inr f1))))) := h42_f _ _ k35 (mm_ne_ao k35 k39) (mm_ne_ao k35 k40)
  have k46 : G41 ss = some (.inl (cy 1, 2001, .inl f2)) := h42_f _ _ k36 (mm_ne_ao k36 k39) (mm_ne_ao k36 k40)
  have k47 : G41 vs = some (.inl (cy 2, 2001, .inr (.inl f3))) := h42_f _ _ k37 (mm_ne_ao k37 k39) (mm_ne_ao k37 k40)
  have k48 : G41 ed = some (.inr (3, [.ref lc, .ref ly, .ref lsv, .ref lco, .ref lva, .ref ljo, .ref na, .int nc, va_rf iu, .int wa, va_rf rs])) := h42_f _ _ k38 (mm_ne_oo k38 k39 (by decide)) (mm_ne_oo k38 k40 (by decide))
  refine lv_aload_n hx hb dX9_takeVariant_41 rfl (lv_at hl 1 rfl) ?_
  refine va_gets (v := .ref (tk 6)) hx hb (show va_Z "DescribeText$Token" "SEMICOLON" "LDescribeText$Token;" (.ref (tk 6)) A s s.heap from (hE.2.1 6 (by decide)).1) hS hown (tb_use hT tw_592) (fun _ h9 => h9) dX9_takeVariant_42 ?_
  refine va_callv (va_runV (As := [.ref (tk 6)]) (rest := []) ⟨hx, hb, hml, hown, (fun _ h9 => absurd h9 List.not_mem_nil : ∀ w ∈ ([] : List Cond), w.before _ s = true)⟩ (c_X9_take l D cy A X hst hXT e0 tk hXE G41 o ow ed y43.2 k ks ss vs tn K S V f1 f2 f3 6 h42_1 k44 k45 k46 k47 hTP (by first | omega | (simp only []; omega)) (by decide)) (tb_cw (C := RX9) 1 hT tw_539 tw_106 tw_536 tw_538 tw_12 rfl rfl hq_X9_take ⟨Nat.le_of_ble_eq_true rfl, Nat.le_of_ble_eq_true rfl⟩) (mk_preC hst hG hK hA hX hS vc_10 h42_1) rfl rfl hl.1 rfl (lv_room (Nat.le_of_ble_eq_true rfl)) dX9_takeVariant_45 ⟨(by show _ ≤ 2; omega), (by show _ ≤ 5 + gco nC; omega)⟩) hS (fun q _ h => h) (fun q h => h) (fun  G49 t H locs ht hvm hw hB hz1 hk1 hS => ?_)
  have hG : mm D vwCl A G49 H := by rw [← ht]; exact hB
  clear hB hz1 hk1 hvm ht
  obtain ⟨y50, ey50⟩ : ∃ y, y = q_take K S 6 y43.2 := ⟨_, rfl⟩
  rw [← ey50] at hw
  have ly50 : y50.1 ≤ y43.2.1 + 1 := by rw [ey50]; exact q_take_le
  have eG49 := hw
  clear hw
  have k51 : G49 k = some (.inr (13, [.ref ks, .ref ss, .ref vs, .int (nI tn)])) := by rw [eG49]; exact mm_set_of k44 (mm_ne_oo k44 h42_1 (by decide))
  have k52 : G49 ks = some (.inl (cy 5, 2001, .inr (.inr (.inr (.inr f1))))) := by rw [eG49]; exact mm_set_of k45 (mm_ne_ao k45 h42_1)
  have k53 : G49 ss = some (.inl (cy 1, 2001, .inl f2)) := by rw [eG49]; exact mm_set_of k46 (mm_ne_ao k46 h42_1)
  have k54 : G49 vs = some (.inl (cy 2, 2001, .inr (.inl f3))) := by rw [eG49]; exact mm_set_of k47 (mm_ne_ao k47 h42_1)
  have k55 : G49 ed = some (.inr (3, [.ref lc, .ref ly, .ref lsv, .ref lco, .ref lva, .ref ljo, .ref na, .int nc, va_rf iu, .int wa, va_rf rs])) := by rw [eG49]; exact mm_set_of k48 (mm_ne_oo k48 h42_1 (by decide))
  have k56 : G49 o = some (.inr (10, [.ref k, .ref ow, .ref ed, .int (nI y50.1), .int y50.2])) := by rw [eG49]; exact mm_set_self
  have k57 : G49 q14 = some (.inr (4, [.int y43.1, .int (S y33.1), .long y26.1, .int (S y7.1), .null])) := by rw [eG49]; exact mm_set_of h42_2 (mm_ne_oo h42_2 h42_1 (by decide))
  refine lv_aload_n hx hb dX9_takeVariant_48 rfl (lv_at hl 1 rfl) ?_
  refine mm_get (v := .ref ed) hx hb hf_X9 (fun _ h9 => h9) hown hK hG k56 rfl 2 (by decide) (tb_use hT tw_179) (fun _ h9 => h9) rfl dX9_takeVariant_49 ?_
  refine mm_getN (v := .ref lva) hx hb hf_X2 (fun _ h9 => h9) hown hK hG k55 rfl 4 (by decide) (tb_use hT tw_290) (fun _ h9 => h9) rfl dX9_takeVariant_52 ?_
  refine lv_aload_n hx hb dX9_takeVariant_55 rfl (lv_at hl 0 rfl) ?_
  have hB58 : ∀ (x : Nat) (e : va_E), G x = some e → x ≠ o → G49 x = some e := by
    intro x e z0 n_o
    have z1 : G6 x = some e := by rw [eG6]; exact mm_set_of z0 n_o
    have n_q14 : x ≠ q14 := fun z => by rw [z, hn_q14] at z1; cases z1
    have z2 : G15 x = some e := by rw [eG15]; exact mm_set_of z1 n_q14
    have z3 : G24 x = some e := h25_f x e z2 n_o n_q14
    have z4 : G32 x = some e := by rw [eG32]; exact mm_set_of z3 n_o
    have z5 : G41 x = some e := h42_f x e z4 n_o n_q14
    have z6 : G49 x = some e := by rw [eG49]; exact mm_set_of z5 n_o
    exact z6
  have hL59 : LiS cy e0 G49 lva ec nC fC := LiS.fr2 (fun x => x ≠ o) hlc (fun x e h0 hp => hB58 x e h0 hp) (hlc.ne h0 (by decide)) (fun v _ hv => mm_ne_ao hv h0)
  have hLO2 : LO G49 nC fC := fun j hj => by obtain ⟨fs, z⟩ := hLT j hj; exact ⟨4, fs, _, hB58 _ _ z (mm_ne_oo z h0 (by decide)), rfl, tw_1914, by decide⟩
  obtain ⟨mo62, h_mo62, -⟩ := id hL59
  refine va_calli (va_runV (As := [.ref q14]) (rest := []) ⟨hx, hb, hml, hown, (fun _ h9 => absurd h9 List.not_mem_nil : ∀ w ∈ ([] : List Cond), w.before _ s = true)⟩ (c_LS_add l D cy A X hst hXT e0 tk hXE mi hXL G49 lva ec nC fC q14 4 _ _ hL59 hLO2 (by omega) k57 rfl (by decide) tw_1914) (tb_cw (C := RJx4a65c) 1 hT tw_597 tw_113 tw_594 tw_595 tw_596 rfl rfl hq_Jx4a65c_add_9ea2d ⟨Nat.le_of_ble_eq_true rfl, Nat.le_of_ble_eq_true rfl⟩) (mk_preC hst hG hK hA hX hS vc_1 h_mo62) rfl rfl hl.1 rfl (lv_room (Nat.le_of_ble_eq_true rfl)) dX9_takeVariant_56 ⟨(by show _ ≤ 2; omega), (by show _ ≤ 5 + gco nC; omega)⟩) hS (fun q _ h => h) (fun q h => h) (fun r61 G60 t H locs ht hvm hw hB hz1 hk1 hS => ?_)
  have hG : mm D vwCl A G60 H := by rw [← ht]; exact hB
  clear hB hz1 hk1 hvm ht
  obtain ⟨ec2, hlc2, hec2, hf2⟩ := hw
  have hf3 : ∀ (x ci : Nat) (fs : List Value), G49 x = some (.inr (ci, fs)) → ci ≠ 1 → G60 x = some (.inr (ci, fs)) := fun x ci fs h0 hc => hf2 x _ h0 (Ne.symm (hL59.ne h0 hc)) (fun h1 => LiS.nea hL59 h1 h0)
  have k_o : G60 o = some (.inr (10, [.ref k, .ref ow, .ref ed, .int (nI y50.1), .int y50.2])) := hf3 _ _ _ k56 (by decide)
  have k_el : G60 q14 = some (.inr (4, [.int y43.1, .int (S y33.1), .long y26.1, .int (S y7.1), .null])) := hf3 _ _ _ k57 (by decide)
  have hec3 : (1 ≤ nC ∧ ec2 = ec) ∨ G ec2 = none := by
    rcases hec2 with h1 | h1
    · exact Or.inl h1
    · refine Or.inr (none_back hB58 h1 ?_)
      intro z; rw [z, k56] at h1; cases h1
  have hfr9 : ∀ (x : Nat) (e : va_E), G x = some e → x ≠ o → x ≠ lva → (1 ≤ nC → x ≠ ec) → G60 x = some e := fun x e h0 n1 n2 n3 => hf2 x e (hB58 x e h0 n1) n2 n3
  refine lv_pop hx hb dX9_takeVariant_59 rfl ?_
  have hq : q_vari K S V nC q = (y50, (y43.1, (S y33.1), y26.1, (S y7.1))) := by
    simp only [q_vari]
    simp only [← ey7, ← ey26, ← ey33, ← ey43, ← ey50]
  have fn63 : G q14 = none := by
    have z := hn_q14
    rw [eG6] at z; replace z := mm_none z
    exact z
  refine W.widen (k := 2) (n := (5 + gco nC)) (by omega) (by omega) ?_
  exact W.vret hx hb hr (fun t ht hW => ⟨⟨_, rfl, (by rw [hq]; exact ⟨q14, ec2, fn63, k_o, hlc2, hec3, k_el, hfr9⟩), mk_end hG ht⟩, hS.F ht⟩) hS.2.2 dX9_takeVariant_60
