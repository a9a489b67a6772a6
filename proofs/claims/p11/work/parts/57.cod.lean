/-- the elements are objects of the class with this number -/
def LT (G : Nat → Option va_E) (ci n : Nat) (f : Nat → Nat) : Prop := ∀ j, j < n → ∃ fs : List Value, G (f j) = some (.inr (ci, fs))
/-- a coding: (place, fault); where, name, octets; its form; its rows -/
def q_cod (K : Nat → Nat) (S : Nat → Int32) (V : Nat → Int64) (nC : Nat) (q : Nat × Int32) : (Nat × Int32) × (Int32 × Int64 × Int32) × (Int32 × Int32 × Int64 × Int64 × Int64) × (Nat × (Nat → RwD)) :=
  let q1 := q_begin S (nI nC) 12 q
  let a := q_name K S V q1
  let w := q_num K S V 1 4 (q_take K S 8 a.2)
  let q3 := q_take K S 12 w.2
  if se K q3.1 q3.2 4 then
    (q_take K S 5 (q_rows K S V 9 0 (q3.1 + 1, q3.2) (fun _ => (0, 0, 0, 0))).2.2, (S q1.1, a.1, w.1), (0, 0, 1, 1, 0), ((q_rows K S V 9 0 (q3.1 + 1, q3.2) (fun _ => (0, 0, 0, 0))).1, (q_rows K S V 9 0 (q3.1 + 1, q3.2) (fun _ => (0, 0, 0, 0))).2.1))
  else ((q_form K S V q3).1, (S q1.1, a.1, w.1), (q_form K S V q3).2, (0, fun _ => (0, 0, 0, 0)))
theorem none_back {G G2 : Nat → Option va_E} {o q : Nat} (hf : ∀ (x : Nat) (e : va_E), G x = some e → x ≠ o → G2 x = some e) (h : G2 q = none) (hq : q ≠ o) : G q = none := by
  cases hz : G q with
  | none => rfl
  | some e =>
    rw [hf q e hz hq] at h
    cases h
theorem LiS.arr {cy : Nat → ClassId} {e0 : Nat} {G : Nat → Option va_E} {al ea n : Nat} {f : Nat → Nat} (h : LiS cy e0 G al ea n f) (hn : 1 ≤ n) : ∃ v, G ea = some (.inl v) := by
  obtain ⟨mo, q, h | ⟨z1, z2, gv, q2, q3⟩⟩ := h
  · omega
  · exact ⟨_, q2⟩
set_option maxHeartbeats 4000000 in
set_option maxRecDepth 100000 in
theorem c_X9_takeCoding (l : Launch) (D : va_G) (cy : Nat → ClassId) (A : Nat → Prop) (X : State → Prop) (hst : mk_St A X) (hXT : ∀ U : State, X U → TB U) (e0 : Nat) (tk : Nat → Nat) (hXE : ∀ U : State, X U → ES e0 tk A U) (mi : Nat) (hXL : ∀ U : State, X U → EL e0 mi A U) (G : Nat → Option va_E) (o ow ed : Nat) (q : Nat × Int32) (k ks ss vs tn : Nat) (K : Nat → Nat) (S : Nat → Int32) (V : Nat → Int64) (f1 : Nat → Option Nat) (f2 : Nat → Int32) (f3 : Nat → Int64) (lc ly lsv lco lva ljo na : Nat) (nc wa : Int32) (iu rs : Option Nat) (ec nC : Nat) (fC : Nat → Nat) (h0 : G o = some (.inr (10, [.ref k, .ref ow, .ref ed, .int (nI q.1), .int q.2]))) (q1 : G k = some (.inr (13, [.ref ks, .ref ss, .ref vs, .int (nI tn)]))) (q2 : G ks = some (.inl (cy 5, 2001, .inr (.inr (.inr (.inr f1)))))) (q3 : G ss = some (.inl (cy 1, 2001, .inl f2))) (q4 : G vs = some (.inl (cy 2, 2001, .inr (.inl f3)))) (hTP : TKP tk tn K S V f1 f2 f3) (hp : q.1 < 2 ^ 27) (hed : G ed = some (.inr (3, [.ref lc, .ref ly, .ref lsv, .ref lco, .ref lva, .ref ljo, .ref na, .int nc, va_rf iu, .int wa, va_rf rs]))) (hlc : LiS cy e0 G lc ec nC fC) (hLT : LT G 2 nC fC) (hnC : nC < 100) : Met l yX9_takeCoding [.code yX9_takeCoding cX9_takeCoding 2 none] ({ frames := 8, cells := 21, slots := (68 + gco nC), locals := 240 }) (mk_Pre D vwCl (tyL cy) A X G [.ref o]) (va_Qv (fun (G2 : Nat → Option va_E) => ∃ (ca rl ra : Nat) (f2 : Nat → Nat) (ec2 : Nat), G ca = none ∧ G rl = none ∧ (1 ≤ (q_cod K S V nC q).2.2.2.1 → G ra = none) ∧ G2 o = some (.inr (10, [.ref k, .ref ow, .ref ed, .int (nI ((q_cod K S V nC q).1).1), .int (((q_cod K S V nC q).1).2)])) ∧ LiS cy e0 G2 lc ec2 (nC + 1) (fup fC nC ca) ∧ ((1 ≤ nC ∧ ec2 = ec) ∨ G ec2 = none) ∧ G2 ca = some (.inr (2, [.int (nI (nC + 1)), .int ((q_cod K S V nC q).2.1.1), .long ((q_cod K S V nC q).2.1.2.1), .ref rl, .int ((q_cod K S V nC q).2.1.2.2), .int ((q_cod K S V nC q).2.2.1.1), .int ((q_cod K S V nC q).2.2.1.2.1), .long ((q_cod K S V nC q).2.2.1.2.2.1), .long ((q_cod K S V nC q).2.2.1.2.2.2.1), .long ((q_cod K S V nC q).2.2.1.2.2.2.2)])) ∧ LiS cy e0 G2 rl ra (q_cod K S V nC q).2.2.2.1 f2 ∧ EN G2 (q_cod K S V nC q).2.2.2.1 f2 (q_cod K S V nC q).2.2.2.2 ∧ NW G (q_cod K S V nC q).2.2.2.1 f2 ∧ (1 ≤ (q_cod K S V nC q).2.2.2.1 → ra ≠ ec2) ∧ ∀ (x : Nat) (e : va_E), G x = some e → x ≠ o → x ≠ lc → (1 ≤ nC → x ≠ ec) → G2 x = some e) (mk_B D vwCl A) A) 21 (68 + gco nC) A := by
  refine Met.ofW (cc := cX9_takeCoding) (maxL := 2) (ret := none) (by decide) rfl ?_
  intro p e s m args below meth c s₁ B hml hv
  obtain ⟨rfl, hG, hK, hA, hX⟩ := hv
  have hx := B.exec
  have hb := B.bytes
  have hr := B.returns
  have hlocks := B.notSynchronized
  have hT := hXT s hX
  have hown : s.vm.findClass RX9 = some m.cls := findClass_of_methodNamed B.named
  have hf_X9 : ∀ w ∈ u_ws RX9 TX9 5, w.before ([.ref o] : List Value).toArray s = true := tb_list hT fX9
  have hf_X2 : ∀ w ∈ u_ws RX2 TX2 11, w.before ([.ref o] : List Value).toArray s = true := tb_list hT fX2
  have hf_X1 : ∀ w ∈ u_ws RX1 TX1 10, w.before ([.ref o] : List Value).toArray s = true := tb_list hT fX1
  have hS : va_S A s.heap s.heap [] := va_S.rf
  have hE := hXE s hX
  have hl := lv_entry ([.ref o]) (n := 2) (Nat.le_of_ble_eq_true rfl)
  rw [lg_entry_eq]
  generalize (lg_sl ([.ref o]) ++ List.replicate (2 - (lg_sl ([.ref o])).length) Slot.unset).toArray = ls at hl ⊢
  have hl : lv_has ls 2 [(0, .ref o)] := hl
  refine lv_aload_n hx hb dX9_takeCoding_0 rfl (lv_at hl 0 rfl) ?_
  refine lv_aload_n hx hb dX9_takeCoding_1 rfl (lv_at hl 0 rfl) ?_
  refine mm_get (v := .ref ed) hx hb hf_X9 (fun _ h9 => h9) hown hK hG h0 rfl 2 (by decide) (tb_use hT tw_179) (fun _ h9 => h9) rfl dX9_takeCoding_2 ?_
  refine mm_getN (v := .ref lc) hx hb hf_X2 (fun _ h9 => h9) hown hK hG hed rfl 0 (by decide) (tb_use hT tw_279) (fun _ h9 => h9) rfl dX9_takeCoding_5 ?_
  have hB1 : ∀ (x : Nat) (e : va_E), G x = some e → x ≠ o → G x = some e := by
    intro x e z0 n_o
    exact z0
  have hL2 : LiS cy e0 G lc ec nC fC := LiS.fr2 (fun x => x ≠ o) hlc (fun x e h0 hp => hB1 x e h0 hp) (hlc.ne h0 (by decide)) (fun v _ hv => mm_ne_ao hv h0)
  obtain ⟨mo3, h_mo3, -⟩ := id hL2
  refine va_calli (va_runV (As := []) (rest := [.ref o]) ⟨hx, hb, hml, hown, (fun _ h9 => absurd h9 List.not_mem_nil : ∀ w ∈ ([] : List Cond), w.before _ s = true)⟩ (c_LS_size l D cy A X hst hXT e0 tk hXE mi hXL G lc ec nC fC hL2) (tb_cw (C := RJx4a65c) 0 hT tw_457 tw_113 tw_454 tw_455 tw_456 rfl rfl hq_Jx4a65c_size_8abf5 ⟨Nat.le_of_ble_eq_true rfl, Nat.le_of_ble_eq_true rfl⟩) (mk_preC hst hG hK hA hX hS vc_1 h_mo3) rfl rfl hl.1 rfl (lv_room (Nat.le_of_ble_eq_true rfl)) dX9_takeCoding_8 ⟨(by show _ ≤ 21; omega), (by show _ ≤ 68 + gco nC; omega)⟩) hS (fun q _ h => h) (fun q h => h) (fun r4 G5 t H locs ht hvm hw hB hz1 hk1 hS => ?_)
  have hG : mm D vwCl A G5 H := by rw [← ht]; exact hB
  clear hB hz1 hk1 hvm ht
  obtain ⟨rfl, hw⟩ := hw
  rw [hw] at hG
  refine lv_bipush (v := 12) hx hb dX9_takeCoding_11 (by decide) ?_
  refine va_callv (va_runV (As := [.int (nI nC), .int 12]) (rest := []) ⟨hx, hb, hml, hown, (fun _ h9 => absurd h9 List.not_mem_nil : ∀ w ∈ ([] : List Cond), w.before _ s = true)⟩ (c_X9_begin l D cy A X hst hXT e0 tk hXE G o ow ed q k ks ss vs tn K S V f1 f2 f3 (nI nC) 12 h0 q1 q2 q3 q4 hTP (by first | omega | (simp only []; omega)) ) (tb_cw (C := RX9) 2 hT tw_461 tw_106 tw_458 tw_460 tw_8 rfl rfl hq_X9_begin ⟨Nat.le_of_ble_eq_true rfl, Nat.le_of_ble_eq_true rfl⟩) (mk_preC hst hG hK hA hX hS vc_10 h0) rfl rfl hl.1 rfl (lv_room (Nat.le_of_ble_eq_true rfl)) dX9_takeCoding_13 ⟨(by show _ ≤ 21; omega), (by show _ ≤ 68 + gco nC; omega)⟩) hS (fun q _ h => h) (fun q h => h) (fun  G6 t H locs ht hvm hw hB hz1 hk1 hS => ?_)
  have hG : mm D vwCl A G6 H := by rw [← ht]; exact hB
  clear hB hz1 hk1 hvm ht
  obtain ⟨y7, ey7⟩ : ∃ y, y = q_begin S (nI nC) 12 q := ⟨_, rfl⟩
  rw [← ey7] at hw
  have ly7 : y7.1 ≤ q.1 + 1 := by rw [ey7]; exact q_begin_le
  have eG6 := hw
  clear hw
  have k8 : G6 o = some (.inr (10, [.ref k, .ref ow, .ref ed, .int (nI y7.1), .int y7.2])) := by rw [eG6]; exact mm_set_self
  have k9 : G6 k = some (.inr (13, [.ref ks, .ref ss, .ref vs, .int (nI tn)])) := by rw [eG6]; exact mm_set_of q1 (mm_ne_oo q1 h0 (by decide))
  have k10 : G6 ks = some (.inl (cy 5, 2001, .inr (.inr (.inr (.inr f1))))) := by rw [eG6]; exact mm_set_of q2 (mm_ne_ao q2 h0)
  have k11 : G6 ss = some (.inl (cy 1, 2001, .inl f2)) := by rw [eG6]; exact mm_set_of q3 (mm_ne_ao q3 h0)
  have k12 : G6 vs = some (.inl (cy 2, 2001, .inr (.inl f3))) := by rw [eG6]; exact mm_set_of q4 (mm_ne_ao q4 h0)
  have k13 : G6 ed = some (.inr (3, [.ref lc, .ref ly, .ref lsv, .ref lco, .ref lva, .ref ljo, .ref na, .int nc, va_rf iu, .int wa, va_rf rs])) := by rw [eG6]; exact mm_set_of hed (mm_ne_oo hed h0 (by decide))
  refine mm_new (ci := 2) (fs := [.int 0, .int 0, .long 0, .null, .int 0, .int 0, .int 0, .long 0, .long 0, .long 0]) hx hb hf_X1 (fun _ h9 => h9) tyX1 tyX1_ok hown (tb_use hT tw_470) (tb_use hT tw_471) (tb_use hT tw_122) hK hG hS hA rfl (fun j hj => by rcases (show j = 0 ∨ j = 1 ∨ j = 2 ∨ j = 3 ∨ j = 4 ∨ j = 5 ∨ j = 6 ∨ j = 7 ∨ j = 8 ∨ j = 9 by omega) with rfl | rfl | rfl | rfl | rfl | rfl | rfl | rfl | rfl | rfl <;> rfl) (by show _ ≤ 21; omega) (by show _ ≤ 68 + gco nC; omega) dX9_takeCoding_16 (fun q14 H hn_q14 hG hS => ?_)
  obtain ⟨G15, eG15⟩ : ∃ g, g = mm_set G6 q14 (.inr (2, [.int 0, .int 0, .long 0, .null, .int 0, .int 0, .int 0, .long 0, .long 0, .long 0])) := ⟨_, rfl⟩
  have hG : mm D vwCl A G15 H := by rw [eG15]; exact hG
  have k16 : G15 o = some (.inr (10, [.ref k, .ref ow, .ref ed, .int (nI y7.1), .int y7.2])) := by rw [eG15]; exact mm_set_new k8 hn_q14
  have k17 : G15 k = some (.inr (13, [.ref ks, .ref ss, .ref vs, .int (nI tn)])) := by rw [eG15]; exact mm_set_new k9 hn_q14
  have k18 : G15 ks = some (.inl (cy 5, 2001, .inr (.inr (.inr (.inr f1))))) := by rw [eG15]; exact mm_set_new k10 hn_q14
  have k19 : G15 ss = some (.inl (cy 1, 2001, .inl f2)) := by rw [eG15]; exact mm_set_new k11 hn_q14
  have k20 : G15 vs = some (.inl (cy 2, 2001, .inr (.inl f3))) := by rw [eG15]; exact mm_set_new k12 hn_q14
  have k21 : G15 ed = some (.inr (3, [.ref lc, .ref ly, .ref lsv, .ref lco, .ref lva, .ref ljo, .ref na, .int nc, va_rf iu, .int wa, va_rf rs])) := by rw [eG15]; exact mm_set_new k13 hn_q14
  have k22 : G15 q14 = some (.inr (2, [.int 0, .int 0, .long 0, .null, .int 0, .int 0, .int 0, .long 0, .long 0, .long 0])) := by rw [eG15]; exact mm_set_self
  refine lv_dup hx hb dX9_takeCoding_19 rfl ?_
  refine lv_aload_n hx hb dX9_takeCoding_20 rfl (lv_at hl 0 rfl) ?_
  refine mm_get (v := .ref ed) hx hb hf_X9 (fun _ h9 => h9) hown hK hG k16 rfl 2 (by decide) (tb_use hT tw_179) (fun _ h9 => h9) rfl dX9_takeCoding_21 ?_
  refine mm_getN (v := .ref lc) hx hb hf_X2 (fun _ h9 => h9) hown hK hG k21 rfl 0 (by decide) (tb_use hT tw_279) (fun _ h9 => h9) rfl dX9_takeCoding_24 ?_
  have hB23 : ∀ (x : Nat) (e : va_E), G x = some e → x ≠ o → G15 x = some e := by
    intro x e z0 n_o
    have z1 : G6 x = some e := by rw [eG6]; exact mm_set_of z0 n_o
    have n_q14 : x ≠ q14 := fun z => by rw [z, hn_q14] at z1; cases z1
    have z2 : G15 x = some e := by rw [eG15]; exact mm_set_of z1 n_q14
    exact z2
  have hL24 : LiS cy e0 G15 lc ec nC fC := LiS.fr2 (fun x => x ≠ o) hlc (fun x e h0 hp => hB23 x e h0 hp) (hlc.ne h0 (by decide)) (fun v _ hv => mm_ne_ao hv h0)
  obtain ⟨mo25, h_mo25, -⟩ := id hL24
  refine va_calli (va_runV (As := []) (rest := [.ref q14, .ref q14]) ⟨hx, hb, hml, hown, (fun _ h9 => absurd h9 List.not_mem_nil : ∀ w ∈ ([] : List Cond), w.before _ s = true)⟩ (c_LS_size l D cy A X hst hXT e0 tk hXE mi hXL G15 lc ec nC fC hL24) (tb_cw (C := RJx4a65c) 0 hT tw_457 tw_113 tw_454 tw_455 tw_456 rfl rfl hq_Jx4a65c_size_8abf5 ⟨Nat.le_of_ble_eq_true rfl, Nat.le_of_ble_eq_true rfl⟩) (mk_preC hst hG hK hA hX hS vc_1 h_mo25) rfl rfl hl.1 rfl (lv_room (Nat.le_of_ble_eq_true rfl)) dX9_takeCoding_27 ⟨(by show _ ≤ 21; omega), (by show _ ≤ 68 + gco nC; omega)⟩) hS (fun q _ h => h) (fun q h => h) (fun r26 G27 t H locs ht hvm hw hB hz1 hk1 hS => ?_)
  have hG : mm D vwCl A G27 H := by rw [← ht]; exact hB
  clear hB hz1 hk1 hvm ht
  obtain ⟨rfl, hw⟩ := hw
  rw [hw] at hG
  refine lv_iconst (v := 1) hx hb dX9_takeCoding_30 (by decide) ?_
  refine lv_iadd hx hb dX9_takeCoding_31 ?_
  rw [← nI_succ nC]
  refine lv_aload_n hx hb dX9_takeCoding_32 rfl (lv_at hl 0 rfl) ?_
  refine va_calli (va_runV (As := []) (rest := [.int (nI (nC + 1)), .ref q14, .ref q14]) ⟨hx, hb, hml, hown, (fun _ h9 => absurd h9 List.not_mem_nil : ∀ w ∈ ([] : List Cond), w.before _ s = true)⟩ (c_X9_start l D cy A X hst hXT e0 tk hXE G15 o ow ed y7 k ks ss vs tn K S V f1 f2 f3  k16 k17 k18 k19 k20 hTP (by first | omega | (simp only []; omega)) ) (tb_cw (C := RX9) 0 hT tw_475 tw_106 tw_472 tw_474 tw_10 rfl rfl hq_X9_start ⟨Nat.le_of_ble_eq_true rfl, Nat.le_of_ble_eq_true rfl⟩) (mk_preC hst hG hK hA hX hS vc_10 k16) rfl rfl hl.1 rfl (lv_room (Nat.le_of_ble_eq_true rfl)) dX9_takeCoding_33 ⟨(by show _ ≤ 21; omega), (by show _ ≤ 68 + gco nC; omega)⟩) hS (fun q _ h => h) (fun q h => h) (fun r28 G29 t H locs ht hvm hw hB hz1 hk1 hS => ?_)
  have hG : mm D vwCl A G29 H := by rw [← ht]; exact hB
  clear hB hz1 hk1 hvm ht
  obtain ⟨er28, hw⟩ := hw
  rw [hw] at hG
  refine lv_aload_n hx hb dX9_takeCoding_36 rfl (lv_at hl 0 rfl) ?_
  refine va_calll (va_runV (As := []) (rest := [.int r28, .int (nI (nC + 1)), .ref q14, .ref q14]) ⟨hx, hb, hml, hown, (fun _ h9 => absurd h9 List.not_mem_nil : ∀ w ∈ ([] : List Cond), w.before _ s = true)⟩ (c_X9_takeName l D cy A X hst hXT e0 tk hXE G15 o ow ed y7 k ks ss vs tn K S V f1 f2 f3  k16 k17 k18 k19 k20 hTP (by first | omega | (simp only []; omega)) ) (tb_cw (C := RX9) 0 hT tw_479 tw_106 tw_476 tw_478 tw_11 rfl rfl hq_X9_takeName ⟨Nat.le_of_ble_eq_true rfl, Nat.le_of_ble_eq_true rfl⟩) (mk_preC hst hG hK hA hX hS vc_10 k16) rfl rfl hl.1 rfl (lv_room (Nat.le_of_ble_eq_true rfl)) dX9_takeCoding_37 ⟨(by show _ ≤ 21; omega), (by show _ ≤ 68 + gco nC; omega)⟩) hS (fun q _ h => h) (fun q h => h) (fun r30 G31 t H locs ht hvm hw hB hz1 hk1 hS => ?_)
  have hG : mm D vwCl A G31 H := by rw [← ht]; exact hB
  clear hB hz1 hk1 hvm ht
  obtain ⟨y32, ey32⟩ : ∃ y, y = q_name K S V y7 := ⟨_, rfl⟩
  rw [← ey32] at hw
  obtain ⟨er30, hw⟩ := hw
  have ly32 : y32.2.1 ≤ y7.1 + 1 := by rw [ey32]; exact q_name_le
  have eG31 := hw
  clear hw
  have k33 : G31 o = some (.inr (10, [.ref k, .ref ow, .ref ed, .int (nI y32.2.1), .int y32.2.2])) := by rw [eG31]; exact mm_set_self
  have k34 : G31 k = some (.inr (13, [.ref ks, .ref ss, .ref vs, .int (nI tn)])) := by rw [eG31]; exact mm_set_of k17 (mm_ne_oo k17 k16 (by decide))
  have k35 : G31 ks = some (.inl (cy 5, 2001, .inr (.inr (.inr (.inr f1))))) := by rw [eG31]; exact mm_set_of k18 (mm_ne_ao k18 k16)
  have k36 : G31 ss = some (.inl (cy 1, 2001, .inl f2)) := by rw [eG31]; exact mm_set_of k19 (mm_ne_ao k19 k16)
  have k37 : G31 vs = some (.inl (cy 2, 2001, .inr (.inl f3))) := by rw [eG31]; exact mm_set_of k20 (mm_ne_ao k20 k16)
  have k38 : G31 ed = some (.inr (3, [.ref lc, .ref ly, .ref lsv, .ref lco, .ref lva, .ref ljo, .ref na, .int nc, va_rf iu, .int wa, va_rf rs])) := by rw [eG31]; exact mm_set_of k21 (mm_ne_oo k21 k16 (by decide))
  have k39 : G31 q14 = some (.inr (2, [.int 0, .int 0, .long 0, .null, .int 0, .int 0, .int 0, .long 0, .long 0, .long 0])) := by rw [eG31]; exact mm_set_of k22 (mm_ne_oo k22 k16 (by decide))
  have hB40 : ∀ (x : Nat) (e : va_E), G x = some e → x ≠ o → G31 x = some e := by
    intro x e z0 n_o
    have z1 : G6 x = some e := by rw [eG6]; exact mm_set_of z0 n_o
    have n_q14 : x ≠ q14 := fun z => by rw [z, hn_q14] at z1; cases z1
    have z2 : G15 x = some e := by rw [eG15]; exact mm_set_of z1 n_q14
    have z3 : G31 x = some e := by rw [eG31]; exact mm_set_of z2 n_o
    exact z3
  refine va_callv (va_runI (As := [.int (nI (nC + 1)), .int r28, .long r30]) (rest := [.ref q14]) ⟨hx, hb, hml, hown, (fun _ h9 => absurd h9 List.not_mem_nil : ∀ w ∈ ([] : List Cond), w.before _ s = true)⟩ (c_X1_init l D cy A X hst hXT e0 tk hXE G31 q14 (nI (nC + 1)) r28 r30 k39) (tb_ci 3 hT tw_487 tw_122 tw_485 tw_486 rfl rfl rfl hq_X1_init ⟨Nat.le_of_ble_eq_true rfl, Nat.le_of_ble_eq_true rfl⟩) (mk_preS hst hG hK hA hX hS) rfl rfl hl.1 rfl (lv_room (Nat.le_of_ble_eq_true rfl)) dX9_takeCoding_40 ⟨(by show _ ≤ 21; omega), (by show _ ≤ 68 + gco nC; omega)⟩) hS (fun q _ h => h) (fun q h => h) (fun  G41 t H locs ht hvm hw hB hz1 hk1 hS => ?_)
  have hG : mm D vwCl A G41 H := by rw [← ht]; exact hB
  clear hB hz1 hk1 hvm ht
  obtain ⟨rl43, hn_rl43, h42_2, h42_1, h42_f⟩ := hw
  have k44 : G41 o = some (.inr (10, [.ref k, .ref ow, .ref ed, .int (nI y32.2.1), .int y32.2.2])) := h42_f _ _ k33 (mm_ne_oo k33 k39 (by decide))
  have k45 : G41 k = some (.inr (13, [.ref ks, .ref ss, .ref vs, .int (nI tn)])) := h42_f _ _ k34 (mm_ne_oo k34 k39 (by decide))
  have k46 : G41 ks = some (.inl (cy 5, 2001, .inr (.inr (.inr (.inr f1))))) := h42_f _ _ k35 (mm_ne_ao k35 k39)
  have k47 : G41 ss = some (.inl (cy 1, 2001, .inl f2)) := h42_f _ _ k36 (mm_ne_ao k36 k39)
  have k48 : G41 vs = some (.inl (cy 2, 2001, .inr (.inl f3))) := h42_f _ _ k37 (mm_ne_ao k37 k39)
  have k49 : G41 ed = some (.inr (3, [.ref lc, .ref ly, .ref lsv, .ref lco, .ref lva, .ref ljo, .ref na, .int nc, va_rf iu, .int wa, va_rf rs])) := h42_f _ _ k38 (mm_ne_oo k38 k39 (by decide))
  refine lv_astore_n (lv' := [(1, .ref q14), (0, .ref o)]) hx hb dX9_takeCoding_43 rfl hl (by decide) rfl (fun ls hl => ?_)
  refine lv_aload_n hx hb dX9_takeCoding_44 rfl (lv_at hl 1 rfl) ?_
  refine va_gets (v := .ref (tk 8)) hx hb (show va_Z "DescribeText$Token" "EQUAL" "LDescribeText$Token;" (.ref (tk 8)) A s s.heap from (hE.2.1 8 (by decide)).1) hS hown (tb_use hT tw_534) (fun _ h9 => h9) dX9_takeCoding_45 ?_
  refine va_callv (va_runV (As := [.ref (tk 8)]) (rest := []) ⟨hx, hb, hml, hown, (fun _ h9 => absurd h9 List.not_mem_nil : ∀ w ∈ ([] : List Cond), w.before _ s = true)⟩ (c_X9_take l D cy A X hst hXT e0 tk hXE G41 o ow ed y32.2 k ks ss vs tn K S V f1 f2 f3 8 k44 k45 k46 k47 k48 hTP (by first | omega | (simp only []; omega)) (by decide)) (tb_cw (C := RX9) 1 hT tw_539 tw_106 tw_536 tw_538 tw_12 rfl rfl hq_X9_take ⟨Nat.le_of_ble_eq_true rfl, Nat.le_of_ble_eq_true rfl⟩) (mk_preC hst hG hK hA hX hS vc_10 k44) rfl rfl hl.1 rfl (lv_room (Nat.le_of_ble_eq_true rfl)) dX9_takeCoding_48 ⟨(by show _ ≤ 21; omega), (by show _ ≤ 68 + gco nC; omega)⟩) hS (fun q _ h => h) (fun q h => h) (fun  G50 t H locs ht hvm hw hB hz1 hk1 hS => ?_)
  have hG : mm D vwCl A G50 H := by rw [← ht]; exact hB
  clear hB hz1 hk1 hvm ht
  obtain ⟨y51, ey51⟩ : ∃ y, y = q_take K S 8 y32.2 := ⟨_, rfl⟩
  rw [← ey51] at hw
  have ly51 : y51.1 ≤ y32.2.1 + 1 := by rw [ey51]; exact q_take_le
  have eG50 := hw
  clear hw
  have k52 : G50 o = some (.inr (10, [.ref k, .ref ow, .ref ed, .int (nI y51.1), .int y51.2])) := by rw [eG50]; exact mm_set_self
  have k53 : G50 k = some (.inr (13, [.ref ks, .ref ss, .ref vs, .int (nI tn)])) := by rw [eG50]; exact mm_set_of k45 (mm_ne_oo k45 k44 (by decide))
  have k54 : G50 ks = some (.inl (cy 5, 2001, .inr (.inr (.inr (.inr f1))))) := by rw [eG50]; exact mm_set_of k46 (mm_ne_ao k46 k44)
  have k55 : G50 ss = some (.inl (cy 1, 2001, .inl f2)) := by rw [eG50]; exact mm_set_of k47 (mm_ne_ao k47 k44)
  have k56 : G50 vs = some (.inl (cy 2, 2001, .inr (.inl f3))) := by rw [eG50]; exact mm_set_of k48 (mm_ne_ao k48 k44)
  have k57 : G50 ed = some (.inr (3, [.ref lc, .ref ly, .ref lsv, .ref lco, .ref lva, .ref ljo, .ref na, .int nc, va_rf iu, .int wa, va_rf rs])) := by rw [eG50]; exact mm_set_of k49 (mm_ne_oo k49 k44 (by decide))
  have k58 : G50 q14 = some (.inr (2, [.int (nI (nC + 1)), .int r28, .long r30, .ref rl43, .int 0, .int 0, .int 0, .long 1, .long 1, .long 0])) := by rw [eG50]; exact mm_set_of h42_1 (mm_ne_oo h42_1 k44 (by decide))
  have k59 : G50 rl43 = some (.inr (1, [.int 0, .ref e0, .int 0])) := by rw [eG50]; exact mm_set_of h42_2 (mm_ne_oo h42_2 k44 (by decide))
  refine lv_aload_n hx hb dX9_takeCoding_51 rfl (lv_at hl 0 rfl) ?_
  refine lv_aload_n hx hb dX9_takeCoding_52 rfl (lv_at hl 1 rfl) ?_
  refine lv_iconst (v := 1) hx hb dX9_takeCoding_53 (by decide) ?_
  refine lv_iconst (v := 4) hx hb dX9_takeCoding_54 (by decide) ?_
  refine va_calli (va_runV (As := [.int 1, .int 4]) (rest := [.ref q14]) ⟨hx, hb, hml, hown, (fun _ h9 => absurd h9 List.not_mem_nil : ∀ w ∈ ([] : List Cond), w.before _ s = true)⟩ (c_X9_takeNumber l D cy A X hst hXT e0 tk hXE G50 o ow ed y51 k ks ss vs tn K S V f1 f2 f3 1 4 k52 k53 k54 k55 k56 hTP (by first | omega | (simp only []; omega)) ) (tb_cw (C := RX9) 2 hT tw_543 tw_106 tw_540 tw_542 tw_13 rfl rfl hq_X9_takeNumber ⟨Nat.le_of_ble_eq_true rfl, Nat.le_of_ble_eq_true rfl⟩) (mk_preC hst hG hK hA hX hS vc_10 k52) rfl rfl hl.1 rfl (lv_room (Nat.le_of_ble_eq_true rfl)) dX9_takeCoding_55 ⟨(by show _ ≤ 21; omega), (by show _ ≤ 68 + gco nC; omega)⟩) hS (fun q _ h => h) (fun q h => h) (fun r60 G61 t H locs ht hvm hw hB hz1 hk1 hS => ?_)
  have hG : mm D vwCl A G61 H := by rw [← ht]; exact hB
  clear hB hz1 hk1 hvm ht
  obtain ⟨y62, ey62⟩ : ∃ y, y = q_num K S V 1 4 y51 := ⟨_, rfl⟩
  rw [← ey62] at hw
  obtain ⟨er60, hw⟩ := hw
  have ly62 : y62.2.1 ≤ y51.1 + 1 := by rw [ey62]; exact q_num_le
  have eG61 := hw
  clear hw
  have k63 : G61 o = some (.inr (10, [.ref k, .ref ow, .ref ed, .int (nI y62.2.1), .int y62.2.2])) := by rw [eG61]; exact mm_set_self
  have k64 : G61 k = some (.inr (13, [.ref ks, .ref ss, .ref vs, .int (nI tn)])) := by rw [eG61]; exact mm_set_of k53 (mm_ne_oo k53 k52 (by decide))
  have k65 : G61 ks = some (.inl (cy 5, 2001, .inr (.inr (.inr (.inr f1))))) := by rw [eG61]; exact mm_set_of k54 (mm_ne_ao k54 k52)
  have k66 : G61 ss = some (.inl (cy 1, 2001, .inl f2)) := by rw [eG61]; exact mm_set_of k55 (mm_ne_ao k55 k52)
  have k67 : G61 vs = some (.inl (cy 2, 2001, .inr (.inl f3))) := by rw [eG61]; exact mm_set_of k56 (mm_ne_ao k56 k52)
  have k68 : G61 ed = some (.inr (3, [.ref lc, .ref ly, .ref lsv, .ref lco, .ref lva, .ref ljo, .ref na, .int nc, va_rf iu, .int wa, va_rf rs])) := by rw [eG61]; exact mm_set_of k57 (mm_ne_oo k57 k52 (by decide))
  have k69 : G61 q14 = some (.inr (2, [.int (nI (nC + 1)), .int r28, .long r30, .ref rl43, .int 0, .int 0, .int 0, .long 1, .long 1, .long 0])) := by rw [eG61]; exact mm_set_of k58 (mm_ne_oo k58 k52 (by decide))
  have k70 : G61 rl43 = some (.inr (1, [.int 0, .ref e0, .int 0])) := by rw [eG61]; exact mm_set_of k59 (mm_ne_oo k59 k52 (by decide))
  refine mm_putN (v := .int r60) (ty := .int) hx hb hf_X1 (fun _ h9 => h9) tyX1 tyX1_ok nmX1 hown hK hG hS k69 rfl 4 (by decide) (tb_use hT tw_502) (fun _ h9 => h9) rfl (by decide +kernel) rfl rfl (Nat.le_of_ble_eq_true rfl) dX9_takeCoding_58 (fun H locs hG hS => ?_)
  obtain ⟨G71, eG71⟩ : ∃ g, g = mm_set G61 q14 (.inr (2, [.int (nI (nC + 1)), .int r28, .long r30, .ref rl43, .int r60, .int 0, .int 0, .long 1, .long 1, .long 0])) := ⟨_, rfl⟩
  have hG : mm D vwCl A G71 H := by rw [eG71]; exact hG
  have k72 : G71 o = some (.inr (10, [.ref k, .ref ow, .ref ed, .int (nI y62.2.1), .int y62.2.2])) := by rw [eG71]; exact mm_set_of k63 (mm_ne_oo k63 k69 (by decide))
  have k73 : G71 k = some (.inr (13, [.ref ks, .ref ss, .ref vs, .int (nI tn)])) := by rw [eG71]; exact mm_set_of k64 (mm_ne_oo k64 k69 (by decide))
  have k74 : G71 ks = some (.inl (cy 5, 2001, .inr (.inr (.inr (.inr f1))))) := by rw [eG71]; exact mm_set_of k65 (mm_ne_ao k65 k69)
  have k75 : G71 ss = some (.inl (cy 1, 2001, .inl f2)) := by rw [eG71]; exact mm_set_of k66 (mm_ne_ao k66 k69)
  have k76 : G71 vs = some (.inl (cy 2, 2001, .inr (.inl f3))) := by rw [eG71]; exact mm_set_of k67 (mm_ne_ao k67 k69)
  have k77 : G71 ed = some (.inr (3, [.ref lc, .ref ly, .ref lsv, .ref lco, .ref lva, .ref ljo, .ref na, .int nc, va_rf iu, .int wa, va_rf rs])) := by rw [eG71]; exact mm_set_of k68 (mm_ne_oo k68 k69 (by decide))
  have k78 : G71 q14 = some (.inr (2, [.int (nI (nC + 1)), .int r28, .long r30, .ref rl43, .int r60, .int 0, .int 0, .long 1, .long 1, .long 0])) := by rw [eG71]; exact mm_set_self
  have k79 : G71 rl43 = some (.inr (1, [.int 0, .ref e0, .int 0])) := by rw [eG71]; exact mm_set_of k70 (mm_ne_oo k70 k69 (by decide))
  refine lv_aload_n hx hb dX9_takeCoding_61 rfl (lv_at hl 1 rfl) ?_
  refine va_gets (v := .ref (tk 12)) hx hb (show va_Z "DescribeText$Token" "OCTETS" "LDescribeText$Token;" (.ref (tk 12)) A s s.heap from (hE.2.1 12 (by decide)).1) hS hown (tb_use hT tw_545) (fun _ h9 => h9) dX9_takeCoding_62 ?_
  refine va_callv (va_runV (As := [.ref (tk 12)]) (rest := []) ⟨hx, hb, hml, hown, (fun _ h9 => absurd h9 List.not_mem_nil : ∀ w ∈ ([] : List Cond), w.before _ s = true)⟩ (c_X9_take l D cy A X hst hXT e0 tk hXE G71 o ow ed y62.2 k ks ss vs tn K S V f1 f2 f3 12 k72 k73 k74 k75 k76 hTP (by first | omega | (simp only []; omega)) (by decide)) (tb_cw (C := RX9) 1 hT tw_539 tw_106 tw_536 tw_538 tw_12 rfl rfl hq_X9_take ⟨Nat.le_of_ble_eq_true rfl, Nat.le_of_ble_eq_true rfl⟩) (mk_preC hst hG hK hA hX hS vc_10 k72) rfl rfl hl.1 rfl (lv_room (Nat.le_of_ble_eq_true rfl)) dX9_takeCoding_65 ⟨(by show _ ≤ 21; omega), (by show _ ≤ 68 + gco nC; omega)⟩) hS (fun q _ h => h) (fun q h => h) (fun  G80 t H locs ht hvm hw hB hz1 hk1 hS => ?_)
  have hG : mm D vwCl A G80 H := by rw [← ht]; exact hB
  clear hB hz1 hk1 hvm ht
  obtain ⟨y81, ey81⟩ : ∃ y, y = q_take K S 12 y62.2 := ⟨_, rfl⟩
  rw [← ey81] at hw
  have ly81 : y81.1 ≤ y62.2.1 + 1 := by rw [ey81]; exact q_take_le
  have eG80 := hw
  clear hw
  have k82 : G80 o = some (.inr (10, [.ref k, .ref ow, .ref ed, .int (nI y81.1), .int y81.2])) := by rw [eG80]; exact mm_set_self
  have k83 : G80 k = some (.inr (13, [.ref ks, .ref ss, .ref vs, .int (nI tn)])) := by rw [eG80]; exact mm_set_of k73 (mm_ne_oo k73 k72 (by decide))
  have k84 : G80 ks = some (.inl (cy 5, 2001, .inr (.inr (.inr (.inr f1))))) := by rw [eG80]; exact mm_set_of k74 (mm_ne_ao k74 k72)
  have k85 : G80 ss = some (.inl (cy 1, 2001, .inl f2)) := by rw [eG80]; exact mm_set_of k75 (mm_ne_ao k75 k72)
  have k86 : G80 vs = some (.inl (cy 2, 2001, .inr (.inl f3))) := by rw [eG80]; exact mm_set_of k76 (mm_ne_ao k76 k72)
  have k87 : G80 ed = some (.inr (3, [.ref lc, .ref ly, .ref lsv, .ref lco, .ref lva, .ref ljo, .ref na, .int nc, va_rf iu, .int wa, va_rf rs])) := by rw [eG80]; exact mm_set_of k77 (mm_ne_oo k77 k72 (by decide))
  have k88 : G80 q14 = some (.inr (2, [.int (nI (nC + 1)), .int r28, .long r30, .ref rl43, .int r60, .int 0, .int 0, .long 1, .long 1, .long 0])) := by rw [eG80]; exact mm_set_of k78 (mm_ne_oo k78 k72 (by decide))
  have k89 : G80 rl43 = some (.inr (1, [.int 0, .ref e0, .int 0])) := by rw [eG80]; exact mm_set_of k79 (mm_ne_oo k79 k72 (by decide))
  refine lv_aload_n hx hb dX9_takeCoding_68 rfl (lv_at hl 1 rfl) ?_
  refine va_gets (v := .ref (tk 4)) hx hb (show va_Z "DescribeText$Token" "OPEN" "LDescribeText$Token;" (.ref (tk 4)) A s s.heap from (hE.2.1 4 (by decide)).1) hS hown (tb_use hT tw_547) (fun _ h9 => h9) dX9_takeCoding_69 ?_
  refine va_calli (va_runV (As := [.ref (tk 4)]) (rest := []) ⟨hx, hb, hml, hown, (fun _ h9 => absurd h9 List.not_mem_nil : ∀ w ∈ ([] : List Cond), w.before _ s = true)⟩ (c_X9_sees l D cy A X hst hXT e0 tk hXE G80 o ow ed y81 k ks ss vs tn K S V f1 f2 f3 4 k82 k83 k84 k85 k86 hTP (by first | omega | (simp only []; omega)) (by decide)) (tb_cw (C := RX9) 1 hT tw_437 tw_106 tw_434 tw_436 tw_6 rfl rfl hq_X9_sees ⟨Nat.le_of_ble_eq_true rfl, Nat.le_of_ble_eq_true rfl⟩) (mk_preC hst hG hK hA hX hS vc_10 k82) rfl rfl hl.1 rfl (lv_room (Nat.le_of_ble_eq_true rfl)) dX9_takeCoding_72 ⟨(by show _ ≤ 21; omega), (by show _ ≤ 68 + gco nC; omega)⟩) hS (fun q _ h => h) (fun q h => h) (fun r90 G91 t H locs ht hvm hw hB hz1 hk1 hS => ?_)
  have hG : mm D vwCl A G91 H := by rw [← ht]; exact hB
  clear hB hz1 hk1 hvm ht
  obtain ⟨er90, hw⟩ := hw
  rw [hw] at hG
  refine lv_if_eq (tgt := 86) hx hb dX9_takeCoding_75 (by decide) (fun c_75 => ?_) (fun c_75 => ?_)
  · skip
    refine lv_aload_n hx hb dX9_takeCoding_86 rfl (lv_at hl 1 rfl) ?_
    refine lv_aload_n hx hb dX9_takeCoding_87 rfl (lv_at hl 0 rfl) ?_
    refine va_callv (va_runV (As := [.ref q14]) (rest := []) ⟨hx, hb, hml, hown, (fun _ h9 => absurd h9 List.not_mem_nil : ∀ w ∈ ([] : List Cond), w.before _ s = true)⟩ (c_X9_takeForm l D cy A X hst hXT e0 tk hXE G80 o ow ed y81 k ks ss vs tn K S V f1 f2 f3 q14 rl43 (nI (nC + 1)) r28 r60 r30 k82 k83 k84 k85 k86 hTP (by first | omega | (simp only []; omega)) k88) (tb_cw (C := RX9) 1 hT tw_660 tw_106 tw_657 tw_659 tw_20 rfl rfl hq_X9_takeForm ⟨Nat.le_of_ble_eq_true rfl, Nat.le_of_ble_eq_true rfl⟩) (mk_preC hst hG hK hA hX hS vc_10 k82) rfl rfl hl.1 rfl (lv_room (Nat.le_of_ble_eq_true rfl)) dX9_takeCoding_88 ⟨(by show _ ≤ 21; omega), (by show _ ≤ 68 + gco nC; omega)⟩) hS (fun q _ h => h) (fun q h => h) (fun  G92 t H locs ht hvm hw hB hz1 hk1 hS => ?_)
    have hG : mm D vwCl A G92 H := by rw [← ht]; exact hB
    clear hB hz1 hk1 hvm ht
    obtain ⟨h93_1, h93_2, h93_f⟩ := hw
    obtain ⟨y94, ey94⟩ : ∃ y, y = q_form K S V y81 := ⟨_, rfl⟩
    rw [← ey94] at h93_1 h93_2
    have k95 : G92 k = some (.inr (13, [.ref ks, .ref ss, .ref vs, .int (nI tn)])) := h93_f _ _ k83 (mm_ne_oo k83 k82 (by decide)) (mm_ne_oo k83 k88 (by decide))
    have k96 : G92 ks = some (.inl (cy 5, 2001, .inr (.inr (.inr (.inr f1))))) := h93_f _ _ k84 (mm_ne_ao k84 k82) (mm_ne_ao k84 k88)
    have k97 : G92 ss = some (.inl (cy 1, 2001, .inl f2)) := h93_f _ _ k85 (mm_ne_ao k85 k82) (mm_ne_ao k85 k88)
    have k98 : G92 vs = some (.inl (cy 2, 2001, .inr (.inl f3))) := h93_f _ _ k86 (mm_ne_ao k86 k82) (mm_ne_ao k86 k88)
    have k99 : G92 ed = some (.inr (3, [.ref lc, .ref ly, .ref lsv, .ref lco, .ref lva, .ref ljo, .ref na, .int nc, va_rf iu, .int wa, va_rf rs])) := h93_f _ _ k87 (mm_ne_oo k87 k82 (by decide)) (mm_ne_oo k87 k88 (by decide))
    have k100 : G92 rl43 = some (.inr (1, [.int 0, .ref e0, .int 0])) := h93_f _ _ k89 (mm_ne_oo k89 k82 (by decide)) (mm_ne_oo k89 k88 (by decide))
    refine lv_aload_n hx hb dX9_takeCoding_91 rfl (lv_at hl 1 rfl) ?_
    refine mm_get (v := .ref ed) hx hb hf_X9 (fun _ h9 => h9) hown hK hG h93_1 rfl 2 (by decide) (tb_use hT tw_179) (fun _ h9 => h9) rfl dX9_takeCoding_92 ?_
    refine mm_getN (v := .ref lc) hx hb hf_X2 (fun _ h9 => h9) hown hK hG k99 rfl 0 (by decide) (tb_use hT tw_279) (fun _ h9 => h9) rfl dX9_takeCoding_95 ?_
    refine lv_aload_n hx hb dX9_takeCoding_98 rfl (lv_at hl 0 rfl) ?_
    have hLr : LiS cy e0 G92 rl43 e0 0 (fun _ => 0) := ⟨0, by rw [nI_0]; exact k100, Or.inl ⟨rfl, rfl⟩⟩
    have hB101 : ∀ (x : Nat) (e : va_E), G x = some e → x ≠ o → G92 x = some e := by
      intro x e z0 n_o
      have z1 : G6 x = some e := by rw [eG6]; exact mm_set_of z0 n_o
      have n_q14 : x ≠ q14 := fun z => by rw [z, hn_q14] at z1; cases z1
      have z2 : G15 x = some e := by rw [eG15]; exact mm_set_of z1 n_q14
      have z3 : G31 x = some e := by rw [eG31]; exact mm_set_of z2 n_o
      have n_rl43 : x ≠ rl43 := fun z => by rw [z, hn_rl43] at z3; cases z3
      have z4 : G41 x = some e := h42_f x e z3 n_q14
      have z5 : G50 x = some e := by rw [eG50]; exact mm_set_of z4 n_o
      have z6 : G61 x = some e := by rw [eG61]; exact mm_set_of z5 n_o
      have z7 : G71 x = some e := by rw [eG71]; exact mm_set_of z6 n_q14
      have z8 : G80 x = some e := by rw [eG80]; exact mm_set_of z7 n_o
      have z9 : G92 x = some e := h93_f x e z8 n_o n_q14
      exact z9
    have hL102 : LiS cy e0 G92 lc ec nC fC := LiS.fr2 (fun x => x ≠ o) hlc (fun x e h0 hp => hB101 x e h0 hp) (hlc.ne h0 (by decide)) (fun v _ hv => mm_ne_ao hv h0)
    have hLO2 : LO G92 nC fC := fun j hj => by obtain ⟨fs, z⟩ := hLT j hj; exact ⟨2, fs, _, hB101 _ _ z (mm_ne_oo z h0 (by decide)), rfl, tw_1913, by decide⟩
    obtain ⟨mo105, h_mo105, -⟩ := id hL102
    refine va_calli (va_runV (As := [.ref q14]) (rest := []) ⟨hx, hb, hml, hown, (fun _ h9 => absurd h9 List.not_mem_nil : ∀ w ∈ ([] : List Cond), w.before _ s = true)⟩ (c_LS_add l D cy A X hst hXT e0 tk hXE mi hXL G92 lc ec nC fC q14 2 _ _ hL102 hLO2 (by omega) h93_2 rfl (by decide) tw_1913) (tb_cw (C := RJx4a65c) 1 hT tw_597 tw_113 tw_594 tw_595 tw_596 rfl rfl hq_Jx4a65c_add_9ea2d ⟨Nat.le_of_ble_eq_true rfl, Nat.le_of_ble_eq_true rfl⟩) (mk_preC hst hG hK hA hX hS vc_1 h_mo105) rfl rfl hl.1 rfl (lv_room (Nat.le_of_ble_eq_true rfl)) dX9_takeCoding_99 ⟨(by show _ ≤ 21; omega), (by show _ ≤ 68 + gco nC; omega)⟩) hS (fun q _ h => h) (fun q h => h) (fun r104 G103 t H locs ht hvm hw hB hz1 hk1 hS => ?_)
    have hG : mm D vwCl A G103 H := by rw [← ht]; exact hB
    clear hB hz1 hk1 hvm ht
    obtain ⟨ec2, hlc2, hec2, hf2⟩ := hw
    have hf3 : ∀ (x ci : Nat) (fs : List Value), G92 x = some (.inr (ci, fs)) → ci ≠ 1 → G103 x = some (.inr (ci, fs)) := fun x ci fs h0 hc => hf2 x _ h0 (Ne.symm (hL102.ne h0 hc)) (fun h1 => LiS.nea hL102 h1 h0)
    have k_o : G103 o = some (.inr (10, [.ref k, .ref ow, .ref ed, .int (nI y94.1.1), .int y94.1.2])) := hf3 _ _ _ h93_1 (by decide)
    have k_el : G103 q14 = some (.inr (2, [.int (nI (nC + 1)), .int r28, .long r30, .ref rl43, .int r60, .int y94.2.1, .int y94.2.2.1, .long y94.2.2.2.1, .long y94.2.2.2.2.1, .long y94.2.2.2.2.2])) := hf3 _ _ _ h93_2 (by decide)
    have hec3 : (1 ≤ nC ∧ ec2 = ec) ∨ G ec2 = none := by
      rcases hec2 with h1 | h1
      · exact Or.inl h1
      · refine Or.inr (none_back hB101 h1 ?_)
        intro z; rw [z, h93_1] at h1; cases h1
    have hfr9 : ∀ (x : Nat) (e : va_E), G x = some e → x ≠ o → x ≠ lc → (1 ≤ nC → x ≠ ec) → G103 x = some e := fun x e h0 n1 n2 n3 => hf2 x e (hB101 x e h0 n1) n2 n3
    have hrl : G rl43 = none := none_back hB40 hn_rl43 (fun z => by rw [z, k33] at hn_rl43; cases hn_rl43)
    have nrl : rl43 ≠ lc := fun z => by obtain ⟨_, z2, -⟩ := hlc; rw [← z, hrl] at z2; cases z2
    have hLr2 : LiS cy e0 G103 rl43 e0 0 (fun _ => 0) := LiS.fr2 (fun x => x ≠ lc ∧ (1 ≤ nC → x ≠ ec)) hLr (fun x e h0 hp => hf2 x e h0 hp.1 hp.2) ⟨nrl, fun h1 z => by obtain ⟨v2, hv2⟩ := hlc.arr h1; rw [← z, hrl] at hv2; cases hv2⟩ (fun v h1 _ => absurd h1 (by decide))
    refine lv_pop hx hb dX9_takeCoding_102 rfl ?_
    have hse : se K y81.1 y81.2 4 = false := by rw [er90] at c_75; revert c_75; cases se K y81.1 y81.2 4 <;> simp [b2i]
    have hq : q_cod K S V nC q = (y94.1, (r28, r30, r60), (y94.2.1, y94.2.2.1, y94.2.2.2.1, y94.2.2.2.2.1, y94.2.2.2.2.2), (0, fun _ => (0, 0, 0, 0))) := by
      simp only [q_cod]
      simp only [← ey7, ← ey32, ← ey51, ← ey62, ← ey81]
      simp only [hse, Bool.false_eq_true, if_false, if_true, reduceIte, er28, er30, er60, ey94]
    have fn106 : G q14 = none := by
      have z := hn_q14
      rw [eG6] at z; replace z := mm_none z
      exact z
    refine W.widen (k := 21) (n := (68 + gco nC)) (by omega) (by omega) ?_
    exact W.vret hx hb hr (fun t ht hW => ⟨⟨_, rfl, (by rw [hq]; exact ⟨q14, rl43, e0, (fun _ => 0), ec2, fn106, hrl, (fun h1 => absurd (show 1 ≤ 0 from h1) (by decide)), k_o, hlc2, hec3, k_el, hLr2, (fun i hi => absurd hi (Nat.not_lt_zero i)), ⟨fun i hi => absurd hi (Nat.not_lt_zero i), fun a b ha => absurd ha (Nat.not_lt_zero a)⟩, (fun h1 => absurd (show 1 ≤ 0 from h1) (by decide)), hfr9⟩), mk_end hG ht⟩, hS.F ht⟩) hS.2.2 dX9_takeCoding_103
  · skip
    refine lv_aload_n hx hb dX9_takeCoding_78 rfl (lv_at hl 1 rfl) ?_
    refine lv_aload_n hx hb dX9_takeCoding_79 rfl (lv_at hl 0 rfl) ?_
    have hB107 : ∀ (x : Nat) (e : va_E), G x = some e → x ≠ o → G80 x = some e := by
      intro x e z0 n_o
      have z1 : G6 x = some e := by rw [eG6]; exact mm_set_of z0 n_o
      have n_q14 : x ≠ q14 := fun z => by rw [z, hn_q14] at z1; cases z1
      have z2 : G15 x = some e := by rw [eG15]; exact mm_set_of z1 n_q14
      have z3 : G31 x = some e := by rw [eG31]; exact mm_set_of z2 n_o
      have n_rl43 : x ≠ rl43 := fun z => by rw [z, hn_rl43] at z3; cases z3
      have z4 : G41 x = some e := h42_f x e z3 n_q14
      have z5 : G50 x = some e := by rw [eG50]; exact mm_set_of z4 n_o
      have z6 : G61 x = some e := by rw [eG61]; exact mm_set_of z5 n_o
      have z7 : G71 x = some e := by rw [eG71]; exact mm_set_of z6 n_q14
      have z8 : G80 x = some e := by rw [eG80]; exact mm_set_of z7 n_o
      exact z8
    have hls0 : LiS cy e0 G80 rl43 e0 0 (fun _ => 0) := ⟨0, by rw [nI_0]; exact k89, Or.inl ⟨rfl, rfl⟩⟩
    refine va_callv (va_runV (As := [.ref q14]) (rest := []) ⟨hx, hb, hml, hown, (fun _ h9 => absurd h9 List.not_mem_nil : ∀ w ∈ ([] : List Cond), w.before _ s = true)⟩ (c_X9_takeRows l D cy A X hst hXT e0 tk hXE mi hXL G80 o ow ed y81 k ks ss vs tn K S V f1 f2 f3 q14 rl43 (nI (nC + 1)) r28 r60 r30 k82 k83 k84 k85 k86 hTP (by first | omega | (simp only []; omega)) k88 hls0) (tb_cw (C := RX9) 1 hT tw_552 tw_106 tw_549 tw_551 tw_14 rfl rfl hq_X9_takeRows ⟨Nat.le_of_ble_eq_true rfl, Nat.le_of_ble_eq_true rfl⟩) (mk_preC hst hG hK hA hX hS vc_10 k82) rfl rfl hl.1 rfl (lv_room (Nat.le_of_ble_eq_true rfl)) dX9_takeCoding_80 ⟨(by show _ ≤ 21; omega), (by show _ ≤ 68 + gco nC; omega)⟩) hS (fun q _ h => h) (fun q h => h) (fun  G108 t H locs ht hvm hw hB hz1 hk1 hS => ?_)
    have hG : mm D vwCl A G108 H := by rw [← ht]; exact hB
    clear hB hz1 hk1 hvm ht
    obtain ⟨y110, ey110⟩ : ∃ y, y = q_rows K S V 9 0 (y81.1 + 1, y81.2) (fun _ => (0, 0, 0, 0)) := ⟨_, rfl⟩
    rw [← ey110] at hw
    obtain ⟨ra, fR, h109_1, hLr, hEr, hra, hNr, h109_f⟩ := hw
    obtain ⟨y111, ey111⟩ : ∃ y, y = q_take K S 5 y110.2.2 := ⟨_, rfl⟩
    rw [← ey111] at h109_1
    have k112 : G108 k = some (.inr (13, [.ref ks, .ref ss, .ref vs, .int (nI tn)])) := h109_f _ _ k83 (mm_ne_oo k83 k82 (by decide)) (mm_ne_oo k83 k89 (by decide))
    have k113 : G108 ks = some (.inl (cy 5, 2001, .inr (.inr (.inr (.inr f1))))) := h109_f _ _ k84 (mm_ne_ao k84 k82) (mm_ne_ao k84 k89)
    have k114 : G108 ss = some (.inl (cy 1, 2001, .inl f2)) := h109_f _ _ k85 (mm_ne_ao k85 k82) (mm_ne_ao k85 k89)
    have k115 : G108 vs = some (.inl (cy 2, 2001, .inr (.inl f3))) := h109_f _ _ k86 (mm_ne_ao k86 k82) (mm_ne_ao k86 k89)
    have k116 : G108 ed = some (.inr (3, [.ref lc, .ref ly, .ref lsv, .ref lco, .ref lva, .ref ljo, .ref na, .int nc, va_rf iu, .int wa, va_rf rs])) := h109_f _ _ k87 (mm_ne_oo k87 k82 (by decide)) (mm_ne_oo k87 k89 (by decide))
    have k117 : G108 q14 = some (.inr (2, [.int (nI (nC + 1)), .int r28, .long r30, .ref rl43, .int r60, .int 0, .int 0, .long 1, .long 1, .long 0])) := h109_f _ _ k88 (mm_ne_oo k88 k82 (by decide)) (mm_ne_oo k88 k89 (by decide))
    refine lv_goto (tgt := 91) hx hb dX9_takeCoding_83 (by decide) ?_
    refine lv_aload_n hx hb dX9_takeCoding_91 rfl (lv_at hl 1 rfl) ?_
    refine mm_get (v := .ref ed) hx hb hf_X9 (fun _ h9 => h9) hown hK hG h109_1 rfl 2 (by decide) (tb_use hT tw_179) (fun _ h9 => h9) rfl dX9_takeCoding_92 ?_
    refine mm_getN (v := .ref lc) hx hb hf_X2 (fun _ h9 => h9) hown hK hG k116 rfl 0 (by decide) (tb_use hT tw_279) (fun _ h9 => h9) rfl dX9_takeCoding_95 ?_
    refine lv_aload_n hx hb dX9_takeCoding_98 rfl (lv_at hl 0 rfl) ?_
    have hB118 : ∀ (x : Nat) (e : va_E), G x = some e → x ≠ o → G108 x = some e := by
      intro x e z0 n_o
      have z1 : G6 x = some e := by rw [eG6]; exact mm_set_of z0 n_o
      have n_q14 : x ≠ q14 := fun z => by rw [z, hn_q14] at z1; cases z1
      have z2 : G15 x = some e := by rw [eG15]; exact mm_set_of z1 n_q14
      have z3 : G31 x = some e := by rw [eG31]; exact mm_set_of z2 n_o
      have n_rl43 : x ≠ rl43 := fun z => by rw [z, hn_rl43] at z3; cases z3
      have z4 : G41 x = some e := h42_f x e z3 n_q14
      have z5 : G50 x = some e := by rw [eG50]; exact mm_set_of z4 n_o
      have z6 : G61 x = some e := by rw [eG61]; exact mm_set_of z5 n_o
      have z7 : G71 x = some e := by rw [eG71]; exact mm_set_of z6 n_q14
      have z8 : G80 x = some e := by rw [eG80]; exact mm_set_of z7 n_o
      have z9 : G108 x = some e := h109_f x e z8 n_o n_rl43
      exact z9
    have hL119 : LiS cy e0 G108 lc ec nC fC := LiS.fr2 (fun x => x ≠ o) hlc (fun x e h0 hp => hB118 x e h0 hp) (hlc.ne h0 (by decide)) (fun v _ hv => mm_ne_ao hv h0)
    have hLO2 : LO G108 nC fC := fun j hj => by obtain ⟨fs, z⟩ := hLT j hj; exact ⟨2, fs, _, hB118 _ _ z (mm_ne_oo z h0 (by decide)), rfl, tw_1913, by decide⟩
    obtain ⟨mo122, h_mo122, -⟩ := id hL119
    refine va_calli (va_runV (As := [.ref q14]) (rest := []) ⟨hx, hb, hml, hown, (fun _ h9 => absurd h9 List.not_mem_nil : ∀ w ∈ ([] : List Cond), w.before _ s = true)⟩ (c_LS_add l D cy A X hst hXT e0 tk hXE mi hXL G108 lc ec nC fC q14 2 _ _ hL119 hLO2 (by omega) k117 rfl (by decide) tw_1913) (tb_cw (C := RJx4a65c) 1 hT tw_597 tw_113 tw_594 tw_595 tw_596 rfl rfl hq_Jx4a65c_add_9ea2d ⟨Nat.le_of_ble_eq_true rfl, Nat.le_of_ble_eq_true rfl⟩) (mk_preC hst hG hK hA hX hS vc_1 h_mo122) rfl rfl hl.1 rfl (lv_room (Nat.le_of_ble_eq_true rfl)) dX9_takeCoding_99 ⟨(by show _ ≤ 21; omega), (by show _ ≤ 68 + gco nC; omega)⟩) hS (fun q _ h => h) (fun q h => h) (fun r121 G120 t H locs ht hvm hw hB hz1 hk1 hS => ?_)
    have hG : mm D vwCl A G120 H := by rw [← ht]; exact hB
    clear hB hz1 hk1 hvm ht
    obtain ⟨ec2, hlc2, hec2, hf2⟩ := hw
    have hf3 : ∀ (x ci : Nat) (fs : List Value), G108 x = some (.inr (ci, fs)) → ci ≠ 1 → G120 x = some (.inr (ci, fs)) := fun x ci fs h0 hc => hf2 x _ h0 (Ne.symm (hL119.ne h0 hc)) (fun h1 => LiS.nea hL119 h1 h0)
    have k_o : G120 o = some (.inr (10, [.ref k, .ref ow, .ref ed, .int (nI y111.1), .int y111.2])) := hf3 _ _ _ h109_1 (by decide)
    have k_el : G120 q14 = some (.inr (2, [.int (nI (nC + 1)), .int r28, .long r30, .ref rl43, .int r60, .int 0, .int 0, .long 1, .long 1, .long 0])) := hf3 _ _ _ k117 (by decide)
    have hec3 : (1 ≤ nC ∧ ec2 = ec) ∨ G ec2 = none := by
      rcases hec2 with h1 | h1
      · exact Or.inl h1
      · refine Or.inr (none_back hB118 h1 ?_)
        intro z; rw [z, h109_1] at h1; cases h1
    have hfr9 : ∀ (x : Nat) (e : va_E), G x = some e → x ≠ o → x ≠ lc → (1 ≤ nC → x ≠ ec) → G120 x = some e := fun x e h0 n1 n2 n3 => hf2 x e (hB118 x e h0 n1) n2 n3
    have hrl : G rl43 = none := none_back hB40 hn_rl43 (fun z => by rw [z, k33] at hn_rl43; cases hn_rl43)
    have nrl : rl43 ≠ lc := fun z => by obtain ⟨_, z2, -⟩ := hlc; rw [← z, hrl] at z2; cases z2
    have hra2 : 1 ≤ y110.1 → G ra = none := fun h1 => none_back hB107 (hra h1) (fun z => by have z2 := hra h1; rw [z, k82] at z2; cases z2)
    have nra : 1 ≤ y110.1 → ra ≠ ec2 := by
      intro h1 z
      obtain ⟨v, hv⟩ := hLr.arr h1
      rcases hec2 with ⟨h2, h3⟩ | h2
      · obtain ⟨v2, hv2⟩ := hlc.arr h2
        rw [← h3, ← z, hra2 h1] at hv2; cases hv2
      · rw [← z, hv] at h2; cases h2
    have hLr2 : LiS cy e0 G120 rl43 ra y110.1 fR := LiS.fr2 (fun x => x ≠ lc ∧ (1 ≤ nC → x ≠ ec)) hLr (fun x e h0 hp => hf2 x e h0 hp.1 hp.2) ⟨nrl, fun h1 z => by obtain ⟨v2, hv2⟩ := hlc.arr h1; rw [← z, hrl] at hv2; cases hv2⟩ (fun v h1 hv => ⟨(fun z => (by obtain ⟨_, z2, -⟩ := hlc; rw [← z, hra2 h1] at z2; cases z2)), (fun h2 z => (by obtain ⟨v2, hv2⟩ := hlc.arr h2; rw [← z, hra2 h1] at hv2; cases hv2))⟩)
    have hNr2 : NW G y110.1 fR := ⟨fun i hi => none_back hB107 (hNr.1 i hi) (fun z => by have z2 := hNr.1 i hi; rw [z, k82] at z2; cases z2), hNr.2⟩
    have hEr2 : EN G120 y110.1 fR y110.2.1 := fun i hi => hf3 _ _ _ (hEr i hi) (by decide)
    refine lv_pop hx hb dX9_takeCoding_102 rfl ?_
    have hse : se K y81.1 y81.2 4 = true := by rw [er90] at c_75; revert c_75; cases se K y81.1 y81.2 4 <;> simp [b2i]
    have hq : q_cod K S V nC q = (y111, (r28, r30, r60), (0, 0, 1, 1, 0), (y110.1, y110.2.1)) := by
      simp only [q_cod]
      simp only [← ey7, ← ey32, ← ey51, ← ey62, ← ey81]
      simp only [hse, Bool.false_eq_true, if_false, if_true, reduceIte, er28, er30, er60, ey110, ey111]
    have fn123 : G q14 = none := by
      have z := hn_q14
      rw [eG6] at z; replace z := mm_none z
      exact z
    refine W.widen (k := 21) (n := (68 + gco nC)) (by omega) (by omega) ?_
    exact W.vret hx hb hr (fun t ht hW => ⟨⟨_, rfl, (by rw [hq]; exact ⟨q14, rl43, ra, fR, ec2, fn123, hrl, hra2, k_o, hlc2, hec3, k_el, hLr2, hEr2, hNr2, nra, hfr9⟩), mk_end hG ht⟩, hS.F ht⟩) hS.2.2 dX9_takeCoding_103
