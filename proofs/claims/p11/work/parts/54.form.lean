/-- a coding's FORM: (place, fault), then signed, scaled, times, over, plus -/
def q_form (K : Nat → Nat) (S : Nat → Int32) (V : Nat → Int64) (q : Nat × Int32) : (Nat × Int32) × Int32 × Int32 × Int64 × Int64 × Int64 :=
  if se K q.1 q.2 13 then (q_take K S 6 (q.1 + 1, q.2), 1, 0, 1, 1, 0)
  else if se K q.1 q.2 14 then
    (q_take K S 6 (q_val K S V (q_take K S 15 (q_num K S V 1 999999 (q_take K S 9 (q_val K S V (q.1 + 1, q.2)).2)).2)).2, 0, 1,
      (q_val K S V (q.1 + 1, q.2)).1.toInt64, (q_num K S V 1 999999 (q_take K S 9 (q_val K S V (q.1 + 1, q.2)).2)).1.toInt64,
      (q_val K S V (q_take K S 15 (q_num K S V 1 999999 (q_take K S 9 (q_val K S V (q.1 + 1, q.2)).2)).2)).1.toInt64)
  else (q_take K S 6 q, 0, 0, 1, 1, 0)
set_option maxHeartbeats 4000000 in
set_option maxRecDepth 100000 in
theorem c_X9_takeForm (l : Launch) (D : va_G) (cy : Nat → ClassId) (A : Nat → Prop) (X : State → Prop) (hst : mk_St A X) (hXT : ∀ U : State, X U → TB U) (e0 : Nat) (tk : Nat → Nat) (hXE : ∀ U : State, X U → ES e0 tk A U) (G : Nat → Option va_E) (o ow ed : Nat) (q : Nat × Int32) (k ks ss vs tn : Nat) (K : Nat → Nat) (S : Nat → Int32) (V : Nat → Int64) (f1 : Nat → Option Nat) (f2 : Nat → Int32) (f3 : Nat → Int64) (ca rl : Nat) (nu at_ wd : Int32) (cn : Int64) (h0 : G o = some (.inr (10, [.ref k, .ref ow, .ref ed, .int (nI q.1), .int q.2]))) (q1 : G k = some (.inr (13, [.ref ks, .ref ss, .ref vs, .int (nI tn)]))) (q2 : G ks = some (.inl (cy 5, 2001, .inr (.inr (.inr (.inr f1)))))) (q3 : G ss = some (.inl (cy 1, 2001, .inl f2))) (q4 : G vs = some (.inl (cy 2, 2001, .inr (.inl f3)))) (hTP : TKP tk tn K S V f1 f2 f3) (hp : q.1 < 2 ^ 28) (h9 : G ca = some (.inr (2, [.int nu, .int at_, .long cn, .ref rl, .int wd, .int 0, .int 0, .long 1, .long 1, .long 0]))) : Met l yX9_takeForm [.code yX9_takeForm cX9_takeForm 2 none] ({ frames := 4, cells := 0, slots := 0, locals := 120 }) (mk_Pre D vwCl (tyL cy) A X G [.ref o, .ref ca]) (va_Qv (fun (G2 : Nat → Option va_E) => G2 o = some (.inr (10, [.ref k, .ref ow, .ref ed, .int (nI ((q_form K S V q).1).1), .int (((q_form K S V q).1).2)])) ∧ G2 ca = some (.inr (2, [.int nu, .int at_, .long cn, .ref rl, .int wd, .int ((q_form K S V q).2.1), .int ((q_form K S V q).2.2.1), .long ((q_form K S V q).2.2.2.1), .long ((q_form K S V q).2.2.2.2.1), .long ((q_form K S V q).2.2.2.2.2)])) ∧ ∀ (x : Nat) (e : va_E), G x = some e → x ≠ o → x ≠ ca → G2 x = some e) (mk_B D vwCl A) A) 0 0 A := by
  refine Met.ofW (cc := cX9_takeForm) (maxL := 2) (ret := none) (by decide) rfl ?_
  intro p e s m args below meth c s₁ B hml hv
  obtain ⟨rfl, hG, hK, hA, hX⟩ := hv
  have hx := B.exec
  have hb := B.bytes
  have hr := B.returns
  have hlocks := B.notSynchronized
  have hT := hXT s hX
  have hown : s.vm.findClass RX9 = some m.cls := findClass_of_methodNamed B.named
  have hf_X9 : ∀ w ∈ u_ws RX9 TX9 5, w.before ([.ref o, .ref ca] : List Value).toArray s = true := tb_list hT fX9
  have hf_X1 : ∀ w ∈ u_ws RX1 TX1 10, w.before ([.ref o, .ref ca] : List Value).toArray s = true := tb_list hT fX1
  have hS : va_S A s.heap s.heap [] := va_S.rf
  have hE := hXE s hX
  have hl := lv_entry ([.ref o, .ref ca]) (n := 2) (Nat.le_of_ble_eq_true rfl)
  rw [lg_entry_eq]
  generalize (lg_sl ([.ref o, .ref ca]) ++ List.replicate (2 - (lg_sl ([.ref o, .ref ca])).length) Slot.unset).toArray = ls at hl ⊢
  have hl : lv_has ls 2 [(0, .ref o), (1, .ref ca)] := hl
  refine lv_aload_n hx hb dX9_takeForm_0 rfl (lv_at hl 0 rfl) ?_
  refine va_gets (v := .ref (tk 13)) hx hb (show va_Z "DescribeText$Token" "SIGNED" "LDescribeText$Token;" (.ref (tk 13)) A s s.heap from (hE.2.1 13 (by decide)).1) hS hown (tb_use hT tw_661) (fun _ h9 => h9) dX9_takeForm_1 ?_
  refine va_calli (va_runV (As := [.ref (tk 13)]) (rest := []) ⟨hx, hb, hml, hown, (fun _ h9 => absurd h9 List.not_mem_nil : ∀ w ∈ ([] : List Cond), w.before _ s = true)⟩ (c_X9_sees l D cy A X hst hXT e0 tk hXE G o ow ed q k ks ss vs tn K S V f1 f2 f3 13 h0 q1 q2 q3 q4 hTP (by first | omega | (simp only []; omega)) (by decide)) (tb_cw (C := RX9) 1 hT tw_437 tw_106 tw_434 tw_436 tw_6 rfl rfl hq_X9_sees ⟨Nat.le_of_ble_eq_true rfl, Nat.le_of_ble_eq_true rfl⟩) (mk_preC hst hG hK hA hX hS vc_10 h0) rfl rfl hl.1 rfl (lv_room (Nat.le_of_ble_eq_true rfl)) dX9_takeForm_4 ⟨Nat.le_of_ble_eq_true rfl, Nat.le_of_ble_eq_true rfl⟩) hS (fun q _ h => h) (fun q h => h) (fun r1 G2 t H locs ht hvm hw hB hz1 hk1 hS => ?_)
  have hG : mm D vwCl A G2 H := by rw [← ht]; exact hB
  clear hB hz1 hk1 hvm ht
  obtain ⟨er1, hw⟩ := hw
  rw [hw] at hG
  refine lv_if_eq (tgt := 28) hx hb dX9_takeForm_7 (by decide) (fun c_7 => ?_) (fun c_7 => ?_)
  · skip
    refine lv_aload_n hx hb dX9_takeForm_28 rfl (lv_at hl 0 rfl) ?_
    refine va_gets (v := .ref (tk 14)) hx hb (show va_Z "DescribeText$Token" "SCALE" "LDescribeText$Token;" (.ref (tk 14)) A s s.heap from (hE.2.1 14 (by decide)).1) hS hown (tb_use hT tw_663) (fun _ h9 => h9) dX9_takeForm_29 ?_
    refine va_calli (va_runV (As := [.ref (tk 14)]) (rest := []) ⟨hx, hb, hml, hown, (fun _ h9 => absurd h9 List.not_mem_nil : ∀ w ∈ ([] : List Cond), w.before _ s = true)⟩ (c_X9_sees l D cy A X hst hXT e0 tk hXE G o ow ed q k ks ss vs tn K S V f1 f2 f3 14 h0 q1 q2 q3 q4 hTP (by first | omega | (simp only []; omega)) (by decide)) (tb_cw (C := RX9) 1 hT tw_437 tw_106 tw_434 tw_436 tw_6 rfl rfl hq_X9_sees ⟨Nat.le_of_ble_eq_true rfl, Nat.le_of_ble_eq_true rfl⟩) (mk_preC hst hG hK hA hX hS vc_10 h0) rfl rfl hl.1 rfl (lv_room (Nat.le_of_ble_eq_true rfl)) dX9_takeForm_32 ⟨Nat.le_of_ble_eq_true rfl, Nat.le_of_ble_eq_true rfl⟩) hS (fun q _ h => h) (fun q h => h) (fun r3 G4 t H locs ht hvm hw hB hz1 hk1 hS => ?_)
    have hG : mm D vwCl A G4 H := by rw [← ht]; exact hB
    clear hB hz1 hk1 hvm ht
    obtain ⟨er3, hw⟩ := hw
    rw [hw] at hG
    refine lv_if_eq (tgt := 97) hx hb dX9_takeForm_35 (by decide) (fun c_35 => ?_) (fun c_35 => ?_)
    · skip
      refine lv_aload_n hx hb dX9_takeForm_97 rfl (lv_at hl 0 rfl) ?_
      refine va_gets (v := .ref (tk 6)) hx hb (show va_Z "DescribeText$Token" "SEMICOLON" "LDescribeText$Token;" (.ref (tk 6)) A s s.heap from (hE.2.1 6 (by decide)).1) hS hown (tb_use hT tw_592) (fun _ h9 => h9) dX9_takeForm_98 ?_
      refine va_callv (va_runV (As := [.ref (tk 6)]) (rest := []) ⟨hx, hb, hml, hown, (fun _ h9 => absurd h9 List.not_mem_nil : ∀ w ∈ ([] : List Cond), w.before _ s = true)⟩ (c_X9_take l D cy A X hst hXT e0 tk hXE G o ow ed q k ks ss vs tn K S V f1 f2 f3 6 h0 q1 q2 q3 q4 hTP (by first | omega | (simp only []; omega)) (by decide)) (tb_cw (C := RX9) 1 hT tw_539 tw_106 tw_536 tw_538 tw_12 rfl rfl hq_X9_take ⟨Nat.le_of_ble_eq_true rfl, Nat.le_of_ble_eq_true rfl⟩) (mk_preC hst hG hK hA hX hS vc_10 h0) rfl rfl hl.1 rfl (lv_room (Nat.le_of_ble_eq_true rfl)) dX9_takeForm_101 ⟨Nat.le_of_ble_eq_true rfl, Nat.le_of_ble_eq_true rfl⟩) hS (fun q _ h => h) (fun q h => h) (fun  G5 t H locs ht hvm hw hB hz1 hk1 hS => ?_)
      have hG : mm D vwCl A G5 H := by rw [← ht]; exact hB
      clear hB hz1 hk1 hvm ht
      obtain ⟨y6, ey6⟩ : ∃ y, y = q_take K S 6 q := ⟨_, rfl⟩
      rw [← ey6] at hw
      have ly6 : y6.1 ≤ q.1 + 1 := by rw [ey6]; exact q_take_le
      have eG5 := hw
      clear hw
      have k7 : G5 o = some (.inr (10, [.ref k, .ref ow, .ref ed, .int (nI y6.1), .int y6.2])) := by rw [eG5]; exact mm_set_self
      have k8 : G5 k = some (.inr (13, [.ref ks, .ref ss, .ref vs, .int (nI tn)])) := by rw [eG5]; exact mm_set_of q1 (mm_ne_oo q1 h0 (by decide))
      have k9 : G5 ks = some (.inl (cy 5, 2001, .inr (.inr (.inr (.inr f1))))) := by rw [eG5]; exact mm_set_of q2 (mm_ne_ao q2 h0)
      have k10 : G5 ss = some (.inl (cy 1, 2001, .inl f2)) := by rw [eG5]; exact mm_set_of q3 (mm_ne_ao q3 h0)
      have k11 : G5 vs = some (.inl (cy 2, 2001, .inr (.inl f3))) := by rw [eG5]; exact mm_set_of q4 (mm_ne_ao q4 h0)
      have k12 : G5 ca = some (.inr (2, [.int nu, .int at_, .long cn, .ref rl, .int wd, .int 0, .int 0, .long 1, .long 1, .long 0])) := by rw [eG5]; exact mm_set_of h9 (mm_ne_oo h9 h0 (by decide))
      have hfr : ∀ (x : Nat) (e : va_E), G x = some e → x ≠ o → x ≠ ca → G5 x = some e := by
        intro x e z0 n_o n_ca
        have z1 : G5 x = some e := by rw [eG5]; exact mm_set_of z0 n_o
        exact z1
      have hs1 : se K q.1 q.2 13 = false := by rw [er1] at c_7; revert c_7; cases se K q.1 q.2 13 <;> simp [b2i]
      have hs2 : se K q.1 q.2 14 = false := by rw [er3] at c_35; revert c_35; cases se K q.1 q.2 14 <;> simp [b2i]
      have hq : q_form K S V q = (y6, 0, 0, 1, 1, 0) := by
        rw [q_form]
        simp only [hs1, hs2, Bool.false_eq_true, if_false, if_true, reduceIte, ey6]
      exact W.vret hx hb hr (fun t ht hW => ⟨⟨_, rfl, (by rw [hq]; exact ⟨k7, k12, hfr⟩), mk_end hG ht⟩, hS.F ht⟩) hS.2.2 dX9_takeForm_104
    · skip
      refine lv_aload_n hx hb dX9_takeForm_38 rfl (lv_at hl 0 rfl) ?_
      refine lv_dup hx hb dX9_takeForm_39 rfl ?_
      refine mm_get (v := .int (nI q.1)) hx hb hf_X9 (fun _ h9 => h9) hown hK hG h0 rfl 3 (by decide) (tb_use hT tw_180) (fun _ h9 => h9) rfl dX9_takeForm_40 ?_
      refine lv_iconst (v := 1) hx hb dX9_takeForm_43 (by decide) ?_
      refine lv_iadd hx hb dX9_takeForm_44 ?_
      rw [← nI_succ q.1]
      refine mm_put (v := .int (nI (q.1 + 1))) (ty := .int) hx hb hf_X9 (fun _ h9 => h9) tyX9 tyX9_ok nmX9 hown hK hG hS h0 rfl 3 (by decide) (tb_use hT tw_180) (fun _ h9 => h9) rfl (by decide +kernel) rfl rfl (Nat.le_of_ble_eq_true rfl) dX9_takeForm_45 (fun H locs hG hS => ?_)
      obtain ⟨G13, eG13⟩ : ∃ g, g = mm_set G o (.inr (10, [.ref k, .ref ow, .ref ed, .int (nI (q.1 + 1)), .int q.2])) := ⟨_, rfl⟩
      have hG : mm D vwCl A G13 H := by rw [eG13]; exact hG
      have k14 : G13 o = some (.inr (10, [.ref k, .ref ow, .ref ed, .int (nI (q.1 + 1)), .int q.2])) := by rw [eG13]; exact mm_set_self
      have k15 : G13 k = some (.inr (13, [.ref ks, .ref ss, .ref vs, .int (nI tn)])) := by rw [eG13]; exact mm_set_of q1 (mm_ne_oo q1 h0 (by decide))
      have k16 : G13 ks = some (.inl (cy 5, 2001, .inr (.inr (.inr (.inr f1))))) := by rw [eG13]; exact mm_set_of q2 (mm_ne_ao q2 h0)
      have k17 : G13 ss = some (.inl (cy 1, 2001, .inl f2)) := by rw [eG13]; exact mm_set_of q3 (mm_ne_ao q3 h0)
      have k18 : G13 vs = some (.inl (cy 2, 2001, .inr (.inl f3))) := by rw [eG13]; exact mm_set_of q4 (mm_ne_ao q4 h0)
      have k19 : G13 ca = some (.inr (2, [.int nu, .int at_, .long cn, .ref rl, .int wd, .int 0, .int 0, .long 1, .long 1, .long 0])) := by rw [eG13]; exact mm_set_of h9 (mm_ne_oo h9 h0 (by decide))
      refine lv_aload_n hx hb dX9_takeForm_48 rfl (lv_at hl 1 rfl) ?_
      refine lv_iconst (v := 1) hx hb dX9_takeForm_49 (by decide) ?_
      refine mm_putN (v := .int 1) (ty := .boolean) hx hb hf_X1 (fun _ h9 => h9) tyX1 tyX1_ok nmX1 hown hK hG hS k19 rfl 6 (by decide) (tb_use hT tw_505) (fun _ h9 => h9) rfl (by decide +kernel) rfl rfl (Nat.le_of_ble_eq_true rfl) dX9_takeForm_50 (fun H locs hG hS => ?_)
      obtain ⟨G20, eG20⟩ : ∃ g, g = mm_set G13 ca (.inr (2, [.int nu, .int at_, .long cn, .ref rl, .int wd, .int 0, .int 1, .long 1, .long 1, .long 0])) := ⟨_, rfl⟩
      have hG : mm D vwCl A G20 H := by rw [eG20]; exact hG
      have k21 : G20 o = some (.inr (10, [.ref k, .ref ow, .ref ed, .int (nI (q.1 + 1)), .int q.2])) := by rw [eG20]; exact mm_set_of k14 (mm_ne_oo k14 k19 (by decide))
      have k22 : G20 k = some (.inr (13, [.ref ks, .ref ss, .ref vs, .int (nI tn)])) := by rw [eG20]; exact mm_set_of k15 (mm_ne_oo k15 k19 (by decide))
      have k23 : G20 ks = some (.inl (cy 5, 2001, .inr (.inr (.inr (.inr f1))))) := by rw [eG20]; exact mm_set_of k16 (mm_ne_ao k16 k19)
      have k24 : G20 ss = some (.inl (cy 1, 2001, .inl f2)) := by rw [eG20]; exact mm_set_of k17 (mm_ne_ao k17 k19)
      have k25 : G20 vs = some (.inl (cy 2, 2001, .inr (.inl f3))) := by rw [eG20]; exact mm_set_of k18 (mm_ne_ao k18 k19)
      have k26 : G20 ca = some (.inr (2, [.int nu, .int at_, .long cn, .ref rl, .int wd, .int 0, .int 1, .long 1, .long 1, .long 0])) := by rw [eG20]; exact mm_set_self
      refine lv_aload_n hx hb dX9_takeForm_53 rfl (lv_at hl 1 rfl) ?_
      refine lv_aload_n hx hb dX9_takeForm_54 rfl (lv_at hl 0 rfl) ?_
      refine va_calli (va_runV (As := []) (rest := [.ref ca]) ⟨hx, hb, hml, hown, (fun _ h9 => absurd h9 List.not_mem_nil : ∀ w ∈ ([] : List Cond), w.before _ s = true)⟩ (c_X9_takeValue l D cy A X hst hXT e0 tk hXE G20 o ow ed (q.1 + 1, q.2) k ks ss vs tn K S V f1 f2 f3  k21 k22 k23 k24 k25 hTP (by first | omega | (simp only []; omega)) ) (tb_cw (C := RX9) 0 hT tw_668 tw_106 tw_665 tw_667 tw_21 rfl rfl hq_X9_takeValue ⟨Nat.le_of_ble_eq_true rfl, Nat.le_of_ble_eq_true rfl⟩) (mk_preC hst hG hK hA hX hS vc_10 k21) rfl rfl hl.1 rfl (lv_room (Nat.le_of_ble_eq_true rfl)) dX9_takeForm_55 ⟨Nat.le_of_ble_eq_true rfl, Nat.le_of_ble_eq_true rfl⟩) hS (fun q _ h => h) (fun q h => h) (fun r27 G28 t H locs ht hvm hw hB hz1 hk1 hS => ?_)
      have hG : mm D vwCl A G28 H := by rw [← ht]; exact hB
      clear hB hz1 hk1 hvm ht
      obtain ⟨y29, ey29⟩ : ∃ y, y = q_val K S V (q.1 + 1, q.2) := ⟨_, rfl⟩
      rw [← ey29] at hw
      obtain ⟨er27, hw⟩ := hw
      have ly29 : y29.2.1 ≤ (q.1 + 1, q.2).1 + 2 := by rw [ey29]; exact q_val_le
      have eG28 := hw
      clear hw
      have k30 : G28 o = some (.inr (10, [.ref k, .ref ow, .ref ed, .int (nI y29.2.1), .int y29.2.2])) := by rw [eG28]; exact mm_set_self
      have k31 : G28 k = some (.inr (13, [.ref ks, .ref ss, .ref vs, .int (nI tn)])) := by rw [eG28]; exact mm_set_of k22 (mm_ne_oo k22 k21 (by decide))
      have k32 : G28 ks = some (.inl (cy 5, 2001, .inr (.inr (.inr (.inr f1))))) := by rw [eG28]; exact mm_set_of k23 (mm_ne_ao k23 k21)
      have k33 : G28 ss = some (.inl (cy 1, 2001, .inl f2)) := by rw [eG28]; exact mm_set_of k24 (mm_ne_ao k24 k21)
      have k34 : G28 vs = some (.inl (cy 2, 2001, .inr (.inl f3))) := by rw [eG28]; exact mm_set_of k25 (mm_ne_ao k25 k21)
      have k35 : G28 ca = some (.inr (2, [.int nu, .int at_, .long cn, .ref rl, .int wd, .int 0, .int 1, .long 1, .long 1, .long 0])) := by rw [eG28]; exact mm_set_of k26 (mm_ne_oo k26 k21 (by decide))
      obtain ⟨x36, ex36⟩ : ∃ y, y = (r27 : Int32).toInt64 := ⟨_, rfl⟩
      refine lv_i2l (v := x36) hx hb dX9_takeForm_58 ex36.symm ?_
      refine mm_putN (v := .long x36) (ty := .long) hx hb hf_X1 (fun _ h9 => h9) tyX1 tyX1_ok nmX1 hown hK hG hS k35 rfl 7 (by decide) (tb_use hT tw_508) (fun _ h9 => h9) rfl (by decide +kernel) rfl rfl (Nat.le_of_ble_eq_true rfl) dX9_takeForm_59 (fun H locs hG hS => ?_)
      obtain ⟨G37, eG37⟩ : ∃ g, g = mm_set G28 ca (.inr (2, [.int nu, .int at_, .long cn, .ref rl, .int wd, .int 0, .int 1, .long x36, .long 1, .long 0])) := ⟨_, rfl⟩
      have hG : mm D vwCl A G37 H := by rw [eG37]; exact hG
      have k38 : G37 o = some (.inr (10, [.ref k, .ref ow, .ref ed, .int (nI y29.2.1), .int y29.2.2])) := by rw [eG37]; exact mm_set_of k30 (mm_ne_oo k30 k35 (by decide))
      have k39 : G37 k = some (.inr (13, [.ref ks, .ref ss, .ref vs, .int (nI tn)])) := by rw [eG37]; exact mm_set_of k31 (mm_ne_oo k31 k35 (by decide))
      have k40 : G37 ks = some (.inl (cy 5, 2001, .inr (.inr (.inr (.inr f1))))) := by rw [eG37]; exact mm_set_of k32 (mm_ne_ao k32 k35)
      have k41 : G37 ss = some (.inl (cy 1, 2001, .inl f2)) := by rw [eG37]; exact mm_set_of k33 (mm_ne_ao k33 k35)
      have k42 : G37 vs = some (.inl (cy 2, 2001, .inr (.inl f3))) := by rw [eG37]; exact mm_set_of k34 (mm_ne_ao k34 k35)
      have k43 : G37 ca = some (.inr (2, [.int nu, .int at_, .long cn, .ref rl, .int wd, .int 0, .int 1, .long x36, .long 1, .long 0])) := by rw [eG37]; exact mm_set_self
      refine lv_aload_n hx hb dX9_takeForm_62 rfl (lv_at hl 0 rfl) ?_
      refine va_gets (v := .ref (tk 9)) hx hb (show va_Z "DescribeText$Token" "SLASH" "LDescribeText$Token;" (.ref (tk 9)) A s s.heap from (hE.2.1 9 (by decide)).1) hS hown (tb_use hT tw_671) (fun _ h9 => h9) dX9_takeForm_63 ?_
      refine va_callv (va_runV (As := [.ref (tk 9)]) (rest := []) ⟨hx, hb, hml, hown, (fun _ h9 => absurd h9 List.not_mem_nil : ∀ w ∈ ([] : List Cond), w.before _ s = true)⟩ (c_X9_take l D cy A X hst hXT e0 tk hXE G37 o ow ed y29.2 k ks ss vs tn K S V f1 f2 f3 9 k38 k39 k40 k41 k42 hTP (by first | omega | (simp only []; omega)) (by decide)) (tb_cw (C := RX9) 1 hT tw_539 tw_106 tw_536 tw_538 tw_12 rfl rfl hq_X9_take ⟨Nat.le_of_ble_eq_true rfl, Nat.le_of_ble_eq_true rfl⟩) (mk_preC hst hG hK hA hX hS vc_10 k38) rfl rfl hl.1 rfl (lv_room (Nat.le_of_ble_eq_true rfl)) dX9_takeForm_66 ⟨Nat.le_of_ble_eq_true rfl, Nat.le_of_ble_eq_true rfl⟩) hS (fun q _ h => h) (fun q h => h) (fun  G44 t H locs ht hvm hw hB hz1 hk1 hS => ?_)
      have hG : mm D vwCl A G44 H := by rw [← ht]; exact hB
      clear hB hz1 hk1 hvm ht
      obtain ⟨y45, ey45⟩ : ∃ y, y = q_take K S 9 y29.2 := ⟨_, rfl⟩
      rw [← ey45] at hw
      have ly45 : y45.1 ≤ y29.2.1 + 1 := by rw [ey45]; exact q_take_le
      have eG44 := hw
      clear hw
      have k46 : G44 o = some (.inr (10, [.ref k, .ref ow, .ref ed, .int (nI y45.1), .int y45.2])) := by rw [eG44]; exact mm_set_self
      have k47 : G44 k = some (.inr (13, [.ref ks, .ref ss, .ref vs, .int (nI tn)])) := by rw [eG44]; exact mm_set_of k39 (mm_ne_oo k39 k38 (by decide))
      have k48 : G44 ks = some (.inl (cy 5, 2001, .inr (.inr (.inr (.inr f1))))) := by rw [eG44]; exact mm_set_of k40 (mm_ne_ao k40 k38)
      have k49 : G44 ss = some (.inl (cy 1, 2001, .inl f2)) := by rw [eG44]; exact mm_set_of k41 (mm_ne_ao k41 k38)
      have k50 : G44 vs = some (.inl (cy 2, 2001, .inr (.inl f3))) := by rw [eG44]; exact mm_set_of k42 (mm_ne_ao k42 k38)
      have k51 : G44 ca = some (.inr (2, [.int nu, .int at_, .long cn, .ref rl, .int wd, .int 0, .int 1, .long x36, .long 1, .long 0])) := by rw [eG44]; exact mm_set_of k43 (mm_ne_oo k43 k38 (by decide))
      refine lv_aload_n hx hb dX9_takeForm_69 rfl (lv_at hl 1 rfl) ?_
      refine lv_aload_n hx hb dX9_takeForm_70 rfl (lv_at hl 0 rfl) ?_
      refine lv_iconst (v := 1) hx hb dX9_takeForm_71 (by decide) ?_
      refine lv_ldc hx hb hown (tb_use hT tw_587) dX9_takeForm_72 ?_
      refine va_calli (va_runV (As := [.int 1, .int 999999]) (rest := [.ref ca]) ⟨hx, hb, hml, hown, (fun _ h9 => absurd h9 List.not_mem_nil : ∀ w ∈ ([] : List Cond), w.before _ s = true)⟩ (c_X9_takeNumber l D cy A X hst hXT e0 tk hXE G44 o ow ed y45 k ks ss vs tn K S V f1 f2 f3 1 999999 k46 k47 k48 k49 k50 hTP (by first | omega | (simp only []; omega)) ) (tb_cw (C := RX9) 2 hT tw_543 tw_106 tw_540 tw_542 tw_13 rfl rfl hq_X9_takeNumber ⟨Nat.le_of_ble_eq_true rfl, Nat.le_of_ble_eq_true rfl⟩) (mk_preC hst hG hK hA hX hS vc_10 k46) rfl rfl hl.1 rfl (lv_room (Nat.le_of_ble_eq_true rfl)) dX9_takeForm_74 ⟨Nat.le_of_ble_eq_true rfl, Nat.le_of_ble_eq_true rfl⟩) hS (fun q _ h => h) (fun q h => h) (fun r52 G53 t H locs ht hvm hw hB hz1 hk1 hS => ?_)
      have hG : mm D vwCl A G53 H := by rw [← ht]; exact hB
      clear hB hz1 hk1 hvm ht
      obtain ⟨y54, ey54⟩ : ∃ y, y = q_num K S V 1 999999 y45 := ⟨_, rfl⟩
      rw [← ey54] at hw
      obtain ⟨er52, hw⟩ := hw
      have ly54 : y54.2.1 ≤ y45.1 + 1 := by rw [ey54]; exact q_num_le
      have eG53 := hw
      clear hw
      have k55 : G53 o = some (.inr (10, [.ref k, .ref ow, .ref ed, .int (nI y54.2.1), .int y54.2.2])) := by rw [eG53]; exact mm_set_self
      have k56 : G53 k = some (.inr (13, [.ref ks, .ref ss, .ref vs, .int (nI tn)])) := by rw [eG53]; exact mm_set_of k47 (mm_ne_oo k47 k46 (by decide))
      have k57 : G53 ks = some (.inl (cy 5, 2001, .inr (.inr (.inr (.inr f1))))) := by rw [eG53]; exact mm_set_of k48 (mm_ne_ao k48 k46)
      have k58 : G53 ss = some (.inl (cy 1, 2001, .inl f2)) := by rw [eG53]; exact mm_set_of k49 (mm_ne_ao k49 k46)
      have k59 : G53 vs = some (.inl (cy 2, 2001, .inr (.inl f3))) := by rw [eG53]; exact mm_set_of k50 (mm_ne_ao k50 k46)
      have k60 : G53 ca = some (.inr (2, [.int nu, .int at_, .long cn, .ref rl, .int wd, .int 0, .int 1, .long x36, .long 1, .long 0])) := by rw [eG53]; exact mm_set_of k51 (mm_ne_oo k51 k46 (by decide))
      obtain ⟨x61, ex61⟩ : ∃ y, y = (r52 : Int32).toInt64 := ⟨_, rfl⟩
      refine lv_i2l (v := x61) hx hb dX9_takeForm_77 ex61.symm ?_
      refine mm_putN (v := .long x61) (ty := .long) hx hb hf_X1 (fun _ h9 => h9) tyX1 tyX1_ok nmX1 hown hK hG hS k60 rfl 8 (by decide) (tb_use hT tw_510) (fun _ h9 => h9) rfl (by decide +kernel) rfl rfl (Nat.le_of_ble_eq_true rfl) dX9_takeForm_78 (fun H locs hG hS => ?_)
      obtain ⟨G62, eG62⟩ : ∃ g, g = mm_set G53 ca (.inr (2, [.int nu, .int at_, .long cn, .ref rl, .int wd, .int 0, .int 1, .long x36, .long x61, .long 0])) := ⟨_, rfl⟩
      have hG : mm D vwCl A G62 H := by rw [eG62]; exact hG
      have k63 : G62 o = some (.inr (10, [.ref k, .ref ow, .ref ed, .int (nI y54.2.1), .int y54.2.2])) := by rw [eG62]; exact mm_set_of k55 (mm_ne_oo k55 k60 (by decide))
      have k64 : G62 k = some (.inr (13, [.ref ks, .ref ss, .ref vs, .int (nI tn)])) := by rw [eG62]; exact mm_set_of k56 (mm_ne_oo k56 k60 (by decide))
      have k65 : G62 ks = some (.inl (cy 5, 2001, .inr (.inr (.inr (.inr f1))))) := by rw [eG62]; exact mm_set_of k57 (mm_ne_ao k57 k60)
      have k66 : G62 ss = some (.inl (cy 1, 2001, .inl f2)) := by rw [eG62]; exact mm_set_of k58 (mm_ne_ao k58 k60)
      have k67 : G62 vs = some (.inl (cy 2, 2001, .inr (.inl f3))) := by rw [eG62]; exact mm_set_of k59 (mm_ne_ao k59 k60)
      have k68 : G62 ca = some (.inr (2, [.int nu, .int at_, .long cn, .ref rl, .int wd, .int 0, .int 1, .long x36, .long x61, .long 0])) := by rw [eG62]; exact mm_set_self
      refine lv_aload_n hx hb dX9_takeForm_81 rfl (lv_at hl 0 rfl) ?_
      refine va_gets (v := .ref (tk 15)) hx hb (show va_Z "DescribeText$Token" "PLUS" "LDescribeText$Token;" (.ref (tk 15)) A s s.heap from (hE.2.1 15 (by decide)).1) hS hown (tb_use hT tw_673) (fun _ h9 => h9) dX9_takeForm_82 ?_
      refine va_callv (va_runV (As := [.ref (tk 15)]) (rest := []) ⟨hx, hb, hml, hown, (fun _ h9 => absurd h9 List.not_mem_nil : ∀ w ∈ ([] : List Cond), w.before _ s = true)⟩ (c_X9_take l D cy A X hst hXT e0 tk hXE G62 o ow ed y54.2 k ks ss vs tn K S V f1 f2 f3 15 k63 k64 k65 k66 k67 hTP (by first | omega | (simp only []; omega)) (by decide)) (tb_cw (C := RX9) 1 hT tw_539 tw_106 tw_536 tw_538 tw_12 rfl rfl hq_X9_take ⟨Nat.le_of_ble_eq_true rfl, Nat.le_of_ble_eq_true rfl⟩) (mk_preC hst hG hK hA hX hS vc_10 k63) rfl rfl hl.1 rfl (lv_room (Nat.le_of_ble_eq_true rfl)) dX9_takeForm_85 ⟨Nat.le_of_ble_eq_true rfl, Nat.le_of_ble_eq_true rfl⟩) hS (fun q _ h => h) (fun q h => h) (fun  G69 t H locs ht hvm hw hB hz1 hk1 hS => ?_)
      have hG : mm D vwCl A G69 H := by rw [← ht]; exact hB
      clear hB hz1 hk1 hvm ht
      obtain ⟨y70, ey70⟩ : ∃ y, y = q_take K S 15 y54.2 := ⟨_, rfl⟩
      rw [← ey70] at hw
      have ly70 : y70.1 ≤ y54.2.1 + 1 := by rw [ey70]; exact q_take_le
      have eG69 := hw
      clear hw
      have k71 : G69 o = some (.inr (10, [.ref k, .ref ow, .ref ed, .int (nI y70.1), .int y70.2])) := by rw [eG69]; exact mm_set_self
      have k72 : G69 k = some (.inr (13, [.ref ks, .ref ss, .ref vs, .int (nI tn)])) := by rw [eG69]; exact mm_set_of k64 (mm_ne_oo k64 k63 (by decide))
      have k73 : G69 ks = some (.inl (cy 5, 2001, .inr (.inr (.inr (.inr f1))))) := by rw [eG69]; exact mm_set_of k65 (mm_ne_ao k65 k63)
      have k74 : G69 ss = some (.inl (cy 1, 2001, .inl f2)) := by rw [eG69]; exact mm_set_of k66 (mm_ne_ao k66 k63)
      have k75 : G69 vs = some (.inl (cy 2, 2001, .inr (.inl f3))) := by rw [eG69]; exact mm_set_of k67 (mm_ne_ao k67 k63)
      have k76 : G69 ca = some (.inr (2, [.int nu, .int at_, .long cn, .ref rl, .int wd, .int 0, .int 1, .long x36, .long x61, .long 0])) := by rw [eG69]; exact mm_set_of k68 (mm_ne_oo k68 k63 (by decide))
      refine lv_aload_n hx hb dX9_takeForm_88 rfl (lv_at hl 1 rfl) ?_
      refine lv_aload_n hx hb dX9_takeForm_89 rfl (lv_at hl 0 rfl) ?_
      refine va_calli (va_runV (As := []) (rest := [.ref ca]) ⟨hx, hb, hml, hown, (fun _ h9 => absurd h9 List.not_mem_nil : ∀ w ∈ ([] : List Cond), w.before _ s = true)⟩ (c_X9_takeValue l D cy A X hst hXT e0 tk hXE G69 o ow ed y70 k ks ss vs tn K S V f1 f2 f3  k71 k72 k73 k74 k75 hTP (by first | omega | (simp only []; omega)) ) (tb_cw (C := RX9) 0 hT tw_668 tw_106 tw_665 tw_667 tw_21 rfl rfl hq_X9_takeValue ⟨Nat.le_of_ble_eq_true rfl, Nat.le_of_ble_eq_true rfl⟩) (mk_preC hst hG hK hA hX hS vc_10 k71) rfl rfl hl.1 rfl (lv_room (Nat.le_of_ble_eq_true rfl)) dX9_takeForm_90 ⟨Nat.le_of_ble_eq_true rfl, Nat.le_of_ble_eq_true rfl⟩) hS (fun q _ h => h) (fun q h => h) (fun r77 G78 t H locs ht hvm hw hB hz1 hk1 hS => ?_)
      have hG : mm D vwCl A G78 H := by rw [← ht]; exact hB
      clear hB hz1 hk1 hvm ht
      obtain ⟨y79, ey79⟩ : ∃ y, y = q_val K S V y70 := ⟨_, rfl⟩
      rw [← ey79] at hw
      obtain ⟨er77, hw⟩ := hw
      have ly79 : y79.2.1 ≤ y70.1 + 2 := by rw [ey79]; exact q_val_le
      have eG78 := hw
      clear hw
      have k80 : G78 o = some (.inr (10, [.ref k, .ref ow, .ref ed, .int (nI y79.2.1), .int y79.2.2])) := by rw [eG78]; exact mm_set_self
      have k81 : G78 k = some (.inr (13, [.ref ks, .ref ss, .ref vs, .int (nI tn)])) := by rw [eG78]; exact mm_set_of k72 (mm_ne_oo k72 k71 (by decide))
      have k82 : G78 ks = some (.inl (cy 5, 2001, .inr (.inr (.inr (.inr f1))))) := by rw [eG78]; exact mm_set_of k73 (mm_ne_ao k73 k71)
      have k83 : G78 ss = some (.inl (cy 1, 2001, .inl f2)) := by rw [eG78]; exact mm_set_of k74 (mm_ne_ao k74 k71)
      have k84 : G78 vs = some (.inl (cy 2, 2001, .inr (.inl f3))) := by rw [eG78]; exact mm_set_of k75 (mm_ne_ao k75 k71)
      have k85 : G78 ca = some (.inr (2, [.int nu, .int at_, .long cn, .ref rl, .int wd, .int 0, .int 1, .long x36, .long x61, .long 0])) := by rw [eG78]; exact mm_set_of k76 (mm_ne_oo k76 k71 (by decide))
      obtain ⟨x86, ex86⟩ : ∃ y, y = (r77 : Int32).toInt64 := ⟨_, rfl⟩
      refine lv_i2l (v := x86) hx hb dX9_takeForm_93 ex86.symm ?_
      refine mm_putN (v := .long x86) (ty := .long) hx hb hf_X1 (fun _ h9 => h9) tyX1 tyX1_ok nmX1 hown hK hG hS k85 rfl 9 (by decide) (tb_use hT tw_512) (fun _ h9 => h9) rfl (by decide +kernel) rfl rfl (Nat.le_of_ble_eq_true rfl) dX9_takeForm_94 (fun H locs hG hS => ?_)
      obtain ⟨G87, eG87⟩ : ∃ g, g = mm_set G78 ca (.inr (2, [.int nu, .int at_, .long cn, .ref rl, .int wd, .int 0, .int 1, .long x36, .long x61, .long x86])) := ⟨_, rfl⟩
      have hG : mm D vwCl A G87 H := by rw [eG87]; exact hG
      have k88 : G87 o = some (.inr (10, [.ref k, .ref ow, .ref ed, .int (nI y79.2.1), .int y79.2.2])) := by rw [eG87]; exact mm_set_of k80 (mm_ne_oo k80 k85 (by decide))
      have k89 : G87 k = some (.inr (13, [.ref ks, .ref ss, .ref vs, .int (nI tn)])) := by rw [eG87]; exact mm_set_of k81 (mm_ne_oo k81 k85 (by decide))
      have k90 : G87 ks = some (.inl (cy 5, 2001, .inr (.inr (.inr (.inr f1))))) := by rw [eG87]; exact mm_set_of k82 (mm_ne_ao k82 k85)
      have k91 : G87 ss = some (.inl (cy 1, 2001, .inl f2)) := by rw [eG87]; exact mm_set_of k83 (mm_ne_ao k83 k85)
      have k92 : G87 vs = some (.inl (cy 2, 2001, .inr (.inl f3))) := by rw [eG87]; exact mm_set_of k84 (mm_ne_ao k84 k85)
      have k93 : G87 ca = some (.inr (2, [.int nu, .int at_, .long cn, .ref rl, .int wd, .int 0, .int 1, .long x36, .long x61, .long x86])) := by rw [eG87]; exact mm_set_self
      refine lv_aload_n hx hb dX9_takeForm_97 rfl (lv_at hl 0 rfl) ?_
      refine va_gets (v := .ref (tk 6)) hx hb (show va_Z "DescribeText$Token" "SEMICOLON" "LDescribeText$Token;" (.ref (tk 6)) A s s.heap from (hE.2.1 6 (by decide)).1) hS hown (tb_use hT tw_592) (fun _ h9 => h9) dX9_takeForm_98 ?_
      refine va_callv (va_runV (As := [.ref (tk 6)]) (rest := []) ⟨hx, hb, hml, hown, (fun _ h9 => absurd h9 List.not_mem_nil : ∀ w ∈ ([] : List Cond), w.before _ s = true)⟩ (c_X9_take l D cy A X hst hXT e0 tk hXE G87 o ow ed y79.2 k ks ss vs tn K S V f1 f2 f3 6 k88 k89 k90 k91 k92 hTP (by first | omega | (simp only []; omega)) (by decide)) (tb_cw (C := RX9) 1 hT tw_539 tw_106 tw_536 tw_538 tw_12 rfl rfl hq_X9_take ⟨Nat.le_of_ble_eq_true rfl, Nat.le_of_ble_eq_true rfl⟩) (mk_preC hst hG hK hA hX hS vc_10 k88) rfl rfl hl.1 rfl (lv_room (Nat.le_of_ble_eq_true rfl)) dX9_takeForm_101 ⟨Nat.le_of_ble_eq_true rfl, Nat.le_of_ble_eq_true rfl⟩) hS (fun q _ h => h) (fun q h => h) (fun  G94 t H locs ht hvm hw hB hz1 hk1 hS => ?_)
      have hG : mm D vwCl A G94 H := by rw [← ht]; exact hB
      clear hB hz1 hk1 hvm ht
      obtain ⟨y95, ey95⟩ : ∃ y, y = q_take K S 6 y79.2 := ⟨_, rfl⟩
      rw [← ey95] at hw
      have ly95 : y95.1 ≤ y79.2.1 + 1 := by rw [ey95]; exact q_take_le
      have eG94 := hw
      clear hw
      have k96 : G94 o = some (.inr (10, [.ref k, .ref ow, .ref ed, .int (nI y95.1), .int y95.2])) := by rw [eG94]; exact mm_set_self
      have k97 : G94 k = some (.inr (13, [.ref ks, .ref ss, .ref vs, .int (nI tn)])) := by rw [eG94]; exact mm_set_of k89 (mm_ne_oo k89 k88 (by decide))
      have k98 : G94 ks = some (.inl (cy 5, 2001, .inr (.inr (.inr (.inr f1))))) := by rw [eG94]; exact mm_set_of k90 (mm_ne_ao k90 k88)
      have k99 : G94 ss = some (.inl (cy 1, 2001, .inl f2)) := by rw [eG94]; exact mm_set_of k91 (mm_ne_ao k91 k88)
      have k100 : G94 vs = some (.inl (cy 2, 2001, .inr (.inl f3))) := by rw [eG94]; exact mm_set_of k92 (mm_ne_ao k92 k88)
      have k101 : G94 ca = some (.inr (2, [.int nu, .int at_, .long cn, .ref rl, .int wd, .int 0, .int 1, .long x36, .long x61, .long x86])) := by rw [eG94]; exact mm_set_of k93 (mm_ne_oo k93 k88 (by decide))
      have hfr : ∀ (x : Nat) (e : va_E), G x = some e → x ≠ o → x ≠ ca → G94 x = some e := by
        intro x e z0 n_o n_ca
        have z1 : G13 x = some e := by rw [eG13]; exact mm_set_of z0 n_o
        have z2 : G20 x = some e := by rw [eG20]; exact mm_set_of z1 n_ca
        have z3 : G28 x = some e := by rw [eG28]; exact mm_set_of z2 n_o
        have z4 : G37 x = some e := by rw [eG37]; exact mm_set_of z3 n_ca
        have z5 : G44 x = some e := by rw [eG44]; exact mm_set_of z4 n_o
        have z6 : G53 x = some e := by rw [eG53]; exact mm_set_of z5 n_o
        have z7 : G62 x = some e := by rw [eG62]; exact mm_set_of z6 n_ca
        have z8 : G69 x = some e := by rw [eG69]; exact mm_set_of z7 n_o
        have z9 : G78 x = some e := by rw [eG78]; exact mm_set_of z8 n_o
        have z10 : G87 x = some e := by rw [eG87]; exact mm_set_of z9 n_ca
        have z11 : G94 x = some e := by rw [eG94]; exact mm_set_of z10 n_o
        exact z11
      have hs1 : se K q.1 q.2 13 = false := by rw [er1] at c_7; revert c_7; cases se K q.1 q.2 13 <;> simp [b2i]
      have hs2 : se K q.1 q.2 14 = true := by rw [er3] at c_35; revert c_35; cases se K q.1 q.2 14 <;> simp [b2i]
      have hq : q_form K S V q = (y95, 0, 1, x36, x61, x86) := by
        rw [q_form]
        simp only [hs1, hs2, Bool.false_eq_true, if_false, if_true, reduceIte, er27, ey29, ex36, ey45, er52, ey54, ex61, ey70, er77, ey79, ex86, ey95]
      exact W.vret hx hb hr (fun t ht hW => ⟨⟨_, rfl, (by rw [hq]; exact ⟨k96, k101, hfr⟩), mk_end hG ht⟩, hS.F ht⟩) hS.2.2 dX9_takeForm_104
  · skip
    refine lv_aload_n hx hb dX9_takeForm_10 rfl (lv_at hl 0 rfl) ?_
    refine lv_dup hx hb dX9_takeForm_11 rfl ?_
    refine mm_get (v := .int (nI q.1)) hx hb hf_X9 (fun _ h9 => h9) hown hK hG h0 rfl 3 (by decide) (tb_use hT tw_180) (fun _ h9 => h9) rfl dX9_takeForm_12 ?_
    refine lv_iconst (v := 1) hx hb dX9_takeForm_15 (by decide) ?_
    refine lv_iadd hx hb dX9_takeForm_16 ?_
    rw [← nI_succ q.1]
    refine mm_put (v := .int (nI (q.1 + 1))) (ty := .int) hx hb hf_X9 (fun _ h9 => h9) tyX9 tyX9_ok nmX9 hown hK hG hS h0 rfl 3 (by decide) (tb_use hT tw_180) (fun _ h9 => h9) rfl (by decide +kernel) rfl rfl (Nat.le_of_ble_eq_true rfl) dX9_takeForm_17 (fun H locs hG hS => ?_)
    obtain ⟨G102, eG102⟩ : ∃ g, g = mm_set G o (.inr (10, [.ref k, .ref ow, .ref ed, .int (nI (q.1 + 1)), .int q.2])) := ⟨_, rfl⟩
    have hG : mm D vwCl A G102 H := by rw [eG102]; exact hG
    have k103 : G102 o = some (.inr (10, [.ref k, .ref ow, .ref ed, .int (nI (q.1 + 1)), .int q.2])) := by rw [eG102]; exact mm_set_self
    have k104 : G102 k = some (.inr (13, [.ref ks, .ref ss, .ref vs, .int (nI tn)])) := by rw [eG102]; exact mm_set_of q1 (mm_ne_oo q1 h0 (by decide))
    have k105 : G102 ks = some (.inl (cy 5, 2001, .inr (.inr (.inr (.inr f1))))) := by rw [eG102]; exact mm_set_of q2 (mm_ne_ao q2 h0)
    have k106 : G102 ss = some (.inl (cy 1, 2001, .inl f2)) := by rw [eG102]; exact mm_set_of q3 (mm_ne_ao q3 h0)
    have k107 : G102 vs = some (.inl (cy 2, 2001, .inr (.inl f3))) := by rw [eG102]; exact mm_set_of q4 (mm_ne_ao q4 h0)
    have k108 : G102 ca = some (.inr (2, [.int nu, .int at_, .long cn, .ref rl, .int wd, .int 0, .int 0, .long 1, .long 1, .long 0])) := by rw [eG102]; exact mm_set_of h9 (mm_ne_oo h9 h0 (by decide))
    refine lv_aload_n hx hb dX9_takeForm_20 rfl (lv_at hl 1 rfl) ?_
    refine lv_iconst (v := 1) hx hb dX9_takeForm_21 (by decide) ?_
    refine mm_putN (v := .int 1) (ty := .boolean) hx hb hf_X1 (fun _ h9 => h9) tyX1 tyX1_ok nmX1 hown hK hG hS k108 rfl 5 (by decide) (tb_use hT tw_504) (fun _ h9 => h9) rfl (by decide +kernel) rfl rfl (Nat.le_of_ble_eq_true rfl) dX9_takeForm_22 (fun H locs hG hS => ?_)
    obtain ⟨G109, eG109⟩ : ∃ g, g = mm_set G102 ca (.inr (2, [.int nu, .int at_, .long cn, .ref rl, .int wd, .int 1, .int 0, .long 1, .long 1, .long 0])) := ⟨_, rfl⟩
    have hG : mm D vwCl A G109 H := by rw [eG109]; exact hG
    have k110 : G109 o = some (.inr (10, [.ref k, .ref ow, .ref ed, .int (nI (q.1 + 1)), .int q.2])) := by rw [eG109]; exact mm_set_of k103 (mm_ne_oo k103 k108 (by decide))
    have k111 : G109 k = some (.inr (13, [.ref ks, .ref ss, .ref vs, .int (nI tn)])) := by rw [eG109]; exact mm_set_of k104 (mm_ne_oo k104 k108 (by decide))
    have k112 : G109 ks = some (.inl (cy 5, 2001, .inr (.inr (.inr (.inr f1))))) := by rw [eG109]; exact mm_set_of k105 (mm_ne_ao k105 k108)
    have k113 : G109 ss = some (.inl (cy 1, 2001, .inl f2)) := by rw [eG109]; exact mm_set_of k106 (mm_ne_ao k106 k108)
    have k114 : G109 vs = some (.inl (cy 2, 2001, .inr (.inl f3))) := by rw [eG109]; exact mm_set_of k107 (mm_ne_ao k107 k108)
    have k115 : G109 ca = some (.inr (2, [.int nu, .int at_, .long cn, .ref rl, .int wd, .int 1, .int 0, .long 1, .long 1, .long 0])) := by rw [eG109]; exact mm_set_self
    refine lv_goto (tgt := 97) hx hb dX9_takeForm_25 (by decide) ?_
    refine lv_aload_n hx hb dX9_takeForm_97 rfl (lv_at hl 0 rfl) ?_
    refine va_gets (v := .ref (tk 6)) hx hb (show va_Z "DescribeText$Token" "SEMICOLON" "LDescribeText$Token;" (.ref (tk 6)) A s s.heap from (hE.2.1 6 (by decide)).1) hS hown (tb_use hT tw_592) (fun _ h9 => h9) dX9_takeForm_98 ?_
    refine va_callv (va_runV (As := [.ref (tk 6)]) (rest := []) ⟨hx, hb, hml, hown, (fun _ h9 => absurd h9 List.not_mem_nil : ∀ w ∈ ([] : List Cond), w.before _ s = true)⟩ (c_X9_take l D cy A X hst hXT e0 tk hXE G109 o ow ed (q.1 + 1, q.2) k ks ss vs tn K S V f1 f2 f3 6 k110 k111 k112 k113 k114 hTP (by first | omega | (simp only []; omega)) (by decide)) (tb_cw (C := RX9) 1 hT tw_539 tw_106 tw_536 tw_538 tw_12 rfl rfl hq_X9_take ⟨Nat.le_of_ble_eq_true rfl, Nat.le_of_ble_eq_true rfl⟩) (mk_preC hst hG hK hA hX hS vc_10 k110) rfl rfl hl.1 rfl (lv_room (Nat.le_of_ble_eq_true rfl)) dX9_takeForm_101 ⟨Nat.le_of_ble_eq_true rfl, Nat.le_of_ble_eq_true rfl⟩) hS (fun q _ h => h) (fun q h => h) (fun  G116 t H locs ht hvm hw hB hz1 hk1 hS => ?_)
    have hG : mm D vwCl A G116 H := by rw [← ht]; exact hB
    clear hB hz1 hk1 hvm ht
    obtain ⟨y117, ey117⟩ : ∃ y, y = q_take K S 6 (q.1 + 1, q.2) := ⟨_, rfl⟩
    rw [← ey117] at hw
    have ly117 : y117.1 ≤ (q.1 + 1, q.2).1 + 1 := by rw [ey117]; exact q_take_le
    have eG116 := hw
    clear hw
    have k118 : G116 o = some (.inr (10, [.ref k, .ref ow, .ref ed, .int (nI y117.1), .int y117.2])) := by rw [eG116]; exact mm_set_self
    have k119 : G116 k = some (.inr (13, [.ref ks, .ref ss, .ref vs, .int (nI tn)])) := by rw [eG116]; exact mm_set_of k111 (mm_ne_oo k111 k110 (by decide))
    have k120 : G116 ks = some (.inl (cy 5, 2001, .inr (.inr (.inr (.inr f1))))) := by rw [eG116]; exact mm_set_of k112 (mm_ne_ao k112 k110)
    have k121 : G116 ss = some (.inl (cy 1, 2001, .inl f2)) := by rw [eG116]; exact mm_set_of k113 (mm_ne_ao k113 k110)
    have k122 : G116 vs = some (.inl (cy 2, 2001, .inr (.inl f3))) := by rw [eG116]; exact mm_set_of k114 (mm_ne_ao k114 k110)
    have k123 : G116 ca = some (.inr (2, [.int nu, .int at_, .long cn, .ref rl, .int wd, .int 1, .int 0, .long 1, .long 1, .long 0])) := by rw [eG116]; exact mm_set_of k115 (mm_ne_oo k115 k110 (by decide))
    have hfr : ∀ (x : Nat) (e : va_E), G x = some e → x ≠ o → x ≠ ca → G116 x = some e := by
      intro x e z0 n_o n_ca
      have z1 : G102 x = some e := by rw [eG102]; exact mm_set_of z0 n_o
      have z2 : G109 x = some e := by rw [eG109]; exact mm_set_of z1 n_ca
      have z3 : G116 x = some e := by rw [eG116]; exact mm_set_of z2 n_o
      exact z3
    have hs1 : se K q.1 q.2 13 = true := by rw [er1] at c_7; revert c_7; cases se K q.1 q.2 13 <;> simp [b2i]
    have hq : q_form K S V q = (y117, 1, 0, 1, 1, 0) := by
      rw [q_form]
      simp only [hs1, Bool.false_eq_true, if_false, if_true, reduceIte, ey117]
    exact W.vret hx hb hr (fun t ht hW => ⟨⟨_, rfl, (by rw [hq]; exact ⟨k118, k123, hfr⟩), mk_end hG ht⟩, hS.F ht⟩) hS.2.2 dX9_takeForm_104
