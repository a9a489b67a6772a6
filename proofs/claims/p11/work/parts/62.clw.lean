/-- an OP: kind, number, service's name, where, parameter's name, where, target -/
abbrev OpD : Type := Nat × Int64 × Int64 × Int32 × Int64 × Int32 × Int32
def OPS (tk : Nat → Nat) (G : Nat → Option va_E) (n : Nat) (f : Nat → Nat) (d : Nat → OpD) : Prop := ∀ i, i < n → G (f i) = some (.inr (8, [.ref (tk (d i).1), .long ((d i).2.1), .long ((d i).2.2.1), .int ((d i).2.2.2.1), .null, .long ((d i).2.2.2.2.1), .int ((d i).2.2.2.2.2.1), .null, .int ((d i).2.2.2.2.2.2)]))
def upO (d : Nat → OpD) (j : Nat) (x : OpD) : Nat → OpD := fun i => if i = j then x else d i
/-- the while at sx has its end at n: a CLOSE that goes back to it, and it goes on behind that -/
def q_clw (n sx : Nat) (d : Nat → OpD) : Nat → OpD := upO (upO d sx ((d sx).1, (d sx).2.1, (d sx).2.2.1, (d sx).2.2.2.1, (d sx).2.2.2.2.1, (d sx).2.2.2.2.2.1, nI (n + 1))) n (5, 0, 0, 0, 0, 0, nI sx)
set_option maxHeartbeats 4000000 in
set_option maxRecDepth 100000 in
theorem c_X9_closeWhile (l : Launch) (D : va_G) (cy : Nat → ClassId) (A : Nat → Prop) (X : State → Prop) (hst : mk_St A X) (hXT : ∀ U : State, X U → TB U) (e0 : Nat) (tk : Nat → Nat) (hXE : ∀ U : State, X U → ES e0 tk A U) (mi : Nat) (hXL : ∀ U : State, X U → EL e0 mi A U) (G : Nat → Option va_E) (o ow ed : Nat) (q : Nat × Int32) (k ks ss vs tn : Nat) (K : Nat → Nat) (S : Nat → Int32) (V : Nat → Int64) (f1 : Nat → Option Nat) (f2 : Nat → Int32) (f3 : Nat → Int64) (ja ol pi : Nat) (jat : Int32) (jn : Int64) (wf : Nat → Int32) (on sx : Nat) (ec nC : Nat) (fC : Nat → Nat) (d : Nat → OpD) (h0 : G o = some (.inr (10, [.ref k, .ref ow, .ref ed, .int (nI q.1), .int q.2]))) (q1 : G k = some (.inr (13, [.ref ks, .ref ss, .ref vs, .int (nI tn)]))) (q2 : G ks = some (.inl (cy 5, 2001, .inr (.inr (.inr (.inr f1)))))) (q3 : G ss = some (.inl (cy 1, 2001, .inl f2))) (q4 : G vs = some (.inl (cy 2, 2001, .inr (.inl f3)))) (hTP : TKP tk tn K S V f1 f2 f3) (hp : q.1 < 2 ^ 29) (hja : G ja = some (.inr (5, [.int jat, .long jn, .ref ol, .ref pi, .int 0]))) (hwf : G ow = some (.inl (cy 1, 3, .inl wf))) (hlc : LiS cy e0 G ol ec nC fC) (hnC : nC < 100) (hops : OPS tk G nC fC d) (hij : ∀ a b, a < nC → b < nC → fC a = fC b → a = b) (hon : on < 3) (hsx : wf on = nI sx) (hsn : sx < nC) : Met l yX9_closeWhile [.code yX9_closeWhile cX9_closeWhile 5 none] ({ frames := 8, cells := 2, slots := (9 + gco nC), locals := 240 }) (mk_Pre D vwCl (tyL cy) A X G [.ref o, .ref ja, .int (nI on)]) (va_Qv (fun (G2 : Nat → Option va_E) => ∃ (oa ec2 : Nat), G oa = none ∧ G2 o = some (.inr (10, [.ref k, .ref ow, .ref ed, .int (nI (q_take K S 5 q).1), .int ((q_take K S 5 q).2)])) ∧ LiS cy e0 G2 ol ec2 (nC + 1) (fup fC nC oa) ∧ ((1 ≤ nC ∧ ec2 = ec) ∨ G ec2 = none) ∧ OPS tk G2 (nC + 1) (fup fC nC oa) (q_clw nC sx d) ∧ ∀ (x : Nat) (e : va_E), G x = some e → x ≠ o → x ≠ ol → (1 ≤ nC → x ≠ ec) → (∀ i, i < nC → x ≠ fC i) → G2 x = some e) (mk_B D vwCl A) A) 2 (9 + gco nC) A := by
  refine Met.ofW (cc := cX9_closeWhile) (maxL := 5) (ret := none) (by decide) rfl ?_
  intro p e s m args below meth c s₁ B hml hv
  obtain ⟨rfl, hG, hK, hA, hX⟩ := hv
  have hx := B.exec
  have hb := B.bytes
  have hr := B.returns
  have hlocks := B.notSynchronized
  have hT := hXT s hX
  have hown : s.vm.findClass RX9 = some m.cls := findClass_of_methodNamed B.named
  have hf_X9 : ∀ w ∈ u_ws RX9 TX9 5, w.before ([.ref o, .ref ja, .int (nI on)] : List Value).toArray s = true := tb_list hT fX9
  have hf_X7 : ∀ w ∈ u_ws RX7 TX7 9, w.before ([.ref o, .ref ja, .int (nI on)] : List Value).toArray s = true := tb_list hT fX7
  have hf_X4 : ∀ w ∈ u_ws RX4 TX4 5, w.before ([.ref o, .ref ja, .int (nI on)] : List Value).toArray s = true := tb_list hT fX4
  have hS : va_S A s.heap s.heap [] := va_S.rf
  have hE := hXE s hX
  have hl := lv_entry ([.ref o, .ref ja, .int (nI on)]) (n := 5) (Nat.le_of_ble_eq_true rfl)
  rw [lg_entry_eq]
  generalize (lg_sl ([.ref o, .ref ja, .int (nI on)]) ++ List.replicate (5 - (lg_sl ([.ref o, .ref ja, .int (nI on)])).length) Slot.unset).toArray = ls at hl ⊢
  have hl : lv_has ls 5 [(0, .ref o), (1, .ref ja), (2, .int (nI on))] := hl
  refine lv_aload_n hx hb dX9_closeWhile_0 rfl (lv_at hl 0 rfl) ?_
  refine va_gets (v := .ref (tk 5)) hx hb (show va_Z "DescribeText$Token" "CLOSE" "LDescribeText$Token;" (.ref (tk 5)) A s s.heap from (hE.2.1 5 (by decide)).1) hS hown (tb_use hT tw_655) (fun _ h9 => h9) dX9_closeWhile_1 ?_
  refine va_callv (va_runV (As := [.ref (tk 5)]) (rest := []) ⟨hx, hb, hml, hown, (fun _ h9 => absurd h9 List.not_mem_nil : ∀ w ∈ ([] : List Cond), w.before _ s = true)⟩ (c_X9_take l D cy A X hst hXT e0 tk hXE G o ow ed q k ks ss vs tn K S V f1 f2 f3 5 h0 q1 q2 q3 q4 hTP (by first | omega | (simp only []; omega)) (by decide)) (tb_cw (C := RX9) 1 hT tw_539 tw_106 tw_536 tw_538 tw_12 rfl rfl hq_X9_take ⟨Nat.le_of_ble_eq_true rfl, Nat.le_of_ble_eq_true rfl⟩) (mk_preC hst hG hK hA hX hS vc_10 h0) rfl rfl hl.1 rfl (lv_room (Nat.le_of_ble_eq_true rfl)) dX9_closeWhile_4 ⟨(by show _ ≤ 2; omega), (by show _ ≤ 9 + gco nC; omega)⟩) hS (fun q _ h => h) (fun q h => h) (fun  G1 t H locs ht hvm hw hB hz1 hk1 hS => ?_)
  have hG : mm D vwCl A G1 H := by rw [← ht]; exact hB
  clear hB hz1 hk1 hvm ht
  obtain ⟨y2, ey2⟩ : ∃ y, y = q_take K S 5 q := ⟨_, rfl⟩
  rw [← ey2] at hw
  have ly2 : y2.1 ≤ q.1 + 1 := by rw [ey2]; exact q_take_le
  have eG1 := hw
  clear hw
  have k3 : G1 o = some (.inr (10, [.ref k, .ref ow, .ref ed, .int (nI y2.1), .int y2.2])) := by rw [eG1]; exact mm_set_self
  have k4 : G1 k = some (.inr (13, [.ref ks, .ref ss, .ref vs, .int (nI tn)])) := by rw [eG1]; exact mm_set_of q1 (mm_ne_oo q1 h0 (by decide))
  have k5 : G1 ks = some (.inl (cy 5, 2001, .inr (.inr (.inr (.inr f1))))) := by rw [eG1]; exact mm_set_of q2 (mm_ne_ao q2 h0)
  have k6 : G1 ss = some (.inl (cy 1, 2001, .inl f2)) := by rw [eG1]; exact mm_set_of q3 (mm_ne_ao q3 h0)
  have k7 : G1 vs = some (.inl (cy 2, 2001, .inr (.inl f3))) := by rw [eG1]; exact mm_set_of q4 (mm_ne_ao q4 h0)
  have k8 : G1 ja = some (.inr (5, [.int jat, .long jn, .ref ol, .ref pi, .int 0])) := by rw [eG1]; exact mm_set_of hja (mm_ne_oo hja h0 (by decide))
  have k9 : G1 ow = some (.inl (cy 1, 3, .inl wf)) := by rw [eG1]; exact mm_set_of hwf (mm_ne_ao hwf h0)
  refine lv_iload_n hx hb dX9_closeWhile_7 rfl (lv_at hl 2 rfl) ?_
  refine lv_if_lt (tgt := 20) hx hb dX9_closeWhile_8 (by decide) (fun c_8 => ?_) (fun c_8 => ?_)
  · skip
    exact absurd c_8 (nI_pos (by omega))
  · skip
    refine lv_iload_n hx hb dX9_closeWhile_11 rfl (lv_at hl 2 rfl) ?_
    refine lv_aload_n hx hb dX9_closeWhile_12 rfl (lv_at hl 0 rfl) ?_
    refine mm_get (v := .ref ow) hx hb hf_X9 (fun _ h9 => h9) hown hK hG k3 rfl 1 (by decide) (tb_use hT tw_178) (fun _ h9 => h9) rfl dX9_closeWhile_13 ?_
    refine mm_alen (v := 3) hx hb hK hG 1 k9 rfl rfl dX9_closeWhile_16 ?_
    refine lv_icmp_lt (tgt := 21) hx hb dX9_closeWhile_17 (by decide) (fun c_17 => ?_) (fun c_17 => ?_)
    · skip
      refine lv_aload_n hx hb dX9_closeWhile_21 rfl (lv_at hl 0 rfl) ?_
      refine mm_get (v := .ref ow) hx hb hf_X9 (fun _ h9 => h9) hown hK hG k3 rfl 1 (by decide) (tb_use hT tw_178) (fun _ h9 => h9) rfl dX9_closeWhile_22 ?_
      refine lv_iload_n hx hb dX9_closeWhile_25 rfl (lv_at hl 2 rfl) ?_
      refine mm_iald hx hb hK hG 1 k9 rfl (by exact nI_in (c := on) (N := 3) hon (by decide)) dX9_closeWhile_26 ?_
      refine lv_topi (fun x10 ex10 => ?_)
      have hsv : x10 = nI sx := by rw [ex10, nI_clamp (n := on) (by omega)]; exact hsx
      rw [hsv]
      refine lv_istore_n (lv' := [(3, .int (nI sx)), (0, .ref o), (1, .ref ja), (2, .int (nI on))]) hx hb dX9_closeWhile_27 rfl hl (by decide) rfl (fun ls hl => ?_)
      refine mm_new (ci := 8) (fs := [.null, .long 0, .long 0, .int 0, .null, .long 0, .int 0, .null, .int 0]) hx hb hf_X7 (fun _ h9 => h9) tyX7 tyX7_ok hown (tb_use hT tw_894) (tb_use hT tw_895) (tb_use hT tw_131) hK hG hS hA rfl (fun j hj => by rcases (show j = 0 ∨ j = 1 ∨ j = 2 ∨ j = 3 ∨ j = 4 ∨ j = 5 ∨ j = 6 ∨ j = 7 ∨ j = 8 by omega) with rfl | rfl | rfl | rfl | rfl | rfl | rfl | rfl | rfl <;> rfl) (by show _ ≤ 2; omega) (by show _ ≤ 9 + gco nC; omega) dX9_closeWhile_28 (fun q11 H hn_q11 hG hS => ?_)
      obtain ⟨G12, eG12⟩ : ∃ g, g = mm_set G1 q11 (.inr (8, [.null, .long 0, .long 0, .int 0, .null, .long 0, .int 0, .null, .int 0])) := ⟨_, rfl⟩
      have hG : mm D vwCl A G12 H := by rw [eG12]; exact hG
      have k13 : G12 o = some (.inr (10, [.ref k, .ref ow, .ref ed, .int (nI y2.1), .int y2.2])) := by rw [eG12]; exact mm_set_new k3 hn_q11
      have k14 : G12 k = some (.inr (13, [.ref ks, .ref ss, .ref vs, .int (nI tn)])) := by rw [eG12]; exact mm_set_new k4 hn_q11
      have k15 : G12 ks = some (.inl (cy 5, 2001, .inr (.inr (.inr (.inr f1))))) := by rw [eG12]; exact mm_set_new k5 hn_q11
      have k16 : G12 ss = some (.inl (cy 1, 2001, .inl f2)) := by rw [eG12]; exact mm_set_new k6 hn_q11
      have k17 : G12 vs = some (.inl (cy 2, 2001, .inr (.inl f3))) := by rw [eG12]; exact mm_set_new k7 hn_q11
      have k18 : G12 ja = some (.inr (5, [.int jat, .long jn, .ref ol, .ref pi, .int 0])) := by rw [eG12]; exact mm_set_new k8 hn_q11
      have k19 : G12 ow = some (.inl (cy 1, 3, .inl wf)) := by rw [eG12]; exact mm_set_new k9 hn_q11
      have k20 : G12 q11 = some (.inr (8, [.null, .long 0, .long 0, .int 0, .null, .long 0, .int 0, .null, .int 0])) := by rw [eG12]; exact mm_set_self
      refine lv_dup hx hb dX9_closeWhile_31 rfl ?_
      refine va_gets (v := .ref (tk 5)) hx hb (show va_Z "DescribeText$Token" "CLOSE" "LDescribeText$Token;" (.ref (tk 5)) A s s.heap from (hE.2.1 5 (by decide)).1) hS hown (tb_use hT tw_655) (fun _ h9 => h9) dX9_closeWhile_32 ?_
      refine va_callv (va_runI (As := [.ref (tk 5)]) (rest := [.ref q11]) ⟨hx, hb, hml, hown, (fun _ h9 => absurd h9 List.not_mem_nil : ∀ w ∈ ([] : List Cond), w.before _ s = true)⟩ (c_X7_init l D cy A X hst hXT e0 tk hXE G12 q11 5 k20) (tb_ci 1 hT tw_898 tw_131 tw_896 tw_897 rfl rfl rfl hq_X7_init ⟨Nat.le_of_ble_eq_true rfl, Nat.le_of_ble_eq_true rfl⟩) (mk_preS hst hG hK hA hX hS) rfl rfl hl.1 rfl (lv_room (Nat.le_of_ble_eq_true rfl)) dX9_closeWhile_35 ⟨(by show _ ≤ 2; omega), (by show _ ≤ 9 + gco nC; omega)⟩) hS (fun q _ h => h) (fun q h => h) (fun  G21 t H locs ht hvm hw hB hz1 hk1 hS => ?_)
      have hG : mm D vwCl A G21 H := by rw [← ht]; exact hB
      clear hB hz1 hk1 hvm ht
      obtain ⟨h22_1, h22_f⟩ := hw
      have k23 : G21 o = some (.inr (10, [.ref k, .ref ow, .ref ed, .int (nI y2.1), .int y2.2])) := h22_f _ _ k13 (mm_ne_oo k13 k20 (by decide))
      have k24 : G21 k = some (.inr (13, [.ref ks, .ref ss, .ref vs, .int (nI tn)])) := h22_f _ _ k14 (mm_ne_oo k14 k20 (by decide))
      have k25 : G21 ks = some (.inl (cy 5, 2001, .inr (.inr (.inr (.inr f1))))) := h22_f _ _ k15 (mm_ne_ao k15 k20)
      have k26 : G21 ss = some (.inl (cy 1, 2001, .inl f2)) := h22_f _ _ k16 (mm_ne_ao k16 k20)
      have k27 : G21 vs = some (.inl (cy 2, 2001, .inr (.inl f3))) := h22_f _ _ k17 (mm_ne_ao k17 k20)
      have k28 : G21 ja = some (.inr (5, [.int jat, .long jn, .ref ol, .ref pi, .int 0])) := h22_f _ _ k18 (mm_ne_oo k18 k20 (by decide))
      have k29 : G21 ow = some (.inl (cy 1, 3, .inl wf)) := h22_f _ _ k19 (mm_ne_ao k19 k20)
      refine lv_astore (lv' := [(4, .ref q11), (3, .int (nI sx)), (0, .ref o), (1, .ref ja), (2, .int (nI on))]) hx hb dX9_closeWhile_38 hl (by decide) rfl (fun ls hl => ?_)
      refine lv_aload hx hb dX9_closeWhile_40 (lv_at hl 0 rfl) ?_
      refine lv_iload_n hx hb dX9_closeWhile_42 rfl (lv_at hl 1 rfl) ?_
      refine mm_putN (v := .int (nI sx)) (ty := .int) hx hb hf_X7 (fun _ h9 => h9) tyX7 tyX7_ok nmX7 hown hK hG hS h22_1 rfl 8 (by decide) (tb_use hT tw_919) (fun _ h9 => h9) rfl (by decide +kernel) rfl rfl (Nat.le_of_ble_eq_true rfl) dX9_closeWhile_43 (fun H locs hG hS => ?_)
      obtain ⟨G30, eG30⟩ : ∃ g, g = mm_set G21 q11 (.inr (8, [.ref (tk 5), .long 0, .long 0, .int 0, .null, .long 0, .int 0, .null, .int (nI sx)])) := ⟨_, rfl⟩
      have hG : mm D vwCl A G30 H := by rw [eG30]; exact hG
      have k31 : G30 o = some (.inr (10, [.ref k, .ref ow, .ref ed, .int (nI y2.1), .int y2.2])) := by rw [eG30]; exact mm_set_of k23 (mm_ne_oo k23 h22_1 (by decide))
      have k32 : G30 k = some (.inr (13, [.ref ks, .ref ss, .ref vs, .int (nI tn)])) := by rw [eG30]; exact mm_set_of k24 (mm_ne_oo k24 h22_1 (by decide))
      have k33 : G30 ks = some (.inl (cy 5, 2001, .inr (.inr (.inr (.inr f1))))) := by rw [eG30]; exact mm_set_of k25 (mm_ne_ao k25 h22_1)
      have k34 : G30 ss = some (.inl (cy 1, 2001, .inl f2)) := by rw [eG30]; exact mm_set_of k26 (mm_ne_ao k26 h22_1)
      have k35 : G30 vs = some (.inl (cy 2, 2001, .inr (.inl f3))) := by rw [eG30]; exact mm_set_of k27 (mm_ne_ao k27 h22_1)
      have k36 : G30 ja = some (.inr (5, [.int jat, .long jn, .ref ol, .ref pi, .int 0])) := by rw [eG30]; exact mm_set_of k28 (mm_ne_oo k28 h22_1 (by decide))
      have k37 : G30 ow = some (.inl (cy 1, 3, .inl wf)) := by rw [eG30]; exact mm_set_of k29 (mm_ne_ao k29 h22_1)
      have k38 : G30 q11 = some (.inr (8, [.ref (tk 5), .long 0, .long 0, .int 0, .null, .long 0, .int 0, .null, .int (nI sx)])) := by rw [eG30]; exact mm_set_self
      refine lv_aload_n hx hb dX9_closeWhile_46 rfl (lv_at hl 3 rfl) ?_
      refine mm_getN (v := .ref ol) hx hb hf_X4 (fun _ h9 => h9) hown hK hG k36 rfl 2 (by decide) (tb_use hT tw_876) (fun _ h9 => h9) rfl dX9_closeWhile_47 ?_
      refine lv_aload hx hb dX9_closeWhile_50 (lv_at hl 0 rfl) ?_
      have fn39 : G q11 = none := by
        have z := hn_q11
        rw [eG1] at z; replace z := mm_none z
        exact z
      have hLT : LT G 8 nC fC := fun j hj => ⟨_, hops j hj⟩
      have hB40 : ∀ (x : Nat) (e : va_E), G x = some e → x ≠ o → G30 x = some e := by
        intro x e z0 n_o
        have z1 : G1 x = some e := by rw [eG1]; exact mm_set_of z0 n_o
        have n_q11 : x ≠ q11 := fun z => by rw [z, hn_q11] at z1; cases z1
        have z2 : G12 x = some e := by rw [eG12]; exact mm_set_of z1 n_q11
        have z3 : G21 x = some e := h22_f x e z2 n_q11
        have z4 : G30 x = some e := by rw [eG30]; exact mm_set_of z3 n_q11
        exact z4
      have hL41 : LiS cy e0 G30 ol ec nC fC := LiS.fr2 (fun x => x ≠ o) hlc (fun x e h0 hp => hB40 x e h0 hp) (hlc.ne h0 (by decide)) (fun v _ hv => mm_ne_ao hv h0)
      have hLO2 : LO G30 nC fC := fun j hj => by obtain ⟨fs, z⟩ := hLT j hj; exact ⟨8, fs, _, hB40 _ _ z (mm_ne_oo z h0 (by decide)), rfl, tw_1919, by decide⟩
      obtain ⟨mo44, h_mo44, -⟩ := id hL41
      refine va_calli (va_runV (As := [.ref q11]) (rest := []) ⟨hx, hb, hml, hown, (fun _ h9 => absurd h9 List.not_mem_nil : ∀ w ∈ ([] : List Cond), w.before _ s = true)⟩ (c_LS_add l D cy A X hst hXT e0 tk hXE mi hXL G30 ol ec nC fC q11 8 _ _ hL41 hLO2 (by omega) k38 rfl (by decide) tw_1919) (tb_cw (C := RJx4a65c) 1 hT tw_597 tw_113 tw_594 tw_595 tw_596 rfl rfl hq_Jx4a65c_add_9ea2d ⟨Nat.le_of_ble_eq_true rfl, Nat.le_of_ble_eq_true rfl⟩) (mk_preC hst hG hK hA hX hS vc_1 h_mo44) rfl rfl hl.1 rfl (lv_room (Nat.le_of_ble_eq_true rfl)) dX9_closeWhile_52 ⟨(by show _ ≤ 2; omega), (by show _ ≤ 9 + gco nC; omega)⟩) hS (fun q _ h => h) (fun q h => h) (fun r43 G42 t H locs ht hvm hw hB hz1 hk1 hS => ?_)
      have hG : mm D vwCl A G42 H := by rw [← ht]; exact hB
      clear hB hz1 hk1 hvm ht
      obtain ⟨ec2, hlc2, hec2, hf2⟩ := hw
      have hf3 : ∀ (x ci : Nat) (fs : List Value), G30 x = some (.inr (ci, fs)) → ci ≠ 1 → G42 x = some (.inr (ci, fs)) := fun x ci fs h0 hc => hf2 x _ h0 (Ne.symm (hL41.ne h0 hc)) (fun h1 => LiS.nea hL41 h1 h0)
      have k_o : G42 o = some (.inr (10, [.ref k, .ref ow, .ref ed, .int (nI y2.1), .int y2.2])) := hf3 _ _ _ k31 (by decide)
      have k_el : G42 q11 = some (.inr (8, [.ref (tk 5), .long 0, .long 0, .int 0, .null, .long 0, .int 0, .null, .int (nI sx)])) := hf3 _ _ _ k38 (by decide)
      have hec3 : (1 ≤ nC ∧ ec2 = ec) ∨ G ec2 = none := by
        rcases hec2 with h1 | h1
        · exact Or.inl h1
        · refine Or.inr (none_back hB40 h1 ?_)
          intro z; rw [z, k31] at h1; cases h1
      have hfr9 : ∀ (x : Nat) (e : va_E), G x = some e → x ≠ o → x ≠ ol → (1 ≤ nC → x ≠ ec) → G42 x = some e := fun x e h0 n1 n2 n3 => hf2 x e (hB40 x e h0 n1) n2 n3
      have k_ja : G42 ja = some (.inr (5, [.int jat, .long jn, .ref ol, .ref pi, .int 0])) := hf3 _ _ _ k36 (by decide)
      refine lv_pop hx hb dX9_closeWhile_55 rfl ?_
      refine lv_iload_n hx hb dX9_closeWhile_56 rfl (lv_at hl 1 rfl) ?_
      refine lv_if_lt (tgt := 92) hx hb dX9_closeWhile_57 (by decide) (fun c_57 => ?_) (fun c_57 => ?_)
      · skip
        exact absurd c_57 (nI_pos (by omega))
      · skip
        refine lv_iload_n hx hb dX9_closeWhile_60 rfl (lv_at hl 1 rfl) ?_
        refine lv_aload_n hx hb dX9_closeWhile_61 rfl (lv_at hl 3 rfl) ?_
        refine mm_getN (v := .ref ol) hx hb hf_X4 (fun _ h9 => h9) hown hK hG k_ja rfl 2 (by decide) (tb_use hT tw_876) (fun _ h9 => h9) rfl dX9_closeWhile_62 ?_
        obtain ⟨mo45, h_mo45, -⟩ := id hlc2
        refine va_calli (va_runV (As := []) (rest := [.int (nI sx)]) ⟨hx, hb, hml, hown, (fun _ h9 => absurd h9 List.not_mem_nil : ∀ w ∈ ([] : List Cond), w.before _ s = true)⟩ (c_LS_size l D cy A X hst hXT e0 tk hXE mi hXL G42 ol ec2 (nC + 1) (fup fC nC q11) hlc2) (tb_cw (C := RJx4a65c) 0 hT tw_457 tw_113 tw_454 tw_455 tw_456 rfl rfl hq_Jx4a65c_size_8abf5 ⟨Nat.le_of_ble_eq_true rfl, Nat.le_of_ble_eq_true rfl⟩) (mk_preC hst hG hK hA hX hS vc_1 h_mo45) rfl rfl hl.1 rfl (lv_room (Nat.le_of_ble_eq_true rfl)) dX9_closeWhile_65 ⟨(by show _ ≤ 2; omega), (by show _ ≤ 9 + gco nC; omega)⟩) hS (fun q _ h => h) (fun q h => h) (fun r46 G47 t H locs ht hvm hw hB hz1 hk1 hS => ?_)
        have hG : mm D vwCl A G47 H := by rw [← ht]; exact hB
        clear hB hz1 hk1 hvm ht
        obtain ⟨rfl, hw⟩ := hw
        rw [hw] at hG
        refine lv_icmp_ge (tgt := 92) hx hb dX9_closeWhile_68 (by decide) (fun c_68 => ?_) (fun c_68 => ?_)
        · skip
          exact absurd c_68 (nI_ge (by omega) (by omega))
        · skip
          refine lv_aload_n hx hb dX9_closeWhile_71 rfl (lv_at hl 3 rfl) ?_
          refine mm_getN (v := .ref ol) hx hb hf_X4 (fun _ h9 => h9) hown hK hG k_ja rfl 2 (by decide) (tb_use hT tw_876) (fun _ h9 => h9) rfl dX9_closeWhile_72 ?_
          refine lv_iload_n hx hb dX9_closeWhile_75 rfl (lv_at hl 1 rfl) ?_
          obtain ⟨mo48, h_mo48, -⟩ := id hlc2
          refine va_callq (va_runV (As := [.int (nI sx)]) (rest := []) ⟨hx, hb, hml, hown, (fun _ h9 => absurd h9 List.not_mem_nil : ∀ w ∈ ([] : List Cond), w.before _ s = true)⟩ (c_LS_get l D cy A X hst hXT e0 tk hXE mi hXL G42 ol ec2 (nC + 1) (fup fC nC q11) sx hlc2 (by omega)) (tb_cw (C := RJx4a65c) 1 hT tw_942 tw_113 tw_939 tw_940 tw_941 rfl rfl hq_Jx4a65c_get_915e3 ⟨Nat.le_of_ble_eq_true rfl, Nat.le_of_ble_eq_true rfl⟩) (mk_preC hst hG hK hA hX hS vc_1 h_mo48) rfl rfl hl.1 rfl (lv_room (Nat.le_of_ble_eq_true rfl)) dX9_closeWhile_76 ⟨(by show _ ≤ 2; omega), (by show _ ≤ 9 + gco nC; omega)⟩) hS (fun q _ h => h) (fun q h => h) (fun r49 G50 t H locs ht hvm hw hB hz1 hk1 hS => ?_)
          have hG : mm D vwCl A G50 H := by rw [← ht]; exact hB
          clear hB hz1 hk1 hvm ht
          obtain ⟨rfl, hw⟩ := hw
          rw [hw] at hG
          rw [show fup fC nC q11 sx = fC sx from fup_lt hsn]
          obtain ⟨os, eos⟩ : ∃ y, y = fC sx := ⟨_, rfl⟩
          rw [← eos]
          have hops0 := hops sx hsn
          rw [← eos] at hops0
          have k_os : G42 os = some (.inr (8, [.ref (tk (d sx).1), .long ((d sx).2.1), .long ((d sx).2.2.1), .int ((d sx).2.2.2.1), .null, .long ((d sx).2.2.2.2.1), .int ((d sx).2.2.2.2.2.1), .null, .int ((d sx).2.2.2.2.2.2)])) := hf3 _ _ _ (hB40 _ _ hops0 (mm_ne_oo hops0 h0 (by decide))) (by decide)
          have ne_os_q11 : os ≠ q11 := fun z => by rw [z, fn39] at hops0; cases hops0
          refine W.eq (g2 := F0 m 79 ls [.ref os]) rfl ?_
          refine va_castS hx hb hown (tb_use hT tw_894) (hK.1 8 _ rfl).2 (va_recv hK (hG.one k_os) (q := (RX7, TX7, 9)) rfl (q0 := 0) rfl) dX9_closeWhile_79 ?_
          refine lv_aload_n hx hb dX9_closeWhile_82 rfl (lv_at hl 3 rfl) ?_
          refine mm_getN (v := .ref ol) hx hb hf_X4 (fun _ h9 => h9) hown hK hG k_ja rfl 2 (by decide) (tb_use hT tw_876) (fun _ h9 => h9) rfl dX9_closeWhile_83 ?_
          obtain ⟨mo51, h_mo51, -⟩ := id hlc2
          refine va_calli (va_runV (As := []) (rest := [.ref os]) ⟨hx, hb, hml, hown, (fun _ h9 => absurd h9 List.not_mem_nil : ∀ w ∈ ([] : List Cond), w.before _ s = true)⟩ (c_LS_size l D cy A X hst hXT e0 tk hXE mi hXL G42 ol ec2 (nC + 1) (fup fC nC q11) hlc2) (tb_cw (C := RJx4a65c) 0 hT tw_457 tw_113 tw_454 tw_455 tw_456 rfl rfl hq_Jx4a65c_size_8abf5 ⟨Nat.le_of_ble_eq_true rfl, Nat.le_of_ble_eq_true rfl⟩) (mk_preC hst hG hK hA hX hS vc_1 h_mo51) rfl rfl hl.1 rfl (lv_room (Nat.le_of_ble_eq_true rfl)) dX9_closeWhile_86 ⟨(by show _ ≤ 2; omega), (by show _ ≤ 9 + gco nC; omega)⟩) hS (fun q _ h => h) (fun q h => h) (fun r52 G53 t H locs ht hvm hw hB hz1 hk1 hS => ?_)
          have hG : mm D vwCl A G53 H := by rw [← ht]; exact hB
          clear hB hz1 hk1 hvm ht
          obtain ⟨rfl, hw⟩ := hw
          rw [hw] at hG
          refine mm_putN (v := .int (nI (nC + 1))) (ty := .int) hx hb hf_X7 (fun _ h9 => h9) tyX7 tyX7_ok nmX7 hown hK hG hS k_os rfl 8 (by decide) (tb_use hT tw_919) (fun _ h9 => h9) rfl (by decide +kernel) rfl rfl (Nat.le_of_ble_eq_true rfl) dX9_closeWhile_89 (fun H locs hG hS => ?_)
          obtain ⟨G54, eG54⟩ : ∃ g, g = mm_set G42 os (.inr (8, [.ref (tk (d sx).1), .long ((d sx).2.1), .long ((d sx).2.2.1), .int ((d sx).2.2.2.1), .null, .long ((d sx).2.2.2.2.1), .int ((d sx).2.2.2.2.2.1), .null, .int (nI (nC + 1))])) := ⟨_, rfl⟩
          have hG : mm D vwCl A G54 H := by rw [eG54]; exact hG
          have k55 : G54 o = some (.inr (10, [.ref k, .ref ow, .ref ed, .int (nI y2.1), .int y2.2])) := by rw [eG54]; exact mm_set_of k_o (mm_ne_oo k_o k_os (by decide))
          have k56 : G54 q11 = some (.inr (8, [.ref (tk 5), .long 0, .long 0, .int 0, .null, .long 0, .int 0, .null, .int (nI sx)])) := by rw [eG54]; exact mm_set_of k_el (Ne.symm ne_os_q11)
          have k57 : G54 ja = some (.inr (5, [.int jat, .long jn, .ref ol, .ref pi, .int 0])) := by rw [eG54]; exact mm_set_of k_ja (mm_ne_oo k_ja k_os (by decide))
          have k58 : G54 os = some (.inr (8, [.ref (tk (d sx).1), .long ((d sx).2.1), .long ((d sx).2.2.1), .int ((d sx).2.2.2.1), .null, .long ((d sx).2.2.2.2.1), .int ((d sx).2.2.2.2.2.1), .null, .int (nI (nC + 1))])) := by rw [eG54]; exact mm_set_self
          have hl9 : LiS cy e0 G54 ol ec2 (nC + 1) (fup fC nC q11) := by rw [eG54]; exact hlc2.put k_os (by decide)
          have hos9 : OPS tk G54 (nC + 1) (fup fC nC q11) (q_clw nC sx d) := by
            intro i hi
            by_cases hz : i = nC
            · rw [hz, fup_eq]
              simp only [q_clw, upO, if_true]
              exact k56
            · rw [fup_lt (by omega)]
              by_cases hz2 : i = sx
              · rw [hz2, ← eos]
                simp only [q_clw, upO, if_true, if_neg (show ¬ sx = nC by omega)]
                exact k58
              · simp only [q_clw, upO, hz, hz2, if_false]
                have hi2 : i < nC := by omega
                rw [eG54]
                refine mm_set_of (hf3 _ _ _ (hB40 _ _ (hops i hi2) (mm_ne_oo (hops i hi2) h0 (by decide))) (by decide)) ?_
                intro z; rw [eos] at z; exact hz2 (hij i sx hi2 hsn z)
          have hfr8 : ∀ (x : Nat) (e : va_E), G x = some e → x ≠ o → x ≠ ol → (1 ≤ nC → x ≠ ec) → (∀ i, i < nC → x ≠ fC i) → G54 x = some e := fun x e h1 n1 n2 n3 n4 => by rw [eG54]; exact mm_set_of (hfr9 x e h1 n1 n2 n3) (by rw [eos]; exact n4 sx hsn)
          refine W.widen (k := 2) (n := (9 + gco nC)) (by omega) (by omega) ?_
          exact W.vret hx hb hr (fun t ht hW => ⟨⟨_, rfl, ⟨q11, ec2, fn39, (by rw [← ey2]; exact k55), hl9, hec3, hos9, hfr8⟩, mk_end hG ht⟩, hS.F ht⟩) hS.2.2 dX9_closeWhile_92
    · skip
      exact absurd (nI_lt (b := 3) hon (by decide)) c_17
