/-- an OP taken: (place, fault), whiles open, where they began, the OP -/
def q_op (K : Nat → Nat) (S : Nat → Int32) (V : Nat → Int64) (ta on nC : Nat) (q : Nat × Int32) (wf : Nat → Int32) : (Nat × Int32) × Nat × (Nat → Int32) × OpD :=
  let q0 := if K q.1 = 34 then (if on < 3 then q else (q.1, fl S q.1 q.2)) else q
  let q1 := q_begin S (nI ta) 40 q0
  if K q.1 = 34 then ((q_opw K S (nC + 1) on q1 wf).1, (q_opw K S (nC + 1) on q1 wf).2.1, (q_opw K S (nC + 1) on q1 wf).2.2, (K q.1, 0, 0, 0, 0, 0, 0))
  else if K q.1 = 25 then (q_take K S 6 (q_val K S V q1).2, on, wf, (K q.1, (q_val K S V q1).1.toInt64, 0, 0, 0, 0, 0))
  else if K q.1 = 26 then
    (q_take K S 6 (q_name K S V (q_name K S V q1).2).2, on, wf, (K q.1, 0, (q_name K S V q1).1, S q1.1, (q_name K S V (q_name K S V q1).2).1, S (q_name K S V q1).2.1, 0))
  else (q_take K S 6 q1, on, wf, (K q.1, 0, 0, 0, 0, 0, 0))
set_option maxHeartbeats 4000000 in
set_option maxRecDepth 100000 in
theorem c_X9_takeOp (l : Launch) (D : va_G) (cy : Nat → ClassId) (A : Nat → Prop) (X : State → Prop) (hst : mk_St A X) (hXT : ∀ U : State, X U → TB U) (e0 : Nat) (tk : Nat → Nat) (hXE : ∀ U : State, X U → ES e0 tk A U) (mi : Nat) (hXL : ∀ U : State, X U → EL e0 mi A U) (G : Nat → Option va_E) (o ow ed : Nat) (q : Nat × Int32) (k ks ss vs tn : Nat) (K : Nat → Nat) (S : Nat → Int32) (V : Nat → Int64) (f1 : Nat → Option Nat) (f2 : Nat → Int32) (f3 : Nat → Int64) (ja ol pi : Nat) (jat : Int32) (jn : Int64) (wf : Nat → Int32) (ta on : Nat) (ec nC : Nat) (fC : Nat → Nat) (d : Nat → OpD) (h0 : G o = some (.inr (10, [.ref k, .ref ow, .ref ed, .int (nI q.1), .int q.2]))) (q1 : G k = some (.inr (13, [.ref ks, .ref ss, .ref vs, .int (nI tn)]))) (q2 : G ks = some (.inl (cy 5, 2001, .inr (.inr (.inr (.inr f1)))))) (q3 : G ss = some (.inl (cy 1, 2001, .inl f2))) (q4 : G vs = some (.inl (cy 2, 2001, .inr (.inl f3)))) (hTP : TKP tk tn K S V f1 f2 f3) (hp : q.1 < 2 ^ 27) (hja : G ja = some (.inr (5, [.int jat, .long jn, .ref ol, .ref pi, .int 0]))) (hwf : G ow = some (.inl (cy 1, 3, .inl wf))) (hlc : LiS cy e0 G ol ec nC fC) (hnC : nC < 98) (hops : OPS tk G nC fC d) (hij : ∀ a b, a < nC → b < nC → fC a = fC b → a = b) (hon : on < 100) : Met l yX9_takeOp [.code yX9_takeOp cX9_takeOp 5 (some .int)] ({ frames := 8, cells := 2, slots := (9 + gco nC), locals := 240 }) (mk_Pre D vwCl (tyL cy) A X G [.ref o, .ref ja, .int (nI ta), .int (nI on)]) (va_Qi (fun (r : Int32) (G2 : Nat → Option va_E) => r = nI (q_op K S V ta on nC q wf).2.1 ∧ ∃ (oa ec2 : Nat), G oa = none ∧ G2 o = some (.inr (10, [.ref k, .ref ow, .ref ed, .int (nI ((q_op K S V ta on nC q wf).1).1), .int (((q_op K S V ta on nC q wf).1).2)])) ∧ G2 ow = some (.inl (cy 1, 3, .inl ((q_op K S V ta on nC q wf).2.2.1))) ∧ LiS cy e0 G2 ol ec2 (nC + 1) (fup fC nC oa) ∧ ((1 ≤ nC ∧ ec2 = ec) ∨ G ec2 = none) ∧ OPS tk G2 (nC + 1) (fup fC nC oa) (upO d nC (q_op K S V ta on nC q wf).2.2.2) ∧ ∀ (x : Nat) (e : va_E), G x = some e → x ≠ o → x ≠ ow → x ≠ ol → (1 ≤ nC → x ≠ ec) → G2 x = some e) (mk_B D vwCl A) A) 2 (9 + gco nC) A := by
  refine Met.ofW (cc := cX9_takeOp) (maxL := 5) (ret := (some .int)) (by decide) rfl ?_
  intro p e s m args below meth c s₁ B hml hv
  obtain ⟨rfl, hG, hK, hA, hX⟩ := hv
  have hx := B.exec
  have hb := B.bytes
  have hr := B.returns
  have hlocks := B.notSynchronized
  have hT := hXT s hX
  have hown : s.vm.findClass RX9 = some m.cls := findClass_of_methodNamed B.named
  have hf_X7 : ∀ w ∈ u_ws RX7 TX7 9, w.before ([.ref o, .ref ja, .int (nI ta), .int (nI on)] : List Value).toArray s = true := tb_list hT fX7
  have hf_X9 : ∀ w ∈ u_ws RX9 TX9 5, w.before ([.ref o, .ref ja, .int (nI ta), .int (nI on)] : List Value).toArray s = true := tb_list hT fX9
  have hf_X4 : ∀ w ∈ u_ws RX4 TX4 5, w.before ([.ref o, .ref ja, .int (nI ta), .int (nI on)] : List Value).toArray s = true := tb_list hT fX4
  have hS : va_S A s.heap s.heap [] := va_S.rf
  have hE := hXE s hX
  have hl := lv_entry ([.ref o, .ref ja, .int (nI ta), .int (nI on)]) (n := 5) (Nat.le_of_ble_eq_true rfl)
  rw [lg_entry_eq]
  generalize (lg_sl ([.ref o, .ref ja, .int (nI ta), .int (nI on)]) ++ List.replicate (5 - (lg_sl ([.ref o, .ref ja, .int (nI ta), .int (nI on)])).length) Slot.unset).toArray = ls at hl ⊢
  have hl : lv_has ls 5 [(0, .ref o), (1, .ref ja), (2, .int (nI ta)), (3, .int (nI on))] := hl
  refine mm_new (ci := 8) (fs := [.null, .long 0, .long 0, .int 0, .null, .long 0, .int 0, .null, .int 0]) hx hb hf_X7 (fun _ h9 => h9) tyX7 tyX7_ok hown (tb_use hT tw_894) (tb_use hT tw_895) (tb_use hT tw_131) hK hG hS hA rfl (fun j hj => by rcases (show j = 0 ∨ j = 1 ∨ j = 2 ∨ j = 3 ∨ j = 4 ∨ j = 5 ∨ j = 6 ∨ j = 7 ∨ j = 8 by omega) with rfl | rfl | rfl | rfl | rfl | rfl | rfl | rfl | rfl <;> rfl) (by show _ ≤ 2; omega) (by show _ ≤ 9 + gco nC; omega) dX9_takeOp_0 (fun q21 H hn_q21 hG hS => ?_)
  obtain ⟨G22, eG22⟩ : ∃ g, g = mm_set G q21 (.inr (8, [.null, .long 0, .long 0, .int 0, .null, .long 0, .int 0, .null, .int 0])) := ⟨_, rfl⟩
  have hG : mm D vwCl A G22 H := by rw [eG22]; exact hG
  have k23 : G22 o = some (.inr (10, [.ref k, .ref ow, .ref ed, .int (nI q.1), .int q.2])) := by rw [eG22]; exact mm_set_new h0 hn_q21
  have k24 : G22 k = some (.inr (13, [.ref ks, .ref ss, .ref vs, .int (nI tn)])) := by rw [eG22]; exact mm_set_new q1 hn_q21
  have k25 : G22 ks = some (.inl (cy 5, 2001, .inr (.inr (.inr (.inr f1))))) := by rw [eG22]; exact mm_set_new q2 hn_q21
  have k26 : G22 ss = some (.inl (cy 1, 2001, .inl f2)) := by rw [eG22]; exact mm_set_new q3 hn_q21
  have k27 : G22 vs = some (.inl (cy 2, 2001, .inr (.inl f3))) := by rw [eG22]; exact mm_set_new q4 hn_q21
  have k28 : G22 ja = some (.inr (5, [.int jat, .long jn, .ref ol, .ref pi, .int 0])) := by rw [eG22]; exact mm_set_new hja hn_q21
  have k29 : G22 ow = some (.inl (cy 1, 3, .inl wf)) := by rw [eG22]; exact mm_set_new hwf hn_q21
  have k30 : G22 q21 = some (.inr (8, [.null, .long 0, .long 0, .int 0, .null, .long 0, .int 0, .null, .int 0])) := by rw [eG22]; exact mm_set_self
  refine lv_dup hx hb dX9_takeOp_3 rfl ?_
  refine lv_aload_n hx hb dX9_takeOp_4 rfl (lv_at hl 0 rfl) ?_
  refine mm_get (v := .ref k) hx hb hf_X9 (fun _ h9 => h9) hown hK hG k23 rfl 0 (by decide) (tb_use hT tw_177) (fun _ h9 => h9) rfl dX9_takeOp_5 ?_
  refine lv_aload_n hx hb dX9_takeOp_8 rfl (lv_at hl 0 rfl) ?_
  refine mm_get (v := .int (nI q.1)) hx hb hf_X9 (fun _ h9 => h9) hown hK hG k23 rfl 3 (by decide) (tb_use hT tw_180) (fun _ h9 => h9) rfl dX9_takeOp_9 ?_
  refine va_callq (va_runV (As := [.int (nI q.1)]) (rest := [.ref q21, .ref q21]) ⟨hx, hb, hml, hown, (fun _ h9 => absurd h9 List.not_mem_nil : ∀ w ∈ ([] : List Cond), w.before _ s = true)⟩ (c_X12_kind l D cy A X hst hXT e0 tk hXE G22 k ks ss vs tn K S V f1 f2 f3 q.1 k24 k25 k26 k27 hTP (by first | omega | (simp only []; omega))) (tb_cw (C := RX12) 1 hT tw_441 tw_107 tw_438 tw_439 tw_440 rfl rfl hq_X12_kind ⟨Nat.le_of_ble_eq_true rfl, Nat.le_of_ble_eq_true rfl⟩) (mk_preC hst hG hK hA hX hS vc_13 k24) rfl rfl hl.1 rfl (lv_room (Nat.le_of_ble_eq_true rfl)) dX9_takeOp_12 ⟨(by show _ ≤ 2; omega), (by show _ ≤ 9 + gco nC; omega)⟩) hS (fun q _ h => h) (fun q h => h) (fun r31 G32 t H locs ht hvm hw hB hz1 hk1 hS => ?_)
  have hG : mm D vwCl A G32 H := by rw [← ht]; exact hB
  clear hB hz1 hk1 hvm ht
  obtain ⟨rfl, hw⟩ := hw
  rw [hw] at hG
  refine va_callv (va_runI (As := [.ref (tk (K q.1))]) (rest := [.ref q21]) ⟨hx, hb, hml, hown, (fun _ h9 => absurd h9 List.not_mem_nil : ∀ w ∈ ([] : List Cond), w.before _ s = true)⟩ (c_X7_init l D cy A X hst hXT e0 tk hXE G22 q21 (K q.1) k30) (tb_ci 1 hT tw_898 tw_131 tw_896 tw_897 rfl rfl rfl hq_X7_init ⟨Nat.le_of_ble_eq_true rfl, Nat.le_of_ble_eq_true rfl⟩) (mk_preS hst hG hK hA hX hS) rfl rfl hl.1 rfl (lv_room (Nat.le_of_ble_eq_true rfl)) dX9_takeOp_15 ⟨(by show _ ≤ 2; omega), (by show _ ≤ 9 + gco nC; omega)⟩) hS (fun q _ h => h) (fun q h => h) (fun  G33 t H locs ht hvm hw hB hz1 hk1 hS => ?_)
  have hG : mm D vwCl A G33 H := by rw [← ht]; exact hB
  clear hB hz1 hk1 hvm ht
  obtain ⟨h34_1, h34_f⟩ := hw
  have k35 : G33 o = some (.inr (10, [.ref k, .ref ow, .ref ed, .int (nI q.1), .int q.2])) := h34_f _ _ k23 (mm_ne_oo k23 k30 (by decide))
  have k36 : G33 k = some (.inr (13, [.ref ks, .ref ss, .ref vs, .int (nI tn)])) := h34_f _ _ k24 (mm_ne_oo k24 k30 (by decide))
  have k37 : G33 ks = some (.inl (cy 5, 2001, .inr (.inr (.inr (.inr f1))))) := h34_f _ _ k25 (mm_ne_ao k25 k30)
  have k38 : G33 ss = some (.inl (cy 1, 2001, .inl f2)) := h34_f _ _ k26 (mm_ne_ao k26 k30)
  have k39 : G33 vs = some (.inl (cy 2, 2001, .inr (.inl f3))) := h34_f _ _ k27 (mm_ne_ao k27 k30)
  have k40 : G33 ja = some (.inr (5, [.int jat, .long jn, .ref ol, .ref pi, .int 0])) := h34_f _ _ k28 (mm_ne_oo k28 k30 (by decide))
  have k41 : G33 ow = some (.inl (cy 1, 3, .inl wf)) := h34_f _ _ k29 (mm_ne_ao k29 k30)
  refine lv_astore (lv' := [(4, .ref q21), (0, .ref o), (1, .ref ja), (2, .int (nI ta)), (3, .int (nI on))]) hx hb dX9_takeOp_18 hl (by decide) rfl (fun ls hl => ?_)
  refine lv_aload hx hb dX9_takeOp_20 (lv_at hl 0 rfl) ?_
  refine mm_getN (v := .ref (tk (K q.1))) hx hb hf_X7 (fun _ h9 => h9) hown hK hG h34_1 rfl 0 (by decide) (tb_use hT tw_903) (fun _ h9 => h9) rfl dX9_takeOp_22 ?_
  refine va_gets (v := .ref (tk 34)) hx hb (show va_Z "DescribeText$Token" "WHILE" "LDescribeText$Token;" (.ref (tk 34)) A s s.heap from (hE.2.1 34 (by decide)).1) hS hown (tb_use hT tw_959) (fun _ h9 => h9) dX9_takeOp_25 ?_
  refine lv_acmp_ne (rx := some (tk (K q.1))) (ry := some (tk 34)) (tgt := 40) hx hb dX9_takeOp_28 (by decide) (fun c_28 => ?_) (fun c_28 => ?_)
  · skip
    refine lv_aload_n hx hb dX9_takeOp_40 rfl (lv_at hl 1 rfl) ?_
    refine lv_iload_n hx hb dX9_takeOp_41 rfl (lv_at hl 3 rfl) ?_
    refine lv_bipush (v := 40) hx hb dX9_takeOp_42 (by decide) ?_
    refine va_callv (va_runV (As := [.int (nI ta), .int 40]) (rest := []) ⟨hx, hb, hml, hown, (fun _ h9 => absurd h9 List.not_mem_nil : ∀ w ∈ ([] : List Cond), w.before _ s = true)⟩ (c_X9_begin l D cy A X hst hXT e0 tk hXE G33 o ow ed q k ks ss vs tn K S V f1 f2 f3 (nI ta) 40 k35 k36 k37 k38 k39 hTP (by first | omega | (simp only []; omega)) ) (tb_cw (C := RX9) 2 hT tw_461 tw_106 tw_458 tw_460 tw_8 rfl rfl hq_X9_begin ⟨Nat.le_of_ble_eq_true rfl, Nat.le_of_ble_eq_true rfl⟩) (mk_preC hst hG hK hA hX hS vc_10 k35) rfl rfl hl.1 rfl (lv_room (Nat.le_of_ble_eq_true rfl)) dX9_takeOp_44 ⟨(by show _ ≤ 2; omega), (by show _ ≤ 9 + gco nC; omega)⟩) hS (fun q _ h => h) (fun q h => h) (fun  G42 t H locs ht hvm hw hB hz1 hk1 hS => ?_)
    have hG : mm D vwCl A G42 H := by rw [← ht]; exact hB
    clear hB hz1 hk1 hvm ht
    obtain ⟨y43, ey43⟩ : ∃ y, y = q_begin S (nI ta) 40 q := ⟨_, rfl⟩
    rw [← ey43] at hw
    have ly43 : y43.1 ≤ q.1 + 1 := by rw [ey43]; exact q_begin_le
    have eG42 := hw
    clear hw
    have k44 : G42 o = some (.inr (10, [.ref k, .ref ow, .ref ed, .int (nI y43.1), .int y43.2])) := by rw [eG42]; exact mm_set_self
    have k45 : G42 k = some (.inr (13, [.ref ks, .ref ss, .ref vs, .int (nI tn)])) := by rw [eG42]; exact mm_set_of k36 (mm_ne_oo k36 k35 (by decide))
    have k46 : G42 ks = some (.inl (cy 5, 2001, .inr (.inr (.inr (.inr f1))))) := by rw [eG42]; exact mm_set_of k37 (mm_ne_ao k37 k35)
    have k47 : G42 ss = some (.inl (cy 1, 2001, .inl f2)) := by rw [eG42]; exact mm_set_of k38 (mm_ne_ao k38 k35)
    have k48 : G42 vs = some (.inl (cy 2, 2001, .inr (.inl f3))) := by rw [eG42]; exact mm_set_of k39 (mm_ne_ao k39 k35)
    have k49 : G42 ja = some (.inr (5, [.int jat, .long jn, .ref ol, .ref pi, .int 0])) := by rw [eG42]; exact mm_set_of k40 (mm_ne_oo k40 k35 (by decide))
    have k50 : G42 ow = some (.inl (cy 1, 3, .inl wf)) := by rw [eG42]; exact mm_set_of k41 (mm_ne_ao k41 k35)
    have k51 : G42 q21 = some (.inr (8, [.ref (tk (K q.1)), .long 0, .long 0, .int 0, .null, .long 0, .int 0, .null, .int 0])) := by rw [eG42]; exact mm_set_of h34_1 (mm_ne_oo h34_1 k35 (by decide))
    refine lv_aload_n hx hb dX9_takeOp_47 rfl (lv_at hl 2 rfl) ?_
    refine mm_getN (v := .ref ol) hx hb hf_X4 (fun _ h9 => h9) hown hK hG k49 rfl 2 (by decide) (tb_use hT tw_876) (fun _ h9 => h9) rfl dX9_takeOp_48 ?_
    refine lv_aload hx hb dX9_takeOp_51 (lv_at hl 0 rfl) ?_
    have fn52 : G q21 = none := by
      have z := hn_q21
      exact z
    have hLT : LT G 8 nC fC := fun j hj => ⟨_, hops j hj⟩
    have hB53 : ∀ (x : Nat) (e : va_E), G x = some e → x ≠ o → G42 x = some e := by
      intro x e z0 n_o
      have n_q21 : x ≠ q21 := fun z => by rw [z, hn_q21] at z0; cases z0
      have z1 : G22 x = some e := by rw [eG22]; exact mm_set_of z0 n_q21
      have z2 : G33 x = some e := h34_f x e z1 n_q21
      have z3 : G42 x = some e := by rw [eG42]; exact mm_set_of z2 n_o
      exact z3
    have hL54 : LiS cy e0 G42 ol ec nC fC := LiS.fr2 (fun x => x ≠ o) hlc (fun x e h0 hp => hB53 x e h0 hp) (hlc.ne h0 (by decide)) (fun v _ hv => mm_ne_ao hv h0)
    have hLO2 : LO G42 nC fC := fun j hj => by obtain ⟨fs, z⟩ := hLT j hj; exact ⟨8, fs, _, hB53 _ _ z (mm_ne_oo z h0 (by decide)), rfl, tw_1919, by decide⟩
    obtain ⟨mo57, h_mo57, -⟩ := id hL54
    refine va_calli (va_runV (As := [.ref q21]) (rest := []) ⟨hx, hb, hml, hown, (fun _ h9 => absurd h9 List.not_mem_nil : ∀ w ∈ ([] : List Cond), w.before _ s = true)⟩ (c_LS_add l D cy A X hst hXT e0 tk hXE mi hXL G42 ol ec nC fC q21 8 _ _ hL54 hLO2 (by omega) k51 rfl (by decide) tw_1919) (tb_cw (C := RJx4a65c) 1 hT tw_597 tw_113 tw_594 tw_595 tw_596 rfl rfl hq_Jx4a65c_add_9ea2d ⟨Nat.le_of_ble_eq_true rfl, Nat.le_of_ble_eq_true rfl⟩) (mk_preC hst hG hK hA hX hS vc_1 h_mo57) rfl rfl hl.1 rfl (lv_room (Nat.le_of_ble_eq_true rfl)) dX9_takeOp_53 ⟨(by show _ ≤ 2; omega), (by show _ ≤ 9 + gco nC; omega)⟩) hS (fun q _ h => h) (fun q h => h) (fun r56 G55 t H locs ht hvm hw hB hz1 hk1 hS => ?_)
    have hG : mm D vwCl A G55 H := by rw [← ht]; exact hB
    clear hB hz1 hk1 hvm ht
    obtain ⟨ec2, hlc2, hec2, hf2⟩ := hw
    have hf3 : ∀ (x ci : Nat) (fs : List Value), G42 x = some (.inr (ci, fs)) → ci ≠ 1 → G55 x = some (.inr (ci, fs)) := fun x ci fs h0 hc => hf2 x _ h0 (Ne.symm (hL54.ne h0 hc)) (fun h1 => LiS.nea hL54 h1 h0)
    have k_o : G55 o = some (.inr (10, [.ref k, .ref ow, .ref ed, .int (nI y43.1), .int y43.2])) := hf3 _ _ _ k44 (by decide)
    have k_el : G55 q21 = some (.inr (8, [.ref (tk (K q.1)), .long 0, .long 0, .int 0, .null, .long 0, .int 0, .null, .int 0])) := hf3 _ _ _ k51 (by decide)
    have hec3 : (1 ≤ nC ∧ ec2 = ec) ∨ G ec2 = none := by
      rcases hec2 with h1 | h1
      · exact Or.inl h1
      · refine Or.inr (none_back hB53 h1 ?_)
        intro z; rw [z, k44] at h1; cases h1
    have hfr9 : ∀ (x : Nat) (e : va_E), G x = some e → x ≠ o → x ≠ ol → (1 ≤ nC → x ≠ ec) → G55 x = some e := fun x e h0 n1 n2 n3 => hf2 x e (hB53 x e h0 n1) n2 n3
    have k58 : G55 k = some (.inr (13, [.ref ks, .ref ss, .ref vs, .int (nI tn)])) := hf3 _ _ _ k45 (by decide)
    have k59 : G55 ks = some (.inl (cy 5, 2001, .inr (.inr (.inr (.inr f1))))) := hf2 _ _ k46 (Ne.symm (LiS.nal hL54 k46)) (fun h1 => LiS.nar hL54 h1 k46 (by intro gv9 z; have z2 := (Prod.mk.inj (Prod.mk.inj (Sum.inl.inj z)).2); first | (exact absurd z2.1 (cpf_ne _)) | (cases z2.2)))
    have k60 : G55 ss = some (.inl (cy 1, 2001, .inl f2)) := hf2 _ _ k47 (Ne.symm (LiS.nal hL54 k47)) (fun h1 => LiS.nar hL54 h1 k47 (by intro gv9 z; have z2 := (Prod.mk.inj (Prod.mk.inj (Sum.inl.inj z)).2); first | (exact absurd z2.1 (cpf_ne _)) | (cases z2.2)))
    have k61 : G55 vs = some (.inl (cy 2, 2001, .inr (.inl f3))) := hf2 _ _ k48 (Ne.symm (LiS.nal hL54 k48)) (fun h1 => LiS.nar hL54 h1 k48 (by intro gv9 z; have z2 := (Prod.mk.inj (Prod.mk.inj (Sum.inl.inj z)).2); first | (exact absurd z2.1 (cpf_ne _)) | (cases z2.2)))
    have k62 : G55 ja = some (.inr (5, [.int jat, .long jn, .ref ol, .ref pi, .int 0])) := hf3 _ _ _ k49 (by decide)
    have k63 : G55 ow = some (.inl (cy 1, 3, .inl wf)) := hf2 _ _ k50 (Ne.symm (LiS.nal hL54 k50)) (fun h1 => LiS.nar hL54 h1 k50 (by intro gv9 z; have z2 := (Prod.mk.inj (Prod.mk.inj (Sum.inl.inj z)).2); first | (exact absurd z2.1 (cpf_ne _)) | (cases z2.2)))
    have hopA : OPS tk G55 nC fC d := fun i hi => hf3 _ _ _ (hB53 _ _ (hops i hi) (mm_ne_oo (hops i hi) h0 (by decide))) (by decide)
    have hneA : ∀ i, i < nC → fC i ≠ q21 := fun i hi z => by have z2 := hops i hi; rw [z, fn52] at z2; cases z2
    refine lv_pop hx hb dX9_takeOp_56 rfl ?_
    refine lv_aload hx hb dX9_takeOp_57 (lv_at hl 0 rfl) ?_
    refine mm_getN (v := .ref (tk (K q.1))) hx hb hf_X7 (fun _ h9 => h9) hown hK hG k_el rfl 0 (by decide) (tb_use hT tw_903) (fun _ h9 => h9) rfl dX9_takeOp_59 ?_
    refine va_gets (v := .ref (tk 34)) hx hb (show va_Z "DescribeText$Token" "WHILE" "LDescribeText$Token;" (.ref (tk 34)) A s s.heap from (hE.2.1 34 (by decide)).1) hS hown (tb_use hT tw_959) (fun _ h9 => h9) dX9_takeOp_62 ?_
    refine lv_acmp_ne (rx := some (tk (K q.1))) (ry := some (tk 34)) (tgt := 75) hx hb dX9_takeOp_65 (by decide) (fun c_65 => ?_) (fun c_65 => ?_)
    · skip
      refine lv_aload hx hb dX9_takeOp_75 (lv_at hl 0 rfl) ?_
      refine mm_getN (v := .ref (tk (K q.1))) hx hb hf_X7 (fun _ h9 => h9) hown hK hG k_el rfl 0 (by decide) (tb_use hT tw_903) (fun _ h9 => h9) rfl dX9_takeOp_77 ?_
      refine va_gets (v := .ref (tk 25)) hx hb (show va_Z "DescribeText$Token" "PUT" "LDescribeText$Token;" (.ref (tk 25)) A s s.heap from (hE.2.1 25 (by decide)).1) hS hown (tb_use hT tw_965) (fun _ h9 => h9) dX9_takeOp_80 ?_
      refine lv_acmp_ne (rx := some (tk (K q.1))) (ry := some (tk 25)) (tgt := 99) hx hb dX9_takeOp_83 (by decide) (fun c_83 => ?_) (fun c_83 => ?_)
      · skip
        refine lv_aload hx hb dX9_takeOp_99 (lv_at hl 0 rfl) ?_
        refine mm_getN (v := .ref (tk (K q.1))) hx hb hf_X7 (fun _ h9 => h9) hown hK hG k_el rfl 0 (by decide) (tb_use hT tw_903) (fun _ h9 => h9) rfl dX9_takeOp_101 ?_
        refine va_gets (v := .ref (tk 26)) hx hb (show va_Z "DescribeText$Token" "GET" "LDescribeText$Token;" (.ref (tk 26)) A s s.heap from (hE.2.1 26 (by decide)).1) hS hown (tb_use hT tw_967) (fun _ h9 => h9) dX9_takeOp_104 ?_
        refine lv_acmp_ne (rx := some (tk (K q.1))) (ry := some (tk 26)) (tgt := 146) hx hb dX9_takeOp_107 (by decide) (fun c_107 => ?_) (fun c_107 => ?_)
        · skip
          refine lv_aload_n hx hb dX9_takeOp_146 rfl (lv_at hl 1 rfl) ?_
          refine va_gets (v := .ref (tk 6)) hx hb (show va_Z "DescribeText$Token" "SEMICOLON" "LDescribeText$Token;" (.ref (tk 6)) A s s.heap from (hE.2.1 6 (by decide)).1) hS hown (tb_use hT tw_592) (fun _ h9 => h9) dX9_takeOp_147 ?_
          refine va_callv (va_runV (As := [.ref (tk 6)]) (rest := []) ⟨hx, hb, hml, hown, (fun _ h9 => absurd h9 List.not_mem_nil : ∀ w ∈ ([] : List Cond), w.before _ s = true)⟩ (c_X9_take l D cy A X hst hXT e0 tk hXE G55 o ow ed y43 k ks ss vs tn K S V f1 f2 f3 6 k_o k58 k59 k60 k61 hTP (by first | omega | (simp only []; omega)) (by decide)) (tb_cw (C := RX9) 1 hT tw_539 tw_106 tw_536 tw_538 tw_12 rfl rfl hq_X9_take ⟨Nat.le_of_ble_eq_true rfl, Nat.le_of_ble_eq_true rfl⟩) (mk_preC hst hG hK hA hX hS vc_10 k_o) rfl rfl hl.1 rfl (lv_room (Nat.le_of_ble_eq_true rfl)) dX9_takeOp_150 ⟨(by show _ ≤ 2; omega), (by show _ ≤ 9 + gco nC; omega)⟩) hS (fun q _ h => h) (fun q h => h) (fun  G64 t H locs ht hvm hw hB hz1 hk1 hS => ?_)
          have hG : mm D vwCl A G64 H := by rw [← ht]; exact hB
          clear hB hz1 hk1 hvm ht
          obtain ⟨y65, ey65⟩ : ∃ y, y = q_take K S 6 y43 := ⟨_, rfl⟩
          rw [← ey65] at hw
          have ly65 : y65.1 ≤ y43.1 + 1 := by rw [ey65]; exact q_take_le
          have eG64 := hw
          clear hw
          have k66 : G64 o = some (.inr (10, [.ref k, .ref ow, .ref ed, .int (nI y65.1), .int y65.2])) := by rw [eG64]; exact mm_set_self
          have k67 : G64 q21 = some (.inr (8, [.ref (tk (K q.1)), .long 0, .long 0, .int 0, .null, .long 0, .int 0, .null, .int 0])) := by rw [eG64]; exact mm_set_of k_el (mm_ne_oo k_el k_o (by decide))
          have k68 : G64 k = some (.inr (13, [.ref ks, .ref ss, .ref vs, .int (nI tn)])) := by rw [eG64]; exact mm_set_of k58 (mm_ne_oo k58 k_o (by decide))
          have k69 : G64 ks = some (.inl (cy 5, 2001, .inr (.inr (.inr (.inr f1))))) := by rw [eG64]; exact mm_set_of k59 (mm_ne_ao k59 k_o)
          have k70 : G64 ss = some (.inl (cy 1, 2001, .inl f2)) := by rw [eG64]; exact mm_set_of k60 (mm_ne_ao k60 k_o)
          have k71 : G64 vs = some (.inl (cy 2, 2001, .inr (.inl f3))) := by rw [eG64]; exact mm_set_of k61 (mm_ne_ao k61 k_o)
          have k72 : G64 ja = some (.inr (5, [.int jat, .long jn, .ref ol, .ref pi, .int 0])) := by rw [eG64]; exact mm_set_of k62 (mm_ne_oo k62 k_o (by decide))
          have k73 : G64 ow = some (.inl (cy 1, 3, .inl wf)) := by rw [eG64]; exact mm_set_of k63 (mm_ne_ao k63 k_o)
          refine lv_iload_n hx hb dX9_takeOp_153 rfl (lv_at hl 4 rfl) ?_
          have hk_28 : ¬ K q.1 = 34 := fun z => c_28 (by rw [z])
          have hk_65 : ¬ K q.1 = 34 := fun z => c_65 (by rw [z])
          have hk_83 : ¬ K q.1 = 25 := fun z => c_83 (by rw [z])
          have hk_107 : ¬ K q.1 = 26 := fun z => c_107 (by rw [z])
          have hq : q_op K S V ta on nC q wf = (y65, on, wf, (K q.1, 0, 0, 0, 0, 0, 0)) := by
            unfold q_op
            dsimp only
            simp only [if_neg hk_65, if_neg hk_83, if_neg hk_107, ← ey43, ← ey65]
          have hfA : ∀ (x : Nat) (e : va_E), G55 x = some e → x ≠ o → x ≠ q21 → x ≠ ow → G64 x = some e := by
            intro x e z0 n_o n_q21 n_ow
            have z1 : G64 x = some e := by rw [eG64]; exact mm_set_of z0 n_o
            exact z1
          have hl9 : LiS cy e0 G64 ol ec2 (nC + 1) (fup fC nC q21) := LiS.fr2 (fun x => x ≠ o ∧ x ≠ q21 ∧ x ≠ ow) hlc2 (fun x e h0 hp => hfA x e h0 hp.1 hp.2.1 hp.2.2) ⟨hlc2.ne k_o (by decide), hlc2.ne k_el (by decide), LiS.nal hlc2 k63⟩ (fun v h1 hv => ⟨mm_ne_ao hv k_o, mm_ne_ao hv k_el, Ne.symm (LiS.nar hlc2 h1 k63 (by intro gv9 z; have z2 := (Prod.mk.inj (Prod.mk.inj (Sum.inl.inj z)).2); first | (exact absurd z2.1 (cpf_ne _)) | (cases z2.2)))⟩)
          have ho9 : OPS tk G64 (nC + 1) (fup fC nC q21) (upO d nC (K q.1, 0, 0, 0, 0, 0, 0)) := by
            intro i hi
            by_cases hz : i = nC
            · rw [hz, fup_eq]
              simp only [upO, if_true]
              exact k67
            · rw [fup_lt (by omega)]
              simp only [upO, hz, if_false]
              exact hfA _ _ (hopA i (by omega)) (mm_ne_oo (hopA i (by omega)) k_o (by decide)) (hneA i (by omega)) (mm_ne_oa (hopA i (by omega)) k63)
          have hfr8 : ∀ (x : Nat) (e : va_E), G x = some e → x ≠ o → x ≠ ow → x ≠ ol → (1 ≤ nC → x ≠ ec) → G64 x = some e := fun x e h1 n1 n0 n2 n3 => hfA x e (hfr9 x e h1 n1 n2 n3) n1 (fun z => by rw [z, fn52] at h1; cases h1) n0
          refine W.widen (k := 2) (n := (9 + gco nC)) (by omega) (by omega) ?_
          exact W.iret (v := (nI on)) hx hb hr (fun t ht hW => ⟨⟨_, _, rfl, (by rw [hq]; exact ⟨rfl, q21, ec2, fn52, k66, k73, hl9, hec3, ho9, hfr8⟩), mk_end hG ht⟩, hS.F ht⟩) hS.2.2 dX9_takeOp_154
        · skip
          refine lv_aload hx hb dX9_takeOp_110 (lv_at hl 0 rfl) ?_
          refine lv_aload_n hx hb dX9_takeOp_112 rfl (lv_at hl 1 rfl) ?_
          refine va_calli (va_runV (As := []) (rest := [.ref q21]) ⟨hx, hb, hml, hown, (fun _ h9 => absurd h9 List.not_mem_nil : ∀ w ∈ ([] : List Cond), w.before _ s = true)⟩ (c_X9_start l D cy A X hst hXT e0 tk hXE G55 o ow ed y43 k ks ss vs tn K S V f1 f2 f3  k_o k58 k59 k60 k61 hTP (by first | omega | (simp only []; omega)) ) (tb_cw (C := RX9) 0 hT tw_475 tw_106 tw_472 tw_474 tw_10 rfl rfl hq_X9_start ⟨Nat.le_of_ble_eq_true rfl, Nat.le_of_ble_eq_true rfl⟩) (mk_preC hst hG hK hA hX hS vc_10 k_o) rfl rfl hl.1 rfl (lv_room (Nat.le_of_ble_eq_true rfl)) dX9_takeOp_113 ⟨(by show _ ≤ 2; omega), (by show _ ≤ 9 + gco nC; omega)⟩) hS (fun q _ h => h) (fun q h => h) (fun r74 G75 t H locs ht hvm hw hB hz1 hk1 hS => ?_)
          have hG : mm D vwCl A G75 H := by rw [← ht]; exact hB
          clear hB hz1 hk1 hvm ht
          obtain ⟨er74, hw⟩ := hw
          rw [hw] at hG
          refine mm_putN (v := .int r74) (ty := .int) hx hb hf_X7 (fun _ h9 => h9) tyX7 tyX7_ok nmX7 hown hK hG hS k_el rfl 3 (by decide) (tb_use hT tw_909) (fun _ h9 => h9) rfl (by decide +kernel) rfl rfl (Nat.le_of_ble_eq_true rfl) dX9_takeOp_116 (fun H locs hG hS => ?_)
          obtain ⟨G76, eG76⟩ : ∃ g, g = mm_set G55 q21 (.inr (8, [.ref (tk (K q.1)), .long 0, .long 0, .int r74, .null, .long 0, .int 0, .null, .int 0])) := ⟨_, rfl⟩
          have hG : mm D vwCl A G76 H := by rw [eG76]; exact hG
          have k77 : G76 o = some (.inr (10, [.ref k, .ref ow, .ref ed, .int (nI y43.1), .int y43.2])) := by rw [eG76]; exact mm_set_of k_o (mm_ne_oo k_o k_el (by decide))
          have k78 : G76 q21 = some (.inr (8, [.ref (tk (K q.1)), .long 0, .long 0, .int r74, .null, .long 0, .int 0, .null, .int 0])) := by rw [eG76]; exact mm_set_self
          have k79 : G76 k = some (.inr (13, [.ref ks, .ref ss, .ref vs, .int (nI tn)])) := by rw [eG76]; exact mm_set_of k58 (mm_ne_oo k58 k_el (by decide))
          have k80 : G76 ks = some (.inl (cy 5, 2001, .inr (.inr (.inr (.inr f1))))) := by rw [eG76]; exact mm_set_of k59 (mm_ne_ao k59 k_el)
          have k81 : G76 ss = some (.inl (cy 1, 2001, .inl f2)) := by rw [eG76]; exact mm_set_of k60 (mm_ne_ao k60 k_el)
          have k82 : G76 vs = some (.inl (cy 2, 2001, .inr (.inl f3))) := by rw [eG76]; exact mm_set_of k61 (mm_ne_ao k61 k_el)
          have k83 : G76 ja = some (.inr (5, [.int jat, .long jn, .ref ol, .ref pi, .int 0])) := by rw [eG76]; exact mm_set_of k62 (mm_ne_oo k62 k_el (by decide))
          have k84 : G76 ow = some (.inl (cy 1, 3, .inl wf)) := by rw [eG76]; exact mm_set_of k63 (mm_ne_ao k63 k_el)
          refine lv_aload hx hb dX9_takeOp_119 (lv_at hl 0 rfl) ?_
          refine lv_aload_n hx hb dX9_takeOp_121 rfl (lv_at hl 1 rfl) ?_
          refine va_calll (va_runV (As := []) (rest := [.ref q21]) ⟨hx, hb, hml, hown, (fun _ h9 => absurd h9 List.not_mem_nil : ∀ w ∈ ([] : List Cond), w.before _ s = true)⟩ (c_X9_takeName l D cy A X hst hXT e0 tk hXE G76 o ow ed y43 k ks ss vs tn K S V f1 f2 f3  k77 k79 k80 k81 k82 hTP (by first | omega | (simp only []; omega)) ) (tb_cw (C := RX9) 0 hT tw_479 tw_106 tw_476 tw_478 tw_11 rfl rfl hq_X9_takeName ⟨Nat.le_of_ble_eq_true rfl, Nat.le_of_ble_eq_true rfl⟩) (mk_preC hst hG hK hA hX hS vc_10 k77) rfl rfl hl.1 rfl (lv_room (Nat.le_of_ble_eq_true rfl)) dX9_takeOp_122 ⟨(by show _ ≤ 2; omega), (by show _ ≤ 9 + gco nC; omega)⟩) hS (fun q _ h => h) (fun q h => h) (fun r85 G86 t H locs ht hvm hw hB hz1 hk1 hS => ?_)
          have hG : mm D vwCl A G86 H := by rw [← ht]; exact hB
          clear hB hz1 hk1 hvm ht
          obtain ⟨y87, ey87⟩ : ∃ y, y = q_name K S V y43 := ⟨_, rfl⟩
          rw [← ey87] at hw
          obtain ⟨er85, hw⟩ := hw
          have ly87 : y87.2.1 ≤ y43.1 + 1 := by rw [ey87]; exact q_name_le
          have eG86 := hw
          clear hw
          have k88 : G86 o = some (.inr (10, [.ref k, .ref ow, .ref ed, .int (nI y87.2.1), .int y87.2.2])) := by rw [eG86]; exact mm_set_self
          have k89 : G86 q21 = some (.inr (8, [.ref (tk (K q.1)), .long 0, .long 0, .int r74, .null, .long 0, .int 0, .null, .int 0])) := by rw [eG86]; exact mm_set_of k78 (mm_ne_oo k78 k77 (by decide))
          have k90 : G86 k = some (.inr (13, [.ref ks, .ref ss, .ref vs, .int (nI tn)])) := by rw [eG86]; exact mm_set_of k79 (mm_ne_oo k79 k77 (by decide))
          have k91 : G86 ks = some (.inl (cy 5, 2001, .inr (.inr (.inr (.inr f1))))) := by rw [eG86]; exact mm_set_of k80 (mm_ne_ao k80 k77)
          have k92 : G86 ss = some (.inl (cy 1, 2001, .inl f2)) := by rw [eG86]; exact mm_set_of k81 (mm_ne_ao k81 k77)
          have k93 : G86 vs = some (.inl (cy 2, 2001, .inr (.inl f3))) := by rw [eG86]; exact mm_set_of k82 (mm_ne_ao k82 k77)
          have k94 : G86 ja = some (.inr (5, [.int jat, .long jn, .ref ol, .ref pi, .int 0])) := by rw [eG86]; exact mm_set_of k83 (mm_ne_oo k83 k77 (by decide))
          have k95 : G86 ow = some (.inl (cy 1, 3, .inl wf)) := by rw [eG86]; exact mm_set_of k84 (mm_ne_ao k84 k77)
          refine mm_putN (v := .long r85) (ty := .long) hx hb hf_X7 (fun _ h9 => h9) tyX7 tyX7_ok nmX7 hown hK hG hS k89 rfl 2 (by decide) (tb_use hT tw_907) (fun _ h9 => h9) rfl (by decide +kernel) rfl rfl (Nat.le_of_ble_eq_true rfl) dX9_takeOp_125 (fun H locs hG hS => ?_)
          obtain ⟨G96, eG96⟩ : ∃ g, g = mm_set G86 q21 (.inr (8, [.ref (tk (K q.1)), .long 0, .long r85, .int r74, .null, .long 0, .int 0, .null, .int 0])) := ⟨_, rfl⟩
          have hG : mm D vwCl A G96 H := by rw [eG96]; exact hG
          have k97 : G96 o = some (.inr (10, [.ref k, .ref ow, .ref ed, .int (nI y87.2.1), .int y87.2.2])) := by rw [eG96]; exact mm_set_of k88 (mm_ne_oo k88 k89 (by decide))
          have k98 : G96 q21 = some (.inr (8, [.ref (tk (K q.1)), .long 0, .long r85, .int r74, .null, .long 0, .int 0, .null, .int 0])) := by rw [eG96]; exact mm_set_self
          have k99 : G96 k = some (.inr (13, [.ref ks, .ref ss, .ref vs, .int (nI tn)])) := by rw [eG96]; exact mm_set_of k90 (mm_ne_oo k90 k89 (by decide))
          have k100 : G96 ks = some (.inl (cy 5, 2001, .inr (.inr (.inr (.inr f1))))) := by rw [eG96]; exact mm_set_of k91 (mm_ne_ao k91 k89)
          have k101 : G96 ss = some (.inl (cy 1, 2001, .inl f2)) := by rw [eG96]; exact mm_set_of k92 (mm_ne_ao k92 k89)
          have k102 : G96 vs = some (.inl (cy 2, 2001, .inr (.inl f3))) := by rw [eG96]; exact mm_set_of k93 (mm_ne_ao k93 k89)
          have k103 : G96 ja = some (.inr (5, [.int jat, .long jn, .ref ol, .ref pi, .int 0])) := by rw [eG96]; exact mm_set_of k94 (mm_ne_oo k94 k89 (by decide))
          have k104 : G96 ow = some (.inl (cy 1, 3, .inl wf)) := by rw [eG96]; exact mm_set_of k95 (mm_ne_ao k95 k89)
          refine lv_aload hx hb dX9_takeOp_128 (lv_at hl 0 rfl) ?_
          refine lv_aload_n hx hb dX9_takeOp_130 rfl (lv_at hl 1 rfl) ?_
          refine va_calli (va_runV (As := []) (rest := [.ref q21]) ⟨hx, hb, hml, hown, (fun _ h9 => absurd h9 List.not_mem_nil : ∀ w ∈ ([] : List Cond), w.before _ s = true)⟩ (c_X9_start l D cy A X hst hXT e0 tk hXE G96 o ow ed y87.2 k ks ss vs tn K S V f1 f2 f3  k97 k99 k100 k101 k102 hTP (by first | omega | (simp only []; omega)) ) (tb_cw (C := RX9) 0 hT tw_475 tw_106 tw_472 tw_474 tw_10 rfl rfl hq_X9_start ⟨Nat.le_of_ble_eq_true rfl, Nat.le_of_ble_eq_true rfl⟩) (mk_preC hst hG hK hA hX hS vc_10 k97) rfl rfl hl.1 rfl (lv_room (Nat.le_of_ble_eq_true rfl)) dX9_takeOp_131 ⟨(by show _ ≤ 2; omega), (by show _ ≤ 9 + gco nC; omega)⟩) hS (fun q _ h => h) (fun q h => h) (fun r105 G106 t H locs ht hvm hw hB hz1 hk1 hS => ?_)
          have hG : mm D vwCl A G106 H := by rw [← ht]; exact hB
          clear hB hz1 hk1 hvm ht
          obtain ⟨er105, hw⟩ := hw
          rw [hw] at hG
          refine mm_putN (v := .int r105) (ty := .int) hx hb hf_X7 (fun _ h9 => h9) tyX7 tyX7_ok nmX7 hown hK hG hS k98 rfl 6 (by decide) (tb_use hT tw_915) (fun _ h9 => h9) rfl (by decide +kernel) rfl rfl (Nat.le_of_ble_eq_true rfl) dX9_takeOp_134 (fun H locs hG hS => ?_)
          obtain ⟨G107, eG107⟩ : ∃ g, g = mm_set G96 q21 (.inr (8, [.ref (tk (K q.1)), .long 0, .long r85, .int r74, .null, .long 0, .int r105, .null, .int 0])) := ⟨_, rfl⟩
          have hG : mm D vwCl A G107 H := by rw [eG107]; exact hG
          have k108 : G107 o = some (.inr (10, [.ref k, .ref ow, .ref ed, .int (nI y87.2.1), .int y87.2.2])) := by rw [eG107]; exact mm_set_of k97 (mm_ne_oo k97 k98 (by decide))
          have k109 : G107 q21 = some (.inr (8, [.ref (tk (K q.1)), .long 0, .long r85, .int r74, .null, .long 0, .int r105, .null, .int 0])) := by rw [eG107]; exact mm_set_self
          have k110 : G107 k = some (.inr (13, [.ref ks, .ref ss, .ref vs, .int (nI tn)])) := by rw [eG107]; exact mm_set_of k99 (mm_ne_oo k99 k98 (by decide))
          have k111 : G107 ks = some (.inl (cy 5, 2001, .inr (.inr (.inr (.inr f1))))) := by rw [eG107]; exact mm_set_of k100 (mm_ne_ao k100 k98)
          have k112 : G107 ss = some (.inl (cy 1, 2001, .inl f2)) := by rw [eG107]; exact mm_set_of k101 (mm_ne_ao k101 k98)
          have k113 : G107 vs = some (.inl (cy 2, 2001, .inr (.inl f3))) := by rw [eG107]; exact mm_set_of k102 (mm_ne_ao k102 k98)
          have k114 : G107 ja = some (.inr (5, [.int jat, .long jn, .ref ol, .ref pi, .int 0])) := by rw [eG107]; exact mm_set_of k103 (mm_ne_oo k103 k98 (by decide))
          have k115 : G107 ow = some (.inl (cy 1, 3, .inl wf)) := by rw [eG107]; exact mm_set_of k104 (mm_ne_ao k104 k98)
          refine lv_aload hx hb dX9_takeOp_137 (lv_at hl 0 rfl) ?_
          refine lv_aload_n hx hb dX9_takeOp_139 rfl (lv_at hl 1 rfl) ?_
          refine va_calll (va_runV (As := []) (rest := [.ref q21]) ⟨hx, hb, hml, hown, (fun _ h9 => absurd h9 List.not_mem_nil : ∀ w ∈ ([] : List Cond), w.before _ s = true)⟩ (c_X9_takeName l D cy A X hst hXT e0 tk hXE G107 o ow ed y87.2 k ks ss vs tn K S V f1 f2 f3  k108 k110 k111 k112 k113 hTP (by first | omega | (simp only []; omega)) ) (tb_cw (C := RX9) 0 hT tw_479 tw_106 tw_476 tw_478 tw_11 rfl rfl hq_X9_takeName ⟨Nat.le_of_ble_eq_true rfl, Nat.le_of_ble_eq_true rfl⟩) (mk_preC hst hG hK hA hX hS vc_10 k108) rfl rfl hl.1 rfl (lv_room (Nat.le_of_ble_eq_true rfl)) dX9_takeOp_140 ⟨(by show _ ≤ 2; omega), (by show _ ≤ 9 + gco nC; omega)⟩) hS (fun q _ h => h) (fun q h => h) (fun r116 G117 t H locs ht hvm hw hB hz1 hk1 hS => ?_)
          have hG : mm D vwCl A G117 H := by rw [← ht]; exact hB
          clear hB hz1 hk1 hvm ht
          obtain ⟨y118, ey118⟩ : ∃ y, y = q_name K S V y87.2 := ⟨_, rfl⟩
          rw [← ey118] at hw
          obtain ⟨er116, hw⟩ := hw
          have ly118 : y118.2.1 ≤ y87.2.1 + 1 := by rw [ey118]; exact q_name_le
          have eG117 := hw
          clear hw
          have k119 : G117 o = some (.inr (10, [.ref k, .ref ow, .ref ed, .int (nI y118.2.1), .int y118.2.2])) := by rw [eG117]; exact mm_set_self
          have k120 : G117 q21 = some (.inr (8, [.ref (tk (K q.1)), .long 0, .long r85, .int r74, .null, .long 0, .int r105, .null, .int 0])) := by rw [eG117]; exact mm_set_of k109 (mm_ne_oo k109 k108 (by decide))
          have k121 : G117 k = some (.inr (13, [.ref ks, .ref ss, .ref vs, .int (nI tn)])) := by rw [eG117]; exact mm_set_of k110 (mm_ne_oo k110 k108 (by decide))
          have k122 : G117 ks = some (.inl (cy 5, 2001, .inr (.inr (.inr (.inr f1))))) := by rw [eG117]; exact mm_set_of k111 (mm_ne_ao k111 k108)
          have k123 : G117 ss = some (.inl (cy 1, 2001, .inl f2)) := by rw [eG117]; exact mm_set_of k112 (mm_ne_ao k112 k108)
          have k124 : G117 vs = some (.inl (cy 2, 2001, .inr (.inl f3))) := by rw [eG117]; exact mm_set_of k113 (mm_ne_ao k113 k108)
          have k125 : G117 ja = some (.inr (5, [.int jat, .long jn, .ref ol, .ref pi, .int 0])) := by rw [eG117]; exact mm_set_of k114 (mm_ne_oo k114 k108 (by decide))
          have k126 : G117 ow = some (.inl (cy 1, 3, .inl wf)) := by rw [eG117]; exact mm_set_of k115 (mm_ne_ao k115 k108)
          refine mm_putN (v := .long r116) (ty := .long) hx hb hf_X7 (fun _ h9 => h9) tyX7 tyX7_ok nmX7 hown hK hG hS k120 rfl 5 (by decide) (tb_use hT tw_913) (fun _ h9 => h9) rfl (by decide +kernel) rfl rfl (Nat.le_of_ble_eq_true rfl) dX9_takeOp_143 (fun H locs hG hS => ?_)
          obtain ⟨G127, eG127⟩ : ∃ g, g = mm_set G117 q21 (.inr (8, [.ref (tk (K q.1)), .long 0, .long r85, .int r74, .null, .long r116, .int r105, .null, .int 0])) := ⟨_, rfl⟩
          have hG : mm D vwCl A G127 H := by rw [eG127]; exact hG
          have k128 : G127 o = some (.inr (10, [.ref k, .ref ow, .ref ed, .int (nI y118.2.1), .int y118.2.2])) := by rw [eG127]; exact mm_set_of k119 (mm_ne_oo k119 k120 (by decide))
          have k129 : G127 q21 = some (.inr (8, [.ref (tk (K q.1)), .long 0, .long r85, .int r74, .null, .long r116, .int r105, .null, .int 0])) := by rw [eG127]; exact mm_set_self
          have k130 : G127 k = some (.inr (13, [.ref ks, .ref ss, .ref vs, .int (nI tn)])) := by rw [eG127]; exact mm_set_of k121 (mm_ne_oo k121 k120 (by decide))
          have k131 : G127 ks = some (.inl (cy 5, 2001, .inr (.inr (.inr (.inr f1))))) := by rw [eG127]; exact mm_set_of k122 (mm_ne_ao k122 k120)
          have k132 : G127 ss = some (.inl (cy 1, 2001, .inl f2)) := by rw [eG127]; exact mm_set_of k123 (mm_ne_ao k123 k120)
          have k133 : G127 vs = some (.inl (cy 2, 2001, .inr (.inl f3))) := by rw [eG127]; exact mm_set_of k124 (mm_ne_ao k124 k120)
          have k134 : G127 ja = some (.inr (5, [.int jat, .long jn, .ref ol, .ref pi, .int 0])) := by rw [eG127]; exact mm_set_of k125 (mm_ne_oo k125 k120 (by decide))
          have k135 : G127 ow = some (.inl (cy 1, 3, .inl wf)) := by rw [eG127]; exact mm_set_of k126 (mm_ne_ao k126 k120)
          refine lv_aload_n hx hb dX9_takeOp_146 rfl (lv_at hl 1 rfl) ?_
          refine va_gets (v := .ref (tk 6)) hx hb (show va_Z "DescribeText$Token" "SEMICOLON" "LDescribeText$Token;" (.ref (tk 6)) A s s.heap from (hE.2.1 6 (by decide)).1) hS hown (tb_use hT tw_592) (fun _ h9 => h9) dX9_takeOp_147 ?_
          refine va_callv (va_runV (As := [.ref (tk 6)]) (rest := []) ⟨hx, hb, hml, hown, (fun _ h9 => absurd h9 List.not_mem_nil : ∀ w ∈ ([] : List Cond), w.before _ s = true)⟩ (c_X9_take l D cy A X hst hXT e0 tk hXE G127 o ow ed y118.2 k ks ss vs tn K S V f1 f2 f3 6 k128 k130 k131 k132 k133 hTP (by first | omega | (simp only []; omega)) (by decide)) (tb_cw (C := RX9) 1 hT tw_539 tw_106 tw_536 tw_538 tw_12 rfl rfl hq_X9_take ⟨Nat.le_of_ble_eq_true rfl, Nat.le_of_ble_eq_true rfl⟩) (mk_preC hst hG hK hA hX hS vc_10 k128) rfl rfl hl.1 rfl (lv_room (Nat.le_of_ble_eq_true rfl)) dX9_takeOp_150 ⟨(by show _ ≤ 2; omega), (by show _ ≤ 9 + gco nC; omega)⟩) hS (fun q _ h => h) (fun q h => h) (fun  G136 t H locs ht hvm hw hB hz1 hk1 hS => ?_)
          have hG : mm D vwCl A G136 H := by rw [← ht]; exact hB
          clear hB hz1 hk1 hvm ht
          obtain ⟨y137, ey137⟩ : ∃ y, y = q_take K S 6 y118.2 := ⟨_, rfl⟩
          rw [← ey137] at hw
          have ly137 : y137.1 ≤ y118.2.1 + 1 := by rw [ey137]; exact q_take_le
          have eG136 := hw
          clear hw
          have k138 : G136 o = some (.inr (10, [.ref k, .ref ow, .ref ed, .int (nI y137.1), .int y137.2])) := by rw [eG136]; exact mm_set_self
          have k139 : G136 q21 = some (.inr (8, [.ref (tk (K q.1)), .long 0, .long r85, .int r74, .null, .long r116, .int r105, .null, .int 0])) := by rw [eG136]; exact mm_set_of k129 (mm_ne_oo k129 k128 (by decide))
          have k140 : G136 k = some (.inr (13, [.ref ks, .ref ss, .ref vs, .int (nI tn)])) := by rw [eG136]; exact mm_set_of k130 (mm_ne_oo k130 k128 (by decide))
          have k141 : G136 ks = some (.inl (cy 5, 2001, .inr (.inr (.inr (.inr f1))))) := by rw [eG136]; exact mm_set_of k131 (mm_ne_ao k131 k128)
          have k142 : G136 ss = some (.inl (cy 1, 2001, .inl f2)) := by rw [eG136]; exact mm_set_of k132 (mm_ne_ao k132 k128)
          have k143 : G136 vs = some (.inl (cy 2, 2001, .inr (.inl f3))) := by rw [eG136]; exact mm_set_of k133 (mm_ne_ao k133 k128)
          have k144 : G136 ja = some (.inr (5, [.int jat, .long jn, .ref ol, .ref pi, .int 0])) := by rw [eG136]; exact mm_set_of k134 (mm_ne_oo k134 k128 (by decide))
          have k145 : G136 ow = some (.inl (cy 1, 3, .inl wf)) := by rw [eG136]; exact mm_set_of k135 (mm_ne_ao k135 k128)
          refine lv_iload_n hx hb dX9_takeOp_153 rfl (lv_at hl 4 rfl) ?_
          have hk_28 : ¬ K q.1 = 34 := fun z => c_28 (by rw [z])
          have hk_65 : ¬ K q.1 = 34 := fun z => c_65 (by rw [z])
          have hk_83 : ¬ K q.1 = 25 := fun z => c_83 (by rw [z])
          have hk_107 : K q.1 = 26 := tk_ne hE ((hTP.2.1 q.1).1) (by decide) c_107
          have hq : q_op K S V ta on nC q wf = (y137, on, wf, (K q.1, 0, r85, r74, r116, r105, 0)) := by
            unfold q_op
            dsimp only
            simp only [if_neg hk_65, if_neg hk_83, if_pos hk_107, ← ey43, ← ey87, ← ey118, ← ey137]
            try simp only [er74, er85, er105, er116]
          have hfA : ∀ (x : Nat) (e : va_E), G55 x = some e → x ≠ o → x ≠ q21 → x ≠ ow → G136 x = some e := by
            intro x e z0 n_o n_q21 n_ow
            have z1 : G76 x = some e := by rw [eG76]; exact mm_set_of z0 n_q21
            have z2 : G86 x = some e := by rw [eG86]; exact mm_set_of z1 n_o
            have z3 : G96 x = some e := by rw [eG96]; exact mm_set_of z2 n_q21
            have z4 : G107 x = some e := by rw [eG107]; exact mm_set_of z3 n_q21
            have z5 : G117 x = some e := by rw [eG117]; exact mm_set_of z4 n_o
            have z6 : G127 x = some e := by rw [eG127]; exact mm_set_of z5 n_q21
            have z7 : G136 x = some e := by rw [eG136]; exact mm_set_of z6 n_o
            exact z7
          have hl9 : LiS cy e0 G136 ol ec2 (nC + 1) (fup fC nC q21) := LiS.fr2 (fun x => x ≠ o ∧ x ≠ q21 ∧ x ≠ ow) hlc2 (fun x e h0 hp => hfA x e h0 hp.1 hp.2.1 hp.2.2) ⟨hlc2.ne k_o (by decide), hlc2.ne k_el (by decide), LiS.nal hlc2 k63⟩ (fun v h1 hv => ⟨mm_ne_ao hv k_o, mm_ne_ao hv k_el, Ne.symm (LiS.nar hlc2 h1 k63 (by intro gv9 z; have z2 := (Prod.mk.inj (Prod.mk.inj (Sum.inl.inj z)).2); first | (exact absurd z2.1 (cpf_ne _)) | (cases z2.2)))⟩)
          have ho9 : OPS tk G136 (nC + 1) (fup fC nC q21) (upO d nC (K q.1, 0, r85, r74, r116, r105, 0)) := by
            intro i hi
            by_cases hz : i = nC
            · rw [hz, fup_eq]
              simp only [upO, if_true]
              exact k139
            · rw [fup_lt (by omega)]
              simp only [upO, hz, if_false]
              exact hfA _ _ (hopA i (by omega)) (mm_ne_oo (hopA i (by omega)) k_o (by decide)) (hneA i (by omega)) (mm_ne_oa (hopA i (by omega)) k63)
          have hfr8 : ∀ (x : Nat) (e : va_E), G x = some e → x ≠ o → x ≠ ow → x ≠ ol → (1 ≤ nC → x ≠ ec) → G136 x = some e := fun x e h1 n1 n0 n2 n3 => hfA x e (hfr9 x e h1 n1 n2 n3) n1 (fun z => by rw [z, fn52] at h1; cases h1) n0
          refine W.widen (k := 2) (n := (9 + gco nC)) (by omega) (by omega) ?_
          exact W.iret (v := (nI on)) hx hb hr (fun t ht hW => ⟨⟨_, _, rfl, (by rw [hq]; exact ⟨rfl, q21, ec2, fn52, k138, k145, hl9, hec3, ho9, hfr8⟩), mk_end hG ht⟩, hS.F ht⟩) hS.2.2 dX9_takeOp_154
      · skip
        refine lv_aload hx hb dX9_takeOp_86 (lv_at hl 0 rfl) ?_
        refine lv_aload_n hx hb dX9_takeOp_88 rfl (lv_at hl 1 rfl) ?_
        refine va_calli (va_runV (As := []) (rest := [.ref q21]) ⟨hx, hb, hml, hown, (fun _ h9 => absurd h9 List.not_mem_nil : ∀ w ∈ ([] : List Cond), w.before _ s = true)⟩ (c_X9_takeValue l D cy A X hst hXT e0 tk hXE G55 o ow ed y43 k ks ss vs tn K S V f1 f2 f3  k_o k58 k59 k60 k61 hTP (by first | omega | (simp only []; omega)) ) (tb_cw (C := RX9) 0 hT tw_668 tw_106 tw_665 tw_667 tw_21 rfl rfl hq_X9_takeValue ⟨Nat.le_of_ble_eq_true rfl, Nat.le_of_ble_eq_true rfl⟩) (mk_preC hst hG hK hA hX hS vc_10 k_o) rfl rfl hl.1 rfl (lv_room (Nat.le_of_ble_eq_true rfl)) dX9_takeOp_89 ⟨(by show _ ≤ 2; omega), (by show _ ≤ 9 + gco nC; omega)⟩) hS (fun q _ h => h) (fun q h => h) (fun r146 G147 t H locs ht hvm hw hB hz1 hk1 hS => ?_)
        have hG : mm D vwCl A G147 H := by rw [← ht]; exact hB
        clear hB hz1 hk1 hvm ht
        obtain ⟨y148, ey148⟩ : ∃ y, y = q_val K S V y43 := ⟨_, rfl⟩
        rw [← ey148] at hw
        obtain ⟨er146, hw⟩ := hw
        have ly148 : y148.2.1 ≤ y43.1 + 2 := by rw [ey148]; exact q_val_le
        have eG147 := hw
        clear hw
        have k149 : G147 o = some (.inr (10, [.ref k, .ref ow, .ref ed, .int (nI y148.2.1), .int y148.2.2])) := by rw [eG147]; exact mm_set_self
        have k150 : G147 q21 = some (.inr (8, [.ref (tk (K q.1)), .long 0, .long 0, .int 0, .null, .long 0, .int 0, .null, .int 0])) := by rw [eG147]; exact mm_set_of k_el (mm_ne_oo k_el k_o (by decide))
        have k151 : G147 k = some (.inr (13, [.ref ks, .ref ss, .ref vs, .int (nI tn)])) := by rw [eG147]; exact mm_set_of k58 (mm_ne_oo k58 k_o (by decide))
        have k152 : G147 ks = some (.inl (cy 5, 2001, .inr (.inr (.inr (.inr f1))))) := by rw [eG147]; exact mm_set_of k59 (mm_ne_ao k59 k_o)
        have k153 : G147 ss = some (.inl (cy 1, 2001, .inl f2)) := by rw [eG147]; exact mm_set_of k60 (mm_ne_ao k60 k_o)
        have k154 : G147 vs = some (.inl (cy 2, 2001, .inr (.inl f3))) := by rw [eG147]; exact mm_set_of k61 (mm_ne_ao k61 k_o)
        have k155 : G147 ja = some (.inr (5, [.int jat, .long jn, .ref ol, .ref pi, .int 0])) := by rw [eG147]; exact mm_set_of k62 (mm_ne_oo k62 k_o (by decide))
        have k156 : G147 ow = some (.inl (cy 1, 3, .inl wf)) := by rw [eG147]; exact mm_set_of k63 (mm_ne_ao k63 k_o)
        obtain ⟨x157, ex157⟩ : ∃ y, y = (r146 : Int32).toInt64 := ⟨_, rfl⟩
        refine lv_i2l (v := x157) hx hb dX9_takeOp_92 ex157.symm ?_
        refine mm_putN (v := .long x157) (ty := .long) hx hb hf_X7 (fun _ h9 => h9) tyX7 tyX7_ok nmX7 hown hK hG hS k150 rfl 1 (by decide) (tb_use hT tw_905) (fun _ h9 => h9) rfl (by decide +kernel) rfl rfl (Nat.le_of_ble_eq_true rfl) dX9_takeOp_93 (fun H locs hG hS => ?_)
        obtain ⟨G158, eG158⟩ : ∃ g, g = mm_set G147 q21 (.inr (8, [.ref (tk (K q.1)), .long x157, .long 0, .int 0, .null, .long 0, .int 0, .null, .int 0])) := ⟨_, rfl⟩
        have hG : mm D vwCl A G158 H := by rw [eG158]; exact hG
        have k159 : G158 o = some (.inr (10, [.ref k, .ref ow, .ref ed, .int (nI y148.2.1), .int y148.2.2])) := by rw [eG158]; exact mm_set_of k149 (mm_ne_oo k149 k150 (by decide))
        have k160 : G158 q21 = some (.inr (8, [.ref (tk (K q.1)), .long x157, .long 0, .int 0, .null, .long 0, .int 0, .null, .int 0])) := by rw [eG158]; exact mm_set_self
        have k161 : G158 k = some (.inr (13, [.ref ks, .ref ss, .ref vs, .int (nI tn)])) := by rw [eG158]; exact mm_set_of k151 (mm_ne_oo k151 k150 (by decide))
        have k162 : G158 ks = some (.inl (cy 5, 2001, .inr (.inr (.inr (.inr f1))))) := by rw [eG158]; exact mm_set_of k152 (mm_ne_ao k152 k150)
        have k163 : G158 ss = some (.inl (cy 1, 2001, .inl f2)) := by rw [eG158]; exact mm_set_of k153 (mm_ne_ao k153 k150)
        have k164 : G158 vs = some (.inl (cy 2, 2001, .inr (.inl f3))) := by rw [eG158]; exact mm_set_of k154 (mm_ne_ao k154 k150)
        have k165 : G158 ja = some (.inr (5, [.int jat, .long jn, .ref ol, .ref pi, .int 0])) := by rw [eG158]; exact mm_set_of k155 (mm_ne_oo k155 k150 (by decide))
        have k166 : G158 ow = some (.inl (cy 1, 3, .inl wf)) := by rw [eG158]; exact mm_set_of k156 (mm_ne_ao k156 k150)
        refine lv_goto (tgt := 146) hx hb dX9_takeOp_96 (by decide) ?_
        refine lv_aload_n hx hb dX9_takeOp_146 rfl (lv_at hl 1 rfl) ?_
        refine va_gets (v := .ref (tk 6)) hx hb (show va_Z "DescribeText$Token" "SEMICOLON" "LDescribeText$Token;" (.ref (tk 6)) A s s.heap from (hE.2.1 6 (by decide)).1) hS hown (tb_use hT tw_592) (fun _ h9 => h9) dX9_takeOp_147 ?_
        refine va_callv (va_runV (As := [.ref (tk 6)]) (rest := []) ⟨hx, hb, hml, hown, (fun _ h9 => absurd h9 List.not_mem_nil : ∀ w ∈ ([] : List Cond), w.before _ s = true)⟩ (c_X9_take l D cy A X hst hXT e0 tk hXE G158 o ow ed y148.2 k ks ss vs tn K S V f1 f2 f3 6 k159 k161 k162 k163 k164 hTP (by first | omega | (simp only []; omega)) (by decide)) (tb_cw (C := RX9) 1 hT tw_539 tw_106 tw_536 tw_538 tw_12 rfl rfl hq_X9_take ⟨Nat.le_of_ble_eq_true rfl, Nat.le_of_ble_eq_true rfl⟩) (mk_preC hst hG hK hA hX hS vc_10 k159) rfl rfl hl.1 rfl (lv_room (Nat.le_of_ble_eq_true rfl)) dX9_takeOp_150 ⟨(by show _ ≤ 2; omega), (by show _ ≤ 9 + gco nC; omega)⟩) hS (fun q _ h => h) (fun q h => h) (fun  G167 t H locs ht hvm hw hB hz1 hk1 hS => ?_)
        have hG : mm D vwCl A G167 H := by rw [← ht]; exact hB
        clear hB hz1 hk1 hvm ht
        obtain ⟨y168, ey168⟩ : ∃ y, y = q_take K S 6 y148.2 := ⟨_, rfl⟩
        rw [← ey168] at hw
        have ly168 : y168.1 ≤ y148.2.1 + 1 := by rw [ey168]; exact q_take_le
        have eG167 := hw
        clear hw
        have k169 : G167 o = some (.inr (10, [.ref k, .ref ow, .ref ed, .int (nI y168.1), .int y168.2])) := by rw [eG167]; exact mm_set_self
        have k170 : G167 q21 = some (.inr (8, [.ref (tk (K q.1)), .long x157, .long 0, .int 0, .null, .long 0, .int 0, .null, .int 0])) := by rw [eG167]; exact mm_set_of k160 (mm_ne_oo k160 k159 (by decide))
        have k171 : G167 k = some (.inr (13, [.ref ks, .ref ss, .ref vs, .int (nI tn)])) := by rw [eG167]; exact mm_set_of k161 (mm_ne_oo k161 k159 (by decide))
        have k172 : G167 ks = some (.inl (cy 5, 2001, .inr (.inr (.inr (.inr f1))))) := by rw [eG167]; exact mm_set_of k162 (mm_ne_ao k162 k159)
        have k173 : G167 ss = some (.inl (cy 1, 2001, .inl f2)) := by rw [eG167]; exact mm_set_of k163 (mm_ne_ao k163 k159)
        have k174 : G167 vs = some (.inl (cy 2, 2001, .inr (.inl f3))) := by rw [eG167]; exact mm_set_of k164 (mm_ne_ao k164 k159)
        have k175 : G167 ja = some (.inr (5, [.int jat, .long jn, .ref ol, .ref pi, .int 0])) := by rw [eG167]; exact mm_set_of k165 (mm_ne_oo k165 k159 (by decide))
        have k176 : G167 ow = some (.inl (cy 1, 3, .inl wf)) := by rw [eG167]; exact mm_set_of k166 (mm_ne_ao k166 k159)
        refine lv_iload_n hx hb dX9_takeOp_153 rfl (lv_at hl 4 rfl) ?_
        have hk_28 : ¬ K q.1 = 34 := fun z => c_28 (by rw [z])
        have hk_65 : ¬ K q.1 = 34 := fun z => c_65 (by rw [z])
        have hk_83 : K q.1 = 25 := tk_ne hE ((hTP.2.1 q.1).1) (by decide) c_83
        have hq : q_op K S V ta on nC q wf = (y168, on, wf, (K q.1, x157, 0, 0, 0, 0, 0)) := by
          unfold q_op
          dsimp only
          simp only [if_neg hk_65, if_pos hk_83, ← ey43, ← ey148, ← ey168]
          try simp only [er146, ex157]
        have hfA : ∀ (x : Nat) (e : va_E), G55 x = some e → x ≠ o → x ≠ q21 → x ≠ ow → G167 x = some e := by
          intro x e z0 n_o n_q21 n_ow
          have z1 : G147 x = some e := by rw [eG147]; exact mm_set_of z0 n_o
          have z2 : G158 x = some e := by rw [eG158]; exact mm_set_of z1 n_q21
          have z3 : G167 x = some e := by rw [eG167]; exact mm_set_of z2 n_o
          exact z3
        have hl9 : LiS cy e0 G167 ol ec2 (nC + 1) (fup fC nC q21) := LiS.fr2 (fun x => x ≠ o ∧ x ≠ q21 ∧ x ≠ ow) hlc2 (fun x e h0 hp => hfA x e h0 hp.1 hp.2.1 hp.2.2) ⟨hlc2.ne k_o (by decide), hlc2.ne k_el (by decide), LiS.nal hlc2 k63⟩ (fun v h1 hv => ⟨mm_ne_ao hv k_o, mm_ne_ao hv k_el, Ne.symm (LiS.nar hlc2 h1 k63 (by intro gv9 z; have z2 := (Prod.mk.inj (Prod.mk.inj (Sum.inl.inj z)).2); first | (exact absurd z2.1 (cpf_ne _)) | (cases z2.2)))⟩)
        have ho9 : OPS tk G167 (nC + 1) (fup fC nC q21) (upO d nC (K q.1, x157, 0, 0, 0, 0, 0)) := by
          intro i hi
          by_cases hz : i = nC
          · rw [hz, fup_eq]
            simp only [upO, if_true]
            exact k170
          · rw [fup_lt (by omega)]
            simp only [upO, hz, if_false]
            exact hfA _ _ (hopA i (by omega)) (mm_ne_oo (hopA i (by omega)) k_o (by decide)) (hneA i (by omega)) (mm_ne_oa (hopA i (by omega)) k63)
        have hfr8 : ∀ (x : Nat) (e : va_E), G x = some e → x ≠ o → x ≠ ow → x ≠ ol → (1 ≤ nC → x ≠ ec) → G167 x = some e := fun x e h1 n1 n0 n2 n3 => hfA x e (hfr9 x e h1 n1 n2 n3) n1 (fun z => by rw [z, fn52] at h1; cases h1) n0
        refine W.widen (k := 2) (n := (9 + gco nC)) (by omega) (by omega) ?_
        exact W.iret (v := (nI on)) hx hb hr (fun t ht hW => ⟨⟨_, _, rfl, (by rw [hq]; exact ⟨rfl, q21, ec2, fn52, k169, k176, hl9, hec3, ho9, hfr8⟩), mk_end hG ht⟩, hS.F ht⟩) hS.2.2 dX9_takeOp_154
    · skip
      exact absurd c_65 c_28
  · skip
    refine lv_iload_n hx hb dX9_takeOp_31 rfl (lv_at hl 4 rfl) ?_
    refine lv_iconst (v := 3) hx hb dX9_takeOp_32 (by decide) ?_
    refine lv_icmp_lt (tgt := 40) hx hb dX9_takeOp_33 (by decide) (fun c_33 => ?_) (fun c_33 => ?_)
    · skip
      refine lv_aload_n hx hb dX9_takeOp_40 rfl (lv_at hl 1 rfl) ?_
      refine lv_iload_n hx hb dX9_takeOp_41 rfl (lv_at hl 3 rfl) ?_
      refine lv_bipush (v := 40) hx hb dX9_takeOp_42 (by decide) ?_
      refine va_callv (va_runV (As := [.int (nI ta), .int 40]) (rest := []) ⟨hx, hb, hml, hown, (fun _ h9 => absurd h9 List.not_mem_nil : ∀ w ∈ ([] : List Cond), w.before _ s = true)⟩ (c_X9_begin l D cy A X hst hXT e0 tk hXE G33 o ow ed q k ks ss vs tn K S V f1 f2 f3 (nI ta) 40 k35 k36 k37 k38 k39 hTP (by first | omega | (simp only []; omega)) ) (tb_cw (C := RX9) 2 hT tw_461 tw_106 tw_458 tw_460 tw_8 rfl rfl hq_X9_begin ⟨Nat.le_of_ble_eq_true rfl, Nat.le_of_ble_eq_true rfl⟩) (mk_preC hst hG hK hA hX hS vc_10 k35) rfl rfl hl.1 rfl (lv_room (Nat.le_of_ble_eq_true rfl)) dX9_takeOp_44 ⟨(by show _ ≤ 2; omega), (by show _ ≤ 9 + gco nC; omega)⟩) hS (fun q _ h => h) (fun q h => h) (fun  G177 t H locs ht hvm hw hB hz1 hk1 hS => ?_)
      have hG : mm D vwCl A G177 H := by rw [← ht]; exact hB
      clear hB hz1 hk1 hvm ht
      obtain ⟨y178, ey178⟩ : ∃ y, y = q_begin S (nI ta) 40 q := ⟨_, rfl⟩
      rw [← ey178] at hw
      have ly178 : y178.1 ≤ q.1 + 1 := by rw [ey178]; exact q_begin_le
      have eG177 := hw
      clear hw
      have k179 : G177 o = some (.inr (10, [.ref k, .ref ow, .ref ed, .int (nI y178.1), .int y178.2])) := by rw [eG177]; exact mm_set_self
      have k180 : G177 k = some (.inr (13, [.ref ks, .ref ss, .ref vs, .int (nI tn)])) := by rw [eG177]; exact mm_set_of k36 (mm_ne_oo k36 k35 (by decide))
      have k181 : G177 ks = some (.inl (cy 5, 2001, .inr (.inr (.inr (.inr f1))))) := by rw [eG177]; exact mm_set_of k37 (mm_ne_ao k37 k35)
      have k182 : G177 ss = some (.inl (cy 1, 2001, .inl f2)) := by rw [eG177]; exact mm_set_of k38 (mm_ne_ao k38 k35)
      have k183 : G177 vs = some (.inl (cy 2, 2001, .inr (.inl f3))) := by rw [eG177]; exact mm_set_of k39 (mm_ne_ao k39 k35)
      have k184 : G177 ja = some (.inr (5, [.int jat, .long jn, .ref ol, .ref pi, .int 0])) := by rw [eG177]; exact mm_set_of k40 (mm_ne_oo k40 k35 (by decide))
      have k185 : G177 ow = some (.inl (cy 1, 3, .inl wf)) := by rw [eG177]; exact mm_set_of k41 (mm_ne_ao k41 k35)
      have k186 : G177 q21 = some (.inr (8, [.ref (tk (K q.1)), .long 0, .long 0, .int 0, .null, .long 0, .int 0, .null, .int 0])) := by rw [eG177]; exact mm_set_of h34_1 (mm_ne_oo h34_1 k35 (by decide))
      refine lv_aload_n hx hb dX9_takeOp_47 rfl (lv_at hl 2 rfl) ?_
      refine mm_getN (v := .ref ol) hx hb hf_X4 (fun _ h9 => h9) hown hK hG k184 rfl 2 (by decide) (tb_use hT tw_876) (fun _ h9 => h9) rfl dX9_takeOp_48 ?_
      refine lv_aload hx hb dX9_takeOp_51 (lv_at hl 0 rfl) ?_
      have fn187 : G q21 = none := by
        have z := hn_q21
        exact z
      have hLT : LT G 8 nC fC := fun j hj => ⟨_, hops j hj⟩
      have hB188 : ∀ (x : Nat) (e : va_E), G x = some e → x ≠ o → G177 x = some e := by
        intro x e z0 n_o
        have n_q21 : x ≠ q21 := fun z => by rw [z, hn_q21] at z0; cases z0
        have z1 : G22 x = some e := by rw [eG22]; exact mm_set_of z0 n_q21
        have z2 : G33 x = some e := h34_f x e z1 n_q21
        have z3 : G177 x = some e := by rw [eG177]; exact mm_set_of z2 n_o
        exact z3
      have hL189 : LiS cy e0 G177 ol ec nC fC := LiS.fr2 (fun x => x ≠ o) hlc (fun x e h0 hp => hB188 x e h0 hp) (hlc.ne h0 (by decide)) (fun v _ hv => mm_ne_ao hv h0)
      have hLO2 : LO G177 nC fC := fun j hj => by obtain ⟨fs, z⟩ := hLT j hj; exact ⟨8, fs, _, hB188 _ _ z (mm_ne_oo z h0 (by decide)), rfl, tw_1919, by decide⟩
      obtain ⟨mo192, h_mo192, -⟩ := id hL189
      refine va_calli (va_runV (As := [.ref q21]) (rest := []) ⟨hx, hb, hml, hown, (fun _ h9 => absurd h9 List.not_mem_nil : ∀ w ∈ ([] : List Cond), w.before _ s = true)⟩ (c_LS_add l D cy A X hst hXT e0 tk hXE mi hXL G177 ol ec nC fC q21 8 _ _ hL189 hLO2 (by omega) k186 rfl (by decide) tw_1919) (tb_cw (C := RJx4a65c) 1 hT tw_597 tw_113 tw_594 tw_595 tw_596 rfl rfl hq_Jx4a65c_add_9ea2d ⟨Nat.le_of_ble_eq_true rfl, Nat.le_of_ble_eq_true rfl⟩) (mk_preC hst hG hK hA hX hS vc_1 h_mo192) rfl rfl hl.1 rfl (lv_room (Nat.le_of_ble_eq_true rfl)) dX9_takeOp_53 ⟨(by show _ ≤ 2; omega), (by show _ ≤ 9 + gco nC; omega)⟩) hS (fun q _ h => h) (fun q h => h) (fun r191 G190 t H locs ht hvm hw hB hz1 hk1 hS => ?_)
      have hG : mm D vwCl A G190 H := by rw [← ht]; exact hB
      clear hB hz1 hk1 hvm ht
      obtain ⟨ec2, hlc2, hec2, hf2⟩ := hw
      have hf3 : ∀ (x ci : Nat) (fs : List Value), G177 x = some (.inr (ci, fs)) → ci ≠ 1 → G190 x = some (.inr (ci, fs)) := fun x ci fs h0 hc => hf2 x _ h0 (Ne.symm (hL189.ne h0 hc)) (fun h1 => LiS.nea hL189 h1 h0)
      have k_o : G190 o = some (.inr (10, [.ref k, .ref ow, .ref ed, .int (nI y178.1), .int y178.2])) := hf3 _ _ _ k179 (by decide)
      have k_el : G190 q21 = some (.inr (8, [.ref (tk (K q.1)), .long 0, .long 0, .int 0, .null, .long 0, .int 0, .null, .int 0])) := hf3 _ _ _ k186 (by decide)
      have hec3 : (1 ≤ nC ∧ ec2 = ec) ∨ G ec2 = none := by
        rcases hec2 with h1 | h1
        · exact Or.inl h1
        · refine Or.inr (none_back hB188 h1 ?_)
          intro z; rw [z, k179] at h1; cases h1
      have hfr9 : ∀ (x : Nat) (e : va_E), G x = some e → x ≠ o → x ≠ ol → (1 ≤ nC → x ≠ ec) → G190 x = some e := fun x e h0 n1 n2 n3 => hf2 x e (hB188 x e h0 n1) n2 n3
      have k193 : G190 k = some (.inr (13, [.ref ks, .ref ss, .ref vs, .int (nI tn)])) := hf3 _ _ _ k180 (by decide)
      have k194 : G190 ks = some (.inl (cy 5, 2001, .inr (.inr (.inr (.inr f1))))) := hf2 _ _ k181 (Ne.symm (LiS.nal hL189 k181)) (fun h1 => LiS.nar hL189 h1 k181 (by intro gv9 z; have z2 := (Prod.mk.inj (Prod.mk.inj (Sum.inl.inj z)).2); first | (exact absurd z2.1 (cpf_ne _)) | (cases z2.2)))
      have k195 : G190 ss = some (.inl (cy 1, 2001, .inl f2)) := hf2 _ _ k182 (Ne.symm (LiS.nal hL189 k182)) (fun h1 => LiS.nar hL189 h1 k182 (by intro gv9 z; have z2 := (Prod.mk.inj (Prod.mk.inj (Sum.inl.inj z)).2); first | (exact absurd z2.1 (cpf_ne _)) | (cases z2.2)))
      have k196 : G190 vs = some (.inl (cy 2, 2001, .inr (.inl f3))) := hf2 _ _ k183 (Ne.symm (LiS.nal hL189 k183)) (fun h1 => LiS.nar hL189 h1 k183 (by intro gv9 z; have z2 := (Prod.mk.inj (Prod.mk.inj (Sum.inl.inj z)).2); first | (exact absurd z2.1 (cpf_ne _)) | (cases z2.2)))
      have k197 : G190 ja = some (.inr (5, [.int jat, .long jn, .ref ol, .ref pi, .int 0])) := hf3 _ _ _ k184 (by decide)
      have k198 : G190 ow = some (.inl (cy 1, 3, .inl wf)) := hf2 _ _ k185 (Ne.symm (LiS.nal hL189 k185)) (fun h1 => LiS.nar hL189 h1 k185 (by intro gv9 z; have z2 := (Prod.mk.inj (Prod.mk.inj (Sum.inl.inj z)).2); first | (exact absurd z2.1 (cpf_ne _)) | (cases z2.2)))
      have hopA : OPS tk G190 nC fC d := fun i hi => hf3 _ _ _ (hB188 _ _ (hops i hi) (mm_ne_oo (hops i hi) h0 (by decide))) (by decide)
      have hneA : ∀ i, i < nC → fC i ≠ q21 := fun i hi z => by have z2 := hops i hi; rw [z, fn187] at z2; cases z2
      refine lv_pop hx hb dX9_takeOp_56 rfl ?_
      refine lv_aload hx hb dX9_takeOp_57 (lv_at hl 0 rfl) ?_
      refine mm_getN (v := .ref (tk (K q.1))) hx hb hf_X7 (fun _ h9 => h9) hown hK hG k_el rfl 0 (by decide) (tb_use hT tw_903) (fun _ h9 => h9) rfl dX9_takeOp_59 ?_
      refine va_gets (v := .ref (tk 34)) hx hb (show va_Z "DescribeText$Token" "WHILE" "LDescribeText$Token;" (.ref (tk 34)) A s s.heap from (hE.2.1 34 (by decide)).1) hS hown (tb_use hT tw_959) (fun _ h9 => h9) dX9_takeOp_62 ?_
      refine lv_acmp_ne (rx := some (tk (K q.1))) (ry := some (tk 34)) (tgt := 75) hx hb dX9_takeOp_65 (by decide) (fun c_65 => ?_) (fun c_65 => ?_)
      · skip
        exact absurd c_28 c_65
      · skip
        refine lv_aload_n hx hb dX9_takeOp_68 rfl (lv_at hl 1 rfl) ?_
        refine lv_aload_n hx hb dX9_takeOp_69 rfl (lv_at hl 2 rfl) ?_
        refine lv_iload_n hx hb dX9_takeOp_70 rfl (lv_at hl 4 rfl) ?_
        have hLTA : LT G190 8 (nC + 1) (fup fC nC q21) := fun i hi => by by_cases hz : i = nC; exact ⟨_, by rw [hz, fup_eq]; exact k_el⟩; exact ⟨_, by rw [fup_lt (by omega)]; exact hopA i (by omega)⟩
        refine va_calli (va_runV (As := [.ref ja, .int (nI on)]) (rest := []) ⟨hx, hb, hml, hown, (fun _ h9 => absurd h9 List.not_mem_nil : ∀ w ∈ ([] : List Cond), w.before _ s = true)⟩ (c_X9_openWhile l D cy A X hst hXT e0 tk hXE mi hXL G190 o ow ed y178 k ks ss vs tn K S V f1 f2 f3 ja ol pi jat jn wf on ec2 (nC + 1) (fup fC nC q21) k_o k193 k194 k195 k196 hTP (by first | omega | (simp only []; omega)) k197 k198 hlc2 hLTA (by omega) (by omega) (by omega)) (tb_cw (C := RX9) 2 hT tw_964 tw_106 tw_961 tw_963 tw_30 rfl rfl hq_X9_openWhile ⟨Nat.le_of_ble_eq_true rfl, Nat.le_of_ble_eq_true rfl⟩) (mk_preC hst hG hK hA hX hS vc_10 k_o) rfl rfl hl.1 rfl (lv_room (Nat.le_of_ble_eq_true rfl)) dX9_takeOp_71 ⟨(by show _ ≤ 2; omega), (by show _ ≤ 9 + gco nC; omega)⟩) hS (fun q _ h => h) (fun q h => h) (fun r199 G200 t H locs ht hvm hw hB hz1 hk1 hS => ?_)
        have hG : mm D vwCl A G200 H := by rw [← ht]; exact hB
        clear hB hz1 hk1 hvm ht
        obtain ⟨y202, ey202⟩ : ∃ y, y = q_opw K S (nC + 1) on y178 wf := ⟨_, rfl⟩
        rw [← ey202] at hw
        obtain ⟨er199, h201_1, h201_2, h201_f⟩ := hw
        have k203 : G200 q21 = some (.inr (8, [.ref (tk (K q.1)), .long 0, .long 0, .int 0, .null, .long 0, .int 0, .null, .int 0])) := h201_f _ _ k_el (mm_ne_oo k_el k_o (by decide)) (mm_ne_oa k_el k198)
        have k204 : G200 k = some (.inr (13, [.ref ks, .ref ss, .ref vs, .int (nI tn)])) := h201_f _ _ k193 (mm_ne_oo k193 k_o (by decide)) (mm_ne_oa k193 k198)
        have k205 : G200 ks = some (.inl (cy 5, 2001, .inr (.inr (.inr (.inr f1))))) := h201_f _ _ k194 (mm_ne_ao k194 k_o) (mm_ne_e k194 k198 (fun z => by have z2 := (Prod.mk.inj (Prod.mk.inj (Sum.inl.inj z)).2).2; cases z2))
        have k206 : G200 ss = some (.inl (cy 1, 2001, .inl f2)) := h201_f _ _ k195 (mm_ne_ao k195 k_o) (mm_ne_n k195 k198 (by decide))
        have k207 : G200 vs = some (.inl (cy 2, 2001, .inr (.inl f3))) := h201_f _ _ k196 (mm_ne_ao k196 k_o) (mm_ne_e k196 k198 (fun z => by have z2 := (Prod.mk.inj (Prod.mk.inj (Sum.inl.inj z)).2).2; cases z2))
        have k208 : G200 ja = some (.inr (5, [.int jat, .long jn, .ref ol, .ref pi, .int 0])) := h201_f _ _ k197 (mm_ne_oo k197 k_o (by decide)) (mm_ne_oa k197 k198)
        have hk_28 : K q.1 = 34 := tk_ne hE ((hTP.2.1 q.1).1) (by decide) c_28
        have hk_65 : K q.1 = 34 := tk_ne hE ((hTP.2.1 q.1).1) (by decide) c_65
        have hk_33 : on < 3 := Nat.not_le.mp (fun z => absurd (nI_le z (by omega)) (Int32.not_le.mpr c_33))
        have hq : q_op K S V ta on nC q wf = (y202.1, y202.2.1, y202.2.2, (K q.1, 0, 0, 0, 0, 0, 0)) := by
          unfold q_op
          dsimp only
          simp only [if_pos hk_65, if_pos hk_33, ← ey178, ← ey202]
          try simp only [er199]
        have hfA : ∀ (x : Nat) (e : va_E), G190 x = some e → x ≠ o → x ≠ q21 → x ≠ ow → G200 x = some e := by
          intro x e z0 n_o n_q21 n_ow
          have z1 : G200 x = some e := h201_f x e z0 n_o n_ow
          exact z1
        have hl9 : LiS cy e0 G200 ol ec2 (nC + 1) (fup fC nC q21) := LiS.fr2 (fun x => x ≠ o ∧ x ≠ q21 ∧ x ≠ ow) hlc2 (fun x e h0 hp => hfA x e h0 hp.1 hp.2.1 hp.2.2) ⟨hlc2.ne k_o (by decide), hlc2.ne k_el (by decide), LiS.nal hlc2 k198⟩ (fun v h1 hv => ⟨mm_ne_ao hv k_o, mm_ne_ao hv k_el, Ne.symm (LiS.nar hlc2 h1 k198 (by intro gv9 z; have z2 := (Prod.mk.inj (Prod.mk.inj (Sum.inl.inj z)).2); first | (exact absurd z2.1 (cpf_ne _)) | (cases z2.2)))⟩)
        have ho9 : OPS tk G200 (nC + 1) (fup fC nC q21) (upO d nC (K q.1, 0, 0, 0, 0, 0, 0)) := by
          intro i hi
          by_cases hz : i = nC
          · rw [hz, fup_eq]
            simp only [upO, if_true]
            exact k203
          · rw [fup_lt (by omega)]
            simp only [upO, hz, if_false]
            exact hfA _ _ (hopA i (by omega)) (mm_ne_oo (hopA i (by omega)) k_o (by decide)) (hneA i (by omega)) (mm_ne_oa (hopA i (by omega)) k198)
        have hfr8 : ∀ (x : Nat) (e : va_E), G x = some e → x ≠ o → x ≠ ow → x ≠ ol → (1 ≤ nC → x ≠ ec) → G200 x = some e := fun x e h1 n1 n0 n2 n3 => hfA x e (hfr9 x e h1 n1 n2 n3) n1 (fun z => by rw [z, fn187] at h1; cases h1) n0
        refine W.widen (k := 2) (n := (9 + gco nC)) (by omega) (by omega) ?_
        exact W.iret (v := r199) hx hb hr (fun t ht hW => ⟨⟨_, _, rfl, (by rw [hq]; exact ⟨er199, q21, ec2, fn187, h201_1, h201_2, hl9, hec3, ho9, hfr8⟩), mk_end hG ht⟩, hS.F ht⟩) hS.2.2 dX9_takeOp_74
    · skip
      refine lv_aload_n hx hb dX9_takeOp_36 rfl (lv_at hl 1 rfl) ?_
      refine va_callv (va_runV (As := []) (rest := []) ⟨hx, hb, hml, hown, (fun _ h9 => absurd h9 List.not_mem_nil : ∀ w ∈ ([] : List Cond), w.before _ s = true)⟩ (c_X9_fail l D cy A X hst hXT e0 tk hXE G33 o ow ed q k ks ss vs tn K S V f1 f2 f3  k35 k36 k37 k38 k39 hTP (by first | omega | (simp only []; omega)) ) (tb_cw (C := RX9) 0 hT tw_465 tw_106 tw_462 tw_464 tw_9 rfl rfl hq_X9_fail ⟨Nat.le_of_ble_eq_true rfl, Nat.le_of_ble_eq_true rfl⟩) (mk_preC hst hG hK hA hX hS vc_10 k35) rfl rfl hl.1 rfl (lv_room (Nat.le_of_ble_eq_true rfl)) dX9_takeOp_37 ⟨(by show _ ≤ 2; omega), (by show _ ≤ 9 + gco nC; omega)⟩) hS (fun q _ h => h) (fun q h => h) (fun  G209 t H locs ht hvm hw hB hz1 hk1 hS => ?_)
      have hG : mm D vwCl A G209 H := by rw [← ht]; exact hB
      clear hB hz1 hk1 hvm ht
      obtain ⟨y210, ey210⟩ : ∃ y, y = (q.1, fl S q.1 q.2) := ⟨_, rfl⟩
      rw [← ey210] at hw
      have ly210 : y210.1 ≤ q.1 + 0 := by rw [ey210]; exact (by simp)
      have eG209 := hw
      clear hw
      have k211 : G209 o = some (.inr (10, [.ref k, .ref ow, .ref ed, .int (nI y210.1), .int y210.2])) := by rw [eG209]; exact mm_set_self
      have k212 : G209 k = some (.inr (13, [.ref ks, .ref ss, .ref vs, .int (nI tn)])) := by rw [eG209]; exact mm_set_of k36 (mm_ne_oo k36 k35 (by decide))
      have k213 : G209 ks = some (.inl (cy 5, 2001, .inr (.inr (.inr (.inr f1))))) := by rw [eG209]; exact mm_set_of k37 (mm_ne_ao k37 k35)
      have k214 : G209 ss = some (.inl (cy 1, 2001, .inl f2)) := by rw [eG209]; exact mm_set_of k38 (mm_ne_ao k38 k35)
      have k215 : G209 vs = some (.inl (cy 2, 2001, .inr (.inl f3))) := by rw [eG209]; exact mm_set_of k39 (mm_ne_ao k39 k35)
      have k216 : G209 ja = some (.inr (5, [.int jat, .long jn, .ref ol, .ref pi, .int 0])) := by rw [eG209]; exact mm_set_of k40 (mm_ne_oo k40 k35 (by decide))
      have k217 : G209 ow = some (.inl (cy 1, 3, .inl wf)) := by rw [eG209]; exact mm_set_of k41 (mm_ne_ao k41 k35)
      have k218 : G209 q21 = some (.inr (8, [.ref (tk (K q.1)), .long 0, .long 0, .int 0, .null, .long 0, .int 0, .null, .int 0])) := by rw [eG209]; exact mm_set_of h34_1 (mm_ne_oo h34_1 k35 (by decide))
      refine lv_aload_n hx hb dX9_takeOp_40 rfl (lv_at hl 1 rfl) ?_
      refine lv_iload_n hx hb dX9_takeOp_41 rfl (lv_at hl 3 rfl) ?_
      refine lv_bipush (v := 40) hx hb dX9_takeOp_42 (by decide) ?_
      refine va_callv (va_runV (As := [.int (nI ta), .int 40]) (rest := []) ⟨hx, hb, hml, hown, (fun _ h9 => absurd h9 List.not_mem_nil : ∀ w ∈ ([] : List Cond), w.before _ s = true)⟩ (c_X9_begin l D cy A X hst hXT e0 tk hXE G209 o ow ed y210 k ks ss vs tn K S V f1 f2 f3 (nI ta) 40 k211 k212 k213 k214 k215 hTP (by first | omega | (simp only []; omega)) ) (tb_cw (C := RX9) 2 hT tw_461 tw_106 tw_458 tw_460 tw_8 rfl rfl hq_X9_begin ⟨Nat.le_of_ble_eq_true rfl, Nat.le_of_ble_eq_true rfl⟩) (mk_preC hst hG hK hA hX hS vc_10 k211) rfl rfl hl.1 rfl (lv_room (Nat.le_of_ble_eq_true rfl)) dX9_takeOp_44 ⟨(by show _ ≤ 2; omega), (by show _ ≤ 9 + gco nC; omega)⟩) hS (fun q _ h => h) (fun q h => h) (fun  G219 t H locs ht hvm hw hB hz1 hk1 hS => ?_)
      have hG : mm D vwCl A G219 H := by rw [← ht]; exact hB
      clear hB hz1 hk1 hvm ht
      obtain ⟨y220, ey220⟩ : ∃ y, y = q_begin S (nI ta) 40 y210 := ⟨_, rfl⟩
      rw [← ey220] at hw
      have ly220 : y220.1 ≤ y210.1 + 1 := by rw [ey220]; exact q_begin_le
      have eG219 := hw
      clear hw
      have k221 : G219 o = some (.inr (10, [.ref k, .ref ow, .ref ed, .int (nI y220.1), .int y220.2])) := by rw [eG219]; exact mm_set_self
      have k222 : G219 k = some (.inr (13, [.ref ks, .ref ss, .ref vs, .int (nI tn)])) := by rw [eG219]; exact mm_set_of k212 (mm_ne_oo k212 k211 (by decide))
      have k223 : G219 ks = some (.inl (cy 5, 2001, .inr (.inr (.inr (.inr f1))))) := by rw [eG219]; exact mm_set_of k213 (mm_ne_ao k213 k211)
      have k224 : G219 ss = some (.inl (cy 1, 2001, .inl f2)) := by rw [eG219]; exact mm_set_of k214 (mm_ne_ao k214 k211)
      have k225 : G219 vs = some (.inl (cy 2, 2001, .inr (.inl f3))) := by rw [eG219]; exact mm_set_of k215 (mm_ne_ao k215 k211)
      have k226 : G219 ja = some (.inr (5, [.int jat, .long jn, .ref ol, .ref pi, .int 0])) := by rw [eG219]; exact mm_set_of k216 (mm_ne_oo k216 k211 (by decide))
      have k227 : G219 ow = some (.inl (cy 1, 3, .inl wf)) := by rw [eG219]; exact mm_set_of k217 (mm_ne_ao k217 k211)
      have k228 : G219 q21 = some (.inr (8, [.ref (tk (K q.1)), .long 0, .long 0, .int 0, .null, .long 0, .int 0, .null, .int 0])) := by rw [eG219]; exact mm_set_of k218 (mm_ne_oo k218 k211 (by decide))
      refine lv_aload_n hx hb dX9_takeOp_47 rfl (lv_at hl 2 rfl) ?_
      refine mm_getN (v := .ref ol) hx hb hf_X4 (fun _ h9 => h9) hown hK hG k226 rfl 2 (by decide) (tb_use hT tw_876) (fun _ h9 => h9) rfl dX9_takeOp_48 ?_
      refine lv_aload hx hb dX9_takeOp_51 (lv_at hl 0 rfl) ?_
      have fn229 : G q21 = none := by
        have z := hn_q21
        exact z
      have hLT : LT G 8 nC fC := fun j hj => ⟨_, hops j hj⟩
      have hB230 : ∀ (x : Nat) (e : va_E), G x = some e → x ≠ o → G219 x = some e := by
        intro x e z0 n_o
        have n_q21 : x ≠ q21 := fun z => by rw [z, hn_q21] at z0; cases z0
        have z1 : G22 x = some e := by rw [eG22]; exact mm_set_of z0 n_q21
        have z2 : G33 x = some e := h34_f x e z1 n_q21
        have z3 : G209 x = some e := by rw [eG209]; exact mm_set_of z2 n_o
        have z4 : G219 x = some e := by rw [eG219]; exact mm_set_of z3 n_o
        exact z4
      have hL231 : LiS cy e0 G219 ol ec nC fC := LiS.fr2 (fun x => x ≠ o) hlc (fun x e h0 hp => hB230 x e h0 hp) (hlc.ne h0 (by decide)) (fun v _ hv => mm_ne_ao hv h0)
      have hLO2 : LO G219 nC fC := fun j hj => by obtain ⟨fs, z⟩ := hLT j hj; exact ⟨8, fs, _, hB230 _ _ z (mm_ne_oo z h0 (by decide)), rfl, tw_1919, by decide⟩
      obtain ⟨mo234, h_mo234, -⟩ := id hL231
      refine va_calli (va_runV (As := [.ref q21]) (rest := []) ⟨hx, hb, hml, hown, (fun _ h9 => absurd h9 List.not_mem_nil : ∀ w ∈ ([] : List Cond), w.before _ s = true)⟩ (c_LS_add l D cy A X hst hXT e0 tk hXE mi hXL G219 ol ec nC fC q21 8 _ _ hL231 hLO2 (by omega) k228 rfl (by decide) tw_1919) (tb_cw (C := RJx4a65c) 1 hT tw_597 tw_113 tw_594 tw_595 tw_596 rfl rfl hq_Jx4a65c_add_9ea2d ⟨Nat.le_of_ble_eq_true rfl, Nat.le_of_ble_eq_true rfl⟩) (mk_preC hst hG hK hA hX hS vc_1 h_mo234) rfl rfl hl.1 rfl (lv_room (Nat.le_of_ble_eq_true rfl)) dX9_takeOp_53 ⟨(by show _ ≤ 2; omega), (by show _ ≤ 9 + gco nC; omega)⟩) hS (fun q _ h => h) (fun q h => h) (fun r233 G232 t H locs ht hvm hw hB hz1 hk1 hS => ?_)
      have hG : mm D vwCl A G232 H := by rw [← ht]; exact hB
      clear hB hz1 hk1 hvm ht
      obtain ⟨ec2, hlc2, hec2, hf2⟩ := hw
      have hf3 : ∀ (x ci : Nat) (fs : List Value), G219 x = some (.inr (ci, fs)) → ci ≠ 1 → G232 x = some (.inr (ci, fs)) := fun x ci fs h0 hc => hf2 x _ h0 (Ne.symm (hL231.ne h0 hc)) (fun h1 => LiS.nea hL231 h1 h0)
      have k_o : G232 o = some (.inr (10, [.ref k, .ref ow, .ref ed, .int (nI y220.1), .int y220.2])) := hf3 _ _ _ k221 (by decide)
      have k_el : G232 q21 = some (.inr (8, [.ref (tk (K q.1)), .long 0, .long 0, .int 0, .null, .long 0, .int 0, .null, .int 0])) := hf3 _ _ _ k228 (by decide)
      have hec3 : (1 ≤ nC ∧ ec2 = ec) ∨ G ec2 = none := by
        rcases hec2 with h1 | h1
        · exact Or.inl h1
        · refine Or.inr (none_back hB230 h1 ?_)
          intro z; rw [z, k221] at h1; cases h1
      have hfr9 : ∀ (x : Nat) (e : va_E), G x = some e → x ≠ o → x ≠ ol → (1 ≤ nC → x ≠ ec) → G232 x = some e := fun x e h0 n1 n2 n3 => hf2 x e (hB230 x e h0 n1) n2 n3
      have k235 : G232 k = some (.inr (13, [.ref ks, .ref ss, .ref vs, .int (nI tn)])) := hf3 _ _ _ k222 (by decide)
      have k236 : G232 ks = some (.inl (cy 5, 2001, .inr (.inr (.inr (.inr f1))))) := hf2 _ _ k223 (Ne.symm (LiS.nal hL231 k223)) (fun h1 => LiS.nar hL231 h1 k223 (by intro gv9 z; have z2 := (Prod.mk.inj (Prod.mk.inj (Sum.inl.inj z)).2); first | (exact absurd z2.1 (cpf_ne _)) | (cases z2.2)))
      have k237 : G232 ss = some (.inl (cy 1, 2001, .inl f2)) := hf2 _ _ k224 (Ne.symm (LiS.nal hL231 k224)) (fun h1 => LiS.nar hL231 h1 k224 (by intro gv9 z; have z2 := (Prod.mk.inj (Prod.mk.inj (Sum.inl.inj z)).2); first | (exact absurd z2.1 (cpf_ne _)) | (cases z2.2)))
      have k238 : G232 vs = some (.inl (cy 2, 2001, .inr (.inl f3))) := hf2 _ _ k225 (Ne.symm (LiS.nal hL231 k225)) (fun h1 => LiS.nar hL231 h1 k225 (by intro gv9 z; have z2 := (Prod.mk.inj (Prod.mk.inj (Sum.inl.inj z)).2); first | (exact absurd z2.1 (cpf_ne _)) | (cases z2.2)))
      have k239 : G232 ja = some (.inr (5, [.int jat, .long jn, .ref ol, .ref pi, .int 0])) := hf3 _ _ _ k226 (by decide)
      have k240 : G232 ow = some (.inl (cy 1, 3, .inl wf)) := hf2 _ _ k227 (Ne.symm (LiS.nal hL231 k227)) (fun h1 => LiS.nar hL231 h1 k227 (by intro gv9 z; have z2 := (Prod.mk.inj (Prod.mk.inj (Sum.inl.inj z)).2); first | (exact absurd z2.1 (cpf_ne _)) | (cases z2.2)))
      have hopA : OPS tk G232 nC fC d := fun i hi => hf3 _ _ _ (hB230 _ _ (hops i hi) (mm_ne_oo (hops i hi) h0 (by decide))) (by decide)
      have hneA : ∀ i, i < nC → fC i ≠ q21 := fun i hi z => by have z2 := hops i hi; rw [z, fn229] at z2; cases z2
      refine lv_pop hx hb dX9_takeOp_56 rfl ?_
      refine lv_aload hx hb dX9_takeOp_57 (lv_at hl 0 rfl) ?_
      refine mm_getN (v := .ref (tk (K q.1))) hx hb hf_X7 (fun _ h9 => h9) hown hK hG k_el rfl 0 (by decide) (tb_use hT tw_903) (fun _ h9 => h9) rfl dX9_takeOp_59 ?_
      refine va_gets (v := .ref (tk 34)) hx hb (show va_Z "DescribeText$Token" "WHILE" "LDescribeText$Token;" (.ref (tk 34)) A s s.heap from (hE.2.1 34 (by decide)).1) hS hown (tb_use hT tw_959) (fun _ h9 => h9) dX9_takeOp_62 ?_
      refine lv_acmp_ne (rx := some (tk (K q.1))) (ry := some (tk 34)) (tgt := 75) hx hb dX9_takeOp_65 (by decide) (fun c_65 => ?_) (fun c_65 => ?_)
      · skip
        exact absurd c_28 c_65
      · skip
        refine lv_aload_n hx hb dX9_takeOp_68 rfl (lv_at hl 1 rfl) ?_
        refine lv_aload_n hx hb dX9_takeOp_69 rfl (lv_at hl 2 rfl) ?_
        refine lv_iload_n hx hb dX9_takeOp_70 rfl (lv_at hl 4 rfl) ?_
        have hLTA : LT G232 8 (nC + 1) (fup fC nC q21) := fun i hi => by by_cases hz : i = nC; exact ⟨_, by rw [hz, fup_eq]; exact k_el⟩; exact ⟨_, by rw [fup_lt (by omega)]; exact hopA i (by omega)⟩
        refine va_calli (va_runV (As := [.ref ja, .int (nI on)]) (rest := []) ⟨hx, hb, hml, hown, (fun _ h9 => absurd h9 List.not_mem_nil : ∀ w ∈ ([] : List Cond), w.before _ s = true)⟩ (c_X9_openWhile l D cy A X hst hXT e0 tk hXE mi hXL G232 o ow ed y220 k ks ss vs tn K S V f1 f2 f3 ja ol pi jat jn wf on ec2 (nC + 1) (fup fC nC q21) k_o k235 k236 k237 k238 hTP (by first | omega | (simp only []; omega)) k239 k240 hlc2 hLTA (by omega) (by omega) (by omega)) (tb_cw (C := RX9) 2 hT tw_964 tw_106 tw_961 tw_963 tw_30 rfl rfl hq_X9_openWhile ⟨Nat.le_of_ble_eq_true rfl, Nat.le_of_ble_eq_true rfl⟩) (mk_preC hst hG hK hA hX hS vc_10 k_o) rfl rfl hl.1 rfl (lv_room (Nat.le_of_ble_eq_true rfl)) dX9_takeOp_71 ⟨(by show _ ≤ 2; omega), (by show _ ≤ 9 + gco nC; omega)⟩) hS (fun q _ h => h) (fun q h => h) (fun r241 G242 t H locs ht hvm hw hB hz1 hk1 hS => ?_)
        have hG : mm D vwCl A G242 H := by rw [← ht]; exact hB
        clear hB hz1 hk1 hvm ht
        obtain ⟨y244, ey244⟩ : ∃ y, y = q_opw K S (nC + 1) on y220 wf := ⟨_, rfl⟩
        rw [← ey244] at hw
        obtain ⟨er241, h243_1, h243_2, h243_f⟩ := hw
        have k245 : G242 q21 = some (.inr (8, [.ref (tk (K q.1)), .long 0, .long 0, .int 0, .null, .long 0, .int 0, .null, .int 0])) := h243_f _ _ k_el (mm_ne_oo k_el k_o (by decide)) (mm_ne_oa k_el k240)
        have k246 : G242 k = some (.inr (13, [.ref ks, .ref ss, .ref vs, .int (nI tn)])) := h243_f _ _ k235 (mm_ne_oo k235 k_o (by decide)) (mm_ne_oa k235 k240)
        have k247 : G242 ks = some (.inl (cy 5, 2001, .inr (.inr (.inr (.inr f1))))) := h243_f _ _ k236 (mm_ne_ao k236 k_o) (mm_ne_e k236 k240 (fun z => by have z2 := (Prod.mk.inj (Prod.mk.inj (Sum.inl.inj z)).2).2; cases z2))
        have k248 : G242 ss = some (.inl (cy 1, 2001, .inl f2)) := h243_f _ _ k237 (mm_ne_ao k237 k_o) (mm_ne_n k237 k240 (by decide))
        have k249 : G242 vs = some (.inl (cy 2, 2001, .inr (.inl f3))) := h243_f _ _ k238 (mm_ne_ao k238 k_o) (mm_ne_e k238 k240 (fun z => by have z2 := (Prod.mk.inj (Prod.mk.inj (Sum.inl.inj z)).2).2; cases z2))
        have k250 : G242 ja = some (.inr (5, [.int jat, .long jn, .ref ol, .ref pi, .int 0])) := h243_f _ _ k239 (mm_ne_oo k239 k_o (by decide)) (mm_ne_oa k239 k240)
        have hk_28 : K q.1 = 34 := tk_ne hE ((hTP.2.1 q.1).1) (by decide) c_28
        have hk_65 : K q.1 = 34 := tk_ne hE ((hTP.2.1 q.1).1) (by decide) c_65
        have hk_33 : ¬ on < 3 := fun z => c_33 (nI_lt (b := 3) z (by decide))
        have hq : q_op K S V ta on nC q wf = (y244.1, y244.2.1, y244.2.2, (K q.1, 0, 0, 0, 0, 0, 0)) := by
          unfold q_op
          dsimp only
          simp only [if_pos hk_65, if_neg hk_33, ← ey210, ← ey220, ← ey244]
          try simp only [er241]
        have hfA : ∀ (x : Nat) (e : va_E), G232 x = some e → x ≠ o → x ≠ q21 → x ≠ ow → G242 x = some e := by
          intro x e z0 n_o n_q21 n_ow
          have z1 : G242 x = some e := h243_f x e z0 n_o n_ow
          exact z1
        have hl9 : LiS cy e0 G242 ol ec2 (nC + 1) (fup fC nC q21) := LiS.fr2 (fun x => x ≠ o ∧ x ≠ q21 ∧ x ≠ ow) hlc2 (fun x e h0 hp => hfA x e h0 hp.1 hp.2.1 hp.2.2) ⟨hlc2.ne k_o (by decide), hlc2.ne k_el (by decide), LiS.nal hlc2 k240⟩ (fun v h1 hv => ⟨mm_ne_ao hv k_o, mm_ne_ao hv k_el, Ne.symm (LiS.nar hlc2 h1 k240 (by intro gv9 z; have z2 := (Prod.mk.inj (Prod.mk.inj (Sum.inl.inj z)).2); first | (exact absurd z2.1 (cpf_ne _)) | (cases z2.2)))⟩)
        have ho9 : OPS tk G242 (nC + 1) (fup fC nC q21) (upO d nC (K q.1, 0, 0, 0, 0, 0, 0)) := by
          intro i hi
          by_cases hz : i = nC
          · rw [hz, fup_eq]
            simp only [upO, if_true]
            exact k245
          · rw [fup_lt (by omega)]
            simp only [upO, hz, if_false]
            exact hfA _ _ (hopA i (by omega)) (mm_ne_oo (hopA i (by omega)) k_o (by decide)) (hneA i (by omega)) (mm_ne_oa (hopA i (by omega)) k240)
        have hfr8 : ∀ (x : Nat) (e : va_E), G x = some e → x ≠ o → x ≠ ow → x ≠ ol → (1 ≤ nC → x ≠ ec) → G242 x = some e := fun x e h1 n1 n0 n2 n3 => hfA x e (hfr9 x e h1 n1 n2 n3) n1 (fun z => by rw [z, fn229] at h1; cases h1) n0
        refine W.widen (k := 2) (n := (9 + gco nC)) (by omega) (by omega) ?_
        exact W.iret (v := r241) hx hb hr (fun t ht hW => ⟨⟨_, _, rfl, (by rw [hq]; exact ⟨er241, q21, ec2, fn229, h243_1, h243_2, hl9, hec3, ho9, hfr8⟩), mk_end hG ht⟩, hS.F ht⟩) hS.2.2 dX9_takeOp_74
