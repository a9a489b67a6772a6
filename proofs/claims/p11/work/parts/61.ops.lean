theorem g_pred {n : Nat} (h : 1 ≤ n) : nI n - 1 = nI (n - 1) := by
  have e := nI_pred (n - 1)
  rw [show n - 1 + 1 = n by omega] at e
  exact e
/-- a while opened: (place, fault), how many are open, where they began -/
def q_opw (K : Nat → Nat) (S : Nat → Int32) (nC on : Nat) (q : Nat × Int32) (wf : Nat → Int32) : (Nat × Int32) × Nat × (Nat → Int32) :=
  if on < 3 then (q_take K S 4 q, on + 1, upd wf on (nI (nC - 1))) else (q, on, wf)
set_option maxHeartbeats 4000000 in
set_option maxRecDepth 100000 in
theorem c_X9_openWhile (l : Launch) (D : va_G) (cy : Nat → ClassId) (A : Nat → Prop) (X : State → Prop) (hst : mk_St A X) (hXT : ∀ U : State, X U → TB U) (e0 : Nat) (tk : Nat → Nat) (hXE : ∀ U : State, X U → ES e0 tk A U) (mi : Nat) (hXL : ∀ U : State, X U → EL e0 mi A U) (G : Nat → Option va_E) (o ow ed : Nat) (q : Nat × Int32) (k ks ss vs tn : Nat) (K : Nat → Nat) (S : Nat → Int32) (V : Nat → Int64) (f1 : Nat → Option Nat) (f2 : Nat → Int32) (f3 : Nat → Int64) (ja ol pi : Nat) (jat : Int32) (jn : Int64) (wf : Nat → Int32) (on : Nat) (ec nC : Nat) (fC : Nat → Nat) (h0 : G o = some (.inr (10, [.ref k, .ref ow, .ref ed, .int (nI q.1), .int q.2]))) (q1 : G k = some (.inr (13, [.ref ks, .ref ss, .ref vs, .int (nI tn)]))) (q2 : G ks = some (.inl (cy 5, 2001, .inr (.inr (.inr (.inr f1)))))) (q3 : G ss = some (.inl (cy 1, 2001, .inl f2))) (q4 : G vs = some (.inl (cy 2, 2001, .inr (.inl f3)))) (hTP : TKP tk tn K S V f1 f2 f3) (hp : q.1 < 2 ^ 29) (hja : G ja = some (.inr (5, [.int jat, .long jn, .ref ol, .ref pi, .int 0]))) (hwf : G ow = some (.inl (cy 1, 3, .inl wf))) (hlc : LiS cy e0 G ol ec nC fC) (hLT : LT G 8 nC fC) (hnC : nC < 100) (hn1 : 1 ≤ nC) (hon : on < 100) : Met l yX9_openWhile [.code yX9_openWhile cX9_openWhile 3 (some .int)] ({ frames := 4, cells := 0, slots := 0, locals := 120 }) (mk_Pre D vwCl (tyL cy) A X G [.ref o, .ref ja, .int (nI on)]) (va_Qi (fun (r : Int32) (G2 : Nat → Option va_E) => r = nI (q_opw K S nC on q wf).2.1 ∧ G2 o = some (.inr (10, [.ref k, .ref ow, .ref ed, .int (nI ((q_opw K S nC on q wf).1).1), .int (((q_opw K S nC on q wf).1).2)])) ∧ G2 ow = some (.inl (cy 1, 3, .inl ((q_opw K S nC on q wf).2.2))) ∧ ∀ (x : Nat) (e : va_E), G x = some e → x ≠ o → x ≠ ow → G2 x = some e) (mk_B D vwCl A) A) 0 0 A := by
  refine Met.ofW (cc := cX9_openWhile) (maxL := 3) (ret := (some .int)) (by decide) rfl ?_
  intro p e s m args below meth c s₁ B hml hv
  obtain ⟨rfl, hG, hK, hA, hX⟩ := hv
  have hx := B.exec
  have hb := B.bytes
  have hr := B.returns
  have hlocks := B.notSynchronized
  have hT := hXT s hX
  have hown : s.vm.findClass RX9 = some m.cls := findClass_of_methodNamed B.named
  have hf_X9 : ∀ w ∈ u_ws RX9 TX9 5, w.before ([.ref o, .ref ja, .int (nI on)] : List Value).toArray s = true := tb_list hT fX9
  have hf_X4 : ∀ w ∈ u_ws RX4 TX4 5, w.before ([.ref o, .ref ja, .int (nI on)] : List Value).toArray s = true := tb_list hT fX4
  have hS : va_S A s.heap s.heap [] := va_S.rf
  have hE := hXE s hX
  have hl := lv_entry ([.ref o, .ref ja, .int (nI on)]) (n := 3) (Nat.le_of_ble_eq_true rfl)
  rw [lg_entry_eq]
  generalize (lg_sl ([.ref o, .ref ja, .int (nI on)]) ++ List.replicate (3 - (lg_sl ([.ref o, .ref ja, .int (nI on)])).length) Slot.unset).toArray = ls at hl ⊢
  have hl : lv_has ls 3 [(0, .ref o), (1, .ref ja), (2, .int (nI on))] := hl
  refine lv_iload_n hx hb dX9_openWhile_0 rfl (lv_at hl 2 rfl) ?_
  refine lv_if_lt (tgt := 13) hx hb dX9_openWhile_1 (by decide) (fun c_1 => ?_) (fun c_1 => ?_)
  · skip
    exact absurd c_1 (nI_pos (by omega))
  · skip
    refine lv_iload_n hx hb dX9_openWhile_4 rfl (lv_at hl 2 rfl) ?_
    refine lv_aload_n hx hb dX9_openWhile_5 rfl (lv_at hl 0 rfl) ?_
    refine mm_get (v := .ref ow) hx hb hf_X9 (fun _ h9 => h9) hown hK hG h0 rfl 1 (by decide) (tb_use hT tw_178) (fun _ h9 => h9) rfl dX9_openWhile_6 ?_
    refine mm_alen (v := 3) hx hb hK hG 1 hwf rfl rfl dX9_openWhile_9 ?_
    refine lv_icmp_lt (tgt := 15) hx hb dX9_openWhile_10 (by decide) (fun c_10 => ?_) (fun c_10 => ?_)
    · skip
      refine lv_aload_n hx hb dX9_openWhile_15 rfl (lv_at hl 0 rfl) ?_
      refine mm_get (v := .ref ow) hx hb hf_X9 (fun _ h9 => h9) hown hK hG h0 rfl 1 (by decide) (tb_use hT tw_178) (fun _ h9 => h9) rfl dX9_openWhile_16 ?_
      refine lv_iload_n hx hb dX9_openWhile_19 rfl (lv_at hl 2 rfl) ?_
      refine lv_aload_n hx hb dX9_openWhile_20 rfl (lv_at hl 1 rfl) ?_
      refine mm_getN (v := .ref ol) hx hb hf_X4 (fun _ h9 => h9) hown hK hG hja rfl 2 (by decide) (tb_use hT tw_876) (fun _ h9 => h9) rfl dX9_openWhile_21 ?_
      have hB1 : ∀ (x : Nat) (e : va_E), G x = some e → x ≠ o → G x = some e := by
        intro x e z0 n_o
        exact z0
      have hL2 : LiS cy e0 G ol ec nC fC := LiS.fr2 (fun x => x ≠ o) hlc (fun x e h0 hp => hB1 x e h0 hp) (hlc.ne h0 (by decide)) (fun v _ hv => mm_ne_ao hv h0)
      obtain ⟨mo3, h_mo3, -⟩ := id hL2
      refine va_calli (va_runV (As := []) (rest := [.int (nI on), .ref ow]) ⟨hx, hb, hml, hown, (fun _ h9 => absurd h9 List.not_mem_nil : ∀ w ∈ ([] : List Cond), w.before _ s = true)⟩ (c_LS_size l D cy A X hst hXT e0 tk hXE mi hXL G ol ec nC fC hL2) (tb_cw (C := RJx4a65c) 0 hT tw_457 tw_113 tw_454 tw_455 tw_456 rfl rfl hq_Jx4a65c_size_8abf5 ⟨Nat.le_of_ble_eq_true rfl, Nat.le_of_ble_eq_true rfl⟩) (mk_preC hst hG hK hA hX hS vc_1 h_mo3) rfl rfl hl.1 rfl (lv_room (Nat.le_of_ble_eq_true rfl)) dX9_openWhile_24 ⟨Nat.le_of_ble_eq_true rfl, Nat.le_of_ble_eq_true rfl⟩) hS (fun q _ h => h) (fun q h => h) (fun r4 G5 t H locs ht hvm hw hB hz1 hk1 hS => ?_)
      have hG : mm D vwCl A G5 H := by rw [← ht]; exact hB
      clear hB hz1 hk1 hvm ht
      obtain ⟨rfl, hw⟩ := hw
      rw [hw] at hG
      refine lv_iconst (v := 1) hx hb dX9_openWhile_27 (by decide) ?_
      refine lv_isub hx hb dX9_openWhile_28 ?_
      rw [g_pred hn1]
      refine lv_topi (fun x6 ex6 => ?_)
      refine mm_iast hx hb hK hG hS 1 hwf rfl (by exact nI_in (c := on) (N := 3) (Nat.not_le.mp (fun z => absurd (nI_le z (by omega)) (Int32.not_le.mpr c_10))) (by decide)) dX9_openWhile_29 (fun H locs hG hS => ?_)
      obtain ⟨G7, eG7⟩ : ∃ g, g = mm_set G ow (.inl (cy 1, 3, .inl (upd wf (nI on).toNatClampNeg x6))) := ⟨_, rfl⟩
      have hG : mm D vwCl A G7 H := by rw [eG7]; exact hG
      have k8 : G7 o = some (.inr (10, [.ref k, .ref ow, .ref ed, .int (nI q.1), .int q.2])) := by rw [eG7]; exact mm_set_of h0 (mm_ne_oa h0 hwf)
      have k9 : G7 k = some (.inr (13, [.ref ks, .ref ss, .ref vs, .int (nI tn)])) := by rw [eG7]; exact mm_set_of q1 (mm_ne_oa q1 hwf)
      have k10 : G7 ks = some (.inl (cy 5, 2001, .inr (.inr (.inr (.inr f1))))) := by rw [eG7]; exact mm_set_of q2 (mm_ne_e q2 hwf (fun z => by have z2 := (Prod.mk.inj (Prod.mk.inj (Sum.inl.inj z)).2).2; cases z2))
      have k11 : G7 ss = some (.inl (cy 1, 2001, .inl f2)) := by rw [eG7]; exact mm_set_of q3 (mm_ne_n q3 hwf (by decide))
      have k12 : G7 vs = some (.inl (cy 2, 2001, .inr (.inl f3))) := by rw [eG7]; exact mm_set_of q4 (mm_ne_e q4 hwf (fun z => by have z2 := (Prod.mk.inj (Prod.mk.inj (Sum.inl.inj z)).2).2; cases z2))
      have k13 : G7 ja = some (.inr (5, [.int jat, .long jn, .ref ol, .ref pi, .int 0])) := by rw [eG7]; exact mm_set_of hja (mm_ne_oa hja hwf)
      have k14 : G7 ow = some (.inl (cy 1, 3, .inl (upd wf (nI on).toNatClampNeg x6))) := by rw [eG7]; exact mm_set_self
      refine lv_aload_n hx hb dX9_openWhile_30 rfl (lv_at hl 0 rfl) ?_
      refine va_gets (v := .ref (tk 4)) hx hb (show va_Z "DescribeText$Token" "OPEN" "LDescribeText$Token;" (.ref (tk 4)) A s s.heap from (hE.2.1 4 (by decide)).1) hS hown (tb_use hT tw_547) (fun _ h9 => h9) dX9_openWhile_31 ?_
      refine va_callv (va_runV (As := [.ref (tk 4)]) (rest := []) ⟨hx, hb, hml, hown, (fun _ h9 => absurd h9 List.not_mem_nil : ∀ w ∈ ([] : List Cond), w.before _ s = true)⟩ (c_X9_take l D cy A X hst hXT e0 tk hXE G7 o ow ed q k ks ss vs tn K S V f1 f2 f3 4 k8 k9 k10 k11 k12 hTP (by first | omega | (simp only []; omega)) (by decide)) (tb_cw (C := RX9) 1 hT tw_539 tw_106 tw_536 tw_538 tw_12 rfl rfl hq_X9_take ⟨Nat.le_of_ble_eq_true rfl, Nat.le_of_ble_eq_true rfl⟩) (mk_preC hst hG hK hA hX hS vc_10 k8) rfl rfl hl.1 rfl (lv_room (Nat.le_of_ble_eq_true rfl)) dX9_openWhile_34 ⟨Nat.le_of_ble_eq_true rfl, Nat.le_of_ble_eq_true rfl⟩) hS (fun q _ h => h) (fun q h => h) (fun  G15 t H locs ht hvm hw hB hz1 hk1 hS => ?_)
      have hG : mm D vwCl A G15 H := by rw [← ht]; exact hB
      clear hB hz1 hk1 hvm ht
      obtain ⟨y16, ey16⟩ : ∃ y, y = q_take K S 4 q := ⟨_, rfl⟩
      rw [← ey16] at hw
      have ly16 : y16.1 ≤ q.1 + 1 := by rw [ey16]; exact q_take_le
      have eG15 := hw
      clear hw
      have k17 : G15 o = some (.inr (10, [.ref k, .ref ow, .ref ed, .int (nI y16.1), .int y16.2])) := by rw [eG15]; exact mm_set_self
      have k18 : G15 k = some (.inr (13, [.ref ks, .ref ss, .ref vs, .int (nI tn)])) := by rw [eG15]; exact mm_set_of k9 (mm_ne_oo k9 k8 (by decide))
      have k19 : G15 ks = some (.inl (cy 5, 2001, .inr (.inr (.inr (.inr f1))))) := by rw [eG15]; exact mm_set_of k10 (mm_ne_ao k10 k8)
      have k20 : G15 ss = some (.inl (cy 1, 2001, .inl f2)) := by rw [eG15]; exact mm_set_of k11 (mm_ne_ao k11 k8)
      have k21 : G15 vs = some (.inl (cy 2, 2001, .inr (.inl f3))) := by rw [eG15]; exact mm_set_of k12 (mm_ne_ao k12 k8)
      have k22 : G15 ja = some (.inr (5, [.int jat, .long jn, .ref ol, .ref pi, .int 0])) := by rw [eG15]; exact mm_set_of k13 (mm_ne_oo k13 k8 (by decide))
      have k23 : G15 ow = some (.inl (cy 1, 3, .inl (upd wf (nI on).toNatClampNeg x6))) := by rw [eG15]; exact mm_set_of k14 (mm_ne_ao k14 k8)
      refine lv_iload_n hx hb dX9_openWhile_37 rfl (lv_at hl 2 rfl) ?_
      refine lv_iconst (v := 1) hx hb dX9_openWhile_38 (by decide) ?_
      refine lv_iadd hx hb dX9_openWhile_39 ?_
      have hyes : on < 3 := Nat.not_le.mp (fun z => absurd (nI_le z (by omega)) (Int32.not_le.mpr c_10))
      have hfr : ∀ (x : Nat) (e : va_E), G x = some e → x ≠ o → x ≠ ow → G15 x = some e := by
        intro x e z0 n_o n_ow
        have z1 : G7 x = some e := by rw [eG7]; exact mm_set_of z0 n_ow
        have z2 : G15 x = some e := by rw [eG15]; exact mm_set_of z1 n_o
        exact z2
      exact W.iret (v := ((nI on) + 1)) hx hb hr (fun t ht hW => ⟨⟨_, _, rfl, (by rw [q_opw, if_pos hyes]; exact ⟨(nI_succ on).symm, (by rw [← ey16]; exact k17), (by have z := k23; rw [nI_clamp (n := on) (by omega), ex6] at z; exact z), hfr⟩), mk_end hG ht⟩, hS.F ht⟩) hS.2.2 dX9_openWhile_40
    · skip
      refine lv_iload_n hx hb dX9_openWhile_13 rfl (lv_at hl 2 rfl) ?_
      have hno : ¬ on < 3 := fun z => c_10 (nI_lt (b := 3) z (by decide))
      exact W.iret (v := (nI on)) hx hb hr (fun t ht hW => ⟨⟨_, _, rfl, (by rw [q_opw, if_neg hno]; exact ⟨rfl, h0, hwf, fun x e h _ _ => h⟩), mk_end hG ht⟩, hS.F ht⟩) hS.2.2 dX9_openWhile_14
