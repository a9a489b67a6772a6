set_option maxHeartbeats 4000000 in
set_option maxRecDepth 100000 in
theorem c_L_out_g (l : Launch) (D : va_G) (cy : Nat → ClassId) (A : Nat → Prop) (X : State → Prop) (hst : mk_St A X) (hXT : ∀ U : State, X U → TB U) (e0 : Nat) (tk : Nat → Nat) (hXE : ∀ U : State, X U → ES e0 tk A U) (mi : Nat) (hXL : ∀ U : State, X U → EL e0 mi A U) (ax adK adV : Nat → Nat) (hXX : ∀ U : State, X U → TX ax adK adV tk A U) (G : Nat → Option va_E) (o tx rd to se kp : Nat) (hd rg : Option Nat) (tl kc : Int32) (rs sl : Nat) (sf : Nat → Int32) (i9 : Int32) (wa : Nat) (lv0 : Nat → Int64) (h0 : G o = some (.inr (14, [.ref tx, .ref rd, .ref to, .ref se, .ref kp, .int tl, .int kc, va_rf hd, va_rf rg]))) (hse : G se = some (.inr (7, [.ref rs, .int (nI sl)]))) (hrs : G rs = some (.inl (cy 0, 64, .inl sf)))  (hi1 : ¬ i9 < 0) (hi2 : i9 < nI sl) (hwa : G wa = some (.inl (cy 2, 1, .inr (.inl lv0)))) : Met l yL_out [.codeWith yL_out cL_out 4 (some .int) [(0, 9, 12, 13)]] ({ frames := 3, cells := 0, slots := 0, locals := 90 }) (mk_Pre D vwCl (tyL cy) A X G [.ref o, .int i9, .ref wa]) (va_Qi (fun (r : Int32) (G2 : Nat → Option va_E) => r = 0 ∧ ∃ lv2 : Nat → Int64, lv2 0 = ((oc_at (nI sl) sf i9).toInt8.toInt32).toInt64 ∧ G2 wa = some (.inl (cy 2, 1, .inr (.inl lv2))) ∧ ∀ (x : Nat) (e : va_E), G x = some e → x ≠ wa → G2 x = some e) (mk_B D vwCl A) A) 0 0 A := by
  refine va_MetW (cc := cL_out) (maxL := 4) (ret := (some .int)) (by decide) rfl ?_
  intro p e s m args below meth c s₁ B hml hv
  obtain ⟨rfl, hG, hK, hA, hX⟩ := hv
  have hx := B.exec
  have hb := B.bytes
  have hr := B.returns
  have hlocks := B.notSynchronized
  have hT := hXT s hX
  have hown : s.vm.findClass RL = some m.cls := findClass_of_methodNamed B.named
  have hS : va_S A s.heap s.heap [] := va_S.rf
  have hE := hXE s hX
  have hl := lv_entry ([.ref o, .int i9, .ref wa]) (n := 4) (Nat.le_of_ble_eq_true rfl)
  rw [lg_entry_eq]
  generalize (lg_sl ([.ref o, .int i9, .ref wa]) ++ List.replicate (4 - (lg_sl ([.ref o, .int i9, .ref wa])).length) Slot.unset).toArray = ls at hl ⊢
  have hl : lv_has ls 4 [(0, .ref o), (1, .int i9), (2, .ref wa)] := hl
  refine lv_aload_n hx hb dL_out_0 rfl (lv_at hl 2 rfl) ?_
  refine lv_iconst (v := 0) hx hb dL_out_1 (by decide) ?_
  refine lv_aload_n hx hb dL_out_2 rfl (lv_at hl 0 rfl) ?_
  refine lv_iload_n hx hb dL_out_3 rfl (lv_at hl 1 rfl) ?_
  refine va_calli (va_runV (As := [.int i9]) (rest := [.int 0, .ref wa]) ⟨hx, hb, hml, hown, (fun _ h9 => absurd h9 List.not_mem_nil : ∀ w ∈ ([] : List Cond), w.before _ s = true)⟩ (c_H_out l D cy A X hst hXT e0 tk hXE mi hXL ax adK adV hXX G o tx rd to se kp hd rg tl kc rs sl sf i9 h0 hse hrs hi1 hi2) (tb_cw (C := RX13) 1 hT tw_1317 tw_105 tw_1314 tw_1315 tw_1316 rfl rfl hq_X13_out ⟨Nat.le_of_ble_eq_true rfl, Nat.le_of_ble_eq_true rfl⟩) (mk_preC hst hG hK hA hX hS vc_14 h0) rfl rfl hl.1 rfl (lv_room (Nat.le_of_ble_eq_true rfl)) dL_out_4 ⟨Nat.le_of_ble_eq_true rfl, Nat.le_of_ble_eq_true rfl⟩) hS (fun q _ h => h) (fun q h => h) (fun r1 G2 t H locs ht hvm hw hB hz1 hk1 hS => ?_)
  have hG : mm D vwCl A G2 H := by rw [← ht]; exact hB
  clear hB hz1 hk1 hvm ht
  obtain ⟨er1, hw⟩ := hw
  rw [hw] at hG
  obtain ⟨x3, ex3⟩ : ∃ y, y = (r1 : Int32).toInt64 := ⟨_, rfl⟩
  refine lv_i2l (v := x3) hx hb dL_out_7 ex3.symm ?_
  refine mm_last hx hb hK hG hS 2 hwa rfl (vp_in_lt (m := 1) (by decide) (by decide) rfl) dL_out_8 (fun H locs hG hS => ?_)
  obtain ⟨G4, eG4⟩ : ∃ g, g = mm_set G wa (.inl (cy 2, 1, .inr (.inl (vp_updL lv0 (0 : Int32).toNatClampNeg x3)))) := ⟨_, rfl⟩
  have hG : mm D vwCl A G4 H := by rw [eG4]; exact hG
  have k5 : G4 o = some (.inr (14, [.ref tx, .ref rd, .ref to, .ref se, .ref kp, .int tl, .int kc, va_rf hd, va_rf rg])) := by rw [eG4]; exact mm_set_of h0 (mm_ne_oa h0 hwa)
  have k6 : G4 se = some (.inr (7, [.ref rs, .int (nI sl)])) := by rw [eG4]; exact mm_set_of hse (mm_ne_oa hse hwa)
  have k7 : G4 rs = some (.inl (cy 0, 64, .inl sf)) := by rw [eG4]; exact mm_set_of hrs (mm_ne_e hrs hwa (fun z => by have z2 := (Prod.mk.inj (Prod.mk.inj (Sum.inl.inj z)).2).2; cases z2))
  have k8 : G4 wa = some (.inl (cy 2, 1, .inr (.inl (vp_updL lv0 (0 : Int32).toNatClampNeg x3)))) := by rw [eG4]; exact mm_set_self
  refine lv_goto (tgt := 15) hx hb dL_out_9 (by decide) ?_
  refine lv_iconst (v := 0) hx hb dL_out_15 (by decide) ?_
  have hfr : ∀ (x : Nat) (e : va_E), G x = some e → x ≠ wa → G4 x = some e := by
    intro x e z0 n_wa
    have z1 : G4 x = some e := by rw [eG4]; exact mm_set_of z0 n_wa
    exact z1
  exact W.iret (v := 0) hx hb hr (fun t ht hW => ⟨⟨_, _, rfl, ⟨rfl, _, (by show vp_updL lv0 0 x3 0 = _; rw [pk_uLs, ex3, er1]), k8, hfr⟩, mk_end hG ht⟩, hS.F ht⟩) hS.2.2 dL_out_16