theorem nar_b (x : Int32) : narrow .byte (.int x.toInt8.toInt32) = .int x.toInt8.toInt32 := by
  show Value.int (x.toInt8.toInt32).toInt8.toInt32 = .int x.toInt8.toInt32
  rw [Int8.toInt8_toInt32]
set_option maxHeartbeats 4000000 in
set_option maxRecDepth 100000 in
theorem c_H_out (l : Launch) (D : va_G) (cy : Nat → ClassId) (A : Nat → Prop) (X : State → Prop) (hst : mk_St A X) (hXT : ∀ U : State, X U → TB U) (e0 : Nat) (tk : Nat → Nat) (hXE : ∀ U : State, X U → ES e0 tk A U) (mi : Nat) (hXL : ∀ U : State, X U → EL e0 mi A U) (ax adK adV : Nat → Nat) (hXX : ∀ U : State, X U → TX ax adK adV tk A U) (G : Nat → Option va_E) (o tx rd to se kp : Nat) (hd rg : Option Nat) (tl kc : Int32) (rs sl : Nat) (sf : Nat → Int32) (i9 : Int32) (h0 : G o = some (.inr (14, [.ref tx, .ref rd, .ref to, .ref se, .ref kp, .int tl, .int kc, va_rf hd, va_rf rg]))) (hse : G se = some (.inr (7, [.ref rs, .int (nI sl)]))) (hrs : G rs = some (.inl (cy 0, 64, .inl sf)))  (hi1 : ¬ i9 < 0) (hi2 : i9 < nI sl) : Met l yX13_out [.code yX13_out cX13_out 2 (some .byte)] ({ frames := 1, cells := 0, slots := 0, locals := 30 }) (mk_Pre D vwCl (tyL cy) A X G [.ref o, .int i9]) (va_Qi (fun (r : Int32) (G2 : Nat → Option va_E) => r = (oc_at (nI sl) sf i9).toInt8.toInt32 ∧ G2 = G) (mk_B D vwCl A) A) 0 0 A := by
  refine Met.ofW (cc := cX13_out) (maxL := 2) (ret := (some .byte)) (by decide) rfl ?_
  intro p e s m args below meth c s₁ B hml hv
  obtain ⟨rfl, hG, hK, hA, hX⟩ := hv
  have hx := B.exec
  have hb := B.bytes
  have hr := B.returns
  have hlocks := B.notSynchronized
  have hT := hXT s hX
  have hown : s.vm.findClass RX13 = some m.cls := findClass_of_methodNamed B.named
  have hf_X13 : ∀ w ∈ u_ws RX13 TX13 9, w.before ([.ref o, .int i9] : List Value).toArray s = true := tb_list hT fX13
  have hf_X6 : ∀ w ∈ u_ws RX6 TX6 2, w.before ([.ref o, .int i9] : List Value).toArray s = true := tb_list hT fX6
  have hS : va_S A s.heap s.heap [] := va_S.rf
  have hE := hXE s hX
  have hl := lv_entry ([.ref o, .int i9]) (n := 2) (Nat.le_of_ble_eq_true rfl)
  rw [lg_entry_eq]
  generalize (lg_sl ([.ref o, .int i9]) ++ List.replicate (2 - (lg_sl ([.ref o, .int i9])).length) Slot.unset).toArray = ls at hl ⊢
  have hl : lv_has ls 2 [(0, .ref o), (1, .int i9)] := hl
  have hQ := hXX s hX
  refine lv_iload_n hx hb dX13_out_0 rfl (lv_at hl 1 rfl) ?_
  refine lv_if_lt (tgt := 15) hx hb dX13_out_1 (by decide) (fun c_1 => ?_) (fun c_1 => ?_)
  · skip
    exact absurd c_1 hi1
  · skip
    refine lv_iload_n hx hb dX13_out_4 rfl (lv_at hl 1 rfl) ?_
    refine lv_aload_n hx hb dX13_out_5 rfl (lv_at hl 0 rfl) ?_
    refine mm_get (v := .ref se) hx hb hf_X13 (fun _ h9 => h9) hown hK hG h0 rfl 3 (by decide) (tb_use hT tw_214) (fun _ h9 => h9) rfl dX13_out_6 ?_
    refine mm_getN (v := .int (nI sl)) hx hb hf_X6 (fun _ h9 => h9) hown hK hG hse rfl 1 (by decide) (tb_use hT tw_203) (fun _ h9 => h9) rfl dX13_out_9 ?_
    refine lv_icmp_lt (tgt := 23) hx hb dX13_out_12 (by decide) (fun c_12 => ?_) (fun c_12 => ?_)
    · skip
      refine lv_aload_n hx hb dX13_out_23 rfl (lv_at hl 0 rfl) ?_
      refine mm_get (v := .ref se) hx hb hf_X13 (fun _ h9 => h9) hown hK hG h0 rfl 3 (by decide) (tb_use hT tw_214) (fun _ h9 => h9) rfl dX13_out_24 ?_
      refine lv_iload_n hx hb dX13_out_27 rfl (lv_at hl 1 rfl) ?_
      refine va_calli (va_runV (As := [.int i9]) (rest := []) ⟨hx, hb, hml, hown, (fun _ h9 => absurd h9 List.not_mem_nil : ∀ w ∈ ([] : List Cond), w.before _ s = true)⟩ (c_X6_at l D cy A X hst hXT G se rs (nI sl) i9 sf hse hrs) (tb_cw (C := RX6) 1 hT tw_1126 tw_108 tw_1384 tw_1124 tw_1125 rfl rfl hq_X6_at ⟨Nat.le_of_ble_eq_true rfl, Nat.le_of_ble_eq_true rfl⟩) (mk_preC hst hG hK hA hX hS vc_7 hse) rfl rfl hl.1 rfl (lv_room (Nat.le_of_ble_eq_true rfl)) dX13_out_28 ⟨Nat.le_of_ble_eq_true rfl, Nat.le_of_ble_eq_true rfl⟩) hS (fun q _ h => h) (fun q h => h) (fun r21 G22 t H locs ht hvm hw hB hz1 hk1 hS => ?_)
      have hG : mm D vwCl A G22 H := by rw [← ht]; exact hB
      clear hB hz1 hk1 hvm ht
      obtain ⟨er21, hw⟩ := hw
      rw [hw] at hG
      obtain ⟨x23, ex23⟩ : ∃ y, y = (r21 : Int32).toInt8.toInt32 := ⟨_, rfl⟩
      refine lv_i2b (v := x23) hx hb dX13_out_31 ex23.symm ?_
      exact W.zret (v := x23) hx hb hr (by rw [ex23]; exact nar_b _) (fun t ht hW => ⟨⟨_, _, rfl, ⟨(by rw [ex23, er21]), rfl⟩, mk_end hG ht⟩, hS.F ht⟩) hS.2.2 dX13_out_32
    · skip
      exact absurd hi2 c_12
