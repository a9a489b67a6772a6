set_option maxHeartbeats 4000000 in
set_option maxRecDepth 100000 in
theorem c_X9_sees (l : Launch) (D : va_G) (cy : Nat → ClassId) (A : Nat → Prop) (X : State → Prop) (hst : mk_St A X) (hXT : ∀ U : State, X U → TB U) (e0 : Nat) (tk : Nat → Nat) (hXE : ∀ U : State, X U → ES e0 tk A U) (G : Nat → Option va_E) (o ow ed : Nat) (q : Nat × Int32) (k ks ss vs tn : Nat) (K : Nat → Nat) (S : Nat → Int32) (V : Nat → Int64) (f1 : Nat → Option Nat) (f2 : Nat → Int32) (f3 : Nat → Int64) (j : Nat) (h0 : G o = some (.inr (10, [.ref k, .ref ow, .ref ed, .int (nI q.1), .int q.2]))) (q1 : G k = some (.inr (13, [.ref ks, .ref ss, .ref vs, .int (nI tn)]))) (q2 : G ks = some (.inl (cy 5, 2001, .inr (.inr (.inr (.inr f1)))))) (q3 : G ss = some (.inl (cy 1, 2001, .inl f2))) (q4 : G vs = some (.inl (cy 2, 2001, .inr (.inl f3)))) (hTP : TKP tk tn K S V f1 f2 f3) (hp : q.1 < 2 ^ 30) (hj : j < 35) : Met l yX9_sees [.code yX9_sees cX9_sees 2 (some .boolean)] ({ frames := 1, cells := 0, slots := 0, locals := 30 }) (mk_Pre D vwCl (tyL cy) A X G [.ref o, .ref (tk j)]) (va_Qi (fun (r : Int32) (G2 : Nat → Option va_E) => r = b2i (se K q.1 q.2 j) ∧ G2 = G) (mk_B D vwCl A) A) 0 0 A := by
  refine Met.ofW (cc := cX9_sees) (maxL := 2) (ret := (some .boolean)) (by decide) rfl ?_
  intro p e s m args below meth c s₁ B hml hv
  obtain ⟨rfl, hG, hK, hA, hX⟩ := hv
  have hx := B.exec
  have hb := B.bytes
  have hr := B.returns
  have hlocks := B.notSynchronized
  have hT := hXT s hX
  have hown : s.vm.findClass RX9 = some m.cls := findClass_of_methodNamed B.named
  have hf_X9 : ∀ w ∈ u_ws RX9 TX9 5, w.before ([.ref o, .ref (tk j)] : List Value).toArray s = true := tb_list hT fX9
  have hS : va_S A s.heap s.heap [] := va_S.rf
  have hE := hXE s hX
  have hl := lv_entry ([.ref o, .ref (tk j)]) (n := 2) (Nat.le_of_ble_eq_true rfl)
  rw [lg_entry_eq]
  generalize (lg_sl ([.ref o, .ref (tk j)]) ++ List.replicate (2 - (lg_sl ([.ref o, .ref (tk j)])).length) Slot.unset).toArray = ls at hl ⊢
  have hl : lv_has ls 2 [(0, .ref o), (1, .ref (tk j))] := hl
  refine lv_aload_n hx hb dX9_sees_0 rfl (lv_at hl 0 rfl) ?_
  refine mm_get (v := .int q.2) hx hb hf_X9 (fun _ h9 => h9) hown hK hG h0 rfl 4 (by decide) (tb_use hT tw_181) (fun _ h9 => h9) rfl dX9_sees_1 ?_
  refine lv_if_ge (tgt := 26) hx hb dX9_sees_4 (by decide) (fun c_4 => ?_) (fun c_4 => ?_)
  · skip
    refine lv_iconst (v := 0) hx hb dX9_sees_26 (by decide) ?_
    exact W.zret (v := 0) hx hb hr rfl (fun t ht hW => ⟨⟨_, _, rfl, ⟨(by rw [se, decide_eq_false (Int32.not_lt.mpr c_4)]; rfl), rfl⟩, mk_end hG ht⟩, hS.F ht⟩) hS.2.2 dX9_sees_27
  · skip
    refine lv_aload_n hx hb dX9_sees_7 rfl (lv_at hl 0 rfl) ?_
    refine mm_get (v := .ref k) hx hb hf_X9 (fun _ h9 => h9) hown hK hG h0 rfl 0 (by decide) (tb_use hT tw_177) (fun _ h9 => h9) rfl dX9_sees_8 ?_
    refine lv_aload_n hx hb dX9_sees_11 rfl (lv_at hl 0 rfl) ?_
    refine mm_get (v := .int (nI q.1)) hx hb hf_X9 (fun _ h9 => h9) hown hK hG h0 rfl 3 (by decide) (tb_use hT tw_180) (fun _ h9 => h9) rfl dX9_sees_12 ?_
    refine va_callq (va_runV (As := [.int (nI q.1)]) (rest := []) ⟨hx, hb, hml, hown, (fun _ h9 => absurd h9 List.not_mem_nil : ∀ w ∈ ([] : List Cond), w.before _ s = true)⟩ (c_X12_kind l D cy A X hst hXT e0 tk hXE G k ks ss vs tn K S V f1 f2 f3 q.1 q1 q2 q3 q4 hTP (by first | omega | (simp only []; omega))) (tb_cw (C := RX12) 1 hT tw_441 tw_107 tw_438 tw_439 tw_440 rfl rfl hq_X12_kind ⟨Nat.le_of_ble_eq_true rfl, Nat.le_of_ble_eq_true rfl⟩) (mk_preC hst hG hK hA hX hS vc_13 q1) rfl rfl hl.1 rfl (lv_room (Nat.le_of_ble_eq_true rfl)) dX9_sees_15 ⟨Nat.le_of_ble_eq_true rfl, Nat.le_of_ble_eq_true rfl⟩) hS (fun q _ h => h) (fun q h => h) (fun r1 G2 t H locs ht hvm hw hB hz1 hk1 hS => ?_)
    have hG : mm D vwCl A G2 H := by rw [← ht]; exact hB
    clear hB hz1 hk1 hvm ht
    obtain ⟨rfl, hw⟩ := hw
    rw [hw] at hG
    refine lv_aload_n hx hb dX9_sees_18 rfl (lv_at hl 1 rfl) ?_
    refine lv_acmp_ne (rx := some (tk (K q.1))) (ry := some (tk j)) (tgt := 26) hx hb dX9_sees_19 (by decide) (fun c_19 => ?_) (fun c_19 => ?_)
    · skip
      refine lv_iconst (v := 0) hx hb dX9_sees_26 (by decide) ?_
      have hne : ¬ K q.1 = j := fun z => c_19 (by rw [z])
      exact W.zret (v := 0) hx hb hr rfl (fun t ht hW => ⟨⟨_, _, rfl, ⟨(by rw [se, decide_eq_false hne, Bool.and_false]; rfl), rfl⟩, mk_end hG ht⟩, hS.F ht⟩) hS.2.2 dX9_sees_27
    · skip
      refine lv_iconst (v := 1) hx hb dX9_sees_22 (by decide) ?_
      refine lv_goto (tgt := 27) hx hb dX9_sees_23 (by decide) ?_
      exact W.zret (v := 1) hx hb hr rfl (fun t ht hW => ⟨⟨_, _, rfl, ⟨(by rw [se, decide_eq_true (Int32.not_le.mp c_4), decide_eq_true (tk_ne hE ((hTP.2.1 q.1).1) hj c_19)]; rfl), rfl⟩, mk_end hG ht⟩, hS.F ht⟩) hS.2.2 dX9_sees_27

set_option maxHeartbeats 4000000 in
set_option maxRecDepth 100000 in
theorem c_X9_start (l : Launch) (D : va_G) (cy : Nat → ClassId) (A : Nat → Prop) (X : State → Prop) (hst : mk_St A X) (hXT : ∀ U : State, X U → TB U) (e0 : Nat) (tk : Nat → Nat) (hXE : ∀ U : State, X U → ES e0 tk A U) (G : Nat → Option va_E) (o ow ed : Nat) (q : Nat × Int32) (k ks ss vs tn : Nat) (K : Nat → Nat) (S : Nat → Int32) (V : Nat → Int64) (f1 : Nat → Option Nat) (f2 : Nat → Int32) (f3 : Nat → Int64) (h0 : G o = some (.inr (10, [.ref k, .ref ow, .ref ed, .int (nI q.1), .int q.2]))) (q1 : G k = some (.inr (13, [.ref ks, .ref ss, .ref vs, .int (nI tn)]))) (q2 : G ks = some (.inl (cy 5, 2001, .inr (.inr (.inr (.inr f1)))))) (q3 : G ss = some (.inl (cy 1, 2001, .inl f2))) (q4 : G vs = some (.inl (cy 2, 2001, .inr (.inl f3)))) (hTP : TKP tk tn K S V f1 f2 f3) (hp : q.1 < 2 ^ 30) : Met l yX9_start [.code yX9_start cX9_start 1 (some .int)] ({ frames := 1, cells := 0, slots := 0, locals := 30 }) (mk_Pre D vwCl (tyL cy) A X G [.ref o]) (va_Qi (fun (r : Int32) (G2 : Nat → Option va_E) => r = S q.1 ∧ G2 = G) (mk_B D vwCl A) A) 0 0 A := by
  refine Met.ofW (cc := cX9_start) (maxL := 1) (ret := (some .int)) (by decide) rfl ?_
  intro p e s m args below meth c s₁ B hml hv
  obtain ⟨rfl, hG, hK, hA, hX⟩ := hv
  have hx := B.exec
  have hb := B.bytes
  have hr := B.returns
  have hlocks := B.notSynchronized
  have hT := hXT s hX
  have hown : s.vm.findClass RX9 = some m.cls := findClass_of_methodNamed B.named
  have hf_X9 : ∀ w ∈ u_ws RX9 TX9 5, w.before ([.ref o] : List Value).toArray s = true := tb_list hT fX9
  have hS : va_S A s.heap s.heap [] := va_S.rf
  have hE := hXE s hX
  have hl := lv_entry ([.ref o]) (n := 1) (Nat.le_of_ble_eq_true rfl)
  rw [lg_entry_eq]
  generalize (lg_sl ([.ref o]) ++ List.replicate (1 - (lg_sl ([.ref o])).length) Slot.unset).toArray = ls at hl ⊢
  have hl : lv_has ls 1 [(0, .ref o)] := hl
  refine lv_aload_n hx hb dX9_start_0 rfl (lv_at hl 0 rfl) ?_
  refine mm_get (v := .ref k) hx hb hf_X9 (fun _ h9 => h9) hown hK hG h0 rfl 0 (by decide) (tb_use hT tw_177) (fun _ h9 => h9) rfl dX9_start_1 ?_
  refine lv_aload_n hx hb dX9_start_4 rfl (lv_at hl 0 rfl) ?_
  refine mm_get (v := .int (nI q.1)) hx hb hf_X9 (fun _ h9 => h9) hown hK hG h0 rfl 3 (by decide) (tb_use hT tw_180) (fun _ h9 => h9) rfl dX9_start_5 ?_
  refine va_calli (va_runV (As := [.int (nI q.1)]) (rest := []) ⟨hx, hb, hml, hown, (fun _ h9 => absurd h9 List.not_mem_nil : ∀ w ∈ ([] : List Cond), w.before _ s = true)⟩ (c_X12_start l D cy A X hst hXT e0 tk hXE G k ks ss vs tn K S V f1 f2 f3 q.1 q1 q2 q3 q4 hTP (by first | omega | (simp only []; omega))) (tb_cw (C := RX12) 1 hT tw_469 tw_107 tw_466 tw_467 tw_468 rfl rfl hq_X12_start ⟨Nat.le_of_ble_eq_true rfl, Nat.le_of_ble_eq_true rfl⟩) (mk_preC hst hG hK hA hX hS vc_13 q1) rfl rfl hl.1 rfl (lv_room (Nat.le_of_ble_eq_true rfl)) dX9_start_8 ⟨Nat.le_of_ble_eq_true rfl, Nat.le_of_ble_eq_true rfl⟩) hS (fun q _ h => h) (fun q h => h) (fun r1 G2 t H locs ht hvm hw hB hz1 hk1 hS => ?_)
  have hG : mm D vwCl A G2 H := by rw [← ht]; exact hB
  clear hB hz1 hk1 hvm ht
  obtain ⟨er1, hw⟩ := hw
  rw [hw] at hG
  exact W.iret (v := r1) hx hb hr (fun t ht hW => ⟨⟨_, _, rfl, ⟨er1, rfl⟩, mk_end hG ht⟩, hS.F ht⟩) hS.2.2 dX9_start_11

set_option maxHeartbeats 4000000 in
set_option maxRecDepth 100000 in
theorem c_X9_fail (l : Launch) (D : va_G) (cy : Nat → ClassId) (A : Nat → Prop) (X : State → Prop) (hst : mk_St A X) (hXT : ∀ U : State, X U → TB U) (e0 : Nat) (tk : Nat → Nat) (hXE : ∀ U : State, X U → ES e0 tk A U) (G : Nat → Option va_E) (o ow ed : Nat) (q : Nat × Int32) (k ks ss vs tn : Nat) (K : Nat → Nat) (S : Nat → Int32) (V : Nat → Int64) (f1 : Nat → Option Nat) (f2 : Nat → Int32) (f3 : Nat → Int64) (h0 : G o = some (.inr (10, [.ref k, .ref ow, .ref ed, .int (nI q.1), .int q.2]))) (q1 : G k = some (.inr (13, [.ref ks, .ref ss, .ref vs, .int (nI tn)]))) (q2 : G ks = some (.inl (cy 5, 2001, .inr (.inr (.inr (.inr f1)))))) (q3 : G ss = some (.inl (cy 1, 2001, .inl f2))) (q4 : G vs = some (.inl (cy 2, 2001, .inr (.inl f3)))) (hTP : TKP tk tn K S V f1 f2 f3) (hp : q.1 < 2 ^ 30) : Met l yX9_fail [.code yX9_fail cX9_fail 1 none] ({ frames := 1, cells := 0, slots := 0, locals := 30 }) (mk_Pre D vwCl (tyL cy) A X G [.ref o]) (va_Qv (fun (G2 : Nat → Option va_E) => G2 = mm_set G o (.inr (10, [.ref k, .ref ow, .ref ed, .int (nI (q.1, fl S q.1 q.2).1), .int ((q.1, fl S q.1 q.2).2)]))) (mk_B D vwCl A) A) 0 0 A := by
  refine Met.ofW (cc := cX9_fail) (maxL := 1) (ret := none) (by decide) rfl ?_
  intro p e s m args below meth c s₁ B hml hv
  obtain ⟨rfl, hG, hK, hA, hX⟩ := hv
  have hx := B.exec
  have hb := B.bytes
  have hr := B.returns
  have hlocks := B.notSynchronized
  have hT := hXT s hX
  have hown : s.vm.findClass RX9 = some m.cls := findClass_of_methodNamed B.named
  have hf_X9 : ∀ w ∈ u_ws RX9 TX9 5, w.before ([.ref o] : List Value).toArray s = true := tb_list hT fX9
  have hS : va_S A s.heap s.heap [] := va_S.rf
  have hE := hXE s hX
  have hl := lv_entry ([.ref o]) (n := 1) (Nat.le_of_ble_eq_true rfl)
  rw [lg_entry_eq]
  generalize (lg_sl ([.ref o]) ++ List.replicate (1 - (lg_sl ([.ref o])).length) Slot.unset).toArray = ls at hl ⊢
  have hl : lv_has ls 1 [(0, .ref o)] := hl
  refine lv_aload_n hx hb dX9_fail_0 rfl (lv_at hl 0 rfl) ?_
  refine mm_get (v := .int q.2) hx hb hf_X9 (fun _ h9 => h9) hown hK hG h0 rfl 4 (by decide) (tb_use hT tw_181) (fun _ h9 => h9) rfl dX9_fail_1 ?_
  refine lv_if_ge (tgt := 22) hx hb dX9_fail_4 (by decide) (fun c_4 => ?_) (fun c_4 => ?_)
  · skip
    exact W.vret hx hb hr (fun t ht hW => ⟨⟨_, rfl, (by rw [fl, if_neg (Int32.not_lt.mpr c_4), mm_set_id h0]), mk_end hG ht⟩, hS.F ht⟩) hS.2.2 dX9_fail_22
  · skip
    refine lv_aload_n hx hb dX9_fail_7 rfl (lv_at hl 0 rfl) ?_
    refine lv_aload_n hx hb dX9_fail_8 rfl (lv_at hl 0 rfl) ?_
    refine mm_get (v := .ref k) hx hb hf_X9 (fun _ h9 => h9) hown hK hG h0 rfl 0 (by decide) (tb_use hT tw_177) (fun _ h9 => h9) rfl dX9_fail_9 ?_
    refine lv_aload_n hx hb dX9_fail_12 rfl (lv_at hl 0 rfl) ?_
    refine mm_get (v := .int (nI q.1)) hx hb hf_X9 (fun _ h9 => h9) hown hK hG h0 rfl 3 (by decide) (tb_use hT tw_180) (fun _ h9 => h9) rfl dX9_fail_13 ?_
    refine va_calli (va_runV (As := [.int (nI q.1)]) (rest := [.ref o]) ⟨hx, hb, hml, hown, (fun _ h9 => absurd h9 List.not_mem_nil : ∀ w ∈ ([] : List Cond), w.before _ s = true)⟩ (c_X12_start l D cy A X hst hXT e0 tk hXE G k ks ss vs tn K S V f1 f2 f3 q.1 q1 q2 q3 q4 hTP (by first | omega | (simp only []; omega))) (tb_cw (C := RX12) 1 hT tw_469 tw_107 tw_466 tw_467 tw_468 rfl rfl hq_X12_start ⟨Nat.le_of_ble_eq_true rfl, Nat.le_of_ble_eq_true rfl⟩) (mk_preC hst hG hK hA hX hS vc_13 q1) rfl rfl hl.1 rfl (lv_room (Nat.le_of_ble_eq_true rfl)) dX9_fail_16 ⟨Nat.le_of_ble_eq_true rfl, Nat.le_of_ble_eq_true rfl⟩) hS (fun q _ h => h) (fun q h => h) (fun r1 G2 t H locs ht hvm hw hB hz1 hk1 hS => ?_)
    have hG : mm D vwCl A G2 H := by rw [← ht]; exact hB
    clear hB hz1 hk1 hvm ht
    obtain ⟨er1, hw⟩ := hw
    rw [hw] at hG
    refine mm_put (v := .int r1) (ty := .int) hx hb hf_X9 (fun _ h9 => h9) tyX9 tyX9_ok nmX9 hown hK hG hS h0 rfl 4 (by decide) (tb_use hT tw_181) (fun _ h9 => h9) rfl (by decide +kernel) rfl rfl (Nat.le_of_ble_eq_true rfl) dX9_fail_19 (fun H locs hG hS => ?_)
    obtain ⟨G3, eG3⟩ : ∃ g, g = mm_set G o (.inr (10, [.ref k, .ref ow, .ref ed, .int (nI q.1), .int r1])) := ⟨_, rfl⟩
    have hG : mm D vwCl A G3 H := by rw [eG3]; exact hG
    have k4 : G3 o = some (.inr (10, [.ref k, .ref ow, .ref ed, .int (nI q.1), .int r1])) := by rw [eG3]; exact mm_set_self
    have k5 : G3 k = some (.inr (13, [.ref ks, .ref ss, .ref vs, .int (nI tn)])) := by rw [eG3]; exact mm_set_of q1 (mm_ne_oo q1 h0 (by decide))
    have k6 : G3 ks = some (.inl (cy 5, 2001, .inr (.inr (.inr (.inr f1))))) := by rw [eG3]; exact mm_set_of q2 (mm_ne_ao q2 h0)
    have k7 : G3 ss = some (.inl (cy 1, 2001, .inl f2)) := by rw [eG3]; exact mm_set_of q3 (mm_ne_ao q3 h0)
    have k8 : G3 vs = some (.inl (cy 2, 2001, .inr (.inl f3))) := by rw [eG3]; exact mm_set_of q4 (mm_ne_ao q4 h0)
    exact W.vret hx hb hr (fun t ht hW => ⟨⟨_, rfl, (by rw [eG3, fl, if_pos (Int32.not_le.mp c_4), er1]), mk_end hG ht⟩, hS.F ht⟩) hS.2.2 dX9_fail_22

set_option maxHeartbeats 4000000 in
set_option maxRecDepth 100000 in
theorem c_X9_take (l : Launch) (D : va_G) (cy : Nat → ClassId) (A : Nat → Prop) (X : State → Prop) (hst : mk_St A X) (hXT : ∀ U : State, X U → TB U) (e0 : Nat) (tk : Nat → Nat) (hXE : ∀ U : State, X U → ES e0 tk A U) (G : Nat → Option va_E) (o ow ed : Nat) (q : Nat × Int32) (k ks ss vs tn : Nat) (K : Nat → Nat) (S : Nat → Int32) (V : Nat → Int64) (f1 : Nat → Option Nat) (f2 : Nat → Int32) (f3 : Nat → Int64) (j : Nat) (h0 : G o = some (.inr (10, [.ref k, .ref ow, .ref ed, .int (nI q.1), .int q.2]))) (q1 : G k = some (.inr (13, [.ref ks, .ref ss, .ref vs, .int (nI tn)]))) (q2 : G ks = some (.inl (cy 5, 2001, .inr (.inr (.inr (.inr f1)))))) (q3 : G ss = some (.inl (cy 1, 2001, .inl f2))) (q4 : G vs = some (.inl (cy 2, 2001, .inr (.inl f3)))) (hTP : TKP tk tn K S V f1 f2 f3) (hp : q.1 < 2 ^ 30) (hj : j < 35) : Met l yX9_take [.code yX9_take cX9_take 2 none] ({ frames := 2, cells := 0, slots := 0, locals := 60 }) (mk_Pre D vwCl (tyL cy) A X G [.ref o, .ref (tk j)]) (va_Qv (fun (G2 : Nat → Option va_E) => G2 = mm_set G o (.inr (10, [.ref k, .ref ow, .ref ed, .int (nI (q_take K S j q).1), .int ((q_take K S j q).2)]))) (mk_B D vwCl A) A) 0 0 A := by
  refine Met.ofW (cc := cX9_take) (maxL := 2) (ret := none) (by decide) rfl ?_
  intro p e s m args below meth c s₁ B hml hv
  obtain ⟨rfl, hG, hK, hA, hX⟩ := hv
  have hx := B.exec
  have hb := B.bytes
  have hr := B.returns
  have hlocks := B.notSynchronized
  have hT := hXT s hX
  have hown : s.vm.findClass RX9 = some m.cls := findClass_of_methodNamed B.named
  have hf_X9 : ∀ w ∈ u_ws RX9 TX9 5, w.before ([.ref o, .ref (tk j)] : List Value).toArray s = true := tb_list hT fX9
  have hS : va_S A s.heap s.heap [] := va_S.rf
  have hE := hXE s hX
  have hl := lv_entry ([.ref o, .ref (tk j)]) (n := 2) (Nat.le_of_ble_eq_true rfl)
  rw [lg_entry_eq]
  generalize (lg_sl ([.ref o, .ref (tk j)]) ++ List.replicate (2 - (lg_sl ([.ref o, .ref (tk j)])).length) Slot.unset).toArray = ls at hl ⊢
  have hl : lv_has ls 2 [(0, .ref o), (1, .ref (tk j))] := hl
  refine lv_aload_n hx hb dX9_take_0 rfl (lv_at hl 0 rfl) ?_
  refine lv_aload_n hx hb dX9_take_1 rfl (lv_at hl 1 rfl) ?_
  refine va_calli (va_runV (As := [.ref (tk j)]) (rest := []) ⟨hx, hb, hml, hown, (fun _ h9 => absurd h9 List.not_mem_nil : ∀ w ∈ ([] : List Cond), w.before _ s = true)⟩ (c_X9_sees l D cy A X hst hXT e0 tk hXE G o ow ed q k ks ss vs tn K S V f1 f2 f3 j h0 q1 q2 q3 q4 hTP (by first | omega | (simp only []; omega)) hj) (tb_cw (C := RX9) 1 hT tw_437 tw_106 tw_434 tw_436 tw_6 rfl rfl hq_X9_sees ⟨Nat.le_of_ble_eq_true rfl, Nat.le_of_ble_eq_true rfl⟩) (mk_preC hst hG hK hA hX hS vc_10 h0) rfl rfl hl.1 rfl (lv_room (Nat.le_of_ble_eq_true rfl)) dX9_take_2 ⟨Nat.le_of_ble_eq_true rfl, Nat.le_of_ble_eq_true rfl⟩) hS (fun q _ h => h) (fun q h => h) (fun r1 G2 t H locs ht hvm hw hB hz1 hk1 hS => ?_)
  have hG : mm D vwCl A G2 H := by rw [← ht]; exact hB
  clear hB hz1 hk1 hvm ht
  obtain ⟨er1, hw⟩ := hw
  rw [hw] at hG
  refine lv_if_eq (tgt := 21) hx hb dX9_take_5 (by decide) (fun c_5 => ?_) (fun c_5 => ?_)
  · skip
    refine lv_aload_n hx hb dX9_take_21 rfl (lv_at hl 0 rfl) ?_
    refine va_callv (va_runV (As := []) (rest := []) ⟨hx, hb, hml, hown, (fun _ h9 => absurd h9 List.not_mem_nil : ∀ w ∈ ([] : List Cond), w.before _ s = true)⟩ (c_X9_fail l D cy A X hst hXT e0 tk hXE G o ow ed q k ks ss vs tn K S V f1 f2 f3  h0 q1 q2 q3 q4 hTP (by first | omega | (simp only []; omega)) ) (tb_cw (C := RX9) 0 hT tw_465 tw_106 tw_462 tw_464 tw_9 rfl rfl hq_X9_fail ⟨Nat.le_of_ble_eq_true rfl, Nat.le_of_ble_eq_true rfl⟩) (mk_preC hst hG hK hA hX hS vc_10 h0) rfl rfl hl.1 rfl (lv_room (Nat.le_of_ble_eq_true rfl)) dX9_take_22 ⟨Nat.le_of_ble_eq_true rfl, Nat.le_of_ble_eq_true rfl⟩) hS (fun q _ h => h) (fun q h => h) (fun  G3 t H locs ht hvm hw hB hz1 hk1 hS => ?_)
    have hG : mm D vwCl A G3 H := by rw [← ht]; exact hB
    clear hB hz1 hk1 hvm ht
    obtain ⟨y4, ey4⟩ : ∃ y, y = (q.1, fl S q.1 q.2) := ⟨_, rfl⟩
    rw [← ey4] at hw
    have ly4 : y4.1 ≤ q.1 + 0 := by rw [ey4]; exact (by simp)
    have eG3 := hw
    clear hw
    have k5 : G3 o = some (.inr (10, [.ref k, .ref ow, .ref ed, .int (nI y4.1), .int y4.2])) := by rw [eG3]; exact mm_set_self
    have k6 : G3 k = some (.inr (13, [.ref ks, .ref ss, .ref vs, .int (nI tn)])) := by rw [eG3]; exact mm_set_of q1 (mm_ne_oo q1 h0 (by decide))
    have k7 : G3 ks = some (.inl (cy 5, 2001, .inr (.inr (.inr (.inr f1))))) := by rw [eG3]; exact mm_set_of q2 (mm_ne_ao q2 h0)
    have k8 : G3 ss = some (.inl (cy 1, 2001, .inl f2)) := by rw [eG3]; exact mm_set_of q3 (mm_ne_ao q3 h0)
    have k9 : G3 vs = some (.inl (cy 2, 2001, .inr (.inl f3))) := by rw [eG3]; exact mm_set_of q4 (mm_ne_ao q4 h0)
    have hse : se K q.1 q.2 j = false := by rw [er1] at c_5; revert c_5; cases se K q.1 q.2 j <;> simp [b2i]
    exact W.vret hx hb hr (fun t ht hW => ⟨⟨_, rfl, (by rw [eG3]; rw [q_take, hse]; try (subst_vars; rfl)), mk_end hG ht⟩, hS.F ht⟩) hS.2.2 dX9_take_25
  · skip
    refine lv_aload_n hx hb dX9_take_8 rfl (lv_at hl 0 rfl) ?_
    refine lv_dup hx hb dX9_take_9 rfl ?_
    refine mm_get (v := .int (nI q.1)) hx hb hf_X9 (fun _ h9 => h9) hown hK hG h0 rfl 3 (by decide) (tb_use hT tw_180) (fun _ h9 => h9) rfl dX9_take_10 ?_
    refine lv_iconst (v := 1) hx hb dX9_take_13 (by decide) ?_
    refine lv_iadd hx hb dX9_take_14 ?_
    rw [← nI_succ q.1]
    refine mm_put (v := .int (nI (q.1 + 1))) (ty := .int) hx hb hf_X9 (fun _ h9 => h9) tyX9 tyX9_ok nmX9 hown hK hG hS h0 rfl 3 (by decide) (tb_use hT tw_180) (fun _ h9 => h9) rfl (by decide +kernel) rfl rfl (Nat.le_of_ble_eq_true rfl) dX9_take_15 (fun H locs hG hS => ?_)
    obtain ⟨G10, eG10⟩ : ∃ g, g = mm_set G o (.inr (10, [.ref k, .ref ow, .ref ed, .int (nI (q.1 + 1)), .int q.2])) := ⟨_, rfl⟩
    have hG : mm D vwCl A G10 H := by rw [eG10]; exact hG
    have k11 : G10 o = some (.inr (10, [.ref k, .ref ow, .ref ed, .int (nI (q.1 + 1)), .int q.2])) := by rw [eG10]; exact mm_set_self
    have k12 : G10 k = some (.inr (13, [.ref ks, .ref ss, .ref vs, .int (nI tn)])) := by rw [eG10]; exact mm_set_of q1 (mm_ne_oo q1 h0 (by decide))
    have k13 : G10 ks = some (.inl (cy 5, 2001, .inr (.inr (.inr (.inr f1))))) := by rw [eG10]; exact mm_set_of q2 (mm_ne_ao q2 h0)
    have k14 : G10 ss = some (.inl (cy 1, 2001, .inl f2)) := by rw [eG10]; exact mm_set_of q3 (mm_ne_ao q3 h0)
    have k15 : G10 vs = some (.inl (cy 2, 2001, .inr (.inl f3))) := by rw [eG10]; exact mm_set_of q4 (mm_ne_ao q4 h0)
    refine lv_goto (tgt := 25) hx hb dX9_take_18 (by decide) ?_
    have hse : se K q.1 q.2 j = true := by rw [er1] at c_5; revert c_5; cases se K q.1 q.2 j <;> simp [b2i]
    exact W.vret hx hb hr (fun t ht hW => ⟨⟨_, rfl, (by rw [eG10]; rw [q_take, hse]; rfl), mk_end hG ht⟩, hS.F ht⟩) hS.2.2 dX9_take_25

set_option maxHeartbeats 4000000 in
set_option maxRecDepth 100000 in
theorem c_X9_takeName (l : Launch) (D : va_G) (cy : Nat → ClassId) (A : Nat → Prop) (X : State → Prop) (hst : mk_St A X) (hXT : ∀ U : State, X U → TB U) (e0 : Nat) (tk : Nat → Nat) (hXE : ∀ U : State, X U → ES e0 tk A U) (G : Nat → Option va_E) (o ow ed : Nat) (q : Nat × Int32) (k ks ss vs tn : Nat) (K : Nat → Nat) (S : Nat → Int32) (V : Nat → Int64) (f1 : Nat → Option Nat) (f2 : Nat → Int32) (f3 : Nat → Int64) (h0 : G o = some (.inr (10, [.ref k, .ref ow, .ref ed, .int (nI q.1), .int q.2]))) (q1 : G k = some (.inr (13, [.ref ks, .ref ss, .ref vs, .int (nI tn)]))) (q2 : G ks = some (.inl (cy 5, 2001, .inr (.inr (.inr (.inr f1)))))) (q3 : G ss = some (.inl (cy 1, 2001, .inl f2))) (q4 : G vs = some (.inl (cy 2, 2001, .inr (.inl f3)))) (hTP : TKP tk tn K S V f1 f2 f3) (hp : q.1 < 2 ^ 30) : Met l yX9_takeName [.code yX9_takeName cX9_takeName 3 (some .long)] ({ frames := 2, cells := 0, slots := 0, locals := 60 }) (mk_Pre D vwCl (tyL cy) A X G [.ref o]) (va_Ql (fun (r : Int64) (G2 : Nat → Option va_E) => r = (q_name K S V q).1 ∧ G2 = mm_set G o (.inr (10, [.ref k, .ref ow, .ref ed, .int (nI ((q_name K S V q).2).1), .int (((q_name K S V q).2).2)]))) (mk_B D vwCl A) A) 0 0 A := by
  refine Met.ofW (cc := cX9_takeName) (maxL := 3) (ret := (some .long)) (by decide) rfl ?_
  intro p e s m args below meth c s₁ B hml hv
  obtain ⟨rfl, hG, hK, hA, hX⟩ := hv
  have hx := B.exec
  have hb := B.bytes
  have hr := B.returns
  have hlocks := B.notSynchronized
  have hT := hXT s hX
  have hown : s.vm.findClass RX9 = some m.cls := findClass_of_methodNamed B.named
  have hf_X9 : ∀ w ∈ u_ws RX9 TX9 5, w.before ([.ref o] : List Value).toArray s = true := tb_list hT fX9
  have hS : va_S A s.heap s.heap [] := va_S.rf
  have hE := hXE s hX
  have hl := lv_entry ([.ref o]) (n := 3) (Nat.le_of_ble_eq_true rfl)
  rw [lg_entry_eq]
  generalize (lg_sl ([.ref o]) ++ List.replicate (3 - (lg_sl ([.ref o])).length) Slot.unset).toArray = ls at hl ⊢
  have hl : lv_has ls 3 [(0, .ref o)] := hl
  refine lv_aload_n hx hb dX9_takeName_0 rfl (lv_at hl 0 rfl) ?_
  refine va_gets (v := .ref (tk 0)) hx hb (show va_Z "DescribeText$Token" "NAME" "LDescribeText$Token;" (.ref (tk 0)) A s s.heap from (hE.2.1 0 (by decide)).1) hS hown (tb_use hT tw_480) (fun _ h9 => h9) dX9_takeName_1 ?_
  refine va_calli (va_runV (As := [.ref (tk 0)]) (rest := []) ⟨hx, hb, hml, hown, (fun _ h9 => absurd h9 List.not_mem_nil : ∀ w ∈ ([] : List Cond), w.before _ s = true)⟩ (c_X9_sees l D cy A X hst hXT e0 tk hXE G o ow ed q k ks ss vs tn K S V f1 f2 f3 0 h0 q1 q2 q3 q4 hTP (by first | omega | (simp only []; omega)) (by decide)) (tb_cw (C := RX9) 1 hT tw_437 tw_106 tw_434 tw_436 tw_6 rfl rfl hq_X9_sees ⟨Nat.le_of_ble_eq_true rfl, Nat.le_of_ble_eq_true rfl⟩) (mk_preC hst hG hK hA hX hS vc_10 h0) rfl rfl hl.1 rfl (lv_room (Nat.le_of_ble_eq_true rfl)) dX9_takeName_4 ⟨Nat.le_of_ble_eq_true rfl, Nat.le_of_ble_eq_true rfl⟩) hS (fun q _ h => h) (fun q h => h) (fun r1 G2 t H locs ht hvm hw hB hz1 hk1 hS => ?_)
  have hG : mm D vwCl A G2 H := by rw [← ht]; exact hB
  clear hB hz1 hk1 hvm ht
  obtain ⟨er1, hw⟩ := hw
  rw [hw] at hG
  refine lv_if_ne (tgt := 16) hx hb dX9_takeName_7 (by decide) (fun c_7 => ?_) (fun c_7 => ?_)
  · skip
    refine lv_aload_n hx hb dX9_takeName_16 rfl (lv_at hl 0 rfl) ?_
    refine mm_get (v := .ref k) hx hb hf_X9 (fun _ h9 => h9) hown hK hG h0 rfl 0 (by decide) (tb_use hT tw_177) (fun _ h9 => h9) rfl dX9_takeName_17 ?_
    refine lv_aload_n hx hb dX9_takeName_20 rfl (lv_at hl 0 rfl) ?_
    refine mm_get (v := .int (nI q.1)) hx hb hf_X9 (fun _ h9 => h9) hown hK hG h0 rfl 3 (by decide) (tb_use hT tw_180) (fun _ h9 => h9) rfl dX9_takeName_21 ?_
    refine va_calll (va_runV (As := [.int (nI q.1)]) (rest := []) ⟨hx, hb, hml, hown, (fun _ h9 => absurd h9 List.not_mem_nil : ∀ w ∈ ([] : List Cond), w.before _ s = true)⟩ (c_X12_value l D cy A X hst hXT e0 tk hXE G k ks ss vs tn K S V f1 f2 f3 q.1 q1 q2 q3 q4 hTP (by first | omega | (simp only []; omega))) (tb_cw (C := RX12) 1 hT tw_484 tw_107 tw_481 tw_482 tw_483 rfl rfl hq_X12_value ⟨Nat.le_of_ble_eq_true rfl, Nat.le_of_ble_eq_true rfl⟩) (mk_preC hst hG hK hA hX hS vc_13 q1) rfl rfl hl.1 rfl (lv_room (Nat.le_of_ble_eq_true rfl)) dX9_takeName_24 ⟨Nat.le_of_ble_eq_true rfl, Nat.le_of_ble_eq_true rfl⟩) hS (fun q _ h => h) (fun q h => h) (fun r3 G4 t H locs ht hvm hw hB hz1 hk1 hS => ?_)
    have hG : mm D vwCl A G4 H := by rw [← ht]; exact hB
    clear hB hz1 hk1 hvm ht
    obtain ⟨er3, hw⟩ := hw
    rw [hw] at hG
    refine lv_lstore_n (lv' := [(1, .long r3), (0, .ref o)]) hx hb dX9_takeName_27 rfl hl (by decide) rfl (fun ls hl => ?_)
    refine lv_aload_n hx hb dX9_takeName_28 rfl (lv_at hl 1 rfl) ?_
    refine lv_dup hx hb dX9_takeName_29 rfl ?_
    refine mm_get (v := .int (nI q.1)) hx hb hf_X9 (fun _ h9 => h9) hown hK hG h0 rfl 3 (by decide) (tb_use hT tw_180) (fun _ h9 => h9) rfl dX9_takeName_30 ?_
    refine lv_iconst (v := 1) hx hb dX9_takeName_33 (by decide) ?_
    refine lv_iadd hx hb dX9_takeName_34 ?_
    rw [← nI_succ q.1]
    refine mm_put (v := .int (nI (q.1 + 1))) (ty := .int) hx hb hf_X9 (fun _ h9 => h9) tyX9 tyX9_ok nmX9 hown hK hG hS h0 rfl 3 (by decide) (tb_use hT tw_180) (fun _ h9 => h9) rfl (by decide +kernel) rfl rfl (Nat.le_of_ble_eq_true rfl) dX9_takeName_35 (fun H locs hG hS => ?_)
    obtain ⟨G5, eG5⟩ : ∃ g, g = mm_set G o (.inr (10, [.ref k, .ref ow, .ref ed, .int (nI (q.1 + 1)), .int q.2])) := ⟨_, rfl⟩
    have hG : mm D vwCl A G5 H := by rw [eG5]; exact hG
    have k6 : G5 o = some (.inr (10, [.ref k, .ref ow, .ref ed, .int (nI (q.1 + 1)), .int q.2])) := by rw [eG5]; exact mm_set_self
    have k7 : G5 k = some (.inr (13, [.ref ks, .ref ss, .ref vs, .int (nI tn)])) := by rw [eG5]; exact mm_set_of q1 (mm_ne_oo q1 h0 (by decide))
    have k8 : G5 ks = some (.inl (cy 5, 2001, .inr (.inr (.inr (.inr f1))))) := by rw [eG5]; exact mm_set_of q2 (mm_ne_ao q2 h0)
    have k9 : G5 ss = some (.inl (cy 1, 2001, .inl f2)) := by rw [eG5]; exact mm_set_of q3 (mm_ne_ao q3 h0)
    have k10 : G5 vs = some (.inl (cy 2, 2001, .inr (.inl f3))) := by rw [eG5]; exact mm_set_of q4 (mm_ne_ao q4 h0)
    refine lv_lload_n hx hb dX9_takeName_38 rfl (lv_at hl 0 rfl) ?_
    have hse : se K q.1 q.2 0 = true := by rw [er1] at c_7; revert c_7; cases se K q.1 q.2 0 <;> simp [b2i]
    exact W.lret (v := r3) hx hb hr (fun t ht hW => ⟨⟨_, _, rfl, (by rw [q_name, hse]; exact ⟨er3, (by rw [eG5]; rfl)⟩), mk_end hG ht⟩, hS.F ht⟩) hS.2.2 dX9_takeName_39
  · skip
    refine lv_aload_n hx hb dX9_takeName_10 rfl (lv_at hl 0 rfl) ?_
    refine va_callv (va_runV (As := []) (rest := []) ⟨hx, hb, hml, hown, (fun _ h9 => absurd h9 List.not_mem_nil : ∀ w ∈ ([] : List Cond), w.before _ s = true)⟩ (c_X9_fail l D cy A X hst hXT e0 tk hXE G o ow ed q k ks ss vs tn K S V f1 f2 f3  h0 q1 q2 q3 q4 hTP (by first | omega | (simp only []; omega)) ) (tb_cw (C := RX9) 0 hT tw_465 tw_106 tw_462 tw_464 tw_9 rfl rfl hq_X9_fail ⟨Nat.le_of_ble_eq_true rfl, Nat.le_of_ble_eq_true rfl⟩) (mk_preC hst hG hK hA hX hS vc_10 h0) rfl rfl hl.1 rfl (lv_room (Nat.le_of_ble_eq_true rfl)) dX9_takeName_11 ⟨Nat.le_of_ble_eq_true rfl, Nat.le_of_ble_eq_true rfl⟩) hS (fun q _ h => h) (fun q h => h) (fun  G11 t H locs ht hvm hw hB hz1 hk1 hS => ?_)
    have hG : mm D vwCl A G11 H := by rw [← ht]; exact hB
    clear hB hz1 hk1 hvm ht
    obtain ⟨y12, ey12⟩ : ∃ y, y = (q.1, fl S q.1 q.2) := ⟨_, rfl⟩
    rw [← ey12] at hw
    have ly12 : y12.1 ≤ q.1 + 0 := by rw [ey12]; exact (by simp)
    have eG11 := hw
    clear hw
    have k13 : G11 o = some (.inr (10, [.ref k, .ref ow, .ref ed, .int (nI y12.1), .int y12.2])) := by rw [eG11]; exact mm_set_self
    have k14 : G11 k = some (.inr (13, [.ref ks, .ref ss, .ref vs, .int (nI tn)])) := by rw [eG11]; exact mm_set_of q1 (mm_ne_oo q1 h0 (by decide))
    have k15 : G11 ks = some (.inl (cy 5, 2001, .inr (.inr (.inr (.inr f1))))) := by rw [eG11]; exact mm_set_of q2 (mm_ne_ao q2 h0)
    have k16 : G11 ss = some (.inl (cy 1, 2001, .inl f2)) := by rw [eG11]; exact mm_set_of q3 (mm_ne_ao q3 h0)
    have k17 : G11 vs = some (.inl (cy 2, 2001, .inr (.inl f3))) := by rw [eG11]; exact mm_set_of q4 (mm_ne_ao q4 h0)
    refine lv_lconst (v := 0) hx hb dX9_takeName_14 (by decide) ?_
    have hse : se K q.1 q.2 0 = false := by rw [er1] at c_7; revert c_7; cases se K q.1 q.2 0 <;> simp [b2i]
    exact W.lret (v := 0) hx hb hr (fun t ht hW => ⟨⟨_, _, rfl, (by rw [q_name, hse]; exact ⟨rfl, (by rw [eG11]; try (subst_vars; rfl))⟩), mk_end hG ht⟩, hS.F ht⟩) hS.2.2 dX9_takeName_15

set_option maxHeartbeats 4000000 in
set_option maxRecDepth 100000 in
theorem c_X9_begin (l : Launch) (D : va_G) (cy : Nat → ClassId) (A : Nat → Prop) (X : State → Prop) (hst : mk_St A X) (hXT : ∀ U : State, X U → TB U) (e0 : Nat) (tk : Nat → Nat) (hXE : ∀ U : State, X U → ES e0 tk A U) (G : Nat → Option va_E) (o ow ed : Nat) (q : Nat × Int32) (k ks ss vs tn : Nat) (K : Nat → Nat) (S : Nat → Int32) (V : Nat → Int64) (f1 : Nat → Option Nat) (f2 : Nat → Int32) (f3 : Nat → Int64) (hv mo : Int32) (h0 : G o = some (.inr (10, [.ref k, .ref ow, .ref ed, .int (nI q.1), .int q.2]))) (q1 : G k = some (.inr (13, [.ref ks, .ref ss, .ref vs, .int (nI tn)]))) (q2 : G ks = some (.inl (cy 5, 2001, .inr (.inr (.inr (.inr f1)))))) (q3 : G ss = some (.inl (cy 1, 2001, .inl f2))) (q4 : G vs = some (.inl (cy 2, 2001, .inr (.inl f3)))) (hTP : TKP tk tn K S V f1 f2 f3) (hp : q.1 < 2 ^ 30) : Met l yX9_begin [.code yX9_begin cX9_begin 3 none] ({ frames := 2, cells := 0, slots := 0, locals := 60 }) (mk_Pre D vwCl (tyL cy) A X G [.ref o, .int hv, .int mo]) (va_Qv (fun (G2 : Nat → Option va_E) => G2 = mm_set G o (.inr (10, [.ref k, .ref ow, .ref ed, .int (nI (q_begin S hv mo q).1), .int ((q_begin S hv mo q).2)]))) (mk_B D vwCl A) A) 0 0 A := by
  refine Met.ofW (cc := cX9_begin) (maxL := 3) (ret := none) (by decide) rfl ?_
  intro p e s m args below meth c s₁ B hml hv
  obtain ⟨rfl, hG, hK, hA, hX⟩ := hv
  have hx := B.exec
  have hb := B.bytes
  have hr := B.returns
  have hlocks := B.notSynchronized
  have hT := hXT s hX
  have hown : s.vm.findClass RX9 = some m.cls := findClass_of_methodNamed B.named
  have hf_X9 : ∀ w ∈ u_ws RX9 TX9 5, w.before ([.ref o, .int hv, .int mo] : List Value).toArray s = true := tb_list hT fX9
  have hS : va_S A s.heap s.heap [] := va_S.rf
  have hE := hXE s hX
  have hl := lv_entry ([.ref o, .int hv, .int mo]) (n := 3) (Nat.le_of_ble_eq_true rfl)
  rw [lg_entry_eq]
  generalize (lg_sl ([.ref o, .int hv, .int mo]) ++ List.replicate (3 - (lg_sl ([.ref o, .int hv, .int mo])).length) Slot.unset).toArray = ls at hl ⊢
  have hl : lv_has ls 3 [(0, .ref o), (1, .int hv), (2, .int mo)] := hl
  refine lv_iload_n hx hb dX9_begin_0 rfl (lv_at hl 1 rfl) ?_
  refine lv_iload_n hx hb dX9_begin_1 rfl (lv_at hl 2 rfl) ?_
  refine lv_icmp_lt (tgt := 12) hx hb dX9_begin_2 (by decide) (fun c_2 => ?_) (fun c_2 => ?_)
  · skip
    refine lv_aload_n hx hb dX9_begin_12 rfl (lv_at hl 0 rfl) ?_
    refine mm_get (v := .int q.2) hx hb hf_X9 (fun _ h9 => h9) hown hK hG h0 rfl 4 (by decide) (tb_use hT tw_181) (fun _ h9 => h9) rfl dX9_begin_13 ?_
    refine lv_if_ge (tgt := 29) hx hb dX9_begin_16 (by decide) (fun c_16 => ?_) (fun c_16 => ?_)
    · skip
      exact W.vret hx hb hr (fun t ht hW => ⟨⟨_, rfl, (by rw [q_begin, if_pos c_2, if_neg (Int32.not_lt.mpr c_16), mm_set_id h0]), mk_end hG ht⟩, hS.F ht⟩) hS.2.2 dX9_begin_29
    · skip
      refine lv_aload_n hx hb dX9_begin_19 rfl (lv_at hl 0 rfl) ?_
      refine lv_dup hx hb dX9_begin_20 rfl ?_
      refine mm_get (v := .int (nI q.1)) hx hb hf_X9 (fun _ h9 => h9) hown hK hG h0 rfl 3 (by decide) (tb_use hT tw_180) (fun _ h9 => h9) rfl dX9_begin_21 ?_
      refine lv_iconst (v := 1) hx hb dX9_begin_24 (by decide) ?_
      refine lv_iadd hx hb dX9_begin_25 ?_
      rw [← nI_succ q.1]
      refine mm_put (v := .int (nI (q.1 + 1))) (ty := .int) hx hb hf_X9 (fun _ h9 => h9) tyX9 tyX9_ok nmX9 hown hK hG hS h0 rfl 3 (by decide) (tb_use hT tw_180) (fun _ h9 => h9) rfl (by decide +kernel) rfl rfl (Nat.le_of_ble_eq_true rfl) dX9_begin_26 (fun H locs hG hS => ?_)
      obtain ⟨G1, eG1⟩ : ∃ g, g = mm_set G o (.inr (10, [.ref k, .ref ow, .ref ed, .int (nI (q.1 + 1)), .int q.2])) := ⟨_, rfl⟩
      have hG : mm D vwCl A G1 H := by rw [eG1]; exact hG
      have k2 : G1 o = some (.inr (10, [.ref k, .ref ow, .ref ed, .int (nI (q.1 + 1)), .int q.2])) := by rw [eG1]; exact mm_set_self
      have k3 : G1 k = some (.inr (13, [.ref ks, .ref ss, .ref vs, .int (nI tn)])) := by rw [eG1]; exact mm_set_of q1 (mm_ne_oo q1 h0 (by decide))
      have k4 : G1 ks = some (.inl (cy 5, 2001, .inr (.inr (.inr (.inr f1))))) := by rw [eG1]; exact mm_set_of q2 (mm_ne_ao q2 h0)
      have k5 : G1 ss = some (.inl (cy 1, 2001, .inl f2)) := by rw [eG1]; exact mm_set_of q3 (mm_ne_ao q3 h0)
      have k6 : G1 vs = some (.inl (cy 2, 2001, .inr (.inl f3))) := by rw [eG1]; exact mm_set_of q4 (mm_ne_ao q4 h0)
      exact W.vret hx hb hr (fun t ht hW => ⟨⟨_, rfl, (by rw [eG1]; rw [q_begin, if_pos c_2, if_pos (Int32.not_le.mp c_16)]), mk_end hG ht⟩, hS.F ht⟩) hS.2.2 dX9_begin_29
  · skip
    refine lv_aload_n hx hb dX9_begin_5 rfl (lv_at hl 0 rfl) ?_
    refine va_callv (va_runV (As := []) (rest := []) ⟨hx, hb, hml, hown, (fun _ h9 => absurd h9 List.not_mem_nil : ∀ w ∈ ([] : List Cond), w.before _ s = true)⟩ (c_X9_fail l D cy A X hst hXT e0 tk hXE G o ow ed q k ks ss vs tn K S V f1 f2 f3  h0 q1 q2 q3 q4 hTP (by first | omega | (simp only []; omega)) ) (tb_cw (C := RX9) 0 hT tw_465 tw_106 tw_462 tw_464 tw_9 rfl rfl hq_X9_fail ⟨Nat.le_of_ble_eq_true rfl, Nat.le_of_ble_eq_true rfl⟩) (mk_preC hst hG hK hA hX hS vc_10 h0) rfl rfl hl.1 rfl (lv_room (Nat.le_of_ble_eq_true rfl)) dX9_begin_6 ⟨Nat.le_of_ble_eq_true rfl, Nat.le_of_ble_eq_true rfl⟩) hS (fun q _ h => h) (fun q h => h) (fun  G7 t H locs ht hvm hw hB hz1 hk1 hS => ?_)
    have hG : mm D vwCl A G7 H := by rw [← ht]; exact hB
    clear hB hz1 hk1 hvm ht
    obtain ⟨y8, ey8⟩ : ∃ y, y = (q.1, fl S q.1 q.2) := ⟨_, rfl⟩
    rw [← ey8] at hw
    have ly8 : y8.1 ≤ q.1 + 0 := by rw [ey8]; exact (by simp)
    have eG7 := hw
    clear hw
    have k9 : G7 o = some (.inr (10, [.ref k, .ref ow, .ref ed, .int (nI y8.1), .int y8.2])) := by rw [eG7]; exact mm_set_self
    have k10 : G7 k = some (.inr (13, [.ref ks, .ref ss, .ref vs, .int (nI tn)])) := by rw [eG7]; exact mm_set_of q1 (mm_ne_oo q1 h0 (by decide))
    have k11 : G7 ks = some (.inl (cy 5, 2001, .inr (.inr (.inr (.inr f1))))) := by rw [eG7]; exact mm_set_of q2 (mm_ne_ao q2 h0)
    have k12 : G7 ss = some (.inl (cy 1, 2001, .inl f2)) := by rw [eG7]; exact mm_set_of q3 (mm_ne_ao q3 h0)
    have k13 : G7 vs = some (.inl (cy 2, 2001, .inr (.inl f3))) := by rw [eG7]; exact mm_set_of q4 (mm_ne_ao q4 h0)
    refine lv_goto (tgt := 29) hx hb dX9_begin_9 (by decide) ?_
    exact W.vret hx hb hr (fun t ht hW => ⟨⟨_, rfl, (by rw [eG7]; rw [q_begin, if_neg c_2]; try (subst_vars; rfl)), mk_end hG ht⟩, hS.F ht⟩) hS.2.2 dX9_begin_29

set_option maxHeartbeats 4000000 in
set_option maxRecDepth 100000 in
theorem c_X9_takeNumber (l : Launch) (D : va_G) (cy : Nat → ClassId) (A : Nat → Prop) (X : State → Prop) (hst : mk_St A X) (hXT : ∀ U : State, X U → TB U) (e0 : Nat) (tk : Nat → Nat) (hXE : ∀ U : State, X U → ES e0 tk A U) (G : Nat → Option va_E) (o ow ed : Nat) (q : Nat × Int32) (k ks ss vs tn : Nat) (K : Nat → Nat) (S : Nat → Int32) (V : Nat → Int64) (f1 : Nat → Option Nat) (f2 : Nat → Int32) (f3 : Nat → Int64) (lo hi : Int32) (h0 : G o = some (.inr (10, [.ref k, .ref ow, .ref ed, .int (nI q.1), .int q.2]))) (q1 : G k = some (.inr (13, [.ref ks, .ref ss, .ref vs, .int (nI tn)]))) (q2 : G ks = some (.inl (cy 5, 2001, .inr (.inr (.inr (.inr f1)))))) (q3 : G ss = some (.inl (cy 1, 2001, .inl f2))) (q4 : G vs = some (.inl (cy 2, 2001, .inr (.inl f3)))) (hTP : TKP tk tn K S V f1 f2 f3) (hp : q.1 < 2 ^ 30) : Met l yX9_takeNumber [.code yX9_takeNumber cX9_takeNumber 5 (some .int)] ({ frames := 2, cells := 0, slots := 0, locals := 60 }) (mk_Pre D vwCl (tyL cy) A X G [.ref o, .int lo, .int hi]) (va_Qi (fun (r : Int32) (G2 : Nat → Option va_E) => r = (q_num K S V lo hi q).1 ∧ G2 = mm_set G o (.inr (10, [.ref k, .ref ow, .ref ed, .int (nI ((q_num K S V lo hi q).2).1), .int (((q_num K S V lo hi q).2).2)]))) (mk_B D vwCl A) A) 0 0 A := by
  refine Met.ofW (cc := cX9_takeNumber) (maxL := 5) (ret := (some .int)) (by decide) rfl ?_
  intro p e s m args below meth c s₁ B hml hv
  obtain ⟨rfl, hG, hK, hA, hX⟩ := hv
  have hx := B.exec
  have hb := B.bytes
  have hr := B.returns
  have hlocks := B.notSynchronized
  have hT := hXT s hX
  have hown : s.vm.findClass RX9 = some m.cls := findClass_of_methodNamed B.named
  have hf_X9 : ∀ w ∈ u_ws RX9 TX9 5, w.before ([.ref o, .int lo, .int hi] : List Value).toArray s = true := tb_list hT fX9
  have hS : va_S A s.heap s.heap [] := va_S.rf
  have hE := hXE s hX
  have hl := lv_entry ([.ref o, .int lo, .int hi]) (n := 5) (Nat.le_of_ble_eq_true rfl)
  rw [lg_entry_eq]
  generalize (lg_sl ([.ref o, .int lo, .int hi]) ++ List.replicate (5 - (lg_sl ([.ref o, .int lo, .int hi])).length) Slot.unset).toArray = ls at hl ⊢
  have hl : lv_has ls 5 [(0, .ref o), (1, .int lo), (2, .int hi)] := hl
  refine lv_aload_n hx hb dX9_takeNumber_0 rfl (lv_at hl 0 rfl) ?_
  refine mm_get (v := .ref k) hx hb hf_X9 (fun _ h9 => h9) hown hK hG h0 rfl 0 (by decide) (tb_use hT tw_177) (fun _ h9 => h9) rfl dX9_takeNumber_1 ?_
  refine lv_aload_n hx hb dX9_takeNumber_4 rfl (lv_at hl 0 rfl) ?_
  refine mm_get (v := .int (nI q.1)) hx hb hf_X9 (fun _ h9 => h9) hown hK hG h0 rfl 3 (by decide) (tb_use hT tw_180) (fun _ h9 => h9) rfl dX9_takeNumber_5 ?_
  refine va_calll (va_runV (As := [.int (nI q.1)]) (rest := []) ⟨hx, hb, hml, hown, (fun _ h9 => absurd h9 List.not_mem_nil : ∀ w ∈ ([] : List Cond), w.before _ s = true)⟩ (c_X12_value l D cy A X hst hXT e0 tk hXE G k ks ss vs tn K S V f1 f2 f3 q.1 q1 q2 q3 q4 hTP (by first | omega | (simp only []; omega))) (tb_cw (C := RX12) 1 hT tw_484 tw_107 tw_481 tw_482 tw_483 rfl rfl hq_X12_value ⟨Nat.le_of_ble_eq_true rfl, Nat.le_of_ble_eq_true rfl⟩) (mk_preC hst hG hK hA hX hS vc_13 q1) rfl rfl hl.1 rfl (lv_room (Nat.le_of_ble_eq_true rfl)) dX9_takeNumber_8 ⟨Nat.le_of_ble_eq_true rfl, Nat.le_of_ble_eq_true rfl⟩) hS (fun q _ h => h) (fun q h => h) (fun r1 G2 t H locs ht hvm hw hB hz1 hk1 hS => ?_)
  have hG : mm D vwCl A G2 H := by rw [← ht]; exact hB
  clear hB hz1 hk1 hvm ht
  obtain ⟨er1, hw⟩ := hw
  rw [hw] at hG
  refine lv_lstore_n (lv' := [(3, .long r1), (0, .ref o), (1, .int lo), (2, .int hi)]) hx hb dX9_takeNumber_11 rfl hl (by decide) rfl (fun ls hl => ?_)
  refine lv_aload_n hx hb dX9_takeNumber_12 rfl (lv_at hl 1 rfl) ?_
  refine va_gets (v := .ref (tk 1)) hx hb (show va_Z "DescribeText$Token" "NUMBER" "LDescribeText$Token;" (.ref (tk 1)) A s s.heap from (hE.2.1 1 (by decide)).1) hS hown (tb_use hT tw_544) (fun _ h9 => h9) dX9_takeNumber_13 ?_
  refine va_calli (va_runV (As := [.ref (tk 1)]) (rest := []) ⟨hx, hb, hml, hown, (fun _ h9 => absurd h9 List.not_mem_nil : ∀ w ∈ ([] : List Cond), w.before _ s = true)⟩ (c_X9_sees l D cy A X hst hXT e0 tk hXE G o ow ed q k ks ss vs tn K S V f1 f2 f3 1 h0 q1 q2 q3 q4 hTP (by first | omega | (simp only []; omega)) (by decide)) (tb_cw (C := RX9) 1 hT tw_437 tw_106 tw_434 tw_436 tw_6 rfl rfl hq_X9_sees ⟨Nat.le_of_ble_eq_true rfl, Nat.le_of_ble_eq_true rfl⟩) (mk_preC hst hG hK hA hX hS vc_10 h0) rfl rfl hl.1 rfl (lv_room (Nat.le_of_ble_eq_true rfl)) dX9_takeNumber_16 ⟨Nat.le_of_ble_eq_true rfl, Nat.le_of_ble_eq_true rfl⟩) hS (fun q _ h => h) (fun q h => h) (fun r3 G4 t H locs ht hvm hw hB hz1 hk1 hS => ?_)
  have hG : mm D vwCl A G4 H := by rw [← ht]; exact hB
  clear hB hz1 hk1 hvm ht
  obtain ⟨er3, hw⟩ := hw
  rw [hw] at hG
  refine lv_if_eq (tgt := 36) hx hb dX9_takeNumber_19 (by decide) (fun c_19 => ?_) (fun c_19 => ?_)
  · skip
    refine lv_aload_n hx hb dX9_takeNumber_36 rfl (lv_at hl 1 rfl) ?_
    refine va_callv (va_runV (As := []) (rest := []) ⟨hx, hb, hml, hown, (fun _ h9 => absurd h9 List.not_mem_nil : ∀ w ∈ ([] : List Cond), w.before _ s = true)⟩ (c_X9_fail l D cy A X hst hXT e0 tk hXE G o ow ed q k ks ss vs tn K S V f1 f2 f3  h0 q1 q2 q3 q4 hTP (by first | omega | (simp only []; omega)) ) (tb_cw (C := RX9) 0 hT tw_465 tw_106 tw_462 tw_464 tw_9 rfl rfl hq_X9_fail ⟨Nat.le_of_ble_eq_true rfl, Nat.le_of_ble_eq_true rfl⟩) (mk_preC hst hG hK hA hX hS vc_10 h0) rfl rfl hl.1 rfl (lv_room (Nat.le_of_ble_eq_true rfl)) dX9_takeNumber_37 ⟨Nat.le_of_ble_eq_true rfl, Nat.le_of_ble_eq_true rfl⟩) hS (fun q _ h => h) (fun q h => h) (fun  G5 t H locs ht hvm hw hB hz1 hk1 hS => ?_)
    have hG : mm D vwCl A G5 H := by rw [← ht]; exact hB
    clear hB hz1 hk1 hvm ht
    obtain ⟨y6, ey6⟩ : ∃ y, y = (q.1, fl S q.1 q.2) := ⟨_, rfl⟩
    rw [← ey6] at hw
    have ly6 : y6.1 ≤ q.1 + 0 := by rw [ey6]; exact (by simp)
    have eG5 := hw
    clear hw
    have k7 : G5 o = some (.inr (10, [.ref k, .ref ow, .ref ed, .int (nI y6.1), .int y6.2])) := by rw [eG5]; exact mm_set_self
    have k8 : G5 k = some (.inr (13, [.ref ks, .ref ss, .ref vs, .int (nI tn)])) := by rw [eG5]; exact mm_set_of q1 (mm_ne_oo q1 h0 (by decide))
    have k9 : G5 ks = some (.inl (cy 5, 2001, .inr (.inr (.inr (.inr f1))))) := by rw [eG5]; exact mm_set_of q2 (mm_ne_ao q2 h0)
    have k10 : G5 ss = some (.inl (cy 1, 2001, .inl f2)) := by rw [eG5]; exact mm_set_of q3 (mm_ne_ao q3 h0)
    have k11 : G5 vs = some (.inl (cy 2, 2001, .inr (.inl f3))) := by rw [eG5]; exact mm_set_of q4 (mm_ne_ao q4 h0)
    refine lv_iload_n hx hb dX9_takeNumber_40 rfl (lv_at hl 2 rfl) ?_
    have hse : se K q.1 q.2 1 = false := by rw [er3] at c_19; revert c_19; cases se K q.1 q.2 1 <;> simp [b2i]
    have hno : ¬ (se K q.1 q.2 1 = true ∧ lo.toInt64 ≤ V q.1 ∧ V q.1 ≤ hi.toInt64) := fun z => by rw [hse] at z; cases z.1
    exact W.iret (v := lo) hx hb hr (fun t ht hW => ⟨⟨_, _, rfl, (by rw [q_num, if_neg hno]; exact ⟨rfl, (by rw [eG5]; try (subst_vars; rfl))⟩), mk_end hG ht⟩, hS.F ht⟩) hS.2.2 dX9_takeNumber_41
  · skip
    refine lv_lload_n hx hb dX9_takeNumber_22 rfl (lv_at hl 0 rfl) ?_
    refine lv_iload_n hx hb dX9_takeNumber_23 rfl (lv_at hl 2 rfl) ?_
    obtain ⟨x12, ex12⟩ : ∃ y, y = (lo : Int32).toInt64 := ⟨_, rfl⟩
    refine lv_i2l (v := x12) hx hb dX9_takeNumber_24 ex12.symm ?_
    refine W.lcmp hx hb dX9_takeNumber_25 ?_
    refine lv_if_lt (tgt := 36) hx hb dX9_takeNumber_26 (by decide) (fun c_26 => ?_) (fun c_26 => ?_)
    · skip
      refine lv_aload_n hx hb dX9_takeNumber_36 rfl (lv_at hl 1 rfl) ?_
      refine va_callv (va_runV (As := []) (rest := []) ⟨hx, hb, hml, hown, (fun _ h9 => absurd h9 List.not_mem_nil : ∀ w ∈ ([] : List Cond), w.before _ s = true)⟩ (c_X9_fail l D cy A X hst hXT e0 tk hXE G o ow ed q k ks ss vs tn K S V f1 f2 f3  h0 q1 q2 q3 q4 hTP (by first | omega | (simp only []; omega)) ) (tb_cw (C := RX9) 0 hT tw_465 tw_106 tw_462 tw_464 tw_9 rfl rfl hq_X9_fail ⟨Nat.le_of_ble_eq_true rfl, Nat.le_of_ble_eq_true rfl⟩) (mk_preC hst hG hK hA hX hS vc_10 h0) rfl rfl hl.1 rfl (lv_room (Nat.le_of_ble_eq_true rfl)) dX9_takeNumber_37 ⟨Nat.le_of_ble_eq_true rfl, Nat.le_of_ble_eq_true rfl⟩) hS (fun q _ h => h) (fun q h => h) (fun  G14 t H locs ht hvm hw hB hz1 hk1 hS => ?_)
      have hG : mm D vwCl A G14 H := by rw [← ht]; exact hB
      clear hB hz1 hk1 hvm ht
      obtain ⟨y15, ey15⟩ : ∃ y, y = (q.1, fl S q.1 q.2) := ⟨_, rfl⟩
      rw [← ey15] at hw
      have ly15 : y15.1 ≤ q.1 + 0 := by rw [ey15]; exact (by simp)
      have eG14 := hw
      clear hw
      have k16 : G14 o = some (.inr (10, [.ref k, .ref ow, .ref ed, .int (nI y15.1), .int y15.2])) := by rw [eG14]; exact mm_set_self
      have k17 : G14 k = some (.inr (13, [.ref ks, .ref ss, .ref vs, .int (nI tn)])) := by rw [eG14]; exact mm_set_of q1 (mm_ne_oo q1 h0 (by decide))
      have k18 : G14 ks = some (.inl (cy 5, 2001, .inr (.inr (.inr (.inr f1))))) := by rw [eG14]; exact mm_set_of q2 (mm_ne_ao q2 h0)
      have k19 : G14 ss = some (.inl (cy 1, 2001, .inl f2)) := by rw [eG14]; exact mm_set_of q3 (mm_ne_ao q3 h0)
      have k20 : G14 vs = some (.inl (cy 2, 2001, .inr (.inl f3))) := by rw [eG14]; exact mm_set_of q4 (mm_ne_ao q4 h0)
      refine lv_iload_n hx hb dX9_takeNumber_40 rfl (lv_at hl 2 rfl) ?_
      have hse : se K q.1 q.2 1 = true := by rw [er3] at c_19; revert c_19; cases se K q.1 q.2 1 <;> simp [b2i]
      have hno : ¬ (se K q.1 q.2 1 = true ∧ lo.toInt64 ≤ V q.1 ∧ V q.1 ≤ hi.toInt64) := fun z => absurd z.2.1 (Int64.not_le.mpr (by rw [← er1, ← ex12]; exact (lg_cmp_lt _ _).mp c_26))
      exact W.iret (v := lo) hx hb hr (fun t ht hW => ⟨⟨_, _, rfl, (by rw [q_num, if_neg hno]; exact ⟨rfl, (by rw [eG14]; try (subst_vars; rfl))⟩), mk_end hG ht⟩, hS.F ht⟩) hS.2.2 dX9_takeNumber_41
    · skip
      refine lv_lload_n hx hb dX9_takeNumber_29 rfl (lv_at hl 0 rfl) ?_
      refine lv_iload_n hx hb dX9_takeNumber_30 rfl (lv_at hl 3 rfl) ?_
      obtain ⟨x21, ex21⟩ : ∃ y, y = (hi : Int32).toInt64 := ⟨_, rfl⟩
      refine lv_i2l (v := x21) hx hb dX9_takeNumber_31 ex21.symm ?_
      refine W.lcmp hx hb dX9_takeNumber_32 ?_
      refine lv_if_le (tgt := 42) hx hb dX9_takeNumber_33 (by decide) (fun c_33 => ?_) (fun c_33 => ?_)
      · skip
        refine lv_aload_n hx hb dX9_takeNumber_42 rfl (lv_at hl 1 rfl) ?_
        refine lv_dup hx hb dX9_takeNumber_43 rfl ?_
        refine mm_get (v := .int (nI q.1)) hx hb hf_X9 (fun _ h9 => h9) hown hK hG h0 rfl 3 (by decide) (tb_use hT tw_180) (fun _ h9 => h9) rfl dX9_takeNumber_44 ?_
        refine lv_iconst (v := 1) hx hb dX9_takeNumber_47 (by decide) ?_
        refine lv_iadd hx hb dX9_takeNumber_48 ?_
        rw [← nI_succ q.1]
        refine mm_put (v := .int (nI (q.1 + 1))) (ty := .int) hx hb hf_X9 (fun _ h9 => h9) tyX9 tyX9_ok nmX9 hown hK hG hS h0 rfl 3 (by decide) (tb_use hT tw_180) (fun _ h9 => h9) rfl (by decide +kernel) rfl rfl (Nat.le_of_ble_eq_true rfl) dX9_takeNumber_49 (fun H locs hG hS => ?_)
        obtain ⟨G23, eG23⟩ : ∃ g, g = mm_set G o (.inr (10, [.ref k, .ref ow, .ref ed, .int (nI (q.1 + 1)), .int q.2])) := ⟨_, rfl⟩
        have hG : mm D vwCl A G23 H := by rw [eG23]; exact hG
        have k24 : G23 o = some (.inr (10, [.ref k, .ref ow, .ref ed, .int (nI (q.1 + 1)), .int q.2])) := by rw [eG23]; exact mm_set_self
        have k25 : G23 k = some (.inr (13, [.ref ks, .ref ss, .ref vs, .int (nI tn)])) := by rw [eG23]; exact mm_set_of q1 (mm_ne_oo q1 h0 (by decide))
        have k26 : G23 ks = some (.inl (cy 5, 2001, .inr (.inr (.inr (.inr f1))))) := by rw [eG23]; exact mm_set_of q2 (mm_ne_ao q2 h0)
        have k27 : G23 ss = some (.inl (cy 1, 2001, .inl f2)) := by rw [eG23]; exact mm_set_of q3 (mm_ne_ao q3 h0)
        have k28 : G23 vs = some (.inl (cy 2, 2001, .inr (.inl f3))) := by rw [eG23]; exact mm_set_of q4 (mm_ne_ao q4 h0)
        refine lv_lload_n hx hb dX9_takeNumber_52 rfl (lv_at hl 0 rfl) ?_
        obtain ⟨x29, ex29⟩ : ∃ y, y = (r1 : Int64).toInt32 := ⟨_, rfl⟩
        refine lv_l2i (v := x29) hx hb dX9_takeNumber_53 ex29.symm ?_
        have hse : se K q.1 q.2 1 = true := by rw [er3] at c_19; revert c_19; cases se K q.1 q.2 1 <;> simp [b2i]
        have hyes : se K q.1 q.2 1 = true ∧ lo.toInt64 ≤ V q.1 ∧ V q.1 ≤ hi.toInt64 := ⟨hse, by rw [← er1, ← ex12]; exact Int64.not_lt.mp (fun h => c_26 ((lg_cmp_lt _ _).mpr h)), by rw [← er1, ← ex21]; exact (lg_cmp_le _ _).mp c_33⟩
        exact W.iret (v := x29) hx hb hr (fun t ht hW => ⟨⟨_, _, rfl, (by rw [q_num, if_pos hyes]; exact ⟨by rw [ex29, er1], (by rw [eG23]; try rfl)⟩), mk_end hG ht⟩, hS.F ht⟩) hS.2.2 dX9_takeNumber_54
      · skip
        refine lv_aload_n hx hb dX9_takeNumber_36 rfl (lv_at hl 1 rfl) ?_
        refine va_callv (va_runV (As := []) (rest := []) ⟨hx, hb, hml, hown, (fun _ h9 => absurd h9 List.not_mem_nil : ∀ w ∈ ([] : List Cond), w.before _ s = true)⟩ (c_X9_fail l D cy A X hst hXT e0 tk hXE G o ow ed q k ks ss vs tn K S V f1 f2 f3  h0 q1 q2 q3 q4 hTP (by first | omega | (simp only []; omega)) ) (tb_cw (C := RX9) 0 hT tw_465 tw_106 tw_462 tw_464 tw_9 rfl rfl hq_X9_fail ⟨Nat.le_of_ble_eq_true rfl, Nat.le_of_ble_eq_true rfl⟩) (mk_preC hst hG hK hA hX hS vc_10 h0) rfl rfl hl.1 rfl (lv_room (Nat.le_of_ble_eq_true rfl)) dX9_takeNumber_37 ⟨Nat.le_of_ble_eq_true rfl, Nat.le_of_ble_eq_true rfl⟩) hS (fun q _ h => h) (fun q h => h) (fun  G30 t H locs ht hvm hw hB hz1 hk1 hS => ?_)
        have hG : mm D vwCl A G30 H := by rw [← ht]; exact hB
        clear hB hz1 hk1 hvm ht
        obtain ⟨y31, ey31⟩ : ∃ y, y = (q.1, fl S q.1 q.2) := ⟨_, rfl⟩
        rw [← ey31] at hw
        have ly31 : y31.1 ≤ q.1 + 0 := by rw [ey31]; exact (by simp)
        have eG30 := hw
        clear hw
        have k32 : G30 o = some (.inr (10, [.ref k, .ref ow, .ref ed, .int (nI y31.1), .int y31.2])) := by rw [eG30]; exact mm_set_self
        have k33 : G30 k = some (.inr (13, [.ref ks, .ref ss, .ref vs, .int (nI tn)])) := by rw [eG30]; exact mm_set_of q1 (mm_ne_oo q1 h0 (by decide))
        have k34 : G30 ks = some (.inl (cy 5, 2001, .inr (.inr (.inr (.inr f1))))) := by rw [eG30]; exact mm_set_of q2 (mm_ne_ao q2 h0)
        have k35 : G30 ss = some (.inl (cy 1, 2001, .inl f2)) := by rw [eG30]; exact mm_set_of q3 (mm_ne_ao q3 h0)
        have k36 : G30 vs = some (.inl (cy 2, 2001, .inr (.inl f3))) := by rw [eG30]; exact mm_set_of q4 (mm_ne_ao q4 h0)
        refine lv_iload_n hx hb dX9_takeNumber_40 rfl (lv_at hl 2 rfl) ?_
        have hse : se K q.1 q.2 1 = true := by rw [er3] at c_19; revert c_19; cases se K q.1 q.2 1 <;> simp [b2i]
        have hno : ¬ (se K q.1 q.2 1 = true ∧ lo.toInt64 ≤ V q.1 ∧ V q.1 ≤ hi.toInt64) := fun z => c_33 ((lg_cmp_le _ _).mpr (by rw [er1, ex21]; exact z.2.2))
        exact W.iret (v := lo) hx hb hr (fun t ht hW => ⟨⟨_, _, rfl, (by rw [q_num, if_neg hno]; exact ⟨rfl, (by rw [eG30]; try (subst_vars; rfl))⟩), mk_end hG ht⟩, hS.F ht⟩) hS.2.2 dX9_takeNumber_41

set_option maxHeartbeats 4000000 in
set_option maxRecDepth 100000 in
theorem c_X9_takeValue (l : Launch) (D : va_G) (cy : Nat → ClassId) (A : Nat → Prop) (X : State → Prop) (hst : mk_St A X) (hXT : ∀ U : State, X U → TB U) (e0 : Nat) (tk : Nat → Nat) (hXE : ∀ U : State, X U → ES e0 tk A U) (G : Nat → Option va_E) (o ow ed : Nat) (q : Nat × Int32) (k ks ss vs tn : Nat) (K : Nat → Nat) (S : Nat → Int32) (V : Nat → Int64) (f1 : Nat → Option Nat) (f2 : Nat → Int32) (f3 : Nat → Int64) (h0 : G o = some (.inr (10, [.ref k, .ref ow, .ref ed, .int (nI q.1), .int q.2]))) (q1 : G k = some (.inr (13, [.ref ks, .ref ss, .ref vs, .int (nI tn)]))) (q2 : G ks = some (.inl (cy 5, 2001, .inr (.inr (.inr (.inr f1)))))) (q3 : G ss = some (.inl (cy 1, 2001, .inl f2))) (q4 : G vs = some (.inl (cy 2, 2001, .inr (.inl f3)))) (hTP : TKP tk tn K S V f1 f2 f3) (hp : q.1 < 2 ^ 29) : Met l yX9_takeValue [.code yX9_takeValue cX9_takeValue 3 (some .int)] ({ frames := 3, cells := 0, slots := 0, locals := 90 }) (mk_Pre D vwCl (tyL cy) A X G [.ref o]) (va_Qi (fun (r : Int32) (G2 : Nat → Option va_E) => r = (q_val K S V q).1 ∧ G2 = mm_set G o (.inr (10, [.ref k, .ref ow, .ref ed, .int (nI ((q_val K S V q).2).1), .int (((q_val K S V q).2).2)]))) (mk_B D vwCl A) A) 0 0 A := by
  refine Met.ofW (cc := cX9_takeValue) (maxL := 3) (ret := (some .int)) (by decide) rfl ?_
  intro p e s m args below meth c s₁ B hml hv
  obtain ⟨rfl, hG, hK, hA, hX⟩ := hv
  have hx := B.exec
  have hb := B.bytes
  have hr := B.returns
  have hlocks := B.notSynchronized
  have hT := hXT s hX
  have hown : s.vm.findClass RX9 = some m.cls := findClass_of_methodNamed B.named
  have hf_X9 : ∀ w ∈ u_ws RX9 TX9 5, w.before ([.ref o] : List Value).toArray s = true := tb_list hT fX9
  have hS : va_S A s.heap s.heap [] := va_S.rf
  have hE := hXE s hX
  have hl := lv_entry ([.ref o]) (n := 3) (Nat.le_of_ble_eq_true rfl)
  rw [lg_entry_eq]
  generalize (lg_sl ([.ref o]) ++ List.replicate (3 - (lg_sl ([.ref o])).length) Slot.unset).toArray = ls at hl ⊢
  have hl : lv_has ls 3 [(0, .ref o)] := hl
  refine lv_aload_n hx hb dX9_takeValue_0 rfl (lv_at hl 0 rfl) ?_
  refine va_gets (v := .ref (tk 10)) hx hb (show va_Z "DescribeText$Token" "MINUS" "LDescribeText$Token;" (.ref (tk 10)) A s s.heap from (hE.2.1 10 (by decide)).1) hS hown (tb_use hT tw_669) (fun _ h9 => h9) dX9_takeValue_1 ?_
  refine va_calli (va_runV (As := [.ref (tk 10)]) (rest := []) ⟨hx, hb, hml, hown, (fun _ h9 => absurd h9 List.not_mem_nil : ∀ w ∈ ([] : List Cond), w.before _ s = true)⟩ (c_X9_sees l D cy A X hst hXT e0 tk hXE G o ow ed q k ks ss vs tn K S V f1 f2 f3 10 h0 q1 q2 q3 q4 hTP (by first | omega | (simp only []; omega)) (by decide)) (tb_cw (C := RX9) 1 hT tw_437 tw_106 tw_434 tw_436 tw_6 rfl rfl hq_X9_sees ⟨Nat.le_of_ble_eq_true rfl, Nat.le_of_ble_eq_true rfl⟩) (mk_preC hst hG hK hA hX hS vc_10 h0) rfl rfl hl.1 rfl (lv_room (Nat.le_of_ble_eq_true rfl)) dX9_takeValue_4 ⟨Nat.le_of_ble_eq_true rfl, Nat.le_of_ble_eq_true rfl⟩) hS (fun q _ h => h) (fun q h => h) (fun r1 G2 t H locs ht hvm hw hB hz1 hk1 hS => ?_)
  have hG : mm D vwCl A G2 H := by rw [← ht]; exact hB
  clear hB hz1 hk1 hvm ht
  obtain ⟨er1, hw⟩ := hw
  rw [hw] at hG
  refine lv_istore_n (lv' := [(1, .int r1), (0, .ref o)]) hx hb dX9_takeValue_7 rfl hl (by decide) rfl (fun ls hl => ?_)
  refine lv_iload_n hx hb dX9_takeValue_8 rfl (lv_at hl 0 rfl) ?_
  refine lv_if_eq (tgt := 22) hx hb dX9_takeValue_9 (by decide) (fun c_9 => ?_) (fun c_9 => ?_)
  · skip
    refine lv_aload_n hx hb dX9_takeValue_22 rfl (lv_at hl 1 rfl) ?_
    refine lv_iconst (v := 0) hx hb dX9_takeValue_23 (by decide) ?_
    refine lv_ldc hx hb hown (tb_use hT tw_587) dX9_takeValue_24 ?_
    refine va_calli (va_runV (As := [.int 0, .int 999999]) (rest := []) ⟨hx, hb, hml, hown, (fun _ h9 => absurd h9 List.not_mem_nil : ∀ w ∈ ([] : List Cond), w.before _ s = true)⟩ (c_X9_takeNumber l D cy A X hst hXT e0 tk hXE G o ow ed q k ks ss vs tn K S V f1 f2 f3 0 999999 h0 q1 q2 q3 q4 hTP (by first | omega | (simp only []; omega)) ) (tb_cw (C := RX9) 2 hT tw_543 tw_106 tw_540 tw_542 tw_13 rfl rfl hq_X9_takeNumber ⟨Nat.le_of_ble_eq_true rfl, Nat.le_of_ble_eq_true rfl⟩) (mk_preC hst hG hK hA hX hS vc_10 h0) rfl rfl hl.1 rfl (lv_room (Nat.le_of_ble_eq_true rfl)) dX9_takeValue_26 ⟨Nat.le_of_ble_eq_true rfl, Nat.le_of_ble_eq_true rfl⟩) hS (fun q _ h => h) (fun q h => h) (fun r3 G4 t H locs ht hvm hw hB hz1 hk1 hS => ?_)
    have hG : mm D vwCl A G4 H := by rw [← ht]; exact hB
    clear hB hz1 hk1 hvm ht
    obtain ⟨y5, ey5⟩ : ∃ y, y = q_num K S V 0 999999 q := ⟨_, rfl⟩
    rw [← ey5] at hw
    obtain ⟨er3, hw⟩ := hw
    have ly5 : y5.2.1 ≤ q.1 + 1 := by rw [ey5]; exact q_num_le
    have eG4 := hw
    clear hw
    have k6 : G4 o = some (.inr (10, [.ref k, .ref ow, .ref ed, .int (nI y5.2.1), .int y5.2.2])) := by rw [eG4]; exact mm_set_self
    have k7 : G4 k = some (.inr (13, [.ref ks, .ref ss, .ref vs, .int (nI tn)])) := by rw [eG4]; exact mm_set_of q1 (mm_ne_oo q1 h0 (by decide))
    have k8 : G4 ks = some (.inl (cy 5, 2001, .inr (.inr (.inr (.inr f1))))) := by rw [eG4]; exact mm_set_of q2 (mm_ne_ao q2 h0)
    have k9 : G4 ss = some (.inl (cy 1, 2001, .inl f2)) := by rw [eG4]; exact mm_set_of q3 (mm_ne_ao q3 h0)
    have k10 : G4 vs = some (.inl (cy 2, 2001, .inr (.inl f3))) := by rw [eG4]; exact mm_set_of q4 (mm_ne_ao q4 h0)
    refine lv_istore_n (lv' := [(2, .int r3), (1, .int r1), (0, .ref o)]) hx hb dX9_takeValue_29 rfl hl (by decide) rfl (fun ls hl => ?_)
    refine lv_iload_n hx hb dX9_takeValue_30 rfl (lv_at hl 1 rfl) ?_
    refine lv_if_eq (tgt := 39) hx hb dX9_takeValue_31 (by decide) (fun c_31 => ?_) (fun c_31 => ?_)
    · skip
      refine lv_iload_n hx hb dX9_takeValue_39 rfl (lv_at hl 0 rfl) ?_
      have hse : se K q.1 q.2 10 = false := by rw [er1] at c_9; revert c_9; cases se K q.1 q.2 10 <;> simp [b2i]
      exact W.iret (v := r3) hx hb hr (fun t ht hW => ⟨⟨_, _, rfl, (by rw [q_val, hse]; exact ⟨by rw [er3, ey5]; try rfl, (by rw [eG4]; rw [ey5]; try rfl)⟩), mk_end hG ht⟩, hS.F ht⟩) hS.2.2 dX9_takeValue_40
    · skip
      exact absurd c_9 c_31
  · skip
    refine lv_aload_n hx hb dX9_takeValue_12 rfl (lv_at hl 1 rfl) ?_
    refine lv_dup hx hb dX9_takeValue_13 rfl ?_
    refine mm_get (v := .int (nI q.1)) hx hb hf_X9 (fun _ h9 => h9) hown hK hG h0 rfl 3 (by decide) (tb_use hT tw_180) (fun _ h9 => h9) rfl dX9_takeValue_14 ?_
    refine lv_iconst (v := 1) hx hb dX9_takeValue_17 (by decide) ?_
    refine lv_iadd hx hb dX9_takeValue_18 ?_
    rw [← nI_succ q.1]
    refine mm_put (v := .int (nI (q.1 + 1))) (ty := .int) hx hb hf_X9 (fun _ h9 => h9) tyX9 tyX9_ok nmX9 hown hK hG hS h0 rfl 3 (by decide) (tb_use hT tw_180) (fun _ h9 => h9) rfl (by decide +kernel) rfl rfl (Nat.le_of_ble_eq_true rfl) dX9_takeValue_19 (fun H locs hG hS => ?_)
    obtain ⟨G11, eG11⟩ : ∃ g, g = mm_set G o (.inr (10, [.ref k, .ref ow, .ref ed, .int (nI (q.1 + 1)), .int q.2])) := ⟨_, rfl⟩
    have hG : mm D vwCl A G11 H := by rw [eG11]; exact hG
    have k12 : G11 o = some (.inr (10, [.ref k, .ref ow, .ref ed, .int (nI (q.1 + 1)), .int q.2])) := by rw [eG11]; exact mm_set_self
    have k13 : G11 k = some (.inr (13, [.ref ks, .ref ss, .ref vs, .int (nI tn)])) := by rw [eG11]; exact mm_set_of q1 (mm_ne_oo q1 h0 (by decide))
    have k14 : G11 ks = some (.inl (cy 5, 2001, .inr (.inr (.inr (.inr f1))))) := by rw [eG11]; exact mm_set_of q2 (mm_ne_ao q2 h0)
    have k15 : G11 ss = some (.inl (cy 1, 2001, .inl f2)) := by rw [eG11]; exact mm_set_of q3 (mm_ne_ao q3 h0)
    have k16 : G11 vs = some (.inl (cy 2, 2001, .inr (.inl f3))) := by rw [eG11]; exact mm_set_of q4 (mm_ne_ao q4 h0)
    refine lv_aload_n hx hb dX9_takeValue_22 rfl (lv_at hl 1 rfl) ?_
    refine lv_iconst (v := 0) hx hb dX9_takeValue_23 (by decide) ?_
    refine lv_ldc hx hb hown (tb_use hT tw_587) dX9_takeValue_24 ?_
    refine va_calli (va_runV (As := [.int 0, .int 999999]) (rest := []) ⟨hx, hb, hml, hown, (fun _ h9 => absurd h9 List.not_mem_nil : ∀ w ∈ ([] : List Cond), w.before _ s = true)⟩ (c_X9_takeNumber l D cy A X hst hXT e0 tk hXE G11 o ow ed (q.1 + 1, q.2) k ks ss vs tn K S V f1 f2 f3 0 999999 k12 k13 k14 k15 k16 hTP (by first | omega | (simp only []; omega)) ) (tb_cw (C := RX9) 2 hT tw_543 tw_106 tw_540 tw_542 tw_13 rfl rfl hq_X9_takeNumber ⟨Nat.le_of_ble_eq_true rfl, Nat.le_of_ble_eq_true rfl⟩) (mk_preC hst hG hK hA hX hS vc_10 k12) rfl rfl hl.1 rfl (lv_room (Nat.le_of_ble_eq_true rfl)) dX9_takeValue_26 ⟨Nat.le_of_ble_eq_true rfl, Nat.le_of_ble_eq_true rfl⟩) hS (fun q _ h => h) (fun q h => h) (fun r17 G18 t H locs ht hvm hw hB hz1 hk1 hS => ?_)
    have hG : mm D vwCl A G18 H := by rw [← ht]; exact hB
    clear hB hz1 hk1 hvm ht
    obtain ⟨y19, ey19⟩ : ∃ y, y = q_num K S V 0 999999 (q.1 + 1, q.2) := ⟨_, rfl⟩
    rw [← ey19] at hw
    obtain ⟨er17, hw⟩ := hw
    have ly19 : y19.2.1 ≤ (q.1 + 1, q.2).1 + 1 := by rw [ey19]; exact q_num_le
    have eG18 := hw
    clear hw
    have k20 : G18 o = some (.inr (10, [.ref k, .ref ow, .ref ed, .int (nI y19.2.1), .int y19.2.2])) := by rw [eG18]; exact mm_set_self
    have k21 : G18 k = some (.inr (13, [.ref ks, .ref ss, .ref vs, .int (nI tn)])) := by rw [eG18]; exact mm_set_of k13 (mm_ne_oo k13 k12 (by decide))
    have k22 : G18 ks = some (.inl (cy 5, 2001, .inr (.inr (.inr (.inr f1))))) := by rw [eG18]; exact mm_set_of k14 (mm_ne_ao k14 k12)
    have k23 : G18 ss = some (.inl (cy 1, 2001, .inl f2)) := by rw [eG18]; exact mm_set_of k15 (mm_ne_ao k15 k12)
    have k24 : G18 vs = some (.inl (cy 2, 2001, .inr (.inl f3))) := by rw [eG18]; exact mm_set_of k16 (mm_ne_ao k16 k12)
    refine lv_istore_n (lv' := [(2, .int r17), (1, .int r1), (0, .ref o)]) hx hb dX9_takeValue_29 rfl hl (by decide) rfl (fun ls hl => ?_)
    refine lv_iload_n hx hb dX9_takeValue_30 rfl (lv_at hl 1 rfl) ?_
    refine lv_if_eq (tgt := 39) hx hb dX9_takeValue_31 (by decide) (fun c_31 => ?_) (fun c_31 => ?_)
    · skip
      exact absurd c_31 c_9
    · skip
      refine lv_iload_n hx hb dX9_takeValue_34 rfl (lv_at hl 0 rfl) ?_
      refine lv_ineg hx hb dX9_takeValue_35 ?_
      refine lv_goto (tgt := 40) hx hb dX9_takeValue_36 (by decide) ?_
      have hse : se K q.1 q.2 10 = true := by rw [er1] at c_9; revert c_9; cases se K q.1 q.2 10 <;> simp [b2i]
      exact W.iret (v := (-r17)) hx hb hr (fun t ht hW => ⟨⟨_, _, rfl, (by rw [q_val, hse]; exact ⟨by rw [er17, ey19]; try rfl, (by rw [eG18, eG11, mm_set_set]; rw [ey19]; try rfl)⟩), mk_end hG ht⟩, hS.F ht⟩) hS.2.2 dX9_takeValue_40

set_option maxHeartbeats 4000000 in
set_option maxRecDepth 100000 in
theorem c_X9_takeNumberOf (l : Launch) (D : va_G) (cy : Nat → ClassId) (A : Nat → Prop) (X : State → Prop) (hst : mk_St A X) (hXT : ∀ U : State, X U → TB U) (e0 : Nat) (tk : Nat → Nat) (hXE : ∀ U : State, X U → ES e0 tk A U) (G : Nat → Option va_E) (o ow ed : Nat) (q : Nat × Int32) (k ks ss vs tn : Nat) (K : Nat → Nat) (S : Nat → Int32) (V : Nat → Int64) (f1 : Nat → Option Nat) (f2 : Nat → Int32) (f3 : Nat → Int64) (en : Nat) (z za : Int32) (nm : Int64) (na : Int32) (ly : Option Nat) (h0 : G o = some (.inr (10, [.ref k, .ref ow, .ref ed, .int (nI q.1), .int q.2]))) (q1 : G k = some (.inr (13, [.ref ks, .ref ss, .ref vs, .int (nI tn)]))) (q2 : G ks = some (.inl (cy 5, 2001, .inr (.inr (.inr (.inr f1)))))) (q3 : G ss = some (.inl (cy 1, 2001, .inl f2))) (q4 : G vs = some (.inl (cy 2, 2001, .inr (.inl f3)))) (hTP : TKP tk tn K S V f1 f2 f3) (hp : q.1 < 2 ^ 30) (h9 : G en = some (.inr (4, [.int z, .int za, .long nm, .int na, va_rf ly]))) : Met l yX9_takeNumberOf [.code yX9_takeNumberOf cX9_takeNumberOf 2 none] ({ frames := 3, cells := 0, slots := 0, locals := 90 }) (mk_Pre D vwCl (tyL cy) A X G [.ref o, .ref en]) (va_Qv (fun (G2 : Nat → Option va_E) => G2 o = some (.inr (10, [.ref k, .ref ow, .ref ed, .int (nI ((q_num K S V 0 999999 q).2).1), .int (((q_num K S V 0 999999 q).2).2)])) ∧ G2 en = some (.inr (4, [.int ((q_num K S V 0 999999 q).1), .int (S q.1), .long nm, .int na, va_rf ly])) ∧ ∀ (x : Nat) (e : va_E), G x = some e → x ≠ o → x ≠ en → G2 x = some e) (mk_B D vwCl A) A) 0 0 A := by
  refine Met.ofW (cc := cX9_takeNumberOf) (maxL := 2) (ret := none) (by decide) rfl ?_
  intro p e s m args below meth c s₁ B hml hv
  obtain ⟨rfl, hG, hK, hA, hX⟩ := hv
  have hx := B.exec
  have hb := B.bytes
  have hr := B.returns
  have hlocks := B.notSynchronized
  have hT := hXT s hX
  have hown : s.vm.findClass RX9 = some m.cls := findClass_of_methodNamed B.named
  have hf_X3 : ∀ w ∈ u_ws RX3 TX3 5, w.before ([.ref o, .ref en] : List Value).toArray s = true := tb_list hT fX3
  have hS : va_S A s.heap s.heap [] := va_S.rf
  have hE := hXE s hX
  have hl := lv_entry ([.ref o, .ref en]) (n := 2) (Nat.le_of_ble_eq_true rfl)
  rw [lg_entry_eq]
  generalize (lg_sl ([.ref o, .ref en]) ++ List.replicate (2 - (lg_sl ([.ref o, .ref en])).length) Slot.unset).toArray = ls at hl ⊢
  have hl : lv_has ls 2 [(0, .ref o), (1, .ref en)] := hl
  refine lv_aload_n hx hb dX9_takeNumberOf_0 rfl (lv_at hl 1 rfl) ?_
  refine lv_aload_n hx hb dX9_takeNumberOf_1 rfl (lv_at hl 0 rfl) ?_
  refine va_calli (va_runV (As := []) (rest := [.ref en]) ⟨hx, hb, hml, hown, (fun _ h9 => absurd h9 List.not_mem_nil : ∀ w ∈ ([] : List Cond), w.before _ s = true)⟩ (c_X9_start l D cy A X hst hXT e0 tk hXE G o ow ed q k ks ss vs tn K S V f1 f2 f3  h0 q1 q2 q3 q4 hTP (by first | omega | (simp only []; omega)) ) (tb_cw (C := RX9) 0 hT tw_475 tw_106 tw_472 tw_474 tw_10 rfl rfl hq_X9_start ⟨Nat.le_of_ble_eq_true rfl, Nat.le_of_ble_eq_true rfl⟩) (mk_preC hst hG hK hA hX hS vc_10 h0) rfl rfl hl.1 rfl (lv_room (Nat.le_of_ble_eq_true rfl)) dX9_takeNumberOf_2 ⟨Nat.le_of_ble_eq_true rfl, Nat.le_of_ble_eq_true rfl⟩) hS (fun q _ h => h) (fun q h => h) (fun r1 G2 t H locs ht hvm hw hB hz1 hk1 hS => ?_)
  have hG : mm D vwCl A G2 H := by rw [← ht]; exact hB
  clear hB hz1 hk1 hvm ht
  obtain ⟨er1, hw⟩ := hw
  rw [hw] at hG
  refine mm_putN (v := .int r1) (ty := .int) hx hb hf_X3 (fun _ h9 => h9) tyX3 tyX3_ok nmX3 hown hK hG hS h9 rfl 1 (by decide) (tb_use hT tw_564) (fun _ h9 => h9) rfl (by decide +kernel) rfl rfl (Nat.le_of_ble_eq_true rfl) dX9_takeNumberOf_5 (fun H locs hG hS => ?_)
  obtain ⟨G3, eG3⟩ : ∃ g, g = mm_set G en (.inr (4, [.int z, .int r1, .long nm, .int na, va_rf ly])) := ⟨_, rfl⟩
  have hG : mm D vwCl A G3 H := by rw [eG3]; exact hG
  have k4 : G3 o = some (.inr (10, [.ref k, .ref ow, .ref ed, .int (nI q.1), .int q.2])) := by rw [eG3]; exact mm_set_of h0 (mm_ne_oo h0 h9 (by decide))
  have k5 : G3 k = some (.inr (13, [.ref ks, .ref ss, .ref vs, .int (nI tn)])) := by rw [eG3]; exact mm_set_of q1 (mm_ne_oo q1 h9 (by decide))
  have k6 : G3 ks = some (.inl (cy 5, 2001, .inr (.inr (.inr (.inr f1))))) := by rw [eG3]; exact mm_set_of q2 (mm_ne_ao q2 h9)
  have k7 : G3 ss = some (.inl (cy 1, 2001, .inl f2)) := by rw [eG3]; exact mm_set_of q3 (mm_ne_ao q3 h9)
  have k8 : G3 vs = some (.inl (cy 2, 2001, .inr (.inl f3))) := by rw [eG3]; exact mm_set_of q4 (mm_ne_ao q4 h9)
  have k9 : G3 en = some (.inr (4, [.int z, .int r1, .long nm, .int na, va_rf ly])) := by rw [eG3]; exact mm_set_self
  refine lv_aload_n hx hb dX9_takeNumberOf_8 rfl (lv_at hl 1 rfl) ?_
  refine lv_aload_n hx hb dX9_takeNumberOf_9 rfl (lv_at hl 0 rfl) ?_
  refine lv_iconst (v := 0) hx hb dX9_takeNumberOf_10 (by decide) ?_
  refine lv_ldc hx hb hown (tb_use hT tw_587) dX9_takeNumberOf_11 ?_
  refine va_calli (va_runV (As := [.int 0, .int 999999]) (rest := [.ref en]) ⟨hx, hb, hml, hown, (fun _ h9 => absurd h9 List.not_mem_nil : ∀ w ∈ ([] : List Cond), w.before _ s = true)⟩ (c_X9_takeNumber l D cy A X hst hXT e0 tk hXE G3 o ow ed q k ks ss vs tn K S V f1 f2 f3 0 999999 k4 k5 k6 k7 k8 hTP (by first | omega | (simp only []; omega)) ) (tb_cw (C := RX9) 2 hT tw_543 tw_106 tw_540 tw_542 tw_13 rfl rfl hq_X9_takeNumber ⟨Nat.le_of_ble_eq_true rfl, Nat.le_of_ble_eq_true rfl⟩) (mk_preC hst hG hK hA hX hS vc_10 k4) rfl rfl hl.1 rfl (lv_room (Nat.le_of_ble_eq_true rfl)) dX9_takeNumberOf_13 ⟨Nat.le_of_ble_eq_true rfl, Nat.le_of_ble_eq_true rfl⟩) hS (fun q _ h => h) (fun q h => h) (fun r10 G11 t H locs ht hvm hw hB hz1 hk1 hS => ?_)
  have hG : mm D vwCl A G11 H := by rw [← ht]; exact hB
  clear hB hz1 hk1 hvm ht
  obtain ⟨y12, ey12⟩ : ∃ y, y = q_num K S V 0 999999 q := ⟨_, rfl⟩
  rw [← ey12] at hw
  obtain ⟨er10, hw⟩ := hw
  have ly12 : y12.2.1 ≤ q.1 + 1 := by rw [ey12]; exact q_num_le
  have eG11 := hw
  clear hw
  have k13 : G11 o = some (.inr (10, [.ref k, .ref ow, .ref ed, .int (nI y12.2.1), .int y12.2.2])) := by rw [eG11]; exact mm_set_self
  have k14 : G11 k = some (.inr (13, [.ref ks, .ref ss, .ref vs, .int (nI tn)])) := by rw [eG11]; exact mm_set_of k5 (mm_ne_oo k5 k4 (by decide))
  have k15 : G11 ks = some (.inl (cy 5, 2001, .inr (.inr (.inr (.inr f1))))) := by rw [eG11]; exact mm_set_of k6 (mm_ne_ao k6 k4)
  have k16 : G11 ss = some (.inl (cy 1, 2001, .inl f2)) := by rw [eG11]; exact mm_set_of k7 (mm_ne_ao k7 k4)
  have k17 : G11 vs = some (.inl (cy 2, 2001, .inr (.inl f3))) := by rw [eG11]; exact mm_set_of k8 (mm_ne_ao k8 k4)
  have k18 : G11 en = some (.inr (4, [.int z, .int r1, .long nm, .int na, va_rf ly])) := by rw [eG11]; exact mm_set_of k9 (mm_ne_oo k9 k4 (by decide))
  refine mm_putN (v := .int r10) (ty := .int) hx hb hf_X3 (fun _ h9 => h9) tyX3 tyX3_ok nmX3 hown hK hG hS k18 rfl 0 (by decide) (tb_use hT tw_562) (fun _ h9 => h9) rfl (by decide +kernel) rfl rfl (Nat.le_of_ble_eq_true rfl) dX9_takeNumberOf_16 (fun H locs hG hS => ?_)
  obtain ⟨G19, eG19⟩ : ∃ g, g = mm_set G11 en (.inr (4, [.int r10, .int r1, .long nm, .int na, va_rf ly])) := ⟨_, rfl⟩
  have hG : mm D vwCl A G19 H := by rw [eG19]; exact hG
  have k20 : G19 o = some (.inr (10, [.ref k, .ref ow, .ref ed, .int (nI y12.2.1), .int y12.2.2])) := by rw [eG19]; exact mm_set_of k13 (mm_ne_oo k13 k18 (by decide))
  have k21 : G19 k = some (.inr (13, [.ref ks, .ref ss, .ref vs, .int (nI tn)])) := by rw [eG19]; exact mm_set_of k14 (mm_ne_oo k14 k18 (by decide))
  have k22 : G19 ks = some (.inl (cy 5, 2001, .inr (.inr (.inr (.inr f1))))) := by rw [eG19]; exact mm_set_of k15 (mm_ne_ao k15 k18)
  have k23 : G19 ss = some (.inl (cy 1, 2001, .inl f2)) := by rw [eG19]; exact mm_set_of k16 (mm_ne_ao k16 k18)
  have k24 : G19 vs = some (.inl (cy 2, 2001, .inr (.inl f3))) := by rw [eG19]; exact mm_set_of k17 (mm_ne_ao k17 k18)
  have k25 : G19 en = some (.inr (4, [.int r10, .int r1, .long nm, .int na, va_rf ly])) := by rw [eG19]; exact mm_set_self
  have hfr : ∀ (x : Nat) (e : va_E), G x = some e → x ≠ o → x ≠ en → G19 x = some e := by
    intro x e z0 n_o n_en
    have z1 : G3 x = some e := by rw [eG3]; exact mm_set_of z0 n_en
    have z2 : G11 x = some e := by rw [eG11]; exact mm_set_of z1 n_o
    have z3 : G19 x = some e := by rw [eG19]; exact mm_set_of z2 n_en
    exact z3
  exact W.vret hx hb hr (fun t ht hW => ⟨⟨_, rfl, ⟨(by rw [← ey12]; exact k20), (by rw [← er1, ← ey12, ← er10]; exact k25), hfr⟩, mk_end hG ht⟩, hS.F ht⟩) hS.2.2 dX9_takeNumberOf_19

set_option maxHeartbeats 4000000 in
set_option maxRecDepth 100000 in
theorem c_X9_takeNameOf (l : Launch) (D : va_G) (cy : Nat → ClassId) (A : Nat → Prop) (X : State → Prop) (hst : mk_St A X) (hXT : ∀ U : State, X U → TB U) (e0 : Nat) (tk : Nat → Nat) (hXE : ∀ U : State, X U → ES e0 tk A U) (G : Nat → Option va_E) (o ow ed : Nat) (q : Nat × Int32) (k ks ss vs tn : Nat) (K : Nat → Nat) (S : Nat → Int32) (V : Nat → Int64) (f1 : Nat → Option Nat) (f2 : Nat → Int32) (f3 : Nat → Int64) (en : Nat) (z za : Int32) (nm : Int64) (na : Int32) (ly : Option Nat) (h0 : G o = some (.inr (10, [.ref k, .ref ow, .ref ed, .int (nI q.1), .int q.2]))) (q1 : G k = some (.inr (13, [.ref ks, .ref ss, .ref vs, .int (nI tn)]))) (q2 : G ks = some (.inl (cy 5, 2001, .inr (.inr (.inr (.inr f1)))))) (q3 : G ss = some (.inl (cy 1, 2001, .inl f2))) (q4 : G vs = some (.inl (cy 2, 2001, .inr (.inl f3)))) (hTP : TKP tk tn K S V f1 f2 f3) (hp : q.1 < 2 ^ 30) (h9 : G en = some (.inr (4, [.int z, .int za, .long nm, .int na, va_rf ly]))) : Met l yX9_takeNameOf [.code yX9_takeNameOf cX9_takeNameOf 2 none] ({ frames := 3, cells := 0, slots := 0, locals := 90 }) (mk_Pre D vwCl (tyL cy) A X G [.ref o, .ref en]) (va_Qv (fun (G2 : Nat → Option va_E) => G2 o = some (.inr (10, [.ref k, .ref ow, .ref ed, .int (nI ((q_name K S V q).2).1), .int (((q_name K S V q).2).2)])) ∧ G2 en = some (.inr (4, [.int z, .int za, .long ((q_name K S V q).1), .int (S q.1), va_rf ly])) ∧ ∀ (x : Nat) (e : va_E), G x = some e → x ≠ o → x ≠ en → G2 x = some e) (mk_B D vwCl A) A) 0 0 A := by
  refine Met.ofW (cc := cX9_takeNameOf) (maxL := 2) (ret := none) (by decide) rfl ?_
  intro p e s m args below meth c s₁ B hml hv
  obtain ⟨rfl, hG, hK, hA, hX⟩ := hv
  have hx := B.exec
  have hb := B.bytes
  have hr := B.returns
  have hlocks := B.notSynchronized
  have hT := hXT s hX
  have hown : s.vm.findClass RX9 = some m.cls := findClass_of_methodNamed B.named
  have hf_X3 : ∀ w ∈ u_ws RX3 TX3 5, w.before ([.ref o, .ref en] : List Value).toArray s = true := tb_list hT fX3
  have hS : va_S A s.heap s.heap [] := va_S.rf
  have hE := hXE s hX
  have hl := lv_entry ([.ref o, .ref en]) (n := 2) (Nat.le_of_ble_eq_true rfl)
  rw [lg_entry_eq]
  generalize (lg_sl ([.ref o, .ref en]) ++ List.replicate (2 - (lg_sl ([.ref o, .ref en])).length) Slot.unset).toArray = ls at hl ⊢
  have hl : lv_has ls 2 [(0, .ref o), (1, .ref en)] := hl
  refine lv_aload_n hx hb dX9_takeNameOf_0 rfl (lv_at hl 1 rfl) ?_
  refine lv_aload_n hx hb dX9_takeNameOf_1 rfl (lv_at hl 0 rfl) ?_
  refine va_calli (va_runV (As := []) (rest := [.ref en]) ⟨hx, hb, hml, hown, (fun _ h9 => absurd h9 List.not_mem_nil : ∀ w ∈ ([] : List Cond), w.before _ s = true)⟩ (c_X9_start l D cy A X hst hXT e0 tk hXE G o ow ed q k ks ss vs tn K S V f1 f2 f3  h0 q1 q2 q3 q4 hTP (by first | omega | (simp only []; omega)) ) (tb_cw (C := RX9) 0 hT tw_475 tw_106 tw_472 tw_474 tw_10 rfl rfl hq_X9_start ⟨Nat.le_of_ble_eq_true rfl, Nat.le_of_ble_eq_true rfl⟩) (mk_preC hst hG hK hA hX hS vc_10 h0) rfl rfl hl.1 rfl (lv_room (Nat.le_of_ble_eq_true rfl)) dX9_takeNameOf_2 ⟨Nat.le_of_ble_eq_true rfl, Nat.le_of_ble_eq_true rfl⟩) hS (fun q _ h => h) (fun q h => h) (fun r1 G2 t H locs ht hvm hw hB hz1 hk1 hS => ?_)
  have hG : mm D vwCl A G2 H := by rw [← ht]; exact hB
  clear hB hz1 hk1 hvm ht
  obtain ⟨er1, hw⟩ := hw
  rw [hw] at hG
  refine mm_putN (v := .int r1) (ty := .int) hx hb hf_X3 (fun _ h9 => h9) tyX3 tyX3_ok nmX3 hown hK hG hS h9 rfl 3 (by decide) (tb_use hT tw_570) (fun _ h9 => h9) rfl (by decide +kernel) rfl rfl (Nat.le_of_ble_eq_true rfl) dX9_takeNameOf_5 (fun H locs hG hS => ?_)
  obtain ⟨G3, eG3⟩ : ∃ g, g = mm_set G en (.inr (4, [.int z, .int za, .long nm, .int r1, va_rf ly])) := ⟨_, rfl⟩
  have hG : mm D vwCl A G3 H := by rw [eG3]; exact hG
  have k4 : G3 o = some (.inr (10, [.ref k, .ref ow, .ref ed, .int (nI q.1), .int q.2])) := by rw [eG3]; exact mm_set_of h0 (mm_ne_oo h0 h9 (by decide))
  have k5 : G3 k = some (.inr (13, [.ref ks, .ref ss, .ref vs, .int (nI tn)])) := by rw [eG3]; exact mm_set_of q1 (mm_ne_oo q1 h9 (by decide))
  have k6 : G3 ks = some (.inl (cy 5, 2001, .inr (.inr (.inr (.inr f1))))) := by rw [eG3]; exact mm_set_of q2 (mm_ne_ao q2 h9)
  have k7 : G3 ss = some (.inl (cy 1, 2001, .inl f2)) := by rw [eG3]; exact mm_set_of q3 (mm_ne_ao q3 h9)
  have k8 : G3 vs = some (.inl (cy 2, 2001, .inr (.inl f3))) := by rw [eG3]; exact mm_set_of q4 (mm_ne_ao q4 h9)
  have k9 : G3 en = some (.inr (4, [.int z, .int za, .long nm, .int r1, va_rf ly])) := by rw [eG3]; exact mm_set_self
  refine lv_aload_n hx hb dX9_takeNameOf_8 rfl (lv_at hl 1 rfl) ?_
  refine lv_aload_n hx hb dX9_takeNameOf_9 rfl (lv_at hl 0 rfl) ?_
  refine va_calll (va_runV (As := []) (rest := [.ref en]) ⟨hx, hb, hml, hown, (fun _ h9 => absurd h9 List.not_mem_nil : ∀ w ∈ ([] : List Cond), w.before _ s = true)⟩ (c_X9_takeName l D cy A X hst hXT e0 tk hXE G3 o ow ed q k ks ss vs tn K S V f1 f2 f3  k4 k5 k6 k7 k8 hTP (by first | omega | (simp only []; omega)) ) (tb_cw (C := RX9) 0 hT tw_479 tw_106 tw_476 tw_478 tw_11 rfl rfl hq_X9_takeName ⟨Nat.le_of_ble_eq_true rfl, Nat.le_of_ble_eq_true rfl⟩) (mk_preC hst hG hK hA hX hS vc_10 k4) rfl rfl hl.1 rfl (lv_room (Nat.le_of_ble_eq_true rfl)) dX9_takeNameOf_10 ⟨Nat.le_of_ble_eq_true rfl, Nat.le_of_ble_eq_true rfl⟩) hS (fun q _ h => h) (fun q h => h) (fun r10 G11 t H locs ht hvm hw hB hz1 hk1 hS => ?_)
  have hG : mm D vwCl A G11 H := by rw [← ht]; exact hB
  clear hB hz1 hk1 hvm ht
  obtain ⟨y12, ey12⟩ : ∃ y, y = q_name K S V q := ⟨_, rfl⟩
  rw [← ey12] at hw
  obtain ⟨er10, hw⟩ := hw
  have ly12 : y12.2.1 ≤ q.1 + 1 := by rw [ey12]; exact q_name_le
  have eG11 := hw
  clear hw
  have k13 : G11 o = some (.inr (10, [.ref k, .ref ow, .ref ed, .int (nI y12.2.1), .int y12.2.2])) := by rw [eG11]; exact mm_set_self
  have k14 : G11 k = some (.inr (13, [.ref ks, .ref ss, .ref vs, .int (nI tn)])) := by rw [eG11]; exact mm_set_of k5 (mm_ne_oo k5 k4 (by decide))
  have k15 : G11 ks = some (.inl (cy 5, 2001, .inr (.inr (.inr (.inr f1))))) := by rw [eG11]; exact mm_set_of k6 (mm_ne_ao k6 k4)
  have k16 : G11 ss = some (.inl (cy 1, 2001, .inl f2)) := by rw [eG11]; exact mm_set_of k7 (mm_ne_ao k7 k4)
  have k17 : G11 vs = some (.inl (cy 2, 2001, .inr (.inl f3))) := by rw [eG11]; exact mm_set_of k8 (mm_ne_ao k8 k4)
  have k18 : G11 en = some (.inr (4, [.int z, .int za, .long nm, .int r1, va_rf ly])) := by rw [eG11]; exact mm_set_of k9 (mm_ne_oo k9 k4 (by decide))
  refine mm_putN (v := .long r10) (ty := .long) hx hb hf_X3 (fun _ h9 => h9) tyX3 tyX3_ok nmX3 hown hK hG hS k18 rfl 2 (by decide) (tb_use hT tw_568) (fun _ h9 => h9) rfl (by decide +kernel) rfl rfl (Nat.le_of_ble_eq_true rfl) dX9_takeNameOf_13 (fun H locs hG hS => ?_)
  obtain ⟨G19, eG19⟩ : ∃ g, g = mm_set G11 en (.inr (4, [.int z, .int za, .long r10, .int r1, va_rf ly])) := ⟨_, rfl⟩
  have hG : mm D vwCl A G19 H := by rw [eG19]; exact hG
  have k20 : G19 o = some (.inr (10, [.ref k, .ref ow, .ref ed, .int (nI y12.2.1), .int y12.2.2])) := by rw [eG19]; exact mm_set_of k13 (mm_ne_oo k13 k18 (by decide))
  have k21 : G19 k = some (.inr (13, [.ref ks, .ref ss, .ref vs, .int (nI tn)])) := by rw [eG19]; exact mm_set_of k14 (mm_ne_oo k14 k18 (by decide))
  have k22 : G19 ks = some (.inl (cy 5, 2001, .inr (.inr (.inr (.inr f1))))) := by rw [eG19]; exact mm_set_of k15 (mm_ne_ao k15 k18)
  have k23 : G19 ss = some (.inl (cy 1, 2001, .inl f2)) := by rw [eG19]; exact mm_set_of k16 (mm_ne_ao k16 k18)
  have k24 : G19 vs = some (.inl (cy 2, 2001, .inr (.inl f3))) := by rw [eG19]; exact mm_set_of k17 (mm_ne_ao k17 k18)
  have k25 : G19 en = some (.inr (4, [.int z, .int za, .long r10, .int r1, va_rf ly])) := by rw [eG19]; exact mm_set_self
  have hfr : ∀ (x : Nat) (e : va_E), G x = some e → x ≠ o → x ≠ en → G19 x = some e := by
    intro x e z0 n_o n_en
    have z1 : G3 x = some e := by rw [eG3]; exact mm_set_of z0 n_en
    have z2 : G11 x = some e := by rw [eG11]; exact mm_set_of z1 n_o
    have z3 : G19 x = some e := by rw [eG19]; exact mm_set_of z2 n_en
    exact z3
  exact W.vret hx hb hr (fun t ht hW => ⟨⟨_, rfl, ⟨(by rw [← ey12]; exact k20), (by rw [← er1, ← ey12, ← er10]; exact k25), hfr⟩, mk_end hG ht⟩, hS.F ht⟩) hS.2.2 dX9_takeNameOf_16
