set_option maxHeartbeats 4000000 in
set_option maxRecDepth 100000 in
theorem c_X9_sees (l : Launch) (D : va_G) (cy : Nat → ClassId) (A : Nat → Prop) (X : State → Prop) (hst : mk_St A X) (hXT : ∀ U : State, X U → TB U) (e0 : Nat) (tk : Nat → Nat) (hXE : ∀ U : State, X U → ES e0 tk A U) (G : Nat → Option va_E) (o ow ed : Nat) (q : Nat × Int32) (k ks ss vs n : Nat) (K : Nat → Nat) (S : Nat → Int32) (V : Nat → Int64) (j : Nat) (h0 : G o = some (.inr (10, [.ref k, .ref ow, .ref ed, .int (nI q.1), .int q.2]))) (hTK : TKS cy tk G k ks ss vs n K S V) (hp : q.1 < 2 ^ 30) (hj : j < 35) : Met l yX9_sees [.code yX9_sees cX9_sees 2 (some .boolean)] ({ frames := 1, cells := 0, slots := 0, locals := 60 }) (mk_Pre D vwCl (tyL cy) A X G [.ref o, .ref (tk j)]) (va_Qi (fun (r : Int32) (G2 : Nat → Option va_E) => r = b2i (se K q.1 q.2 j) ∧ G2 = G) (mk_B D vwCl A) A) 0 0 A := by
  refine Met.ofW (cc := cX9_sees) (maxL := 2) (ret := (some .boolean)) (by decide) rfl ?_
  intro p e s m args below meth c s₁ B hml hv
  obtain ⟨rfl, hG, hK, hA, hX⟩ := hv
  have hx := B.exec
  have hb := B.bytes
  have hr := B.returns
  have hlocks := B.notSynchronized
  have hT := hXT s hX
  have hown : s.vm.findClass RX9 = some m.cls := findClass_of_methodNamed B.named
  have hf_X9 : ∀ w ∈ u_ws RX9 TX9 5, w.before ([.ref o, .ref (tk j)] : List Value).toArray s = true := tb_list hT fX9
  have hS : va_S A s.heap s.heap [] := va_S.rf
  have hE := hXE s hX
  have hl := lv_entry ([.ref o, .ref (tk j)]) (n := 2) (Nat.le_of_ble_eq_true rfl)
  rw [lg_entry_eq]
  generalize (lg_sl ([.ref o, .ref (tk j)]) ++ List.replicate (2 - (lg_sl ([.ref o, .ref (tk j)])).length) Slot.unset).toArray = ls at hl ⊢
  have hl : lv_has ls 2 [(0, .ref o), (1, .ref (tk j))] := hl
  obtain ⟨q1, -⟩ : G k = some (.inr (13, [.ref ks, .ref ss, .ref vs, .int (nI n)])) ∧ True := by
    obtain ⟨-, -, f1, f2, f3, q1, -⟩ := hTK
    exact ⟨q1, trivial⟩
  refine lv_aload_n hx hb dX9_sees_0 rfl (lv_at hl 0 rfl) ?_
  refine mm_get (v := .int q.2) hx hb hf_X9 (fun _ h9 => h9) hown hK hG h0 rfl 4 (by decide) (tb_use hT tw_181) (fun _ h9 => h9) rfl dX9_sees_1 ?_
  refine lv_if_ge (tgt := 26) hx hb dX9_sees_4 (by decide) (fun c_4 => ?_) (fun c_4 => ?_)
  · skip
    refine lv_iconst (v := 0) hx hb dX9_sees_26 (by decide) ?_
    exact W.zret (v := 0) hx hb hr rfl (fun t ht hW => ⟨⟨_, _, rfl, ⟨(by rw [se, decide_eq_false (Int32.not_lt.mpr c_4)]; rfl), rfl⟩, mk_end hG ht⟩, hS.F ht⟩) hS.2.2 dX9_sees_27
  · skip
    refine lv_aload_n hx hb dX9_sees_7 rfl (lv_at hl 0 rfl) ?_
    refine mm_get (v := .ref k) hx hb hf_X9 (fun _ h9 => h9) hown hK hG h0 rfl 0 (by decide) (tb_use hT tw_177) (fun _ h9 => h9) rfl dX9_sees_8 ?_
    refine lv_aload_n hx hb dX9_sees_11 rfl (lv_at hl 0 rfl) ?_
    refine mm_get (v := .int (nI q.1)) hx hb hf_X9 (fun _ h9 => h9) hown hK hG h0 rfl 3 (by decide) (tb_use hT tw_180) (fun _ h9 => h9) rfl dX9_sees_12 ?_
    refine va_callq (va_runV (As := [.int (nI q.1)]) (rest := []) ⟨hx, hb, hml, hown, (fun _ h9 => absurd h9 List.not_mem_nil : ∀ w ∈ ([] : List Cond), w.before _ s = true)⟩ (c_X12_kind l D cy A X hst hXT e0 tk hXE G k ks ss vs n K S V q.1 hTK (by first | omega | (simp only []; omega))) (tb_cw (C := RX12) 1 hT tw_441 tw_107 tw_438 tw_439 tw_440 rfl rfl (by decide +kernel) ⟨Nat.le_of_ble_eq_true rfl, Nat.le_of_ble_eq_true rfl⟩) (mk_preV hst hG hK hA hX hS (ci := 13) rfl q1) rfl rfl hl.1 rfl (lv_room (Nat.le_of_ble_eq_true rfl)) dX9_sees_15 ⟨Nat.le_of_ble_eq_true rfl, Nat.le_of_ble_eq_true rfl⟩) hS (fun q _ h => h) (fun q h => h) (fun r1 G2 t H1 locs ht hvm hw hB hz1 hk1 hS => ?_)
    have hG : mm D vwCl A G2 H1 := by rw [← ht]; exact hB
    clear hB hz1 hk1 hvm ht
    generalize H1 = H at hG hS ⊢
    obtain ⟨rfl, hw⟩ := hw
    rw [hw] at hG
    refine lv_aload_n hx hb dX9_sees_18 rfl (lv_at hl 1 rfl) ?_
    refine lv_acmp_ne (rx := some (tk (K q.1))) (ry := some (tk j)) (tgt := 26) hx hb dX9_sees_19 (by decide) (fun c_19 => ?_) (fun c_19 => ?_)
    · skip
      refine lv_iconst (v := 0) hx hb dX9_sees_26 (by decide) ?_
      have hne : ¬ K q.1 = j := fun z => c_19 (by rw [z])
      exact W.zret (v := 0) hx hb hr rfl (fun t ht hW => ⟨⟨_, _, rfl, ⟨(by rw [se, decide_eq_false hne, Bool.and_false]; rfl), rfl⟩, mk_end hG ht⟩, hS.F ht⟩) hS.2.2 dX9_sees_27
    · skip
      refine lv_iconst (v := 1) hx hb dX9_sees_22 (by decide) ?_
      refine lv_goto (tgt := 27) hx hb dX9_sees_23 (by decide) ?_
      exact W.zret (v := 1) hx hb hr rfl (fun t ht hW => ⟨⟨_, _, rfl, ⟨(by rw [se, decide_eq_true (Int32.not_le.mp c_4), decide_eq_true (tk_ne hE ((hTK.2.1 q.1).1) hj c_19)]; rfl), rfl⟩, mk_end hG ht⟩, hS.F ht⟩) hS.2.2 dX9_sees_27

set_option maxHeartbeats 4000000 in
set_option maxRecDepth 100000 in
theorem c_X9_start (l : Launch) (D : va_G) (cy : Nat → ClassId) (A : Nat → Prop) (X : State → Prop) (hst : mk_St A X) (hXT : ∀ U : State, X U → TB U) (e0 : Nat) (tk : Nat → Nat) (hXE : ∀ U : State, X U → ES e0 tk A U) (G : Nat → Option va_E) (o ow ed : Nat) (q : Nat × Int32) (k ks ss vs n : Nat) (K : Nat → Nat) (S : Nat → Int32) (V : Nat → Int64) (h0 : G o = some (.inr (10, [.ref k, .ref ow, .ref ed, .int (nI q.1), .int q.2]))) (hTK : TKS cy tk G k ks ss vs n K S V) (hp : q.1 < 2 ^ 30) : Met l yX9_start [.code yX9_start cX9_start 1 (some .int)] ({ frames := 1, cells := 0, slots := 0, locals := 60 }) (mk_Pre D vwCl (tyL cy) A X G [.ref o]) (va_Qi (fun (r : Int32) (G2 : Nat → Option va_E) => r = S q.1 ∧ G2 = G) (mk_B D vwCl A) A) 0 0 A := by
  refine Met.ofW (cc := cX9_start) (maxL := 1) (ret := (some .int)) (by decide) rfl ?_
  intro p e s m args below meth c s₁ B hml hv
  obtain ⟨rfl, hG, hK, hA, hX⟩ := hv
  have hx := B.exec
  have hb := B.bytes
  have hr := B.returns
  have hlocks := B.notSynchronized
  have hT := hXT s hX
  have hown : s.vm.findClass RX9 = some m.cls := findClass_of_methodNamed B.named
  have hf_X9 : ∀ w ∈ u_ws RX9 TX9 5, w.before ([.ref o] : List Value).toArray s = true := tb_list hT fX9
  have hS : va_S A s.heap s.heap [] := va_S.rf
  have hE := hXE s hX
  have hl := lv_entry ([.ref o]) (n := 1) (Nat.le_of_ble_eq_true rfl)
  rw [lg_entry_eq]
  generalize (lg_sl ([.ref o]) ++ List.replicate (1 - (lg_sl ([.ref o])).length) Slot.unset).toArray = ls at hl ⊢
  have hl : lv_has ls 1 [(0, .ref o)] := hl
  obtain ⟨q1, -⟩ : G k = some (.inr (13, [.ref ks, .ref ss, .ref vs, .int (nI n)])) ∧ True := by
    obtain ⟨-, -, f1, f2, f3, q1, -⟩ := hTK
    exact ⟨q1, trivial⟩
  refine lv_aload_n hx hb dX9_start_0 rfl (lv_at hl 0 rfl) ?_
  refine mm_get (v := .ref k) hx hb hf_X9 (fun _ h9 => h9) hown hK hG h0 rfl 0 (by decide) (tb_use hT tw_177) (fun _ h9 => h9) rfl dX9_start_1 ?_
  refine lv_aload_n hx hb dX9_start_4 rfl (lv_at hl 0 rfl) ?_
  refine mm_get (v := .int (nI q.1)) hx hb hf_X9 (fun _ h9 => h9) hown hK hG h0 rfl 3 (by decide) (tb_use hT tw_180) (fun _ h9 => h9) rfl dX9_start_5 ?_
  refine va_calli (va_runV (As := [.int (nI q.1)]) (rest := []) ⟨hx, hb, hml, hown, (fun _ h9 => absurd h9 List.not_mem_nil : ∀ w ∈ ([] : List Cond), w.before _ s = true)⟩ (c_X12_start l D cy A X hst hXT e0 tk hXE G k ks ss vs n K S V q.1 hTK (by first | omega | (simp only []; omega))) (tb_cw (C := RX12) 1 hT tw_469 tw_107 tw_466 tw_467 tw_468 rfl rfl (by decide +kernel) ⟨Nat.le_of_ble_eq_true rfl, Nat.le_of_ble_eq_true rfl⟩) (mk_preV hst hG hK hA hX hS (ci := 13) rfl q1) rfl rfl hl.1 rfl (lv_room (Nat.le_of_ble_eq_true rfl)) dX9_start_8 ⟨Nat.le_of_ble_eq_true rfl, Nat.le_of_ble_eq_true rfl⟩) hS (fun q _ h => h) (fun q h => h) (fun r1 G2 t H1 locs ht hvm hw hB hz1 hk1 hS => ?_)
  have hG : mm D vwCl A G2 H1 := by rw [← ht]; exact hB
  clear hB hz1 hk1 hvm ht
  generalize H1 = H at hG hS ⊢
  obtain ⟨er1, hw⟩ := hw
  rw [hw] at hG
  exact W.iret (v := r1) hx hb hr (fun t ht hW => ⟨⟨_, _, rfl, ⟨er1, rfl⟩, mk_end hG ht⟩, hS.F ht⟩) hS.2.2 dX9_start_11

set_option maxHeartbeats 4000000 in
set_option maxRecDepth 100000 in
theorem c_X9_fail (l : Launch) (D : va_G) (cy : Nat → ClassId) (A : Nat → Prop) (X : State → Prop) (hst : mk_St A X) (hXT : ∀ U : State, X U → TB U) (e0 : Nat) (tk : Nat → Nat) (hXE : ∀ U : State, X U → ES e0 tk A U) (G : Nat → Option va_E) (o ow ed : Nat) (q : Nat × Int32) (k ks ss vs n : Nat) (K : Nat → Nat) (S : Nat → Int32) (V : Nat → Int64) (h0 : G o = some (.inr (10, [.ref k, .ref ow, .ref ed, .int (nI q.1), .int q.2]))) (hTK : TKS cy tk G k ks ss vs n K S V) (hp : q.1 < 2 ^ 30) : Met l yX9_fail [.code yX9_fail cX9_fail 1 none] ({ frames := 1, cells := 0, slots := 0, locals := 60 }) (mk_Pre D vwCl (tyL cy) A X G [.ref o]) (va_Qv (fun (G2 : Nat → Option va_E) => G2 = mm_set G o (.inr (10, [.ref k, .ref ow, .ref ed, .int (nI (q.1, fl S q.1 q.2).1), .int ((q.1, fl S q.1 q.2).2)]))) (mk_B D vwCl A) A) 0 0 A := by
  refine Met.ofW (cc := cX9_fail) (maxL := 1) (ret := none) (by decide) rfl ?_
  intro p e s m args below meth c s₁ B hml hv
  obtain ⟨rfl, hG, hK, hA, hX⟩ := hv
  have hx := B.exec
  have hb := B.bytes
  have hr := B.returns
  have hlocks := B.notSynchronized
  have hT := hXT s hX
  have hown : s.vm.findClass RX9 = some m.cls := findClass_of_methodNamed B.named
  have hf_X9 : ∀ w ∈ u_ws RX9 TX9 5, w.before ([.ref o] : List Value).toArray s = true := tb_list hT fX9
  have hS : va_S A s.heap s.heap [] := va_S.rf
  have hE := hXE s hX
  have hl := lv_entry ([.ref o]) (n := 1) (Nat.le_of_ble_eq_true rfl)
  rw [lg_entry_eq]
  generalize (lg_sl ([.ref o]) ++ List.replicate (1 - (lg_sl ([.ref o])).length) Slot.unset).toArray = ls at hl ⊢
  have hl : lv_has ls 1 [(0, .ref o)] := hl
  obtain ⟨q1, -⟩ : G k = some (.inr (13, [.ref ks, .ref ss, .ref vs, .int (nI n)])) ∧ True := by
    obtain ⟨-, -, f1, f2, f3, q1, -⟩ := hTK
    exact ⟨q1, trivial⟩
  refine lv_aload_n hx hb dX9_fail_0 rfl (lv_at hl 0 rfl) ?_
  refine mm_get (v := .int q.2) hx hb hf_X9 (fun _ h9 => h9) hown hK hG h0 rfl 4 (by decide) (tb_use hT tw_181) (fun _ h9 => h9) rfl dX9_fail_1 ?_
  refine lv_if_ge (tgt := 22) hx hb dX9_fail_4 (by decide) (fun c_4 => ?_) (fun c_4 => ?_)
  · skip
    exact W.vret hx hb hr (fun t ht hW => ⟨⟨_, rfl, (by rw [fl, if_neg (Int32.not_lt.mpr c_4), mm_set_id h0]), mk_end hG ht⟩, hS.F ht⟩) hS.2.2 dX9_fail_22
  · skip
    refine lv_aload_n hx hb dX9_fail_7 rfl (lv_at hl 0 rfl) ?_
    refine lv_aload_n hx hb dX9_fail_8 rfl (lv_at hl 0 rfl) ?_
    refine mm_get (v := .ref k) hx hb hf_X9 (fun _ h9 => h9) hown hK hG h0 rfl 0 (by decide) (tb_use hT tw_177) (fun _ h9 => h9) rfl dX9_fail_9 ?_
    refine lv_aload_n hx hb dX9_fail_12 rfl (lv_at hl 0 rfl) ?_
    refine mm_get (v := .int (nI q.1)) hx hb hf_X9 (fun _ h9 => h9) hown hK hG h0 rfl 3 (by decide) (tb_use hT tw_180) (fun _ h9 => h9) rfl dX9_fail_13 ?_
    refine va_calli (va_runV (As := [.int (nI q.1)]) (rest := [.ref o]) ⟨hx, hb, hml, hown, (fun _ h9 => absurd h9 List.not_mem_nil : ∀ w ∈ ([] : List Cond), w.before _ s = true)⟩ (c_X12_start l D cy A X hst hXT e0 tk hXE G k ks ss vs n K S V q.1 hTK (by first | omega | (simp only []; omega))) (tb_cw (C := RX12) 1 hT tw_469 tw_107 tw_466 tw_467 tw_468 rfl rfl (by decide +kernel) ⟨Nat.le_of_ble_eq_true rfl, Nat.le_of_ble_eq_true rfl⟩) (mk_preV hst hG hK hA hX hS (ci := 13) rfl q1) rfl rfl hl.1 rfl (lv_room (Nat.le_of_ble_eq_true rfl)) dX9_fail_16 ⟨Nat.le_of_ble_eq_true rfl, Nat.le_of_ble_eq_true rfl⟩) hS (fun q _ h => h) (fun q h => h) (fun r1 G2 t H1 locs ht hvm hw hB hz1 hk1 hS => ?_)
    have hG : mm D vwCl A G2 H1 := by rw [← ht]; exact hB
    clear hB hz1 hk1 hvm ht
    generalize H1 = H at hG hS ⊢
    obtain ⟨er1, hw⟩ := hw
    rw [hw] at hG
    refine mm_put (v := .int r1) (ty := .int) hx hb hf_X9 (fun _ h9 => h9) tyX9 tyX9_ok nmX9 hown hK hG hS h0 rfl 4 (by decide) (tb_use hT tw_181) (fun _ h9 => h9) rfl (by decide +kernel) rfl rfl (Nat.le_of_ble_eq_true rfl) dX9_fail_19 (fun H locs hG hS => ?_)
    obtain ⟨G3, eG3⟩ : ∃ g, g = mm_set G o (.inr (10, [.ref k, .ref ow, .ref ed, .int (nI q.1), .int r1])) := ⟨_, rfl⟩
    have hG : mm D vwCl A G3 H := by rw [eG3]; exact hG
    have k4 : G3 o = some (.inr (10, [.ref k, .ref ow, .ref ed, .int (nI q.1), .int r1])) := by rw [eG3]; exact mm_set_self
    have k5 : G3 k = some (.inr (13, [.ref ks, .ref ss, .ref vs, .int (nI n)])) := by rw [eG3]; exact mm_set_of q1 (mm_ne_oo q1 h0 (by decide))
    replace hTK := TKS.put (e := .inr (10, [.ref k, .ref ow, .ref ed, .int (nI q.1), .int r1])) hTK h0 (by decide)
    rw [← eG3] at hTK
    exact W.vret hx hb hr (fun t ht hW => ⟨⟨_, rfl, (by rw [eG3, fl, if_pos (Int32.not_le.mp c_4), er1]), mk_end hG ht⟩, hS.F ht⟩) hS.2.2 dX9_fail_22

set_option maxHeartbeats 4000000 in
set_option maxRecDepth 100000 in
theorem c_X9_take (l : Launch) (D : va_G) (cy : Nat → ClassId) (A : Nat → Prop) (X : State → Prop) (hst : mk_St A X) (hXT : ∀ U : State, X U → TB U) (e0 : Nat) (tk : Nat → Nat) (hXE : ∀ U : State, X U → ES e0 tk A U) (G : Nat → Option va_E) (o ow ed : Nat) (q : Nat × Int32) (k ks ss vs n : Nat) (K : Nat → Nat) (S : Nat → Int32) (V : Nat → Int64) (j : Nat) (h0 : G o = some (.inr (10, [.ref k, .ref ow, .ref ed, .int (nI q.1), .int q.2]))) (hTK : TKS cy tk G k ks ss vs n K S V) (hp : q.1 < 2 ^ 30) (hj : j < 35) : Met l yX9_take [.code yX9_take cX9_take 2 none] ({ frames := 2, cells := 0, slots := 0, locals := 120 }) (mk_Pre D vwCl (tyL cy) A X G [.ref o, .ref (tk j)]) (va_Qv (fun (G2 : Nat → Option va_E) => G2 = mm_set G o (.inr (10, [.ref k, .ref ow, .ref ed, .int (nI (q_take K S j q).1), .int ((q_take K S j q).2)]))) (mk_B D vwCl A) A) 0 0 A := by
  refine Met.ofW (cc := cX9_take) (maxL := 2) (ret := none) (by decide) rfl ?_
  intro p e s m args below meth c s₁ B hml hv
  obtain ⟨rfl, hG, hK, hA, hX⟩ := hv
  have hx := B.exec
  have hb := B.bytes
  have hr := B.returns
  have hlocks := B.notSynchronized
  have hT := hXT s hX
  have hown : s.vm.findClass RX9 = some m.cls := findClass_of_methodNamed B.named
  have hf_X9 : ∀ w ∈ u_ws RX9 TX9 5, w.before ([.ref o, .ref (tk j)] : List Value).toArray s = true := tb_list hT fX9
  have hS : va_S A s.heap s.heap [] := va_S.rf
  have hE := hXE s hX
  have hl := lv_entry ([.ref o, .ref (tk j)]) (n := 2) (Nat.le_of_ble_eq_true rfl)
  rw [lg_entry_eq]
  generalize (lg_sl ([.ref o, .ref (tk j)]) ++ List.replicate (2 - (lg_sl ([.ref o, .ref (tk j)])).length) Slot.unset).toArray = ls at hl ⊢
  have hl : lv_has ls 2 [(0, .ref o), (1, .ref (tk j))] := hl
  obtain ⟨q1, -⟩ : G k = some (.inr (13, [.ref ks, .ref ss, .ref vs, .int (nI n)])) ∧ True := by
    obtain ⟨-, -, f1, f2, f3, q1, -⟩ := hTK
    exact ⟨q1, trivial⟩
  refine lv_aload_n hx hb dX9_take_0 rfl (lv_at hl 0 rfl) ?_
  refine lv_aload_n hx hb dX9_take_1 rfl (lv_at hl 1 rfl) ?_
  refine va_calli (va_runV (As := [.ref (tk j)]) (rest := []) ⟨hx, hb, hml, hown, (fun _ h9 => absurd h9 List.not_mem_nil : ∀ w ∈ ([] : List Cond), w.before _ s = true)⟩ (c_X9_sees l D cy A X hst hXT e0 tk hXE G o ow ed q k ks ss vs n K S V j h0 hTK (by first | omega | (simp only []; omega)) hj) (tb_cw (C := RX9) 1 hT tw_437 tw_106 tw_434 tw_436 tw_6 rfl rfl (by decide +kernel) ⟨Nat.le_of_ble_eq_true rfl, Nat.le_of_ble_eq_true rfl⟩) (mk_preV hst hG hK hA hX hS (ci := 10) rfl h0) rfl rfl hl.1 rfl (lv_room (Nat.le_of_ble_eq_true rfl)) dX9_take_2 ⟨Nat.le_of_ble_eq_true rfl, Nat.le_of_ble_eq_true rfl⟩) hS (fun q _ h => h) (fun q h => h) (fun r1 G2 t H1 locs ht hvm hw hB hz1 hk1 hS => ?_)
  have hG : mm D vwCl A G2 H1 := by rw [← ht]; exact hB
  clear hB hz1 hk1 hvm ht
  generalize H1 = H at hG hS ⊢
  obtain ⟨er1, hw⟩ := hw
  rw [hw] at hG
  refine lv_if_eq (tgt := 21) hx hb dX9_take_5 (by decide) (fun c_5 => ?_) (fun c_5 => ?_)
  · skip
    refine lv_aload_n hx hb dX9_take_21 rfl (lv_at hl 0 rfl) ?_
    refine va_callv (va_runV (As := []) (rest := []) ⟨hx, hb, hml, hown, (fun _ h9 => absurd h9 List.not_mem_nil : ∀ w ∈ ([] : List Cond), w.before _ s = true)⟩ (c_X9_fail l D cy A X hst hXT e0 tk hXE G o ow ed q k ks ss vs n K S V  h0 hTK (by first | omega | (simp only []; omega)) ) (tb_cw (C := RX9) 0 hT tw_465 tw_106 tw_462 tw_464 tw_9 rfl rfl (by decide +kernel) ⟨Nat.le_of_ble_eq_true rfl, Nat.le_of_ble_eq_true rfl⟩) (mk_preV hst hG hK hA hX hS (ci := 10) rfl h0) rfl rfl hl.1 rfl (lv_room (Nat.le_of_ble_eq_true rfl)) dX9_take_22 ⟨Nat.le_of_ble_eq_true rfl, Nat.le_of_ble_eq_true rfl⟩) hS (fun q _ h => h) (fun q h => h) (fun  G3 t H1 locs ht hvm hw hB hz1 hk1 hS => ?_)
    have hG : mm D vwCl A G3 H1 := by rw [← ht]; exact hB
    clear hB hz1 hk1 hvm ht
    generalize H1 = H at hG hS ⊢
    obtain ⟨y4, ey4⟩ : ∃ y, y = (q.1, fl S q.1 q.2) := ⟨_, rfl⟩
    rw [← ey4] at hw
    have ly4 : y4.1 ≤ q.1 + 0 := by rw [ey4]; exact (by simp)
    have k5 : G3 o = some (.inr (10, [.ref k, .ref ow, .ref ed, .int (nI y4.1), .int y4.2])) := by rw [hw]; exact mm_set_self
    have k6 : G3 k = some (.inr (13, [.ref ks, .ref ss, .ref vs, .int (nI n)])) := by rw [hw]; exact mm_set_of q1 (mm_ne_oo q1 h0 (by decide))
    replace hTK := TKS.put (e := .inr (10, [.ref k, .ref ow, .ref ed, .int (nI y4.1), .int y4.2])) hTK h0 (by decide)
    rw [← hw] at hTK
    have hse : se K q.1 q.2 j = false := by rw [er1] at c_5; revert c_5; cases se K q.1 q.2 j <;> simp [b2i]
    exact W.vret hx hb hr (fun t ht hW => ⟨⟨_, rfl, (by rw [hw]; rw [q_take, hse]; try (subst_vars; rfl)), mk_end hG ht⟩, hS.F ht⟩) hS.2.2 dX9_take_25
  · skip
    refine lv_aload_n hx hb dX9_take_8 rfl (lv_at hl 0 rfl) ?_
    refine lv_dup hx hb dX9_take_9 rfl ?_
    refine mm_get (v := .int (nI q.1)) hx hb hf_X9 (fun _ h9 => h9) hown hK hG h0 rfl 3 (by decide) (tb_use hT tw_180) (fun _ h9 => h9) rfl dX9_take_10 ?_
    refine lv_iconst (v := 1) hx hb dX9_take_13 (by decide) ?_
    refine lv_iadd hx hb dX9_take_14 ?_
    rw [← nI_succ q.1]
    refine mm_put (v := .int (nI (q.1 + 1))) (ty := .int) hx hb hf_X9 (fun _ h9 => h9) tyX9 tyX9_ok nmX9 hown hK hG hS h0 rfl 3 (by decide) (tb_use hT tw_180) (fun _ h9 => h9) rfl (by decide +kernel) rfl rfl (Nat.le_of_ble_eq_true rfl) dX9_take_15 (fun H locs hG hS => ?_)
    obtain ⟨G7, eG7⟩ : ∃ g, g = mm_set G o (.inr (10, [.ref k, .ref ow, .ref ed, .int (nI (q.1 + 1)), .int q.2])) := ⟨_, rfl⟩
    have hG : mm D vwCl A G7 H := by rw [eG7]; exact hG
    have k8 : G7 o = some (.inr (10, [.ref k, .ref ow, .ref ed, .int (nI (q.1 + 1)), .int q.2])) := by rw [eG7]; exact mm_set_self
    have k9 : G7 k = some (.inr (13, [.ref ks, .ref ss, .ref vs, .int (nI n)])) := by rw [eG7]; exact mm_set_of q1 (mm_ne_oo q1 h0 (by decide))
    replace hTK := TKS.put (e := .inr (10, [.ref k, .ref ow, .ref ed, .int (nI (q.1 + 1)), .int q.2])) hTK h0 (by decide)
    rw [← eG7] at hTK
    refine lv_goto (tgt := 25) hx hb dX9_take_18 (by decide) ?_
    have hse : se K q.1 q.2 j = true := by rw [er1] at c_5; revert c_5; cases se K q.1 q.2 j <;> simp [b2i]
    exact W.vret hx hb hr (fun t ht hW => ⟨⟨_, rfl, (by rw [eG7]; rw [q_take, hse]; rfl), mk_end hG ht⟩, hS.F ht⟩) hS.2.2 dX9_take_25

set_option maxHeartbeats 4000000 in
set_option maxRecDepth 100000 in
theorem c_X9_takeName (l : Launch) (D : va_G) (cy : Nat → ClassId) (A : Nat → Prop) (X : State → Prop) (hst : mk_St A X) (hXT : ∀ U : State, X U → TB U) (e0 : Nat) (tk : Nat → Nat) (hXE : ∀ U : State, X U → ES e0 tk A U) (G : Nat → Option va_E) (o ow ed : Nat) (q : Nat × Int32) (k ks ss vs n : Nat) (K : Nat → Nat) (S : Nat → Int32) (V : Nat → Int64) (h0 : G o = some (.inr (10, [.ref k, .ref ow, .ref ed, .int (nI q.1), .int q.2]))) (hTK : TKS cy tk G k ks ss vs n K S V) (hp : q.1 < 2 ^ 30) : Met l yX9_takeName [.code yX9_takeName cX9_takeName 3 (some .long)] ({ frames := 2, cells := 0, slots := 0, locals := 120 }) (mk_Pre D vwCl (tyL cy) A X G [.ref o]) (va_Ql (fun (r : Int64) (G2 : Nat → Option va_E) => r = (q_name K S V q).1 ∧ G2 = mm_set G o (.inr (10, [.ref k, .ref ow, .ref ed, .int (nI ((q_name K S V q).2).1), .int (((q_name K S V q).2).2)]))) (mk_B D vwCl A) A) 0 0 A := by
  refine Met.ofW (cc := cX9_takeName) (maxL := 3) (ret := (some .long)) (by decide) rfl ?_
  intro p e s m args below meth c s₁ B hml hv
  obtain ⟨rfl, hG, hK, hA, hX⟩ := hv
  have hx := B.exec
  have hb := B.bytes
  have hr := B.returns
  have hlocks := B.notSynchronized
  have hT := hXT s hX
  have hown : s.vm.findClass RX9 = some m.cls := findClass_of_methodNamed B.named
  have hf_X9 : ∀ w ∈ u_ws RX9 TX9 5, w.before ([.ref o] : List Value).toArray s = true := tb_list hT fX9
  have hS : va_S A s.heap s.heap [] := va_S.rf
  have hE := hXE s hX
  have hl := lv_entry ([.ref o]) (n := 3) (Nat.le_of_ble_eq_true rfl)
  rw [lg_entry_eq]
  generalize (lg_sl ([.ref o]) ++ List.replicate (3 - (lg_sl ([.ref o])).length) Slot.unset).toArray = ls at hl ⊢
  have hl : lv_has ls 3 [(0, .ref o)] := hl
  obtain ⟨q1, -⟩ : G k = some (.inr (13, [.ref ks, .ref ss, .ref vs, .int (nI n)])) ∧ True := by
    obtain ⟨-, -, f1, f2, f3, q1, -⟩ := hTK
    exact ⟨q1, trivial⟩
  refine lv_aload_n hx hb dX9_takeName_0 rfl (lv_at hl 0 rfl) ?_
  refine va_gets (v := .ref (tk 0)) hx hb (show va_Z "DescribeText$Token" "NAME" "LDescribeText$Token;" (.ref (tk 0)) A s s.heap from (hE.2.1 0 (by decide)).1) hS hown (tb_use hT tw_480) (fun _ h9 => h9) dX9_takeName_1 ?_
  refine va_calli (va_runV (As := [.ref (tk 0)]) (rest := []) ⟨hx, hb, hml, hown, (fun _ h9 => absurd h9 List.not_mem_nil : ∀ w ∈ ([] : List Cond), w.before _ s = true)⟩ (c_X9_sees l D cy A X hst hXT e0 tk hXE G o ow ed q k ks ss vs n K S V 0 h0 hTK (by first | omega | (simp only []; omega)) (by decide)) (tb_cw (C := RX9) 1 hT tw_437 tw_106 tw_434 tw_436 tw_6 rfl rfl (by decide +kernel) ⟨Nat.le_of_ble_eq_true rfl, Nat.le_of_ble_eq_true rfl⟩) (mk_preV hst hG hK hA hX hS (ci := 10) rfl h0) rfl rfl hl.1 rfl (lv_room (Nat.le_of_ble_eq_true rfl)) dX9_takeName_4 ⟨Nat.le_of_ble_eq_true rfl, Nat.le_of_ble_eq_true rfl⟩) hS (fun q _ h => h) (fun q h => h) (fun r1 G2 t H1 locs ht hvm hw hB hz1 hk1 hS => ?_)
  have hG : mm D vwCl A G2 H1 := by rw [← ht]; exact hB
  clear hB hz1 hk1 hvm ht
  generalize H1 = H at hG hS ⊢
  obtain ⟨er1, hw⟩ := hw
  rw [hw] at hG
  refine lv_if_ne (tgt := 16) hx hb dX9_takeName_7 (by decide) (fun c_7 => ?_) (fun c_7 => ?_)
  · skip
    refine lv_aload_n hx hb dX9_takeName_16 rfl (lv_at hl 0 rfl) ?_
    refine mm_get (v := .ref k) hx hb hf_X9 (fun _ h9 => h9) hown hK hG h0 rfl 0 (by decide) (tb_use hT tw_177) (fun _ h9 => h9) rfl dX9_takeName_17 ?_
    refine lv_aload_n hx hb dX9_takeName_20 rfl (lv_at hl 0 rfl) ?_
    refine mm_get (v := .int (nI q.1)) hx hb hf_X9 (fun _ h9 => h9) hown hK hG h0 rfl 3 (by decide) (tb_use hT tw_180) (fun _ h9 => h9) rfl dX9_takeName_21 ?_
    refine va_calll (va_runV (As := [.int (nI q.1)]) (rest := []) ⟨hx, hb, hml, hown, (fun _ h9 => absurd h9 List.not_mem_nil : ∀ w ∈ ([] : List Cond), w.before _ s = true)⟩ (c_X12_value l D cy A X hst hXT e0 tk hXE G k ks ss vs n K S V q.1 hTK (by first | omega | (simp only []; omega))) (tb_cw (C := RX12) 1 hT tw_484 tw_107 tw_481 tw_482 tw_483 rfl rfl (by decide +kernel) ⟨Nat.le_of_ble_eq_true rfl, Nat.le_of_ble_eq_true rfl⟩) (mk_preV hst hG hK hA hX hS (ci := 13) rfl q1) rfl rfl hl.1 rfl (lv_room (Nat.le_of_ble_eq_true rfl)) dX9_takeName_24 ⟨Nat.le_of_ble_eq_true rfl, Nat.le_of_ble_eq_true rfl⟩) hS (fun q _ h => h) (fun q h => h) (fun r3 G4 t H1 locs ht hvm hw hB hz1 hk1 hS => ?_)
    have hG : mm D vwCl A G4 H1 := by rw [← ht]; exact hB
    clear hB hz1 hk1 hvm ht
    generalize H1 = H at hG hS ⊢
    obtain ⟨er3, hw⟩ := hw
    rw [hw] at hG
    refine lv_lstore_n (lv' := [(1, .long r3), (0, .ref o)]) hx hb dX9_takeName_27 rfl hl (by decide) rfl (fun ls hl => ?_)
    refine lv_aload_n hx hb dX9_takeName_28 rfl (lv_at hl 1 rfl) ?_
    refine lv_dup hx hb dX9_takeName_29 rfl ?_
    refine mm_get (v := .int (nI q.1)) hx hb hf_X9 (fun _ h9 => h9) hown hK hG h0 rfl 3 (by decide) (tb_use hT tw_180) (fun _ h9 => h9) rfl dX9_takeName_30 ?_
    refine lv_iconst (v := 1) hx hb dX9_takeName_33 (by decide) ?_
    refine lv_iadd hx hb dX9_takeName_34 ?_
    rw [← nI_succ q.1]
    refine mm_put (v := .int (nI (q.1 + 1))) (ty := .int) hx hb hf_X9 (fun _ h9 => h9) tyX9 tyX9_ok nmX9 hown hK hG hS h0 rfl 3 (by decide) (tb_use hT tw_180) (fun _ h9 => h9) rfl (by decide +kernel) rfl rfl (Nat.le_of_ble_eq_true rfl) dX9_takeName_35 (fun H locs hG hS => ?_)
    obtain ⟨G5, eG5⟩ : ∃ g, g = mm_set G o (.inr (10, [.ref k, .ref ow, .ref ed, .int (nI (q.1 + 1)), .int q.2])) := ⟨_, rfl⟩
    have hG : mm D vwCl A G5 H := by rw [eG5]; exact hG
    have k6 : G5 o = some (.inr (10, [.ref k, .ref ow, .ref ed, .int (nI (q.1 + 1)), .int q.2])) := by rw [eG5]; exact mm_set_self
    have k7 : G5 k = some (.inr (13, [.ref ks, .ref ss, .ref vs, .int (nI n)])) := by rw [eG5]; exact mm_set_of q1 (mm_ne_oo q1 h0 (by decide))
    replace hTK := TKS.put (e := .inr (10, [.ref k, .ref ow, .ref ed, .int (nI (q.1 + 1)), .int q.2])) hTK h0 (by decide)
    rw [← eG5] at hTK
    refine lv_lload_n hx hb dX9_takeName_38 rfl (lv_at hl 0 rfl) ?_
    have hse : se K q.1 q.2 0 = true := by rw [er1] at c_7; revert c_7; cases se K q.1 q.2 0 <;> simp [b2i]
    exact W.lret (v := r3) hx hb hr (fun t ht hW => ⟨⟨_, _, rfl, (by rw [q_name, hse]; exact ⟨er3, (by rw [eG5]; rfl)⟩), mk_end hG ht⟩, hS.F ht⟩) hS.2.2 dX9_takeName_39
  · skip
    refine lv_aload_n hx hb dX9_takeName_10 rfl (lv_at hl 0 rfl) ?_
    refine va_callv (va_runV (As := []) (rest := []) ⟨hx, hb, hml, hown, (fun _ h9 => absurd h9 List.not_mem_nil : ∀ w ∈ ([] : List Cond), w.before _ s = true)⟩ (c_X9_fail l D cy A X hst hXT e0 tk hXE G o ow ed q k ks ss vs n K S V  h0 hTK (by first | omega | (simp only []; omega)) ) (tb_cw (C := RX9) 0 hT tw_465 tw_106 tw_462 tw_464 tw_9 rfl rfl (by decide +kernel) ⟨Nat.le_of_ble_eq_true rfl, Nat.le_of_ble_eq_true rfl⟩) (mk_preV hst hG hK hA hX hS (ci := 10) rfl h0) rfl rfl hl.1 rfl (lv_room (Nat.le_of_ble_eq_true rfl)) dX9_takeName_11 ⟨Nat.le_of_ble_eq_true rfl, Nat.le_of_ble_eq_true rfl⟩) hS (fun q _ h => h) (fun q h => h) (fun  G8 t H1 locs ht hvm hw hB hz1 hk1 hS => ?_)
    have hG : mm D vwCl A G8 H1 := by rw [← ht]; exact hB
    clear hB hz1 hk1 hvm ht
    generalize H1 = H at hG hS ⊢
    obtain ⟨y9, ey9⟩ : ∃ y, y = (q.1, fl S q.1 q.2) := ⟨_, rfl⟩
    rw [← ey9] at hw
    have ly9 : y9.1 ≤ q.1 + 0 := by rw [ey9]; exact (by simp)
    have k10 : G8 o = some (.inr (10, [.ref k, .ref ow, .ref ed, .int (nI y9.1), .int y9.2])) := by rw [hw]; exact mm_set_self
    have k11 : G8 k = some (.inr (13, [.ref ks, .ref ss, .ref vs, .int (nI n)])) := by rw [hw]; exact mm_set_of q1 (mm_ne_oo q1 h0 (by decide))
    replace hTK := TKS.put (e := .inr (10, [.ref k, .ref ow, .ref ed, .int (nI y9.1), .int y9.2])) hTK h0 (by decide)
    rw [← hw] at hTK
    refine lv_lconst (v := 0) hx hb dX9_takeName_14 (by decide) ?_
    have hse : se K q.1 q.2 0 = false := by rw [er1] at c_7; revert c_7; cases se K q.1 q.2 0 <;> simp [b2i]
    exact W.lret (v := 0) hx hb hr (fun t ht hW => ⟨⟨_, _, rfl, (by rw [q_name, hse]; exact ⟨rfl, (by rw [hw]; try (subst_vars; rfl))⟩), mk_end hG ht⟩, hS.F ht⟩) hS.2.2 dX9_takeName_15

set_option maxHeartbeats 4000000 in
set_option maxRecDepth 100000 in
theorem c_X9_begin (l : Launch) (D : va_G) (cy : Nat → ClassId) (A : Nat → Prop) (X : State → Prop) (hst : mk_St A X) (hXT : ∀ U : State, X U → TB U) (e0 : Nat) (tk : Nat → Nat) (hXE : ∀ U : State, X U → ES e0 tk A U) (G : Nat → Option va_E) (o ow ed : Nat) (q : Nat × Int32) (k ks ss vs n : Nat) (K : Nat → Nat) (S : Nat → Int32) (V : Nat → Int64) (hv mo : Int32) (h0 : G o = some (.inr (10, [.ref k, .ref ow, .ref ed, .int (nI q.1), .int q.2]))) (hTK : TKS cy tk G k ks ss vs n K S V) (hp : q.1 < 2 ^ 30) : Met l yX9_begin [.code yX9_begin cX9_begin 3 none] ({ frames := 2, cells := 0, slots := 0, locals := 120 }) (mk_Pre D vwCl (tyL cy) A X G [.ref o, .int hv, .int mo]) (va_Qv (fun (G2 : Nat → Option va_E) => G2 = mm_set G o (.inr (10, [.ref k, .ref ow, .ref ed, .int (nI (q_begin S hv mo q).1), .int ((q_begin S hv mo q).2)]))) (mk_B D vwCl A) A) 0 0 A := by
  refine Met.ofW (cc := cX9_begin) (maxL := 3) (ret := none) (by decide) rfl ?_
  intro p e s m args below meth c s₁ B hml hv
  obtain ⟨rfl, hG, hK, hA, hX⟩ := hv
  have hx := B.exec
  have hb := B.bytes
  have hr := B.returns
  have hlocks := B.notSynchronized
  have hT := hXT s hX
  have hown : s.vm.findClass RX9 = some m.cls := findClass_of_methodNamed B.named
  have hf_X9 : ∀ w ∈ u_ws RX9 TX9 5, w.before ([.ref o, .int hv, .int mo] : List Value).toArray s = true := tb_list hT fX9
  have hS : va_S A s.heap s.heap [] := va_S.rf
  have hE := hXE s hX
  have hl := lv_entry ([.ref o, .int hv, .int mo]) (n := 3) (Nat.le_of_ble_eq_true rfl)
  rw [lg_entry_eq]
  generalize (lg_sl ([.ref o, .int hv, .int mo]) ++ List.replicate (3 - (lg_sl ([.ref o, .int hv, .int mo])).length) Slot.unset).toArray = ls at hl ⊢
  have hl : lv_has ls 3 [(0, .ref o), (1, .int hv), (2, .int mo)] := hl
  obtain ⟨q1, -⟩ : G k = some (.inr (13, [.ref ks, .ref ss, .ref vs, .int (nI n)])) ∧ True := by
    obtain ⟨-, -, f1, f2, f3, q1, -⟩ := hTK
    exact ⟨q1, trivial⟩
  refine lv_iload_n hx hb dX9_begin_0 rfl (lv_at hl 1 rfl) ?_
  refine lv_iload_n hx hb dX9_begin_1 rfl (lv_at hl 2 rfl) ?_
  refine lv_icmp_lt (tgt := 12) hx hb dX9_begin_2 (by decide) (fun c_2 => ?_) (fun c_2 => ?_)
  · skip
    refine lv_aload_n hx hb dX9_begin_12 rfl (lv_at hl 0 rfl) ?_
    refine mm_get (v := .int q.2) hx hb hf_X9 (fun _ h9 => h9) hown hK hG h0 rfl 4 (by decide) (tb_use hT tw_181) (fun _ h9 => h9) rfl dX9_begin_13 ?_
    refine lv_if_ge (tgt := 29) hx hb dX9_begin_16 (by decide) (fun c_16 => ?_) (fun c_16 => ?_)
    · skip
      exact W.vret hx hb hr (fun t ht hW => ⟨⟨_, rfl, (by rw [q_begin, if_pos c_2, if_neg (Int32.not_lt.mpr c_16), mm_set_id h0]), mk_end hG ht⟩, hS.F ht⟩) hS.2.2 dX9_begin_29
    · skip
      refine lv_aload_n hx hb dX9_begin_19 rfl (lv_at hl 0 rfl) ?_
      refine lv_dup hx hb dX9_begin_20 rfl ?_
      refine mm_get (v := .int (nI q.1)) hx hb hf_X9 (fun _ h9 => h9) hown hK hG h0 rfl 3 (by decide) (tb_use hT tw_180) (fun _ h9 => h9) rfl dX9_begin_21 ?_
      refine lv_iconst (v := 1) hx hb dX9_begin_24 (by decide) ?_
      refine lv_iadd hx hb dX9_begin_25 ?_
      rw [← nI_succ q.1]
      refine mm_put (v := .int (nI (q.1 + 1))) (ty := .int) hx hb hf_X9 (fun _ h9 => h9) tyX9 tyX9_ok nmX9 hown hK hG hS h0 rfl 3 (by decide) (tb_use hT tw_180) (fun _ h9 => h9) rfl (by decide +kernel) rfl rfl (Nat.le_of_ble_eq_true rfl) dX9_begin_26 (fun H locs hG hS => ?_)
      obtain ⟨G1, eG1⟩ : ∃ g, g = mm_set G o (.inr (10, [.ref k, .ref ow, .ref ed, .int (nI (q.1 + 1)), .int q.2])) := ⟨_, rfl⟩
      have hG : mm D vwCl A G1 H := by rw [eG1]; exact hG
      have k2 : G1 o = some (.inr (10, [.ref k, .ref ow, .ref ed, .int (nI (q.1 + 1)), .int q.2])) := by rw [eG1]; exact mm_set_self
      have k3 : G1 k = some (.inr (13, [.ref ks, .ref ss, .ref vs, .int (nI n)])) := by rw [eG1]; exact mm_set_of q1 (mm_ne_oo q1 h0 (by decide))
      replace hTK := TKS.put (e := .inr (10, [.ref k, .ref ow, .ref ed, .int (nI (q.1 + 1)), .int q.2])) hTK h0 (by decide)
      rw [← eG1] at hTK
      exact W.vret hx hb hr (fun t ht hW => ⟨⟨_, rfl, (by rw [eG1]; rw [q_begin, if_pos c_2, if_pos (Int32.not_le.mp c_16)]), mk_end hG ht⟩, hS.F ht⟩) hS.2.2 dX9_begin_29
  · skip
    refine lv_aload_n hx hb dX9_begin_5 rfl (lv_at hl 0 rfl) ?_
    refine va_callv (va_runV (As := []) (rest := []) ⟨hx, hb, hml, hown, (fun _ h9 => absurd h9 List.not_mem_nil : ∀ w ∈ ([] : List Cond), w.before _ s = true)⟩ (c_X9_fail l D cy A X hst hXT e0 tk hXE G o ow ed q k ks ss vs n K S V  h0 hTK (by first | omega | (simp only []; omega)) ) (tb_cw (C := RX9) 0 hT tw_465 tw_106 tw_462 tw_464 tw_9 rfl rfl (by decide +kernel) ⟨Nat.le_of_ble_eq_true rfl, Nat.le_of_ble_eq_true rfl⟩) (mk_preV hst hG hK hA hX hS (ci := 10) rfl h0) rfl rfl hl.1 rfl (lv_room (Nat.le_of_ble_eq_true rfl)) dX9_begin_6 ⟨Nat.le_of_ble_eq_true rfl, Nat.le_of_ble_eq_true rfl⟩) hS (fun q _ h => h) (fun q h => h) (fun  G4 t H1 locs ht hvm hw hB hz1 hk1 hS => ?_)
    have hG : mm D vwCl A G4 H1 := by rw [← ht]; exact hB
    clear hB hz1 hk1 hvm ht
    generalize H1 = H at hG hS ⊢
    obtain ⟨y5, ey5⟩ : ∃ y, y = (q.1, fl S q.1 q.2) := ⟨_, rfl⟩
    rw [← ey5] at hw
    have ly5 : y5.1 ≤ q.1 + 0 := by rw [ey5]; exact (by simp)
    have k6 : G4 o = some (.inr (10, [.ref k, .ref ow, .ref ed, .int (nI y5.1), .int y5.2])) := by rw [hw]; exact mm_set_self
    have k7 : G4 k = some (.inr (13, [.ref ks, .ref ss, .ref vs, .int (nI n)])) := by rw [hw]; exact mm_set_of q1 (mm_ne_oo q1 h0 (by decide))
    replace hTK := TKS.put (e := .inr (10, [.ref k, .ref ow, .ref ed, .int (nI y5.1), .int y5.2])) hTK h0 (by decide)
    rw [← hw] at hTK
    refine lv_goto (tgt := 29) hx hb dX9_begin_9 (by decide) ?_
    exact W.vret hx hb hr (fun t ht hW => ⟨⟨_, rfl, (by rw [hw]; rw [q_begin, if_neg c_2]; try (subst_vars; rfl)), mk_end hG ht⟩, hS.F ht⟩) hS.2.2 dX9_begin_29
