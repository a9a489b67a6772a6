set_option maxHeartbeats 4000000 in
set_option maxRecDepth 100000 in
theorem c_X12_kind_e (l : Launch) (D : va_G) (cy : Nat → ClassId) (A : Nat → Prop) (X : State → Prop) (hst : mk_St A X) (hXT : ∀ U : State, X U → TB U) (e0 : Nat) (tk : Nat → Nat) (hXE : ∀ U : State, X U → ES e0 tk A U) (G : Nat → Option va_E) (k ks ss vs : Nat) (g1 : Nat → Option Nat) (h0 : G k = some (.inr (13, [.ref ks, .ref ss, .ref vs, .int 1]))) (h1 : G ks = some (.inl (cy 5, 2001, .inr (.inr (.inr (.inr (va_up g1 0 (some (tk 2))))))))) : Met l yX12_kind [.code yX12_kind cX12_kind 3 (some (.object "DescribeText$Token"))] ({ frames := 0, cells := 0, slots := 0, locals := 0 }) (mk_Pre D vwCl (tyL cy) A X G [.ref k, .int 0]) (va_Qq (fun (r : Option Nat) (G2 : Nat → Option va_E) => r = some (tk 2) ∧ G2 = G) (mk_B D vwCl A) A) 0 0 A := by
  refine Met.ofW (cc := cX12_kind) (maxL := 3) (ret := (some (.object "DescribeText$Token"))) (by decide) rfl ?_
  intro p e s m args below meth c s₁ B hml hv
  obtain ⟨rfl, hG, hK, hA, hX⟩ := hv
  have hx := B.exec
  have hb := B.bytes
  have hr := B.returns
  have hlocks := B.notSynchronized
  have hT := hXT s hX
  have hown : s.vm.findClass RX12 = some m.cls := findClass_of_methodNamed B.named
  have hf_X12 : ∀ w ∈ u_ws RX12 TX12 4, w.before ([.ref k, .int 0] : List Value).toArray s = true := tb_list hT fX12
  have hS : va_S A s.heap s.heap [] := va_S.rf
  have hE := hXE s hX
  have hl := lv_entry ([.ref k, .int 0]) (n := 3) (Nat.le_of_ble_eq_true rfl)
  rw [lg_entry_eq]
  generalize (lg_sl ([.ref k, .int 0]) ++ List.replicate (3 - (lg_sl ([.ref k, .int 0])).length) Slot.unset).toArray = ls at hl ⊢
  have hl : lv_has ls 3 [(0, .ref k), (1, .int 0)] := hl
  refine lv_iload_n hx hb dX12_kind_0 rfl (lv_at hl 1 rfl) ?_
  refine lv_if_lt (tgt := 21) hx hb dX12_kind_1 (by decide) (fun c_1 => ?_) (fun c_1 => ?_)
  · skip
    exact absurd c_1 (by decide)
  · skip
    refine lv_iload_n hx hb dX12_kind_4 rfl (lv_at hl 1 rfl) ?_
    refine lv_aload_n hx hb dX12_kind_5 rfl (lv_at hl 0 rfl) ?_
    refine mm_get (v := .int 1) hx hb hf_X12 (fun _ h9 => h9) hown hK hG h0 rfl 3 (by decide) (tb_use hT tw_163) (fun _ h9 => h9) rfl dX12_kind_6 ?_
    refine lv_icmp_ge (tgt := 21) hx hb dX12_kind_9 (by decide) (fun c_9 => ?_) (fun c_9 => ?_)
    · skip
      exact absurd c_9 (by decide)
    · skip
      refine lv_iload_n hx hb dX12_kind_12 rfl (lv_at hl 1 rfl) ?_
      refine lv_aload_n hx hb dX12_kind_13 rfl (lv_at hl 0 rfl) ?_
      refine mm_get (v := .ref ks) hx hb hf_X12 (fun _ h9 => h9) hown hK hG h0 rfl 0 (by decide) (tb_use hT tw_160) (fun _ h9 => h9) rfl dX12_kind_14 ?_
      refine mm_alen (v := 2001) hx hb hK hG 5 h1 rfl rfl dX12_kind_17 ?_
      refine lv_icmp_lt (tgt := 25) hx hb dX12_kind_18 (by decide) (fun c_18 => ?_) (fun c_18 => ?_)
      · skip
        refine lv_aload_n hx hb dX12_kind_25 rfl (lv_at hl 0 rfl) ?_
        refine mm_get (v := .ref ks) hx hb hf_X12 (fun _ h9 => h9) hown hK hG h0 rfl 0 (by decide) (tb_use hT tw_160) (fun _ h9 => h9) rfl dX12_kind_26 ?_
        refine lv_iload_n hx hb dX12_kind_29 rfl (lv_at hl 1 rfl) ?_
        refine mm_aald hx hb hK hG 5 h1 rfl (vp_in_lt (m := 2001) (by decide) (by decide) rfl) dX12_kind_30 ?_
        refine W.eq (g2 := F0 m 31 ls [.ref (tk 2)]) rfl ?_
        refine lv_astore_n (lv' := [(2, .ref (tk 2)), (0, .ref k), (1, .int 0)]) hx hb dX12_kind_31 rfl hl (by decide) rfl (fun ls hl => ?_)
        refine lv_aload_n hx hb dX12_kind_32 rfl (lv_at hl 0 rfl) ?_
        refine lv_ifnonnull (tgt := 42) hx hb dX12_kind_33 (by decide) ?_
        refine lv_aload_n hx hb dX12_kind_42 rfl (lv_at hl 0 rfl) ?_
        exact W.aret (v := .ref (tk 2)) hx hb hr (Or.inl ⟨_, rfl⟩) (Or.inr ⟨_, rfl⟩) (fun t ht hW => ⟨⟨(some (tk 2)), _, rfl, ⟨rfl, rfl⟩, mk_end hG ht⟩, hS.F ht⟩) hS.2.2 dX12_kind_43
      · skip
        exact absurd (by decide) c_18

set_option maxHeartbeats 4000000 in
set_option maxRecDepth 100000 in
theorem c_X9_sees_e (l : Launch) (D : va_G) (cy : Nat → ClassId) (A : Nat → Prop) (X : State → Prop) (hst : mk_St A X) (hXT : ∀ U : State, X U → TB U) (e0 : Nat) (tk : Nat → Nat) (hXE : ∀ U : State, X U → ES e0 tk A U) (G : Nat → Option va_E) (o ow k ks ss vs : Nat) (ed : Option Nat) (g1 : Nat → Option Nat) (h0 : G k = some (.inr (13, [.ref ks, .ref ss, .ref vs, .int 1]))) (h1 : G ks = some (.inl (cy 5, 2001, .inr (.inr (.inr (.inr (va_up g1 0 (some (tk 2))))))))) (h5 : G o = some (.inr (10, [.ref k, .ref ow, va_rf ed, .int 0, .int (-1)]))) : Met l yX9_sees [.code yX9_sees cX9_sees 2 (some .boolean)] ({ frames := 1, cells := 0, slots := 0, locals := 30 }) (mk_Pre D vwCl (tyL cy) A X G [.ref o, .ref (tk 2)]) (va_Qi (fun (r : Int32) (G2 : Nat → Option va_E) => r = 1 ∧ G2 = G) (mk_B D vwCl A) A) 0 0 A := by
  refine Met.ofW (cc := cX9_sees) (maxL := 2) (ret := (some .boolean)) (by decide) rfl ?_
  intro p e s m args below meth c s₁ B hml hv
  obtain ⟨rfl, hG, hK, hA, hX⟩ := hv
  have hx := B.exec
  have hb := B.bytes
  have hr := B.returns
  have hlocks := B.notSynchronized
  have hT := hXT s hX
  have hown : s.vm.findClass RX9 = some m.cls := findClass_of_methodNamed B.named
  have hf_X9 : ∀ w ∈ u_ws RX9 TX9 5, w.before ([.ref o, .ref (tk 2)] : List Value).toArray s = true := tb_list hT fX9
  have hS : va_S A s.heap s.heap [] := va_S.rf
  have hE := hXE s hX
  have hl := lv_entry ([.ref o, .ref (tk 2)]) (n := 2) (Nat.le_of_ble_eq_true rfl)
  rw [lg_entry_eq]
  generalize (lg_sl ([.ref o, .ref (tk 2)]) ++ List.replicate (2 - (lg_sl ([.ref o, .ref (tk 2)])).length) Slot.unset).toArray = ls at hl ⊢
  have hl : lv_has ls 2 [(0, .ref o), (1, .ref (tk 2))] := hl
  refine lv_aload_n hx hb dX9_sees_0 rfl (lv_at hl 0 rfl) ?_
  refine mm_get (v := .int (-1)) hx hb hf_X9 (fun _ h9 => h9) hown hK hG h5 rfl 4 (by decide) (tb_use hT tw_181) (fun _ h9 => h9) rfl dX9_sees_1 ?_
  refine lv_if_ge (tgt := 26) hx hb dX9_sees_4 (by decide) (fun c_4 => ?_) (fun c_4 => ?_)
  · skip
    exact absurd c_4 (by decide)
  · skip
    refine lv_aload_n hx hb dX9_sees_7 rfl (lv_at hl 0 rfl) ?_
    refine mm_get (v := .ref k) hx hb hf_X9 (fun _ h9 => h9) hown hK hG h5 rfl 0 (by decide) (tb_use hT tw_177) (fun _ h9 => h9) rfl dX9_sees_8 ?_
    refine lv_aload_n hx hb dX9_sees_11 rfl (lv_at hl 0 rfl) ?_
    refine mm_get (v := .int 0) hx hb hf_X9 (fun _ h9 => h9) hown hK hG h5 rfl 3 (by decide) (tb_use hT tw_180) (fun _ h9 => h9) rfl dX9_sees_12 ?_
    refine va_callq (va_runV (As := [.int 0]) (rest := []) ⟨hx, hb, hml, hown, (fun _ h9 => absurd h9 List.not_mem_nil : ∀ w ∈ ([] : List Cond), w.before _ s = true)⟩ (c_X12_kind_e l D cy A X hst hXT e0 tk hXE G k ks ss vs g1 h0 h1) (tb_cw (C := RX12) 1 hT tw_441 tw_107 tw_438 tw_439 tw_440 rfl rfl (by decide +kernel) ⟨Nat.le_of_ble_eq_true rfl, Nat.le_of_ble_eq_true rfl⟩) (mk_preV hst hG hK hA hX hS (ci := 13) rfl h0) rfl rfl hl.1 rfl (lv_room (Nat.le_of_ble_eq_true rfl)) dX9_sees_15 ⟨Nat.le_of_ble_eq_true rfl, Nat.le_of_ble_eq_true rfl⟩) hS (fun q _ h => h) (fun q h => h) (fun r1 G2 t H1 locs ht hvm hw hB hz1 hk1 hS => ?_)
    have hG : mm D vwCl A G2 H1 := by rw [← ht]; exact hB
    clear hB hz1 hk1 hvm ht
    generalize H1 = H at hG hS ⊢
    obtain ⟨rfl, hw⟩ := hw
    rw [hw] at hG
    refine lv_aload_n hx hb dX9_sees_18 rfl (lv_at hl 1 rfl) ?_
    refine lv_acmp_ne (rx := some (tk 2)) (ry := some (tk 2)) (tgt := 26) hx hb dX9_sees_19 (by decide) (fun c_19 => ?_) (fun c_19 => ?_)
    · skip
      exact absurd rfl c_19
    · skip
      refine lv_iconst (v := 1) hx hb dX9_sees_22 (by decide) ?_
      refine lv_goto (tgt := 27) hx hb dX9_sees_23 (by decide) ?_
      exact W.zret (v := 1) hx hb hr rfl (fun t ht hW => ⟨⟨_, _, rfl, ⟨rfl, rfl⟩, mk_end hG ht⟩, hS.F ht⟩) hS.2.2 dX9_sees_27

set_option maxHeartbeats 4000000 in
set_option maxRecDepth 100000 in
theorem c_X9_noteNames_e (l : Launch) (D : va_G) (cy : Nat → ClassId) (A : Nat → Prop) (X : State → Prop) (hst : mk_St A X) (hXT : ∀ U : State, X U → TB U) (e0 : Nat) (tk : Nat → Nat) (hXE : ∀ U : State, X U → ES e0 tk A U) (G : Nat → Option va_E) (o ow k ks ss vs : Nat) (ed : Option Nat) (g1 : Nat → Option Nat) (h0 : G k = some (.inr (13, [.ref ks, .ref ss, .ref vs, .int 1]))) (h1 : G ks = some (.inl (cy 5, 2001, .inr (.inr (.inr (.inr (va_up g1 0 (some (tk 2))))))))) (h5 : G o = some (.inr (10, [.ref k, .ref ow, va_rf ed, .int 0, .int (-1)]))) : Met l yX9_noteNames [.code yX9_noteNames cX9_noteNames 2 none] ({ frames := 1, cells := 0, slots := 0, locals := 30 }) (mk_Pre D vwCl (tyL cy) A X G [.ref o]) (va_Qv (fun (G2 : Nat → Option va_E) => G2 = G) (mk_B D vwCl A) A) 0 0 A := by
  refine Met.ofW (cc := cX9_noteNames) (maxL := 2) (ret := none) (by decide) rfl ?_
  intro p e s m args below meth c s₁ B hml hv
  obtain ⟨rfl, hG, hK, hA, hX⟩ := hv
  have hx := B.exec
  have hb := B.bytes
  have hr := B.returns
  have hlocks := B.notSynchronized
  have hT := hXT s hX
  have hown : s.vm.findClass RX9 = some m.cls := findClass_of_methodNamed B.named
  have hf_X9 : ∀ w ∈ u_ws RX9 TX9 5, w.before ([.ref o] : List Value).toArray s = true := tb_list hT fX9
  have hf_X12 : ∀ w ∈ u_ws RX12 TX12 4, w.before ([.ref o] : List Value).toArray s = true := tb_list hT fX12
  have hS : va_S A s.heap s.heap [] := va_S.rf
  have hE := hXE s hX
  have hl := lv_entry ([.ref o]) (n := 2) (Nat.le_of_ble_eq_true rfl)
  rw [lg_entry_eq]
  generalize (lg_sl ([.ref o]) ++ List.replicate (2 - (lg_sl ([.ref o])).length) Slot.unset).toArray = ls at hl ⊢
  have hl : lv_has ls 2 [(0, .ref o)] := hl
  refine lv_iconst (v := 0) hx hb dX9_noteNames_0 (by decide) ?_
  refine lv_istore_n (lv' := [(1, .int 0), (0, .ref o)]) hx hb dX9_noteNames_1 rfl hl (by decide) rfl (fun ls hl => ?_)
  refine lv_iload_n hx hb dX9_noteNames_2 rfl (lv_at hl 0 rfl) ?_
  refine lv_aload_n hx hb dX9_noteNames_3 rfl (lv_at hl 1 rfl) ?_
  refine mm_get (v := .ref k) hx hb hf_X9 (fun _ h9 => h9) hown hK hG h5 rfl 0 (by decide) (tb_use hT tw_177) (fun _ h9 => h9) rfl dX9_noteNames_4 ?_
  refine mm_getN (v := .int 1) hx hb hf_X12 (fun _ h9 => h9) hown hK hG h0 rfl 3 (by decide) (tb_use hT tw_164) (fun _ h9 => h9) rfl dX9_noteNames_7 ?_
  refine lv_icmp_ge (tgt := 55) hx hb dX9_noteNames_10 (by decide) (fun c_10 => ?_) (fun c_10 => ?_)
  · skip
    exact absurd c_10 (by decide)
  · skip
    refine lv_aload_n hx hb dX9_noteNames_13 rfl (lv_at hl 1 rfl) ?_
    refine mm_get (v := .int (-1)) hx hb hf_X9 (fun _ h9 => h9) hown hK hG h5 rfl 4 (by decide) (tb_use hT tw_181) (fun _ h9 => h9) rfl dX9_noteNames_14 ?_
    refine lv_if_ge (tgt := 55) hx hb dX9_noteNames_17 (by decide) (fun c_17 => ?_) (fun c_17 => ?_)
    · skip
      exact absurd c_17 (by decide)
    · skip
      refine lv_aload_n hx hb dX9_noteNames_20 rfl (lv_at hl 1 rfl) ?_
      refine mm_get (v := .ref k) hx hb hf_X9 (fun _ h9 => h9) hown hK hG h5 rfl 0 (by decide) (tb_use hT tw_177) (fun _ h9 => h9) rfl dX9_noteNames_21 ?_
      refine lv_iload_n hx hb dX9_noteNames_24 rfl (lv_at hl 0 rfl) ?_
      refine va_callq (va_runV (As := [.int 0]) (rest := []) ⟨hx, hb, hml, hown, (fun _ h9 => absurd h9 List.not_mem_nil : ∀ w ∈ ([] : List Cond), w.before _ s = true)⟩ (c_X12_kind_e l D cy A X hst hXT e0 tk hXE G k ks ss vs g1 h0 h1) (tb_cw (C := RX12) 1 hT tw_441 tw_107 tw_438 tw_439 tw_440 rfl rfl (by decide +kernel) ⟨Nat.le_of_ble_eq_true rfl, Nat.le_of_ble_eq_true rfl⟩) (mk_preV hst hG hK hA hX hS (ci := 13) rfl h0) rfl rfl hl.1 rfl (lv_room (Nat.le_of_ble_eq_true rfl)) dX9_noteNames_25 ⟨Nat.le_of_ble_eq_true rfl, Nat.le_of_ble_eq_true rfl⟩) hS (fun q _ h => h) (fun q h => h) (fun r1 G2 t H1 locs ht hvm hw hB hz1 hk1 hS => ?_)
      have hG : mm D vwCl A G2 H1 := by rw [← ht]; exact hB
      clear hB hz1 hk1 hvm ht
      generalize H1 = H at hG hS ⊢
      obtain ⟨rfl, hw⟩ := hw
      rw [hw] at hG
      refine va_gets (v := .ref (tk 0)) hx hb (show va_Z "DescribeText$Token" "NAME" "LDescribeText$Token;" (.ref (tk 0)) A s s.heap from (hE.2.1 0 (by decide)).1) hS hown (tb_use hT tw_480) (fun _ h9 => h9) dX9_noteNames_28 ?_
      refine lv_acmp_ne (rx := some (tk 2)) (ry := some (tk 0)) (tgt := 49) hx hb dX9_noteNames_31 (by decide) (fun c_31 => ?_) (fun c_31 => ?_)
      · skip
        obtain ⟨x3, ex3⟩ : ∃ y : Int32, y = 0 + 1 := ⟨_, rfl⟩
        refine lv_iinc (v := x3) (lv' := [(1, .int x3), (0, .ref o)]) hx hb dX9_noteNames_49 hl (k := 0) rfl (by rw [ex3]; rfl) (by decide) rfl (fun ls hl => ?_)
        refine lv_goto (tgt := 2) hx hb dX9_noteNames_52 (by decide) ?_
        refine lv_iload_n hx hb dX9_noteNames_2 rfl (lv_at hl 0 rfl) ?_
        refine lv_aload_n hx hb dX9_noteNames_3 rfl (lv_at hl 1 rfl) ?_
        refine mm_get (v := .ref k) hx hb hf_X9 (fun _ h9 => h9) hown hK hG h5 rfl 0 (by decide) (tb_use hT tw_177) (fun _ h9 => h9) rfl dX9_noteNames_4 ?_
        refine mm_getN (v := .int 1) hx hb hf_X12 (fun _ h9 => h9) hown hK hG h0 rfl 3 (by decide) (tb_use hT tw_164) (fun _ h9 => h9) rfl dX9_noteNames_7 ?_
        refine lv_icmp_ge (tgt := 55) hx hb dX9_noteNames_10 (by decide) (fun c_10 => ?_) (fun c_10 => ?_)
        · skip
          exact W.vret hx hb hr (fun t ht hW => ⟨⟨_, rfl, rfl, mk_end hG ht⟩, hS.F ht⟩) hS.2.2 dX9_noteNames_55
        · skip
          exact absurd (by rw [ex3]; decide) c_10
      · skip
        exact absurd (hE.2.2 2 0 (by decide) (by decide) (Option.some.inj c_31)) (by decide)

set_option maxHeartbeats 4000000 in
set_option maxRecDepth 100000 in
theorem c_X9_fill_e (l : Launch) (D : va_G) (cy : Nat → ClassId) (A : Nat → Prop) (X : State → Prop) (hst : mk_St A X) (hXT : ∀ U : State, X U → TB U) (e0 : Nat) (tk : Nat → Nat) (hXE : ∀ U : State, X U → ES e0 tk A U) (G : Nat → Option va_E) (o ow k ks ss vs tx ev : Nat) (ed : Option Nat) (pl fa n : Int32) (f1 : Nat → Option Nat) (f2 f : Nat → Int32) (f3 : Nat → Int64) (h5 : G o = some (.inr (10, [.ref k, .ref ow, va_rf ed, .int pl, .int fa]))) (h0 : G k = some (.inr (13, [.ref ks, .ref ss, .ref vs, .int n]))) (h1 : G ks = some (.inl (cy 5, 2001, .inr (.inr (.inr (.inr f1)))))) (h2 : G ss = some (.inl (cy 1, 2001, .inl f2))) (h3 : G vs = some (.inl (cy 2, 2001, .inr (.inl f3)))) (h4 : G tx = some (.inl (cy 0, 2000, .inl f))) : Met l yX9_fill [.code yX9_fill cX9_fill 5 (some .int)] ({ frames := 2, cells := 0, slots := 0, locals := 60 }) (mk_Pre D vwCl (tyL cy) A X G [.ref o, .ref ev, .ref tx, .int 0]) (va_Qi (fun (r : Int32) (G2 : Nat → Option va_E) => r = -1 ∧ ∀ (x : Nat) (e : va_E), G x = some e → x ≠ o → x ≠ k → x ≠ ks → x ≠ ss → x ≠ vs → G2 x = some e) (mk_B D vwCl A) A) 0 0 A := by
  refine Met.ofW (cc := cX9_fill) (maxL := 5) (ret := (some .int)) (by decide) rfl ?_
  intro p e s m args below meth c s₁ B hml hv
  obtain ⟨rfl, hG, hK, hA, hX⟩ := hv
  have hx := B.exec
  have hb := B.bytes
  have hr := B.returns
  have hlocks := B.notSynchronized
  have hT := hXT s hX
  have hown : s.vm.findClass RX9 = some m.cls := findClass_of_methodNamed B.named
  have hf_X9 : ∀ w ∈ u_ws RX9 TX9 5, w.before ([.ref o, .ref ev, .ref tx, .int 0] : List Value).toArray s = true := tb_list hT fX9
  have hf_X12 : ∀ w ∈ u_ws RX12 TX12 4, w.before ([.ref o, .ref ev, .ref tx, .int 0] : List Value).toArray s = true := tb_list hT fX12
  have hS : va_S A s.heap s.heap [] := va_S.rf
  have hE := hXE s hX
  have hl := lv_entry ([.ref o, .ref ev, .ref tx, .int 0]) (n := 5) (Nat.le_of_ble_eq_true rfl)
  rw [lg_entry_eq]
  generalize (lg_sl ([.ref o, .ref ev, .ref tx, .int 0]) ++ List.replicate (5 - (lg_sl ([.ref o, .ref ev, .ref tx, .int 0])).length) Slot.unset).toArray = ls at hl ⊢
  have hl : lv_has ls 5 [(0, .ref o), (1, .ref ev), (2, .ref tx), (3, .int 0)] := hl
  refine lv_aload_n hx hb dX9_fill_0 rfl (lv_at hl 0 rfl) ?_
  refine mm_get (v := .ref k) hx hb hf_X9 (fun _ h9 => h9) hown hK hG h5 rfl 0 (by decide) (tb_use hT tw_177) (fun _ h9 => h9) rfl dX9_fill_1 ?_
  refine lv_aload_n hx hb dX9_fill_4 rfl (lv_at hl 2 rfl) ?_
  refine lv_iload_n hx hb dX9_fill_5 rfl (lv_at hl 3 rfl) ?_
  refine va_callv (va_runV (As := [.ref tx, .int 0]) (rest := []) ⟨hx, hb, hml, hown, (fun _ h9 => absurd h9 List.not_mem_nil : ∀ w ∈ ([] : List Cond), w.before _ s = true)⟩ (c_X12_cut_e l D cy A X hst hXT e0 tk hXE G k ks ss vs n f1 f2 f3 tx f h0 h1 h2 h3 h4) (tb_cw (C := RX12) 2 hT tw_332 tw_107 tw_329 tw_330 tw_331 rfl rfl (by decide +kernel) ⟨Nat.le_of_ble_eq_true rfl, Nat.le_of_ble_eq_true rfl⟩) (mk_preV hst hG hK hA hX hS (ci := 13) rfl h0) rfl rfl hl.1 rfl (lv_room (Nat.le_of_ble_eq_true rfl)) dX9_fill_6 ⟨Nat.le_of_ble_eq_true rfl, Nat.le_of_ble_eq_true rfl⟩) hS (fun q _ h => h) (fun q h => h) (fun  G1 t H1 locs ht hvm hw hB hz1 hk1 hS => ?_)
  have hG : mm D vwCl A G1 H1 := by rw [← ht]; exact hB
  clear hB hz1 hk1 hvm ht
  generalize H1 = H at hG hS ⊢
  obtain ⟨h2_0, ⟨g1, h2_1⟩, ⟨g2, h2_2⟩, ⟨g3, h2_3⟩, h2_f⟩ := hw
  have k3 : G1 o = some (.inr (10, [.ref k, .ref ow, va_rf ed, .int pl, .int fa])) := h2_f _ _ h5 (mm_ne_oo h5 h0 (by decide)) (mm_ne_oa h5 h1) (mm_ne_oa h5 h2) (mm_ne_oa h5 h3)
  have k4 : G1 tx = some (.inl (cy 0, 2000, .inl f)) := h2_f _ _ h4 (mm_ne_ao h4 h0) (mm_ne_e h4 h1 (fun z => by have z2 := (Prod.mk.inj (Prod.mk.inj (Sum.inl.inj z)).2).2; cases z2)) (mm_ne_n h4 h2 (by decide)) (mm_ne_e h4 h3 (fun z => by have z2 := (Prod.mk.inj (Prod.mk.inj (Sum.inl.inj z)).2).2; cases z2))
  refine lv_aload_n hx hb dX9_fill_9 rfl (lv_at hl 0 rfl) ?_
  refine lv_aload_n hx hb dX9_fill_10 rfl (lv_at hl 1 rfl) ?_
  refine mm_put (v := .ref ev) (ty := .object "DescribeText$Edition") hx hb hf_X9 (fun _ h9 => h9) tyX9 tyX9_ok nmX9 hown hK hG hS k3 rfl 2 (by decide) (tb_use hT tw_179) (fun _ h9 => h9) rfl (by decide +kernel) rfl rfl (Nat.le_of_ble_eq_true rfl) dX9_fill_11 (fun H locs hG hS => ?_)
  obtain ⟨G5, eG5⟩ : ∃ g, g = mm_set G1 o (.inr (10, [.ref k, .ref ow, .ref ev, .int pl, .int fa])) := ⟨_, rfl⟩
  have hG : mm D vwCl A G5 H := by rw [eG5]; exact hG
  have k6 : G5 o = some (.inr (10, [.ref k, .ref ow, .ref ev, .int pl, .int fa])) := by rw [eG5]; exact mm_set_self
  have k7 : G5 tx = some (.inl (cy 0, 2000, .inl f)) := by rw [eG5]; exact mm_set_of k4 (mm_ne_ao k4 k3)
  have k8 : G5 k = some (.inr (13, [.ref ks, .ref ss, .ref vs, .int 1])) := by rw [eG5]; exact mm_set_of h2_0 (mm_ne_oo h2_0 k3 (by decide))
  have k9 : G5 ks = some (.inl (cy 5, 2001, .inr (.inr (.inr (.inr (va_up g1 0 (some (tk 2)))))))) := by rw [eG5]; exact mm_set_of h2_1 (mm_ne_ao h2_1 k3)
  have k10 : G5 ss = some (.inl (cy 1, 2001, .inl g2)) := by rw [eG5]; exact mm_set_of h2_2 (mm_ne_ao h2_2 k3)
  have k11 : G5 vs = some (.inl (cy 2, 2001, .inr (.inl g3))) := by rw [eG5]; exact mm_set_of h2_3 (mm_ne_ao h2_3 k3)
  refine lv_aload_n hx hb dX9_fill_14 rfl (lv_at hl 0 rfl) ?_
  refine lv_iconst (v := 0) hx hb dX9_fill_15 (by decide) ?_
  refine mm_put (v := .int 0) (ty := .int) hx hb hf_X9 (fun _ h9 => h9) tyX9 tyX9_ok nmX9 hown hK hG hS k6 rfl 3 (by decide) (tb_use hT tw_180) (fun _ h9 => h9) rfl (by decide +kernel) rfl rfl (Nat.le_of_ble_eq_true rfl) dX9_fill_16 (fun H locs hG hS => ?_)
  obtain ⟨G12, eG12⟩ : ∃ g, g = mm_set G5 o (.inr (10, [.ref k, .ref ow, .ref ev, .int 0, .int fa])) := ⟨_, rfl⟩
  have hG : mm D vwCl A G12 H := by rw [eG12]; exact hG
  have k13 : G12 o = some (.inr (10, [.ref k, .ref ow, .ref ev, .int 0, .int fa])) := by rw [eG12]; exact mm_set_self
  have k14 : G12 tx = some (.inl (cy 0, 2000, .inl f)) := by rw [eG12]; exact mm_set_of k7 (mm_ne_ao k7 k6)
  have k15 : G12 k = some (.inr (13, [.ref ks, .ref ss, .ref vs, .int 1])) := by rw [eG12]; exact mm_set_of k8 (mm_ne_oo k8 k6 (by decide))
  have k16 : G12 ks = some (.inl (cy 5, 2001, .inr (.inr (.inr (.inr (va_up g1 0 (some (tk 2)))))))) := by rw [eG12]; exact mm_set_of k9 (mm_ne_ao k9 k6)
  have k17 : G12 ss = some (.inl (cy 1, 2001, .inl g2)) := by rw [eG12]; exact mm_set_of k10 (mm_ne_ao k10 k6)
  have k18 : G12 vs = some (.inl (cy 2, 2001, .inr (.inl g3))) := by rw [eG12]; exact mm_set_of k11 (mm_ne_ao k11 k6)
  refine lv_aload_n hx hb dX9_fill_19 rfl (lv_at hl 0 rfl) ?_
  refine lv_iconst (v := (-1)) hx hb dX9_fill_20 (by decide) ?_
  refine mm_put (v := .int (-1)) (ty := .int) hx hb hf_X9 (fun _ h9 => h9) tyX9 tyX9_ok nmX9 hown hK hG hS k13 rfl 4 (by decide) (tb_use hT tw_181) (fun _ h9 => h9) rfl (by decide +kernel) rfl rfl (Nat.le_of_ble_eq_true rfl) dX9_fill_21 (fun H locs hG hS => ?_)
  obtain ⟨G19, eG19⟩ : ∃ g, g = mm_set G12 o (.inr (10, [.ref k, .ref ow, .ref ev, .int 0, .int (-1)])) := ⟨_, rfl⟩
  have hG : mm D vwCl A G19 H := by rw [eG19]; exact hG
  have k20 : G19 o = some (.inr (10, [.ref k, .ref ow, .ref ev, .int 0, .int (-1)])) := by rw [eG19]; exact mm_set_self
  have k21 : G19 tx = some (.inl (cy 0, 2000, .inl f)) := by rw [eG19]; exact mm_set_of k14 (mm_ne_ao k14 k13)
  have k22 : G19 k = some (.inr (13, [.ref ks, .ref ss, .ref vs, .int 1])) := by rw [eG19]; exact mm_set_of k15 (mm_ne_oo k15 k13 (by decide))
  have k23 : G19 ks = some (.inl (cy 5, 2001, .inr (.inr (.inr (.inr (va_up g1 0 (some (tk 2)))))))) := by rw [eG19]; exact mm_set_of k16 (mm_ne_ao k16 k13)
  have k24 : G19 ss = some (.inl (cy 1, 2001, .inl g2)) := by rw [eG19]; exact mm_set_of k17 (mm_ne_ao k17 k13)
  have k25 : G19 vs = some (.inl (cy 2, 2001, .inr (.inl g3))) := by rw [eG19]; exact mm_set_of k18 (mm_ne_ao k18 k13)
  refine lv_iconst (v := 0) hx hb dX9_fill_24 (by decide) ?_
  refine lv_istore (lv' := [(4, .int 0), (0, .ref o), (1, .ref ev), (2, .ref tx), (3, .int 0)]) hx hb dX9_fill_25 hl (by decide) rfl (fun ls hl => ?_)
  refine lv_iload hx hb dX9_fill_27 (lv_at hl 0 rfl) ?_
  refine lv_aload_n hx hb dX9_fill_29 rfl (lv_at hl 1 rfl) ?_
  refine mm_get (v := .ref k) hx hb hf_X9 (fun _ h9 => h9) hown hK hG k20 rfl 0 (by decide) (tb_use hT tw_177) (fun _ h9 => h9) rfl dX9_fill_30 ?_
  refine mm_getN (v := .int 1) hx hb hf_X12 (fun _ h9 => h9) hown hK hG k22 rfl 3 (by decide) (tb_use hT tw_164) (fun _ h9 => h9) rfl dX9_fill_33 ?_
  refine lv_icmp_ge (tgt := 153) hx hb dX9_fill_36 (by decide) (fun c_36 => ?_) (fun c_36 => ?_)
  · skip
    exact absurd c_36 (by decide)
  · skip
    refine lv_aload_n hx hb dX9_fill_39 rfl (lv_at hl 1 rfl) ?_
    refine mm_get (v := .int (-1)) hx hb hf_X9 (fun _ h9 => h9) hown hK hG k20 rfl 4 (by decide) (tb_use hT tw_181) (fun _ h9 => h9) rfl dX9_fill_40 ?_
    refine lv_if_ge (tgt := 153) hx hb dX9_fill_43 (by decide) (fun c_43 => ?_) (fun c_43 => ?_)
    · skip
      exact absurd c_43 (by decide)
    · skip
      refine lv_aload_n hx hb dX9_fill_46 rfl (lv_at hl 1 rfl) ?_
      refine va_gets (v := .ref (tk 2)) hx hb (show va_Z "DescribeText$Token" "END" "LDescribeText$Token;" (.ref (tk 2)) A s s.heap from (hE.2.1 2 (by decide)).1) hS hown (tb_use hT tw_433) (fun _ h9 => h9) dX9_fill_47 ?_
      refine va_calli (va_runV (As := [.ref (tk 2)]) (rest := []) ⟨hx, hb, hml, hown, (fun _ h9 => absurd h9 List.not_mem_nil : ∀ w ∈ ([] : List Cond), w.before _ s = true)⟩ (c_X9_sees_e l D cy A X hst hXT e0 tk hXE G19 o ow k ks ss vs (some ev) g1 k22 k23 k20) (tb_cw (C := RX9) 1 hT tw_437 tw_106 tw_434 tw_436 tw_6 rfl rfl (by decide +kernel) ⟨Nat.le_of_ble_eq_true rfl, Nat.le_of_ble_eq_true rfl⟩) (mk_preV hst hG hK hA hX hS (ci := 10) rfl k20) rfl rfl hl.1 rfl (lv_room (Nat.le_of_ble_eq_true rfl)) dX9_fill_50 ⟨Nat.le_of_ble_eq_true rfl, Nat.le_of_ble_eq_true rfl⟩) hS (fun q _ h => h) (fun q h => h) (fun r26 G27 t H1 locs ht hvm hw hB hz1 hk1 hS => ?_)
      have hG : mm D vwCl A G27 H1 := by rw [← ht]; exact hB
      clear hB hz1 hk1 hvm ht
      generalize H1 = H at hG hS ⊢
      obtain ⟨er26, hw⟩ := hw
      rw [hw] at hG
      refine lv_if_ne (tgt := 153) hx hb dX9_fill_53 (by decide) (fun c_53 => ?_) (fun c_53 => ?_)
      · skip
        refine lv_aload_n hx hb dX9_fill_153 rfl (lv_at hl 1 rfl) ?_
        refine va_callv (va_runV (As := []) (rest := []) ⟨hx, hb, hml, hown, (fun _ h9 => absurd h9 List.not_mem_nil : ∀ w ∈ ([] : List Cond), w.before _ s = true)⟩ (c_X9_noteNames_e l D cy A X hst hXT e0 tk hXE G19 o ow k ks ss vs (some ev) g1 k22 k23 k20) (tb_cw (C := RX9) 0 hT tw_972 tw_106 tw_969 tw_971 tw_31 rfl rfl (by decide +kernel) ⟨Nat.le_of_ble_eq_true rfl, Nat.le_of_ble_eq_true rfl⟩) (mk_preV hst hG hK hA hX hS (ci := 10) rfl k20) rfl rfl hl.1 rfl (lv_room (Nat.le_of_ble_eq_true rfl)) dX9_fill_154 ⟨Nat.le_of_ble_eq_true rfl, Nat.le_of_ble_eq_true rfl⟩) hS (fun q _ h => h) (fun q h => h) (fun  G28 t H1 locs ht hvm hw hB hz1 hk1 hS => ?_)
        have hG : mm D vwCl A G28 H1 := by rw [← ht]; exact hB
        clear hB hz1 hk1 hvm ht
        generalize H1 = H at hG hS ⊢
        rw [hw] at hG
        refine lv_aload_n hx hb dX9_fill_157 rfl (lv_at hl 1 rfl) ?_
        refine mm_get (v := .int (-1)) hx hb hf_X9 (fun _ h9 => h9) hown hK hG k20 rfl 4 (by decide) (tb_use hT tw_181) (fun _ h9 => h9) rfl dX9_fill_158 ?_
        have hfr : ∀ (x : Nat) (e : va_E), G x = some e → x ≠ o → x ≠ k → x ≠ ks → x ≠ ss → x ≠ vs → G19 x = some e := by
          intro x e z0 n_o n_k n_ks n_ss n_vs
          have z1 : G1 x = some e := h2_f x e z0 n_k n_ks n_ss n_vs
          have z2 : G5 x = some e := by rw [eG5]; exact mm_set_of z1 n_o
          have z3 : G12 x = some e := by rw [eG12]; exact mm_set_of z2 n_o
          have z4 : G19 x = some e := by rw [eG19]; exact mm_set_of z3 n_o
          exact z4
        exact W.iret (v := (-1)) hx hb hr (fun t ht hW => ⟨⟨_, _, rfl, ⟨rfl, hfr⟩, mk_end hG ht⟩, hS.F ht⟩) hS.2.2 dX9_fill_161
      · skip
        exact absurd (by rw [er26] at c_53; exact c_53) (by decide)
