set_option maxHeartbeats 4000000 in
set_option maxRecDepth 100000 in
theorem c_X12_cutOne (l : Launch) (D : va_G) (cy : Nat → ClassId) (A : Nat → Prop) (X : State → Prop) (hst : mk_St A X) (hXT : ∀ U : State, X U → TB U) (e0 : Nat) (tk : Nat → Nat) (hXE : ∀ U : State, X U → ES e0 tk A U) (mi : Nat) (hXL : ∀ U : State, X U → EL e0 mi A U) (ax adK adV : Nat → Nat) (hXX : ∀ U : State, X U → TX ax adK adV tk A U) (G : Nat → Option va_E) (k ks ss vs m9 : Nat) (K : Nat → Nat) (S : Nat → Int32) (V : Nat → Int64) (tx a9 en9 : Nat) (ft : Nat → Int32) (hTB : TKB cy tk G k ks ss vs m9 K S V) (hm : m9 < 2001) (htx : G tx = some (.inl (cy 0, 2000, .inl ft))) (hae : a9 < en9) (hen : en9 ≤ 2000) : Met l yX12_cutOne [.code yX12_cutOne cX12_cutOne 5 (some .int)] ({ frames := 7, cells := 0, slots := 0, locals := 210 }) (mk_Pre D vwCl (tyL cy) A X G [.ref k, .ref tx, .int (nI a9), .int (nI en9)]) (va_Qi (fun (r : Int32) (G2 : Nat → Option va_E) => r = nI (c1R ft a9 en9).2 ∧ TKB cy tk G2 k ks ss vs (m9 + 1) (kup K m9 (c1R ft a9 en9).1.1) (kup S m9 (c1R ft a9 en9).1.2.1) (kup V m9 (c1R ft a9 en9).1.2.2) ∧ ∀ (x : Nat) (e : va_E), G x = some e → x ≠ k → x ≠ ks → x ≠ ss → x ≠ vs → G2 x = some e) (mk_B D vwCl A) A) 0 0 A := by
  refine Met.ofW (cc := cX12_cutOne) (maxL := 5) (ret := (some .int)) (by decide) rfl ?_
  intro p e s m args below meth c s₁ B hml hv
  obtain ⟨rfl, hG, hK, hA, hX⟩ := hv
  have hx := B.exec
  have hb := B.bytes
  have hr := B.returns
  have hlocks := B.notSynchronized
  have hT := hXT s hX
  have hown : s.vm.findClass RX12 = some m.cls := findClass_of_methodNamed B.named
  have hS : va_S A s.heap s.heap [] := va_S.rf
  have hE := hXE s hX
  have hl := lv_entry ([.ref k, .ref tx, .int (nI a9), .int (nI en9)]) (n := 5) (Nat.le_of_ble_eq_true rfl)
  rw [lg_entry_eq]
  generalize (lg_sl ([.ref k, .ref tx, .int (nI a9), .int (nI en9)]) ++ List.replicate (5 - (lg_sl ([.ref k, .ref tx, .int (nI a9), .int (nI en9)])).length) Slot.unset).toArray = ls at hl ⊢
  have hl : lv_has ls 5 [(0, .ref k), (1, .ref tx), (2, .int (nI a9)), (3, .int (nI en9))] := hl
  have hQ := hXX s hX
  obtain ⟨fa1, fa2, fa3, hk, -⟩ := id hTB
  refine lv_aload_n hx hb dX12_cutOne_0 rfl (lv_at hl 1 rfl) ?_
  refine lv_iload_n hx hb dX12_cutOne_1 rfl (lv_at hl 2 rfl) ?_
  refine mm_bald hx hb hK hG 0 htx rfl (nI_in (c := a9) (N := 2000) (by omega) (by decide)) dX12_cutOne_2 ?_
  refine lv_topi (fun x21 ex21 => ?_)
  refine va_calli (va_runS (As := [.int x21]) (rest := []) ⟨hx, hb, hml, hown, (fun _ h9 => absurd h9 List.not_mem_nil : ∀ w ∈ ([] : List Cond), w.before _ s = true)⟩ (c_X12_isLetter l D cy A X hst hXT e0 tk hXE G x21) (tb_cs 1 hT tw_345 tw_107 tw_343 tw_344 rfl rfl hq_X12_isLetter ⟨Nat.le_of_ble_eq_true rfl, Nat.le_of_ble_eq_true rfl⟩) (mk_preS hst hG hK hA hX hS) rfl rfl hl.1 rfl (lv_room (Nat.le_of_ble_eq_true rfl)) dX12_cutOne_3 ⟨Nat.le_of_ble_eq_true rfl, Nat.le_of_ble_eq_true rfl⟩) hS (fun q _ h => h) (fun q h => h) (fun r22 G23 t H locs ht hvm hw hB hz1 hk1 hS => ?_)
  have hG : mm D vwCl A G23 H := by rw [← ht]; exact hB
  clear hB hz1 hk1 hvm ht
  obtain ⟨er22, hw⟩ := hw
  rw [hw] at hG
  have h6 : r22 = b2i (isLe (ft a9)) := by rw [er22, ex21, nI_clamp (n := a9) (by omega)]
  refine lv_if_eq (tgt := 17) hx hb dX12_cutOne_6 (by decide) (fun c_6 => ?_) (fun c_6 => ?_)
  · skip
    refine lv_aload_n hx hb dX12_cutOne_17 rfl (lv_at hl 1 rfl) ?_
    refine lv_iload_n hx hb dX12_cutOne_18 rfl (lv_at hl 2 rfl) ?_
    refine mm_bald hx hb hK hG 0 htx rfl (nI_in (c := a9) (N := 2000) (by omega) (by decide)) dX12_cutOne_19 ?_
    refine lv_topi (fun x24 ex24 => ?_)
    refine va_calli (va_runS (As := [.int x24]) (rest := []) ⟨hx, hb, hml, hown, (fun _ h9 => absurd h9 List.not_mem_nil : ∀ w ∈ ([] : List Cond), w.before _ s = true)⟩ (c_X12_isDigit l D cy A X hst hXT e0 tk hXE G x24) (tb_cs 1 hT tw_352 tw_107 tw_350 tw_351 rfl rfl hq_X12_isDigit ⟨Nat.le_of_ble_eq_true rfl, Nat.le_of_ble_eq_true rfl⟩) (mk_preS hst hG hK hA hX hS) rfl rfl hl.1 rfl (lv_room (Nat.le_of_ble_eq_true rfl)) dX12_cutOne_20 ⟨Nat.le_of_ble_eq_true rfl, Nat.le_of_ble_eq_true rfl⟩) hS (fun q _ h => h) (fun q h => h) (fun r25 G26 t H locs ht hvm hw hB hz1 hk1 hS => ?_)
    have hG : mm D vwCl A G26 H := by rw [← ht]; exact hB
    clear hB hz1 hk1 hvm ht
    obtain ⟨er25, hw⟩ := hw
    rw [hw] at hG
    have h23 : r25 = b2i (isDi (ft a9)) := by rw [er25, ex24, nI_clamp (n := a9) (by omega)]
    refine lv_if_eq (tgt := 34) hx hb dX12_cutOne_23 (by decide) (fun c_23 => ?_) (fun c_23 => ?_)
    · skip
      refine lv_aload_n hx hb dX12_cutOne_34 rfl (lv_at hl 1 rfl) ?_
      refine lv_iload_n hx hb dX12_cutOne_35 rfl (lv_at hl 2 rfl) ?_
      refine lv_iload_n hx hb dX12_cutOne_36 rfl (lv_at hl 2 rfl) ?_
      refine lv_iconst (v := 1) hx hb dX12_cutOne_37 (by decide) ?_
      refine lv_iadd hx hb dX12_cutOne_38 ?_
      rw [← nI_succ a9]
      refine va_callq (va_runS (As := [.ref tx, .int (nI a9), .int (nI (a9 + 1))]) (rest := []) ⟨hx, hb, hml, hown, (fun _ h9 => absurd h9 List.not_mem_nil : ∀ w ∈ ([] : List Cond), w.before _ s = true)⟩ (c_X11_standing l D cy A X hst hXT e0 tk hXE mi hXL ax adK adV hXX G tx a9 (a9 + 1) ft htx (by omega) (by omega)) (tb_cs 3 hT tw_366 tw_116 tw_364 tw_365 rfl rfl hq_X11_standing ⟨Nat.le_of_ble_eq_true rfl, Nat.le_of_ble_eq_true rfl⟩) (mk_preS hst hG hK hA hX hS) rfl rfl hl.1 rfl (lv_room (Nat.le_of_ble_eq_true rfl)) dX12_cutOne_39 ⟨Nat.le_of_ble_eq_true rfl, Nat.le_of_ble_eq_true rfl⟩) hS (fun q _ h => h) (fun q h => h) (fun r27 G28 t H locs ht hvm hw hB hz1 hk1 hS => ?_)
      have hG : mm D vwCl A G28 H := by rw [← ht]; exact hB
      clear hB hz1 hk1 hvm ht
      obtain ⟨er27, hw⟩ := hw
      rw [hw] at hG
      cases hfd : stF ft a9 (a9 + 1) with
      | none =>
        have z9 : r27 = none := by rw [er27]; show (stF ft a9 (a9 + 1)).map tk = _; rw [hfd]; rfl
        refine W.eq (g2 := F0 m 42 ls [.null]) (by rw [z9]; rfl) ?_
        refine lv_astoreN (lv' := [(4, .null), (0, .ref k), (1, .ref tx), (2, .int (nI a9)), (3, .int (nI en9))]) hx hb dX12_cutOne_42 hl (by decide) rfl (fun ls hl => ?_)
        refine lv_aloadN hx hb dX12_cutOne_44 (lv_at hl 0 rfl) ?_
        refine lv_ifnonnullN hx hb dX12_cutOne_46 ?_
        refine lv_aload_n hx hb dX12_cutOne_49 rfl (lv_at hl 1 rfl) ?_
        refine lv_iload_n hx hb dX12_cutOne_50 rfl (lv_at hl 3 rfl) ?_
        refine lv_iload_n hx hb dX12_cutOne_51 rfl (lv_at hl 4 rfl) ?_
        refine va_calli (va_runV (As := [.int (nI a9), .int (nI en9)]) (rest := []) ⟨hx, hb, hml, hown, (fun _ h9 => absurd h9 List.not_mem_nil : ∀ w ∈ ([] : List Cond), w.before _ s = true)⟩ (c_X12_stop l D cy A X hst hXT e0 tk hXE G k ks ss vs m9 K S V (nI a9) (nI en9) hTB (by omega)) (tb_cw (C := RX12) 2 hT tw_356 tw_107 tw_353 tw_355 tw_2 rfl rfl hq_X12_stop ⟨Nat.le_of_ble_eq_true rfl, Nat.le_of_ble_eq_true rfl⟩) (mk_preC hst hG hK hA hX hS vc_13 hk) rfl rfl hl.1 rfl (lv_room (Nat.le_of_ble_eq_true rfl)) dX12_cutOne_52 ⟨Nat.le_of_ble_eq_true rfl, Nat.le_of_ble_eq_true rfl⟩) hS (fun q _ h => h) (fun q h => h) (fun r29 G30 t H locs ht hvm hw hB hz1 hk1 hS => ?_)
        have hG : mm D vwCl A G30 H := by rw [← ht]; exact hB
        clear hB hz1 hk1 hvm ht
        obtain ⟨er29, hT2, hf2⟩ := hw
        have bh6 : isLe (ft a9) = false := by rw [h6] at c_6; revert c_6; cases isLe (ft a9) <;> simp [b2i]
        have bh23 : isDi (ft a9) = false := by rw [h23] at c_23; revert c_23; cases isDi (ft a9) <;> simp [b2i]
        have hz : c1R ft a9 en9 = ((3, nI a9, 0), en9) := by rw [c1R, if_neg (by rw [bh6]; decide), if_neg (by rw [bh23]; decide), hfd]
        exact W.iret (v := r29) hx hb hr (fun t ht hW => ⟨⟨_, _, rfl, (by rw [hz]; exact ⟨er29, hT2, hf2⟩), mk_end hG ht⟩, hS.F ht⟩) hS.2.2 dX12_cutOne_55
      | some wi =>
        have z9 : r27 = some (tk wi) := by rw [er27]; show (stF ft a9 (a9 + 1)).map tk = _; rw [hfd]; rfl
        have hwi := stF_lt hfd
        refine W.eq (g2 := F0 m 42 ls [.ref (tk wi)]) (by rw [z9]; rfl) ?_
        refine lv_astore (lv' := [(4, .ref (tk wi)), (0, .ref k), (1, .ref tx), (2, .int (nI a9)), (3, .int (nI en9))]) hx hb dX12_cutOne_42 hl (by decide) rfl (fun ls hl => ?_)
        refine lv_aload hx hb dX12_cutOne_44 (lv_at hl 0 rfl) ?_
        refine lv_ifnonnull (tgt := 56) hx hb dX12_cutOne_46 (by decide) ?_
        refine lv_aload_n hx hb dX12_cutOne_56 rfl (lv_at hl 1 rfl) ?_
        refine lv_aload hx hb dX12_cutOne_57 (lv_at hl 0 rfl) ?_
        refine lv_iload_n hx hb dX12_cutOne_59 rfl (lv_at hl 3 rfl) ?_
        refine lv_lconst (v := 0) hx hb dX12_cutOne_60 (by decide) ?_
        refine va_callv (va_runV (As := [.ref (tk wi), .int (nI a9), .long 0]) (rest := []) ⟨hx, hb, hml, hown, (fun _ h9 => absurd h9 List.not_mem_nil : ∀ w ∈ ([] : List Cond), w.before _ s = true)⟩ (c_TK_add l D cy A X hst hXT e0 tk hXE G k ks ss vs m9 K S V wi (nI a9) 0 hTB (by omega) (by first | decide | assumption)) (tb_cw (C := RX12) 3 hT tw_362 tw_107 tw_359 tw_361 tw_3 rfl rfl hq_X12_add ⟨Nat.le_of_ble_eq_true rfl, Nat.le_of_ble_eq_true rfl⟩) (mk_preC hst hG hK hA hX hS vc_13 hk) rfl rfl hl.1 rfl (lv_room (Nat.le_of_ble_eq_true rfl)) dX12_cutOne_61 ⟨Nat.le_of_ble_eq_true rfl, Nat.le_of_ble_eq_true rfl⟩) hS (fun q _ h => h) (fun q h => h) (fun  G31 t H locs ht hvm hw hB hz1 hk1 hS => ?_)
        have hG : mm D vwCl A G31 H := by rw [← ht]; exact hB
        clear hB hz1 hk1 hvm ht
        obtain ⟨hT2, hf2⟩ := hw
        refine lv_iload_n hx hb dX12_cutOne_64 rfl (lv_at hl 3 rfl) ?_
        refine lv_iconst (v := 1) hx hb dX12_cutOne_65 (by decide) ?_
        refine lv_iadd hx hb dX12_cutOne_66 ?_
        have bh6 : isLe (ft a9) = false := by rw [h6] at c_6; revert c_6; cases isLe (ft a9) <;> simp [b2i]
        have bh23 : isDi (ft a9) = false := by rw [h23] at c_23; revert c_23; cases isDi (ft a9) <;> simp [b2i]
        have hz : c1R ft a9 en9 = ((wi, nI a9, 0), a9 + 1) := by rw [c1R, if_neg (by rw [bh6]; decide), if_neg (by rw [bh23]; decide), hfd]
        exact W.iret (v := ((nI a9) + 1)) hx hb hr (fun t ht hW => ⟨⟨_, _, rfl, (by rw [hz]; exact ⟨nI_succ a9 ▸ rfl, hT2, hf2⟩), mk_end hG ht⟩, hS.F ht⟩) hS.2.2 dX12_cutOne_67
    · skip
      refine lv_aload_n hx hb dX12_cutOne_26 rfl (lv_at hl 0 rfl) ?_
      refine lv_aload_n hx hb dX12_cutOne_27 rfl (lv_at hl 1 rfl) ?_
      refine lv_iload_n hx hb dX12_cutOne_28 rfl (lv_at hl 2 rfl) ?_
      refine lv_iload_n hx hb dX12_cutOne_29 rfl (lv_at hl 3 rfl) ?_
      refine va_calli (va_runV (As := [.ref tx, .int (nI a9), .int (nI en9)]) (rest := []) ⟨hx, hb, hml, hown, (fun _ h9 => absurd h9 List.not_mem_nil : ∀ w ∈ ([] : List Cond), w.before _ s = true)⟩ (c_X12_cutNumber l D cy A X hst hXT e0 tk hXE G k ks ss vs m9 K S V tx a9 en9 ft hTB hm htx (by omega) hen) (tb_cw (C := RX12) 3 hT tw_427 tw_107 tw_424 tw_426 tw_5 rfl rfl hq_X12_cutNumber ⟨Nat.le_of_ble_eq_true rfl, Nat.le_of_ble_eq_true rfl⟩) (mk_preC hst hG hK hA hX hS vc_13 hk) rfl rfl hl.1 rfl (lv_room (Nat.le_of_ble_eq_true rfl)) dX12_cutOne_30 ⟨Nat.le_of_ble_eq_true rfl, Nat.le_of_ble_eq_true rfl⟩) hS (fun q _ h => h) (fun q h => h) (fun r32 G33 t H locs ht hvm hw hB hz1 hk1 hS => ?_)
      have hG : mm D vwCl A G33 H := by rw [← ht]; exact hB
      clear hB hz1 hk1 hvm ht
      obtain ⟨er32, hT2, hf2⟩ := hw
      have bh6 : isLe (ft a9) = false := by rw [h6] at c_6; revert c_6; cases isLe (ft a9) <;> simp [b2i]
      have bh23 : isDi (ft a9) = true := by rw [h23] at c_23; revert c_23; cases isDi (ft a9) <;> simp [b2i]
      have hz : c1R ft a9 en9 = cnR ft a9 en9 := by rw [c1R, if_neg (by rw [bh6]; decide), if_pos bh23]
      exact W.iret (v := r32) hx hb hr (fun t ht hW => ⟨⟨_, _, rfl, (by rw [hz]; exact ⟨er32, hT2, hf2⟩), mk_end hG ht⟩, hS.F ht⟩) hS.2.2 dX12_cutOne_33
  · skip
    refine lv_aload_n hx hb dX12_cutOne_9 rfl (lv_at hl 0 rfl) ?_
    refine lv_aload_n hx hb dX12_cutOne_10 rfl (lv_at hl 1 rfl) ?_
    refine lv_iload_n hx hb dX12_cutOne_11 rfl (lv_at hl 2 rfl) ?_
    refine lv_iload_n hx hb dX12_cutOne_12 rfl (lv_at hl 3 rfl) ?_
    refine va_calli (va_runV (As := [.ref tx, .int (nI a9), .int (nI en9)]) (rest := []) ⟨hx, hb, hml, hown, (fun _ h9 => absurd h9 List.not_mem_nil : ∀ w ∈ ([] : List Cond), w.before _ s = true)⟩ (c_X12_cutName l D cy A X hst hXT e0 tk hXE mi hXL ax adK adV hXX G k ks ss vs m9 K S V tx a9 en9 ft hTB hm htx (by omega) hen) (tb_cw (C := RX12) 3 hT tw_349 tw_107 tw_346 tw_348 tw_1 rfl rfl hq_X12_cutName ⟨Nat.le_of_ble_eq_true rfl, Nat.le_of_ble_eq_true rfl⟩) (mk_preC hst hG hK hA hX hS vc_13 hk) rfl rfl hl.1 rfl (lv_room (Nat.le_of_ble_eq_true rfl)) dX12_cutOne_13 ⟨Nat.le_of_ble_eq_true rfl, Nat.le_of_ble_eq_true rfl⟩) hS (fun q _ h => h) (fun q h => h) (fun r34 G35 t H locs ht hvm hw hB hz1 hk1 hS => ?_)
    have hG : mm D vwCl A G35 H := by rw [← ht]; exact hB
    clear hB hz1 hk1 hvm ht
    obtain ⟨er34, hT2, hf2⟩ := hw
    have bh6 : isLe (ft a9) = true := by rw [h6] at c_6; revert c_6; cases isLe (ft a9) <;> simp [b2i]
    have hz : c1R ft a9 en9 = nmR ft a9 en9 := by rw [c1R, if_pos bh6]
    exact W.iret (v := r34) hx hb hr (fun t ht hW => ⟨⟨_, _, rfl, (by rw [hz]; exact ⟨er34, hT2, hf2⟩), mk_end hG ht⟩, hS.F ht⟩) hS.2.2 dX12_cutOne_16
