set_option maxHeartbeats 4000000 in
set_option maxRecDepth 100000 in
theorem c_M_encode (l : Launch) (D : va_G) (cy : Nat → ClassId) (A : Nat → Prop) (X : State → Prop) (hst : mk_St A X) (hXT : ∀ U : State, X U → TB U) (G : Nat → Option va_E) (o : Nat) (Ar : Nat → Nat) (Iv : Nat → Int32) (F : Nat → Nat → Int32) (L : Nat → Nat → Int64) (ft : Nat → Int32) (en b9 n9 : Nat) (v9 : EdV) (nm : Int64 → Int32) (sl9 : Nat) (iv jv : Int32) (xv : Int64) (hM : MD cy G o Ar Iv F L) (hB : BK (tkK ft en) (tkV ft en) n9 F b9 v9) (hLS : LSv v9) (hVL : VLD v9) (hn30 : n9 < 2 ^ 30) (hb9 : b9 < 2) (hbk : Iv 42 = nI b9) (h43 : ¬ Iv 43 = 0) (hnm : ∀ r x, NMt (tkK ft en) (tkV ft en) n9 r x → r = nm x) (hWd : WDv v9) (hCB : CBv v9) (h68 : Iv 68 = nI sl9) (hsl : sl9 ≤ 64) : Met l yX14_encode [.code yX14_encode cX14_encode 15 (some .int)] ({ frames := 3, cells := 0, slots := 0, locals := 120 }) (mk_Pre D vwCl (tyL cy) A X G [.ref o, .int iv, .int jv, .long xv]) (va_Qi (fun (r : Int32) (G2 : Nat → Option va_E) => ∃ (I2 : Nat → Int32) (F2 : Nat → Nat → Int32) (L2 : Nat → Nat → Int64), MD cy G2 o Ar I2 F2 L2 ∧ MF G G2 o Ar ∧ (∀ j, ¬ j = 38 → ¬ j = 68 → I2 j = Iv j) ∧ I2 38 = 0 ∧ (∃ k, k ≤ 64 ∧ I2 68 = nI k) ∧ (∀ j, ¬ (j = 67 ∨ (71 ≤ j ∧ j ≤ 73)) → F2 j = F j) ∧ (∀ j, ¬ j = 70 → ¬ j = 74 → L2 j = L j)) (mk_B D vwCl A) A) 0 0 A := by
  refine Met.ofW (cc := cX14_encode) (maxL := 15) (ret := (some .int)) (by decide) rfl ?_
  intro p e s m args below meth c s₁ B hml hv
  obtain ⟨rfl, hG, hK, hA, hX⟩ := hv
  have hx := B.exec
  have hb := B.bytes
  have hr := B.returns
  have hlocks := B.notSynchronized
  have hT := hXT s hX
  have hown : s.vm.findClass RX14 = some m.cls := findClass_of_methodNamed B.named
  have hf_X14 : ∀ w ∈ u_ws RX14 TX14 76, w.before ([.ref o, .int iv, .int jv, .long xv] : List Value).toArray s = true := tb_list hT fX14
  have hS : va_S A s.heap s.heap [] := va_S.rf
  have hl := lv_entry ([.ref o, .int iv, .int jv, .long xv]) (n := 15) (Nat.le_of_ble_eq_true rfl)
  rw [lg_entry_eq]
  generalize (lg_sl ([.ref o, .int iv, .int jv, .long xv]) ++ List.replicate (15 - (lg_sl ([.ref o, .int iv, .int jv, .long xv])).length) Slot.unset).toArray = ls at hl ⊢
  have hl : lv_has ls 15 [(0, .ref o), (1, .int iv), (2, .int jv), (3, .long xv)] := hl
  have hF : MF G G o Ar := MF.rf
  refine lv_aload_n hx hb dX14_encode_0 rfl (lv_at hl 0 rfl) ?_
  refine lv_iconst (v := 0) hx hb dX14_encode_1 (by decide) ?_
  refine mm_put (v := .int 0) (ty := .int) hx hb hf_X14 (fun _ h9 => h9) tyX14 tyX14_ok nmX14 hown hK hG hS hM.1 rfl 38 (by decide) (tb_use hT tw_1429) (fun _ h9 => h9) rfl (by decide +kernel) rfl rfl (Nat.le_of_ble_eq_true rfl) dX14_encode_2 (fun H locs hG hS => ?_)
  have hM := MD.puti (k := 38) (v := 0) hM rfl
  have hF := hF.wo (e' := .inr (15, (mfs Ar Iv).set 38 (.int 0)))
  obtain ⟨I1, eI1⟩ : ∃ g, g = upd Iv 38 0 := ⟨_, rfl⟩
  rw [← eI1] at hM
  generalize mm_set _ _ _ = G2 at hG hM hF
  refine lv_aload_n hx hb dX14_encode_5 rfl (lv_at hl 0 rfl) ?_
  refine lv_iload_n hx hb dX14_encode_6 rfl (lv_at hl 1 rfl) ?_
  refine lv_iload_n hx hb dX14_encode_7 rfl (lv_at hl 2 rfl) ?_
  refine va_calli (va_runV (As := [.int iv, .int jv]) (rest := []) ⟨hx, hb, hml, hown, (fun _ h9 => absurd h9 List.not_mem_nil : ∀ w ∈ ([] : List Cond), w.before _ s = true)⟩ (c_M_isParam l D cy A X hst hXT G2 o Ar I1 F L b9 v9.nS v9.nP iv jv hM hb9 (by rw [eI1]; exact hbk) hB.2.2.1.1 hB.2.2.1.2.1 (fun s hs => ⟨(hB.2.2.1.2.2 s hs).2.2.2.1, (hB.2.2.1.2.2 s hs).2.2.2.2.1⟩)) (tb_cw (C := RX14) 2 hT tw_1818 tw_109 tw_1815 tw_1817 tw_95 rfl rfl (by decide +kernel) ⟨Nat.le_of_ble_eq_true rfl, Nat.le_of_ble_eq_true rfl⟩) (mk_preV hst hG hK hA hX hS (ci := 15) rfl hM.1) rfl rfl hl.1 rfl (lv_room (Nat.le_of_ble_eq_true rfl)) dX14_encode_8 ⟨Nat.le_of_ble_eq_true rfl, Nat.le_of_ble_eq_true rfl⟩) hS (fun q _ h => h) (fun q h => h) (fun r3 G4 t H1 locs ht hvm hw hB hz1 hk1 hS => ?_)
  have hG : mm D vwCl A G4 H1 := by rw [← ht]; exact hB
  clear hB hz1 hk1 hvm ht
  generalize H1 = H at hG hS ⊢
  obtain ⟨er3, hw⟩ := hw
  rw [hw] at hG
  refine lv_if_ne (tgt := 16) hx hb dX14_encode_11 (by decide) (fun c_11 => ?_) (fun c_11 => ?_)
  · skip
    have hsv : isPv I1 v9.nS v9.nP iv jv = true := b2i_t (by rw [← er3]; exact c_11)
    have hs16 := hB.2.2.1.2.1
    obtain ⟨s9, i9, hs9, hi9, hxs, hxi, ho9, hoi⟩ := isPv_ix (by omega) (fun s hs => by have y := (hB.2.2.1.2.2 s hs).2.2.2.2.1; omega) hsv
    have hp8 := (hB.2.2.1.2.2 s9 hs9).2.2.2.2.1
    have hpr := (hB.2.2.1.2.2 s9 hs9).2.2.2.2.2 i9 hi9
    have hsp : spO v9 iv jv = some (s9, i9) := by unfold spO; rw [show svO v9 iv = some s9 from ho9]; dsimp only; rw [show paO v9 s9 jv = some i9 from hoi]; rfl
    refine lv_bipush (v := 8) hx hb dX14_encode_16 (by decide) ?_
    refine lv_iload_n hx hb dX14_encode_18 rfl (lv_at hl 1 rfl) ?_
    refine lv_iconst (v := 1) hx hb dX14_encode_19 (by decide) ?_
    refine lv_isub hx hb dX14_encode_20 ?_
    refine lv_imul hx hb dX14_encode_21 ?_
    refine lv_iload_n hx hb dX14_encode_22 rfl (lv_at hl 2 rfl) ?_
    refine lv_iadd hx hb dX14_encode_23 ?_
    refine lv_iconst (v := 1) hx hb dX14_encode_24 (by decide) ?_
    refine lv_isub hx hb dX14_encode_25 ?_
    rw [show (((8 * (iv - 1)) + jv) - 1) = nI (8 * s9 + i9) by rw [hxs, hxi, show nI (s9 + 1) - 1 = nI s9 from nI_pred s9, show (8 : Int32) * nI s9 + nI (i9 + 1) = nI (8 * s9 + (i9 + 1)) from nI_ma 8 s9 (i9 + 1)]; exact nI_pred (8 * s9 + i9)]
    refine lv_istore (lv' := [(5, .int (nI (8 * s9 + i9))), (0, .ref o), (1, .int iv), (2, .int jv), (3, .long xv)]) hx hb dX14_encode_26 hl (by decide) rfl (fun ls hl => ?_)
    refine lv_aload_n hx hb dX14_encode_28 rfl (lv_at hl 1 rfl) ?_
    refine lv_aload_n hx hb dX14_encode_29 rfl (lv_at hl 1 rfl) ?_
    refine mm_get (v := .int (Iv 42)) hx hb hf_X14 (fun _ h9 => h9) hown hK hG hM.1 rfl 42 (by decide) (tb_use hT tw_1433) (fun _ h9 => h9) (by rw [eI1]; rfl) dX14_encode_30 ?_
    rw [show (Iv 42) = nI b9 from hbk]
    refine lv_aload_n hx hb dX14_encode_33 rfl (lv_at hl 1 rfl) ?_
    refine mm_get (v := .ref (Ar 25)) hx hb hf_X14 (fun _ h9 => h9) hown hK hG hM.1 rfl 25 (by decide) (tb_use hT tw_1416) (fun _ h9 => h9) rfl dX14_encode_34 ?_
    refine lv_sipush (v := 128) hx hb dX14_encode_37 (by decide) ?_
    refine lv_aload_n hx hb dX14_encode_40 rfl (lv_at hl 1 rfl) ?_
    refine mm_get (v := .int (Iv 42)) hx hb hf_X14 (fun _ h9 => h9) hown hK hG hM.1 rfl 42 (by decide) (tb_use hT tw_1433) (fun _ h9 => h9) (by rw [eI1]; rfl) dX14_encode_41 ?_
    rw [show (Iv 42) = nI b9 from hbk]
    refine lv_imul hx hb dX14_encode_44 ?_
    refine lv_iload hx hb dX14_encode_45 (lv_at hl 0 rfl) ?_
    refine lv_iadd hx hb dX14_encode_47 ?_
    refine mm_iald (n := 256) (f := F 25) hx hb hK hG 1 (hM.2.1 25 rfl) rfl (by rw [show (128 : Int32) * nI b9 + nI (8 * s9 + i9) = nI (128 * b9 + (8 * s9 + i9)) from nI_ma 128 b9 (8 * s9 + i9)]; exact nI_in (N := 256) (by omega) (by decide)) dX14_encode_48 ?_
    refine lv_topi (fun x5 ex5 => ?_)
    refine va_calli (va_runV (As := [.int (nI b9), .int x5]) (rest := []) ⟨hx, hb, hml, hown, (fun _ h9 => absurd h9 List.not_mem_nil : ∀ w ∈ ([] : List Cond), w.before _ s = true)⟩ (c_M_codingAt l D cy A X hst hXT G2 o Ar I1 F L b9 v9.nC x5 hM hb9 hB.1.1 hB.1.2.1) (tb_cw (C := RX14) 2 hT tw_1782 tw_109 tw_1779 tw_1781 tw_89 rfl rfl (by decide +kernel) ⟨Nat.le_of_ble_eq_true rfl, Nat.le_of_ble_eq_true rfl⟩) (mk_preV hst hG hK hA hX hS (ci := 15) rfl hM.1) rfl rfl hl.1 rfl (lv_room (Nat.le_of_ble_eq_true rfl)) dX14_encode_49 ⟨Nat.le_of_ble_eq_true rfl, Nat.le_of_ble_eq_true rfl⟩) hS (fun q _ h => h) (fun q h => h) (fun r6 G7 t H1 locs ht hvm hw hB hz1 hk1 hS => ?_)
    have hG : mm D vwCl A G7 H1 := by rw [← ht]; exact hB
    clear hB hz1 hk1 hvm ht
    generalize H1 = H at hG hS ⊢
    obtain ⟨er6, hw⟩ := hw
    rw [hw] at hG
    obtain ⟨c9, hc9, hcl⟩ := hVL.cd hp8 hs9 hi9
    have hc12 := hB.1.2.1
    have hxc : x5 = F 25 (128 * b9 + (8 * s9 + i9)) := by rw [ex5, show (128 : Int32) * nI b9 + nI (8 * s9 + i9) = nI (128 * b9 + (8 * s9 + i9)) from nI_ma 128 b9 (8 * s9 + i9), nI_clamp (by omega)]
    have hrc : r6 = nI c9 := by rw [er6, hxc]; exact (hB.1.at hn30 hpr.2.1).trans (by rw [hc9])
    rw [hrc]
    have hcd := cd_of (hB.1.2.2 c9 hcl).1
    have hcb := hCB c9 hcl
    refine lv_istore (lv' := [(6, .int (nI c9)), (5, .int (nI (8 * s9 + i9))), (0, .ref o), (1, .int iv), (2, .int jv), (3, .long xv)]) hx hb dX14_encode_52 hl (by decide) rfl (fun ls hl => ?_)
    refine lv_lload_n hx hb dX14_encode_54 rfl (lv_at hl 5 rfl) ?_
    refine lv_lstore (lv' := [(7, .long xv), (6, .int (nI c9)), (5, .int (nI (8 * s9 + i9))), (0, .ref o), (1, .int iv), (2, .int jv), (3, .long xv)]) hx hb dX14_encode_55 hl (by decide) rfl (fun ls hl => ?_)
    refine lv_aload_n hx hb dX14_encode_57 rfl (lv_at hl 3 rfl) ?_
    refine mm_get (v := .ref (Ar 11)) hx hb hf_X14 (fun _ h9 => h9) hown hK hG hM.1 rfl 11 (by decide) (tb_use hT tw_1402) (fun _ h9 => h9) rfl dX14_encode_58 ?_
    refine lv_bipush (v := 12) hx hb dX14_encode_61 (by decide) ?_
    refine lv_aload_n hx hb dX14_encode_63 rfl (lv_at hl 3 rfl) ?_
    refine mm_get (v := .int (Iv 42)) hx hb hf_X14 (fun _ h9 => h9) hown hK hG hM.1 rfl 42 (by decide) (tb_use hT tw_1433) (fun _ h9 => h9) (by rw [eI1]; rfl) dX14_encode_64 ?_
    rw [show (Iv 42) = nI b9 from hbk]
    refine lv_imul hx hb dX14_encode_67 ?_
    refine lv_iload hx hb dX14_encode_68 (lv_at hl 1 rfl) ?_
    refine lv_iadd hx hb dX14_encode_70 ?_
    refine mm_iald (n := 24) (f := F 11) hx hb hK hG 1 (hM.2.1 11 rfl) rfl (by rw [show (12 : Int32) * nI b9 + nI c9 = nI (12 * b9 + c9) from nI_ma 12 b9 c9]; exact nI_in (N := 24) (by omega) (by decide)) dX14_encode_71 ?_
    refine lv_topi (fun x8 ex8 => ?_)
    refine lv_iconst (v := 2) hx hb dX14_encode_72 (by decide) ?_
    refine lv_icmp_ne (tgt := 295) hx hb dX14_encode_73 (by decide) (fun c_73 => ?_) (fun c_73 => ?_)
    · skip
      refine lv_lconst (v := 1) hx hb dX14_encode_295 (by decide) ?_
      refine lv_bipush (v := 8) hx hb dX14_encode_296 (by decide) ?_
      refine lv_aload_n hx hb dX14_encode_298 rfl (lv_at hl 3 rfl) ?_
      refine mm_get (v := .ref (Ar 10)) hx hb hf_X14 (fun _ h9 => h9) hown hK hG hM.1 rfl 10 (by decide) (tb_use hT tw_1401) (fun _ h9 => h9) rfl dX14_encode_299 ?_
      refine lv_bipush (v := 12) hx hb dX14_encode_302 (by decide) ?_
      refine lv_aload_n hx hb dX14_encode_304 rfl (lv_at hl 3 rfl) ?_
      refine mm_get (v := .int (Iv 42)) hx hb hf_X14 (fun _ h9 => h9) hown hK hG hM.1 rfl 42 (by decide) (tb_use hT tw_1433) (fun _ h9 => h9) (by rw [eI1]; rfl) dX14_encode_305 ?_
      rw [show (Iv 42) = nI b9 from hbk]
      refine lv_imul hx hb dX14_encode_308 ?_
      refine lv_iload hx hb dX14_encode_309 (lv_at hl 1 rfl) ?_
      refine lv_iadd hx hb dX14_encode_311 ?_
      refine mm_iald (n := 24) (f := F 10) hx hb hK hG 1 (hM.2.1 10 rfl) rfl (by rw [show (12 : Int32) * nI b9 + nI c9 = nI (12 * b9 + c9) from nI_ma 12 b9 c9]; exact nI_in (N := 24) (by omega) (by decide)) dX14_encode_312 ?_
      refine lv_topi (fun x9 ex9 => ?_)
      refine lv_imul hx hb dX14_encode_313 ?_
      obtain ⟨x10, ex10⟩ : ∃ y, y = (1 : Int64) <<< (((8 * x9) : Int32).toInt64 &&& 63) := ⟨_, rfl⟩
      refine lv_lshl (v := x10) hx hb dX14_encode_314 ex10.symm ?_
      refine lv_lstore (lv' := [(9, .long x10), (7, .long xv), (6, .int (nI c9)), (5, .int (nI (8 * s9 + i9))), (0, .ref o), (1, .int iv), (2, .int jv), (3, .long xv)]) hx hb dX14_encode_315 hl (by decide) rfl (fun ls hl => ?_)
      refine lv_aload_n hx hb dX14_encode_317 rfl (lv_at hl 4 rfl) ?_
      refine mm_get (v := .ref (Ar 11)) hx hb hf_X14 (fun _ h9 => h9) hown hK hG hM.1 rfl 11 (by decide) (tb_use hT tw_1402) (fun _ h9 => h9) rfl dX14_encode_318 ?_
      refine lv_bipush (v := 12) hx hb dX14_encode_321 (by decide) ?_
      refine lv_aload_n hx hb dX14_encode_323 rfl (lv_at hl 4 rfl) ?_
      refine mm_get (v := .int (Iv 42)) hx hb hf_X14 (fun _ h9 => h9) hown hK hG hM.1 rfl 42 (by decide) (tb_use hT tw_1433) (fun _ h9 => h9) (by rw [eI1]; rfl) dX14_encode_324 ?_
      rw [show (Iv 42) = nI b9 from hbk]
      refine lv_imul hx hb dX14_encode_327 ?_
      refine lv_iload hx hb dX14_encode_328 (lv_at hl 2 rfl) ?_
      refine lv_iadd hx hb dX14_encode_330 ?_
      refine mm_iald (n := 24) (f := F 11) hx hb hK hG 1 (hM.2.1 11 rfl) rfl (by rw [show (12 : Int32) * nI b9 + nI c9 = nI (12 * b9 + c9) from nI_ma 12 b9 c9]; exact nI_in (N := 24) (by omega) (by decide)) dX14_encode_331 ?_
      refine lv_topi (fun x11 ex11 => ?_)
      refine lv_iconst (v := 1) hx hb dX14_encode_332 (by decide) ?_
      refine lv_icmp_ne (tgt := 340) hx hb dX14_encode_333 (by decide) (fun c_333 => ?_) (fun c_333 => ?_)
      · skip
        refine lv_iconst (v := 0) hx hb dX14_encode_340 (by decide) ?_
        refine lv_istore (lv' := [(11, .int 0), (9, .long x10), (7, .long xv), (6, .int (nI c9)), (5, .int (nI (8 * s9 + i9))), (0, .ref o), (1, .int iv), (2, .int jv), (3, .long xv)]) hx hb dX14_encode_341 hl (by decide) rfl (fun ls hl => ?_)
        refine lv_iload hx hb dX14_encode_343 (lv_at hl 0 rfl) ?_
        refine lv_if_eq (tgt := 376) hx hb dX14_encode_345 (by decide) (fun c_345 => ?_) (fun c_345 => ?_)
        · skip
          refine lv_lload hx hb dX14_encode_376 (lv_at hl 2 rfl) ?_
          refine lv_lconst (v := 0) hx hb dX14_encode_378 (by decide) ?_
          refine W.lcmp hx hb dX14_encode_379 ?_
          refine lv_if_lt (tgt := 391) hx hb dX14_encode_380 (by decide) (fun c_380 => ?_) (fun c_380 => ?_)
          · skip
            refine lv_iconst (v := 0) hx hb dX14_encode_391 (by decide) ?_
            exact W.iret (v := 0) hx hb hr (fun t ht hW => ⟨⟨_, _, rfl, ⟨I1, F, L, hM, hF, (fun j h1 h2 => by rw [eI1, pk_un h1]), (by rw [eI1, pk_us]), ⟨sl9, (by omega), (by rw [eI1, pk_un (by decide)]; exact h68)⟩, (fun _ _ => rfl), (fun _ _ _ => rfl)⟩, mk_end hG ht⟩, hS.F ht⟩) hS.2.2 dX14_encode_392
          · skip
            refine lv_lload hx hb dX14_encode_383 (lv_at hl 2 rfl) ?_
            refine lv_lload hx hb dX14_encode_385 (lv_at hl 1 rfl) ?_
            refine W.lcmp hx hb dX14_encode_387 ?_
            refine lv_if_lt (tgt := 393) hx hb dX14_encode_388 (by decide) (fun c_388 => ?_) (fun c_388 => ?_)
            · skip
              refine lv_aload_n hx hb dX14_encode_393 rfl (lv_at hl 5 rfl) ?_
              refine mm_get (v := .ref (Ar 70)) hx hb hf_X14 (fun _ h9 => h9) hown hK hG hM.1 rfl 70 (by decide) (tb_use hT tw_1461) (fun _ h9 => h9) rfl dX14_encode_394 ?_
              refine lv_iload hx hb dX14_encode_397 (lv_at hl 4 rfl) ?_
              refine lv_lload hx hb dX14_encode_399 (lv_at hl 2 rfl) ?_
              refine mm_last (n := mdN 70) (f := L 70) hx hb hK hG hS 2 (hM.2.2.1 70 rfl) rfl (nI_in (N := mdN 70) (by show _ < 128; omega) (by decide)) dX14_encode_401 (fun H locs hG hS => ?_)
              have hM := MD.setj (k := 70) (vp_updL (L 70) (nI (8 * s9 + i9)).toNatClampNeg xv) hM rfl
              have hF := hF.wa (k := 70) (e' := .inl (cy 2, mdN 70, .inr (.inl (vp_updL (L 70) (nI (8 * s9 + i9)).toNatClampNeg xv)))) rfl
              obtain ⟨L14, eL14⟩ : ∃ g, g = va_up L 70 (vp_updL (L 70) (nI (8 * s9 + i9)).toNatClampNeg xv) := ⟨_, rfl⟩
              rw [← eL14] at hM
              generalize mm_set _ _ _ = G15 at hG hM hF
              refine lv_aload_n hx hb dX14_encode_402 rfl (lv_at hl 5 rfl) ?_
              refine mm_get (v := .ref (Ar 67)) hx hb hf_X14 (fun _ h9 => h9) hown hK hG hM.1 rfl 67 (by decide) (tb_use hT tw_1458) (fun _ h9 => h9) rfl dX14_encode_403 ?_
              refine lv_iconst (v := 0) hx hb dX14_encode_406 (by decide) ?_
              refine lv_aload_n hx hb dX14_encode_407 rfl (lv_at hl 5 rfl) ?_
              refine mm_get (v := .ref (Ar 21)) hx hb hf_X14 (fun _ h9 => h9) hown hK hG hM.1 rfl 21 (by decide) (tb_use hT tw_1412) (fun _ h9 => h9) rfl dX14_encode_408 ?_
              refine lv_bipush (v := 16) hx hb dX14_encode_411 (by decide) ?_
              refine lv_aload_n hx hb dX14_encode_413 rfl (lv_at hl 5 rfl) ?_
              refine mm_get (v := .int (Iv 42)) hx hb hf_X14 (fun _ h9 => h9) hown hK hG hM.1 rfl 42 (by decide) (tb_use hT tw_1433) (fun _ h9 => h9) (by rw [eI1]; rfl) dX14_encode_414 ?_
              rw [show (Iv 42) = nI b9 from hbk]
              refine lv_imul hx hb dX14_encode_417 ?_
              refine lv_iload_n hx hb dX14_encode_418 rfl (lv_at hl 6 rfl) ?_
              refine lv_iadd hx hb dX14_encode_419 ?_
              refine lv_iconst (v := 1) hx hb dX14_encode_420 (by decide) ?_
              refine lv_isub hx hb dX14_encode_421 ?_
              rw [show (((16 * (nI b9)) + iv) - 1) = nI (16 * b9 + s9) by rw [hxs, show (16 : Int32) * nI b9 + nI (s9 + 1) = nI (16 * b9 + (s9 + 1)) from nI_ma 16 b9 (s9 + 1)]; exact nI_pred (16 * b9 + s9)]
              refine mm_iald (n := 32) (f := F 21) hx hb hK hG 1 (hM.2.1 21 rfl) rfl (nI_in (N := 32) (by omega) (by decide)) dX14_encode_422 ?_
              refine lv_topi (fun x16 ex16 => ?_)
              refine lv_bipush (v := 64) hx hb dX14_encode_423 (by decide) ?_
              refine lv_iadd hx hb dX14_encode_425 ?_
              refine lv_topi (fun x17 ex17 => ?_)
              refine mm_iast (n := mdN 67) (f := F 67) hx hb hK hG hS 1 (hM.2.1 67 rfl) rfl (nI_in (c := 0) (N := mdN 67) (by decide) (by decide)) dX14_encode_426 (fun H locs hG hS => ?_)
              have hM := MD.seti (k := 67) (upd (F 67) (0 : Int32).toNatClampNeg x17) hM rfl
              have hF := hF.wa (k := 67) (e' := .inl (cy 1, mdN 67, .inl (upd (F 67) (0 : Int32).toNatClampNeg x17))) rfl
              obtain ⟨F18, eF18⟩ : ∃ g, g = va_up F 67 (upd (F 67) (0 : Int32).toNatClampNeg x17) := ⟨_, rfl⟩
              rw [← eF18] at hM
              generalize mm_set _ _ _ = G19 at hG hM hF
              refine lv_aload_n hx hb dX14_encode_427 rfl (lv_at hl 5 rfl) ?_
              refine lv_aload_n hx hb dX14_encode_428 rfl (lv_at hl 5 rfl) ?_
              refine lv_iload_n hx hb dX14_encode_429 rfl (lv_at hl 6 rfl) ?_
              refine lv_iconst (v := 1) hx hb dX14_encode_430 (by decide) ?_
              refine lv_isub hx hb dX14_encode_431 ?_
              rw [show iv - 1 = nI s9 by rw [hxs]; exact nI_pred s9]
              refine lv_aload_n hx hb dX14_encode_432 rfl (lv_at hl 5 rfl) ?_
              refine mm_get (v := .ref (Ar 67)) hx hb hf_X14 (fun _ h9 => h9) hown hK hG hM.1 rfl 67 (by decide) (tb_use hT tw_1458) (fun _ h9 => h9) rfl dX14_encode_433 ?_
              refine lv_bipush (v := 64) hx hb dX14_encode_436 (by decide) ?_
              refine lv_iconst (v := 1) hx hb dX14_encode_438 (by decide) ?_
              have hB8 : BK (tkK ft en) (tkV ft en) n9 F18 b9 v9 := ⟨hB.1.mv (Nat.le_refl _) (fun k i hk => by rw [eF18, va_up_ne _ _ (by omega)]) rfl rfl rfl rfl, hB.2.1.mv (Nat.le_refl _) (fun k i hk => by rw [eF18, va_up_ne _ _ (by omega)]) rfl rfl, hB.2.2.1.mv (Nat.le_refl _) (fun k i hk => by rw [eF18, va_up_ne _ _ (by omega)]) rfl rfl rfl rfl, hB.2.2.2.1.mv (Nat.le_refl _) (fun k i hk => by rw [eF18, va_up_ne _ _ (by omega)]) rfl rfl, hB.2.2.2.2.1.mv (Nat.le_refl _) (fun k i hk => by rw [eF18, va_up_ne _ _ (by omega)]) rfl rfl, hB.2.2.2.2.2.mv (Nat.le_refl _) (fun k i hk => by rw [eF18, va_up_ne _ _ (by omega)]) rfl rfl rfl rfl⟩
              refine va_calli (va_runV (As := [.int (nI s9), .ref (Ar 67), .int 64, .int 1]) (rest := [.ref o]) ⟨hx, hb, hml, hown, (fun _ h9 => absurd h9 List.not_mem_nil : ∀ w ∈ ([] : List Cond), w.before _ s = true)⟩ (c_M_findS l D cy A X hst hXT G19 o Ar I1 F18 L14 ft en b9 n9 v9 s9 hM hB8 hVL hWd hn30 hb9 (by rw [eI1]; exact hbk) hs9) (tb_cw (C := RX14) 4 hT tw_1832 tw_109 tw_1829 tw_1831 tw_96 rfl rfl (by decide +kernel) ⟨Nat.le_of_ble_eq_true rfl, Nat.le_of_ble_eq_true rfl⟩) (mk_preV hst hG hK hA hX hS (ci := 15) rfl hM.1) rfl rfl hl.1 rfl (lv_room (Nat.le_of_ble_eq_true rfl)) dX14_encode_439 ⟨Nat.le_of_ble_eq_true rfl, Nat.le_of_ble_eq_true rfl⟩) hS (fun q _ h => h) (fun q h => h) (fun r20 G21 t H1 locs ht hvm hw hB hz1 hk1 hS => ?_)
              have hG : mm D vwCl A G21 H1 := by rw [← ht]; exact hB
              clear hB hz1 hk1 hvm ht
              generalize H1 = H at hG hS ⊢
              obtain ⟨k9, F9, L9, er20, hk1, hk64, hM2, hF2, hf9, hL9⟩ := hw
              replace hF := hF.tr hF2; replace hM := hM2; clear hM2 hF2
              refine mm_put (v := .int r20) (ty := .int) hx hb hf_X14 (fun _ h9 => h9) tyX14 tyX14_ok nmX14 hown hK hG hS hM.1 rfl 68 (by decide) (tb_use hT tw_1459) (fun _ h9 => h9) rfl (by decide +kernel) rfl rfl (Nat.le_of_ble_eq_true rfl) dX14_encode_442 (fun H locs hG hS => ?_)
              have hM := MD.puti (k := 68) (v := r20) hM rfl
              have hF := hF.wo (e' := .inr (15, (mfs Ar I1).set 68 (.int r20)))
              obtain ⟨I22, eI22⟩ : ∃ g, g = upd I1 68 r20 := ⟨_, rfl⟩
              rw [← eI22] at hM
              generalize mm_set _ _ _ = G23 at hG hM hF
              refine lv_iconst (v := 1) hx hb dX14_encode_445 (by decide) ?_
              exact W.iret (v := 1) hx hb hr (fun t ht hW => ⟨⟨_, _, rfl, ⟨I22, F9, L9, hM, hF, (fun j h1 h2 => by rw [eI22, pk_un h2, eI1, pk_un h1]), (by rw [eI22, pk_un (by decide), eI1, pk_us]), ⟨k9, hk64, (by rw [eI22, pk_us]; exact er20)⟩, (fun j hj => by rw [hf9 j hj, eF18, va_up_ne _ _ (by omega)]), (fun j h1 h2 => by rw [hL9 j h2, eL14, va_up_ne _ _ h1])⟩, mk_end hG ht⟩, hS.F ht⟩) hS.2.2 dX14_encode_446
            · skip
              refine lv_iconst (v := 0) hx hb dX14_encode_391 (by decide) ?_
              exact W.iret (v := 0) hx hb hr (fun t ht hW => ⟨⟨_, _, rfl, ⟨I1, F, L, hM, hF, (fun j h1 h2 => by rw [eI1, pk_un h1]), (by rw [eI1, pk_us]), ⟨sl9, (by omega), (by rw [eI1, pk_un (by decide)]; exact h68)⟩, (fun _ _ => rfl), (fun _ _ _ => rfl)⟩, mk_end hG ht⟩, hS.F ht⟩) hS.2.2 dX14_encode_392
        · skip
          refine lv_lload hx hb dX14_encode_348 (lv_at hl 2 rfl) ?_
          refine lv_lload hx hb dX14_encode_350 (lv_at hl 1 rfl) ?_
          refine lv_lneg hx hb dX14_encode_352 ?_
          refine lv_ldc2 hx hb hown (tb_use hT tw_1857) dX14_encode_353 ?_
          refine lv_ldiv hx hb dX14_encode_356 (by decide) ?_
          refine lv_topl (fun x24 ex24 => ?_)
          refine W.lcmp hx hb dX14_encode_357 ?_
          refine lv_if_lt (tgt := 391) hx hb dX14_encode_358 (by decide) (fun c_358 => ?_) (fun c_358 => ?_)
          · skip
            refine lv_iconst (v := 0) hx hb dX14_encode_391 (by decide) ?_
            exact W.iret (v := 0) hx hb hr (fun t ht hW => ⟨⟨_, _, rfl, ⟨I1, F, L, hM, hF, (fun j h1 h2 => by rw [eI1, pk_un h1]), (by rw [eI1, pk_us]), ⟨sl9, (by omega), (by rw [eI1, pk_un (by decide)]; exact h68)⟩, (fun _ _ => rfl), (fun _ _ _ => rfl)⟩, mk_end hG ht⟩, hS.F ht⟩) hS.2.2 dX14_encode_392
          · skip
            refine lv_lload hx hb dX14_encode_361 (lv_at hl 2 rfl) ?_
            refine lv_lload hx hb dX14_encode_363 (lv_at hl 1 rfl) ?_
            refine lv_ldc2 hx hb hown (tb_use hT tw_1857) dX14_encode_365 ?_
            refine lv_ldiv hx hb dX14_encode_368 (by decide) ?_
            refine lv_topl (fun x26 ex26 => ?_)
            refine W.lcmp hx hb dX14_encode_369 ?_
            refine lv_if_lt (tgt := 393) hx hb dX14_encode_370 (by decide) (fun c_370 => ?_) (fun c_370 => ?_)
            · skip
              refine lv_aload_n hx hb dX14_encode_393 rfl (lv_at hl 5 rfl) ?_
              refine mm_get (v := .ref (Ar 70)) hx hb hf_X14 (fun _ h9 => h9) hown hK hG hM.1 rfl 70 (by decide) (tb_use hT tw_1461) (fun _ h9 => h9) rfl dX14_encode_394 ?_
              refine lv_iload hx hb dX14_encode_397 (lv_at hl 4 rfl) ?_
              refine lv_lload hx hb dX14_encode_399 (lv_at hl 2 rfl) ?_
              refine mm_last (n := mdN 70) (f := L 70) hx hb hK hG hS 2 (hM.2.2.1 70 rfl) rfl (nI_in (N := mdN 70) (by show _ < 128; omega) (by decide)) dX14_encode_401 (fun H locs hG hS => ?_)
              have hM := MD.setj (k := 70) (vp_updL (L 70) (nI (8 * s9 + i9)).toNatClampNeg xv) hM rfl
              have hF := hF.wa (k := 70) (e' := .inl (cy 2, mdN 70, .inr (.inl (vp_updL (L 70) (nI (8 * s9 + i9)).toNatClampNeg xv)))) rfl
              obtain ⟨L28, eL28⟩ : ∃ g, g = va_up L 70 (vp_updL (L 70) (nI (8 * s9 + i9)).toNatClampNeg xv) := ⟨_, rfl⟩
              rw [← eL28] at hM
              generalize mm_set _ _ _ = G29 at hG hM hF
              refine lv_aload_n hx hb dX14_encode_402 rfl (lv_at hl 5 rfl) ?_
              refine mm_get (v := .ref (Ar 67)) hx hb hf_X14 (fun _ h9 => h9) hown hK hG hM.1 rfl 67 (by decide) (tb_use hT tw_1458) (fun _ h9 => h9) rfl dX14_encode_403 ?_
              refine lv_iconst (v := 0) hx hb dX14_encode_406 (by decide) ?_
              refine lv_aload_n hx hb dX14_encode_407 rfl (lv_at hl 5 rfl) ?_
              refine mm_get (v := .ref (Ar 21)) hx hb hf_X14 (fun _ h9 => h9) hown hK hG hM.1 rfl 21 (by decide) (tb_use hT tw_1412) (fun _ h9 => h9) rfl dX14_encode_408 ?_
              refine lv_bipush (v := 16) hx hb dX14_encode_411 (by decide) ?_
              refine lv_aload_n hx hb dX14_encode_413 rfl (lv_at hl 5 rfl) ?_
              refine mm_get (v := .int (Iv 42)) hx hb hf_X14 (fun _ h9 => h9) hown hK hG hM.1 rfl 42 (by decide) (tb_use hT tw_1433) (fun _ h9 => h9) (by rw [eI1]; rfl) dX14_encode_414 ?_
              rw [show (Iv 42) = nI b9 from hbk]
              refine lv_imul hx hb dX14_encode_417 ?_
              refine lv_iload_n hx hb dX14_encode_418 rfl (lv_at hl 6 rfl) ?_
              refine lv_iadd hx hb dX14_encode_419 ?_
              refine lv_iconst (v := 1) hx hb dX14_encode_420 (by decide) ?_
              refine lv_isub hx hb dX14_encode_421 ?_
              rw [show (((16 * (nI b9)) + iv) - 1) = nI (16 * b9 + s9) by rw [hxs, show (16 : Int32) * nI b9 + nI (s9 + 1) = nI (16 * b9 + (s9 + 1)) from nI_ma 16 b9 (s9 + 1)]; exact nI_pred (16 * b9 + s9)]
              refine mm_iald (n := 32) (f := F 21) hx hb hK hG 1 (hM.2.1 21 rfl) rfl (nI_in (N := 32) (by omega) (by decide)) dX14_encode_422 ?_
              refine lv_topi (fun x30 ex30 => ?_)
              refine lv_bipush (v := 64) hx hb dX14_encode_423 (by decide) ?_
              refine lv_iadd hx hb dX14_encode_425 ?_
              refine lv_topi (fun x31 ex31 => ?_)
              refine mm_iast (n := mdN 67) (f := F 67) hx hb hK hG hS 1 (hM.2.1 67 rfl) rfl (nI_in (c := 0) (N := mdN 67) (by decide) (by decide)) dX14_encode_426 (fun H locs hG hS => ?_)
              have hM := MD.seti (k := 67) (upd (F 67) (0 : Int32).toNatClampNeg x31) hM rfl
              have hF := hF.wa (k := 67) (e' := .inl (cy 1, mdN 67, .inl (upd (F 67) (0 : Int32).toNatClampNeg x31))) rfl
              obtain ⟨F32, eF32⟩ : ∃ g, g = va_up F 67 (upd (F 67) (0 : Int32).toNatClampNeg x31) := ⟨_, rfl⟩
              rw [← eF32] at hM
              generalize mm_set _ _ _ = G33 at hG hM hF
              refine lv_aload_n hx hb dX14_encode_427 rfl (lv_at hl 5 rfl) ?_
              refine lv_aload_n hx hb dX14_encode_428 rfl (lv_at hl 5 rfl) ?_
              refine lv_iload_n hx hb dX14_encode_429 rfl (lv_at hl 6 rfl) ?_
              refine lv_iconst (v := 1) hx hb dX14_encode_430 (by decide) ?_
              refine lv_isub hx hb dX14_encode_431 ?_
              rw [show iv - 1 = nI s9 by rw [hxs]; exact nI_pred s9]
              refine lv_aload_n hx hb dX14_encode_432 rfl (lv_at hl 5 rfl) ?_
              refine mm_get (v := .ref (Ar 67)) hx hb hf_X14 (fun _ h9 => h9) hown hK hG hM.1 rfl 67 (by decide) (tb_use hT tw_1458) (fun _ h9 => h9) rfl dX14_encode_433 ?_
              refine lv_bipush (v := 64) hx hb dX14_encode_436 (by decide) ?_
              refine lv_iconst (v := 1) hx hb dX14_encode_438 (by decide) ?_
              have hB8 : BK (tkK ft en) (tkV ft en) n9 F32 b9 v9 := ⟨hB.1.mv (Nat.le_refl _) (fun k i hk => by rw [eF32, va_up_ne _ _ (by omega)]) rfl rfl rfl rfl, hB.2.1.mv (Nat.le_refl _) (fun k i hk => by rw [eF32, va_up_ne _ _ (by omega)]) rfl rfl, hB.2.2.1.mv (Nat.le_refl _) (fun k i hk => by rw [eF32, va_up_ne _ _ (by omega)]) rfl rfl rfl rfl, hB.2.2.2.1.mv (Nat.le_refl _) (fun k i hk => by rw [eF32, va_up_ne _ _ (by omega)]) rfl rfl, hB.2.2.2.2.1.mv (Nat.le_refl _) (fun k i hk => by rw [eF32, va_up_ne _ _ (by omega)]) rfl rfl, hB.2.2.2.2.2.mv (Nat.le_refl _) (fun k i hk => by rw [eF32, va_up_ne _ _ (by omega)]) rfl rfl rfl rfl⟩
              refine va_calli (va_runV (As := [.int (nI s9), .ref (Ar 67), .int 64, .int 1]) (rest := [.ref o]) ⟨hx, hb, hml, hown, (fun _ h9 => absurd h9 List.not_mem_nil : ∀ w ∈ ([] : List Cond), w.before _ s = true)⟩ (c_M_findS l D cy A X hst hXT G33 o Ar I1 F32 L28 ft en b9 n9 v9 s9 hM hB8 hVL hWd hn30 hb9 (by rw [eI1]; exact hbk) hs9) (tb_cw (C := RX14) 4 hT tw_1832 tw_109 tw_1829 tw_1831 tw_96 rfl rfl (by decide +kernel) ⟨Nat.le_of_ble_eq_true rfl, Nat.le_of_ble_eq_true rfl⟩) (mk_preV hst hG hK hA hX hS (ci := 15) rfl hM.1) rfl rfl hl.1 rfl (lv_room (Nat.le_of_ble_eq_true rfl)) dX14_encode_439 ⟨Nat.le_of_ble_eq_true rfl, Nat.le_of_ble_eq_true rfl⟩) hS (fun q _ h => h) (fun q h => h) (fun r34 G35 t H1 locs ht hvm hw hB hz1 hk1 hS => ?_)
              have hG : mm D vwCl A G35 H1 := by rw [← ht]; exact hB
              clear hB hz1 hk1 hvm ht
              generalize H1 = H at hG hS ⊢
              obtain ⟨k9, F9, L9, er34, hk1, hk64, hM2, hF2, hf9, hL9⟩ := hw
              replace hF := hF.tr hF2; replace hM := hM2; clear hM2 hF2
              refine mm_put (v := .int r34) (ty := .int) hx hb hf_X14 (fun _ h9 => h9) tyX14 tyX14_ok nmX14 hown hK hG hS hM.1 rfl 68 (by decide) (tb_use hT tw_1459) (fun _ h9 => h9) rfl (by decide +kernel) rfl rfl (Nat.le_of_ble_eq_true rfl) dX14_encode_442 (fun H locs hG hS => ?_)
              have hM := MD.puti (k := 68) (v := r34) hM rfl
              have hF := hF.wo (e' := .inr (15, (mfs Ar I1).set 68 (.int r34)))
              obtain ⟨I36, eI36⟩ : ∃ g, g = upd I1 68 r34 := ⟨_, rfl⟩
              rw [← eI36] at hM
              generalize mm_set _ _ _ = G37 at hG hM hF
              refine lv_iconst (v := 1) hx hb dX14_encode_445 (by decide) ?_
              exact W.iret (v := 1) hx hb hr (fun t ht hW => ⟨⟨_, _, rfl, ⟨I36, F9, L9, hM, hF, (fun j h1 h2 => by rw [eI36, pk_un h2, eI1, pk_un h1]), (by rw [eI36, pk_un (by decide), eI1, pk_us]), ⟨k9, hk64, (by rw [eI36, pk_us]; exact er34)⟩, (fun j hj => by rw [hf9 j hj, eF32, va_up_ne _ _ (by omega)]), (fun j h1 h2 => by rw [hL9 j h2, eL28, va_up_ne _ _ h1])⟩, mk_end hG ht⟩, hS.F ht⟩) hS.2.2 dX14_encode_446
            · skip
              refine lv_goto (tgt := 391) hx hb dX14_encode_373 (by decide) ?_
              refine lv_iconst (v := 0) hx hb dX14_encode_391 (by decide) ?_
              exact W.iret (v := 0) hx hb hr (fun t ht hW => ⟨⟨_, _, rfl, ⟨I1, F, L, hM, hF, (fun j h1 h2 => by rw [eI1, pk_un h1]), (by rw [eI1, pk_us]), ⟨sl9, (by omega), (by rw [eI1, pk_un (by decide)]; exact h68)⟩, (fun _ _ => rfl), (fun _ _ _ => rfl)⟩, mk_end hG ht⟩, hS.F ht⟩) hS.2.2 dX14_encode_392
      · skip
        refine lv_iconst (v := 1) hx hb dX14_encode_336 (by decide) ?_
        refine lv_goto (tgt := 341) hx hb dX14_encode_337 (by decide) ?_
        refine lv_istore (lv' := [(11, .int 1), (9, .long x10), (7, .long xv), (6, .int (nI c9)), (5, .int (nI (8 * s9 + i9))), (0, .ref o), (1, .int iv), (2, .int jv), (3, .long xv)]) hx hb dX14_encode_341 hl (by decide) rfl (fun ls hl => ?_)
        refine lv_iload hx hb dX14_encode_343 (lv_at hl 0 rfl) ?_
        refine lv_if_eq (tgt := 376) hx hb dX14_encode_345 (by decide) (fun c_345 => ?_) (fun c_345 => ?_)
        · skip
          refine lv_lload hx hb dX14_encode_376 (lv_at hl 2 rfl) ?_
          refine lv_lconst (v := 0) hx hb dX14_encode_378 (by decide) ?_
          refine W.lcmp hx hb dX14_encode_379 ?_
          refine lv_if_lt (tgt := 391) hx hb dX14_encode_380 (by decide) (fun c_380 => ?_) (fun c_380 => ?_)
          · skip
            refine lv_iconst (v := 0) hx hb dX14_encode_391 (by decide) ?_
            exact W.iret (v := 0) hx hb hr (fun t ht hW => ⟨⟨_, _, rfl, ⟨I1, F, L, hM, hF, (fun j h1 h2 => by rw [eI1, pk_un h1]), (by rw [eI1, pk_us]), ⟨sl9, (by omega), (by rw [eI1, pk_un (by decide)]; exact h68)⟩, (fun _ _ => rfl), (fun _ _ _ => rfl)⟩, mk_end hG ht⟩, hS.F ht⟩) hS.2.2 dX14_encode_392
          · skip
            refine lv_lload hx hb dX14_encode_383 (lv_at hl 2 rfl) ?_
            refine lv_lload hx hb dX14_encode_385 (lv_at hl 1 rfl) ?_
            refine W.lcmp hx hb dX14_encode_387 ?_
            refine lv_if_lt (tgt := 393) hx hb dX14_encode_388 (by decide) (fun c_388 => ?_) (fun c_388 => ?_)
            · skip
              refine lv_aload_n hx hb dX14_encode_393 rfl (lv_at hl 5 rfl) ?_
              refine mm_get (v := .ref (Ar 70)) hx hb hf_X14 (fun _ h9 => h9) hown hK hG hM.1 rfl 70 (by decide) (tb_use hT tw_1461) (fun _ h9 => h9) rfl dX14_encode_394 ?_
              refine lv_iload hx hb dX14_encode_397 (lv_at hl 4 rfl) ?_
              refine lv_lload hx hb dX14_encode_399 (lv_at hl 2 rfl) ?_
              refine mm_last (n := mdN 70) (f := L 70) hx hb hK hG hS 2 (hM.2.2.1 70 rfl) rfl (nI_in (N := mdN 70) (by show _ < 128; omega) (by decide)) dX14_encode_401 (fun H locs hG hS => ?_)
              have hM := MD.setj (k := 70) (vp_updL (L 70) (nI (8 * s9 + i9)).toNatClampNeg xv) hM rfl
              have hF := hF.wa (k := 70) (e' := .inl (cy 2, mdN 70, .inr (.inl (vp_updL (L 70) (nI (8 * s9 + i9)).toNatClampNeg xv)))) rfl
              obtain ⟨L40, eL40⟩ : ∃ g, g = va_up L 70 (vp_updL (L 70) (nI (8 * s9 + i9)).toNatClampNeg xv) := ⟨_, rfl⟩
              rw [← eL40] at hM
              generalize mm_set _ _ _ = G41 at hG hM hF
              refine lv_aload_n hx hb dX14_encode_402 rfl (lv_at hl 5 rfl) ?_
              refine mm_get (v := .ref (Ar 67)) hx hb hf_X14 (fun _ h9 => h9) hown hK hG hM.1 rfl 67 (by decide) (tb_use hT tw_1458) (fun _ h9 => h9) rfl dX14_encode_403 ?_
              refine lv_iconst (v := 0) hx hb dX14_encode_406 (by decide) ?_
              refine lv_aload_n hx hb dX14_encode_407 rfl (lv_at hl 5 rfl) ?_
              refine mm_get (v := .ref (Ar 21)) hx hb hf_X14 (fun _ h9 => h9) hown hK hG hM.1 rfl 21 (by decide) (tb_use hT tw_1412) (fun _ h9 => h9) rfl dX14_encode_408 ?_
              refine lv_bipush (v := 16) hx hb dX14_encode_411 (by decide) ?_
              refine lv_aload_n hx hb dX14_encode_413 rfl (lv_at hl 5 rfl) ?_
              refine mm_get (v := .int (Iv 42)) hx hb hf_X14 (fun _ h9 => h9) hown hK hG hM.1 rfl 42 (by decide) (tb_use hT tw_1433) (fun _ h9 => h9) (by rw [eI1]; rfl) dX14_encode_414 ?_
              rw [show (Iv 42) = nI b9 from hbk]
              refine lv_imul hx hb dX14_encode_417 ?_
              refine lv_iload_n hx hb dX14_encode_418 rfl (lv_at hl 6 rfl) ?_
              refine lv_iadd hx hb dX14_encode_419 ?_
              refine lv_iconst (v := 1) hx hb dX14_encode_420 (by decide) ?_
              refine lv_isub hx hb dX14_encode_421 ?_
              rw [show (((16 * (nI b9)) + iv) - 1) = nI (16 * b9 + s9) by rw [hxs, show (16 : Int32) * nI b9 + nI (s9 + 1) = nI (16 * b9 + (s9 + 1)) from nI_ma 16 b9 (s9 + 1)]; exact nI_pred (16 * b9 + s9)]
              refine mm_iald (n := 32) (f := F 21) hx hb hK hG 1 (hM.2.1 21 rfl) rfl (nI_in (N := 32) (by omega) (by decide)) dX14_encode_422 ?_
              refine lv_topi (fun x42 ex42 => ?_)
              refine lv_bipush (v := 64) hx hb dX14_encode_423 (by decide) ?_
              refine lv_iadd hx hb dX14_encode_425 ?_
              refine lv_topi (fun x43 ex43 => ?_)
              refine mm_iast (n := mdN 67) (f := F 67) hx hb hK hG hS 1 (hM.2.1 67 rfl) rfl (nI_in (c := 0) (N := mdN 67) (by decide) (by decide)) dX14_encode_426 (fun H locs hG hS => ?_)
              have hM := MD.seti (k := 67) (upd (F 67) (0 : Int32).toNatClampNeg x43) hM rfl
              have hF := hF.wa (k := 67) (e' := .inl (cy 1, mdN 67, .inl (upd (F 67) (0 : Int32).toNatClampNeg x43))) rfl
              obtain ⟨F44, eF44⟩ : ∃ g, g = va_up F 67 (upd (F 67) (0 : Int32).toNatClampNeg x43) := ⟨_, rfl⟩
              rw [← eF44] at hM
              generalize mm_set _ _ _ = G45 at hG hM hF
              refine lv_aload_n hx hb dX14_encode_427 rfl (lv_at hl 5 rfl) ?_
              refine lv_aload_n hx hb dX14_encode_428 rfl (lv_at hl 5 rfl) ?_
              refine lv_iload_n hx hb dX14_encode_429 rfl (lv_at hl 6 rfl) ?_
              refine lv_iconst (v := 1) hx hb dX14_encode_430 (by decide) ?_
              refine lv_isub hx hb dX14_encode_431 ?_
              rw [show iv - 1 = nI s9 by rw [hxs]; exact nI_pred s9]
              refine lv_aload_n hx hb dX14_encode_432 rfl (lv_at hl 5 rfl) ?_
              refine mm_get (v := .ref (Ar 67)) hx hb hf_X14 (fun _ h9 => h9) hown hK hG hM.1 rfl 67 (by decide) (tb_use hT tw_1458) (fun _ h9 => h9) rfl dX14_encode_433 ?_
              refine lv_bipush (v := 64) hx hb dX14_encode_436 (by decide) ?_
              refine lv_iconst (v := 1) hx hb dX14_encode_438 (by decide) ?_
              have hB8 : BK (tkK ft en) (tkV ft en) n9 F44 b9 v9 := ⟨hB.1.mv (Nat.le_refl _) (fun k i hk => by rw [eF44, va_up_ne _ _ (by omega)]) rfl rfl rfl rfl, hB.2.1.mv (Nat.le_refl _) (fun k i hk => by rw [eF44, va_up_ne _ _ (by omega)]) rfl rfl, hB.2.2.1.mv (Nat.le_refl _) (fun k i hk => by rw [eF44, va_up_ne _ _ (by omega)]) rfl rfl rfl rfl, hB.2.2.2.1.mv (Nat.le_refl _) (fun k i hk => by rw [eF44, va_up_ne _ _ (by omega)]) rfl rfl, hB.2.2.2.2.1.mv (Nat.le_refl _) (fun k i hk => by rw [eF44, va_up_ne _ _ (by omega)]) rfl rfl, hB.2.2.2.2.2.mv (Nat.le_refl _) (fun k i hk => by rw [eF44, va_up_ne _ _ (by omega)]) rfl rfl rfl rfl⟩
              refine va_calli (va_runV (As := [.int (nI s9), .ref (Ar 67), .int 64, .int 1]) (rest := [.ref o]) ⟨hx, hb, hml, hown, (fun _ h9 => absurd h9 List.not_mem_nil : ∀ w ∈ ([] : List Cond), w.before _ s = true)⟩ (c_M_findS l D cy A X hst hXT G45 o Ar I1 F44 L40 ft en b9 n9 v9 s9 hM hB8 hVL hWd hn30 hb9 (by rw [eI1]; exact hbk) hs9) (tb_cw (C := RX14) 4 hT tw_1832 tw_109 tw_1829 tw_1831 tw_96 rfl rfl (by decide +kernel) ⟨Nat.le_of_ble_eq_true rfl, Nat.le_of_ble_eq_true rfl⟩) (mk_preV hst hG hK hA hX hS (ci := 15) rfl hM.1) rfl rfl hl.1 rfl (lv_room (Nat.le_of_ble_eq_true rfl)) dX14_encode_439 ⟨Nat.le_of_ble_eq_true rfl, Nat.le_of_ble_eq_true rfl⟩) hS (fun q _ h => h) (fun q h => h) (fun r46 G47 t H1 locs ht hvm hw hB hz1 hk1 hS => ?_)
              have hG : mm D vwCl A G47 H1 := by rw [← ht]; exact hB
              clear hB hz1 hk1 hvm ht
              generalize H1 = H at hG hS ⊢
              obtain ⟨k9, F9, L9, er46, hk1, hk64, hM2, hF2, hf9, hL9⟩ := hw
              replace hF := hF.tr hF2; replace hM := hM2; clear hM2 hF2
              refine mm_put (v := .int r46) (ty := .int) hx hb hf_X14 (fun _ h9 => h9) tyX14 tyX14_ok nmX14 hown hK hG hS hM.1 rfl 68 (by decide) (tb_use hT tw_1459) (fun _ h9 => h9) rfl (by decide +kernel) rfl rfl (Nat.le_of_ble_eq_true rfl) dX14_encode_442 (fun H locs hG hS => ?_)
              have hM := MD.puti (k := 68) (v := r46) hM rfl
              have hF := hF.wo (e' := .inr (15, (mfs Ar I1).set 68 (.int r46)))
              obtain ⟨I48, eI48⟩ : ∃ g, g = upd I1 68 r46 := ⟨_, rfl⟩
              rw [← eI48] at hM
              generalize mm_set _ _ _ = G49 at hG hM hF
              refine lv_iconst (v := 1) hx hb dX14_encode_445 (by decide) ?_
              exact W.iret (v := 1) hx hb hr (fun t ht hW => ⟨⟨_, _, rfl, ⟨I48, F9, L9, hM, hF, (fun j h1 h2 => by rw [eI48, pk_un h2, eI1, pk_un h1]), (by rw [eI48, pk_un (by decide), eI1, pk_us]), ⟨k9, hk64, (by rw [eI48, pk_us]; exact er46)⟩, (fun j hj => by rw [hf9 j hj, eF44, va_up_ne _ _ (by omega)]), (fun j h1 h2 => by rw [hL9 j h2, eL40, va_up_ne _ _ h1])⟩, mk_end hG ht⟩, hS.F ht⟩) hS.2.2 dX14_encode_446
            · skip
              refine lv_iconst (v := 0) hx hb dX14_encode_391 (by decide) ?_
              exact W.iret (v := 0) hx hb hr (fun t ht hW => ⟨⟨_, _, rfl, ⟨I1, F, L, hM, hF, (fun j h1 h2 => by rw [eI1, pk_un h1]), (by rw [eI1, pk_us]), ⟨sl9, (by omega), (by rw [eI1, pk_un (by decide)]; exact h68)⟩, (fun _ _ => rfl), (fun _ _ _ => rfl)⟩, mk_end hG ht⟩, hS.F ht⟩) hS.2.2 dX14_encode_392
        · skip
          refine lv_lload hx hb dX14_encode_348 (lv_at hl 2 rfl) ?_
          refine lv_lload hx hb dX14_encode_350 (lv_at hl 1 rfl) ?_
          refine lv_lneg hx hb dX14_encode_352 ?_
          refine lv_ldc2 hx hb hown (tb_use hT tw_1857) dX14_encode_353 ?_
          refine lv_ldiv hx hb dX14_encode_356 (by decide) ?_
          refine lv_topl (fun x50 ex50 => ?_)
          refine W.lcmp hx hb dX14_encode_357 ?_
          refine lv_if_lt (tgt := 391) hx hb dX14_encode_358 (by decide) (fun c_358 => ?_) (fun c_358 => ?_)
          · skip
            refine lv_iconst (v := 0) hx hb dX14_encode_391 (by decide) ?_
            exact W.iret (v := 0) hx hb hr (fun t ht hW => ⟨⟨_, _, rfl, ⟨I1, F, L, hM, hF, (fun j h1 h2 => by rw [eI1, pk_un h1]), (by rw [eI1, pk_us]), ⟨sl9, (by omega), (by rw [eI1, pk_un (by decide)]; exact h68)⟩, (fun _ _ => rfl), (fun _ _ _ => rfl)⟩, mk_end hG ht⟩, hS.F ht⟩) hS.2.2 dX14_encode_392
          · skip
            refine lv_lload hx hb dX14_encode_361 (lv_at hl 2 rfl) ?_
            refine lv_lload hx hb dX14_encode_363 (lv_at hl 1 rfl) ?_
            refine lv_ldc2 hx hb hown (tb_use hT tw_1857) dX14_encode_365 ?_
            refine lv_ldiv hx hb dX14_encode_368 (by decide) ?_
            refine lv_topl (fun x52 ex52 => ?_)
            refine W.lcmp hx hb dX14_encode_369 ?_
            refine lv_if_lt (tgt := 393) hx hb dX14_encode_370 (by decide) (fun c_370 => ?_) (fun c_370 => ?_)
            · skip
              refine lv_aload_n hx hb dX14_encode_393 rfl (lv_at hl 5 rfl) ?_
              refine mm_get (v := .ref (Ar 70)) hx hb hf_X14 (fun _ h9 => h9) hown hK hG hM.1 rfl 70 (by decide) (tb_use hT tw_1461) (fun _ h9 => h9) rfl dX14_encode_394 ?_
              refine lv_iload hx hb dX14_encode_397 (lv_at hl 4 rfl) ?_
              refine lv_lload hx hb dX14_encode_399 (lv_at hl 2 rfl) ?_
              refine mm_last (n := mdN 70) (f := L 70) hx hb hK hG hS 2 (hM.2.2.1 70 rfl) rfl (nI_in (N := mdN 70) (by show _ < 128; omega) (by decide)) dX14_encode_401 (fun H locs hG hS => ?_)
              have hM := MD.setj (k := 70) (vp_updL (L 70) (nI (8 * s9 + i9)).toNatClampNeg xv) hM rfl
              have hF := hF.wa (k := 70) (e' := .inl (cy 2, mdN 70, .inr (.inl (vp_updL (L 70) (nI (8 * s9 + i9)).toNatClampNeg xv)))) rfl
              obtain ⟨L54, eL54⟩ : ∃ g, g = va_up L 70 (vp_updL (L 70) (nI (8 * s9 + i9)).toNatClampNeg xv) := ⟨_, rfl⟩
              rw [← eL54] at hM
              generalize mm_set _ _ _ = G55 at hG hM hF
              refine lv_aload_n hx hb dX14_encode_402 rfl (lv_at hl 5 rfl) ?_
              refine mm_get (v := .ref (Ar 67)) hx hb hf_X14 (fun _ h9 => h9) hown hK hG hM.1 rfl 67 (by decide) (tb_use hT tw_1458) (fun _ h9 => h9) rfl dX14_encode_403 ?_
              refine lv_iconst (v := 0) hx hb dX14_encode_406 (by decide) ?_
              refine lv_aload_n hx hb dX14_encode_407 rfl (lv_at hl 5 rfl) ?_
              refine mm_get (v := .ref (Ar 21)) hx hb hf_X14 (fun _ h9 => h9) hown hK hG hM.1 rfl 21 (by decide) (tb_use hT tw_1412) (fun _ h9 => h9) rfl dX14_encode_408 ?_
              refine lv_bipush (v := 16) hx hb dX14_encode_411 (by decide) ?_
              refine lv_aload_n hx hb dX14_encode_413 rfl (lv_at hl 5 rfl) ?_
              refine mm_get (v := .int (Iv 42)) hx hb hf_X14 (fun _ h9 => h9) hown hK hG hM.1 rfl 42 (by decide) (tb_use hT tw_1433) (fun _ h9 => h9) (by rw [eI1]; rfl) dX14_encode_414 ?_
              rw [show (Iv 42) = nI b9 from hbk]
              refine lv_imul hx hb dX14_encode_417 ?_
              refine lv_iload_n hx hb dX14_encode_418 rfl (lv_at hl 6 rfl) ?_
              refine lv_iadd hx hb dX14_encode_419 ?_
              refine lv_iconst (v := 1) hx hb dX14_encode_420 (by decide) ?_
              refine lv_isub hx hb dX14_encode_421 ?_
              rw [show (((16 * (nI b9)) + iv) - 1) = nI (16 * b9 + s9) by rw [hxs, show (16 : Int32) * nI b9 + nI (s9 + 1) = nI (16 * b9 + (s9 + 1)) from nI_ma 16 b9 (s9 + 1)]; exact nI_pred (16 * b9 + s9)]
              refine mm_iald (n := 32) (f := F 21) hx hb hK hG 1 (hM.2.1 21 rfl) rfl (nI_in (N := 32) (by omega) (by decide)) dX14_encode_422 ?_
              refine lv_topi (fun x56 ex56 => ?_)
              refine lv_bipush (v := 64) hx hb dX14_encode_423 (by decide) ?_
              refine lv_iadd hx hb dX14_encode_425 ?_
              refine lv_topi (fun x57 ex57 => ?_)
              refine mm_iast (n := mdN 67) (f := F 67) hx hb hK hG hS 1 (hM.2.1 67 rfl) rfl (nI_in (c := 0) (N := mdN 67) (by decide) (by decide)) dX14_encode_426 (fun H locs hG hS => ?_)
              have hM := MD.seti (k := 67) (upd (F 67) (0 : Int32).toNatClampNeg x57) hM rfl
              have hF := hF.wa (k := 67) (e' := .inl (cy 1, mdN 67, .inl (upd (F 67) (0 : Int32).toNatClampNeg x57))) rfl
              obtain ⟨F58, eF58⟩ : ∃ g, g = va_up F 67 (upd (F 67) (0 : Int32).toNatClampNeg x57) := ⟨_, rfl⟩
              rw [← eF58] at hM
              generalize mm_set _ _ _ = G59 at hG hM hF
              refine lv_aload_n hx hb dX14_encode_427 rfl (lv_at hl 5 rfl) ?_
              refine lv_aload_n hx hb dX14_encode_428 rfl (lv_at hl 5 rfl) ?_
              refine lv_iload_n hx hb dX14_encode_429 rfl (lv_at hl 6 rfl) ?_
              refine lv_iconst (v := 1) hx hb dX14_encode_430 (by decide) ?_
              refine lv_isub hx hb dX14_encode_431 ?_
              rw [show iv - 1 = nI s9 by rw [hxs]; exact nI_pred s9]
              refine lv_aload_n hx hb dX14_encode_432 rfl (lv_at hl 5 rfl) ?_
              refine mm_get (v := .ref (Ar 67)) hx hb hf_X14 (fun _ h9 => h9) hown hK hG hM.1 rfl 67 (by decide) (tb_use hT tw_1458) (fun _ h9 => h9) rfl dX14_encode_433 ?_
              refine lv_bipush (v := 64) hx hb dX14_encode_436 (by decide) ?_
              refine lv_iconst (v := 1) hx hb dX14_encode_438 (by decide) ?_
              have hB8 : BK (tkK ft en) (tkV ft en) n9 F58 b9 v9 := ⟨hB.1.mv (Nat.le_refl _) (fun k i hk => by rw [eF58, va_up_ne _ _ (by omega)]) rfl rfl rfl rfl, hB.2.1.mv (Nat.le_refl _) (fun k i hk => by rw [eF58, va_up_ne _ _ (by omega)]) rfl rfl, hB.2.2.1.mv (Nat.le_refl _) (fun k i hk => by rw [eF58, va_up_ne _ _ (by omega)]) rfl rfl rfl rfl, hB.2.2.2.1.mv (Nat.le_refl _) (fun k i hk => by rw [eF58, va_up_ne _ _ (by omega)]) rfl rfl, hB.2.2.2.2.1.mv (Nat.le_refl _) (fun k i hk => by rw [eF58, va_up_ne _ _ (by omega)]) rfl rfl, hB.2.2.2.2.2.mv (Nat.le_refl _) (fun k i hk => by rw [eF58, va_up_ne _ _ (by omega)]) rfl rfl rfl rfl⟩
              refine va_calli (va_runV (As := [.int (nI s9), .ref (Ar 67), .int 64, .int 1]) (rest := [.ref o]) ⟨hx, hb, hml, hown, (fun _ h9 => absurd h9 List.not_mem_nil : ∀ w ∈ ([] : List Cond), w.before _ s = true)⟩ (c_M_findS l D cy A X hst hXT G59 o Ar I1 F58 L54 ft en b9 n9 v9 s9 hM hB8 hVL hWd hn30 hb9 (by rw [eI1]; exact hbk) hs9) (tb_cw (C := RX14) 4 hT tw_1832 tw_109 tw_1829 tw_1831 tw_96 rfl rfl (by decide +kernel) ⟨Nat.le_of_ble_eq_true rfl, Nat.le_of_ble_eq_true rfl⟩) (mk_preV hst hG hK hA hX hS (ci := 15) rfl hM.1) rfl rfl hl.1 rfl (lv_room (Nat.le_of_ble_eq_true rfl)) dX14_encode_439 ⟨Nat.le_of_ble_eq_true rfl, Nat.le_of_ble_eq_true rfl⟩) hS (fun q _ h => h) (fun q h => h) (fun r60 G61 t H1 locs ht hvm hw hB hz1 hk1 hS => ?_)
              have hG : mm D vwCl A G61 H1 := by rw [← ht]; exact hB
              clear hB hz1 hk1 hvm ht
              generalize H1 = H at hG hS ⊢
              obtain ⟨k9, F9, L9, er60, hk1, hk64, hM2, hF2, hf9, hL9⟩ := hw
              replace hF := hF.tr hF2; replace hM := hM2; clear hM2 hF2
              refine mm_put (v := .int r60) (ty := .int) hx hb hf_X14 (fun _ h9 => h9) tyX14 tyX14_ok nmX14 hown hK hG hS hM.1 rfl 68 (by decide) (tb_use hT tw_1459) (fun _ h9 => h9) rfl (by decide +kernel) rfl rfl (Nat.le_of_ble_eq_true rfl) dX14_encode_442 (fun H locs hG hS => ?_)
              have hM := MD.puti (k := 68) (v := r60) hM rfl
              have hF := hF.wo (e' := .inr (15, (mfs Ar I1).set 68 (.int r60)))
              obtain ⟨I62, eI62⟩ : ∃ g, g = upd I1 68 r60 := ⟨_, rfl⟩
              rw [← eI62] at hM
              generalize mm_set _ _ _ = G63 at hG hM hF
              refine lv_iconst (v := 1) hx hb dX14_encode_445 (by decide) ?_
              exact W.iret (v := 1) hx hb hr (fun t ht hW => ⟨⟨_, _, rfl, ⟨I62, F9, L9, hM, hF, (fun j h1 h2 => by rw [eI62, pk_un h2, eI1, pk_un h1]), (by rw [eI62, pk_un (by decide), eI1, pk_us]), ⟨k9, hk64, (by rw [eI62, pk_us]; exact er60)⟩, (fun j hj => by rw [hf9 j hj, eF58, va_up_ne _ _ (by omega)]), (fun j h1 h2 => by rw [hL9 j h2, eL54, va_up_ne _ _ h1])⟩, mk_end hG ht⟩, hS.F ht⟩) hS.2.2 dX14_encode_446
            · skip
              refine lv_goto (tgt := 391) hx hb dX14_encode_373 (by decide) ?_
              refine lv_iconst (v := 0) hx hb dX14_encode_391 (by decide) ?_
              exact W.iret (v := 0) hx hb hr (fun t ht hW => ⟨⟨_, _, rfl, ⟨I1, F, L, hM, hF, (fun j h1 h2 => by rw [eI1, pk_un h1]), (by rw [eI1, pk_us]), ⟨sl9, (by omega), (by rw [eI1, pk_un (by decide)]; exact h68)⟩, (fun _ _ => rfl), (fun _ _ _ => rfl)⟩, mk_end hG ht⟩, hS.F ht⟩) hS.2.2 dX14_encode_392
    · skip
      refine lv_aload_n hx hb dX14_encode_76 rfl (lv_at hl 3 rfl) ?_
      refine mm_get (v := .ref (Ar 12)) hx hb hf_X14 (fun _ h9 => h9) hown hK hG hM.1 rfl 12 (by decide) (tb_use hT tw_1403) (fun _ h9 => h9) rfl dX14_encode_77 ?_
      refine lv_bipush (v := 12) hx hb dX14_encode_80 (by decide) ?_
      refine lv_aload_n hx hb dX14_encode_82 rfl (lv_at hl 3 rfl) ?_
      refine mm_get (v := .int (Iv 42)) hx hb hf_X14 (fun _ h9 => h9) hown hK hG hM.1 rfl 42 (by decide) (tb_use hT tw_1433) (fun _ h9 => h9) (by rw [eI1]; rfl) dX14_encode_83 ?_
      rw [show (Iv 42) = nI b9 from hbk]
      refine lv_imul hx hb dX14_encode_86 ?_
      refine lv_iload hx hb dX14_encode_87 (lv_at hl 1 rfl) ?_
      refine lv_iadd hx hb dX14_encode_89 ?_
      refine mm_iald (n := 24) (f := F 12) hx hb hK hG 1 (hM.2.1 12 rfl) rfl (by rw [show (12 : Int32) * nI b9 + nI c9 = nI (12 * b9 + c9) from nI_ma 12 b9 c9]; exact nI_in (N := 24) (by omega) (by decide)) dX14_encode_90 ?_
      refine lv_topi (fun x64 ex64 => ?_)
      refine lv_if_eq (tgt := 110) hx hb dX14_encode_91 (by decide) (fun c_91 => ?_) (fun c_91 => ?_)
      · skip
        refine lv_iconst (v := 0) hx hb dX14_encode_110 (by decide) ?_
        exact W.iret (v := 0) hx hb hr (fun t ht hW => ⟨⟨_, _, rfl, ⟨I1, F, L, hM, hF, (fun j h1 h2 => by rw [eI1, pk_un h1]), (by rw [eI1, pk_us]), ⟨sl9, (by omega), (by rw [eI1, pk_un (by decide)]; exact h68)⟩, (fun _ _ => rfl), (fun _ _ _ => rfl)⟩, mk_end hG ht⟩, hS.F ht⟩) hS.2.2 dX14_encode_111
      · skip
        have h11 : F 11 (12 * b9 + c9) = 2 := by have z := c_73; rw [ex8, show (12 : Int32) * nI b9 + nI c9 = nI (12 * b9 + c9) from nI_ma 12 b9 c9, nI_clamp (by omega)] at z; exact z
        have hup : ¬ F 12 (12 * b9 + c9) = 0 := fun z => c_91 (by rw [ex64, show (12 : Int32) * nI b9 + nI c9 = nI (12 * b9 + c9) from nI_ma 12 b9 c9, nI_clamp (by omega)]; exact z)
        have hdn : ¬ (F 13 (12 * b9 + c9)).toInt64 = 0 := by rcases hcd with ⟨_, _, y, _⟩ | ⟨y, _⟩; (intro z; have u := hcb.1.1; rw [y, z] at u; revert u; decide); exact absurd h11 y
        have hup2 : ¬ (F 12 (12 * b9 + c9)).toInt64 = 0 := fun z => hup (i32_64.mp (z.trans (by decide)))
        refine lv_lload_n hx hb dX14_encode_94 rfl (lv_at hl 6 rfl) ?_
        refine lv_ldc2 hx hb hown (tb_use hT tw_1854) dX14_encode_95 ?_
        refine W.lcmp hx hb dX14_encode_98 ?_
        refine lv_if_gt (tgt := 110) hx hb dX14_encode_99 (by decide) (fun c_99 => ?_) (fun c_99 => ?_)
        · skip
          refine lv_iconst (v := 0) hx hb dX14_encode_110 (by decide) ?_
          exact W.iret (v := 0) hx hb hr (fun t ht hW => ⟨⟨_, _, rfl, ⟨I1, F, L, hM, hF, (fun j h1 h2 => by rw [eI1, pk_un h1]), (by rw [eI1, pk_us]), ⟨sl9, (by omega), (by rw [eI1, pk_un (by decide)]; exact h68)⟩, (fun _ _ => rfl), (fun _ _ _ => rfl)⟩, mk_end hG ht⟩, hS.F ht⟩) hS.2.2 dX14_encode_111
        · skip
          refine lv_lload_n hx hb dX14_encode_102 rfl (lv_at hl 6 rfl) ?_
          refine lv_ldc2 hx hb hown (tb_use hT tw_1855) dX14_encode_103 ?_
          refine W.lcmp hx hb dX14_encode_106 ?_
          refine lv_if_ge (tgt := 112) hx hb dX14_encode_107 (by decide) (fun c_107 => ?_) (fun c_107 => ?_)
          · skip
            refine lv_lload_n hx hb dX14_encode_112 rfl (lv_at hl 6 rfl) ?_
            refine lv_aload_n hx hb dX14_encode_113 rfl (lv_at hl 3 rfl) ?_
            refine mm_get (v := .ref (Ar 14)) hx hb hf_X14 (fun _ h9 => h9) hown hK hG hM.1 rfl 14 (by decide) (tb_use hT tw_1405) (fun _ h9 => h9) rfl dX14_encode_114 ?_
            refine lv_bipush (v := 12) hx hb dX14_encode_117 (by decide) ?_
            refine lv_aload_n hx hb dX14_encode_119 rfl (lv_at hl 3 rfl) ?_
            refine mm_get (v := .int (Iv 42)) hx hb hf_X14 (fun _ h9 => h9) hown hK hG hM.1 rfl 42 (by decide) (tb_use hT tw_1433) (fun _ h9 => h9) (by rw [eI1]; rfl) dX14_encode_120 ?_
            rw [show (Iv 42) = nI b9 from hbk]
            refine lv_imul hx hb dX14_encode_123 ?_
            refine lv_iload hx hb dX14_encode_124 (lv_at hl 1 rfl) ?_
            refine lv_iadd hx hb dX14_encode_126 ?_
            refine mm_iald (n := 24) (f := F 14) hx hb hK hG 1 (hM.2.1 14 rfl) rfl (by rw [show (12 : Int32) * nI b9 + nI c9 = nI (12 * b9 + c9) from nI_ma 12 b9 c9]; exact nI_in (N := 24) (by omega) (by decide)) dX14_encode_127 ?_
            refine lv_topi (fun x67 ex67 => ?_)
            obtain ⟨x68, ex68⟩ : ∃ y, y = (x67 : Int32).toInt64 := ⟨_, rfl⟩
            refine lv_i2l (v := x68) hx hb dX14_encode_128 ex68.symm ?_
            refine lv_lsub hx hb dX14_encode_129 ?_
            refine lv_topl (fun x69 ex69 => ?_)
            refine lv_lstore (lv' := [(9, .long x69), (7, .long xv), (6, .int (nI c9)), (5, .int (nI (8 * s9 + i9))), (0, .ref o), (1, .int iv), (2, .int jv), (3, .long xv)]) hx hb dX14_encode_130 hl (by decide) rfl (fun ls hl => ?_)
            refine lv_ldc2 hx hb hown (tb_use hT tw_1856) dX14_encode_132 ?_
            refine lv_aload_n hx hb dX14_encode_135 rfl (lv_at hl 4 rfl) ?_
            refine mm_get (v := .ref (Ar 12)) hx hb hf_X14 (fun _ h9 => h9) hown hK hG hM.1 rfl 12 (by decide) (tb_use hT tw_1403) (fun _ h9 => h9) rfl dX14_encode_136 ?_
            refine lv_bipush (v := 12) hx hb dX14_encode_139 (by decide) ?_
            refine lv_aload_n hx hb dX14_encode_141 rfl (lv_at hl 4 rfl) ?_
            refine mm_get (v := .int (Iv 42)) hx hb hf_X14 (fun _ h9 => h9) hown hK hG hM.1 rfl 42 (by decide) (tb_use hT tw_1433) (fun _ h9 => h9) (by rw [eI1]; rfl) dX14_encode_142 ?_
            rw [show (Iv 42) = nI b9 from hbk]
            refine lv_imul hx hb dX14_encode_145 ?_
            refine lv_iload hx hb dX14_encode_146 (lv_at hl 2 rfl) ?_
            refine lv_iadd hx hb dX14_encode_148 ?_
            refine mm_iald (n := 24) (f := F 12) hx hb hK hG 1 (hM.2.1 12 rfl) rfl (by rw [show (12 : Int32) * nI b9 + nI c9 = nI (12 * b9 + c9) from nI_ma 12 b9 c9]; exact nI_in (N := 24) (by omega) (by decide)) dX14_encode_149 ?_
            refine lv_topi (fun x70 ex70 => ?_)
            refine lv_if_ge (tgt := 172) hx hb dX14_encode_150 (by decide) (fun c_150 => ?_) (fun c_150 => ?_)
            · skip
              refine lv_aload_n hx hb dX14_encode_172 rfl (lv_at hl 4 rfl) ?_
              refine mm_get (v := .ref (Ar 12)) hx hb hf_X14 (fun _ h9 => h9) hown hK hG hM.1 rfl 12 (by decide) (tb_use hT tw_1403) (fun _ h9 => h9) rfl dX14_encode_173 ?_
              refine lv_bipush (v := 12) hx hb dX14_encode_176 (by decide) ?_
              refine lv_aload_n hx hb dX14_encode_178 rfl (lv_at hl 4 rfl) ?_
              refine mm_get (v := .int (Iv 42)) hx hb hf_X14 (fun _ h9 => h9) hown hK hG hM.1 rfl 42 (by decide) (tb_use hT tw_1433) (fun _ h9 => h9) (by rw [eI1]; rfl) dX14_encode_179 ?_
              rw [show (Iv 42) = nI b9 from hbk]
              refine lv_imul hx hb dX14_encode_182 ?_
              refine lv_iload hx hb dX14_encode_183 (lv_at hl 2 rfl) ?_
              refine lv_iadd hx hb dX14_encode_185 ?_
              refine mm_iald (n := 24) (f := F 12) hx hb hK hG 1 (hM.2.1 12 rfl) rfl (by rw [show (12 : Int32) * nI b9 + nI c9 = nI (12 * b9 + c9) from nI_ma 12 b9 c9]; exact nI_in (N := 24) (by omega) (by decide)) dX14_encode_186 ?_
              refine lv_topi (fun x71 ex71 => ?_)
              obtain ⟨x72, ex72⟩ : ∃ y, y = (x71 : Int32).toInt64 := ⟨_, rfl⟩
              refine lv_i2l (v := x72) hx hb dX14_encode_187 ex72.symm ?_
              refine lv_lmul hx hb dX14_encode_188 ?_
              refine lv_aload_n hx hb dX14_encode_189 rfl (lv_at hl 4 rfl) ?_
              refine mm_get (v := .ref (Ar 13)) hx hb hf_X14 (fun _ h9 => h9) hown hK hG hM.1 rfl 13 (by decide) (tb_use hT tw_1404) (fun _ h9 => h9) rfl dX14_encode_190 ?_
              refine lv_bipush (v := 12) hx hb dX14_encode_193 (by decide) ?_
              refine lv_aload_n hx hb dX14_encode_195 rfl (lv_at hl 4 rfl) ?_
              refine mm_get (v := .int (Iv 42)) hx hb hf_X14 (fun _ h9 => h9) hown hK hG hM.1 rfl 42 (by decide) (tb_use hT tw_1433) (fun _ h9 => h9) (by rw [eI1]; rfl) dX14_encode_196 ?_
              rw [show (Iv 42) = nI b9 from hbk]
              refine lv_imul hx hb dX14_encode_199 ?_
              refine lv_iload hx hb dX14_encode_200 (lv_at hl 2 rfl) ?_
              refine lv_iadd hx hb dX14_encode_202 ?_
              refine mm_iald (n := 24) (f := F 13) hx hb hK hG 1 (hM.2.1 13 rfl) rfl (by rw [show (12 : Int32) * nI b9 + nI c9 = nI (12 * b9 + c9) from nI_ma 12 b9 c9]; exact nI_in (N := 24) (by omega) (by decide)) dX14_encode_203 ?_
              refine lv_topi (fun x73 ex73 => ?_)
              obtain ⟨x74, ex74⟩ : ∃ y, y = (x73 : Int32).toInt64 := ⟨_, rfl⟩
              refine lv_i2l (v := x74) hx hb dX14_encode_204 ex74.symm ?_
              have hz_x74 : ¬ x74 = 0 := by rw [ex74, ex73, show (12 : Int32) * nI b9 + nI c9 = nI (12 * b9 + c9) from nI_ma 12 b9 c9, nI_clamp (by omega)]; exact hdn
              refine lv_ldiv hx hb dX14_encode_205 (by assumption) ?_
              refine lv_topl (fun x75 ex75 => ?_)
              refine lv_lstore (lv' := [(11, .long x75), (9, .long x69), (7, .long xv), (6, .int (nI c9)), (5, .int (nI (8 * s9 + i9))), (0, .ref o), (1, .int iv), (2, .int jv), (3, .long xv)]) hx hb dX14_encode_206 hl (by decide) rfl (fun ls hl => ?_)
              refine lv_lload hx hb dX14_encode_208 (lv_at hl 1 rfl) ?_
              refine lv_lload hx hb dX14_encode_210 (lv_at hl 0 rfl) ?_
              refine W.lcmp hx hb dX14_encode_212 ?_
              refine lv_if_gt (tgt := 225) hx hb dX14_encode_213 (by decide) (fun c_213 => ?_) (fun c_213 => ?_)
              · skip
                refine lv_iconst (v := 0) hx hb dX14_encode_225 (by decide) ?_
                exact W.iret (v := 0) hx hb hr (fun t ht hW => ⟨⟨_, _, rfl, ⟨I1, F, L, hM, hF, (fun j h1 h2 => by rw [eI1, pk_un h1]), (by rw [eI1, pk_us]), ⟨sl9, (by omega), (by rw [eI1, pk_un (by decide)]; exact h68)⟩, (fun _ _ => rfl), (fun _ _ _ => rfl)⟩, mk_end hG ht⟩, hS.F ht⟩) hS.2.2 dX14_encode_226
              · skip
                refine lv_lload hx hb dX14_encode_216 (lv_at hl 1 rfl) ?_
                refine lv_lload hx hb dX14_encode_218 (lv_at hl 0 rfl) ?_
                refine lv_lneg hx hb dX14_encode_220 ?_
                refine W.lcmp hx hb dX14_encode_221 ?_
                refine lv_if_ge (tgt := 227) hx hb dX14_encode_222 (by decide) (fun c_222 => ?_) (fun c_222 => ?_)
                · skip
                  refine lv_lload hx hb dX14_encode_227 (lv_at hl 1 rfl) ?_
                  refine lv_aload_n hx hb dX14_encode_229 rfl (lv_at hl 5 rfl) ?_
                  refine mm_get (v := .ref (Ar 13)) hx hb hf_X14 (fun _ h9 => h9) hown hK hG hM.1 rfl 13 (by decide) (tb_use hT tw_1404) (fun _ h9 => h9) rfl dX14_encode_230 ?_
                  refine lv_bipush (v := 12) hx hb dX14_encode_233 (by decide) ?_
                  refine lv_aload_n hx hb dX14_encode_235 rfl (lv_at hl 5 rfl) ?_
                  refine mm_get (v := .int (Iv 42)) hx hb hf_X14 (fun _ h9 => h9) hown hK hG hM.1 rfl 42 (by decide) (tb_use hT tw_1433) (fun _ h9 => h9) (by rw [eI1]; rfl) dX14_encode_236 ?_
                  rw [show (Iv 42) = nI b9 from hbk]
                  refine lv_imul hx hb dX14_encode_239 ?_
                  refine lv_iload hx hb dX14_encode_240 (lv_at hl 3 rfl) ?_
                  refine lv_iadd hx hb dX14_encode_242 ?_
                  refine mm_iald (n := 24) (f := F 13) hx hb hK hG 1 (hM.2.1 13 rfl) rfl (by rw [show (12 : Int32) * nI b9 + nI c9 = nI (12 * b9 + c9) from nI_ma 12 b9 c9]; exact nI_in (N := 24) (by omega) (by decide)) dX14_encode_243 ?_
                  refine lv_topi (fun x78 ex78 => ?_)
                  obtain ⟨x79, ex79⟩ : ∃ y, y = (x78 : Int32).toInt64 := ⟨_, rfl⟩
                  refine lv_i2l (v := x79) hx hb dX14_encode_244 ex79.symm ?_
                  refine lv_lmul hx hb dX14_encode_245 ?_
                  refine lv_topl (fun x80 ex80 => ?_)
                  refine lv_lstore (lv' := [(13, .long x80), (11, .long x75), (9, .long x69), (7, .long xv), (6, .int (nI c9)), (5, .int (nI (8 * s9 + i9))), (0, .ref o), (1, .int iv), (2, .int jv), (3, .long xv)]) hx hb dX14_encode_246 hl (by decide) rfl (fun ls hl => ?_)
                  refine lv_lload hx hb dX14_encode_248 (lv_at hl 0 rfl) ?_
                  refine lv_aload_n hx hb dX14_encode_250 rfl (lv_at hl 6 rfl) ?_
                  refine mm_get (v := .ref (Ar 12)) hx hb hf_X14 (fun _ h9 => h9) hown hK hG hM.1 rfl 12 (by decide) (tb_use hT tw_1403) (fun _ h9 => h9) rfl dX14_encode_251 ?_
                  refine lv_bipush (v := 12) hx hb dX14_encode_254 (by decide) ?_
                  refine lv_aload_n hx hb dX14_encode_256 rfl (lv_at hl 6 rfl) ?_
                  refine mm_get (v := .int (Iv 42)) hx hb hf_X14 (fun _ h9 => h9) hown hK hG hM.1 rfl 42 (by decide) (tb_use hT tw_1433) (fun _ h9 => h9) (by rw [eI1]; rfl) dX14_encode_257 ?_
                  rw [show (Iv 42) = nI b9 from hbk]
                  refine lv_imul hx hb dX14_encode_260 ?_
                  refine lv_iload hx hb dX14_encode_261 (lv_at hl 4 rfl) ?_
                  refine lv_iadd hx hb dX14_encode_263 ?_
                  refine mm_iald (n := 24) (f := F 12) hx hb hK hG 1 (hM.2.1 12 rfl) rfl (by rw [show (12 : Int32) * nI b9 + nI c9 = nI (12 * b9 + c9) from nI_ma 12 b9 c9]; exact nI_in (N := 24) (by omega) (by decide)) dX14_encode_264 ?_
                  refine lv_topi (fun x81 ex81 => ?_)
                  obtain ⟨x82, ex82⟩ : ∃ y, y = (x81 : Int32).toInt64 := ⟨_, rfl⟩
                  refine lv_i2l (v := x82) hx hb dX14_encode_265 ex82.symm ?_
                  have hz_x82 : ¬ x82 = 0 := by rw [ex82, ex81, show (12 : Int32) * nI b9 + nI c9 = nI (12 * b9 + c9) from nI_ma 12 b9 c9, nI_clamp (by omega)]; exact hup2
                  refine lv_lrem hx hb dX14_encode_266 (by assumption) ?_
                  refine lv_topl (fun x83 ex83 => ?_)
                  refine lv_lconst (v := 0) hx hb dX14_encode_267 (by decide) ?_
                  refine W.lcmp hx hb dX14_encode_268 ?_
                  refine lv_if_eq (tgt := 274) hx hb dX14_encode_269 (by decide) (fun c_269 => ?_) (fun c_269 => ?_)
                  · skip
                    refine lv_lload hx hb dX14_encode_274 (lv_at hl 0 rfl) ?_
                    refine lv_aload_n hx hb dX14_encode_276 rfl (lv_at hl 6 rfl) ?_
                    refine mm_get (v := .ref (Ar 12)) hx hb hf_X14 (fun _ h9 => h9) hown hK hG hM.1 rfl 12 (by decide) (tb_use hT tw_1403) (fun _ h9 => h9) rfl dX14_encode_277 ?_
                    refine lv_bipush (v := 12) hx hb dX14_encode_280 (by decide) ?_
                    refine lv_aload_n hx hb dX14_encode_282 rfl (lv_at hl 6 rfl) ?_
                    refine mm_get (v := .int (Iv 42)) hx hb hf_X14 (fun _ h9 => h9) hown hK hG hM.1 rfl 42 (by decide) (tb_use hT tw_1433) (fun _ h9 => h9) (by rw [eI1]; rfl) dX14_encode_283 ?_
                    rw [show (Iv 42) = nI b9 from hbk]
                    refine lv_imul hx hb dX14_encode_286 ?_
                    refine lv_iload hx hb dX14_encode_287 (lv_at hl 4 rfl) ?_
                    refine lv_iadd hx hb dX14_encode_289 ?_
                    refine mm_iald (n := 24) (f := F 12) hx hb hK hG 1 (hM.2.1 12 rfl) rfl (by rw [show (12 : Int32) * nI b9 + nI c9 = nI (12 * b9 + c9) from nI_ma 12 b9 c9]; exact nI_in (N := 24) (by omega) (by decide)) dX14_encode_290 ?_
                    refine lv_topi (fun x85 ex85 => ?_)
                    obtain ⟨x86, ex86⟩ : ∃ y, y = (x85 : Int32).toInt64 := ⟨_, rfl⟩
                    refine lv_i2l (v := x86) hx hb dX14_encode_291 ex86.symm ?_
                    have hz_x86 : ¬ x86 = 0 := by rw [ex86, ex85, show (12 : Int32) * nI b9 + nI c9 = nI (12 * b9 + c9) from nI_ma 12 b9 c9, nI_clamp (by omega)]; exact hup2
                    refine lv_ldiv hx hb dX14_encode_292 (by assumption) ?_
                    refine lv_topl (fun x87 ex87 => ?_)
                    refine lv_lstore (lv' := [(7, .long x87), (13, .long x80), (11, .long x75), (9, .long x69), (6, .int (nI c9)), (5, .int (nI (8 * s9 + i9))), (0, .ref o), (1, .int iv), (2, .int jv), (3, .long xv)]) hx hb dX14_encode_293 hl (by decide) rfl (fun ls hl => ?_)
                    refine lv_lconst (v := 1) hx hb dX14_encode_295 (by decide) ?_
                    refine lv_bipush (v := 8) hx hb dX14_encode_296 (by decide) ?_
                    refine lv_aload_n hx hb dX14_encode_298 rfl (lv_at hl 6 rfl) ?_
                    refine mm_get (v := .ref (Ar 10)) hx hb hf_X14 (fun _ h9 => h9) hown hK hG hM.1 rfl 10 (by decide) (tb_use hT tw_1401) (fun _ h9 => h9) rfl dX14_encode_299 ?_
                    refine lv_bipush (v := 12) hx hb dX14_encode_302 (by decide) ?_
                    refine lv_aload_n hx hb dX14_encode_304 rfl (lv_at hl 6 rfl) ?_
                    refine mm_get (v := .int (Iv 42)) hx hb hf_X14 (fun _ h9 => h9) hown hK hG hM.1 rfl 42 (by decide) (tb_use hT tw_1433) (fun _ h9 => h9) (by rw [eI1]; rfl) dX14_encode_305 ?_
                    rw [show (Iv 42) = nI b9 from hbk]
                    refine lv_imul hx hb dX14_encode_308 ?_
                    refine lv_iload hx hb dX14_encode_309 (lv_at hl 4 rfl) ?_
                    refine lv_iadd hx hb dX14_encode_311 ?_
                    refine mm_iald (n := 24) (f := F 10) hx hb hK hG 1 (hM.2.1 10 rfl) rfl (by rw [show (12 : Int32) * nI b9 + nI c9 = nI (12 * b9 + c9) from nI_ma 12 b9 c9]; exact nI_in (N := 24) (by omega) (by decide)) dX14_encode_312 ?_
                    refine lv_topi (fun x88 ex88 => ?_)
                    refine lv_imul hx hb dX14_encode_313 ?_
                    obtain ⟨x89, ex89⟩ : ∃ y, y = (1 : Int64) <<< (((8 * x88) : Int32).toInt64 &&& 63) := ⟨_, rfl⟩
                    refine lv_lshl (v := x89) hx hb dX14_encode_314 ex89.symm ?_
                    refine lv_lstore (lv' := [(9, .long x89), (7, .long x87), (13, .long x80), (11, .long x75), (6, .int (nI c9)), (5, .int (nI (8 * s9 + i9))), (0, .ref o), (1, .int iv), (2, .int jv), (3, .long xv)]) hx hb dX14_encode_315 hl (by decide) rfl (fun ls hl => ?_)
                    refine lv_aload_n hx hb dX14_encode_317 rfl (lv_at hl 6 rfl) ?_
                    refine mm_get (v := .ref (Ar 11)) hx hb hf_X14 (fun _ h9 => h9) hown hK hG hM.1 rfl 11 (by decide) (tb_use hT tw_1402) (fun _ h9 => h9) rfl dX14_encode_318 ?_
                    refine lv_bipush (v := 12) hx hb dX14_encode_321 (by decide) ?_
                    refine lv_aload_n hx hb dX14_encode_323 rfl (lv_at hl 6 rfl) ?_
                    refine mm_get (v := .int (Iv 42)) hx hb hf_X14 (fun _ h9 => h9) hown hK hG hM.1 rfl 42 (by decide) (tb_use hT tw_1433) (fun _ h9 => h9) (by rw [eI1]; rfl) dX14_encode_324 ?_
                    rw [show (Iv 42) = nI b9 from hbk]
                    refine lv_imul hx hb dX14_encode_327 ?_
                    refine lv_iload hx hb dX14_encode_328 (lv_at hl 4 rfl) ?_
                    refine lv_iadd hx hb dX14_encode_330 ?_
                    refine mm_iald (n := 24) (f := F 11) hx hb hK hG 1 (hM.2.1 11 rfl) rfl (by rw [show (12 : Int32) * nI b9 + nI c9 = nI (12 * b9 + c9) from nI_ma 12 b9 c9]; exact nI_in (N := 24) (by omega) (by decide)) dX14_encode_331 ?_
                    refine lv_topi (fun x90 ex90 => ?_)
                    refine lv_iconst (v := 1) hx hb dX14_encode_332 (by decide) ?_
                    refine lv_icmp_ne (tgt := 340) hx hb dX14_encode_333 (by decide) (fun c_333 => ?_) (fun c_333 => ?_)
                    · skip
                      refine lv_iconst (v := 0) hx hb dX14_encode_340 (by decide) ?_
                      refine lv_istore (lv' := [(11, .int 0), (9, .long x89), (7, .long x87), (13, .long x80), (6, .int (nI c9)), (5, .int (nI (8 * s9 + i9))), (0, .ref o), (1, .int iv), (2, .int jv), (3, .long xv)]) hx hb dX14_encode_341 hl (by decide) rfl (fun ls hl => ?_)
                      refine lv_iload hx hb dX14_encode_343 (lv_at hl 0 rfl) ?_
                      refine lv_if_eq (tgt := 376) hx hb dX14_encode_345 (by decide) (fun c_345 => ?_) (fun c_345 => ?_)
                      · skip
                        refine lv_lload hx hb dX14_encode_376 (lv_at hl 2 rfl) ?_
                        refine lv_lconst (v := 0) hx hb dX14_encode_378 (by decide) ?_
                        refine W.lcmp hx hb dX14_encode_379 ?_
                        refine lv_if_lt (tgt := 391) hx hb dX14_encode_380 (by decide) (fun c_380 => ?_) (fun c_380 => ?_)
                        · skip
                          refine lv_iconst (v := 0) hx hb dX14_encode_391 (by decide) ?_
                          exact W.iret (v := 0) hx hb hr (fun t ht hW => ⟨⟨_, _, rfl, ⟨I1, F, L, hM, hF, (fun j h1 h2 => by rw [eI1, pk_un h1]), (by rw [eI1, pk_us]), ⟨sl9, (by omega), (by rw [eI1, pk_un (by decide)]; exact h68)⟩, (fun _ _ => rfl), (fun _ _ _ => rfl)⟩, mk_end hG ht⟩, hS.F ht⟩) hS.2.2 dX14_encode_392
                        · skip
                          refine lv_lload hx hb dX14_encode_383 (lv_at hl 2 rfl) ?_
                          refine lv_lload hx hb dX14_encode_385 (lv_at hl 1 rfl) ?_
                          refine W.lcmp hx hb dX14_encode_387 ?_
                          refine lv_if_lt (tgt := 393) hx hb dX14_encode_388 (by decide) (fun c_388 => ?_) (fun c_388 => ?_)
                          · skip
                            refine lv_aload_n hx hb dX14_encode_393 rfl (lv_at hl 6 rfl) ?_
                            refine mm_get (v := .ref (Ar 70)) hx hb hf_X14 (fun _ h9 => h9) hown hK hG hM.1 rfl 70 (by decide) (tb_use hT tw_1461) (fun _ h9 => h9) rfl dX14_encode_394 ?_
                            refine lv_iload hx hb dX14_encode_397 (lv_at hl 5 rfl) ?_
                            refine lv_lload hx hb dX14_encode_399 (lv_at hl 2 rfl) ?_
                            refine mm_last (n := mdN 70) (f := L 70) hx hb hK hG hS 2 (hM.2.2.1 70 rfl) rfl (nI_in (N := mdN 70) (by show _ < 128; omega) (by decide)) dX14_encode_401 (fun H locs hG hS => ?_)
                            have hM := MD.setj (k := 70) (vp_updL (L 70) (nI (8 * s9 + i9)).toNatClampNeg x87) hM rfl
                            have hF := hF.wa (k := 70) (e' := .inl (cy 2, mdN 70, .inr (.inl (vp_updL (L 70) (nI (8 * s9 + i9)).toNatClampNeg x87)))) rfl
                            obtain ⟨L93, eL93⟩ : ∃ g, g = va_up L 70 (vp_updL (L 70) (nI (8 * s9 + i9)).toNatClampNeg x87) := ⟨_, rfl⟩
                            rw [← eL93] at hM
                            generalize mm_set _ _ _ = G94 at hG hM hF
                            refine lv_aload_n hx hb dX14_encode_402 rfl (lv_at hl 6 rfl) ?_
                            refine mm_get (v := .ref (Ar 67)) hx hb hf_X14 (fun _ h9 => h9) hown hK hG hM.1 rfl 67 (by decide) (tb_use hT tw_1458) (fun _ h9 => h9) rfl dX14_encode_403 ?_
                            refine lv_iconst (v := 0) hx hb dX14_encode_406 (by decide) ?_
                            refine lv_aload_n hx hb dX14_encode_407 rfl (lv_at hl 6 rfl) ?_
                            refine mm_get (v := .ref (Ar 21)) hx hb hf_X14 (fun _ h9 => h9) hown hK hG hM.1 rfl 21 (by decide) (tb_use hT tw_1412) (fun _ h9 => h9) rfl dX14_encode_408 ?_
                            refine lv_bipush (v := 16) hx hb dX14_encode_411 (by decide) ?_
                            refine lv_aload_n hx hb dX14_encode_413 rfl (lv_at hl 6 rfl) ?_
                            refine mm_get (v := .int (Iv 42)) hx hb hf_X14 (fun _ h9 => h9) hown hK hG hM.1 rfl 42 (by decide) (tb_use hT tw_1433) (fun _ h9 => h9) (by rw [eI1]; rfl) dX14_encode_414 ?_
                            rw [show (Iv 42) = nI b9 from hbk]
                            refine lv_imul hx hb dX14_encode_417 ?_
                            refine lv_iload_n hx hb dX14_encode_418 rfl (lv_at hl 7 rfl) ?_
                            refine lv_iadd hx hb dX14_encode_419 ?_
                            refine lv_iconst (v := 1) hx hb dX14_encode_420 (by decide) ?_
                            refine lv_isub hx hb dX14_encode_421 ?_
                            rw [show (((16 * (nI b9)) + iv) - 1) = nI (16 * b9 + s9) by rw [hxs, show (16 : Int32) * nI b9 + nI (s9 + 1) = nI (16 * b9 + (s9 + 1)) from nI_ma 16 b9 (s9 + 1)]; exact nI_pred (16 * b9 + s9)]
                            refine mm_iald (n := 32) (f := F 21) hx hb hK hG 1 (hM.2.1 21 rfl) rfl (nI_in (N := 32) (by omega) (by decide)) dX14_encode_422 ?_
                            refine lv_topi (fun x95 ex95 => ?_)
                            refine lv_bipush (v := 64) hx hb dX14_encode_423 (by decide) ?_
                            refine lv_iadd hx hb dX14_encode_425 ?_
                            refine lv_topi (fun x96 ex96 => ?_)
                            refine mm_iast (n := mdN 67) (f := F 67) hx hb hK hG hS 1 (hM.2.1 67 rfl) rfl (nI_in (c := 0) (N := mdN 67) (by decide) (by decide)) dX14_encode_426 (fun H locs hG hS => ?_)
                            have hM := MD.seti (k := 67) (upd (F 67) (0 : Int32).toNatClampNeg x96) hM rfl
                            have hF := hF.wa (k := 67) (e' := .inl (cy 1, mdN 67, .inl (upd (F 67) (0 : Int32).toNatClampNeg x96))) rfl
                            obtain ⟨F97, eF97⟩ : ∃ g, g = va_up F 67 (upd (F 67) (0 : Int32).toNatClampNeg x96) := ⟨_, rfl⟩
                            rw [← eF97] at hM
                            generalize mm_set _ _ _ = G98 at hG hM hF
                            refine lv_aload_n hx hb dX14_encode_427 rfl (lv_at hl 6 rfl) ?_
                            refine lv_aload_n hx hb dX14_encode_428 rfl (lv_at hl 6 rfl) ?_
                            refine lv_iload_n hx hb dX14_encode_429 rfl (lv_at hl 7 rfl) ?_
                            refine lv_iconst (v := 1) hx hb dX14_encode_430 (by decide) ?_
                            refine lv_isub hx hb dX14_encode_431 ?_
                            rw [show iv - 1 = nI s9 by rw [hxs]; exact nI_pred s9]
                            refine lv_aload_n hx hb dX14_encode_432 rfl (lv_at hl 6 rfl) ?_
                            refine mm_get (v := .ref (Ar 67)) hx hb hf_X14 (fun _ h9 => h9) hown hK hG hM.1 rfl 67 (by decide) (tb_use hT tw_1458) (fun _ h9 => h9) rfl dX14_encode_433 ?_
                            refine lv_bipush (v := 64) hx hb dX14_encode_436 (by decide) ?_
                            refine lv_iconst (v := 1) hx hb dX14_encode_438 (by decide) ?_
                            have hB8 : BK (tkK ft en) (tkV ft en) n9 F97 b9 v9 := ⟨hB.1.mv (Nat.le_refl _) (fun k i hk => by rw [eF97, va_up_ne _ _ (by omega)]) rfl rfl rfl rfl, hB.2.1.mv (Nat.le_refl _) (fun k i hk => by rw [eF97, va_up_ne _ _ (by omega)]) rfl rfl, hB.2.2.1.mv (Nat.le_refl _) (fun k i hk => by rw [eF97, va_up_ne _ _ (by omega)]) rfl rfl rfl rfl, hB.2.2.2.1.mv (Nat.le_refl _) (fun k i hk => by rw [eF97, va_up_ne _ _ (by omega)]) rfl rfl, hB.2.2.2.2.1.mv (Nat.le_refl _) (fun k i hk => by rw [eF97, va_up_ne _ _ (by omega)]) rfl rfl, hB.2.2.2.2.2.mv (Nat.le_refl _) (fun k i hk => by rw [eF97, va_up_ne _ _ (by omega)]) rfl rfl rfl rfl⟩
                            refine va_calli (va_runV (As := [.int (nI s9), .ref (Ar 67), .int 64, .int 1]) (rest := [.ref o]) ⟨hx, hb, hml, hown, (fun _ h9 => absurd h9 List.not_mem_nil : ∀ w ∈ ([] : List Cond), w.before _ s = true)⟩ (c_M_findS l D cy A X hst hXT G98 o Ar I1 F97 L93 ft en b9 n9 v9 s9 hM hB8 hVL hWd hn30 hb9 (by rw [eI1]; exact hbk) hs9) (tb_cw (C := RX14) 4 hT tw_1832 tw_109 tw_1829 tw_1831 tw_96 rfl rfl (by decide +kernel) ⟨Nat.le_of_ble_eq_true rfl, Nat.le_of_ble_eq_true rfl⟩) (mk_preV hst hG hK hA hX hS (ci := 15) rfl hM.1) rfl rfl hl.1 rfl (lv_room (Nat.le_of_ble_eq_true rfl)) dX14_encode_439 ⟨Nat.le_of_ble_eq_true rfl, Nat.le_of_ble_eq_true rfl⟩) hS (fun q _ h => h) (fun q h => h) (fun r99 G100 t H1 locs ht hvm hw hB hz1 hk1 hS => ?_)
                            have hG : mm D vwCl A G100 H1 := by rw [← ht]; exact hB
                            clear hB hz1 hk1 hvm ht
                            generalize H1 = H at hG hS ⊢
                            obtain ⟨k9, F9, L9, er99, hk1, hk64, hM2, hF2, hf9, hL9⟩ := hw
                            replace hF := hF.tr hF2; replace hM := hM2; clear hM2 hF2
                            refine mm_put (v := .int r99) (ty := .int) hx hb hf_X14 (fun _ h9 => h9) tyX14 tyX14_ok nmX14 hown hK hG hS hM.1 rfl 68 (by decide) (tb_use hT tw_1459) (fun _ h9 => h9) rfl (by decide +kernel) rfl rfl (Nat.le_of_ble_eq_true rfl) dX14_encode_442 (fun H locs hG hS => ?_)
                            have hM := MD.puti (k := 68) (v := r99) hM rfl
                            have hF := hF.wo (e' := .inr (15, (mfs Ar I1).set 68 (.int r99)))
                            obtain ⟨I101, eI101⟩ : ∃ g, g = upd I1 68 r99 := ⟨_, rfl⟩
                            rw [← eI101] at hM
                            generalize mm_set _ _ _ = G102 at hG hM hF
                            refine lv_iconst (v := 1) hx hb dX14_encode_445 (by decide) ?_
                            exact W.iret (v := 1) hx hb hr (fun t ht hW => ⟨⟨_, _, rfl, ⟨I101, F9, L9, hM, hF, (fun j h1 h2 => by rw [eI101, pk_un h2, eI1, pk_un h1]), (by rw [eI101, pk_un (by decide), eI1, pk_us]), ⟨k9, hk64, (by rw [eI101, pk_us]; exact er99)⟩, (fun j hj => by rw [hf9 j hj, eF97, va_up_ne _ _ (by omega)]), (fun j h1 h2 => by rw [hL9 j h2, eL93, va_up_ne _ _ h1])⟩, mk_end hG ht⟩, hS.F ht⟩) hS.2.2 dX14_encode_446
                          · skip
                            refine lv_iconst (v := 0) hx hb dX14_encode_391 (by decide) ?_
                            exact W.iret (v := 0) hx hb hr (fun t ht hW => ⟨⟨_, _, rfl, ⟨I1, F, L, hM, hF, (fun j h1 h2 => by rw [eI1, pk_un h1]), (by rw [eI1, pk_us]), ⟨sl9, (by omega), (by rw [eI1, pk_un (by decide)]; exact h68)⟩, (fun _ _ => rfl), (fun _ _ _ => rfl)⟩, mk_end hG ht⟩, hS.F ht⟩) hS.2.2 dX14_encode_392
                      · skip
                        refine lv_lload hx hb dX14_encode_348 (lv_at hl 2 rfl) ?_
                        refine lv_lload hx hb dX14_encode_350 (lv_at hl 1 rfl) ?_
                        refine lv_lneg hx hb dX14_encode_352 ?_
                        refine lv_ldc2 hx hb hown (tb_use hT tw_1857) dX14_encode_353 ?_
                        refine lv_ldiv hx hb dX14_encode_356 (by decide) ?_
                        refine lv_topl (fun x103 ex103 => ?_)
                        refine W.lcmp hx hb dX14_encode_357 ?_
                        refine lv_if_lt (tgt := 391) hx hb dX14_encode_358 (by decide) (fun c_358 => ?_) (fun c_358 => ?_)
                        · skip
                          refine lv_iconst (v := 0) hx hb dX14_encode_391 (by decide) ?_
                          exact W.iret (v := 0) hx hb hr (fun t ht hW => ⟨⟨_, _, rfl, ⟨I1, F, L, hM, hF, (fun j h1 h2 => by rw [eI1, pk_un h1]), (by rw [eI1, pk_us]), ⟨sl9, (by omega), (by rw [eI1, pk_un (by decide)]; exact h68)⟩, (fun _ _ => rfl), (fun _ _ _ => rfl)⟩, mk_end hG ht⟩, hS.F ht⟩) hS.2.2 dX14_encode_392
                        · skip
                          refine lv_lload hx hb dX14_encode_361 (lv_at hl 2 rfl) ?_
                          refine lv_lload hx hb dX14_encode_363 (lv_at hl 1 rfl) ?_
                          refine lv_ldc2 hx hb hown (tb_use hT tw_1857) dX14_encode_365 ?_
                          refine lv_ldiv hx hb dX14_encode_368 (by decide) ?_
                          refine lv_topl (fun x105 ex105 => ?_)
                          refine W.lcmp hx hb dX14_encode_369 ?_
                          refine lv_if_lt (tgt := 393) hx hb dX14_encode_370 (by decide) (fun c_370 => ?_) (fun c_370 => ?_)
                          · skip
                            refine lv_aload_n hx hb dX14_encode_393 rfl (lv_at hl 6 rfl) ?_
                            refine mm_get (v := .ref (Ar 70)) hx hb hf_X14 (fun _ h9 => h9) hown hK hG hM.1 rfl 70 (by decide) (tb_use hT tw_1461) (fun _ h9 => h9) rfl dX14_encode_394 ?_
                            refine lv_iload hx hb dX14_encode_397 (lv_at hl 5 rfl) ?_
                            refine lv_lload hx hb dX14_encode_399 (lv_at hl 2 rfl) ?_
                            refine mm_last (n := mdN 70) (f := L 70) hx hb hK hG hS 2 (hM.2.2.1 70 rfl) rfl (nI_in (N := mdN 70) (by show _ < 128; omega) (by decide)) dX14_encode_401 (fun H locs hG hS => ?_)
                            have hM := MD.setj (k := 70) (vp_updL (L 70) (nI (8 * s9 + i9)).toNatClampNeg x87) hM rfl
                            have hF := hF.wa (k := 70) (e' := .inl (cy 2, mdN 70, .inr (.inl (vp_updL (L 70) (nI (8 * s9 + i9)).toNatClampNeg x87)))) rfl
                            obtain ⟨L107, eL107⟩ : ∃ g, g = va_up L 70 (vp_updL (L 70) (nI (8 * s9 + i9)).toNatClampNeg x87) := ⟨_, rfl⟩
                            rw [← eL107] at hM
                            generalize mm_set _ _ _ = G108 at hG hM hF
                            refine lv_aload_n hx hb dX14_encode_402 rfl (lv_at hl 6 rfl) ?_
                            refine mm_get (v := .ref (Ar 67)) hx hb hf_X14 (fun _ h9 => h9) hown hK hG hM.1 rfl 67 (by decide) (tb_use hT tw_1458) (fun _ h9 => h9) rfl dX14_encode_403 ?_
                            refine lv_iconst (v := 0) hx hb dX14_encode_406 (by decide) ?_
                            refine lv_aload_n hx hb dX14_encode_407 rfl (lv_at hl 6 rfl) ?_
                            refine mm_get (v := .ref (Ar 21)) hx hb hf_X14 (fun _ h9 => h9) hown hK hG hM.1 rfl 21 (by decide) (tb_use hT tw_1412) (fun _ h9 => h9) rfl dX14_encode_408 ?_
                            refine lv_bipush (v := 16) hx hb dX14_encode_411 (by decide) ?_
                            refine lv_aload_n hx hb dX14_encode_413 rfl (lv_at hl 6 rfl) ?_
                            refine mm_get (v := .int (Iv 42)) hx hb hf_X14 (fun _ h9 => h9) hown hK hG hM.1 rfl 42 (by decide) (tb_use hT tw_1433) (fun _ h9 => h9) (by rw [eI1]; rfl) dX14_encode_414 ?_
                            rw [show (Iv 42) = nI b9 from hbk]
                            refine lv_imul hx hb dX14_encode_417 ?_
                            refine lv_iload_n hx hb dX14_encode_418 rfl (lv_at hl 7 rfl) ?_
                            refine lv_iadd hx hb dX14_encode_419 ?_
                            refine lv_iconst (v := 1) hx hb dX14_encode_420 (by decide) ?_
                            refine lv_isub hx hb dX14_encode_421 ?_
                            rw [show (((16 * (nI b9)) + iv) - 1) = nI (16 * b9 + s9) by rw [hxs, show (16 : Int32) * nI b9 + nI (s9 + 1) = nI (16 * b9 + (s9 + 1)) from nI_ma 16 b9 (s9 + 1)]; exact nI_pred (16 * b9 + s9)]
                            refine mm_iald (n := 32) (f := F 21) hx hb hK hG 1 (hM.2.1 21 rfl) rfl (nI_in (N := 32) (by omega) (by decide)) dX14_encode_422 ?_
                            refine lv_topi (fun x109 ex109 => ?_)
                            refine lv_bipush (v := 64) hx hb dX14_encode_423 (by decide) ?_
                            refine lv_iadd hx hb dX14_encode_425 ?_
                            refine lv_topi (fun x110 ex110 => ?_)
                            refine mm_iast (n := mdN 67) (f := F 67) hx hb hK hG hS 1 (hM.2.1 67 rfl) rfl (nI_in (c := 0) (N := mdN 67) (by decide) (by decide)) dX14_encode_426 (fun H locs hG hS => ?_)
                            have hM := MD.seti (k := 67) (upd (F 67) (0 : Int32).toNatClampNeg x110) hM rfl
                            have hF := hF.wa (k := 67) (e' := .inl (cy 1, mdN 67, .inl (upd (F 67) (0 : Int32).toNatClampNeg x110))) rfl
                            obtain ⟨F111, eF111⟩ : ∃ g, g = va_up F 67 (upd (F 67) (0 : Int32).toNatClampNeg x110) := ⟨_, rfl⟩
                            rw [← eF111] at hM
                            generalize mm_set _ _ _ = G112 at hG hM hF
                            refine lv_aload_n hx hb dX14_encode_427 rfl (lv_at hl 6 rfl) ?_
                            refine lv_aload_n hx hb dX14_encode_428 rfl (lv_at hl 6 rfl) ?_
                            refine lv_iload_n hx hb dX14_encode_429 rfl (lv_at hl 7 rfl) ?_
                            refine lv_iconst (v := 1) hx hb dX14_encode_430 (by decide) ?_
                            refine lv_isub hx hb dX14_encode_431 ?_
                            rw [show iv - 1 = nI s9 by rw [hxs]; exact nI_pred s9]
                            refine lv_aload_n hx hb dX14_encode_432 rfl (lv_at hl 6 rfl) ?_
                            refine mm_get (v := .ref (Ar 67)) hx hb hf_X14 (fun _ h9 => h9) hown hK hG hM.1 rfl 67 (by decide) (tb_use hT tw_1458) (fun _ h9 => h9) rfl dX14_encode_433 ?_
                            refine lv_bipush (v := 64) hx hb dX14_encode_436 (by decide) ?_
                            refine lv_iconst (v := 1) hx hb dX14_encode_438 (by decide) ?_
                            have hB8 : BK (tkK ft en) (tkV ft en) n9 F111 b9 v9 := ⟨hB.1.mv (Nat.le_refl _) (fun k i hk => by rw [eF111, va_up_ne _ _ (by omega)]) rfl rfl rfl rfl, hB.2.1.mv (Nat.le_refl _) (fun k i hk => by rw [eF111, va_up_ne _ _ (by omega)]) rfl rfl, hB.2.2.1.mv (Nat.le_refl _) (fun k i hk => by rw [eF111, va_up_ne _ _ (by omega)]) rfl rfl rfl rfl, hB.2.2.2.1.mv (Nat.le_refl _) (fun k i hk => by rw [eF111, va_up_ne _ _ (by omega)]) rfl rfl, hB.2.2.2.2.1.mv (Nat.le_refl _) (fun k i hk => by rw [eF111, va_up_ne _ _ (by omega)]) rfl rfl, hB.2.2.2.2.2.mv (Nat.le_refl _) (fun k i hk => by rw [eF111, va_up_ne _ _ (by omega)]) rfl rfl rfl rfl⟩
                            refine va_calli (va_runV (As := [.int (nI s9), .ref (Ar 67), .int 64, .int 1]) (rest := [.ref o]) ⟨hx, hb, hml, hown, (fun _ h9 => absurd h9 List.not_mem_nil : ∀ w ∈ ([] : List Cond), w.before _ s = true)⟩ (c_M_findS l D cy A X hst hXT G112 o Ar I1 F111 L107 ft en b9 n9 v9 s9 hM hB8 hVL hWd hn30 hb9 (by rw [eI1]; exact hbk) hs9) (tb_cw (C := RX14) 4 hT tw_1832 tw_109 tw_1829 tw_1831 tw_96 rfl rfl (by decide +kernel) ⟨Nat.le_of_ble_eq_true rfl, Nat.le_of_ble_eq_true rfl⟩) (mk_preV hst hG hK hA hX hS (ci := 15) rfl hM.1) rfl rfl hl.1 rfl (lv_room (Nat.le_of_ble_eq_true rfl)) dX14_encode_439 ⟨Nat.le_of_ble_eq_true rfl, Nat.le_of_ble_eq_true rfl⟩) hS (fun q _ h => h) (fun q h => h) (fun r113 G114 t H1 locs ht hvm hw hB hz1 hk1 hS => ?_)
                            have hG : mm D vwCl A G114 H1 := by rw [← ht]; exact hB
                            clear hB hz1 hk1 hvm ht
                            generalize H1 = H at hG hS ⊢
                            obtain ⟨k9, F9, L9, er113, hk1, hk64, hM2, hF2, hf9, hL9⟩ := hw
                            replace hF := hF.tr hF2; replace hM := hM2; clear hM2 hF2
                            refine mm_put (v := .int r113) (ty := .int) hx hb hf_X14 (fun _ h9 => h9) tyX14 tyX14_ok nmX14 hown hK hG hS hM.1 rfl 68 (by decide) (tb_use hT tw_1459) (fun _ h9 => h9) rfl (by decide +kernel) rfl rfl (Nat.le_of_ble_eq_true rfl) dX14_encode_442 (fun H locs hG hS => ?_)
                            have hM := MD.puti (k := 68) (v := r113) hM rfl
                            have hF := hF.wo (e' := .inr (15, (mfs Ar I1).set 68 (.int r113)))
                            obtain ⟨I115, eI115⟩ : ∃ g, g = upd I1 68 r113 := ⟨_, rfl⟩
                            rw [← eI115] at hM
                            generalize mm_set _ _ _ = G116 at hG hM hF
                            refine lv_iconst (v := 1) hx hb dX14_encode_445 (by decide) ?_
                            exact W.iret (v := 1) hx hb hr (fun t ht hW => ⟨⟨_, _, rfl, ⟨I115, F9, L9, hM, hF, (fun j h1 h2 => by rw [eI115, pk_un h2, eI1, pk_un h1]), (by rw [eI115, pk_un (by decide), eI1, pk_us]), ⟨k9, hk64, (by rw [eI115, pk_us]; exact er113)⟩, (fun j hj => by rw [hf9 j hj, eF111, va_up_ne _ _ (by omega)]), (fun j h1 h2 => by rw [hL9 j h2, eL107, va_up_ne _ _ h1])⟩, mk_end hG ht⟩, hS.F ht⟩) hS.2.2 dX14_encode_446
                          · skip
                            refine lv_goto (tgt := 391) hx hb dX14_encode_373 (by decide) ?_
                            refine lv_iconst (v := 0) hx hb dX14_encode_391 (by decide) ?_
                            exact W.iret (v := 0) hx hb hr (fun t ht hW => ⟨⟨_, _, rfl, ⟨I1, F, L, hM, hF, (fun j h1 h2 => by rw [eI1, pk_un h1]), (by rw [eI1, pk_us]), ⟨sl9, (by omega), (by rw [eI1, pk_un (by decide)]; exact h68)⟩, (fun _ _ => rfl), (fun _ _ _ => rfl)⟩, mk_end hG ht⟩, hS.F ht⟩) hS.2.2 dX14_encode_392
                    · skip
                      refine lv_iconst (v := 1) hx hb dX14_encode_336 (by decide) ?_
                      refine lv_goto (tgt := 341) hx hb dX14_encode_337 (by decide) ?_
                      refine lv_istore (lv' := [(11, .int 1), (9, .long x89), (7, .long x87), (13, .long x80), (6, .int (nI c9)), (5, .int (nI (8 * s9 + i9))), (0, .ref o), (1, .int iv), (2, .int jv), (3, .long xv)]) hx hb dX14_encode_341 hl (by decide) rfl (fun ls hl => ?_)
                      refine lv_iload hx hb dX14_encode_343 (lv_at hl 0 rfl) ?_
                      refine lv_if_eq (tgt := 376) hx hb dX14_encode_345 (by decide) (fun c_345 => ?_) (fun c_345 => ?_)
                      · skip
                        refine lv_lload hx hb dX14_encode_376 (lv_at hl 2 rfl) ?_
                        refine lv_lconst (v := 0) hx hb dX14_encode_378 (by decide) ?_
                        refine W.lcmp hx hb dX14_encode_379 ?_
                        refine lv_if_lt (tgt := 391) hx hb dX14_encode_380 (by decide) (fun c_380 => ?_) (fun c_380 => ?_)
                        · skip
                          refine lv_iconst (v := 0) hx hb dX14_encode_391 (by decide) ?_
                          exact W.iret (v := 0) hx hb hr (fun t ht hW => ⟨⟨_, _, rfl, ⟨I1, F, L, hM, hF, (fun j h1 h2 => by rw [eI1, pk_un h1]), (by rw [eI1, pk_us]), ⟨sl9, (by omega), (by rw [eI1, pk_un (by decide)]; exact h68)⟩, (fun _ _ => rfl), (fun _ _ _ => rfl)⟩, mk_end hG ht⟩, hS.F ht⟩) hS.2.2 dX14_encode_392
                        · skip
                          refine lv_lload hx hb dX14_encode_383 (lv_at hl 2 rfl) ?_
                          refine lv_lload hx hb dX14_encode_385 (lv_at hl 1 rfl) ?_
                          refine W.lcmp hx hb dX14_encode_387 ?_
                          refine lv_if_lt (tgt := 393) hx hb dX14_encode_388 (by decide) (fun c_388 => ?_) (fun c_388 => ?_)
                          · skip
                            refine lv_aload_n hx hb dX14_encode_393 rfl (lv_at hl 6 rfl) ?_
                            refine mm_get (v := .ref (Ar 70)) hx hb hf_X14 (fun _ h9 => h9) hown hK hG hM.1 rfl 70 (by decide) (tb_use hT tw_1461) (fun _ h9 => h9) rfl dX14_encode_394 ?_
                            refine lv_iload hx hb dX14_encode_397 (lv_at hl 5 rfl) ?_
                            refine lv_lload hx hb dX14_encode_399 (lv_at hl 2 rfl) ?_
                            refine mm_last (n := mdN 70) (f := L 70) hx hb hK hG hS 2 (hM.2.2.1 70 rfl) rfl (nI_in (N := mdN 70) (by show _ < 128; omega) (by decide)) dX14_encode_401 (fun H locs hG hS => ?_)
                            have hM := MD.setj (k := 70) (vp_updL (L 70) (nI (8 * s9 + i9)).toNatClampNeg x87) hM rfl
                            have hF := hF.wa (k := 70) (e' := .inl (cy 2, mdN 70, .inr (.inl (vp_updL (L 70) (nI (8 * s9 + i9)).toNatClampNeg x87)))) rfl
                            obtain ⟨L119, eL119⟩ : ∃ g, g = va_up L 70 (vp_updL (L 70) (nI (8 * s9 + i9)).toNatClampNeg x87) := ⟨_, rfl⟩
                            rw [← eL119] at hM
                            generalize mm_set _ _ _ = G120 at hG hM hF
                            refine lv_aload_n hx hb dX14_encode_402 rfl (lv_at hl 6 rfl) ?_
                            refine mm_get (v := .ref (Ar 67)) hx hb hf_X14 (fun _ h9 => h9) hown hK hG hM.1 rfl 67 (by decide) (tb_use hT tw_1458) (fun _ h9 => h9) rfl dX14_encode_403 ?_
                            refine lv_iconst (v := 0) hx hb dX14_encode_406 (by decide) ?_
                            refine lv_aload_n hx hb dX14_encode_407 rfl (lv_at hl 6 rfl) ?_
                            refine mm_get (v := .ref (Ar 21)) hx hb hf_X14 (fun _ h9 => h9) hown hK hG hM.1 rfl 21 (by decide) (tb_use hT tw_1412) (fun _ h9 => h9) rfl dX14_encode_408 ?_
                            refine lv_bipush (v := 16) hx hb dX14_encode_411 (by decide) ?_
                            refine lv_aload_n hx hb dX14_encode_413 rfl (lv_at hl 6 rfl) ?_
                            refine mm_get (v := .int (Iv 42)) hx hb hf_X14 (fun _ h9 => h9) hown hK hG hM.1 rfl 42 (by decide) (tb_use hT tw_1433) (fun _ h9 => h9) (by rw [eI1]; rfl) dX14_encode_414 ?_
                            rw [show (Iv 42) = nI b9 from hbk]
                            refine lv_imul hx hb dX14_encode_417 ?_
                            refine lv_iload_n hx hb dX14_encode_418 rfl (lv_at hl 7 rfl) ?_
                            refine lv_iadd hx hb dX14_encode_419 ?_
                            refine lv_iconst (v := 1) hx hb dX14_encode_420 (by decide) ?_
                            refine lv_isub hx hb dX14_encode_421 ?_
                            rw [show (((16 * (nI b9)) + iv) - 1) = nI (16 * b9 + s9) by rw [hxs, show (16 : Int32) * nI b9 + nI (s9 + 1) = nI (16 * b9 + (s9 + 1)) from nI_ma 16 b9 (s9 + 1)]; exact nI_pred (16 * b9 + s9)]
                            refine mm_iald (n := 32) (f := F 21) hx hb hK hG 1 (hM.2.1 21 rfl) rfl (nI_in (N := 32) (by omega) (by decide)) dX14_encode_422 ?_
                            refine lv_topi (fun x121 ex121 => ?_)
                            refine lv_bipush (v := 64) hx hb dX14_encode_423 (by decide) ?_
                            refine lv_iadd hx hb dX14_encode_425 ?_
                            refine lv_topi (fun x122 ex122 => ?_)
                            refine mm_iast (n := mdN 67) (f := F 67) hx hb hK hG hS 1 (hM.2.1 67 rfl) rfl (nI_in (c := 0) (N := mdN 67) (by decide) (by decide)) dX14_encode_426 (fun H locs hG hS => ?_)
                            have hM := MD.seti (k := 67) (upd (F 67) (0 : Int32).toNatClampNeg x122) hM rfl
                            have hF := hF.wa (k := 67) (e' := .inl (cy 1, mdN 67, .inl (upd (F 67) (0 : Int32).toNatClampNeg x122))) rfl
                            obtain ⟨F123, eF123⟩ : ∃ g, g = va_up F 67 (upd (F 67) (0 : Int32).toNatClampNeg x122) := ⟨_, rfl⟩
                            rw [← eF123] at hM
                            generalize mm_set _ _ _ = G124 at hG hM hF
                            refine lv_aload_n hx hb dX14_encode_427 rfl (lv_at hl 6 rfl) ?_
                            refine lv_aload_n hx hb dX14_encode_428 rfl (lv_at hl 6 rfl) ?_
                            refine lv_iload_n hx hb dX14_encode_429 rfl (lv_at hl 7 rfl) ?_
                            refine lv_iconst (v := 1) hx hb dX14_encode_430 (by decide) ?_
                            refine lv_isub hx hb dX14_encode_431 ?_
                            rw [show iv - 1 = nI s9 by rw [hxs]; exact nI_pred s9]
                            refine lv_aload_n hx hb dX14_encode_432 rfl (lv_at hl 6 rfl) ?_
                            refine mm_get (v := .ref (Ar 67)) hx hb hf_X14 (fun _ h9 => h9) hown hK hG hM.1 rfl 67 (by decide) (tb_use hT tw_1458) (fun _ h9 => h9) rfl dX14_encode_433 ?_
                            refine lv_bipush (v := 64) hx hb dX14_encode_436 (by decide) ?_
                            refine lv_iconst (v := 1) hx hb dX14_encode_438 (by decide) ?_
                            have hB8 : BK (tkK ft en) (tkV ft en) n9 F123 b9 v9 := ⟨hB.1.mv (Nat.le_refl _) (fun k i hk => by rw [eF123, va_up_ne _ _ (by omega)]) rfl rfl rfl rfl, hB.2.1.mv (Nat.le_refl _) (fun k i hk => by rw [eF123, va_up_ne _ _ (by omega)]) rfl rfl, hB.2.2.1.mv (Nat.le_refl _) (fun k i hk => by rw [eF123, va_up_ne _ _ (by omega)]) rfl rfl rfl rfl, hB.2.2.2.1.mv (Nat.le_refl _) (fun k i hk => by rw [eF123, va_up_ne _ _ (by omega)]) rfl rfl, hB.2.2.2.2.1.mv (Nat.le_refl _) (fun k i hk => by rw [eF123, va_up_ne _ _ (by omega)]) rfl rfl, hB.2.2.2.2.2.mv (Nat.le_refl _) (fun k i hk => by rw [eF123, va_up_ne _ _ (by omega)]) rfl rfl rfl rfl⟩
                            refine va_calli (va_runV (As := [.int (nI s9), .ref (Ar 67), .int 64, .int 1]) (rest := [.ref o]) ⟨hx, hb, hml, hown, (fun _ h9 => absurd h9 List.not_mem_nil : ∀ w ∈ ([] : List Cond), w.before _ s = true)⟩ (c_M_findS l D cy A X hst hXT G124 o Ar I1 F123 L119 ft en b9 n9 v9 s9 hM hB8 hVL hWd hn30 hb9 (by rw [eI1]; exact hbk) hs9) (tb_cw (C := RX14) 4 hT tw_1832 tw_109 tw_1829 tw_1831 tw_96 rfl rfl (by decide +kernel) ⟨Nat.le_of_ble_eq_true rfl, Nat.le_of_ble_eq_true rfl⟩) (mk_preV hst hG hK hA hX hS (ci := 15) rfl hM.1) rfl rfl hl.1 rfl (lv_room (Nat.le_of_ble_eq_true rfl)) dX14_encode_439 ⟨Nat.le_of_ble_eq_true rfl, Nat.le_of_ble_eq_true rfl⟩) hS (fun q _ h => h) (fun q h => h) (fun r125 G126 t H1 locs ht hvm hw hB hz1 hk1 hS => ?_)
                            have hG : mm D vwCl A G126 H1 := by rw [← ht]; exact hB
                            clear hB hz1 hk1 hvm ht
                            generalize H1 = H at hG hS ⊢
                            obtain ⟨k9, F9, L9, er125, hk1, hk64, hM2, hF2, hf9, hL9⟩ := hw
                            replace hF := hF.tr hF2; replace hM := hM2; clear hM2 hF2
                            refine mm_put (v := .int r125) (ty := .int) hx hb hf_X14 (fun _ h9 => h9) tyX14 tyX14_ok nmX14 hown hK hG hS hM.1 rfl 68 (by decide) (tb_use hT tw_1459) (fun _ h9 => h9) rfl (by decide +kernel) rfl rfl (Nat.le_of_ble_eq_true rfl) dX14_encode_442 (fun H locs hG hS => ?_)
                            have hM := MD.puti (k := 68) (v := r125) hM rfl
                            have hF := hF.wo (e' := .inr (15, (mfs Ar I1).set 68 (.int r125)))
                            obtain ⟨I127, eI127⟩ : ∃ g, g = upd I1 68 r125 := ⟨_, rfl⟩
                            rw [← eI127] at hM
                            generalize mm_set _ _ _ = G128 at hG hM hF
                            refine lv_iconst (v := 1) hx hb dX14_encode_445 (by decide) ?_
                            exact W.iret (v := 1) hx hb hr (fun t ht hW => ⟨⟨_, _, rfl, ⟨I127, F9, L9, hM, hF, (fun j h1 h2 => by rw [eI127, pk_un h2, eI1, pk_un h1]), (by rw [eI127, pk_un (by decide), eI1, pk_us]), ⟨k9, hk64, (by rw [eI127, pk_us]; exact er125)⟩, (fun j hj => by rw [hf9 j hj, eF123, va_up_ne _ _ (by omega)]), (fun j h1 h2 => by rw [hL9 j h2, eL119, va_up_ne _ _ h1])⟩, mk_end hG ht⟩, hS.F ht⟩) hS.2.2 dX14_encode_446
                          · skip
                            refine lv_iconst (v := 0) hx hb dX14_encode_391 (by decide) ?_
                            exact W.iret (v := 0) hx hb hr (fun t ht hW => ⟨⟨_, _, rfl, ⟨I1, F, L, hM, hF, (fun j h1 h2 => by rw [eI1, pk_un h1]), (by rw [eI1, pk_us]), ⟨sl9, (by omega), (by rw [eI1, pk_un (by decide)]; exact h68)⟩, (fun _ _ => rfl), (fun _ _ _ => rfl)⟩, mk_end hG ht⟩, hS.F ht⟩) hS.2.2 dX14_encode_392
                      · skip
                        refine lv_lload hx hb dX14_encode_348 (lv_at hl 2 rfl) ?_
                        refine lv_lload hx hb dX14_encode_350 (lv_at hl 1 rfl) ?_
                        refine lv_lneg hx hb dX14_encode_352 ?_
                        refine lv_ldc2 hx hb hown (tb_use hT tw_1857) dX14_encode_353 ?_
                        refine lv_ldiv hx hb dX14_encode_356 (by decide) ?_
                        refine lv_topl (fun x129 ex129 => ?_)
                        refine W.lcmp hx hb dX14_encode_357 ?_
                        refine lv_if_lt (tgt := 391) hx hb dX14_encode_358 (by decide) (fun c_358 => ?_) (fun c_358 => ?_)
                        · skip
                          refine lv_iconst (v := 0) hx hb dX14_encode_391 (by decide) ?_
                          exact W.iret (v := 0) hx hb hr (fun t ht hW => ⟨⟨_, _, rfl, ⟨I1, F, L, hM, hF, (fun j h1 h2 => by rw [eI1, pk_un h1]), (by rw [eI1, pk_us]), ⟨sl9, (by omega), (by rw [eI1, pk_un (by decide)]; exact h68)⟩, (fun _ _ => rfl), (fun _ _ _ => rfl)⟩, mk_end hG ht⟩, hS.F ht⟩) hS.2.2 dX14_encode_392
                        · skip
                          refine lv_lload hx hb dX14_encode_361 (lv_at hl 2 rfl) ?_
                          refine lv_lload hx hb dX14_encode_363 (lv_at hl 1 rfl) ?_
                          refine lv_ldc2 hx hb hown (tb_use hT tw_1857) dX14_encode_365 ?_
                          refine lv_ldiv hx hb dX14_encode_368 (by decide) ?_
                          refine lv_topl (fun x131 ex131 => ?_)
                          refine W.lcmp hx hb dX14_encode_369 ?_
                          refine lv_if_lt (tgt := 393) hx hb dX14_encode_370 (by decide) (fun c_370 => ?_) (fun c_370 => ?_)
                          · skip
                            refine lv_aload_n hx hb dX14_encode_393 rfl (lv_at hl 6 rfl) ?_
                            refine mm_get (v := .ref (Ar 70)) hx hb hf_X14 (fun _ h9 => h9) hown hK hG hM.1 rfl 70 (by decide) (tb_use hT tw_1461) (fun _ h9 => h9) rfl dX14_encode_394 ?_
                            refine lv_iload hx hb dX14_encode_397 (lv_at hl 5 rfl) ?_
                            refine lv_lload hx hb dX14_encode_399 (lv_at hl 2 rfl) ?_
                            refine mm_last (n := mdN 70) (f := L 70) hx hb hK hG hS 2 (hM.2.2.1 70 rfl) rfl (nI_in (N := mdN 70) (by show _ < 128; omega) (by decide)) dX14_encode_401 (fun H locs hG hS => ?_)
                            have hM := MD.setj (k := 70) (vp_updL (L 70) (nI (8 * s9 + i9)).toNatClampNeg x87) hM rfl
                            have hF := hF.wa (k := 70) (e' := .inl (cy 2, mdN 70, .inr (.inl (vp_updL (L 70) (nI (8 * s9 + i9)).toNatClampNeg x87)))) rfl
                            obtain ⟨L133, eL133⟩ : ∃ g, g = va_up L 70 (vp_updL (L 70) (nI (8 * s9 + i9)).toNatClampNeg x87) := ⟨_, rfl⟩
                            rw [← eL133] at hM
                            generalize mm_set _ _ _ = G134 at hG hM hF
                            refine lv_aload_n hx hb dX14_encode_402 rfl (lv_at hl 6 rfl) ?_
                            refine mm_get (v := .ref (Ar 67)) hx hb hf_X14 (fun _ h9 => h9) hown hK hG hM.1 rfl 67 (by decide) (tb_use hT tw_1458) (fun _ h9 => h9) rfl dX14_encode_403 ?_
                            refine lv_iconst (v := 0) hx hb dX14_encode_406 (by decide) ?_
                            refine lv_aload_n hx hb dX14_encode_407 rfl (lv_at hl 6 rfl) ?_
                            refine mm_get (v := .ref (Ar 21)) hx hb hf_X14 (fun _ h9 => h9) hown hK hG hM.1 rfl 21 (by decide) (tb_use hT tw_1412) (fun _ h9 => h9) rfl dX14_encode_408 ?_
                            refine lv_bipush (v := 16) hx hb dX14_encode_411 (by decide) ?_
                            refine lv_aload_n hx hb dX14_encode_413 rfl (lv_at hl 6 rfl) ?_
                            refine mm_get (v := .int (Iv 42)) hx hb hf_X14 (fun _ h9 => h9) hown hK hG hM.1 rfl 42 (by decide) (tb_use hT tw_1433) (fun _ h9 => h9) (by rw [eI1]; rfl) dX14_encode_414 ?_
                            rw [show (Iv 42) = nI b9 from hbk]
                            refine lv_imul hx hb dX14_encode_417 ?_
                            refine lv_iload_n hx hb dX14_encode_418 rfl (lv_at hl 7 rfl) ?_
                            refine lv_iadd hx hb dX14_encode_419 ?_
                            refine lv_iconst (v := 1) hx hb dX14_encode_420 (by decide) ?_
                            refine lv_isub hx hb dX14_encode_421 ?_
                            rw [show (((16 * (nI b9)) + iv) - 1) = nI (16 * b9 + s9) by rw [hxs, show (16 : Int32) * nI b9 + nI (s9 + 1) = nI (16 * b9 + (s9 + 1)) from nI_ma 16 b9 (s9 + 1)]; exact nI_pred (16 * b9 + s9)]
                            refine mm_iald (n := 32) (f := F 21) hx hb hK hG 1 (hM.2.1 21 rfl) rfl (nI_in (N := 32) (by omega) (by decide)) dX14_encode_422 ?_
                            refine lv_topi (fun x135 ex135 => ?_)
                            refine lv_bipush (v := 64) hx hb dX14_encode_423 (by decide) ?_
                            refine lv_iadd hx hb dX14_encode_425 ?_
                            refine lv_topi (fun x136 ex136 => ?_)
                            refine mm_iast (n := mdN 67) (f := F 67) hx hb hK hG hS 1 (hM.2.1 67 rfl) rfl (nI_in (c := 0) (N := mdN 67) (by decide) (by decide)) dX14_encode_426 (fun H locs hG hS => ?_)
                            have hM := MD.seti (k := 67) (upd (F 67) (0 : Int32).toNatClampNeg x136) hM rfl
                            have hF := hF.wa (k := 67) (e' := .inl (cy 1, mdN 67, .inl (upd (F 67) (0 : Int32).toNatClampNeg x136))) rfl
                            obtain ⟨F137, eF137⟩ : ∃ g, g = va_up F 67 (upd (F 67) (0 : Int32).toNatClampNeg x136) := ⟨_, rfl⟩
                            rw [← eF137] at hM
                            generalize mm_set _ _ _ = G138 at hG hM hF
                            refine lv_aload_n hx hb dX14_encode_427 rfl (lv_at hl 6 rfl) ?_
                            refine lv_aload_n hx hb dX14_encode_428 rfl (lv_at hl 6 rfl) ?_
                            refine lv_iload_n hx hb dX14_encode_429 rfl (lv_at hl 7 rfl) ?_
                            refine lv_iconst (v := 1) hx hb dX14_encode_430 (by decide) ?_
                            refine lv_isub hx hb dX14_encode_431 ?_
                            rw [show iv - 1 = nI s9 by rw [hxs]; exact nI_pred s9]
                            refine lv_aload_n hx hb dX14_encode_432 rfl (lv_at hl 6 rfl) ?_
                            refine mm_get (v := .ref (Ar 67)) hx hb hf_X14 (fun _ h9 => h9) hown hK hG hM.1 rfl 67 (by decide) (tb_use hT tw_1458) (fun _ h9 => h9) rfl dX14_encode_433 ?_
                            refine lv_bipush (v := 64) hx hb dX14_encode_436 (by decide) ?_
                            refine lv_iconst (v := 1) hx hb dX14_encode_438 (by decide) ?_
                            have hB8 : BK (tkK ft en) (tkV ft en) n9 F137 b9 v9 := ⟨hB.1.mv (Nat.le_refl _) (fun k i hk => by rw [eF137, va_up_ne _ _ (by omega)]) rfl rfl rfl rfl, hB.2.1.mv (Nat.le_refl _) (fun k i hk => by rw [eF137, va_up_ne _ _ (by omega)]) rfl rfl, hB.2.2.1.mv (Nat.le_refl _) (fun k i hk => by rw [eF137, va_up_ne _ _ (by omega)]) rfl rfl rfl rfl, hB.2.2.2.1.mv (Nat.le_refl _) (fun k i hk => by rw [eF137, va_up_ne _ _ (by omega)]) rfl rfl, hB.2.2.2.2.1.mv (Nat.le_refl _) (fun k i hk => by rw [eF137, va_up_ne _ _ (by omega)]) rfl rfl, hB.2.2.2.2.2.mv (Nat.le_refl _) (fun k i hk => by rw [eF137, va_up_ne _ _ (by omega)]) rfl rfl rfl rfl⟩
                            refine va_calli (va_runV (As := [.int (nI s9), .ref (Ar 67), .int 64, .int 1]) (rest := [.ref o]) ⟨hx, hb, hml, hown, (fun _ h9 => absurd h9 List.not_mem_nil : ∀ w ∈ ([] : List Cond), w.before _ s = true)⟩ (c_M_findS l D cy A X hst hXT G138 o Ar I1 F137 L133 ft en b9 n9 v9 s9 hM hB8 hVL hWd hn30 hb9 (by rw [eI1]; exact hbk) hs9) (tb_cw (C := RX14) 4 hT tw_1832 tw_109 tw_1829 tw_1831 tw_96 rfl rfl (by decide +kernel) ⟨Nat.le_of_ble_eq_true rfl, Nat.le_of_ble_eq_true rfl⟩) (mk_preV hst hG hK hA hX hS (ci := 15) rfl hM.1) rfl rfl hl.1 rfl (lv_room (Nat.le_of_ble_eq_true rfl)) dX14_encode_439 ⟨Nat.le_of_ble_eq_true rfl, Nat.le_of_ble_eq_true rfl⟩) hS (fun q _ h => h) (fun q h => h) (fun r139 G140 t H1 locs ht hvm hw hB hz1 hk1 hS => ?_)
                            have hG : mm D vwCl A G140 H1 := by rw [← ht]; exact hB
                            clear hB hz1 hk1 hvm ht
                            generalize H1 = H at hG hS ⊢
                            obtain ⟨k9, F9, L9, er139, hk1, hk64, hM2, hF2, hf9, hL9⟩ := hw
                            replace hF := hF.tr hF2; replace hM := hM2; clear hM2 hF2
                            refine mm_put (v := .int r139) (ty := .int) hx hb hf_X14 (fun _ h9 => h9) tyX14 tyX14_ok nmX14 hown hK hG hS hM.1 rfl 68 (by decide) (tb_use hT tw_1459) (fun _ h9 => h9) rfl (by decide +kernel) rfl rfl (Nat.le_of_ble_eq_true rfl) dX14_encode_442 (fun H locs hG hS => ?_)
                            have hM := MD.puti (k := 68) (v := r139) hM rfl
                            have hF := hF.wo (e' := .inr (15, (mfs Ar I1).set 68 (.int r139)))
                            obtain ⟨I141, eI141⟩ : ∃ g, g = upd I1 68 r139 := ⟨_, rfl⟩
                            rw [← eI141] at hM
                            generalize mm_set _ _ _ = G142 at hG hM hF
                            refine lv_iconst (v := 1) hx hb dX14_encode_445 (by decide) ?_
                            exact W.iret (v := 1) hx hb hr (fun t ht hW => ⟨⟨_, _, rfl, ⟨I141, F9, L9, hM, hF, (fun j h1 h2 => by rw [eI141, pk_un h2, eI1, pk_un h1]), (by rw [eI141, pk_un (by decide), eI1, pk_us]), ⟨k9, hk64, (by rw [eI141, pk_us]; exact er139)⟩, (fun j hj => by rw [hf9 j hj, eF137, va_up_ne _ _ (by omega)]), (fun j h1 h2 => by rw [hL9 j h2, eL133, va_up_ne _ _ h1])⟩, mk_end hG ht⟩, hS.F ht⟩) hS.2.2 dX14_encode_446
                          · skip
                            refine lv_goto (tgt := 391) hx hb dX14_encode_373 (by decide) ?_
                            refine lv_iconst (v := 0) hx hb dX14_encode_391 (by decide) ?_
                            exact W.iret (v := 0) hx hb hr (fun t ht hW => ⟨⟨_, _, rfl, ⟨I1, F, L, hM, hF, (fun j h1 h2 => by rw [eI1, pk_un h1]), (by rw [eI1, pk_us]), ⟨sl9, (by omega), (by rw [eI1, pk_un (by decide)]; exact h68)⟩, (fun _ _ => rfl), (fun _ _ _ => rfl)⟩, mk_end hG ht⟩, hS.F ht⟩) hS.2.2 dX14_encode_392
                  · skip
                    refine lv_iconst (v := 0) hx hb dX14_encode_272 (by decide) ?_
                    exact W.iret (v := 0) hx hb hr (fun t ht hW => ⟨⟨_, _, rfl, ⟨I1, F, L, hM, hF, (fun j h1 h2 => by rw [eI1, pk_un h1]), (by rw [eI1, pk_us]), ⟨sl9, (by omega), (by rw [eI1, pk_un (by decide)]; exact h68)⟩, (fun _ _ => rfl), (fun _ _ _ => rfl)⟩, mk_end hG ht⟩, hS.F ht⟩) hS.2.2 dX14_encode_273
                · skip
                  refine lv_iconst (v := 0) hx hb dX14_encode_225 (by decide) ?_
                  exact W.iret (v := 0) hx hb hr (fun t ht hW => ⟨⟨_, _, rfl, ⟨I1, F, L, hM, hF, (fun j h1 h2 => by rw [eI1, pk_un h1]), (by rw [eI1, pk_us]), ⟨sl9, (by omega), (by rw [eI1, pk_un (by decide)]; exact h68)⟩, (fun _ _ => rfl), (fun _ _ _ => rfl)⟩, mk_end hG ht⟩, hS.F ht⟩) hS.2.2 dX14_encode_226
            · skip
              refine lv_aload_n hx hb dX14_encode_153 rfl (lv_at hl 4 rfl) ?_
              refine mm_get (v := .ref (Ar 12)) hx hb hf_X14 (fun _ h9 => h9) hown hK hG hM.1 rfl 12 (by decide) (tb_use hT tw_1403) (fun _ h9 => h9) rfl dX14_encode_154 ?_
              refine lv_bipush (v := 12) hx hb dX14_encode_157 (by decide) ?_
              refine lv_aload_n hx hb dX14_encode_159 rfl (lv_at hl 4 rfl) ?_
              refine mm_get (v := .int (Iv 42)) hx hb hf_X14 (fun _ h9 => h9) hown hK hG hM.1 rfl 42 (by decide) (tb_use hT tw_1433) (fun _ h9 => h9) (by rw [eI1]; rfl) dX14_encode_160 ?_
              rw [show (Iv 42) = nI b9 from hbk]
              refine lv_imul hx hb dX14_encode_163 ?_
              refine lv_iload hx hb dX14_encode_164 (lv_at hl 2 rfl) ?_
              refine lv_iadd hx hb dX14_encode_166 ?_
              refine mm_iald (n := 24) (f := F 12) hx hb hK hG 1 (hM.2.1 12 rfl) rfl (by rw [show (12 : Int32) * nI b9 + nI c9 = nI (12 * b9 + c9) from nI_ma 12 b9 c9]; exact nI_in (N := 24) (by omega) (by decide)) dX14_encode_167 ?_
              refine lv_topi (fun x143 ex143 => ?_)
              refine lv_ineg hx hb dX14_encode_168 ?_
              refine lv_goto (tgt := 187) hx hb dX14_encode_169 (by decide) ?_
              obtain ⟨x144, ex144⟩ : ∃ y, y = ((-x143) : Int32).toInt64 := ⟨_, rfl⟩
              refine lv_i2l (v := x144) hx hb dX14_encode_187 ex144.symm ?_
              refine lv_lmul hx hb dX14_encode_188 ?_
              refine lv_aload_n hx hb dX14_encode_189 rfl (lv_at hl 4 rfl) ?_
              refine mm_get (v := .ref (Ar 13)) hx hb hf_X14 (fun _ h9 => h9) hown hK hG hM.1 rfl 13 (by decide) (tb_use hT tw_1404) (fun _ h9 => h9) rfl dX14_encode_190 ?_
              refine lv_bipush (v := 12) hx hb dX14_encode_193 (by decide) ?_
              refine lv_aload_n hx hb dX14_encode_195 rfl (lv_at hl 4 rfl) ?_
              refine mm_get (v := .int (Iv 42)) hx hb hf_X14 (fun _ h9 => h9) hown hK hG hM.1 rfl 42 (by decide) (tb_use hT tw_1433) (fun _ h9 => h9) (by rw [eI1]; rfl) dX14_encode_196 ?_
              rw [show (Iv 42) = nI b9 from hbk]
              refine lv_imul hx hb dX14_encode_199 ?_
              refine lv_iload hx hb dX14_encode_200 (lv_at hl 2 rfl) ?_
              refine lv_iadd hx hb dX14_encode_202 ?_
              refine mm_iald (n := 24) (f := F 13) hx hb hK hG 1 (hM.2.1 13 rfl) rfl (by rw [show (12 : Int32) * nI b9 + nI c9 = nI (12 * b9 + c9) from nI_ma 12 b9 c9]; exact nI_in (N := 24) (by omega) (by decide)) dX14_encode_203 ?_
              refine lv_topi (fun x145 ex145 => ?_)
              obtain ⟨x146, ex146⟩ : ∃ y, y = (x145 : Int32).toInt64 := ⟨_, rfl⟩
              refine lv_i2l (v := x146) hx hb dX14_encode_204 ex146.symm ?_
              have hz_x146 : ¬ x146 = 0 := by rw [ex146, ex145, show (12 : Int32) * nI b9 + nI c9 = nI (12 * b9 + c9) from nI_ma 12 b9 c9, nI_clamp (by omega)]; exact hdn
              refine lv_ldiv hx hb dX14_encode_205 (by assumption) ?_
              refine lv_topl (fun x147 ex147 => ?_)
              refine lv_lstore (lv' := [(11, .long x147), (9, .long x69), (7, .long xv), (6, .int (nI c9)), (5, .int (nI (8 * s9 + i9))), (0, .ref o), (1, .int iv), (2, .int jv), (3, .long xv)]) hx hb dX14_encode_206 hl (by decide) rfl (fun ls hl => ?_)
              refine lv_lload hx hb dX14_encode_208 (lv_at hl 1 rfl) ?_
              refine lv_lload hx hb dX14_encode_210 (lv_at hl 0 rfl) ?_
              refine W.lcmp hx hb dX14_encode_212 ?_
              refine lv_if_gt (tgt := 225) hx hb dX14_encode_213 (by decide) (fun c_213 => ?_) (fun c_213 => ?_)
              · skip
                refine lv_iconst (v := 0) hx hb dX14_encode_225 (by decide) ?_
                exact W.iret (v := 0) hx hb hr (fun t ht hW => ⟨⟨_, _, rfl, ⟨I1, F, L, hM, hF, (fun j h1 h2 => by rw [eI1, pk_un h1]), (by rw [eI1, pk_us]), ⟨sl9, (by omega), (by rw [eI1, pk_un (by decide)]; exact h68)⟩, (fun _ _ => rfl), (fun _ _ _ => rfl)⟩, mk_end hG ht⟩, hS.F ht⟩) hS.2.2 dX14_encode_226
              · skip
                refine lv_lload hx hb dX14_encode_216 (lv_at hl 1 rfl) ?_
                refine lv_lload hx hb dX14_encode_218 (lv_at hl 0 rfl) ?_
                refine lv_lneg hx hb dX14_encode_220 ?_
                refine W.lcmp hx hb dX14_encode_221 ?_
                refine lv_if_ge (tgt := 227) hx hb dX14_encode_222 (by decide) (fun c_222 => ?_) (fun c_222 => ?_)
                · skip
                  refine lv_lload hx hb dX14_encode_227 (lv_at hl 1 rfl) ?_
                  refine lv_aload_n hx hb dX14_encode_229 rfl (lv_at hl 5 rfl) ?_
                  refine mm_get (v := .ref (Ar 13)) hx hb hf_X14 (fun _ h9 => h9) hown hK hG hM.1 rfl 13 (by decide) (tb_use hT tw_1404) (fun _ h9 => h9) rfl dX14_encode_230 ?_
                  refine lv_bipush (v := 12) hx hb dX14_encode_233 (by decide) ?_
                  refine lv_aload_n hx hb dX14_encode_235 rfl (lv_at hl 5 rfl) ?_
                  refine mm_get (v := .int (Iv 42)) hx hb hf_X14 (fun _ h9 => h9) hown hK hG hM.1 rfl 42 (by decide) (tb_use hT tw_1433) (fun _ h9 => h9) (by rw [eI1]; rfl) dX14_encode_236 ?_
                  rw [show (Iv 42) = nI b9 from hbk]
                  refine lv_imul hx hb dX14_encode_239 ?_
                  refine lv_iload hx hb dX14_encode_240 (lv_at hl 3 rfl) ?_
                  refine lv_iadd hx hb dX14_encode_242 ?_
                  refine mm_iald (n := 24) (f := F 13) hx hb hK hG 1 (hM.2.1 13 rfl) rfl (by rw [show (12 : Int32) * nI b9 + nI c9 = nI (12 * b9 + c9) from nI_ma 12 b9 c9]; exact nI_in (N := 24) (by omega) (by decide)) dX14_encode_243 ?_
                  refine lv_topi (fun x150 ex150 => ?_)
                  obtain ⟨x151, ex151⟩ : ∃ y, y = (x150 : Int32).toInt64 := ⟨_, rfl⟩
                  refine lv_i2l (v := x151) hx hb dX14_encode_244 ex151.symm ?_
                  refine lv_lmul hx hb dX14_encode_245 ?_
                  refine lv_topl (fun x152 ex152 => ?_)
                  refine lv_lstore (lv' := [(13, .long x152), (11, .long x147), (9, .long x69), (7, .long xv), (6, .int (nI c9)), (5, .int (nI (8 * s9 + i9))), (0, .ref o), (1, .int iv), (2, .int jv), (3, .long xv)]) hx hb dX14_encode_246 hl (by decide) rfl (fun ls hl => ?_)
                  refine lv_lload hx hb dX14_encode_248 (lv_at hl 0 rfl) ?_
                  refine lv_aload_n hx hb dX14_encode_250 rfl (lv_at hl 6 rfl) ?_
                  refine mm_get (v := .ref (Ar 12)) hx hb hf_X14 (fun _ h9 => h9) hown hK hG hM.1 rfl 12 (by decide) (tb_use hT tw_1403) (fun _ h9 => h9) rfl dX14_encode_251 ?_
                  refine lv_bipush (v := 12) hx hb dX14_encode_254 (by decide) ?_
                  refine lv_aload_n hx hb dX14_encode_256 rfl (lv_at hl 6 rfl) ?_
                  refine mm_get (v := .int (Iv 42)) hx hb hf_X14 (fun _ h9 => h9) hown hK hG hM.1 rfl 42 (by decide) (tb_use hT tw_1433) (fun _ h9 => h9) (by rw [eI1]; rfl) dX14_encode_257 ?_
                  rw [show (Iv 42) = nI b9 from hbk]
                  refine lv_imul hx hb dX14_encode_260 ?_
                  refine lv_iload hx hb dX14_encode_261 (lv_at hl 4 rfl) ?_
                  refine lv_iadd hx hb dX14_encode_263 ?_
                  refine mm_iald (n := 24) (f := F 12) hx hb hK hG 1 (hM.2.1 12 rfl) rfl (by rw [show (12 : Int32) * nI b9 + nI c9 = nI (12 * b9 + c9) from nI_ma 12 b9 c9]; exact nI_in (N := 24) (by omega) (by decide)) dX14_encode_264 ?_
                  refine lv_topi (fun x153 ex153 => ?_)
                  obtain ⟨x154, ex154⟩ : ∃ y, y = (x153 : Int32).toInt64 := ⟨_, rfl⟩
                  refine lv_i2l (v := x154) hx hb dX14_encode_265 ex154.symm ?_
                  have hz_x154 : ¬ x154 = 0 := by rw [ex154, ex153, show (12 : Int32) * nI b9 + nI c9 = nI (12 * b9 + c9) from nI_ma 12 b9 c9, nI_clamp (by omega)]; exact hup2
                  refine lv_lrem hx hb dX14_encode_266 (by assumption) ?_
                  refine lv_topl (fun x155 ex155 => ?_)
                  refine lv_lconst (v := 0) hx hb dX14_encode_267 (by decide) ?_
                  refine W.lcmp hx hb dX14_encode_268 ?_
                  refine lv_if_eq (tgt := 274) hx hb dX14_encode_269 (by decide) (fun c_269 => ?_) (fun c_269 => ?_)
                  · skip
                    refine lv_lload hx hb dX14_encode_274 (lv_at hl 0 rfl) ?_
                    refine lv_aload_n hx hb dX14_encode_276 rfl (lv_at hl 6 rfl) ?_
                    refine mm_get (v := .ref (Ar 12)) hx hb hf_X14 (fun _ h9 => h9) hown hK hG hM.1 rfl 12 (by decide) (tb_use hT tw_1403) (fun _ h9 => h9) rfl dX14_encode_277 ?_
                    refine lv_bipush (v := 12) hx hb dX14_encode_280 (by decide) ?_
                    refine lv_aload_n hx hb dX14_encode_282 rfl (lv_at hl 6 rfl) ?_
                    refine mm_get (v := .int (Iv 42)) hx hb hf_X14 (fun _ h9 => h9) hown hK hG hM.1 rfl 42 (by decide) (tb_use hT tw_1433) (fun _ h9 => h9) (by rw [eI1]; rfl) dX14_encode_283 ?_
                    rw [show (Iv 42) = nI b9 from hbk]
                    refine lv_imul hx hb dX14_encode_286 ?_
                    refine lv_iload hx hb dX14_encode_287 (lv_at hl 4 rfl) ?_
                    refine lv_iadd hx hb dX14_encode_289 ?_
                    refine mm_iald (n := 24) (f := F 12) hx hb hK hG 1 (hM.2.1 12 rfl) rfl (by rw [show (12 : Int32) * nI b9 + nI c9 = nI (12 * b9 + c9) from nI_ma 12 b9 c9]; exact nI_in (N := 24) (by omega) (by decide)) dX14_encode_290 ?_
                    refine lv_topi (fun x157 ex157 => ?_)
                    obtain ⟨x158, ex158⟩ : ∃ y, y = (x157 : Int32).toInt64 := ⟨_, rfl⟩
                    refine lv_i2l (v := x158) hx hb dX14_encode_291 ex158.symm ?_
                    have hz_x158 : ¬ x158 = 0 := by rw [ex158, ex157, show (12 : Int32) * nI b9 + nI c9 = nI (12 * b9 + c9) from nI_ma 12 b9 c9, nI_clamp (by omega)]; exact hup2
                    refine lv_ldiv hx hb dX14_encode_292 (by assumption) ?_
                    refine lv_topl (fun x159 ex159 => ?_)
                    refine lv_lstore (lv' := [(7, .long x159), (13, .long x152), (11, .long x147), (9, .long x69), (6, .int (nI c9)), (5, .int (nI (8 * s9 + i9))), (0, .ref o), (1, .int iv), (2, .int jv), (3, .long xv)]) hx hb dX14_encode_293 hl (by decide) rfl (fun ls hl => ?_)
                    refine lv_lconst (v := 1) hx hb dX14_encode_295 (by decide) ?_
                    refine lv_bipush (v := 8) hx hb dX14_encode_296 (by decide) ?_
                    refine lv_aload_n hx hb dX14_encode_298 rfl (lv_at hl 6 rfl) ?_
                    refine mm_get (v := .ref (Ar 10)) hx hb hf_X14 (fun _ h9 => h9) hown hK hG hM.1 rfl 10 (by decide) (tb_use hT tw_1401) (fun _ h9 => h9) rfl dX14_encode_299 ?_
                    refine lv_bipush (v := 12) hx hb dX14_encode_302 (by decide) ?_
                    refine lv_aload_n hx hb dX14_encode_304 rfl (lv_at hl 6 rfl) ?_
                    refine mm_get (v := .int (Iv 42)) hx hb hf_X14 (fun _ h9 => h9) hown hK hG hM.1 rfl 42 (by decide) (tb_use hT tw_1433) (fun _ h9 => h9) (by rw [eI1]; rfl) dX14_encode_305 ?_
                    rw [show (Iv 42) = nI b9 from hbk]
                    refine lv_imul hx hb dX14_encode_308 ?_
                    refine lv_iload hx hb dX14_encode_309 (lv_at hl 4 rfl) ?_
                    refine lv_iadd hx hb dX14_encode_311 ?_
                    refine mm_iald (n := 24) (f := F 10) hx hb hK hG 1 (hM.2.1 10 rfl) rfl (by rw [show (12 : Int32) * nI b9 + nI c9 = nI (12 * b9 + c9) from nI_ma 12 b9 c9]; exact nI_in (N := 24) (by omega) (by decide)) dX14_encode_312 ?_
                    refine lv_topi (fun x160 ex160 => ?_)
                    refine lv_imul hx hb dX14_encode_313 ?_
                    obtain ⟨x161, ex161⟩ : ∃ y, y = (1 : Int64) <<< (((8 * x160) : Int32).toInt64 &&& 63) := ⟨_, rfl⟩
                    refine lv_lshl (v := x161) hx hb dX14_encode_314 ex161.symm ?_
                    refine lv_lstore (lv' := [(9, .long x161), (7, .long x159), (13, .long x152), (11, .long x147), (6, .int (nI c9)), (5, .int (nI (8 * s9 + i9))), (0, .ref o), (1, .int iv), (2, .int jv), (3, .long xv)]) hx hb dX14_encode_315 hl (by decide) rfl (fun ls hl => ?_)
                    refine lv_aload_n hx hb dX14_encode_317 rfl (lv_at hl 6 rfl) ?_
                    refine mm_get (v := .ref (Ar 11)) hx hb hf_X14 (fun _ h9 => h9) hown hK hG hM.1 rfl 11 (by decide) (tb_use hT tw_1402) (fun _ h9 => h9) rfl dX14_encode_318 ?_
                    refine lv_bipush (v := 12) hx hb dX14_encode_321 (by decide) ?_
                    refine lv_aload_n hx hb dX14_encode_323 rfl (lv_at hl 6 rfl) ?_
                    refine mm_get (v := .int (Iv 42)) hx hb hf_X14 (fun _ h9 => h9) hown hK hG hM.1 rfl 42 (by decide) (tb_use hT tw_1433) (fun _ h9 => h9) (by rw [eI1]; rfl) dX14_encode_324 ?_
                    rw [show (Iv 42) = nI b9 from hbk]
                    refine lv_imul hx hb dX14_encode_327 ?_
                    refine lv_iload hx hb dX14_encode_328 (lv_at hl 4 rfl) ?_
                    refine lv_iadd hx hb dX14_encode_330 ?_
                    refine mm_iald (n := 24) (f := F 11) hx hb hK hG 1 (hM.2.1 11 rfl) rfl (by rw [show (12 : Int32) * nI b9 + nI c9 = nI (12 * b9 + c9) from nI_ma 12 b9 c9]; exact nI_in (N := 24) (by omega) (by decide)) dX14_encode_331 ?_
                    refine lv_topi (fun x162 ex162 => ?_)
                    refine lv_iconst (v := 1) hx hb dX14_encode_332 (by decide) ?_
                    refine lv_icmp_ne (tgt := 340) hx hb dX14_encode_333 (by decide) (fun c_333 => ?_) (fun c_333 => ?_)
                    · skip
                      refine lv_iconst (v := 0) hx hb dX14_encode_340 (by decide) ?_
                      refine lv_istore (lv' := [(11, .int 0), (9, .long x161), (7, .long x159), (13, .long x152), (6, .int (nI c9)), (5, .int (nI (8 * s9 + i9))), (0, .ref o), (1, .int iv), (2, .int jv), (3, .long xv)]) hx hb dX14_encode_341 hl (by decide) rfl (fun ls hl => ?_)
                      refine lv_iload hx hb dX14_encode_343 (lv_at hl 0 rfl) ?_
                      refine lv_if_eq (tgt := 376) hx hb dX14_encode_345 (by decide) (fun c_345 => ?_) (fun c_345 => ?_)
                      · skip
                        refine lv_lload hx hb dX14_encode_376 (lv_at hl 2 rfl) ?_
                        refine lv_lconst (v := 0) hx hb dX14_encode_378 (by decide) ?_
                        refine W.lcmp hx hb dX14_encode_379 ?_
                        refine lv_if_lt (tgt := 391) hx hb dX14_encode_380 (by decide) (fun c_380 => ?_) (fun c_380 => ?_)
                        · skip
                          refine lv_iconst (v := 0) hx hb dX14_encode_391 (by decide) ?_
                          exact W.iret (v := 0) hx hb hr (fun t ht hW => ⟨⟨_, _, rfl, ⟨I1, F, L, hM, hF, (fun j h1 h2 => by rw [eI1, pk_un h1]), (by rw [eI1, pk_us]), ⟨sl9, (by omega), (by rw [eI1, pk_un (by decide)]; exact h68)⟩, (fun _ _ => rfl), (fun _ _ _ => rfl)⟩, mk_end hG ht⟩, hS.F ht⟩) hS.2.2 dX14_encode_392
                        · skip
                          refine lv_lload hx hb dX14_encode_383 (lv_at hl 2 rfl) ?_
                          refine lv_lload hx hb dX14_encode_385 (lv_at hl 1 rfl) ?_
                          refine W.lcmp hx hb dX14_encode_387 ?_
                          refine lv_if_lt (tgt := 393) hx hb dX14_encode_388 (by decide) (fun c_388 => ?_) (fun c_388 => ?_)
                          · skip
                            refine lv_aload_n hx hb dX14_encode_393 rfl (lv_at hl 6 rfl) ?_
                            refine mm_get (v := .ref (Ar 70)) hx hb hf_X14 (fun _ h9 => h9) hown hK hG hM.1 rfl 70 (by decide) (tb_use hT tw_1461) (fun _ h9 => h9) rfl dX14_encode_394 ?_
                            refine lv_iload hx hb dX14_encode_397 (lv_at hl 5 rfl) ?_
                            refine lv_lload hx hb dX14_encode_399 (lv_at hl 2 rfl) ?_
                            refine mm_last (n := mdN 70) (f := L 70) hx hb hK hG hS 2 (hM.2.2.1 70 rfl) rfl (nI_in (N := mdN 70) (by show _ < 128; omega) (by decide)) dX14_encode_401 (fun H locs hG hS => ?_)
                            have hM := MD.setj (k := 70) (vp_updL (L 70) (nI (8 * s9 + i9)).toNatClampNeg x159) hM rfl
                            have hF := hF.wa (k := 70) (e' := .inl (cy 2, mdN 70, .inr (.inl (vp_updL (L 70) (nI (8 * s9 + i9)).toNatClampNeg x159)))) rfl
                            obtain ⟨L165, eL165⟩ : ∃ g, g = va_up L 70 (vp_updL (L 70) (nI (8 * s9 + i9)).toNatClampNeg x159) := ⟨_, rfl⟩
                            rw [← eL165] at hM
                            generalize mm_set _ _ _ = G166 at hG hM hF
                            refine lv_aload_n hx hb dX14_encode_402 rfl (lv_at hl 6 rfl) ?_
                            refine mm_get (v := .ref (Ar 67)) hx hb hf_X14 (fun _ h9 => h9) hown hK hG hM.1 rfl 67 (by decide) (tb_use hT tw_1458) (fun _ h9 => h9) rfl dX14_encode_403 ?_
                            refine lv_iconst (v := 0) hx hb dX14_encode_406 (by decide) ?_
                            refine lv_aload_n hx hb dX14_encode_407 rfl (lv_at hl 6 rfl) ?_
                            refine mm_get (v := .ref (Ar 21)) hx hb hf_X14 (fun _ h9 => h9) hown hK hG hM.1 rfl 21 (by decide) (tb_use hT tw_1412) (fun _ h9 => h9) rfl dX14_encode_408 ?_
                            refine lv_bipush (v := 16) hx hb dX14_encode_411 (by decide) ?_
                            refine lv_aload_n hx hb dX14_encode_413 rfl (lv_at hl 6 rfl) ?_
                            refine mm_get (v := .int (Iv 42)) hx hb hf_X14 (fun _ h9 => h9) hown hK hG hM.1 rfl 42 (by decide) (tb_use hT tw_1433) (fun _ h9 => h9) (by rw [eI1]; rfl) dX14_encode_414 ?_
                            rw [show (Iv 42) = nI b9 from hbk]
                            refine lv_imul hx hb dX14_encode_417 ?_
                            refine lv_iload_n hx hb dX14_encode_418 rfl (lv_at hl 7 rfl) ?_
                            refine lv_iadd hx hb dX14_encode_419 ?_
                            refine lv_iconst (v := 1) hx hb dX14_encode_420 (by decide) ?_
                            refine lv_isub hx hb dX14_encode_421 ?_
                            rw [show (((16 * (nI b9)) + iv) - 1) = nI (16 * b9 + s9) by rw [hxs, show (16 : Int32) * nI b9 + nI (s9 + 1) = nI (16 * b9 + (s9 + 1)) from nI_ma 16 b9 (s9 + 1)]; exact nI_pred (16 * b9 + s9)]
                            refine mm_iald (n := 32) (f := F 21) hx hb hK hG 1 (hM.2.1 21 rfl) rfl (nI_in (N := 32) (by omega) (by decide)) dX14_encode_422 ?_
                            refine lv_topi (fun x167 ex167 => ?_)
                            refine lv_bipush (v := 64) hx hb dX14_encode_423 (by decide) ?_
                            refine lv_iadd hx hb dX14_encode_425 ?_
                            refine lv_topi (fun x168 ex168 => ?_)
                            refine mm_iast (n := mdN 67) (f := F 67) hx hb hK hG hS 1 (hM.2.1 67 rfl) rfl (nI_in (c := 0) (N := mdN 67) (by decide) (by decide)) dX14_encode_426 (fun H locs hG hS => ?_)
                            have hM := MD.seti (k := 67) (upd (F 67) (0 : Int32).toNatClampNeg x168) hM rfl
                            have hF := hF.wa (k := 67) (e' := .inl (cy 1, mdN 67, .inl (upd (F 67) (0 : Int32).toNatClampNeg x168))) rfl
                            obtain ⟨F169, eF169⟩ : ∃ g, g = va_up F 67 (upd (F 67) (0 : Int32).toNatClampNeg x168) := ⟨_, rfl⟩
                            rw [← eF169] at hM
                            generalize mm_set _ _ _ = G170 at hG hM hF
                            refine lv_aload_n hx hb dX14_encode_427 rfl (lv_at hl 6 rfl) ?_
                            refine lv_aload_n hx hb dX14_encode_428 rfl (lv_at hl 6 rfl) ?_
                            refine lv_iload_n hx hb dX14_encode_429 rfl (lv_at hl 7 rfl) ?_
                            refine lv_iconst (v := 1) hx hb dX14_encode_430 (by decide) ?_
                            refine lv_isub hx hb dX14_encode_431 ?_
                            rw [show iv - 1 = nI s9 by rw [hxs]; exact nI_pred s9]
                            refine lv_aload_n hx hb dX14_encode_432 rfl (lv_at hl 6 rfl) ?_
                            refine mm_get (v := .ref (Ar 67)) hx hb hf_X14 (fun _ h9 => h9) hown hK hG hM.1 rfl 67 (by decide) (tb_use hT tw_1458) (fun _ h9 => h9) rfl dX14_encode_433 ?_
                            refine lv_bipush (v := 64) hx hb dX14_encode_436 (by decide) ?_
                            refine lv_iconst (v := 1) hx hb dX14_encode_438 (by decide) ?_
                            have hB8 : BK (tkK ft en) (tkV ft en) n9 F169 b9 v9 := ⟨hB.1.mv (Nat.le_refl _) (fun k i hk => by rw [eF169, va_up_ne _ _ (by omega)]) rfl rfl rfl rfl, hB.2.1.mv (Nat.le_refl _) (fun k i hk => by rw [eF169, va_up_ne _ _ (by omega)]) rfl rfl, hB.2.2.1.mv (Nat.le_refl _) (fun k i hk => by rw [eF169, va_up_ne _ _ (by omega)]) rfl rfl rfl rfl, hB.2.2.2.1.mv (Nat.le_refl _) (fun k i hk => by rw [eF169, va_up_ne _ _ (by omega)]) rfl rfl, hB.2.2.2.2.1.mv (Nat.le_refl _) (fun k i hk => by rw [eF169, va_up_ne _ _ (by omega)]) rfl rfl, hB.2.2.2.2.2.mv (Nat.le_refl _) (fun k i hk => by rw [eF169, va_up_ne _ _ (by omega)]) rfl rfl rfl rfl⟩
                            refine va_calli (va_runV (As := [.int (nI s9), .ref (Ar 67), .int 64, .int 1]) (rest := [.ref o]) ⟨hx, hb, hml, hown, (fun _ h9 => absurd h9 List.not_mem_nil : ∀ w ∈ ([] : List Cond), w.before _ s = true)⟩ (c_M_findS l D cy A X hst hXT G170 o Ar I1 F169 L165 ft en b9 n9 v9 s9 hM hB8 hVL hWd hn30 hb9 (by rw [eI1]; exact hbk) hs9) (tb_cw (C := RX14) 4 hT tw_1832 tw_109 tw_1829 tw_1831 tw_96 rfl rfl (by decide +kernel) ⟨Nat.le_of_ble_eq_true rfl, Nat.le_of_ble_eq_true rfl⟩) (mk_preV hst hG hK hA hX hS (ci := 15) rfl hM.1) rfl rfl hl.1 rfl (lv_room (Nat.le_of_ble_eq_true rfl)) dX14_encode_439 ⟨Nat.le_of_ble_eq_true rfl, Nat.le_of_ble_eq_true rfl⟩) hS (fun q _ h => h) (fun q h => h) (fun r171 G172 t H1 locs ht hvm hw hB hz1 hk1 hS => ?_)
                            have hG : mm D vwCl A G172 H1 := by rw [← ht]; exact hB
                            clear hB hz1 hk1 hvm ht
                            generalize H1 = H at hG hS ⊢
                            obtain ⟨k9, F9, L9, er171, hk1, hk64, hM2, hF2, hf9, hL9⟩ := hw
                            replace hF := hF.tr hF2; replace hM := hM2; clear hM2 hF2
                            refine mm_put (v := .int r171) (ty := .int) hx hb hf_X14 (fun _ h9 => h9) tyX14 tyX14_ok nmX14 hown hK hG hS hM.1 rfl 68 (by decide) (tb_use hT tw_1459) (fun _ h9 => h9) rfl (by decide +kernel) rfl rfl (Nat.le_of_ble_eq_true rfl) dX14_encode_442 (fun H locs hG hS => ?_)
                            have hM := MD.puti (k := 68) (v := r171) hM rfl
                            have hF := hF.wo (e' := .inr (15, (mfs Ar I1).set 68 (.int r171)))
                            obtain ⟨I173, eI173⟩ : ∃ g, g = upd I1 68 r171 := ⟨_, rfl⟩
                            rw [← eI173] at hM
                            generalize mm_set _ _ _ = G174 at hG hM hF
                            refine lv_iconst (v := 1) hx hb dX14_encode_445 (by decide) ?_
                            exact W.iret (v := 1) hx hb hr (fun t ht hW => ⟨⟨_, _, rfl, ⟨I173, F9, L9, hM, hF, (fun j h1 h2 => by rw [eI173, pk_un h2, eI1, pk_un h1]), (by rw [eI173, pk_un (by decide), eI1, pk_us]), ⟨k9, hk64, (by rw [eI173, pk_us]; exact er171)⟩, (fun j hj => by rw [hf9 j hj, eF169, va_up_ne _ _ (by omega)]), (fun j h1 h2 => by rw [hL9 j h2, eL165, va_up_ne _ _ h1])⟩, mk_end hG ht⟩, hS.F ht⟩) hS.2.2 dX14_encode_446
                          · skip
                            refine lv_iconst (v := 0) hx hb dX14_encode_391 (by decide) ?_
                            exact W.iret (v := 0) hx hb hr (fun t ht hW => ⟨⟨_, _, rfl, ⟨I1, F, L, hM, hF, (fun j h1 h2 => by rw [eI1, pk_un h1]), (by rw [eI1, pk_us]), ⟨sl9, (by omega), (by rw [eI1, pk_un (by decide)]; exact h68)⟩, (fun _ _ => rfl), (fun _ _ _ => rfl)⟩, mk_end hG ht⟩, hS.F ht⟩) hS.2.2 dX14_encode_392
                      · skip
                        refine lv_lload hx hb dX14_encode_348 (lv_at hl 2 rfl) ?_
                        refine lv_lload hx hb dX14_encode_350 (lv_at hl 1 rfl) ?_
                        refine lv_lneg hx hb dX14_encode_352 ?_
                        refine lv_ldc2 hx hb hown (tb_use hT tw_1857) dX14_encode_353 ?_
                        refine lv_ldiv hx hb dX14_encode_356 (by decide) ?_
                        refine lv_topl (fun x175 ex175 => ?_)
                        refine W.lcmp hx hb dX14_encode_357 ?_
                        refine lv_if_lt (tgt := 391) hx hb dX14_encode_358 (by decide) (fun c_358 => ?_) (fun c_358 => ?_)
                        · skip
                          refine lv_iconst (v := 0) hx hb dX14_encode_391 (by decide) ?_
                          exact W.iret (v := 0) hx hb hr (fun t ht hW => ⟨⟨_, _, rfl, ⟨I1, F, L, hM, hF, (fun j h1 h2 => by rw [eI1, pk_un h1]), (by rw [eI1, pk_us]), ⟨sl9, (by omega), (by rw [eI1, pk_un (by decide)]; exact h68)⟩, (fun _ _ => rfl), (fun _ _ _ => rfl)⟩, mk_end hG ht⟩, hS.F ht⟩) hS.2.2 dX14_encode_392
                        · skip
                          refine lv_lload hx hb dX14_encode_361 (lv_at hl 2 rfl) ?_
                          refine lv_lload hx hb dX14_encode_363 (lv_at hl 1 rfl) ?_
                          refine lv_ldc2 hx hb hown (tb_use hT tw_1857) dX14_encode_365 ?_
                          refine lv_ldiv hx hb dX14_encode_368 (by decide) ?_
                          refine lv_topl (fun x177 ex177 => ?_)
                          refine W.lcmp hx hb dX14_encode_369 ?_
                          refine lv_if_lt (tgt := 393) hx hb dX14_encode_370 (by decide) (fun c_370 => ?_) (fun c_370 => ?_)
                          · skip
                            refine lv_aload_n hx hb dX14_encode_393 rfl (lv_at hl 6 rfl) ?_
                            refine mm_get (v := .ref (Ar 70)) hx hb hf_X14 (fun _ h9 => h9) hown hK hG hM.1 rfl 70 (by decide) (tb_use hT tw_1461) (fun _ h9 => h9) rfl dX14_encode_394 ?_
                            refine lv_iload hx hb dX14_encode_397 (lv_at hl 5 rfl) ?_
                            refine lv_lload hx hb dX14_encode_399 (lv_at hl 2 rfl) ?_
                            refine mm_last (n := mdN 70) (f := L 70) hx hb hK hG hS 2 (hM.2.2.1 70 rfl) rfl (nI_in (N := mdN 70) (by show _ < 128; omega) (by decide)) dX14_encode_401 (fun H locs hG hS => ?_)
                            have hM := MD.setj (k := 70) (vp_updL (L 70) (nI (8 * s9 + i9)).toNatClampNeg x159) hM rfl
                            have hF := hF.wa (k := 70) (e' := .inl (cy 2, mdN 70, .inr (.inl (vp_updL (L 70) (nI (8 * s9 + i9)).toNatClampNeg x159)))) rfl
                            obtain ⟨L179, eL179⟩ : ∃ g, g = va_up L 70 (vp_updL (L 70) (nI (8 * s9 + i9)).toNatClampNeg x159) := ⟨_, rfl⟩
                            rw [← eL179] at hM
                            generalize mm_set _ _ _ = G180 at hG hM hF
                            refine lv_aload_n hx hb dX14_encode_402 rfl (lv_at hl 6 rfl) ?_
                            refine mm_get (v := .ref (Ar 67)) hx hb hf_X14 (fun _ h9 => h9) hown hK hG hM.1 rfl 67 (by decide) (tb_use hT tw_1458) (fun _ h9 => h9) rfl dX14_encode_403 ?_
                            refine lv_iconst (v := 0) hx hb dX14_encode_406 (by decide) ?_
                            refine lv_aload_n hx hb dX14_encode_407 rfl (lv_at hl 6 rfl) ?_
                            refine mm_get (v := .ref (Ar 21)) hx hb hf_X14 (fun _ h9 => h9) hown hK hG hM.1 rfl 21 (by decide) (tb_use hT tw_1412) (fun _ h9 => h9) rfl dX14_encode_408 ?_
                            refine lv_bipush (v := 16) hx hb dX14_encode_411 (by decide) ?_
                            refine lv_aload_n hx hb dX14_encode_413 rfl (lv_at hl 6 rfl) ?_
                            refine mm_get (v := .int (Iv 42)) hx hb hf_X14 (fun _ h9 => h9) hown hK hG hM.1 rfl 42 (by decide) (tb_use hT tw_1433) (fun _ h9 => h9) (by rw [eI1]; rfl) dX14_encode_414 ?_
                            rw [show (Iv 42) = nI b9 from hbk]
                            refine lv_imul hx hb dX14_encode_417 ?_
                            refine lv_iload_n hx hb dX14_encode_418 rfl (lv_at hl 7 rfl) ?_
                            refine lv_iadd hx hb dX14_encode_419 ?_
                            refine lv_iconst (v := 1) hx hb dX14_encode_420 (by decide) ?_
                            refine lv_isub hx hb dX14_encode_421 ?_
                            rw [show (((16 * (nI b9)) + iv) - 1) = nI (16 * b9 + s9) by rw [hxs, show (16 : Int32) * nI b9 + nI (s9 + 1) = nI (16 * b9 + (s9 + 1)) from nI_ma 16 b9 (s9 + 1)]; exact nI_pred (16 * b9 + s9)]
                            refine mm_iald (n := 32) (f := F 21) hx hb hK hG 1 (hM.2.1 21 rfl) rfl (nI_in (N := 32) (by omega) (by decide)) dX14_encode_422 ?_
                            refine lv_topi (fun x181 ex181 => ?_)
                            refine lv_bipush (v := 64) hx hb dX14_encode_423 (by decide) ?_
                            refine lv_iadd hx hb dX14_encode_425 ?_
                            refine lv_topi (fun x182 ex182 => ?_)
                            refine mm_iast (n := mdN 67) (f := F 67) hx hb hK hG hS 1 (hM.2.1 67 rfl) rfl (nI_in (c := 0) (N := mdN 67) (by decide) (by decide)) dX14_encode_426 (fun H locs hG hS => ?_)
                            have hM := MD.seti (k := 67) (upd (F 67) (0 : Int32).toNatClampNeg x182) hM rfl
                            have hF := hF.wa (k := 67) (e' := .inl (cy 1, mdN 67, .inl (upd (F 67) (0 : Int32).toNatClampNeg x182))) rfl
                            obtain ⟨F183, eF183⟩ : ∃ g, g = va_up F 67 (upd (F 67) (0 : Int32).toNatClampNeg x182) := ⟨_, rfl⟩
                            rw [← eF183] at hM
                            generalize mm_set _ _ _ = G184 at hG hM hF
                            refine lv_aload_n hx hb dX14_encode_427 rfl (lv_at hl 6 rfl) ?_
                            refine lv_aload_n hx hb dX14_encode_428 rfl (lv_at hl 6 rfl) ?_
                            refine lv_iload_n hx hb dX14_encode_429 rfl (lv_at hl 7 rfl) ?_
                            refine lv_iconst (v := 1) hx hb dX14_encode_430 (by decide) ?_
                            refine lv_isub hx hb dX14_encode_431 ?_
                            rw [show iv - 1 = nI s9 by rw [hxs]; exact nI_pred s9]
                            refine lv_aload_n hx hb dX14_encode_432 rfl (lv_at hl 6 rfl) ?_
                            refine mm_get (v := .ref (Ar 67)) hx hb hf_X14 (fun _ h9 => h9) hown hK hG hM.1 rfl 67 (by decide) (tb_use hT tw_1458) (fun _ h9 => h9) rfl dX14_encode_433 ?_
                            refine lv_bipush (v := 64) hx hb dX14_encode_436 (by decide) ?_
                            refine lv_iconst (v := 1) hx hb dX14_encode_438 (by decide) ?_
                            have hB8 : BK (tkK ft en) (tkV ft en) n9 F183 b9 v9 := ⟨hB.1.mv (Nat.le_refl _) (fun k i hk => by rw [eF183, va_up_ne _ _ (by omega)]) rfl rfl rfl rfl, hB.2.1.mv (Nat.le_refl _) (fun k i hk => by rw [eF183, va_up_ne _ _ (by omega)]) rfl rfl, hB.2.2.1.mv (Nat.le_refl _) (fun k i hk => by rw [eF183, va_up_ne _ _ (by omega)]) rfl rfl rfl rfl, hB.2.2.2.1.mv (Nat.le_refl _) (fun k i hk => by rw [eF183, va_up_ne _ _ (by omega)]) rfl rfl, hB.2.2.2.2.1.mv (Nat.le_refl _) (fun k i hk => by rw [eF183, va_up_ne _ _ (by omega)]) rfl rfl, hB.2.2.2.2.2.mv (Nat.le_refl _) (fun k i hk => by rw [eF183, va_up_ne _ _ (by omega)]) rfl rfl rfl rfl⟩
                            refine va_calli (va_runV (As := [.int (nI s9), .ref (Ar 67), .int 64, .int 1]) (rest := [.ref o]) ⟨hx, hb, hml, hown, (fun _ h9 => absurd h9 List.not_mem_nil : ∀ w ∈ ([] : List Cond), w.before _ s = true)⟩ (c_M_findS l D cy A X hst hXT G184 o Ar I1 F183 L179 ft en b9 n9 v9 s9 hM hB8 hVL hWd hn30 hb9 (by rw [eI1]; exact hbk) hs9) (tb_cw (C := RX14) 4 hT tw_1832 tw_109 tw_1829 tw_1831 tw_96 rfl rfl (by decide +kernel) ⟨Nat.le_of_ble_eq_true rfl, Nat.le_of_ble_eq_true rfl⟩) (mk_preV hst hG hK hA hX hS (ci := 15) rfl hM.1) rfl rfl hl.1 rfl (lv_room (Nat.le_of_ble_eq_true rfl)) dX14_encode_439 ⟨Nat.le_of_ble_eq_true rfl, Nat.le_of_ble_eq_true rfl⟩) hS (fun q _ h => h) (fun q h => h) (fun r185 G186 t H1 locs ht hvm hw hB hz1 hk1 hS => ?_)
                            have hG : mm D vwCl A G186 H1 := by rw [← ht]; exact hB
                            clear hB hz1 hk1 hvm ht
                            generalize H1 = H at hG hS ⊢
                            obtain ⟨k9, F9, L9, er185, hk1, hk64, hM2, hF2, hf9, hL9⟩ := hw
                            replace hF := hF.tr hF2; replace hM := hM2; clear hM2 hF2
                            refine mm_put (v := .int r185) (ty := .int) hx hb hf_X14 (fun _ h9 => h9) tyX14 tyX14_ok nmX14 hown hK hG hS hM.1 rfl 68 (by decide) (tb_use hT tw_1459) (fun _ h9 => h9) rfl (by decide +kernel) rfl rfl (Nat.le_of_ble_eq_true rfl) dX14_encode_442 (fun H locs hG hS => ?_)
                            have hM := MD.puti (k := 68) (v := r185) hM rfl
                            have hF := hF.wo (e' := .inr (15, (mfs Ar I1).set 68 (.int r185)))
                            obtain ⟨I187, eI187⟩ : ∃ g, g = upd I1 68 r185 := ⟨_, rfl⟩
                            rw [← eI187] at hM
                            generalize mm_set _ _ _ = G188 at hG hM hF
                            refine lv_iconst (v := 1) hx hb dX14_encode_445 (by decide) ?_
                            exact W.iret (v := 1) hx hb hr (fun t ht hW => ⟨⟨_, _, rfl, ⟨I187, F9, L9, hM, hF, (fun j h1 h2 => by rw [eI187, pk_un h2, eI1, pk_un h1]), (by rw [eI187, pk_un (by decide), eI1, pk_us]), ⟨k9, hk64, (by rw [eI187, pk_us]; exact er185)⟩, (fun j hj => by rw [hf9 j hj, eF183, va_up_ne _ _ (by omega)]), (fun j h1 h2 => by rw [hL9 j h2, eL179, va_up_ne _ _ h1])⟩, mk_end hG ht⟩, hS.F ht⟩) hS.2.2 dX14_encode_446
                          · skip
                            refine lv_goto (tgt := 391) hx hb dX14_encode_373 (by decide) ?_
                            refine lv_iconst (v := 0) hx hb dX14_encode_391 (by decide) ?_
                            exact W.iret (v := 0) hx hb hr (fun t ht hW => ⟨⟨_, _, rfl, ⟨I1, F, L, hM, hF, (fun j h1 h2 => by rw [eI1, pk_un h1]), (by rw [eI1, pk_us]), ⟨sl9, (by omega), (by rw [eI1, pk_un (by decide)]; exact h68)⟩, (fun _ _ => rfl), (fun _ _ _ => rfl)⟩, mk_end hG ht⟩, hS.F ht⟩) hS.2.2 dX14_encode_392
                    · skip
                      refine lv_iconst (v := 1) hx hb dX14_encode_336 (by decide) ?_
                      refine lv_goto (tgt := 341) hx hb dX14_encode_337 (by decide) ?_
                      refine lv_istore (lv' := [(11, .int 1), (9, .long x161), (7, .long x159), (13, .long x152), (6, .int (nI c9)), (5, .int (nI (8 * s9 + i9))), (0, .ref o), (1, .int iv), (2, .int jv), (3, .long xv)]) hx hb dX14_encode_341 hl (by decide) rfl (fun ls hl => ?_)
                      refine lv_iload hx hb dX14_encode_343 (lv_at hl 0 rfl) ?_
                      refine lv_if_eq (tgt := 376) hx hb dX14_encode_345 (by decide) (fun c_345 => ?_) (fun c_345 => ?_)
                      · skip
                        refine lv_lload hx hb dX14_encode_376 (lv_at hl 2 rfl) ?_
                        refine lv_lconst (v := 0) hx hb dX14_encode_378 (by decide) ?_
                        refine W.lcmp hx hb dX14_encode_379 ?_
                        refine lv_if_lt (tgt := 391) hx hb dX14_encode_380 (by decide) (fun c_380 => ?_) (fun c_380 => ?_)
                        · skip
                          refine lv_iconst (v := 0) hx hb dX14_encode_391 (by decide) ?_
                          exact W.iret (v := 0) hx hb hr (fun t ht hW => ⟨⟨_, _, rfl, ⟨I1, F, L, hM, hF, (fun j h1 h2 => by rw [eI1, pk_un h1]), (by rw [eI1, pk_us]), ⟨sl9, (by omega), (by rw [eI1, pk_un (by decide)]; exact h68)⟩, (fun _ _ => rfl), (fun _ _ _ => rfl)⟩, mk_end hG ht⟩, hS.F ht⟩) hS.2.2 dX14_encode_392
                        · skip
                          refine lv_lload hx hb dX14_encode_383 (lv_at hl 2 rfl) ?_
                          refine lv_lload hx hb dX14_encode_385 (lv_at hl 1 rfl) ?_
                          refine W.lcmp hx hb dX14_encode_387 ?_
                          refine lv_if_lt (tgt := 393) hx hb dX14_encode_388 (by decide) (fun c_388 => ?_) (fun c_388 => ?_)
                          · skip
                            refine lv_aload_n hx hb dX14_encode_393 rfl (lv_at hl 6 rfl) ?_
                            refine mm_get (v := .ref (Ar 70)) hx hb hf_X14 (fun _ h9 => h9) hown hK hG hM.1 rfl 70 (by decide) (tb_use hT tw_1461) (fun _ h9 => h9) rfl dX14_encode_394 ?_
                            refine lv_iload hx hb dX14_encode_397 (lv_at hl 5 rfl) ?_
                            refine lv_lload hx hb dX14_encode_399 (lv_at hl 2 rfl) ?_
                            refine mm_last (n := mdN 70) (f := L 70) hx hb hK hG hS 2 (hM.2.2.1 70 rfl) rfl (nI_in (N := mdN 70) (by show _ < 128; omega) (by decide)) dX14_encode_401 (fun H locs hG hS => ?_)
                            have hM := MD.setj (k := 70) (vp_updL (L 70) (nI (8 * s9 + i9)).toNatClampNeg x159) hM rfl
                            have hF := hF.wa (k := 70) (e' := .inl (cy 2, mdN 70, .inr (.inl (vp_updL (L 70) (nI (8 * s9 + i9)).toNatClampNeg x159)))) rfl
                            obtain ⟨L191, eL191⟩ : ∃ g, g = va_up L 70 (vp_updL (L 70) (nI (8 * s9 + i9)).toNatClampNeg x159) := ⟨_, rfl⟩
                            rw [← eL191] at hM
                            generalize mm_set _ _ _ = G192 at hG hM hF
                            refine lv_aload_n hx hb dX14_encode_402 rfl (lv_at hl 6 rfl) ?_
                            refine mm_get (v := .ref (Ar 67)) hx hb hf_X14 (fun _ h9 => h9) hown hK hG hM.1 rfl 67 (by decide) (tb_use hT tw_1458) (fun _ h9 => h9) rfl dX14_encode_403 ?_
                            refine lv_iconst (v := 0) hx hb dX14_encode_406 (by decide) ?_
                            refine lv_aload_n hx hb dX14_encode_407 rfl (lv_at hl 6 rfl) ?_
                            refine mm_get (v := .ref (Ar 21)) hx hb hf_X14 (fun _ h9 => h9) hown hK hG hM.1 rfl 21 (by decide) (tb_use hT tw_1412) (fun _ h9 => h9) rfl dX14_encode_408 ?_
                            refine lv_bipush (v := 16) hx hb dX14_encode_411 (by decide) ?_
                            refine lv_aload_n hx hb dX14_encode_413 rfl (lv_at hl 6 rfl) ?_
                            refine mm_get (v := .int (Iv 42)) hx hb hf_X14 (fun _ h9 => h9) hown hK hG hM.1 rfl 42 (by decide) (tb_use hT tw_1433) (fun _ h9 => h9) (by rw [eI1]; rfl) dX14_encode_414 ?_
                            rw [show (Iv 42) = nI b9 from hbk]
                            refine lv_imul hx hb dX14_encode_417 ?_
                            refine lv_iload_n hx hb dX14_encode_418 rfl (lv_at hl 7 rfl) ?_
                            refine lv_iadd hx hb dX14_encode_419 ?_
                            refine lv_iconst (v := 1) hx hb dX14_encode_420 (by decide) ?_
                            refine lv_isub hx hb dX14_encode_421 ?_
                            rw [show (((16 * (nI b9)) + iv) - 1) = nI (16 * b9 + s9) by rw [hxs, show (16 : Int32) * nI b9 + nI (s9 + 1) = nI (16 * b9 + (s9 + 1)) from nI_ma 16 b9 (s9 + 1)]; exact nI_pred (16 * b9 + s9)]
                            refine mm_iald (n := 32) (f := F 21) hx hb hK hG 1 (hM.2.1 21 rfl) rfl (nI_in (N := 32) (by omega) (by decide)) dX14_encode_422 ?_
                            refine lv_topi (fun x193 ex193 => ?_)
                            refine lv_bipush (v := 64) hx hb dX14_encode_423 (by decide) ?_
                            refine lv_iadd hx hb dX14_encode_425 ?_
                            refine lv_topi (fun x194 ex194 => ?_)
                            refine mm_iast (n := mdN 67) (f := F 67) hx hb hK hG hS 1 (hM.2.1 67 rfl) rfl (nI_in (c := 0) (N := mdN 67) (by decide) (by decide)) dX14_encode_426 (fun H locs hG hS => ?_)
                            have hM := MD.seti (k := 67) (upd (F 67) (0 : Int32).toNatClampNeg x194) hM rfl
                            have hF := hF.wa (k := 67) (e' := .inl (cy 1, mdN 67, .inl (upd (F 67) (0 : Int32).toNatClampNeg x194))) rfl
                            obtain ⟨F195, eF195⟩ : ∃ g, g = va_up F 67 (upd (F 67) (0 : Int32).toNatClampNeg x194) := ⟨_, rfl⟩
                            rw [← eF195] at hM
                            generalize mm_set _ _ _ = G196 at hG hM hF
                            refine lv_aload_n hx hb dX14_encode_427 rfl (lv_at hl 6 rfl) ?_
                            refine lv_aload_n hx hb dX14_encode_428 rfl (lv_at hl 6 rfl) ?_
                            refine lv_iload_n hx hb dX14_encode_429 rfl (lv_at hl 7 rfl) ?_
                            refine lv_iconst (v := 1) hx hb dX14_encode_430 (by decide) ?_
                            refine lv_isub hx hb dX14_encode_431 ?_
                            rw [show iv - 1 = nI s9 by rw [hxs]; exact nI_pred s9]
                            refine lv_aload_n hx hb dX14_encode_432 rfl (lv_at hl 6 rfl) ?_
                            refine mm_get (v := .ref (Ar 67)) hx hb hf_X14 (fun _ h9 => h9) hown hK hG hM.1 rfl 67 (by decide) (tb_use hT tw_1458) (fun _ h9 => h9) rfl dX14_encode_433 ?_
                            refine lv_bipush (v := 64) hx hb dX14_encode_436 (by decide) ?_
                            refine lv_iconst (v := 1) hx hb dX14_encode_438 (by decide) ?_
                            have hB8 : BK (tkK ft en) (tkV ft en) n9 F195 b9 v9 := ⟨hB.1.mv (Nat.le_refl _) (fun k i hk => by rw [eF195, va_up_ne _ _ (by omega)]) rfl rfl rfl rfl, hB.2.1.mv (Nat.le_refl _) (fun k i hk => by rw [eF195, va_up_ne _ _ (by omega)]) rfl rfl, hB.2.2.1.mv (Nat.le_refl _) (fun k i hk => by rw [eF195, va_up_ne _ _ (by omega)]) rfl rfl rfl rfl, hB.2.2.2.1.mv (Nat.le_refl _) (fun k i hk => by rw [eF195, va_up_ne _ _ (by omega)]) rfl rfl, hB.2.2.2.2.1.mv (Nat.le_refl _) (fun k i hk => by rw [eF195, va_up_ne _ _ (by omega)]) rfl rfl, hB.2.2.2.2.2.mv (Nat.le_refl _) (fun k i hk => by rw [eF195, va_up_ne _ _ (by omega)]) rfl rfl rfl rfl⟩
                            refine va_calli (va_runV (As := [.int (nI s9), .ref (Ar 67), .int 64, .int 1]) (rest := [.ref o]) ⟨hx, hb, hml, hown, (fun _ h9 => absurd h9 List.not_mem_nil : ∀ w ∈ ([] : List Cond), w.before _ s = true)⟩ (c_M_findS l D cy A X hst hXT G196 o Ar I1 F195 L191 ft en b9 n9 v9 s9 hM hB8 hVL hWd hn30 hb9 (by rw [eI1]; exact hbk) hs9) (tb_cw (C := RX14) 4 hT tw_1832 tw_109 tw_1829 tw_1831 tw_96 rfl rfl (by decide +kernel) ⟨Nat.le_of_ble_eq_true rfl, Nat.le_of_ble_eq_true rfl⟩) (mk_preV hst hG hK hA hX hS (ci := 15) rfl hM.1) rfl rfl hl.1 rfl (lv_room (Nat.le_of_ble_eq_true rfl)) dX14_encode_439 ⟨Nat.le_of_ble_eq_true rfl, Nat.le_of_ble_eq_true rfl⟩) hS (fun q _ h => h) (fun q h => h) (fun r197 G198 t H1 locs ht hvm hw hB hz1 hk1 hS => ?_)
                            have hG : mm D vwCl A G198 H1 := by rw [← ht]; exact hB
                            clear hB hz1 hk1 hvm ht
                            generalize H1 = H at hG hS ⊢
                            obtain ⟨k9, F9, L9, er197, hk1, hk64, hM2, hF2, hf9, hL9⟩ := hw
                            replace hF := hF.tr hF2; replace hM := hM2; clear hM2 hF2
                            refine mm_put (v := .int r197) (ty := .int) hx hb hf_X14 (fun _ h9 => h9) tyX14 tyX14_ok nmX14 hown hK hG hS hM.1 rfl 68 (by decide) (tb_use hT tw_1459) (fun _ h9 => h9) rfl (by decide +kernel) rfl rfl (Nat.le_of_ble_eq_true rfl) dX14_encode_442 (fun H locs hG hS => ?_)
                            have hM := MD.puti (k := 68) (v := r197) hM rfl
                            have hF := hF.wo (e' := .inr (15, (mfs Ar I1).set 68 (.int r197)))
                            obtain ⟨I199, eI199⟩ : ∃ g, g = upd I1 68 r197 := ⟨_, rfl⟩
                            rw [← eI199] at hM
                            generalize mm_set _ _ _ = G200 at hG hM hF
                            refine lv_iconst (v := 1) hx hb dX14_encode_445 (by decide) ?_
                            exact W.iret (v := 1) hx hb hr (fun t ht hW => ⟨⟨_, _, rfl, ⟨I199, F9, L9, hM, hF, (fun j h1 h2 => by rw [eI199, pk_un h2, eI1, pk_un h1]), (by rw [eI199, pk_un (by decide), eI1, pk_us]), ⟨k9, hk64, (by rw [eI199, pk_us]; exact er197)⟩, (fun j hj => by rw [hf9 j hj, eF195, va_up_ne _ _ (by omega)]), (fun j h1 h2 => by rw [hL9 j h2, eL191, va_up_ne _ _ h1])⟩, mk_end hG ht⟩, hS.F ht⟩) hS.2.2 dX14_encode_446
                          · skip
                            refine lv_iconst (v := 0) hx hb dX14_encode_391 (by decide) ?_
                            exact W.iret (v := 0) hx hb hr (fun t ht hW => ⟨⟨_, _, rfl, ⟨I1, F, L, hM, hF, (fun j h1 h2 => by rw [eI1, pk_un h1]), (by rw [eI1, pk_us]), ⟨sl9, (by omega), (by rw [eI1, pk_un (by decide)]; exact h68)⟩, (fun _ _ => rfl), (fun _ _ _ => rfl)⟩, mk_end hG ht⟩, hS.F ht⟩) hS.2.2 dX14_encode_392
                      · skip
                        refine lv_lload hx hb dX14_encode_348 (lv_at hl 2 rfl) ?_
                        refine lv_lload hx hb dX14_encode_350 (lv_at hl 1 rfl) ?_
                        refine lv_lneg hx hb dX14_encode_352 ?_
                        refine lv_ldc2 hx hb hown (tb_use hT tw_1857) dX14_encode_353 ?_
                        refine lv_ldiv hx hb dX14_encode_356 (by decide) ?_
                        refine lv_topl (fun x201 ex201 => ?_)
                        refine W.lcmp hx hb dX14_encode_357 ?_
                        refine lv_if_lt (tgt := 391) hx hb dX14_encode_358 (by decide) (fun c_358 => ?_) (fun c_358 => ?_)
                        · skip
                          refine lv_iconst (v := 0) hx hb dX14_encode_391 (by decide) ?_
                          exact W.iret (v := 0) hx hb hr (fun t ht hW => ⟨⟨_, _, rfl, ⟨I1, F, L, hM, hF, (fun j h1 h2 => by rw [eI1, pk_un h1]), (by rw [eI1, pk_us]), ⟨sl9, (by omega), (by rw [eI1, pk_un (by decide)]; exact h68)⟩, (fun _ _ => rfl), (fun _ _ _ => rfl)⟩, mk_end hG ht⟩, hS.F ht⟩) hS.2.2 dX14_encode_392
                        · skip
                          refine lv_lload hx hb dX14_encode_361 (lv_at hl 2 rfl) ?_
                          refine lv_lload hx hb dX14_encode_363 (lv_at hl 1 rfl) ?_
                          refine lv_ldc2 hx hb hown (tb_use hT tw_1857) dX14_encode_365 ?_
                          refine lv_ldiv hx hb dX14_encode_368 (by decide) ?_
                          refine lv_topl (fun x203 ex203 => ?_)
                          refine W.lcmp hx hb dX14_encode_369 ?_
                          refine lv_if_lt (tgt := 393) hx hb dX14_encode_370 (by decide) (fun c_370 => ?_) (fun c_370 => ?_)
                          · skip
                            refine lv_aload_n hx hb dX14_encode_393 rfl (lv_at hl 6 rfl) ?_
                            refine mm_get (v := .ref (Ar 70)) hx hb hf_X14 (fun _ h9 => h9) hown hK hG hM.1 rfl 70 (by decide) (tb_use hT tw_1461) (fun _ h9 => h9) rfl dX14_encode_394 ?_
                            refine lv_iload hx hb dX14_encode_397 (lv_at hl 5 rfl) ?_
                            refine lv_lload hx hb dX14_encode_399 (lv_at hl 2 rfl) ?_
                            refine mm_last (n := mdN 70) (f := L 70) hx hb hK hG hS 2 (hM.2.2.1 70 rfl) rfl (nI_in (N := mdN 70) (by show _ < 128; omega) (by decide)) dX14_encode_401 (fun H locs hG hS => ?_)
                            have hM := MD.setj (k := 70) (vp_updL (L 70) (nI (8 * s9 + i9)).toNatClampNeg x159) hM rfl
                            have hF := hF.wa (k := 70) (e' := .inl (cy 2, mdN 70, .inr (.inl (vp_updL (L 70) (nI (8 * s9 + i9)).toNatClampNeg x159)))) rfl
                            obtain ⟨L205, eL205⟩ : ∃ g, g = va_up L 70 (vp_updL (L 70) (nI (8 * s9 + i9)).toNatClampNeg x159) := ⟨_, rfl⟩
                            rw [← eL205] at hM
                            generalize mm_set _ _ _ = G206 at hG hM hF
                            refine lv_aload_n hx hb dX14_encode_402 rfl (lv_at hl 6 rfl) ?_
                            refine mm_get (v := .ref (Ar 67)) hx hb hf_X14 (fun _ h9 => h9) hown hK hG hM.1 rfl 67 (by decide) (tb_use hT tw_1458) (fun _ h9 => h9) rfl dX14_encode_403 ?_
                            refine lv_iconst (v := 0) hx hb dX14_encode_406 (by decide) ?_
                            refine lv_aload_n hx hb dX14_encode_407 rfl (lv_at hl 6 rfl) ?_
                            refine mm_get (v := .ref (Ar 21)) hx hb hf_X14 (fun _ h9 => h9) hown hK hG hM.1 rfl 21 (by decide) (tb_use hT tw_1412) (fun _ h9 => h9) rfl dX14_encode_408 ?_
                            refine lv_bipush (v := 16) hx hb dX14_encode_411 (by decide) ?_
                            refine lv_aload_n hx hb dX14_encode_413 rfl (lv_at hl 6 rfl) ?_
                            refine mm_get (v := .int (Iv 42)) hx hb hf_X14 (fun _ h9 => h9) hown hK hG hM.1 rfl 42 (by decide) (tb_use hT tw_1433) (fun _ h9 => h9) (by rw [eI1]; rfl) dX14_encode_414 ?_
                            rw [show (Iv 42) = nI b9 from hbk]
                            refine lv_imul hx hb dX14_encode_417 ?_
                            refine lv_iload_n hx hb dX14_encode_418 rfl (lv_at hl 7 rfl) ?_
                            refine lv_iadd hx hb dX14_encode_419 ?_
                            refine lv_iconst (v := 1) hx hb dX14_encode_420 (by decide) ?_
                            refine lv_isub hx hb dX14_encode_421 ?_
                            rw [show (((16 * (nI b9)) + iv) - 1) = nI (16 * b9 + s9) by rw [hxs, show (16 : Int32) * nI b9 + nI (s9 + 1) = nI (16 * b9 + (s9 + 1)) from nI_ma 16 b9 (s9 + 1)]; exact nI_pred (16 * b9 + s9)]
                            refine mm_iald (n := 32) (f := F 21) hx hb hK hG 1 (hM.2.1 21 rfl) rfl (nI_in (N := 32) (by omega) (by decide)) dX14_encode_422 ?_
                            refine lv_topi (fun x207 ex207 => ?_)
                            refine lv_bipush (v := 64) hx hb dX14_encode_423 (by decide) ?_
                            refine lv_iadd hx hb dX14_encode_425 ?_
                            refine lv_topi (fun x208 ex208 => ?_)
                            refine mm_iast (n := mdN 67) (f := F 67) hx hb hK hG hS 1 (hM.2.1 67 rfl) rfl (nI_in (c := 0) (N := mdN 67) (by decide) (by decide)) dX14_encode_426 (fun H locs hG hS => ?_)
                            have hM := MD.seti (k := 67) (upd (F 67) (0 : Int32).toNatClampNeg x208) hM rfl
                            have hF := hF.wa (k := 67) (e' := .inl (cy 1, mdN 67, .inl (upd (F 67) (0 : Int32).toNatClampNeg x208))) rfl
                            obtain ⟨F209, eF209⟩ : ∃ g, g = va_up F 67 (upd (F 67) (0 : Int32).toNatClampNeg x208) := ⟨_, rfl⟩
                            rw [← eF209] at hM
                            generalize mm_set _ _ _ = G210 at hG hM hF
                            refine lv_aload_n hx hb dX14_encode_427 rfl (lv_at hl 6 rfl) ?_
                            refine lv_aload_n hx hb dX14_encode_428 rfl (lv_at hl 6 rfl) ?_
                            refine lv_iload_n hx hb dX14_encode_429 rfl (lv_at hl 7 rfl) ?_
                            refine lv_iconst (v := 1) hx hb dX14_encode_430 (by decide) ?_
                            refine lv_isub hx hb dX14_encode_431 ?_
                            rw [show iv - 1 = nI s9 by rw [hxs]; exact nI_pred s9]
                            refine lv_aload_n hx hb dX14_encode_432 rfl (lv_at hl 6 rfl) ?_
                            refine mm_get (v := .ref (Ar 67)) hx hb hf_X14 (fun _ h9 => h9) hown hK hG hM.1 rfl 67 (by decide) (tb_use hT tw_1458) (fun _ h9 => h9) rfl dX14_encode_433 ?_
                            refine lv_bipush (v := 64) hx hb dX14_encode_436 (by decide) ?_
                            refine lv_iconst (v := 1) hx hb dX14_encode_438 (by decide) ?_
                            have hB8 : BK (tkK ft en) (tkV ft en) n9 F209 b9 v9 := ⟨hB.1.mv (Nat.le_refl _) (fun k i hk => by rw [eF209, va_up_ne _ _ (by omega)]) rfl rfl rfl rfl, hB.2.1.mv (Nat.le_refl _) (fun k i hk => by rw [eF209, va_up_ne _ _ (by omega)]) rfl rfl, hB.2.2.1.mv (Nat.le_refl _) (fun k i hk => by rw [eF209, va_up_ne _ _ (by omega)]) rfl rfl rfl rfl, hB.2.2.2.1.mv (Nat.le_refl _) (fun k i hk => by rw [eF209, va_up_ne _ _ (by omega)]) rfl rfl, hB.2.2.2.2.1.mv (Nat.le_refl _) (fun k i hk => by rw [eF209, va_up_ne _ _ (by omega)]) rfl rfl, hB.2.2.2.2.2.mv (Nat.le_refl _) (fun k i hk => by rw [eF209, va_up_ne _ _ (by omega)]) rfl rfl rfl rfl⟩
                            refine va_calli (va_runV (As := [.int (nI s9), .ref (Ar 67), .int 64, .int 1]) (rest := [.ref o]) ⟨hx, hb, hml, hown, (fun _ h9 => absurd h9 List.not_mem_nil : ∀ w ∈ ([] : List Cond), w.before _ s = true)⟩ (c_M_findS l D cy A X hst hXT G210 o Ar I1 F209 L205 ft en b9 n9 v9 s9 hM hB8 hVL hWd hn30 hb9 (by rw [eI1]; exact hbk) hs9) (tb_cw (C := RX14) 4 hT tw_1832 tw_109 tw_1829 tw_1831 tw_96 rfl rfl (by decide +kernel) ⟨Nat.le_of_ble_eq_true rfl, Nat.le_of_ble_eq_true rfl⟩) (mk_preV hst hG hK hA hX hS (ci := 15) rfl hM.1) rfl rfl hl.1 rfl (lv_room (Nat.le_of_ble_eq_true rfl)) dX14_encode_439 ⟨Nat.le_of_ble_eq_true rfl, Nat.le_of_ble_eq_true rfl⟩) hS (fun q _ h => h) (fun q h => h) (fun r211 G212 t H1 locs ht hvm hw hB hz1 hk1 hS => ?_)
                            have hG : mm D vwCl A G212 H1 := by rw [← ht]; exact hB
                            clear hB hz1 hk1 hvm ht
                            generalize H1 = H at hG hS ⊢
                            obtain ⟨k9, F9, L9, er211, hk1, hk64, hM2, hF2, hf9, hL9⟩ := hw
                            replace hF := hF.tr hF2; replace hM := hM2; clear hM2 hF2
                            refine mm_put (v := .int r211) (ty := .int) hx hb hf_X14 (fun _ h9 => h9) tyX14 tyX14_ok nmX14 hown hK hG hS hM.1 rfl 68 (by decide) (tb_use hT tw_1459) (fun _ h9 => h9) rfl (by decide +kernel) rfl rfl (Nat.le_of_ble_eq_true rfl) dX14_encode_442 (fun H locs hG hS => ?_)
                            have hM := MD.puti (k := 68) (v := r211) hM rfl
                            have hF := hF.wo (e' := .inr (15, (mfs Ar I1).set 68 (.int r211)))
                            obtain ⟨I213, eI213⟩ : ∃ g, g = upd I1 68 r211 := ⟨_, rfl⟩
                            rw [← eI213] at hM
                            generalize mm_set _ _ _ = G214 at hG hM hF
                            refine lv_iconst (v := 1) hx hb dX14_encode_445 (by decide) ?_
                            exact W.iret (v := 1) hx hb hr (fun t ht hW => ⟨⟨_, _, rfl, ⟨I213, F9, L9, hM, hF, (fun j h1 h2 => by rw [eI213, pk_un h2, eI1, pk_un h1]), (by rw [eI213, pk_un (by decide), eI1, pk_us]), ⟨k9, hk64, (by rw [eI213, pk_us]; exact er211)⟩, (fun j hj => by rw [hf9 j hj, eF209, va_up_ne _ _ (by omega)]), (fun j h1 h2 => by rw [hL9 j h2, eL205, va_up_ne _ _ h1])⟩, mk_end hG ht⟩, hS.F ht⟩) hS.2.2 dX14_encode_446
                          · skip
                            refine lv_goto (tgt := 391) hx hb dX14_encode_373 (by decide) ?_
                            refine lv_iconst (v := 0) hx hb dX14_encode_391 (by decide) ?_
                            exact W.iret (v := 0) hx hb hr (fun t ht hW => ⟨⟨_, _, rfl, ⟨I1, F, L, hM, hF, (fun j h1 h2 => by rw [eI1, pk_un h1]), (by rw [eI1, pk_us]), ⟨sl9, (by omega), (by rw [eI1, pk_un (by decide)]; exact h68)⟩, (fun _ _ => rfl), (fun _ _ _ => rfl)⟩, mk_end hG ht⟩, hS.F ht⟩) hS.2.2 dX14_encode_392
                  · skip
                    refine lv_iconst (v := 0) hx hb dX14_encode_272 (by decide) ?_
                    exact W.iret (v := 0) hx hb hr (fun t ht hW => ⟨⟨_, _, rfl, ⟨I1, F, L, hM, hF, (fun j h1 h2 => by rw [eI1, pk_un h1]), (by rw [eI1, pk_us]), ⟨sl9, (by omega), (by rw [eI1, pk_un (by decide)]; exact h68)⟩, (fun _ _ => rfl), (fun _ _ _ => rfl)⟩, mk_end hG ht⟩, hS.F ht⟩) hS.2.2 dX14_encode_273
                · skip
                  refine lv_iconst (v := 0) hx hb dX14_encode_225 (by decide) ?_
                  exact W.iret (v := 0) hx hb hr (fun t ht hW => ⟨⟨_, _, rfl, ⟨I1, F, L, hM, hF, (fun j h1 h2 => by rw [eI1, pk_un h1]), (by rw [eI1, pk_us]), ⟨sl9, (by omega), (by rw [eI1, pk_un (by decide)]; exact h68)⟩, (fun _ _ => rfl), (fun _ _ _ => rfl)⟩, mk_end hG ht⟩, hS.F ht⟩) hS.2.2 dX14_encode_226
          · skip
            refine lv_iconst (v := 0) hx hb dX14_encode_110 (by decide) ?_
            exact W.iret (v := 0) hx hb hr (fun t ht hW => ⟨⟨_, _, rfl, ⟨I1, F, L, hM, hF, (fun j h1 h2 => by rw [eI1, pk_un h1]), (by rw [eI1, pk_us]), ⟨sl9, (by omega), (by rw [eI1, pk_un (by decide)]; exact h68)⟩, (fun _ _ => rfl), (fun _ _ _ => rfl)⟩, mk_end hG ht⟩, hS.F ht⟩) hS.2.2 dX14_encode_111
  · skip
    refine lv_iconst (v := (-1)) hx hb dX14_encode_14 (by decide) ?_
    exact W.iret (v := (-1)) hx hb hr (fun t ht hW => ⟨⟨_, _, rfl, ⟨I1, F, L, hM, hF, (fun j h1 h2 => by rw [eI1, pk_un h1]), (by rw [eI1, pk_us]), ⟨sl9, (by omega), (by rw [eI1, pk_un (by decide)]; exact h68)⟩, (fun _ _ => rfl), (fun _ _ _ => rfl)⟩, mk_end hG ht⟩, hS.F ht⟩) hS.2.2 dX14_encode_15
