/-- the texts kept of the first four editions -/
def KEP (F : Nat → Nat → Int32) (N : Nat) (fk : Nat → Nat → Int32) (ek : Nat → Nat) : Prop := ∀ i, i < N → i < 4 → F 45 i = nI (ek i) ∧ ek i ≤ 2000 ∧ (∀ k, k < ek i → chr (F 46 (2000 * i + k)) (fk i k)) ∧ rdP (fk i) (ek i) < 0
set_option maxHeartbeats 4000000 in
set_option maxRecDepth 100000 in
theorem c_M_compare (l : Launch) (D : va_G) (cy : Nat → ClassId) (A : Nat → Prop) (X : State → Prop) (hst : mk_St A X) (hXT : ∀ U : State, X U → TB U) (G : Nat → Option va_E) (o : Nat) (Az : Nat → Nat) (Iv : Nat → Int32) (F : Nat → Nat → Int32) (L : Nat → Nat → Int64) (b9 d9 n9 N9 : Nat) (K9 : Nat → Nat) (V9 : Nat → Int64) (v9 : EdV) (fk : Nat → Nat → Int32) (ek : Nat → Nat) (iv : Int32) (hM : MD cy G o Az Iv F L) (hb9 : b9 < 2) (hd9 : d9 < 2) (hbd : b9 ≠ d9) (hbk : Iv 42 = nI b9) (h41 : Iv 41 = nI d9) (h44 : Iv 44 = nI N9) (hN9 : N9 < 2 ^ 20) (hKP : KEP F N9 fk ek) (hHand : 1 ≤ N9 → BK K9 V9 n9 F b9 v9 ∧ VLD v9 ∧ LSv v9 ∧ (ntL K9 V9 n9).1 ≤ 1000 ∧ n9 < 2 ^ 30) : Met l yX14_compare [.code yX14_compare cX14_compare 7 (some .int)] ({ frames := 11, cells := 0, slots := 0, locals := 330 }) (mk_Pre D vwCl (tyL cy) A X G [.ref o, .int iv]) (va_Qi (fun (r : Int32) (G2 : Nat → Option va_E) => ∃ (A2 : Nat → Nat) (I2 : Nat → Int32) (F2 : Nat → Nat → Int32), (A2 = Az ∨ A2 = va_up Az 47 (Az 46)) ∧ MD cy G2 o A2 I2 F2 L ∧ MF G G2 o A2 ∧ (∀ j, ¬ j = 38 → ¬ (48 ≤ j ∧ j ≤ 58) → I2 j = Iv j) ∧ I2 38 = 0 ∧ FrW (wB d9) F F2) (mk_B D vwCl A) A) 0 0 A := by
  refine Met.ofW (cc := cX14_compare) (maxL := 7) (ret := (some .int)) (by decide) rfl ?_
  intro p e s m args below meth c s₁ B hml hv
  obtain ⟨rfl, hG, hK, hA, hX⟩ := hv
  have hx := B.exec
  have hb := B.bytes
  have hr := B.returns
  have hlocks := B.notSynchronized
  have hT := hXT s hX
  have hown : s.vm.findClass RX14 = some m.cls := findClass_of_methodNamed B.named
  have hf_X14 : ∀ w ∈ u_ws RX14 TX14 76, w.before ([.ref o, .int iv] : List Value).toArray s = true := tb_list hT fX14
  have hS : va_S A s.heap s.heap [] := va_S.rf
  have hl := lv_entry ([.ref o, .int iv]) (n := 7) (Nat.le_of_ble_eq_true rfl)
  rw [lg_entry_eq]
  generalize (lg_sl ([.ref o, .int iv]) ++ List.replicate (7 - (lg_sl ([.ref o, .int iv])).length) Slot.unset).toArray = ls at hl ⊢
  have hl : lv_has ls 7 [(0, .ref o), (1, .int iv)] := hl
  have hF : MF G G o Az := MF.rf
  refine lv_aload_n hx hb dX14_compare_0 rfl (lv_at hl 0 rfl) ?_
  refine lv_iconst (v := 0) hx hb dX14_compare_1 (by decide) ?_
  refine mm_put (v := .int 0) (ty := .int) hx hb hf_X14 (fun _ h9 => h9) tyX14 tyX14_ok nmX14 hown hK hG hS hM.1 rfl 38 (by decide) (tb_use hT tw_1429) (fun _ h9 => h9) rfl (by decide +kernel) rfl rfl (mfs_l38 _ _) dX14_compare_2 (fun H locs hG hS => ?_)
  have hM := MD.puti (k := 38) (v := 0) hM (mfs_s38 _ _ _)
  have hF := hF.wo (e' := .inr (15, (mfs Az Iv).set 38 (.int 0)))
  obtain ⟨I1, eI1⟩ : ∃ g, g = upd Iv 38 0 := ⟨_, rfl⟩
  rw [← eI1] at hM
  have hgn := gn_MD hG hM hF
  clear hG hM hF
  obtain ⟨G2, hG, hM, hF⟩ := hgn
  refine lv_iload_n hx hb dX14_compare_5 rfl (lv_at hl 1 rfl) ?_
  refine lv_iconst (v := 1) hx hb dX14_compare_6 (by decide) ?_
  refine lv_icmp_lt (tgt := 23) hx hb dX14_compare_7 (by decide) (fun c_7 => ?_) (fun c_7 => ?_)
  · skip
    refine lv_iconst (v := (-1)) hx hb dX14_compare_23 (by decide) ?_
    exact W.iret (v := (-1)) hx hb hr (fun t ht hW => ⟨⟨_, _, rfl, ⟨Az, I1, F, Or.inl rfl, hM, hF, (fun j h1 _ => by rw [eI1, pk_un h1]), (by rw [eI1, pk_us]), FrW.rf⟩, mk_end hG ht⟩, hS.F ht⟩) hS.2.2 dX14_compare_24
  · skip
    refine lv_iload_n hx hb dX14_compare_10 rfl (lv_at hl 1 rfl) ?_
    refine lv_iconst (v := 4) hx hb dX14_compare_11 (by decide) ?_
    refine lv_icmp_gt (tgt := 23) hx hb dX14_compare_12 (by decide) (fun c_12 => ?_) (fun c_12 => ?_)
    · skip
      refine lv_iconst (v := (-1)) hx hb dX14_compare_23 (by decide) ?_
      exact W.iret (v := (-1)) hx hb hr (fun t ht hW => ⟨⟨_, _, rfl, ⟨Az, I1, F, Or.inl rfl, hM, hF, (fun j h1 _ => by rw [eI1, pk_un h1]), (by rw [eI1, pk_us]), FrW.rf⟩, mk_end hG ht⟩, hS.F ht⟩) hS.2.2 dX14_compare_24
    · skip
      refine lv_iload_n hx hb dX14_compare_15 rfl (lv_at hl 1 rfl) ?_
      refine lv_aload_n hx hb dX14_compare_16 rfl (lv_at hl 0 rfl) ?_
      refine mm_get (v := .int (Iv 44)) hx hb hf_X14 (fun _ h9 => h9) hown hK hG hM.1 rfl 44 (by decide) (tb_use hT tw_1435) (fun _ h9 => h9) (by rw [mfs_g44, eI1] <;> rfl) dX14_compare_17 ?_
      refine lv_icmp_le (tgt := 25) hx hb dX14_compare_20 (by decide) (fun c_20 => ?_) (fun c_20 => ?_)
      · skip
        obtain ⟨e9, he4, hev, -⟩ := ix_of (i := iv) (n := 4) (by decide) c_7 (Int32.not_lt.mp c_12)
        have heN : e9 < N9 := by have y := nI_ge_of (a := N9) (b := e9 + 1) (by omega) (by omega) (by have z := c_20; rw [hev, h44] at z; exact z); omega
        obtain ⟨hk1, hk2, hk3, hk4⟩ := hKP e9 heN he4
        obtain ⟨hB, hVL, hLS, hn9, hm9⟩ := hHand (by omega)
        refine lv_aload_n hx hb dX14_compare_25 rfl (lv_at hl 0 rfl) ?_
        refine lv_aload_n hx hb dX14_compare_26 rfl (lv_at hl 0 rfl) ?_
        refine mm_get (v := .ref (Az 46)) hx hb hf_X14 (fun _ h9 => h9) hown hK hG hM.1 rfl 46 (by decide) (tb_use hT tw_1437) (fun _ h9 => h9) (mfs_g46 _ _) dX14_compare_27 ?_
        refine lv_sipush (v := 2000) hx hb dX14_compare_30 (by decide) ?_
        refine lv_iload_n hx hb dX14_compare_33 rfl (lv_at hl 1 rfl) ?_
        refine lv_iconst (v := 1) hx hb dX14_compare_34 (by decide) ?_
        refine lv_isub hx hb dX14_compare_35 ?_
        refine lv_imul hx hb dX14_compare_36 ?_
        rw [show (2000 : Int32) * (iv - 1) = nI (2000 * e9) by rw [hev, show nI (e9 + 1) - 1 = nI e9 from nI_pred e9]; exact mul_nI]
        refine lv_aload_n hx hb dX14_compare_37 rfl (lv_at hl 0 rfl) ?_
        refine mm_get (v := .ref (Az 45)) hx hb hf_X14 (fun _ h9 => h9) hown hK hG hM.1 rfl 45 (by decide) (tb_use hT tw_1436) (fun _ h9 => h9) (mfs_g45 _ _) dX14_compare_38 ?_
        refine lv_iload_n hx hb dX14_compare_41 rfl (lv_at hl 1 rfl) ?_
        refine lv_iconst (v := 1) hx hb dX14_compare_42 (by decide) ?_
        refine lv_isub hx hb dX14_compare_43 ?_
        rw [show iv - 1 = nI e9 by rw [hev]; exact nI_pred e9]
        refine mm_iald (n := 4) (f := F 45) hx hb hK hG 1 (hM.2.1 45 rfl) rfl (nI_in (N := 4) (by omega) (by decide)) dX14_compare_44 ?_
        refine lv_topi (fun x3 ex3 => ?_)
        rw [show x3 = nI (ek e9) by rw [ex3, nI_clamp (by omega)]; exact hk1]
        refine va_calli (va_runV (As := [.ref (Az 46), .int (nI (2000 * e9)), .int (nI (ek e9))]) (rest := []) ⟨hx, hb, hml, hown, (fun _ h9 => absurd h9 List.not_mem_nil : ∀ w ∈ ([] : List Cond), w.before _ s = true)⟩ (c_M_readInto l D cy A X hst hXT G2 o Az I1 F L (fk e9) 46 (2000 * e9) (ek e9) d9 (Az 46) hM rfl (Or.inr rfl) (by show 2000 * e9 + ek e9 ≤ 8000; omega) (by omega) hd9 (by rw [eI1]; exact h41) hk3) (tb_cw (C := RX14) 3 hT tw_1632 tw_109 tw_1629 tw_1631 tw_60 rfl rfl hq_X14_readInto ⟨Nat.le_of_ble_eq_true rfl, Nat.le_of_ble_eq_true rfl⟩) (mk_preC hst hG hK hA hX hS vc_15 hM.1) rfl rfl hl.1 rfl (lv_room (Nat.le_of_ble_eq_true rfl)) dX14_compare_45 ⟨Nat.le_of_ble_eq_true rfl, Nat.le_of_ble_eq_true rfl⟩) hS (fun q _ h => h) (fun q h => h) (fun r4 G5 t H locs ht hvm hw hB hz1 hk1 hS => ?_)
        have hG : mm D vwCl A G5 H := by rw [← ht]; exact hB
        clear hB hz1 hk1 hvm ht
        rw [show q_fill (tkK (fk e9) (ek e9)) (tkS (fk e9) (ek e9)) (tkV (fk e9) (ek e9)) (tkN (fk e9) (ek e9)) EdV.nil (0, -1) = rdF (fk e9) (ek e9) from rfl] at hw
        have hgd := rd_gd hk4
        have hLU : LSv (rdF (fk e9) (ek e9)).1 := rdV_ls
        have hvd := @rd_vld (fk e9) (ek e9) (by omega) hk4
        unfold rdV at hvd
        obtain ⟨RP, eRP⟩ : ∃ y, rdF (fk e9) (ek e9) = y := ⟨_, rfl⟩
        rw [eRP] at hw hgd hLU hvd
        obtain ⟨Ar, I9, F9, cl9, hAr, hM2, hF2, hQ, hIZ, hFr, hs9, -⟩ := hw
        replace hF := (hF.ar (Ar2 := Ar) (fun k hk => by rw [hAr]; exact va_up_ne _ _ (fun z => by rw [z] at hk; exact absurd hk (by decide)))).tr hF2; replace hM := hM2; clear hM2 hF2
        have hI9 : ∀ j, ¬ j = 38 → ¬ (48 ≤ j ∧ j ≤ 58) → I9 j = Iv j := fun j h1 h2 => by rw [IZe hIZ (by omega), pk_un (by omega), pk_un (by omega), eI1, pk_un h1]
        have h9_38 : I9 38 = 0 := by rw [IZe hIZ (by decide), pk_un (by decide), pk_un (by decide), eI1, pk_us]
        have hq1 := hQ.2.1
        have hD := (hs9 hgd).2.1
        have hVU := hvd (fun s hs => (hD.2.2.1.2.2 s hs).2.2.2.2.1) (fun j hj => (hD.2.2.2.2.2.2.2 j hj).2.2.1)
        have hNL := (hQ.2.2.2.2.2.1).nl
        have hB9 := hB.ot hb9 hd9 hbd (F2 := F9) (fun j i h1 h2 _ => hFr j i h1 h2)
        have hbk9 : I9 42 = nI b9 := (hI9 42 (by decide) (by decide)).trans hbk
        have h419 : I9 41 = nI d9 := (hI9 41 (by decide) (by decide)).trans h41
        refine lv_istore_n (lv' := [(2, .int r4), (0, .ref o), (1, .int iv)]) hx hb dX14_compare_48 rfl hl (by decide) rfl (fun ls hl => ?_)
        have hs16 := hB9.2.2.1.2.1
        have ht16 := hD.2.2.1.2.1
        have hls_ : ∀ (n : Nat) (s9 : Nat) (xn : Int32), (n + s9 = v9.nS) → ∀ (Gv : Nat → Option va_E), (MD cy Gv o Ar I9 F9 L) → (MF G Gv o Ar) → ∀ (H : Heap) (locs : List Loc), mm D vwCl A Gv H → va_S A s.heap H locs → ∀ ls : Array Slot, lv_has ls 7 [(0, .ref o), (3, .int xn), (4, .int (nI s9))] → W p l e (headSpec [.code yX14_compare cX14_compare 7 (some .int)] ({ frames := 11, cells := 0, slots := 0, locals := 330 })).room s m ([.ref o, .int iv] : List Value).toArray below meth c H locs 0 0 (MQ below (va_Qi (fun (r : Int32) (G2 : Nat → Option va_E) => ∃ (A2 : Nat → Nat) (I2 : Nat → Int32) (F2 : Nat → Nat → Int32), (A2 = Az ∨ A2 = va_up Az 47 (Az 46)) ∧ MD cy G2 o A2 I2 F2 L ∧ MF G G2 o A2 ∧ (∀ j, ¬ j = 38 → ¬ (48 ≤ j ∧ j ≤ 58) → I2 j = Iv j) ∧ I2 38 = 0 ∧ FrW (wB d9) F F2) (mk_B D vwCl A) A) ([.ref o, .int iv] : List Value).toArray s 0 0 A) (F0 m 54 ls []) := by
          intro n
          induction n with
          | zero =>
            intro s9 xn hsn Gv hM hF H locs hG hS ls hl
            refine lv_iload hx hb dX14_compare_54 (lv_at hl 2 rfl) ?_
            refine lv_aload_n hx hb dX14_compare_56 rfl (lv_at hl 0 rfl) ?_
            refine mm_get (v := .ref (Ar 3)) hx hb hf_X14 (fun _ h9 => h9) hown hK hG hM.1 rfl 3 (by decide) (tb_use hT tw_1394) (fun _ h9 => h9) (mfs_g3 _ _) dX14_compare_57 ?_
            refine lv_aload_n hx hb dX14_compare_60 rfl (lv_at hl 0 rfl) ?_
            refine mm_get (v := .int (I9 42)) hx hb hf_X14 (fun _ h9 => h9) hown hK hG hM.1 rfl 42 (by decide) (tb_use hT tw_1433) (fun _ h9 => h9) (mfs_g42 _ _) dX14_compare_61 ?_
            rw [show (I9 42) = nI b9 from hbk9]
            refine mm_iald (n := 2) (f := F9 3) hx hb hK hG 1 (hM.2.1 3 rfl) rfl (nI_in (N := 2) hb9 (by decide)) dX14_compare_64 ?_
            refine lv_topi (fun x6 ex6 => ?_)
            refine lv_icmp_ge (tgt := 136) hx hb dX14_compare_65 (by decide) (fun c_65 => ?_) (fun c_65 => ?_)
            · skip
              refine lv_iload_n hx hb dX14_compare_136 rfl (lv_at hl 1 rfl) ?_
              exact W.iret (v := xn) hx hb hr (fun t ht hW => ⟨⟨_, _, rfl, ⟨Ar, I9, F9, Or.inr hAr, hM, hF, hI9, h9_38, hFr⟩, mk_end hG ht⟩, hS.F ht⟩) hS.2.2 dX14_compare_137
            · skip
              exact absurd (by rw [ex6, nI_clamp (by omega), hB9.2.2.1.1, show s9 = v9.nS by omega]; exact Int32.le_refl _) c_65
          | succ n ih =>
            intro s9 xn hsn Gv hM hF H locs hG hS ls hl
            have hsl : s9 < v9.nS := by omega
            refine lv_iload hx hb dX14_compare_54 (lv_at hl 2 rfl) ?_
            refine lv_aload_n hx hb dX14_compare_56 rfl (lv_at hl 0 rfl) ?_
            refine mm_get (v := .ref (Ar 3)) hx hb hf_X14 (fun _ h9 => h9) hown hK hG hM.1 rfl 3 (by decide) (tb_use hT tw_1394) (fun _ h9 => h9) (mfs_g3 _ _) dX14_compare_57 ?_
            refine lv_aload_n hx hb dX14_compare_60 rfl (lv_at hl 0 rfl) ?_
            refine mm_get (v := .int (I9 42)) hx hb hf_X14 (fun _ h9 => h9) hown hK hG hM.1 rfl 42 (by decide) (tb_use hT tw_1433) (fun _ h9 => h9) (mfs_g42 _ _) dX14_compare_61 ?_
            rw [show (I9 42) = nI b9 from hbk9]
            refine mm_iald (n := 2) (f := F9 3) hx hb hK hG 1 (hM.2.1 3 rfl) rfl (nI_in (N := 2) hb9 (by decide)) dX14_compare_64 ?_
            refine lv_topi (fun x7 ex7 => ?_)
            refine lv_icmp_ge (tgt := 136) hx hb dX14_compare_65 (by decide) (fun c_65 => ?_) (fun c_65 => ?_)
            · skip
              exact absurd (by have z := c_65; rw [ex7, nI_clamp (by omega), hB9.2.2.1.1] at z; exact z) (nI_ge (a := s9) (b := v9.nS) (by omega) (by omega))
            · skip
              refine lv_iconst (v := 0) hx hb dX14_compare_68 (by decide) ?_
              refine lv_istore (lv' := [(5, .int 0), (0, .ref o), (3, .int xn), (4, .int (nI s9))]) hx hb dX14_compare_69 hl (by decide) rfl (fun ls hl => ?_)
              have hlt_ : ∀ (nt : Nat) (t9 : Nat) (xh : Int32), (nt + t9 = RP.1.nS) → ∀ (Gv : Nat → Option va_E), (MD cy Gv o Ar I9 F9 L) → (MF G Gv o Ar) → ∀ (H : Heap) (locs : List Loc), mm D vwCl A Gv H → va_S A s.heap H locs → ∀ ls : Array Slot, lv_has ls 7 [(0, .ref o), (3, .int xn), (4, .int (nI s9)), (5, .int xh), (6, .int (nI t9))] → W p l e (headSpec [.code yX14_compare cX14_compare 7 (some .int)] ({ frames := 11, cells := 0, slots := 0, locals := 330 })).room s m ([.ref o, .int iv] : List Value).toArray below meth c H locs 0 0 (MQ below (va_Qi (fun (r : Int32) (G2 : Nat → Option va_E) => ∃ (A2 : Nat → Nat) (I2 : Nat → Int32) (F2 : Nat → Nat → Int32), (A2 = Az ∨ A2 = va_up Az 47 (Az 46)) ∧ MD cy G2 o A2 I2 F2 L ∧ MF G G2 o A2 ∧ (∀ j, ¬ j = 38 → ¬ (48 ≤ j ∧ j ≤ 58) → I2 j = Iv j) ∧ I2 38 = 0 ∧ FrW (wB d9) F F2) (mk_B D vwCl A) A) ([.ref o, .int iv] : List Value).toArray s 0 0 A) (F0 m 74 ls []) := by
                intro nt
                induction nt with
                | zero =>
                  intro t9 xh htn Gv hM hF H locs hG hS ls hl
                  refine lv_iload hx hb dX14_compare_74 (lv_at hl 4 rfl) ?_
                  refine lv_aload_n hx hb dX14_compare_76 rfl (lv_at hl 0 rfl) ?_
                  refine mm_get (v := .ref (Ar 3)) hx hb hf_X14 (fun _ h9 => h9) hown hK hG hM.1 rfl 3 (by decide) (tb_use hT tw_1394) (fun _ h9 => h9) (mfs_g3 _ _) dX14_compare_77 ?_
                  refine lv_aload_n hx hb dX14_compare_80 rfl (lv_at hl 0 rfl) ?_
                  refine mm_get (v := .int (I9 41)) hx hb hf_X14 (fun _ h9 => h9) hown hK hG hM.1 rfl 41 (by decide) (tb_use hT tw_1432) (fun _ h9 => h9) (mfs_g41 _ _) dX14_compare_81 ?_
                  rw [show (I9 41) = nI d9 from h419]
                  refine mm_iald (n := 2) (f := F9 3) hx hb hK hG 1 (hM.2.1 3 rfl) rfl (nI_in (N := 2) hd9 (by decide)) dX14_compare_84 ?_
                  refine lv_topi (fun x8 ex8 => ?_)
                  refine lv_icmp_ge (tgt := 117) hx hb dX14_compare_85 (by decide) (fun c_85 => ?_) (fun c_85 => ?_)
                  · skip
                    refine lv_iload_n hx hb dX14_compare_117 rfl (lv_at hl 1 rfl) ?_
                    refine lv_iload hx hb dX14_compare_118 (lv_at hl 3 rfl) ?_
                    refine lv_if_eq (tgt := 127) hx hb dX14_compare_120 (by decide) (fun c_120 => ?_) (fun c_120 => ?_)
                    · skip
                      refine lv_iconst (v := 1) hx hb dX14_compare_127 (by decide) ?_
                      refine lv_iadd hx hb dX14_compare_128 ?_
                      refine lv_topi (fun x9 ex9 => ?_)
                      refine lv_istore_n (lv' := [(3, .int x9), (0, .ref o), (4, .int (nI s9)), (5, .int xh), (6, .int (nI t9))]) hx hb dX14_compare_129 rfl hl (by decide) rfl (fun ls hl => ?_)
                      obtain ⟨x10, ex10⟩ : ∃ y : Int32, y = (nI s9) + 1 := ⟨_, rfl⟩
                      refine lv_iinc (v := x10) (lv' := [(4, .int x10), (3, .int x9), (0, .ref o), (5, .int xh), (6, .int (nI t9))]) hx hb dX14_compare_130 hl (k := 2) rfl (by rw [ex10]; rfl) (by decide) rfl (fun ls hl => ?_)
                      refine lv_goto (tgt := 54) hx hb dX14_compare_133 (by decide) ?_
                      rw [show x10 = nI (s9 + 1) by rw [ex10]; exact (nI_succ s9).symm] at hl
                      exact ih (s9 + 1) x9 (by omega) Gv hM hF _ _ hG hS ls (lv_sub hl [2, 1, 0] rfl)
                    · skip
                      refine lv_iconst (v := 0) hx hb dX14_compare_123 (by decide) ?_
                      refine lv_goto (tgt := 128) hx hb dX14_compare_124 (by decide) ?_
                      refine lv_iadd hx hb dX14_compare_128 ?_
                      refine lv_topi (fun x11 ex11 => ?_)
                      refine lv_istore_n (lv' := [(3, .int x11), (0, .ref o), (4, .int (nI s9)), (5, .int xh), (6, .int (nI t9))]) hx hb dX14_compare_129 rfl hl (by decide) rfl (fun ls hl => ?_)
                      obtain ⟨x12, ex12⟩ : ∃ y : Int32, y = (nI s9) + 1 := ⟨_, rfl⟩
                      refine lv_iinc (v := x12) (lv' := [(4, .int x12), (3, .int x11), (0, .ref o), (5, .int xh), (6, .int (nI t9))]) hx hb dX14_compare_130 hl (k := 2) rfl (by rw [ex12]; rfl) (by decide) rfl (fun ls hl => ?_)
                      refine lv_goto (tgt := 54) hx hb dX14_compare_133 (by decide) ?_
                      rw [show x12 = nI (s9 + 1) by rw [ex12]; exact (nI_succ s9).symm] at hl
                      exact ih (s9 + 1) x11 (by omega) Gv hM hF _ _ hG hS ls (lv_sub hl [2, 1, 0] rfl)
                  · skip
                    exact absurd (by rw [ex8, nI_clamp (by omega), hD.2.2.1.1, show t9 = RP.1.nS by omega]; exact Int32.le_refl _) c_85
                | succ nt iht =>
                  intro t9 xh htn Gv hM hF H locs hG hS ls hl
                  have htl : t9 < RP.1.nS := by omega
                  refine lv_iload hx hb dX14_compare_74 (lv_at hl 4 rfl) ?_
                  refine lv_aload_n hx hb dX14_compare_76 rfl (lv_at hl 0 rfl) ?_
                  refine mm_get (v := .ref (Ar 3)) hx hb hf_X14 (fun _ h9 => h9) hown hK hG hM.1 rfl 3 (by decide) (tb_use hT tw_1394) (fun _ h9 => h9) (mfs_g3 _ _) dX14_compare_77 ?_
                  refine lv_aload_n hx hb dX14_compare_80 rfl (lv_at hl 0 rfl) ?_
                  refine mm_get (v := .int (I9 41)) hx hb hf_X14 (fun _ h9 => h9) hown hK hG hM.1 rfl 41 (by decide) (tb_use hT tw_1432) (fun _ h9 => h9) (mfs_g41 _ _) dX14_compare_81 ?_
                  rw [show (I9 41) = nI d9 from h419]
                  refine mm_iald (n := 2) (f := F9 3) hx hb hK hG 1 (hM.2.1 3 rfl) rfl (nI_in (N := 2) hd9 (by decide)) dX14_compare_84 ?_
                  refine lv_topi (fun x13 ex13 => ?_)
                  refine lv_icmp_ge (tgt := 117) hx hb dX14_compare_85 (by decide) (fun c_85 => ?_) (fun c_85 => ?_)
                  · skip
                    exact absurd (by have z := c_85; rw [ex13, nI_clamp (by omega), hD.2.2.1.1] at z; exact z) (nI_ge (a := t9) (b := RP.1.nS) (by omega) (by omega))
                  · skip
                    refine lv_iload hx hb dX14_compare_88 (lv_at hl 3 rfl) ?_
                    refine lv_if_ne (tgt := 104) hx hb dX14_compare_90 (by decide) (fun c_90 => ?_) (fun c_90 => ?_)
                    · skip
                      refine lv_iconst (v := 1) hx hb dX14_compare_104 (by decide) ?_
                      refine lv_goto (tgt := 109) hx hb dX14_compare_105 (by decide) ?_
                      refine lv_istore (lv' := [(5, .int 1), (0, .ref o), (3, .int xn), (4, .int (nI s9)), (6, .int (nI t9))]) hx hb dX14_compare_109 hl (by decide) rfl (fun ls hl => ?_)
                      obtain ⟨x14, ex14⟩ : ∃ y : Int32, y = (nI t9) + 1 := ⟨_, rfl⟩
                      refine lv_iinc (v := x14) (lv' := [(6, .int x14), (5, .int 1), (0, .ref o), (3, .int xn), (4, .int (nI s9))]) hx hb dX14_compare_111 hl (k := 4) rfl (by rw [ex14]; rfl) (by decide) rfl (fun ls hl => ?_)
                      refine lv_goto (tgt := 74) hx hb dX14_compare_114 (by decide) ?_
                      rw [show x14 = nI (t9 + 1) by rw [ex14]; exact (nI_succ t9).symm] at hl
                      exact iht (t9 + 1) 1 (by omega) Gv hM hF _ _ hG hS ls (lv_sub hl [2, 3, 4, 1, 0] rfl)
                    · skip
                      refine lv_aload_n hx hb dX14_compare_93 rfl (lv_at hl 0 rfl) ?_
                      refine lv_iload hx hb dX14_compare_94 (lv_at hl 2 rfl) ?_
                      refine lv_iload hx hb dX14_compare_96 (lv_at hl 4 rfl) ?_
                      refine va_calli (va_runV (As := [.int (nI s9), .int (nI t9)]) (rest := []) ⟨hx, hb, hml, hown, (fun _ h9 => absurd h9 List.not_mem_nil : ∀ w ∈ ([] : List Cond), w.before _ s = true)⟩ (c_M_isLike l D cy A X hst hXT Gv o Ar I9 F9 L b9 d9 n9 (RP.2.1 + 1) K9 (tkK (fk e9) (ek e9)) V9 (tkV (fk e9) (ek e9)) v9 RP.1 s9 t9 hM hb9 hd9 hbk9 h419 hB9 hD hn9 (nt1000 (by omega) (by omega)) hm9 (by omega) hNL hVL hVU hLS hLU hsl htl) (tb_cw (C := RX14) 2 hT tw_1882 tw_109 tw_1879 tw_1881 tw_101 rfl rfl hq_X14_isLike ⟨Nat.le_of_ble_eq_true rfl, Nat.le_of_ble_eq_true rfl⟩) (mk_preC hst hG hK hA hX hS vc_15 hM.1) rfl rfl hl.1 rfl (lv_room (Nat.le_of_ble_eq_true rfl)) dX14_compare_98 ⟨Nat.le_of_ble_eq_true rfl, Nat.le_of_ble_eq_true rfl⟩) hS (fun q _ h => h) (fun q h => h) (fun r15 G16 t H locs ht hvm hw hB hz1 hk1 hS => ?_)
                      have hG : mm D vwCl A G16 H := by rw [← ht]; exact hB
                      clear hB hz1 hk1 hvm ht
                      obtain ⟨h_r15, hw⟩ := hw
                      rw [hw] at hG
                      refine lv_if_eq (tgt := 108) hx hb dX14_compare_101 (by decide) (fun c_101 => ?_) (fun c_101 => ?_)
                      · skip
                        refine lv_iconst (v := 0) hx hb dX14_compare_108 (by decide) ?_
                        refine lv_istore (lv' := [(5, .int 0), (0, .ref o), (3, .int xn), (4, .int (nI s9)), (6, .int (nI t9))]) hx hb dX14_compare_109 hl (by decide) rfl (fun ls hl => ?_)
                        obtain ⟨x17, ex17⟩ : ∃ y : Int32, y = (nI t9) + 1 := ⟨_, rfl⟩
                        refine lv_iinc (v := x17) (lv' := [(6, .int x17), (5, .int 0), (0, .ref o), (3, .int xn), (4, .int (nI s9))]) hx hb dX14_compare_111 hl (k := 4) rfl (by rw [ex17]; rfl) (by decide) rfl (fun ls hl => ?_)
                        refine lv_goto (tgt := 74) hx hb dX14_compare_114 (by decide) ?_
                        rw [show x17 = nI (t9 + 1) by rw [ex17]; exact (nI_succ t9).symm] at hl
                        exact iht (t9 + 1) 0 (by omega) Gv hM hF _ _ hG hS ls (lv_sub hl [2, 3, 4, 1, 0] rfl)
                      · skip
                        refine lv_iconst (v := 1) hx hb dX14_compare_104 (by decide) ?_
                        refine lv_goto (tgt := 109) hx hb dX14_compare_105 (by decide) ?_
                        refine lv_istore (lv' := [(5, .int 1), (0, .ref o), (3, .int xn), (4, .int (nI s9)), (6, .int (nI t9))]) hx hb dX14_compare_109 hl (by decide) rfl (fun ls hl => ?_)
                        obtain ⟨x18, ex18⟩ : ∃ y : Int32, y = (nI t9) + 1 := ⟨_, rfl⟩
                        refine lv_iinc (v := x18) (lv' := [(6, .int x18), (5, .int 1), (0, .ref o), (3, .int xn), (4, .int (nI s9))]) hx hb dX14_compare_111 hl (k := 4) rfl (by rw [ex18]; rfl) (by decide) rfl (fun ls hl => ?_)
                        refine lv_goto (tgt := 74) hx hb dX14_compare_114 (by decide) ?_
                        rw [show x18 = nI (t9 + 1) by rw [ex18]; exact (nI_succ t9).symm] at hl
                        exact iht (t9 + 1) 1 (by omega) Gv hM hF _ _ hG hS ls (lv_sub hl [2, 3, 4, 1, 0] rfl)
              refine lv_iconst (v := 0) hx hb dX14_compare_71 (by decide) ?_
              refine lv_istore (lv' := [(6, .int 0), (5, .int 0), (0, .ref o), (3, .int xn), (4, .int (nI s9))]) hx hb dX14_compare_72 hl (by decide) rfl (fun ls hl => ?_)
              exact hlt_ RP.1.nS 0 0 (by omega) Gv hM hF _ _ hG hS ls (lv_sub hl [2, 3, 4, 1, 0] rfl)
        refine lv_iconst (v := 0) hx hb dX14_compare_49 (by decide) ?_
        refine lv_istore_n (lv' := [(3, .int 0), (2, .int r4), (0, .ref o), (1, .int iv)]) hx hb dX14_compare_50 rfl hl (by decide) rfl (fun ls hl => ?_)
        refine lv_iconst (v := 0) hx hb dX14_compare_51 (by decide) ?_
        refine lv_istore (lv' := [(4, .int 0), (3, .int 0), (2, .int r4), (0, .ref o), (1, .int iv)]) hx hb dX14_compare_52 hl (by decide) rfl (fun ls hl => ?_)
        exact hls_ v9.nS 0 0 (by omega) G5 hM hF _ _ hG hS ls (lv_sub hl [3, 1, 0] rfl)
      · skip
        refine lv_iconst (v := (-1)) hx hb dX14_compare_23 (by decide) ?_
        exact W.iret (v := (-1)) hx hb hr (fun t ht hW => ⟨⟨_, _, rfl, ⟨Az, I1, F, Or.inl rfl, hM, hF, (fun j h1 _ => by rw [eI1, pk_un h1]), (by rw [eI1, pk_us]), FrW.rf⟩, mk_end hG ht⟩, hS.F ht⟩) hS.2.2 dX14_compare_24
