def wE (bo n : Nat) : Nat → Nat → Prop := fun j i => (j = 4 ∧ i = bo) ∨ ((j = 29 ∨ j = 30) ∧ n < 12 ∧ i = 12 * bo + n)
def wV (bo n : Nat) : Nat → Nat → Prop := fun j i => (j = 5 ∧ i = bo) ∨ ((j = 31 ∨ j = 32) ∧ n < 6 ∧ i = 6 * bo + n)

theorem NMt.cg {K : Nat → Nat} {V : Nat → Int64} {n : Nat} {r r2 : Int32} {x : Int64} (h : NMt K V n r x) (e : r = r2) : NMt K V n r2 x := e ▸ h

set_option maxHeartbeats 4000000 in
set_option maxRecDepth 100000 in
theorem c_M_codeSt (l : Launch) (D : va_G) (cy : Nat → ClassId) (A : Nat → Prop) (X : State → Prop) (hst : mk_St A X) (hXT : ∀ U : State, X U → TB U) (G : Nat → Option va_E) (o : Nat) (Ar : Nat → Nat) (Iv : Nat → Int32) (F : Nat → Nat → Int32) (L : Nat → Nat → Int64) (ft : Nat → Int32) (sx fr en bo : Nat) (q : Nat × Int32) (cl : List CLi) (c9 : Nat) (v9 : EdV) (hM : MD cy G o Ar Iv F L) (hQ : LXq Ar Iv F ft sx fr en bo q) (hC : CLq Iv F ft en cl c9) (hc1 : c9 ≤ q.1 + 1) (hkb : q.2 < 0 → tkK ft en q.1 ≠ 2 ∧ tkK ft en q.1 ≠ 3) (hn : F 4 bo = nI v9.nE) (hn9 : v9.nE ≤ 12) : Met l yX14_codeStatement [.code yX14_codeStatement cX14_codeStatement 2 none] ({ frames := 6, cells := 0, slots := 0, locals := 180 }) (mk_Pre D vwCl (tyL cy) A X G [.ref o]) (va_Qv (fun (G2 : Nat → Option va_E) => ∃ (I2 : Nat → Int32) (F2 : Nat → Nat → Int32) (cl2 : List CLi), MD cy G2 o Ar I2 F2 L ∧ MF G G2 o Ar ∧ LXq Ar I2 F2 ft sx fr en bo (q_code (tkK ft en) (tkS ft en) (tkV ft en) v9.nE q).1 ∧ IZ I2 = IZ Iv ∧ FrW (wE bo v9.nE) F F2 ∧ CLq I2 F2 ft en cl2 ((q_code (tkK ft en) (tkS ft en) (tkV ft en) v9.nE q).1.1 + 1) ∧ q.1 ≤ (q_code (tkK ft en) (tkS ft en) (tkV ft en) v9.nE q).1.1 ∧ ((q_code (tkK ft en) (tkS ft en) (tkV ft en) v9.nE q).1.2 < 0 → (F2 4 bo = nI (v9.nE + 1) ∧ F2 29 (12 * bo + v9.nE) = (q_code (tkK ft en) (tkS ft en) (tkV ft en) v9.nE q).2.1 ∧ NMt (tkK ft en) (tkV ft en) ((q_code (tkK ft en) (tkS ft en) (tkV ft en) v9.nE q).1.1 + 1) (F2 30 (12 * bo + v9.nE)) (q_code (tkK ft en) (tkS ft en) (tkV ft en) v9.nE q).2.2.2.1) ∧ cl2 = cl ++ [(7, q.1 + 1, v9.nE, 0)])) (mk_B D vwCl A) A) 0 0 A := by
  refine Met.ofW (cc := cX14_codeStatement) (maxL := 2) (ret := none) (by decide) rfl ?_
  intro p e s m args below meth c s₁ B hml hv
  obtain ⟨rfl, hG, hK, hA, hX⟩ := hv
  have hx := B.exec
  have hb := B.bytes
  have hr := B.returns
  have hlocks := B.notSynchronized
  have hT := hXT s hX
  have hown : s.vm.findClass RX14 = some m.cls := findClass_of_methodNamed B.named
  have hf_X14 : ∀ w ∈ u_ws RX14 TX14 76, w.before ([.ref o] : List Value).toArray s = true := tb_list hT fX14
  have hS : va_S A s.heap s.heap [] := va_S.rf
  have hl := lv_entry ([.ref o]) (n := 2) (Nat.le_of_ble_eq_true rfl)
  rw [lg_entry_eq]
  generalize (lg_sl ([.ref o]) ++ List.replicate (2 - (lg_sl ([.ref o])).length) Slot.unset).toArray = ls at hl ⊢
  have hl : lv_has ls 2 [(0, .ref o)] := hl
  have hF : MF G G o Ar := MF.rf
  have hIZ : IZ Iv = IZ Iv := rfl
  have hSn : ∀ p, ¬ tkS ft en p < 0 := fun p => tkS_ge hQ.1.2.2.2.1 p
  have hbo := hQ.1.2.2.2.2.2.1
  have hbl := hQ.1.2.2.2.2.1
  have hFr : FrW (wE bo v9.nE) F F := FrW.rf
  refine lv_aload_n hx hb dX14_codeStatement_0 rfl (lv_at hl 0 rfl) ?_
  refine mm_get (v := .int (Iv 41)) hx hb hf_X14 (fun _ h9 => h9) hown hK hG hM.1 rfl 41 (by decide) (tb_use hT tw_1432) (fun _ h9 => h9) (mfs_g41 _ _) dX14_codeStatement_1 ?_
  rw [hbo]
  refine lv_istore_n (lv' := [(1, .int (nI bo)), (0, .ref o)]) hx hb dX14_codeStatement_4 rfl hl (by decide) rfl (fun ls hl => ?_)
  refine lv_aload_n hx hb dX14_codeStatement_5 rfl (lv_at hl 1 rfl) ?_
  refine lv_aload_n hx hb dX14_codeStatement_6 rfl (lv_at hl 1 rfl) ?_
  refine mm_get (v := .ref (Ar 4)) hx hb hf_X14 (fun _ h9 => h9) hown hK hG hM.1 rfl 4 (by decide) (tb_use hT tw_1395) (fun _ h9 => h9) (mfs_g4 _ _) dX14_codeStatement_7 ?_
  refine lv_iload_n hx hb dX14_codeStatement_10 rfl (lv_at hl 0 rfl) ?_
  refine mm_iald (n := 2) (f := F 4) hx hb hK hG 1 (hM.2.1 4 rfl) rfl (by exact nI_in (N := 2) (by omega) (by decide)) dX14_codeStatement_11 ?_
  refine lv_topi (fun x1 ex1 => ?_)
  rw [show x1 = nI v9.nE by rw [ex1, nI_clamp (by omega)]; exact hn]
  refine lv_bipush (v := 12) hx hb dX14_codeStatement_12 (by decide) ?_
  refine va_calli (va_runV (As := [.int (nI v9.nE), .int 12]) (rest := []) ⟨hx, hb, hml, hown, (fun _ h9 => absurd h9 List.not_mem_nil : ∀ w ∈ ([] : List Cond), w.before _ s = true)⟩ (c_M_begins l D cy A X hst hXT G o Ar Iv F L ft sx fr en bo q (nI v9.nE) 12 hM hQ hkb) (tb_cw (C := RX14) 2 hT tw_1701 tw_109 tw_1698 tw_1700 tw_69 rfl rfl hq_X14_begins ⟨Nat.le_of_ble_eq_true rfl, Nat.le_of_ble_eq_true rfl⟩) (mk_preC hst hG hK hA hX hS vc_15 hM.1) rfl rfl hl.1 rfl (lv_room (Nat.le_of_ble_eq_true rfl)) dX14_codeStatement_14 ⟨Nat.le_of_ble_eq_true rfl, Nat.le_of_ble_eq_true rfl⟩) hS (fun q _ h => h) (fun q h => h) (fun r2 G3 t H locs ht hvm hw hB hz1 hk1 hS => ?_)
  have hG : mm D vwCl A G3 H := by rw [← ht]; exact hB
  clear hB hz1 hk1 hvm ht
  obtain ⟨a4, ea4⟩ : ∃ y, y = q_begin (tkS ft en) (nI v9.nE) 12 q := ⟨_, rfl⟩
  rw [← ea4] at hw
  obtain ⟨hr2, I5, F6, hM2, hF2, hQ2, hI2, hX2⟩ := hw
  replace hF := hF.tr hF2; replace hM := hM2; clear hM2 hF2
  have hQ := hQ2; have hIZ := (IZ_x hI2).trans hIZ; have hFr := hFr.fx hX2; have hC := hC.fx hI2 hX2
  have p7 : F6 4 (bo) = nI v9.nE := (congrFun (FXe hX2 (by decide)) _).trans hn
  clear hI2 hX2 hQ2
  have ga4 : q.1 ≤ a4.1 := by rw [ea4]; exact ge_begin
  have da4 : a4.2 < 0 → _ := fun z => ad_begin hSn (by rw [← ea4]; exact z)
  rw [← ea4] at da4
  have hc1 : c9 ≤ a4.1 + 1 := by omega
  have hc2 : a4.2 < 0 → c9 ≤ a4.1 := fun z => by have := da4 z; omega
  refine lv_if_ne (tgt := 21) hx hb dX14_codeStatement_17 (by decide) (fun c_17 => ?_) (fun c_17 => ?_)
  · skip
    have hb0 : a4.2 < 0 := of_decide_eq_true (b2i_t (by rw [← hr2]; exact c_17))
    have hlim : v9.nE < 12 := nI_lt_of (by omega) (by decide) (Int32.not_le.mpr (da4 hb0).2.1)
    refine lv_aload_n hx hb dX14_codeStatement_21 rfl (lv_at hl 1 rfl) ?_
    refine lv_bipush (v := 7) hx hb dX14_codeStatement_22 (by decide) ?_
    refine lv_aload_n hx hb dX14_codeStatement_24 rfl (lv_at hl 1 rfl) ?_
    refine mm_get (v := .ref (Ar 4)) hx hb hf_X14 (fun _ h9 => h9) hown hK hG hM.1 rfl 4 (by decide) (tb_use hT tw_1395) (fun _ h9 => h9) (mfs_g4 _ _) dX14_codeStatement_25 ?_
    refine lv_iload_n hx hb dX14_codeStatement_28 rfl (lv_at hl 0 rfl) ?_
    refine mm_iald (n := 2) (f := F6 4) hx hb hK hG 1 (hM.2.1 4 rfl) rfl (by exact nI_in (N := 2) (by omega) (by decide)) dX14_codeStatement_29 ?_
    refine lv_topi (fun x8 ex8 => ?_)
    rw [show x8 = nI v9.nE by rw [ex8, nI_clamp (by omega)]; exact p7]
    refine lv_iconst (v := 0) hx hb dX14_codeStatement_30 (by decide) ?_
    refine va_callv (va_runV (As := [.int 7, .int (nI v9.nE), .int 0]) (rest := []) ⟨hx, hb, hml, hown, (fun _ h9 => absurd h9 List.not_mem_nil : ∀ w ∈ ([] : List Cond), w.before _ s = true)⟩ (c_M_claimq l D cy A X hst hXT G3 o Ar I5 F6 L ft sx fr en bo a4 cl c9 7 v9.nE 0 hM hQ hC hc1 hc2) (tb_cw (C := RX14) 3 hT tw_1709 tw_109 tw_1706 tw_1708 tw_71 rfl rfl hq_X14_claim ⟨Nat.le_of_ble_eq_true rfl, Nat.le_of_ble_eq_true rfl⟩) (mk_preC hst hG hK hA hX hS vc_15 hM.1) rfl rfl hl.1 rfl (lv_room (Nat.le_of_ble_eq_true rfl)) dX14_codeStatement_31 ⟨Nat.le_of_ble_eq_true rfl, Nat.le_of_ble_eq_true rfl⟩) hS (fun q _ h => h) (fun q h => h) (fun  G9 t H locs ht hvm hw hB hz1 hk1 hS => ?_)
    have hG : mm D vwCl A G9 H := by rw [← ht]; exact hB
    clear hB hz1 hk1 hvm ht
    obtain ⟨I10, F11, hM2, hF2, hQ2, hC2, hI2, hX2⟩ := hw
    replace hF := hF.tr hF2; replace hM := hM2; clear hM2 hF2
    have hQ := hQ2; have hC := hC2; have hIZ := hI2.trans hIZ
    have hFr : FrW (wE bo v9.nE) F F11 := fun j i h1 h2 => (congrFun (hX2 j (fun z => h1 (by unfold lxA; omega))) i).trans (hFr j i h1 h2)
    have p12 : F11 4 (bo) = nI v9.nE := (congrFun (hX2 4 (by decide)) _).trans p7
    clear hI2 hX2 hQ2 hC2
    have hc1 : a4.1 + 1 ≤ a4.1 + 1 := Nat.le_refl _
    refine lv_aload_n hx hb dX14_codeStatement_34 rfl (lv_at hl 1 rfl) ?_
    refine mm_get (v := .ref (Ar 29)) hx hb hf_X14 (fun _ h9 => h9) hown hK hG hM.1 rfl 29 (by decide) (tb_use hT tw_1420) (fun _ h9 => h9) (mfs_g29 _ _) dX14_codeStatement_35 ?_
    refine lv_bipush (v := 12) hx hb dX14_codeStatement_38 (by decide) ?_
    refine lv_iload_n hx hb dX14_codeStatement_40 rfl (lv_at hl 0 rfl) ?_
    refine lv_imul hx hb dX14_codeStatement_41 ?_
    refine lv_aload_n hx hb dX14_codeStatement_42 rfl (lv_at hl 1 rfl) ?_
    refine mm_get (v := .ref (Ar 4)) hx hb hf_X14 (fun _ h9 => h9) hown hK hG hM.1 rfl 4 (by decide) (tb_use hT tw_1395) (fun _ h9 => h9) (mfs_g4 _ _) dX14_codeStatement_43 ?_
    refine lv_iload_n hx hb dX14_codeStatement_46 rfl (lv_at hl 0 rfl) ?_
    refine mm_iald (n := 2) (f := F11 4) hx hb hK hG 1 (hM.2.1 4 rfl) rfl (by exact nI_in (N := 2) (by omega) (by decide)) dX14_codeStatement_47 ?_
    refine lv_topi (fun x13 ex13 => ?_)
    rw [show x13 = nI v9.nE by rw [ex13, nI_clamp (by omega)]; exact p12]
    refine lv_iadd hx hb dX14_codeStatement_48 ?_
    refine lv_aload_n hx hb dX14_codeStatement_49 rfl (lv_at hl 1 rfl) ?_
    refine lv_iconst (v := 0) hx hb dX14_codeStatement_50 (by decide) ?_
    refine lv_ldcw hx hb hown (tb_use hT tw_1730) dX14_codeStatement_51 ?_
    refine va_calli (va_runV (As := [.int 0, .int 999999]) (rest := [.int ((12 * (nI bo)) + (nI v9.nE)), .ref (Ar 29)]) ⟨hx, hb, hml, hown, (fun _ h9 => absurd h9 List.not_mem_nil : ∀ w ∈ ([] : List Cond), w.before _ s = true)⟩ (c_M_number l D cy A X hst hXT G9 o Ar I10 F11 L ft sx fr en bo a4 0 999999 0 999999 hM hQ rfl rfl (by decide) (by decide)) (tb_cw (C := RX14) 2 hT tw_1721 tw_109 tw_1718 tw_1720 tw_74 rfl rfl hq_X14_number ⟨Nat.le_of_ble_eq_true rfl, Nat.le_of_ble_eq_true rfl⟩) (mk_preC hst hG hK hA hX hS vc_15 hM.1) rfl rfl hl.1 rfl (lv_room (Nat.le_of_ble_eq_true rfl)) dX14_codeStatement_54 ⟨Nat.le_of_ble_eq_true rfl, Nat.le_of_ble_eq_true rfl⟩) hS (fun q _ h => h) (fun q h => h) (fun r14 G15 t H locs ht hvm hw hB hz1 hk1 hS => ?_)
    have hG : mm D vwCl A G15 H := by rw [← ht]; exact hB
    clear hB hz1 hk1 hvm ht
    obtain ⟨a16, ea16⟩ : ∃ y, y = q_num (tkK ft en) (tkS ft en) (tkV ft en) 0 999999 a4 := ⟨_, rfl⟩
    rw [← ea16] at hw
    obtain ⟨hr14, I17, F18, hM2, hF2, hQ2, hI2, hX2⟩ := hw
    replace hF := hF.tr hF2; replace hM := hM2; clear hM2 hF2
    have hQ := hQ2; have hIZ := (IZ_x hI2).trans hIZ; have hFr := hFr.fx hX2; have hC := hC.fx hI2 hX2
    have p19 : F18 4 (bo) = nI v9.nE := (congrFun (FXe hX2 (by decide)) _).trans p12
    clear hI2 hX2 hQ2
    have ga16 : a4.1 ≤ a16.2.1 := by rw [ea16]; exact ge_num
    have da16 : a16.2.2 < 0 → _ := fun z => ad_num hSn (by rw [← ea16]; exact z)
    rw [← ea16] at da16
    have hc1 : a4.1 + 1 ≤ a16.2.1 + 1 := by omega
    have hc2 : a16.2.2 < 0 → a4.1 + 1 ≤ a16.2.1 := fun z => by have := da16 z; omega
    refine mm_iast (n := mdN 29) (f := F18 29) hx hb hK hG hS 1 (hM.2.1 29 rfl) rfl (by rw [show (((12 * (nI bo)) + (nI v9.nE)) : Int32) = nI (12 * bo + v9.nE) by show (((nI 12 * (nI bo)) + (nI v9.nE)) : Int32) = _; simp only [nI_mu, nI_add]]; exact nI_in (N := mdN 29) (by show _ < 24; omega) (by decide)) dX14_codeStatement_57 (fun H locs hG hS => ?_)
    have hM := MD.seti (k := 29) (upd (F18 29) ((12 * (nI bo)) + (nI v9.nE)).toNatClampNeg r14) hM rfl
    have hF := hF.wa (k := 29) (e' := .inl (cy 1, mdN 29, .inl (upd (F18 29) ((12 * (nI bo)) + (nI v9.nE)).toNatClampNeg r14))) rfl
    obtain ⟨F20, eF20⟩ : ∃ g, g = va_up F18 29 (upd (F18 29) ((12 * (nI bo)) + (nI v9.nE)).toNatClampNeg r14) := ⟨_, rfl⟩
    rw [← eF20] at hM
    have hgn := gn_MD hG hM hF
    clear hG hM hF
    obtain ⟨G21, hG, hM, hF⟩ := hgn
    rw [show (((12 * (nI bo)) + (nI v9.nE)) : Int32) = nI (12 * bo + v9.nE) by show (((nI 12 * (nI bo)) + (nI v9.nE)) : Int32) = _; simp only [nI_mu, nI_add], nI_clamp (by omega)] at eF20
    have p22 : F20 4 (bo) = nI v9.nE := by rw [eF20, va_up_ne _ _ (by decide)]; exact p19
    have p23 : F20 29 (12 * bo + v9.nE) = r14 := by rw [eF20, va_up_self, pk_us]
    have hFr : FrW (wE bo v9.nE) F F20 := by rw [eF20]; exact hFr.up (by unfold wE; omega)
    have hQ : LXq Ar I17 F20 ft sx fr en bo a16.2 := by rw [eF20]; exact hQ.wF (by decide)
    have hC : CLq I17 F20 ft en (clA a4 cl (7, a4.1, v9.nE, 0)) (a4.1 + 1) := by rw [eF20]; exact hC.wF (by decide)
    refine lv_aload_n hx hb dX14_codeStatement_58 rfl (lv_at hl 1 rfl) ?_
    refine lv_bipush (v := 61) hx hb dX14_codeStatement_59 (by decide) ?_
    refine va_callv (va_runV (As := [.int 61]) (rest := []) ⟨hx, hb, hml, hown, (fun _ h9 => absurd h9 List.not_mem_nil : ∀ w ∈ ([] : List Cond), w.before _ s = true)⟩ (c_M_mark l D cy A X hst hXT G21 o Ar I17 F20 L ft sx fr en bo a16.2 8 hM hQ (by decide) (by decide)) (tb_cw (C := RX14) 1 hT tw_1717 tw_109 tw_1714 tw_1716 tw_73 rfl rfl hq_X14_mark ⟨Nat.le_of_ble_eq_true rfl, Nat.le_of_ble_eq_true rfl⟩) (mk_preC hst hG hK hA hX hS vc_15 hM.1) rfl rfl hl.1 rfl (lv_room (Nat.le_of_ble_eq_true rfl)) dX14_codeStatement_61 ⟨Nat.le_of_ble_eq_true rfl, Nat.le_of_ble_eq_true rfl⟩) hS (fun q _ h => h) (fun q h => h) (fun  G24 t H locs ht hvm hw hB hz1 hk1 hS => ?_)
    have hG : mm D vwCl A G24 H := by rw [← ht]; exact hB
    clear hB hz1 hk1 hvm ht
    obtain ⟨a25, ea25⟩ : ∃ y, y = q_take (tkK ft en) (tkS ft en) 8 a16.2 := ⟨_, rfl⟩
    rw [← ea25] at hw
    obtain ⟨I26, F27, hM2, hF2, hQ2, hI2, hX2⟩ := hw
    replace hF := hF.tr hF2; replace hM := hM2; clear hM2 hF2
    have hQ := hQ2; have hIZ := (IZ_x hI2).trans hIZ; have hFr := hFr.fx hX2; have hC := hC.fx hI2 hX2
    have p28 : F27 4 (bo) = nI v9.nE := (congrFun (FXe hX2 (by decide)) _).trans p22
    have p29 : F27 29 (12 * bo + v9.nE) = r14 := (congrFun (FXe hX2 (by decide)) _).trans p23
    clear hI2 hX2 hQ2
    have ga25 : a16.2.1 ≤ a25.1 := by rw [ea25]; exact ge_take
    have da25 : a25.2 < 0 → _ := fun z => ad_take hSn (by rw [← ea25]; exact z)
    rw [← ea25] at da25
    have hc1 : a4.1 + 1 ≤ a25.1 + 1 := by omega
    have hc2 : a25.2 < 0 → a4.1 + 1 ≤ a25.1 := fun z => by have := da25 z; omega
    refine lv_aload_n hx hb dX14_codeStatement_64 rfl (lv_at hl 1 rfl) ?_
    refine mm_get (v := .ref (Ar 30)) hx hb hf_X14 (fun _ h9 => h9) hown hK hG hM.1 rfl 30 (by decide) (tb_use hT tw_1421) (fun _ h9 => h9) (mfs_g30 _ _) dX14_codeStatement_65 ?_
    refine lv_bipush (v := 12) hx hb dX14_codeStatement_68 (by decide) ?_
    refine lv_iload_n hx hb dX14_codeStatement_70 rfl (lv_at hl 0 rfl) ?_
    refine lv_imul hx hb dX14_codeStatement_71 ?_
    refine lv_aload_n hx hb dX14_codeStatement_72 rfl (lv_at hl 1 rfl) ?_
    refine mm_get (v := .ref (Ar 4)) hx hb hf_X14 (fun _ h9 => h9) hown hK hG hM.1 rfl 4 (by decide) (tb_use hT tw_1395) (fun _ h9 => h9) (mfs_g4 _ _) dX14_codeStatement_73 ?_
    refine lv_iload_n hx hb dX14_codeStatement_76 rfl (lv_at hl 0 rfl) ?_
    refine mm_iald (n := 2) (f := F27 4) hx hb hK hG 1 (hM.2.1 4 rfl) rfl (by exact nI_in (N := 2) (by omega) (by decide)) dX14_codeStatement_77 ?_
    refine lv_topi (fun x30 ex30 => ?_)
    rw [show x30 = nI v9.nE by rw [ex30, nI_clamp (by omega)]; exact p28]
    refine lv_iadd hx hb dX14_codeStatement_78 ?_
    refine lv_aload_n hx hb dX14_codeStatement_79 rfl (lv_at hl 1 rfl) ?_
    refine va_calli (va_runV (As := []) (rest := [.int ((12 * (nI bo)) + (nI v9.nE)), .ref (Ar 30)]) ⟨hx, hb, hml, hown, (fun _ h9 => absurd h9 List.not_mem_nil : ∀ w ∈ ([] : List Cond), w.before _ s = true)⟩ (c_M_name l D cy A X hst hXT G24 o Ar I26 F27 L ft sx fr en bo a25 hM hQ) (tb_cw (C := RX14) 0 hT tw_1713 tw_109 tw_1710 tw_1712 tw_72 rfl rfl hq_X14_name ⟨Nat.le_of_ble_eq_true rfl, Nat.le_of_ble_eq_true rfl⟩) (mk_preC hst hG hK hA hX hS vc_15 hM.1) rfl rfl hl.1 rfl (lv_room (Nat.le_of_ble_eq_true rfl)) dX14_codeStatement_80 ⟨Nat.le_of_ble_eq_true rfl, Nat.le_of_ble_eq_true rfl⟩) hS (fun q _ h => h) (fun q h => h) (fun r31 G32 t H locs ht hvm hw hB hz1 hk1 hS => ?_)
    have hG : mm D vwCl A G32 H := by rw [← ht]; exact hB
    clear hB hz1 hk1 hvm ht
    obtain ⟨a33, ea33⟩ : ∃ y, y = q_name (tkK ft en) (tkS ft en) (tkV ft en) a25 := ⟨_, rfl⟩
    rw [← ea33] at hw
    obtain ⟨hr31, I34, F35, hM2, hF2, hQ2, hI2, hX2⟩ := hw
    replace hF := hF.tr hF2; replace hM := hM2; clear hM2 hF2
    have hQ := hQ2; have hIZ := (IZ_x hI2).trans hIZ; have hFr := hFr.fx hX2; have hC := hC.fx hI2 hX2
    have p36 : F35 4 (bo) = nI v9.nE := (congrFun (FXe hX2 (by decide)) _).trans p28
    have p37 : F35 29 (12 * bo + v9.nE) = r14 := (congrFun (FXe hX2 (by decide)) _).trans p29
    clear hI2 hX2 hQ2
    have ga33 : a25.1 ≤ a33.2.1 := by rw [ea33]; exact ge_name
    have da33 : a33.2.2 < 0 → _ := fun z => ad_name hSn (by rw [← ea33]; exact z)
    rw [← ea33] at da33
    have hc1 : a4.1 + 1 ≤ a33.2.1 + 1 := by omega
    have hc2 : a33.2.2 < 0 → a4.1 + 1 ≤ a33.2.1 := fun z => by have := da33 z; omega
    refine mm_iast (n := mdN 30) (f := F35 30) hx hb hK hG hS 1 (hM.2.1 30 rfl) rfl (by rw [show (((12 * (nI bo)) + (nI v9.nE)) : Int32) = nI (12 * bo + v9.nE) by show (((nI 12 * (nI bo)) + (nI v9.nE)) : Int32) = _; simp only [nI_mu, nI_add]]; exact nI_in (N := mdN 30) (by show _ < 24; omega) (by decide)) dX14_codeStatement_83 (fun H locs hG hS => ?_)
    have hM := MD.seti (k := 30) (upd (F35 30) ((12 * (nI bo)) + (nI v9.nE)).toNatClampNeg r31) hM rfl
    have hF := hF.wa (k := 30) (e' := .inl (cy 1, mdN 30, .inl (upd (F35 30) ((12 * (nI bo)) + (nI v9.nE)).toNatClampNeg r31))) rfl
    obtain ⟨F38, eF38⟩ : ∃ g, g = va_up F35 30 (upd (F35 30) ((12 * (nI bo)) + (nI v9.nE)).toNatClampNeg r31) := ⟨_, rfl⟩
    rw [← eF38] at hM
    have hgn := gn_MD hG hM hF
    clear hG hM hF
    obtain ⟨G39, hG, hM, hF⟩ := hgn
    rw [show (((12 * (nI bo)) + (nI v9.nE)) : Int32) = nI (12 * bo + v9.nE) by show (((nI 12 * (nI bo)) + (nI v9.nE)) : Int32) = _; simp only [nI_mu, nI_add], nI_clamp (by omega)] at eF38
    have p40 : F38 4 (bo) = nI v9.nE := by rw [eF38, va_up_ne _ _ (by decide)]; exact p36
    have p41 : F38 29 (12 * bo + v9.nE) = r14 := by rw [eF38, va_up_ne _ _ (by decide)]; exact p37
    have p42 : F38 30 (12 * bo + v9.nE) = r31 := by rw [eF38, va_up_self, pk_us]
    have hFr : FrW (wE bo v9.nE) F F38 := by rw [eF38]; exact hFr.up (by unfold wE; omega)
    have hQ : LXq Ar I34 F38 ft sx fr en bo a33.2 := by rw [eF38]; exact hQ.wF (by decide)
    have hC : CLq I34 F38 ft en (clA a4 cl (7, a4.1, v9.nE, 0)) (a4.1 + 1) := by rw [eF38]; exact hC.wF (by decide)
    refine lv_aload_n hx hb dX14_codeStatement_84 rfl (lv_at hl 1 rfl) ?_
    refine mm_get (v := .ref (Ar 4)) hx hb hf_X14 (fun _ h9 => h9) hown hK hG hM.1 rfl 4 (by decide) (tb_use hT tw_1395) (fun _ h9 => h9) (mfs_g4 _ _) dX14_codeStatement_85 ?_
    refine lv_iload_n hx hb dX14_codeStatement_88 rfl (lv_at hl 0 rfl) ?_
    refine lv_dup2_11 hx hb dX14_codeStatement_89 rfl rfl ?_
    refine mm_iald (n := 2) (f := F38 4) hx hb hK hG 1 (hM.2.1 4 rfl) rfl (by exact nI_in (N := 2) (by omega) (by decide)) dX14_codeStatement_90 ?_
    refine lv_topi (fun x43 ex43 => ?_)
    rw [show x43 = nI v9.nE by rw [ex43, nI_clamp (by omega)]; exact p40]
    refine lv_iconst (v := 1) hx hb dX14_codeStatement_91 (by decide) ?_
    refine lv_iadd hx hb dX14_codeStatement_92 ?_
    rw [show nI v9.nE + 1 = nI (v9.nE + 1) from nI_1 _]
    refine lv_topi (fun x44 ex44 => ?_)
    refine mm_iast (n := mdN 4) (f := F38 4) hx hb hK hG hS 1 (hM.2.1 4 rfl) rfl (by exact nI_in (N := mdN 4) (by show _ < 2; omega) (by decide)) dX14_codeStatement_93 (fun H locs hG hS => ?_)
    have hM := MD.seti (k := 4) (upd (F38 4) (nI bo).toNatClampNeg x44) hM rfl
    have hF := hF.wa (k := 4) (e' := .inl (cy 1, mdN 4, .inl (upd (F38 4) (nI bo).toNatClampNeg x44))) rfl
    obtain ⟨F45, eF45⟩ : ∃ g, g = va_up F38 4 (upd (F38 4) (nI bo).toNatClampNeg x44) := ⟨_, rfl⟩
    rw [← eF45] at hM
    have hgn := gn_MD hG hM hF
    clear hG hM hF
    obtain ⟨G46, hG, hM, hF⟩ := hgn
    rw [nI_clamp (by omega)] at eF45
    have p47 : F45 29 (12 * bo + v9.nE) = r14 := by rw [eF45, va_up_ne _ _ (by decide)]; exact p41
    have p48 : F45 30 (12 * bo + v9.nE) = r31 := by rw [eF45, va_up_ne _ _ (by decide)]; exact p42
    have p49 : F45 4 (bo) = nI (v9.nE + 1) := by rw [eF45, va_up_self, pk_us, ex44]
    have hFr : FrW (wE bo v9.nE) F F45 := by rw [eF45]; exact hFr.up (by unfold wE; omega)
    have hQ : LXq Ar I34 F45 ft sx fr en bo a33.2 := by rw [eF45]; exact hQ.wF (by decide)
    have hC : CLq I34 F45 ft en (clA a4 cl (7, a4.1, v9.nE, 0)) (a4.1 + 1) := by rw [eF45]; exact hC.wF (by decide)
    refine lv_aload_n hx hb dX14_codeStatement_94 rfl (lv_at hl 1 rfl) ?_
    refine lv_bipush (v := 59) hx hb dX14_codeStatement_95 (by decide) ?_
    refine va_callv (va_runV (As := [.int 59]) (rest := []) ⟨hx, hb, hml, hown, (fun _ h9 => absurd h9 List.not_mem_nil : ∀ w ∈ ([] : List Cond), w.before _ s = true)⟩ (c_M_mark l D cy A X hst hXT G46 o Ar I34 F45 L ft sx fr en bo a33.2 6 hM hQ (by decide) (by decide)) (tb_cw (C := RX14) 1 hT tw_1717 tw_109 tw_1714 tw_1716 tw_73 rfl rfl hq_X14_mark ⟨Nat.le_of_ble_eq_true rfl, Nat.le_of_ble_eq_true rfl⟩) (mk_preC hst hG hK hA hX hS vc_15 hM.1) rfl rfl hl.1 rfl (lv_room (Nat.le_of_ble_eq_true rfl)) dX14_codeStatement_97 ⟨Nat.le_of_ble_eq_true rfl, Nat.le_of_ble_eq_true rfl⟩) hS (fun q _ h => h) (fun q h => h) (fun  G50 t H locs ht hvm hw hB hz1 hk1 hS => ?_)
    have hG : mm D vwCl A G50 H := by rw [← ht]; exact hB
    clear hB hz1 hk1 hvm ht
    obtain ⟨a51, ea51⟩ : ∃ y, y = q_take (tkK ft en) (tkS ft en) 6 a33.2 := ⟨_, rfl⟩
    rw [← ea51] at hw
    obtain ⟨I52, F53, hM2, hF2, hQ2, hI2, hX2⟩ := hw
    replace hF := hF.tr hF2; replace hM := hM2; clear hM2 hF2
    have hQ := hQ2; have hIZ := (IZ_x hI2).trans hIZ; have hFr := hFr.fx hX2; have hC := hC.fx hI2 hX2
    have p54 : F53 29 (12 * bo + v9.nE) = r14 := (congrFun (FXe hX2 (by decide)) _).trans p47
    have p55 : F53 30 (12 * bo + v9.nE) = r31 := (congrFun (FXe hX2 (by decide)) _).trans p48
    have p56 : F53 4 (bo) = nI (v9.nE + 1) := (congrFun (FXe hX2 (by decide)) _).trans p49
    clear hI2 hX2 hQ2
    have ga51 : a33.2.1 ≤ a51.1 := by rw [ea51]; exact ge_take
    have da51 : a51.2 < 0 → _ := fun z => ad_take hSn (by rw [← ea51]; exact z)
    rw [← ea51] at da51
    have hc1 : a4.1 + 1 ≤ a51.1 + 1 := by omega
    have hc2 : a51.2 < 0 → a4.1 + 1 ≤ a51.1 := fun z => by have := da51 z; omega
    have hqe : (q_code (tkK ft en) (tkS ft en) (tkV ft en) v9.nE q) = (a51, (a16.1, tkS ft en a4.1, a33.1, tkS ft en a25.1)) := by simp only [q_code, ← ea4, ← ea16, ← ea25, ← ea33, ← ea51]
    exact W.vret hx hb hr (fun t ht hW => ⟨⟨_, rfl, ⟨_, _, _, hM, hF, (by rw [hqe]; exact hQ), hIZ, hFr, (by rw [hqe]; exact hC.le (by (try dsimp only); omega)), (by rw [hqe]; (try dsimp only); omega), (by rw [hqe]; intro z; dsimp only at z ⊢; have ya51 := da51 z; have ya33 := da33 ya51.1; have ya25 := da25 ya33.1; have ya16 := da16 ya25.1; have ya4 := da4 ya16.1; exact ⟨⟨p56, p54.trans (hr14 ya25.1), (hr31.mono (by omega)).cg p55.symm⟩, (by unfold clA; rw [if_pos hb0, (da4 hb0).2.2])⟩)⟩, mk_end hG ht⟩, hS.F ht⟩) hS.2.2 dX14_codeStatement_100
  · skip
    have hb0 : ¬ a4.2 < 0 := of_decide_eq_false (b2i_f (by rw [← hr2]; exact c_17))
    have hqe : (q_code (tkK ft en) (tkS ft en) (tkV ft en) v9.nE q).1 = a4 := by simp only [q_code, ← ea4]; rw [q_num_f hb0, q_take_f hb0, q_name_f hb0, q_take_f hb0]
    exact W.vret hx hb hr (fun t ht hW => ⟨⟨_, rfl, ⟨_, _, _, hM, hF, (by rw [hqe]; exact hQ), hIZ, hFr, (by rw [hqe]; exact hC.le (by (try dsimp only); omega)), (by rw [hqe]; (try dsimp only); omega), (by rw [hqe]; exact fun z => absurd z hb0)⟩, mk_end hG ht⟩, hS.F ht⟩) hS.2.2 dX14_codeStatement_20

set_option maxHeartbeats 4000000 in
set_option maxRecDepth 100000 in
theorem c_M_variSt (l : Launch) (D : va_G) (cy : Nat → ClassId) (A : Nat → Prop) (X : State → Prop) (hst : mk_St A X) (hXT : ∀ U : State, X U → TB U) (G : Nat → Option va_E) (o : Nat) (Ar : Nat → Nat) (Iv : Nat → Int32) (F : Nat → Nat → Int32) (L : Nat → Nat → Int64) (ft : Nat → Int32) (sx fr en bo : Nat) (q : Nat × Int32) (cl : List CLi) (c9 : Nat) (v9 : EdV) (hM : MD cy G o Ar Iv F L) (hQ : LXq Ar Iv F ft sx fr en bo q) (hC : CLq Iv F ft en cl c9) (hc1 : c9 ≤ q.1 + 1) (hkb : q.2 < 0 → tkK ft en q.1 ≠ 2 ∧ tkK ft en q.1 ≠ 3) (hn : F 5 bo = nI v9.nV) (hn9 : v9.nV ≤ 6) : Met l yX14_variantStatement [.code yX14_variantStatement cX14_variantStatement 3 none] ({ frames := 6, cells := 0, slots := 0, locals := 180 }) (mk_Pre D vwCl (tyL cy) A X G [.ref o]) (va_Qv (fun (G2 : Nat → Option va_E) => ∃ (I2 : Nat → Int32) (F2 : Nat → Nat → Int32) (cl2 : List CLi), MD cy G2 o Ar I2 F2 L ∧ MF G G2 o Ar ∧ LXq Ar I2 F2 ft sx fr en bo (q_vari (tkK ft en) (tkS ft en) (tkV ft en) v9.nV q).1 ∧ IZ I2 = IZ Iv ∧ FrW (wV bo v9.nV) F F2 ∧ CLq I2 F2 ft en cl2 ((q_vari (tkK ft en) (tkS ft en) (tkV ft en) v9.nV q).1.1 + 1) ∧ q.1 ≤ (q_vari (tkK ft en) (tkS ft en) (tkV ft en) v9.nV q).1.1 ∧ ((q_vari (tkK ft en) (tkS ft en) (tkV ft en) v9.nV q).1.2 < 0 → (F2 5 bo = nI (v9.nV + 1) ∧ F2 32 (6 * bo + v9.nV) = (q_vari (tkK ft en) (tkS ft en) (tkV ft en) v9.nV q).2.1 ∧ NMt (tkK ft en) (tkV ft en) ((q_vari (tkK ft en) (tkS ft en) (tkV ft en) v9.nV q).1.1 + 1) (F2 31 (6 * bo + v9.nV)) (q_vari (tkK ft en) (tkS ft en) (tkV ft en) v9.nV q).2.2.2.1) ∧ cl2 = cl ++ [(12, q.1 + 1, v9.nV, 0), (8, q.1 + 3, v9.nV, 0)])) (mk_B D vwCl A) A) 0 0 A := by
  refine Met.ofW (cc := cX14_variantStatement) (maxL := 3) (ret := none) (by decide) rfl ?_
  intro p e s m args below meth c s₁ B hml hv
  obtain ⟨rfl, hG, hK, hA, hX⟩ := hv
  have hx := B.exec
  have hb := B.bytes
  have hr := B.returns
  have hlocks := B.notSynchronized
  have hT := hXT s hX
  have hown : s.vm.findClass RX14 = some m.cls := findClass_of_methodNamed B.named
  have hf_X14 : ∀ w ∈ u_ws RX14 TX14 76, w.before ([.ref o] : List Value).toArray s = true := tb_list hT fX14
  have hS : va_S A s.heap s.heap [] := va_S.rf
  have hl := lv_entry ([.ref o]) (n := 3) (Nat.le_of_ble_eq_true rfl)
  rw [lg_entry_eq]
  generalize (lg_sl ([.ref o]) ++ List.replicate (3 - (lg_sl ([.ref o])).length) Slot.unset).toArray = ls at hl ⊢
  have hl : lv_has ls 3 [(0, .ref o)] := hl
  have hF : MF G G o Ar := MF.rf
  have hIZ : IZ Iv = IZ Iv := rfl
  have hSn : ∀ p, ¬ tkS ft en p < 0 := fun p => tkS_ge hQ.1.2.2.2.1 p
  have hbo := hQ.1.2.2.2.2.2.1
  have hbl := hQ.1.2.2.2.2.1
  have hFr : FrW (wV bo v9.nV) F F := FrW.rf
  refine lv_aload_n hx hb dX14_variantStatement_0 rfl (lv_at hl 0 rfl) ?_
  refine mm_get (v := .int (Iv 41)) hx hb hf_X14 (fun _ h9 => h9) hown hK hG hM.1 rfl 41 (by decide) (tb_use hT tw_1432) (fun _ h9 => h9) (mfs_g41 _ _) dX14_variantStatement_1 ?_
  rw [hbo]
  refine lv_istore_n (lv' := [(1, .int (nI bo)), (0, .ref o)]) hx hb dX14_variantStatement_4 rfl hl (by decide) rfl (fun ls hl => ?_)
  refine lv_aload_n hx hb dX14_variantStatement_5 rfl (lv_at hl 1 rfl) ?_
  refine lv_aload_n hx hb dX14_variantStatement_6 rfl (lv_at hl 1 rfl) ?_
  refine mm_get (v := .ref (Ar 5)) hx hb hf_X14 (fun _ h9 => h9) hown hK hG hM.1 rfl 5 (by decide) (tb_use hT tw_1396) (fun _ h9 => h9) (mfs_g5 _ _) dX14_variantStatement_7 ?_
  refine lv_iload_n hx hb dX14_variantStatement_10 rfl (lv_at hl 0 rfl) ?_
  refine mm_iald (n := 2) (f := F 5) hx hb hK hG 1 (hM.2.1 5 rfl) rfl (by exact nI_in (N := 2) (by omega) (by decide)) dX14_variantStatement_11 ?_
  refine lv_topi (fun x1 ex1 => ?_)
  rw [show x1 = nI v9.nV by rw [ex1, nI_clamp (by omega)]; exact hn]
  refine lv_bipush (v := 6) hx hb dX14_variantStatement_12 (by decide) ?_
  refine va_calli (va_runV (As := [.int (nI v9.nV), .int 6]) (rest := []) ⟨hx, hb, hml, hown, (fun _ h9 => absurd h9 List.not_mem_nil : ∀ w ∈ ([] : List Cond), w.before _ s = true)⟩ (c_M_begins l D cy A X hst hXT G o Ar Iv F L ft sx fr en bo q (nI v9.nV) 6 hM hQ hkb) (tb_cw (C := RX14) 2 hT tw_1701 tw_109 tw_1698 tw_1700 tw_69 rfl rfl hq_X14_begins ⟨Nat.le_of_ble_eq_true rfl, Nat.le_of_ble_eq_true rfl⟩) (mk_preC hst hG hK hA hX hS vc_15 hM.1) rfl rfl hl.1 rfl (lv_room (Nat.le_of_ble_eq_true rfl)) dX14_variantStatement_14 ⟨Nat.le_of_ble_eq_true rfl, Nat.le_of_ble_eq_true rfl⟩) hS (fun q _ h => h) (fun q h => h) (fun r2 G3 t H locs ht hvm hw hB hz1 hk1 hS => ?_)
  have hG : mm D vwCl A G3 H := by rw [← ht]; exact hB
  clear hB hz1 hk1 hvm ht
  obtain ⟨a4, ea4⟩ : ∃ y, y = q_begin (tkS ft en) (nI v9.nV) 6 q := ⟨_, rfl⟩
  rw [← ea4] at hw
  obtain ⟨hr2, I5, F6, hM2, hF2, hQ2, hI2, hX2⟩ := hw
  replace hF := hF.tr hF2; replace hM := hM2; clear hM2 hF2
  have hQ := hQ2; have hIZ := (IZ_x hI2).trans hIZ; have hFr := hFr.fx hX2; have hC := hC.fx hI2 hX2
  have p7 : F6 5 (bo) = nI v9.nV := (congrFun (FXe hX2 (by decide)) _).trans hn
  clear hI2 hX2 hQ2
  have ga4 : q.1 ≤ a4.1 := by rw [ea4]; exact ge_begin
  have da4 : a4.2 < 0 → _ := fun z => ad_begin hSn (by rw [← ea4]; exact z)
  rw [← ea4] at da4
  have hc1 : c9 ≤ a4.1 + 1 := by omega
  have hc2 : a4.2 < 0 → c9 ≤ a4.1 := fun z => by have := da4 z; omega
  refine lv_if_ne (tgt := 21) hx hb dX14_variantStatement_17 (by decide) (fun c_17 => ?_) (fun c_17 => ?_)
  · skip
    have hb0 : a4.2 < 0 := of_decide_eq_true (b2i_t (by rw [← hr2]; exact c_17))
    have hlim : v9.nV < 6 := nI_lt_of (by omega) (by decide) (Int32.not_le.mpr (da4 hb0).2.1)
    refine lv_aload_n hx hb dX14_variantStatement_21 rfl (lv_at hl 1 rfl) ?_
    refine mm_get (v := .ref (Ar 5)) hx hb hf_X14 (fun _ h9 => h9) hown hK hG hM.1 rfl 5 (by decide) (tb_use hT tw_1396) (fun _ h9 => h9) (mfs_g5 _ _) dX14_variantStatement_22 ?_
    refine lv_iload_n hx hb dX14_variantStatement_25 rfl (lv_at hl 0 rfl) ?_
    refine mm_iald (n := 2) (f := F6 5) hx hb hK hG 1 (hM.2.1 5 rfl) rfl (by exact nI_in (N := 2) (by omega) (by decide)) dX14_variantStatement_26 ?_
    refine lv_topi (fun x8 ex8 => ?_)
    rw [show x8 = nI v9.nV by rw [ex8, nI_clamp (by omega)]; exact p7]
    refine lv_istore_n (lv' := [(2, .int (nI v9.nV)), (1, .int (nI bo)), (0, .ref o)]) hx hb dX14_variantStatement_27 rfl hl (by decide) rfl (fun ls hl => ?_)
    refine lv_aload_n hx hb dX14_variantStatement_28 rfl (lv_at hl 2 rfl) ?_
    refine lv_bipush (v := 12) hx hb dX14_variantStatement_29 (by decide) ?_
    refine lv_iload_n hx hb dX14_variantStatement_31 rfl (lv_at hl 0 rfl) ?_
    refine lv_iconst (v := 0) hx hb dX14_variantStatement_32 (by decide) ?_
    refine va_callv (va_runV (As := [.int 12, .int (nI v9.nV), .int 0]) (rest := []) ⟨hx, hb, hml, hown, (fun _ h9 => absurd h9 List.not_mem_nil : ∀ w ∈ ([] : List Cond), w.before _ s = true)⟩ (c_M_claimq l D cy A X hst hXT G3 o Ar I5 F6 L ft sx fr en bo a4 cl c9 12 v9.nV 0 hM hQ hC hc1 hc2) (tb_cw (C := RX14) 3 hT tw_1709 tw_109 tw_1706 tw_1708 tw_71 rfl rfl hq_X14_claim ⟨Nat.le_of_ble_eq_true rfl, Nat.le_of_ble_eq_true rfl⟩) (mk_preC hst hG hK hA hX hS vc_15 hM.1) rfl rfl hl.1 rfl (lv_room (Nat.le_of_ble_eq_true rfl)) dX14_variantStatement_33 ⟨Nat.le_of_ble_eq_true rfl, Nat.le_of_ble_eq_true rfl⟩) hS (fun q _ h => h) (fun q h => h) (fun  G9 t H locs ht hvm hw hB hz1 hk1 hS => ?_)
    have hG : mm D vwCl A G9 H := by rw [← ht]; exact hB
    clear hB hz1 hk1 hvm ht
    obtain ⟨I10, F11, hM2, hF2, hQ2, hC2, hI2, hX2⟩ := hw
    replace hF := hF.tr hF2; replace hM := hM2; clear hM2 hF2
    have hQ := hQ2; have hC := hC2; have hIZ := hI2.trans hIZ
    have hFr : FrW (wV bo v9.nV) F F11 := fun j i h1 h2 => (congrFun (hX2 j (fun z => h1 (by unfold lxA; omega))) i).trans (hFr j i h1 h2)
    have p12 : F11 5 (bo) = nI v9.nV := (congrFun (hX2 5 (by decide)) _).trans p7
    clear hI2 hX2 hQ2 hC2
    have hc1 : a4.1 + 1 ≤ a4.1 + 1 := Nat.le_refl _
    refine lv_aload_n hx hb dX14_variantStatement_36 rfl (lv_at hl 2 rfl) ?_
    refine mm_get (v := .ref (Ar 31)) hx hb hf_X14 (fun _ h9 => h9) hown hK hG hM.1 rfl 31 (by decide) (tb_use hT tw_1422) (fun _ h9 => h9) (mfs_g31 _ _) dX14_variantStatement_37 ?_
    refine lv_bipush (v := 6) hx hb dX14_variantStatement_40 (by decide) ?_
    refine lv_iload_n hx hb dX14_variantStatement_42 rfl (lv_at hl 1 rfl) ?_
    refine lv_imul hx hb dX14_variantStatement_43 ?_
    refine lv_iload_n hx hb dX14_variantStatement_44 rfl (lv_at hl 0 rfl) ?_
    refine lv_iadd hx hb dX14_variantStatement_45 ?_
    refine lv_aload_n hx hb dX14_variantStatement_46 rfl (lv_at hl 2 rfl) ?_
    refine va_calli (va_runV (As := []) (rest := [.int ((6 * (nI bo)) + (nI v9.nV)), .ref (Ar 31)]) ⟨hx, hb, hml, hown, (fun _ h9 => absurd h9 List.not_mem_nil : ∀ w ∈ ([] : List Cond), w.before _ s = true)⟩ (c_M_name l D cy A X hst hXT G9 o Ar I10 F11 L ft sx fr en bo a4 hM hQ) (tb_cw (C := RX14) 0 hT tw_1713 tw_109 tw_1710 tw_1712 tw_72 rfl rfl hq_X14_name ⟨Nat.le_of_ble_eq_true rfl, Nat.le_of_ble_eq_true rfl⟩) (mk_preC hst hG hK hA hX hS vc_15 hM.1) rfl rfl hl.1 rfl (lv_room (Nat.le_of_ble_eq_true rfl)) dX14_variantStatement_47 ⟨Nat.le_of_ble_eq_true rfl, Nat.le_of_ble_eq_true rfl⟩) hS (fun q _ h => h) (fun q h => h) (fun r13 G14 t H locs ht hvm hw hB hz1 hk1 hS => ?_)
    have hG : mm D vwCl A G14 H := by rw [← ht]; exact hB
    clear hB hz1 hk1 hvm ht
    obtain ⟨a15, ea15⟩ : ∃ y, y = q_name (tkK ft en) (tkS ft en) (tkV ft en) a4 := ⟨_, rfl⟩
    rw [← ea15] at hw
    obtain ⟨hr13, I16, F17, hM2, hF2, hQ2, hI2, hX2⟩ := hw
    replace hF := hF.tr hF2; replace hM := hM2; clear hM2 hF2
    have hQ := hQ2; have hIZ := (IZ_x hI2).trans hIZ; have hFr := hFr.fx hX2; have hC := hC.fx hI2 hX2
    have p18 : F17 5 (bo) = nI v9.nV := (congrFun (FXe hX2 (by decide)) _).trans p12
    clear hI2 hX2 hQ2
    have ga15 : a4.1 ≤ a15.2.1 := by rw [ea15]; exact ge_name
    have da15 : a15.2.2 < 0 → _ := fun z => ad_name hSn (by rw [← ea15]; exact z)
    rw [← ea15] at da15
    have hc1 : a4.1 + 1 ≤ a15.2.1 + 1 := by omega
    have hc2 : a15.2.2 < 0 → a4.1 + 1 ≤ a15.2.1 := fun z => by have := da15 z; omega
    refine mm_iast (n := mdN 31) (f := F17 31) hx hb hK hG hS 1 (hM.2.1 31 rfl) rfl (by rw [show (((6 * (nI bo)) + (nI v9.nV)) : Int32) = nI (6 * bo + v9.nV) by show (((nI 6 * (nI bo)) + (nI v9.nV)) : Int32) = _; simp only [nI_mu, nI_add]]; exact nI_in (N := mdN 31) (by show _ < 12; omega) (by decide)) dX14_variantStatement_50 (fun H locs hG hS => ?_)
    have hM := MD.seti (k := 31) (upd (F17 31) ((6 * (nI bo)) + (nI v9.nV)).toNatClampNeg r13) hM rfl
    have hF := hF.wa (k := 31) (e' := .inl (cy 1, mdN 31, .inl (upd (F17 31) ((6 * (nI bo)) + (nI v9.nV)).toNatClampNeg r13))) rfl
    obtain ⟨F19, eF19⟩ : ∃ g, g = va_up F17 31 (upd (F17 31) ((6 * (nI bo)) + (nI v9.nV)).toNatClampNeg r13) := ⟨_, rfl⟩
    rw [← eF19] at hM
    have hgn := gn_MD hG hM hF
    clear hG hM hF
    obtain ⟨G20, hG, hM, hF⟩ := hgn
    rw [show (((6 * (nI bo)) + (nI v9.nV)) : Int32) = nI (6 * bo + v9.nV) by show (((nI 6 * (nI bo)) + (nI v9.nV)) : Int32) = _; simp only [nI_mu, nI_add], nI_clamp (by omega)] at eF19
    have p21 : F19 5 (bo) = nI v9.nV := by rw [eF19, va_up_ne _ _ (by decide)]; exact p18
    have p22 : F19 31 (6 * bo + v9.nV) = r13 := by rw [eF19, va_up_self, pk_us]
    have hFr : FrW (wV bo v9.nV) F F19 := by rw [eF19]; exact hFr.up (by unfold wV; omega)
    have hQ : LXq Ar I16 F19 ft sx fr en bo a15.2 := by rw [eF19]; exact hQ.wF (by decide)
    have hC : CLq I16 F19 ft en (clA a4 cl (12, a4.1, v9.nV, 0)) (a4.1 + 1) := by rw [eF19]; exact hC.wF (by decide)
    refine lv_aload_n hx hb dX14_variantStatement_51 rfl (lv_at hl 2 rfl) ?_
    refine mm_get (v := .ref (Ar 5)) hx hb hf_X14 (fun _ h9 => h9) hown hK hG hM.1 rfl 5 (by decide) (tb_use hT tw_1396) (fun _ h9 => h9) (mfs_g5 _ _) dX14_variantStatement_52 ?_
    refine lv_iload_n hx hb dX14_variantStatement_55 rfl (lv_at hl 1 rfl) ?_
    refine lv_dup2_11 hx hb dX14_variantStatement_56 rfl rfl ?_
    refine mm_iald (n := 2) (f := F19 5) hx hb hK hG 1 (hM.2.1 5 rfl) rfl (by exact nI_in (N := 2) (by omega) (by decide)) dX14_variantStatement_57 ?_
    refine lv_topi (fun x23 ex23 => ?_)
    rw [show x23 = nI v9.nV by rw [ex23, nI_clamp (by omega)]; exact p21]
    refine lv_iconst (v := 1) hx hb dX14_variantStatement_58 (by decide) ?_
    refine lv_iadd hx hb dX14_variantStatement_59 ?_
    rw [show nI v9.nV + 1 = nI (v9.nV + 1) from nI_1 _]
    refine lv_topi (fun x24 ex24 => ?_)
    refine mm_iast (n := mdN 5) (f := F19 5) hx hb hK hG hS 1 (hM.2.1 5 rfl) rfl (by exact nI_in (N := mdN 5) (by show _ < 2; omega) (by decide)) dX14_variantStatement_60 (fun H locs hG hS => ?_)
    have hM := MD.seti (k := 5) (upd (F19 5) (nI bo).toNatClampNeg x24) hM rfl
    have hF := hF.wa (k := 5) (e' := .inl (cy 1, mdN 5, .inl (upd (F19 5) (nI bo).toNatClampNeg x24))) rfl
    obtain ⟨F25, eF25⟩ : ∃ g, g = va_up F19 5 (upd (F19 5) (nI bo).toNatClampNeg x24) := ⟨_, rfl⟩
    rw [← eF25] at hM
    have hgn := gn_MD hG hM hF
    clear hG hM hF
    obtain ⟨G26, hG, hM, hF⟩ := hgn
    rw [nI_clamp (by omega)] at eF25
    have p27 : F25 31 (6 * bo + v9.nV) = r13 := by rw [eF25, va_up_ne _ _ (by decide)]; exact p22
    have p28 : F25 5 (bo) = nI (v9.nV + 1) := by rw [eF25, va_up_self, pk_us, ex24]
    have hFr : FrW (wV bo v9.nV) F F25 := by rw [eF25]; exact hFr.up (by unfold wV; omega)
    have hQ : LXq Ar I16 F25 ft sx fr en bo a15.2 := by rw [eF25]; exact hQ.wF (by decide)
    have hC : CLq I16 F25 ft en (clA a4 cl (12, a4.1, v9.nV, 0)) (a4.1 + 1) := by rw [eF25]; exact hC.wF (by decide)
    refine lv_aload_n hx hb dX14_variantStatement_61 rfl (lv_at hl 2 rfl) ?_
    refine lv_bipush (v := 61) hx hb dX14_variantStatement_62 (by decide) ?_
    refine va_callv (va_runV (As := [.int 61]) (rest := []) ⟨hx, hb, hml, hown, (fun _ h9 => absurd h9 List.not_mem_nil : ∀ w ∈ ([] : List Cond), w.before _ s = true)⟩ (c_M_mark l D cy A X hst hXT G26 o Ar I16 F25 L ft sx fr en bo a15.2 8 hM hQ (by decide) (by decide)) (tb_cw (C := RX14) 1 hT tw_1717 tw_109 tw_1714 tw_1716 tw_73 rfl rfl hq_X14_mark ⟨Nat.le_of_ble_eq_true rfl, Nat.le_of_ble_eq_true rfl⟩) (mk_preC hst hG hK hA hX hS vc_15 hM.1) rfl rfl hl.1 rfl (lv_room (Nat.le_of_ble_eq_true rfl)) dX14_variantStatement_64 ⟨Nat.le_of_ble_eq_true rfl, Nat.le_of_ble_eq_true rfl⟩) hS (fun q _ h => h) (fun q h => h) (fun  G29 t H locs ht hvm hw hB hz1 hk1 hS => ?_)
    have hG : mm D vwCl A G29 H := by rw [← ht]; exact hB
    clear hB hz1 hk1 hvm ht
    obtain ⟨a30, ea30⟩ : ∃ y, y = q_take (tkK ft en) (tkS ft en) 8 a15.2 := ⟨_, rfl⟩
    rw [← ea30] at hw
    obtain ⟨I31, F32, hM2, hF2, hQ2, hI2, hX2⟩ := hw
    replace hF := hF.tr hF2; replace hM := hM2; clear hM2 hF2
    have hQ := hQ2; have hIZ := (IZ_x hI2).trans hIZ; have hFr := hFr.fx hX2; have hC := hC.fx hI2 hX2
    have p33 : F32 31 (6 * bo + v9.nV) = r13 := (congrFun (FXe hX2 (by decide)) _).trans p27
    have p34 : F32 5 (bo) = nI (v9.nV + 1) := (congrFun (FXe hX2 (by decide)) _).trans p28
    clear hI2 hX2 hQ2
    have ga30 : a15.2.1 ≤ a30.1 := by rw [ea30]; exact ge_take
    have da30 : a30.2 < 0 → _ := fun z => ad_take hSn (by rw [← ea30]; exact z)
    rw [← ea30] at da30
    have hc1 : a4.1 + 1 ≤ a30.1 + 1 := by omega
    have hc2 : a30.2 < 0 → a4.1 + 1 ≤ a30.1 := fun z => by have := da30 z; omega
    refine lv_aload_n hx hb dX14_variantStatement_67 rfl (lv_at hl 2 rfl) ?_
    refine lv_bipush (v := 8) hx hb dX14_variantStatement_68 (by decide) ?_
    refine lv_iload_n hx hb dX14_variantStatement_70 rfl (lv_at hl 0 rfl) ?_
    refine lv_iconst (v := 0) hx hb dX14_variantStatement_71 (by decide) ?_
    refine va_callv (va_runV (As := [.int 8, .int (nI v9.nV), .int 0]) (rest := []) ⟨hx, hb, hml, hown, (fun _ h9 => absurd h9 List.not_mem_nil : ∀ w ∈ ([] : List Cond), w.before _ s = true)⟩ (c_M_claimq l D cy A X hst hXT G29 o Ar I31 F32 L ft sx fr en bo a30 (clA a4 cl (12, a4.1, v9.nV, 0)) (a4.1 + 1) 8 v9.nV 0 hM hQ hC hc1 hc2) (tb_cw (C := RX14) 3 hT tw_1709 tw_109 tw_1706 tw_1708 tw_71 rfl rfl hq_X14_claim ⟨Nat.le_of_ble_eq_true rfl, Nat.le_of_ble_eq_true rfl⟩) (mk_preC hst hG hK hA hX hS vc_15 hM.1) rfl rfl hl.1 rfl (lv_room (Nat.le_of_ble_eq_true rfl)) dX14_variantStatement_72 ⟨Nat.le_of_ble_eq_true rfl, Nat.le_of_ble_eq_true rfl⟩) hS (fun q _ h => h) (fun q h => h) (fun  G35 t H locs ht hvm hw hB hz1 hk1 hS => ?_)
    have hG : mm D vwCl A G35 H := by rw [← ht]; exact hB
    clear hB hz1 hk1 hvm ht
    obtain ⟨I36, F37, hM2, hF2, hQ2, hC2, hI2, hX2⟩ := hw
    replace hF := hF.tr hF2; replace hM := hM2; clear hM2 hF2
    have hQ := hQ2; have hC := hC2; have hIZ := hI2.trans hIZ
    have hFr : FrW (wV bo v9.nV) F F37 := fun j i h1 h2 => (congrFun (hX2 j (fun z => h1 (by unfold lxA; omega))) i).trans (hFr j i h1 h2)
    have p38 : F37 31 (6 * bo + v9.nV) = r13 := (congrFun (hX2 31 (by decide)) _).trans p33
    have p39 : F37 5 (bo) = nI (v9.nV + 1) := (congrFun (hX2 5 (by decide)) _).trans p34
    clear hI2 hX2 hQ2 hC2
    have hc1 : a30.1 + 1 ≤ a30.1 + 1 := Nat.le_refl _
    refine lv_aload_n hx hb dX14_variantStatement_75 rfl (lv_at hl 2 rfl) ?_
    refine mm_get (v := .ref (Ar 32)) hx hb hf_X14 (fun _ h9 => h9) hown hK hG hM.1 rfl 32 (by decide) (tb_use hT tw_1423) (fun _ h9 => h9) (mfs_g32 _ _) dX14_variantStatement_76 ?_
    refine lv_bipush (v := 6) hx hb dX14_variantStatement_79 (by decide) ?_
    refine lv_iload_n hx hb dX14_variantStatement_81 rfl (lv_at hl 1 rfl) ?_
    refine lv_imul hx hb dX14_variantStatement_82 ?_
    refine lv_iload_n hx hb dX14_variantStatement_83 rfl (lv_at hl 0 rfl) ?_
    refine lv_iadd hx hb dX14_variantStatement_84 ?_
    refine lv_aload_n hx hb dX14_variantStatement_85 rfl (lv_at hl 2 rfl) ?_
    refine lv_iconst (v := 0) hx hb dX14_variantStatement_86 (by decide) ?_
    refine lv_ldcw hx hb hown (tb_use hT tw_1730) dX14_variantStatement_87 ?_
    refine va_calli (va_runV (As := [.int 0, .int 999999]) (rest := [.int ((6 * (nI bo)) + (nI v9.nV)), .ref (Ar 32)]) ⟨hx, hb, hml, hown, (fun _ h9 => absurd h9 List.not_mem_nil : ∀ w ∈ ([] : List Cond), w.before _ s = true)⟩ (c_M_number l D cy A X hst hXT G35 o Ar I36 F37 L ft sx fr en bo a30 0 999999 0 999999 hM hQ rfl rfl (by decide) (by decide)) (tb_cw (C := RX14) 2 hT tw_1721 tw_109 tw_1718 tw_1720 tw_74 rfl rfl hq_X14_number ⟨Nat.le_of_ble_eq_true rfl, Nat.le_of_ble_eq_true rfl⟩) (mk_preC hst hG hK hA hX hS vc_15 hM.1) rfl rfl hl.1 rfl (lv_room (Nat.le_of_ble_eq_true rfl)) dX14_variantStatement_90 ⟨Nat.le_of_ble_eq_true rfl, Nat.le_of_ble_eq_true rfl⟩) hS (fun q _ h => h) (fun q h => h) (fun r40 G41 t H locs ht hvm hw hB hz1 hk1 hS => ?_)
    have hG : mm D vwCl A G41 H := by rw [← ht]; exact hB
    clear hB hz1 hk1 hvm ht
    obtain ⟨a42, ea42⟩ : ∃ y, y = q_num (tkK ft en) (tkS ft en) (tkV ft en) 0 999999 a30 := ⟨_, rfl⟩
    rw [← ea42] at hw
    obtain ⟨hr40, I43, F44, hM2, hF2, hQ2, hI2, hX2⟩ := hw
    replace hF := hF.tr hF2; replace hM := hM2; clear hM2 hF2
    have hQ := hQ2; have hIZ := (IZ_x hI2).trans hIZ; have hFr := hFr.fx hX2; have hC := hC.fx hI2 hX2
    have p45 : F44 31 (6 * bo + v9.nV) = r13 := (congrFun (FXe hX2 (by decide)) _).trans p38
    have p46 : F44 5 (bo) = nI (v9.nV + 1) := (congrFun (FXe hX2 (by decide)) _).trans p39
    clear hI2 hX2 hQ2
    have ga42 : a30.1 ≤ a42.2.1 := by rw [ea42]; exact ge_num
    have da42 : a42.2.2 < 0 → _ := fun z => ad_num hSn (by rw [← ea42]; exact z)
    rw [← ea42] at da42
    have hc1 : a30.1 + 1 ≤ a42.2.1 + 1 := by omega
    have hc2 : a42.2.2 < 0 → a30.1 + 1 ≤ a42.2.1 := fun z => by have := da42 z; omega
    refine mm_iast (n := mdN 32) (f := F44 32) hx hb hK hG hS 1 (hM.2.1 32 rfl) rfl (by rw [show (((6 * (nI bo)) + (nI v9.nV)) : Int32) = nI (6 * bo + v9.nV) by show (((nI 6 * (nI bo)) + (nI v9.nV)) : Int32) = _; simp only [nI_mu, nI_add]]; exact nI_in (N := mdN 32) (by show _ < 12; omega) (by decide)) dX14_variantStatement_93 (fun H locs hG hS => ?_)
    have hM := MD.seti (k := 32) (upd (F44 32) ((6 * (nI bo)) + (nI v9.nV)).toNatClampNeg r40) hM rfl
    have hF := hF.wa (k := 32) (e' := .inl (cy 1, mdN 32, .inl (upd (F44 32) ((6 * (nI bo)) + (nI v9.nV)).toNatClampNeg r40))) rfl
    obtain ⟨F47, eF47⟩ : ∃ g, g = va_up F44 32 (upd (F44 32) ((6 * (nI bo)) + (nI v9.nV)).toNatClampNeg r40) := ⟨_, rfl⟩
    rw [← eF47] at hM
    have hgn := gn_MD hG hM hF
    clear hG hM hF
    obtain ⟨G48, hG, hM, hF⟩ := hgn
    rw [show (((6 * (nI bo)) + (nI v9.nV)) : Int32) = nI (6 * bo + v9.nV) by show (((nI 6 * (nI bo)) + (nI v9.nV)) : Int32) = _; simp only [nI_mu, nI_add], nI_clamp (by omega)] at eF47
    have p49 : F47 31 (6 * bo + v9.nV) = r13 := by rw [eF47, va_up_ne _ _ (by decide)]; exact p45
    have p50 : F47 5 (bo) = nI (v9.nV + 1) := by rw [eF47, va_up_ne _ _ (by decide)]; exact p46
    have p51 : F47 32 (6 * bo + v9.nV) = r40 := by rw [eF47, va_up_self, pk_us]
    have hFr : FrW (wV bo v9.nV) F F47 := by rw [eF47]; exact hFr.up (by unfold wV; omega)
    have hQ : LXq Ar I43 F47 ft sx fr en bo a42.2 := by rw [eF47]; exact hQ.wF (by decide)
    have hC : CLq I43 F47 ft en (clA a30 (clA a4 cl (12, a4.1, v9.nV, 0)) (8, a30.1, v9.nV, 0)) (a30.1 + 1) := by rw [eF47]; exact hC.wF (by decide)
    refine lv_aload_n hx hb dX14_variantStatement_94 rfl (lv_at hl 2 rfl) ?_
    refine lv_bipush (v := 59) hx hb dX14_variantStatement_95 (by decide) ?_
    refine va_callv (va_runV (As := [.int 59]) (rest := []) ⟨hx, hb, hml, hown, (fun _ h9 => absurd h9 List.not_mem_nil : ∀ w ∈ ([] : List Cond), w.before _ s = true)⟩ (c_M_mark l D cy A X hst hXT G48 o Ar I43 F47 L ft sx fr en bo a42.2 6 hM hQ (by decide) (by decide)) (tb_cw (C := RX14) 1 hT tw_1717 tw_109 tw_1714 tw_1716 tw_73 rfl rfl hq_X14_mark ⟨Nat.le_of_ble_eq_true rfl, Nat.le_of_ble_eq_true rfl⟩) (mk_preC hst hG hK hA hX hS vc_15 hM.1) rfl rfl hl.1 rfl (lv_room (Nat.le_of_ble_eq_true rfl)) dX14_variantStatement_97 ⟨Nat.le_of_ble_eq_true rfl, Nat.le_of_ble_eq_true rfl⟩) hS (fun q _ h => h) (fun q h => h) (fun  G52 t H locs ht hvm hw hB hz1 hk1 hS => ?_)
    have hG : mm D vwCl A G52 H := by rw [← ht]; exact hB
    clear hB hz1 hk1 hvm ht
    obtain ⟨a53, ea53⟩ : ∃ y, y = q_take (tkK ft en) (tkS ft en) 6 a42.2 := ⟨_, rfl⟩
    rw [← ea53] at hw
    obtain ⟨I54, F55, hM2, hF2, hQ2, hI2, hX2⟩ := hw
    replace hF := hF.tr hF2; replace hM := hM2; clear hM2 hF2
    have hQ := hQ2; have hIZ := (IZ_x hI2).trans hIZ; have hFr := hFr.fx hX2; have hC := hC.fx hI2 hX2
    have p56 : F55 31 (6 * bo + v9.nV) = r13 := (congrFun (FXe hX2 (by decide)) _).trans p49
    have p57 : F55 5 (bo) = nI (v9.nV + 1) := (congrFun (FXe hX2 (by decide)) _).trans p50
    have p58 : F55 32 (6 * bo + v9.nV) = r40 := (congrFun (FXe hX2 (by decide)) _).trans p51
    clear hI2 hX2 hQ2
    have ga53 : a42.2.1 ≤ a53.1 := by rw [ea53]; exact ge_take
    have da53 : a53.2 < 0 → _ := fun z => ad_take hSn (by rw [← ea53]; exact z)
    rw [← ea53] at da53
    have hc1 : a30.1 + 1 ≤ a53.1 + 1 := by omega
    have hc2 : a53.2 < 0 → a30.1 + 1 ≤ a53.1 := fun z => by have := da53 z; omega
    have hqe : (q_vari (tkK ft en) (tkS ft en) (tkV ft en) v9.nV q) = (a53, (a42.1, tkS ft en a30.1, a15.1, tkS ft en a4.1)) := by simp only [q_vari, ← ea4, ← ea15, ← ea30, ← ea42, ← ea53]
    exact W.vret hx hb hr (fun t ht hW => ⟨⟨_, rfl, ⟨_, _, _, hM, hF, (by rw [hqe]; exact hQ), hIZ, hFr, (by rw [hqe]; exact hC.le (by (try dsimp only); omega)), (by rw [hqe]; (try dsimp only); omega), (by rw [hqe]; intro z; dsimp only at z ⊢; have ya53 := da53 z; have ya42 := da42 ya53.1; have ya30 := da30 ya42.1; have ya15 := da15 ya30.1; have ya4 := da4 ya15.1; exact ⟨⟨p57, p58.trans (hr40 ya53.1), (hr13.mono (by omega)).cg p56.symm⟩, (by unfold clA; rw [if_pos hb0, if_pos ya42.1, (da4 hb0).2.2, show a30.1 = q.1 + 3 by omega, List.append_assoc]; rfl)⟩)⟩, mk_end hG ht⟩, hS.F ht⟩) hS.2.2 dX14_variantStatement_100
  · skip
    have hb0 : ¬ a4.2 < 0 := of_decide_eq_false (b2i_f (by rw [← hr2]; exact c_17))
    have hqe : (q_vari (tkK ft en) (tkS ft en) (tkV ft en) v9.nV q).1 = a4 := by simp only [q_vari, ← ea4]; rw [q_name_f hb0, q_take_f hb0, q_num_f hb0, q_take_f hb0]
    exact W.vret hx hb hr (fun t ht hW => ⟨⟨_, rfl, ⟨_, _, _, hM, hF, (by rw [hqe]; exact hQ), hIZ, hFr, (by rw [hqe]; exact hC.le (by (try dsimp only); omega)), (by rw [hqe]; (try dsimp only); omega), (by rw [hqe]; exact fun z => absurd z hb0)⟩, mk_end hG ht⟩, hS.F ht⟩) hS.2.2 dX14_variantStatement_20
