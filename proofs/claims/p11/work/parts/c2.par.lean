theorem ad_next {S : Nat → Int32} (_hS : ∀ p, ¬ S p < 0) {q : Nat × Int32} (h : (q.1 + 1, q.2).2 < 0) : q.2 < 0 ∧ True ∧ (q.1 + 1, q.2).1 = q.1 + 1 := ⟨h, trivial, rfl⟩
theorem ge_next {q : Nat × Int32} : q.1 ≤ (q.1 + 1, q.2).1 := Nat.le_succ _
def wP (bo sv j : Nat) : Nat → Nat → Prop := fun k i => (k = 23 ∧ i = 16 * bo + sv) ∨ (24 ≤ k ∧ k ≤ 28 ∧ j < 8 ∧ i = 128 * bo + (8 * sv + j))

/-- a parameter's row of the book -/
def PRf (K : Nat → Nat) (V : Nat → Int64) (n : Nat) (F : Nat → Nat → Int32) (i : Nat) (d : PrD) : Prop := NMt K V n (F 24 i) d.2.1 ∧ NMt K V n (F 25 i) d.2.2.1 ∧ F 26 i = d.2.2.2.2.1 ∧ NMt K V n (F 27 i) d.2.2.2.2.2.1 ∧ F 28 i = d.2.2.2.2.2.2.2
/-- a parameter's claims; t: the token param -/
def clP (sv j t : Nat) (k : Int32) : List CLi := if k = 0 then [(5, t + 1, sv, j), (10, t + 3, 8 * sv + j, 0)] else [(5, t + 1, sv, j), (10, t + 3, 8 * sv + j, 0), (11, t + 5, sv, 8 * sv + j)]

set_option maxHeartbeats 4000000 in
set_option maxRecDepth 100000 in
theorem c_M_parSt (l : Launch) (D : va_G) (cy : Nat → ClassId) (A : Nat → Prop) (X : State → Prop) (hst : mk_St A X) (hXT : ∀ U : State, X U → TB U) (G : Nat → Option va_E) (o : Nat) (Ar : Nat → Nat) (Iv : Nat → Int32) (F : Nat → Nat → Int32) (L : Nat → Nat → Int64) (ft : Nat → Int32) (sx fr en bo : Nat) (q : Nat × Int32) (cl : List CLi) (c9 : Nat) (s9 j9 : Nat) (hM : MD cy G o Ar Iv F L) (hQ : LXq Ar Iv F ft sx fr en bo q) (hC : CLq Iv F ft en cl c9) (hc1 : c9 ≤ q.1 + 1) (hkb : q.2 < 0 → tkK ft en q.1 ≠ 2 ∧ tkK ft en q.1 ≠ 3) (hs9 : s9 < 16) (hn : F 23 (16 * bo + s9) = nI j9) (hn9 : j9 ≤ 8) : Met l yX14_paramStatement [.code yX14_paramStatement cX14_paramStatement 4 none] ({ frames := 6, cells := 0, slots := 0, locals := 180 }) (mk_Pre D vwCl (tyL cy) A X G [.ref o, .int (nI s9)]) (va_Qv (fun (G2 : Nat → Option va_E) => ∃ (I2 : Nat → Int32) (F2 : Nat → Nat → Int32) (cl2 : List CLi), MD cy G2 o Ar I2 F2 L ∧ MF G G2 o Ar ∧ LXq Ar I2 F2 ft sx fr en bo (q_par (tkK ft en) (tkS ft en) (tkV ft en) j9 q).1 ∧ IZ I2 = IZ Iv ∧ FrW (wP bo s9 j9) F F2 ∧ CLq I2 F2 ft en cl2 ((q_par (tkK ft en) (tkS ft en) (tkV ft en) j9 q).1.1 + 1) ∧ q.1 ≤ (q_par (tkK ft en) (tkS ft en) (tkV ft en) j9 q).1.1 ∧ ((q_par (tkK ft en) (tkS ft en) (tkV ft en) j9 q).1.2 < 0 → (j9 < 8 ∧ F2 23 (16 * bo + s9) = nI (j9 + 1) ∧ PRf (tkK ft en) (tkV ft en) ((q_par (tkK ft en) (tkS ft en) (tkV ft en) j9 q).1.1 + 1) F2 (128 * bo + (8 * s9 + j9)) (q_par (tkK ft en) (tkS ft en) (tkV ft en) j9 q).2) ∧ cl2 = cl ++ clP s9 j9 q.1 (q_par (tkK ft en) (tkS ft en) (tkV ft en) j9 q).2.2.2.2.2.1)) (mk_B D vwCl A) A) 0 0 A := by
  refine Met.ofW (cc := cX14_paramStatement) (maxL := 4) (ret := none) (by decide) rfl ?_
  intro p e s m args below meth c s₁ B hml hv
  obtain ⟨rfl, hG, hK, hA, hX⟩ := hv
  have hx := B.exec
  have hb := B.bytes
  have hr := B.returns
  have hlocks := B.notSynchronized
  have hT := hXT s hX
  have hown : s.vm.findClass RX14 = some m.cls := findClass_of_methodNamed B.named
  have hf_X14 : ∀ w ∈ u_ws RX14 TX14 76, w.before ([.ref o, .int (nI s9)] : List Value).toArray s = true := tb_list hT fX14
  have hS : va_S A s.heap s.heap [] := va_S.rf
  have hl := lv_entry ([.ref o, .int (nI s9)]) (n := 4) (Nat.le_of_ble_eq_true rfl)
  rw [lg_entry_eq]
  generalize (lg_sl ([.ref o, .int (nI s9)]) ++ List.replicate (4 - (lg_sl ([.ref o, .int (nI s9)])).length) Slot.unset).toArray = ls at hl ⊢
  have hl : lv_has ls 4 [(0, .ref o), (1, .int (nI s9))] := hl
  have hF : MF G G o Ar := MF.rf
  have hIZ : IZ Iv = IZ Iv := rfl
  have hSn : ∀ p, ¬ tkS ft en p < 0 := fun p => tkS_ge hQ.1.2.2.2.1 p
  have hbo := hQ.1.2.2.2.2.2.1
  have hbl := hQ.1.2.2.2.2.1
  have hFr : FrW (wP bo s9 j9) F F := FrW.rf
  refine lv_aload_n hx hb dX14_paramStatement_0 rfl (lv_at hl 0 rfl) ?_
  refine mm_get (v := .int (Iv 41)) hx hb hf_X14 (fun _ h9 => h9) hown hK hG hM.1 rfl 41 (by decide) (tb_use hT tw_1432) (fun _ h9 => h9) (mfs_g41 _ _) dX14_paramStatement_1 ?_
  rw [hbo]
  refine lv_istore_n (lv' := [(2, .int (nI bo)), (0, .ref o), (1, .int (nI s9))]) hx hb dX14_paramStatement_4 rfl hl (by decide) rfl (fun ls hl => ?_)
  refine lv_aload_n hx hb dX14_paramStatement_5 rfl (lv_at hl 1 rfl) ?_
  refine lv_aload_n hx hb dX14_paramStatement_6 rfl (lv_at hl 1 rfl) ?_
  refine mm_get (v := .ref (Ar 23)) hx hb hf_X14 (fun _ h9 => h9) hown hK hG hM.1 rfl 23 (by decide) (tb_use hT tw_1414) (fun _ h9 => h9) (mfs_g23 _ _) dX14_paramStatement_7 ?_
  refine lv_bipush (v := 16) hx hb dX14_paramStatement_10 (by decide) ?_
  refine lv_iload_n hx hb dX14_paramStatement_12 rfl (lv_at hl 0 rfl) ?_
  refine lv_imul hx hb dX14_paramStatement_13 ?_
  refine lv_iload_n hx hb dX14_paramStatement_14 rfl (lv_at hl 2 rfl) ?_
  refine lv_iadd hx hb dX14_paramStatement_15 ?_
  refine mm_iald (n := 32) (f := F 23) hx hb hK hG 1 (hM.2.1 23 rfl) rfl (by rw [show (((16 * (nI bo)) + (nI s9)) : Int32) = nI (16 * bo + s9) by show (((nI 16 * (nI bo)) + (nI s9)) : Int32) = _; simp only [nI_mu, nI_add]]; exact nI_in (N := 32) (by omega) (by decide)) dX14_paramStatement_16 ?_
  refine lv_topi (fun x1 ex1 => ?_)
  rw [show x1 = nI j9 by rw [ex1, show (((16 * (nI bo)) + (nI s9)) : Int32) = nI (16 * bo + s9) by show (((nI 16 * (nI bo)) + (nI s9)) : Int32) = _; simp only [nI_mu, nI_add], nI_clamp (by omega)]; exact hn]
  refine lv_bipush (v := 8) hx hb dX14_paramStatement_17 (by decide) ?_
  refine va_calli (va_runV (As := [.int (nI j9), .int 8]) (rest := []) ⟨hx, hb, hml, hown, (fun _ h9 => absurd h9 List.not_mem_nil : ∀ w ∈ ([] : List Cond), w.before _ s = true)⟩ (c_M_begins l D cy A X hst hXT G o Ar Iv F L ft sx fr en bo q (nI j9) 8 hM hQ hkb) (tb_cw (C := RX14) 2 hT tw_1701 tw_109 tw_1698 tw_1700 tw_69 rfl rfl hq_X14_begins ⟨Nat.le_of_ble_eq_true rfl, Nat.le_of_ble_eq_true rfl⟩) (mk_preC hst hG hK hA hX hS vc_15 hM.1) rfl rfl hl.1 rfl (lv_room (Nat.le_of_ble_eq_true rfl)) dX14_paramStatement_19 ⟨Nat.le_of_ble_eq_true rfl, Nat.le_of_ble_eq_true rfl⟩) hS (fun q _ h => h) (fun q h => h) (fun r2 G3 t H locs ht hvm hw hB hz1 hk1 hS => ?_)
  have hG : mm D vwCl A G3 H := by rw [← ht]; exact hB
  clear hB hz1 hk1 hvm ht
  obtain ⟨a4, ea4⟩ : ∃ y, y = q_begin (tkS ft en) (nI j9) 8 q := ⟨_, rfl⟩
  rw [← ea4] at hw
  obtain ⟨hr2, I5, F6, hM2, hF2, hQ2, hI2, hX2⟩ := hw
  replace hF := hF.tr hF2; replace hM := hM2; clear hM2 hF2
  have hQ := hQ2; have hIZ := (IZ_x hI2).trans hIZ; have hFr := hFr.fx hX2; have hC := hC.fx hI2 hX2
  have p7 : F6 23 (16 * bo + s9) = nI j9 := (congrFun (FXe hX2 (by decide)) _).trans hn
  clear hI2 hX2 hQ2
  have ga4 : q.1 ≤ a4.1 := by rw [ea4]; exact ge_begin
  have da4 : a4.2 < 0 → _ := fun z => ad_begin hSn (by rw [← ea4]; exact z)
  rw [← ea4] at da4
  have hc1 : c9 ≤ a4.1 + 1 := by omega
  have hc2 : a4.2 < 0 → c9 ≤ a4.1 := fun z => by have := da4 z; omega
  refine lv_if_ne (tgt := 26) hx hb dX14_paramStatement_22 (by decide) (fun c_22 => ?_) (fun c_22 => ?_)
  · skip
    have hb0 : a4.2 < 0 := of_decide_eq_true (b2i_t (by rw [← hr2]; exact c_22))
    have hlim : j9 < 8 := nI_lt_of (by omega) (by decide) (Int32.not_le.mpr (da4 hb0).2.1)
    refine lv_bipush (v := 8) hx hb dX14_paramStatement_26 (by decide) ?_
    refine lv_iload_n hx hb dX14_paramStatement_28 rfl (lv_at hl 2 rfl) ?_
    refine lv_imul hx hb dX14_paramStatement_29 ?_
    refine lv_aload_n hx hb dX14_paramStatement_30 rfl (lv_at hl 1 rfl) ?_
    refine mm_get (v := .ref (Ar 23)) hx hb hf_X14 (fun _ h9 => h9) hown hK hG hM.1 rfl 23 (by decide) (tb_use hT tw_1414) (fun _ h9 => h9) (mfs_g23 _ _) dX14_paramStatement_31 ?_
    refine lv_bipush (v := 16) hx hb dX14_paramStatement_34 (by decide) ?_
    refine lv_iload_n hx hb dX14_paramStatement_36 rfl (lv_at hl 0 rfl) ?_
    refine lv_imul hx hb dX14_paramStatement_37 ?_
    refine lv_iload_n hx hb dX14_paramStatement_38 rfl (lv_at hl 2 rfl) ?_
    refine lv_iadd hx hb dX14_paramStatement_39 ?_
    refine mm_iald (n := 32) (f := F6 23) hx hb hK hG 1 (hM.2.1 23 rfl) rfl (by rw [show (((16 * (nI bo)) + (nI s9)) : Int32) = nI (16 * bo + s9) by show (((nI 16 * (nI bo)) + (nI s9)) : Int32) = _; simp only [nI_mu, nI_add]]; exact nI_in (N := 32) (by omega) (by decide)) dX14_paramStatement_40 ?_
    refine lv_topi (fun x8 ex8 => ?_)
    rw [show x8 = nI j9 by rw [ex8, show (((16 * (nI bo)) + (nI s9)) : Int32) = nI (16 * bo + s9) by show (((nI 16 * (nI bo)) + (nI s9)) : Int32) = _; simp only [nI_mu, nI_add], nI_clamp (by omega)]; exact p7]
    refine lv_iadd hx hb dX14_paramStatement_41 ?_
    rw [show (((8 * (nI s9)) + (nI j9)) : Int32) = nI (8 * s9 + j9) by show (((nI 8 * (nI s9)) + (nI j9)) : Int32) = _; simp only [nI_mu, nI_add]]
    refine lv_istore_n (lv' := [(3, .int (nI (8 * s9 + j9))), (2, .int (nI bo)), (0, .ref o), (1, .int (nI s9))]) hx hb dX14_paramStatement_42 rfl hl (by decide) rfl (fun ls hl => ?_)
    refine lv_aload_n hx hb dX14_paramStatement_43 rfl (lv_at hl 2 rfl) ?_
    refine lv_iconst (v := 5) hx hb dX14_paramStatement_44 (by decide) ?_
    refine lv_iload_n hx hb dX14_paramStatement_45 rfl (lv_at hl 3 rfl) ?_
    refine lv_aload_n hx hb dX14_paramStatement_46 rfl (lv_at hl 2 rfl) ?_
    refine mm_get (v := .ref (Ar 23)) hx hb hf_X14 (fun _ h9 => h9) hown hK hG hM.1 rfl 23 (by decide) (tb_use hT tw_1414) (fun _ h9 => h9) (mfs_g23 _ _) dX14_paramStatement_47 ?_
    refine lv_bipush (v := 16) hx hb dX14_paramStatement_50 (by decide) ?_
    refine lv_iload_n hx hb dX14_paramStatement_52 rfl (lv_at hl 1 rfl) ?_
    refine lv_imul hx hb dX14_paramStatement_53 ?_
    refine lv_iload_n hx hb dX14_paramStatement_54 rfl (lv_at hl 3 rfl) ?_
    refine lv_iadd hx hb dX14_paramStatement_55 ?_
    refine mm_iald (n := 32) (f := F6 23) hx hb hK hG 1 (hM.2.1 23 rfl) rfl (by rw [show (((16 * (nI bo)) + (nI s9)) : Int32) = nI (16 * bo + s9) by show (((nI 16 * (nI bo)) + (nI s9)) : Int32) = _; simp only [nI_mu, nI_add]]; exact nI_in (N := 32) (by omega) (by decide)) dX14_paramStatement_56 ?_
    refine lv_topi (fun x9 ex9 => ?_)
    rw [show x9 = nI j9 by rw [ex9, show (((16 * (nI bo)) + (nI s9)) : Int32) = nI (16 * bo + s9) by show (((nI 16 * (nI bo)) + (nI s9)) : Int32) = _; simp only [nI_mu, nI_add], nI_clamp (by omega)]; exact p7]
    refine va_callv (va_runV (As := [.int 5, .int (nI s9), .int (nI j9)]) (rest := []) ⟨hx, hb, hml, hown, (fun _ h9 => absurd h9 List.not_mem_nil : ∀ w ∈ ([] : List Cond), w.before _ s = true)⟩ (c_M_claimq l D cy A X hst hXT G3 o Ar I5 F6 L ft sx fr en bo a4 cl c9 5 s9 j9 hM hQ hC hc1 hc2) (tb_cw (C := RX14) 3 hT tw_1709 tw_109 tw_1706 tw_1708 tw_71 rfl rfl hq_X14_claim ⟨Nat.le_of_ble_eq_true rfl, Nat.le_of_ble_eq_true rfl⟩) (mk_preC hst hG hK hA hX hS vc_15 hM.1) rfl rfl hl.1 rfl (lv_room (Nat.le_of_ble_eq_true rfl)) dX14_paramStatement_57 ⟨Nat.le_of_ble_eq_true rfl, Nat.le_of_ble_eq_true rfl⟩) hS (fun q _ h => h) (fun q h => h) (fun  G10 t H locs ht hvm hw hB hz1 hk1 hS => ?_)
    have hG : mm D vwCl A G10 H := by rw [← ht]; exact hB
    clear hB hz1 hk1 hvm ht
    obtain ⟨I11, F12, hM2, hF2, hQ2, hC2, hI2, hX2⟩ := hw
    replace hF := hF.tr hF2; replace hM := hM2; clear hM2 hF2
    have hQ := hQ2; have hC := hC2; have hIZ := hI2.trans hIZ
    have hFr : FrW (wP bo s9 j9) F F12 := fun j i h1 h2 => (congrFun (hX2 j (fun z => h1 (by unfold lxA; omega))) i).trans (hFr j i h1 h2)
    have p13 : F12 23 (16 * bo + s9) = nI j9 := (congrFun (hX2 23 (by decide)) _).trans p7
    clear hI2 hX2 hQ2 hC2
    have hc1 : a4.1 + 1 ≤ a4.1 + 1 := Nat.le_refl _
    refine lv_aload_n hx hb dX14_paramStatement_60 rfl (lv_at hl 2 rfl) ?_
    refine mm_get (v := .ref (Ar 24)) hx hb hf_X14 (fun _ h9 => h9) hown hK hG hM.1 rfl 24 (by decide) (tb_use hT tw_1415) (fun _ h9 => h9) (mfs_g24 _ _) dX14_paramStatement_61 ?_
    refine lv_sipush (v := 128) hx hb dX14_paramStatement_64 (by decide) ?_
    refine lv_iload_n hx hb dX14_paramStatement_67 rfl (lv_at hl 1 rfl) ?_
    refine lv_imul hx hb dX14_paramStatement_68 ?_
    refine lv_iload_n hx hb dX14_paramStatement_69 rfl (lv_at hl 0 rfl) ?_
    refine lv_iadd hx hb dX14_paramStatement_70 ?_
    refine lv_aload_n hx hb dX14_paramStatement_71 rfl (lv_at hl 2 rfl) ?_
    refine va_calli (va_runV (As := []) (rest := [.int ((128 * (nI bo)) + (nI (8 * s9 + j9))), .ref (Ar 24)]) ⟨hx, hb, hml, hown, (fun _ h9 => absurd h9 List.not_mem_nil : ∀ w ∈ ([] : List Cond), w.before _ s = true)⟩ (c_M_name l D cy A X hst hXT G10 o Ar I11 F12 L ft sx fr en bo a4 hM hQ) (tb_cw (C := RX14) 0 hT tw_1713 tw_109 tw_1710 tw_1712 tw_72 rfl rfl hq_X14_name ⟨Nat.le_of_ble_eq_true rfl, Nat.le_of_ble_eq_true rfl⟩) (mk_preC hst hG hK hA hX hS vc_15 hM.1) rfl rfl hl.1 rfl (lv_room (Nat.le_of_ble_eq_true rfl)) dX14_paramStatement_72 ⟨Nat.le_of_ble_eq_true rfl, Nat.le_of_ble_eq_true rfl⟩) hS (fun q _ h => h) (fun q h => h) (fun r14 G15 t H locs ht hvm hw hB hz1 hk1 hS => ?_)
    have hG : mm D vwCl A G15 H := by rw [← ht]; exact hB
    clear hB hz1 hk1 hvm ht
    obtain ⟨a16, ea16⟩ : ∃ y, y = q_name (tkK ft en) (tkS ft en) (tkV ft en) a4 := ⟨_, rfl⟩
    rw [← ea16] at hw
    obtain ⟨hr14, I17, F18, hM2, hF2, hQ2, hI2, hX2⟩ := hw
    replace hF := hF.tr hF2; replace hM := hM2; clear hM2 hF2
    have hQ := hQ2; have hIZ := (IZ_x hI2).trans hIZ; have hFr := hFr.fx hX2; have hC := hC.fx hI2 hX2
    have p19 : F18 23 (16 * bo + s9) = nI j9 := (congrFun (FXe hX2 (by decide)) _).trans p13
    clear hI2 hX2 hQ2
    have ga16 : a4.1 ≤ a16.2.1 := by rw [ea16]; exact ge_name
    have da16 : a16.2.2 < 0 → _ := fun z => ad_name hSn (by rw [← ea16]; exact z)
    rw [← ea16] at da16
    have hc1 : a4.1 + 1 ≤ a16.2.1 + 1 := by omega
    have hc2 : a16.2.2 < 0 → a4.1 + 1 ≤ a16.2.1 := fun z => by have := da16 z; omega
    refine mm_iast (n := mdN 24) (f := F18 24) hx hb hK hG hS 1 (hM.2.1 24 rfl) rfl (by rw [show (((128 * (nI bo)) + (nI (8 * s9 + j9))) : Int32) = nI (128 * bo + (8 * s9 + j9)) by show (((nI 128 * (nI bo)) + (nI (8 * s9 + j9))) : Int32) = _; simp only [nI_mu, nI_add]]; exact nI_in (N := mdN 24) (by show _ < 256; omega) (by decide)) dX14_paramStatement_75 (fun H locs hG hS => ?_)
    have hM := MD.seti (k := 24) (upd (F18 24) ((128 * (nI bo)) + (nI (8 * s9 + j9))).toNatClampNeg r14) hM rfl
    have hF := hF.wa (k := 24) (e' := .inl (cy 1, mdN 24, .inl (upd (F18 24) ((128 * (nI bo)) + (nI (8 * s9 + j9))).toNatClampNeg r14))) rfl
    obtain ⟨F20, eF20⟩ : ∃ g, g = va_up F18 24 (upd (F18 24) ((128 * (nI bo)) + (nI (8 * s9 + j9))).toNatClampNeg r14) := ⟨_, rfl⟩
    rw [← eF20] at hM
    have hgn := gn_MD hG hM hF
    clear hG hM hF
    obtain ⟨G21, hG, hM, hF⟩ := hgn
    rw [show (((128 * (nI bo)) + (nI (8 * s9 + j9))) : Int32) = nI (128 * bo + (8 * s9 + j9)) by show (((nI 128 * (nI bo)) + (nI (8 * s9 + j9))) : Int32) = _; simp only [nI_mu, nI_add], nI_clamp (by omega)] at eF20
    have p22 : F20 23 (16 * bo + s9) = nI j9 := by rw [eF20, va_up_ne _ _ (by decide)]; exact p19
    have p23 : F20 24 (128 * bo + (8 * s9 + j9)) = r14 := by rw [eF20, va_up_self, pk_us]
    have hFr : FrW (wP bo s9 j9) F F20 := by rw [eF20]; exact hFr.up (by unfold wP; omega)
    have hQ : LXq Ar I17 F20 ft sx fr en bo a16.2 := by rw [eF20]; exact hQ.wF (by decide)
    have hC : CLq I17 F20 ft en (clA a4 cl (5, a4.1, s9, j9)) (a4.1 + 1) := by rw [eF20]; exact hC.wF (by decide)
    refine lv_aload_n hx hb dX14_paramStatement_76 rfl (lv_at hl 2 rfl) ?_
    refine mm_get (v := .ref (Ar 26)) hx hb hf_X14 (fun _ h9 => h9) hown hK hG hM.1 rfl 26 (by decide) (tb_use hT tw_1417) (fun _ h9 => h9) (mfs_g26 _ _) dX14_paramStatement_77 ?_
    refine lv_sipush (v := 128) hx hb dX14_paramStatement_80 (by decide) ?_
    refine lv_iload_n hx hb dX14_paramStatement_83 rfl (lv_at hl 1 rfl) ?_
    refine lv_imul hx hb dX14_paramStatement_84 ?_
    refine lv_iload_n hx hb dX14_paramStatement_85 rfl (lv_at hl 0 rfl) ?_
    refine lv_iadd hx hb dX14_paramStatement_86 ?_
    refine lv_iconst (v := 0) hx hb dX14_paramStatement_87 (by decide) ?_
    refine mm_iast (n := mdN 26) (f := F20 26) hx hb hK hG hS 1 (hM.2.1 26 rfl) rfl (by rw [show (((128 * (nI bo)) + (nI (8 * s9 + j9))) : Int32) = nI (128 * bo + (8 * s9 + j9)) by show (((nI 128 * (nI bo)) + (nI (8 * s9 + j9))) : Int32) = _; simp only [nI_mu, nI_add]]; exact nI_in (N := mdN 26) (by show _ < 256; omega) (by decide)) dX14_paramStatement_88 (fun H locs hG hS => ?_)
    have hM := MD.seti (k := 26) (upd (F20 26) ((128 * (nI bo)) + (nI (8 * s9 + j9))).toNatClampNeg 0) hM rfl
    have hF := hF.wa (k := 26) (e' := .inl (cy 1, mdN 26, .inl (upd (F20 26) ((128 * (nI bo)) + (nI (8 * s9 + j9))).toNatClampNeg 0))) rfl
    obtain ⟨F24, eF24⟩ : ∃ g, g = va_up F20 26 (upd (F20 26) ((128 * (nI bo)) + (nI (8 * s9 + j9))).toNatClampNeg 0) := ⟨_, rfl⟩
    rw [← eF24] at hM
    have hgn := gn_MD hG hM hF
    clear hG hM hF
    obtain ⟨G25, hG, hM, hF⟩ := hgn
    rw [show (((128 * (nI bo)) + (nI (8 * s9 + j9))) : Int32) = nI (128 * bo + (8 * s9 + j9)) by show (((nI 128 * (nI bo)) + (nI (8 * s9 + j9))) : Int32) = _; simp only [nI_mu, nI_add], nI_clamp (by omega)] at eF24
    have p26 : F24 23 (16 * bo + s9) = nI j9 := by rw [eF24, va_up_ne _ _ (by decide)]; exact p22
    have p27 : F24 24 (128 * bo + (8 * s9 + j9)) = r14 := by rw [eF24, va_up_ne _ _ (by decide)]; exact p23
    have p28 : F24 26 (128 * bo + (8 * s9 + j9)) = 0 := by rw [eF24, va_up_self, pk_us]
    have hFr : FrW (wP bo s9 j9) F F24 := by rw [eF24]; exact hFr.up (by unfold wP; omega)
    have hQ : LXq Ar I17 F24 ft sx fr en bo a16.2 := by rw [eF24]; exact hQ.wF (by decide)
    have hC : CLq I17 F24 ft en (clA a4 cl (5, a4.1, s9, j9)) (a4.1 + 1) := by rw [eF24]; exact hC.wF (by decide)
    refine lv_aload_n hx hb dX14_paramStatement_89 rfl (lv_at hl 2 rfl) ?_
    refine mm_get (v := .ref (Ar 27)) hx hb hf_X14 (fun _ h9 => h9) hown hK hG hM.1 rfl 27 (by decide) (tb_use hT tw_1418) (fun _ h9 => h9) (mfs_g27 _ _) dX14_paramStatement_90 ?_
    refine lv_sipush (v := 128) hx hb dX14_paramStatement_93 (by decide) ?_
    refine lv_iload_n hx hb dX14_paramStatement_96 rfl (lv_at hl 1 rfl) ?_
    refine lv_imul hx hb dX14_paramStatement_97 ?_
    refine lv_iload_n hx hb dX14_paramStatement_98 rfl (lv_at hl 0 rfl) ?_
    refine lv_iadd hx hb dX14_paramStatement_99 ?_
    refine lv_iconst (v := 0) hx hb dX14_paramStatement_100 (by decide) ?_
    refine mm_iast (n := mdN 27) (f := F24 27) hx hb hK hG hS 1 (hM.2.1 27 rfl) rfl (by rw [show (((128 * (nI bo)) + (nI (8 * s9 + j9))) : Int32) = nI (128 * bo + (8 * s9 + j9)) by show (((nI 128 * (nI bo)) + (nI (8 * s9 + j9))) : Int32) = _; simp only [nI_mu, nI_add]]; exact nI_in (N := mdN 27) (by show _ < 256; omega) (by decide)) dX14_paramStatement_101 (fun H locs hG hS => ?_)
    have hM := MD.seti (k := 27) (upd (F24 27) ((128 * (nI bo)) + (nI (8 * s9 + j9))).toNatClampNeg 0) hM rfl
    have hF := hF.wa (k := 27) (e' := .inl (cy 1, mdN 27, .inl (upd (F24 27) ((128 * (nI bo)) + (nI (8 * s9 + j9))).toNatClampNeg 0))) rfl
    obtain ⟨F29, eF29⟩ : ∃ g, g = va_up F24 27 (upd (F24 27) ((128 * (nI bo)) + (nI (8 * s9 + j9))).toNatClampNeg 0) := ⟨_, rfl⟩
    rw [← eF29] at hM
    have hgn := gn_MD hG hM hF
    clear hG hM hF
    obtain ⟨G30, hG, hM, hF⟩ := hgn
    rw [show (((128 * (nI bo)) + (nI (8 * s9 + j9))) : Int32) = nI (128 * bo + (8 * s9 + j9)) by show (((nI 128 * (nI bo)) + (nI (8 * s9 + j9))) : Int32) = _; simp only [nI_mu, nI_add], nI_clamp (by omega)] at eF29
    have p31 : F29 23 (16 * bo + s9) = nI j9 := by rw [eF29, va_up_ne _ _ (by decide)]; exact p26
    have p32 : F29 24 (128 * bo + (8 * s9 + j9)) = r14 := by rw [eF29, va_up_ne _ _ (by decide)]; exact p27
    have p33 : F29 26 (128 * bo + (8 * s9 + j9)) = 0 := by rw [eF29, va_up_ne _ _ (by decide)]; exact p28
    have p34 : F29 27 (128 * bo + (8 * s9 + j9)) = 0 := by rw [eF29, va_up_self, pk_us]
    have hFr : FrW (wP bo s9 j9) F F29 := by rw [eF29]; exact hFr.up (by unfold wP; omega)
    have hQ : LXq Ar I17 F29 ft sx fr en bo a16.2 := by rw [eF29]; exact hQ.wF (by decide)
    have hC : CLq I17 F29 ft en (clA a4 cl (5, a4.1, s9, j9)) (a4.1 + 1) := by rw [eF29]; exact hC.wF (by decide)
    refine lv_aload_n hx hb dX14_paramStatement_102 rfl (lv_at hl 2 rfl) ?_
    refine mm_get (v := .ref (Ar 28)) hx hb hf_X14 (fun _ h9 => h9) hown hK hG hM.1 rfl 28 (by decide) (tb_use hT tw_1419) (fun _ h9 => h9) (mfs_g28 _ _) dX14_paramStatement_103 ?_
    refine lv_sipush (v := 128) hx hb dX14_paramStatement_106 (by decide) ?_
    refine lv_iload_n hx hb dX14_paramStatement_109 rfl (lv_at hl 1 rfl) ?_
    refine lv_imul hx hb dX14_paramStatement_110 ?_
    refine lv_iload_n hx hb dX14_paramStatement_111 rfl (lv_at hl 0 rfl) ?_
    refine lv_iadd hx hb dX14_paramStatement_112 ?_
    refine lv_iconst (v := 0) hx hb dX14_paramStatement_113 (by decide) ?_
    refine mm_iast (n := mdN 28) (f := F29 28) hx hb hK hG hS 1 (hM.2.1 28 rfl) rfl (by rw [show (((128 * (nI bo)) + (nI (8 * s9 + j9))) : Int32) = nI (128 * bo + (8 * s9 + j9)) by show (((nI 128 * (nI bo)) + (nI (8 * s9 + j9))) : Int32) = _; simp only [nI_mu, nI_add]]; exact nI_in (N := mdN 28) (by show _ < 256; omega) (by decide)) dX14_paramStatement_114 (fun H locs hG hS => ?_)
    have hM := MD.seti (k := 28) (upd (F29 28) ((128 * (nI bo)) + (nI (8 * s9 + j9))).toNatClampNeg 0) hM rfl
    have hF := hF.wa (k := 28) (e' := .inl (cy 1, mdN 28, .inl (upd (F29 28) ((128 * (nI bo)) + (nI (8 * s9 + j9))).toNatClampNeg 0))) rfl
    obtain ⟨F35, eF35⟩ : ∃ g, g = va_up F29 28 (upd (F29 28) ((128 * (nI bo)) + (nI (8 * s9 + j9))).toNatClampNeg 0) := ⟨_, rfl⟩
    rw [← eF35] at hM
    have hgn := gn_MD hG hM hF
    clear hG hM hF
    obtain ⟨G36, hG, hM, hF⟩ := hgn
    rw [show (((128 * (nI bo)) + (nI (8 * s9 + j9))) : Int32) = nI (128 * bo + (8 * s9 + j9)) by show (((nI 128 * (nI bo)) + (nI (8 * s9 + j9))) : Int32) = _; simp only [nI_mu, nI_add], nI_clamp (by omega)] at eF35
    have p37 : F35 23 (16 * bo + s9) = nI j9 := by rw [eF35, va_up_ne _ _ (by decide)]; exact p31
    have p38 : F35 24 (128 * bo + (8 * s9 + j9)) = r14 := by rw [eF35, va_up_ne _ _ (by decide)]; exact p32
    have p39 : F35 26 (128 * bo + (8 * s9 + j9)) = 0 := by rw [eF35, va_up_ne _ _ (by decide)]; exact p33
    have p40 : F35 27 (128 * bo + (8 * s9 + j9)) = 0 := by rw [eF35, va_up_ne _ _ (by decide)]; exact p34
    have p41 : F35 28 (128 * bo + (8 * s9 + j9)) = 0 := by rw [eF35, va_up_self, pk_us]
    have hFr : FrW (wP bo s9 j9) F F35 := by rw [eF35]; exact hFr.up (by unfold wP; omega)
    have hQ : LXq Ar I17 F35 ft sx fr en bo a16.2 := by rw [eF35]; exact hQ.wF (by decide)
    have hC : CLq I17 F35 ft en (clA a4 cl (5, a4.1, s9, j9)) (a4.1 + 1) := by rw [eF35]; exact hC.wF (by decide)
    refine lv_aload_n hx hb dX14_paramStatement_115 rfl (lv_at hl 2 rfl) ?_
    refine mm_get (v := .ref (Ar 23)) hx hb hf_X14 (fun _ h9 => h9) hown hK hG hM.1 rfl 23 (by decide) (tb_use hT tw_1414) (fun _ h9 => h9) (mfs_g23 _ _) dX14_paramStatement_116 ?_
    refine lv_bipush (v := 16) hx hb dX14_paramStatement_119 (by decide) ?_
    refine lv_iload_n hx hb dX14_paramStatement_121 rfl (lv_at hl 1 rfl) ?_
    refine lv_imul hx hb dX14_paramStatement_122 ?_
    refine lv_iload_n hx hb dX14_paramStatement_123 rfl (lv_at hl 3 rfl) ?_
    refine lv_iadd hx hb dX14_paramStatement_124 ?_
    refine lv_dup2_11 hx hb dX14_paramStatement_125 rfl rfl ?_
    refine mm_iald (n := 32) (f := F35 23) hx hb hK hG 1 (hM.2.1 23 rfl) rfl (by rw [show (((16 * (nI bo)) + (nI s9)) : Int32) = nI (16 * bo + s9) by show (((nI 16 * (nI bo)) + (nI s9)) : Int32) = _; simp only [nI_mu, nI_add]]; exact nI_in (N := 32) (by omega) (by decide)) dX14_paramStatement_126 ?_
    refine lv_topi (fun x42 ex42 => ?_)
    rw [show x42 = nI j9 by rw [ex42, show (((16 * (nI bo)) + (nI s9)) : Int32) = nI (16 * bo + s9) by show (((nI 16 * (nI bo)) + (nI s9)) : Int32) = _; simp only [nI_mu, nI_add], nI_clamp (by omega)]; exact p37]
    refine lv_iconst (v := 1) hx hb dX14_paramStatement_127 (by decide) ?_
    refine lv_iadd hx hb dX14_paramStatement_128 ?_
    rw [show nI j9 + 1 = nI (j9 + 1) from nI_1 _]
    refine lv_topi (fun x43 ex43 => ?_)
    refine mm_iast (n := mdN 23) (f := F35 23) hx hb hK hG hS 1 (hM.2.1 23 rfl) rfl (by rw [show (((16 * (nI bo)) + (nI s9)) : Int32) = nI (16 * bo + s9) by show (((nI 16 * (nI bo)) + (nI s9)) : Int32) = _; simp only [nI_mu, nI_add]]; exact nI_in (N := mdN 23) (by show _ < 32; omega) (by decide)) dX14_paramStatement_129 (fun H locs hG hS => ?_)
    have hM := MD.seti (k := 23) (upd (F35 23) ((16 * (nI bo)) + (nI s9)).toNatClampNeg x43) hM rfl
    have hF := hF.wa (k := 23) (e' := .inl (cy 1, mdN 23, .inl (upd (F35 23) ((16 * (nI bo)) + (nI s9)).toNatClampNeg x43))) rfl
    obtain ⟨F44, eF44⟩ : ∃ g, g = va_up F35 23 (upd (F35 23) ((16 * (nI bo)) + (nI s9)).toNatClampNeg x43) := ⟨_, rfl⟩
    rw [← eF44] at hM
    have hgn := gn_MD hG hM hF
    clear hG hM hF
    obtain ⟨G45, hG, hM, hF⟩ := hgn
    rw [show (((16 * (nI bo)) + (nI s9)) : Int32) = nI (16 * bo + s9) by show (((nI 16 * (nI bo)) + (nI s9)) : Int32) = _; simp only [nI_mu, nI_add], nI_clamp (by omega)] at eF44
    have p46 : F44 24 (128 * bo + (8 * s9 + j9)) = r14 := by rw [eF44, va_up_ne _ _ (by decide)]; exact p38
    have p47 : F44 26 (128 * bo + (8 * s9 + j9)) = 0 := by rw [eF44, va_up_ne _ _ (by decide)]; exact p39
    have p48 : F44 27 (128 * bo + (8 * s9 + j9)) = 0 := by rw [eF44, va_up_ne _ _ (by decide)]; exact p40
    have p49 : F44 28 (128 * bo + (8 * s9 + j9)) = 0 := by rw [eF44, va_up_ne _ _ (by decide)]; exact p41
    have p50 : F44 23 (16 * bo + s9) = nI (j9 + 1) := by rw [eF44, va_up_self, pk_us, ex43]
    have hFr : FrW (wP bo s9 j9) F F44 := by rw [eF44]; exact hFr.up (by unfold wP; omega)
    have hQ : LXq Ar I17 F44 ft sx fr en bo a16.2 := by rw [eF44]; exact hQ.wF (by decide)
    have hC : CLq I17 F44 ft en (clA a4 cl (5, a4.1, s9, j9)) (a4.1 + 1) := by rw [eF44]; exact hC.wF (by decide)
    refine lv_aload_n hx hb dX14_paramStatement_130 rfl (lv_at hl 2 rfl) ?_
    refine lv_bipush (v := 58) hx hb dX14_paramStatement_131 (by decide) ?_
    refine va_callv (va_runV (As := [.int 58]) (rest := []) ⟨hx, hb, hml, hown, (fun _ h9 => absurd h9 List.not_mem_nil : ∀ w ∈ ([] : List Cond), w.before _ s = true)⟩ (c_M_mark l D cy A X hst hXT G45 o Ar I17 F44 L ft sx fr en bo a16.2 7 hM hQ (by decide) (by decide)) (tb_cw (C := RX14) 1 hT tw_1717 tw_109 tw_1714 tw_1716 tw_73 rfl rfl hq_X14_mark ⟨Nat.le_of_ble_eq_true rfl, Nat.le_of_ble_eq_true rfl⟩) (mk_preC hst hG hK hA hX hS vc_15 hM.1) rfl rfl hl.1 rfl (lv_room (Nat.le_of_ble_eq_true rfl)) dX14_paramStatement_133 ⟨Nat.le_of_ble_eq_true rfl, Nat.le_of_ble_eq_true rfl⟩) hS (fun q _ h => h) (fun q h => h) (fun  G51 t H locs ht hvm hw hB hz1 hk1 hS => ?_)
    have hG : mm D vwCl A G51 H := by rw [← ht]; exact hB
    clear hB hz1 hk1 hvm ht
    obtain ⟨a52, ea52⟩ : ∃ y, y = q_take (tkK ft en) (tkS ft en) 7 a16.2 := ⟨_, rfl⟩
    rw [← ea52] at hw
    obtain ⟨I53, F54, hM2, hF2, hQ2, hI2, hX2⟩ := hw
    replace hF := hF.tr hF2; replace hM := hM2; clear hM2 hF2
    have hQ := hQ2; have hIZ := (IZ_x hI2).trans hIZ; have hFr := hFr.fx hX2; have hC := hC.fx hI2 hX2
    have p55 : F54 24 (128 * bo + (8 * s9 + j9)) = r14 := (congrFun (FXe hX2 (by decide)) _).trans p46
    have p56 : F54 26 (128 * bo + (8 * s9 + j9)) = 0 := (congrFun (FXe hX2 (by decide)) _).trans p47
    have p57 : F54 27 (128 * bo + (8 * s9 + j9)) = 0 := (congrFun (FXe hX2 (by decide)) _).trans p48
    have p58 : F54 28 (128 * bo + (8 * s9 + j9)) = 0 := (congrFun (FXe hX2 (by decide)) _).trans p49
    have p59 : F54 23 (16 * bo + s9) = nI (j9 + 1) := (congrFun (FXe hX2 (by decide)) _).trans p50
    clear hI2 hX2 hQ2
    have ga52 : a16.2.1 ≤ a52.1 := by rw [ea52]; exact ge_take
    have da52 : a52.2 < 0 → _ := fun z => ad_take hSn (by rw [← ea52]; exact z)
    rw [← ea52] at da52
    have hc1 : a4.1 + 1 ≤ a52.1 + 1 := by omega
    have hc2 : a52.2 < 0 → a4.1 + 1 ≤ a52.1 := fun z => by have := da52 z; omega
    refine lv_aload_n hx hb dX14_paramStatement_136 rfl (lv_at hl 2 rfl) ?_
    refine lv_bipush (v := 10) hx hb dX14_paramStatement_137 (by decide) ?_
    refine lv_iload_n hx hb dX14_paramStatement_139 rfl (lv_at hl 0 rfl) ?_
    refine lv_iconst (v := 0) hx hb dX14_paramStatement_140 (by decide) ?_
    refine va_callv (va_runV (As := [.int 10, .int (nI (8 * s9 + j9)), .int 0]) (rest := []) ⟨hx, hb, hml, hown, (fun _ h9 => absurd h9 List.not_mem_nil : ∀ w ∈ ([] : List Cond), w.before _ s = true)⟩ (c_M_claimq l D cy A X hst hXT G51 o Ar I53 F54 L ft sx fr en bo a52 (clA a4 cl (5, a4.1, s9, j9)) (a4.1 + 1) 10 (8 * s9 + j9) 0 hM hQ hC hc1 hc2) (tb_cw (C := RX14) 3 hT tw_1709 tw_109 tw_1706 tw_1708 tw_71 rfl rfl hq_X14_claim ⟨Nat.le_of_ble_eq_true rfl, Nat.le_of_ble_eq_true rfl⟩) (mk_preC hst hG hK hA hX hS vc_15 hM.1) rfl rfl hl.1 rfl (lv_room (Nat.le_of_ble_eq_true rfl)) dX14_paramStatement_141 ⟨Nat.le_of_ble_eq_true rfl, Nat.le_of_ble_eq_true rfl⟩) hS (fun q _ h => h) (fun q h => h) (fun  G60 t H locs ht hvm hw hB hz1 hk1 hS => ?_)
    have hG : mm D vwCl A G60 H := by rw [← ht]; exact hB
    clear hB hz1 hk1 hvm ht
    obtain ⟨I61, F62, hM2, hF2, hQ2, hC2, hI2, hX2⟩ := hw
    replace hF := hF.tr hF2; replace hM := hM2; clear hM2 hF2
    have hQ := hQ2; have hC := hC2; have hIZ := hI2.trans hIZ
    have hFr : FrW (wP bo s9 j9) F F62 := fun j i h1 h2 => (congrFun (hX2 j (fun z => h1 (by unfold lxA; omega))) i).trans (hFr j i h1 h2)
    have p63 : F62 24 (128 * bo + (8 * s9 + j9)) = r14 := (congrFun (hX2 24 (by decide)) _).trans p55
    have p64 : F62 26 (128 * bo + (8 * s9 + j9)) = 0 := (congrFun (hX2 26 (by decide)) _).trans p56
    have p65 : F62 27 (128 * bo + (8 * s9 + j9)) = 0 := (congrFun (hX2 27 (by decide)) _).trans p57
    have p66 : F62 28 (128 * bo + (8 * s9 + j9)) = 0 := (congrFun (hX2 28 (by decide)) _).trans p58
    have p67 : F62 23 (16 * bo + s9) = nI (j9 + 1) := (congrFun (hX2 23 (by decide)) _).trans p59
    clear hI2 hX2 hQ2 hC2
    have hc1 : a52.1 + 1 ≤ a52.1 + 1 := Nat.le_refl _
    refine lv_aload_n hx hb dX14_paramStatement_144 rfl (lv_at hl 2 rfl) ?_
    refine mm_get (v := .ref (Ar 25)) hx hb hf_X14 (fun _ h9 => h9) hown hK hG hM.1 rfl 25 (by decide) (tb_use hT tw_1416) (fun _ h9 => h9) (mfs_g25 _ _) dX14_paramStatement_145 ?_
    refine lv_sipush (v := 128) hx hb dX14_paramStatement_148 (by decide) ?_
    refine lv_iload_n hx hb dX14_paramStatement_151 rfl (lv_at hl 1 rfl) ?_
    refine lv_imul hx hb dX14_paramStatement_152 ?_
    refine lv_iload_n hx hb dX14_paramStatement_153 rfl (lv_at hl 0 rfl) ?_
    refine lv_iadd hx hb dX14_paramStatement_154 ?_
    refine lv_aload_n hx hb dX14_paramStatement_155 rfl (lv_at hl 2 rfl) ?_
    refine va_calli (va_runV (As := []) (rest := [.int ((128 * (nI bo)) + (nI (8 * s9 + j9))), .ref (Ar 25)]) ⟨hx, hb, hml, hown, (fun _ h9 => absurd h9 List.not_mem_nil : ∀ w ∈ ([] : List Cond), w.before _ s = true)⟩ (c_M_name l D cy A X hst hXT G60 o Ar I61 F62 L ft sx fr en bo a52 hM hQ) (tb_cw (C := RX14) 0 hT tw_1713 tw_109 tw_1710 tw_1712 tw_72 rfl rfl hq_X14_name ⟨Nat.le_of_ble_eq_true rfl, Nat.le_of_ble_eq_true rfl⟩) (mk_preC hst hG hK hA hX hS vc_15 hM.1) rfl rfl hl.1 rfl (lv_room (Nat.le_of_ble_eq_true rfl)) dX14_paramStatement_156 ⟨Nat.le_of_ble_eq_true rfl, Nat.le_of_ble_eq_true rfl⟩) hS (fun q _ h => h) (fun q h => h) (fun r68 G69 t H locs ht hvm hw hB hz1 hk1 hS => ?_)
    have hG : mm D vwCl A G69 H := by rw [← ht]; exact hB
    clear hB hz1 hk1 hvm ht
    obtain ⟨a70, ea70⟩ : ∃ y, y = q_name (tkK ft en) (tkS ft en) (tkV ft en) a52 := ⟨_, rfl⟩
    rw [← ea70] at hw
    obtain ⟨hr68, I71, F72, hM2, hF2, hQ2, hI2, hX2⟩ := hw
    replace hF := hF.tr hF2; replace hM := hM2; clear hM2 hF2
    have hQ := hQ2; have hIZ := (IZ_x hI2).trans hIZ; have hFr := hFr.fx hX2; have hC := hC.fx hI2 hX2
    have p73 : F72 24 (128 * bo + (8 * s9 + j9)) = r14 := (congrFun (FXe hX2 (by decide)) _).trans p63
    have p74 : F72 26 (128 * bo + (8 * s9 + j9)) = 0 := (congrFun (FXe hX2 (by decide)) _).trans p64
    have p75 : F72 27 (128 * bo + (8 * s9 + j9)) = 0 := (congrFun (FXe hX2 (by decide)) _).trans p65
    have p76 : F72 28 (128 * bo + (8 * s9 + j9)) = 0 := (congrFun (FXe hX2 (by decide)) _).trans p66
    have p77 : F72 23 (16 * bo + s9) = nI (j9 + 1) := (congrFun (FXe hX2 (by decide)) _).trans p67
    clear hI2 hX2 hQ2
    have ga70 : a52.1 ≤ a70.2.1 := by rw [ea70]; exact ge_name
    have da70 : a70.2.2 < 0 → _ := fun z => ad_name hSn (by rw [← ea70]; exact z)
    rw [← ea70] at da70
    have hc1 : a52.1 + 1 ≤ a70.2.1 + 1 := by omega
    have hc2 : a70.2.2 < 0 → a52.1 + 1 ≤ a70.2.1 := fun z => by have := da70 z; omega
    refine mm_iast (n := mdN 25) (f := F72 25) hx hb hK hG hS 1 (hM.2.1 25 rfl) rfl (by rw [show (((128 * (nI bo)) + (nI (8 * s9 + j9))) : Int32) = nI (128 * bo + (8 * s9 + j9)) by show (((nI 128 * (nI bo)) + (nI (8 * s9 + j9))) : Int32) = _; simp only [nI_mu, nI_add]]; exact nI_in (N := mdN 25) (by show _ < 256; omega) (by decide)) dX14_paramStatement_159 (fun H locs hG hS => ?_)
    have hM := MD.seti (k := 25) (upd (F72 25) ((128 * (nI bo)) + (nI (8 * s9 + j9))).toNatClampNeg r68) hM rfl
    have hF := hF.wa (k := 25) (e' := .inl (cy 1, mdN 25, .inl (upd (F72 25) ((128 * (nI bo)) + (nI (8 * s9 + j9))).toNatClampNeg r68))) rfl
    obtain ⟨F78, eF78⟩ : ∃ g, g = va_up F72 25 (upd (F72 25) ((128 * (nI bo)) + (nI (8 * s9 + j9))).toNatClampNeg r68) := ⟨_, rfl⟩
    rw [← eF78] at hM
    have hgn := gn_MD hG hM hF
    clear hG hM hF
    obtain ⟨G79, hG, hM, hF⟩ := hgn
    rw [show (((128 * (nI bo)) + (nI (8 * s9 + j9))) : Int32) = nI (128 * bo + (8 * s9 + j9)) by show (((nI 128 * (nI bo)) + (nI (8 * s9 + j9))) : Int32) = _; simp only [nI_mu, nI_add], nI_clamp (by omega)] at eF78
    have p80 : F78 24 (128 * bo + (8 * s9 + j9)) = r14 := by rw [eF78, va_up_ne _ _ (by decide)]; exact p73
    have p81 : F78 26 (128 * bo + (8 * s9 + j9)) = 0 := by rw [eF78, va_up_ne _ _ (by decide)]; exact p74
    have p82 : F78 27 (128 * bo + (8 * s9 + j9)) = 0 := by rw [eF78, va_up_ne _ _ (by decide)]; exact p75
    have p83 : F78 28 (128 * bo + (8 * s9 + j9)) = 0 := by rw [eF78, va_up_ne _ _ (by decide)]; exact p76
    have p84 : F78 23 (16 * bo + s9) = nI (j9 + 1) := by rw [eF78, va_up_ne _ _ (by decide)]; exact p77
    have p85 : F78 25 (128 * bo + (8 * s9 + j9)) = r68 := by rw [eF78, va_up_self, pk_us]
    have hFr : FrW (wP bo s9 j9) F F78 := by rw [eF78]; exact hFr.up (by unfold wP; omega)
    have hQ : LXq Ar I71 F78 ft sx fr en bo a70.2 := by rw [eF78]; exact hQ.wF (by decide)
    have hC : CLq I71 F78 ft en (clA a52 (clA a4 cl (5, a4.1, s9, j9)) (10, a52.1, 8 * s9 + j9, 0)) (a52.1 + 1) := by rw [eF78]; exact hC.wF (by decide)
    refine lv_aload_n hx hb dX14_paramStatement_160 rfl (lv_at hl 2 rfl) ?_
    refine lv_bipush (v := 10) hx hb dX14_paramStatement_161 (by decide) ?_
    refine va_calli (va_runV (As := [.int 10]) (rest := []) ⟨hx, hb, hml, hown, (fun _ h9 => absurd h9 List.not_mem_nil : ∀ w ∈ ([] : List Cond), w.before _ s = true)⟩ (c_M_isWord l D cy A X hst hXT G79 o Ar I71 F78 L 10 hM) (tb_cw (C := RX14) 1 hT tw_1734 tw_109 tw_1731 tw_1733 tw_77 rfl rfl hq_X14_isWord ⟨Nat.le_of_ble_eq_true rfl, Nat.le_of_ble_eq_true rfl⟩) (mk_preC hst hG hK hA hX hS vc_15 hM.1) rfl rfl hl.1 rfl (lv_room (Nat.le_of_ble_eq_true rfl)) dX14_paramStatement_163 ⟨Nat.le_of_ble_eq_true rfl, Nat.le_of_ble_eq_true rfl⟩) hS (fun q _ h => h) (fun q h => h) (fun r86 G87 t H locs ht hvm hw hB hz1 hk1 hS => ?_)
    have hG : mm D vwCl A G87 H := by rw [← ht]; exact hB
    clear hB hz1 hk1 hvm ht
    obtain ⟨er86, hw⟩ := hw
    rw [hw] at hG
    rw [hQ.isW (w := 10) (y := 10) rfl (by decide) (by decide)] at er86
    refine lv_if_ne (tgt := 178) hx hb dX14_paramStatement_166 (by decide) (fun c_166 => ?_) (fun c_166 => ?_)
    · skip
      have hnq : a70.2.2 < 0 ∧ tkK ft en a70.2.1 = 20 := se_t (b2i_t (by rw [← er86]; exact c_166))
      have hvl := ((hQ.kd.word (w := 10) (by decide) (by decide)).mpr hnq.2).2
      refine lv_aload_n hx hb dX14_paramStatement_178 rfl (lv_at hl 2 rfl) ?_
      refine mm_get (v := .ref (Ar 26)) hx hb hf_X14 (fun _ h9 => h9) hown hK hG hM.1 rfl 26 (by decide) (tb_use hT tw_1417) (fun _ h9 => h9) (mfs_g26 _ _) dX14_paramStatement_179 ?_
      refine lv_sipush (v := 128) hx hb dX14_paramStatement_182 (by decide) ?_
      refine lv_iload_n hx hb dX14_paramStatement_185 rfl (lv_at hl 1 rfl) ?_
      refine lv_imul hx hb dX14_paramStatement_186 ?_
      refine lv_iload_n hx hb dX14_paramStatement_187 rfl (lv_at hl 0 rfl) ?_
      refine lv_iadd hx hb dX14_paramStatement_188 ?_
      refine lv_aload_n hx hb dX14_paramStatement_189 rfl (lv_at hl 2 rfl) ?_
      refine mm_get (v := .int (I71 53)) hx hb hf_X14 (fun _ h9 => h9) hown hK hG hM.1 rfl 53 (by decide) (tb_use hT tw_1444) (fun _ h9 => h9) (mfs_g53 _ _) dX14_paramStatement_190 ?_
      refine lv_bipush (v := 10) hx hb dX14_paramStatement_193 (by decide) ?_
      refine lv_icmp_ne (tgt := 202) hx hb dX14_paramStatement_195 (by decide) (fun c_195 => ?_) (fun c_195 => ?_)
      · skip
        exact absurd hvl c_195
      · skip
        refine lv_iconst (v := 1) hx hb dX14_paramStatement_198 (by decide) ?_
        refine lv_goto (tgt := 203) hx hb dX14_paramStatement_199 (by decide) ?_
        refine mm_iast (n := mdN 26) (f := F78 26) hx hb hK hG hS 1 (hM.2.1 26 rfl) rfl (by rw [show (((128 * (nI bo)) + (nI (8 * s9 + j9))) : Int32) = nI (128 * bo + (8 * s9 + j9)) by show (((nI 128 * (nI bo)) + (nI (8 * s9 + j9))) : Int32) = _; simp only [nI_mu, nI_add]]; exact nI_in (N := mdN 26) (by show _ < 256; omega) (by decide)) dX14_paramStatement_203 (fun H locs hG hS => ?_)
        have hM := MD.seti (k := 26) (upd (F78 26) ((128 * (nI bo)) + (nI (8 * s9 + j9))).toNatClampNeg 1) hM rfl
        have hF := hF.wa (k := 26) (e' := .inl (cy 1, mdN 26, .inl (upd (F78 26) ((128 * (nI bo)) + (nI (8 * s9 + j9))).toNatClampNeg 1))) rfl
        obtain ⟨F88, eF88⟩ : ∃ g, g = va_up F78 26 (upd (F78 26) ((128 * (nI bo)) + (nI (8 * s9 + j9))).toNatClampNeg 1) := ⟨_, rfl⟩
        rw [← eF88] at hM
        have hgn := gn_MD hG hM hF
        clear hG hM hF
        obtain ⟨G89, hG, hM, hF⟩ := hgn
        rw [show (((128 * (nI bo)) + (nI (8 * s9 + j9))) : Int32) = nI (128 * bo + (8 * s9 + j9)) by show (((nI 128 * (nI bo)) + (nI (8 * s9 + j9))) : Int32) = _; simp only [nI_mu, nI_add], nI_clamp (by omega)] at eF88
        have p90 : F88 24 (128 * bo + (8 * s9 + j9)) = r14 := by rw [eF88, va_up_ne _ _ (by decide)]; exact p80
        have p91 : F88 27 (128 * bo + (8 * s9 + j9)) = 0 := by rw [eF88, va_up_ne _ _ (by decide)]; exact p82
        have p92 : F88 28 (128 * bo + (8 * s9 + j9)) = 0 := by rw [eF88, va_up_ne _ _ (by decide)]; exact p83
        have p93 : F88 23 (16 * bo + s9) = nI (j9 + 1) := by rw [eF88, va_up_ne _ _ (by decide)]; exact p84
        have p94 : F88 25 (128 * bo + (8 * s9 + j9)) = r68 := by rw [eF88, va_up_ne _ _ (by decide)]; exact p85
        have p95 : F88 26 (128 * bo + (8 * s9 + j9)) = 1 := by rw [eF88, va_up_self, pk_us]
        have hFr : FrW (wP bo s9 j9) F F88 := by rw [eF88]; exact hFr.up (by unfold wP; omega)
        have hQ : LXq Ar I71 F88 ft sx fr en bo a70.2 := by rw [eF88]; exact hQ.wF (by decide)
        have hC : CLq I71 F88 ft en (clA a52 (clA a4 cl (5, a4.1, s9, j9)) (10, a52.1, 8 * s9 + j9, 0)) (a52.1 + 1) := by rw [eF88]; exact hC.wF (by decide)
        refine lv_aload_n hx hb dX14_paramStatement_204 rfl (lv_at hl 2 rfl) ?_
        refine va_callv (va_runV (As := []) (rest := []) ⟨hx, hb, hml, hown, (fun _ h9 => absurd h9 List.not_mem_nil : ∀ w ∈ ([] : List Cond), w.before _ s = true)⟩ (c_M_nextq l D cy A X hst hXT G89 o Ar I71 F88 L ft sx fr en bo a70.2 hM hQ hnq.1 (by rw [hnq.2]; decide) (by rw [hnq.2]; decide)) (tb_cw (C := RX14) 0 hT tw_1640 tw_109 tw_1637 tw_1639 tw_62 rfl rfl hq_X14_next ⟨Nat.le_of_ble_eq_true rfl, Nat.le_of_ble_eq_true rfl⟩) (mk_preC hst hG hK hA hX hS vc_15 hM.1) rfl rfl hl.1 rfl (lv_room (Nat.le_of_ble_eq_true rfl)) dX14_paramStatement_205 ⟨Nat.le_of_ble_eq_true rfl, Nat.le_of_ble_eq_true rfl⟩) hS (fun q _ h => h) (fun q h => h) (fun  G96 t H locs ht hvm hw hB hz1 hk1 hS => ?_)
        have hG : mm D vwCl A G96 H := by rw [← ht]; exact hB
        clear hB hz1 hk1 hvm ht
        obtain ⟨a97, ea97⟩ : ∃ y, y = (a70.2.1 + 1, a70.2.2) := ⟨_, rfl⟩
        rw [← ea97] at hw
        obtain ⟨I98, F99, hM2, hF2, hQ2, hI2, hX2⟩ := hw
        replace hF := hF.tr hF2; replace hM := hM2; clear hM2 hF2
        have hQ := hQ2; have hIZ := (IZ_x hI2).trans hIZ; have hFr := hFr.fx hX2; have hC := hC.fx hI2 hX2
        have p100 : F99 24 (128 * bo + (8 * s9 + j9)) = r14 := (congrFun (FXe hX2 (by decide)) _).trans p90
        have p101 : F99 27 (128 * bo + (8 * s9 + j9)) = 0 := (congrFun (FXe hX2 (by decide)) _).trans p91
        have p102 : F99 28 (128 * bo + (8 * s9 + j9)) = 0 := (congrFun (FXe hX2 (by decide)) _).trans p92
        have p103 : F99 23 (16 * bo + s9) = nI (j9 + 1) := (congrFun (FXe hX2 (by decide)) _).trans p93
        have p104 : F99 25 (128 * bo + (8 * s9 + j9)) = r68 := (congrFun (FXe hX2 (by decide)) _).trans p94
        have p105 : F99 26 (128 * bo + (8 * s9 + j9)) = 1 := (congrFun (FXe hX2 (by decide)) _).trans p95
        clear hI2 hX2 hQ2
        have ga97 : a70.2.1 ≤ a97.1 := by rw [ea97]; exact ge_next
        have da97 : a97.2 < 0 → _ := fun z => ad_next hSn (by rw [← ea97]; exact z)
        rw [← ea97] at da97
        have hc1 : a52.1 + 1 ≤ a97.1 + 1 := by omega
        have hc2 : a97.2 < 0 → a52.1 + 1 ≤ a97.1 := fun z => by have := da97 z; omega
        refine lv_aload_n hx hb dX14_paramStatement_208 rfl (lv_at hl 2 rfl) ?_
        refine lv_bipush (v := 11) hx hb dX14_paramStatement_209 (by decide) ?_
        refine lv_iload_n hx hb dX14_paramStatement_211 rfl (lv_at hl 3 rfl) ?_
        refine lv_iload_n hx hb dX14_paramStatement_212 rfl (lv_at hl 0 rfl) ?_
        refine va_callv (va_runV (As := [.int 11, .int (nI s9), .int (nI (8 * s9 + j9))]) (rest := []) ⟨hx, hb, hml, hown, (fun _ h9 => absurd h9 List.not_mem_nil : ∀ w ∈ ([] : List Cond), w.before _ s = true)⟩ (c_M_claimq l D cy A X hst hXT G96 o Ar I98 F99 L ft sx fr en bo a97 (clA a52 (clA a4 cl (5, a4.1, s9, j9)) (10, a52.1, 8 * s9 + j9, 0)) (a52.1 + 1) 11 s9 (8 * s9 + j9) hM hQ hC hc1 hc2) (tb_cw (C := RX14) 3 hT tw_1709 tw_109 tw_1706 tw_1708 tw_71 rfl rfl hq_X14_claim ⟨Nat.le_of_ble_eq_true rfl, Nat.le_of_ble_eq_true rfl⟩) (mk_preC hst hG hK hA hX hS vc_15 hM.1) rfl rfl hl.1 rfl (lv_room (Nat.le_of_ble_eq_true rfl)) dX14_paramStatement_213 ⟨Nat.le_of_ble_eq_true rfl, Nat.le_of_ble_eq_true rfl⟩) hS (fun q _ h => h) (fun q h => h) (fun  G106 t H locs ht hvm hw hB hz1 hk1 hS => ?_)
        have hG : mm D vwCl A G106 H := by rw [← ht]; exact hB
        clear hB hz1 hk1 hvm ht
        obtain ⟨I107, F108, hM2, hF2, hQ2, hC2, hI2, hX2⟩ := hw
        replace hF := hF.tr hF2; replace hM := hM2; clear hM2 hF2
        have hQ := hQ2; have hC := hC2; have hIZ := hI2.trans hIZ
        have hFr : FrW (wP bo s9 j9) F F108 := fun j i h1 h2 => (congrFun (hX2 j (fun z => h1 (by unfold lxA; omega))) i).trans (hFr j i h1 h2)
        have p109 : F108 24 (128 * bo + (8 * s9 + j9)) = r14 := (congrFun (hX2 24 (by decide)) _).trans p100
        have p110 : F108 27 (128 * bo + (8 * s9 + j9)) = 0 := (congrFun (hX2 27 (by decide)) _).trans p101
        have p111 : F108 28 (128 * bo + (8 * s9 + j9)) = 0 := (congrFun (hX2 28 (by decide)) _).trans p102
        have p112 : F108 23 (16 * bo + s9) = nI (j9 + 1) := (congrFun (hX2 23 (by decide)) _).trans p103
        have p113 : F108 25 (128 * bo + (8 * s9 + j9)) = r68 := (congrFun (hX2 25 (by decide)) _).trans p104
        have p114 : F108 26 (128 * bo + (8 * s9 + j9)) = 1 := (congrFun (hX2 26 (by decide)) _).trans p105
        clear hI2 hX2 hQ2 hC2
        have hc1 : a97.1 + 1 ≤ a97.1 + 1 := Nat.le_refl _
        refine lv_aload_n hx hb dX14_paramStatement_216 rfl (lv_at hl 2 rfl) ?_
        refine mm_get (v := .ref (Ar 27)) hx hb hf_X14 (fun _ h9 => h9) hown hK hG hM.1 rfl 27 (by decide) (tb_use hT tw_1418) (fun _ h9 => h9) (mfs_g27 _ _) dX14_paramStatement_217 ?_
        refine lv_sipush (v := 128) hx hb dX14_paramStatement_220 (by decide) ?_
        refine lv_iload_n hx hb dX14_paramStatement_223 rfl (lv_at hl 1 rfl) ?_
        refine lv_imul hx hb dX14_paramStatement_224 ?_
        refine lv_iload_n hx hb dX14_paramStatement_225 rfl (lv_at hl 0 rfl) ?_
        refine lv_iadd hx hb dX14_paramStatement_226 ?_
        refine lv_aload_n hx hb dX14_paramStatement_227 rfl (lv_at hl 2 rfl) ?_
        refine va_calli (va_runV (As := []) (rest := [.int ((128 * (nI bo)) + (nI (8 * s9 + j9))), .ref (Ar 27)]) ⟨hx, hb, hml, hown, (fun _ h9 => absurd h9 List.not_mem_nil : ∀ w ∈ ([] : List Cond), w.before _ s = true)⟩ (c_M_name l D cy A X hst hXT G106 o Ar I107 F108 L ft sx fr en bo a97 hM hQ) (tb_cw (C := RX14) 0 hT tw_1713 tw_109 tw_1710 tw_1712 tw_72 rfl rfl hq_X14_name ⟨Nat.le_of_ble_eq_true rfl, Nat.le_of_ble_eq_true rfl⟩) (mk_preC hst hG hK hA hX hS vc_15 hM.1) rfl rfl hl.1 rfl (lv_room (Nat.le_of_ble_eq_true rfl)) dX14_paramStatement_228 ⟨Nat.le_of_ble_eq_true rfl, Nat.le_of_ble_eq_true rfl⟩) hS (fun q _ h => h) (fun q h => h) (fun r115 G116 t H locs ht hvm hw hB hz1 hk1 hS => ?_)
        have hG : mm D vwCl A G116 H := by rw [← ht]; exact hB
        clear hB hz1 hk1 hvm ht
        obtain ⟨a117, ea117⟩ : ∃ y, y = q_name (tkK ft en) (tkS ft en) (tkV ft en) a97 := ⟨_, rfl⟩
        rw [← ea117] at hw
        obtain ⟨hr115, I118, F119, hM2, hF2, hQ2, hI2, hX2⟩ := hw
        replace hF := hF.tr hF2; replace hM := hM2; clear hM2 hF2
        have hQ := hQ2; have hIZ := (IZ_x hI2).trans hIZ; have hFr := hFr.fx hX2; have hC := hC.fx hI2 hX2
        have p120 : F119 24 (128 * bo + (8 * s9 + j9)) = r14 := (congrFun (FXe hX2 (by decide)) _).trans p109
        have p121 : F119 27 (128 * bo + (8 * s9 + j9)) = 0 := (congrFun (FXe hX2 (by decide)) _).trans p110
        have p122 : F119 28 (128 * bo + (8 * s9 + j9)) = 0 := (congrFun (FXe hX2 (by decide)) _).trans p111
        have p123 : F119 23 (16 * bo + s9) = nI (j9 + 1) := (congrFun (FXe hX2 (by decide)) _).trans p112
        have p124 : F119 25 (128 * bo + (8 * s9 + j9)) = r68 := (congrFun (FXe hX2 (by decide)) _).trans p113
        have p125 : F119 26 (128 * bo + (8 * s9 + j9)) = 1 := (congrFun (FXe hX2 (by decide)) _).trans p114
        clear hI2 hX2 hQ2
        have ga117 : a97.1 ≤ a117.2.1 := by rw [ea117]; exact ge_name
        have da117 : a117.2.2 < 0 → _ := fun z => ad_name hSn (by rw [← ea117]; exact z)
        rw [← ea117] at da117
        have hc1 : a97.1 + 1 ≤ a117.2.1 + 1 := by omega
        have hc2 : a117.2.2 < 0 → a97.1 + 1 ≤ a117.2.1 := fun z => by have := da117 z; omega
        refine mm_iast (n := mdN 27) (f := F119 27) hx hb hK hG hS 1 (hM.2.1 27 rfl) rfl (by rw [show (((128 * (nI bo)) + (nI (8 * s9 + j9))) : Int32) = nI (128 * bo + (8 * s9 + j9)) by show (((nI 128 * (nI bo)) + (nI (8 * s9 + j9))) : Int32) = _; simp only [nI_mu, nI_add]]; exact nI_in (N := mdN 27) (by show _ < 256; omega) (by decide)) dX14_paramStatement_231 (fun H locs hG hS => ?_)
        have hM := MD.seti (k := 27) (upd (F119 27) ((128 * (nI bo)) + (nI (8 * s9 + j9))).toNatClampNeg r115) hM rfl
        have hF := hF.wa (k := 27) (e' := .inl (cy 1, mdN 27, .inl (upd (F119 27) ((128 * (nI bo)) + (nI (8 * s9 + j9))).toNatClampNeg r115))) rfl
        obtain ⟨F126, eF126⟩ : ∃ g, g = va_up F119 27 (upd (F119 27) ((128 * (nI bo)) + (nI (8 * s9 + j9))).toNatClampNeg r115) := ⟨_, rfl⟩
        rw [← eF126] at hM
        have hgn := gn_MD hG hM hF
        clear hG hM hF
        obtain ⟨G127, hG, hM, hF⟩ := hgn
        rw [show (((128 * (nI bo)) + (nI (8 * s9 + j9))) : Int32) = nI (128 * bo + (8 * s9 + j9)) by show (((nI 128 * (nI bo)) + (nI (8 * s9 + j9))) : Int32) = _; simp only [nI_mu, nI_add], nI_clamp (by omega)] at eF126
        have p128 : F126 24 (128 * bo + (8 * s9 + j9)) = r14 := by rw [eF126, va_up_ne _ _ (by decide)]; exact p120
        have p129 : F126 28 (128 * bo + (8 * s9 + j9)) = 0 := by rw [eF126, va_up_ne _ _ (by decide)]; exact p122
        have p130 : F126 23 (16 * bo + s9) = nI (j9 + 1) := by rw [eF126, va_up_ne _ _ (by decide)]; exact p123
        have p131 : F126 25 (128 * bo + (8 * s9 + j9)) = r68 := by rw [eF126, va_up_ne _ _ (by decide)]; exact p124
        have p132 : F126 26 (128 * bo + (8 * s9 + j9)) = 1 := by rw [eF126, va_up_ne _ _ (by decide)]; exact p125
        have p133 : F126 27 (128 * bo + (8 * s9 + j9)) = r115 := by rw [eF126, va_up_self, pk_us]
        have hFr : FrW (wP bo s9 j9) F F126 := by rw [eF126]; exact hFr.up (by unfold wP; omega)
        have hQ : LXq Ar I118 F126 ft sx fr en bo a117.2 := by rw [eF126]; exact hQ.wF (by decide)
        have hC : CLq I118 F126 ft en (clA a97 (clA a52 (clA a4 cl (5, a4.1, s9, j9)) (10, a52.1, 8 * s9 + j9, 0)) (11, a97.1, s9, 8 * s9 + j9)) (a97.1 + 1) := by rw [eF126]; exact hC.wF (by decide)
        refine lv_aload_n hx hb dX14_paramStatement_232 rfl (lv_at hl 2 rfl) ?_
        refine mm_get (v := .ref (Ar 26)) hx hb hf_X14 (fun _ h9 => h9) hown hK hG hM.1 rfl 26 (by decide) (tb_use hT tw_1417) (fun _ h9 => h9) (mfs_g26 _ _) dX14_paramStatement_233 ?_
        refine lv_sipush (v := 128) hx hb dX14_paramStatement_236 (by decide) ?_
        refine lv_iload_n hx hb dX14_paramStatement_239 rfl (lv_at hl 1 rfl) ?_
        refine lv_imul hx hb dX14_paramStatement_240 ?_
        refine lv_iload_n hx hb dX14_paramStatement_241 rfl (lv_at hl 0 rfl) ?_
        refine lv_iadd hx hb dX14_paramStatement_242 ?_
        refine mm_iald (n := 256) (f := F126 26) hx hb hK hG 1 (hM.2.1 26 rfl) rfl (by rw [show (((128 * (nI bo)) + (nI (8 * s9 + j9))) : Int32) = nI (128 * bo + (8 * s9 + j9)) by show (((nI 128 * (nI bo)) + (nI (8 * s9 + j9))) : Int32) = _; simp only [nI_mu, nI_add]]; exact nI_in (N := 256) (by omega) (by decide)) dX14_paramStatement_243 ?_
        refine lv_topi (fun x134 ex134 => ?_)
        rw [show x134 = 1 by rw [ex134, show (((128 * (nI bo)) + (nI (8 * s9 + j9))) : Int32) = nI (128 * bo + (8 * s9 + j9)) by show (((nI 128 * (nI bo)) + (nI (8 * s9 + j9))) : Int32) = _; simp only [nI_mu, nI_add], nI_clamp (by omega)]; exact p132]
        refine lv_iconst (v := 1) hx hb dX14_paramStatement_244 (by decide) ?_
        refine lv_icmp_ne (tgt := 274) hx hb dX14_paramStatement_245 (by decide) (fun c_245 => ?_) (fun c_245 => ?_)
        · skip
          exact absurd (by decide) c_245
        · skip
          refine lv_aload_n hx hb dX14_paramStatement_248 rfl (lv_at hl 2 rfl) ?_
          refine lv_bipush (v := 61) hx hb dX14_paramStatement_249 (by decide) ?_
          refine va_callv (va_runV (As := [.int 61]) (rest := []) ⟨hx, hb, hml, hown, (fun _ h9 => absurd h9 List.not_mem_nil : ∀ w ∈ ([] : List Cond), w.before _ s = true)⟩ (c_M_mark l D cy A X hst hXT G127 o Ar I118 F126 L ft sx fr en bo a117.2 8 hM hQ (by decide) (by decide)) (tb_cw (C := RX14) 1 hT tw_1717 tw_109 tw_1714 tw_1716 tw_73 rfl rfl hq_X14_mark ⟨Nat.le_of_ble_eq_true rfl, Nat.le_of_ble_eq_true rfl⟩) (mk_preC hst hG hK hA hX hS vc_15 hM.1) rfl rfl hl.1 rfl (lv_room (Nat.le_of_ble_eq_true rfl)) dX14_paramStatement_251 ⟨Nat.le_of_ble_eq_true rfl, Nat.le_of_ble_eq_true rfl⟩) hS (fun q _ h => h) (fun q h => h) (fun  G135 t H locs ht hvm hw hB hz1 hk1 hS => ?_)
          have hG : mm D vwCl A G135 H := by rw [← ht]; exact hB
          clear hB hz1 hk1 hvm ht
          obtain ⟨a136, ea136⟩ : ∃ y, y = q_take (tkK ft en) (tkS ft en) 8 a117.2 := ⟨_, rfl⟩
          rw [← ea136] at hw
          obtain ⟨I137, F138, hM2, hF2, hQ2, hI2, hX2⟩ := hw
          replace hF := hF.tr hF2; replace hM := hM2; clear hM2 hF2
          have hQ := hQ2; have hIZ := (IZ_x hI2).trans hIZ; have hFr := hFr.fx hX2; have hC := hC.fx hI2 hX2
          have p139 : F138 24 (128 * bo + (8 * s9 + j9)) = r14 := (congrFun (FXe hX2 (by decide)) _).trans p128
          have p140 : F138 28 (128 * bo + (8 * s9 + j9)) = 0 := (congrFun (FXe hX2 (by decide)) _).trans p129
          have p141 : F138 23 (16 * bo + s9) = nI (j9 + 1) := (congrFun (FXe hX2 (by decide)) _).trans p130
          have p142 : F138 25 (128 * bo + (8 * s9 + j9)) = r68 := (congrFun (FXe hX2 (by decide)) _).trans p131
          have p143 : F138 26 (128 * bo + (8 * s9 + j9)) = 1 := (congrFun (FXe hX2 (by decide)) _).trans p132
          have p144 : F138 27 (128 * bo + (8 * s9 + j9)) = r115 := (congrFun (FXe hX2 (by decide)) _).trans p133
          clear hI2 hX2 hQ2
          have ga136 : a117.2.1 ≤ a136.1 := by rw [ea136]; exact ge_take
          have da136 : a136.2 < 0 → _ := fun z => ad_take hSn (by rw [← ea136]; exact z)
          rw [← ea136] at da136
          have hc1 : a97.1 + 1 ≤ a136.1 + 1 := by omega
          have hc2 : a136.2 < 0 → a97.1 + 1 ≤ a136.1 := fun z => by have := da136 z; omega
          refine lv_aload_n hx hb dX14_paramStatement_254 rfl (lv_at hl 2 rfl) ?_
          refine mm_get (v := .ref (Ar 28)) hx hb hf_X14 (fun _ h9 => h9) hown hK hG hM.1 rfl 28 (by decide) (tb_use hT tw_1419) (fun _ h9 => h9) (mfs_g28 _ _) dX14_paramStatement_255 ?_
          refine lv_sipush (v := 128) hx hb dX14_paramStatement_258 (by decide) ?_
          refine lv_iload_n hx hb dX14_paramStatement_261 rfl (lv_at hl 1 rfl) ?_
          refine lv_imul hx hb dX14_paramStatement_262 ?_
          refine lv_iload_n hx hb dX14_paramStatement_263 rfl (lv_at hl 0 rfl) ?_
          refine lv_iadd hx hb dX14_paramStatement_264 ?_
          refine lv_aload_n hx hb dX14_paramStatement_265 rfl (lv_at hl 2 rfl) ?_
          refine lv_iconst (v := 0) hx hb dX14_paramStatement_266 (by decide) ?_
          refine lv_ldcw hx hb hown (tb_use hT tw_1730) dX14_paramStatement_267 ?_
          refine va_calli (va_runV (As := [.int 0, .int 999999]) (rest := [.int ((128 * (nI bo)) + (nI (8 * s9 + j9))), .ref (Ar 28)]) ⟨hx, hb, hml, hown, (fun _ h9 => absurd h9 List.not_mem_nil : ∀ w ∈ ([] : List Cond), w.before _ s = true)⟩ (c_M_number l D cy A X hst hXT G135 o Ar I137 F138 L ft sx fr en bo a136 0 999999 0 999999 hM hQ rfl rfl (by decide) (by decide)) (tb_cw (C := RX14) 2 hT tw_1721 tw_109 tw_1718 tw_1720 tw_74 rfl rfl hq_X14_number ⟨Nat.le_of_ble_eq_true rfl, Nat.le_of_ble_eq_true rfl⟩) (mk_preC hst hG hK hA hX hS vc_15 hM.1) rfl rfl hl.1 rfl (lv_room (Nat.le_of_ble_eq_true rfl)) dX14_paramStatement_270 ⟨Nat.le_of_ble_eq_true rfl, Nat.le_of_ble_eq_true rfl⟩) hS (fun q _ h => h) (fun q h => h) (fun r145 G146 t H locs ht hvm hw hB hz1 hk1 hS => ?_)
          have hG : mm D vwCl A G146 H := by rw [← ht]; exact hB
          clear hB hz1 hk1 hvm ht
          obtain ⟨a147, ea147⟩ : ∃ y, y = q_num (tkK ft en) (tkS ft en) (tkV ft en) 0 999999 a136 := ⟨_, rfl⟩
          rw [← ea147] at hw
          obtain ⟨hr145, I148, F149, hM2, hF2, hQ2, hI2, hX2⟩ := hw
          replace hF := hF.tr hF2; replace hM := hM2; clear hM2 hF2
          have hQ := hQ2; have hIZ := (IZ_x hI2).trans hIZ; have hFr := hFr.fx hX2; have hC := hC.fx hI2 hX2
          have p150 : F149 24 (128 * bo + (8 * s9 + j9)) = r14 := (congrFun (FXe hX2 (by decide)) _).trans p139
          have p151 : F149 28 (128 * bo + (8 * s9 + j9)) = 0 := (congrFun (FXe hX2 (by decide)) _).trans p140
          have p152 : F149 23 (16 * bo + s9) = nI (j9 + 1) := (congrFun (FXe hX2 (by decide)) _).trans p141
          have p153 : F149 25 (128 * bo + (8 * s9 + j9)) = r68 := (congrFun (FXe hX2 (by decide)) _).trans p142
          have p154 : F149 26 (128 * bo + (8 * s9 + j9)) = 1 := (congrFun (FXe hX2 (by decide)) _).trans p143
          have p155 : F149 27 (128 * bo + (8 * s9 + j9)) = r115 := (congrFun (FXe hX2 (by decide)) _).trans p144
          clear hI2 hX2 hQ2
          have ga147 : a136.1 ≤ a147.2.1 := by rw [ea147]; exact ge_num
          have da147 : a147.2.2 < 0 → _ := fun z => ad_num hSn (by rw [← ea147]; exact z)
          rw [← ea147] at da147
          have hc1 : a97.1 + 1 ≤ a147.2.1 + 1 := by omega
          have hc2 : a147.2.2 < 0 → a97.1 + 1 ≤ a147.2.1 := fun z => by have := da147 z; omega
          refine mm_iast (n := mdN 28) (f := F149 28) hx hb hK hG hS 1 (hM.2.1 28 rfl) rfl (by rw [show (((128 * (nI bo)) + (nI (8 * s9 + j9))) : Int32) = nI (128 * bo + (8 * s9 + j9)) by show (((nI 128 * (nI bo)) + (nI (8 * s9 + j9))) : Int32) = _; simp only [nI_mu, nI_add]]; exact nI_in (N := mdN 28) (by show _ < 256; omega) (by decide)) dX14_paramStatement_273 (fun H locs hG hS => ?_)
          have hM := MD.seti (k := 28) (upd (F149 28) ((128 * (nI bo)) + (nI (8 * s9 + j9))).toNatClampNeg r145) hM rfl
          have hF := hF.wa (k := 28) (e' := .inl (cy 1, mdN 28, .inl (upd (F149 28) ((128 * (nI bo)) + (nI (8 * s9 + j9))).toNatClampNeg r145))) rfl
          obtain ⟨F156, eF156⟩ : ∃ g, g = va_up F149 28 (upd (F149 28) ((128 * (nI bo)) + (nI (8 * s9 + j9))).toNatClampNeg r145) := ⟨_, rfl⟩
          rw [← eF156] at hM
          have hgn := gn_MD hG hM hF
          clear hG hM hF
          obtain ⟨G157, hG, hM, hF⟩ := hgn
          rw [show (((128 * (nI bo)) + (nI (8 * s9 + j9))) : Int32) = nI (128 * bo + (8 * s9 + j9)) by show (((nI 128 * (nI bo)) + (nI (8 * s9 + j9))) : Int32) = _; simp only [nI_mu, nI_add], nI_clamp (by omega)] at eF156
          have p158 : F156 24 (128 * bo + (8 * s9 + j9)) = r14 := by rw [eF156, va_up_ne _ _ (by decide)]; exact p150
          have p159 : F156 23 (16 * bo + s9) = nI (j9 + 1) := by rw [eF156, va_up_ne _ _ (by decide)]; exact p152
          have p160 : F156 25 (128 * bo + (8 * s9 + j9)) = r68 := by rw [eF156, va_up_ne _ _ (by decide)]; exact p153
          have p161 : F156 26 (128 * bo + (8 * s9 + j9)) = 1 := by rw [eF156, va_up_ne _ _ (by decide)]; exact p154
          have p162 : F156 27 (128 * bo + (8 * s9 + j9)) = r115 := by rw [eF156, va_up_ne _ _ (by decide)]; exact p155
          have p163 : F156 28 (128 * bo + (8 * s9 + j9)) = r145 := by rw [eF156, va_up_self, pk_us]
          have hFr : FrW (wP bo s9 j9) F F156 := by rw [eF156]; exact hFr.up (by unfold wP; omega)
          have hQ : LXq Ar I148 F156 ft sx fr en bo a147.2 := by rw [eF156]; exact hQ.wF (by decide)
          have hC : CLq I148 F156 ft en (clA a97 (clA a52 (clA a4 cl (5, a4.1, s9, j9)) (10, a52.1, 8 * s9 + j9, 0)) (11, a97.1, s9, 8 * s9 + j9)) (a97.1 + 1) := by rw [eF156]; exact hC.wF (by decide)
          refine lv_aload_n hx hb dX14_paramStatement_274 rfl (lv_at hl 2 rfl) ?_
          refine lv_bipush (v := 59) hx hb dX14_paramStatement_275 (by decide) ?_
          refine va_callv (va_runV (As := [.int 59]) (rest := []) ⟨hx, hb, hml, hown, (fun _ h9 => absurd h9 List.not_mem_nil : ∀ w ∈ ([] : List Cond), w.before _ s = true)⟩ (c_M_mark l D cy A X hst hXT G157 o Ar I148 F156 L ft sx fr en bo a147.2 6 hM hQ (by decide) (by decide)) (tb_cw (C := RX14) 1 hT tw_1717 tw_109 tw_1714 tw_1716 tw_73 rfl rfl hq_X14_mark ⟨Nat.le_of_ble_eq_true rfl, Nat.le_of_ble_eq_true rfl⟩) (mk_preC hst hG hK hA hX hS vc_15 hM.1) rfl rfl hl.1 rfl (lv_room (Nat.le_of_ble_eq_true rfl)) dX14_paramStatement_277 ⟨Nat.le_of_ble_eq_true rfl, Nat.le_of_ble_eq_true rfl⟩) hS (fun q _ h => h) (fun q h => h) (fun  G164 t H locs ht hvm hw hB hz1 hk1 hS => ?_)
          have hG : mm D vwCl A G164 H := by rw [← ht]; exact hB
          clear hB hz1 hk1 hvm ht
          obtain ⟨a165, ea165⟩ : ∃ y, y = q_take (tkK ft en) (tkS ft en) 6 a147.2 := ⟨_, rfl⟩
          rw [← ea165] at hw
          obtain ⟨I166, F167, hM2, hF2, hQ2, hI2, hX2⟩ := hw
          replace hF := hF.tr hF2; replace hM := hM2; clear hM2 hF2
          have hQ := hQ2; have hIZ := (IZ_x hI2).trans hIZ; have hFr := hFr.fx hX2; have hC := hC.fx hI2 hX2
          have p168 : F167 24 (128 * bo + (8 * s9 + j9)) = r14 := (congrFun (FXe hX2 (by decide)) _).trans p158
          have p169 : F167 23 (16 * bo + s9) = nI (j9 + 1) := (congrFun (FXe hX2 (by decide)) _).trans p159
          have p170 : F167 25 (128 * bo + (8 * s9 + j9)) = r68 := (congrFun (FXe hX2 (by decide)) _).trans p160
          have p171 : F167 26 (128 * bo + (8 * s9 + j9)) = 1 := (congrFun (FXe hX2 (by decide)) _).trans p161
          have p172 : F167 27 (128 * bo + (8 * s9 + j9)) = r115 := (congrFun (FXe hX2 (by decide)) _).trans p162
          have p173 : F167 28 (128 * bo + (8 * s9 + j9)) = r145 := (congrFun (FXe hX2 (by decide)) _).trans p163
          clear hI2 hX2 hQ2
          have ga165 : a147.2.1 ≤ a165.1 := by rw [ea165]; exact ge_take
          have da165 : a165.2 < 0 → _ := fun z => ad_take hSn (by rw [← ea165]; exact z)
          rw [← ea165] at da165
          have hc1 : a97.1 + 1 ≤ a165.1 + 1 := by omega
          have hc2 : a165.2 < 0 → a97.1 + 1 ≤ a165.1 := fun z => by have := da165 z; omega
          have hqe : (q_par (tkK ft en) (tkS ft en) (tkV ft en) j9 q) = (a165, (tkS ft en a4.1, a16.1, a70.1, tkS ft en a52.1, 1, a117.1, tkS ft en (a70.2.1 + 1), a147.1)) := by simp only [q_par, ← ea4, ← ea16, ← ea52, ← ea70, ← ea97, ← ea117, ← ea136, ← ea147, ← ea165]; rw [if_pos (by unfold se; rw [decide_eq_true hnq.1, decide_eq_true hnq.2]; rfl)]
          exact W.vret hx hb hr (fun t ht hW => ⟨⟨_, rfl, ⟨_, _, _, hM, hF, (by rw [hqe]; exact hQ), hIZ, hFr, (by rw [hqe]; exact hC.le (by (try dsimp only); omega)), (by rw [hqe]; (try dsimp only); omega), (by rw [hqe]; intro z; dsimp only at z ⊢; have ya165 := da165 z; have ya147 := da147 ya165.1; have ya136 := da136 ya147.1; have ya117 := da117 ya136.1; have ya97 := da97 ya117.1; have ya70 := da70 ya97.1; have ya52 := da52 ya70.1; have ya16 := da16 ya52.1; have ya4 := da4 ya16.1; exact ⟨⟨hlim, p169, (hr14.mono (by omega)).cg p168.symm, (hr68.mono (by omega)).cg p170.symm, p171, (hr115.mono (by omega)).cg p172.symm, p173.trans (hr145 ya165.1)⟩, (by show _ = cl ++ [(5, q.1 + 1, s9, j9), (10, q.1 + 3, 8 * s9 + j9, 0), (11, q.1 + 5, s9, 8 * s9 + j9)]; unfold clA; rw [if_pos hb0, if_pos ya70.1, if_pos ya117.1, (da4 hb0).2.2, show a52.1 = q.1 + 3 by omega, show a97.1 = q.1 + 5 by omega, List.append_assoc, List.append_assoc]; rfl)⟩)⟩, mk_end hG ht⟩, hS.F ht⟩) hS.2.2 dX14_paramStatement_280
    · skip
      refine lv_aload_n hx hb dX14_paramStatement_169 rfl (lv_at hl 2 rfl) ?_
      refine lv_bipush (v := 11) hx hb dX14_paramStatement_170 (by decide) ?_
      refine va_calli (va_runV (As := [.int 11]) (rest := []) ⟨hx, hb, hml, hown, (fun _ h9 => absurd h9 List.not_mem_nil : ∀ w ∈ ([] : List Cond), w.before _ s = true)⟩ (c_M_isWord l D cy A X hst hXT G79 o Ar I71 F78 L 11 hM) (tb_cw (C := RX14) 1 hT tw_1734 tw_109 tw_1731 tw_1733 tw_77 rfl rfl hq_X14_isWord ⟨Nat.le_of_ble_eq_true rfl, Nat.le_of_ble_eq_true rfl⟩) (mk_preC hst hG hK hA hX hS vc_15 hM.1) rfl rfl hl.1 rfl (lv_room (Nat.le_of_ble_eq_true rfl)) dX14_paramStatement_172 ⟨Nat.le_of_ble_eq_true rfl, Nat.le_of_ble_eq_true rfl⟩) hS (fun q _ h => h) (fun q h => h) (fun r174 G175 t H locs ht hvm hw hB hz1 hk1 hS => ?_)
      have hG : mm D vwCl A G175 H := by rw [← ht]; exact hB
      clear hB hz1 hk1 hvm ht
      obtain ⟨er174, hw⟩ := hw
      rw [hw] at hG
      rw [hQ.isW (w := 11) (y := 11) rfl (by decide) (by decide)] at er174
      refine lv_if_eq (tgt := 274) hx hb dX14_paramStatement_175 (by decide) (fun c_175 => ?_) (fun c_175 => ?_)
      · skip
        refine lv_aload_n hx hb dX14_paramStatement_274 rfl (lv_at hl 2 rfl) ?_
        refine lv_bipush (v := 59) hx hb dX14_paramStatement_275 (by decide) ?_
        refine va_callv (va_runV (As := [.int 59]) (rest := []) ⟨hx, hb, hml, hown, (fun _ h9 => absurd h9 List.not_mem_nil : ∀ w ∈ ([] : List Cond), w.before _ s = true)⟩ (c_M_mark l D cy A X hst hXT G79 o Ar I71 F78 L ft sx fr en bo a70.2 6 hM hQ (by decide) (by decide)) (tb_cw (C := RX14) 1 hT tw_1717 tw_109 tw_1714 tw_1716 tw_73 rfl rfl hq_X14_mark ⟨Nat.le_of_ble_eq_true rfl, Nat.le_of_ble_eq_true rfl⟩) (mk_preC hst hG hK hA hX hS vc_15 hM.1) rfl rfl hl.1 rfl (lv_room (Nat.le_of_ble_eq_true rfl)) dX14_paramStatement_277 ⟨Nat.le_of_ble_eq_true rfl, Nat.le_of_ble_eq_true rfl⟩) hS (fun q _ h => h) (fun q h => h) (fun  G176 t H locs ht hvm hw hB hz1 hk1 hS => ?_)
        have hG : mm D vwCl A G176 H := by rw [← ht]; exact hB
        clear hB hz1 hk1 hvm ht
        obtain ⟨a177, ea177⟩ : ∃ y, y = q_take (tkK ft en) (tkS ft en) 6 a70.2 := ⟨_, rfl⟩
        rw [← ea177] at hw
        obtain ⟨I178, F179, hM2, hF2, hQ2, hI2, hX2⟩ := hw
        replace hF := hF.tr hF2; replace hM := hM2; clear hM2 hF2
        have hQ := hQ2; have hIZ := (IZ_x hI2).trans hIZ; have hFr := hFr.fx hX2; have hC := hC.fx hI2 hX2
        have p180 : F179 24 (128 * bo + (8 * s9 + j9)) = r14 := (congrFun (FXe hX2 (by decide)) _).trans p80
        have p181 : F179 26 (128 * bo + (8 * s9 + j9)) = 0 := (congrFun (FXe hX2 (by decide)) _).trans p81
        have p182 : F179 27 (128 * bo + (8 * s9 + j9)) = 0 := (congrFun (FXe hX2 (by decide)) _).trans p82
        have p183 : F179 28 (128 * bo + (8 * s9 + j9)) = 0 := (congrFun (FXe hX2 (by decide)) _).trans p83
        have p184 : F179 23 (16 * bo + s9) = nI (j9 + 1) := (congrFun (FXe hX2 (by decide)) _).trans p84
        have p185 : F179 25 (128 * bo + (8 * s9 + j9)) = r68 := (congrFun (FXe hX2 (by decide)) _).trans p85
        clear hI2 hX2 hQ2
        have ga177 : a70.2.1 ≤ a177.1 := by rw [ea177]; exact ge_take
        have da177 : a177.2 < 0 → _ := fun z => ad_take hSn (by rw [← ea177]; exact z)
        rw [← ea177] at da177
        have hc1 : a52.1 + 1 ≤ a177.1 + 1 := by omega
        have hc2 : a177.2 < 0 → a52.1 + 1 ≤ a177.1 := fun z => by have := da177 z; omega
        have hn20 : se (tkK ft en) a70.2.1 a70.2.2 20 = false := b2i_f (by rw [← er86]; exact c_166)
        have hn21 : se (tkK ft en) a70.2.1 a70.2.2 21 = false := b2i_f (by rw [← er174]; exact c_175)
        have hqe : (q_par (tkK ft en) (tkS ft en) (tkV ft en) j9 q) = (a177, (tkS ft en a4.1, a16.1, a70.1, tkS ft en a52.1, 0, 0, 0, 0)) := by simp only [q_par, ← ea4, ← ea16, ← ea52, ← ea70, ← ea177]; rw [hn20, hn21, if_neg Bool.false_ne_true, if_neg Bool.false_ne_true]
        exact W.vret hx hb hr (fun t ht hW => ⟨⟨_, rfl, ⟨_, _, _, hM, hF, (by rw [hqe]; exact hQ), hIZ, hFr, (by rw [hqe]; exact hC.le (by (try dsimp only); omega)), (by rw [hqe]; (try dsimp only); omega), (by rw [hqe]; intro z; dsimp only at z ⊢; have ya177 := da177 z; have ya70 := da70 ya177.1; have ya52 := da52 ya70.1; have ya16 := da16 ya52.1; have ya4 := da4 ya16.1; exact ⟨⟨hlim, p184, (hr14.mono (by omega)).cg p180.symm, (hr68.mono (by omega)).cg p185.symm, p181, NMt.z.cg p182.symm, p183⟩, (by show _ = cl ++ [(5, q.1 + 1, s9, j9), (10, q.1 + 3, 8 * s9 + j9, 0)]; unfold clA; rw [if_pos hb0, if_pos ya70.1, (da4 hb0).2.2, show a52.1 = q.1 + 3 by omega, List.append_assoc]; rfl)⟩)⟩, mk_end hG ht⟩, hS.F ht⟩) hS.2.2 dX14_paramStatement_280
      · skip
        have hn20 : se (tkK ft en) a70.2.1 a70.2.2 20 = false := b2i_f (by rw [← er86]; exact c_166)
        have hnq : a70.2.2 < 0 ∧ tkK ft en a70.2.1 = 21 := se_t (b2i_t (by rw [← er174]; exact c_175))
        have hvl := ((hQ.kd.word (w := 11) (by decide) (by decide)).mpr hnq.2).2
        refine lv_aload_n hx hb dX14_paramStatement_178 rfl (lv_at hl 2 rfl) ?_
        refine mm_get (v := .ref (Ar 26)) hx hb hf_X14 (fun _ h9 => h9) hown hK hG hM.1 rfl 26 (by decide) (tb_use hT tw_1417) (fun _ h9 => h9) (mfs_g26 _ _) dX14_paramStatement_179 ?_
        refine lv_sipush (v := 128) hx hb dX14_paramStatement_182 (by decide) ?_
        refine lv_iload_n hx hb dX14_paramStatement_185 rfl (lv_at hl 1 rfl) ?_
        refine lv_imul hx hb dX14_paramStatement_186 ?_
        refine lv_iload_n hx hb dX14_paramStatement_187 rfl (lv_at hl 0 rfl) ?_
        refine lv_iadd hx hb dX14_paramStatement_188 ?_
        refine lv_aload_n hx hb dX14_paramStatement_189 rfl (lv_at hl 2 rfl) ?_
        refine mm_get (v := .int (I71 53)) hx hb hf_X14 (fun _ h9 => h9) hown hK hG hM.1 rfl 53 (by decide) (tb_use hT tw_1444) (fun _ h9 => h9) (mfs_g53 _ _) dX14_paramStatement_190 ?_
        refine lv_bipush (v := 10) hx hb dX14_paramStatement_193 (by decide) ?_
        refine lv_icmp_ne (tgt := 202) hx hb dX14_paramStatement_195 (by decide) (fun c_195 => ?_) (fun c_195 => ?_)
        · skip
          refine lv_iconst (v := 2) hx hb dX14_paramStatement_202 (by decide) ?_
          refine mm_iast (n := mdN 26) (f := F78 26) hx hb hK hG hS 1 (hM.2.1 26 rfl) rfl (by rw [show (((128 * (nI bo)) + (nI (8 * s9 + j9))) : Int32) = nI (128 * bo + (8 * s9 + j9)) by show (((nI 128 * (nI bo)) + (nI (8 * s9 + j9))) : Int32) = _; simp only [nI_mu, nI_add]]; exact nI_in (N := mdN 26) (by show _ < 256; omega) (by decide)) dX14_paramStatement_203 (fun H locs hG hS => ?_)
          have hM := MD.seti (k := 26) (upd (F78 26) ((128 * (nI bo)) + (nI (8 * s9 + j9))).toNatClampNeg 2) hM rfl
          have hF := hF.wa (k := 26) (e' := .inl (cy 1, mdN 26, .inl (upd (F78 26) ((128 * (nI bo)) + (nI (8 * s9 + j9))).toNatClampNeg 2))) rfl
          obtain ⟨F186, eF186⟩ : ∃ g, g = va_up F78 26 (upd (F78 26) ((128 * (nI bo)) + (nI (8 * s9 + j9))).toNatClampNeg 2) := ⟨_, rfl⟩
          rw [← eF186] at hM
          have hgn := gn_MD hG hM hF
          clear hG hM hF
          obtain ⟨G187, hG, hM, hF⟩ := hgn
          rw [show (((128 * (nI bo)) + (nI (8 * s9 + j9))) : Int32) = nI (128 * bo + (8 * s9 + j9)) by show (((nI 128 * (nI bo)) + (nI (8 * s9 + j9))) : Int32) = _; simp only [nI_mu, nI_add], nI_clamp (by omega)] at eF186
          have p188 : F186 24 (128 * bo + (8 * s9 + j9)) = r14 := by rw [eF186, va_up_ne _ _ (by decide)]; exact p80
          have p189 : F186 27 (128 * bo + (8 * s9 + j9)) = 0 := by rw [eF186, va_up_ne _ _ (by decide)]; exact p82
          have p190 : F186 28 (128 * bo + (8 * s9 + j9)) = 0 := by rw [eF186, va_up_ne _ _ (by decide)]; exact p83
          have p191 : F186 23 (16 * bo + s9) = nI (j9 + 1) := by rw [eF186, va_up_ne _ _ (by decide)]; exact p84
          have p192 : F186 25 (128 * bo + (8 * s9 + j9)) = r68 := by rw [eF186, va_up_ne _ _ (by decide)]; exact p85
          have p193 : F186 26 (128 * bo + (8 * s9 + j9)) = 2 := by rw [eF186, va_up_self, pk_us]
          have hFr : FrW (wP bo s9 j9) F F186 := by rw [eF186]; exact hFr.up (by unfold wP; omega)
          have hQ : LXq Ar I71 F186 ft sx fr en bo a70.2 := by rw [eF186]; exact hQ.wF (by decide)
          have hC : CLq I71 F186 ft en (clA a52 (clA a4 cl (5, a4.1, s9, j9)) (10, a52.1, 8 * s9 + j9, 0)) (a52.1 + 1) := by rw [eF186]; exact hC.wF (by decide)
          refine lv_aload_n hx hb dX14_paramStatement_204 rfl (lv_at hl 2 rfl) ?_
          refine va_callv (va_runV (As := []) (rest := []) ⟨hx, hb, hml, hown, (fun _ h9 => absurd h9 List.not_mem_nil : ∀ w ∈ ([] : List Cond), w.before _ s = true)⟩ (c_M_nextq l D cy A X hst hXT G187 o Ar I71 F186 L ft sx fr en bo a70.2 hM hQ hnq.1 (by rw [hnq.2]; decide) (by rw [hnq.2]; decide)) (tb_cw (C := RX14) 0 hT tw_1640 tw_109 tw_1637 tw_1639 tw_62 rfl rfl hq_X14_next ⟨Nat.le_of_ble_eq_true rfl, Nat.le_of_ble_eq_true rfl⟩) (mk_preC hst hG hK hA hX hS vc_15 hM.1) rfl rfl hl.1 rfl (lv_room (Nat.le_of_ble_eq_true rfl)) dX14_paramStatement_205 ⟨Nat.le_of_ble_eq_true rfl, Nat.le_of_ble_eq_true rfl⟩) hS (fun q _ h => h) (fun q h => h) (fun  G194 t H locs ht hvm hw hB hz1 hk1 hS => ?_)
          have hG : mm D vwCl A G194 H := by rw [← ht]; exact hB
          clear hB hz1 hk1 hvm ht
          obtain ⟨a195, ea195⟩ : ∃ y, y = (a70.2.1 + 1, a70.2.2) := ⟨_, rfl⟩
          rw [← ea195] at hw
          obtain ⟨I196, F197, hM2, hF2, hQ2, hI2, hX2⟩ := hw
          replace hF := hF.tr hF2; replace hM := hM2; clear hM2 hF2
          have hQ := hQ2; have hIZ := (IZ_x hI2).trans hIZ; have hFr := hFr.fx hX2; have hC := hC.fx hI2 hX2
          have p198 : F197 24 (128 * bo + (8 * s9 + j9)) = r14 := (congrFun (FXe hX2 (by decide)) _).trans p188
          have p199 : F197 27 (128 * bo + (8 * s9 + j9)) = 0 := (congrFun (FXe hX2 (by decide)) _).trans p189
          have p200 : F197 28 (128 * bo + (8 * s9 + j9)) = 0 := (congrFun (FXe hX2 (by decide)) _).trans p190
          have p201 : F197 23 (16 * bo + s9) = nI (j9 + 1) := (congrFun (FXe hX2 (by decide)) _).trans p191
          have p202 : F197 25 (128 * bo + (8 * s9 + j9)) = r68 := (congrFun (FXe hX2 (by decide)) _).trans p192
          have p203 : F197 26 (128 * bo + (8 * s9 + j9)) = 2 := (congrFun (FXe hX2 (by decide)) _).trans p193
          clear hI2 hX2 hQ2
          have ga195 : a70.2.1 ≤ a195.1 := by rw [ea195]; exact ge_next
          have da195 : a195.2 < 0 → _ := fun z => ad_next hSn (by rw [← ea195]; exact z)
          rw [← ea195] at da195
          have hc1 : a52.1 + 1 ≤ a195.1 + 1 := by omega
          have hc2 : a195.2 < 0 → a52.1 + 1 ≤ a195.1 := fun z => by have := da195 z; omega
          refine lv_aload_n hx hb dX14_paramStatement_208 rfl (lv_at hl 2 rfl) ?_
          refine lv_bipush (v := 11) hx hb dX14_paramStatement_209 (by decide) ?_
          refine lv_iload_n hx hb dX14_paramStatement_211 rfl (lv_at hl 3 rfl) ?_
          refine lv_iload_n hx hb dX14_paramStatement_212 rfl (lv_at hl 0 rfl) ?_
          refine va_callv (va_runV (As := [.int 11, .int (nI s9), .int (nI (8 * s9 + j9))]) (rest := []) ⟨hx, hb, hml, hown, (fun _ h9 => absurd h9 List.not_mem_nil : ∀ w ∈ ([] : List Cond), w.before _ s = true)⟩ (c_M_claimq l D cy A X hst hXT G194 o Ar I196 F197 L ft sx fr en bo a195 (clA a52 (clA a4 cl (5, a4.1, s9, j9)) (10, a52.1, 8 * s9 + j9, 0)) (a52.1 + 1) 11 s9 (8 * s9 + j9) hM hQ hC hc1 hc2) (tb_cw (C := RX14) 3 hT tw_1709 tw_109 tw_1706 tw_1708 tw_71 rfl rfl hq_X14_claim ⟨Nat.le_of_ble_eq_true rfl, Nat.le_of_ble_eq_true rfl⟩) (mk_preC hst hG hK hA hX hS vc_15 hM.1) rfl rfl hl.1 rfl (lv_room (Nat.le_of_ble_eq_true rfl)) dX14_paramStatement_213 ⟨Nat.le_of_ble_eq_true rfl, Nat.le_of_ble_eq_true rfl⟩) hS (fun q _ h => h) (fun q h => h) (fun  G204 t H locs ht hvm hw hB hz1 hk1 hS => ?_)
          have hG : mm D vwCl A G204 H := by rw [← ht]; exact hB
          clear hB hz1 hk1 hvm ht
          obtain ⟨I205, F206, hM2, hF2, hQ2, hC2, hI2, hX2⟩ := hw
          replace hF := hF.tr hF2; replace hM := hM2; clear hM2 hF2
          have hQ := hQ2; have hC := hC2; have hIZ := hI2.trans hIZ
          have hFr : FrW (wP bo s9 j9) F F206 := fun j i h1 h2 => (congrFun (hX2 j (fun z => h1 (by unfold lxA; omega))) i).trans (hFr j i h1 h2)
          have p207 : F206 24 (128 * bo + (8 * s9 + j9)) = r14 := (congrFun (hX2 24 (by decide)) _).trans p198
          have p208 : F206 27 (128 * bo + (8 * s9 + j9)) = 0 := (congrFun (hX2 27 (by decide)) _).trans p199
          have p209 : F206 28 (128 * bo + (8 * s9 + j9)) = 0 := (congrFun (hX2 28 (by decide)) _).trans p200
          have p210 : F206 23 (16 * bo + s9) = nI (j9 + 1) := (congrFun (hX2 23 (by decide)) _).trans p201
          have p211 : F206 25 (128 * bo + (8 * s9 + j9)) = r68 := (congrFun (hX2 25 (by decide)) _).trans p202
          have p212 : F206 26 (128 * bo + (8 * s9 + j9)) = 2 := (congrFun (hX2 26 (by decide)) _).trans p203
          clear hI2 hX2 hQ2 hC2
          have hc1 : a195.1 + 1 ≤ a195.1 + 1 := Nat.le_refl _
          refine lv_aload_n hx hb dX14_paramStatement_216 rfl (lv_at hl 2 rfl) ?_
          refine mm_get (v := .ref (Ar 27)) hx hb hf_X14 (fun _ h9 => h9) hown hK hG hM.1 rfl 27 (by decide) (tb_use hT tw_1418) (fun _ h9 => h9) (mfs_g27 _ _) dX14_paramStatement_217 ?_
          refine lv_sipush (v := 128) hx hb dX14_paramStatement_220 (by decide) ?_
          refine lv_iload_n hx hb dX14_paramStatement_223 rfl (lv_at hl 1 rfl) ?_
          refine lv_imul hx hb dX14_paramStatement_224 ?_
          refine lv_iload_n hx hb dX14_paramStatement_225 rfl (lv_at hl 0 rfl) ?_
          refine lv_iadd hx hb dX14_paramStatement_226 ?_
          refine lv_aload_n hx hb dX14_paramStatement_227 rfl (lv_at hl 2 rfl) ?_
          refine va_calli (va_runV (As := []) (rest := [.int ((128 * (nI bo)) + (nI (8 * s9 + j9))), .ref (Ar 27)]) ⟨hx, hb, hml, hown, (fun _ h9 => absurd h9 List.not_mem_nil : ∀ w ∈ ([] : List Cond), w.before _ s = true)⟩ (c_M_name l D cy A X hst hXT G204 o Ar I205 F206 L ft sx fr en bo a195 hM hQ) (tb_cw (C := RX14) 0 hT tw_1713 tw_109 tw_1710 tw_1712 tw_72 rfl rfl hq_X14_name ⟨Nat.le_of_ble_eq_true rfl, Nat.le_of_ble_eq_true rfl⟩) (mk_preC hst hG hK hA hX hS vc_15 hM.1) rfl rfl hl.1 rfl (lv_room (Nat.le_of_ble_eq_true rfl)) dX14_paramStatement_228 ⟨Nat.le_of_ble_eq_true rfl, Nat.le_of_ble_eq_true rfl⟩) hS (fun q _ h => h) (fun q h => h) (fun r213 G214 t H locs ht hvm hw hB hz1 hk1 hS => ?_)
          have hG : mm D vwCl A G214 H := by rw [← ht]; exact hB
          clear hB hz1 hk1 hvm ht
          obtain ⟨a215, ea215⟩ : ∃ y, y = q_name (tkK ft en) (tkS ft en) (tkV ft en) a195 := ⟨_, rfl⟩
          rw [← ea215] at hw
          obtain ⟨hr213, I216, F217, hM2, hF2, hQ2, hI2, hX2⟩ := hw
          replace hF := hF.tr hF2; replace hM := hM2; clear hM2 hF2
          have hQ := hQ2; have hIZ := (IZ_x hI2).trans hIZ; have hFr := hFr.fx hX2; have hC := hC.fx hI2 hX2
          have p218 : F217 24 (128 * bo + (8 * s9 + j9)) = r14 := (congrFun (FXe hX2 (by decide)) _).trans p207
          have p219 : F217 27 (128 * bo + (8 * s9 + j9)) = 0 := (congrFun (FXe hX2 (by decide)) _).trans p208
          have p220 : F217 28 (128 * bo + (8 * s9 + j9)) = 0 := (congrFun (FXe hX2 (by decide)) _).trans p209
          have p221 : F217 23 (16 * bo + s9) = nI (j9 + 1) := (congrFun (FXe hX2 (by decide)) _).trans p210
          have p222 : F217 25 (128 * bo + (8 * s9 + j9)) = r68 := (congrFun (FXe hX2 (by decide)) _).trans p211
          have p223 : F217 26 (128 * bo + (8 * s9 + j9)) = 2 := (congrFun (FXe hX2 (by decide)) _).trans p212
          clear hI2 hX2 hQ2
          have ga215 : a195.1 ≤ a215.2.1 := by rw [ea215]; exact ge_name
          have da215 : a215.2.2 < 0 → _ := fun z => ad_name hSn (by rw [← ea215]; exact z)
          rw [← ea215] at da215
          have hc1 : a195.1 + 1 ≤ a215.2.1 + 1 := by omega
          have hc2 : a215.2.2 < 0 → a195.1 + 1 ≤ a215.2.1 := fun z => by have := da215 z; omega
          refine mm_iast (n := mdN 27) (f := F217 27) hx hb hK hG hS 1 (hM.2.1 27 rfl) rfl (by rw [show (((128 * (nI bo)) + (nI (8 * s9 + j9))) : Int32) = nI (128 * bo + (8 * s9 + j9)) by show (((nI 128 * (nI bo)) + (nI (8 * s9 + j9))) : Int32) = _; simp only [nI_mu, nI_add]]; exact nI_in (N := mdN 27) (by show _ < 256; omega) (by decide)) dX14_paramStatement_231 (fun H locs hG hS => ?_)
          have hM := MD.seti (k := 27) (upd (F217 27) ((128 * (nI bo)) + (nI (8 * s9 + j9))).toNatClampNeg r213) hM rfl
          have hF := hF.wa (k := 27) (e' := .inl (cy 1, mdN 27, .inl (upd (F217 27) ((128 * (nI bo)) + (nI (8 * s9 + j9))).toNatClampNeg r213))) rfl
          obtain ⟨F224, eF224⟩ : ∃ g, g = va_up F217 27 (upd (F217 27) ((128 * (nI bo)) + (nI (8 * s9 + j9))).toNatClampNeg r213) := ⟨_, rfl⟩
          rw [← eF224] at hM
          have hgn := gn_MD hG hM hF
          clear hG hM hF
          obtain ⟨G225, hG, hM, hF⟩ := hgn
          rw [show (((128 * (nI bo)) + (nI (8 * s9 + j9))) : Int32) = nI (128 * bo + (8 * s9 + j9)) by show (((nI 128 * (nI bo)) + (nI (8 * s9 + j9))) : Int32) = _; simp only [nI_mu, nI_add], nI_clamp (by omega)] at eF224
          have p226 : F224 24 (128 * bo + (8 * s9 + j9)) = r14 := by rw [eF224, va_up_ne _ _ (by decide)]; exact p218
          have p227 : F224 28 (128 * bo + (8 * s9 + j9)) = 0 := by rw [eF224, va_up_ne _ _ (by decide)]; exact p220
          have p228 : F224 23 (16 * bo + s9) = nI (j9 + 1) := by rw [eF224, va_up_ne _ _ (by decide)]; exact p221
          have p229 : F224 25 (128 * bo + (8 * s9 + j9)) = r68 := by rw [eF224, va_up_ne _ _ (by decide)]; exact p222
          have p230 : F224 26 (128 * bo + (8 * s9 + j9)) = 2 := by rw [eF224, va_up_ne _ _ (by decide)]; exact p223
          have p231 : F224 27 (128 * bo + (8 * s9 + j9)) = r213 := by rw [eF224, va_up_self, pk_us]
          have hFr : FrW (wP bo s9 j9) F F224 := by rw [eF224]; exact hFr.up (by unfold wP; omega)
          have hQ : LXq Ar I216 F224 ft sx fr en bo a215.2 := by rw [eF224]; exact hQ.wF (by decide)
          have hC : CLq I216 F224 ft en (clA a195 (clA a52 (clA a4 cl (5, a4.1, s9, j9)) (10, a52.1, 8 * s9 + j9, 0)) (11, a195.1, s9, 8 * s9 + j9)) (a195.1 + 1) := by rw [eF224]; exact hC.wF (by decide)
          refine lv_aload_n hx hb dX14_paramStatement_232 rfl (lv_at hl 2 rfl) ?_
          refine mm_get (v := .ref (Ar 26)) hx hb hf_X14 (fun _ h9 => h9) hown hK hG hM.1 rfl 26 (by decide) (tb_use hT tw_1417) (fun _ h9 => h9) (mfs_g26 _ _) dX14_paramStatement_233 ?_
          refine lv_sipush (v := 128) hx hb dX14_paramStatement_236 (by decide) ?_
          refine lv_iload_n hx hb dX14_paramStatement_239 rfl (lv_at hl 1 rfl) ?_
          refine lv_imul hx hb dX14_paramStatement_240 ?_
          refine lv_iload_n hx hb dX14_paramStatement_241 rfl (lv_at hl 0 rfl) ?_
          refine lv_iadd hx hb dX14_paramStatement_242 ?_
          refine mm_iald (n := 256) (f := F224 26) hx hb hK hG 1 (hM.2.1 26 rfl) rfl (by rw [show (((128 * (nI bo)) + (nI (8 * s9 + j9))) : Int32) = nI (128 * bo + (8 * s9 + j9)) by show (((nI 128 * (nI bo)) + (nI (8 * s9 + j9))) : Int32) = _; simp only [nI_mu, nI_add]]; exact nI_in (N := 256) (by omega) (by decide)) dX14_paramStatement_243 ?_
          refine lv_topi (fun x232 ex232 => ?_)
          rw [show x232 = 2 by rw [ex232, show (((128 * (nI bo)) + (nI (8 * s9 + j9))) : Int32) = nI (128 * bo + (8 * s9 + j9)) by show (((nI 128 * (nI bo)) + (nI (8 * s9 + j9))) : Int32) = _; simp only [nI_mu, nI_add], nI_clamp (by omega)]; exact p230]
          refine lv_iconst (v := 1) hx hb dX14_paramStatement_244 (by decide) ?_
          refine lv_icmp_ne (tgt := 274) hx hb dX14_paramStatement_245 (by decide) (fun c_245 => ?_) (fun c_245 => ?_)
          · skip
            refine lv_aload_n hx hb dX14_paramStatement_274 rfl (lv_at hl 2 rfl) ?_
            refine lv_bipush (v := 59) hx hb dX14_paramStatement_275 (by decide) ?_
            refine va_callv (va_runV (As := [.int 59]) (rest := []) ⟨hx, hb, hml, hown, (fun _ h9 => absurd h9 List.not_mem_nil : ∀ w ∈ ([] : List Cond), w.before _ s = true)⟩ (c_M_mark l D cy A X hst hXT G225 o Ar I216 F224 L ft sx fr en bo a215.2 6 hM hQ (by decide) (by decide)) (tb_cw (C := RX14) 1 hT tw_1717 tw_109 tw_1714 tw_1716 tw_73 rfl rfl hq_X14_mark ⟨Nat.le_of_ble_eq_true rfl, Nat.le_of_ble_eq_true rfl⟩) (mk_preC hst hG hK hA hX hS vc_15 hM.1) rfl rfl hl.1 rfl (lv_room (Nat.le_of_ble_eq_true rfl)) dX14_paramStatement_277 ⟨Nat.le_of_ble_eq_true rfl, Nat.le_of_ble_eq_true rfl⟩) hS (fun q _ h => h) (fun q h => h) (fun  G233 t H locs ht hvm hw hB hz1 hk1 hS => ?_)
            have hG : mm D vwCl A G233 H := by rw [← ht]; exact hB
            clear hB hz1 hk1 hvm ht
            obtain ⟨a234, ea234⟩ : ∃ y, y = q_take (tkK ft en) (tkS ft en) 6 a215.2 := ⟨_, rfl⟩
            rw [← ea234] at hw
            obtain ⟨I235, F236, hM2, hF2, hQ2, hI2, hX2⟩ := hw
            replace hF := hF.tr hF2; replace hM := hM2; clear hM2 hF2
            have hQ := hQ2; have hIZ := (IZ_x hI2).trans hIZ; have hFr := hFr.fx hX2; have hC := hC.fx hI2 hX2
            have p237 : F236 24 (128 * bo + (8 * s9 + j9)) = r14 := (congrFun (FXe hX2 (by decide)) _).trans p226
            have p238 : F236 28 (128 * bo + (8 * s9 + j9)) = 0 := (congrFun (FXe hX2 (by decide)) _).trans p227
            have p239 : F236 23 (16 * bo + s9) = nI (j9 + 1) := (congrFun (FXe hX2 (by decide)) _).trans p228
            have p240 : F236 25 (128 * bo + (8 * s9 + j9)) = r68 := (congrFun (FXe hX2 (by decide)) _).trans p229
            have p241 : F236 26 (128 * bo + (8 * s9 + j9)) = 2 := (congrFun (FXe hX2 (by decide)) _).trans p230
            have p242 : F236 27 (128 * bo + (8 * s9 + j9)) = r213 := (congrFun (FXe hX2 (by decide)) _).trans p231
            clear hI2 hX2 hQ2
            have ga234 : a215.2.1 ≤ a234.1 := by rw [ea234]; exact ge_take
            have da234 : a234.2 < 0 → _ := fun z => ad_take hSn (by rw [← ea234]; exact z)
            rw [← ea234] at da234
            have hc1 : a195.1 + 1 ≤ a234.1 + 1 := by omega
            have hc2 : a234.2 < 0 → a195.1 + 1 ≤ a234.1 := fun z => by have := da234 z; omega
            have hqe : (q_par (tkK ft en) (tkS ft en) (tkV ft en) j9 q) = (a234, (tkS ft en a4.1, a16.1, a70.1, tkS ft en a52.1, 2, a215.1, tkS ft en (a70.2.1 + 1), 0)) := by simp only [q_par, ← ea4, ← ea16, ← ea52, ← ea70, ← ea195, ← ea215, ← ea234]; rw [hn20, if_neg Bool.false_ne_true, if_pos (by unfold se; rw [decide_eq_true hnq.1, decide_eq_true hnq.2]; rfl)]
            exact W.vret hx hb hr (fun t ht hW => ⟨⟨_, rfl, ⟨_, _, _, hM, hF, (by rw [hqe]; exact hQ), hIZ, hFr, (by rw [hqe]; exact hC.le (by (try dsimp only); omega)), (by rw [hqe]; (try dsimp only); omega), (by rw [hqe]; intro z; dsimp only at z ⊢; have ya234 := da234 z; have ya215 := da215 ya234.1; have ya195 := da195 ya215.1; have ya70 := da70 ya195.1; have ya52 := da52 ya70.1; have ya16 := da16 ya52.1; have ya4 := da4 ya16.1; exact ⟨⟨hlim, p239, (hr14.mono (by omega)).cg p237.symm, (hr68.mono (by omega)).cg p240.symm, p241, (hr213.mono (by omega)).cg p242.symm, p238⟩, (by show _ = cl ++ [(5, q.1 + 1, s9, j9), (10, q.1 + 3, 8 * s9 + j9, 0), (11, q.1 + 5, s9, 8 * s9 + j9)]; unfold clA; rw [if_pos hb0, if_pos ya70.1, if_pos ya215.1, (da4 hb0).2.2, show a52.1 = q.1 + 3 by omega, show a195.1 = q.1 + 5 by omega, List.append_assoc, List.append_assoc]; rfl)⟩)⟩, mk_end hG ht⟩, hS.F ht⟩) hS.2.2 dX14_paramStatement_280
          · skip
            exact absurd c_245 (by decide)
        · skip
          exact absurd (hvl.symm.trans c_195) (by decide)
  · skip
    have hb0 : ¬ a4.2 < 0 := of_decide_eq_false (b2i_f (by rw [← hr2]; exact c_22))
    have hqe : (q_par (tkK ft en) (tkS ft en) (tkV ft en) j9 q).1 = a4 := by simp only [q_par, ← ea4]; rw [q_name_f hb0]; dsimp only; rw [q_take_f hb0, q_name_f hb0]; dsimp only; rw [se_f hb0, se_f hb0, if_neg Bool.false_ne_true, if_neg Bool.false_ne_true, q_take_f hb0]
    exact W.vret hx hb hr (fun t ht hW => ⟨⟨_, rfl, ⟨_, _, _, hM, hF, (by rw [hqe]; exact hQ), hIZ, hFr, (by rw [hqe]; exact hC.le (by (try dsimp only); omega)), (by rw [hqe]; (try dsimp only); omega), (by rw [hqe]; exact fun z => absurd z hb0)⟩, mk_end hG ht⟩, hS.F ht⟩) hS.2.2 dX14_paramStatement_25
